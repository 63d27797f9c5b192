set_option maxHeartbeats 4000000 in
set_option maxRecDepth 100000 in
theorem m_layLeast (lc : Launch) (D : va_G) (cI cZ : ClassId) (N : Nat) (q : Nat) (qs : Nat) (qi : Nat) (qk : Nat) (ql : Nat) (mn : Nat) (tA : Int) (sA : Int) (kA : Int) (nb : Nat → Int) (ck : Nat → Int) (hi : Nat → Int) (lo : Nat → Int) (ha : Nat → Int) (cn : Nat → Int) (sm : Nat → Int) (im : Nat → Int) (kp : Nat → Int) (le : Nat → Int) (hck : ∀ k, k < 5 → -99 ≤ ck k ∧ ck k ≤ 99) (hpot : potOK ck (lay0 hi lo ha)) (hhi : ∀ k, k < 25 → -100000 ≤ hi k ∧ hi k ≤ 100000) (hlo2 : ∀ k, k < 25 → -100000 ≤ lo k ∧ lo k ≤ 100000) (hha : ∀ k, k < 25 → ha k = 0 ∨ ha k = 1) : CM lc D cI cZ N yX5_layLeast wsX5_layLeast (rmK 0 0) [.ref q] [(q, .inr (5, [.ref qs, .ref qi, .ref qk, .ref ql])), (qs, .inl (cI, 2108, .inl (vI (stF ((mn : Nat) : Int) tA sA kA nb ck hi lo ha cn sm)))), (qi, .inl (cI, 4216, .inl (vI im))), (qk, .inl (cZ, 2, .inl (vI kp))), (ql, .inl (cI, 25, .inl (vI le)))] none [(q, .inr (5, [.ref qs, .ref qi, .ref qk, .ref ql])), (qs, .inl (cI, 2108, .inl (vI (stF ((mn : Nat) : Int) tA sA kA nb ck hi lo ha cn sm)))), (qi, .inl (cI, 4216, .inl (vI im))), (qk, .inl (cZ, 2, .inl (vI kp))), (ql, .inl (cI, 25, .inl (vI (fwO (lay0 hi lo ha) 5))))] := by
  refine CM.V (cc := cX5_layLeast) (maxL := 5) (by decide) rfl (Nat.le_of_ble_eq_true rfl) ?_
  intro p e s m args below meth c R Q S hE A hAN hfr hlo hP hD hS hret ls hl
  have S : CallFix p m c cX5_layLeast 5 s args wsX5_layLeast RX5 := S
  have hx := S.1
  have hb := S.2.1
  have hl : lv_has ls 5 [(0, .ref q)] := hl
  refine lv_iconst (v := iI (0)) hx hb dX5_layLeast_0 rfl ?_
  refine lv_istore_n (lv' := [(1, .int (iI (0))), (0, .ref q)]) hx hb dX5_layLeast_1 rfl hl (by decide) rfl (fun ls hl => ?_)
  have loop1 : ∀ (u i : Nat) , i + u = 25 → ∀ (H : Heap) (locs : List Loc) (ls : Array Slot), va_P D vwCl [(q, .inr (5, [.ref qs, .ref qi, .ref qk, .ref ql])), (qs, .inl (cI, 2108, .inl (vI (stF ((mn : Nat) : Int) tA sA kA nb ck hi lo ha cn sm)))), (qi, .inl (cI, 4216, .inl (vI im))), (qk, .inl (cZ, 2, .inl (vI kp))), (ql, .inl (cI, 25, .inl (vI (fun j => if j < i then lay0 hi lo ha j else le j))))] H → va_D A [(q, .inr (5, [.ref qs, .ref qi, .ref qk, .ref ql])), (qs, .inl (cI, 2108, .inl (vI (stF ((mn : Nat) : Int) tA sA kA nb ck hi lo ha cn sm)))), (qi, .inl (cI, 4216, .inl (vI im))), (qk, .inl (cZ, 2, .inl (vI kp))), (ql, .inl (cI, 25, .inl (vI (fun j => if j < i then lay0 hi lo ha j else le j))))] → va_S A s.heap H locs → lv_has ls 5 [(1, .int (iI (((i : Nat) : Int)))), (0, .ref q)] → W p lc e R s m args below meth c H locs 0 0 Q (F0 m 2 ls []) := by
    intro u
    induction u with
    | zero =>
      intro i  hm  H locs ls hP hD hS hl
      refine lv_iload_n hx hb dX5_layLeast_2 rfl (lv_at hl 0 rfl) ?_
      refine lv_bipush (v := iI (25)) hx hb dX5_layLeast_3 (by decide) ?_
      refine c_geT (tgt := 100) S dX5_layLeast_5 (by decide) (by omega) (by omega) (by omega) ?_
      have hP := P_row (q0 := 4) (g := vI (lay0 hi lo ha)) hP rfl (fun k hk => by simp only [vI]; rw [if_pos (by omega)])
      have hD := va_D.set (p := 4) (e := .inl (cI, 25, .inl (vI (lay0 hi lo ha)))) hD rfl
      refine lv_iconst (v := iI (0)) hx hb dX5_layLeast_100 rfl ?_
      refine lv_istore_n (lv' := [(1, .int (iI (0))), (0, .ref q)]) hx hb dX5_layLeast_101 rfl hl (by decide) rfl (fun ls hl => ?_)
      have loop2 : ∀ (u y : Nat) , y + u = 5 → ∀ (H : Heap) (locs : List Loc) (ls : Array Slot), va_P D vwCl [(q, .inr (5, [.ref qs, .ref qi, .ref qk, .ref ql])), (qs, .inl (cI, 2108, .inl (vI (stF ((mn : Nat) : Int) tA sA kA nb ck hi lo ha cn sm)))), (qi, .inl (cI, 4216, .inl (vI im))), (qk, .inl (cZ, 2, .inl (vI kp))), (ql, .inl (cI, 25, .inl (vI (fwO (lay0 hi lo ha) y))))] H → va_D A [(q, .inr (5, [.ref qs, .ref qi, .ref qk, .ref ql])), (qs, .inl (cI, 2108, .inl (vI (stF ((mn : Nat) : Int) tA sA kA nb ck hi lo ha cn sm)))), (qi, .inl (cI, 4216, .inl (vI im))), (qk, .inl (cZ, 2, .inl (vI kp))), (ql, .inl (cI, 25, .inl (vI (fwO (lay0 hi lo ha) y))))] → va_S A s.heap H locs → lv_has ls 5 [(1, .int (iI (((y : Nat) : Int)))), (0, .ref q)] → W p lc e R s m args below meth c H locs 0 0 Q (F0 m 102 ls []) := by
        intro u
        induction u with
        | zero =>
          intro y  hm  H locs ls hP hD hS hl
          refine lv_iload_n hx hb dX5_layLeast_102 rfl (lv_at hl 0 rfl) ?_
          refine lv_iconst (v := iI (5)) hx hb dX5_layLeast_103 rfl ?_
          refine c_geT (tgt := 199) S dX5_layLeast_104 (by decide) (by omega) (by omega) (by omega) ?_
          have hy5 : y = 5 := by omega
          subst hy5
          exact hret _ _ _ _ dX5_layLeast_199 hP hS
        | succ u ih2 =>
          intro y  hm  H locs ls hP hD hS hl
          refine lv_iload_n hx hb dX5_layLeast_102 rfl (lv_at hl 0 rfl) ?_
          refine lv_iconst (v := iI (5)) hx hb dX5_layLeast_103 rfl ?_
          refine c_geF (tgt := 199) S dX5_layLeast_104 (by decide) (by omega) (by omega) (by omega) ?_
          refine lv_iconst (v := iI (0)) hx hb dX5_layLeast_107 rfl ?_
          refine lv_istore_n (lv' := [(2, .int (iI (0))), (1, .int (iI (((y : Nat) : Int)))), (0, .ref q)]) hx hb dX5_layLeast_108 rfl hl (by decide) rfl (fun ls hl => ?_)
          have loop3 : ∀ (z0 i : Nat) , i + z0 = 25 → ∀ (H : Heap) (locs : List Loc) (ls : Array Slot), va_P D vwCl [(q, .inr (5, [.ref qs, .ref qi, .ref qk, .ref ql])), (qs, .inl (cI, 2108, .inl (vI (stF ((mn : Nat) : Int) tA sA kA nb ck hi lo ha cn sm)))), (qi, .inl (cI, 4216, .inl (vI im))), (qk, .inl (cZ, 2, .inl (vI kp))), (ql, .inl (cI, 25, .inl (vI (fwI (fwO (lay0 hi lo ha) y) y i))))] H → va_D A [(q, .inr (5, [.ref qs, .ref qi, .ref qk, .ref ql])), (qs, .inl (cI, 2108, .inl (vI (stF ((mn : Nat) : Int) tA sA kA nb ck hi lo ha cn sm)))), (qi, .inl (cI, 4216, .inl (vI im))), (qk, .inl (cZ, 2, .inl (vI kp))), (ql, .inl (cI, 25, .inl (vI (fwI (fwO (lay0 hi lo ha) y) y i))))] → va_S A s.heap H locs → lv_has ls 5 [(2, .int (iI (((i : Nat) : Int)))), (1, .int (iI (((y : Nat) : Int)))), (0, .ref q)] → W p lc e R s m args below meth c H locs 0 0 Q (F0 m 109 ls []) := by
            intro z0
            induction z0 with
            | zero =>
              intro i  hm  H locs ls hP hD hS hl
              refine lv_iload_n hx hb dX5_layLeast_109 rfl (lv_at hl 0 rfl) ?_
              refine lv_bipush (v := iI (25)) hx hb dX5_layLeast_110 (by decide) ?_
              refine c_geT (tgt := 193) S dX5_layLeast_112 (by decide) (by omega) (by omega) (by omega) ?_
              refine w_iinc (v := ((y + 1 : Nat) : Int)) (lv' := [(1, .int (iI (((y + 1 : Nat) : Int)))), (2, .int (iI (((i : Nat) : Int)))), (0, .ref q)]) S dX5_layLeast_193 hl (k := 1) rfl (by omega) (by decide) rfl (fun ls hl => ?_)
              refine lv_goto (tgt := 102) hx hb dX5_layLeast_196 (by decide) ?_
              have hcell : fwI (fwO (lay0 hi lo ha) y) y i = fwO (lay0 hi lo ha) (y + 1) := (by show _ = fwI (fwO (lay0 hi lo ha) y) y 25; rw [show i = 25 by omega])
              rw [hcell] at hP hD
              exact ih2 (y + 1)  (by omega)  _ _ _ hP hD hS (lv_sub hl [0, 2] rfl)
            | succ z0 ih3 =>
              intro i  hm  H locs ls hP hD hS hl
              refine lv_iload_n hx hb dX5_layLeast_109 rfl (lv_at hl 0 rfl) ?_
              refine lv_bipush (v := iI (25)) hx hb dX5_layLeast_110 (by decide) ?_
              refine c_geF (tgt := 193) S dX5_layLeast_112 (by decide) (by omega) (by omega) (by omega) ?_
              have hp := fwI_pot (y := y) (by omega) (fwO_pot hpot y (by omega)) i (by omega)
              have g1 := hp ((i / 5) * 5 + y) (by omega)
              have g2 := hp (y * 5 + i % 5) (by omega)
              have g3 := hp i (by omega)
              have k1 := hck (((i / 5) * 5 + y) % 5) (by omega)
              have k2 := hck (((i / 5) * 5 + y) / 5) (by omega)
              have k3 := hck ((y * 5 + i % 5) % 5) (by omega)
              have k4 := hck ((y * 5 + i % 5) / 5) (by omega)
              have k5 := hck (i % 5) (by omega)
              have k6 := hck (i / 5) (by omega)
              refine lv_aload_n hx hb dX5_layLeast_115 rfl (lv_at hl 2 rfl) ?_
              refine w_get (C := RX5) (T := TX5) (Nf := 4) (ci := 5) (v := .ref ql) S (fun _ h => List.mem_cons_of_mem _ (List.mem_append_right _ h)) hE hP 0 rfl rfl 3 (by decide) (List.mem_of_getElem? (i := 1) rfl) rfl dX5_layLeast_116 ?_
              refine lv_iconst (v := iI (5)) hx hb dX5_layLeast_119 rfl ?_
              refine lv_iload_n hx hb dX5_layLeast_120 rfl (lv_at hl 0 rfl) ?_
              refine lv_iconst (v := iI (5)) hx hb dX5_layLeast_121 rfl ?_
              refine w_idiv S (by omega) (by omega) dX5_layLeast_122 ?_
              refine w_tz (z := ((i / 5 : Nat) : Int)) (by rw [show (5 : Int) = ((5 : Nat) : Int) from rfl, ← Int.ofNat_tdiv]) ?_
              refine w_imul S dX5_layLeast_123 ?_
              refine lv_iload_n hx hb dX5_layLeast_124 rfl (lv_at hl 1 rfl) ?_
              refine w_iadd S dX5_layLeast_125 ?_
              refine w_iald S hE hP 4 rfl ((i / 5) * 5 + y) (by omega) (by omega) (by omega) dX5_layLeast_126 ?_
              refine lv_istore_n (lv' := [(3, .int (iI ((fwI (fwO (lay0 hi lo ha) y) y i) ((i / 5) * 5 + y)))), (2, .int (iI (((i : Nat) : Int)))), (1, .int (iI (((y : Nat) : Int)))), (0, .ref q)]) hx hb dX5_layLeast_127 rfl hl (by decide) rfl (fun ls hl => ?_)
              refine lv_aload_n hx hb dX5_layLeast_128 rfl (lv_at hl 3 rfl) ?_
              refine w_get (C := RX5) (T := TX5) (Nf := 4) (ci := 5) (v := .ref ql) S (fun _ h => List.mem_cons_of_mem _ (List.mem_append_right _ h)) hE hP 0 rfl rfl 3 (by decide) (List.mem_of_getElem? (i := 1) rfl) rfl dX5_layLeast_129 ?_
              refine lv_iconst (v := iI (5)) hx hb dX5_layLeast_132 rfl ?_
              refine lv_iload_n hx hb dX5_layLeast_133 rfl (lv_at hl 2 rfl) ?_
              refine w_imul S dX5_layLeast_134 ?_
              refine lv_iload_n hx hb dX5_layLeast_135 rfl (lv_at hl 1 rfl) ?_
              refine lv_iconst (v := iI (5)) hx hb dX5_layLeast_136 rfl ?_
              refine w_irem S (by omega) (by omega) dX5_layLeast_137 ?_
              refine w_tz (z := ((i % 5 : Nat) : Int)) (by rw [show (5 : Int) = ((5 : Nat) : Int) from rfl, ← Int.ofNat_tmod]) ?_
              refine w_iadd S dX5_layLeast_138 ?_
              refine w_iald S hE hP 4 rfl (y * 5 + i % 5) (by omega) (by omega) (by omega) dX5_layLeast_139 ?_
              refine lv_istore (lv' := [(4, .int (iI ((fwI (fwO (lay0 hi lo ha) y) y i) (y * 5 + i % 5)))), (3, .int (iI ((fwI (fwO (lay0 hi lo ha) y) y i) ((i / 5) * 5 + y)))), (2, .int (iI (((i : Nat) : Int)))), (1, .int (iI (((y : Nat) : Int)))), (0, .ref q)]) hx hb dX5_layLeast_140 hl (by decide) rfl (fun ls hl => ?_)
              by_cases h1 : fwI (fwO (lay0 hi lo ha) y) y i ((i / 5) * 5 + y) < 1000000
              · by_cases h2 : fwI (fwO (lay0 hi lo ha) y) y i (y * 5 + i % 5) < 1000000
                · by_cases h3 : fwI (fwO (lay0 hi lo ha) y) y i ((i / 5) * 5 + y) + fwI (fwO (lay0 hi lo ha) y) y i (y * 5 + i % 5) < fwI (fwO (lay0 hi lo ha) y) y i i
                  · refine lv_aload_n hx hb dX5_layLeast_142 rfl (lv_at hl 4 rfl) ?_
                    refine w_get (C := RX5) (T := TX5) (Nf := 4) (ci := 5) (v := .ref ql) S (fun _ h => List.mem_cons_of_mem _ (List.mem_append_right _ h)) hE hP 0 rfl rfl 3 (by decide) (List.mem_of_getElem? (i := 1) rfl) rfl dX5_layLeast_143 ?_
                    refine lv_iload_n hx hb dX5_layLeast_146 rfl (lv_at hl 2 rfl) ?_
                    refine lv_iload_n hx hb dX5_layLeast_147 rfl (lv_at hl 1 rfl) ?_
                    refine w_ldc (z := 1000000) S (List.mem_of_getElem? (i := 3) rfl) (by decide) dX5_layLeast_148 ?_
                    refine c_geF (tgt := 180) S dX5_layLeast_150 (by decide) (by omega) (by omega) (by omega) ?_
                    refine lv_iload hx hb dX5_layLeast_153 (lv_at hl 0 rfl) ?_
                    refine w_ldc (z := 1000000) S (List.mem_of_getElem? (i := 3) rfl) (by decide) dX5_layLeast_155 ?_
                    refine c_geF (tgt := 180) S dX5_layLeast_157 (by decide) (by omega) (by omega) (by omega) ?_
                    refine lv_iload_n hx hb dX5_layLeast_160 rfl (lv_at hl 1 rfl) ?_
                    refine lv_iload hx hb dX5_layLeast_161 (lv_at hl 0 rfl) ?_
                    refine w_iadd S dX5_layLeast_163 ?_
                    refine lv_aload_n hx hb dX5_layLeast_164 rfl (lv_at hl 4 rfl) ?_
                    refine w_get (C := RX5) (T := TX5) (Nf := 4) (ci := 5) (v := .ref ql) S (fun _ h => List.mem_cons_of_mem _ (List.mem_append_right _ h)) hE hP 0 rfl rfl 3 (by decide) (List.mem_of_getElem? (i := 1) rfl) rfl dX5_layLeast_165 ?_
                    refine lv_iload_n hx hb dX5_layLeast_168 rfl (lv_at hl 2 rfl) ?_
                    refine w_iald S hE hP 4 rfl (i) (by omega) (by omega) (by omega) dX5_layLeast_169 ?_
                    refine c_geF (tgt := 180) S dX5_layLeast_170 (by decide) (by omega) (by omega) (by omega) ?_
                    refine lv_iload_n hx hb dX5_layLeast_173 rfl (lv_at hl 1 rfl) ?_
                    refine lv_iload hx hb dX5_layLeast_174 (lv_at hl 0 rfl) ?_
                    refine w_iadd S dX5_layLeast_176 ?_
                    refine lv_goto (tgt := 186) hx hb dX5_layLeast_177 (by decide) ?_
                    refine w_tz (z := fwV (fwI (fwO (lay0 hi lo ha) y) y i) y i) (by unfold fwV; rw [if_pos ⟨h1, h2, h3⟩]) ?_
                    refine w_iast S hE hP hD hS 4 rfl (i) (by omega) (by omega) (by omega) dX5_layLeast_186 (fun H locs hP hD hS => ?_)
                    have hP : va_P D vwCl [(q, .inr (5, [.ref qs, .ref qi, .ref qk, .ref ql])), (qs, .inl (cI, 2108, .inl (vI (stF ((mn : Nat) : Int) tA sA kA nb ck hi lo ha cn sm)))), (qi, .inl (cI, 4216, .inl (vI im))), (qk, .inl (cZ, 2, .inl (vI kp))), (ql, .inl (cI, 25, .inl (vI (updI (fwI (fwO (lay0 hi lo ha) y) y i) i (fwV (fwI (fwO (lay0 hi lo ha) y) y i) y i)))))] H := hP
                    have hD : va_D A [(q, .inr (5, [.ref qs, .ref qi, .ref qk, .ref ql])), (qs, .inl (cI, 2108, .inl (vI (stF ((mn : Nat) : Int) tA sA kA nb ck hi lo ha cn sm)))), (qi, .inl (cI, 4216, .inl (vI im))), (qk, .inl (cZ, 2, .inl (vI kp))), (ql, .inl (cI, 25, .inl (vI (updI (fwI (fwO (lay0 hi lo ha) y) y i) i (fwV (fwI (fwO (lay0 hi lo ha) y) y i) y i)))))] := hD
                    refine w_iinc (v := ((i + 1 : Nat) : Int)) (lv' := [(2, .int (iI (((i + 1 : Nat) : Int)))), (4, .int (iI ((fwI (fwO (lay0 hi lo ha) y) y i) (y * 5 + i % 5)))), (3, .int (iI ((fwI (fwO (lay0 hi lo ha) y) y i) ((i / 5) * 5 + y)))), (1, .int (iI (((y : Nat) : Int)))), (0, .ref q)]) S dX5_layLeast_187 hl (k := 2) rfl (by omega) (by decide) rfl (fun ls hl => ?_)
                    refine lv_goto (tgt := 109) hx hb dX5_layLeast_190 (by decide) ?_
                    have hcell : updI (fwI (fwO (lay0 hi lo ha) y) y i) i (fwV (fwI (fwO (lay0 hi lo ha) y) y i) y i) = fwI (fwO (lay0 hi lo ha) y) y (i + 1) := rfl
                    rw [hcell] at hP hD
                    exact ih3 (i + 1)  (by omega)  _ _ _ hP hD hS (lv_sub hl [0, 3, 4] rfl)
                  · refine lv_aload_n hx hb dX5_layLeast_142 rfl (lv_at hl 4 rfl) ?_
                    refine w_get (C := RX5) (T := TX5) (Nf := 4) (ci := 5) (v := .ref ql) S (fun _ h => List.mem_cons_of_mem _ (List.mem_append_right _ h)) hE hP 0 rfl rfl 3 (by decide) (List.mem_of_getElem? (i := 1) rfl) rfl dX5_layLeast_143 ?_
                    refine lv_iload_n hx hb dX5_layLeast_146 rfl (lv_at hl 2 rfl) ?_
                    refine lv_iload_n hx hb dX5_layLeast_147 rfl (lv_at hl 1 rfl) ?_
                    refine w_ldc (z := 1000000) S (List.mem_of_getElem? (i := 3) rfl) (by decide) dX5_layLeast_148 ?_
                    refine c_geF (tgt := 180) S dX5_layLeast_150 (by decide) (by omega) (by omega) (by omega) ?_
                    refine lv_iload hx hb dX5_layLeast_153 (lv_at hl 0 rfl) ?_
                    refine w_ldc (z := 1000000) S (List.mem_of_getElem? (i := 3) rfl) (by decide) dX5_layLeast_155 ?_
                    refine c_geF (tgt := 180) S dX5_layLeast_157 (by decide) (by omega) (by omega) (by omega) ?_
                    refine lv_iload_n hx hb dX5_layLeast_160 rfl (lv_at hl 1 rfl) ?_
                    refine lv_iload hx hb dX5_layLeast_161 (lv_at hl 0 rfl) ?_
                    refine w_iadd S dX5_layLeast_163 ?_
                    refine lv_aload_n hx hb dX5_layLeast_164 rfl (lv_at hl 4 rfl) ?_
                    refine w_get (C := RX5) (T := TX5) (Nf := 4) (ci := 5) (v := .ref ql) S (fun _ h => List.mem_cons_of_mem _ (List.mem_append_right _ h)) hE hP 0 rfl rfl 3 (by decide) (List.mem_of_getElem? (i := 1) rfl) rfl dX5_layLeast_165 ?_
                    refine lv_iload_n hx hb dX5_layLeast_168 rfl (lv_at hl 2 rfl) ?_
                    refine w_iald S hE hP 4 rfl (i) (by omega) (by omega) (by omega) dX5_layLeast_169 ?_
                    refine c_geT (tgt := 180) S dX5_layLeast_170 (by decide) (by omega) (by omega) (by omega) ?_
                    refine lv_aload_n hx hb dX5_layLeast_180 rfl (lv_at hl 4 rfl) ?_
                    refine w_get (C := RX5) (T := TX5) (Nf := 4) (ci := 5) (v := .ref ql) S (fun _ h => List.mem_cons_of_mem _ (List.mem_append_right _ h)) hE hP 0 rfl rfl 3 (by decide) (List.mem_of_getElem? (i := 1) rfl) rfl dX5_layLeast_181 ?_
                    refine lv_iload_n hx hb dX5_layLeast_184 rfl (lv_at hl 2 rfl) ?_
                    refine w_iald S hE hP 4 rfl (i) (by omega) (by omega) (by omega) dX5_layLeast_185 ?_
                    refine w_tz (z := fwV (fwI (fwO (lay0 hi lo ha) y) y i) y i) (by unfold fwV; rw [if_neg (fun q => h3 q.2.2)]) ?_
                    refine w_iast S hE hP hD hS 4 rfl (i) (by omega) (by omega) (by omega) dX5_layLeast_186 (fun H locs hP hD hS => ?_)
                    have hP : va_P D vwCl [(q, .inr (5, [.ref qs, .ref qi, .ref qk, .ref ql])), (qs, .inl (cI, 2108, .inl (vI (stF ((mn : Nat) : Int) tA sA kA nb ck hi lo ha cn sm)))), (qi, .inl (cI, 4216, .inl (vI im))), (qk, .inl (cZ, 2, .inl (vI kp))), (ql, .inl (cI, 25, .inl (vI (updI (fwI (fwO (lay0 hi lo ha) y) y i) i (fwV (fwI (fwO (lay0 hi lo ha) y) y i) y i)))))] H := hP
                    have hD : va_D A [(q, .inr (5, [.ref qs, .ref qi, .ref qk, .ref ql])), (qs, .inl (cI, 2108, .inl (vI (stF ((mn : Nat) : Int) tA sA kA nb ck hi lo ha cn sm)))), (qi, .inl (cI, 4216, .inl (vI im))), (qk, .inl (cZ, 2, .inl (vI kp))), (ql, .inl (cI, 25, .inl (vI (updI (fwI (fwO (lay0 hi lo ha) y) y i) i (fwV (fwI (fwO (lay0 hi lo ha) y) y i) y i)))))] := hD
                    refine w_iinc (v := ((i + 1 : Nat) : Int)) (lv' := [(2, .int (iI (((i + 1 : Nat) : Int)))), (4, .int (iI ((fwI (fwO (lay0 hi lo ha) y) y i) (y * 5 + i % 5)))), (3, .int (iI ((fwI (fwO (lay0 hi lo ha) y) y i) ((i / 5) * 5 + y)))), (1, .int (iI (((y : Nat) : Int)))), (0, .ref q)]) S dX5_layLeast_187 hl (k := 2) rfl (by omega) (by decide) rfl (fun ls hl => ?_)
                    refine lv_goto (tgt := 109) hx hb dX5_layLeast_190 (by decide) ?_
                    have hcell : updI (fwI (fwO (lay0 hi lo ha) y) y i) i (fwV (fwI (fwO (lay0 hi lo ha) y) y i) y i) = fwI (fwO (lay0 hi lo ha) y) y (i + 1) := rfl
                    rw [hcell] at hP hD
                    exact ih3 (i + 1)  (by omega)  _ _ _ hP hD hS (lv_sub hl [0, 3, 4] rfl)
                · refine lv_aload_n hx hb dX5_layLeast_142 rfl (lv_at hl 4 rfl) ?_
                  refine w_get (C := RX5) (T := TX5) (Nf := 4) (ci := 5) (v := .ref ql) S (fun _ h => List.mem_cons_of_mem _ (List.mem_append_right _ h)) hE hP 0 rfl rfl 3 (by decide) (List.mem_of_getElem? (i := 1) rfl) rfl dX5_layLeast_143 ?_
                  refine lv_iload_n hx hb dX5_layLeast_146 rfl (lv_at hl 2 rfl) ?_
                  refine lv_iload_n hx hb dX5_layLeast_147 rfl (lv_at hl 1 rfl) ?_
                  refine w_ldc (z := 1000000) S (List.mem_of_getElem? (i := 3) rfl) (by decide) dX5_layLeast_148 ?_
                  refine c_geF (tgt := 180) S dX5_layLeast_150 (by decide) (by omega) (by omega) (by omega) ?_
                  refine lv_iload hx hb dX5_layLeast_153 (lv_at hl 0 rfl) ?_
                  refine w_ldc (z := 1000000) S (List.mem_of_getElem? (i := 3) rfl) (by decide) dX5_layLeast_155 ?_
                  refine c_geT (tgt := 180) S dX5_layLeast_157 (by decide) (by omega) (by omega) (by omega) ?_
                  refine lv_aload_n hx hb dX5_layLeast_180 rfl (lv_at hl 4 rfl) ?_
                  refine w_get (C := RX5) (T := TX5) (Nf := 4) (ci := 5) (v := .ref ql) S (fun _ h => List.mem_cons_of_mem _ (List.mem_append_right _ h)) hE hP 0 rfl rfl 3 (by decide) (List.mem_of_getElem? (i := 1) rfl) rfl dX5_layLeast_181 ?_
                  refine lv_iload_n hx hb dX5_layLeast_184 rfl (lv_at hl 2 rfl) ?_
                  refine w_iald S hE hP 4 rfl (i) (by omega) (by omega) (by omega) dX5_layLeast_185 ?_
                  refine w_tz (z := fwV (fwI (fwO (lay0 hi lo ha) y) y i) y i) (by unfold fwV; rw [if_neg (fun q => h2 q.2.1)]) ?_
                  refine w_iast S hE hP hD hS 4 rfl (i) (by omega) (by omega) (by omega) dX5_layLeast_186 (fun H locs hP hD hS => ?_)
                  have hP : va_P D vwCl [(q, .inr (5, [.ref qs, .ref qi, .ref qk, .ref ql])), (qs, .inl (cI, 2108, .inl (vI (stF ((mn : Nat) : Int) tA sA kA nb ck hi lo ha cn sm)))), (qi, .inl (cI, 4216, .inl (vI im))), (qk, .inl (cZ, 2, .inl (vI kp))), (ql, .inl (cI, 25, .inl (vI (updI (fwI (fwO (lay0 hi lo ha) y) y i) i (fwV (fwI (fwO (lay0 hi lo ha) y) y i) y i)))))] H := hP
                  have hD : va_D A [(q, .inr (5, [.ref qs, .ref qi, .ref qk, .ref ql])), (qs, .inl (cI, 2108, .inl (vI (stF ((mn : Nat) : Int) tA sA kA nb ck hi lo ha cn sm)))), (qi, .inl (cI, 4216, .inl (vI im))), (qk, .inl (cZ, 2, .inl (vI kp))), (ql, .inl (cI, 25, .inl (vI (updI (fwI (fwO (lay0 hi lo ha) y) y i) i (fwV (fwI (fwO (lay0 hi lo ha) y) y i) y i)))))] := hD
                  refine w_iinc (v := ((i + 1 : Nat) : Int)) (lv' := [(2, .int (iI (((i + 1 : Nat) : Int)))), (4, .int (iI ((fwI (fwO (lay0 hi lo ha) y) y i) (y * 5 + i % 5)))), (3, .int (iI ((fwI (fwO (lay0 hi lo ha) y) y i) ((i / 5) * 5 + y)))), (1, .int (iI (((y : Nat) : Int)))), (0, .ref q)]) S dX5_layLeast_187 hl (k := 2) rfl (by omega) (by decide) rfl (fun ls hl => ?_)
                  refine lv_goto (tgt := 109) hx hb dX5_layLeast_190 (by decide) ?_
                  have hcell : updI (fwI (fwO (lay0 hi lo ha) y) y i) i (fwV (fwI (fwO (lay0 hi lo ha) y) y i) y i) = fwI (fwO (lay0 hi lo ha) y) y (i + 1) := rfl
                  rw [hcell] at hP hD
                  exact ih3 (i + 1)  (by omega)  _ _ _ hP hD hS (lv_sub hl [0, 3, 4] rfl)
              · refine lv_aload_n hx hb dX5_layLeast_142 rfl (lv_at hl 4 rfl) ?_
                refine w_get (C := RX5) (T := TX5) (Nf := 4) (ci := 5) (v := .ref ql) S (fun _ h => List.mem_cons_of_mem _ (List.mem_append_right _ h)) hE hP 0 rfl rfl 3 (by decide) (List.mem_of_getElem? (i := 1) rfl) rfl dX5_layLeast_143 ?_
                refine lv_iload_n hx hb dX5_layLeast_146 rfl (lv_at hl 2 rfl) ?_
                refine lv_iload_n hx hb dX5_layLeast_147 rfl (lv_at hl 1 rfl) ?_
                refine w_ldc (z := 1000000) S (List.mem_of_getElem? (i := 3) rfl) (by decide) dX5_layLeast_148 ?_
                refine c_geT (tgt := 180) S dX5_layLeast_150 (by decide) (by omega) (by omega) (by omega) ?_
                refine lv_aload_n hx hb dX5_layLeast_180 rfl (lv_at hl 4 rfl) ?_
                refine w_get (C := RX5) (T := TX5) (Nf := 4) (ci := 5) (v := .ref ql) S (fun _ h => List.mem_cons_of_mem _ (List.mem_append_right _ h)) hE hP 0 rfl rfl 3 (by decide) (List.mem_of_getElem? (i := 1) rfl) rfl dX5_layLeast_181 ?_
                refine lv_iload_n hx hb dX5_layLeast_184 rfl (lv_at hl 2 rfl) ?_
                refine w_iald S hE hP 4 rfl (i) (by omega) (by omega) (by omega) dX5_layLeast_185 ?_
                refine w_tz (z := fwV (fwI (fwO (lay0 hi lo ha) y) y i) y i) (by unfold fwV; rw [if_neg (fun q => h1 q.1)]) ?_
                refine w_iast S hE hP hD hS 4 rfl (i) (by omega) (by omega) (by omega) dX5_layLeast_186 (fun H locs hP hD hS => ?_)
                have hP : va_P D vwCl [(q, .inr (5, [.ref qs, .ref qi, .ref qk, .ref ql])), (qs, .inl (cI, 2108, .inl (vI (stF ((mn : Nat) : Int) tA sA kA nb ck hi lo ha cn sm)))), (qi, .inl (cI, 4216, .inl (vI im))), (qk, .inl (cZ, 2, .inl (vI kp))), (ql, .inl (cI, 25, .inl (vI (updI (fwI (fwO (lay0 hi lo ha) y) y i) i (fwV (fwI (fwO (lay0 hi lo ha) y) y i) y i)))))] H := hP
                have hD : va_D A [(q, .inr (5, [.ref qs, .ref qi, .ref qk, .ref ql])), (qs, .inl (cI, 2108, .inl (vI (stF ((mn : Nat) : Int) tA sA kA nb ck hi lo ha cn sm)))), (qi, .inl (cI, 4216, .inl (vI im))), (qk, .inl (cZ, 2, .inl (vI kp))), (ql, .inl (cI, 25, .inl (vI (updI (fwI (fwO (lay0 hi lo ha) y) y i) i (fwV (fwI (fwO (lay0 hi lo ha) y) y i) y i)))))] := hD
                refine w_iinc (v := ((i + 1 : Nat) : Int)) (lv' := [(2, .int (iI (((i + 1 : Nat) : Int)))), (4, .int (iI ((fwI (fwO (lay0 hi lo ha) y) y i) (y * 5 + i % 5)))), (3, .int (iI ((fwI (fwO (lay0 hi lo ha) y) y i) ((i / 5) * 5 + y)))), (1, .int (iI (((y : Nat) : Int)))), (0, .ref q)]) S dX5_layLeast_187 hl (k := 2) rfl (by omega) (by decide) rfl (fun ls hl => ?_)
                refine lv_goto (tgt := 109) hx hb dX5_layLeast_190 (by decide) ?_
                have hcell : updI (fwI (fwO (lay0 hi lo ha) y) y i) i (fwV (fwI (fwO (lay0 hi lo ha) y) y i) y i) = fwI (fwO (lay0 hi lo ha) y) y (i + 1) := rfl
                rw [hcell] at hP hD
                exact ih3 (i + 1)  (by omega)  _ _ _ hP hD hS (lv_sub hl [0, 3, 4] rfl)
          have hcell : fwO (lay0 hi lo ha) y = fwI (fwO (lay0 hi lo ha) y) y 0 := rfl
          rw [hcell] at hP hD
          exact loop3 25 0  (by omega)  _ _ _ hP hD hS (lv_sub hl [0, 1, 2] rfl)
      have hcell : (lay0 hi lo ha) = fwO (lay0 hi lo ha) 0 := rfl
      rw [hcell] at hP hD
      exact loop2 5 0  (by omega)  _ _ _ hP hD hS (lv_sub hl [0, 1] rfl)
    | succ u ih1 =>
      intro i  hm  H locs ls hP hD hS hl
      refine lv_iload_n hx hb dX5_layLeast_2 rfl (lv_at hl 0 rfl) ?_
      refine lv_bipush (v := iI (25)) hx hb dX5_layLeast_3 (by decide) ?_
      refine c_geF (tgt := 100) S dX5_layLeast_5 (by decide) (by omega) (by omega) (by omega) ?_
      have ga := hha i (by omega)
      have gb := hha ((i % 5) * 5 + i / 5) (by omega)
      refine lv_iload_n hx hb dX5_layLeast_8 rfl (lv_at hl 0 rfl) ?_
      refine lv_iconst (v := iI (5)) hx hb dX5_layLeast_9 rfl ?_
      refine w_idiv S (by omega) (by omega) dX5_layLeast_10 ?_
      refine w_tz (z := ((i / 5 : Nat) : Int)) (by rw [show (5 : Int) = ((5 : Nat) : Int) from rfl, ← Int.ofNat_tdiv]) ?_
      refine lv_istore_n (lv' := [(2, .int (iI (((i / 5 : Nat) : Int)))), (1, .int (iI (((i : Nat) : Int)))), (0, .ref q)]) hx hb dX5_layLeast_11 rfl hl (by decide) rfl (fun ls hl => ?_)
      refine lv_iload_n hx hb dX5_layLeast_12 rfl (lv_at hl 1 rfl) ?_
      refine lv_iconst (v := iI (5)) hx hb dX5_layLeast_13 rfl ?_
      refine w_irem S (by omega) (by omega) dX5_layLeast_14 ?_
      refine w_tz (z := ((i % 5 : Nat) : Int)) (by rw [show (5 : Int) = ((5 : Nat) : Int) from rfl, ← Int.ofNat_tmod]) ?_
      refine lv_istore_n (lv' := [(3, .int (iI (((i % 5 : Nat) : Int)))), (2, .int (iI (((i / 5 : Nat) : Int)))), (1, .int (iI (((i : Nat) : Int)))), (0, .ref q)]) hx hb dX5_layLeast_15 rfl hl (by decide) rfl (fun ls hl => ?_)
      by_cases h1 : i / 5 < i % 5
      · refine lv_iload_n hx hb dX5_layLeast_16 rfl (lv_at hl 1 rfl) ?_
        refine lv_iload_n hx hb dX5_layLeast_17 rfl (lv_at hl 0 rfl) ?_
        refine c_geF (tgt := 25) S dX5_layLeast_18 (by decide) (by omega) (by omega) (by omega) ?_
        refine lv_iload_n hx hb dX5_layLeast_21 rfl (lv_at hl 2 rfl) ?_
        refine lv_goto (tgt := 30) hx hb dX5_layLeast_22 (by decide) ?_
        by_cases h2 : ha i = 0
        · refine lv_istore (lv' := [(4, .int (iI (((i : Nat) : Int)))), (3, .int (iI (((i % 5 : Nat) : Int)))), (2, .int (iI (((i / 5 : Nat) : Int)))), (1, .int (iI (((i : Nat) : Int)))), (0, .ref q)]) hx hb dX5_layLeast_30 hl (by decide) rfl (fun ls hl => ?_)
          refine lv_aload_n hx hb dX5_layLeast_32 rfl (lv_at hl 4 rfl) ?_
          refine w_get (C := RX5) (T := TX5) (Nf := 4) (ci := 5) (v := .ref ql) S (fun _ h => List.mem_cons_of_mem _ (List.mem_append_right _ h)) hE hP 0 rfl rfl 3 (by decide) (List.mem_of_getElem? (i := 1) rfl) rfl dX5_layLeast_33 ?_
          refine lv_iload_n hx hb dX5_layLeast_36 rfl (lv_at hl 3 rfl) ?_
          refine lv_iload_n hx hb dX5_layLeast_37 rfl (lv_at hl 2 rfl) ?_
          refine lv_iload_n hx hb dX5_layLeast_38 rfl (lv_at hl 1 rfl) ?_
          refine c_neT (tgt := 46) S dX5_layLeast_39 (by decide) (by omega) (by omega) (by omega) ?_
          refine lv_aload_n hx hb dX5_layLeast_46 rfl (lv_at hl 4 rfl) ?_
          refine w_get (C := RX5) (T := TX5) (Nf := 4) (ci := 5) (v := .ref qs) S (fun _ h => List.mem_cons_of_mem _ (List.mem_append_right _ h)) hE hP 0 rfl rfl 0 (by decide) (List.mem_of_getElem? (i := 2) rfl) rfl dX5_layLeast_47 ?_
          refine lv_bipush (v := iI (83)) hx hb dX5_layLeast_50 (by decide) ?_
          refine lv_iload hx hb dX5_layLeast_52 (lv_at hl 0 rfl) ?_
          refine w_iadd S dX5_layLeast_54 ?_
          refine w_iald S hE hP 1 rfl (83 + i) (by omega) (by omega) (by omega) dX5_layLeast_55 ?_
          refine w_tz (z := ha i) (st_ha (by omega) (by omega)) ?_
          refine b_neF (tgt := 64) S dX5_layLeast_56 (by decide) (by omega) ?_
          refine w_ldc (z := 1000000) S (List.mem_of_getElem? (i := 3) rfl) (by decide) dX5_layLeast_59 ?_
          refine lv_goto (tgt := 93) hx hb dX5_layLeast_61 (by decide) ?_
          refine w_tz (z := lay0 hi lo ha i) (by unfold lay0; rw [if_neg (show ¬ i / 5 = i % 5 by omega), if_pos h1, if_pos h2]) ?_
          refine w_iast S hE hP hD hS 4 rfl (i) (by omega) (by omega) (by omega) dX5_layLeast_93 (fun H locs hP hD hS => ?_)
          have hP : va_P D vwCl [(q, .inr (5, [.ref qs, .ref qi, .ref qk, .ref ql])), (qs, .inl (cI, 2108, .inl (vI (stF ((mn : Nat) : Int) tA sA kA nb ck hi lo ha cn sm)))), (qi, .inl (cI, 4216, .inl (vI im))), (qk, .inl (cZ, 2, .inl (vI kp))), (ql, .inl (cI, 25, .inl (vI (updI (fun j => if j < i then lay0 hi lo ha j else le j) i (lay0 hi lo ha i)))))] H := hP
          have hD : va_D A [(q, .inr (5, [.ref qs, .ref qi, .ref qk, .ref ql])), (qs, .inl (cI, 2108, .inl (vI (stF ((mn : Nat) : Int) tA sA kA nb ck hi lo ha cn sm)))), (qi, .inl (cI, 4216, .inl (vI im))), (qk, .inl (cZ, 2, .inl (vI kp))), (ql, .inl (cI, 25, .inl (vI (updI (fun j => if j < i then lay0 hi lo ha j else le j) i (lay0 hi lo ha i)))))] := hD
          refine w_iinc (v := ((i + 1 : Nat) : Int)) (lv' := [(1, .int (iI (((i + 1 : Nat) : Int)))), (4, .int (iI (((i : Nat) : Int)))), (3, .int (iI (((i % 5 : Nat) : Int)))), (2, .int (iI (((i / 5 : Nat) : Int)))), (0, .ref q)]) S dX5_layLeast_94 hl (k := 3) rfl (by omega) (by decide) rfl (fun ls hl => ?_)
          refine lv_goto (tgt := 2) hx hb dX5_layLeast_97 (by decide) ?_
          have hcell : updI (fun j => if j < i then lay0 hi lo ha j else le j) i (lay0 hi lo ha i) = (fun j => if j < (i + 1) then lay0 hi lo ha j else le j) := (funext fun j => by by_cases h1 : j = i <;> by_cases h2 : j < i <;> simp [updI, h1, h2] <;> omega)
          rw [hcell] at hP hD
          exact ih1 (i + 1)  (by omega)  _ _ _ hP hD hS (lv_sub hl [0, 4] rfl)
        · refine lv_istore (lv' := [(4, .int (iI (((i : Nat) : Int)))), (3, .int (iI (((i % 5 : Nat) : Int)))), (2, .int (iI (((i / 5 : Nat) : Int)))), (1, .int (iI (((i : Nat) : Int)))), (0, .ref q)]) hx hb dX5_layLeast_30 hl (by decide) rfl (fun ls hl => ?_)
          refine lv_aload_n hx hb dX5_layLeast_32 rfl (lv_at hl 4 rfl) ?_
          refine w_get (C := RX5) (T := TX5) (Nf := 4) (ci := 5) (v := .ref ql) S (fun _ h => List.mem_cons_of_mem _ (List.mem_append_right _ h)) hE hP 0 rfl rfl 3 (by decide) (List.mem_of_getElem? (i := 1) rfl) rfl dX5_layLeast_33 ?_
          refine lv_iload_n hx hb dX5_layLeast_36 rfl (lv_at hl 3 rfl) ?_
          refine lv_iload_n hx hb dX5_layLeast_37 rfl (lv_at hl 2 rfl) ?_
          refine lv_iload_n hx hb dX5_layLeast_38 rfl (lv_at hl 1 rfl) ?_
          refine c_neT (tgt := 46) S dX5_layLeast_39 (by decide) (by omega) (by omega) (by omega) ?_
          refine lv_aload_n hx hb dX5_layLeast_46 rfl (lv_at hl 4 rfl) ?_
          refine w_get (C := RX5) (T := TX5) (Nf := 4) (ci := 5) (v := .ref qs) S (fun _ h => List.mem_cons_of_mem _ (List.mem_append_right _ h)) hE hP 0 rfl rfl 0 (by decide) (List.mem_of_getElem? (i := 2) rfl) rfl dX5_layLeast_47 ?_
          refine lv_bipush (v := iI (83)) hx hb dX5_layLeast_50 (by decide) ?_
          refine lv_iload hx hb dX5_layLeast_52 (lv_at hl 0 rfl) ?_
          refine w_iadd S dX5_layLeast_54 ?_
          refine w_iald S hE hP 1 rfl (83 + i) (by omega) (by omega) (by omega) dX5_layLeast_55 ?_
          refine w_tz (z := ha i) (st_ha (by omega) (by omega)) ?_
          refine b_neT (tgt := 64) S dX5_layLeast_56 (by decide) (by omega) (by omega) ?_
          refine lv_iload_n hx hb dX5_layLeast_64 rfl (lv_at hl 2 rfl) ?_
          refine lv_iload_n hx hb dX5_layLeast_65 rfl (lv_at hl 1 rfl) ?_
          refine c_geF (tgt := 82) S dX5_layLeast_66 (by decide) (by omega) (by omega) (by omega) ?_
          refine lv_aload_n hx hb dX5_layLeast_69 rfl (lv_at hl 4 rfl) ?_
          refine w_get (C := RX5) (T := TX5) (Nf := 4) (ci := 5) (v := .ref qs) S (fun _ h => List.mem_cons_of_mem _ (List.mem_append_right _ h)) hE hP 0 rfl rfl 0 (by decide) (List.mem_of_getElem? (i := 2) rfl) rfl dX5_layLeast_70 ?_
          refine lv_bipush (v := iI (33)) hx hb dX5_layLeast_73 (by decide) ?_
          refine lv_iload hx hb dX5_layLeast_75 (lv_at hl 0 rfl) ?_
          refine w_iadd S dX5_layLeast_77 ?_
          refine w_iald S hE hP 1 rfl (33 + i) (by omega) (by omega) (by omega) dX5_layLeast_78 ?_
          refine w_tz (z := hi i) (st_hi (by omega) (by omega)) ?_
          refine lv_goto (tgt := 93) hx hb dX5_layLeast_79 (by decide) ?_
          refine w_tz (z := lay0 hi lo ha i) (by unfold lay0; rw [if_neg (show ¬ i / 5 = i % 5 by omega), if_pos h1, if_neg h2, if_pos h1]) ?_
          refine w_iast S hE hP hD hS 4 rfl (i) (by omega) (by omega) (by omega) dX5_layLeast_93 (fun H locs hP hD hS => ?_)
          have hP : va_P D vwCl [(q, .inr (5, [.ref qs, .ref qi, .ref qk, .ref ql])), (qs, .inl (cI, 2108, .inl (vI (stF ((mn : Nat) : Int) tA sA kA nb ck hi lo ha cn sm)))), (qi, .inl (cI, 4216, .inl (vI im))), (qk, .inl (cZ, 2, .inl (vI kp))), (ql, .inl (cI, 25, .inl (vI (updI (fun j => if j < i then lay0 hi lo ha j else le j) i (lay0 hi lo ha i)))))] H := hP
          have hD : va_D A [(q, .inr (5, [.ref qs, .ref qi, .ref qk, .ref ql])), (qs, .inl (cI, 2108, .inl (vI (stF ((mn : Nat) : Int) tA sA kA nb ck hi lo ha cn sm)))), (qi, .inl (cI, 4216, .inl (vI im))), (qk, .inl (cZ, 2, .inl (vI kp))), (ql, .inl (cI, 25, .inl (vI (updI (fun j => if j < i then lay0 hi lo ha j else le j) i (lay0 hi lo ha i)))))] := hD
          refine w_iinc (v := ((i + 1 : Nat) : Int)) (lv' := [(1, .int (iI (((i + 1 : Nat) : Int)))), (4, .int (iI (((i : Nat) : Int)))), (3, .int (iI (((i % 5 : Nat) : Int)))), (2, .int (iI (((i / 5 : Nat) : Int)))), (0, .ref q)]) S dX5_layLeast_94 hl (k := 3) rfl (by omega) (by decide) rfl (fun ls hl => ?_)
          refine lv_goto (tgt := 2) hx hb dX5_layLeast_97 (by decide) ?_
          have hcell : updI (fun j => if j < i then lay0 hi lo ha j else le j) i (lay0 hi lo ha i) = (fun j => if j < (i + 1) then lay0 hi lo ha j else le j) := (funext fun j => by by_cases h1 : j = i <;> by_cases h2 : j < i <;> simp [updI, h1, h2] <;> omega)
          rw [hcell] at hP hD
          exact ih1 (i + 1)  (by omega)  _ _ _ hP hD hS (lv_sub hl [0, 4] rfl)
      · refine lv_iload_n hx hb dX5_layLeast_16 rfl (lv_at hl 1 rfl) ?_
        refine lv_iload_n hx hb dX5_layLeast_17 rfl (lv_at hl 0 rfl) ?_
        refine c_geT (tgt := 25) S dX5_layLeast_18 (by decide) (by omega) (by omega) (by omega) ?_
        refine lv_iconst (v := iI (5)) hx hb dX5_layLeast_25 rfl ?_
        refine lv_iload_n hx hb dX5_layLeast_26 rfl (lv_at hl 0 rfl) ?_
        refine w_imul S dX5_layLeast_27 ?_
        refine lv_iload_n hx hb dX5_layLeast_28 rfl (lv_at hl 1 rfl) ?_
        refine w_iadd S dX5_layLeast_29 ?_
        refine w_tz (z := (((i % 5) * 5 + i / 5 : Nat) : Int)) (by omega) ?_
        refine lv_istore (lv' := [(4, .int (iI ((((i % 5) * 5 + i / 5 : Nat) : Int)))), (3, .int (iI (((i % 5 : Nat) : Int)))), (2, .int (iI (((i / 5 : Nat) : Int)))), (1, .int (iI (((i : Nat) : Int)))), (0, .ref q)]) hx hb dX5_layLeast_30 hl (by decide) rfl (fun ls hl => ?_)
        by_cases h3 : i / 5 = i % 5
        · refine lv_aload_n hx hb dX5_layLeast_32 rfl (lv_at hl 4 rfl) ?_
          refine w_get (C := RX5) (T := TX5) (Nf := 4) (ci := 5) (v := .ref ql) S (fun _ h => List.mem_cons_of_mem _ (List.mem_append_right _ h)) hE hP 0 rfl rfl 3 (by decide) (List.mem_of_getElem? (i := 1) rfl) rfl dX5_layLeast_33 ?_
          refine lv_iload_n hx hb dX5_layLeast_36 rfl (lv_at hl 3 rfl) ?_
          refine lv_iload_n hx hb dX5_layLeast_37 rfl (lv_at hl 2 rfl) ?_
          refine lv_iload_n hx hb dX5_layLeast_38 rfl (lv_at hl 1 rfl) ?_
          refine c_neF (tgt := 46) S dX5_layLeast_39 (by decide) (by omega) ?_
          refine lv_iconst (v := iI (0)) hx hb dX5_layLeast_42 rfl ?_
          refine lv_goto (tgt := 93) hx hb dX5_layLeast_43 (by decide) ?_
          refine w_tz (z := lay0 hi lo ha i) (by unfold lay0; rw [if_pos h3]) ?_
          refine w_iast S hE hP hD hS 4 rfl (i) (by omega) (by omega) (by omega) dX5_layLeast_93 (fun H locs hP hD hS => ?_)
          have hP : va_P D vwCl [(q, .inr (5, [.ref qs, .ref qi, .ref qk, .ref ql])), (qs, .inl (cI, 2108, .inl (vI (stF ((mn : Nat) : Int) tA sA kA nb ck hi lo ha cn sm)))), (qi, .inl (cI, 4216, .inl (vI im))), (qk, .inl (cZ, 2, .inl (vI kp))), (ql, .inl (cI, 25, .inl (vI (updI (fun j => if j < i then lay0 hi lo ha j else le j) i (lay0 hi lo ha i)))))] H := hP
          have hD : va_D A [(q, .inr (5, [.ref qs, .ref qi, .ref qk, .ref ql])), (qs, .inl (cI, 2108, .inl (vI (stF ((mn : Nat) : Int) tA sA kA nb ck hi lo ha cn sm)))), (qi, .inl (cI, 4216, .inl (vI im))), (qk, .inl (cZ, 2, .inl (vI kp))), (ql, .inl (cI, 25, .inl (vI (updI (fun j => if j < i then lay0 hi lo ha j else le j) i (lay0 hi lo ha i)))))] := hD
          refine w_iinc (v := ((i + 1 : Nat) : Int)) (lv' := [(1, .int (iI (((i + 1 : Nat) : Int)))), (4, .int (iI ((((i % 5) * 5 + i / 5 : Nat) : Int)))), (3, .int (iI (((i % 5 : Nat) : Int)))), (2, .int (iI (((i / 5 : Nat) : Int)))), (0, .ref q)]) S dX5_layLeast_94 hl (k := 3) rfl (by omega) (by decide) rfl (fun ls hl => ?_)
          refine lv_goto (tgt := 2) hx hb dX5_layLeast_97 (by decide) ?_
          have hcell : updI (fun j => if j < i then lay0 hi lo ha j else le j) i (lay0 hi lo ha i) = (fun j => if j < (i + 1) then lay0 hi lo ha j else le j) := (funext fun j => by by_cases h1 : j = i <;> by_cases h2 : j < i <;> simp [updI, h1, h2] <;> omega)
          rw [hcell] at hP hD
          exact ih1 (i + 1)  (by omega)  _ _ _ hP hD hS (lv_sub hl [0, 4] rfl)
        · refine lv_aload_n hx hb dX5_layLeast_32 rfl (lv_at hl 4 rfl) ?_
          refine w_get (C := RX5) (T := TX5) (Nf := 4) (ci := 5) (v := .ref ql) S (fun _ h => List.mem_cons_of_mem _ (List.mem_append_right _ h)) hE hP 0 rfl rfl 3 (by decide) (List.mem_of_getElem? (i := 1) rfl) rfl dX5_layLeast_33 ?_
          refine lv_iload_n hx hb dX5_layLeast_36 rfl (lv_at hl 3 rfl) ?_
          refine lv_iload_n hx hb dX5_layLeast_37 rfl (lv_at hl 2 rfl) ?_
          refine lv_iload_n hx hb dX5_layLeast_38 rfl (lv_at hl 1 rfl) ?_
          refine c_neT (tgt := 46) S dX5_layLeast_39 (by decide) (by omega) (by omega) (by omega) ?_
          by_cases h2 : ha ((i % 5) * 5 + i / 5) = 0
          · refine lv_aload_n hx hb dX5_layLeast_46 rfl (lv_at hl 4 rfl) ?_
            refine w_get (C := RX5) (T := TX5) (Nf := 4) (ci := 5) (v := .ref qs) S (fun _ h => List.mem_cons_of_mem _ (List.mem_append_right _ h)) hE hP 0 rfl rfl 0 (by decide) (List.mem_of_getElem? (i := 2) rfl) rfl dX5_layLeast_47 ?_
            refine lv_bipush (v := iI (83)) hx hb dX5_layLeast_50 (by decide) ?_
            refine lv_iload hx hb dX5_layLeast_52 (lv_at hl 0 rfl) ?_
            refine w_iadd S dX5_layLeast_54 ?_
            refine w_iald S hE hP 1 rfl (83 + ((i % 5) * 5 + i / 5)) (by omega) (by omega) (by omega) dX5_layLeast_55 ?_
            refine w_tz (z := ha ((i % 5) * 5 + i / 5)) (st_ha (by omega) (by omega)) ?_
            refine b_neF (tgt := 64) S dX5_layLeast_56 (by decide) (by omega) ?_
            refine w_ldc (z := 1000000) S (List.mem_of_getElem? (i := 3) rfl) (by decide) dX5_layLeast_59 ?_
            refine lv_goto (tgt := 93) hx hb dX5_layLeast_61 (by decide) ?_
            refine w_tz (z := lay0 hi lo ha i) (by unfold lay0; rw [if_neg h3, if_neg h1, if_pos h2]) ?_
            refine w_iast S hE hP hD hS 4 rfl (i) (by omega) (by omega) (by omega) dX5_layLeast_93 (fun H locs hP hD hS => ?_)
            have hP : va_P D vwCl [(q, .inr (5, [.ref qs, .ref qi, .ref qk, .ref ql])), (qs, .inl (cI, 2108, .inl (vI (stF ((mn : Nat) : Int) tA sA kA nb ck hi lo ha cn sm)))), (qi, .inl (cI, 4216, .inl (vI im))), (qk, .inl (cZ, 2, .inl (vI kp))), (ql, .inl (cI, 25, .inl (vI (updI (fun j => if j < i then lay0 hi lo ha j else le j) i (lay0 hi lo ha i)))))] H := hP
            have hD : va_D A [(q, .inr (5, [.ref qs, .ref qi, .ref qk, .ref ql])), (qs, .inl (cI, 2108, .inl (vI (stF ((mn : Nat) : Int) tA sA kA nb ck hi lo ha cn sm)))), (qi, .inl (cI, 4216, .inl (vI im))), (qk, .inl (cZ, 2, .inl (vI kp))), (ql, .inl (cI, 25, .inl (vI (updI (fun j => if j < i then lay0 hi lo ha j else le j) i (lay0 hi lo ha i)))))] := hD
            refine w_iinc (v := ((i + 1 : Nat) : Int)) (lv' := [(1, .int (iI (((i + 1 : Nat) : Int)))), (4, .int (iI ((((i % 5) * 5 + i / 5 : Nat) : Int)))), (3, .int (iI (((i % 5 : Nat) : Int)))), (2, .int (iI (((i / 5 : Nat) : Int)))), (0, .ref q)]) S dX5_layLeast_94 hl (k := 3) rfl (by omega) (by decide) rfl (fun ls hl => ?_)
            refine lv_goto (tgt := 2) hx hb dX5_layLeast_97 (by decide) ?_
            have hcell : updI (fun j => if j < i then lay0 hi lo ha j else le j) i (lay0 hi lo ha i) = (fun j => if j < (i + 1) then lay0 hi lo ha j else le j) := (funext fun j => by by_cases h1 : j = i <;> by_cases h2 : j < i <;> simp [updI, h1, h2] <;> omega)
            rw [hcell] at hP hD
            exact ih1 (i + 1)  (by omega)  _ _ _ hP hD hS (lv_sub hl [0, 4] rfl)
          · refine lv_aload_n hx hb dX5_layLeast_46 rfl (lv_at hl 4 rfl) ?_
            refine w_get (C := RX5) (T := TX5) (Nf := 4) (ci := 5) (v := .ref qs) S (fun _ h => List.mem_cons_of_mem _ (List.mem_append_right _ h)) hE hP 0 rfl rfl 0 (by decide) (List.mem_of_getElem? (i := 2) rfl) rfl dX5_layLeast_47 ?_
            refine lv_bipush (v := iI (83)) hx hb dX5_layLeast_50 (by decide) ?_
            refine lv_iload hx hb dX5_layLeast_52 (lv_at hl 0 rfl) ?_
            refine w_iadd S dX5_layLeast_54 ?_
            refine w_iald S hE hP 1 rfl (83 + ((i % 5) * 5 + i / 5)) (by omega) (by omega) (by omega) dX5_layLeast_55 ?_
            refine w_tz (z := ha ((i % 5) * 5 + i / 5)) (st_ha (by omega) (by omega)) ?_
            refine b_neT (tgt := 64) S dX5_layLeast_56 (by decide) (by omega) (by omega) ?_
            refine lv_iload_n hx hb dX5_layLeast_64 rfl (lv_at hl 2 rfl) ?_
            refine lv_iload_n hx hb dX5_layLeast_65 rfl (lv_at hl 1 rfl) ?_
            refine c_geT (tgt := 82) S dX5_layLeast_66 (by decide) (by omega) (by omega) (by omega) ?_
            refine lv_aload_n hx hb dX5_layLeast_82 rfl (lv_at hl 4 rfl) ?_
            refine w_get (C := RX5) (T := TX5) (Nf := 4) (ci := 5) (v := .ref qs) S (fun _ h => List.mem_cons_of_mem _ (List.mem_append_right _ h)) hE hP 0 rfl rfl 0 (by decide) (List.mem_of_getElem? (i := 2) rfl) rfl dX5_layLeast_83 ?_
            refine lv_bipush (v := iI (58)) hx hb dX5_layLeast_86 (by decide) ?_
            refine lv_iload hx hb dX5_layLeast_88 (lv_at hl 0 rfl) ?_
            refine w_iadd S dX5_layLeast_90 ?_
            refine w_iald S hE hP 1 rfl (58 + ((i % 5) * 5 + i / 5)) (by omega) (by omega) (by omega) dX5_layLeast_91 ?_
            refine w_tz (z := lo ((i % 5) * 5 + i / 5)) (st_lo (by omega) (by omega)) ?_
            refine w_ineg S dX5_layLeast_92 ?_
            refine w_tz (z := lay0 hi lo ha i) (by unfold lay0; rw [if_neg h3, if_neg h1, if_neg h2, if_neg h1]) ?_
            refine w_iast S hE hP hD hS 4 rfl (i) (by omega) (by omega) (by omega) dX5_layLeast_93 (fun H locs hP hD hS => ?_)
            have hP : va_P D vwCl [(q, .inr (5, [.ref qs, .ref qi, .ref qk, .ref ql])), (qs, .inl (cI, 2108, .inl (vI (stF ((mn : Nat) : Int) tA sA kA nb ck hi lo ha cn sm)))), (qi, .inl (cI, 4216, .inl (vI im))), (qk, .inl (cZ, 2, .inl (vI kp))), (ql, .inl (cI, 25, .inl (vI (updI (fun j => if j < i then lay0 hi lo ha j else le j) i (lay0 hi lo ha i)))))] H := hP
            have hD : va_D A [(q, .inr (5, [.ref qs, .ref qi, .ref qk, .ref ql])), (qs, .inl (cI, 2108, .inl (vI (stF ((mn : Nat) : Int) tA sA kA nb ck hi lo ha cn sm)))), (qi, .inl (cI, 4216, .inl (vI im))), (qk, .inl (cZ, 2, .inl (vI kp))), (ql, .inl (cI, 25, .inl (vI (updI (fun j => if j < i then lay0 hi lo ha j else le j) i (lay0 hi lo ha i)))))] := hD
            refine w_iinc (v := ((i + 1 : Nat) : Int)) (lv' := [(1, .int (iI (((i + 1 : Nat) : Int)))), (4, .int (iI ((((i % 5) * 5 + i / 5 : Nat) : Int)))), (3, .int (iI (((i % 5 : Nat) : Int)))), (2, .int (iI (((i / 5 : Nat) : Int)))), (0, .ref q)]) S dX5_layLeast_94 hl (k := 3) rfl (by omega) (by decide) rfl (fun ls hl => ?_)
            refine lv_goto (tgt := 2) hx hb dX5_layLeast_97 (by decide) ?_
            have hcell : updI (fun j => if j < i then lay0 hi lo ha j else le j) i (lay0 hi lo ha i) = (fun j => if j < (i + 1) then lay0 hi lo ha j else le j) := (funext fun j => by by_cases h1 : j = i <;> by_cases h2 : j < i <;> simp [updI, h1, h2] <;> omega)
            rw [hcell] at hP hD
            exact ih1 (i + 1)  (by omega)  _ _ _ hP hD hS (lv_sub hl [0, 4] rfl)
  have hcell : le = (fun j => if j < 0 then lay0 hi lo ha j else le j) := (funext fun j => by simp)
  rw [hcell] at hP hD
  exact loop1 25 0  (by omega)  _ _ _ hP hD hS (lv_sub hl [0, 1] rfl)
set_option maxHeartbeats 4000000 in
set_option maxRecDepth 100000 in
theorem m_tight_U (lc : Launch) (D : va_G) (cI cZ : ClassId) (N : Nat) (q : Nat) (qs : Nat) (qi : Nat) (qk : Nat) (ql : Nat) (mn : Nat) (tA : Int) (sA : Int) (kA : Int) (nb : Nat → Int) (ck : Nat → Int) (hi : Nat → Int) (lo : Nat → Int) (ha : Nat → Int) (cn : Nat → Int) (sm : Nat → Int) (im : Nat → Int) (kp : Nat → Int) (le : Nat → Int) (x : Int) (y : Int) (hmn : 2 ≤ mn ∧ mn ≤ 5) (r_x : -2147483648 ≤ x ∧ x ≤ 2147483647) (r_y : -2147483648 ≤ y ∧ y ≤ 2147483647) (h : ¬ ((0 ≤ x ∧ x ≤ (mn : Int) - 1) ∧ (0 ≤ y ∧ y ≤ (mn : Int) - 1))) : CR lc D cI cZ N yX5_tight wsX5_tight (rmK 2 43) [.ref q, .int (iI (x)), .int (iI (y))] [(q, .inr (5, [.ref qs, .ref qi, .ref qk, .ref ql])), (qs, .inl (cI, 2108, .inl (vI (stF ((mn : Nat) : Int) tA sA kA nb ck hi lo ha cn sm)))), (qi, .inl (cI, 4216, .inl (vI im))), (qk, .inl (cZ, 2, .inl (vI kp))), (ql, .inl (cI, 25, .inl (vI le)))] (some (.int (iI (-1000000001)))) := by
  refine CR.I (cc := cX5_tight) (maxL := 4) (by decide) rfl (Nat.le_of_ble_eq_true rfl) ?_
  intro p e s m args below meth c R Q S hE A hAN hfr hlo hP hD hS hret ls hl
  have S : CallFix p m c cX5_tight 4 s args wsX5_tight RX5 := S
  have hx := S.1
  have hb := S.2.1
  have hl : lv_has ls 4 [(0, .ref q), (1, .int (iI (x))), (2, .int (iI (y)))] := hl
  by_cases h3 : (0 ≤ x ∧ x ≤ (mn : Int) - 1)
  · refine lv_aload_n hx hb dX5_tight_0 rfl (lv_at hl 0 rfl) ?_
    refine lv_iload_n hx hb dX5_tight_1 rfl (lv_at hl 1 rfl) ?_
    refine kV_R (n := 1) (ci := 5) (q := (RX5, TX5, 4)) S (m_isNode_T lc D cI cZ N q qs qi qk ql mn tA sA kA nb ck hi lo ha cn sm im kp le x (by omega) (by omega) (by omega)) gX5_tight_X5_isNode rfl rfl (by decide +kernel) rfl rfl ⟨Nat.le_trans (Nat.le_of_ble_eq_true rfl) hfr, Nat.le_trans (Nat.le_of_ble_eq_true rfl) hlo⟩ hE hAN hP hD hS [0, 1, 2, 3, 4] rfl (by decide) rfl rfl rfl rfl hl.1 [] rfl (Nat.le_of_ble_eq_true rfl) dX5_tight_2 ⟨Nat.zero_le _, Nat.zero_le _⟩ ?_
    refine W.eq (g2 := F0 m 5 ls [.int (iI (1))]) rfl ?_
    refine b_eqF (tgt := 16) S dX5_tight_5 (by decide) (by decide) (by decide) ?_
    refine lv_aload_n hx hb dX5_tight_8 rfl (lv_at hl 0 rfl) ?_
    refine lv_iload_n hx hb dX5_tight_9 rfl (lv_at hl 2 rfl) ?_
    refine kV_R (n := 1) (ci := 5) (q := (RX5, TX5, 4)) S (m_isNode_F lc D cI cZ N q qs qi qk ql mn tA sA kA nb ck hi lo ha cn sm im kp le y (by omega) (by omega) (by omega)) gX5_tight_X5_isNode rfl rfl (by decide +kernel) rfl rfl ⟨Nat.le_trans (Nat.le_of_ble_eq_true rfl) hfr, Nat.le_trans (Nat.le_of_ble_eq_true rfl) hlo⟩ hE hAN hP hD hS [0, 1, 2, 3, 4] rfl (by decide) rfl rfl rfl rfl hl.1 [] rfl (Nat.le_of_ble_eq_true rfl) dX5_tight_10 ⟨Nat.zero_le _, Nat.zero_le _⟩ ?_
    refine W.eq (g2 := F0 m 13 ls [.int (iI (0))]) rfl ?_
    refine b_neF (tgt := 19) S dX5_tight_13 (by decide) (by decide) ?_
    refine w_ldc (z := (-1000000001)) S (List.mem_of_getElem? (i := 1) rfl) (by decide) dX5_tight_16 ?_
    exact hret _ _ _ dX5_tight_18 (congrArg iI (by omega))
  · refine lv_aload_n hx hb dX5_tight_0 rfl (lv_at hl 0 rfl) ?_
    refine lv_iload_n hx hb dX5_tight_1 rfl (lv_at hl 1 rfl) ?_
    refine kV_R (n := 1) (ci := 5) (q := (RX5, TX5, 4)) S (m_isNode_F lc D cI cZ N q qs qi qk ql mn tA sA kA nb ck hi lo ha cn sm im kp le x (by omega) (by omega) (by omega)) gX5_tight_X5_isNode rfl rfl (by decide +kernel) rfl rfl ⟨Nat.le_trans (Nat.le_of_ble_eq_true rfl) hfr, Nat.le_trans (Nat.le_of_ble_eq_true rfl) hlo⟩ hE hAN hP hD hS [0, 1, 2, 3, 4] rfl (by decide) rfl rfl rfl rfl hl.1 [] rfl (Nat.le_of_ble_eq_true rfl) dX5_tight_2 ⟨Nat.zero_le _, Nat.zero_le _⟩ ?_
    refine W.eq (g2 := F0 m 5 ls [.int (iI (0))]) rfl ?_
    refine b_eqT (tgt := 16) S dX5_tight_5 (by decide) (by decide) ?_
    refine w_ldc (z := (-1000000001)) S (List.mem_of_getElem? (i := 1) rfl) (by decide) dX5_tight_16 ?_
    exact hret _ _ _ dX5_tight_18 (congrArg iI (by omega))
set_option maxHeartbeats 4000000 in
set_option maxRecDepth 100000 in
theorem m_tight_N (lc : Launch) (D : va_G) (cI cZ : ClassId) (N : Nat) (q : Nat) (qs : Nat) (qi : Nat) (qk : Nat) (ql : Nat) (mn : Nat) (tA : Int) (sA : Int) (kA : Int) (nb : Nat → Int) (ck : Nat → Int) (hi : Nat → Int) (lo : Nat → Int) (ha : Nat → Int) (cn : Nat → Int) (sm : Nat → Int) (im : Nat → Int) (kp : Nat → Int) (le : Nat → Int) (xx : Nat) (yy : Nat) (hmn : 2 ≤ mn ∧ mn ≤ 5) (hx5 : xx < mn) (hy5 : yy < mn) (hck : ∀ k, k < 5 → -99 ≤ ck k ∧ ck k ≤ 99) (hpot : potOK ck (lay0 hi lo ha)) (hhi : ∀ k, k < 25 → -100000 ≤ hi k ∧ hi k ≤ 100000) (hlo2 : ∀ k, k < 25 → -100000 ≤ lo k ∧ lo k ≤ 100000) (hha : ∀ k, k < 25 → ha k = 0 ∨ ha k = 1) (h : fwO (lay0 hi lo ha) 5 (xx * 5 + yy) = 1000000) : CM lc D cI cZ N yX5_tight wsX5_tight (rmK 2 43) [.ref q, .int (iI (((xx : Nat) : Int))), .int (iI (((yy : Nat) : Int)))] [(q, .inr (5, [.ref qs, .ref qi, .ref qk, .ref ql])), (qs, .inl (cI, 2108, .inl (vI (stF ((mn : Nat) : Int) tA sA kA nb ck hi lo ha cn sm)))), (qi, .inl (cI, 4216, .inl (vI im))), (qk, .inl (cZ, 2, .inl (vI kp))), (ql, .inl (cI, 25, .inl (vI le)))] (some (.int (iI (-1000000006)))) [(q, .inr (5, [.ref qs, .ref qi, .ref qk, .ref ql])), (qs, .inl (cI, 2108, .inl (vI (stF ((mn : Nat) : Int) tA sA kA nb ck hi lo ha cn sm)))), (qi, .inl (cI, 4216, .inl (vI im))), (qk, .inl (cZ, 2, .inl (vI kp))), (ql, .inl (cI, 25, .inl (vI (fwO (lay0 hi lo ha) 5))))] := by
  refine CM.I (cc := cX5_tight) (maxL := 4) (by decide) rfl (Nat.le_of_ble_eq_true rfl) ?_
  intro p e s m args below meth c R Q S hE A hAN hfr hlo hP hD hS hret ls hl
  have S : CallFix p m c cX5_tight 4 s args wsX5_tight RX5 := S
  have hx := S.1
  have hb := S.2.1
  have hl : lv_has ls 4 [(0, .ref q), (1, .int (iI (((xx : Nat) : Int)))), (2, .int (iI (((yy : Nat) : Int))))] := hl
  have g1 := fwO_pot hpot 5 (by omega) (xx * 5 + yy) (by omega)
  have k1 := hck ((xx * 5 + yy) % 5) (by omega)
  have k2 := hck ((xx * 5 + yy) / 5) (by omega)
  refine lv_aload_n hx hb dX5_tight_0 rfl (lv_at hl 0 rfl) ?_
  refine lv_iload_n hx hb dX5_tight_1 rfl (lv_at hl 1 rfl) ?_
  refine kV_R (n := 1) (ci := 5) (q := (RX5, TX5, 4)) S (m_isNode_T lc D cI cZ N q qs qi qk ql mn tA sA kA nb ck hi lo ha cn sm im kp le ((xx : Nat) : Int) (by omega) (by omega) (by omega)) gX5_tight_X5_isNode rfl rfl (by decide +kernel) rfl rfl ⟨Nat.le_trans (Nat.le_of_ble_eq_true rfl) hfr, Nat.le_trans (Nat.le_of_ble_eq_true rfl) hlo⟩ hE hAN hP hD hS [0, 1, 2, 3, 4] rfl (by decide) rfl rfl rfl rfl hl.1 [] rfl (Nat.le_of_ble_eq_true rfl) dX5_tight_2 ⟨Nat.zero_le _, Nat.zero_le _⟩ ?_
  refine W.eq (g2 := F0 m 5 ls [.int (iI (1))]) rfl ?_
  refine b_eqF (tgt := 16) S dX5_tight_5 (by decide) (by decide) (by decide) ?_
  refine lv_aload_n hx hb dX5_tight_8 rfl (lv_at hl 0 rfl) ?_
  refine lv_iload_n hx hb dX5_tight_9 rfl (lv_at hl 2 rfl) ?_
  refine kV_R (n := 1) (ci := 5) (q := (RX5, TX5, 4)) S (m_isNode_T lc D cI cZ N q qs qi qk ql mn tA sA kA nb ck hi lo ha cn sm im kp le ((yy : Nat) : Int) (by omega) (by omega) (by omega)) gX5_tight_X5_isNode rfl rfl (by decide +kernel) rfl rfl ⟨Nat.le_trans (Nat.le_of_ble_eq_true rfl) hfr, Nat.le_trans (Nat.le_of_ble_eq_true rfl) hlo⟩ hE hAN hP hD hS [0, 1, 2, 3, 4] rfl (by decide) rfl rfl rfl rfl hl.1 [] rfl (Nat.le_of_ble_eq_true rfl) dX5_tight_10 ⟨Nat.zero_le _, Nat.zero_le _⟩ ?_
  refine W.eq (g2 := F0 m 13 ls [.int (iI (1))]) rfl ?_
  refine b_neT (tgt := 19) S dX5_tight_13 (by decide) (by decide) (by decide) ?_
  refine lv_aload_n hx hb dX5_tight_19 rfl (lv_at hl 0 rfl) ?_
  refine kV_M (n := 0) (ci := 5) (q := (RX5, TX5, 4)) S (m_layLeast lc D cI cZ N q qs qi qk ql mn tA sA kA nb ck hi lo ha cn sm im kp le hck hpot hhi hlo2 hha) gX5_tight_X5_layLeast rfl rfl (by decide +kernel) rfl rfl ⟨Nat.le_trans (Nat.le_of_ble_eq_true rfl) hfr, Nat.le_trans (Nat.le_of_ble_eq_true rfl) hlo⟩ hE hAN hP hD hS [0, 1, 2, 3, 4] rfl (by decide) rfl rfl rfl rfl rfl hl.1 [] rfl (Nat.le_of_ble_eq_true rfl) dX5_tight_20 ⟨Nat.zero_le _, Nat.zero_le _⟩ (fun H locs hP hD hS => ?_)
  have hP : va_P D vwCl [(q, .inr (5, [.ref qs, .ref qi, .ref qk, .ref ql])), (qs, .inl (cI, 2108, .inl (vI (stF ((mn : Nat) : Int) tA sA kA nb ck hi lo ha cn sm)))), (qi, .inl (cI, 4216, .inl (vI im))), (qk, .inl (cZ, 2, .inl (vI kp))), (ql, .inl (cI, 25, .inl (vI (fwO (lay0 hi lo ha) 5))))] H := hP
  have hD : va_D A [(q, .inr (5, [.ref qs, .ref qi, .ref qk, .ref ql])), (qs, .inl (cI, 2108, .inl (vI (stF ((mn : Nat) : Int) tA sA kA nb ck hi lo ha cn sm)))), (qi, .inl (cI, 4216, .inl (vI im))), (qk, .inl (cZ, 2, .inl (vI kp))), (ql, .inl (cI, 25, .inl (vI (fwO (lay0 hi lo ha) 5))))] := hD
  refine W.eq (g2 := F0 m 23 ls []) rfl ?_
  refine lv_aload_n hx hb dX5_tight_23 rfl (lv_at hl 0 rfl) ?_
  refine w_get (C := RX5) (T := TX5) (Nf := 4) (ci := 5) (v := .ref ql) S (fun _ h => List.mem_cons_of_mem _ (List.mem_append_right _ h)) hE hP 0 rfl rfl 3 (by decide) (List.mem_of_getElem? (i := 2) rfl) rfl dX5_tight_24 ?_
  refine lv_iconst (v := iI (5)) hx hb dX5_tight_27 rfl ?_
  refine lv_iload_n hx hb dX5_tight_28 rfl (lv_at hl 1 rfl) ?_
  refine w_imul S dX5_tight_29 ?_
  refine lv_iload_n hx hb dX5_tight_30 rfl (lv_at hl 2 rfl) ?_
  refine w_iadd S dX5_tight_31 ?_
  refine w_iald S hE hP 4 rfl (xx * 5 + yy) (by omega) (by omega) (by omega) dX5_tight_32 ?_
  refine lv_istore_n (lv' := [(3, .int (iI ((fwO (lay0 hi lo ha) 5) (xx * 5 + yy)))), (0, .ref q), (1, .int (iI (((xx : Nat) : Int)))), (2, .int (iI (((yy : Nat) : Int))))]) hx hb dX5_tight_33 rfl hl (by decide) rfl (fun ls hl => ?_)
  refine lv_iload_n hx hb dX5_tight_34 rfl (lv_at hl 0 rfl) ?_
  refine w_ldc (z := 1000000) S (List.mem_of_getElem? (i := 3) rfl) (by decide) dX5_tight_35 ?_
  refine c_neF (tgt := 45) S dX5_tight_37 (by decide) (by omega) ?_
  refine w_ldc (z := (-1000000006)) S (List.mem_of_getElem? (i := 4) rfl) (by decide) dX5_tight_40 ?_
  refine lv_goto (tgt := 46) hx hb dX5_tight_42 (by decide) ?_
  exact hret _ _ _ _ _ dX5_tight_46 (congrArg iI (by omega)) hP hS
set_option maxHeartbeats 4000000 in
set_option maxRecDepth 100000 in
theorem m_tight (lc : Launch) (D : va_G) (cI cZ : ClassId) (N : Nat) (q : Nat) (qs : Nat) (qi : Nat) (qk : Nat) (ql : Nat) (mn : Nat) (tA : Int) (sA : Int) (kA : Int) (nb : Nat → Int) (ck : Nat → Int) (hi : Nat → Int) (lo : Nat → Int) (ha : Nat → Int) (cn : Nat → Int) (sm : Nat → Int) (im : Nat → Int) (kp : Nat → Int) (le : Nat → Int) (xx : Nat) (yy : Nat) (hmn : 2 ≤ mn ∧ mn ≤ 5) (hx5 : xx < mn) (hy5 : yy < mn) (hck : ∀ k, k < 5 → -99 ≤ ck k ∧ ck k ≤ 99) (hpot : potOK ck (lay0 hi lo ha)) (hhi : ∀ k, k < 25 → -100000 ≤ hi k ∧ hi k ≤ 100000) (hlo2 : ∀ k, k < 25 → -100000 ≤ lo k ∧ lo k ≤ 100000) (hha : ∀ k, k < 25 → ha k = 0 ∨ ha k = 1) (h : fwO (lay0 hi lo ha) 5 (xx * 5 + yy) ≠ 1000000) : CM lc D cI cZ N yX5_tight wsX5_tight (rmK 2 43) [.ref q, .int (iI (((xx : Nat) : Int))), .int (iI (((yy : Nat) : Int)))] [(q, .inr (5, [.ref qs, .ref qi, .ref qk, .ref ql])), (qs, .inl (cI, 2108, .inl (vI (stF ((mn : Nat) : Int) tA sA kA nb ck hi lo ha cn sm)))), (qi, .inl (cI, 4216, .inl (vI im))), (qk, .inl (cZ, 2, .inl (vI kp))), (ql, .inl (cI, 25, .inl (vI le)))] (some (.int (iI (fwO (lay0 hi lo ha) 5 (xx * 5 + yy))))) [(q, .inr (5, [.ref qs, .ref qi, .ref qk, .ref ql])), (qs, .inl (cI, 2108, .inl (vI (stF ((mn : Nat) : Int) tA sA kA nb ck hi lo ha cn sm)))), (qi, .inl (cI, 4216, .inl (vI im))), (qk, .inl (cZ, 2, .inl (vI kp))), (ql, .inl (cI, 25, .inl (vI (fwO (lay0 hi lo ha) 5))))] := by
  refine CM.I (cc := cX5_tight) (maxL := 4) (by decide) rfl (Nat.le_of_ble_eq_true rfl) ?_
  intro p e s m args below meth c R Q S hE A hAN hfr hlo hP hD hS hret ls hl
  have S : CallFix p m c cX5_tight 4 s args wsX5_tight RX5 := S
  have hx := S.1
  have hb := S.2.1
  have hl : lv_has ls 4 [(0, .ref q), (1, .int (iI (((xx : Nat) : Int)))), (2, .int (iI (((yy : Nat) : Int))))] := hl
  have g1 := fwO_pot hpot 5 (by omega) (xx * 5 + yy) (by omega)
  have k1 := hck ((xx * 5 + yy) % 5) (by omega)
  have k2 := hck ((xx * 5 + yy) / 5) (by omega)
  refine lv_aload_n hx hb dX5_tight_0 rfl (lv_at hl 0 rfl) ?_
  refine lv_iload_n hx hb dX5_tight_1 rfl (lv_at hl 1 rfl) ?_
  refine kV_R (n := 1) (ci := 5) (q := (RX5, TX5, 4)) S (m_isNode_T lc D cI cZ N q qs qi qk ql mn tA sA kA nb ck hi lo ha cn sm im kp le ((xx : Nat) : Int) (by omega) (by omega) (by omega)) gX5_tight_X5_isNode rfl rfl (by decide +kernel) rfl rfl ⟨Nat.le_trans (Nat.le_of_ble_eq_true rfl) hfr, Nat.le_trans (Nat.le_of_ble_eq_true rfl) hlo⟩ hE hAN hP hD hS [0, 1, 2, 3, 4] rfl (by decide) rfl rfl rfl rfl hl.1 [] rfl (Nat.le_of_ble_eq_true rfl) dX5_tight_2 ⟨Nat.zero_le _, Nat.zero_le _⟩ ?_
  refine W.eq (g2 := F0 m 5 ls [.int (iI (1))]) rfl ?_
  refine b_eqF (tgt := 16) S dX5_tight_5 (by decide) (by decide) (by decide) ?_
  refine lv_aload_n hx hb dX5_tight_8 rfl (lv_at hl 0 rfl) ?_
  refine lv_iload_n hx hb dX5_tight_9 rfl (lv_at hl 2 rfl) ?_
  refine kV_R (n := 1) (ci := 5) (q := (RX5, TX5, 4)) S (m_isNode_T lc D cI cZ N q qs qi qk ql mn tA sA kA nb ck hi lo ha cn sm im kp le ((yy : Nat) : Int) (by omega) (by omega) (by omega)) gX5_tight_X5_isNode rfl rfl (by decide +kernel) rfl rfl ⟨Nat.le_trans (Nat.le_of_ble_eq_true rfl) hfr, Nat.le_trans (Nat.le_of_ble_eq_true rfl) hlo⟩ hE hAN hP hD hS [0, 1, 2, 3, 4] rfl (by decide) rfl rfl rfl rfl hl.1 [] rfl (Nat.le_of_ble_eq_true rfl) dX5_tight_10 ⟨Nat.zero_le _, Nat.zero_le _⟩ ?_
  refine W.eq (g2 := F0 m 13 ls [.int (iI (1))]) rfl ?_
  refine b_neT (tgt := 19) S dX5_tight_13 (by decide) (by decide) (by decide) ?_
  refine lv_aload_n hx hb dX5_tight_19 rfl (lv_at hl 0 rfl) ?_
  refine kV_M (n := 0) (ci := 5) (q := (RX5, TX5, 4)) S (m_layLeast lc D cI cZ N q qs qi qk ql mn tA sA kA nb ck hi lo ha cn sm im kp le hck hpot hhi hlo2 hha) gX5_tight_X5_layLeast rfl rfl (by decide +kernel) rfl rfl ⟨Nat.le_trans (Nat.le_of_ble_eq_true rfl) hfr, Nat.le_trans (Nat.le_of_ble_eq_true rfl) hlo⟩ hE hAN hP hD hS [0, 1, 2, 3, 4] rfl (by decide) rfl rfl rfl rfl rfl hl.1 [] rfl (Nat.le_of_ble_eq_true rfl) dX5_tight_20 ⟨Nat.zero_le _, Nat.zero_le _⟩ (fun H locs hP hD hS => ?_)
  have hP : va_P D vwCl [(q, .inr (5, [.ref qs, .ref qi, .ref qk, .ref ql])), (qs, .inl (cI, 2108, .inl (vI (stF ((mn : Nat) : Int) tA sA kA nb ck hi lo ha cn sm)))), (qi, .inl (cI, 4216, .inl (vI im))), (qk, .inl (cZ, 2, .inl (vI kp))), (ql, .inl (cI, 25, .inl (vI (fwO (lay0 hi lo ha) 5))))] H := hP
  have hD : va_D A [(q, .inr (5, [.ref qs, .ref qi, .ref qk, .ref ql])), (qs, .inl (cI, 2108, .inl (vI (stF ((mn : Nat) : Int) tA sA kA nb ck hi lo ha cn sm)))), (qi, .inl (cI, 4216, .inl (vI im))), (qk, .inl (cZ, 2, .inl (vI kp))), (ql, .inl (cI, 25, .inl (vI (fwO (lay0 hi lo ha) 5))))] := hD
  refine W.eq (g2 := F0 m 23 ls []) rfl ?_
  refine lv_aload_n hx hb dX5_tight_23 rfl (lv_at hl 0 rfl) ?_
  refine w_get (C := RX5) (T := TX5) (Nf := 4) (ci := 5) (v := .ref ql) S (fun _ h => List.mem_cons_of_mem _ (List.mem_append_right _ h)) hE hP 0 rfl rfl 3 (by decide) (List.mem_of_getElem? (i := 2) rfl) rfl dX5_tight_24 ?_
  refine lv_iconst (v := iI (5)) hx hb dX5_tight_27 rfl ?_
  refine lv_iload_n hx hb dX5_tight_28 rfl (lv_at hl 1 rfl) ?_
  refine w_imul S dX5_tight_29 ?_
  refine lv_iload_n hx hb dX5_tight_30 rfl (lv_at hl 2 rfl) ?_
  refine w_iadd S dX5_tight_31 ?_
  refine w_iald S hE hP 4 rfl (xx * 5 + yy) (by omega) (by omega) (by omega) dX5_tight_32 ?_
  refine lv_istore_n (lv' := [(3, .int (iI ((fwO (lay0 hi lo ha) 5) (xx * 5 + yy)))), (0, .ref q), (1, .int (iI (((xx : Nat) : Int)))), (2, .int (iI (((yy : Nat) : Int))))]) hx hb dX5_tight_33 rfl hl (by decide) rfl (fun ls hl => ?_)
  refine lv_iload_n hx hb dX5_tight_34 rfl (lv_at hl 0 rfl) ?_
  refine w_ldc (z := 1000000) S (List.mem_of_getElem? (i := 3) rfl) (by decide) dX5_tight_35 ?_
  refine c_neT (tgt := 45) S dX5_tight_37 (by decide) (by omega) (by omega) (by omega) ?_
  refine lv_iload_n hx hb dX5_tight_45 rfl (lv_at hl 0 rfl) ?_
  exact hret _ _ _ _ _ dX5_tight_46 (congrArg iI (by omega)) hP hS
set_option maxHeartbeats 4000000 in
set_option maxRecDepth 100000 in
theorem m_truth_U (lc : Launch) (D : va_G) (cI cZ : ClassId) (N : Nat) (q : Nat) (qs : Nat) (qi : Nat) (qk : Nat) (ql : Nat) (mn : Nat) (tA : Int) (sA : Int) (kA : Int) (nb : Nat → Int) (ck : Nat → Int) (hi : Nat → Int) (lo : Nat → Int) (ha : Nat → Int) (cn : Nat → Int) (sm : Nat → Int) (im : Nat → Int) (kp : Nat → Int) (le : Nat → Int) (x : Int) (y : Int) (z : Int) (t1 : Int) (u : Int) (hmn : 2 ≤ mn ∧ mn ≤ 5) (r_x : -2147483648 ≤ x ∧ x ≤ 2147483647) (r_y : -2147483648 ≤ y ∧ y ≤ 2147483647) (h : ¬ ((0 ≤ x ∧ x ≤ (mn : Int) - 1) ∧ (0 ≤ y ∧ y ≤ (mn : Int) - 1))) : CR lc D cI cZ N yX5_truth wsX5_truth (rmK 2 47) [.ref q, .int (iI (x)), .int (iI (y)), .int (iI (z)), .int (iI (t1)), .int (iI (u))] [(q, .inr (5, [.ref qs, .ref qi, .ref qk, .ref ql])), (qs, .inl (cI, 2108, .inl (vI (stF ((mn : Nat) : Int) tA sA kA nb ck hi lo ha cn sm)))), (qi, .inl (cI, 4216, .inl (vI im))), (qk, .inl (cZ, 2, .inl (vI kp))), (ql, .inl (cI, 25, .inl (vI le)))] (some (.int (iI (-1000000001)))) := by
  refine CR.I (cc := cX5_truth) (maxL := 9) (by decide) rfl (Nat.le_of_ble_eq_true rfl) ?_
  intro p e s m args below meth c R Q S hE A hAN hfr hlo hP hD hS hret ls hl
  have S : CallFix p m c cX5_truth 9 s args wsX5_truth RX5 := S
  have hx := S.1
  have hb := S.2.1
  have hl : lv_has ls 9 [(0, .ref q), (1, .int (iI (x))), (2, .int (iI (y))), (3, .int (iI (z))), (4, .int (iI (t1))), (5, .int (iI (u)))] := hl
  by_cases h3 : (0 ≤ x ∧ x ≤ (mn : Int) - 1)
  · refine lv_aload_n hx hb dX5_truth_0 rfl (lv_at hl 0 rfl) ?_
    refine lv_iload_n hx hb dX5_truth_1 rfl (lv_at hl 1 rfl) ?_
    refine kV_R (n := 1) (ci := 5) (q := (RX5, TX5, 4)) S (m_isNode_T lc D cI cZ N q qs qi qk ql mn tA sA kA nb ck hi lo ha cn sm im kp le x (by omega) (by omega) (by omega)) gX5_truth_X5_isNode rfl rfl (by decide +kernel) rfl rfl ⟨Nat.le_trans (Nat.le_of_ble_eq_true rfl) hfr, Nat.le_trans (Nat.le_of_ble_eq_true rfl) hlo⟩ hE hAN hP hD hS [0, 1, 2, 3, 4] rfl (by decide) rfl rfl rfl rfl hl.1 [] rfl (Nat.le_of_ble_eq_true rfl) dX5_truth_2 ⟨Nat.zero_le _, Nat.zero_le _⟩ ?_
    refine W.eq (g2 := F0 m 5 ls [.int (iI (1))]) rfl ?_
    refine b_eqF (tgt := 16) S dX5_truth_5 (by decide) (by decide) (by decide) ?_
    refine lv_aload_n hx hb dX5_truth_8 rfl (lv_at hl 0 rfl) ?_
    refine lv_iload_n hx hb dX5_truth_9 rfl (lv_at hl 2 rfl) ?_
    refine kV_R (n := 1) (ci := 5) (q := (RX5, TX5, 4)) S (m_isNode_F lc D cI cZ N q qs qi qk ql mn tA sA kA nb ck hi lo ha cn sm im kp le y (by omega) (by omega) (by omega)) gX5_truth_X5_isNode rfl rfl (by decide +kernel) rfl rfl ⟨Nat.le_trans (Nat.le_of_ble_eq_true rfl) hfr, Nat.le_trans (Nat.le_of_ble_eq_true rfl) hlo⟩ hE hAN hP hD hS [0, 1, 2, 3, 4] rfl (by decide) rfl rfl rfl rfl hl.1 [] rfl (Nat.le_of_ble_eq_true rfl) dX5_truth_10 ⟨Nat.zero_le _, Nat.zero_le _⟩ ?_
    refine W.eq (g2 := F0 m 13 ls [.int (iI (0))]) rfl ?_
    refine b_neF (tgt := 19) S dX5_truth_13 (by decide) (by decide) ?_
    refine w_ldc (z := (-1000000001)) S (List.mem_of_getElem? (i := 1) rfl) (by decide) dX5_truth_16 ?_
    exact hret _ _ _ dX5_truth_18 (congrArg iI (by omega))
  · refine lv_aload_n hx hb dX5_truth_0 rfl (lv_at hl 0 rfl) ?_
    refine lv_iload_n hx hb dX5_truth_1 rfl (lv_at hl 1 rfl) ?_
    refine kV_R (n := 1) (ci := 5) (q := (RX5, TX5, 4)) S (m_isNode_F lc D cI cZ N q qs qi qk ql mn tA sA kA nb ck hi lo ha cn sm im kp le x (by omega) (by omega) (by omega)) gX5_truth_X5_isNode rfl rfl (by decide +kernel) rfl rfl ⟨Nat.le_trans (Nat.le_of_ble_eq_true rfl) hfr, Nat.le_trans (Nat.le_of_ble_eq_true rfl) hlo⟩ hE hAN hP hD hS [0, 1, 2, 3, 4] rfl (by decide) rfl rfl rfl rfl hl.1 [] rfl (Nat.le_of_ble_eq_true rfl) dX5_truth_2 ⟨Nat.zero_le _, Nat.zero_le _⟩ ?_
    refine W.eq (g2 := F0 m 5 ls [.int (iI (0))]) rfl ?_
    refine b_eqT (tgt := 16) S dX5_truth_5 (by decide) (by decide) ?_
    refine w_ldc (z := (-1000000001)) S (List.mem_of_getElem? (i := 1) rfl) (by decide) dX5_truth_16 ?_
    exact hret _ _ _ dX5_truth_18 (congrArg iI (by omega))
set_option maxHeartbeats 4000000 in
set_option maxRecDepth 100000 in
theorem m_truth_O (lc : Launch) (D : va_G) (cI cZ : ClassId) (N : Nat) (q : Nat) (qs : Nat) (qi : Nat) (qk : Nat) (ql : Nat) (mn : Nat) (tA : Int) (sA : Int) (kA : Int) (nb : Nat → Int) (ck : Nat → Int) (hi : Nat → Int) (lo : Nat → Int) (ha : Nat → Int) (cn : Nat → Int) (sm : Nat → Int) (im : Nat → Int) (kp : Nat → Int) (le : Nat → Int) (x : Int) (y : Int) (z : Int) (t1 : Int) (u : Int) (hmn : 2 ≤ mn ∧ mn ≤ 5) (r_x : -2147483648 ≤ x ∧ x ≤ 2147483647) (r_y : -2147483648 ≤ y ∧ y ≤ 2147483647) (r_z : -2147483648 ≤ z ∧ z ≤ 2147483647) (r_t1 : -2147483648 ≤ t1 ∧ t1 ≤ 2147483647) (r_u : -2147483648 ≤ u ∧ u ≤ 2147483647) (h1 : (0 ≤ x ∧ x ≤ (mn : Int) - 1)) (h2 : (0 ≤ y ∧ y ≤ (mn : Int) - 1)) (h : ¬ (x < y ∧ (0 ≤ z ∧ z ≤ 199) ∧ (0 ≤ t1 ∧ t1 ≤ 1) ∧ (0 ≤ u ∧ u ≤ 1))) : CR lc D cI cZ N yX5_truth wsX5_truth (rmK 2 47) [.ref q, .int (iI (x)), .int (iI (y)), .int (iI (z)), .int (iI (t1)), .int (iI (u))] [(q, .inr (5, [.ref qs, .ref qi, .ref qk, .ref ql])), (qs, .inl (cI, 2108, .inl (vI (stF ((mn : Nat) : Int) tA sA kA nb ck hi lo ha cn sm)))), (qi, .inl (cI, 4216, .inl (vI im))), (qk, .inl (cZ, 2, .inl (vI kp))), (ql, .inl (cI, 25, .inl (vI le)))] (some (.int (iI (-1000000002)))) := by
  refine CR.I (cc := cX5_truth) (maxL := 9) (by decide) rfl (Nat.le_of_ble_eq_true rfl) ?_
  intro p e s m args below meth c R Q S hE A hAN hfr hlo hP hD hS hret ls hl
  have S : CallFix p m c cX5_truth 9 s args wsX5_truth RX5 := S
  have hx := S.1
  have hb := S.2.1
  have hl : lv_has ls 9 [(0, .ref q), (1, .int (iI (x))), (2, .int (iI (y))), (3, .int (iI (z))), (4, .int (iI (t1))), (5, .int (iI (u)))] := hl
  refine lv_aload_n hx hb dX5_truth_0 rfl (lv_at hl 0 rfl) ?_
  refine lv_iload_n hx hb dX5_truth_1 rfl (lv_at hl 1 rfl) ?_
  refine kV_R (n := 1) (ci := 5) (q := (RX5, TX5, 4)) S (m_isNode_T lc D cI cZ N q qs qi qk ql mn tA sA kA nb ck hi lo ha cn sm im kp le x (by omega) (by omega) (by omega)) gX5_truth_X5_isNode rfl rfl (by decide +kernel) rfl rfl ⟨Nat.le_trans (Nat.le_of_ble_eq_true rfl) hfr, Nat.le_trans (Nat.le_of_ble_eq_true rfl) hlo⟩ hE hAN hP hD hS [0, 1, 2, 3, 4] rfl (by decide) rfl rfl rfl rfl hl.1 [] rfl (Nat.le_of_ble_eq_true rfl) dX5_truth_2 ⟨Nat.zero_le _, Nat.zero_le _⟩ ?_
  refine W.eq (g2 := F0 m 5 ls [.int (iI (1))]) rfl ?_
  refine b_eqF (tgt := 16) S dX5_truth_5 (by decide) (by decide) (by decide) ?_
  refine lv_aload_n hx hb dX5_truth_8 rfl (lv_at hl 0 rfl) ?_
  refine lv_iload_n hx hb dX5_truth_9 rfl (lv_at hl 2 rfl) ?_
  refine kV_R (n := 1) (ci := 5) (q := (RX5, TX5, 4)) S (m_isNode_T lc D cI cZ N q qs qi qk ql mn tA sA kA nb ck hi lo ha cn sm im kp le y (by omega) (by omega) (by omega)) gX5_truth_X5_isNode rfl rfl (by decide +kernel) rfl rfl ⟨Nat.le_trans (Nat.le_of_ble_eq_true rfl) hfr, Nat.le_trans (Nat.le_of_ble_eq_true rfl) hlo⟩ hE hAN hP hD hS [0, 1, 2, 3, 4] rfl (by decide) rfl rfl rfl rfl hl.1 [] rfl (Nat.le_of_ble_eq_true rfl) dX5_truth_10 ⟨Nat.zero_le _, Nat.zero_le _⟩ ?_
  refine W.eq (g2 := F0 m 13 ls [.int (iI (1))]) rfl ?_
  refine b_neT (tgt := 19) S dX5_truth_13 (by decide) (by decide) (by decide) ?_
  by_cases h3 : x < y
  · refine lv_iload_n hx hb dX5_truth_19 rfl (lv_at hl 2 rfl) ?_
    refine lv_iload_n hx hb dX5_truth_20 rfl (lv_at hl 1 rfl) ?_
    refine c_leF (tgt := 51) S dX5_truth_21 (by decide) (by omega) (by omega) (by omega) ?_
    by_cases h4 : (0 ≤ z ∧ z ≤ 199)
    · refine lv_iload_n hx hb dX5_truth_24 rfl (lv_at hl 3 rfl) ?_
      refine kS_R (n := 1) S (m_isBlock_T lc D cI cZ N z (by omega) (by omega)) gX5_truth_X5_isBlock rfl (by decide +kernel) rfl rfl ⟨Nat.le_trans (Nat.le_of_ble_eq_true rfl) hfr, Nat.le_trans (Nat.le_of_ble_eq_true rfl) hlo⟩ hE hAN hP hD hS [] rfl (by decide) rfl hl.1 [] rfl (Nat.le_of_ble_eq_true rfl) dX5_truth_25 ⟨Nat.zero_le _, Nat.zero_le _⟩ ?_
      refine W.eq (g2 := F0 m 28 ls [.int (iI (1))]) rfl ?_
      refine b_eqF (tgt := 51) S dX5_truth_28 (by decide) (by decide) (by decide) ?_
      by_cases h5 : (0 ≤ t1 ∧ t1 ≤ 1)
      · refine lv_iload hx hb dX5_truth_31 (lv_at hl 4 rfl) ?_
        refine lv_iconst (v := iI (0)) hx hb dX5_truth_33 rfl ?_
        refine lv_iconst (v := iI (1)) hx hb dX5_truth_34 rfl ?_
        refine kS_R (n := 3) S (m_in_T lc D cI cZ N t1 0 1 (by omega) (by omega) (by omega) (by omega)) gX5_truth_X5_in rfl (by decide +kernel) rfl rfl ⟨Nat.le_trans (Nat.le_of_ble_eq_true rfl) hfr, Nat.le_trans (Nat.le_of_ble_eq_true rfl) hlo⟩ hE hAN hP hD hS [] rfl (by decide) rfl hl.1 [] rfl (Nat.le_of_ble_eq_true rfl) dX5_truth_35 ⟨Nat.zero_le _, Nat.zero_le _⟩ ?_
        refine W.eq (g2 := F0 m 38 ls [.int (iI (1))]) rfl ?_
        refine b_eqF (tgt := 51) S dX5_truth_38 (by decide) (by decide) (by decide) ?_
        refine lv_iload hx hb dX5_truth_41 (lv_at hl 5 rfl) ?_
        refine lv_iconst (v := iI (0)) hx hb dX5_truth_43 rfl ?_
        refine lv_iconst (v := iI (1)) hx hb dX5_truth_44 rfl ?_
        refine kS_R (n := 3) S (m_in_F lc D cI cZ N u 0 1 (by omega) (by omega) (by omega) (by omega)) gX5_truth_X5_in rfl (by decide +kernel) rfl rfl ⟨Nat.le_trans (Nat.le_of_ble_eq_true rfl) hfr, Nat.le_trans (Nat.le_of_ble_eq_true rfl) hlo⟩ hE hAN hP hD hS [] rfl (by decide) rfl hl.1 [] rfl (Nat.le_of_ble_eq_true rfl) dX5_truth_45 ⟨Nat.zero_le _, Nat.zero_le _⟩ ?_
        refine W.eq (g2 := F0 m 48 ls [.int (iI (0))]) rfl ?_
        refine b_neF (tgt := 54) S dX5_truth_48 (by decide) (by decide) ?_
        refine w_ldc (z := (-1000000002)) S (List.mem_of_getElem? (i := 2) rfl) (by decide) dX5_truth_51 ?_
        exact hret _ _ _ dX5_truth_53 (congrArg iI (by omega))
      · refine lv_iload hx hb dX5_truth_31 (lv_at hl 4 rfl) ?_
        refine lv_iconst (v := iI (0)) hx hb dX5_truth_33 rfl ?_
        refine lv_iconst (v := iI (1)) hx hb dX5_truth_34 rfl ?_
        refine kS_R (n := 3) S (m_in_F lc D cI cZ N t1 0 1 (by omega) (by omega) (by omega) (by omega)) gX5_truth_X5_in rfl (by decide +kernel) rfl rfl ⟨Nat.le_trans (Nat.le_of_ble_eq_true rfl) hfr, Nat.le_trans (Nat.le_of_ble_eq_true rfl) hlo⟩ hE hAN hP hD hS [] rfl (by decide) rfl hl.1 [] rfl (Nat.le_of_ble_eq_true rfl) dX5_truth_35 ⟨Nat.zero_le _, Nat.zero_le _⟩ ?_
        refine W.eq (g2 := F0 m 38 ls [.int (iI (0))]) rfl ?_
        refine b_eqT (tgt := 51) S dX5_truth_38 (by decide) (by decide) ?_
        refine w_ldc (z := (-1000000002)) S (List.mem_of_getElem? (i := 2) rfl) (by decide) dX5_truth_51 ?_
        exact hret _ _ _ dX5_truth_53 (congrArg iI (by omega))
    · refine lv_iload_n hx hb dX5_truth_24 rfl (lv_at hl 3 rfl) ?_
      refine kS_R (n := 1) S (m_isBlock_F lc D cI cZ N z (by omega) (by omega)) gX5_truth_X5_isBlock rfl (by decide +kernel) rfl rfl ⟨Nat.le_trans (Nat.le_of_ble_eq_true rfl) hfr, Nat.le_trans (Nat.le_of_ble_eq_true rfl) hlo⟩ hE hAN hP hD hS [] rfl (by decide) rfl hl.1 [] rfl (Nat.le_of_ble_eq_true rfl) dX5_truth_25 ⟨Nat.zero_le _, Nat.zero_le _⟩ ?_
      refine W.eq (g2 := F0 m 28 ls [.int (iI (0))]) rfl ?_
      refine b_eqT (tgt := 51) S dX5_truth_28 (by decide) (by decide) ?_
      refine w_ldc (z := (-1000000002)) S (List.mem_of_getElem? (i := 2) rfl) (by decide) dX5_truth_51 ?_
      exact hret _ _ _ dX5_truth_53 (congrArg iI (by omega))
  · refine lv_iload_n hx hb dX5_truth_19 rfl (lv_at hl 2 rfl) ?_
    refine lv_iload_n hx hb dX5_truth_20 rfl (lv_at hl 1 rfl) ?_
    refine c_leT (tgt := 51) S dX5_truth_21 (by decide) (by omega) (by omega) (by omega) ?_
    refine w_ldc (z := (-1000000002)) S (List.mem_of_getElem? (i := 2) rfl) (by decide) dX5_truth_51 ?_
    exact hret _ _ _ dX5_truth_53 (congrArg iI (by omega))
set_option maxHeartbeats 4000000 in
set_option maxRecDepth 100000 in
theorem m_truth_N (lc : Launch) (D : va_G) (cI cZ : ClassId) (N : Nat) (q : Nat) (qs : Nat) (qi : Nat) (qk : Nat) (ql : Nat) (mn : Nat) (tA : Int) (sA : Int) (kA : Int) (nb : Nat → Int) (ck : Nat → Int) (hi : Nat → Int) (lo : Nat → Int) (ha : Nat → Int) (cn : Nat → Int) (sm : Nat → Int) (im : Nat → Int) (kp : Nat → Int) (le : Nat → Int) (f : Nat) (g : Nat) (bk : Nat) (t1 : Int) (u : Int) (hmn : 2 ≤ mn ∧ mn ≤ 5) (hfg : f < g) (hgm : g < mn) (hbk : bk < 200) (hcn : ∀ k, k < 1000 → 0 ≤ cn k ∧ cn k ≤ 200) (r_t1 : -2147483648 ≤ t1 ∧ t1 ≤ 2147483647) (r_u : -2147483648 ≤ u ∧ u ≤ 2147483647) (h : (0 ≤ u ∧ u ≤ 1)) (h1 : (0 ≤ t1 ∧ t1 ≤ 1)) (h2 : ¬ (0 < cn (f * 200 + bk) ∧ cn (f * 200 + bk) = cn (g * 200 + bk))) : CR lc D cI cZ N yX5_truth wsX5_truth (rmK 2 47) [.ref q, .int (iI (((f : Nat) : Int))), .int (iI (((g : Nat) : Int))), .int (iI (((bk : Nat) : Int))), .int (iI (t1)), .int (iI (u))] [(q, .inr (5, [.ref qs, .ref qi, .ref qk, .ref ql])), (qs, .inl (cI, 2108, .inl (vI (stF ((mn : Nat) : Int) tA sA kA nb ck hi lo ha cn sm)))), (qi, .inl (cI, 4216, .inl (vI im))), (qk, .inl (cZ, 2, .inl (vI kp))), (ql, .inl (cI, 25, .inl (vI le)))] (some (.int (iI (-1000000005)))) := by
  refine CR.I (cc := cX5_truth) (maxL := 9) (by decide) rfl (Nat.le_of_ble_eq_true rfl) ?_
  intro p e s m args below meth c R Q S hE A hAN hfr hlo hP hD hS hret ls hl
  have S : CallFix p m c cX5_truth 9 s args wsX5_truth RX5 := S
  have hx := S.1
  have hb := S.2.1
  have hl : lv_has ls 9 [(0, .ref q), (1, .int (iI (((f : Nat) : Int)))), (2, .int (iI (((g : Nat) : Int)))), (3, .int (iI (((bk : Nat) : Int)))), (4, .int (iI (t1))), (5, .int (iI (u)))] := hl
  refine lv_aload_n hx hb dX5_truth_0 rfl (lv_at hl 0 rfl) ?_
  refine lv_iload_n hx hb dX5_truth_1 rfl (lv_at hl 1 rfl) ?_
  refine kV_R (n := 1) (ci := 5) (q := (RX5, TX5, 4)) S (m_isNode_T lc D cI cZ N q qs qi qk ql mn tA sA kA nb ck hi lo ha cn sm im kp le ((f : Nat) : Int) (by omega) (by omega) (by omega)) gX5_truth_X5_isNode rfl rfl (by decide +kernel) rfl rfl ⟨Nat.le_trans (Nat.le_of_ble_eq_true rfl) hfr, Nat.le_trans (Nat.le_of_ble_eq_true rfl) hlo⟩ hE hAN hP hD hS [0, 1, 2, 3, 4] rfl (by decide) rfl rfl rfl rfl hl.1 [] rfl (Nat.le_of_ble_eq_true rfl) dX5_truth_2 ⟨Nat.zero_le _, Nat.zero_le _⟩ ?_
  refine W.eq (g2 := F0 m 5 ls [.int (iI (1))]) rfl ?_
  refine b_eqF (tgt := 16) S dX5_truth_5 (by decide) (by decide) (by decide) ?_
  refine lv_aload_n hx hb dX5_truth_8 rfl (lv_at hl 0 rfl) ?_
  refine lv_iload_n hx hb dX5_truth_9 rfl (lv_at hl 2 rfl) ?_
  refine kV_R (n := 1) (ci := 5) (q := (RX5, TX5, 4)) S (m_isNode_T lc D cI cZ N q qs qi qk ql mn tA sA kA nb ck hi lo ha cn sm im kp le ((g : Nat) : Int) (by omega) (by omega) (by omega)) gX5_truth_X5_isNode rfl rfl (by decide +kernel) rfl rfl ⟨Nat.le_trans (Nat.le_of_ble_eq_true rfl) hfr, Nat.le_trans (Nat.le_of_ble_eq_true rfl) hlo⟩ hE hAN hP hD hS [0, 1, 2, 3, 4] rfl (by decide) rfl rfl rfl rfl hl.1 [] rfl (Nat.le_of_ble_eq_true rfl) dX5_truth_10 ⟨Nat.zero_le _, Nat.zero_le _⟩ ?_
  refine W.eq (g2 := F0 m 13 ls [.int (iI (1))]) rfl ?_
  refine b_neT (tgt := 19) S dX5_truth_13 (by decide) (by decide) (by decide) ?_
  refine lv_iload_n hx hb dX5_truth_19 rfl (lv_at hl 2 rfl) ?_
  refine lv_iload_n hx hb dX5_truth_20 rfl (lv_at hl 1 rfl) ?_
  refine c_leF (tgt := 51) S dX5_truth_21 (by decide) (by omega) (by omega) (by omega) ?_
  refine lv_iload_n hx hb dX5_truth_24 rfl (lv_at hl 3 rfl) ?_
  refine kS_R (n := 1) S (m_isBlock_T lc D cI cZ N ((bk : Nat) : Int) (by omega) (by omega)) gX5_truth_X5_isBlock rfl (by decide +kernel) rfl rfl ⟨Nat.le_trans (Nat.le_of_ble_eq_true rfl) hfr, Nat.le_trans (Nat.le_of_ble_eq_true rfl) hlo⟩ hE hAN hP hD hS [] rfl (by decide) rfl hl.1 [] rfl (Nat.le_of_ble_eq_true rfl) dX5_truth_25 ⟨Nat.zero_le _, Nat.zero_le _⟩ ?_
  refine W.eq (g2 := F0 m 28 ls [.int (iI (1))]) rfl ?_
  refine b_eqF (tgt := 51) S dX5_truth_28 (by decide) (by decide) (by decide) ?_
  refine lv_iload hx hb dX5_truth_31 (lv_at hl 4 rfl) ?_
  refine lv_iconst (v := iI (0)) hx hb dX5_truth_33 rfl ?_
  refine lv_iconst (v := iI (1)) hx hb dX5_truth_34 rfl ?_
  refine kS_R (n := 3) S (m_in_T lc D cI cZ N t1 0 1 (by omega) (by omega) (by omega) (by omega)) gX5_truth_X5_in rfl (by decide +kernel) rfl rfl ⟨Nat.le_trans (Nat.le_of_ble_eq_true rfl) hfr, Nat.le_trans (Nat.le_of_ble_eq_true rfl) hlo⟩ hE hAN hP hD hS [] rfl (by decide) rfl hl.1 [] rfl (Nat.le_of_ble_eq_true rfl) dX5_truth_35 ⟨Nat.zero_le _, Nat.zero_le _⟩ ?_
  refine W.eq (g2 := F0 m 38 ls [.int (iI (1))]) rfl ?_
  refine b_eqF (tgt := 51) S dX5_truth_38 (by decide) (by decide) (by decide) ?_
  refine lv_iload hx hb dX5_truth_41 (lv_at hl 5 rfl) ?_
  refine lv_iconst (v := iI (0)) hx hb dX5_truth_43 rfl ?_
  refine lv_iconst (v := iI (1)) hx hb dX5_truth_44 rfl ?_
  refine kS_R (n := 3) S (m_in_T lc D cI cZ N u 0 1 (by omega) (by omega) (by omega) (by omega)) gX5_truth_X5_in rfl (by decide +kernel) rfl rfl ⟨Nat.le_trans (Nat.le_of_ble_eq_true rfl) hfr, Nat.le_trans (Nat.le_of_ble_eq_true rfl) hlo⟩ hE hAN hP hD hS [] rfl (by decide) rfl hl.1 [] rfl (Nat.le_of_ble_eq_true rfl) dX5_truth_45 ⟨Nat.zero_le _, Nat.zero_le _⟩ ?_
  refine W.eq (g2 := F0 m 48 ls [.int (iI (1))]) rfl ?_
  refine b_neT (tgt := 54) S dX5_truth_48 (by decide) (by decide) (by decide) ?_
  refine lv_aload_n hx hb dX5_truth_54 rfl (lv_at hl 0 rfl) ?_
  refine lv_iload_n hx hb dX5_truth_55 rfl (lv_at hl 1 rfl) ?_
  refine lv_iload_n hx hb dX5_truth_56 rfl (lv_at hl 2 rfl) ?_
  refine lv_iload_n hx hb dX5_truth_57 rfl (lv_at hl 3 rfl) ?_
  refine kV_R (n := 3) (ci := 5) (q := (RX5, TX5, 4)) S (m_isTaken_F lc D cI cZ N q qs qi qk ql mn tA sA kA nb ck hi lo ha cn sm im kp le f g bk (by omega) (by omega) (by omega) (by omega) (by omega)) gX5_truth_X5_isTaken rfl rfl (by decide +kernel) rfl rfl ⟨Nat.le_trans (Nat.le_of_ble_eq_true rfl) hfr, Nat.le_trans (Nat.le_of_ble_eq_true rfl) hlo⟩ hE hAN hP hD hS [0, 1, 2, 3, 4] rfl (by decide) rfl rfl rfl rfl hl.1 [] rfl (Nat.le_of_ble_eq_true rfl) dX5_truth_58 ⟨Nat.zero_le _, Nat.zero_le _⟩ ?_
  refine W.eq (g2 := F0 m 61 ls [.int (iI (0))]) rfl ?_
  refine b_neF (tgt := 67) S dX5_truth_61 (by decide) (by decide) ?_
  refine w_ldc (z := (-1000000005)) S (List.mem_of_getElem? (i := 3) rfl) (by decide) dX5_truth_64 ?_
  exact hret _ _ _ dX5_truth_66 (congrArg iI (by omega))
set_option maxHeartbeats 4000000 in
set_option maxRecDepth 100000 in
theorem m_truth_T0 (lc : Launch) (D : va_G) (cI cZ : ClassId) (N : Nat) (q : Nat) (qs : Nat) (qi : Nat) (qk : Nat) (ql : Nat) (mn : Nat) (tA : Int) (sA : Int) (kA : Int) (nb : Nat → Int) (ck : Nat → Int) (hi : Nat → Int) (lo : Nat → Int) (ha : Nat → Int) (cn : Nat → Int) (sm : Nat → Int) (im : Nat → Int) (kp : Nat → Int) (le : Nat → Int) (f : Nat) (g : Nat) (bk : Nat) (u : Int) (hmn : 2 ≤ mn ∧ mn ≤ 5) (hfg : f < g) (hgm : g < mn) (hbk : bk < 200) (hcn : ∀ k, k < 1000 → 0 ≤ cn k ∧ cn k ≤ 200) (hck : ∀ k, k < 5 → -99 ≤ ck k ∧ ck k ≤ 99) (hpot : potOK ck (lay0 hi lo ha)) (hhi : ∀ k, k < 25 → -100000 ≤ hi k ∧ hi k ≤ 100000) (hlo2 : ∀ k, k < 25 → -100000 ≤ lo k ∧ lo k ≤ 100000) (hha : ∀ k, k < 25 → ha k = 0 ∨ ha k = 1) (r_u : -2147483648 ≤ u ∧ u ≤ 2147483647) (h : (0 ≤ u ∧ u ≤ 1)) (h2 : 0 < cn (f * 200 + bk) ∧ cn (f * 200 + bk) = cn (g * 200 + bk)) (h5 : fwO (lay0 hi lo ha) 5 (g * 5 + f) = 1000000) : CM lc D cI cZ N yX5_truth wsX5_truth (rmK 2 47) [.ref q, .int (iI (((f : Nat) : Int))), .int (iI (((g : Nat) : Int))), .int (iI (((bk : Nat) : Int))), .int (iI (0)), .int (iI (u))] [(q, .inr (5, [.ref qs, .ref qi, .ref qk, .ref ql])), (qs, .inl (cI, 2108, .inl (vI (stF ((mn : Nat) : Int) tA sA kA nb ck hi lo ha cn sm)))), (qi, .inl (cI, 4216, .inl (vI im))), (qk, .inl (cZ, 2, .inl (vI kp))), (ql, .inl (cI, 25, .inl (vI le)))] (some (.int (iI (-1000000006)))) [(q, .inr (5, [.ref qs, .ref qi, .ref qk, .ref ql])), (qs, .inl (cI, 2108, .inl (vI (stF ((mn : Nat) : Int) tA sA kA nb ck hi lo ha cn sm)))), (qi, .inl (cI, 4216, .inl (vI im))), (qk, .inl (cZ, 2, .inl (vI kp))), (ql, .inl (cI, 25, .inl (vI (fwO (lay0 hi lo ha) 5))))] := by
  refine CM.I (cc := cX5_truth) (maxL := 9) (by decide) rfl (Nat.le_of_ble_eq_true rfl) ?_
  intro p e s m args below meth c R Q S hE A hAN hfr hlo hP hD hS hret ls hl
  have S : CallFix p m c cX5_truth 9 s args wsX5_truth RX5 := S
  have hx := S.1
  have hb := S.2.1
  have hl : lv_has ls 9 [(0, .ref q), (1, .int (iI (((f : Nat) : Int)))), (2, .int (iI (((g : Nat) : Int)))), (3, .int (iI (((bk : Nat) : Int)))), (4, .int (iI (0))), (5, .int (iI (u)))] := hl
  have g1 := fwO_pot hpot 5 (by omega) (g * 5 + f) (by omega)
  have k1 := hck ((g * 5 + f) % 5) (by omega)
  have k2 := hck ((g * 5 + f) / 5) (by omega)
  refine lv_aload_n hx hb dX5_truth_0 rfl (lv_at hl 0 rfl) ?_
  refine lv_iload_n hx hb dX5_truth_1 rfl (lv_at hl 1 rfl) ?_
  refine kV_R (n := 1) (ci := 5) (q := (RX5, TX5, 4)) S (m_isNode_T lc D cI cZ N q qs qi qk ql mn tA sA kA nb ck hi lo ha cn sm im kp le ((f : Nat) : Int) (by omega) (by omega) (by omega)) gX5_truth_X5_isNode rfl rfl (by decide +kernel) rfl rfl ⟨Nat.le_trans (Nat.le_of_ble_eq_true rfl) hfr, Nat.le_trans (Nat.le_of_ble_eq_true rfl) hlo⟩ hE hAN hP hD hS [0, 1, 2, 3, 4] rfl (by decide) rfl rfl rfl rfl hl.1 [] rfl (Nat.le_of_ble_eq_true rfl) dX5_truth_2 ⟨Nat.zero_le _, Nat.zero_le _⟩ ?_
  refine W.eq (g2 := F0 m 5 ls [.int (iI (1))]) rfl ?_
  refine b_eqF (tgt := 16) S dX5_truth_5 (by decide) (by decide) (by decide) ?_
  refine lv_aload_n hx hb dX5_truth_8 rfl (lv_at hl 0 rfl) ?_
  refine lv_iload_n hx hb dX5_truth_9 rfl (lv_at hl 2 rfl) ?_
  refine kV_R (n := 1) (ci := 5) (q := (RX5, TX5, 4)) S (m_isNode_T lc D cI cZ N q qs qi qk ql mn tA sA kA nb ck hi lo ha cn sm im kp le ((g : Nat) : Int) (by omega) (by omega) (by omega)) gX5_truth_X5_isNode rfl rfl (by decide +kernel) rfl rfl ⟨Nat.le_trans (Nat.le_of_ble_eq_true rfl) hfr, Nat.le_trans (Nat.le_of_ble_eq_true rfl) hlo⟩ hE hAN hP hD hS [0, 1, 2, 3, 4] rfl (by decide) rfl rfl rfl rfl hl.1 [] rfl (Nat.le_of_ble_eq_true rfl) dX5_truth_10 ⟨Nat.zero_le _, Nat.zero_le _⟩ ?_
  refine W.eq (g2 := F0 m 13 ls [.int (iI (1))]) rfl ?_
  refine b_neT (tgt := 19) S dX5_truth_13 (by decide) (by decide) (by decide) ?_
  refine lv_iload_n hx hb dX5_truth_19 rfl (lv_at hl 2 rfl) ?_
  refine lv_iload_n hx hb dX5_truth_20 rfl (lv_at hl 1 rfl) ?_
  refine c_leF (tgt := 51) S dX5_truth_21 (by decide) (by omega) (by omega) (by omega) ?_
  refine lv_iload_n hx hb dX5_truth_24 rfl (lv_at hl 3 rfl) ?_
  refine kS_R (n := 1) S (m_isBlock_T lc D cI cZ N ((bk : Nat) : Int) (by omega) (by omega)) gX5_truth_X5_isBlock rfl (by decide +kernel) rfl rfl ⟨Nat.le_trans (Nat.le_of_ble_eq_true rfl) hfr, Nat.le_trans (Nat.le_of_ble_eq_true rfl) hlo⟩ hE hAN hP hD hS [] rfl (by decide) rfl hl.1 [] rfl (Nat.le_of_ble_eq_true rfl) dX5_truth_25 ⟨Nat.zero_le _, Nat.zero_le _⟩ ?_
  refine W.eq (g2 := F0 m 28 ls [.int (iI (1))]) rfl ?_
  refine b_eqF (tgt := 51) S dX5_truth_28 (by decide) (by decide) (by decide) ?_
  refine lv_iload hx hb dX5_truth_31 (lv_at hl 4 rfl) ?_
  refine lv_iconst (v := iI (0)) hx hb dX5_truth_33 rfl ?_
  refine lv_iconst (v := iI (1)) hx hb dX5_truth_34 rfl ?_
  refine kS_R (n := 3) S (m_in_T lc D cI cZ N 0 0 1 (by omega) (by omega) (by omega) (by omega)) gX5_truth_X5_in rfl (by decide +kernel) rfl rfl ⟨Nat.le_trans (Nat.le_of_ble_eq_true rfl) hfr, Nat.le_trans (Nat.le_of_ble_eq_true rfl) hlo⟩ hE hAN hP hD hS [] rfl (by decide) rfl hl.1 [] rfl (Nat.le_of_ble_eq_true rfl) dX5_truth_35 ⟨Nat.zero_le _, Nat.zero_le _⟩ ?_
  refine W.eq (g2 := F0 m 38 ls [.int (iI (1))]) rfl ?_
  refine b_eqF (tgt := 51) S dX5_truth_38 (by decide) (by decide) (by decide) ?_
  refine lv_iload hx hb dX5_truth_41 (lv_at hl 5 rfl) ?_
  refine lv_iconst (v := iI (0)) hx hb dX5_truth_43 rfl ?_
  refine lv_iconst (v := iI (1)) hx hb dX5_truth_44 rfl ?_
  refine kS_R (n := 3) S (m_in_T lc D cI cZ N u 0 1 (by omega) (by omega) (by omega) (by omega)) gX5_truth_X5_in rfl (by decide +kernel) rfl rfl ⟨Nat.le_trans (Nat.le_of_ble_eq_true rfl) hfr, Nat.le_trans (Nat.le_of_ble_eq_true rfl) hlo⟩ hE hAN hP hD hS [] rfl (by decide) rfl hl.1 [] rfl (Nat.le_of_ble_eq_true rfl) dX5_truth_45 ⟨Nat.zero_le _, Nat.zero_le _⟩ ?_
  refine W.eq (g2 := F0 m 48 ls [.int (iI (1))]) rfl ?_
  refine b_neT (tgt := 54) S dX5_truth_48 (by decide) (by decide) (by decide) ?_
  refine lv_aload_n hx hb dX5_truth_54 rfl (lv_at hl 0 rfl) ?_
  refine lv_iload_n hx hb dX5_truth_55 rfl (lv_at hl 1 rfl) ?_
  refine lv_iload_n hx hb dX5_truth_56 rfl (lv_at hl 2 rfl) ?_
  refine lv_iload_n hx hb dX5_truth_57 rfl (lv_at hl 3 rfl) ?_
  refine kV_R (n := 3) (ci := 5) (q := (RX5, TX5, 4)) S (m_isTaken_T lc D cI cZ N q qs qi qk ql mn tA sA kA nb ck hi lo ha cn sm im kp le f g bk (by omega) (by omega) (by omega) (by omega) (by omega)) gX5_truth_X5_isTaken rfl rfl (by decide +kernel) rfl rfl ⟨Nat.le_trans (Nat.le_of_ble_eq_true rfl) hfr, Nat.le_trans (Nat.le_of_ble_eq_true rfl) hlo⟩ hE hAN hP hD hS [0, 1, 2, 3, 4] rfl (by decide) rfl rfl rfl rfl hl.1 [] rfl (Nat.le_of_ble_eq_true rfl) dX5_truth_58 ⟨Nat.zero_le _, Nat.zero_le _⟩ ?_
  refine W.eq (g2 := F0 m 61 ls [.int (iI (1))]) rfl ?_
  refine b_neT (tgt := 67) S dX5_truth_61 (by decide) (by decide) (by decide) ?_
  refine lv_aload_n hx hb dX5_truth_67 rfl (lv_at hl 0 rfl) ?_
  refine kV_M (n := 0) (ci := 5) (q := (RX5, TX5, 4)) S (m_layLeast lc D cI cZ N q qs qi qk ql mn tA sA kA nb ck hi lo ha cn sm im kp le hck hpot hhi hlo2 hha) gX5_truth_X5_layLeast rfl rfl (by decide +kernel) rfl rfl ⟨Nat.le_trans (Nat.le_of_ble_eq_true rfl) hfr, Nat.le_trans (Nat.le_of_ble_eq_true rfl) hlo⟩ hE hAN hP hD hS [0, 1, 2, 3, 4] rfl (by decide) rfl rfl rfl rfl rfl hl.1 [] rfl (Nat.le_of_ble_eq_true rfl) dX5_truth_68 ⟨Nat.zero_le _, Nat.zero_le _⟩ (fun H locs hP hD hS => ?_)
  have hP : va_P D vwCl [(q, .inr (5, [.ref qs, .ref qi, .ref qk, .ref ql])), (qs, .inl (cI, 2108, .inl (vI (stF ((mn : Nat) : Int) tA sA kA nb ck hi lo ha cn sm)))), (qi, .inl (cI, 4216, .inl (vI im))), (qk, .inl (cZ, 2, .inl (vI kp))), (ql, .inl (cI, 25, .inl (vI (fwO (lay0 hi lo ha) 5))))] H := hP
  have hD : va_D A [(q, .inr (5, [.ref qs, .ref qi, .ref qk, .ref ql])), (qs, .inl (cI, 2108, .inl (vI (stF ((mn : Nat) : Int) tA sA kA nb ck hi lo ha cn sm)))), (qi, .inl (cI, 4216, .inl (vI im))), (qk, .inl (cZ, 2, .inl (vI kp))), (ql, .inl (cI, 25, .inl (vI (fwO (lay0 hi lo ha) 5))))] := hD
  refine W.eq (g2 := F0 m 71 ls []) rfl ?_
  refine lv_iload hx hb dX5_truth_71 (lv_at hl 4 rfl) ?_
  refine b_neF (tgt := 89) S dX5_truth_73 (by decide) (by decide) ?_
  refine lv_aload_n hx hb dX5_truth_76 rfl (lv_at hl 0 rfl) ?_
  refine w_get (C := RX5) (T := TX5) (Nf := 4) (ci := 5) (v := .ref ql) S (fun _ h => List.mem_cons_of_mem _ (List.mem_append_right _ h)) hE hP 0 rfl rfl 3 (by decide) (List.mem_of_getElem? (i := 4) rfl) rfl dX5_truth_77 ?_
  refine lv_iconst (v := iI (5)) hx hb dX5_truth_80 rfl ?_
  refine lv_iload_n hx hb dX5_truth_81 rfl (lv_at hl 2 rfl) ?_
  refine w_imul S dX5_truth_82 ?_
  refine lv_iload_n hx hb dX5_truth_83 rfl (lv_at hl 1 rfl) ?_
  refine w_iadd S dX5_truth_84 ?_
  refine w_iald S hE hP 4 rfl (g * 5 + f) (by omega) (by omega) (by omega) dX5_truth_85 ?_
  refine lv_goto (tgt := 99) hx hb dX5_truth_86 (by decide) ?_
  refine lv_istore (lv' := [(6, .int (iI ((fwO (lay0 hi lo ha) 5) (g * 5 + f)))), (0, .ref q), (1, .int (iI (((f : Nat) : Int)))), (2, .int (iI (((g : Nat) : Int)))), (3, .int (iI (((bk : Nat) : Int)))), (4, .int (iI (0))), (5, .int (iI (u)))]) hx hb dX5_truth_99 hl (by decide) rfl (fun ls hl => ?_)
  refine lv_iload hx hb dX5_truth_101 (lv_at hl 0 rfl) ?_
  refine w_ldc (z := 1000000) S (List.mem_of_getElem? (i := 5) rfl) (by decide) dX5_truth_103 ?_
  refine c_neF (tgt := 111) S dX5_truth_105 (by decide) (by omega) ?_
  refine w_ldc (z := (-1000000006)) S (List.mem_of_getElem? (i := 6) rfl) (by decide) dX5_truth_108 ?_
  exact hret _ _ _ _ _ dX5_truth_110 (congrArg iI (by omega)) hP hS
set_option maxHeartbeats 4000000 in
set_option maxRecDepth 100000 in
theorem m_truth_00 (lc : Launch) (D : va_G) (cI cZ : ClassId) (N : Nat) (q : Nat) (qs : Nat) (qi : Nat) (qk : Nat) (ql : Nat) (mn : Nat) (tA : Int) (sA : Int) (kA : Int) (nb : Nat → Int) (ck : Nat → Int) (hi : Nat → Int) (lo : Nat → Int) (ha : Nat → Int) (cn : Nat → Int) (sm : Nat → Int) (im : Nat → Int) (kp : Nat → Int) (le : Nat → Int) (f : Nat) (g : Nat) (bk : Nat) (wq : Nat) (hmn : 2 ≤ mn ∧ mn ≤ 5) (hfg : f < g) (hgm : g < mn) (hbk : bk < 200) (hcn : ∀ k, k < 1000 → 0 ≤ cn k ∧ cn k ≤ 200) (hck : ∀ k, k < 5 → -99 ≤ ck k ∧ ck k ≤ 99) (hpot : potOK ck (lay0 hi lo ha)) (hhi : ∀ k, k < 25 → -100000 ≤ hi k ∧ hi k ≤ 100000) (hlo2 : ∀ k, k < 25 → -100000 ≤ lo k ∧ lo k ≤ 100000) (hha : ∀ k, k < 25 → ha k = 0 ∨ ha k = 1) (h2 : 0 < cn (f * 200 + bk) ∧ cn (f * 200 + bk) = cn (g * 200 + bk)) (h5 : fwO (lay0 hi lo ha) 5 (g * 5 + f) ≠ 1000000) (hwq : cn (g * 200 + bk) = ((wq : Nat) : Int)) (hwq2 : 0 < wq ∧ wq ≤ 200) (hU : -1000000000 ≤ ((sm (g * 200 + bk) - sm (f * 200 + bk)) + (fwO (lay0 hi lo ha) 5 (g * 5 + f)) * ((wq : Nat) : Int)) ∧ ((sm (g * 200 + bk) - sm (f * 200 + bk)) + (fwO (lay0 hi lo ha) 5 (g * 5 + f)) * ((wq : Nat) : Int)) ≤ 1000000000) : CM lc D cI cZ N yX5_truth wsX5_truth (rmK 2 47) [.ref q, .int (iI (((f : Nat) : Int))), .int (iI (((g : Nat) : Int))), .int (iI (((bk : Nat) : Int))), .int (iI (0)), .int (iI (0))] [(q, .inr (5, [.ref qs, .ref qi, .ref qk, .ref ql])), (qs, .inl (cI, 2108, .inl (vI (stF ((mn : Nat) : Int) tA sA kA nb ck hi lo ha cn sm)))), (qi, .inl (cI, 4216, .inl (vI im))), (qk, .inl (cZ, 2, .inl (vI kp))), (ql, .inl (cI, 25, .inl (vI le)))] (some (.int (iI (((sm (g * 200 + bk) - sm (f * 200 + bk)) + (fwO (lay0 hi lo ha) 5 (g * 5 + f)) * ((wq : Nat) : Int)).tdiv ((Nat.gcd (((sm (g * 200 + bk) - sm (f * 200 + bk)) + (fwO (lay0 hi lo ha) 5 (g * 5 + f)) * ((wq : Nat) : Int))).natAbs wq : Nat) : Int))))) [(q, .inr (5, [.ref qs, .ref qi, .ref qk, .ref ql])), (qs, .inl (cI, 2108, .inl (vI (stF ((mn : Nat) : Int) tA sA kA nb ck hi lo ha cn sm)))), (qi, .inl (cI, 4216, .inl (vI im))), (qk, .inl (cZ, 2, .inl (vI kp))), (ql, .inl (cI, 25, .inl (vI (fwO (lay0 hi lo ha) 5))))] := by
  refine CM.I (cc := cX5_truth) (maxL := 9) (by decide) rfl (Nat.le_of_ble_eq_true rfl) ?_
  intro p e s m args below meth c R Q S hE A hAN hfr hlo hP hD hS hret ls hl
  have S : CallFix p m c cX5_truth 9 s args wsX5_truth RX5 := S
  have hx := S.1
  have hb := S.2.1
  have hl : lv_has ls 9 [(0, .ref q), (1, .int (iI (((f : Nat) : Int)))), (2, .int (iI (((g : Nat) : Int)))), (3, .int (iI (((bk : Nat) : Int)))), (4, .int (iI (0))), (5, .int (iI (0)))] := hl
  have g1 := fwO_pot hpot 5 (by omega) (g * 5 + f) (by omega)
  have k1 := hck ((g * 5 + f) % 5) (by omega)
  have k2 := hck ((g * 5 + f) / 5) (by omega)
  refine lv_aload_n hx hb dX5_truth_0 rfl (lv_at hl 0 rfl) ?_
  refine lv_iload_n hx hb dX5_truth_1 rfl (lv_at hl 1 rfl) ?_
  refine kV_R (n := 1) (ci := 5) (q := (RX5, TX5, 4)) S (m_isNode_T lc D cI cZ N q qs qi qk ql mn tA sA kA nb ck hi lo ha cn sm im kp le ((f : Nat) : Int) (by omega) (by omega) (by omega)) gX5_truth_X5_isNode rfl rfl (by decide +kernel) rfl rfl ⟨Nat.le_trans (Nat.le_of_ble_eq_true rfl) hfr, Nat.le_trans (Nat.le_of_ble_eq_true rfl) hlo⟩ hE hAN hP hD hS [0, 1, 2, 3, 4] rfl (by decide) rfl rfl rfl rfl hl.1 [] rfl (Nat.le_of_ble_eq_true rfl) dX5_truth_2 ⟨Nat.zero_le _, Nat.zero_le _⟩ ?_
  refine W.eq (g2 := F0 m 5 ls [.int (iI (1))]) rfl ?_
  refine b_eqF (tgt := 16) S dX5_truth_5 (by decide) (by decide) (by decide) ?_
  refine lv_aload_n hx hb dX5_truth_8 rfl (lv_at hl 0 rfl) ?_
  refine lv_iload_n hx hb dX5_truth_9 rfl (lv_at hl 2 rfl) ?_
  refine kV_R (n := 1) (ci := 5) (q := (RX5, TX5, 4)) S (m_isNode_T lc D cI cZ N q qs qi qk ql mn tA sA kA nb ck hi lo ha cn sm im kp le ((g : Nat) : Int) (by omega) (by omega) (by omega)) gX5_truth_X5_isNode rfl rfl (by decide +kernel) rfl rfl ⟨Nat.le_trans (Nat.le_of_ble_eq_true rfl) hfr, Nat.le_trans (Nat.le_of_ble_eq_true rfl) hlo⟩ hE hAN hP hD hS [0, 1, 2, 3, 4] rfl (by decide) rfl rfl rfl rfl hl.1 [] rfl (Nat.le_of_ble_eq_true rfl) dX5_truth_10 ⟨Nat.zero_le _, Nat.zero_le _⟩ ?_
  refine W.eq (g2 := F0 m 13 ls [.int (iI (1))]) rfl ?_
  refine b_neT (tgt := 19) S dX5_truth_13 (by decide) (by decide) (by decide) ?_
  refine lv_iload_n hx hb dX5_truth_19 rfl (lv_at hl 2 rfl) ?_
  refine lv_iload_n hx hb dX5_truth_20 rfl (lv_at hl 1 rfl) ?_
  refine c_leF (tgt := 51) S dX5_truth_21 (by decide) (by omega) (by omega) (by omega) ?_
  refine lv_iload_n hx hb dX5_truth_24 rfl (lv_at hl 3 rfl) ?_
  refine kS_R (n := 1) S (m_isBlock_T lc D cI cZ N ((bk : Nat) : Int) (by omega) (by omega)) gX5_truth_X5_isBlock rfl (by decide +kernel) rfl rfl ⟨Nat.le_trans (Nat.le_of_ble_eq_true rfl) hfr, Nat.le_trans (Nat.le_of_ble_eq_true rfl) hlo⟩ hE hAN hP hD hS [] rfl (by decide) rfl hl.1 [] rfl (Nat.le_of_ble_eq_true rfl) dX5_truth_25 ⟨Nat.zero_le _, Nat.zero_le _⟩ ?_
  refine W.eq (g2 := F0 m 28 ls [.int (iI (1))]) rfl ?_
  refine b_eqF (tgt := 51) S dX5_truth_28 (by decide) (by decide) (by decide) ?_
  refine lv_iload hx hb dX5_truth_31 (lv_at hl 4 rfl) ?_
  refine lv_iconst (v := iI (0)) hx hb dX5_truth_33 rfl ?_
  refine lv_iconst (v := iI (1)) hx hb dX5_truth_34 rfl ?_
  refine kS_R (n := 3) S (m_in_T lc D cI cZ N 0 0 1 (by omega) (by omega) (by omega) (by omega)) gX5_truth_X5_in rfl (by decide +kernel) rfl rfl ⟨Nat.le_trans (Nat.le_of_ble_eq_true rfl) hfr, Nat.le_trans (Nat.le_of_ble_eq_true rfl) hlo⟩ hE hAN hP hD hS [] rfl (by decide) rfl hl.1 [] rfl (Nat.le_of_ble_eq_true rfl) dX5_truth_35 ⟨Nat.zero_le _, Nat.zero_le _⟩ ?_
  refine W.eq (g2 := F0 m 38 ls [.int (iI (1))]) rfl ?_
  refine b_eqF (tgt := 51) S dX5_truth_38 (by decide) (by decide) (by decide) ?_
  refine lv_iload hx hb dX5_truth_41 (lv_at hl 5 rfl) ?_
  refine lv_iconst (v := iI (0)) hx hb dX5_truth_43 rfl ?_
  refine lv_iconst (v := iI (1)) hx hb dX5_truth_44 rfl ?_
  refine kS_R (n := 3) S (m_in_T lc D cI cZ N 0 0 1 (by omega) (by omega) (by omega) (by omega)) gX5_truth_X5_in rfl (by decide +kernel) rfl rfl ⟨Nat.le_trans (Nat.le_of_ble_eq_true rfl) hfr, Nat.le_trans (Nat.le_of_ble_eq_true rfl) hlo⟩ hE hAN hP hD hS [] rfl (by decide) rfl hl.1 [] rfl (Nat.le_of_ble_eq_true rfl) dX5_truth_45 ⟨Nat.zero_le _, Nat.zero_le _⟩ ?_
  refine W.eq (g2 := F0 m 48 ls [.int (iI (1))]) rfl ?_
  refine b_neT (tgt := 54) S dX5_truth_48 (by decide) (by decide) (by decide) ?_
  refine lv_aload_n hx hb dX5_truth_54 rfl (lv_at hl 0 rfl) ?_
  refine lv_iload_n hx hb dX5_truth_55 rfl (lv_at hl 1 rfl) ?_
  refine lv_iload_n hx hb dX5_truth_56 rfl (lv_at hl 2 rfl) ?_
  refine lv_iload_n hx hb dX5_truth_57 rfl (lv_at hl 3 rfl) ?_
  refine kV_R (n := 3) (ci := 5) (q := (RX5, TX5, 4)) S (m_isTaken_T lc D cI cZ N q qs qi qk ql mn tA sA kA nb ck hi lo ha cn sm im kp le f g bk (by omega) (by omega) (by omega) (by omega) (by omega)) gX5_truth_X5_isTaken rfl rfl (by decide +kernel) rfl rfl ⟨Nat.le_trans (Nat.le_of_ble_eq_true rfl) hfr, Nat.le_trans (Nat.le_of_ble_eq_true rfl) hlo⟩ hE hAN hP hD hS [0, 1, 2, 3, 4] rfl (by decide) rfl rfl rfl rfl hl.1 [] rfl (Nat.le_of_ble_eq_true rfl) dX5_truth_58 ⟨Nat.zero_le _, Nat.zero_le _⟩ ?_
  refine W.eq (g2 := F0 m 61 ls [.int (iI (1))]) rfl ?_
  refine b_neT (tgt := 67) S dX5_truth_61 (by decide) (by decide) (by decide) ?_
  refine lv_aload_n hx hb dX5_truth_67 rfl (lv_at hl 0 rfl) ?_
  refine kV_M (n := 0) (ci := 5) (q := (RX5, TX5, 4)) S (m_layLeast lc D cI cZ N q qs qi qk ql mn tA sA kA nb ck hi lo ha cn sm im kp le hck hpot hhi hlo2 hha) gX5_truth_X5_layLeast rfl rfl (by decide +kernel) rfl rfl ⟨Nat.le_trans (Nat.le_of_ble_eq_true rfl) hfr, Nat.le_trans (Nat.le_of_ble_eq_true rfl) hlo⟩ hE hAN hP hD hS [0, 1, 2, 3, 4] rfl (by decide) rfl rfl rfl rfl rfl hl.1 [] rfl (Nat.le_of_ble_eq_true rfl) dX5_truth_68 ⟨Nat.zero_le _, Nat.zero_le _⟩ (fun H locs hP hD hS => ?_)
  have hP : va_P D vwCl [(q, .inr (5, [.ref qs, .ref qi, .ref qk, .ref ql])), (qs, .inl (cI, 2108, .inl (vI (stF ((mn : Nat) : Int) tA sA kA nb ck hi lo ha cn sm)))), (qi, .inl (cI, 4216, .inl (vI im))), (qk, .inl (cZ, 2, .inl (vI kp))), (ql, .inl (cI, 25, .inl (vI (fwO (lay0 hi lo ha) 5))))] H := hP
  have hD : va_D A [(q, .inr (5, [.ref qs, .ref qi, .ref qk, .ref ql])), (qs, .inl (cI, 2108, .inl (vI (stF ((mn : Nat) : Int) tA sA kA nb ck hi lo ha cn sm)))), (qi, .inl (cI, 4216, .inl (vI im))), (qk, .inl (cZ, 2, .inl (vI kp))), (ql, .inl (cI, 25, .inl (vI (fwO (lay0 hi lo ha) 5))))] := hD
  refine W.eq (g2 := F0 m 71 ls []) rfl ?_
  refine lv_iload hx hb dX5_truth_71 (lv_at hl 4 rfl) ?_
  refine b_neF (tgt := 89) S dX5_truth_73 (by decide) (by decide) ?_
  refine lv_aload_n hx hb dX5_truth_76 rfl (lv_at hl 0 rfl) ?_
  refine w_get (C := RX5) (T := TX5) (Nf := 4) (ci := 5) (v := .ref ql) S (fun _ h => List.mem_cons_of_mem _ (List.mem_append_right _ h)) hE hP 0 rfl rfl 3 (by decide) (List.mem_of_getElem? (i := 4) rfl) rfl dX5_truth_77 ?_
  refine lv_iconst (v := iI (5)) hx hb dX5_truth_80 rfl ?_
  refine lv_iload_n hx hb dX5_truth_81 rfl (lv_at hl 2 rfl) ?_
  refine w_imul S dX5_truth_82 ?_
  refine lv_iload_n hx hb dX5_truth_83 rfl (lv_at hl 1 rfl) ?_
  refine w_iadd S dX5_truth_84 ?_
  refine w_iald S hE hP 4 rfl (g * 5 + f) (by omega) (by omega) (by omega) dX5_truth_85 ?_
  refine lv_goto (tgt := 99) hx hb dX5_truth_86 (by decide) ?_
  refine lv_istore (lv' := [(6, .int (iI ((fwO (lay0 hi lo ha) 5) (g * 5 + f)))), (0, .ref q), (1, .int (iI (((f : Nat) : Int)))), (2, .int (iI (((g : Nat) : Int)))), (3, .int (iI (((bk : Nat) : Int)))), (4, .int (iI (0))), (5, .int (iI (0)))]) hx hb dX5_truth_99 hl (by decide) rfl (fun ls hl => ?_)
  refine lv_iload hx hb dX5_truth_101 (lv_at hl 0 rfl) ?_
  refine w_ldc (z := 1000000) S (List.mem_of_getElem? (i := 5) rfl) (by decide) dX5_truth_103 ?_
  refine c_neT (tgt := 111) S dX5_truth_105 (by decide) (by omega) (by omega) (by omega) ?_
  refine lv_iload hx hb dX5_truth_111 (lv_at hl 5 rfl) ?_
  refine b_neF (tgt := 121) S dX5_truth_113 (by decide) (by decide) ?_
  refine lv_iload hx hb dX5_truth_116 (lv_at hl 0 rfl) ?_
  refine lv_goto (tgt := 124) hx hb dX5_truth_118 (by decide) ?_
  refine lv_istore (lv' := [(7, .int (iI ((fwO (lay0 hi lo ha) 5) (g * 5 + f)))), (6, .int (iI ((fwO (lay0 hi lo ha) 5) (g * 5 + f)))), (0, .ref q), (1, .int (iI (((f : Nat) : Int)))), (2, .int (iI (((g : Nat) : Int)))), (3, .int (iI (((bk : Nat) : Int)))), (4, .int (iI (0))), (5, .int (iI (0)))]) hx hb dX5_truth_124 hl (by decide) rfl (fun ls hl => ?_)
  refine lv_aload_n hx hb dX5_truth_126 rfl (lv_at hl 2 rfl) ?_
  refine lv_iload_n hx hb dX5_truth_127 rfl (lv_at hl 4 rfl) ?_
  refine lv_iload_n hx hb dX5_truth_128 rfl (lv_at hl 5 rfl) ?_
  refine kV_R (n := 2) (ci := 5) (q := (RX5, TX5, 4)) S (m_countOf lc D cI cZ N q qs qi qk ql mn tA sA kA nb ck hi lo ha cn sm im kp (fwO (lay0 hi lo ha) 5) g bk (by omega) (by omega)) gX5_truth_X5_countOf rfl rfl (by decide +kernel) rfl rfl ⟨Nat.le_trans (Nat.le_of_ble_eq_true rfl) hfr, Nat.le_trans (Nat.le_of_ble_eq_true rfl) hlo⟩ hE hAN hP hD hS [0, 1, 2, 3, 4] rfl (by decide) rfl rfl rfl rfl hl.1 [] rfl (Nat.le_of_ble_eq_true rfl) dX5_truth_129 ⟨Nat.zero_le _, Nat.zero_le _⟩ ?_
  refine W.eq (g2 := F0 m 132 ls [.int (iI (cn (g * 200 + bk)))]) rfl ?_
  refine w_tz (z := ((wq : Nat) : Int)) hwq ?_
  refine lv_istore (lv' := [(8, .int (iI (((wq : Nat) : Int)))), (7, .int (iI ((fwO (lay0 hi lo ha) 5) (g * 5 + f)))), (6, .int (iI ((fwO (lay0 hi lo ha) 5) (g * 5 + f)))), (0, .ref q), (1, .int (iI (((f : Nat) : Int)))), (2, .int (iI (((g : Nat) : Int)))), (3, .int (iI (((bk : Nat) : Int)))), (4, .int (iI (0))), (5, .int (iI (0)))]) hx hb dX5_truth_132 hl (by decide) rfl (fun ls hl => ?_)
  refine lv_aload_n hx hb dX5_truth_134 rfl (lv_at hl 3 rfl) ?_
  refine lv_iload_n hx hb dX5_truth_135 rfl (lv_at hl 5 rfl) ?_
  refine lv_iload_n hx hb dX5_truth_136 rfl (lv_at hl 6 rfl) ?_
  refine kV_R (n := 2) (ci := 5) (q := (RX5, TX5, 4)) S (m_sumOf lc D cI cZ N q qs qi qk ql mn tA sA kA nb ck hi lo ha cn sm im kp (fwO (lay0 hi lo ha) 5) g bk (by omega) (by omega)) gX5_truth_X5_sumOf rfl rfl (by decide +kernel) rfl rfl ⟨Nat.le_trans (Nat.le_of_ble_eq_true rfl) hfr, Nat.le_trans (Nat.le_of_ble_eq_true rfl) hlo⟩ hE hAN hP hD hS [0, 1, 2, 3, 4] rfl (by decide) rfl rfl rfl rfl hl.1 [] rfl (Nat.le_of_ble_eq_true rfl) dX5_truth_137 ⟨Nat.zero_le _, Nat.zero_le _⟩ ?_
  refine W.eq (g2 := F0 m 140 ls [.int (iI (sm (g * 200 + bk)))]) rfl ?_
  refine lv_aload_n hx hb dX5_truth_140 rfl (lv_at hl 3 rfl) ?_
  refine lv_iload_n hx hb dX5_truth_141 rfl (lv_at hl 4 rfl) ?_
  refine lv_iload_n hx hb dX5_truth_142 rfl (lv_at hl 6 rfl) ?_
  refine kV_R (n := 2) (ci := 5) (q := (RX5, TX5, 4)) S (m_sumOf lc D cI cZ N q qs qi qk ql mn tA sA kA nb ck hi lo ha cn sm im kp (fwO (lay0 hi lo ha) 5) f bk (by omega) (by omega)) gX5_truth_X5_sumOf rfl rfl (by decide +kernel) rfl rfl ⟨Nat.le_trans (Nat.le_of_ble_eq_true rfl) hfr, Nat.le_trans (Nat.le_of_ble_eq_true rfl) hlo⟩ hE hAN hP hD hS [0, 1, 2, 3, 4] rfl (by decide) rfl rfl rfl rfl hl.1 [.int (iI (sm (g * 200 + bk)))] rfl (Nat.le_of_ble_eq_true rfl) dX5_truth_143 ⟨Nat.zero_le _, Nat.zero_le _⟩ ?_
  refine W.eq (g2 := F0 m 146 ls [.int (iI (sm (f * 200 + bk))), .int (iI (sm (g * 200 + bk)))]) rfl ?_
  refine w_isub S dX5_truth_146 ?_
  refine lv_iload hx hb dX5_truth_147 (lv_at hl 1 rfl) ?_
  refine lv_iload hx hb dX5_truth_149 (lv_at hl 0 rfl) ?_
  refine w_imul S dX5_truth_151 ?_
  refine w_iadd S dX5_truth_152 ?_
  refine lv_iload hx hb dX5_truth_153 (lv_at hl 0 rfl) ?_
  refine lv_iload hx hb dX5_truth_155 (lv_at hl 8 rfl) ?_
  refine kS_R (n := 3) S (m_told_0 lc D cI cZ N (((sm (g * 200 + bk)) - (sm (f * 200 + bk))) + (((fwO (lay0 hi lo ha) 5) (g * 5 + f)) * ((wq : Nat) : Int))) wq 0 (by omega) (by omega) (by omega)) gX5_truth_X5_told rfl (by decide +kernel) rfl rfl ⟨Nat.le_trans (Nat.le_of_ble_eq_true rfl) hfr, Nat.le_trans (Nat.le_of_ble_eq_true rfl) hlo⟩ hE hAN hP hD hS [] rfl (by decide) rfl hl.1 [] rfl (Nat.le_of_ble_eq_true rfl) dX5_truth_157 ⟨Nat.zero_le _, Nat.zero_le _⟩ ?_
  refine W.eq (g2 := F0 m 160 ls [.int (iI ((((sm (g * 200 + bk)) - (sm (f * 200 + bk))) + (((fwO (lay0 hi lo ha) 5) (g * 5 + f)) * ((wq : Nat) : Int))).tdiv ((Nat.gcd (((sm (g * 200 + bk)) - (sm (f * 200 + bk))) + (((fwO (lay0 hi lo ha) 5) (g * 5 + f)) * ((wq : Nat) : Int))).natAbs wq : Nat) : Int)))]) rfl ?_
  exact hret _ _ _ _ _ dX5_truth_160 (congrArg iI (by omega)) hP hS
set_option maxHeartbeats 4000000 in
set_option maxRecDepth 100000 in
theorem m_truth_01 (lc : Launch) (D : va_G) (cI cZ : ClassId) (N : Nat) (q : Nat) (qs : Nat) (qi : Nat) (qk : Nat) (ql : Nat) (mn : Nat) (tA : Int) (sA : Int) (kA : Int) (nb : Nat → Int) (ck : Nat → Int) (hi : Nat → Int) (lo : Nat → Int) (ha : Nat → Int) (cn : Nat → Int) (sm : Nat → Int) (im : Nat → Int) (kp : Nat → Int) (le : Nat → Int) (f : Nat) (g : Nat) (bk : Nat) (wq : Nat) (hmn : 2 ≤ mn ∧ mn ≤ 5) (hfg : f < g) (hgm : g < mn) (hbk : bk < 200) (hcn : ∀ k, k < 1000 → 0 ≤ cn k ∧ cn k ≤ 200) (hck : ∀ k, k < 5 → -99 ≤ ck k ∧ ck k ≤ 99) (hpot : potOK ck (lay0 hi lo ha)) (hhi : ∀ k, k < 25 → -100000 ≤ hi k ∧ hi k ≤ 100000) (hlo2 : ∀ k, k < 25 → -100000 ≤ lo k ∧ lo k ≤ 100000) (hha : ∀ k, k < 25 → ha k = 0 ∨ ha k = 1) (h2 : 0 < cn (f * 200 + bk) ∧ cn (f * 200 + bk) = cn (g * 200 + bk)) (h5 : fwO (lay0 hi lo ha) 5 (g * 5 + f) ≠ 1000000) (hwq : cn (g * 200 + bk) = ((wq : Nat) : Int)) (hwq2 : 0 < wq ∧ wq ≤ 200) (hU : -1000000000 ≤ ((sm (g * 200 + bk) - sm (f * 200 + bk)) + (fwO (lay0 hi lo ha) 5 (g * 5 + f)) * ((wq : Nat) : Int)) ∧ ((sm (g * 200 + bk) - sm (f * 200 + bk)) + (fwO (lay0 hi lo ha) 5 (g * 5 + f)) * ((wq : Nat) : Int)) ≤ 1000000000) : CM lc D cI cZ N yX5_truth wsX5_truth (rmK 2 47) [.ref q, .int (iI (((f : Nat) : Int))), .int (iI (((g : Nat) : Int))), .int (iI (((bk : Nat) : Int))), .int (iI (0)), .int (iI (1))] [(q, .inr (5, [.ref qs, .ref qi, .ref qk, .ref ql])), (qs, .inl (cI, 2108, .inl (vI (stF ((mn : Nat) : Int) tA sA kA nb ck hi lo ha cn sm)))), (qi, .inl (cI, 4216, .inl (vI im))), (qk, .inl (cZ, 2, .inl (vI kp))), (ql, .inl (cI, 25, .inl (vI le)))] (some (.int (iI (((wq : Nat) : Int).tdiv ((Nat.gcd (((sm (g * 200 + bk) - sm (f * 200 + bk)) + (fwO (lay0 hi lo ha) 5 (g * 5 + f)) * ((wq : Nat) : Int))).natAbs wq : Nat) : Int))))) [(q, .inr (5, [.ref qs, .ref qi, .ref qk, .ref ql])), (qs, .inl (cI, 2108, .inl (vI (stF ((mn : Nat) : Int) tA sA kA nb ck hi lo ha cn sm)))), (qi, .inl (cI, 4216, .inl (vI im))), (qk, .inl (cZ, 2, .inl (vI kp))), (ql, .inl (cI, 25, .inl (vI (fwO (lay0 hi lo ha) 5))))] := by
  refine CM.I (cc := cX5_truth) (maxL := 9) (by decide) rfl (Nat.le_of_ble_eq_true rfl) ?_
  intro p e s m args below meth c R Q S hE A hAN hfr hlo hP hD hS hret ls hl
  have S : CallFix p m c cX5_truth 9 s args wsX5_truth RX5 := S
  have hx := S.1
  have hb := S.2.1
  have hl : lv_has ls 9 [(0, .ref q), (1, .int (iI (((f : Nat) : Int)))), (2, .int (iI (((g : Nat) : Int)))), (3, .int (iI (((bk : Nat) : Int)))), (4, .int (iI (0))), (5, .int (iI (1)))] := hl
  have g1 := fwO_pot hpot 5 (by omega) (g * 5 + f) (by omega)
  have k1 := hck ((g * 5 + f) % 5) (by omega)
  have k2 := hck ((g * 5 + f) / 5) (by omega)
  refine lv_aload_n hx hb dX5_truth_0 rfl (lv_at hl 0 rfl) ?_
  refine lv_iload_n hx hb dX5_truth_1 rfl (lv_at hl 1 rfl) ?_
  refine kV_R (n := 1) (ci := 5) (q := (RX5, TX5, 4)) S (m_isNode_T lc D cI cZ N q qs qi qk ql mn tA sA kA nb ck hi lo ha cn sm im kp le ((f : Nat) : Int) (by omega) (by omega) (by omega)) gX5_truth_X5_isNode rfl rfl (by decide +kernel) rfl rfl ⟨Nat.le_trans (Nat.le_of_ble_eq_true rfl) hfr, Nat.le_trans (Nat.le_of_ble_eq_true rfl) hlo⟩ hE hAN hP hD hS [0, 1, 2, 3, 4] rfl (by decide) rfl rfl rfl rfl hl.1 [] rfl (Nat.le_of_ble_eq_true rfl) dX5_truth_2 ⟨Nat.zero_le _, Nat.zero_le _⟩ ?_
  refine W.eq (g2 := F0 m 5 ls [.int (iI (1))]) rfl ?_
  refine b_eqF (tgt := 16) S dX5_truth_5 (by decide) (by decide) (by decide) ?_
  refine lv_aload_n hx hb dX5_truth_8 rfl (lv_at hl 0 rfl) ?_
  refine lv_iload_n hx hb dX5_truth_9 rfl (lv_at hl 2 rfl) ?_
  refine kV_R (n := 1) (ci := 5) (q := (RX5, TX5, 4)) S (m_isNode_T lc D cI cZ N q qs qi qk ql mn tA sA kA nb ck hi lo ha cn sm im kp le ((g : Nat) : Int) (by omega) (by omega) (by omega)) gX5_truth_X5_isNode rfl rfl (by decide +kernel) rfl rfl ⟨Nat.le_trans (Nat.le_of_ble_eq_true rfl) hfr, Nat.le_trans (Nat.le_of_ble_eq_true rfl) hlo⟩ hE hAN hP hD hS [0, 1, 2, 3, 4] rfl (by decide) rfl rfl rfl rfl hl.1 [] rfl (Nat.le_of_ble_eq_true rfl) dX5_truth_10 ⟨Nat.zero_le _, Nat.zero_le _⟩ ?_
  refine W.eq (g2 := F0 m 13 ls [.int (iI (1))]) rfl ?_
  refine b_neT (tgt := 19) S dX5_truth_13 (by decide) (by decide) (by decide) ?_
  refine lv_iload_n hx hb dX5_truth_19 rfl (lv_at hl 2 rfl) ?_
  refine lv_iload_n hx hb dX5_truth_20 rfl (lv_at hl 1 rfl) ?_
  refine c_leF (tgt := 51) S dX5_truth_21 (by decide) (by omega) (by omega) (by omega) ?_
  refine lv_iload_n hx hb dX5_truth_24 rfl (lv_at hl 3 rfl) ?_
  refine kS_R (n := 1) S (m_isBlock_T lc D cI cZ N ((bk : Nat) : Int) (by omega) (by omega)) gX5_truth_X5_isBlock rfl (by decide +kernel) rfl rfl ⟨Nat.le_trans (Nat.le_of_ble_eq_true rfl) hfr, Nat.le_trans (Nat.le_of_ble_eq_true rfl) hlo⟩ hE hAN hP hD hS [] rfl (by decide) rfl hl.1 [] rfl (Nat.le_of_ble_eq_true rfl) dX5_truth_25 ⟨Nat.zero_le _, Nat.zero_le _⟩ ?_
  refine W.eq (g2 := F0 m 28 ls [.int (iI (1))]) rfl ?_
  refine b_eqF (tgt := 51) S dX5_truth_28 (by decide) (by decide) (by decide) ?_
  refine lv_iload hx hb dX5_truth_31 (lv_at hl 4 rfl) ?_
  refine lv_iconst (v := iI (0)) hx hb dX5_truth_33 rfl ?_
  refine lv_iconst (v := iI (1)) hx hb dX5_truth_34 rfl ?_
  refine kS_R (n := 3) S (m_in_T lc D cI cZ N 0 0 1 (by omega) (by omega) (by omega) (by omega)) gX5_truth_X5_in rfl (by decide +kernel) rfl rfl ⟨Nat.le_trans (Nat.le_of_ble_eq_true rfl) hfr, Nat.le_trans (Nat.le_of_ble_eq_true rfl) hlo⟩ hE hAN hP hD hS [] rfl (by decide) rfl hl.1 [] rfl (Nat.le_of_ble_eq_true rfl) dX5_truth_35 ⟨Nat.zero_le _, Nat.zero_le _⟩ ?_
  refine W.eq (g2 := F0 m 38 ls [.int (iI (1))]) rfl ?_
  refine b_eqF (tgt := 51) S dX5_truth_38 (by decide) (by decide) (by decide) ?_
  refine lv_iload hx hb dX5_truth_41 (lv_at hl 5 rfl) ?_
  refine lv_iconst (v := iI (0)) hx hb dX5_truth_43 rfl ?_
  refine lv_iconst (v := iI (1)) hx hb dX5_truth_44 rfl ?_
  refine kS_R (n := 3) S (m_in_T lc D cI cZ N 1 0 1 (by omega) (by omega) (by omega) (by omega)) gX5_truth_X5_in rfl (by decide +kernel) rfl rfl ⟨Nat.le_trans (Nat.le_of_ble_eq_true rfl) hfr, Nat.le_trans (Nat.le_of_ble_eq_true rfl) hlo⟩ hE hAN hP hD hS [] rfl (by decide) rfl hl.1 [] rfl (Nat.le_of_ble_eq_true rfl) dX5_truth_45 ⟨Nat.zero_le _, Nat.zero_le _⟩ ?_
  refine W.eq (g2 := F0 m 48 ls [.int (iI (1))]) rfl ?_
  refine b_neT (tgt := 54) S dX5_truth_48 (by decide) (by decide) (by decide) ?_
  refine lv_aload_n hx hb dX5_truth_54 rfl (lv_at hl 0 rfl) ?_
  refine lv_iload_n hx hb dX5_truth_55 rfl (lv_at hl 1 rfl) ?_
  refine lv_iload_n hx hb dX5_truth_56 rfl (lv_at hl 2 rfl) ?_
  refine lv_iload_n hx hb dX5_truth_57 rfl (lv_at hl 3 rfl) ?_
  refine kV_R (n := 3) (ci := 5) (q := (RX5, TX5, 4)) S (m_isTaken_T lc D cI cZ N q qs qi qk ql mn tA sA kA nb ck hi lo ha cn sm im kp le f g bk (by omega) (by omega) (by omega) (by omega) (by omega)) gX5_truth_X5_isTaken rfl rfl (by decide +kernel) rfl rfl ⟨Nat.le_trans (Nat.le_of_ble_eq_true rfl) hfr, Nat.le_trans (Nat.le_of_ble_eq_true rfl) hlo⟩ hE hAN hP hD hS [0, 1, 2, 3, 4] rfl (by decide) rfl rfl rfl rfl hl.1 [] rfl (Nat.le_of_ble_eq_true rfl) dX5_truth_58 ⟨Nat.zero_le _, Nat.zero_le _⟩ ?_
  refine W.eq (g2 := F0 m 61 ls [.int (iI (1))]) rfl ?_
  refine b_neT (tgt := 67) S dX5_truth_61 (by decide) (by decide) (by decide) ?_
  refine lv_aload_n hx hb dX5_truth_67 rfl (lv_at hl 0 rfl) ?_
  refine kV_M (n := 0) (ci := 5) (q := (RX5, TX5, 4)) S (m_layLeast lc D cI cZ N q qs qi qk ql mn tA sA kA nb ck hi lo ha cn sm im kp le hck hpot hhi hlo2 hha) gX5_truth_X5_layLeast rfl rfl (by decide +kernel) rfl rfl ⟨Nat.le_trans (Nat.le_of_ble_eq_true rfl) hfr, Nat.le_trans (Nat.le_of_ble_eq_true rfl) hlo⟩ hE hAN hP hD hS [0, 1, 2, 3, 4] rfl (by decide) rfl rfl rfl rfl rfl hl.1 [] rfl (Nat.le_of_ble_eq_true rfl) dX5_truth_68 ⟨Nat.zero_le _, Nat.zero_le _⟩ (fun H locs hP hD hS => ?_)
  have hP : va_P D vwCl [(q, .inr (5, [.ref qs, .ref qi, .ref qk, .ref ql])), (qs, .inl (cI, 2108, .inl (vI (stF ((mn : Nat) : Int) tA sA kA nb ck hi lo ha cn sm)))), (qi, .inl (cI, 4216, .inl (vI im))), (qk, .inl (cZ, 2, .inl (vI kp))), (ql, .inl (cI, 25, .inl (vI (fwO (lay0 hi lo ha) 5))))] H := hP
  have hD : va_D A [(q, .inr (5, [.ref qs, .ref qi, .ref qk, .ref ql])), (qs, .inl (cI, 2108, .inl (vI (stF ((mn : Nat) : Int) tA sA kA nb ck hi lo ha cn sm)))), (qi, .inl (cI, 4216, .inl (vI im))), (qk, .inl (cZ, 2, .inl (vI kp))), (ql, .inl (cI, 25, .inl (vI (fwO (lay0 hi lo ha) 5))))] := hD
  refine W.eq (g2 := F0 m 71 ls []) rfl ?_
  refine lv_iload hx hb dX5_truth_71 (lv_at hl 4 rfl) ?_
  refine b_neF (tgt := 89) S dX5_truth_73 (by decide) (by decide) ?_
  refine lv_aload_n hx hb dX5_truth_76 rfl (lv_at hl 0 rfl) ?_
  refine w_get (C := RX5) (T := TX5) (Nf := 4) (ci := 5) (v := .ref ql) S (fun _ h => List.mem_cons_of_mem _ (List.mem_append_right _ h)) hE hP 0 rfl rfl 3 (by decide) (List.mem_of_getElem? (i := 4) rfl) rfl dX5_truth_77 ?_
  refine lv_iconst (v := iI (5)) hx hb dX5_truth_80 rfl ?_
  refine lv_iload_n hx hb dX5_truth_81 rfl (lv_at hl 2 rfl) ?_
  refine w_imul S dX5_truth_82 ?_
  refine lv_iload_n hx hb dX5_truth_83 rfl (lv_at hl 1 rfl) ?_
  refine w_iadd S dX5_truth_84 ?_
  refine w_iald S hE hP 4 rfl (g * 5 + f) (by omega) (by omega) (by omega) dX5_truth_85 ?_
  refine lv_goto (tgt := 99) hx hb dX5_truth_86 (by decide) ?_
  refine lv_istore (lv' := [(6, .int (iI ((fwO (lay0 hi lo ha) 5) (g * 5 + f)))), (0, .ref q), (1, .int (iI (((f : Nat) : Int)))), (2, .int (iI (((g : Nat) : Int)))), (3, .int (iI (((bk : Nat) : Int)))), (4, .int (iI (0))), (5, .int (iI (1)))]) hx hb dX5_truth_99 hl (by decide) rfl (fun ls hl => ?_)
  refine lv_iload hx hb dX5_truth_101 (lv_at hl 0 rfl) ?_
  refine w_ldc (z := 1000000) S (List.mem_of_getElem? (i := 5) rfl) (by decide) dX5_truth_103 ?_
  refine c_neT (tgt := 111) S dX5_truth_105 (by decide) (by omega) (by omega) (by omega) ?_
  refine lv_iload hx hb dX5_truth_111 (lv_at hl 5 rfl) ?_
  refine b_neF (tgt := 121) S dX5_truth_113 (by decide) (by decide) ?_
  refine lv_iload hx hb dX5_truth_116 (lv_at hl 0 rfl) ?_
  refine lv_goto (tgt := 124) hx hb dX5_truth_118 (by decide) ?_
  refine lv_istore (lv' := [(7, .int (iI ((fwO (lay0 hi lo ha) 5) (g * 5 + f)))), (6, .int (iI ((fwO (lay0 hi lo ha) 5) (g * 5 + f)))), (0, .ref q), (1, .int (iI (((f : Nat) : Int)))), (2, .int (iI (((g : Nat) : Int)))), (3, .int (iI (((bk : Nat) : Int)))), (4, .int (iI (0))), (5, .int (iI (1)))]) hx hb dX5_truth_124 hl (by decide) rfl (fun ls hl => ?_)
  refine lv_aload_n hx hb dX5_truth_126 rfl (lv_at hl 2 rfl) ?_
  refine lv_iload_n hx hb dX5_truth_127 rfl (lv_at hl 4 rfl) ?_
  refine lv_iload_n hx hb dX5_truth_128 rfl (lv_at hl 5 rfl) ?_
  refine kV_R (n := 2) (ci := 5) (q := (RX5, TX5, 4)) S (m_countOf lc D cI cZ N q qs qi qk ql mn tA sA kA nb ck hi lo ha cn sm im kp (fwO (lay0 hi lo ha) 5) g bk (by omega) (by omega)) gX5_truth_X5_countOf rfl rfl (by decide +kernel) rfl rfl ⟨Nat.le_trans (Nat.le_of_ble_eq_true rfl) hfr, Nat.le_trans (Nat.le_of_ble_eq_true rfl) hlo⟩ hE hAN hP hD hS [0, 1, 2, 3, 4] rfl (by decide) rfl rfl rfl rfl hl.1 [] rfl (Nat.le_of_ble_eq_true rfl) dX5_truth_129 ⟨Nat.zero_le _, Nat.zero_le _⟩ ?_
  refine W.eq (g2 := F0 m 132 ls [.int (iI (cn (g * 200 + bk)))]) rfl ?_
  refine w_tz (z := ((wq : Nat) : Int)) hwq ?_
  refine lv_istore (lv' := [(8, .int (iI (((wq : Nat) : Int)))), (7, .int (iI ((fwO (lay0 hi lo ha) 5) (g * 5 + f)))), (6, .int (iI ((fwO (lay0 hi lo ha) 5) (g * 5 + f)))), (0, .ref q), (1, .int (iI (((f : Nat) : Int)))), (2, .int (iI (((g : Nat) : Int)))), (3, .int (iI (((bk : Nat) : Int)))), (4, .int (iI (0))), (5, .int (iI (1)))]) hx hb dX5_truth_132 hl (by decide) rfl (fun ls hl => ?_)
  refine lv_aload_n hx hb dX5_truth_134 rfl (lv_at hl 3 rfl) ?_
  refine lv_iload_n hx hb dX5_truth_135 rfl (lv_at hl 5 rfl) ?_
  refine lv_iload_n hx hb dX5_truth_136 rfl (lv_at hl 6 rfl) ?_
  refine kV_R (n := 2) (ci := 5) (q := (RX5, TX5, 4)) S (m_sumOf lc D cI cZ N q qs qi qk ql mn tA sA kA nb ck hi lo ha cn sm im kp (fwO (lay0 hi lo ha) 5) g bk (by omega) (by omega)) gX5_truth_X5_sumOf rfl rfl (by decide +kernel) rfl rfl ⟨Nat.le_trans (Nat.le_of_ble_eq_true rfl) hfr, Nat.le_trans (Nat.le_of_ble_eq_true rfl) hlo⟩ hE hAN hP hD hS [0, 1, 2, 3, 4] rfl (by decide) rfl rfl rfl rfl hl.1 [] rfl (Nat.le_of_ble_eq_true rfl) dX5_truth_137 ⟨Nat.zero_le _, Nat.zero_le _⟩ ?_
  refine W.eq (g2 := F0 m 140 ls [.int (iI (sm (g * 200 + bk)))]) rfl ?_
  refine lv_aload_n hx hb dX5_truth_140 rfl (lv_at hl 3 rfl) ?_
  refine lv_iload_n hx hb dX5_truth_141 rfl (lv_at hl 4 rfl) ?_
  refine lv_iload_n hx hb dX5_truth_142 rfl (lv_at hl 6 rfl) ?_
  refine kV_R (n := 2) (ci := 5) (q := (RX5, TX5, 4)) S (m_sumOf lc D cI cZ N q qs qi qk ql mn tA sA kA nb ck hi lo ha cn sm im kp (fwO (lay0 hi lo ha) 5) f bk (by omega) (by omega)) gX5_truth_X5_sumOf rfl rfl (by decide +kernel) rfl rfl ⟨Nat.le_trans (Nat.le_of_ble_eq_true rfl) hfr, Nat.le_trans (Nat.le_of_ble_eq_true rfl) hlo⟩ hE hAN hP hD hS [0, 1, 2, 3, 4] rfl (by decide) rfl rfl rfl rfl hl.1 [.int (iI (sm (g * 200 + bk)))] rfl (Nat.le_of_ble_eq_true rfl) dX5_truth_143 ⟨Nat.zero_le _, Nat.zero_le _⟩ ?_
  refine W.eq (g2 := F0 m 146 ls [.int (iI (sm (f * 200 + bk))), .int (iI (sm (g * 200 + bk)))]) rfl ?_
  refine w_isub S dX5_truth_146 ?_
  refine lv_iload hx hb dX5_truth_147 (lv_at hl 1 rfl) ?_
  refine lv_iload hx hb dX5_truth_149 (lv_at hl 0 rfl) ?_
  refine w_imul S dX5_truth_151 ?_
  refine w_iadd S dX5_truth_152 ?_
  refine lv_iload hx hb dX5_truth_153 (lv_at hl 0 rfl) ?_
  refine lv_iload hx hb dX5_truth_155 (lv_at hl 8 rfl) ?_
  refine kS_R (n := 3) S (m_told_1 lc D cI cZ N (((sm (g * 200 + bk)) - (sm (f * 200 + bk))) + (((fwO (lay0 hi lo ha) 5) (g * 5 + f)) * ((wq : Nat) : Int))) wq 1 (by omega) (by omega) (by omega)) gX5_truth_X5_told rfl (by decide +kernel) rfl rfl ⟨Nat.le_trans (Nat.le_of_ble_eq_true rfl) hfr, Nat.le_trans (Nat.le_of_ble_eq_true rfl) hlo⟩ hE hAN hP hD hS [] rfl (by decide) rfl hl.1 [] rfl (Nat.le_of_ble_eq_true rfl) dX5_truth_157 ⟨Nat.zero_le _, Nat.zero_le _⟩ ?_
  refine W.eq (g2 := F0 m 160 ls [.int (iI (((wq : Nat) : Int).tdiv ((Nat.gcd (((sm (g * 200 + bk)) - (sm (f * 200 + bk))) + (((fwO (lay0 hi lo ha) 5) (g * 5 + f)) * ((wq : Nat) : Int))).natAbs wq : Nat) : Int)))]) rfl ?_
  exact hret _ _ _ _ _ dX5_truth_160 (congrArg iI (by omega)) hP hS
set_option maxHeartbeats 4000000 in
set_option maxRecDepth 100000 in
theorem m_truth_T1 (lc : Launch) (D : va_G) (cI cZ : ClassId) (N : Nat) (q : Nat) (qs : Nat) (qi : Nat) (qk : Nat) (ql : Nat) (mn : Nat) (tA : Int) (sA : Int) (kA : Int) (nb : Nat → Int) (ck : Nat → Int) (hi : Nat → Int) (lo : Nat → Int) (ha : Nat → Int) (cn : Nat → Int) (sm : Nat → Int) (im : Nat → Int) (kp : Nat → Int) (le : Nat → Int) (f : Nat) (g : Nat) (bk : Nat) (u : Int) (hmn : 2 ≤ mn ∧ mn ≤ 5) (hfg : f < g) (hgm : g < mn) (hbk : bk < 200) (hcn : ∀ k, k < 1000 → 0 ≤ cn k ∧ cn k ≤ 200) (hck : ∀ k, k < 5 → -99 ≤ ck k ∧ ck k ≤ 99) (hpot : potOK ck (lay0 hi lo ha)) (hhi : ∀ k, k < 25 → -100000 ≤ hi k ∧ hi k ≤ 100000) (hlo2 : ∀ k, k < 25 → -100000 ≤ lo k ∧ lo k ≤ 100000) (hha : ∀ k, k < 25 → ha k = 0 ∨ ha k = 1) (r_u : -2147483648 ≤ u ∧ u ≤ 2147483647) (h : (0 ≤ u ∧ u ≤ 1)) (h2 : 0 < cn (f * 200 + bk) ∧ cn (f * 200 + bk) = cn (g * 200 + bk)) (h5 : fwO (lay0 hi lo ha) 5 (f * 5 + g) = 1000000) : CM lc D cI cZ N yX5_truth wsX5_truth (rmK 2 47) [.ref q, .int (iI (((f : Nat) : Int))), .int (iI (((g : Nat) : Int))), .int (iI (((bk : Nat) : Int))), .int (iI (1)), .int (iI (u))] [(q, .inr (5, [.ref qs, .ref qi, .ref qk, .ref ql])), (qs, .inl (cI, 2108, .inl (vI (stF ((mn : Nat) : Int) tA sA kA nb ck hi lo ha cn sm)))), (qi, .inl (cI, 4216, .inl (vI im))), (qk, .inl (cZ, 2, .inl (vI kp))), (ql, .inl (cI, 25, .inl (vI le)))] (some (.int (iI (-1000000006)))) [(q, .inr (5, [.ref qs, .ref qi, .ref qk, .ref ql])), (qs, .inl (cI, 2108, .inl (vI (stF ((mn : Nat) : Int) tA sA kA nb ck hi lo ha cn sm)))), (qi, .inl (cI, 4216, .inl (vI im))), (qk, .inl (cZ, 2, .inl (vI kp))), (ql, .inl (cI, 25, .inl (vI (fwO (lay0 hi lo ha) 5))))] := by
  refine CM.I (cc := cX5_truth) (maxL := 9) (by decide) rfl (Nat.le_of_ble_eq_true rfl) ?_
  intro p e s m args below meth c R Q S hE A hAN hfr hlo hP hD hS hret ls hl
  have S : CallFix p m c cX5_truth 9 s args wsX5_truth RX5 := S
  have hx := S.1
  have hb := S.2.1
  have hl : lv_has ls 9 [(0, .ref q), (1, .int (iI (((f : Nat) : Int)))), (2, .int (iI (((g : Nat) : Int)))), (3, .int (iI (((bk : Nat) : Int)))), (4, .int (iI (1))), (5, .int (iI (u)))] := hl
  have g1 := fwO_pot hpot 5 (by omega) (f * 5 + g) (by omega)
  have k1 := hck ((f * 5 + g) % 5) (by omega)
  have k2 := hck ((f * 5 + g) / 5) (by omega)
  refine lv_aload_n hx hb dX5_truth_0 rfl (lv_at hl 0 rfl) ?_
  refine lv_iload_n hx hb dX5_truth_1 rfl (lv_at hl 1 rfl) ?_
  refine kV_R (n := 1) (ci := 5) (q := (RX5, TX5, 4)) S (m_isNode_T lc D cI cZ N q qs qi qk ql mn tA sA kA nb ck hi lo ha cn sm im kp le ((f : Nat) : Int) (by omega) (by omega) (by omega)) gX5_truth_X5_isNode rfl rfl (by decide +kernel) rfl rfl ⟨Nat.le_trans (Nat.le_of_ble_eq_true rfl) hfr, Nat.le_trans (Nat.le_of_ble_eq_true rfl) hlo⟩ hE hAN hP hD hS [0, 1, 2, 3, 4] rfl (by decide) rfl rfl rfl rfl hl.1 [] rfl (Nat.le_of_ble_eq_true rfl) dX5_truth_2 ⟨Nat.zero_le _, Nat.zero_le _⟩ ?_
  refine W.eq (g2 := F0 m 5 ls [.int (iI (1))]) rfl ?_
  refine b_eqF (tgt := 16) S dX5_truth_5 (by decide) (by decide) (by decide) ?_
  refine lv_aload_n hx hb dX5_truth_8 rfl (lv_at hl 0 rfl) ?_
  refine lv_iload_n hx hb dX5_truth_9 rfl (lv_at hl 2 rfl) ?_
  refine kV_R (n := 1) (ci := 5) (q := (RX5, TX5, 4)) S (m_isNode_T lc D cI cZ N q qs qi qk ql mn tA sA kA nb ck hi lo ha cn sm im kp le ((g : Nat) : Int) (by omega) (by omega) (by omega)) gX5_truth_X5_isNode rfl rfl (by decide +kernel) rfl rfl ⟨Nat.le_trans (Nat.le_of_ble_eq_true rfl) hfr, Nat.le_trans (Nat.le_of_ble_eq_true rfl) hlo⟩ hE hAN hP hD hS [0, 1, 2, 3, 4] rfl (by decide) rfl rfl rfl rfl hl.1 [] rfl (Nat.le_of_ble_eq_true rfl) dX5_truth_10 ⟨Nat.zero_le _, Nat.zero_le _⟩ ?_
  refine W.eq (g2 := F0 m 13 ls [.int (iI (1))]) rfl ?_
  refine b_neT (tgt := 19) S dX5_truth_13 (by decide) (by decide) (by decide) ?_
  refine lv_iload_n hx hb dX5_truth_19 rfl (lv_at hl 2 rfl) ?_
  refine lv_iload_n hx hb dX5_truth_20 rfl (lv_at hl 1 rfl) ?_
  refine c_leF (tgt := 51) S dX5_truth_21 (by decide) (by omega) (by omega) (by omega) ?_
  refine lv_iload_n hx hb dX5_truth_24 rfl (lv_at hl 3 rfl) ?_
  refine kS_R (n := 1) S (m_isBlock_T lc D cI cZ N ((bk : Nat) : Int) (by omega) (by omega)) gX5_truth_X5_isBlock rfl (by decide +kernel) rfl rfl ⟨Nat.le_trans (Nat.le_of_ble_eq_true rfl) hfr, Nat.le_trans (Nat.le_of_ble_eq_true rfl) hlo⟩ hE hAN hP hD hS [] rfl (by decide) rfl hl.1 [] rfl (Nat.le_of_ble_eq_true rfl) dX5_truth_25 ⟨Nat.zero_le _, Nat.zero_le _⟩ ?_
  refine W.eq (g2 := F0 m 28 ls [.int (iI (1))]) rfl ?_
  refine b_eqF (tgt := 51) S dX5_truth_28 (by decide) (by decide) (by decide) ?_
  refine lv_iload hx hb dX5_truth_31 (lv_at hl 4 rfl) ?_
  refine lv_iconst (v := iI (0)) hx hb dX5_truth_33 rfl ?_
  refine lv_iconst (v := iI (1)) hx hb dX5_truth_34 rfl ?_
  refine kS_R (n := 3) S (m_in_T lc D cI cZ N 1 0 1 (by omega) (by omega) (by omega) (by omega)) gX5_truth_X5_in rfl (by decide +kernel) rfl rfl ⟨Nat.le_trans (Nat.le_of_ble_eq_true rfl) hfr, Nat.le_trans (Nat.le_of_ble_eq_true rfl) hlo⟩ hE hAN hP hD hS [] rfl (by decide) rfl hl.1 [] rfl (Nat.le_of_ble_eq_true rfl) dX5_truth_35 ⟨Nat.zero_le _, Nat.zero_le _⟩ ?_
  refine W.eq (g2 := F0 m 38 ls [.int (iI (1))]) rfl ?_
  refine b_eqF (tgt := 51) S dX5_truth_38 (by decide) (by decide) (by decide) ?_
  refine lv_iload hx hb dX5_truth_41 (lv_at hl 5 rfl) ?_
  refine lv_iconst (v := iI (0)) hx hb dX5_truth_43 rfl ?_
  refine lv_iconst (v := iI (1)) hx hb dX5_truth_44 rfl ?_
  refine kS_R (n := 3) S (m_in_T lc D cI cZ N u 0 1 (by omega) (by omega) (by omega) (by omega)) gX5_truth_X5_in rfl (by decide +kernel) rfl rfl ⟨Nat.le_trans (Nat.le_of_ble_eq_true rfl) hfr, Nat.le_trans (Nat.le_of_ble_eq_true rfl) hlo⟩ hE hAN hP hD hS [] rfl (by decide) rfl hl.1 [] rfl (Nat.le_of_ble_eq_true rfl) dX5_truth_45 ⟨Nat.zero_le _, Nat.zero_le _⟩ ?_
  refine W.eq (g2 := F0 m 48 ls [.int (iI (1))]) rfl ?_
  refine b_neT (tgt := 54) S dX5_truth_48 (by decide) (by decide) (by decide) ?_
  refine lv_aload_n hx hb dX5_truth_54 rfl (lv_at hl 0 rfl) ?_
  refine lv_iload_n hx hb dX5_truth_55 rfl (lv_at hl 1 rfl) ?_
  refine lv_iload_n hx hb dX5_truth_56 rfl (lv_at hl 2 rfl) ?_
  refine lv_iload_n hx hb dX5_truth_57 rfl (lv_at hl 3 rfl) ?_
  refine kV_R (n := 3) (ci := 5) (q := (RX5, TX5, 4)) S (m_isTaken_T lc D cI cZ N q qs qi qk ql mn tA sA kA nb ck hi lo ha cn sm im kp le f g bk (by omega) (by omega) (by omega) (by omega) (by omega)) gX5_truth_X5_isTaken rfl rfl (by decide +kernel) rfl rfl ⟨Nat.le_trans (Nat.le_of_ble_eq_true rfl) hfr, Nat.le_trans (Nat.le_of_ble_eq_true rfl) hlo⟩ hE hAN hP hD hS [0, 1, 2, 3, 4] rfl (by decide) rfl rfl rfl rfl hl.1 [] rfl (Nat.le_of_ble_eq_true rfl) dX5_truth_58 ⟨Nat.zero_le _, Nat.zero_le _⟩ ?_
  refine W.eq (g2 := F0 m 61 ls [.int (iI (1))]) rfl ?_
  refine b_neT (tgt := 67) S dX5_truth_61 (by decide) (by decide) (by decide) ?_
  refine lv_aload_n hx hb dX5_truth_67 rfl (lv_at hl 0 rfl) ?_
  refine kV_M (n := 0) (ci := 5) (q := (RX5, TX5, 4)) S (m_layLeast lc D cI cZ N q qs qi qk ql mn tA sA kA nb ck hi lo ha cn sm im kp le hck hpot hhi hlo2 hha) gX5_truth_X5_layLeast rfl rfl (by decide +kernel) rfl rfl ⟨Nat.le_trans (Nat.le_of_ble_eq_true rfl) hfr, Nat.le_trans (Nat.le_of_ble_eq_true rfl) hlo⟩ hE hAN hP hD hS [0, 1, 2, 3, 4] rfl (by decide) rfl rfl rfl rfl rfl hl.1 [] rfl (Nat.le_of_ble_eq_true rfl) dX5_truth_68 ⟨Nat.zero_le _, Nat.zero_le _⟩ (fun H locs hP hD hS => ?_)
  have hP : va_P D vwCl [(q, .inr (5, [.ref qs, .ref qi, .ref qk, .ref ql])), (qs, .inl (cI, 2108, .inl (vI (stF ((mn : Nat) : Int) tA sA kA nb ck hi lo ha cn sm)))), (qi, .inl (cI, 4216, .inl (vI im))), (qk, .inl (cZ, 2, .inl (vI kp))), (ql, .inl (cI, 25, .inl (vI (fwO (lay0 hi lo ha) 5))))] H := hP
  have hD : va_D A [(q, .inr (5, [.ref qs, .ref qi, .ref qk, .ref ql])), (qs, .inl (cI, 2108, .inl (vI (stF ((mn : Nat) : Int) tA sA kA nb ck hi lo ha cn sm)))), (qi, .inl (cI, 4216, .inl (vI im))), (qk, .inl (cZ, 2, .inl (vI kp))), (ql, .inl (cI, 25, .inl (vI (fwO (lay0 hi lo ha) 5))))] := hD
  refine W.eq (g2 := F0 m 71 ls []) rfl ?_
  refine lv_iload hx hb dX5_truth_71 (lv_at hl 4 rfl) ?_
  refine b_neT (tgt := 89) S dX5_truth_73 (by decide) (by decide) (by decide) ?_
  refine lv_aload_n hx hb dX5_truth_89 rfl (lv_at hl 0 rfl) ?_
  refine w_get (C := RX5) (T := TX5) (Nf := 4) (ci := 5) (v := .ref ql) S (fun _ h => List.mem_cons_of_mem _ (List.mem_append_right _ h)) hE hP 0 rfl rfl 3 (by decide) (List.mem_of_getElem? (i := 4) rfl) rfl dX5_truth_90 ?_
  refine lv_iconst (v := iI (5)) hx hb dX5_truth_93 rfl ?_
  refine lv_iload_n hx hb dX5_truth_94 rfl (lv_at hl 1 rfl) ?_
  refine w_imul S dX5_truth_95 ?_
  refine lv_iload_n hx hb dX5_truth_96 rfl (lv_at hl 2 rfl) ?_
  refine w_iadd S dX5_truth_97 ?_
  refine w_iald S hE hP 4 rfl (f * 5 + g) (by omega) (by omega) (by omega) dX5_truth_98 ?_
  refine lv_istore (lv' := [(6, .int (iI ((fwO (lay0 hi lo ha) 5) (f * 5 + g)))), (0, .ref q), (1, .int (iI (((f : Nat) : Int)))), (2, .int (iI (((g : Nat) : Int)))), (3, .int (iI (((bk : Nat) : Int)))), (4, .int (iI (1))), (5, .int (iI (u)))]) hx hb dX5_truth_99 hl (by decide) rfl (fun ls hl => ?_)
  refine lv_iload hx hb dX5_truth_101 (lv_at hl 0 rfl) ?_
  refine w_ldc (z := 1000000) S (List.mem_of_getElem? (i := 5) rfl) (by decide) dX5_truth_103 ?_
  refine c_neF (tgt := 111) S dX5_truth_105 (by decide) (by omega) ?_
  refine w_ldc (z := (-1000000006)) S (List.mem_of_getElem? (i := 6) rfl) (by decide) dX5_truth_108 ?_
  exact hret _ _ _ _ _ dX5_truth_110 (congrArg iI (by omega)) hP hS
set_option maxHeartbeats 4000000 in
set_option maxRecDepth 100000 in
theorem m_truth_10 (lc : Launch) (D : va_G) (cI cZ : ClassId) (N : Nat) (q : Nat) (qs : Nat) (qi : Nat) (qk : Nat) (ql : Nat) (mn : Nat) (tA : Int) (sA : Int) (kA : Int) (nb : Nat → Int) (ck : Nat → Int) (hi : Nat → Int) (lo : Nat → Int) (ha : Nat → Int) (cn : Nat → Int) (sm : Nat → Int) (im : Nat → Int) (kp : Nat → Int) (le : Nat → Int) (f : Nat) (g : Nat) (bk : Nat) (wq : Nat) (hmn : 2 ≤ mn ∧ mn ≤ 5) (hfg : f < g) (hgm : g < mn) (hbk : bk < 200) (hcn : ∀ k, k < 1000 → 0 ≤ cn k ∧ cn k ≤ 200) (hck : ∀ k, k < 5 → -99 ≤ ck k ∧ ck k ≤ 99) (hpot : potOK ck (lay0 hi lo ha)) (hhi : ∀ k, k < 25 → -100000 ≤ hi k ∧ hi k ≤ 100000) (hlo2 : ∀ k, k < 25 → -100000 ≤ lo k ∧ lo k ≤ 100000) (hha : ∀ k, k < 25 → ha k = 0 ∨ ha k = 1) (h2 : 0 < cn (f * 200 + bk) ∧ cn (f * 200 + bk) = cn (g * 200 + bk)) (h5 : fwO (lay0 hi lo ha) 5 (f * 5 + g) ≠ 1000000) (hwq : cn (g * 200 + bk) = ((wq : Nat) : Int)) (hwq2 : 0 < wq ∧ wq ≤ 200) (hU : -1000000000 ≤ ((sm (g * 200 + bk) - sm (f * 200 + bk)) + (-(fwO (lay0 hi lo ha) 5 (f * 5 + g))) * ((wq : Nat) : Int)) ∧ ((sm (g * 200 + bk) - sm (f * 200 + bk)) + (-(fwO (lay0 hi lo ha) 5 (f * 5 + g))) * ((wq : Nat) : Int)) ≤ 1000000000) : CM lc D cI cZ N yX5_truth wsX5_truth (rmK 2 47) [.ref q, .int (iI (((f : Nat) : Int))), .int (iI (((g : Nat) : Int))), .int (iI (((bk : Nat) : Int))), .int (iI (1)), .int (iI (0))] [(q, .inr (5, [.ref qs, .ref qi, .ref qk, .ref ql])), (qs, .inl (cI, 2108, .inl (vI (stF ((mn : Nat) : Int) tA sA kA nb ck hi lo ha cn sm)))), (qi, .inl (cI, 4216, .inl (vI im))), (qk, .inl (cZ, 2, .inl (vI kp))), (ql, .inl (cI, 25, .inl (vI le)))] (some (.int (iI (((sm (g * 200 + bk) - sm (f * 200 + bk)) + (-(fwO (lay0 hi lo ha) 5 (f * 5 + g))) * ((wq : Nat) : Int)).tdiv ((Nat.gcd (((sm (g * 200 + bk) - sm (f * 200 + bk)) + (-(fwO (lay0 hi lo ha) 5 (f * 5 + g))) * ((wq : Nat) : Int))).natAbs wq : Nat) : Int))))) [(q, .inr (5, [.ref qs, .ref qi, .ref qk, .ref ql])), (qs, .inl (cI, 2108, .inl (vI (stF ((mn : Nat) : Int) tA sA kA nb ck hi lo ha cn sm)))), (qi, .inl (cI, 4216, .inl (vI im))), (qk, .inl (cZ, 2, .inl (vI kp))), (ql, .inl (cI, 25, .inl (vI (fwO (lay0 hi lo ha) 5))))] := by
  refine CM.I (cc := cX5_truth) (maxL := 9) (by decide) rfl (Nat.le_of_ble_eq_true rfl) ?_
  intro p e s m args below meth c R Q S hE A hAN hfr hlo hP hD hS hret ls hl
  have S : CallFix p m c cX5_truth 9 s args wsX5_truth RX5 := S
  have hx := S.1
  have hb := S.2.1
  have hl : lv_has ls 9 [(0, .ref q), (1, .int (iI (((f : Nat) : Int)))), (2, .int (iI (((g : Nat) : Int)))), (3, .int (iI (((bk : Nat) : Int)))), (4, .int (iI (1))), (5, .int (iI (0)))] := hl
  have g1 := fwO_pot hpot 5 (by omega) (f * 5 + g) (by omega)
  have k1 := hck ((f * 5 + g) % 5) (by omega)
  have k2 := hck ((f * 5 + g) / 5) (by omega)
  refine lv_aload_n hx hb dX5_truth_0 rfl (lv_at hl 0 rfl) ?_
  refine lv_iload_n hx hb dX5_truth_1 rfl (lv_at hl 1 rfl) ?_
  refine kV_R (n := 1) (ci := 5) (q := (RX5, TX5, 4)) S (m_isNode_T lc D cI cZ N q qs qi qk ql mn tA sA kA nb ck hi lo ha cn sm im kp le ((f : Nat) : Int) (by omega) (by omega) (by omega)) gX5_truth_X5_isNode rfl rfl (by decide +kernel) rfl rfl ⟨Nat.le_trans (Nat.le_of_ble_eq_true rfl) hfr, Nat.le_trans (Nat.le_of_ble_eq_true rfl) hlo⟩ hE hAN hP hD hS [0, 1, 2, 3, 4] rfl (by decide) rfl rfl rfl rfl hl.1 [] rfl (Nat.le_of_ble_eq_true rfl) dX5_truth_2 ⟨Nat.zero_le _, Nat.zero_le _⟩ ?_
  refine W.eq (g2 := F0 m 5 ls [.int (iI (1))]) rfl ?_
  refine b_eqF (tgt := 16) S dX5_truth_5 (by decide) (by decide) (by decide) ?_
  refine lv_aload_n hx hb dX5_truth_8 rfl (lv_at hl 0 rfl) ?_
  refine lv_iload_n hx hb dX5_truth_9 rfl (lv_at hl 2 rfl) ?_
  refine kV_R (n := 1) (ci := 5) (q := (RX5, TX5, 4)) S (m_isNode_T lc D cI cZ N q qs qi qk ql mn tA sA kA nb ck hi lo ha cn sm im kp le ((g : Nat) : Int) (by omega) (by omega) (by omega)) gX5_truth_X5_isNode rfl rfl (by decide +kernel) rfl rfl ⟨Nat.le_trans (Nat.le_of_ble_eq_true rfl) hfr, Nat.le_trans (Nat.le_of_ble_eq_true rfl) hlo⟩ hE hAN hP hD hS [0, 1, 2, 3, 4] rfl (by decide) rfl rfl rfl rfl hl.1 [] rfl (Nat.le_of_ble_eq_true rfl) dX5_truth_10 ⟨Nat.zero_le _, Nat.zero_le _⟩ ?_
  refine W.eq (g2 := F0 m 13 ls [.int (iI (1))]) rfl ?_
  refine b_neT (tgt := 19) S dX5_truth_13 (by decide) (by decide) (by decide) ?_
  refine lv_iload_n hx hb dX5_truth_19 rfl (lv_at hl 2 rfl) ?_
  refine lv_iload_n hx hb dX5_truth_20 rfl (lv_at hl 1 rfl) ?_
  refine c_leF (tgt := 51) S dX5_truth_21 (by decide) (by omega) (by omega) (by omega) ?_
  refine lv_iload_n hx hb dX5_truth_24 rfl (lv_at hl 3 rfl) ?_
  refine kS_R (n := 1) S (m_isBlock_T lc D cI cZ N ((bk : Nat) : Int) (by omega) (by omega)) gX5_truth_X5_isBlock rfl (by decide +kernel) rfl rfl ⟨Nat.le_trans (Nat.le_of_ble_eq_true rfl) hfr, Nat.le_trans (Nat.le_of_ble_eq_true rfl) hlo⟩ hE hAN hP hD hS [] rfl (by decide) rfl hl.1 [] rfl (Nat.le_of_ble_eq_true rfl) dX5_truth_25 ⟨Nat.zero_le _, Nat.zero_le _⟩ ?_
  refine W.eq (g2 := F0 m 28 ls [.int (iI (1))]) rfl ?_
  refine b_eqF (tgt := 51) S dX5_truth_28 (by decide) (by decide) (by decide) ?_
  refine lv_iload hx hb dX5_truth_31 (lv_at hl 4 rfl) ?_
  refine lv_iconst (v := iI (0)) hx hb dX5_truth_33 rfl ?_
  refine lv_iconst (v := iI (1)) hx hb dX5_truth_34 rfl ?_
  refine kS_R (n := 3) S (m_in_T lc D cI cZ N 1 0 1 (by omega) (by omega) (by omega) (by omega)) gX5_truth_X5_in rfl (by decide +kernel) rfl rfl ⟨Nat.le_trans (Nat.le_of_ble_eq_true rfl) hfr, Nat.le_trans (Nat.le_of_ble_eq_true rfl) hlo⟩ hE hAN hP hD hS [] rfl (by decide) rfl hl.1 [] rfl (Nat.le_of_ble_eq_true rfl) dX5_truth_35 ⟨Nat.zero_le _, Nat.zero_le _⟩ ?_
  refine W.eq (g2 := F0 m 38 ls [.int (iI (1))]) rfl ?_
  refine b_eqF (tgt := 51) S dX5_truth_38 (by decide) (by decide) (by decide) ?_
  refine lv_iload hx hb dX5_truth_41 (lv_at hl 5 rfl) ?_
  refine lv_iconst (v := iI (0)) hx hb dX5_truth_43 rfl ?_
  refine lv_iconst (v := iI (1)) hx hb dX5_truth_44 rfl ?_
  refine kS_R (n := 3) S (m_in_T lc D cI cZ N 0 0 1 (by omega) (by omega) (by omega) (by omega)) gX5_truth_X5_in rfl (by decide +kernel) rfl rfl ⟨Nat.le_trans (Nat.le_of_ble_eq_true rfl) hfr, Nat.le_trans (Nat.le_of_ble_eq_true rfl) hlo⟩ hE hAN hP hD hS [] rfl (by decide) rfl hl.1 [] rfl (Nat.le_of_ble_eq_true rfl) dX5_truth_45 ⟨Nat.zero_le _, Nat.zero_le _⟩ ?_
  refine W.eq (g2 := F0 m 48 ls [.int (iI (1))]) rfl ?_
  refine b_neT (tgt := 54) S dX5_truth_48 (by decide) (by decide) (by decide) ?_
  refine lv_aload_n hx hb dX5_truth_54 rfl (lv_at hl 0 rfl) ?_
  refine lv_iload_n hx hb dX5_truth_55 rfl (lv_at hl 1 rfl) ?_
  refine lv_iload_n hx hb dX5_truth_56 rfl (lv_at hl 2 rfl) ?_
  refine lv_iload_n hx hb dX5_truth_57 rfl (lv_at hl 3 rfl) ?_
  refine kV_R (n := 3) (ci := 5) (q := (RX5, TX5, 4)) S (m_isTaken_T lc D cI cZ N q qs qi qk ql mn tA sA kA nb ck hi lo ha cn sm im kp le f g bk (by omega) (by omega) (by omega) (by omega) (by omega)) gX5_truth_X5_isTaken rfl rfl (by decide +kernel) rfl rfl ⟨Nat.le_trans (Nat.le_of_ble_eq_true rfl) hfr, Nat.le_trans (Nat.le_of_ble_eq_true rfl) hlo⟩ hE hAN hP hD hS [0, 1, 2, 3, 4] rfl (by decide) rfl rfl rfl rfl hl.1 [] rfl (Nat.le_of_ble_eq_true rfl) dX5_truth_58 ⟨Nat.zero_le _, Nat.zero_le _⟩ ?_
  refine W.eq (g2 := F0 m 61 ls [.int (iI (1))]) rfl ?_
  refine b_neT (tgt := 67) S dX5_truth_61 (by decide) (by decide) (by decide) ?_
  refine lv_aload_n hx hb dX5_truth_67 rfl (lv_at hl 0 rfl) ?_
  refine kV_M (n := 0) (ci := 5) (q := (RX5, TX5, 4)) S (m_layLeast lc D cI cZ N q qs qi qk ql mn tA sA kA nb ck hi lo ha cn sm im kp le hck hpot hhi hlo2 hha) gX5_truth_X5_layLeast rfl rfl (by decide +kernel) rfl rfl ⟨Nat.le_trans (Nat.le_of_ble_eq_true rfl) hfr, Nat.le_trans (Nat.le_of_ble_eq_true rfl) hlo⟩ hE hAN hP hD hS [0, 1, 2, 3, 4] rfl (by decide) rfl rfl rfl rfl rfl hl.1 [] rfl (Nat.le_of_ble_eq_true rfl) dX5_truth_68 ⟨Nat.zero_le _, Nat.zero_le _⟩ (fun H locs hP hD hS => ?_)
  have hP : va_P D vwCl [(q, .inr (5, [.ref qs, .ref qi, .ref qk, .ref ql])), (qs, .inl (cI, 2108, .inl (vI (stF ((mn : Nat) : Int) tA sA kA nb ck hi lo ha cn sm)))), (qi, .inl (cI, 4216, .inl (vI im))), (qk, .inl (cZ, 2, .inl (vI kp))), (ql, .inl (cI, 25, .inl (vI (fwO (lay0 hi lo ha) 5))))] H := hP
  have hD : va_D A [(q, .inr (5, [.ref qs, .ref qi, .ref qk, .ref ql])), (qs, .inl (cI, 2108, .inl (vI (stF ((mn : Nat) : Int) tA sA kA nb ck hi lo ha cn sm)))), (qi, .inl (cI, 4216, .inl (vI im))), (qk, .inl (cZ, 2, .inl (vI kp))), (ql, .inl (cI, 25, .inl (vI (fwO (lay0 hi lo ha) 5))))] := hD
  refine W.eq (g2 := F0 m 71 ls []) rfl ?_
  refine lv_iload hx hb dX5_truth_71 (lv_at hl 4 rfl) ?_
  refine b_neT (tgt := 89) S dX5_truth_73 (by decide) (by decide) (by decide) ?_
  refine lv_aload_n hx hb dX5_truth_89 rfl (lv_at hl 0 rfl) ?_
  refine w_get (C := RX5) (T := TX5) (Nf := 4) (ci := 5) (v := .ref ql) S (fun _ h => List.mem_cons_of_mem _ (List.mem_append_right _ h)) hE hP 0 rfl rfl 3 (by decide) (List.mem_of_getElem? (i := 4) rfl) rfl dX5_truth_90 ?_
  refine lv_iconst (v := iI (5)) hx hb dX5_truth_93 rfl ?_
  refine lv_iload_n hx hb dX5_truth_94 rfl (lv_at hl 1 rfl) ?_
  refine w_imul S dX5_truth_95 ?_
  refine lv_iload_n hx hb dX5_truth_96 rfl (lv_at hl 2 rfl) ?_
  refine w_iadd S dX5_truth_97 ?_
  refine w_iald S hE hP 4 rfl (f * 5 + g) (by omega) (by omega) (by omega) dX5_truth_98 ?_
  refine lv_istore (lv' := [(6, .int (iI ((fwO (lay0 hi lo ha) 5) (f * 5 + g)))), (0, .ref q), (1, .int (iI (((f : Nat) : Int)))), (2, .int (iI (((g : Nat) : Int)))), (3, .int (iI (((bk : Nat) : Int)))), (4, .int (iI (1))), (5, .int (iI (0)))]) hx hb dX5_truth_99 hl (by decide) rfl (fun ls hl => ?_)
  refine lv_iload hx hb dX5_truth_101 (lv_at hl 0 rfl) ?_
  refine w_ldc (z := 1000000) S (List.mem_of_getElem? (i := 5) rfl) (by decide) dX5_truth_103 ?_
  refine c_neT (tgt := 111) S dX5_truth_105 (by decide) (by omega) (by omega) (by omega) ?_
  refine lv_iload hx hb dX5_truth_111 (lv_at hl 5 rfl) ?_
  refine b_neT (tgt := 121) S dX5_truth_113 (by decide) (by decide) (by decide) ?_
  refine lv_iload hx hb dX5_truth_121 (lv_at hl 0 rfl) ?_
  refine w_ineg S dX5_truth_123 ?_
  refine lv_istore (lv' := [(7, .int (iI (-((fwO (lay0 hi lo ha) 5) (f * 5 + g))))), (6, .int (iI ((fwO (lay0 hi lo ha) 5) (f * 5 + g)))), (0, .ref q), (1, .int (iI (((f : Nat) : Int)))), (2, .int (iI (((g : Nat) : Int)))), (3, .int (iI (((bk : Nat) : Int)))), (4, .int (iI (1))), (5, .int (iI (0)))]) hx hb dX5_truth_124 hl (by decide) rfl (fun ls hl => ?_)
  refine lv_aload_n hx hb dX5_truth_126 rfl (lv_at hl 2 rfl) ?_
  refine lv_iload_n hx hb dX5_truth_127 rfl (lv_at hl 4 rfl) ?_
  refine lv_iload_n hx hb dX5_truth_128 rfl (lv_at hl 5 rfl) ?_
  refine kV_R (n := 2) (ci := 5) (q := (RX5, TX5, 4)) S (m_countOf lc D cI cZ N q qs qi qk ql mn tA sA kA nb ck hi lo ha cn sm im kp (fwO (lay0 hi lo ha) 5) g bk (by omega) (by omega)) gX5_truth_X5_countOf rfl rfl (by decide +kernel) rfl rfl ⟨Nat.le_trans (Nat.le_of_ble_eq_true rfl) hfr, Nat.le_trans (Nat.le_of_ble_eq_true rfl) hlo⟩ hE hAN hP hD hS [0, 1, 2, 3, 4] rfl (by decide) rfl rfl rfl rfl hl.1 [] rfl (Nat.le_of_ble_eq_true rfl) dX5_truth_129 ⟨Nat.zero_le _, Nat.zero_le _⟩ ?_
  refine W.eq (g2 := F0 m 132 ls [.int (iI (cn (g * 200 + bk)))]) rfl ?_
  refine w_tz (z := ((wq : Nat) : Int)) hwq ?_
  refine lv_istore (lv' := [(8, .int (iI (((wq : Nat) : Int)))), (7, .int (iI (-((fwO (lay0 hi lo ha) 5) (f * 5 + g))))), (6, .int (iI ((fwO (lay0 hi lo ha) 5) (f * 5 + g)))), (0, .ref q), (1, .int (iI (((f : Nat) : Int)))), (2, .int (iI (((g : Nat) : Int)))), (3, .int (iI (((bk : Nat) : Int)))), (4, .int (iI (1))), (5, .int (iI (0)))]) hx hb dX5_truth_132 hl (by decide) rfl (fun ls hl => ?_)
  refine lv_aload_n hx hb dX5_truth_134 rfl (lv_at hl 3 rfl) ?_
  refine lv_iload_n hx hb dX5_truth_135 rfl (lv_at hl 5 rfl) ?_
  refine lv_iload_n hx hb dX5_truth_136 rfl (lv_at hl 6 rfl) ?_
  refine kV_R (n := 2) (ci := 5) (q := (RX5, TX5, 4)) S (m_sumOf lc D cI cZ N q qs qi qk ql mn tA sA kA nb ck hi lo ha cn sm im kp (fwO (lay0 hi lo ha) 5) g bk (by omega) (by omega)) gX5_truth_X5_sumOf rfl rfl (by decide +kernel) rfl rfl ⟨Nat.le_trans (Nat.le_of_ble_eq_true rfl) hfr, Nat.le_trans (Nat.le_of_ble_eq_true rfl) hlo⟩ hE hAN hP hD hS [0, 1, 2, 3, 4] rfl (by decide) rfl rfl rfl rfl hl.1 [] rfl (Nat.le_of_ble_eq_true rfl) dX5_truth_137 ⟨Nat.zero_le _, Nat.zero_le _⟩ ?_
  refine W.eq (g2 := F0 m 140 ls [.int (iI (sm (g * 200 + bk)))]) rfl ?_
  refine lv_aload_n hx hb dX5_truth_140 rfl (lv_at hl 3 rfl) ?_
  refine lv_iload_n hx hb dX5_truth_141 rfl (lv_at hl 4 rfl) ?_
  refine lv_iload_n hx hb dX5_truth_142 rfl (lv_at hl 6 rfl) ?_
  refine kV_R (n := 2) (ci := 5) (q := (RX5, TX5, 4)) S (m_sumOf lc D cI cZ N q qs qi qk ql mn tA sA kA nb ck hi lo ha cn sm im kp (fwO (lay0 hi lo ha) 5) f bk (by omega) (by omega)) gX5_truth_X5_sumOf rfl rfl (by decide +kernel) rfl rfl ⟨Nat.le_trans (Nat.le_of_ble_eq_true rfl) hfr, Nat.le_trans (Nat.le_of_ble_eq_true rfl) hlo⟩ hE hAN hP hD hS [0, 1, 2, 3, 4] rfl (by decide) rfl rfl rfl rfl hl.1 [.int (iI (sm (g * 200 + bk)))] rfl (Nat.le_of_ble_eq_true rfl) dX5_truth_143 ⟨Nat.zero_le _, Nat.zero_le _⟩ ?_
  refine W.eq (g2 := F0 m 146 ls [.int (iI (sm (f * 200 + bk))), .int (iI (sm (g * 200 + bk)))]) rfl ?_
  refine w_isub S dX5_truth_146 ?_
  refine lv_iload hx hb dX5_truth_147 (lv_at hl 1 rfl) ?_
  refine lv_iload hx hb dX5_truth_149 (lv_at hl 0 rfl) ?_
  refine w_imul S dX5_truth_151 ?_
  refine w_iadd S dX5_truth_152 ?_
  refine lv_iload hx hb dX5_truth_153 (lv_at hl 0 rfl) ?_
  refine lv_iload hx hb dX5_truth_155 (lv_at hl 8 rfl) ?_
  refine kS_R (n := 3) S (m_told_0 lc D cI cZ N (((sm (g * 200 + bk)) - (sm (f * 200 + bk))) + ((-((fwO (lay0 hi lo ha) 5) (f * 5 + g))) * ((wq : Nat) : Int))) wq 0 (by omega) (by omega) (by omega)) gX5_truth_X5_told rfl (by decide +kernel) rfl rfl ⟨Nat.le_trans (Nat.le_of_ble_eq_true rfl) hfr, Nat.le_trans (Nat.le_of_ble_eq_true rfl) hlo⟩ hE hAN hP hD hS [] rfl (by decide) rfl hl.1 [] rfl (Nat.le_of_ble_eq_true rfl) dX5_truth_157 ⟨Nat.zero_le _, Nat.zero_le _⟩ ?_
  refine W.eq (g2 := F0 m 160 ls [.int (iI ((((sm (g * 200 + bk)) - (sm (f * 200 + bk))) + ((-((fwO (lay0 hi lo ha) 5) (f * 5 + g))) * ((wq : Nat) : Int))).tdiv ((Nat.gcd (((sm (g * 200 + bk)) - (sm (f * 200 + bk))) + ((-((fwO (lay0 hi lo ha) 5) (f * 5 + g))) * ((wq : Nat) : Int))).natAbs wq : Nat) : Int)))]) rfl ?_
  exact hret _ _ _ _ _ dX5_truth_160 (congrArg iI (by omega)) hP hS
set_option maxHeartbeats 4000000 in
set_option maxRecDepth 100000 in
theorem m_truth_11 (lc : Launch) (D : va_G) (cI cZ : ClassId) (N : Nat) (q : Nat) (qs : Nat) (qi : Nat) (qk : Nat) (ql : Nat) (mn : Nat) (tA : Int) (sA : Int) (kA : Int) (nb : Nat → Int) (ck : Nat → Int) (hi : Nat → Int) (lo : Nat → Int) (ha : Nat → Int) (cn : Nat → Int) (sm : Nat → Int) (im : Nat → Int) (kp : Nat → Int) (le : Nat → Int) (f : Nat) (g : Nat) (bk : Nat) (wq : Nat) (hmn : 2 ≤ mn ∧ mn ≤ 5) (hfg : f < g) (hgm : g < mn) (hbk : bk < 200) (hcn : ∀ k, k < 1000 → 0 ≤ cn k ∧ cn k ≤ 200) (hck : ∀ k, k < 5 → -99 ≤ ck k ∧ ck k ≤ 99) (hpot : potOK ck (lay0 hi lo ha)) (hhi : ∀ k, k < 25 → -100000 ≤ hi k ∧ hi k ≤ 100000) (hlo2 : ∀ k, k < 25 → -100000 ≤ lo k ∧ lo k ≤ 100000) (hha : ∀ k, k < 25 → ha k = 0 ∨ ha k = 1) (h2 : 0 < cn (f * 200 + bk) ∧ cn (f * 200 + bk) = cn (g * 200 + bk)) (h5 : fwO (lay0 hi lo ha) 5 (f * 5 + g) ≠ 1000000) (hwq : cn (g * 200 + bk) = ((wq : Nat) : Int)) (hwq2 : 0 < wq ∧ wq ≤ 200) (hU : -1000000000 ≤ ((sm (g * 200 + bk) - sm (f * 200 + bk)) + (-(fwO (lay0 hi lo ha) 5 (f * 5 + g))) * ((wq : Nat) : Int)) ∧ ((sm (g * 200 + bk) - sm (f * 200 + bk)) + (-(fwO (lay0 hi lo ha) 5 (f * 5 + g))) * ((wq : Nat) : Int)) ≤ 1000000000) : CM lc D cI cZ N yX5_truth wsX5_truth (rmK 2 47) [.ref q, .int (iI (((f : Nat) : Int))), .int (iI (((g : Nat) : Int))), .int (iI (((bk : Nat) : Int))), .int (iI (1)), .int (iI (1))] [(q, .inr (5, [.ref qs, .ref qi, .ref qk, .ref ql])), (qs, .inl (cI, 2108, .inl (vI (stF ((mn : Nat) : Int) tA sA kA nb ck hi lo ha cn sm)))), (qi, .inl (cI, 4216, .inl (vI im))), (qk, .inl (cZ, 2, .inl (vI kp))), (ql, .inl (cI, 25, .inl (vI le)))] (some (.int (iI (((wq : Nat) : Int).tdiv ((Nat.gcd (((sm (g * 200 + bk) - sm (f * 200 + bk)) + (-(fwO (lay0 hi lo ha) 5 (f * 5 + g))) * ((wq : Nat) : Int))).natAbs wq : Nat) : Int))))) [(q, .inr (5, [.ref qs, .ref qi, .ref qk, .ref ql])), (qs, .inl (cI, 2108, .inl (vI (stF ((mn : Nat) : Int) tA sA kA nb ck hi lo ha cn sm)))), (qi, .inl (cI, 4216, .inl (vI im))), (qk, .inl (cZ, 2, .inl (vI kp))), (ql, .inl (cI, 25, .inl (vI (fwO (lay0 hi lo ha) 5))))] := by
  refine CM.I (cc := cX5_truth) (maxL := 9) (by decide) rfl (Nat.le_of_ble_eq_true rfl) ?_
  intro p e s m args below meth c R Q S hE A hAN hfr hlo hP hD hS hret ls hl
  have S : CallFix p m c cX5_truth 9 s args wsX5_truth RX5 := S
  have hx := S.1
  have hb := S.2.1
  have hl : lv_has ls 9 [(0, .ref q), (1, .int (iI (((f : Nat) : Int)))), (2, .int (iI (((g : Nat) : Int)))), (3, .int (iI (((bk : Nat) : Int)))), (4, .int (iI (1))), (5, .int (iI (1)))] := hl
  have g1 := fwO_pot hpot 5 (by omega) (f * 5 + g) (by omega)
  have k1 := hck ((f * 5 + g) % 5) (by omega)
  have k2 := hck ((f * 5 + g) / 5) (by omega)
  refine lv_aload_n hx hb dX5_truth_0 rfl (lv_at hl 0 rfl) ?_
  refine lv_iload_n hx hb dX5_truth_1 rfl (lv_at hl 1 rfl) ?_
  refine kV_R (n := 1) (ci := 5) (q := (RX5, TX5, 4)) S (m_isNode_T lc D cI cZ N q qs qi qk ql mn tA sA kA nb ck hi lo ha cn sm im kp le ((f : Nat) : Int) (by omega) (by omega) (by omega)) gX5_truth_X5_isNode rfl rfl (by decide +kernel) rfl rfl ⟨Nat.le_trans (Nat.le_of_ble_eq_true rfl) hfr, Nat.le_trans (Nat.le_of_ble_eq_true rfl) hlo⟩ hE hAN hP hD hS [0, 1, 2, 3, 4] rfl (by decide) rfl rfl rfl rfl hl.1 [] rfl (Nat.le_of_ble_eq_true rfl) dX5_truth_2 ⟨Nat.zero_le _, Nat.zero_le _⟩ ?_
  refine W.eq (g2 := F0 m 5 ls [.int (iI (1))]) rfl ?_
  refine b_eqF (tgt := 16) S dX5_truth_5 (by decide) (by decide) (by decide) ?_
  refine lv_aload_n hx hb dX5_truth_8 rfl (lv_at hl 0 rfl) ?_
  refine lv_iload_n hx hb dX5_truth_9 rfl (lv_at hl 2 rfl) ?_
  refine kV_R (n := 1) (ci := 5) (q := (RX5, TX5, 4)) S (m_isNode_T lc D cI cZ N q qs qi qk ql mn tA sA kA nb ck hi lo ha cn sm im kp le ((g : Nat) : Int) (by omega) (by omega) (by omega)) gX5_truth_X5_isNode rfl rfl (by decide +kernel) rfl rfl ⟨Nat.le_trans (Nat.le_of_ble_eq_true rfl) hfr, Nat.le_trans (Nat.le_of_ble_eq_true rfl) hlo⟩ hE hAN hP hD hS [0, 1, 2, 3, 4] rfl (by decide) rfl rfl rfl rfl hl.1 [] rfl (Nat.le_of_ble_eq_true rfl) dX5_truth_10 ⟨Nat.zero_le _, Nat.zero_le _⟩ ?_
  refine W.eq (g2 := F0 m 13 ls [.int (iI (1))]) rfl ?_
  refine b_neT (tgt := 19) S dX5_truth_13 (by decide) (by decide) (by decide) ?_
  refine lv_iload_n hx hb dX5_truth_19 rfl (lv_at hl 2 rfl) ?_
  refine lv_iload_n hx hb dX5_truth_20 rfl (lv_at hl 1 rfl) ?_
  refine c_leF (tgt := 51) S dX5_truth_21 (by decide) (by omega) (by omega) (by omega) ?_
  refine lv_iload_n hx hb dX5_truth_24 rfl (lv_at hl 3 rfl) ?_
  refine kS_R (n := 1) S (m_isBlock_T lc D cI cZ N ((bk : Nat) : Int) (by omega) (by omega)) gX5_truth_X5_isBlock rfl (by decide +kernel) rfl rfl ⟨Nat.le_trans (Nat.le_of_ble_eq_true rfl) hfr, Nat.le_trans (Nat.le_of_ble_eq_true rfl) hlo⟩ hE hAN hP hD hS [] rfl (by decide) rfl hl.1 [] rfl (Nat.le_of_ble_eq_true rfl) dX5_truth_25 ⟨Nat.zero_le _, Nat.zero_le _⟩ ?_
  refine W.eq (g2 := F0 m 28 ls [.int (iI (1))]) rfl ?_
  refine b_eqF (tgt := 51) S dX5_truth_28 (by decide) (by decide) (by decide) ?_
  refine lv_iload hx hb dX5_truth_31 (lv_at hl 4 rfl) ?_
  refine lv_iconst (v := iI (0)) hx hb dX5_truth_33 rfl ?_
  refine lv_iconst (v := iI (1)) hx hb dX5_truth_34 rfl ?_
  refine kS_R (n := 3) S (m_in_T lc D cI cZ N 1 0 1 (by omega) (by omega) (by omega) (by omega)) gX5_truth_X5_in rfl (by decide +kernel) rfl rfl ⟨Nat.le_trans (Nat.le_of_ble_eq_true rfl) hfr, Nat.le_trans (Nat.le_of_ble_eq_true rfl) hlo⟩ hE hAN hP hD hS [] rfl (by decide) rfl hl.1 [] rfl (Nat.le_of_ble_eq_true rfl) dX5_truth_35 ⟨Nat.zero_le _, Nat.zero_le _⟩ ?_
  refine W.eq (g2 := F0 m 38 ls [.int (iI (1))]) rfl ?_
  refine b_eqF (tgt := 51) S dX5_truth_38 (by decide) (by decide) (by decide) ?_
  refine lv_iload hx hb dX5_truth_41 (lv_at hl 5 rfl) ?_
  refine lv_iconst (v := iI (0)) hx hb dX5_truth_43 rfl ?_
  refine lv_iconst (v := iI (1)) hx hb dX5_truth_44 rfl ?_
  refine kS_R (n := 3) S (m_in_T lc D cI cZ N 1 0 1 (by omega) (by omega) (by omega) (by omega)) gX5_truth_X5_in rfl (by decide +kernel) rfl rfl ⟨Nat.le_trans (Nat.le_of_ble_eq_true rfl) hfr, Nat.le_trans (Nat.le_of_ble_eq_true rfl) hlo⟩ hE hAN hP hD hS [] rfl (by decide) rfl hl.1 [] rfl (Nat.le_of_ble_eq_true rfl) dX5_truth_45 ⟨Nat.zero_le _, Nat.zero_le _⟩ ?_
  refine W.eq (g2 := F0 m 48 ls [.int (iI (1))]) rfl ?_
  refine b_neT (tgt := 54) S dX5_truth_48 (by decide) (by decide) (by decide) ?_
  refine lv_aload_n hx hb dX5_truth_54 rfl (lv_at hl 0 rfl) ?_
  refine lv_iload_n hx hb dX5_truth_55 rfl (lv_at hl 1 rfl) ?_
  refine lv_iload_n hx hb dX5_truth_56 rfl (lv_at hl 2 rfl) ?_
  refine lv_iload_n hx hb dX5_truth_57 rfl (lv_at hl 3 rfl) ?_
  refine kV_R (n := 3) (ci := 5) (q := (RX5, TX5, 4)) S (m_isTaken_T lc D cI cZ N q qs qi qk ql mn tA sA kA nb ck hi lo ha cn sm im kp le f g bk (by omega) (by omega) (by omega) (by omega) (by omega)) gX5_truth_X5_isTaken rfl rfl (by decide +kernel) rfl rfl ⟨Nat.le_trans (Nat.le_of_ble_eq_true rfl) hfr, Nat.le_trans (Nat.le_of_ble_eq_true rfl) hlo⟩ hE hAN hP hD hS [0, 1, 2, 3, 4] rfl (by decide) rfl rfl rfl rfl hl.1 [] rfl (Nat.le_of_ble_eq_true rfl) dX5_truth_58 ⟨Nat.zero_le _, Nat.zero_le _⟩ ?_
  refine W.eq (g2 := F0 m 61 ls [.int (iI (1))]) rfl ?_
  refine b_neT (tgt := 67) S dX5_truth_61 (by decide) (by decide) (by decide) ?_
  refine lv_aload_n hx hb dX5_truth_67 rfl (lv_at hl 0 rfl) ?_
  refine kV_M (n := 0) (ci := 5) (q := (RX5, TX5, 4)) S (m_layLeast lc D cI cZ N q qs qi qk ql mn tA sA kA nb ck hi lo ha cn sm im kp le hck hpot hhi hlo2 hha) gX5_truth_X5_layLeast rfl rfl (by decide +kernel) rfl rfl ⟨Nat.le_trans (Nat.le_of_ble_eq_true rfl) hfr, Nat.le_trans (Nat.le_of_ble_eq_true rfl) hlo⟩ hE hAN hP hD hS [0, 1, 2, 3, 4] rfl (by decide) rfl rfl rfl rfl rfl hl.1 [] rfl (Nat.le_of_ble_eq_true rfl) dX5_truth_68 ⟨Nat.zero_le _, Nat.zero_le _⟩ (fun H locs hP hD hS => ?_)
  have hP : va_P D vwCl [(q, .inr (5, [.ref qs, .ref qi, .ref qk, .ref ql])), (qs, .inl (cI, 2108, .inl (vI (stF ((mn : Nat) : Int) tA sA kA nb ck hi lo ha cn sm)))), (qi, .inl (cI, 4216, .inl (vI im))), (qk, .inl (cZ, 2, .inl (vI kp))), (ql, .inl (cI, 25, .inl (vI (fwO (lay0 hi lo ha) 5))))] H := hP
  have hD : va_D A [(q, .inr (5, [.ref qs, .ref qi, .ref qk, .ref ql])), (qs, .inl (cI, 2108, .inl (vI (stF ((mn : Nat) : Int) tA sA kA nb ck hi lo ha cn sm)))), (qi, .inl (cI, 4216, .inl (vI im))), (qk, .inl (cZ, 2, .inl (vI kp))), (ql, .inl (cI, 25, .inl (vI (fwO (lay0 hi lo ha) 5))))] := hD
  refine W.eq (g2 := F0 m 71 ls []) rfl ?_
  refine lv_iload hx hb dX5_truth_71 (lv_at hl 4 rfl) ?_
  refine b_neT (tgt := 89) S dX5_truth_73 (by decide) (by decide) (by decide) ?_
  refine lv_aload_n hx hb dX5_truth_89 rfl (lv_at hl 0 rfl) ?_
  refine w_get (C := RX5) (T := TX5) (Nf := 4) (ci := 5) (v := .ref ql) S (fun _ h => List.mem_cons_of_mem _ (List.mem_append_right _ h)) hE hP 0 rfl rfl 3 (by decide) (List.mem_of_getElem? (i := 4) rfl) rfl dX5_truth_90 ?_
  refine lv_iconst (v := iI (5)) hx hb dX5_truth_93 rfl ?_
  refine lv_iload_n hx hb dX5_truth_94 rfl (lv_at hl 1 rfl) ?_
  refine w_imul S dX5_truth_95 ?_
  refine lv_iload_n hx hb dX5_truth_96 rfl (lv_at hl 2 rfl) ?_
  refine w_iadd S dX5_truth_97 ?_
  refine w_iald S hE hP 4 rfl (f * 5 + g) (by omega) (by omega) (by omega) dX5_truth_98 ?_
  refine lv_istore (lv' := [(6, .int (iI ((fwO (lay0 hi lo ha) 5) (f * 5 + g)))), (0, .ref q), (1, .int (iI (((f : Nat) : Int)))), (2, .int (iI (((g : Nat) : Int)))), (3, .int (iI (((bk : Nat) : Int)))), (4, .int (iI (1))), (5, .int (iI (1)))]) hx hb dX5_truth_99 hl (by decide) rfl (fun ls hl => ?_)
  refine lv_iload hx hb dX5_truth_101 (lv_at hl 0 rfl) ?_
  refine w_ldc (z := 1000000) S (List.mem_of_getElem? (i := 5) rfl) (by decide) dX5_truth_103 ?_
  refine c_neT (tgt := 111) S dX5_truth_105 (by decide) (by omega) (by omega) (by omega) ?_
  refine lv_iload hx hb dX5_truth_111 (lv_at hl 5 rfl) ?_
  refine b_neT (tgt := 121) S dX5_truth_113 (by decide) (by decide) (by decide) ?_
  refine lv_iload hx hb dX5_truth_121 (lv_at hl 0 rfl) ?_
  refine w_ineg S dX5_truth_123 ?_
  refine lv_istore (lv' := [(7, .int (iI (-((fwO (lay0 hi lo ha) 5) (f * 5 + g))))), (6, .int (iI ((fwO (lay0 hi lo ha) 5) (f * 5 + g)))), (0, .ref q), (1, .int (iI (((f : Nat) : Int)))), (2, .int (iI (((g : Nat) : Int)))), (3, .int (iI (((bk : Nat) : Int)))), (4, .int (iI (1))), (5, .int (iI (1)))]) hx hb dX5_truth_124 hl (by decide) rfl (fun ls hl => ?_)
  refine lv_aload_n hx hb dX5_truth_126 rfl (lv_at hl 2 rfl) ?_
  refine lv_iload_n hx hb dX5_truth_127 rfl (lv_at hl 4 rfl) ?_
  refine lv_iload_n hx hb dX5_truth_128 rfl (lv_at hl 5 rfl) ?_
  refine kV_R (n := 2) (ci := 5) (q := (RX5, TX5, 4)) S (m_countOf lc D cI cZ N q qs qi qk ql mn tA sA kA nb ck hi lo ha cn sm im kp (fwO (lay0 hi lo ha) 5) g bk (by omega) (by omega)) gX5_truth_X5_countOf rfl rfl (by decide +kernel) rfl rfl ⟨Nat.le_trans (Nat.le_of_ble_eq_true rfl) hfr, Nat.le_trans (Nat.le_of_ble_eq_true rfl) hlo⟩ hE hAN hP hD hS [0, 1, 2, 3, 4] rfl (by decide) rfl rfl rfl rfl hl.1 [] rfl (Nat.le_of_ble_eq_true rfl) dX5_truth_129 ⟨Nat.zero_le _, Nat.zero_le _⟩ ?_
  refine W.eq (g2 := F0 m 132 ls [.int (iI (cn (g * 200 + bk)))]) rfl ?_
  refine w_tz (z := ((wq : Nat) : Int)) hwq ?_
  refine lv_istore (lv' := [(8, .int (iI (((wq : Nat) : Int)))), (7, .int (iI (-((fwO (lay0 hi lo ha) 5) (f * 5 + g))))), (6, .int (iI ((fwO (lay0 hi lo ha) 5) (f * 5 + g)))), (0, .ref q), (1, .int (iI (((f : Nat) : Int)))), (2, .int (iI (((g : Nat) : Int)))), (3, .int (iI (((bk : Nat) : Int)))), (4, .int (iI (1))), (5, .int (iI (1)))]) hx hb dX5_truth_132 hl (by decide) rfl (fun ls hl => ?_)
  refine lv_aload_n hx hb dX5_truth_134 rfl (lv_at hl 3 rfl) ?_
  refine lv_iload_n hx hb dX5_truth_135 rfl (lv_at hl 5 rfl) ?_
  refine lv_iload_n hx hb dX5_truth_136 rfl (lv_at hl 6 rfl) ?_
  refine kV_R (n := 2) (ci := 5) (q := (RX5, TX5, 4)) S (m_sumOf lc D cI cZ N q qs qi qk ql mn tA sA kA nb ck hi lo ha cn sm im kp (fwO (lay0 hi lo ha) 5) g bk (by omega) (by omega)) gX5_truth_X5_sumOf rfl rfl (by decide +kernel) rfl rfl ⟨Nat.le_trans (Nat.le_of_ble_eq_true rfl) hfr, Nat.le_trans (Nat.le_of_ble_eq_true rfl) hlo⟩ hE hAN hP hD hS [0, 1, 2, 3, 4] rfl (by decide) rfl rfl rfl rfl hl.1 [] rfl (Nat.le_of_ble_eq_true rfl) dX5_truth_137 ⟨Nat.zero_le _, Nat.zero_le _⟩ ?_
  refine W.eq (g2 := F0 m 140 ls [.int (iI (sm (g * 200 + bk)))]) rfl ?_
  refine lv_aload_n hx hb dX5_truth_140 rfl (lv_at hl 3 rfl) ?_
  refine lv_iload_n hx hb dX5_truth_141 rfl (lv_at hl 4 rfl) ?_
  refine lv_iload_n hx hb dX5_truth_142 rfl (lv_at hl 6 rfl) ?_
  refine kV_R (n := 2) (ci := 5) (q := (RX5, TX5, 4)) S (m_sumOf lc D cI cZ N q qs qi qk ql mn tA sA kA nb ck hi lo ha cn sm im kp (fwO (lay0 hi lo ha) 5) f bk (by omega) (by omega)) gX5_truth_X5_sumOf rfl rfl (by decide +kernel) rfl rfl ⟨Nat.le_trans (Nat.le_of_ble_eq_true rfl) hfr, Nat.le_trans (Nat.le_of_ble_eq_true rfl) hlo⟩ hE hAN hP hD hS [0, 1, 2, 3, 4] rfl (by decide) rfl rfl rfl rfl hl.1 [.int (iI (sm (g * 200 + bk)))] rfl (Nat.le_of_ble_eq_true rfl) dX5_truth_143 ⟨Nat.zero_le _, Nat.zero_le _⟩ ?_
  refine W.eq (g2 := F0 m 146 ls [.int (iI (sm (f * 200 + bk))), .int (iI (sm (g * 200 + bk)))]) rfl ?_
  refine w_isub S dX5_truth_146 ?_
  refine lv_iload hx hb dX5_truth_147 (lv_at hl 1 rfl) ?_
  refine lv_iload hx hb dX5_truth_149 (lv_at hl 0 rfl) ?_
  refine w_imul S dX5_truth_151 ?_
  refine w_iadd S dX5_truth_152 ?_
  refine lv_iload hx hb dX5_truth_153 (lv_at hl 0 rfl) ?_
  refine lv_iload hx hb dX5_truth_155 (lv_at hl 8 rfl) ?_
  refine kS_R (n := 3) S (m_told_1 lc D cI cZ N (((sm (g * 200 + bk)) - (sm (f * 200 + bk))) + ((-((fwO (lay0 hi lo ha) 5) (f * 5 + g))) * ((wq : Nat) : Int))) wq 1 (by omega) (by omega) (by omega)) gX5_truth_X5_told rfl (by decide +kernel) rfl rfl ⟨Nat.le_trans (Nat.le_of_ble_eq_true rfl) hfr, Nat.le_trans (Nat.le_of_ble_eq_true rfl) hlo⟩ hE hAN hP hD hS [] rfl (by decide) rfl hl.1 [] rfl (Nat.le_of_ble_eq_true rfl) dX5_truth_157 ⟨Nat.zero_le _, Nat.zero_le _⟩ ?_
  refine W.eq (g2 := F0 m 160 ls [.int (iI (((wq : Nat) : Int).tdiv ((Nat.gcd (((sm (g * 200 + bk)) - (sm (f * 200 + bk))) + ((-((fwO (lay0 hi lo ha) 5) (f * 5 + g))) * ((wq : Nat) : Int))).natAbs wq : Nat) : Int)))]) rfl ?_
  exact hret _ _ _ _ _ dX5_truth_160 (congrArg iI (by omega)) hP hS
