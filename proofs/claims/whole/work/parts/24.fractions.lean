set_option maxHeartbeats 4000000 in
set_option maxRecDepth 100000 in
theorem c_greatestDivisor (lc : Launch) (D : va_G) (cI cZ : ClassId) (N : Nat) (u : Int) (w : Nat) (hu : -1000000000 ≤ u ∧ u ≤ 1000000000) (hw0 : 0 < w ∧ w ≤ 1000000) : CR lc D cI cZ N yX4_greatestDivisor wsX4_greatestDivisor (rmK 0 0) [.int (iI (u)), .int (iI (((w : Nat) : Int)))] [] (some (.int (iI (((Nat.gcd u.natAbs w : Nat) : Int))))) := by
  refine CR.I (cc := cX4_greatestDivisor) (maxL := 3) (by decide) rfl (Nat.le_of_ble_eq_true rfl) ?_
  intro p e s m args below meth c R Q S hE A hAN hfr hlo hP hD hS hret ls hl
  have S : CallFix p m c cX4_greatestDivisor 3 s args wsX4_greatestDivisor RX4 := S
  have hx := S.1
  have hb := S.2.1
  have hl : lv_has ls 3 [(0, .int (iI (u))), (1, .int (iI (((w : Nat) : Int))))] := hl
  refine lv_iload_n hx hb dX4_greatestDivisor_0 rfl (lv_at hl 1 rfl) ?_
  refine lv_istore_n (lv' := [(2, .int (iI (((w : Nat) : Int)))), (0, .int (iI (u))), (1, .int (iI (((w : Nat) : Int))))]) hx hb dX4_greatestDivisor_1 rfl hl (by decide) rfl (fun ls hl => ?_)
  have loop7 : ∀ (n i : Nat) , i = n + 1 → (i ≤ w) → (∀ k, i < k → k ≤ w → ¬ (k ∣ u.natAbs ∧ k ∣ w)) → ∀ (ls : Array Slot), lv_has ls 3 [(2, .int (iI (((i : Nat) : Int)))), (0, .int (iI (u))), (1, .int (iI (((w : Nat) : Int))))] → W p lc e R s m args below meth c s.heap [] 0 0 Q (F0 m 2 ls []) := by
    intro n
    induction n with
    | zero =>
      intro i  hm hiw hk ls hl
      refine lv_iload_n hx hb dX4_greatestDivisor_2 rfl (lv_at hl 0 rfl) ?_
      refine lv_iconst (v := iI (1)) hx hb dX4_greatestDivisor_3 rfl ?_
      refine c_leT (tgt := 27) S dX4_greatestDivisor_4 (by decide) (by omega) (by omega) (by omega) ?_
      refine lv_iconst (v := iI (1)) hx hb dX4_greatestDivisor_27 rfl ?_
      exact hret _ _ _ dX4_greatestDivisor_28 (congrArg iI (by rw [gcd_is (d := 1) (by omega) (Nat.one_dvd _) (Nat.one_dvd _) (by rw [show (1 : Nat) = i by omega]; exact hk)]; rfl))
    | succ n ih7 =>
      intro i  hm hiw hk ls hl
      refine lv_iload_n hx hb dX4_greatestDivisor_2 rfl (lv_at hl 0 rfl) ?_
      refine lv_iconst (v := iI (1)) hx hb dX4_greatestDivisor_3 rfl ?_
      refine c_leF (tgt := 27) S dX4_greatestDivisor_4 (by decide) (by omega) (by omega) (by omega) ?_
      have g1 := tmod_rngZ (t := u) (d := ((i : Nat) : Int)) (by omega)
      have g2 := tmod_rngZ (t := ((w : Nat) : Int)) (d := ((i : Nat) : Int)) (by omega)
      refine lv_iload_n hx hb dX4_greatestDivisor_7 rfl (lv_at hl 1 rfl) ?_
      refine lv_iload_n hx hb dX4_greatestDivisor_8 rfl (lv_at hl 0 rfl) ?_
      refine w_irem S (by omega) (by omega) dX4_greatestDivisor_9 ?_
      by_cases h1 : i ∣ u.natAbs
      · refine b_neF (tgt := 21) S dX4_greatestDivisor_10 (by decide) (tm0.mpr h1) ?_
        refine lv_iload_n hx hb dX4_greatestDivisor_13 rfl (lv_at hl 2 rfl) ?_
        refine lv_iload_n hx hb dX4_greatestDivisor_14 rfl (lv_at hl 0 rfl) ?_
        refine w_irem S (by omega) (by omega) dX4_greatestDivisor_15 ?_
        by_cases h2 : i ∣ w
        · refine b_neF (tgt := 21) S dX4_greatestDivisor_16 (by decide) (tm0w.mpr h2) ?_
          refine lv_iload_n hx hb dX4_greatestDivisor_19 rfl (lv_at hl 0 rfl) ?_
          exact hret _ _ _ dX4_greatestDivisor_20 (congrArg iI (by rw [gcd_is (by omega) h1 h2 hk]))
        · refine b_neT (tgt := 21) S dX4_greatestDivisor_16 (by decide) (by omega) (fun q => h2 (tm0w.mp q)) ?_
          refine w_iinc (v := ((i - 1 : Nat) : Int)) (lv' := [(2, .int (iI (((i - 1 : Nat) : Int)))), (0, .int (iI (u))), (1, .int (iI (((w : Nat) : Int))))]) S dX4_greatestDivisor_21 hl (k := 0) rfl (by omega) (by decide) rfl (fun ls hl => ?_)
          refine lv_goto (tgt := 2) hx hb dX4_greatestDivisor_24 (by decide) ?_
          exact ih7 (i - 1)  (by omega) (by omega) (fun k g1 g2 => by rcases Nat.lt_or_ge i k with g | g; exact hk k g g2; rw [show k = i by omega]; exact fun q => h2 q.2) _ (lv_sub hl [0, 1, 2] rfl)
      · refine b_neT (tgt := 21) S dX4_greatestDivisor_10 (by decide) (by omega) (fun q => h1 (tm0.mp q)) ?_
        refine w_iinc (v := ((i - 1 : Nat) : Int)) (lv' := [(2, .int (iI (((i - 1 : Nat) : Int)))), (0, .int (iI (u))), (1, .int (iI (((w : Nat) : Int))))]) S dX4_greatestDivisor_21 hl (k := 0) rfl (by omega) (by decide) rfl (fun ls hl => ?_)
        refine lv_goto (tgt := 2) hx hb dX4_greatestDivisor_24 (by decide) ?_
        exact ih7 (i - 1)  (by omega) (by omega) (fun k g1 g2 => by rcases Nat.lt_or_ge i k with g | g; exact hk k g g2; rw [show k = i by omega]; exact fun q => h1 q.1) _ (lv_sub hl [0, 1, 2] rfl)
  exact loop7 (w - 1) w  (by omega) (by omega) (fun k g1 g2 => absurd g1 (by omega)) _ (lv_sub hl [0, 1, 2] rfl)
set_option maxHeartbeats 4000000 in
set_option maxRecDepth 100000 in
theorem c_fraction_0 (lc : Launch) (D : va_G) (cI cZ : ClassId) (N : Nat) (u : Int) (w : Nat) (q : Int) (hu : -1000000000 ≤ u ∧ u ≤ 1000000000) (hw0 : 0 < w ∧ w ≤ 1000000) (hq : q = 0) : CR lc D cI cZ N yX4_fractionPart wsX4_fractionPart (rmK 1 22) [.int (iI (u)), .int (iI (((w : Nat) : Int))), .int (iI (q))] [] (some (.int (iI (u.tdiv ((Nat.gcd u.natAbs w : Nat) : Int))))) := by
  refine CR.I (cc := cX4_fractionPart) (maxL := 3) (by decide) rfl (Nat.le_of_ble_eq_true rfl) ?_
  intro p e s m args below meth c R Q S hE A hAN hfr hlo hP hD hS hret ls hl
  have S : CallFix p m c cX4_fractionPart 3 s args wsX4_fractionPart RX4 := S
  have hx := S.1
  have hb := S.2.1
  have hl : lv_has ls 3 [(0, .int (iI (u))), (1, .int (iI (((w : Nat) : Int)))), (2, .int (iI (q)))] := hl
  have h1 := gcd_pos (x := u.natAbs) hw0.1
  refine lv_iload_n hx hb dX4_fractionPart_0 rfl (lv_at hl 2 rfl) ?_
  refine b_neF (tgt := 8) S dX4_fractionPart_1 (by decide) (by omega) ?_
  refine lv_iload_n hx hb dX4_fractionPart_4 rfl (lv_at hl 0 rfl) ?_
  refine lv_goto (tgt := 9) hx hb dX4_fractionPart_5 (by decide) ?_
  refine lv_iload_n hx hb dX4_fractionPart_9 rfl (lv_at hl 0 rfl) ?_
  refine lv_iload_n hx hb dX4_fractionPart_10 rfl (lv_at hl 1 rfl) ?_
  refine kS_R (n := 2) S (c_greatestDivisor lc D cI cZ N u w (by omega) (by omega)) gX4_fractionPart_X4_greatestDivisor rfl (by decide +kernel) rfl rfl ⟨Nat.le_trans (Nat.le_of_ble_eq_true rfl) hfr, Nat.le_trans (Nat.le_of_ble_eq_true rfl) hlo⟩ hE hAN hP hD hS [] rfl (by decide) rfl hl.1 [.int (iI (u))] rfl (Nat.le_of_ble_eq_true rfl) dX4_fractionPart_11 ⟨Nat.zero_le _, Nat.zero_le _⟩ ?_
  refine W.eq (g2 := F0 m 14 ls [.int (iI (((Nat.gcd u.natAbs w : Nat) : Int))), .int (iI (u))]) rfl ?_
  refine kS_R (n := 2) S (c_quotient lc D cI cZ N u ((Nat.gcd u.natAbs w : Nat) : Int) (by omega) (by omega)) gX4_fractionPart_X4_quotient rfl (by decide +kernel) rfl rfl ⟨Nat.le_trans (Nat.le_of_ble_eq_true rfl) hfr, Nat.le_trans (Nat.le_of_ble_eq_true rfl) hlo⟩ hE hAN hP hD hS [] rfl (by decide) rfl hl.1 [] rfl (Nat.le_of_ble_eq_true rfl) dX4_fractionPart_14 ⟨Nat.zero_le _, Nat.zero_le _⟩ ?_
  refine W.eq (g2 := F0 m 17 ls [.int (iI (u.tdiv ((Nat.gcd u.natAbs w : Nat) : Int)))]) rfl ?_
  exact hret _ _ _ dX4_fractionPart_17 rfl
set_option maxHeartbeats 4000000 in
set_option maxRecDepth 100000 in
theorem c_fraction_1 (lc : Launch) (D : va_G) (cI cZ : ClassId) (N : Nat) (u : Int) (w : Nat) (q : Int) (hu : -1000000000 ≤ u ∧ u ≤ 1000000000) (hw0 : 0 < w ∧ w ≤ 1000000) (hq : q = 1) : CR lc D cI cZ N yX4_fractionPart wsX4_fractionPart (rmK 1 22) [.int (iI (u)), .int (iI (((w : Nat) : Int))), .int (iI (q))] [] (some (.int (iI (((w : Nat) : Int).tdiv ((Nat.gcd u.natAbs w : Nat) : Int))))) := by
  refine CR.I (cc := cX4_fractionPart) (maxL := 3) (by decide) rfl (Nat.le_of_ble_eq_true rfl) ?_
  intro p e s m args below meth c R Q S hE A hAN hfr hlo hP hD hS hret ls hl
  have S : CallFix p m c cX4_fractionPart 3 s args wsX4_fractionPart RX4 := S
  have hx := S.1
  have hb := S.2.1
  have hl : lv_has ls 3 [(0, .int (iI (u))), (1, .int (iI (((w : Nat) : Int)))), (2, .int (iI (q)))] := hl
  have h1 := gcd_pos (x := u.natAbs) hw0.1
  refine lv_iload_n hx hb dX4_fractionPart_0 rfl (lv_at hl 2 rfl) ?_
  refine b_neT (tgt := 8) S dX4_fractionPart_1 (by decide) (by omega) (by omega) ?_
  refine lv_iload_n hx hb dX4_fractionPart_8 rfl (lv_at hl 1 rfl) ?_
  refine lv_iload_n hx hb dX4_fractionPart_9 rfl (lv_at hl 0 rfl) ?_
  refine lv_iload_n hx hb dX4_fractionPart_10 rfl (lv_at hl 1 rfl) ?_
  refine kS_R (n := 2) S (c_greatestDivisor lc D cI cZ N u w (by omega) (by omega)) gX4_fractionPart_X4_greatestDivisor rfl (by decide +kernel) rfl rfl ⟨Nat.le_trans (Nat.le_of_ble_eq_true rfl) hfr, Nat.le_trans (Nat.le_of_ble_eq_true rfl) hlo⟩ hE hAN hP hD hS [] rfl (by decide) rfl hl.1 [.int (iI (((w : Nat) : Int)))] rfl (Nat.le_of_ble_eq_true rfl) dX4_fractionPart_11 ⟨Nat.zero_le _, Nat.zero_le _⟩ ?_
  refine W.eq (g2 := F0 m 14 ls [.int (iI (((Nat.gcd u.natAbs w : Nat) : Int))), .int (iI (((w : Nat) : Int)))]) rfl ?_
  refine kS_R (n := 2) S (c_quotient lc D cI cZ N ((w : Nat) : Int) ((Nat.gcd u.natAbs w : Nat) : Int) (by omega) (by omega)) gX4_fractionPart_X4_quotient rfl (by decide +kernel) rfl rfl ⟨Nat.le_trans (Nat.le_of_ble_eq_true rfl) hfr, Nat.le_trans (Nat.le_of_ble_eq_true rfl) hlo⟩ hE hAN hP hD hS [] rfl (by decide) rfl hl.1 [] rfl (Nat.le_of_ble_eq_true rfl) dX4_fractionPart_14 ⟨Nat.zero_le _, Nat.zero_le _⟩ ?_
  refine W.eq (g2 := F0 m 17 ls [.int (iI (((w : Nat) : Int).tdiv ((Nat.gcd u.natAbs w : Nat) : Int)))]) rfl ?_
  exact hret _ _ _ dX4_fractionPart_17 rfl
