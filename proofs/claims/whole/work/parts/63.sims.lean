theorem good_begin {n : Nat} (hn : 2 ≤ n ∧ n ≤ 5) : Good n 0 0 5 (fun _ => 0) nbFirst (fun _ => 0) (fun _ => 0) (fun _ => 1000000000) (fun _ => 0) (fun _ => 0) (fun _ => 0) :=
  ⟨hn, by omega, by omega, by omega, NbOK.first, fun _ _ => ⟨by show (-99 : Int) ≤ 0; omega, by show (0 : Int) ≤ 99; omega⟩, CnOK.zero (by omega), fun _ _ _ _ => Or.inl ⟨rfl, rfl, rfl⟩, fun _ _ => rfl, fun _ _ _ _ => rfl, fun _ _ => ⟨by show (-100000 : Int) ≤ 0; omega, by show (0 : Int) ≤ 100000; omega, by show (-100000 : Int) ≤ 0; omega, by show (0 : Int) ≤ 100000; omega⟩⟩
theorem mulB {t w : Int} (ht : -198 ≤ t ∧ t ≤ 32000) (hw : 0 ≤ w ∧ w ≤ 200) : -10000000 ≤ t * w ∧ t * w ≤ 10000000 := by
  have h1 : t * w ≤ 32000 * w := Int.mul_le_mul_of_nonneg_right ht.2 hw.1
  have h2 : (-198) * w ≤ t * w := Int.mul_le_mul_of_nonneg_right ht.1 hw.1
  omega
theorem first_J {mn B : Nat} {cn : Nat → Int} (hmn : 2 ≤ mn ∧ mn ≤ 5) (h : cn (0 * 200 + B) ≠ cn ((mn - 1) * 200 + B)) : ∃ J, J ≤ mn - 2 ∧ (∀ i, i < J → cn (i * 200 + B) - cn ((i + 1) * 200 + B) = 0) ∧ cn (J * 200 + B) - cn ((J + 1) * 200 + B) ≠ 0 := by
  have hex : ∃ k, k ≤ mn - 2 ∧ cn (k * 200 + B) - cn ((k + 1) * 200 + B) ≠ 0 := by
    rcases Decidable.em (cn (0 * 200 + B) - cn ((0 + 1) * 200 + B) = 0) with g0 | g0
    · have g0 : cn (0 * 200 + B) - cn (1 * 200 + B) = 0 := g0
      rcases Decidable.em (mn = 2) with e | e
      · subst e; exact absurd (show cn (0 * 200 + B) = cn ((2 - 1) * 200 + B) by show _ = cn (1 * 200 + B); omega) h
      · rcases Decidable.em (cn (1 * 200 + B) - cn ((1 + 1) * 200 + B) = 0) with g1 | g1
        · have g1 : cn (1 * 200 + B) - cn (2 * 200 + B) = 0 := g1
          rcases Decidable.em (mn = 3) with e | e
          · subst e; exact absurd (show cn (0 * 200 + B) = cn ((3 - 1) * 200 + B) by show _ = cn (2 * 200 + B); omega) h
          · rcases Decidable.em (cn (2 * 200 + B) - cn ((2 + 1) * 200 + B) = 0) with g2 | g2
            · have g2 : cn (2 * 200 + B) - cn (3 * 200 + B) = 0 := g2
              rcases Decidable.em (mn = 4) with e | e
              · subst e; exact absurd (show cn (0 * 200 + B) = cn ((4 - 1) * 200 + B) by show _ = cn (3 * 200 + B); omega) h
              · have e5 : mn = 5 := by omega
                subst e5
                refine ⟨3, by omega, fun g3 => h ?_⟩
                have g3 : cn (3 * 200 + B) - cn (4 * 200 + B) = 0 := g3
                show cn (0 * 200 + B) = cn (4 * 200 + B)
                omega
            · exact ⟨2, by omega, g2⟩
        · exact ⟨1, by omega, g1⟩
    · exact ⟨0, by omega, g0⟩
  obtain ⟨J, ⟨h1, h2⟩, h3⟩ := pk_least _ hex
  refine ⟨J, h1, fun i hi => ?_, h2⟩
  rcases Decidable.em (cn (i * 200 + B) - cn ((i + 1) * 200 + B) = 0) with g | g
  · exact g
  · exact absurd ⟨by omega, g⟩ (h3 i hi)
set_option maxHeartbeats 4000000 in
set_option maxRecDepth 100000 in
theorem sim_nodes (lc : Launch) (D : va_G) {cI cZ : ClassId} (N : Nat) {o q : Nat} {X M : va_W} (h : StOK cI cZ o q X M) (z1 : Int) (hz1 : -2147483648 ≤ z1 ∧ z1 ≤ 2147483647) : Sim lc D cI cZ N o q yX4_nodes wsX4_nodes (rmK 3 68) yX5_nodes wsX5_nodes (rmK 1 22) [.int (iI z1)] X M := by
  obtain ⟨a, a2, a3, ⟨mn, tA, sA, kA, ck, nb, cn, sm, mo, re⟩, v2, v3, hi, lo, ha, le, iA, iB, b0, b1, qs, qi, qk, ql, rfl, rfl, hG, h0, h1, hI0, hI1⟩ := h
  have hG : Good mn tA sA kA ck nb cn sm mo hi lo ha := hG
  obtain ⟨hmn, hta0, hsA, hkA, hnbO, hck, hcnO, hbd⟩ := id hG
  have hta : 0 ≤ tA ∧ tA ≤ 10000 := by omega
  have hnb := hnbO.1
  have hcn := hcnO.rng hsA.2
  have hmo := hbd.moR hck
  have hha := hbd.haR
  have hhi := hbd.hiR
  have hlo2 := hbd.loR
  have hpot := (hbd.edge hck).pot
  by_cases g : 2 ≤ z1 ∧ z1 ≤ 5
  · obtain ⟨v, rfl⟩ : ∃ n : Nat, z1 = (n : Int) := ⟨z1.toNat, by omega⟩
    exact ⟨iI (((mn : Nat) : Int)), _, _, (CM.app (c_nodes lc D cI cZ N o (a2 0) (a3 0) (b0 + 2 * b1) (a 0) (a 1) (a 2) (a 3) (a 4) (a 5) (a 6) (a 7) (a 8) (a 9) mn tA sA kA ck nb cn sm mo re v (by omega))), (m_nodes lc D cI cZ N q qs qi qk ql mn tA sA kA nb ck hi lo ha cn sm (imF iA iB) (kpF b0 b1) le v (by omega)), ⟨a, a2, a3, (v, 0, 0, 5, (fun _ => 0), nbFirst, (fun _ => 0), (fun _ => 0), (fun _ => 1000000000), re), v2, v3, (fun _ => 0), (fun _ => 0), (fun _ => 0), le, iA, iB, b0, b1, qs, qi, qk, ql, rfl, rfl, (good_begin (by omega)), h0, h1, hI0, hI1⟩, rfl, rfl⟩
  · exact ⟨iI (-2), _, _, (CM.app (CR.M (c_nodes_O lc D cI cZ N o (a2 0) (a3 0) (b0 + 2 * b1) (a 0) (a 1) (a 2) (a 3) (a 4) (a 5) (a 6) (a 7) (a 8) (a 9) mn tA sA kA ck nb cn sm mo re z1 hz1 g))), (CR.M (m_nodes_O lc D cI cZ N q qs qi qk ql mn tA sA kA nb ck hi lo ha cn sm (imF iA iB) (kpF b0 b1) le z1 hz1 g)), ⟨a, a2, a3, (mn, tA, sA, kA, ck, nb, cn, sm, mo, re), v2, v3, hi, lo, ha, le, iA, iB, b0, b1, qs, qi, qk, ql, rfl, rfl, hG, h0, h1, hI0, hI1⟩, rfl, rfl⟩

set_option maxHeartbeats 4000000 in
set_option maxRecDepth 100000 in
theorem sim_link (lc : Launch) (D : va_G) {cI cZ : ClassId} (N : Nat) {o q : Nat} {X M : va_W} (h : StOK cI cZ o q X M) (z1 z2 z3 : Int) (hz1 : -2147483648 ≤ z1 ∧ z1 ≤ 2147483647) (hz2 : -2147483648 ≤ z2 ∧ z2 ≤ 2147483647) (hz3 : -2147483648 ≤ z3 ∧ z3 ≤ 2147483647) : Sim lc D cI cZ N o q yX4_link wsX4_link (rmK 2 43) yX5_link wsX5_link (rmK 2 43) [.int (iI z1), .int (iI z2), .int (iI z3)] X M := by
  obtain ⟨a, a2, a3, ⟨mn, tA, sA, kA, ck, nb, cn, sm, mo, re⟩, v2, v3, hi, lo, ha, le, iA, iB, b0, b1, qs, qi, qk, ql, rfl, rfl, hG, h0, h1, hI0, hI1⟩ := h
  have hG : Good mn tA sA kA ck nb cn sm mo hi lo ha := hG
  obtain ⟨hmn, hta0, hsA, hkA, hnbO, hck, hcnO, hbd⟩ := id hG
  have hta : 0 ≤ tA ∧ tA ≤ 10000 := by omega
  have hnb := hnbO.1
  have hcn := hcnO.rng hsA.2
  have hmo := hbd.moR hck
  have hha := hbd.haR
  have hhi := hbd.hiR
  have hlo2 := hbd.loR
  have hpot := (hbd.edge hck).pot
  by_cases g : 0 ≤ z1 ∧ z1 ≤ (mn : Int) - 2
  · by_cases g2 : 0 ≤ z2 ∧ z2 ≤ 5
    · obtain ⟨wh, rfl⟩ : ∃ n : Nat, z2 = (n : Int) := ⟨z2.toNat, by omega⟩
      by_cases g3 : lnLeast wh ≤ z3 ∧ z3 ≤ lnMost wh
      · obtain ⟨lk, rfl⟩ : ∃ n : Nat, z1 = (n : Int) := ⟨z1.toNat, by omega⟩
        exact ⟨iI (nb (lk * 6 + wh)), _, _, (CM.app (c_link lc D cI cZ N o (a2 0) (a3 0) (b0 + 2 * b1) (a 0) (a 1) (a 2) (a 3) (a 4) (a 5) (a 6) (a 7) (a 8) (a 9) mn tA sA kA ck nb cn sm mo re lk wh z3 hmn hz3 (by omega) (by omega) g3)), (m_link lc D cI cZ N q qs qi qk ql mn tA sA kA nb ck hi lo ha cn sm (imF iA iB) (kpF b0 b1) le lk wh z3 hmn hz3 (by omega) (by omega) g3), ⟨a, a2, a3, (mn, tA, sA, kA, ck, updI nb (lk * 6 + wh) z3, cn, sm, mo, re), v2, v3, hi, lo, ha, le, iA, iB, b0, b1, qs, qi, qk, ql, rfl, rfl, ⟨hmn, hta0, hsA, hkA, hnbO.link (by omega) g3, hck, hcnO, hbd⟩, h0, h1, hI0, hI1⟩, rfl, rfl⟩
      · exact ⟨iI (-2), _, _, (CM.app (CR.M (c_link_O2 lc D cI cZ N o (a2 0) (a3 0) (b0 + 2 * b1) (a 0) (a 1) (a 2) (a 3) (a 4) (a 5) (a 6) (a 7) (a 8) (a 9) mn tA sA kA ck nb cn sm mo re z1 wh z3 hmn hz1 hz3 g (by omega) g3))), (CR.M (m_link_O2 lc D cI cZ N q qs qi qk ql mn tA sA kA nb ck hi lo ha cn sm (imF iA iB) (kpF b0 b1) le z1 wh z3 hmn hz1 hz3 g (by omega) g3)), ⟨a, a2, a3, (mn, tA, sA, kA, ck, nb, cn, sm, mo, re), v2, v3, hi, lo, ha, le, iA, iB, b0, b1, qs, qi, qk, ql, rfl, rfl, hG, h0, h1, hI0, hI1⟩, rfl, rfl⟩
    · exact ⟨iI (-2), _, _, (CM.app (CR.M (c_link_O1 lc D cI cZ N o (a2 0) (a3 0) (b0 + 2 * b1) (a 0) (a 1) (a 2) (a 3) (a 4) (a 5) (a 6) (a 7) (a 8) (a 9) mn tA sA kA ck nb cn sm mo re z1 z2 z3 hmn hz1 hz2 g g2))), (CR.M (m_link_O1 lc D cI cZ N q qs qi qk ql mn tA sA kA nb ck hi lo ha cn sm (imF iA iB) (kpF b0 b1) le z1 z2 z3 hmn hz1 hz2 g g2)), ⟨a, a2, a3, (mn, tA, sA, kA, ck, nb, cn, sm, mo, re), v2, v3, hi, lo, ha, le, iA, iB, b0, b1, qs, qi, qk, ql, rfl, rfl, hG, h0, h1, hI0, hI1⟩, rfl, rfl⟩
  · exact ⟨iI (-1), _, _, (CM.app (CR.M (c_link_U lc D cI cZ N o (a2 0) (a3 0) (b0 + 2 * b1) (a 0) (a 1) (a 2) (a 3) (a 4) (a 5) (a 6) (a 7) (a 8) (a 9) mn tA sA kA ck nb cn sm mo re z1 z2 z3 hmn hz1 g))), (CR.M (m_link_U lc D cI cZ N q qs qi qk ql mn tA sA kA nb ck hi lo ha cn sm (imF iA iB) (kpF b0 b1) le z1 z2 z3 hmn hz1 g)), ⟨a, a2, a3, (mn, tA, sA, kA, ck, nb, cn, sm, mo, re), v2, v3, hi, lo, ha, le, iA, iB, b0, b1, qs, qi, qk, ql, rfl, rfl, hG, h0, h1, hI0, hI1⟩, rfl, rfl⟩

set_option maxHeartbeats 4000000 in
set_option maxRecDepth 100000 in
theorem sim_clock (lc : Launch) (D : va_G) {cI cZ : ClassId} (N : Nat) {o q : Nat} {X M : va_W} (h : StOK cI cZ o q X M) (z1 z2 : Int) (hz1 : -2147483648 ≤ z1 ∧ z1 ≤ 2147483647) (hz2 : -2147483648 ≤ z2 ∧ z2 ≤ 2147483647) : Sim lc D cI cZ N o q yX4_clock wsX4_clock (rmK 2 43) yX5_clock wsX5_clock (rmK 2 43) [.int (iI z1), .int (iI z2)] X M := by
  obtain ⟨a, a2, a3, ⟨mn, tA, sA, kA, ck, nb, cn, sm, mo, re⟩, v2, v3, hi, lo, ha, le, iA, iB, b0, b1, qs, qi, qk, ql, rfl, rfl, hG, h0, h1, hI0, hI1⟩ := h
  have hG : Good mn tA sA kA ck nb cn sm mo hi lo ha := hG
  obtain ⟨hmn, hta0, hsA, hkA, hnbO, hck, hcnO, hbd⟩ := id hG
  have hta : 0 ≤ tA ∧ tA ≤ 10000 := by omega
  have hnb := hnbO.1
  have hcn := hcnO.rng hsA.2
  have hmo := hbd.moR hck
  have hha := hbd.haR
  have hhi := hbd.hiR
  have hlo2 := hbd.loR
  have hpot := (hbd.edge hck).pot
  by_cases g : 0 ≤ z1 ∧ z1 ≤ (mn : Int) - 1
  · by_cases g2 : -99 ≤ z2 ∧ z2 ≤ 99
    · by_cases g3 : 0 < sA
      · exact ⟨iI (-1000000003), _, _, (CM.app (CR.M (c_clock_S lc D cI cZ N o (a2 0) (a3 0) (b0 + 2 * b1) (a 0) (a 1) (a 2) (a 3) (a 4) (a 5) (a 6) (a 7) (a 8) (a 9) mn tA sA kA ck nb cn sm mo re z1 z2 hmn hsA hz1 hz2 g g2 g3))), (CR.M (m_clock_S lc D cI cZ N q qs qi qk ql mn tA sA kA nb ck hi lo ha cn sm (imF iA iB) (kpF b0 b1) le z1 z2 hmn hsA hz1 hz2 g g2 g3)), ⟨a, a2, a3, (mn, tA, sA, kA, ck, nb, cn, sm, mo, re), v2, v3, hi, lo, ha, le, iA, iB, b0, b1, qs, qi, qk, ql, rfl, rfl, hG, h0, h1, hI0, hI1⟩, rfl, rfl⟩
      · obtain ⟨nd, rfl⟩ : ∃ n : Nat, z1 = (n : Int) := ⟨z1.toNat, by omega⟩
        have g4 : sA = 0 := by omega
        have hck2 : CkOK (updI ck nd z2) := fun k hk => by
          by_cases e : k = nd
          · subst e; rw [updI_s]; exact g2
          · rw [updI_n e]; exact hck k hk
        exact ⟨iI (ck nd), _, _, (CM.app (c_clock lc D cI cZ N o (a2 0) (a3 0) (b0 + 2 * b1) (a 0) (a 1) (a 2) (a 3) (a 4) (a 5) (a 6) (a 7) (a 8) (a 9) mn tA sA kA ck nb cn sm mo re nd z2 hmn hsA hz2 (by omega) g2 g4)), (m_clock lc D cI cZ N q qs qi qk ql mn tA sA kA nb ck hi lo ha cn sm (imF iA iB) (kpF b0 b1) le nd z2 hmn hsA hz2 (by omega) g2 g4), ⟨a, a2, a3, (mn, tA, sA, kA, updI ck nd z2, nb, cn, sm, fgt mo nd 5, re), v2, v3, hi, lo, (fgh ha nd 5), le, iA, iB, b0, b1, qs, qi, qk, ql, rfl, rfl, ⟨hmn, hta0, hsA, hkA, hnbO, hck2, hcnO, hbd.clock (by omega) z2⟩, h0, h1, hI0, hI1⟩, rfl, rfl⟩
    · exact ⟨iI (-1000000002), _, _, (CM.app (CR.M (c_clock_O lc D cI cZ N o (a2 0) (a3 0) (b0 + 2 * b1) (a 0) (a 1) (a 2) (a 3) (a 4) (a 5) (a 6) (a 7) (a 8) (a 9) mn tA sA kA ck nb cn sm mo re z1 z2 hmn hz1 hz2 g g2))), (CR.M (m_clock_O lc D cI cZ N q qs qi qk ql mn tA sA kA nb ck hi lo ha cn sm (imF iA iB) (kpF b0 b1) le z1 z2 hmn hz1 hz2 g g2)), ⟨a, a2, a3, (mn, tA, sA, kA, ck, nb, cn, sm, mo, re), v2, v3, hi, lo, ha, le, iA, iB, b0, b1, qs, qi, qk, ql, rfl, rfl, hG, h0, h1, hI0, hI1⟩, rfl, rfl⟩
  · exact ⟨iI (-1000000001), _, _, (CM.app (CR.M (c_clock_U lc D cI cZ N o (a2 0) (a3 0) (b0 + 2 * b1) (a 0) (a 1) (a 2) (a 3) (a 4) (a 5) (a 6) (a 7) (a 8) (a 9) mn tA sA kA ck nb cn sm mo re z1 z2 hmn hz1 g))), (CR.M (m_clock_U lc D cI cZ N q qs qi qk ql mn tA sA kA nb ck hi lo ha cn sm (imF iA iB) (kpF b0 b1) le z1 z2 hmn hz1 g)), ⟨a, a2, a3, (mn, tA, sA, kA, ck, nb, cn, sm, mo, re), v2, v3, hi, lo, ha, le, iA, iB, b0, b1, qs, qi, qk, ql, rfl, rfl, hG, h0, h1, hI0, hI1⟩, rfl, rfl⟩

set_option maxHeartbeats 4000000 in
set_option maxRecDepth 100000 in
theorem sim_block (lc : Launch) (D : va_G) {cI cZ : ClassId} (N : Nat) {o q : Nat} {X M : va_W} (h : StOK cI cZ o q X M) (z1 : Int) (hz1 : -2147483648 ≤ z1 ∧ z1 ≤ 2147483647) : Sim lc D cI cZ N o q yX4_block wsX4_block (rmK 1 22) yX5_block wsX5_block (rmK 1 22) [.int (iI z1)] X M := by
  obtain ⟨a, a2, a3, ⟨mn, tA, sA, kA, ck, nb, cn, sm, mo, re⟩, v2, v3, hi, lo, ha, le, iA, iB, b0, b1, qs, qi, qk, ql, rfl, rfl, hG, h0, h1, hI0, hI1⟩ := h
  have hG : Good mn tA sA kA ck nb cn sm mo hi lo ha := hG
  obtain ⟨hmn, hta0, hsA, hkA, hnbO, hck, hcnO, hbd⟩ := id hG
  have hta : 0 ≤ tA ∧ tA ≤ 10000 := by omega
  have hnb := hnbO.1
  have hcn := hcnO.rng hsA.2
  have hmo := hbd.moR hck
  have hha := hbd.haR
  have hhi := hbd.hiR
  have hlo2 := hbd.loR
  have hpot := (hbd.edge hck).pot
  by_cases g : 1 ≤ z1 ∧ z1 ≤ 20
  · by_cases g3 : 0 < sA
    · exact ⟨iI (-3), _, _, (CM.app (CR.M (c_block_S lc D cI cZ N o (a2 0) (a3 0) (b0 + 2 * b1) (a 0) (a 1) (a 2) (a 3) (a 4) (a 5) (a 6) (a 7) (a 8) (a 9) mn tA sA kA ck nb cn sm mo re z1 hsA hz1 g g3))), (CR.M (m_block_S lc D cI cZ N q qs qi qk ql mn tA sA kA nb ck hi lo ha cn sm (imF iA iB) (kpF b0 b1) le z1 hsA hz1 g g3)), ⟨a, a2, a3, (mn, tA, sA, kA, ck, nb, cn, sm, mo, re), v2, v3, hi, lo, ha, le, iA, iB, b0, b1, qs, qi, qk, ql, rfl, rfl, hG, h0, h1, hI0, hI1⟩, rfl, rfl⟩
    · have g4 : sA = 0 := by omega
      exact ⟨iI (kA), _, _, (CM.app (c_block lc D cI cZ N o (a2 0) (a3 0) (b0 + 2 * b1) (a 0) (a 1) (a 2) (a 3) (a 4) (a 5) (a 6) (a 7) (a 8) (a 9) mn tA sA kA ck nb cn sm mo re z1 hsA hz1 g g4)), (m_block lc D cI cZ N q qs qi qk ql mn tA sA kA nb ck hi lo ha cn sm (imF iA iB) (kpF b0 b1) le z1 hsA hz1 g g4), ⟨a, a2, a3, (mn, tA, sA, z1, ck, nb, cn, sm, mo, re), v2, v3, hi, lo, ha, le, iA, iB, b0, b1, qs, qi, qk, ql, rfl, rfl, ⟨hmn, hta0, hsA, g, hnbO, hck, hcnO.block g4 hkA.1 g.1, hbd⟩, h0, h1, hI0, hI1⟩, rfl, rfl⟩
  · exact ⟨iI (-2), _, _, (CM.app (CR.M (c_block_O lc D cI cZ N o (a2 0) (a3 0) (b0 + 2 * b1) (a 0) (a 1) (a 2) (a 3) (a 4) (a 5) (a 6) (a 7) (a 8) (a 9) mn tA sA kA ck nb cn sm mo re z1 hz1 g))), (CR.M (m_block_O lc D cI cZ N q qs qi qk ql mn tA sA kA nb ck hi lo ha cn sm (imF iA iB) (kpF b0 b1) le z1 hz1 g)), ⟨a, a2, a3, (mn, tA, sA, kA, ck, nb, cn, sm, mo, re), v2, v3, hi, lo, ha, le, iA, iB, b0, b1, qs, qi, qk, ql, rfl, rfl, hG, h0, h1, hI0, hI1⟩, rfl, rfl⟩

set_option maxHeartbeats 4000000 in
set_option maxRecDepth 100000 in
theorem sim_pause (lc : Launch) (D : va_G) {cI cZ : ClassId} (N : Nat) {o q : Nat} {X M : va_W} (h : StOK cI cZ o q X M) (z1 : Int) (hz1 : -2147483648 ≤ z1 ∧ z1 ≤ 2147483647) : Sim lc D cI cZ N o q yX4_pause wsX4_pause (rmK 1 22) yX5_pause wsX5_pause (rmK 1 22) [.int (iI z1)] X M := by
  obtain ⟨a, a2, a3, ⟨mn, tA, sA, kA, ck, nb, cn, sm, mo, re⟩, v2, v3, hi, lo, ha, le, iA, iB, b0, b1, qs, qi, qk, ql, rfl, rfl, hG, h0, h1, hI0, hI1⟩ := h
  have hG : Good mn tA sA kA ck nb cn sm mo hi lo ha := hG
  obtain ⟨hmn, hta0, hsA, hkA, hnbO, hck, hcnO, hbd⟩ := id hG
  have hta : 0 ≤ tA ∧ tA ≤ 10000 := by omega
  have hnb := hnbO.1
  have hcn := hcnO.rng hsA.2
  have hmo := hbd.moR hck
  have hha := hbd.haR
  have hhi := hbd.hiR
  have hlo2 := hbd.loR
  have hpot := (hbd.edge hck).pot
  by_cases g : 1 ≤ z1 ∧ z1 ≤ 999
  · by_cases g2 : tA + z1 ≤ 9999
    · exact ⟨iI (tA + z1), _, _, (CM.app (c_pause lc D cI cZ N o (a2 0) (a3 0) (b0 + 2 * b1) (a 0) (a 1) (a 2) (a 3) (a 4) (a 5) (a 6) (a 7) (a 8) (a 9) mn tA sA kA ck nb cn sm mo re z1 hta hz1 g g2)), (m_pause lc D cI cZ N q qs qi qk ql mn tA sA kA nb ck hi lo ha cn sm (imF iA iB) (kpF b0 b1) le z1 hta hz1 g g2), ⟨a, a2, a3, (mn, tA + z1, sA, kA, ck, nb, cn, sm, mo, re), v2, v3, hi, lo, ha, le, iA, iB, b0, b1, qs, qi, qk, ql, rfl, rfl, ⟨hmn, (show 0 ≤ tA + z1 ∧ tA + z1 ≤ 9999 by omega), hsA, hkA, hnbO, hck, hcnO, hbd⟩, h0, h1, hI0, hI1⟩, rfl, rfl⟩
    · exact ⟨iI (-4), _, _, (CM.app (CR.M (c_pause_F lc D cI cZ N o (a2 0) (a3 0) (b0 + 2 * b1) (a 0) (a 1) (a 2) (a 3) (a 4) (a 5) (a 6) (a 7) (a 8) (a 9) mn tA sA kA ck nb cn sm mo re z1 hta hz1 g (by omega)))), (CR.M (m_pause_F lc D cI cZ N q qs qi qk ql mn tA sA kA nb ck hi lo ha cn sm (imF iA iB) (kpF b0 b1) le z1 hta hz1 g (by omega))), ⟨a, a2, a3, (mn, tA, sA, kA, ck, nb, cn, sm, mo, re), v2, v3, hi, lo, ha, le, iA, iB, b0, b1, qs, qi, qk, ql, rfl, rfl, hG, h0, h1, hI0, hI1⟩, rfl, rfl⟩
  · exact ⟨iI (-2), _, _, (CM.app (CR.M (c_pause_O lc D cI cZ N o (a2 0) (a3 0) (b0 + 2 * b1) (a 0) (a 1) (a 2) (a 3) (a 4) (a 5) (a 6) (a 7) (a 8) (a 9) mn tA sA kA ck nb cn sm mo re z1 hz1 g))), (CR.M (m_pause_O lc D cI cZ N q qs qi qk ql mn tA sA kA nb ck hi lo ha cn sm (imF iA iB) (kpF b0 b1) le z1 hz1 g)), ⟨a, a2, a3, (mn, tA, sA, kA, ck, nb, cn, sm, mo, re), v2, v3, hi, lo, ha, le, iA, iB, b0, b1, qs, qi, qk, ql, rfl, rfl, hG, h0, h1, hI0, hI1⟩, rfl, rfl⟩

set_option maxHeartbeats 4000000 in
set_option maxRecDepth 100000 in
theorem sim_send (lc : Launch) (D : va_G) {cI cZ : ClassId} (N : Nat) {o q : Nat} {X M : va_W} (h : StOK cI cZ o q X M) (z1 : Int) (hz1 : -2147483648 ≤ z1 ∧ z1 ≤ 2147483647) : Sim lc D cI cZ N o q yX4_send wsX4_send (rmK 3 69) yX5_send wsX5_send (rmK 3 69) [.int (iI z1)] X M := by
  obtain ⟨a, a2, a3, ⟨mn, tA, sA, kA, ck, nb, cn, sm, mo, re⟩, v2, v3, hi, lo, ha, le, iA, iB, b0, b1, qs, qi, qk, ql, rfl, rfl, hG, h0, h1, hI0, hI1⟩ := h
  have hG : Good mn tA sA kA ck nb cn sm mo hi lo ha := hG
  obtain ⟨hmn, hta0, hsA, hkA, hnbO, hck, hcnO, hbd⟩ := id hG
  have hta : 0 ≤ tA ∧ tA ≤ 10000 := by omega
  have hnb := hnbO.1
  have hcn := hcnO.rng hsA.2
  have hmo := hbd.moR hck
  have hha := hbd.haR
  have hhi := hbd.hiR
  have hlo2 := hbd.loR
  have hpot := (hbd.edge hck).pot
  by_cases g : 1 ≤ z1 ∧ z1 ≤ 60
  · by_cases g2 : sA + z1 ≤ 200 ∧ tA + z1 ≤ 9999
    · obtain ⟨v, rfl⟩ : ∃ n : Nat, z1 = (n : Int) := ⟨z1.toNat, by omega⟩
      exact ⟨iI (sdR nb (mn - 1) sA v), _, _, (CM.app (c_send lc D cI cZ N o (a2 0) (a3 0) (b0 + 2 * b1) (a 0) (a 1) (a 2) (a 3) (a 4) (a 5) (a 6) (a 7) (a 8) (a 9) mn tA sA kA ck nb cn sm mo re v hmn hnb hta hsA hkA (by omega) g2.1 g2.2)), (m_send lc D cI cZ N q qs qi qk ql mn tA sA kA nb ck hi lo ha cn sm (imF iA iB) (kpF b0 b1) le v hmn hnb hta hsA hkA (by omega) g2.1 g2.2), ⟨a, a2, a3, (mn, tA + ((v : Nat) : Int), sA + ((v : Nat) : Int), kA, ck, nb, sdC nb (mn - 1) sA kA cn v, sdS ck nb (mn - 1) tA sA kA sm v, mo, re), v2, v3, hi, lo, ha, le, iA, iB, b0, b1, qs, qi, qk, ql, rfl, rfl, ⟨hmn, (show 0 ≤ tA + ((v : Nat) : Int) ∧ tA + ((v : Nat) : Int) ≤ 9999 by omega), (show 0 ≤ sA + ((v : Nat) : Int) ∧ sA + ((v : Nat) : Int) ≤ 200 by omega), hkA, hnbO, hck, hcnO.send hkA hck hnbO (by omega) hsA.1 hta.1 v g2.1 g2.2, hbd⟩, h0, h1, hI0, hI1⟩, rfl, rfl⟩
    · exact ⟨iI (-4), _, _, (CM.app (CR.M (c_send_F lc D cI cZ N o (a2 0) (a3 0) (b0 + 2 * b1) (a 0) (a 1) (a 2) (a 3) (a 4) (a 5) (a 6) (a 7) (a 8) (a 9) mn tA sA kA ck nb cn sm mo re z1 hta hsA hz1 g (by omega)))), (CR.M (m_send_F lc D cI cZ N q qs qi qk ql mn tA sA kA nb ck hi lo ha cn sm (imF iA iB) (kpF b0 b1) le z1 hta hsA hz1 g (by omega))), ⟨a, a2, a3, (mn, tA, sA, kA, ck, nb, cn, sm, mo, re), v2, v3, hi, lo, ha, le, iA, iB, b0, b1, qs, qi, qk, ql, rfl, rfl, hG, h0, h1, hI0, hI1⟩, rfl, rfl⟩
  · exact ⟨iI (-2), _, _, (CM.app (CR.M (c_send_O lc D cI cZ N o (a2 0) (a3 0) (b0 + 2 * b1) (a 0) (a 1) (a 2) (a 3) (a 4) (a 5) (a 6) (a 7) (a 8) (a 9) mn tA sA kA ck nb cn sm mo re z1 hz1 g))), (CR.M (m_send_O lc D cI cZ N q qs qi qk ql mn tA sA kA nb ck hi lo ha cn sm (imF iA iB) (kpF b0 b1) le z1 hz1 g)), ⟨a, a2, a3, (mn, tA, sA, kA, ck, nb, cn, sm, mo, re), v2, v3, hi, lo, ha, le, iA, iB, b0, b1, qs, qi, qk, ql, rfl, rfl, hG, h0, h1, hI0, hI1⟩, rfl, rfl⟩

set_option maxHeartbeats 4000000 in
set_option maxRecDepth 100000 in
theorem sim_kept (lc : Launch) (D : va_G) {cI cZ : ClassId} (N : Nat) {o q : Nat} {X M : va_W} (h : StOK cI cZ o q X M) (z1 z2 z3 : Int) (hz1 : -2147483648 ≤ z1 ∧ z1 ≤ 2147483647) (hz2 : -2147483648 ≤ z2 ∧ z2 ≤ 2147483647) (hz3 : -2147483648 ≤ z3 ∧ z3 ≤ 2147483647) : Sim lc D cI cZ N o q yX4_kept wsX4_kept (rmK 2 43) yX5_kept wsX5_kept (rmK 2 43) [.int (iI z1), .int (iI z2), .int (iI z3)] X M := by
  obtain ⟨a, a2, a3, ⟨mn, tA, sA, kA, ck, nb, cn, sm, mo, re⟩, v2, v3, hi, lo, ha, le, iA, iB, b0, b1, qs, qi, qk, ql, rfl, rfl, hG, h0, h1, hI0, hI1⟩ := h
  have hG : Good mn tA sA kA ck nb cn sm mo hi lo ha := hG
  obtain ⟨hmn, hta0, hsA, hkA, hnbO, hck, hcnO, hbd⟩ := id hG
  have hta : 0 ≤ tA ∧ tA ≤ 10000 := by omega
  have hnb := hnbO.1
  have hcn := hcnO.rng hsA.2
  have hmo := hbd.moR hck
  have hha := hbd.haR
  have hhi := hbd.hiR
  have hlo2 := hbd.loR
  have hpot := (hbd.edge hck).pot
  by_cases g : 0 ≤ z1 ∧ z1 ≤ (mn : Int) - 1
  · by_cases g2 : (0 ≤ z2 ∧ z2 ≤ 199) ∧ (0 ≤ z3 ∧ z3 ≤ 1)
    · obtain ⟨nd, rfl⟩ : ∃ n : Nat, z1 = (n : Int) := ⟨z1.toNat, by omega⟩
      obtain ⟨bk, rfl⟩ : ∃ n : Nat, z2 = (n : Int) := ⟨z2.toNat, by omega⟩
      by_cases g3 : z3 = 0
      · subst g3
        exact ⟨iI (cn (nd * 200 + bk)), _, _, (CM.app (CR.M (c_kept_0 lc D cI cZ N o (a2 0) (a3 0) (b0 + 2 * b1) (a 0) (a 1) (a 2) (a 3) (a 4) (a 5) (a 6) (a 7) (a 8) (a 9) mn tA sA kA ck nb cn sm mo re nd bk hmn (by omega) (by omega)))), (CR.M (m_kept_0 lc D cI cZ N q qs qi qk ql mn tA sA kA nb ck hi lo ha cn sm (imF iA iB) (kpF b0 b1) le nd bk hmn (by omega) (by omega))), ⟨a, a2, a3, (mn, tA, sA, kA, ck, nb, cn, sm, mo, re), v2, v3, hi, lo, ha, le, iA, iB, b0, b1, qs, qi, qk, ql, rfl, rfl, hG, h0, h1, hI0, hI1⟩, rfl, rfl⟩
      · obtain rfl : z3 = 1 := by omega
        exact ⟨iI (sm (nd * 200 + bk)), _, _, (CM.app (CR.M (c_kept_1 lc D cI cZ N o (a2 0) (a3 0) (b0 + 2 * b1) (a 0) (a 1) (a 2) (a 3) (a 4) (a 5) (a 6) (a 7) (a 8) (a 9) mn tA sA kA ck nb cn sm mo re nd bk hmn (by omega) (by omega)))), (CR.M (m_kept_1 lc D cI cZ N q qs qi qk ql mn tA sA kA nb ck hi lo ha cn sm (imF iA iB) (kpF b0 b1) le nd bk hmn (by omega) (by omega))), ⟨a, a2, a3, (mn, tA, sA, kA, ck, nb, cn, sm, mo, re), v2, v3, hi, lo, ha, le, iA, iB, b0, b1, qs, qi, qk, ql, rfl, rfl, hG, h0, h1, hI0, hI1⟩, rfl, rfl⟩
    · exact ⟨iI (-1000000002), _, _, (CM.app (CR.M (c_kept_O lc D cI cZ N o (a2 0) (a3 0) (b0 + 2 * b1) (a 0) (a 1) (a 2) (a 3) (a 4) (a 5) (a 6) (a 7) (a 8) (a 9) mn tA sA kA ck nb cn sm mo re z1 z2 z3 hmn hz1 hz2 hz3 g g2))), (CR.M (m_kept_O lc D cI cZ N q qs qi qk ql mn tA sA kA nb ck hi lo ha cn sm (imF iA iB) (kpF b0 b1) le z1 z2 z3 hmn hz1 hz2 hz3 g g2)), ⟨a, a2, a3, (mn, tA, sA, kA, ck, nb, cn, sm, mo, re), v2, v3, hi, lo, ha, le, iA, iB, b0, b1, qs, qi, qk, ql, rfl, rfl, hG, h0, h1, hI0, hI1⟩, rfl, rfl⟩
  · exact ⟨iI (-1000000001), _, _, (CM.app (CR.M (c_kept_U lc D cI cZ N o (a2 0) (a3 0) (b0 + 2 * b1) (a 0) (a 1) (a 2) (a 3) (a 4) (a 5) (a 6) (a 7) (a 8) (a 9) mn tA sA kA ck nb cn sm mo re z1 z2 z3 hmn hz1 g))), (CR.M (m_kept_U lc D cI cZ N q qs qi qk ql mn tA sA kA nb ck hi lo ha cn sm (imF iA iB) (kpF b0 b1) le z1 z2 z3 hmn hz1 g)), ⟨a, a2, a3, (mn, tA, sA, kA, ck, nb, cn, sm, mo, re), v2, v3, hi, lo, ha, le, iA, iB, b0, b1, qs, qi, qk, ql, rfl, rfl, hG, h0, h1, hI0, hI1⟩, rfl, rfl⟩

set_option maxHeartbeats 4000000 in
set_option maxRecDepth 100000 in
theorem sim_lost (lc : Launch) (D : va_G) {cI cZ : ClassId} (N : Nat) {o q : Nat} {X M : va_W} (h : StOK cI cZ o q X M) (z1 z2 : Int) (hz1 : -2147483648 ≤ z1 ∧ z1 ≤ 2147483647) (hz2 : -2147483648 ≤ z2 ∧ z2 ≤ 2147483647) : Sim lc D cI cZ N o q yX4_lost wsX4_lost (rmK 4 89) yX5_lost wsX5_lost (rmK 2 44) [.int (iI z1), .int (iI z2)] X M := by
  obtain ⟨a, a2, a3, ⟨mn, tA, sA, kA, ck, nb, cn, sm, mo, re⟩, v2, v3, hi, lo, ha, le, iA, iB, b0, b1, qs, qi, qk, ql, rfl, rfl, hG, h0, h1, hI0, hI1⟩ := h
  have hG : Good mn tA sA kA ck nb cn sm mo hi lo ha := hG
  obtain ⟨hmn, hta0, hsA, hkA, hnbO, hck, hcnO, hbd⟩ := id hG
  have hta : 0 ≤ tA ∧ tA ≤ 10000 := by omega
  have hnb := hnbO.1
  have hcn := hcnO.rng hsA.2
  have hmo := hbd.moR hck
  have hha := hbd.haR
  have hhi := hbd.hiR
  have hlo2 := hbd.loR
  have hpot := (hbd.edge hck).pot
  by_cases g : 0 ≤ z1 ∧ z1 ≤ (mn : Int) - 2
  · by_cases g2 : -1 ≤ z2 ∧ z2 ≤ 199
    · obtain ⟨lk, rfl⟩ : ∃ n : Nat, z1 = (n : Int) := ⟨z1.toNat, by omega⟩
      by_cases g3 : z2 = -1
      · subst g3
        exact ⟨iI (sumTo (fun b => cn (lk * 200 + b) - cn ((lk + 1) * 200 + b)) 200), _, _, (CM.app (CR.M (c_lost_A lc D cI cZ N o (a2 0) (a3 0) (b0 + 2 * b1) (a 0) (a 1) (a 2) (a 3) (a 4) (a 5) (a 6) (a 7) (a 8) (a 9) mn tA sA kA ck nb cn sm mo re lk hmn (by omega)))), (CR.M (m_lost_A lc D cI cZ N q qs qi qk ql mn tA sA kA nb ck hi lo ha cn sm (imF iA iB) (kpF b0 b1) le lk hmn (by omega))), ⟨a, a2, a3, (mn, tA, sA, kA, ck, nb, cn, sm, mo, re), v2, v3, hi, lo, ha, le, iA, iB, b0, b1, qs, qi, qk, ql, rfl, rfl, hG, h0, h1, hI0, hI1⟩, rfl, rfl⟩
      · obtain ⟨bk, rfl⟩ : ∃ n : Nat, z2 = (n : Int) := ⟨z2.toNat, by omega⟩
        exact ⟨iI (cn (lk * 200 + bk) - cn ((lk + 1) * 200 + bk)), _, _, (CM.app (CR.M (c_lost_1 lc D cI cZ N o (a2 0) (a3 0) (b0 + 2 * b1) (a 0) (a 1) (a 2) (a 3) (a 4) (a 5) (a 6) (a 7) (a 8) (a 9) mn tA sA kA ck nb cn sm mo re lk bk hmn (by omega) (by omega)))), (CR.M (m_lost_1 lc D cI cZ N q qs qi qk ql mn tA sA kA nb ck hi lo ha cn sm (imF iA iB) (kpF b0 b1) le lk bk hmn (by omega) (by omega))), ⟨a, a2, a3, (mn, tA, sA, kA, ck, nb, cn, sm, mo, re), v2, v3, hi, lo, ha, le, iA, iB, b0, b1, qs, qi, qk, ql, rfl, rfl, hG, h0, h1, hI0, hI1⟩, rfl, rfl⟩
    · exact ⟨iI (-2), _, _, (CM.app (CR.M (c_lost_O lc D cI cZ N o (a2 0) (a3 0) (b0 + 2 * b1) (a 0) (a 1) (a 2) (a 3) (a 4) (a 5) (a 6) (a 7) (a 8) (a 9) mn tA sA kA ck nb cn sm mo re z1 z2 hmn hz1 hz2 g g2))), (CR.M (m_lost_O lc D cI cZ N q qs qi qk ql mn tA sA kA nb ck hi lo ha cn sm (imF iA iB) (kpF b0 b1) le z1 z2 hmn hz1 hz2 g g2)), ⟨a, a2, a3, (mn, tA, sA, kA, ck, nb, cn, sm, mo, re), v2, v3, hi, lo, ha, le, iA, iB, b0, b1, qs, qi, qk, ql, rfl, rfl, hG, h0, h1, hI0, hI1⟩, rfl, rfl⟩
  · exact ⟨iI (-1), _, _, (CM.app (CR.M (c_lost_U lc D cI cZ N o (a2 0) (a3 0) (b0 + 2 * b1) (a 0) (a 1) (a 2) (a 3) (a 4) (a 5) (a 6) (a 7) (a 8) (a 9) mn tA sA kA ck nb cn sm mo re z1 z2 hmn hz1 g))), (CR.M (m_lost_U lc D cI cZ N q qs qi qk ql mn tA sA kA nb ck hi lo ha cn sm (imF iA iB) (kpF b0 b1) le z1 z2 hmn hz1 g)), ⟨a, a2, a3, (mn, tA, sA, kA, ck, nb, cn, sm, mo, re), v2, v3, hi, lo, ha, le, iA, iB, b0, b1, qs, qi, qk, ql, rfl, rfl, hG, h0, h1, hI0, hI1⟩, rfl, rfl⟩

set_option maxHeartbeats 4000000 in
set_option maxRecDepth 100000 in
theorem sim_took (lc : Launch) (D : va_G) {cI cZ : ClassId} (N : Nat) {o q : Nat} {X M : va_W} (h : StOK cI cZ o q X M) (z1 z2 z3 z4 : Int) (hz1 : -2147483648 ≤ z1 ∧ z1 ≤ 2147483647) (hz2 : -2147483648 ≤ z2 ∧ z2 ≤ 2147483647) (hz3 : -2147483648 ≤ z3 ∧ z3 ≤ 2147483647) (hz4 : -2147483648 ≤ z4 ∧ z4 ≤ 2147483647) : Sim lc D cI cZ N o q yX4_took wsX4_took (rmK 4 90) yX5_took wsX5_took (rmK 2 47) [.int (iI z1), .int (iI z2), .int (iI z3), .int (iI z4)] X M := by
  obtain ⟨a, a2, a3, ⟨mn, tA, sA, kA, ck, nb, cn, sm, mo, re⟩, v2, v3, hi, lo, ha, le, iA, iB, b0, b1, qs, qi, qk, ql, rfl, rfl, hG, h0, h1, hI0, hI1⟩ := h
  have hG : Good mn tA sA kA ck nb cn sm mo hi lo ha := hG
  obtain ⟨hmn, hta0, hsA, hkA, hnbO, hck, hcnO, hbd⟩ := id hG
  have hta : 0 ≤ tA ∧ tA ≤ 10000 := by omega
  have hnb := hnbO.1
  have hcn := hcnO.rng hsA.2
  have hmo := hbd.moR hck
  have hha := hbd.haR
  have hhi := hbd.hiR
  have hlo2 := hbd.loR
  have hpot := (hbd.edge hck).pot
  by_cases g : (0 ≤ z1 ∧ z1 ≤ (mn : Int) - 1) ∧ (0 ≤ z2 ∧ z2 ≤ (mn : Int) - 1)
  · by_cases g2 : z1 < z2 ∧ (0 ≤ z3 ∧ z3 ≤ 199) ∧ (0 ≤ z4 ∧ z4 ≤ 1)
    · obtain ⟨f, rfl⟩ : ∃ n : Nat, z1 = (n : Int) := ⟨z1.toNat, by omega⟩
      obtain ⟨gg, rfl⟩ : ∃ n : Nat, z2 = (n : Int) := ⟨z2.toNat, by omega⟩
      obtain ⟨bk, rfl⟩ : ∃ n : Nat, z3 = (n : Int) := ⟨z3.toNat, by omega⟩
      by_cases g3 : 0 < cn (f * 200 + bk) ∧ cn (f * 200 + bk) = cn (gg * 200 + bk)
      · have r1 := hcnO.1 (f * 200 + bk) (by omega)
        have r2 := hcnO.1 (gg * 200 + bk) (by omega)
        obtain ⟨wq, hwq⟩ : ∃ n : Nat, cn (f * 200 + bk) = (n : Int) := ⟨(cn (f * 200 + bk)).toNat, by omega⟩
        have hwg : cn (gg * 200 + bk) = ((wq : Nat) : Int) := by omega
        by_cases g4 : z4 = 0
        · subst g4
          exact ⟨iI ((sm (gg * 200 + bk) - sm (f * 200 + bk)).tdiv ((Nat.gcd ((sm (gg * 200 + bk) - sm (f * 200 + bk))).natAbs wq : Nat) : Int)), _, _, (CM.app (CR.M (c_took_0 lc D cI cZ N o (a2 0) (a3 0) (b0 + 2 * b1) (a 0) (a 1) (a 2) (a 3) (a 4) (a 5) (a 6) (a 7) (a 8) (a 9) mn tA sA kA ck nb cn sm mo re f gg bk wq hmn (by omega) (by omega) (by omega) hcn g3 hwq (by omega) (by omega)))), (CR.M (m_took_0 lc D cI cZ N q qs qi qk ql mn tA sA kA nb ck hi lo ha cn sm (imF iA iB) (kpF b0 b1) le f gg bk wq hmn (by omega) (by omega) (by omega) hcn g3 hwg (by omega) (by omega))), ⟨a, a2, a3, (mn, tA, sA, kA, ck, nb, cn, sm, mo, re), v2, v3, hi, lo, ha, le, iA, iB, b0, b1, qs, qi, qk, ql, rfl, rfl, hG, h0, h1, hI0, hI1⟩, rfl, rfl⟩
        · obtain rfl : z4 = 1 := by omega
          exact ⟨iI (((wq : Nat) : Int).tdiv ((Nat.gcd ((sm (gg * 200 + bk) - sm (f * 200 + bk))).natAbs wq : Nat) : Int)), _, _, (CM.app (CR.M (c_took_1 lc D cI cZ N o (a2 0) (a3 0) (b0 + 2 * b1) (a 0) (a 1) (a 2) (a 3) (a 4) (a 5) (a 6) (a 7) (a 8) (a 9) mn tA sA kA ck nb cn sm mo re f gg bk wq hmn (by omega) (by omega) (by omega) hcn g3 hwq (by omega) (by omega)))), (CR.M (m_took_1 lc D cI cZ N q qs qi qk ql mn tA sA kA nb ck hi lo ha cn sm (imF iA iB) (kpF b0 b1) le f gg bk wq hmn (by omega) (by omega) (by omega) hcn g3 hwg (by omega) (by omega))), ⟨a, a2, a3, (mn, tA, sA, kA, ck, nb, cn, sm, mo, re), v2, v3, hi, lo, ha, le, iA, iB, b0, b1, qs, qi, qk, ql, rfl, rfl, hG, h0, h1, hI0, hI1⟩, rfl, rfl⟩
      · exact ⟨iI (-1000000005), _, _, (CM.app (CR.M (c_took_N lc D cI cZ N o (a2 0) (a3 0) (b0 + 2 * b1) (a 0) (a 1) (a 2) (a 3) (a 4) (a 5) (a 6) (a 7) (a 8) (a 9) mn tA sA kA ck nb cn sm mo re f gg bk z4 hmn (by omega) (by omega) (by omega) hcn hz4 (by omega) g3))), (CR.M (m_took_N lc D cI cZ N q qs qi qk ql mn tA sA kA nb ck hi lo ha cn sm (imF iA iB) (kpF b0 b1) le f gg bk z4 hmn (by omega) (by omega) (by omega) hcn hz4 (by omega) g3)), ⟨a, a2, a3, (mn, tA, sA, kA, ck, nb, cn, sm, mo, re), v2, v3, hi, lo, ha, le, iA, iB, b0, b1, qs, qi, qk, ql, rfl, rfl, hG, h0, h1, hI0, hI1⟩, rfl, rfl⟩
    · exact ⟨iI (-1000000002), _, _, (CM.app (CR.M (c_took_O lc D cI cZ N o (a2 0) (a3 0) (b0 + 2 * b1) (a 0) (a 1) (a 2) (a 3) (a 4) (a 5) (a 6) (a 7) (a 8) (a 9) mn tA sA kA ck nb cn sm mo re z1 z2 z3 z4 hmn hz1 hz2 hz3 hz4 g.1 g.2 g2))), (CR.M (m_took_O lc D cI cZ N q qs qi qk ql mn tA sA kA nb ck hi lo ha cn sm (imF iA iB) (kpF b0 b1) le z1 z2 z3 z4 hmn hz1 hz2 hz3 hz4 g.1 g.2 g2)), ⟨a, a2, a3, (mn, tA, sA, kA, ck, nb, cn, sm, mo, re), v2, v3, hi, lo, ha, le, iA, iB, b0, b1, qs, qi, qk, ql, rfl, rfl, hG, h0, h1, hI0, hI1⟩, rfl, rfl⟩
  · exact ⟨iI (-1000000001), _, _, (CM.app (CR.M (c_took_U lc D cI cZ N o (a2 0) (a3 0) (b0 + 2 * b1) (a 0) (a 1) (a 2) (a 3) (a 4) (a 5) (a 6) (a 7) (a 8) (a 9) mn tA sA kA ck nb cn sm mo re z1 z2 z3 z4 hmn hz1 hz2 g))), (CR.M (m_took_U lc D cI cZ N q qs qi qk ql mn tA sA kA nb ck hi lo ha cn sm (imF iA iB) (kpF b0 b1) le z1 z2 z3 z4 hmn hz1 hz2 g)), ⟨a, a2, a3, (mn, tA, sA, kA, ck, nb, cn, sm, mo, re), v2, v3, hi, lo, ha, le, iA, iB, b0, b1, qs, qi, qk, ql, rfl, rfl, hG, h0, h1, hI0, hI1⟩, rfl, rfl⟩

set_option maxHeartbeats 4000000 in
set_option maxRecDepth 100000 in
theorem sim_first (lc : Launch) (D : va_G) {cI cZ : ClassId} (N : Nat) {o q : Nat} {X M : va_W} (h : StOK cI cZ o q X M) (z1 z2 : Int) (hz1 : -2147483648 ≤ z1 ∧ z1 ≤ 2147483647) (hz2 : -2147483648 ≤ z2 ∧ z2 ≤ 2147483647) : Sim lc D cI cZ N o q yX4_first wsX4_first (rmK 4 88) yX5_first wsX5_first (rmK 3 66) [.int (iI z1), .int (iI z2)] X M := by
  obtain ⟨a, a2, a3, ⟨mn, tA, sA, kA, ck, nb, cn, sm, mo, re⟩, v2, v3, hi, lo, ha, le, iA, iB, b0, b1, qs, qi, qk, ql, rfl, rfl, hG, h0, h1, hI0, hI1⟩ := h
  have hG : Good mn tA sA kA ck nb cn sm mo hi lo ha := hG
  obtain ⟨hmn, hta0, hsA, hkA, hnbO, hck, hcnO, hbd⟩ := id hG
  have hta : 0 ≤ tA ∧ tA ≤ 10000 := by omega
  have hnb := hnbO.1
  have hcn := hcnO.rng hsA.2
  have hmo := hbd.moR hck
  have hha := hbd.haR
  have hhi := hbd.hiR
  have hlo2 := hbd.loR
  have hpot := (hbd.edge hck).pot
  by_cases g : (0 ≤ z1 ∧ z1 ≤ 20) ∧ (0 ≤ z2 ∧ z2 ≤ 2)
  · by_cases gN : ∀ i, i < 200 → cn (0 * 200 + i) - cn ((mn - 1) * 200 + i) ≤ z1
    · exact ⟨iI (-6), _, _, (CM.app (CR.M (c_first_N lc D cI cZ N o (a2 0) (a3 0) (b0 + 2 * b1) (a 0) (a 1) (a 2) (a 3) (a 4) (a 5) (a 6) (a 7) (a 8) (a 9) mn tA sA kA ck nb cn sm mo re z1 z2 hmn hcn g.1 hz2 g.2 gN))), (CR.M (m_first_N lc D cI cZ N q qs qi qk ql mn tA sA kA nb ck hi lo ha cn sm (imF iA iB) (kpF b0 b1) le z1 z2 hmn hcn g.1 hz2 g.2 gN)), ⟨a, a2, a3, (mn, tA, sA, kA, ck, nb, cn, sm, mo, re), v2, v3, hi, lo, ha, le, iA, iB, b0, b1, qs, qi, qk, ql, rfl, rfl, hG, h0, h1, hI0, hI1⟩, rfl, rfl⟩
    · have hex : ∃ B, B < 200 ∧ z1 < cn (0 * 200 + B) - cn ((mn - 1) * 200 + B) := Classical.byContradiction fun hn => gN fun i hi => by
        rcases Int.lt_or_le z1 (cn (0 * 200 + i) - cn ((mn - 1) * 200 + i)) with w | w
        · exact absurd ⟨i, hi, w⟩ hn
        · exact w
      obtain ⟨B, ⟨hB, h2⟩, hlt⟩ := pk_least _ hex
      have h3 : ∀ i, i < B → cn (0 * 200 + i) - cn ((mn - 1) * 200 + i) ≤ z1 := fun i hi => by
        rcases Int.lt_or_le z1 (cn (0 * 200 + i) - cn ((mn - 1) * 200 + i)) with w | w
        · exact absurd ⟨by omega, w⟩ (hlt i hi)
        · exact w
      obtain ⟨J, hJ, hJ0, hJ1⟩ := first_J (B := B) (cn := cn) hmn (by omega)
      have hmonJ := hcnO.2.1 J B (by omega) hB
      have c3 : ∀ i, i < J → cn (i * 200 + B) - cn ((i + 1) * 200 + B) ≤ 0 := fun i hi => by have := hJ0 i hi; omega
      have c4 : J < mn - 2 → 0 < cn (J * 200 + B) - cn ((J + 1) * 200 + B) := fun _ => by omega
      by_cases e0 : z2 = 0
      · subst e0
        exact ⟨iI (((B : Nat) : Int)), _, _, (CM.app (CR.M (c_first_0 lc D cI cZ N o (a2 0) (a3 0) (b0 + 2 * b1) (a 0) (a 1) (a 2) (a 3) (a 4) (a 5) (a 6) (a 7) (a 8) (a 9) mn tA sA kA ck nb cn sm mo re z1 B hmn hcn g.1 hB h3 h2))), (CR.M (m_first_0 lc D cI cZ N q qs qi qk ql mn tA sA kA nb ck hi lo ha cn sm (imF iA iB) (kpF b0 b1) le z1 B hmn hcn g.1 hB h3 h2)), ⟨a, a2, a3, (mn, tA, sA, kA, ck, nb, cn, sm, mo, re), v2, v3, hi, lo, ha, le, iA, iB, b0, b1, qs, qi, qk, ql, rfl, rfl, hG, h0, h1, hI0, hI1⟩, rfl, rfl⟩
      · by_cases e1 : z2 = 1
        · subst e1
          exact ⟨iI (((J : Nat) : Int)), _, _, (CM.app (CR.M (c_first_1 lc D cI cZ N o (a2 0) (a3 0) (b0 + 2 * b1) (a 0) (a 1) (a 2) (a 3) (a 4) (a 5) (a 6) (a 7) (a 8) (a 9) mn tA sA kA ck nb cn sm mo re z1 B J hmn hcn g.1 hB h3 h2 hJ c3 c4))), (CR.M (m_first_1 lc D cI cZ N q qs qi qk ql mn tA sA kA nb ck hi lo ha cn sm (imF iA iB) (kpF b0 b1) le z1 B J hmn hcn g.1 hB h3 h2 hJ hJ0 hJ1)), ⟨a, a2, a3, (mn, tA, sA, kA, ck, nb, cn, sm, mo, re), v2, v3, hi, lo, ha, le, iA, iB, b0, b1, qs, qi, qk, ql, rfl, rfl, hG, h0, h1, hI0, hI1⟩, rfl, rfl⟩
        · obtain rfl : z2 = 2 := by omega
          exact ⟨iI (cn (J * 200 + B) - cn ((J + 1) * 200 + B)), _, _, (CM.app (CR.M (c_first_2 lc D cI cZ N o (a2 0) (a3 0) (b0 + 2 * b1) (a 0) (a 1) (a 2) (a 3) (a 4) (a 5) (a 6) (a 7) (a 8) (a 9) mn tA sA kA ck nb cn sm mo re z1 B J hmn hcn g.1 hB h3 h2 hJ c3 c4))), (CR.M (m_first_2 lc D cI cZ N q qs qi qk ql mn tA sA kA nb ck hi lo ha cn sm (imF iA iB) (kpF b0 b1) le z1 B J hmn hcn g.1 hB h3 h2 hJ hJ0 hJ1)), ⟨a, a2, a3, (mn, tA, sA, kA, ck, nb, cn, sm, mo, re), v2, v3, hi, lo, ha, le, iA, iB, b0, b1, qs, qi, qk, ql, rfl, rfl, hG, h0, h1, hI0, hI1⟩, rfl, rfl⟩
  · exact ⟨iI (-2), _, _, (CM.app (CR.M (c_first_O lc D cI cZ N o (a2 0) (a3 0) (b0 + 2 * b1) (a 0) (a 1) (a 2) (a 3) (a 4) (a 5) (a 6) (a 7) (a 8) (a 9) mn tA sA kA ck nb cn sm mo re z1 z2 hz1 hz2 g))), (CR.M (m_first_O lc D cI cZ N q qs qi qk ql mn tA sA kA nb ck hi lo ha cn sm (imF iA iB) (kpF b0 b1) le z1 z2 hz1 hz2 g)), ⟨a, a2, a3, (mn, tA, sA, kA, ck, nb, cn, sm, mo, re), v2, v3, hi, lo, ha, le, iA, iB, b0, b1, qs, qi, qk, ql, rfl, rfl, hG, h0, h1, hI0, hI1⟩, rfl, rfl⟩

set_option maxHeartbeats 4000000 in
set_option maxRecDepth 100000 in
theorem sim_sound (lc : Launch) (D : va_G) {cI cZ : ClassId} (N : Nat) {o q : Nat} {X M : va_W} (h : StOK cI cZ o q X M) (z1 z2 : Int) (hz1 : -2147483648 ≤ z1 ∧ z1 ≤ 2147483647) (hz2 : -2147483648 ≤ z2 ∧ z2 ≤ 2147483647) : Sim lc D cI cZ N o q yX4_sound wsX4_sound (rmK 3 74) yX5_sound wsX5_sound (rmK 2 45) [.int (iI z1), .int (iI z2)] X M := by
  obtain ⟨a, a2, a3, ⟨mn, tA, sA, kA, ck, nb, cn, sm, mo, re⟩, v2, v3, hi, lo, ha, le, iA, iB, b0, b1, qs, qi, qk, ql, rfl, rfl, hG, h0, h1, hI0, hI1⟩ := h
  have hG : Good mn tA sA kA ck nb cn sm mo hi lo ha := hG
  obtain ⟨hmn, hta0, hsA, hkA, hnbO, hck, hcnO, hbd⟩ := id hG
  have hta : 0 ≤ tA ∧ tA ≤ 10000 := by omega
  have hnb := hnbO.1
  have hcn := hcnO.rng hsA.2
  have hmo := hbd.moR hck
  have hha := hbd.haR
  have hhi := hbd.hiR
  have hlo2 := hbd.loR
  have hpot := (hbd.edge hck).pot
  by_cases g : (0 ≤ z1 ∧ z1 ≤ (mn : Int) - 1) ∧ (0 ≤ z2 ∧ z2 ≤ (mn : Int) - 1)
  · by_cases g2 : z1 < z2
    · by_cases g3 : tA + 1 ≤ 9999
      · obtain ⟨f, rfl⟩ : ∃ n : Nat, z1 = (n : Int) := ⟨z1.toNat, by omega⟩
        obtain ⟨gg, rfl⟩ : ∃ n : Nat, z2 = (n : Int) := ⟨z2.toNat, by omega⟩
        have t1 := thN_rng (f := f) hta.1 hnb (gg - f) (by omega)
        have t2 := thN_min (f := f) hta.1 hnbO (gg - f) (by omega)
        have t3 := bkN_rng (g := gg) (by omega) t1.1 hnb (gg - f) (by omega)
        have t4 := bkN_min (g := gg) (by omega) t1.1 hnbO (gg - f) (by omega)
        have k1 := hck f (by omega)
        have k2 := hck gg (by omega)
        exact ⟨iI ((bkN nb (thN nb tA f (gg - f)) gg (gg - f)) - tA), _, _, (CM.app (c_sound lc D cI cZ N o (a2 0) (a3 0) (b0 + 2 * b1) (a 0) (a 1) (a 2) (a 3) (a 4) (a 5) (a 6) (a 7) (a 8) (a 9) mn tA sA kA ck nb cn sm mo re f gg hmn hnb hta hck hmo (by omega) (by omega) g3)), (m_sound lc D cI cZ N q qs qi qk ql mn tA sA kA nb ck hi lo ha cn sm (imF iA iB) (kpF b0 b1) le f gg hmn hnb hta hck hhi hlo2 hha (by omega) (by omega) g3), ⟨a, a2, a3, (mn, tA + 1, sA, kA, ck, nb, cn, sm, nrw mo f gg ((((thN nb tA f (gg - f)) + ck gg) - (tA + ck f)) - (((gg : Nat) : Int) - ((f : Nat) : Int))) ((((thN nb tA f (gg - f)) + ck gg) - ((bkN nb (thN nb tA f (gg - f)) gg (gg - f)) + ck f)) + (((gg : Nat) : Int) - ((f : Nat) : Int))), re), v2, v3, (updI hi (f * 5 + gg) (hiN ha hi (f * 5 + gg) ((((thN nb tA f (gg - f)) + ck gg) - (tA + ck f)) - (((gg : Nat) : Int) - ((f : Nat) : Int))))), (updI lo (f * 5 + gg) (loN ha lo (f * 5 + gg) ((((thN nb tA f (gg - f)) + ck gg) - ((bkN nb (thN nb tA f (gg - f)) gg (gg - f)) + ck f)) + (((gg : Nat) : Int) - ((f : Nat) : Int))))), (updI ha (f * 5 + gg) 1), le, iA, iB, b0, b1, qs, qi, qk, ql, rfl, rfl, ⟨hmn, (show 0 ≤ tA + 1 ∧ tA + 1 ≤ 9999 by omega), hsA, hkA, hnbO, hck, hcnO, hbd.sound hck (by omega) (by omega) (by omega) (by omega)⟩, h0, h1, hI0, hI1⟩, rfl, rfl⟩
      · exact ⟨iI (-4), _, _, (CM.app (CR.M (c_sound_F lc D cI cZ N o (a2 0) (a3 0) (b0 + 2 * b1) (a 0) (a 1) (a 2) (a 3) (a 4) (a 5) (a 6) (a 7) (a 8) (a 9) mn tA sA kA ck nb cn sm mo re z1 z2 hmn hta hz1 hz2 g.1 g.2 g2 (by omega)))), (CR.M (m_sound_F lc D cI cZ N q qs qi qk ql mn tA sA kA nb ck hi lo ha cn sm (imF iA iB) (kpF b0 b1) le z1 z2 hmn hta hz1 hz2 g.1 g.2 g2 (by omega))), ⟨a, a2, a3, (mn, tA, sA, kA, ck, nb, cn, sm, mo, re), v2, v3, hi, lo, ha, le, iA, iB, b0, b1, qs, qi, qk, ql, rfl, rfl, hG, h0, h1, hI0, hI1⟩, rfl, rfl⟩
    · exact ⟨iI (-2), _, _, (CM.app (CR.M (c_sound_O lc D cI cZ N o (a2 0) (a3 0) (b0 + 2 * b1) (a 0) (a 1) (a 2) (a 3) (a 4) (a 5) (a 6) (a 7) (a 8) (a 9) mn tA sA kA ck nb cn sm mo re z1 z2 hmn hz1 hz2 g.1 g.2 (by omega)))), (CR.M (m_sound_O lc D cI cZ N q qs qi qk ql mn tA sA kA nb ck hi lo ha cn sm (imF iA iB) (kpF b0 b1) le z1 z2 hmn hz1 hz2 g.1 g.2 (by omega))), ⟨a, a2, a3, (mn, tA, sA, kA, ck, nb, cn, sm, mo, re), v2, v3, hi, lo, ha, le, iA, iB, b0, b1, qs, qi, qk, ql, rfl, rfl, hG, h0, h1, hI0, hI1⟩, rfl, rfl⟩
  · exact ⟨iI (-1), _, _, (CM.app (CR.M (c_sound_U lc D cI cZ N o (a2 0) (a3 0) (b0 + 2 * b1) (a 0) (a 1) (a 2) (a 3) (a 4) (a 5) (a 6) (a 7) (a 8) (a 9) mn tA sA kA ck nb cn sm mo re z1 z2 hmn hz1 hz2 g))), (CR.M (m_sound_U lc D cI cZ N q qs qi qk ql mn tA sA kA nb ck hi lo ha cn sm (imF iA iB) (kpF b0 b1) le z1 z2 hmn hz1 hz2 g)), ⟨a, a2, a3, (mn, tA, sA, kA, ck, nb, cn, sm, mo, re), v2, v3, hi, lo, ha, le, iA, iB, b0, b1, qs, qi, qk, ql, rfl, rfl, hG, h0, h1, hI0, hI1⟩, rfl, rfl⟩

set_option maxHeartbeats 4000000 in
set_option maxRecDepth 100000 in
theorem sim_apart (lc : Launch) (D : va_G) {cI cZ : ClassId} (N : Nat) {o q : Nat} {X M : va_W} (h : StOK cI cZ o q X M) (z1 z2 z3 : Int) (hz1 : -2147483648 ≤ z1 ∧ z1 ≤ 2147483647) (hz2 : -2147483648 ≤ z2 ∧ z2 ≤ 2147483647) (hz3 : -2147483648 ≤ z3 ∧ z3 ≤ 2147483647) : Sim lc D cI cZ N o q yX4_apart wsX4_apart (rmK 3 65) yX5_apart wsX5_apart (rmK 2 43) [.int (iI z1), .int (iI z2), .int (iI z3)] X M := by
  obtain ⟨a, a2, a3, ⟨mn, tA, sA, kA, ck, nb, cn, sm, mo, re⟩, v2, v3, hi, lo, ha, le, iA, iB, b0, b1, qs, qi, qk, ql, rfl, rfl, hG, h0, h1, hI0, hI1⟩ := h
  have hG : Good mn tA sA kA ck nb cn sm mo hi lo ha := hG
  obtain ⟨hmn, hta0, hsA, hkA, hnbO, hck, hcnO, hbd⟩ := id hG
  have hta : 0 ≤ tA ∧ tA ≤ 10000 := by omega
  have hnb := hnbO.1
  have hcn := hcnO.rng hsA.2
  have hmo := hbd.moR hck
  have hha := hbd.haR
  have hhi := hbd.hiR
  have hlo2 := hbd.loR
  have hpot := (hbd.edge hck).pot
  by_cases g : (0 ≤ z1 ∧ z1 ≤ (mn : Int) - 1) ∧ (0 ≤ z2 ∧ z2 ≤ (mn : Int) - 1)
  · by_cases g2 : z1 < z2 ∧ (0 ≤ z3 ∧ z3 ≤ 1)
    · obtain ⟨f, rfl⟩ : ∃ n : Nat, z1 = (n : Int) := ⟨z1.toNat, by omega⟩
      obtain ⟨gg, rfl⟩ : ∃ n : Nat, z2 = (n : Int) := ⟨z2.toNat, by omega⟩
      rcases hbd.1 f gg (by omega) (by omega) with ⟨e1, e2, e3⟩ | ⟨e1, e2, e3, e4, e5, e6, e7⟩
      · exact ⟨iI (-1000000006), _, _, (CM.app (CR.M (c_apart_N lc D cI cZ N o (a2 0) (a3 0) (b0 + 2 * b1) (a 0) (a 1) (a 2) (a 3) (a 4) (a 5) (a 6) (a 7) (a 8) (a 9) mn tA sA kA ck nb cn sm mo re f gg z3 hmn (by omega) (by omega) hz3 (by omega) e2))), (CR.M (m_apart_N lc D cI cZ N q qs qi qk ql mn tA sA kA nb ck hi lo ha cn sm (imF iA iB) (kpF b0 b1) le f gg z3 hmn (by omega) (by omega) hz3 (by omega) e1)), ⟨a, a2, a3, (mn, tA, sA, kA, ck, nb, cn, sm, mo, re), v2, v3, hi, lo, ha, le, iA, iB, b0, b1, qs, qi, qk, ql, rfl, rfl, hG, h0, h1, hI0, hI1⟩, rfl, rfl⟩
      · by_cases g4 : z3 = 0
        · subst g4
          have hc := c_apart_0 lc D cI cZ N o (a2 0) (a3 0) (b0 + 2 * b1) (a 0) (a 1) (a 2) (a 3) (a 4) (a 5) (a 6) (a 7) (a 8) (a 9) mn tA sA kA ck nb cn sm mo re f gg hmn (by omega) (by omega) hmo (by omega)
          rw [show -(mo (gg * 5 + f)) = lo (f * 5 + gg) by omega] at hc
          exact ⟨iI (lo (f * 5 + gg)), _, _, (CM.app (CR.M hc)), (CR.M (m_apart_0 lc D cI cZ N q qs qi qk ql mn tA sA kA nb ck hi lo ha cn sm (imF iA iB) (kpF b0 b1) le f gg hmn (by omega) (by omega) e1)), ⟨a, a2, a3, (mn, tA, sA, kA, ck, nb, cn, sm, mo, re), v2, v3, hi, lo, ha, le, iA, iB, b0, b1, qs, qi, qk, ql, rfl, rfl, hG, h0, h1, hI0, hI1⟩, rfl, rfl⟩
        · obtain rfl : z3 = 1 := by omega
          have hc := c_apart_1 lc D cI cZ N o (a2 0) (a3 0) (b0 + 2 * b1) (a 0) (a 1) (a 2) (a 3) (a 4) (a 5) (a 6) (a 7) (a 8) (a 9) mn tA sA kA ck nb cn sm mo re f gg hmn (by omega) (by omega) hmo (by omega)
          rw [show mo (f * 5 + gg) = hi (f * 5 + gg) by omega] at hc
          exact ⟨iI (hi (f * 5 + gg)), _, _, (CM.app (CR.M hc)), (CR.M (m_apart_1 lc D cI cZ N q qs qi qk ql mn tA sA kA nb ck hi lo ha cn sm (imF iA iB) (kpF b0 b1) le f gg hmn (by omega) (by omega) e1)), ⟨a, a2, a3, (mn, tA, sA, kA, ck, nb, cn, sm, mo, re), v2, v3, hi, lo, ha, le, iA, iB, b0, b1, qs, qi, qk, ql, rfl, rfl, hG, h0, h1, hI0, hI1⟩, rfl, rfl⟩
    · exact ⟨iI (-1000000002), _, _, (CM.app (CR.M (c_apart_O lc D cI cZ N o (a2 0) (a3 0) (b0 + 2 * b1) (a 0) (a 1) (a 2) (a 3) (a 4) (a 5) (a 6) (a 7) (a 8) (a 9) mn tA sA kA ck nb cn sm mo re z1 z2 z3 hmn hz1 hz2 hz3 g.1 g.2 g2))), (CR.M (m_apart_O lc D cI cZ N q qs qi qk ql mn tA sA kA nb ck hi lo ha cn sm (imF iA iB) (kpF b0 b1) le z1 z2 z3 hmn hz1 hz2 hz3 g.1 g.2 g2)), ⟨a, a2, a3, (mn, tA, sA, kA, ck, nb, cn, sm, mo, re), v2, v3, hi, lo, ha, le, iA, iB, b0, b1, qs, qi, qk, ql, rfl, rfl, hG, h0, h1, hI0, hI1⟩, rfl, rfl⟩
  · exact ⟨iI (-1000000001), _, _, (CM.app (CR.M (c_apart_U lc D cI cZ N o (a2 0) (a3 0) (b0 + 2 * b1) (a 0) (a 1) (a 2) (a 3) (a 4) (a 5) (a 6) (a 7) (a 8) (a 9) mn tA sA kA ck nb cn sm mo re z1 z2 z3 hmn hz1 hz2 g))), (CR.M (m_apart_U lc D cI cZ N q qs qi qk ql mn tA sA kA nb ck hi lo ha cn sm (imF iA iB) (kpF b0 b1) le z1 z2 z3 hmn hz1 hz2 g)), ⟨a, a2, a3, (mn, tA, sA, kA, ck, nb, cn, sm, mo, re), v2, v3, hi, lo, ha, le, iA, iB, b0, b1, qs, qi, qk, ql, rfl, rfl, hG, h0, h1, hI0, hI1⟩, rfl, rfl⟩

set_option maxHeartbeats 4000000 in
set_option maxRecDepth 100000 in
theorem sim_tight (lc : Launch) (D : va_G) {cI cZ : ClassId} (N : Nat) {o q : Nat} {X M : va_W} (h : StOK cI cZ o q X M) (z1 z2 : Int) (hz1 : -2147483648 ≤ z1 ∧ z1 ≤ 2147483647) (hz2 : -2147483648 ≤ z2 ∧ z2 ≤ 2147483647) : Sim lc D cI cZ N o q yX4_tight wsX4_tight (rmK 3 68) yX5_tight wsX5_tight (rmK 2 43) [.int (iI z1), .int (iI z2)] X M := by
  obtain ⟨a, a2, a3, ⟨mn, tA, sA, kA, ck, nb, cn, sm, mo, re⟩, v2, v3, hi, lo, ha, le, iA, iB, b0, b1, qs, qi, qk, ql, rfl, rfl, hG, h0, h1, hI0, hI1⟩ := h
  have hG : Good mn tA sA kA ck nb cn sm mo hi lo ha := hG
  obtain ⟨hmn, hta0, hsA, hkA, hnbO, hck, hcnO, hbd⟩ := id hG
  have hta : 0 ≤ tA ∧ tA ≤ 10000 := by omega
  have hnb := hnbO.1
  have hcn := hcnO.rng hsA.2
  have hmo := hbd.moR hck
  have hha := hbd.haR
  have hhi := hbd.hiR
  have hlo2 := hbd.loR
  have hpot := (hbd.edge hck).pot
  by_cases g : (0 ≤ z1 ∧ z1 ≤ (mn : Int) - 1) ∧ (0 ≤ z2 ∧ z2 ≤ (mn : Int) - 1)
  · obtain ⟨xx, rfl⟩ : ∃ n : Nat, z1 = (n : Int) := ⟨z1.toNat, by omega⟩
    obtain ⟨yy, rfl⟩ : ∃ n : Nat, z2 = (n : Int) := ⟨z2.toNat, by omega⟩
    rcases tight_eq (hbd.edge hck) (x := xx) (y := yy) (by omega) (by omega) with ⟨e1, e2⟩ | ⟨e1, e2, e3, e4, e5⟩
    · exact ⟨iI (-1000000006), _, _, (CM.app (c_tight_N lc D cI cZ N o (a2 0) (a3 0) (b0 + 2 * b1) (a 0) (a 1) (a 2) (a 3) (a 4) (a 5) (a 6) (a 7) (a 8) (a 9) mn tA sA kA ck nb cn sm mo re xx yy hmn hmo (by omega) (by omega) e2)), (m_tight_N lc D cI cZ N q qs qi qk ql mn tA sA kA nb ck hi lo ha cn sm (imF iA iB) (kpF b0 b1) le xx yy hmn (by omega) (by omega) hck hpot hhi hlo2 hha e1), ⟨a, a2, a3, (mn, tA, sA, kA, ck, nb, cn, sm, mo, rnds mo (re0 xx) 4), v2, v3, hi, lo, ha, (fwO (lay0 hi lo ha) 5), iA, iB, b0, b1, qs, qi, qk, ql, rfl, rfl, hG, h0, h1, hI0, hI1⟩, rfl, rfl⟩
    · have hc := c_tight lc D cI cZ N o (a2 0) (a3 0) (b0 + 2 * b1) (a 0) (a 1) (a 2) (a 3) (a 4) (a 5) (a 6) (a 7) (a 8) (a 9) mn tA sA kA ck nb cn sm mo re xx yy hmn hmo (by omega) (by omega) e2
      rw [e3] at hc
      exact ⟨iI (fwO (lay0 hi lo ha) 5 (xx * 5 + yy)), _, _, (CM.app hc), (m_tight lc D cI cZ N q qs qi qk ql mn tA sA kA nb ck hi lo ha cn sm (imF iA iB) (kpF b0 b1) le xx yy hmn (by omega) (by omega) hck hpot hhi hlo2 hha e1), ⟨a, a2, a3, (mn, tA, sA, kA, ck, nb, cn, sm, mo, rnds mo (re0 xx) 4), v2, v3, hi, lo, ha, (fwO (lay0 hi lo ha) 5), iA, iB, b0, b1, qs, qi, qk, ql, rfl, rfl, hG, h0, h1, hI0, hI1⟩, rfl, rfl⟩
  · exact ⟨iI (-1000000001), _, _, (CM.app (CR.M (c_tight_U lc D cI cZ N o (a2 0) (a3 0) (b0 + 2 * b1) (a 0) (a 1) (a 2) (a 3) (a 4) (a 5) (a 6) (a 7) (a 8) (a 9) mn tA sA kA ck nb cn sm mo re z1 z2 hmn hz1 hz2 g))), (CR.M (m_tight_U lc D cI cZ N q qs qi qk ql mn tA sA kA nb ck hi lo ha cn sm (imF iA iB) (kpF b0 b1) le z1 z2 hmn hz1 hz2 g)), ⟨a, a2, a3, (mn, tA, sA, kA, ck, nb, cn, sm, mo, re), v2, v3, hi, lo, ha, le, iA, iB, b0, b1, qs, qi, qk, ql, rfl, rfl, hG, h0, h1, hI0, hI1⟩, rfl, rfl⟩

set_option maxHeartbeats 4000000 in
set_option maxRecDepth 100000 in
theorem sim_truth (lc : Launch) (D : va_G) {cI cZ : ClassId} (N : Nat) {o q : Nat} {X M : va_W} (h : StOK cI cZ o q X M) (z1 z2 z3 z4 z5 : Int) (hz1 : -2147483648 ≤ z1 ∧ z1 ≤ 2147483647) (hz2 : -2147483648 ≤ z2 ∧ z2 ≤ 2147483647) (hz3 : -2147483648 ≤ z3 ∧ z3 ≤ 2147483647) (hz4 : -2147483648 ≤ z4 ∧ z4 ≤ 2147483647) (hz5 : -2147483648 ≤ z5 ∧ z5 ≤ 2147483647) : Sim lc D cI cZ N o q yX4_truth wsX4_truth (rmK 4 90) yX5_truth wsX5_truth (rmK 2 47) [.int (iI z1), .int (iI z2), .int (iI z3), .int (iI z4), .int (iI z5)] X M := by
  obtain ⟨a, a2, a3, ⟨mn, tA, sA, kA, ck, nb, cn, sm, mo, re⟩, v2, v3, hi, lo, ha, le, iA, iB, b0, b1, qs, qi, qk, ql, rfl, rfl, hG, h0, h1, hI0, hI1⟩ := h
  have hG : Good mn tA sA kA ck nb cn sm mo hi lo ha := hG
  obtain ⟨hmn, hta0, hsA, hkA, hnbO, hck, hcnO, hbd⟩ := id hG
  have hta : 0 ≤ tA ∧ tA ≤ 10000 := by omega
  have hnb := hnbO.1
  have hcn := hcnO.rng hsA.2
  have hmo := hbd.moR hck
  have hha := hbd.haR
  have hhi := hbd.hiR
  have hlo2 := hbd.loR
  have hpot := (hbd.edge hck).pot
  by_cases g : (0 ≤ z1 ∧ z1 ≤ (mn : Int) - 1) ∧ (0 ≤ z2 ∧ z2 ≤ (mn : Int) - 1)
  · by_cases g2 : z1 < z2 ∧ (0 ≤ z3 ∧ z3 ≤ 199) ∧ (0 ≤ z4 ∧ z4 ≤ 1) ∧ (0 ≤ z5 ∧ z5 ≤ 1)
    · obtain ⟨f, rfl⟩ : ∃ n : Nat, z1 = (n : Int) := ⟨z1.toNat, by omega⟩
      obtain ⟨gg, rfl⟩ : ∃ n : Nat, z2 = (n : Int) := ⟨z2.toNat, by omega⟩
      obtain ⟨bk, rfl⟩ : ∃ n : Nat, z3 = (n : Int) := ⟨z3.toNat, by omega⟩
      by_cases g3 : 0 < cn (f * 200 + bk) ∧ cn (f * 200 + bk) = cn (gg * 200 + bk)
      · have r1 := hcnO.1 (f * 200 + bk) (by omega)
        have r2 := hcnO.1 (gg * 200 + bk) (by omega)
        obtain ⟨wq, hwq⟩ : ∃ n : Nat, cn (f * 200 + bk) = (n : Int) := ⟨(cn (f * 200 + bk)).toNat, by omega⟩
        have hwg : cn (gg * 200 + bk) = ((wq : Nat) : Int) := by omega
        by_cases g4 : z4 = 0
        · subst g4
          rcases tight_eq (hbd.edge hck) (x := gg) (y := f) (by omega) (by omega) with ⟨e1, e2⟩ | ⟨e1, e2, e3, e4, e5⟩
          · exact ⟨iI (-1000000006), _, _, (CM.app (c_truth_T0 lc D cI cZ N o (a2 0) (a3 0) (b0 + 2 * b1) (a 0) (a 1) (a 2) (a 3) (a 4) (a 5) (a 6) (a 7) (a 8) (a 9) mn tA sA kA ck nb cn sm mo re f gg bk z5 hmn (by omega) (by omega) (by omega) hcn hmo hz5 (by omega) g3 e2)), (m_truth_T0 lc D cI cZ N q qs qi qk ql mn tA sA kA nb ck hi lo ha cn sm (imF iA iB) (kpF b0 b1) le f gg bk z5 hmn (by omega) (by omega) (by omega) hcn hck hpot hhi hlo2 hha hz5 (by omega) g3 e1), ⟨a, a2, a3, (mn, tA, sA, kA, ck, nb, cn, sm, mo, rnds mo (re0 gg) 4), v2, v3, hi, lo, ha, (fwO (lay0 hi lo ha) 5), iA, iB, b0, b1, qs, qi, qk, ql, rfl, rfl, hG, h0, h1, hI0, hI1⟩, rfl, rfl⟩
          · have mb := mulB (t := fwO (lay0 hi lo ha) 5 (gg * 5 + f)) (w := ((wq : Nat) : Int)) ⟨e4, e5⟩ (by omega)
            have hU : -1000000000 ≤ ((sm (gg * 200 + bk) - sm (f * 200 + bk)) + (fwO (lay0 hi lo ha) 5 (gg * 5 + f)) * ((wq : Nat) : Int)) ∧ ((sm (gg * 200 + bk) - sm (f * 200 + bk)) + (fwO (lay0 hi lo ha) 5 (gg * 5 + f)) * ((wq : Nat) : Int)) ≤ 1000000000 := by omega
            by_cases g6 : z5 = 0
            · subst g6
              have hc := c_truth_00 lc D cI cZ N o (a2 0) (a3 0) (b0 + 2 * b1) (a 0) (a 1) (a 2) (a 3) (a 4) (a 5) (a 6) (a 7) (a 8) (a 9) mn tA sA kA ck nb cn sm mo re f gg bk wq hmn (by omega) (by omega) (by omega) hcn hmo g3 e2 hwq (by omega) (by rw [e3]; exact hU)
              rw [e3] at hc
              exact ⟨iI (((sm (gg * 200 + bk) - sm (f * 200 + bk)) + (fwO (lay0 hi lo ha) 5 (gg * 5 + f)) * ((wq : Nat) : Int)).tdiv ((Nat.gcd (((sm (gg * 200 + bk) - sm (f * 200 + bk)) + (fwO (lay0 hi lo ha) 5 (gg * 5 + f)) * ((wq : Nat) : Int))).natAbs wq : Nat) : Int)), _, _, (CM.app hc), (m_truth_00 lc D cI cZ N q qs qi qk ql mn tA sA kA nb ck hi lo ha cn sm (imF iA iB) (kpF b0 b1) le f gg bk wq hmn (by omega) (by omega) (by omega) hcn hck hpot hhi hlo2 hha g3 e1 hwg (by omega) hU), ⟨a, a2, a3, (mn, tA, sA, kA, ck, nb, cn, sm, mo, rnds mo (re0 gg) 4), v2, v3, hi, lo, ha, (fwO (lay0 hi lo ha) 5), iA, iB, b0, b1, qs, qi, qk, ql, rfl, rfl, hG, h0, h1, hI0, hI1⟩, rfl, rfl⟩
            · obtain rfl : z5 = 1 := by omega
              have hc := c_truth_01 lc D cI cZ N o (a2 0) (a3 0) (b0 + 2 * b1) (a 0) (a 1) (a 2) (a 3) (a 4) (a 5) (a 6) (a 7) (a 8) (a 9) mn tA sA kA ck nb cn sm mo re f gg bk wq hmn (by omega) (by omega) (by omega) hcn hmo g3 e2 hwq (by omega) (by rw [e3]; exact hU)
              rw [e3] at hc
              exact ⟨iI (((wq : Nat) : Int).tdiv ((Nat.gcd (((sm (gg * 200 + bk) - sm (f * 200 + bk)) + (fwO (lay0 hi lo ha) 5 (gg * 5 + f)) * ((wq : Nat) : Int))).natAbs wq : Nat) : Int)), _, _, (CM.app hc), (m_truth_01 lc D cI cZ N q qs qi qk ql mn tA sA kA nb ck hi lo ha cn sm (imF iA iB) (kpF b0 b1) le f gg bk wq hmn (by omega) (by omega) (by omega) hcn hck hpot hhi hlo2 hha g3 e1 hwg (by omega) hU), ⟨a, a2, a3, (mn, tA, sA, kA, ck, nb, cn, sm, mo, rnds mo (re0 gg) 4), v2, v3, hi, lo, ha, (fwO (lay0 hi lo ha) 5), iA, iB, b0, b1, qs, qi, qk, ql, rfl, rfl, hG, h0, h1, hI0, hI1⟩, rfl, rfl⟩
        · obtain rfl : z4 = 1 := by omega
          rcases tight_eq (hbd.edge hck) (x := f) (y := gg) (by omega) (by omega) with ⟨e1, e2⟩ | ⟨e1, e2, e3, e4, e5⟩
          · exact ⟨iI (-1000000006), _, _, (CM.app (c_truth_T1 lc D cI cZ N o (a2 0) (a3 0) (b0 + 2 * b1) (a 0) (a 1) (a 2) (a 3) (a 4) (a 5) (a 6) (a 7) (a 8) (a 9) mn tA sA kA ck nb cn sm mo re f gg bk z5 hmn (by omega) (by omega) (by omega) hcn hmo hz5 (by omega) g3 e2)), (m_truth_T1 lc D cI cZ N q qs qi qk ql mn tA sA kA nb ck hi lo ha cn sm (imF iA iB) (kpF b0 b1) le f gg bk z5 hmn (by omega) (by omega) (by omega) hcn hck hpot hhi hlo2 hha hz5 (by omega) g3 e1), ⟨a, a2, a3, (mn, tA, sA, kA, ck, nb, cn, sm, mo, rnds mo (re0 f) 4), v2, v3, hi, lo, ha, (fwO (lay0 hi lo ha) 5), iA, iB, b0, b1, qs, qi, qk, ql, rfl, rfl, hG, h0, h1, hI0, hI1⟩, rfl, rfl⟩
          · have mb := mulB (t := fwO (lay0 hi lo ha) 5 (f * 5 + gg)) (w := ((wq : Nat) : Int)) ⟨e4, e5⟩ (by omega)
            have mn2 : (-(fwO (lay0 hi lo ha) 5 (f * 5 + gg))) * ((wq : Nat) : Int) = -((fwO (lay0 hi lo ha) 5 (f * 5 + gg)) * ((wq : Nat) : Int)) := Int.neg_mul _ _
            have hU : -1000000000 ≤ ((sm (gg * 200 + bk) - sm (f * 200 + bk)) + (-(fwO (lay0 hi lo ha) 5 (f * 5 + gg))) * ((wq : Nat) : Int)) ∧ ((sm (gg * 200 + bk) - sm (f * 200 + bk)) + (-(fwO (lay0 hi lo ha) 5 (f * 5 + gg))) * ((wq : Nat) : Int)) ≤ 1000000000 := by omega
            by_cases g6 : z5 = 0
            · subst g6
              have hc := c_truth_10 lc D cI cZ N o (a2 0) (a3 0) (b0 + 2 * b1) (a 0) (a 1) (a 2) (a 3) (a 4) (a 5) (a 6) (a 7) (a 8) (a 9) mn tA sA kA ck nb cn sm mo re f gg bk wq hmn (by omega) (by omega) (by omega) hcn hmo g3 e2 hwq (by omega) (by rw [e3]; exact hU)
              rw [e3] at hc
              exact ⟨iI (((sm (gg * 200 + bk) - sm (f * 200 + bk)) + (-(fwO (lay0 hi lo ha) 5 (f * 5 + gg))) * ((wq : Nat) : Int)).tdiv ((Nat.gcd (((sm (gg * 200 + bk) - sm (f * 200 + bk)) + (-(fwO (lay0 hi lo ha) 5 (f * 5 + gg))) * ((wq : Nat) : Int))).natAbs wq : Nat) : Int)), _, _, (CM.app hc), (m_truth_10 lc D cI cZ N q qs qi qk ql mn tA sA kA nb ck hi lo ha cn sm (imF iA iB) (kpF b0 b1) le f gg bk wq hmn (by omega) (by omega) (by omega) hcn hck hpot hhi hlo2 hha g3 e1 hwg (by omega) hU), ⟨a, a2, a3, (mn, tA, sA, kA, ck, nb, cn, sm, mo, rnds mo (re0 f) 4), v2, v3, hi, lo, ha, (fwO (lay0 hi lo ha) 5), iA, iB, b0, b1, qs, qi, qk, ql, rfl, rfl, hG, h0, h1, hI0, hI1⟩, rfl, rfl⟩
            · obtain rfl : z5 = 1 := by omega
              have hc := c_truth_11 lc D cI cZ N o (a2 0) (a3 0) (b0 + 2 * b1) (a 0) (a 1) (a 2) (a 3) (a 4) (a 5) (a 6) (a 7) (a 8) (a 9) mn tA sA kA ck nb cn sm mo re f gg bk wq hmn (by omega) (by omega) (by omega) hcn hmo g3 e2 hwq (by omega) (by rw [e3]; exact hU)
              rw [e3] at hc
              exact ⟨iI (((wq : Nat) : Int).tdiv ((Nat.gcd (((sm (gg * 200 + bk) - sm (f * 200 + bk)) + (-(fwO (lay0 hi lo ha) 5 (f * 5 + gg))) * ((wq : Nat) : Int))).natAbs wq : Nat) : Int)), _, _, (CM.app hc), (m_truth_11 lc D cI cZ N q qs qi qk ql mn tA sA kA nb ck hi lo ha cn sm (imF iA iB) (kpF b0 b1) le f gg bk wq hmn (by omega) (by omega) (by omega) hcn hck hpot hhi hlo2 hha g3 e1 hwg (by omega) hU), ⟨a, a2, a3, (mn, tA, sA, kA, ck, nb, cn, sm, mo, rnds mo (re0 f) 4), v2, v3, hi, lo, ha, (fwO (lay0 hi lo ha) 5), iA, iB, b0, b1, qs, qi, qk, ql, rfl, rfl, hG, h0, h1, hI0, hI1⟩, rfl, rfl⟩
      · exact ⟨iI (-1000000005), _, _, (CM.app (CR.M (c_truth_N lc D cI cZ N o (a2 0) (a3 0) (b0 + 2 * b1) (a 0) (a 1) (a 2) (a 3) (a 4) (a 5) (a 6) (a 7) (a 8) (a 9) mn tA sA kA ck nb cn sm mo re f gg bk z4 z5 hmn (by omega) (by omega) (by omega) hcn hz4 hz5 (by omega) (by omega) g3))), (CR.M (m_truth_N lc D cI cZ N q qs qi qk ql mn tA sA kA nb ck hi lo ha cn sm (imF iA iB) (kpF b0 b1) le f gg bk z4 z5 hmn (by omega) (by omega) (by omega) hcn hz4 hz5 (by omega) (by omega) g3)), ⟨a, a2, a3, (mn, tA, sA, kA, ck, nb, cn, sm, mo, re), v2, v3, hi, lo, ha, le, iA, iB, b0, b1, qs, qi, qk, ql, rfl, rfl, hG, h0, h1, hI0, hI1⟩, rfl, rfl⟩
    · exact ⟨iI (-1000000002), _, _, (CM.app (CR.M (c_truth_O lc D cI cZ N o (a2 0) (a3 0) (b0 + 2 * b1) (a 0) (a 1) (a 2) (a 3) (a 4) (a 5) (a 6) (a 7) (a 8) (a 9) mn tA sA kA ck nb cn sm mo re z1 z2 z3 z4 z5 hmn hz1 hz2 hz3 hz4 hz5 g.1 g.2 g2))), (CR.M (m_truth_O lc D cI cZ N q qs qi qk ql mn tA sA kA nb ck hi lo ha cn sm (imF iA iB) (kpF b0 b1) le z1 z2 z3 z4 z5 hmn hz1 hz2 hz3 hz4 hz5 g.1 g.2 g2)), ⟨a, a2, a3, (mn, tA, sA, kA, ck, nb, cn, sm, mo, re), v2, v3, hi, lo, ha, le, iA, iB, b0, b1, qs, qi, qk, ql, rfl, rfl, hG, h0, h1, hI0, hI1⟩, rfl, rfl⟩
  · exact ⟨iI (-1000000001), _, _, (CM.app (CR.M (c_truth_U lc D cI cZ N o (a2 0) (a3 0) (b0 + 2 * b1) (a 0) (a 1) (a 2) (a 3) (a 4) (a 5) (a 6) (a 7) (a 8) (a 9) mn tA sA kA ck nb cn sm mo re z1 z2 z3 z4 z5 hmn hz1 hz2 g))), (CR.M (m_truth_U lc D cI cZ N q qs qi qk ql mn tA sA kA nb ck hi lo ha cn sm (imF iA iB) (kpF b0 b1) le z1 z2 z3 z4 z5 hmn hz1 hz2 g)), ⟨a, a2, a3, (mn, tA, sA, kA, ck, nb, cn, sm, mo, re), v2, v3, hi, lo, ha, le, iA, iB, b0, b1, qs, qi, qk, ql, rfl, rfl, hG, h0, h1, hI0, hI1⟩, rfl, rfl⟩

set_option maxHeartbeats 4000000 in
set_option maxRecDepth 100000 in
theorem sim_image (lc : Launch) (D : va_G) {cI cZ : ClassId} (N : Nat) {o q : Nat} {X M : va_W} (h : StOK cI cZ o q X M) (z1 : Int) (hz1 : -2147483648 ≤ z1 ∧ z1 ≤ 2147483647) : Sim lc D cI cZ N o q yX4_image wsX4_image (rmK 3 68) yX5_image wsX5_image (rmK 1 22) [.int (iI z1)] X M := by
  obtain ⟨a, a2, a3, ⟨mn, tA, sA, kA, ck, nb, cn, sm, mo, re⟩, v2, v3, hi, lo, ha, le, iA, iB, b0, b1, qs, qi, qk, ql, rfl, rfl, hG, h0, h1, hI0, hI1⟩ := h
  have hG : Good mn tA sA kA ck nb cn sm mo hi lo ha := hG
  obtain ⟨hmn, hta0, hsA, hkA, hnbO, hck, hcnO, hbd⟩ := id hG
  have hta : 0 ≤ tA ∧ tA ≤ 10000 := by omega
  have hnb := hnbO.1
  have hcn := hcnO.rng hsA.2
  have hmo := hbd.moR hck
  have hha := hbd.haR
  have hhi := hbd.hiR
  have hlo2 := hbd.loR
  have hpot := (hbd.edge hck).pot
  by_cases g : 0 ≤ z1 ∧ z1 ≤ 1
  · by_cases g2 : z1 = 0
    · subst g2
      obtain ⟨mn2, tA2, sA2, kA2, ck2, nb2, cn2, sm2, mo2, re2⟩ := v2
      exact ⟨iI 1, XL cI o a a2 a3 (1 + 2 * b1) (mn, tA, sA, kA, ck, nb, cn, sm, mo, re) (mn, tA, sA, kA, ck, nb, cn, sm, mo, re2) v3, _, (CM.reix (CM.app (r := WL cI a3 v3) (c_image_0 lc D cI cZ N o (a3 0) (a 0) (a 1) (a 2) (a 3) (a 4) (a 5) (a 6) (a 7) (a 8) (a 9) mn tA sA kA ck nb cn sm mo re (a2 0) (a2 1) (a2 2) (a2 3) (a2 4) (a2 5) (a2 6) (a2 7) (a2 8) (a2 9) mn2 tA2 sA2 kA2 ck2 nb2 cn2 sm2 mo2 re2 b0 b1 h0 h1)) [0, 1, 2, 3, 4, 5, 6, 7, 8, 9, 10, 11, 12, 13, 14, 15, 16, 17, 18, 19, 20, 21, 22, 23, 24, 25, 26, 27, 28, 29, 30] [0, 1, 2, 3, 4, 5, 6, 7, 8, 9, 10, 11, 12, 13, 14, 15, 16, 17, 18, 19, 20, 21, 22, 23, 24, 25, 26, 27, 28, 29, 30] rfl (by decide) rfl), (m_image_0 lc D cI cZ N q qs qi qk ql mn tA sA kA nb ck hi lo ha cn sm le b0 b1 iA iB), ⟨a, a2, a3, (mn, tA, sA, kA, ck, nb, cn, sm, mo, re), (mn, tA, sA, kA, ck, nb, cn, sm, mo, re2), v3, hi, lo, ha, le, (stW (mn, tA, sA, kA, ck, nb, cn, sm, mo, re) hi lo ha), iB, 1, b1, qs, qi, qk, ql, rfl, rfl, hG, (Or.inr rfl), h1, (fun _ => ⟨hi, lo, ha, rfl, hG⟩), hI1⟩, rfl, rfl⟩
    · obtain rfl : z1 = 1 := by omega
      obtain ⟨mn2, tA2, sA2, kA2, ck2, nb2, cn2, sm2, mo2, re2⟩ := v3
      exact ⟨iI 1, XL cI o a a2 a3 (b0 + 2 * 1) (mn, tA, sA, kA, ck, nb, cn, sm, mo, re) v2 (mn, tA, sA, kA, ck, nb, cn, sm, mo, re2), _, (CM.reix (CM.app (r := WL cI a2 v2) (c_image_1 lc D cI cZ N o (a2 0) (a 0) (a 1) (a 2) (a 3) (a 4) (a 5) (a 6) (a 7) (a 8) (a 9) mn tA sA kA ck nb cn sm mo re (a3 0) (a3 1) (a3 2) (a3 3) (a3 4) (a3 5) (a3 6) (a3 7) (a3 8) (a3 9) mn2 tA2 sA2 kA2 ck2 nb2 cn2 sm2 mo2 re2 b0 b1 h0 h1)) [0, 1, 2, 3, 4, 5, 6, 7, 8, 9, 10, 21, 22, 23, 24, 25, 26, 27, 28, 29, 30, 11, 12, 13, 14, 15, 16, 17, 18, 19, 20] [0, 1, 2, 3, 4, 5, 6, 7, 8, 9, 10, 21, 22, 23, 24, 25, 26, 27, 28, 29, 30, 11, 12, 13, 14, 15, 16, 17, 18, 19, 20] rfl (by decide) rfl), (m_image_1 lc D cI cZ N q qs qi qk ql mn tA sA kA nb ck hi lo ha cn sm le b0 b1 iA iB), ⟨a, a2, a3, (mn, tA, sA, kA, ck, nb, cn, sm, mo, re), v2, (mn, tA, sA, kA, ck, nb, cn, sm, mo, re2), hi, lo, ha, le, iA, (stW (mn, tA, sA, kA, ck, nb, cn, sm, mo, re) hi lo ha), b0, 1, qs, qi, qk, ql, rfl, rfl, hG, h0, (Or.inr rfl), hI0, (fun _ => ⟨hi, lo, ha, rfl, hG⟩)⟩, rfl, rfl⟩
  · exact ⟨iI (-2), _, _, (CM.app (CR.M (c_image_O lc D cI cZ N o (a2 0) (a3 0) (b0 + 2 * b1) (a 0) (a 1) (a 2) (a 3) (a 4) (a 5) (a 6) (a 7) (a 8) (a 9) mn tA sA kA ck nb cn sm mo re z1 hz1 g))), (CR.M (m_image_O lc D cI cZ N q qs qi qk ql mn tA sA kA nb ck hi lo ha cn sm (imF iA iB) (kpF b0 b1) le z1 hz1 g)), ⟨a, a2, a3, (mn, tA, sA, kA, ck, nb, cn, sm, mo, re), v2, v3, hi, lo, ha, le, iA, iB, b0, b1, qs, qi, qk, ql, rfl, rfl, hG, h0, h1, hI0, hI1⟩, rfl, rfl⟩

set_option maxHeartbeats 4000000 in
set_option maxRecDepth 100000 in
theorem sim_restore (lc : Launch) (D : va_G) {cI cZ : ClassId} (N : Nat) {o q : Nat} {X M : va_W} (h : StOK cI cZ o q X M) (z1 : Int) (hz1 : -2147483648 ≤ z1 ∧ z1 ≤ 2147483647) : Sim lc D cI cZ N o q yX4_restore wsX4_restore (rmK 3 68) yX5_restore wsX5_restore (rmK 1 22) [.int (iI z1)] X M := by
  obtain ⟨a, a2, a3, ⟨mn, tA, sA, kA, ck, nb, cn, sm, mo, re⟩, v2, v3, hi, lo, ha, le, iA, iB, b0, b1, qs, qi, qk, ql, rfl, rfl, hG, h0, h1, hI0, hI1⟩ := h
  have hG : Good mn tA sA kA ck nb cn sm mo hi lo ha := hG
  obtain ⟨hmn, hta0, hsA, hkA, hnbO, hck, hcnO, hbd⟩ := id hG
  have hta : 0 ≤ tA ∧ tA ≤ 10000 := by omega
  have hnb := hnbO.1
  have hcn := hcnO.rng hsA.2
  have hmo := hbd.moR hck
  have hha := hbd.haR
  have hhi := hbd.hiR
  have hlo2 := hbd.loR
  have hpot := (hbd.edge hck).pot
  by_cases g : 0 ≤ z1 ∧ z1 ≤ 1
  · by_cases g2 : z1 = 0
    · subst g2
      by_cases g3 : b0 = 1
      · obtain ⟨mn2, tA2, sA2, kA2, ck2, nb2, cn2, sm2, mo2, re2⟩ := v2
        obtain ⟨hi2, lo2, ha2, rfl, hG2⟩ := hI0 g3
        exact ⟨iI 1, XL cI o a a2 a3 (b0 + 2 * b1) (mn2, tA2, sA2, kA2, ck2, nb2, cn2, sm2, mo2, re) (mn2, tA2, sA2, kA2, ck2, nb2, cn2, sm2, mo2, re2) v3, _, (CM.reix (CM.app (r := WL cI a3 v3) (c_restore_0 lc D cI cZ N o (a3 0) (a 0) (a 1) (a 2) (a 3) (a 4) (a 5) (a 6) (a 7) (a 8) (a 9) mn tA sA kA ck nb cn sm mo re (a2 0) (a2 1) (a2 2) (a2 3) (a2 4) (a2 5) (a2 6) (a2 7) (a2 8) (a2 9) mn2 tA2 sA2 kA2 ck2 nb2 cn2 sm2 mo2 re2 b0 b1 h0 h1 g3)) [0, 1, 2, 3, 4, 5, 6, 7, 8, 9, 10, 11, 12, 13, 14, 15, 16, 17, 18, 19, 20, 21, 22, 23, 24, 25, 26, 27, 28, 29, 30] [0, 1, 2, 3, 4, 5, 6, 7, 8, 9, 10, 11, 12, 13, 14, 15, 16, 17, 18, 19, 20, 21, 22, 23, 24, 25, 26, 27, 28, 29, 30] rfl (by decide) rfl), (m_restore_0 lc D cI cZ N q qs qi qk ql mn tA sA kA nb ck hi lo ha cn sm le b0 b1 mn2 tA2 sA2 kA2 nb2 ck2 hi2 lo2 ha2 cn2 sm2 iB g3), ⟨a, a2, a3, (mn2, tA2, sA2, kA2, ck2, nb2, cn2, sm2, mo2, re), (mn2, tA2, sA2, kA2, ck2, nb2, cn2, sm2, mo2, re2), v3, hi2, lo2, ha2, le, (stW (mn2, tA2, sA2, kA2, ck2, nb2, cn2, sm2, mo2, re2) hi2 lo2 ha2), iB, b0, b1, qs, qi, qk, ql, rfl, rfl, hG2, h0, h1, hI0, hI1⟩, rfl, rfl⟩
      · obtain ⟨mn2, tA2, sA2, kA2, ck2, nb2, cn2, sm2, mo2, re2⟩ := v2
        exact ⟨iI (-3), XL cI o a a2 a3 (b0 + 2 * b1) (mn, tA, sA, kA, ck, nb, cn, sm, mo, re) (mn2, tA2, sA2, kA2, ck2, nb2, cn2, sm2, mo2, re2) v3, _, (CM.reix (CM.app (r := WL cI a3 v3) (CR.M (c_restore_S0 lc D cI cZ N o (a3 0) (a 0) (a 1) (a 2) (a 3) (a 4) (a 5) (a 6) (a 7) (a 8) (a 9) mn tA sA kA ck nb cn sm mo re (a2 0) (a2 1) (a2 2) (a2 3) (a2 4) (a2 5) (a2 6) (a2 7) (a2 8) (a2 9) mn2 tA2 sA2 kA2 ck2 nb2 cn2 sm2 mo2 re2 b0 b1 h0 h1 (by omega)))) [0, 1, 2, 3, 4, 5, 6, 7, 8, 9, 10, 11, 12, 13, 14, 15, 16, 17, 18, 19, 20, 21, 22, 23, 24, 25, 26, 27, 28, 29, 30] [0, 1, 2, 3, 4, 5, 6, 7, 8, 9, 10, 11, 12, 13, 14, 15, 16, 17, 18, 19, 20, 21, 22, 23, 24, 25, 26, 27, 28, 29, 30] rfl (by decide) rfl), CR.M (m_restore_S0 lc D cI cZ N q qs qi qk ql mn tA sA kA nb ck hi lo ha cn sm (imF iA iB) le b0 b1 (by omega)), ⟨a, a2, a3, (mn, tA, sA, kA, ck, nb, cn, sm, mo, re), (mn2, tA2, sA2, kA2, ck2, nb2, cn2, sm2, mo2, re2), v3, hi, lo, ha, le, iA, iB, b0, b1, qs, qi, qk, ql, rfl, rfl, hG, h0, h1, hI0, hI1⟩, rfl, rfl⟩
    · obtain rfl : z1 = 1 := by omega
      by_cases g3 : b1 = 1
      · obtain ⟨mn2, tA2, sA2, kA2, ck2, nb2, cn2, sm2, mo2, re2⟩ := v3
        obtain ⟨hi2, lo2, ha2, rfl, hG2⟩ := hI1 g3
        exact ⟨iI 1, XL cI o a a2 a3 (b0 + 2 * b1) (mn2, tA2, sA2, kA2, ck2, nb2, cn2, sm2, mo2, re) v2 (mn2, tA2, sA2, kA2, ck2, nb2, cn2, sm2, mo2, re2), _, (CM.reix (CM.app (r := WL cI a2 v2) (c_restore_1 lc D cI cZ N o (a2 0) (a 0) (a 1) (a 2) (a 3) (a 4) (a 5) (a 6) (a 7) (a 8) (a 9) mn tA sA kA ck nb cn sm mo re (a3 0) (a3 1) (a3 2) (a3 3) (a3 4) (a3 5) (a3 6) (a3 7) (a3 8) (a3 9) mn2 tA2 sA2 kA2 ck2 nb2 cn2 sm2 mo2 re2 b0 b1 h0 h1 g3)) [0, 1, 2, 3, 4, 5, 6, 7, 8, 9, 10, 21, 22, 23, 24, 25, 26, 27, 28, 29, 30, 11, 12, 13, 14, 15, 16, 17, 18, 19, 20] [0, 1, 2, 3, 4, 5, 6, 7, 8, 9, 10, 21, 22, 23, 24, 25, 26, 27, 28, 29, 30, 11, 12, 13, 14, 15, 16, 17, 18, 19, 20] rfl (by decide) rfl), (m_restore_1 lc D cI cZ N q qs qi qk ql mn tA sA kA nb ck hi lo ha cn sm le b0 b1 mn2 tA2 sA2 kA2 nb2 ck2 hi2 lo2 ha2 cn2 sm2 iA g3), ⟨a, a2, a3, (mn2, tA2, sA2, kA2, ck2, nb2, cn2, sm2, mo2, re), v2, (mn2, tA2, sA2, kA2, ck2, nb2, cn2, sm2, mo2, re2), hi2, lo2, ha2, le, iA, (stW (mn2, tA2, sA2, kA2, ck2, nb2, cn2, sm2, mo2, re2) hi2 lo2 ha2), b0, b1, qs, qi, qk, ql, rfl, rfl, hG2, h0, h1, hI0, hI1⟩, rfl, rfl⟩
      · obtain ⟨mn2, tA2, sA2, kA2, ck2, nb2, cn2, sm2, mo2, re2⟩ := v3
        exact ⟨iI (-3), XL cI o a a2 a3 (b0 + 2 * b1) (mn, tA, sA, kA, ck, nb, cn, sm, mo, re) v2 (mn2, tA2, sA2, kA2, ck2, nb2, cn2, sm2, mo2, re2), _, (CM.reix (CM.app (r := WL cI a2 v2) (CR.M (c_restore_S1 lc D cI cZ N o (a2 0) (a 0) (a 1) (a 2) (a 3) (a 4) (a 5) (a 6) (a 7) (a 8) (a 9) mn tA sA kA ck nb cn sm mo re (a3 0) (a3 1) (a3 2) (a3 3) (a3 4) (a3 5) (a3 6) (a3 7) (a3 8) (a3 9) mn2 tA2 sA2 kA2 ck2 nb2 cn2 sm2 mo2 re2 b0 b1 h0 h1 (by omega)))) [0, 1, 2, 3, 4, 5, 6, 7, 8, 9, 10, 21, 22, 23, 24, 25, 26, 27, 28, 29, 30, 11, 12, 13, 14, 15, 16, 17, 18, 19, 20] [0, 1, 2, 3, 4, 5, 6, 7, 8, 9, 10, 21, 22, 23, 24, 25, 26, 27, 28, 29, 30, 11, 12, 13, 14, 15, 16, 17, 18, 19, 20] rfl (by decide) rfl), CR.M (m_restore_S1 lc D cI cZ N q qs qi qk ql mn tA sA kA nb ck hi lo ha cn sm (imF iA iB) le b0 b1 (by omega)), ⟨a, a2, a3, (mn, tA, sA, kA, ck, nb, cn, sm, mo, re), v2, (mn2, tA2, sA2, kA2, ck2, nb2, cn2, sm2, mo2, re2), hi, lo, ha, le, iA, iB, b0, b1, qs, qi, qk, ql, rfl, rfl, hG, h0, h1, hI0, hI1⟩, rfl, rfl⟩
  · exact ⟨iI (-2), _, _, (CM.app (CR.M (c_restore_O lc D cI cZ N o (a2 0) (a3 0) (b0 + 2 * b1) (a 0) (a 1) (a 2) (a 3) (a 4) (a 5) (a 6) (a 7) (a 8) (a 9) mn tA sA kA ck nb cn sm mo re z1 hz1 g))), (CR.M (m_restore_O lc D cI cZ N q qs qi qk ql mn tA sA kA nb ck hi lo ha cn sm (imF iA iB) (kpF b0 b1) le z1 hz1 g)), ⟨a, a2, a3, (mn, tA, sA, kA, ck, nb, cn, sm, mo, re), v2, v3, hi, lo, ha, le, iA, iB, b0, b1, qs, qi, qk, ql, rfl, rfl, hG, h0, h1, hI0, hI1⟩, rfl, rfl⟩

set_option maxHeartbeats 4000000 in
set_option maxRecDepth 100000 in
theorem sim_count (lc : Launch) (D : va_G) {cI cZ : ClassId} (N : Nat) {o q : Nat} {X M : va_W} (h : StOK cI cZ o q X M) (z1 : Int) (hz1 : -2147483648 ≤ z1 ∧ z1 ≤ 2147483647) : Sim lc D cI cZ N o q yX4_count wsX4_count (rmK 3 66) yX5_count wsX5_count (rmK 2 43) [.int (iI z1)] X M := by
  obtain ⟨a, a2, a3, ⟨mn, tA, sA, kA, ck, nb, cn, sm, mo, re⟩, v2, v3, hi, lo, ha, le, iA, iB, b0, b1, qs, qi, qk, ql, rfl, rfl, hG, h0, h1, hI0, hI1⟩ := h
  have hG : Good mn tA sA kA ck nb cn sm mo hi lo ha := hG
  obtain ⟨hmn, hta0, hsA, hkA, hnbO, hck, hcnO, hbd⟩ := id hG
  have hta : 0 ≤ tA ∧ tA ≤ 10000 := by omega
  have hnb := hnbO.1
  have hcn := hcnO.rng hsA.2
  have hmo := hbd.moR hck
  have hha := hbd.haR
  have hhi := hbd.hiR
  have hlo2 := hbd.loR
  have hpot := (hbd.edge hck).pot
  by_cases g : z1 < 10
  · by_cases g2 : 0 ≤ z1 ∧ z1 ≤ 6
    · rcases (show z1 = 0 ∨ z1 = 1 ∨ z1 = 2 ∨ z1 = 3 ∨ z1 = 4 ∨ z1 = 5 ∨ z1 = 6 by omega) with rfl | rfl | rfl | rfl | rfl | rfl | rfl
      · exact ⟨iI (((mn : Nat) : Int)), _, _, (CM.app (CR.M (c_count_0 lc D cI cZ N o (a2 0) (a3 0) (b0 + 2 * b1) (a 0) (a 1) (a 2) (a 3) (a 4) (a 5) (a 6) (a 7) (a 8) (a 9) mn tA sA kA ck nb cn sm mo re ))), (CR.M (m_count_0 lc D cI cZ N q qs qi qk ql mn tA sA kA nb ck hi lo ha cn sm (imF iA iB) (kpF b0 b1) le )), ⟨a, a2, a3, (mn, tA, sA, kA, ck, nb, cn, sm, mo, re), v2, v3, hi, lo, ha, le, iA, iB, b0, b1, qs, qi, qk, ql, rfl, rfl, hG, h0, h1, hI0, hI1⟩, rfl, rfl⟩
      · exact ⟨iI (tA), _, _, (CM.app (CR.M (c_count_1 lc D cI cZ N o (a2 0) (a3 0) (b0 + 2 * b1) (a 0) (a 1) (a 2) (a 3) (a 4) (a 5) (a 6) (a 7) (a 8) (a 9) mn tA sA kA ck nb cn sm mo re ))), (CR.M (m_count_1 lc D cI cZ N q qs qi qk ql mn tA sA kA nb ck hi lo ha cn sm (imF iA iB) (kpF b0 b1) le )), ⟨a, a2, a3, (mn, tA, sA, kA, ck, nb, cn, sm, mo, re), v2, v3, hi, lo, ha, le, iA, iB, b0, b1, qs, qi, qk, ql, rfl, rfl, hG, h0, h1, hI0, hI1⟩, rfl, rfl⟩
      · exact ⟨iI (sA), _, _, (CM.app (CR.M (c_count_2 lc D cI cZ N o (a2 0) (a3 0) (b0 + 2 * b1) (a 0) (a 1) (a 2) (a 3) (a 4) (a 5) (a 6) (a 7) (a 8) (a 9) mn tA sA kA ck nb cn sm mo re ))), (CR.M (m_count_2 lc D cI cZ N q qs qi qk ql mn tA sA kA nb ck hi lo ha cn sm (imF iA iB) (kpF b0 b1) le )), ⟨a, a2, a3, (mn, tA, sA, kA, ck, nb, cn, sm, mo, re), v2, v3, hi, lo, ha, le, iA, iB, b0, b1, qs, qi, qk, ql, rfl, rfl, hG, h0, h1, hI0, hI1⟩, rfl, rfl⟩
      · exact ⟨iI (kA), _, _, (CM.app (CR.M (c_count_3 lc D cI cZ N o (a2 0) (a3 0) (b0 + 2 * b1) (a 0) (a 1) (a 2) (a 3) (a 4) (a 5) (a 6) (a 7) (a 8) (a 9) mn tA sA kA ck nb cn sm mo re ))), (CR.M (m_count_3 lc D cI cZ N q qs qi qk ql mn tA sA kA nb ck hi lo ha cn sm (imF iA iB) (kpF b0 b1) le )), ⟨a, a2, a3, (mn, tA, sA, kA, ck, nb, cn, sm, mo, re), v2, v3, hi, lo, ha, le, iA, iB, b0, b1, qs, qi, qk, ql, rfl, rfl, hG, h0, h1, hI0, hI1⟩, rfl, rfl⟩
      · have hc := c_count_4 lc D cI cZ N o (a2 0) (a3 0) (b0 + 2 * b1) (a 0) (a 1) (a 2) (a 3) (a 4) (a 5) (a 6) (a 7) (a 8) (a 9) mn tA sA kA ck nb cn sm mo re hcn
        rw [hcnO.blocks hsA hkA.1] at hc
        exact ⟨iI ((sA + kA - 1).tdiv kA), _, _, (CM.app (CR.M hc)), (CR.M (m_count_4 lc D cI cZ N q qs qi qk ql mn tA sA kA nb ck hi lo ha cn sm (imF iA iB) (kpF b0 b1) le hsA hkA)), ⟨a, a2, a3, (mn, tA, sA, kA, ck, nb, cn, sm, mo, re), v2, v3, hi, lo, ha, le, iA, iB, b0, b1, qs, qi, qk, ql, rfl, rfl, hG, h0, h1, hI0, hI1⟩, rfl, rfl⟩
      · have hc := c_count_5 lc D cI cZ N o (a2 0) (a3 0) (b0 + 2 * b1) (a 0) (a 1) (a 2) (a 3) (a 4) (a 5) (a 6) (a 7) (a 8) (a 9) mn tA sA kA ck nb cn sm mo re hmo
        rw [hbd.pairs] at hc
        exact ⟨iI (sumTo ha 25), _, _, (CM.app (CR.M hc)), (CR.M (m_count_5 lc D cI cZ N q qs qi qk ql mn tA sA kA nb ck hi lo ha cn sm (imF iA iB) (kpF b0 b1) le )), ⟨a, a2, a3, (mn, tA, sA, kA, ck, nb, cn, sm, mo, re), v2, v3, hi, lo, ha, le, iA, iB, b0, b1, qs, qi, qk, ql, rfl, rfl, hG, h0, h1, hI0, hI1⟩, rfl, rfl⟩
      · exact ⟨iI (b0 + 2 * b1), _, _, (CM.app (CR.M (c_count_6 lc D cI cZ N o (a2 0) (a3 0) (b0 + 2 * b1) (a 0) (a 1) (a 2) (a 3) (a 4) (a 5) (a 6) (a 7) (a 8) (a 9) mn tA sA kA ck nb cn sm mo re ))), (CR.M (m_count_6 lc D cI cZ N q qs qi qk ql mn tA sA kA nb ck hi lo ha cn sm (imF iA iB) le b0 b1 h0 h1)), ⟨a, a2, a3, (mn, tA, sA, kA, ck, nb, cn, sm, mo, re), v2, v3, hi, lo, ha, le, iA, iB, b0, b1, qs, qi, qk, ql, rfl, rfl, hG, h0, h1, hI0, hI1⟩, rfl, rfl⟩
    · exact ⟨iI (-2), _, _, (CM.app (CR.M (c_count_O1 lc D cI cZ N o (a2 0) (a3 0) (b0 + 2 * b1) (a 0) (a 1) (a 2) (a 3) (a 4) (a 5) (a 6) (a 7) (a 8) (a 9) mn tA sA kA ck nb cn sm mo re z1 hz1 ⟨g, g2⟩))), (CR.M (m_count_O1 lc D cI cZ N q qs qi qk ql mn tA sA kA nb ck hi lo ha cn sm (imF iA iB) (kpF b0 b1) le z1 hz1 ⟨g, g2⟩)), ⟨a, a2, a3, (mn, tA, sA, kA, ck, nb, cn, sm, mo, re), v2, v3, hi, lo, ha, le, iA, iB, b0, b1, qs, qi, qk, ql, rfl, rfl, hG, h0, h1, hI0, hI1⟩, rfl, rfl⟩
  · by_cases g2 : ((0 ≤ z1.tdiv 10 - 1 ∧ z1.tdiv 10 - 1 ≤ (mn : Int) - 2) ∧ (0 ≤ z1.tmod 10 ∧ z1.tmod 10 ≤ 5))
    · have hq := Int.tmod_def z1 10
      obtain ⟨lk, hlk⟩ : ∃ n : Nat, z1.tdiv 10 - 1 = (n : Int) := ⟨(z1.tdiv 10 - 1).toNat, by omega⟩
      obtain ⟨wh, hwh⟩ : ∃ n : Nat, z1.tmod 10 = (n : Int) := ⟨(z1.tmod 10).toNat, by omega⟩
      obtain rfl : z1 = ((10 + 10 * lk + wh : Nat) : Int) := by omega
      exact ⟨iI (nb (lk * 6 + wh)), _, _, (CM.app (CR.M (c_count_L lc D cI cZ N o (a2 0) (a3 0) (b0 + 2 * b1) (a 0) (a 1) (a 2) (a 3) (a 4) (a 5) (a 6) (a 7) (a 8) (a 9) mn tA sA kA ck nb cn sm mo re lk wh hmn (by omega) (by omega)))), (CR.M (m_count_L lc D cI cZ N q qs qi qk ql mn tA sA kA nb ck hi lo ha cn sm (imF iA iB) (kpF b0 b1) le lk wh hmn (by omega) (by omega))), ⟨a, a2, a3, (mn, tA, sA, kA, ck, nb, cn, sm, mo, re), v2, v3, hi, lo, ha, le, iA, iB, b0, b1, qs, qi, qk, ql, rfl, rfl, hG, h0, h1, hI0, hI1⟩, rfl, rfl⟩
    · exact ⟨iI (-2), _, _, (CM.app (CR.M (c_count_O2 lc D cI cZ N o (a2 0) (a3 0) (b0 + 2 * b1) (a 0) (a 1) (a 2) (a 3) (a 4) (a 5) (a 6) (a 7) (a 8) (a 9) mn tA sA kA ck nb cn sm mo re z1 hmn hz1 (by omega) g2))), (CR.M (m_count_O2 lc D cI cZ N q qs qi qk ql mn tA sA kA nb ck hi lo ha cn sm (imF iA iB) (kpF b0 b1) le z1 hmn hz1 (by omega) g2)), ⟨a, a2, a3, (mn, tA, sA, kA, ck, nb, cn, sm, mo, re), v2, v3, hi, lo, ha, le, iA, iB, b0, b1, qs, qi, qk, ql, rfl, rfl, hG, h0, h1, hI0, hI1⟩, rfl, rfl⟩

