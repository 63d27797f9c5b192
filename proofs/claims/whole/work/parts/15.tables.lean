/-! The static rows: read, and copied out of -/
def cpyI (f g : Nat → Int) (dp n : Nat) : Nat → Int := fun k => if dp ≤ k ∧ k < dp + n then f (k - dp) else g k
section TABS
variable {p : Program} {l : Launch} {e : Env} {R : Room} {s : State} {m : MethodId} {args : Array Value} {below : List Frame} {meth : Method} {c : Code} {H : Heap} {locs : List Loc} {Q : State → Prop}
variable {cc : ByteArray} {pc : Nat} {ls : Array Slot} {rest : List Value} {D : va_G} {A : Nat → Prop} {a : Nat} {ws : va_W} {cI cZ : ClassId} {N nL index : Nat} {Ts : List Cond} {own : String}
theorem w_gets {nm : String} {z : Nat} (S : CallFix p m c cc nL s args Ts own) (hZ : va_Z "PathSounder" nm "[I" (.ref z) (fun q => N ≤ q) s s.heap) (hAN : ∀ q, A q → N ≤ q) (hS : va_S A s.heap H locs) (hl : Cond.fieldLink own index "PathSounder" nm "[I" ∈ Ts) (hdg : decode cc pc = .ok (.getstatic index, 3)) (kk : W p l e R s m args below meth c H locs 0 0 Q (F0 m (pc + 3) ls (.ref z :: rest))) : W p l e R s m args below meth c H locs 0 0 Q (F0 m pc ls rest) :=
  va_gets S.1 S.2.1 (hZ.narrow hAN) hS S.2.2.2.1 (S.2.2.2.2 _ hl) (fun _ h => h) hdg kk
theorem w_getsN {nm : String} {z : Nat} (S : CallFix p m c cc nL s args Ts own) (hZ : va_Z "PathSounder" nm "[I" (.ref z) (fun q => N ≤ q) s s.heap) (hAN : ∀ q, A q → N ≤ q) (hS : va_S A s.heap H locs) (hl : va_Nw (.fieldLinkNest own index "PathSounder" nm "[I" "PathSounder") s) (hdg : decode cc pc = .ok (.getstatic index, 3)) (kk : W p l e R s m args below meth c H locs 0 0 Q (F0 m (pc + 3) ls (.ref z :: rest))) : W p l e R s m args below meth c H locs 0 0 Q (F0 m pc ls rest) :=
  va_getsN S.1 S.2.1 (hZ.narrow hAN) hS S.2.2.2.1 (hl.use rfl) (fun _ h => h) hdg kk
theorem w_tld {f : Nat → Int} {z : Nat} (S : CallFix p m c cc nL s args Ts own) (hT : va_T .int z 6 (fun j => .int (vI f j)) (fun q => N ≤ q) s s.heap) (hAN : ∀ q, A q → N ≤ q) (hS : va_S A s.heap H locs) {x : Int} (k : Nat) (hz : x = (k : Int)) (hk : k < 6) (hdg : decode cc pc = .ok (.iaload, 1)) (kk : W p l e R s m args below meth c H locs 0 0 Q (F0 m (pc + 1) ls (.int (iI (f k)) :: rest))) : W p l e R s m args below meth c H locs 0 0 Q (F0 m pc ls (.int (iI x) :: .ref z :: rest)) := by
  subst hz
  refine va_ti S.1 S.2.1 (hT.narrow hAN) hS (iI_in hk (by omega)) (v := .int (iI (f k))) ?_ hdg kk
  rw [iI_cl (by omega)]
  rfl
/-- arraycopy out of a static row: no cell of the world is its source -/
theorem w_copyT (S : CallFix p m c cc nL s args Ts own) (hE : En D cI cZ N s) (hsz : ls.size = nL) (h1 : Cond.methodLink own index arraycopyName ∈ Ts) (h2 : Cond.native arraycopyName ∈ Ts) (h3 : Cond.static arraycopyName ∈ Ts) (h4 : Cond.initialized "java/lang/System" ∈ Ts) (hfr : 1 ≤ R.frames) (hlo : 26 ≤ R.locals) (hcat : (rest.map fun v => v.category).sum ≤ 8) (hP : va_P D vwCl ws H) (hD : va_D A ws) (hS : va_S A s.heap H locs) (hAN : ∀ q, A q → N ≤ q) {z0 n0 : Nat} {f g : Nat → Int} (hX : va_T .int z0 n0 (fun j => .int (vI f j)) (fun q => N ≤ q) s s.heap) (q1 : Nat) {n1 : Nat} (ha1 : ws[q1]? = some (a, .inl (cI, n1, .inl (vI g)))) (hn1 : n1 ≤ 100000) (dp n : Nat) {y z : Int} (hy : y = (dp : Int)) (hz : z = (n : Int)) (hn : n ≤ n0) (hd : dp + n ≤ n1) (hdg : decode cc pc = .ok (.invokestatic index, 3))
    (kk : ∀ (H1 : Heap) (locs1 : List Loc), va_P D vwCl (ws.set q1 (a, .inl (cI, n1, .inl (vI (cpyI f g dp n))))) H1 → va_D A (ws.set q1 (a, .inl (cI, n1, .inl (vI (cpyI f g dp n))))) → va_S A s.heap H1 locs1 → W p l e R s m args below meth c H1 locs1 0 0 Q (F0 m (pc + 3) ls rest)) : W p l e R s m args below meth c H locs 0 0 Q (F0 m pc ls (.int (iI z) :: .int (iI y) :: .ref a :: .int (iI 0) :: .ref z0 :: rest)) := by
  subst hy; subst hz
  have c0 : (iI 0).toNatClampNeg = 0 := rfl
  have cd : (iI (dp : Int)).toNatClampNeg = dp := iI_cl (by omega)
  have cn : (iI (n : Int)).toNatClampNeg = n := iI_cl (by omega)
  have td : (iI (dp : Int)).toInt = (dp : Int) := iI_toInt (by omega)
  have tn : (iI (n : Int)).toInt = (n : Int) := iI_toInt (by omega)
  have t0 : (iI 0).toInt = 0 := rfl
  obtain ⟨src, s1, ⟨s2, k0, hk0, cm0, hkk0⟩, s3, s4, -, s5, s6⟩ := hX.narrow hAN
  have hsrc : H[z0]? = some src := by rw [hS.2.1 z0 (Array.getElem?_eq_some_iff.mp s1).1 s6]; exact s1
  have hdst : H[a]? = some (vp_cell cI (n1, .inl (vI g))) := hP q1 _ ha1
  obtain ⟨-, k1, hk1, cm1, hkk1⟩ := (hE.1.2 0 (cI, .int) rfl).1 n1 (fun j => .int (vI g j))
  intro T hT X
  obtain ⟨vm', X', step⟩ := X.arraycopy S.1 S.2.2.2.1 (S.2.2.2.2 _ h1) (S.2.2.2.2 _ h2) (S.2.2.2.2 _ h3) (S.2.2.2.2 _ h4) (src := z0) (dst := a) (cs := src) (cd := vp_cell cI (n1, .inl (vI g))) (srcPos := iI 0) (destPos := iI (dp : Int)) (n := iI (n : Int)) (by rw [hT]; exact hsrc) (by rw [hT]; exact hdst)
    s2 (fun _ h => by cases h) s3 (fun h => by cases h) hk0 hk1 hkk0 hkk1 (by simp [refKind]) (by decide) (by rw [iI_nI]; exact nI_pos (by omega)) (by rw [iI_nI]; exact nI_pos (by omega))
    (by rw [t0, tn]; omega)
    (by rw [td, tn]; show ¬ _ > ((arrV cI n1 (fun j => .int (vI g j))).slots.size : Int); rw [arrV_size]; omega)
    (fun vm₁ _ i hi => by
      rw [cn] at hi
      have e : src.slots.getD ((iI 0).toNatClampNeg + i) .null = .int (vI f i) := by
        rw [c0, Nat.zero_add, Array.getD_eq_getD_getElem?, s5 _ (by omega)]
        rfl
      rw [e]
      exact ⟨rfl, trivial⟩)
    (g := F0 m pc ls (.int (iI (n : Int)) :: .int (iI (dp : Int)) :: .ref a :: .int (iI 0) :: .ref z0 :: rest)) rfl (by rw [S.2.2.1]; exact hsz) (rest := rest) rfl (by rw [S.2.1]; exact hdg) hfr (by show 2 * 0 + _ + _ ≤ _; simp [nativeFrameWords]; omega)
  have e1 : copied src (vp_cell cI (n1, .inl (vI g))) (iI 0) (iI (dp : Int)) (iI (n : Int)) = vp_cell cI (n1, .inl (va_cpy (vI f) (vI g) (iI 0).toNatClampNeg (iI (dp : Int)).toNatClampNeg (iI (n : Int)).toNatClampNeg)) := va_copiedX (fun z => .int z) src cI (vI f) (vI g) s5 (by rw [c0, cn]; omega)
  have e2 : va_cpy (vI f) (vI g) (iI 0).toNatClampNeg (iI (dp : Int)).toNatClampNeg (iI (n : Int)).toNatClampNeg = vI (cpyI f g dp n) := by
    rw [c0, cd, cn]
    funext k
    unfold va_cpy cpyI vI
    dsimp only
    by_cases h : dp ≤ k ∧ k < dp + n
    · rw [if_pos h, if_pos h, Nat.zero_add]
    · rw [if_neg h, if_neg h]
  rw [e1, e2] at X' step
  have hl : a < H.size := (Array.getElem?_eq_some_iff.mp hdst).1
  have hheap : ((T.setVm vm').setCell a (vp_cell cI (n1, .inl (vI (cpyI f g dp n))))).heap = H.setIfInBounds a (vp_cell cI (n1, .inl (vI (cpyI f g dp n)))) := by rw [← hT]; rfl
  have oq : ∀ q : Nat, q ≠ a → (H.setIfInBounds a (vp_cell cI (n1, .inl (vI (cpyI f g dp n)))))[q]? = H[q]? := fun q hq => by simp [Array.getElem?_setIfInBounds, Ne.symm hq]
  have hAa : A a := hD.2 q1 _ ha1
  obtain ⟨t, g1, g2⟩ := kk _ _ (hP.set hD ha1 (show (H.setIfInBounds a _)[a]? = some _ by simp [Array.getElem?_setIfInBounds, hl]) oq) (hD.set ha1) ⟨by simp; exact hS.1, fun q w1 w2 => by
      rw [oq q (fun h => w2 (h ▸ hAa))]
      exact hS.2.1 q w1 w2, fun q hq => by
      rcases List.mem_append.mp hq with h | h
      · exact hS.2.2 q h
      · obtain ⟨x, -, hx⟩ := List.mem_map.mp h
        rw [← hx]
        exact hAa⟩ _ hheap X'
  exact ⟨t, step t g1, g2⟩
end TABS
theorem first_s (nb : Nat → Int) (i : Nat) : cpyI lnFirst (fun k => if k < i * 6 then nbFirst k else nb k) (i * 6) 6 = (fun k => if k < (i + 1) * 6 then nbFirst k else nb k) := by
  funext k
  unfold cpyI
  dsimp only
  by_cases h : i * 6 ≤ k ∧ k < i * 6 + 6
  · rw [if_pos h, if_pos (by omega)]
    unfold nbFirst
    rw [show k % 6 = k - i * 6 by omega]
  · rw [if_neg h]
    by_cases h2 : k < i * 6
    · rw [if_pos h2, if_pos (by omega)]
    · rw [if_neg h2, if_neg (by omega)]
/-! Greatest common divisors -/
theorem tm0 {u : Int} {d : Nat} : u.tmod (d : Int) = 0 ↔ d ∣ u.natAbs := by
  rw [← Int.dvd_iff_tmod_eq_zero, Int.ofNat_dvd_left]
theorem tm0w {w d : Nat} : ((w : Nat) : Int).tmod (d : Int) = 0 ↔ d ∣ w := by
  rw [tm0]; rfl
theorem gcd_is {x w d : Nat} (hw : 0 < w) (h1 : d ∣ x) (h2 : d ∣ w) (h : ∀ k, d < k → k ≤ w → ¬ (k ∣ x ∧ k ∣ w)) : Nat.gcd x w = d := by
  have g1 := Nat.gcd_dvd_left x w
  have g2 := Nat.gcd_dvd_right x w
  have g3 : d ∣ Nat.gcd x w := Nat.dvd_gcd h1 h2
  have g4 : Nat.gcd x w ≤ w := Nat.le_of_dvd hw g2
  have g5 : 0 < Nat.gcd x w := Nat.gcd_pos_of_pos_right _ hw
  have g6 : d ≤ Nat.gcd x w := Nat.le_of_dvd g5 g3
  rcases Nat.lt_or_ge d (Nat.gcd x w) with h' | h'
  · exact absurd ⟨g1, g2⟩ (h _ h' g4)
  · omega
theorem gcd_pos {x w : Nat} (hw : 0 < w) : 0 < Nat.gcd x w ∧ Nat.gcd x w ≤ w := ⟨Nat.gcd_pos_of_pos_right _ hw, Nat.le_of_dvd hw (Nat.gcd_dvd_right x w)⟩
theorem gcd_step {x y : Nat} : Nat.gcd y (x % y) = Nat.gcd x y := by
  rw [Nat.gcd_comm x y, Nat.gcd_rec y x, Nat.gcd_comm]
theorem tmodN (x y : Nat) : ((x : Nat) : Int).tmod (y : Int) = ((x % y : Nat) : Int) := by
  rw [Int.ofNat_tmod]
