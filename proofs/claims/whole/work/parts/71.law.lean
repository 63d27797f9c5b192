/-! THE CLAIM OUT OF ONE WALK OF THE LAW'S BODY. Your part is whole_start (and what it stands on); all else here is the same for every law, but numbers. -/
def R_law : String := "PathSounderLaw"
def lw_P (b : Addr) (xs : List Int32) (args : Array Value) (s : State) : Prop := args = #[.ref b] ∧ s.IntsAt b xs ∧ xs.length ≤ 3072 ∧ (Jvm.Cond.and given_1 narrow_1).before args s = true
def lw_Q (_ : Array Value) (s : State) (o : Outcome) (t : State) : Prop := o = .returned (some (.int 1)) ∧ Framed s o t [] 36 12575
def lw_Z (below : List Frame) (a : Array Value) (s : State) : State → Prop := fun t => ∃ o, t.status = .running ∧ Ended t below o ∧ lw_Q a s o t
/-- the law's own end, with 1 on the stack, nothing written that was there before, its room as the claim has it -/
theorem lw_ret {p : Program} {l : Launch} {e : Env} {s : State} {m : MethodId} {below : List Frame} {meth : Method} {c : Code} {b : Nat} (hx : p.tables.exec = Jvm.exec) (hb : c.code = code) (hr : meth.sig.returnType = ret) (hlocks : meth.locks = false) {pc : Nat} {H : Heap} {ls : Array Slot} (hdg : decode code pc = .ok (.ireturn, 1)) : W p l e room_1 s m #[Value.ref b] below meth c H [] 36 12575 (lw_Z below #[Value.ref b] s) (F0 m pc ls [.int 1]) := by
  intro T hT X
  obtain ⟨fs, hret, hrun, hended, hW, hframe⟩ := X.leave (v := some (.int 1)) (hlocks := hlocks) (fun h => by rw [hr] at h; cases h)
  have hmeth' : T.vm.method? m = some meth := X.method'
  refine ⟨T.setFrames fs, ?_, .returned (some (.int 1)), hrun, hended, rfl, ⟨_, rfl⟩, hW, hframe⟩
  jvm_step X.here [X.here.top, hx, hb, hdg, hmeth', hr, ret, narrow_b1]
  (try refine ⟨rfl, ?_⟩); (try refine ⟨rfl, ?_⟩)
  first | (intro acts; rw [hret _ acts rfl rfl rfl]) | rw [hret _ _ rfl rfl rfl]
  exact Steps.refl _
/-- what holds at the law's entry: the machine, the code, the tables' words (any of lw_tbl by 'hts w (by decide +kernel)'), the script of L ints xs at the cell b, what the Statement gives of the start (any of its parts by flat_of_before) -/
def lw_At (p : Program) (s : State) (m : MethodId) (meth : Method) (c : Code) (b L : Nat) (xs : Nat → Int32) : Prop :=
  p.tables.exec = Jvm.exec ∧ c.code = code ∧ meth.sig.returnType = ret ∧ c.maxLocals = 4 ∧ s.vm.findClass R_law = some m.cls ∧ (∀ w ∈ lw_tbl, w.before #[Value.ref b] s = true) ∧ va_X b L xs s s.heap ∧ b < s.heap.size ∧ meth.locks = false ∧ (Jvm.Cond.and given_1 narrow_1).before #[Value.ref b] s = true
-- ===== YOUR PART BEGINS =====
set_option maxHeartbeats 4000000 in
set_option maxRecDepth 100000 in
theorem law_loop {p : Program} {l : Launch} {e : Env} {s : State} {m : MethodId} {below : List Frame} {meth : Method} {c : Code} {D : va_G} {cI cZ : ClassId} {o q b L : Nat} {xs : Nat → Int32} (S : CallFix p m c cL_law 4 s #[Value.ref b] wsL_law RL) (hr : meth.sig.returnType = ret) (hlk : meth.locks = false) (hE : En D cI cZ s.heap.size s) (hX0 : va_X b L xs s s.heap) (hbl : b < s.heap.size) (hL : L ≤ 3072) : ∀ (n i : Nat), L < i + n → i ≤ L → ∀ (X M : va_W) (H : Heap) (locs : List Loc) (ls : Array Slot), StOK cI cZ o q X M → va_P D vwCl X H → va_P D vwCl M H → va_D (fun q : Nat => s.heap.size ≤ q) (X ++ M) → va_S (fun q : Nat => s.heap.size ≤ q) s.heap H locs → lv_has ls 4 [(3, .int (iI ((i : Nat) : Int))), (0, .ref b), (1, .ref o), (2, .ref q)] → W p l e room_1 s m #[Value.ref b] below meth c H locs 36 12575 (lw_Z below #[Value.ref b] s) (F0 m 18 ls []) := by
  have hx := S.1
  have hb := S.2.1
  have hbA : ¬ (fun q : Nat => s.heap.size ≤ q) b := Nat.not_le.mpr hbl
  intro n
  induction n with
  | zero => intro i h1 h2; omega
  | succ n ih =>
    intro i h1 h2 X M H locs ls hst hPX hPM hD hS hl
    refine lv_iload_n hx hb dL_law_18 rfl (lv_at hl 0 rfl) ?_
    refine lv_aload_n hx hb dL_law_19 rfl (lv_at hl 1 rfl) ?_
    refine va_slen hx hb hX0 hbl hbA hS dL_law_20 ?_
    refine w_top (z := ((L : Nat) : Int)) (iI_nI L).symm ?_
    refine lv_bipush (v := iI 6) hx hb dL_law_21 rfl ?_
    refine w_isub S dL_law_23 ?_
    by_cases g : i + 6 ≤ L
    · refine c_gtF (tgt := 693) S dL_law_24 (by decide) (by omega) (by omega) (by omega) ?_
      refine lv_aload_n hx hb dL_law_27 rfl (lv_at hl 1 rfl) ?_
      refine lv_iload_n hx hb dL_law_28 rfl (lv_at hl 0 rfl) ?_
      refine w_sld S hX0 hbl hbA hS i rfl (by omega) hL dL_law_29 ?_
      refine lv_bipush (v := iI 31) hx hb dL_law_30 rfl ?_
      obtain ⟨t, ht, hv⟩ := pk_andE (xs i) (m := iI 31) 5 (by decide +kernel)
      have ht : t < 32 := ht
      refine w_iand (v := ((t : Nat) : Int)) S (by rw [iI_of, hv, iI_nI]) dL_law_32 ?_
      have next : ∀ (X M : va_W) (H : Heap) (locs : List Loc), StOK cI cZ o q X M → va_P D vwCl X H → va_P D vwCl M H → va_D (fun q : Nat => s.heap.size ≤ q) (X ++ M) → va_S (fun q : Nat => s.heap.size ≤ q) s.heap H locs → W p l e room_1 s m #[Value.ref b] below meth c H locs 36 12575 (lw_Z below #[Value.ref b] s) (F0 m 687 ls []) := by
        intro X M H locs hst hPX hPM hD hS
        refine w_iinc (v := ((i + 6 : Nat) : Int)) (lv' := [(3, .int (iI ((i + 6 : Nat) : Int))), (0, .ref b), (1, .ref o), (2, .ref q)]) S dL_law_687 hl (k := 0) rfl (by omega) (by decide) rfl (fun ls hl => ?_)
        refine lv_goto (tgt := 18) hx hb dL_law_690 (by decide) ?_
        exact ih (i + 6) (by omega) (by omega) X M H locs ls hst hPX hPM hD hS hl
      by_cases gt : 17 ≤ t
      · refine lv_tableOut (tgt := 687) hx hb dL_law_33 (Or.inr (by rw [iI_toInt (by omega)]; omega)) (by decide) ?_
        exact next X M H locs hst hPX hPM hD hS
      · have h16 : ∀ t : Nat, t < 17 → (t = 0 ∨ t = 1 ∨ t = 2 ∨ t = 3 ∨ t = 4 ∨ t = 5 ∨ t = 6 ∨ t = 7 ∨ t = 8 ∨ t = 9 ∨ t = 10 ∨ t = 11 ∨ t = 12 ∨ t = 13 ∨ t = 14 ∨ t = 15 ∨ t = 16) := by decide
        rcases h16 t (by omega) with rfl | rfl | rfl | rfl | rfl | rfl | rfl | rfl | rfl | rfl | rfl | rfl | rfl | rfl | rfl | rfl | rfl
        · refine lv_tableIn (off := 83) (tgt := 116) hx hb dL_law_33 (by decide +kernel) (by decide +kernel) (by decide +kernel) (by decide) ?_
          exact law_nodes S hE hX0 hbl g hL hst hPX hPM hD hS hl next
        · refine lv_tableIn (off := 106) (tgt := 139) hx hb dL_law_33 (by decide +kernel) (by decide +kernel) (by decide +kernel) (by decide) ?_
          exact law_link S hE hX0 hbl g hL hst hPX hPM hD hS hl next
        · refine lv_tableIn (off := 149) (tgt := 182) hx hb dL_law_33 (by decide +kernel) (by decide +kernel) (by decide +kernel) (by decide) ?_
          exact law_clock S hE hX0 hbl g hL hst hPX hPM hD hS hl next
        · refine lv_tableIn (off := 182) (tgt := 215) hx hb dL_law_33 (by decide +kernel) (by decide +kernel) (by decide +kernel) (by decide) ?_
          exact law_block S hE hX0 hbl g hL hst hPX hPM hD hS hl next
        · refine lv_tableIn (off := 205) (tgt := 238) hx hb dL_law_33 (by decide +kernel) (by decide +kernel) (by decide +kernel) (by decide) ?_
          exact law_pause S hE hX0 hbl g hL hst hPX hPM hD hS hl next
        · refine lv_tableIn (off := 228) (tgt := 261) hx hb dL_law_33 (by decide +kernel) (by decide +kernel) (by decide +kernel) (by decide) ?_
          exact law_send S hE hX0 hbl g hL hst hPX hPM hD hS hl next
        · refine lv_tableIn (off := 251) (tgt := 284) hx hb dL_law_33 (by decide +kernel) (by decide +kernel) (by decide +kernel) (by decide) ?_
          exact law_kept S hE hX0 hbl g hL hst hPX hPM hD hS hl next
        · refine lv_tableIn (off := 294) (tgt := 327) hx hb dL_law_33 (by decide +kernel) (by decide +kernel) (by decide +kernel) (by decide) ?_
          exact law_lost S hE hX0 hbl g hL hst hPX hPM hD hS hl next
        · refine lv_tableIn (off := 327) (tgt := 360) hx hb dL_law_33 (by decide +kernel) (by decide +kernel) (by decide +kernel) (by decide) ?_
          exact law_took S hE hX0 hbl g hL hst hPX hPM hD hS hl next
        · refine lv_tableIn (off := 380) (tgt := 413) hx hb dL_law_33 (by decide +kernel) (by decide +kernel) (by decide +kernel) (by decide) ?_
          exact law_first S hE hX0 hbl g hL hst hPX hPM hD hS hl next
        · refine lv_tableIn (off := 413) (tgt := 446) hx hb dL_law_33 (by decide +kernel) (by decide +kernel) (by decide +kernel) (by decide) ?_
          exact law_sound S hE hX0 hbl g hL hst hPX hPM hD hS hl next
        · refine lv_tableIn (off := 446) (tgt := 479) hx hb dL_law_33 (by decide +kernel) (by decide +kernel) (by decide +kernel) (by decide) ?_
          exact law_apart S hE hX0 hbl g hL hst hPX hPM hD hS hl next
        · refine lv_tableIn (off := 489) (tgt := 522) hx hb dL_law_33 (by decide +kernel) (by decide +kernel) (by decide +kernel) (by decide) ?_
          exact law_tight S hE hX0 hbl g hL hst hPX hPM hD hS hl next
        · refine lv_tableIn (off := 522) (tgt := 555) hx hb dL_law_33 (by decide +kernel) (by decide +kernel) (by decide +kernel) (by decide) ?_
          exact law_truth S hE hX0 hbl g hL hst hPX hPM hD hS hl next
        · refine lv_tableIn (off := 585) (tgt := 618) hx hb dL_law_33 (by decide +kernel) (by decide +kernel) (by decide +kernel) (by decide) ?_
          exact law_image S hE hX0 hbl g hL hst hPX hPM hD hS hl next
        · refine lv_tableIn (off := 608) (tgt := 641) hx hb dL_law_33 (by decide +kernel) (by decide +kernel) (by decide +kernel) (by decide) ?_
          exact law_restore S hE hX0 hbl g hL hst hPX hPM hD hS hl next
        · refine lv_tableIn (off := 631) (tgt := 664) hx hb dL_law_33 (by decide +kernel) (by decide +kernel) (by decide +kernel) (by decide) ?_
          exact law_count S hE hX0 hbl g hL hst hPX hPM hD hS hl next
    · refine c_gtT (tgt := 693) S dL_law_24 (by decide) (by omega) (by omega) (by omega) ?_
      refine lv_iconst (v := 1) hx hb dL_law_693 (by decide) ?_
      refine va_forget (fun q hq => hS.2.2 q hq) ?_
      exact lw_ret hx hb hr hlk dL_law_694
theorem st_lnLeast {b : Nat} {s : State} (hs : ∀ w ∈ flatC (Jvm.Cond.and given_1 narrow_1), w.before #[Value.ref b] s = true) (hts : ∀ w ∈ lw_tbl, w.before #[Value.ref b] s = true) : S1 "LINK_LEAST" lnLeast s.heap.size s s.heap := by
  have hA : ∀ a : Nat, a < s.heap.size → ¬ (fun q : Nat => s.heap.size ≤ q) a := fun a h => Nat.not_le.mpr h
  obtain ⟨t, ht, hT⟩ := va_Tof (args := #[Value.ref b]) (s := s) (tm := .static "PathSounder" "LINK_LEAST" "[I") (ty := .int) (N := 6) (f := fun j => .int (vI lnLeast j)) (by decide) (hs _ (by decide +kernel)) (va_eqt (hs _ (by decide +kernel))) (fun j hj => by
    match j, hj with
    | 0, _ => exact va_eqt (hs _ (by decide +kernel))
    | 1, _ => exact va_eqt (hs _ (by decide +kernel))
    | 2, _ => exact va_eqt (hs _ (by decide +kernel))
    | 3, _ => exact va_eqt (hs _ (by decide +kernel))
    | 4, _ => exact va_eqt (hs _ (by decide +kernel))
    | 5, _ => exact va_eqt (hs _ (by decide +kernel))
    | j + 6, hj => omega) hA
  exact ⟨t, va_Zref (hts _ (by decide +kernel)) (hts _ (by decide +kernel)) ht hA, hT⟩
theorem st_lnMost {b : Nat} {s : State} (hs : ∀ w ∈ flatC (Jvm.Cond.and given_1 narrow_1), w.before #[Value.ref b] s = true) (hts : ∀ w ∈ lw_tbl, w.before #[Value.ref b] s = true) : S1 "LINK_MOST" lnMost s.heap.size s s.heap := by
  have hA : ∀ a : Nat, a < s.heap.size → ¬ (fun q : Nat => s.heap.size ≤ q) a := fun a h => Nat.not_le.mpr h
  obtain ⟨t, ht, hT⟩ := va_Tof (args := #[Value.ref b]) (s := s) (tm := .static "PathSounder" "LINK_MOST" "[I") (ty := .int) (N := 6) (f := fun j => .int (vI lnMost j)) (by decide) (hs _ (by decide +kernel)) (va_eqt (hs _ (by decide +kernel))) (fun j hj => by
    match j, hj with
    | 0, _ => exact va_eqt (hs _ (by decide +kernel))
    | 1, _ => exact va_eqt (hs _ (by decide +kernel))
    | 2, _ => exact va_eqt (hs _ (by decide +kernel))
    | 3, _ => exact va_eqt (hs _ (by decide +kernel))
    | 4, _ => exact va_eqt (hs _ (by decide +kernel))
    | 5, _ => exact va_eqt (hs _ (by decide +kernel))
    | j + 6, hj => omega) hA
  exact ⟨t, va_Zref (hts _ (by decide +kernel)) (hts _ (by decide +kernel)) ht hA, hT⟩
theorem st_lnFirst {b : Nat} {s : State} (hs : ∀ w ∈ flatC (Jvm.Cond.and given_1 narrow_1), w.before #[Value.ref b] s = true) (hts : ∀ w ∈ lw_tbl, w.before #[Value.ref b] s = true) : S1 "LINK_AT_FIRST" lnFirst s.heap.size s s.heap := by
  have hA : ∀ a : Nat, a < s.heap.size → ¬ (fun q : Nat => s.heap.size ≤ q) a := fun a h => Nat.not_le.mpr h
  obtain ⟨t, ht, hT⟩ := va_Tof (args := #[Value.ref b]) (s := s) (tm := .static "PathSounder" "LINK_AT_FIRST" "[I") (ty := .int) (N := 6) (f := fun j => .int (vI lnFirst j)) (by decide) (hs _ (by decide +kernel)) (va_eqt (hs _ (by decide +kernel))) (fun j hj => by
    match j, hj with
    | 0, _ => exact va_eqt (hs _ (by decide +kernel))
    | 1, _ => exact va_eqt (hs _ (by decide +kernel))
    | 2, _ => exact va_eqt (hs _ (by decide +kernel))
    | 3, _ => exact va_eqt (hs _ (by decide +kernel))
    | 4, _ => exact va_eqt (hs _ (by decide +kernel))
    | 5, _ => exact va_eqt (hs _ (by decide +kernel))
    | j + 6, hj => omega) hA
  exact ⟨t, va_Zref (hts _ (by decide +kernel)) (hts _ (by decide +kernel)) ht hA, hT⟩
theorem nw_all {b : Nat} {s : State} (hts : ∀ w ∈ lw_tbl, w.before #[Value.ref b] s = true) : Nw s :=
  ⟨va_Nw.of rfl (hts _ (by decide +kernel)), va_Nw.of rfl (hts _ (by decide +kernel)), va_Nw.of rfl (hts _ (by decide +kernel)), va_Nw.of rfl (hts _ (by decide +kernel)), va_Nw.of rfl (hts _ (by decide +kernel)), va_Nw.of rfl (hts _ (by decide +kernel)), va_Nw.of rfl (hts _ (by decide +kernel)), va_Nw.of rfl (hts _ (by decide +kernel))⟩
theorem env_all {b : Nat} {s : State} (hgv : (Jvm.Cond.and given_1 narrow_1).before #[Value.ref b] s = true) (hts : ∀ w ∈ lw_tbl, w.before #[Value.ref b] s = true) : ∃ (D : va_G) (cI cZ : ClassId), En D cI cZ s.heap.size s := by
  obtain ⟨c0, j0, k0⟩ := u_known (C := RX0) (T := TX0) (N := 2) (n := 2) hts inX0 (hts (.instantiable RX0 2) (by decide +kernel))
  obtain ⟨c1, j1, k1⟩ := u_known (C := RX1) (T := TX1) (N := 1) (n := 1) hts inX1 (hts (.instantiable RX1 1) (by decide +kernel))
  obtain ⟨c2, j2, k2⟩ := u_known (C := RX2) (T := TX2) (N := 2) (n := 2) hts inX2 (hts (.instantiable RX2 2) (by decide +kernel))
  obtain ⟨c3, j3, k3⟩ := u_known (C := RX3) (T := TX3) (N := 8) (n := 8) hts inX3 (hts (.instantiable RX3 8) (by decide +kernel))
  obtain ⟨c4, j4, k4⟩ := u_known (C := RX4) (T := TX4) (N := 4) (n := 4) hts inX4 (hts (.instantiable RX4 4) (by decide +kernel))
  obtain ⟨c5, j5, k5⟩ := u_known (C := RX5) (T := TX5) (N := 4) (n := 4) hts inX5 (hts (.instantiable RX5 4) (by decide +kernel))
  obtain ⟨D, hKc⟩ : ∃ D : va_G, ∀ (k : Nat) (q : vw_C), vwCl[k]? = some q → u_Kn s q.1 q.2.1 q.2.2 (D.1 k) (D.2 k) := by
    refine ⟨(fun k => if k = 0 then c0 else if k = 1 then c1 else if k = 2 then c2 else if k = 3 then c3 else if k = 4 then c4 else c5, fun k => if k = 0 then j0 else if k = 1 then j1 else if k = 2 then j2 else if k = 3 then j3 else if k = 4 then j4 else j5), ?_⟩
    intro k q hq
    match k, hq with
    | 0, hq => cases hq; exact k0
    | 1, hq => cases hq; exact k1
    | 2, hq => cases hq; exact k2
    | 3, hq => cases hq; exact k3
    | 4, hq => cases hq; exact k4
    | 5, hq => cases hq; exact k5
    | k + 6, hq => simp [vwCl] at hq
  obtain ⟨cI, kI, pI, fI, hkI, kdI⟩ := Cond.arrayClass_spec (hts (.arrayClass .int) (by decide +kernel))
  obtain ⟨cZ, kZ, pZ, fZ, hkZ, kdZ⟩ := Cond.arrayClass_spec (hts (.arrayClass .boolean) (by decide +kernel))
  refine ⟨D, cI, cZ, ⟨hKc, ?_⟩, Nat.le_refl _, nw_all hts, st_lnLeast (flat_of_before _ hgv) hts, st_lnMost (flat_of_before _ hgv) hts, st_lnFirst (flat_of_before _ hgv) hts⟩
  intro k q hq
  match k, hq with
  | 0, hq => cases hq; exact ⟨fun n z => ⟨fun k h => (by cases h), kI, hkI, pI, kdI⟩, fI⟩
  | 1, hq => cases hq; exact ⟨fun n z => ⟨fun k h => (by cases h), kZ, hkZ, pZ, kdZ⟩, fZ⟩
  | k + 2, hq => simp at hq
theorem im_zero : imF (fun _ => 0) (fun _ => 0) = fun _ => 0 := funext fun k => by simp [imF]
theorem kp_zero : kpF 0 0 = fun _ => 0 := funext fun k => by simp [kpF]
set_option maxHeartbeats 4000000 in
set_option maxRecDepth 100000 in
theorem st_zero (cI cZ : ClassId) (o q wv1 wcv1 kv1 knv1 tv1 tcv1 tsv1 bv1 bmv1 brv1 wv2 wcv2 kv2 knv2 tv2 tcv2 tsv2 bv2 bmv2 brv2 wv3 wcv3 kv3 knv3 tv3 tcv3 tsv3 bv3 bmv3 brv3 qs qi qk ql : Nat) : StOK cI cZ o q [(o, .inr (4, [.ref wv1, .ref wv2, .ref wv3, .int (iI (0))])), (wv1, .inr (3, [.int (iI (3)), .int (iI (0)), .int (iI (0)), .int (iI (5)), .ref wcv1, .ref kv1, .ref tv1, .ref bv1])), (wcv1, .inl (cI, 5, .inl (vI (fun _ => 0)))), (kv1, .inr (1, [.ref knv1])), (knv1, .inl (cI, 24, .inl (vI nbFirst))), (tv1, .inr (2, [.ref tcv1, .ref tsv1])), (tcv1, .inl (cI, 1000, .inl (vI (fun _ => 0)))), (tsv1, .inl (cI, 1000, .inl (vI (fun _ => 0)))), (bv1, .inr (0, [.ref bmv1, .ref brv1])), (bmv1, .inl (cI, 25, .inl (vI (fun _ => 1000000000)))), (brv1, .inl (cI, 5, .inl (vI (fun _ => 0)))), (wv2, .inr (3, [.int (iI (3)), .int (iI (0)), .int (iI (0)), .int (iI (5)), .ref wcv2, .ref kv2, .ref tv2, .ref bv2])), (wcv2, .inl (cI, 5, .inl (vI (fun _ => 0)))), (kv2, .inr (1, [.ref knv2])), (knv2, .inl (cI, 24, .inl (vI (fun _ => 0)))), (tv2, .inr (2, [.ref tcv2, .ref tsv2])), (tcv2, .inl (cI, 1000, .inl (vI (fun _ => 0)))), (tsv2, .inl (cI, 1000, .inl (vI (fun _ => 0)))), (bv2, .inr (0, [.ref bmv2, .ref brv2])), (bmv2, .inl (cI, 25, .inl (vI (fun _ => 0)))), (brv2, .inl (cI, 5, .inl (vI (fun _ => 0)))), (wv3, .inr (3, [.int (iI (3)), .int (iI (0)), .int (iI (0)), .int (iI (5)), .ref wcv3, .ref kv3, .ref tv3, .ref bv3])), (wcv3, .inl (cI, 5, .inl (vI (fun _ => 0)))), (kv3, .inr (1, [.ref knv3])), (knv3, .inl (cI, 24, .inl (vI (fun _ => 0)))), (tv3, .inr (2, [.ref tcv3, .ref tsv3])), (tcv3, .inl (cI, 1000, .inl (vI (fun _ => 0)))), (tsv3, .inl (cI, 1000, .inl (vI (fun _ => 0)))), (bv3, .inr (0, [.ref bmv3, .ref brv3])), (bmv3, .inl (cI, 25, .inl (vI (fun _ => 0)))), (brv3, .inl (cI, 5, .inl (vI (fun _ => 0))))] [(q, .inr (5, [.ref qs, .ref qi, .ref qk, .ref ql])), (qs, .inl (cI, 2108, .inl (vI (stF ((3 : Nat) : Int) 0 0 5 nbFirst (fun _ => 0) (fun _ => 0) (fun _ => 0) (fun _ => 0) (fun _ => 0) (fun _ => 0))))), (qi, .inl (cI, 4216, .inl (vI (fun _ => 0)))), (qk, .inl (cZ, 2, .inl (vI (fun _ => 0)))), (ql, .inl (cI, 25, .inl (vI (fun _ => 0))))] :=
  ⟨(fun j => ([wv1, wcv1, kv1, knv1, tv1, tcv1, tsv1, bv1, bmv1, brv1] : List Nat).getD j 0), (fun j => ([wv2, wcv2, kv2, knv2, tv2, tcv2, tsv2, bv2, bmv2, brv2] : List Nat).getD j 0), (fun j => ([wv3, wcv3, kv3, knv3, tv3, tcv3, tsv3, bv3, bmv3, brv3] : List Nat).getD j 0), (3, 0, 0, 5, (fun _ => 0), nbFirst, (fun _ => 0), (fun _ => 0), (fun _ => 1000000000), (fun _ => 0)), (3, 0, 0, 5, (fun _ => 0), (fun _ => 0), (fun _ => 0), (fun _ => 0), (fun _ => 0), (fun _ => 0)), (3, 0, 0, 5, (fun _ => 0), (fun _ => 0), (fun _ => 0), (fun _ => 0), (fun _ => 0), (fun _ => 0)), (fun _ => 0), (fun _ => 0), (fun _ => 0), (fun _ => 0), (fun _ => 0), (fun _ => 0), 0, 0, qs, qi, qk, ql, rfl, by rw [im_zero, kp_zero], good_begin (by omega), Or.inl rfl, Or.inl rfl, fun h => absurd h (by decide), fun h => absurd h (by decide)⟩
theorem P_left {D : va_G} {w r : va_W} {H : Heap} (h : va_P D vwCl (w ++ r) H) : va_P D vwCl w H := fun k x hx => h k x (by rw [List.getElem?_append_left (List.getElem?_eq_some_iff.mp hx).1]; exact hx)
theorem P_right {D : va_G} {w r : va_W} {H : Heap} (h : va_P D vwCl (w ++ r) H) : va_P D vwCl r H := fun k x hx => h (w.length + k) x (by rw [List.getElem?_append_right (Nat.le_add_right _ _), Nat.add_sub_cancel_left]; exact hx)
set_option maxHeartbeats 4000000 in
set_option maxRecDepth 100000 in
/-- the law, from its entry -/
theorem whole_start {p : Program} {e : Env} {s : State} {m : MethodId} {below : List Frame} {meth : Method} {c : Code} (l : Launch) (hflags : l.flags = flags0) {b L : Nat} {xs : Nat → Int32} (hL : L ≤ 3072) (C0 : lw_At p s m meth c b L xs) : W p l e room_1 s m #[Value.ref b] below meth c s.heap [] 0 0 (lw_Z below #[Value.ref b] s) (entryFrame m ([Value.ref b] : List Value).toArray 4) := by
  obtain ⟨hx, hb, hr, hml, hown, hts, hX, hbl, hlocks, hgv⟩ := id C0
  have hA : ∀ q : Nat, s.heap.size ≤ q → (fun q : Nat => s.heap.size ≤ q) q := fun _ h => h
  obtain ⟨D, cI, cZ, hE⟩ := env_all hgv hts
  have S : CallFix p m c cL_law 4 s #[Value.ref b] wsL_law RL := ⟨hx, hb, hml, hown, fun w hw => hts w (wsL_law_in w hw)⟩
  have hS : va_S (fun q : Nat => s.heap.size ≤ q) s.heap s.heap [] := va_S.rf
  have hP : va_P D vwCl [] s.heap := fun k q h => by simp at h
  have hD : va_D (fun q : Nat => s.heap.size ≤ q) [] := ⟨fun i j p q h => by simp at h, fun k q h => by simp at h⟩
  have hl := lv_entry ([.ref b]) (n := 4) (Nat.le_of_ble_eq_true rfl)
  rw [lg_entry_eq]
  generalize (lg_sl ([.ref b]) ++ List.replicate (4 - (lg_sl ([.ref b])).length) Slot.unset).toArray = ls at hl ⊢
  have hl : lv_has ls 4 [(0, .ref b)] := hl
  refine w_new (C := RX4) (T := TX4) (Nf := 4) (ci := 4) (fs := [.null, .null, .null, .int (iI (0))]) S inlX4 tyX4 tyX4_ok (List.mem_of_getElem? (i := 0) rfl) (List.mem_of_getElem? (i := 1) rfl) (List.mem_of_getElem? (i := 2) rfl) hE hP hD hS hA rfl (fun j hj => by rcases (show j = 0 ∨ j = 1 ∨ j = 2 ∨ j = 3 by omega) with rfl | rfl | rfl | rfl <;> rfl) (Nat.le_of_ble_eq_true rfl) (Nat.le_of_ble_eq_true rfl) dL_law_0 (fun o H hP hD hS => ?_)
  have hP : va_P D vwCl [(o, .inr (4, [.null, .null, .null, .int (iI (0))]))] H := hP
  have hD : va_D (fun q : Nat => s.heap.size ≤ q) [(o, .inr (4, [.null, .null, .null, .int (iI (0))]))] := hD
  refine lv_dup hx hb dL_law_3 rfl ?_
  refine kJ_N (n := 0) (wr := []) S (n_Sounder l D cI cZ s.heap.size o) gL_law_X4_init (List.mem_of_getElem? (i := 6) rfl) (List.mem_of_getElem? (i := 2) rfl) (List.mem_of_getElem? (i := 7) rfl) rfl rfl (by decide +kernel) rfl rfl ⟨Nat.le_of_ble_eq_true rfl, Nat.le_of_ble_eq_true rfl⟩ hE (fun _ h => h) hA hP hD hS [0] [] rfl (by decide) rfl (by decide) (by decide) rfl hl.1 [.ref o] rfl (Nat.le_of_ble_eq_true rfl) dL_law_4 ⟨Nat.le_of_ble_eq_true rfl, Nat.le_of_ble_eq_true rfl⟩ (fun w1 H locs hw1 hP hD hS => ?_)
  obtain ⟨wv1, wcv1, kv1, knv1, tv1, tcv1, tsv1, bv1, bmv1, brv1, wv2, wcv2, kv2, knv2, tv2, tcv2, tsv2, bv2, bmv2, brv2, wv3, wcv3, kv3, knv3, tv3, tcv3, tsv3, bv3, bmv3, brv3, rfl⟩ := hw1
  refine lv_astore_n (lv' := [(1, .ref o), (0, .ref b)]) hx hb dL_law_7 rfl hl (by decide) rfl (fun ls hl => ?_)
  refine w_new (C := RX5) (T := TX5) (Nf := 4) (ci := 5) (fs := [.null, .null, .null, .null]) S inlX5 tyX5 tyX5_ok (List.mem_of_getElem? (i := 3) rfl) (List.mem_of_getElem? (i := 4) rfl) (List.mem_of_getElem? (i := 5) rfl) hE hP hD hS hA rfl (fun j hj => by rcases (show j = 0 ∨ j = 1 ∨ j = 2 ∨ j = 3 by omega) with rfl | rfl | rfl | rfl <;> rfl) (Nat.le_of_ble_eq_true rfl) (Nat.le_of_ble_eq_true rfl) dL_law_8 (fun q H hP hD hS => ?_)
  refine lv_dup hx hb dL_law_11 rfl ?_
  refine kJ_N (n := 0) (wr := [(o, .inr (4, [.ref wv1, .ref wv2, .ref wv3, .int (iI (0))])), (wv1, .inr (3, [.int (iI (3)), .int (iI (0)), .int (iI (0)), .int (iI (5)), .ref wcv1, .ref kv1, .ref tv1, .ref bv1])), (wcv1, .inl (cI, 5, .inl (vI (fun _ => 0)))), (kv1, .inr (1, [.ref knv1])), (knv1, .inl (cI, 24, .inl (vI nbFirst))), (tv1, .inr (2, [.ref tcv1, .ref tsv1])), (tcv1, .inl (cI, 1000, .inl (vI (fun _ => 0)))), (tsv1, .inl (cI, 1000, .inl (vI (fun _ => 0)))), (bv1, .inr (0, [.ref bmv1, .ref brv1])), (bmv1, .inl (cI, 25, .inl (vI (fun _ => 1000000000)))), (brv1, .inl (cI, 5, .inl (vI (fun _ => 0)))), (wv2, .inr (3, [.int (iI (3)), .int (iI (0)), .int (iI (0)), .int (iI (5)), .ref wcv2, .ref kv2, .ref tv2, .ref bv2])), (wcv2, .inl (cI, 5, .inl (vI (fun _ => 0)))), (kv2, .inr (1, [.ref knv2])), (knv2, .inl (cI, 24, .inl (vI (fun _ => 0)))), (tv2, .inr (2, [.ref tcv2, .ref tsv2])), (tcv2, .inl (cI, 1000, .inl (vI (fun _ => 0)))), (tsv2, .inl (cI, 1000, .inl (vI (fun _ => 0)))), (bv2, .inr (0, [.ref bmv2, .ref brv2])), (bmv2, .inl (cI, 25, .inl (vI (fun _ => 0)))), (brv2, .inl (cI, 5, .inl (vI (fun _ => 0)))), (wv3, .inr (3, [.int (iI (3)), .int (iI (0)), .int (iI (0)), .int (iI (5)), .ref wcv3, .ref kv3, .ref tv3, .ref bv3])), (wcv3, .inl (cI, 5, .inl (vI (fun _ => 0)))), (kv3, .inr (1, [.ref knv3])), (knv3, .inl (cI, 24, .inl (vI (fun _ => 0)))), (tv3, .inr (2, [.ref tcv3, .ref tsv3])), (tcv3, .inl (cI, 1000, .inl (vI (fun _ => 0)))), (tsv3, .inl (cI, 1000, .inl (vI (fun _ => 0)))), (bv3, .inr (0, [.ref bmv3, .ref brv3])), (bmv3, .inl (cI, 25, .inl (vI (fun _ => 0)))), (brv3, .inl (cI, 5, .inl (vI (fun _ => 0))))]) S (n_Model l D cI cZ s.heap.size q) gL_law_X5_init (List.mem_of_getElem? (i := 81) rfl) (List.mem_of_getElem? (i := 5) rfl) (List.mem_of_getElem? (i := 82) rfl) rfl rfl (by decide +kernel) rfl rfl ⟨Nat.le_of_ble_eq_true rfl, Nat.le_of_ble_eq_true rfl⟩ hE (fun _ h => h) hA hP hD hS [31] [0, 1, 2, 3, 4, 5, 6, 7, 8, 9, 10, 11, 12, 13, 14, 15, 16, 17, 18, 19, 20, 21, 22, 23, 24, 25, 26, 27, 28, 29, 30] rfl (by decide) rfl (by decide) (by decide) rfl hl.1 [.ref q] rfl (Nat.le_of_ble_eq_true rfl) dL_law_12 ⟨Nat.le_of_ble_eq_true rfl, Nat.le_of_ble_eq_true rfl⟩ (fun w1 H locs hw1 hP hD hS => ?_)
  obtain ⟨qs, qi, qk, ql, rfl⟩ := hw1
  refine lv_astore_n (lv' := [(2, .ref q), (1, .ref o), (0, .ref b)]) hx hb dL_law_15 rfl hl (by decide) rfl (fun ls hl => ?_)
  refine lv_iconst (v := iI ((0 : Nat) : Int)) hx hb dL_law_16 rfl ?_
  refine lv_istore_n (lv' := [(3, .int (iI ((0 : Nat) : Int))), (2, .ref q), (1, .ref o), (0, .ref b)]) hx hb dL_law_17 rfl hl (by decide) rfl (fun ls hl => ?_)
  exact law_loop S hr hlocks hE hX hbl hL (L + 1) 0 (by omega) (Nat.zero_le L) _ _ _ _ _ (st_zero cI cZ o q wv1 wcv1 kv1 knv1 tv1 tcv1 tsv1 bv1 bmv1 brv1 wv2 wcv2 kv2 knv2 tv2 tcv2 tsv2 bv2 bmv2 brv2 wv3 wcv3 kv3 knv3 tv3 tcv3 tsv3 bv3 bmv3 brv3 qs qi qk ql) (P_left hP) (P_right hP) hD hS (lv_sub hl [0, 3, 2, 1] rfl)
-- ===== YOUR PART ENDS =====
set_option maxHeartbeats 4000000 in
theorem lw_walk (l : Launch) (hflags : l.flags = flags0) (b : Addr) (xs : List Int32) : MetFree l x (headSpec (Jvm.Cond.code x code maxLocals ret :: tables_1) room_1) (lw_P b xs) (fun _ _ _ _ _ => True) lw_Q := by
  refine MetFree.of_bodyS (code := code) (maxLocals := maxLocals) (ret := ret) (by decide) ?_ ?_
  · intro args s m h hn
    obtain ⟨meth, c, h1, h2, h3, h4, h5, h6, -, -⟩ := Cond.code_spec hn (atoms_spec (ws := Jvm.Cond.code x code maxLocals ret :: tables_1) h _ List.mem_cons_self)
    exact ⟨meth, c, h1, h2, h3, h4, h5, h6⟩
  · intro p e s m args below meth c s₁ B hml0 hP _
    obtain ⟨rfl, hx, hbd, hgv⟩ := hP
    obtain ⟨scr, harrAt, hlist, hof, hsmall⟩ := hx
    obtain ⟨hcb, hkn, -, -⟩ := State.arrayAt?_spec harrAt
    have hown : s.vm.findClass R_law = some m.cls := findClass_of_methodNamed B.named
    have hts0 : ∀ c ∈ (Jvm.Cond.code x code maxLocals ret :: tables_1), c.before #[Value.ref b] s = true := atoms_spec (ws := Jvm.Cond.code x code maxLocals ret :: tables_1) B.pre
    have hts : ∀ w ∈ lw_tbl, w.before #[Value.ref b] s = true := k2_hts_sels lw_privs (fun w hw => hts0 w (List.mem_cons_of_mem _ hw)) lw_privs_ok
    have hml : c.maxLocals = 4 := B.maxLocals_eq (hts0 _ List.mem_cons_self)
    have X₀ : Stand p l e room_1 s m #[Value.ref b] below meth c s₁ [] 0 0 := Stand.of_body B
    have hh0 : s₁.heap = s.heap := by rw [B.state]; rfl
    have hsz : scr.slots.size = xs.length := by rw [← Array.length_toList, hlist, List.length_map]
    have hval : ∀ j : Nat, j < xs.length → scr.slots[j]? = some (.int (xs.getD j 0)) := fun j hj => by
      rw [← Array.getElem?_toList, hlist]
      simp [hj]
    have hbl : b < s.heap.size := (Array.getElem?_eq_some_iff.mp hcb).1
    have hX : va_X b xs.length (fun j => xs.getD j 0) s s.heap := ⟨scr, hcb, hof, hkn, hsz, hval⟩
    have K : W p l e room_1 s m #[Value.ref b] below meth c s₁.heap [] 0 0 (lw_Z below #[Value.ref b] s) (entryFrame m ([Value.ref b] : List Value).toArray 4) := by
      rw [hh0]
      exact whole_start l hflags hbd ⟨B.exec, B.bytes, B.returns, hml, hown, hts, hX, hbl, B.notSynchronized, hgv⟩
    obtain ⟨t, a1, o, b1, b2, b3⟩ := K s₁ rfl X₀
    exact ⟨t, o, a1, b1, b2, b3⟩
theorem lw_pre_spec {args : Array Value} {s : State} (h : (Jvm.Cond.and given_1 narrow_1).before args s = true) (hr : rest_1_c.before args s = true) : ∃ (b : Addr) (xs : List Int32), lw_P b xs args s := by
  have hs := flat_of_before _ h
  have hq := flat_of_before _ hr
  have hc : (Cond.count 1).before args s = true := hs _ (by decide +kernel)
  have harr : (Cond.arrayOf (.arg 0) .int).before args s = true := hs _ (by decide +kernel)
  have hle : (Cond.le (.length (.arg 0)) (.int 3072)).before args s = true := hs _ (by decide +kernel)
  have hlen : (Cond.isInt (.length (.arg 0))).before args s = true := hq _ (by decide +kernel)
  have hall : (Cond.all (.arg 0) (.isInt (.elem (.arg 0) (.index 0)))).before args s = true := hq _ (by decide +kernel)
  obtain ⟨b, xs, hb, hx⟩ := State.ints_of_pre rfl harr hlen hall
  have hsm : xs.length < 2 ^ 31 := hx.choose_spec.2.2.2
  have hev : (Term.length (.arg 0)).eval args s none [] s = some (.int xs.length.toInt32) := hx.length_eval hb
  have hv := Cond.le_ints hev (show (Term.int 3072).eval args s none [] s = some (.int 3072) from rfl)
  have hd : xs.length.toInt32 ≤ 3072 := by
    simpa [Cond.before, Cond.holds, hv] using hle
  have hN : xs.length ≤ 3072 := (Int32.ofNat_le_ofNat hsm (by decide)).mp (show Int32.ofNat xs.length ≤ Int32.ofNat 3072 from hd)
  exact ⟨b, xs, Cond.one_arg hc (show args[0]? = some (.ref b) from hb), hx, hN, h⟩
theorem lw_comes (l : Launch) (hflags : l.flags = flags0) : Comes l x (Jvm.Cond.code x code maxLocals ret :: tables_1) room_1 (fun tb e args s => Calls_1 tb e args s ∧ rest_1 tb e args s ∧ Pre_1 tb e args s)
    (fun _ _ args s o t => lw_Q args s o t) := by
  intro p e ha hc hk s m args below hf hfit hheap happ hpre
  obtain ⟨b, xs, hP⟩ := lw_pre_spec hpre.2.2 hpre.2.1
  obtain ⟨k, o, h1, h2, h3, hQ⟩ := lw_walk l hflags b xs p e ha hc hk s m args below hf ((Spec.applies_iff_loose hf).mp happ).1 hP trivial
  exact ⟨k, o, h1, h2, h3, hQ⟩
theorem lw_frame {s t : State} {o : Outcome} {args : Array Value} (h : Framed s o t [] 36 12575) :
    Framed s o t (fieldLocs frame_1_writes args s ++ arrayLocs frame_1_arrays args s ++ staticLocs frame_1_statics s) 36 12575 := h
theorem lw_limb (L : Cond) (hL : ∀ (args : Array Value) (s t : State), L.after args s (.returned (some (.int 1))) t = true) :
    ArmFor flags0 classFile x code maxLocals ret World_1 tables_1 room_1 Calls_1 rest_1 Pre_1
      (fun tb e a s o t => postC L tb e a s o t ∧ Framed s o t (fieldLocs frame_1_writes a s ++ arrayLocs frame_1_arrays a s ++ staticLocs frame_1_statics s) 36 12575) := by
  intro l hflags _ _ p e ha hc hk s m args below hf hfit hheap happ hpre
  obtain ⟨k, o, h1, h2, h3, rfl, hF⟩ := lw_comes l hflags p e ha hc hk s m args below hf hfit hheap happ hpre
  exact ⟨k, _, h1, h2, h3, hL args s _, lw_frame hF⟩
theorem i_vc : Claimed_1_1 ∧ Claimed_1_2 := ⟨lw_limb limb_1_1 (fun args s t => by simp [limb_1_1, Cond.after, Cond.holds, Cond.value]), lw_limb limb_1_2 (fun args s t => Cond.after_iff.mpr (by
  first | (rw [show limb_1_2 = Cond.eq .result (.int 1) from rfl, Cond.eq_ints (x := 1) (y := 1) rfl rfl]; simp; done) | (simp [limb_1_2, Cond.value, Term.eval]; done)))⟩
