section CALLS
variable {p : Program} {l : Launch} {e : Env} {R : Room} {s : State} {m : MethodId} {args : Array Value} {below : List Frame} {meth : Method} {c : Code} {H : Heap} {locs : List Loc} {cells slots : Nat} {Q : State → Prop}
variable {cc bytes : ByteArray} {pc : Nat} {ls : Array Slot} {rest st0 As : List Value} {D : va_G} {A : Nat → Prop} {a : Nat} {ws wc w1 : va_W} {H0 : Heap} {cI cZ : ClassId} {N nL maxL n index : Nat} {Ts wl wl' : List Cond} {own C host : String} {y : MethodName} {ret : Option FieldType} {rm : Room} {o : Option Value} {b : Nat} {is : List Nat} {arr : Array Value}
theorem run_R (hr : va_Run p l e R s m args below meth c H locs cells slots 0 0 (F0 m pc ls st0) rest (QR o arr) (fun _ => False)) (kk : W p l e R s m args below meth c H locs cells slots Q (F0 m (pc + 3) ls (o.toList ++ rest))) : W p l e R s m args below meth c H locs cells slots Q (F0 m pc ls st0) := by
  intro T hT X
  obtain ⟨v, st₀, t, T', L, h0, X', hL, e1, e2, ⟨hv, hh⟩, st⟩ := hr T hT X
  cases hv
  obtain ⟨t2, a1, b1⟩ := kk T' (by rw [e1, hh, h0]) (Stand.forget X' (fun q h => (hL q h).elim))
  exact ⟨t2, st t2 a1, b1⟩
theorem run_M (hr : va_Run p l e R s m args below meth c H locs cells slots 0 0 (F0 m pc ls st0) rest (QM D o (memA wc) w1 arr) (memA wc)) (hP : va_P D vwCl ws H) (hD : va_D A ws) (hS : va_S A H0 H locs) (hC : is.map (fun i => ws[i]?) = wc.map some) (hn : va_nd is = true) (hw : w1.map Prod.fst = wc.map Prod.fst)
    (kk : ∀ (H1 : Heap) (locs1 : List Loc), va_P D vwCl (rep ws is w1) H1 → va_D A (rep ws is w1) → va_S A H0 H1 locs1 → W p l e R s m args below meth c H1 locs1 cells slots Q (F0 m (pc + 3) ls (o.toList ++ rest))) : W p l e R s m args below meth c H locs cells slots Q (F0 m pc ls st0) := by
  intro T hT X
  obtain ⟨v, st₀, t, T', L, h0, X', hL, e1, e2, ⟨hv, hp1, hz, hk⟩, st⟩ := hr T hT X
  cases hv
  rw [h0] at hz hk
  have hA : ∀ q, memA wc q → A q := fun q ⟨x, hx, hq⟩ => by
    obtain ⟨j, hj⟩ := List.getElem?_of_mem hx
    obtain ⟨i, -, h4⟩ := pick_at hC hj
    rw [← hq]
    exact hD.2 i x h4
  obtain ⟨g1, g2⟩ := rep_join (H1 := t.heap) hP hD hC hn hw hk hp1
  obtain ⟨t2, a1, b1⟩ := kk t.heap (locs ++ L) g1 g2 ⟨Nat.le_trans hS.1 hz, fun q h1 h2 => by rw [hk q (Nat.lt_of_lt_of_le h1 hS.1) (fun z => h2 (hA q z))]; exact hS.2.1 q h1 h2, fun q hq => by
      rcases List.mem_append.mp hq with h | h
      · exact hS.2.2 q h
      · exact hA _ (hL q h)⟩ T' e1 X'
  exact ⟨t2, st t2 a1, b1⟩
/-- a callee's start, out of the caller's world -/
theorem pre_at {av : List Value} (hE : En D cI cZ N s) (hAN : ∀ q, A q → N ≤ q) (hP : va_P D vwCl ws H) (hD : va_D A ws) (hS : va_S A s.heap H locs) (hC : is.map (fun i => ws[i]?) = wc.map some) (hn : va_nd is = true) : PreS s H (PC D cI cZ N av wc) av :=
  ⟨PC.blind, fun U hU hW => ⟨rfl, hE.at hS hAN hU hW, by rw [hU]; exact pick_P hP hC, (hD.sub is hn hC).weaken (fun _ q _ h => hAN q.1 h)⟩⟩
theorem recv_at {ci : Nat} {fs : List Value} {q : vw_C} (hE : En D cI cZ N s) (hP : va_P D vwCl wc H) (hq : vwCl[ci]? = some q) (h0 : wc[0]? = some (b, .inr (ci, fs))) (hC : q.1 = C) : ∃ cell : Cell, H[b]? = some cell ∧ cell.vm.isStatics = false ∧ s.vm.findClass C = some cell.cls := by
  rw [← hC]
  exact va_recv hE.1 hP hq h0
abbrev Fits (rm R : Room) (maxL : Nat) : Prop := rm.frames + 1 ≤ R.frames ∧ 8 + (maxL + 11) + rm.locals ≤ R.locals
abbrev Cls (y : MethodName) (n : Nat) : Prop := y.cls ≠ "java/lang/invoke/MethodHandle" ∧ y.cls ≠ "java/lang/invoke/VarHandle" ∧ (parseMethodDescriptor y.desc).map (fun d => d.parameters.length) = some n
/-- invokevirtual of one of ours, reading -/
theorem kV_R (S : CallFix p m c cc nL s args Ts own) (hM : CR l D cI cZ N y wl rm (.ref b :: As) wc o) (hg : GoodIn Ts (wsV own index C y wl)) (hw : wl = Cond.code y bytes maxL ret :: wl') (hy : y.cls = C) (hd : Cls y n) (hrc : rm.cells = 0) (hrs : rm.slots = 0) (hR : Fits rm R maxL) (hE : En D cI cZ N s) (hAN : ∀ q, A q → N ≤ q) (hP : va_P D vwCl ws H) (hD : va_D A ws) (hS : va_S A s.heap H locs) (is : List Nat) (hC : is.map (fun i => ws[i]?) = wc.map some) (hn : va_nd is = true) {ci : Nat} {fs : List Value} {q : vw_C} (hq : vwCl[ci]? = some q) (hqC : q.1 = C) (h0 : wc[0]? = some (b, .inr (ci, fs))) (hln : As.length = n) (hsz : ls.size = nL) (rest : List Value) (hst : st0 = As.reverse ++ .ref b :: rest) (hcat : (rest.map fun v => v.category).sum ≤ 8) (hdg : decode cc pc = .ok (.invokevirtual index, 3)) (hf : cells ≤ R.cells ∧ slots ≤ R.slots)
    (kk : W p l e R s m args below meth c H locs cells slots Q (F0 m (pc + 3) ls (o.toList ++ rest))) : W p l e R s m args below meth c H locs cells slots Q (F0 m pc ls st0) :=
  run_R (va_runV S hM (cwV n S.2.2.2.2 hg hw hrc hrs ⟨hy, hd⟩ hR) ⟨PC.blind, recv_at hE (pick_P hP hC) hq h0 hqC, (pre_at hE hAN hP hD hS hC hn).2⟩ rfl hln hsz hst (lv_room hcat) hdg hf) kk
theorem kV_M (S : CallFix p m c cc nL s args Ts own) (hM : CM l D cI cZ N y wl rm (.ref b :: As) wc o w1) (hg : GoodIn Ts (wsV own index C y wl)) (hw : wl = Cond.code y bytes maxL ret :: wl') (hy : y.cls = C) (hd : Cls y n) (hrc : rm.cells = 0) (hrs : rm.slots = 0) (hR : Fits rm R maxL) (hE : En D cI cZ N s) (hAN : ∀ q, A q → N ≤ q) (hP : va_P D vwCl ws H) (hD : va_D A ws) (hS : va_S A s.heap H locs) (is : List Nat) (hC : is.map (fun i => ws[i]?) = wc.map some) (hn : va_nd is = true) (hw1 : w1.map Prod.fst = wc.map Prod.fst) {ci : Nat} {fs : List Value} {q : vw_C} (hq : vwCl[ci]? = some q) (hqC : q.1 = C) (h0 : wc[0]? = some (b, .inr (ci, fs))) (hln : As.length = n) (hsz : ls.size = nL) (rest : List Value) (hst : st0 = As.reverse ++ .ref b :: rest) (hcat : (rest.map fun v => v.category).sum ≤ 8) (hdg : decode cc pc = .ok (.invokevirtual index, 3)) (hf : cells ≤ R.cells ∧ slots ≤ R.slots)
    (kk : ∀ (H1 : Heap) (locs1 : List Loc), va_P D vwCl (rep ws is w1) H1 → va_D A (rep ws is w1) → va_S A s.heap H1 locs1 → W p l e R s m args below meth c H1 locs1 cells slots Q (F0 m (pc + 3) ls (o.toList ++ rest))) : W p l e R s m args below meth c H locs cells slots Q (F0 m pc ls st0) :=
  run_M (va_runV S hM (cwV n S.2.2.2.2 hg hw hrc hrs ⟨hy, hd⟩ hR) ⟨PC.blind, recv_at hE (pick_P hP hC) hq h0 hqC, (pre_at hE hAN hP hD hS hC hn).2⟩ rfl hln hsz hst (lv_room hcat) hdg hf) hP hD hS hC hn hw1 kk
/-- invokestatic -/
theorem kS_R (S : CallFix p m c cc nL s args Ts own) (hM : CR l D cI cZ N y wl rm As wc o) (hg : GoodIn Ts (va_wsS own index y wl)) (hw : wl = Cond.code y bytes maxL ret :: wl') (hd : Cls y n) (hrc : rm.cells = 0) (hrs : rm.slots = 0) (hR : Fits rm R maxL) (hE : En D cI cZ N s) (hAN : ∀ q, A q → N ≤ q) (hP : va_P D vwCl ws H) (hD : va_D A ws) (hS : va_S A s.heap H locs) (is : List Nat) (hC : is.map (fun i => ws[i]?) = wc.map some) (hn : va_nd is = true) (hln : As.length = n) (hsz : ls.size = nL) (rest : List Value) (hst : st0 = As.reverse ++ rest) (hcat : (rest.map fun v => v.category).sum ≤ 8) (hdg : decode cc pc = .ok (.invokestatic index, 3)) (hf : cells ≤ R.cells ∧ slots ≤ R.slots)
    (kk : W p l e R s m args below meth c H locs cells slots Q (F0 m (pc + 3) ls (o.toList ++ rest))) : W p l e R s m args below meth c H locs cells slots Q (F0 m pc ls st0) :=
  run_R (va_runS S hM (va_cwS n S.2.2.2.2 hg hw hrc hrs hd hR) (pre_at hE hAN hP hD hS hC hn) rfl hln hsz hst (lv_room hcat) hdg hf) kk
theorem kS_M (S : CallFix p m c cc nL s args Ts own) (hM : CM l D cI cZ N y wl rm As wc o w1) (hg : GoodIn Ts (va_wsS own index y wl)) (hw : wl = Cond.code y bytes maxL ret :: wl') (hd : Cls y n) (hrc : rm.cells = 0) (hrs : rm.slots = 0) (hR : Fits rm R maxL) (hE : En D cI cZ N s) (hAN : ∀ q, A q → N ≤ q) (hP : va_P D vwCl ws H) (hD : va_D A ws) (hS : va_S A s.heap H locs) (is : List Nat) (hC : is.map (fun i => ws[i]?) = wc.map some) (hn : va_nd is = true) (hw1 : w1.map Prod.fst = wc.map Prod.fst) (hln : As.length = n) (hsz : ls.size = nL) (rest : List Value) (hst : st0 = As.reverse ++ rest) (hcat : (rest.map fun v => v.category).sum ≤ 8) (hdg : decode cc pc = .ok (.invokestatic index, 3)) (hf : cells ≤ R.cells ∧ slots ≤ R.slots)
    (kk : ∀ (H1 : Heap) (locs1 : List Loc), va_P D vwCl (rep ws is w1) H1 → va_D A (rep ws is w1) → va_S A s.heap H1 locs1 → W p l e R s m args below meth c H1 locs1 cells slots Q (F0 m (pc + 3) ls (o.toList ++ rest))) : W p l e R s m args below meth c H locs cells slots Q (F0 m pc ls st0) :=
  run_M (va_runS S hM (va_cwS n S.2.2.2.2 hg hw hrc hrs hd hR) (pre_at hE hAN hP hD hS hC hn) rfl hln hsz hst (lv_room hcat) hdg hf) hP hD hS hC hn hw1 kk
/-- invokestatic of a nest mate's private method -/
theorem kN_R (S : CallFix p m c cc nL s args Ts own) (hM : CR l D cI cZ N y wl rm As wc o) (hg : GoodIn Ts wl) (hnw : va_Nw (.methodLinkNest own index y host) s) (hini : Cond.initialized y.cls ∈ Ts) (hstc : Cond.static y ∈ Ts) (hw : wl = Cond.code y bytes maxL ret :: wl') (hd : Cls y n) (hrc : rm.cells = 0) (hrs : rm.slots = 0) (hR : Fits rm R maxL) (hE : En D cI cZ N s) (hAN : ∀ q, A q → N ≤ q) (hP : va_P D vwCl ws H) (hD : va_D A ws) (hS : va_S A s.heap H locs) (is : List Nat) (hC : is.map (fun i => ws[i]?) = wc.map some) (hn : va_nd is = true) (hln : As.length = n) (hsz : ls.size = nL) (rest : List Value) (hst : st0 = As.reverse ++ rest) (hcat : (rest.map fun v => v.category).sum ≤ 8) (hdg : decode cc pc = .ok (.invokestatic index, 3)) (hf : cells ≤ R.cells ∧ slots ≤ R.slots)
    (kk : W p l e R s m args below meth c H locs cells slots Q (F0 m (pc + 3) ls (o.toList ++ rest))) : W p l e R s m args below meth c H locs cells slots Q (F0 m pc ls st0) :=
  run_R (va_runSN S hM ⟨va_cnB n S.2.2.2.2 hg hw hrc hrs hnw (S.2.2.2.2 _ hini) hd hR, S.2.2.2.2 _ hstc, trivial⟩ (pre_at hE hAN hP hD hS hC hn) rfl hln hsz hst (lv_room hcat) hdg hf) kk
/-- a reading contract is one that leaves the world -/
theorem CR.M {w : va_W} (h : CR l D cI cZ N y wl rm As w o) : CM l D cI cZ N y wl rm As w o w := by
  intro p e ha hc hk s m args below hf happ hP hK
  obtain ⟨n, o1, h1, h2, h3, ⟨h4, h5⟩, L, hF, hL⟩ := h p e ha hc hk s m args below hf happ hP hK
  exact ⟨n, o1, h1, h2, h3, ⟨h4, by rw [h5]; exact hP.2.2.1, by rw [h5]; exact Nat.le_refl _, fun q _ _ => by rw [h5]⟩, L, hF, fun q hq => (hL q hq).elim⟩
/-- a method's body, entered -/
theorem CR.of {w : va_W} {av : List Value} (hy : plainName y.cls = true) (hw : wl = Cond.code y cc maxL ret :: wl') (hlen : (lg_sl av).length ≤ maxL)
    (body : ∀ (p : Program) (e : Env) (s : State) (m : MethodId) (below : List Frame) (meth : Method) (c : Code), CallFix p m c cc maxL s av.toArray wl y.cls → meth.sig.returnType = ret → meth.locks = false → En D cI cZ N s → ∀ A : Nat → Prop, (∀ q, A q → N ≤ q) → va_P D vwCl w s.heap → va_D A w → va_S A s.heap s.heap [] → ∀ ls : Array Slot, lv_has ls maxL (lv_args 0 av) →
      W p l e rm s m av.toArray below meth c s.heap [] 0 0 (MQ below (QR o) av.toArray s 0 0 (fun _ => False)) (F0 m 0 ls [])) : CR l D cI cZ N y wl rm av w o := by
  refine Met.ofW (cc := cc) (maxL := maxL) (ret := ret) hy hw ?_
  intro p e s m args below meth c s₁ B hml hv
  obtain ⟨rfl, hE, hP, hD⟩ := hv
  have hl := lv_entry av (n := maxL) hlen
  rw [lg_entry_eq]
  exact body p e s m below meth c ⟨B.exec, B.bytes, hml, findClass_of_methodNamed B.named, atoms_spec (ws := wl) B.pre⟩ B.returns B.notSynchronized hE _ (memA_D hD).2 hP (memA_D hD).1 va_S.rf _ hl
theorem CM.of {w w' : va_W} {av : List Value} (hy : plainName y.cls = true) (hw : wl = Cond.code y cc maxL ret :: wl') (hlen : (lg_sl av).length ≤ maxL)
    (body : ∀ (p : Program) (e : Env) (s : State) (m : MethodId) (below : List Frame) (meth : Method) (c : Code), CallFix p m c cc maxL s av.toArray wl y.cls → meth.sig.returnType = ret → meth.locks = false → En D cI cZ N s → ∀ A : Nat → Prop, (∀ q, A q → N ≤ q) → va_P D vwCl w s.heap → va_D A w → va_S A s.heap s.heap [] → ∀ ls : Array Slot, lv_has ls maxL (lv_args 0 av) →
      W p l e rm s m av.toArray below meth c s.heap [] 0 0 (MQ below (QM D o A w') av.toArray s 0 0 A) (F0 m 0 ls [])) : CM l D cI cZ N y wl rm av w o w' := by
  refine Met.ofW (cc := cc) (maxL := maxL) (ret := ret) hy hw ?_
  intro p e s m args below meth c s₁ B hml hv
  obtain ⟨rfl, hE, hP, hD⟩ := hv
  have hl := lv_entry av (n := maxL) hlen
  rw [lg_entry_eq]
  exact body p e s m below meth c ⟨B.exec, B.bytes, hml, findClass_of_methodNamed B.named, atoms_spec (ws := wl) B.pre⟩ B.returns B.notSynchronized hE _ (memA_D hD).2 hP (memA_D hD).1 va_S.rf _ hl
end CALLS
