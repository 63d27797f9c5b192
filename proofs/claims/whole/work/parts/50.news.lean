/-! Constructors: contracts that make cells -/
def QN (D : va_G) (A : Nat → Prop) (P : va_W → Prop) : Array Value → State → Outcome → State → Prop := fun _ st oc t => oc = .returned none ∧ (∃ w', P w' ∧ va_P D vwCl w' t.heap ∧ va_D A w') ∧ va_F A st t
def CN (l : Launch) (D : va_G) (cI cZ : ClassId) (N : Nat) (y : MethodName) (wl : List Cond) (rm : Room) (av : List Value) (w0 : va_W) (P : va_W → Prop) (mc ms : Nat) : Prop := ∀ sz : Nat, Met l y wl rm (fun v U => PC D cI cZ N av w0 v U ∧ U.heap.size = sz) (QN D (va_A w0 sz) P) mc ms (va_A w0 sz)
section NEWS
variable {l : Launch} {cc : ByteArray} {D : va_G} {cI cZ : ClassId} {N maxL mc ms : Nat} {wl wl' : List Cond} {y : MethodName} {rm : Room} {av : List Value} {w : va_W} {P : va_W → Prop}
theorem CN.V (hy : plainName y.cls = true) (hw : wl = Cond.code y cc maxL none :: wl') (hlen : (lg_sl av).length ≤ maxL)
    (body : ∀ (p : Program) (e : Env) (s : State) (m : MethodId) (args : Array Value) (below : List Frame) (meth : Method) (c : Code) (R : Room) (Q : State → Prop), CallFix p m c cc maxL s args wl y.cls → meth.name = y.name → En D cI cZ N s → ∀ A : Nat → Prop, (∀ q, A q → N ≤ q) → (∀ q, s.heap.size ≤ q → A q) → rm.frames ≤ R.frames → rm.locals ≤ R.locals → rm.cells ≤ R.cells → rm.slots ≤ R.slots → va_P D vwCl w s.heap → va_D A w → va_S A s.heap s.heap [] →
      (∀ (pc : Nat) (ls : Array Slot) (H : Heap) (locs : List Loc) (w' : va_W), decode cc pc = .ok (.return_, 1) → P w' → va_P D vwCl w' H → va_D A w' → va_S A s.heap H locs → W p l e R s m args below meth c H locs mc ms Q (F0 m pc ls [])) →
      ∀ ls : Array Slot, lv_has ls maxL (lv_args 0 av) → W p l e R s m args below meth c s.heap [] 0 0 Q (F0 m 0 ls [])) : CN l D cI cZ N y wl rm av w P mc ms := by
  intro sz
  refine Met.ofW (cc := cc) (maxL := maxL) (ret := none) hy hw ?_
  intro p e s m args below meth c s₁ B hml hv
  obtain ⟨⟨rfl, hE, hP, hD⟩, hsz⟩ := hv
  have hl := lv_entry av (n := maxL) hlen
  rw [lg_entry_eq]
  subst hsz
  exact body p e s m _ below meth c _ _ ⟨B.exec, B.bytes, hml, findClass_of_methodNamed B.named, atoms_spec (ws := wl) B.pre⟩ (name_of_methodNamed B.named B.method).1 hE _
    (fun q hq => by
      rcases hq with ⟨k, x, hk⟩ | hq
      · exact hD.2 k _ hk
      · exact Nat.le_trans hE.2.1 hq)
    (fun q hq => Or.inr hq) (Nat.le_refl _) (Nat.le_refl _) (Nat.le_refl _) (Nat.le_refl _) hP hD.self va_S.rf
    (fun pc ls H locs w' hd hp hP1 hD1 hS1 => W.vret B.exec B.bytes B.returns (fun t ht _ => ⟨rfl, ⟨w', hp, by rw [ht]; exact hP1, hD1⟩, hS1.F ht⟩) (fun q h => hS1.2.2 q h) hd B.notSynchronized) _ hl
end NEWS
section NEWC
variable {p : Program} {l : Launch} {e : Env} {R : Room} {s : State} {m : MethodId} {args : Array Value} {below : List Frame} {meth : Method} {c : Code} {H : Heap} {locs : List Loc} {cells slots : Nat} {Q : State → Prop}
variable {cc bytes : ByteArray} {pc : Nat} {ls : Array Slot} {rest st0 As : List Value} {D : va_G} {A : Nat → Prop} {a : Nat} {ws wc wr : va_W} {cI cZ : ClassId} {N nL maxL n index mc ms : Nat} {Ts wl wl' : List Cond} {own C host : String} {y : MethodName} {rm : Room} {b : Nat} {P : va_W → Prop} {arr : Array Value}
theorem w_obj0 (S : CallFix p m c cc nL s args Ts own) (h1 : Cond.methodLink own index objectInit ∈ Ts) (h2 : Cond.instanceMethod objectInit ∈ Ts) (h3 : Cond.code objectInit ⟨#[0xb1]⟩ 1 none ∈ Ts) (hsz : ls.size = nL) (hdg : decode cc pc = .ok (.invokespecial index, 3)) (hfr : 1 ≤ R.frames) (hcat : (rest.map fun v => v.category).sum ≤ 8) (hlo : 20 ≤ R.locals)
    (kk : W p l e R s m args below meth c H locs cells slots Q (F0 m (pc + 3) ls rest)) : W p l e R s m args below meth c H locs cells slots Q (F0 m pc ls (.ref a :: rest)) :=
  W.objInit S.1 S.2.1 S.2.2.2.1 (S.2.2.2.2 _ h1) (S.2.2.2.2 _ h2) (S.2.2.2.2 _ h3) rfl (by rw [S.2.2.1]; exact hsz) rfl hdg hfr (by have := lv_room (m := m) (pc := pc) (ls := ls) (rest := Value.ref a :: rest) hcat; omega) kk
theorem w_newa {at0 : ArrayType} {ty : FieldType} {cA : ClassId} {tk : Nat} (S : CallFix p m c cc nL s args Ts own) (hE : En D cI cZ N s) (hty : newarray.typeOf at0 = ty) (harr : Cond.arrayClass (newarray.typeOf at0) ∈ Ts) (htk : (TY cI cZ)[tk]? = some (cA, ty)) (hpr : ∀ c0 : ClassId, va_RA s c0 ty → s.vm.findClass ("[" ++ ty.toString) = some c0) (hdv : defaultValue ty = .int 0) (hP : va_P D vwCl ws H) (hD : va_D A ws) (hS : va_S A s.heap H locs) (hA : ∀ q, s.heap.size ≤ q → A q) {n : Nat} (hn : n ≤ 100000) (hb4 : n * componentBytes ty ≤ 536870912) {z : Int} (hz : z = (n : Int)) (hcells : cells + 1 ≤ R.cells) (hslots : slots + n ≤ R.slots) (hdg : decode cc pc = .ok (.newarray at0, 2))
    (kk : ∀ (q : Nat) (H1 : Heap), va_P D vwCl (ws ++ [(q, .inl (cA, n, .inl (vI (fun _ => 0))))]) H1 → va_D A (ws ++ [(q, .inl (cA, n, .inl (vI (fun _ => 0))))]) → va_S A s.heap H1 locs → W p l e R s m args below meth c H1 locs (cells + 1) (slots + n) Q (F0 m (pc + 2) ls (.ref q :: rest))) : W p l e R s m args below meth c H locs cells slots Q (F0 m pc ls (.int (iI z) :: rest)) := by
  subst hz
  refine va_newa (tys := TY cI cZ) (ty := ty) S.1 S.2.1 (S.2.2.2.2 _ harr) hty hE.1 hP hD hS hA (n := iI (n : Int)) (N' := n) (a0 := (n, .inl (vI (fun _ => 0)))) (fun c0 => ?_) (by rw [iI_nI]; exact nI_pos (by omega)) (iI_cl (by omega)) hb4 hcells hslots hdg ?_
  · show arrV c0 n (fun j => .int (vI (fun _ => 0) j)) = arrV c0 n (fun _ => defaultValue ty)
    rw [hdv]; rfl
  · intro q c1 H1 hK1 hP1 hD1 hS1
    have e1 := hpr c1 (hK1.2 2 (c1, ty) rfl).2
    have e2 := hpr cA (hE.1.2 tk (cA, ty) htk).2
    have e3 : c1 = cA := Option.some.inj (e1.symm.trans e2)
    subst e3
    exact kk q H1 hP1 hD1 hS1
theorem w_new (S : CallFix p m c cc nL s args Ts own) {T : u_T} {Nf ci : Nat} (hin : ∀ w ∈ u_ws C T Nf, w ∈ Ts) (ty : Nat → FieldType) (hty : ∀ k, k < Nf → parseFieldDescriptor (T k).2.2.1 = some (ty k)) (h1 : Cond.classLink own index C ∈ Ts) (h2 : Cond.instantiable C Nf ∈ Ts) (h3 : Cond.initialized C ∈ Ts) (hE : En D cI cZ N s) (hP : va_P D vwCl ws H) (hD : va_D A ws) (hS : va_S A s.heap H locs) (hA : ∀ q, s.heap.size ≤ q → A q) (hc : vwCl[ci]? = some (C, T, Nf)) {fs : List Value} (hfs : ∀ j, j < Nf → defaultValue (ty j) = vp_V fs j) (hcells : cells + 1 ≤ R.cells) (hslots : slots + Nf ≤ R.slots) (hdg : decode cc pc = .ok (.new index, 3))
    (kk : ∀ (q : Nat) (H1 : Heap), va_P D vwCl (ws ++ [(q, .inr (ci, fs))]) H1 → va_D A (ws ++ [(q, .inr (ci, fs))]) → va_S A s.heap H1 locs → W p l e R s m args below meth c H1 locs (cells + 1) (slots + Nf) Q (F0 m (pc + 3) ls (.ref q :: rest))) : W p l e R s m args below meth c H locs cells slots Q (F0 m pc ls rest) :=
  va_new (tys := TY cI cZ) S.1 S.2.1 S.2.2.2.2 hin ty hty S.2.2.2.1 (S.2.2.2.2 _ h1) (S.2.2.2.2 _ h2) (S.2.2.2.2 _ h3) hE.1 hP hD hS hA hc hfs hcells hslots hdg kk
theorem w_putF (S : CallFix p m c cc nL s args Ts own) {T : u_T} {Nf ci : Nat} (hin : ∀ w ∈ u_ws C T Nf, w ∈ Ts) (ty0 : Nat → FieldType) (hty : ∀ k, k < Nf → parseFieldDescriptor (T k).2.2.1 = some (ty0 k)) (hnm : ∀ a, a < Nf → ∀ b, b < Nf → a ≠ b → (T a).2.1 ≠ (T b).2.1) (hin2 : meth.name = "<init>") (hE : En D cI cZ N s) (hP : va_P D vwCl ws H) (hD : va_D A ws) (hS : va_S A s.heap H locs) (q0 : Nat) {fs : List Value} (he : ws[q0]? = some (a, .inr (ci, fs))) (hc : vwCl[ci]? = some (C, T, Nf)) (k : Nat) (hk : k < Nf) (hl : Cond.fieldLink own index (T k).1 (T k).2.1 (T k).2.2.1 ∈ Ts) (hfin : (T k).2.2.2 = true) (hdecl : (T k).1 = own) {r : Nat} (hd : (∃ x, ty0 k = .object x) ∨ ∃ x, ty0 k = .array x) (hln : k < fs.length) (hdg : decode cc pc = .ok (.putfield index, 3)) (kk : ∀ (H1 : Heap) (locs1 : List Loc), va_P D vwCl (ws.set q0 (a, .inr (ci, fs.set k (.ref r)))) H1 → va_D A (ws.set q0 (a, .inr (ci, fs.set k (.ref r)))) → va_S A s.heap H1 locs1 → W p l e R s m args below meth c H1 locs1 cells slots Q (F0 m (pc + 3) ls rest)) : W p l e R s m args below meth c H locs cells slots Q (F0 m pc ls (.ref r :: .ref a :: rest)) := by
  rcases hd with ⟨x, hx⟩ | ⟨x, hx⟩
  · exact va_putF (tys := TY cI cZ) (ty := .object x) S.1 S.2.1 S.2.2.2.2 hin ty0 hty hnm S.2.2.2.1 hE.1 hP hD hS q0 he hc k hk (S.2.2.2.2 _ hl) (fun _ h => h) hfin hin2 hdecl (by rw [hty k hk, hx]) rfl rfl hln hdg kk
  · exact va_putF (tys := TY cI cZ) (ty := .array x) S.1 S.2.1 S.2.2.2.2 hin ty0 hty hnm S.2.2.2.1 hE.1 hP hD hS q0 he hc k hk (S.2.2.2.2 _ hl) (fun _ h => h) hfin hin2 hdecl (by rw [hty k hk, hx]) rfl rfl hln hdg kk
theorem run_N (hr : va_Run p l e R s m args below meth c H locs cells slots mc ms (F0 m pc ls st0) rest (QN D (va_A wc H.size) P arr) (va_A wc H.size)) (hP : va_P D vwCl ws H) (hD : va_D A ws) (hS : va_S A s.heap H locs) (hA : ∀ q, s.heap.size ≤ q → A q) (isC isR : List Nat) (hC : isC.map (fun i => ws[i]?) = wc.map some) (hR : isR.map (fun i => ws[i]?) = wr.map some) (hn : va_nd isR = true) (hdis : ∀ i ∈ isR, i ∉ isC)
    (kk : ∀ (w1 : va_W) (H1 : Heap) (locs1 : List Loc), P w1 → va_P D vwCl (wr ++ w1) H1 → va_D A (wr ++ w1) → va_S A s.heap H1 locs1 → W p l e R s m args below meth c H1 locs1 (cells + mc) (slots + ms) Q (F0 m (pc + 3) ls rest)) : W p l e R s m args below meth c H locs cells slots Q (F0 m pc ls st0) := by
  intro T hT X
  obtain ⟨v, st₀, t, T', L, h0, X', hL, e1, e2, ⟨hv, ⟨w1, hp, hP1, hD1⟩, hz, hk⟩, st⟩ := hr T hT X
  cases hv
  rw [h0] at hz hk
  have hF := va_free hD hS hA isC hC
  obtain ⟨g1, g2⟩ := va_join (H1 := t.heap) hP hD isC isR hC hR hn hdis hk hF hP1 hD1
  obtain ⟨t2, a1, b1⟩ := kk w1 t.heap (locs ++ L) hp g1 g2 ⟨Nat.le_trans hS.1 hz, fun q h1 h2 => by rw [hk q (Nat.lt_of_lt_of_le h1 hS.1) (fun z => h2 (hF q z))]; exact hS.2.1 q h1 h2, fun q hq => by
      rcases List.mem_append.mp hq with h | h
      · exact hS.2.2 q h
      · exact hF _ (hL q h)⟩ T' e1 X'
  exact ⟨t2, st t2 a1, b1⟩
theorem preN_at {av : List Value} {is : List Nat} (hE : En D cI cZ N s) (hAN : ∀ q, A q → N ≤ q) (hP : va_P D vwCl ws H) (hD : va_D A ws) (hS : va_S A s.heap H locs) (hC : is.map (fun i => ws[i]?) = wc.map some) (hn : va_nd is = true) : PreS s H (fun v U => PC D cI cZ N av wc v U ∧ U.heap.size = H.size) av :=
  ⟨fun a U g mk h => ⟨PC.blind a U g mk h.1, h.2⟩, fun U hU hW => ⟨(pre_at hE hAN hP hD hS hC hn).2 U hU hW, by rw [hU]⟩⟩
/-- invokespecial <init> of a nest mate's private constructor -/
theorem kI_N (S : CallFix p m c cc nL s args Ts own) (hM : CN l D cI cZ N y wl rm (.ref b :: As) wc P mc ms) (hg : GoodIn Ts wl) (hnw : va_Nw (.methodLinkNest own index y host) s) (hini : Cond.initialized y.cls ∈ Ts) (hins : Cond.instanceMethod y ∈ Ts) (hy1 : y.name = "<init>") (hw : wl = Cond.code y bytes maxL none :: wl') (hd : Cls y n) (hrc : rm.cells = mc) (hrs : rm.slots = ms) (hR : Fits rm R maxL) (hE : En D cI cZ N s) (hAN : ∀ q, A q → N ≤ q) (hA : ∀ q, s.heap.size ≤ q → A q) (hP : va_P D vwCl ws H) (hD : va_D A ws) (hS : va_S A s.heap H locs) (isC isR : List Nat) (hC : isC.map (fun i => ws[i]?) = wc.map some) (hnC : va_nd isC = true) (hRr : isR.map (fun i => ws[i]?) = wr.map some) (hn : va_nd isR = true) (hdis : ∀ i ∈ isR, i ∉ isC) (hln : As.length = n) (hsz : ls.size = nL) (rest : List Value) (hst : st0 = As.reverse ++ .ref b :: rest) (hcat : (rest.map fun v => v.category).sum ≤ 8) (hdg : decode cc pc = .ok (.invokespecial index, 3)) (hf : cells + mc ≤ R.cells ∧ slots + ms ≤ R.slots)
    (kk : ∀ (w1 : va_W) (H1 : Heap) (locs1 : List Loc), P w1 → va_P D vwCl (wr ++ w1) H1 → va_D A (wr ++ w1) → va_S A s.heap H1 locs1 → W p l e R s m args below meth c H1 locs1 (cells + mc) (slots + ms) Q (F0 m (pc + 3) ls rest)) : W p l e R s m args below meth c H locs cells slots Q (F0 m pc ls st0) :=
  run_N (va_runIN S (hM H.size) ⟨va_cnB n S.2.2.2.2 hg hw hrc hrs hnw (S.2.2.2.2 _ hini) hd hR, hy1, S.2.2.2.2 _ hins⟩ (preN_at hE hAN hP hD hS hC hnC) rfl hln hsz hst (lv_room hcat) hdg hf) hP hD hS hA isC isR hC hRr hn hdis kk
/-- invokespecial <init> of a public constructor -/
theorem kJ_N (S : CallFix p m c cc nL s args Ts own) (hM : CN l D cI cZ N y wl rm (.ref b :: As) wc P mc ms) (hg : GoodIn Ts wl) (hl : Cond.methodLink own index y ∈ Ts) (hini : Cond.initialized y.cls ∈ Ts) (hins : Cond.instanceMethod y ∈ Ts) (hy1 : y.name = "<init>") (hw : wl = Cond.code y bytes maxL none :: wl') (hd : Cls y n) (hrc : rm.cells = mc) (hrs : rm.slots = ms) (hR : Fits rm R maxL) (hE : En D cI cZ N s) (hAN : ∀ q, A q → N ≤ q) (hA : ∀ q, s.heap.size ≤ q → A q) (hP : va_P D vwCl ws H) (hD : va_D A ws) (hS : va_S A s.heap H locs) (isC isR : List Nat) (hC : isC.map (fun i => ws[i]?) = wc.map some) (hnC : va_nd isC = true) (hRr : isR.map (fun i => ws[i]?) = wr.map some) (hn : va_nd isR = true) (hdis : ∀ i ∈ isR, i ∉ isC) (hln : As.length = n) (hsz : ls.size = nL) (rest : List Value) (hst : st0 = As.reverse ++ .ref b :: rest) (hcat : (rest.map fun v => v.category).sum ≤ 8) (hdg : decode cc pc = .ok (.invokespecial index, 3)) (hf : cells + mc ≤ R.cells ∧ slots + ms ≤ R.slots)
    (kk : ∀ (w1 : va_W) (H1 : Heap) (locs1 : List Loc), P w1 → va_P D vwCl (wr ++ w1) H1 → va_D A (wr ++ w1) → va_S A s.heap H1 locs1 → W p l e R s m args below meth c H1 locs1 (cells + mc) (slots + ms) Q (F0 m (pc + 3) ls rest)) : W p l e R s m args below meth c H locs cells slots Q (F0 m pc ls st0) :=
  run_N (va_runI S (hM H.size) (cwI n S.2.2.2.2 hg hw hrc hrs (S.2.2.2.2 _ hini) (S.2.2.2.2 _ hl) (S.2.2.2.2 _ hins) hy1 hd hR) (preN_at hE hAN hP hD hS hC hnC) rfl hln hsz hst (lv_room hcat) hdg hf) hP hD hS hA isC isR hC hRr hn hdis kk
end NEWC
abbrev rmN (f L c s : Nat) : Room := { frames := f, cells := c, slots := s, locals := L }
