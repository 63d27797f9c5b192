/-! Contracts beside other cells; the two worlds of the law -/
section FRAMES
variable {l : Launch} {D : va_G} {cI cZ : ClassId} {N : Nat} {y : MethodName} {wl : List Cond} {rm : Room} {av : List Value} {o : Option Value} {w w' r : va_W}
theorem memA_left {q : Nat} (h : memA w q) : memA (w ++ r) q := by
  obtain ⟨x, hx, e⟩ := h
  exact ⟨x, List.mem_append_left _ hx, e⟩
theorem CM.app (h : CM l D cI cZ N y wl rm av w o w') : CM l D cI cZ N y wl rm av (w ++ r) o (w' ++ r) := by
  intro p e ha hc hk s m args below hf happ hP hK
  obtain ⟨hv, hE, hP0, hD0⟩ := hP
  have inl : ∀ (k : Nat) (x : Nat × va_E), w[k]? = some x → (w ++ r)[k]? = some x := fun k x hx => by
    rw [List.getElem?_append_left (List.getElem?_eq_some_iff.mp hx).1]; exact hx
  have inr : ∀ (k : Nat) (x : Nat × va_E), r[k]? = some x → (w ++ r)[w.length + k]? = some x := fun k x hx => by
    rw [List.getElem?_append_right (Nat.le_add_right _ _), Nat.add_sub_cancel_left]; exact hx
  obtain ⟨n, o1, h1, h2, h3, ⟨h4, h5, h6⟩, L, hF, hL⟩ := h p e ha hc hk s m args below hf happ ⟨hv, hE, fun k x hx => hP0 k x (inl k x hx), fun i j a b hi hj hab => hD0.1 i j a b (inl i a hi) (inl j b hj) hab, fun k x hx => hD0.2 k x (inl k x hx)⟩ hK
  refine ⟨n, o1, h1, h2, h3, ⟨h4, va_P.app h5 (fun k x hx => ?_), h6.1, fun q hq hnq => h6.2 q hq (fun z => hnq (memA_left z))⟩, L, hF, fun q hq => memA_left (hL q hq)⟩
  have hx0 := inr k x hx
  have hat := hP0 _ x hx0
  refine hat.kept (h6.2 x.1 hat.lt (fun ⟨z, hz, e1⟩ => ?_))
  obtain ⟨i, hi⟩ := List.getElem?_of_mem hz
  have := hD0.1 i (w.length + k) z x (inl i z hi) hx0 e1
  have := (List.getElem?_eq_some_iff.mp hi).1
  omega
theorem CM.reix {ws ws' vs vs' : va_W} (h : CM l D cI cZ N y wl rm av ws o ws') (js is : List Nat) (hj : js.map (fun i => vs[i]?) = ws.map some) (hn : va_nd js = true) (hi : is.map (fun i => ws'[i]?) = vs'.map some) : CM l D cI cZ N y wl rm av vs o vs' := by
  intro p e ha hc hk s m args below hf happ hP hK
  obtain ⟨hv, hE, hP0, hD0⟩ := hP
  have hsub : ∀ q, memA ws q → memA vs q := fun q ⟨x, hx, e1⟩ => by
    obtain ⟨i, hi⟩ := List.getElem?_of_mem hx
    obtain ⟨k, -, h4⟩ := pick_at hj hi
    exact ⟨x, List.mem_of_getElem? h4, e1⟩
  obtain ⟨n, o1, h1, h2, h3, ⟨h4, h5, h6⟩, L, hF, hL⟩ := h p e ha hc hk s m args below hf happ ⟨hv, hE, pick_P hP0 hj, hD0.sub js hn hj⟩ hK
  exact ⟨n, o1, h1, h2, h3, ⟨h4, pick_P h5 hi, h6.1, fun q hq hnq => h6.2 q hq (fun z => hnq (hsub q z))⟩, L, hF, fun q hq => hsub _ (hL q hq)⟩
theorem va_D.comm {A : Nat → Prop} (h : va_D A (w ++ r)) : va_D A (r ++ w) := by
  have key : ∀ (k : Nat) (x : Nat × va_E), (r ++ w)[k]? = some x → (k < r.length ∧ (w ++ r)[w.length + k]? = some x) ∨ (r.length ≤ k ∧ k - r.length < w.length ∧ (w ++ r)[k - r.length]? = some x) := by
    intro k x hx
    by_cases hl : k < r.length
    · rw [List.getElem?_append_left hl] at hx
      refine Or.inl ⟨hl, ?_⟩
      rw [List.getElem?_append_right (Nat.le_add_right _ _), Nat.add_sub_cancel_left]; exact hx
    · rw [List.getElem?_append_right (by omega)] at hx
      have h2 := (List.getElem?_eq_some_iff.mp hx).1
      refine Or.inr ⟨by omega, h2, ?_⟩
      rw [List.getElem?_append_left h2]; exact hx
  refine ⟨fun i j a b hi hj hab => ?_, fun k x hx => ?_⟩
  · rcases key i a hi with ⟨g1, g2⟩ | ⟨g1, g2, g3⟩ <;> rcases key j b hj with ⟨g4, g5⟩ | ⟨g4, g5, g6⟩
    · have := h.1 _ _ a b g2 g5 hab; omega
    · have := h.1 _ _ a b g2 g6 hab; omega
    · have := h.1 _ _ a b g3 g5 hab; omega
    · have := h.1 _ _ a b g3 g6 hab; omega
  · rcases key k x hx with ⟨-, g⟩ | ⟨-, -, g⟩
    · exact h.2 _ x g
    · exact h.2 _ x g
theorem va_D.adr {A : Nat → Prop} (h : va_D A w) (hw : w'.map Prod.fst = w.map Prod.fst) : va_D A w' := by
  have key : ∀ (k : Nat) (x : Nat × va_E), w'[k]? = some x → ∃ z : Nat × va_E, w[k]? = some z ∧ z.1 = x.1 := by
    intro k x hx
    have h1 : (w'.map Prod.fst)[k]? = some x.1 := by rw [List.getElem?_map, hx]; rfl
    rw [hw, List.getElem?_map] at h1
    cases hz : w[k]? with
    | none => rw [hz] at h1; cases h1
    | some z => rw [hz] at h1; exact ⟨z, rfl, Option.some.inj h1⟩
  refine ⟨fun i j a b hi hj hab => ?_, fun k x hx => ?_⟩
  · obtain ⟨a0, g1, e1⟩ := key i a hi
    obtain ⟨b0, g2, e2⟩ := key j b hj
    exact h.1 i j a0 b0 g1 g2 (e1.trans (hab.trans e2.symm))
  · obtain ⟨z, g1, e1⟩ := key k x hx
    rw [← e1]; exact h.2 k z g1
end FRAMES
section BLK
variable {p : Program} {l : Launch} {e : Env} {R : Room} {s : State} {m : MethodId} {args : Array Value} {below : List Frame} {meth : Method} {c : Code} {H : Heap} {locs : List Loc} {cells slots : Nat} {Q : State → Prop}
variable {cc bytes : ByteArray} {pc : Nat} {ls : Array Slot} {rest st0 As : List Value} {D : va_G} {A : Nat → Prop} {X X' M : va_W} {cI cZ : ClassId} {N nL maxL n index : Nat} {Ts wl wl' : List Cond} {own C : String} {y : MethodName} {ret : Option FieldType} {rm : Room} {r : Int32} {b : Nat}
/-- the law's call of one of the two, the other one's cells standing by -/
theorem kB (S : CallFix p m c cc nL s args Ts own) (hM : CM l D cI cZ N y wl rm (.ref b :: As) X (some (.int r)) X') (hg : GoodIn Ts (wsV own index C y wl)) (hw : wl = Cond.code y bytes maxL ret :: wl') (hy : y.cls = C) (hd : Cls y n) (hrc : rm.cells = 0) (hrs : rm.slots = 0) (hR : Fits rm R maxL) (hE : En D cI cZ N s) (hAN : ∀ q, A q → N ≤ q) (hX : va_P D vwCl X H) (hMM : va_P D vwCl M H) (hD : va_D A (X ++ M)) (hS : va_S A s.heap H locs) (hadr : X'.map Prod.fst = X.map Prod.fst) {ci : Nat} {fs : List Value} {q : vw_C} (hq : vwCl[ci]? = some q) (hqC : q.1 = C) (h0 : X[0]? = some (b, .inr (ci, fs))) (hln : As.length = n) (hsz : ls.size = nL) (rest : List Value) (hst : st0 = As.reverse ++ .ref b :: rest) (hcat : (rest.map fun v => v.category).sum ≤ 8) (hdg : decode cc pc = .ok (.invokevirtual index, 3)) (hf : cells ≤ R.cells ∧ slots ≤ R.slots)
    (kk : ∀ (H1 : Heap) (locs1 : List Loc), va_P D vwCl X' H1 → va_P D vwCl M H1 → va_D A (X' ++ M) → va_S A s.heap H1 locs1 → W p l e R s m args below meth c H1 locs1 cells slots Q (F0 m (pc + 3) ls (.int r :: rest))) : W p l e R s m args below meth c H locs cells slots Q (F0 m pc ls st0) := by
  have inl : ∀ (k : Nat) (x : Nat × va_E), X[k]? = some x → (X ++ M)[k]? = some x := fun k x hx => by
    rw [List.getElem?_append_left (List.getElem?_eq_some_iff.mp hx).1]; exact hx
  have inr : ∀ (k : Nat) (x : Nat × va_E), M[k]? = some x → (X ++ M)[X.length + k]? = some x := fun k x hx => by
    rw [List.getElem?_append_right (Nat.le_add_right _ _), Nat.add_sub_cancel_left]; exact hx
  have hDX : va_D A X := ⟨fun i j a b hi hj hab => hD.1 i j a b (inl i a hi) (inl j b hj) hab, fun k x hx => hD.2 k x (inl k x hx)⟩
  have hDX' : va_D A X' := hDX.adr hadr
  have hmA : ∀ q, memA X q → A q := fun q ⟨x, hx, e1⟩ => by
    obtain ⟨i, hi⟩ := List.getElem?_of_mem hx
    rw [← e1]; exact hDX.2 i x hi
  have hrun := va_runV (rest := rest) (H := H) (locs := locs) (cells := cells) (slots := slots) (g := F0 m pc ls st0) (R := R) (e := e) (below := below) (meth := meth) S hM (cwV n S.2.2.2.2 hg hw hrc hrs ⟨hy, hd⟩ hR) ⟨PC.blind, recv_at hE hX hq h0 hqC, fun U hU hW => ⟨rfl, hE.at hS hAN hU hW, by rw [hU]; exact hX, hDX.weaken (fun _ q _ h => hAN q.1 h)⟩⟩ rfl hln hsz hst (lv_room hcat) hdg hf
  intro T hT X0
  obtain ⟨v, st₀, t, T', L, z0, X1, hL, e1, e2, ⟨hv, hp1, hz, hk⟩, st⟩ := hrun T hT X0
  cases hv
  rw [z0] at hz hk
  have hM1 : va_P D vwCl M t.heap := fun k x hx => by
    have hat := hMM k x hx
    refine hat.kept (hk x.1 hat.lt (fun ⟨z, hz1, e3⟩ => ?_))
    obtain ⟨i, hi⟩ := List.getElem?_of_mem hz1
    have h7 := hD.1 i (X.length + k) z x (inl i z hi) (inr k x hx) e3
    have h8 := (List.getElem?_eq_some_iff.mp hi).1
    omega
  have hD1 : va_D A (X' ++ M) := hD.adr (by rw [List.map_append, List.map_append, hadr])
  obtain ⟨t2, a1, b1⟩ := kk t.heap (locs ++ L) hp1 hM1 hD1 ⟨Nat.le_trans hS.1 hz, fun q h1 h2 => by rw [hk q (Nat.lt_of_lt_of_le h1 hS.1) (fun z => h2 (hmA q z))]; exact hS.2.1 q h1 h2, fun q hq => by
      rcases List.mem_append.mp hq with h | h
      · exact hS.2.2 q h
      · exact hmA _ (hL q h)⟩ T' e1 X1
  exact ⟨t2, st t2 a1, b1⟩
end BLK
/-- a world's numbers: mn tA sA kA ck nb cn sm mo re -/
abbrev WT : Type := Nat × Int × Int × Int × (Nat → Int) × (Nat → Int) × (Nat → Int) × (Nat → Int) × (Nat → Int) × (Nat → Int)
abbrev WL (cI : ClassId) (a : Nat → Nat) (v : WT) : va_W := [(a 0, .inr (3, [.int (iI ((v.1 : Nat) : Int)), .int (iI v.2.1), .int (iI v.2.2.1), .int (iI v.2.2.2.1), .ref (a 1), .ref (a 2), .ref (a 4), .ref (a 7)])), (a 1, .inl (cI, 5, .inl (vI v.2.2.2.2.1))), (a 2, .inr (1, [.ref (a 3)])), (a 3, .inl (cI, 24, .inl (vI v.2.2.2.2.2.1))), (a 4, .inr (2, [.ref (a 5), .ref (a 6)])), (a 5, .inl (cI, 1000, .inl (vI v.2.2.2.2.2.2.1))), (a 6, .inl (cI, 1000, .inl (vI v.2.2.2.2.2.2.2.1))), (a 7, .inr (0, [.ref (a 8), .ref (a 9)])), (a 8, .inl (cI, 25, .inl (vI v.2.2.2.2.2.2.2.2.1))), (a 9, .inl (cI, 5, .inl (vI v.2.2.2.2.2.2.2.2.2)))]
abbrev XL (cI : ClassId) (o : Nat) (a a2 a3 : Nat → Nat) (ik : Int) (v v2 v3 : WT) : va_W := ((o, .inr (4, [.ref (a 0), .ref (a2 0), .ref (a3 0), .int (iI ik)])) :: WL cI a v) ++ (WL cI a2 v2 ++ WL cI a3 v3)
abbrev stW (v : WT) (hi lo ha : Nat → Int) : Nat → Int := stF ((v.1 : Nat) : Int) v.2.1 v.2.2.1 v.2.2.2.1 v.2.2.2.2.2.1 v.2.2.2.2.1 hi lo ha v.2.2.2.2.2.2.1 v.2.2.2.2.2.2.2.1
abbrev ML (cI cZ : ClassId) (q qs qi qk ql : Nat) (st im kp le : Nat → Int) : va_W := [(q, .inr (5, [.ref qs, .ref qi, .ref qk, .ref ql])), (qs, .inl (cI, 2108, .inl (vI st))), (qi, .inl (cI, 4216, .inl (vI im))), (qk, .inl (cZ, 2, .inl (vI kp))), (ql, .inl (cI, 25, .inl (vI le)))]
abbrev GoodW (v : WT) (hi lo ha : Nat → Int) : Prop := Good v.1 v.2.1 v.2.2.1 v.2.2.2.1 v.2.2.2.2.1 v.2.2.2.2.2.1 v.2.2.2.2.2.2.1 v.2.2.2.2.2.2.2.1 v.2.2.2.2.2.2.2.2.1 hi lo ha
def ImOK (v : WT) (iA : Nat → Int) : Prop := ∃ hi lo ha : Nat → Int, iA = stW v hi lo ha ∧ GoodW v hi lo ha
/-- class and reference stand side by side -/
def StOK (cI cZ : ClassId) (o q : Nat) (X M : va_W) : Prop := ∃ (a a2 a3 : Nat → Nat) (v v2 v3 : WT) (hi lo ha le iA iB : Nat → Int) (b0 b1 : Int) (qs qi qk ql : Nat), X = XL cI o a a2 a3 (b0 + 2 * b1) v v2 v3 ∧ M = ML cI cZ q qs qi qk ql (stW v hi lo ha) (imF iA iB) (kpF b0 b1) le ∧ GoodW v hi lo ha ∧ (b0 = 0 ∨ b0 = 1) ∧ (b1 = 0 ∨ b1 = 1) ∧ (b0 = 1 → ImOK v2 iA) ∧ (b1 = 1 → ImOK v3 iB)
/-- both answer alike and go on side by side -/
def Sim (l : Launch) (D : va_G) (cI cZ : ClassId) (N o q : Nat) (yx : MethodName) (wx : List Cond) (rx : Room) (ym : MethodName) (wm : List Cond) (rm : Room) (as : List Value) (X M : va_W) : Prop := ∃ (r : Int32) (X' M' : va_W), CM l D cI cZ N yx wx rx (.ref o :: as) X (some (.int r)) X' ∧ CM l D cI cZ N ym wm rm (.ref q :: as) M (some (.int r)) M' ∧ StOK cI cZ o q X' M' ∧ X'.map Prod.fst = X.map Prod.fst ∧ M'.map Prod.fst = M.map Prod.fst
