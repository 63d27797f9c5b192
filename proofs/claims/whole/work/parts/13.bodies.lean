/-! A method's body, entered: room, arguments and goal under names; the ends given -/
abbrev rmK (f L : Nat) : Room := { frames := f, cells := 0, slots := 0, locals := L }
section BODIES
variable {l : Launch} {cc : ByteArray} {D : va_G} {cI cZ : ClassId} {N maxL : Nat} {wl wl' : List Cond} {y : MethodName} {rm : Room} {av : List Value} {w w' : va_W} {r : Int32}
theorem CR.I (hy : plainName y.cls = true) (hw : wl = Cond.code y cc maxL (some .int) :: wl') (hlen : (lg_sl av).length ≤ maxL)
    (body : ∀ (p : Program) (e : Env) (s : State) (m : MethodId) (args : Array Value) (below : List Frame) (meth : Method) (c : Code) (R : Room) (Q : State → Prop), CallFix p m c cc maxL s args wl y.cls → En D cI cZ N s → ∀ A : Nat → Prop, (∀ q, A q → N ≤ q) → rm.frames ≤ R.frames → rm.locals ≤ R.locals → va_P D vwCl w s.heap → va_D A w → va_S A s.heap s.heap [] →
      (∀ (pc : Nat) (ls : Array Slot) (v : Int32), decode cc pc = .ok (.ireturn, 1) → v = r → W p l e R s m args below meth c s.heap [] 0 0 Q (F0 m pc ls [.int v])) →
      ∀ ls : Array Slot, lv_has ls maxL (lv_args 0 av) → W p l e R s m args below meth c s.heap [] 0 0 Q (F0 m 0 ls [])) : CR l D cI cZ N y wl rm av w (some (.int r)) :=
  CR.of hy hw hlen fun p e s m below meth c S hr hlk hE A hAN hP hD hS ls hl => body p e s m _ below meth c _ _ S hE A hAN (Nat.le_refl _) (Nat.le_refl _) hP hD hS (fun pc ls v hd hv => r_R S hr hlk rfl hv hd) ls hl
theorem CR.Z (hy : plainName y.cls = true) (hw : wl = Cond.code y cc maxL (some .boolean) :: wl') (hlen : (lg_sl av).length ≤ maxL)
    (body : ∀ (p : Program) (e : Env) (s : State) (m : MethodId) (args : Array Value) (below : List Frame) (meth : Method) (c : Code) (R : Room) (Q : State → Prop), CallFix p m c cc maxL s args wl y.cls → En D cI cZ N s → ∀ A : Nat → Prop, (∀ q, A q → N ≤ q) → rm.frames ≤ R.frames → rm.locals ≤ R.locals → va_P D vwCl w s.heap → va_D A w → va_S A s.heap s.heap [] →
      (∀ (pc : Nat) (ls : Array Slot) (v : Int32), decode cc pc = .ok (.ireturn, 1) → v = r → (v = iI 0 ∨ v = iI 1) → W p l e R s m args below meth c s.heap [] 0 0 Q (F0 m pc ls [.int v])) →
      ∀ ls : Array Slot, lv_has ls maxL (lv_args 0 av) → W p l e R s m args below meth c s.heap [] 0 0 Q (F0 m 0 ls [])) : CR l D cI cZ N y wl rm av w (some (.int r)) :=
  CR.of hy hw hlen fun p e s m below meth c S hr hlk hE A hAN hP hD hS ls hl => body p e s m _ below meth c _ _ S hE A hAN (Nat.le_refl _) (Nat.le_refl _) hP hD hS (fun pc ls v hd hv h01 => r_RZ S hr hlk rfl hv h01 hd) ls hl
theorem CM.I (hy : plainName y.cls = true) (hw : wl = Cond.code y cc maxL (some .int) :: wl') (hlen : (lg_sl av).length ≤ maxL)
    (body : ∀ (p : Program) (e : Env) (s : State) (m : MethodId) (args : Array Value) (below : List Frame) (meth : Method) (c : Code) (R : Room) (Q : State → Prop), CallFix p m c cc maxL s args wl y.cls → En D cI cZ N s → ∀ A : Nat → Prop, (∀ q, A q → N ≤ q) → rm.frames ≤ R.frames → rm.locals ≤ R.locals → va_P D vwCl w s.heap → va_D A w → va_S A s.heap s.heap [] →
      (∀ (pc : Nat) (ls : Array Slot) (H : Heap) (locs : List Loc) (v : Int32), decode cc pc = .ok (.ireturn, 1) → v = r → va_P D vwCl w' H → va_S A s.heap H locs → W p l e R s m args below meth c H locs 0 0 Q (F0 m pc ls [.int v])) →
      ∀ ls : Array Slot, lv_has ls maxL (lv_args 0 av) → W p l e R s m args below meth c s.heap [] 0 0 Q (F0 m 0 ls [])) : CM l D cI cZ N y wl rm av w (some (.int r)) w' :=
  CM.of hy hw hlen fun p e s m below meth c S hr hlk hE A hAN hP hD hS ls hl => body p e s m _ below meth c _ _ S hE A hAN (Nat.le_refl _) (Nat.le_refl _) hP hD hS (fun pc ls H locs v hd hv hP hS => r_M S hr hlk hP hS hv hd) ls hl
theorem CM.Z (hy : plainName y.cls = true) (hw : wl = Cond.code y cc maxL (some .boolean) :: wl') (hlen : (lg_sl av).length ≤ maxL)
    (body : ∀ (p : Program) (e : Env) (s : State) (m : MethodId) (args : Array Value) (below : List Frame) (meth : Method) (c : Code) (R : Room) (Q : State → Prop), CallFix p m c cc maxL s args wl y.cls → En D cI cZ N s → ∀ A : Nat → Prop, (∀ q, A q → N ≤ q) → rm.frames ≤ R.frames → rm.locals ≤ R.locals → va_P D vwCl w s.heap → va_D A w → va_S A s.heap s.heap [] →
      (∀ (pc : Nat) (ls : Array Slot) (H : Heap) (locs : List Loc) (v : Int32), decode cc pc = .ok (.ireturn, 1) → v = r → (v = iI 0 ∨ v = iI 1) → va_P D vwCl w' H → va_S A s.heap H locs → W p l e R s m args below meth c H locs 0 0 Q (F0 m pc ls [.int v])) →
      ∀ ls : Array Slot, lv_has ls maxL (lv_args 0 av) → W p l e R s m args below meth c s.heap [] 0 0 Q (F0 m 0 ls [])) : CM l D cI cZ N y wl rm av w (some (.int r)) w' :=
  CM.of hy hw hlen fun p e s m below meth c S hr hlk hE A hAN hP hD hS ls hl => body p e s m _ below meth c _ _ S hE A hAN (Nat.le_refl _) (Nat.le_refl _) hP hD hS (fun pc ls H locs v hd hv h01 hP hS => r_MZ S hr hlk hP hS hv h01 hd) ls hl
theorem CM.V (hy : plainName y.cls = true) (hw : wl = Cond.code y cc maxL none :: wl') (hlen : (lg_sl av).length ≤ maxL)
    (body : ∀ (p : Program) (e : Env) (s : State) (m : MethodId) (args : Array Value) (below : List Frame) (meth : Method) (c : Code) (R : Room) (Q : State → Prop), CallFix p m c cc maxL s args wl y.cls → En D cI cZ N s → ∀ A : Nat → Prop, (∀ q, A q → N ≤ q) → rm.frames ≤ R.frames → rm.locals ≤ R.locals → va_P D vwCl w s.heap → va_D A w → va_S A s.heap s.heap [] →
      (∀ (pc : Nat) (ls : Array Slot) (H : Heap) (locs : List Loc), decode cc pc = .ok (.return_, 1) → va_P D vwCl w' H → va_S A s.heap H locs → W p l e R s m args below meth c H locs 0 0 Q (F0 m pc ls [])) →
      ∀ ls : Array Slot, lv_has ls maxL (lv_args 0 av) → W p l e R s m args below meth c s.heap [] 0 0 Q (F0 m 0 ls [])) : CM l D cI cZ N y wl rm av w none w' :=
  CM.of hy hw hlen fun p e s m below meth c S hr hlk hE A hAN hP hD hS ls hl => body p e s m _ below meth c _ _ S hE A hAN (Nat.le_refl _) (Nat.le_refl _) hP hD hS (fun pc ls H locs hd hP hS => r_MV S hr hlk hP hS hd) ls hl
end BODIES
/-! Library calls, and rows copied -/
section LIBS
variable {p : Program} {l : Launch} {e : Env} {R : Room} {s : State} {m : MethodId} {args : Array Value} {below : List Frame} {meth : Method} {c : Code} {H : Heap} {locs : List Loc} {Q : State → Prop}
variable {cc : ByteArray} {pc : Nat} {ls : Array Slot} {rest : List Value} {D : va_G} {A : Nat → Prop} {a : Nat} {ws : va_W} {cI cZ : ClassId} {N nL index : Nat} {Ts : List Cond} {own : String}
theorem w_min (S : CallFix p m c cc nL s args Ts own) (hsz : ls.size = nL) (h1 : Cond.methodLink own index Lib.Math.min.name ∈ Ts) (h2 : Cond.static Lib.Math.min.name ∈ Ts) (h3 : Cond.initialized "java/lang/Math" ∈ Ts) (h4 : Cond.code Lib.Math.min.name Lib.Math.min.code 2 (some .int) ∈ Ts) (hfr : 1 ≤ R.frames) (hlo : 21 ≤ R.locals) (hcat : (rest.map fun v => v.category).sum ≤ 8) {y z : Int} (hy : -2147483648 ≤ y ∧ y ≤ 2147483647) (hz : -2147483648 ≤ z ∧ z ≤ 2147483647) (hdg : decode cc pc = .ok (.invokestatic index, 3))
    (kk : W p l e R s m args below meth c H locs 0 0 Q (F0 m (pc + 3) ls (.int (iI (if z < y then z else y)) :: rest))) : W p l e R s m args below meth c H locs 0 0 Q (F0 m pc ls (.int (iI z) :: .int (iI y) :: rest)) := by
  refine va_mmin S.1 S.2.1 (S.2.2.1.trans hsz.symm) S.2.2.2.1 (S.2.2.2.2 _ h1) (S.2.2.2.2 _ h2) (S.2.2.2.2 _ h3) (S.2.2.2.2 _ h4) hfr (by omega) (Nat.zero_le _) (Nat.zero_le _) hdg ?_
  have e1 : (if iI z < iI y then iI z else iI y) = iI (if z < y then z else y) := by
    by_cases h : z < y
    · rw [if_pos h, if_pos ((iI_lt hz hy).mpr h)]
    · rw [if_neg h, if_neg (fun g => h ((iI_lt hz hy).mp g))]
  rw [e1]
  exact kk
theorem cpy_vI {f g : Nat → Int} {n : Nat} (k : Nat) (x : Nat) (hk : n ≤ k) : va_cpy (vI f) (vI g) 0 0 k x = vI (fun j => if j < k then f j else g j) x := by
  by_cases h : x < k
  · simp [va_cpy, vI, h]
  · simp [va_cpy, vI, h]
theorem cell_eq {cA : ClassId} {n : Nat} {f g : Nat → Int32} (h : ∀ k, k < n → f k = g k) : vp_cell cA (n, .inl f) = vp_cell cA (n, .inl g) := by
  show arrV cA n (fun j => .int (f j)) = arrV cA n (fun j => .int (g j))
  unfold arrV
  congr 1
  first
    | (congr 1; exact List.map_congr_left (fun a ha => by rw [h a (List.mem_range.mp ha)]))
    | (apply Array.ext (by simp); intro i h1 h2; simp at h1 ⊢; exact h i h1)
/-- the row of a cell under another name, where they agree -/
theorem P_row {ws : va_W} {q0 n : Nat} {f g : Nat → Int32} {cA : ClassId} (hP : va_P D vwCl ws H) (ha : ws[q0]? = some (a, .inl (cA, n, .inl f))) (h : ∀ k, k < n → f k = g k) : va_P D vwCl (ws.set q0 (a, .inl (cA, n, .inl g))) H := by
  intro k x hx
  have hl := (List.getElem?_eq_some_iff.mp ha).1
  by_cases hk : k = q0
  · subst hk
    rw [List.getElem?_set_self hl] at hx
    cases hx
    have h1 := hP k _ ha
    show H[a]? = some (vp_cell cA (n, .inl g))
    rw [← cell_eq h]
    exact h1
  · rw [List.getElem?_set_ne (Ne.symm hk)] at hx
    exact hP k x hx
theorem w_copy (S : CallFix p m c cc nL s args Ts own) (hE : En D cI cZ N s) (hsz : ls.size = nL) (h1 : Cond.methodLink own index arraycopyName ∈ Ts) (h2 : Cond.native arraycopyName ∈ Ts) (h3 : Cond.static arraycopyName ∈ Ts) (h4 : Cond.initialized "java/lang/System" ∈ Ts) (hfr : 1 ≤ R.frames) (hlo : 26 ≤ R.locals) (hcat : (rest.map fun v => v.category).sum ≤ 8) (hP : va_P D vwCl ws H) (hD : va_D A ws) (hS : va_S A s.heap H locs) (q0 q1 : Nat) {a0 n : Nat} {f g : Nat → Int} (ha0 : ws[q0]? = some (a0, .inl (cI, n, .inl (vI f)))) (ha1 : ws[q1]? = some (a, .inl (cI, n, .inl (vI g)))) (hn : n ≤ 100000) {z : Int} (hz : z = (n : Int)) (hdg : decode cc pc = .ok (.invokestatic index, 3))
    (kk : ∀ (H1 : Heap) (locs1 : List Loc), va_P D vwCl (ws.set q1 (a, .inl (cI, n, .inl (vI f)))) H1 → va_D A (ws.set q1 (a, .inl (cI, n, .inl (vI f)))) → va_S A s.heap H1 locs1 → W p l e R s m args below meth c H1 locs1 0 0 Q (F0 m (pc + 3) ls rest)) : W p l e R s m args below meth c H locs 0 0 Q (F0 m pc ls (.int (iI z) :: .int (iI 0) :: .ref a :: .int (iI 0) :: .ref a0 :: rest)) := by
  subst hz
  have e0 : (iI 0).toNatClampNeg = 0 := rfl
  have en : (iI (n : Int)).toNatClampNeg = n := iI_cl (by omega)
  refine va_copyi (tys := TY cI cZ) (ty := .int) S.1 S.2.1 (S.2.2.1.trans hsz.symm) S.2.2.2.1 (S.2.2.2.2 _ h1) (S.2.2.2.2 _ h2) (S.2.2.2.2 _ h3) (S.2.2.2.2 _ h4) hE.1 hP hD hS q0 q1 0 0 ha0 ha1 rfl rfl rfl (by decide) (by decide) (by rw [iI_nI]; exact nI_pos (by omega)) (by rw [e0, en]; omega) (by rw [e0, en]; omega) (fun _ _ => rfl) hfr (by simp [nativeFrameWords]; omega) hdg ?_
  rw [e0, en]
  intro H1 locs1 hP1 hD1 hS1
  have hl := (List.getElem?_eq_some_iff.mp ha1).1
  have hP2 := P_row (g := vI f) (q0 := q1) hP1 (by rw [List.getElem?_set_self hl]) (fun k hk => by simp [va_cpy, hk])
  have hD2 := va_D.set (e := .inl (cI, n, .inl (vI f))) hD1 (p := q1) (by rw [List.getElem?_set_self hl])
  rw [List.set_set] at hP2 hD2
  exact kk H1 locs1 hP2 hD2 hS1
end LIBS
