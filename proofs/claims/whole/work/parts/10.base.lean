/-! Numbers: every int is iI of an Int; an array of ints is vI of a function to Int -/
def iI (z : Int) : Int32 := Int32.ofInt z
def vI (f : Nat → Int) : Nat → Int32 := fun j => iI (f j)
def updI (f : Nat → Int) (k : Nat) (v : Int) : Nat → Int := fun j => if j = k then v else f j
theorem updI_s {f : Nat → Int} {k : Nat} {v : Int} : updI f k v k = v := if_pos rfl
theorem updI_n {f : Nat → Int} {k j : Nat} {v : Int} (h : j ≠ k) : updI f k v j = f j := if_neg h
theorem iI_nI (n : Nat) : iI (n : Int) = nI n := Int32.ofInt_eq_ofNat
theorem iI_add (a b : Int) : iI a + iI b = iI (a + b) := (Int32.ofInt_add a b).symm
theorem iI_sub (a b : Int) : iI a - iI b = iI (a - b) := (Int32.ofInt_sub a b).symm
theorem iI_mul (a b : Int) : iI a * iI b = iI (a * b) := (Int32.ofInt_mul a b).symm
theorem iI_neg (a : Int) : -iI a = iI (-a) := (Int32.ofInt_neg a).symm
theorem iI_toInt {z : Int} (h : -2147483648 ≤ z ∧ z ≤ 2147483647) : (iI z).toInt = z := Int32.toInt_ofInt_of_le (by omega) (by omega)
theorem iI_of (x : Int32) : iI x.toInt = x := Int32.ofInt_toInt x
theorem iI_rng (x : Int32) : -2147483648 ≤ x.toInt ∧ x.toInt ≤ 2147483647 := by
  have h1 := Int32.toInt_lt x
  have h2 := Int32.le_toInt x
  omega
theorem iI_le {a b : Int} (ha : -2147483648 ≤ a ∧ a ≤ 2147483647) (hb : -2147483648 ≤ b ∧ b ≤ 2147483647) : iI a ≤ iI b ↔ a ≤ b := by
  rw [Int32.le_iff_toInt_le, iI_toInt ha, iI_toInt hb]
theorem iI_lt {a b : Int} (ha : -2147483648 ≤ a ∧ a ≤ 2147483647) (hb : -2147483648 ≤ b ∧ b ≤ 2147483647) : iI a < iI b ↔ a < b := by
  rw [Int32.lt_iff_toInt_lt, iI_toInt ha, iI_toInt hb]
theorem iI_eq {a b : Int} (ha : -2147483648 ≤ a ∧ a ≤ 2147483647) (hb : -2147483648 ≤ b ∧ b ≤ 2147483647) : iI a = iI b ↔ a = b := by
  rw [← Int32.toInt_inj, iI_toInt ha, iI_toInt hb]
theorem iI_0 : (0 : Int32) = iI 0 := rfl
theorem iI_div {a b : Int} (ha : -2147483648 ≤ a ∧ a ≤ 2147483647) (hb : 0 < b ∧ b ≤ 2147483647) : iI a / iI b = iI (a.tdiv b) := by
  have h1 : (iI b).toInt = b := iI_toInt (by omega)
  have hne : iI b ≠ -1 := fun h => by
    have h2 : (iI b).toInt = (-1 : Int32).toInt := by rw [h]
    rw [h1] at h2
    have h3 : (-1 : Int32).toInt = -1 := by decide
    omega
  have h4 := Int32.toInt_div_of_ne_right (iI a) (iI b) hne
  rw [iI_toInt ha, h1] at h4
  rw [← iI_of (iI a / iI b), h4]
theorem iI_rem {a b : Int} (ha : -2147483648 ≤ a ∧ a ≤ 2147483647) (hb : 0 < b ∧ b ≤ 2147483647) : iI a - iI a / iI b * iI b = iI (a.tmod b) := by
  rw [iI_div ha hb, iI_mul, iI_sub, Int.tmod_def, Int.mul_comm]
theorem upd_vI (f : Nat → Int) (k : Nat) (v : Int) : upd (vI f) k (iI v) = vI (updI f k v) := by
  funext j
  by_cases h : j = k
  · simp [upd, vI, updI, h]
  · simp [upd, vI, updI, h]
theorem iI_cl {k : Nat} (h : k ≤ 2147483647) : (iI (k : Int)).toNatClampNeg = k := by
  rw [iI_nI]; exact nI_clamp (by omega)
theorem iI_in {k n : Nat} (h : k < n) (hn : n ≤ 2147483647) : vp_in (iI (k : Int)) n := by
  rw [iI_nI]; exact vp_in_nI h (by omega)
/-! The surroundings: classes, array classes, nest words, the three static rows -/
abbrev TY (cI cZ : ClassId) : List (ClassId × FieldType) := [(cI, .int), (cZ, .boolean)]
def Nw (U : State) : Prop := va_Nw (.methodLinkNest RX3 76 yX4_within "PathSounder") U ∧ va_Nw (.methodLinkNest RX3 80 yX4_quotient "PathSounder") U ∧ va_Nw (.methodLinkNest RX1 28 yX4_leftOver "PathSounder") U ∧ va_Nw (.methodLinkNest RX4 11 yX3_init "PathSounder") U ∧ va_Nw (.methodLinkNest RX3 30 yX1_init "PathSounder") U ∧ va_Nw (.methodLinkNest RX3 37 yX2_init "PathSounder") U ∧ va_Nw (.methodLinkNest RX3 44 yX0_init "PathSounder") U ∧ va_Nw (.fieldLinkNest RX1 15 "PathSounder" "LINK_AT_FIRST" "[I" "PathSounder") U
theorem Nw.warm {s U : State} (hW : s.WarmedH U.vm) (h : Nw s) : Nw U := by
  obtain ⟨h1, h2, h3, h4, h5, h6, h7, h8⟩ := h
  exact ⟨h1.warmM hW, h2.warmM hW, h3.warmM hW, h4.warmM hW, h5.warmM hW, h6.warmM hW, h7.warmM hW, h8.warmF hW⟩
theorem Nw.same {u U : State} (h : u.vm = U.vm) (hz : Nw u) : Nw U := by
  obtain ⟨h1, h2, h3, h4, h5, h6, h7, h8⟩ := hz
  exact ⟨h1.same rfl h, h2.same rfl h, h3.same rfl h, h4.same rfl h, h5.same rfl h, h6.same rfl h, h7.same rfl h, h8.same rfl h⟩
def lnLeast (j : Nat) : Int := ([1, 0, 1, 0, 0, 0] : List Int).getD j 0
def lnMost (j : Nat) : Int := ([20, 9, 20, 9, 9, 9] : List Int).getD j 0
def lnFirst (j : Nat) : Int := ([5, 0, 5, 0, 0, 0] : List Int).getD j 0
def S1 (nm : String) (f : Nat → Int) (N : Nat) (U : State) (H : Heap) : Prop := ∃ z : Nat, va_Z "PathSounder" nm "[I" (.ref z) (fun q => N ≤ q) U H ∧ va_T .int z 6 (fun j => .int (vI f j)) (fun q => N ≤ q) U H
def Sts (N : Nat) (U : State) (H : Heap) : Prop := S1 "LINK_LEAST" lnLeast N U H ∧ S1 "LINK_MOST" lnMost N U H ∧ S1 "LINK_AT_FIRST" lnFirst N U H
theorem S1.moved {nm : String} {f : Nat → Int} {N : Nat} {u U : State} {H : Heap} (hvm : u.vm.Alike U.vm) (h : S1 nm f N u H) : S1 nm f N U H := by
  obtain ⟨z, h1, h2⟩ := h
  exact ⟨z, h1.moved hvm, h2.moved hvm⟩
theorem S1.kept {nm : String} {f : Nat → Int} {N : Nat} {U : State} {H H1 : Heap} (h : S1 nm f N U H) (hq : ∀ a : Nat, a < H.size → ¬ N ≤ a → H1[a]? = H[a]?) : S1 nm f N U H1 := by
  obtain ⟨z, h1, h2⟩ := h
  exact ⟨z, h1.kept hq, h2.kept hq⟩
def En (D : va_G) (cI cZ : ClassId) (N : Nat) (U : State) : Prop := va_K D vwCl (TY cI cZ) U ∧ N ≤ U.heap.size ∧ Nw U ∧ Sts N U U.heap
theorem En.calling {D : va_G} {cI cZ : ClassId} {N : Nat} {U : State} {g : JFrame} {mk : MethodId} {a : Array Value} (h : En D cI cZ N U) : En D cI cZ N (U.calling g mk a) :=
  ⟨va_K.moved (u := U) (U := U.calling g mk a) (Vm.Alike.refl U.vm) h.1, h.2.1, Nw.same (u := U) (U := U.calling g mk a) rfl h.2.2.1, S1.moved (u := U) (U := U.calling g mk a) (Vm.Alike.refl U.vm) h.2.2.2.1, S1.moved (u := U) (U := U.calling g mk a) (Vm.Alike.refl U.vm) h.2.2.2.2.1, S1.moved (u := U) (U := U.calling g mk a) (Vm.Alike.refl U.vm) h.2.2.2.2.2⟩
theorem En.at {D : va_G} {cI cZ : ClassId} {N : Nat} {s U : State} {A : Nat → Prop} {H : Heap} {locs : List Loc} (h : En D cI cZ N s) (hS : va_S A s.heap H locs) (hAN : ∀ q, A q → N ≤ q) (hU : U.heap = H) (hW : s.WarmedH U.vm) : En D cI cZ N U := by
  obtain ⟨hK, hN, hn, h1, h2, h3⟩ := h
  have hq : ∀ a : Nat, a < s.heap.size → ¬ N ≤ a → U.heap[a]? = s.heap[a]? := fun a g1 g2 => by rw [hU]; exact hS.2.1 a g1 (fun z => g2 (hAN a z))
  exact ⟨hK.moved hW.alike, Nat.le_trans hN (by rw [hU]; exact hS.1), hn.warm hW, (h1.kept hq).moved hW.alike, (h2.kept hq).moved hW.alike, (h3.kept hq).moved hW.alike⟩
/-! Contracts: CR reads alone, CM maps the world w to w' -/
def PC (D : va_G) (cI cZ : ClassId) (N : Nat) (av : List Value) (w : va_W) : Array Value → State → Prop := fun v U => v = av.toArray ∧ En D cI cZ N U ∧ va_P D vwCl w U.heap ∧ va_D (fun q => N ≤ q) w
def QR (o : Option Value) : Array Value → State → Outcome → State → Prop := fun _ st oc t => oc = .returned o ∧ t.heap = st.heap
def memA (w : va_W) : Nat → Prop := fun q => ∃ x ∈ w, x.1 = q
def QM (D : va_G) (o : Option Value) (A : Nat → Prop) (w' : va_W) : Array Value → State → Outcome → State → Prop := fun _ st oc t => oc = .returned o ∧ va_P D vwCl w' t.heap ∧ va_F A st t
def CR (l : Launch) (D : va_G) (cI cZ : ClassId) (N : Nat) (y : MethodName) (wl : List Cond) (rm : Room) (av : List Value) (w : va_W) (o : Option Value) : Prop := Met l y wl rm (PC D cI cZ N av w) (QR o) 0 0 (fun _ => False)
def CM (l : Launch) (D : va_G) (cI cZ : ClassId) (N : Nat) (y : MethodName) (wl : List Cond) (rm : Room) (av : List Value) (w : va_W) (o : Option Value) (w' : va_W) : Prop := Met l y wl rm (PC D cI cZ N av w) (QM D o (memA w) w') 0 0 (memA w)
theorem PC.blind {D : va_G} {cI cZ : ClassId} {N : Nat} {av : List Value} {w : va_W} : FrameBlind (PC D cI cZ N av w) := fun _ _ _ _ h => ⟨h.1, h.2.1.calling, h.2.2.1, h.2.2.2⟩
theorem memA_D {N : Nat} {w : va_W} (h : va_D (fun q => N ≤ q) w) : va_D (memA w) w ∧ ∀ q, memA w q → N ≤ q := by
  refine ⟨⟨h.1, fun k q hk => ⟨q, List.mem_of_getElem? hk, rfl⟩⟩, fun q ⟨x, hx, he⟩ => ?_⟩
  obtain ⟨i, hi⟩ := List.getElem?_of_mem hx
  rw [← he]
  exact h.2 i x hi
def rep : va_W → List Nat → va_W → va_W
  | ws, i :: is, x :: xs => rep (ws.set i x) is xs
  | ws, _, _ => ws
theorem pick_at {ws wc : va_W} {is : List Nat} (hC : is.map (fun i => ws[i]?) = wc.map some) {k : Nat} {x : Nat × va_E} (hk : wc[k]? = some x) : ∃ i, is[k]? = some i ∧ ws[i]? = some x := by
  have h1 : (is.map (fun i => ws[i]?))[k]? = some (some x) := by rw [hC, List.getElem?_map, hk]; rfl
  rw [List.getElem?_map] at h1
  cases hi : is[k]? with
  | none => rw [hi] at h1; cases h1
  | some i => rw [hi] at h1; exact ⟨i, rfl, Option.some.inj h1⟩
theorem pick_P {D : va_G} {ws wc : va_W} {H : Heap} {is : List Nat} (hP : va_P D vwCl ws H) (hC : is.map (fun i => ws[i]?) = wc.map some) : va_P D vwCl wc H := by
  intro k x hk
  obtain ⟨i, -, hi⟩ := pick_at hC hk
  exact hP i x hi
/-- what stands at a place of rep: the new cell, if the place is named, else the old one -/
theorem rep_at : ∀ (is : List Nat) (ws w1 : va_W) (k : Nat) (x : Nat × va_E), (rep ws is w1)[k]? = some x → (∃ j : Nat, w1[j]? = some x ∧ is[j]? = some k) ∨ (ws[k]? = some x ∧ ∀ j : Nat, j < w1.length → is[j]? ≠ some k)
  | [], ws, w1, k, x, h => Or.inr ⟨by cases w1 <;> exact h, fun j _ => by simp⟩
  | i :: is, ws, [], k, x, h => Or.inr ⟨h, fun j hj => absurd hj (Nat.not_lt_zero _)⟩
  | i :: is, ws, y :: w1, k, x, h => by
    rcases rep_at is (ws.set i y) w1 k x h with ⟨j, h1, h2⟩ | ⟨h1, h2⟩
    · exact Or.inl ⟨j + 1, h1, h2⟩
    · by_cases hk : i = k
      · subst hk
        by_cases hl : i < ws.length
        · rw [List.getElem?_set_self hl] at h1
          exact Or.inl ⟨0, h1, rfl⟩
        · rw [List.getElem?_eq_none (by simp; omega)] at h1
          cases h1
      · rw [List.getElem?_set_ne hk] at h1
        refine Or.inr ⟨h1, fun j hj => ?_⟩
        cases j with
        | zero => exact fun e => hk (Option.some.inj e)
        | succ j => exact h2 j (by simpa using hj)
theorem rep_join {D : va_G} {A : Nat → Prop} {ws wc w1 : va_W} {H H1 : Heap} {is : List Nat} (hP : va_P D vwCl ws H) (hD : va_D A ws) (hC : is.map (fun i => ws[i]?) = wc.map some) (hn : va_nd is = true) (hw : w1.map Prod.fst = wc.map Prod.fst) (hk : ∀ q : Nat, q < H.size → ¬ memA wc q → H1[q]? = H[q]?) (hP1 : va_P D vwCl w1 H1) : va_P D vwCl (rep ws is w1) H1 ∧ va_D A (rep ws is w1) := by
  have hlen : is.length = wc.length := by simpa using congrArg List.length hC
  have hlen1 : w1.length = wc.length := by simpa using congrArg List.length hw
  have adr : ∀ (j : Nat) (x : Nat × va_E), w1[j]? = some x → ∃ y : Nat × va_E, wc[j]? = some y ∧ y.1 = x.1 := by
    intro j x hx
    have h1 : (w1.map Prod.fst)[j]? = some x.1 := by rw [List.getElem?_map, hx]; rfl
    rw [hw, List.getElem?_map] at h1
    cases hy : wc[j]? with
    | none => rw [hy] at h1; cases h1
    | some y => rw [hy] at h1; exact ⟨y, rfl, Option.some.inj h1⟩
  have key : ∀ (k : Nat) (x : Nat × va_E), (rep ws is w1)[k]? = some x → ∃ y : Nat × va_E, ws[k]? = some y ∧ y.1 = x.1 := by
    intro k x hx
    rcases rep_at is ws w1 k x hx with ⟨j, h1, h2⟩ | ⟨h1, -⟩
    · obtain ⟨y, hy, e⟩ := adr j x h1
      obtain ⟨i, h3, h4⟩ := pick_at hC hy
      rw [h2] at h3
      cases h3
      exact ⟨y, h4, e⟩
    · exact ⟨x, h1, rfl⟩
  refine ⟨fun k x hx => ?_, fun i j x y hi hj hxy => ?_, fun k x hx => ?_⟩
  · rcases rep_at is ws w1 k x hx with ⟨j, h1, -⟩ | ⟨h1, h2⟩
    · exact hP1 j x h1
    · refine (hP k x h1).kept (hk x.1 (hP k x h1).lt (fun ⟨y, hy, e⟩ => ?_))
      obtain ⟨j, hj⟩ := List.getElem?_of_mem hy
      obtain ⟨i, h3, h4⟩ := pick_at hC hj
      have hik := hD.1 i k y x h4 h1 e
      subst hik
      exact h2 j (by rw [hlen1]; exact (List.getElem?_eq_some_iff.mp hj).1) h3
  · obtain ⟨x0, h1, e1⟩ := key i x hi
    obtain ⟨y0, h2, e2⟩ := key j y hj
    exact hD.1 i j x0 y0 h1 h2 (e1.trans (hxy.trans e2.symm))
  · obtain ⟨y, h1, e⟩ := key k x hx
    rw [← e]
    exact hD.2 k y h1
