/-! A method that hands back a cell that is there; bits; the links' bounds; packets sent one by one -/
theorem CR.A {l : Launch} {cc : ByteArray} {D : va_G} {cI cZ : ClassId} {N maxL : Nat} {wl wl' : List Cond} {y : MethodName} {rm : Room} {av : List Value} {w : va_W} {r : Nat} {nm : String} (hy : plainName y.cls = true) (hw : wl = Cond.code y cc maxL (some (.object nm)) :: wl') (hlen : (lg_sl av).length ≤ maxL)
    (body : ∀ (p : Program) (e : Env) (s : State) (m : MethodId) (args : Array Value) (below : List Frame) (meth : Method) (c : Code) (R : Room) (Q : State → Prop), CallFix p m c cc maxL s args wl y.cls → En D cI cZ N s → ∀ A : Nat → Prop, (∀ q, A q → N ≤ q) → rm.frames ≤ R.frames → rm.locals ≤ R.locals → va_P D vwCl w s.heap → va_D A w → va_S A s.heap s.heap [] →
      (∀ (pc : Nat) (ls : Array Slot), decode cc pc = .ok (.areturn, 1) → W p l e R s m args below meth c s.heap [] 0 0 Q (F0 m pc ls [.ref r])) →
      ∀ ls : Array Slot, lv_has ls maxL (lv_args 0 av) → W p l e R s m args below meth c s.heap [] 0 0 Q (F0 m 0 ls [])) : CR l D cI cZ N y wl rm av w (some (.ref r)) :=
  CR.of hy hw hlen fun p e s m below meth c S hr hlk hE A hAN hP hD hS ls hl => body p e s m _ below meth c _ _ S hE A hAN (Nat.le_refl _) (Nat.le_refl _) hP hD hS (fun pc ls hd => W.aret S.1 S.2.1 hr (Or.inl ⟨_, rfl⟩) (Or.inr ⟨_, rfl⟩) (fun t ht _ => ⟨rfl, ht⟩) (fun q h => absurd h List.not_mem_nil) hd hlk) ls hl
section BITS
variable {p : Program} {l : Launch} {e : Env} {R : Room} {s : State} {m : MethodId} {args : Array Value} {below : List Frame} {meth : Method} {c : Code} {H : Heap} {locs : List Loc} {cells slots : Nat} {Q : State → Prop} {cc : ByteArray} {pc : Nat} {ls : Array Slot} {rest : List Value} {nL : Nat} {Ts : List Cond} {own : String}
theorem w_ishl (S : CallFix p m c cc nL s args Ts own) {y z v : Int} (hv : iI y <<< (iI z &&& 31) = iI v) (hdg : decode cc pc = .ok (.ishl, 1)) (k : W p l e R s m args below meth c H locs cells slots Q (F0 m (pc + 1) ls (.int (iI v) :: rest))) : W p l e R s m args below meth c H locs cells slots Q (F0 m pc ls (.int (iI z) :: .int (iI y) :: rest)) :=
  lv_ishl S.1 S.2.1 hdg (by rw [hv]; exact k)
theorem w_ior (S : CallFix p m c cc nL s args Ts own) {y z v : Int} (hv : iI y ||| iI z = iI v) (hdg : decode cc pc = .ok (.ior, 1)) (k : W p l e R s m args below meth c H locs cells slots Q (F0 m (pc + 1) ls (.int (iI v) :: rest))) : W p l e R s m args below meth c H locs cells slots Q (F0 m pc ls (.int (iI z) :: .int (iI y) :: rest)) :=
  lv_ior S.1 S.2.1 hdg (by rw [hv]; exact k)
theorem w_iand (S : CallFix p m c cc nL s args Ts own) {y z v : Int} (hv : iI y &&& iI z = iI v) (hdg : decode cc pc = .ok (.iand, 1)) (k : W p l e R s m args below meth c H locs cells slots Q (F0 m (pc + 1) ls (.int (iI v) :: rest))) : W p l e R s m args below meth c H locs cells slots Q (F0 m pc ls (.int (iI z) :: .int (iI y) :: rest)) :=
  lv_iand S.1 S.2.1 hdg (by rw [hv]; exact k)
end BITS
theorem or_1 {x y : Int} (hx : x = 0 ∨ x = 1) (hy : y = 0 ∨ y = 1) : iI (x + 2 * y) ||| iI 1 = iI (1 + 2 * y) := by rcases hx with rfl | rfl <;> rcases hy with rfl | rfl <;> decide
theorem or_2 {x y : Int} (hx : x = 0 ∨ x = 1) (hy : y = 0 ∨ y = 1) : iI (x + 2 * y) ||| iI 2 = iI (x + 2 * 1) := by rcases hx with rfl | rfl <;> rcases hy with rfl | rfl <;> decide
theorem and_1 {x y : Int} (hx : x = 0 ∨ x = 1) (hy : y = 0 ∨ y = 1) : iI (x + 2 * y) &&& iI 1 = iI x := by rcases hx with rfl | rfl <;> rcases hy with rfl | rfl <;> decide
theorem and_2 {x y : Int} (hx : x = 0 ∨ x = 1) (hy : y = 0 ∨ y = 1) : iI (x + 2 * y) &&& iI 2 = iI (2 * y) := by rcases hx with rfl | rfl <;> rcases hy with rfl | rfl <;> decide
theorem ln_rng : ∀ k, k < 6 → 0 ≤ lnLeast k ∧ lnLeast k ≤ 1 ∧ 9 ≤ lnMost k ∧ lnMost k ≤ 20 := by decide
/-- the first link of M that drops packet x, else M -/
def stop (nb : Nat → Int) (x : Int) : Nat → Nat
  | 0 => 0
  | M + 1 => if stop nb x M < M then stop nb x M else if 0 < nb (M * 6 + 4) ∧ x.tmod (nb (M * 6 + 4)) = nb (M * 6 + 5) then M else M + 1
theorem stop_ok (nb : Nat → Int) (x : Int) : ∀ M, stop nb x M ≤ M ∧ (∀ i, i < stop nb x M → ¬ drp nb i x) ∧ (stop nb x M < M → drp nb (stop nb x M) x)
  | 0 => ⟨Nat.le_refl _, fun i h => absurd h (Nat.not_lt_zero _), fun h => absurd h (Nat.lt_irrefl _)⟩
  | M + 1 => by
    obtain ⟨h1, h2, h3⟩ := stop_ok nb x M
    unfold stop
    split
    · rename_i h
      exact ⟨by omega, h2, fun _ => h3 h⟩
    · rename_i h
      have hM : stop nb x M = M := by omega
      rw [hM] at h2
      split
      · rename_i h4
        exact ⟨by omega, h2, fun _ => h4⟩
      · rename_i h4
        refine ⟨Nat.le_refl _, fun i hi => ?_, fun h => absurd h (Nat.lt_irrefl _)⟩
        rcases Nat.lt_or_ge i M with g | g
        · exact h2 i g
        · rw [show i = M by omega]; exact h4
def bOf (x k : Int) : Nat := (x.tdiv k).toNat
theorem bOf_eq {x k : Int} (hx : 0 ≤ x) (hk : 0 < k) : x.tdiv k = ((bOf x k : Nat) : Int) := by
  have h : 0 ≤ x.tdiv k := Int.tdiv_nonneg hx (by omega)
  unfold bOf
  omega
theorem bOf_lt {x k : Int} {n : Nat} (hx : 0 ≤ x) (hk : 0 < k) (hn : x < (n : Int)) : bOf x k < n := by
  have h1 := bOf_eq hx hk
  have h2 : x.tdiv k ≤ x := Int.tdiv_le_self _ hx
  omega
/-- counts, sums, arrivals behind j packets -/
def sdC (nb : Nat → Int) (M : Nat) (sA kA : Int) (cn : Nat → Int) : Nat → (Nat → Int)
  | 0 => cn
  | j + 1 => cnA (sdC nb M sA kA cn j) (bOf (sA + (j : Int)) kA) (stop nb (sA + (j : Int)) M)
def sdS (ck nb : Nat → Int) (M : Nat) (tA sA kA : Int) (sm : Nat → Int) : Nat → (Nat → Int)
  | 0 => sm
  | j + 1 => smA (sdS ck nb M tA sA kA sm j) ck nb (tA + (j : Int)) (bOf (sA + (j : Int)) kA) (stop nb (sA + (j : Int)) M)
def sdR (nb : Nat → Int) (M : Nat) (sA : Int) : Nat → Int
  | 0 => 0
  | j + 1 => sdR nb M sA j + (if stop nb (sA + (j : Int)) M = M then 1 else 0)
theorem sdR_rng (nb : Nat → Int) (M : Nat) (sA : Int) : ∀ j : Nat, 0 ≤ sdR nb M sA j ∧ sdR nb M sA j ≤ (j : Int)
  | 0 => ⟨Int.le_refl _, Int.le_refl _⟩
  | j + 1 => by
    have h := sdR_rng nb M sA j
    show 0 ≤ sdR nb M sA j + (if stop nb (sA + (j : Int)) M = M then 1 else 0) ∧ sdR nb M sA j + (if stop nb (sA + (j : Int)) M = M then 1 else 0) ≤ ((j + 1 : Nat) : Int)
    split <;> omega
