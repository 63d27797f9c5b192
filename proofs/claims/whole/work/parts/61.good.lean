/-! What holds of the numbers that class and reference share, and is kept -/
def NbOK (nb : Nat → Int) : Prop := (∀ k, k < 24 → 0 ≤ nb k ∧ nb k ≤ 20) ∧ (∀ l, l < 4 → 1 ≤ nb (l * 6) ∧ 1 ≤ nb (l * 6 + 2))
def CnOK (sA kA : Int) (cn sm : Nat → Int) : Prop := (∀ k, k < 1000 → 0 ≤ cn k ∧ cn k ≤ sA ∧ -(11000 * cn k) ≤ sm k ∧ sm k ≤ 11000 * cn k) ∧ (∀ n b, n < 4 → b < 200 → cn ((n + 1) * 200 + b) ≤ cn (n * 200 + b)) ∧ (∀ b, b < 200 → (0 < cn (0 * 200 + b) ↔ (b : Int) * kA < sA))
def BdOK (ck mo hi lo ha : Nat → Int) : Prop := (∀ a b, a < b → b < 5 → (ha (a * 5 + b) = 0 ∧ mo (a * 5 + b) = 1000000000 ∧ mo (b * 5 + a) = 1000000000) ∨ (ha (a * 5 + b) = 1 ∧ mo (a * 5 + b) = hi (a * 5 + b) ∧ mo (b * 5 + a) = -(lo (a * 5 + b)) ∧ ck b - ck a ≤ hi (a * 5 + b) ∧ hi (a * 5 + b) ≤ 1000 ∧ lo (a * 5 + b) ≤ ck b - ck a ∧ -1000 ≤ lo (a * 5 + b))) ∧ (∀ a, a < 5 → mo (a * 5 + a) = 1000000000) ∧ (∀ a b, b ≤ a → a < 5 → ha (a * 5 + b) = 0) ∧ (∀ k, k < 25 → -100000 ≤ hi k ∧ hi k ≤ 100000 ∧ -100000 ≤ lo k ∧ lo k ≤ 100000)
def CkOK (ck : Nat → Int) : Prop := ∀ k, k < 5 → -99 ≤ ck k ∧ ck k ≤ 99
def Good (mn : Nat) (tA sA kA : Int) (ck nb cn sm mo hi lo ha : Nat → Int) : Prop := (2 ≤ mn ∧ mn ≤ 5) ∧ (0 ≤ tA ∧ tA ≤ 9999) ∧ (0 ≤ sA ∧ sA ≤ 200) ∧ (1 ≤ kA ∧ kA ≤ 20) ∧ NbOK nb ∧ CkOK ck ∧ CnOK sA kA cn sm ∧ BdOK ck mo hi lo ha
section BDS
variable {ck mo hi lo ha : Nat → Int}
theorem BdOK.moR (h : BdOK ck mo hi lo ha) (hck : CkOK ck) : ∀ k, k < 25 → -1000 ≤ mo k ∧ mo k ≤ 1000000000 := by
  intro k hk
  have k1 := hck (k / 5) (by omega)
  have k2 := hck (k % 5) (by omega)
  have e : k / 5 * 5 + k % 5 = k := by omega
  rcases Nat.lt_trichotomy (k / 5) (k % 5) with g | g | g
  · rcases h.1 (k / 5) (k % 5) g (by omega) with ⟨-, h1, -⟩ | ⟨-, h1, -, h2, h3, -⟩ <;> rw [e] at h1
    · omega
    · rw [e] at h2 h3; omega
  · have h1 := h.2.1 (k / 5) (by omega)
    rw [show k / 5 * 5 + k / 5 = k by omega] at h1
    omega
  · rcases h.1 (k % 5) (k / 5) g (by omega) with ⟨-, -, h1⟩ | ⟨-, -, h1, -, -, h2, h3⟩ <;> rw [e] at h1 <;> omega
theorem BdOK.haR (h : BdOK ck mo hi lo ha) : ∀ k, k < 25 → ha k = 0 ∨ ha k = 1 := by
  intro k hk
  have e : k / 5 * 5 + k % 5 = k := by omega
  rcases Nat.lt_or_ge (k / 5) (k % 5) with g | g
  · rcases h.1 (k / 5) (k % 5) g (by omega) with ⟨h1, -⟩ | ⟨h1, -⟩ <;> rw [e] at h1
    · exact Or.inl h1
    · exact Or.inr h1
  · have h1 := h.2.2.1 (k / 5) (k % 5) g (by omega)
    rw [e] at h1
    exact Or.inl h1
theorem BdOK.hiR (h : BdOK ck mo hi lo ha) : ∀ k, k < 25 → -100000 ≤ hi k ∧ hi k ≤ 100000 := fun k hk => ⟨(h.2.2.2 k hk).1, (h.2.2.2 k hk).2.1⟩
theorem BdOK.loR (h : BdOK ck mo hi lo ha) : ∀ k, k < 25 → -100000 ≤ lo k ∧ lo k ≤ 100000 := fun k hk => ⟨(h.2.2.2 k hk).2.2.1, (h.2.2.2 k hk).2.2.2⟩
theorem lay0_lt {a b : Nat} (hab : a < b) (hb : b < 5) : lay0 hi lo ha (a * 5 + b) = if ha (a * 5 + b) = 0 then 1000000 else hi (a * 5 + b) := by
  unfold lay0
  rw [(dm5 hb).1, (dm5 hb).2, if_neg (show ¬ a = b by omega), if_pos hab, if_pos hab]
theorem lay0_gt {a b : Nat} (hab : a < b) (hb : b < 5) : lay0 hi lo ha (b * 5 + a) = if ha (a * 5 + b) = 0 then 1000000 else -lo (a * 5 + b) := by
  unfold lay0
  rw [(dm5 (a := b) (b := a) (by omega)).1, (dm5 (a := b) (b := a) (by omega)).2, if_neg (show ¬ b = a by omega), if_neg (show ¬ b < a by omega), if_neg (show ¬ b < a by omega)]
theorem lay0_eq {a : Nat} (ha5 : a < 5) : lay0 hi lo ha (a * 5 + a) = 0 := by
  unfold lay0
  rw [(dm5 ha5).1, (dm5 ha5).2, if_pos rfl]
theorem BdOK.edge (h : BdOK ck mo hi lo ha) (hck : CkOK ck) : EdgeOK ck mo (lay0 hi lo ha) := by
  refine ⟨fun a b ha5 hb5 hne => ?_, fun a ha5 => ⟨h.2.1 a ha5, lay0_eq ha5⟩, hck⟩
  rcases Nat.lt_or_ge a b with g | g
  · rw [lay0_lt g hb5]
    rcases h.1 a b g hb5 with ⟨h1, h2, -⟩ | ⟨h1, h2, -, h3, h4, -⟩
    · exact Or.inl ⟨h2, if_pos h1⟩
    · refine Or.inr ⟨by omega, ?_, by omega, by omega⟩
      rw [if_neg (by omega), h2]
  · have g : b < a := by omega
    rw [lay0_gt g ha5]
    have k1 := hck a ha5
    have k2 := hck b hb5
    rcases h.1 b a g ha5 with ⟨h1, -, h2⟩ | ⟨h1, -, h2, -, -, h3, h4⟩
    · exact Or.inl ⟨h2, if_pos h1⟩
    · refine Or.inr ⟨by omega, ?_, by omega, by omega⟩
      rw [if_neg (by omega), h2]
theorem BdOK.pairs (h : BdOK ck mo hi lo ha) : prO mo 5 = sumTo ha 25 := by
  have u : ∀ a b, a < b → b < 5 → (if mo (a * 5 + b) = 1000000000 then (0 : Int) else 1) = ha (a * 5 + b) := by
    intro a b hab hb
    rcases h.1 a b hab hb with ⟨h1, h2, -⟩ | ⟨h1, h2, -, -, h3, -⟩
    · rw [if_pos h2, h1]
    · rw [if_neg (by omega), h1]
  have z : ∀ a b, b ≤ a → a < 5 → ha (a * 5 + b) = 0 := h.2.2.1
  have e1 : prO mo 5 = 0 + (0 + (if mo (0 * 5 + 1) = 1000000000 then (0 : Int) else 1) + (if mo (0 * 5 + 2) = 1000000000 then (0 : Int) else 1) + (if mo (0 * 5 + 3) = 1000000000 then (0 : Int) else 1) + (if mo (0 * 5 + 4) = 1000000000 then (0 : Int) else 1)) + (0 + (if mo (1 * 5 + 2) = 1000000000 then (0 : Int) else 1) + (if mo (1 * 5 + 3) = 1000000000 then (0 : Int) else 1) + (if mo (1 * 5 + 4) = 1000000000 then (0 : Int) else 1)) + (0 + (if mo (2 * 5 + 3) = 1000000000 then (0 : Int) else 1) + (if mo (2 * 5 + 4) = 1000000000 then (0 : Int) else 1)) + (0 + (if mo (3 * 5 + 4) = 1000000000 then (0 : Int) else 1)) + 0 := rfl
  have e2 : sumTo ha 25 = 0 + ha (0 * 5 + 0) + ha (0 * 5 + 1) + ha (0 * 5 + 2) + ha (0 * 5 + 3) + ha (0 * 5 + 4) + ha (1 * 5 + 0) + ha (1 * 5 + 1) + ha (1 * 5 + 2) + ha (1 * 5 + 3) + ha (1 * 5 + 4) + ha (2 * 5 + 0) + ha (2 * 5 + 1) + ha (2 * 5 + 2) + ha (2 * 5 + 3) + ha (2 * 5 + 4) + ha (3 * 5 + 0) + ha (3 * 5 + 1) + ha (3 * 5 + 2) + ha (3 * 5 + 3) + ha (3 * 5 + 4) + ha (4 * 5 + 0) + ha (4 * 5 + 1) + ha (4 * 5 + 2) + ha (4 * 5 + 3) + ha (4 * 5 + 4) := rfl
  rw [e1, e2, u 0 1 (by decide) (by decide), u 0 2 (by decide) (by decide), u 0 3 (by decide) (by decide), u 0 4 (by decide) (by decide), u 1 2 (by decide) (by decide), u 1 3 (by decide) (by decide), u 1 4 (by decide) (by decide), u 2 3 (by decide) (by decide), u 2 4 (by decide) (by decide), u 3 4 (by decide) (by decide)]
  rw [z 0 0 (by decide) (by decide), z 1 0 (by decide) (by decide), z 1 1 (by decide) (by decide), z 2 0 (by decide) (by decide), z 2 1 (by decide) (by decide), z 2 2 (by decide) (by decide), z 3 0 (by decide) (by decide), z 3 1 (by decide) (by decide), z 3 2 (by decide) (by decide), z 3 3 (by decide) (by decide), z 4 0 (by decide) (by decide), z 4 1 (by decide) (by decide), z 4 2 (by decide) (by decide), z 4 3 (by decide) (by decide), z 4 4 (by decide) (by decide)]
  omega
theorem BdOK.clock (h : BdOK ck mo hi lo ha) {nd : Nat} (hn : nd < 5) (v : Int) : BdOK (updI ck nd v) (fgt mo nd 5) hi lo (fgh ha nd 5) := by
  refine ⟨fun a b hab hb => ?_, fun a ha5 => ?_, fun a b hab ha5 => ?_, h.2.2.2⟩
  · unfold fgt fgh
    rw [(dm5 hb).1, (dm5 hb).2, (dm5 (a := b) (b := a) (by omega)).1, (dm5 (a := b) (b := a) (by omega)).2]
    by_cases g : a = nd ∨ b = nd
    · refine Or.inl ⟨if_pos (by omega), if_pos (by omega), if_pos (by omega)⟩
    · rw [if_neg (by omega), if_neg (by omega), if_neg (by omega), updI_n (by omega), updI_n (by omega)]
      exact h.1 a b hab hb
  · unfold fgt
    split
    · rfl
    · exact h.2.1 a ha5
  · unfold fgh
    split
    · rfl
    · exact h.2.2.1 a b hab ha5
theorem BdOK.sound (h : BdOK ck mo hi lo ha) (hck : CkOK ck) {f g : Nat} (hfg : f < g) (hg : g < 5) {x y : Int} (hx : ck g - ck f ≤ x ∧ x ≤ 1000) (hy : y ≤ ck g - ck f ∧ -1000 ≤ y) : BdOK ck (nrw mo f g x y) (updI hi (f * 5 + g) (hiN ha hi (f * 5 + g) x)) (updI lo (f * 5 + g) (loN ha lo (f * 5 + g) y)) (updI ha (f * 5 + g) 1) := by
  have k1 := hck f (by omega)
  have k2 := hck g hg
  have hH := h.2.2.2 (f * 5 + g) (by omega)
  have hne : g * 5 + f ≠ f * 5 + g := by omega
  have m1 : nrw mo f g x y (f * 5 + g) = if x < mo (f * 5 + g) then x else mo (f * 5 + g) := by
    unfold nrw; rw [updI_n (Ne.symm hne), updI_s]
  have m2 : nrw mo f g x y (g * 5 + f) = if -y < mo (g * 5 + f) then -y else mo (g * 5 + f) := by
    unfold nrw; rw [updI_s, updI_n hne]
  have m3 : ∀ k, k ≠ f * 5 + g → k ≠ g * 5 + f → nrw mo f g x y k = mo k := fun k h1 h2 => by
    unfold nrw; rw [updI_n h2, updI_n h1]
  have hiB : hiN ha hi (f * 5 + g) x = x ∨ hiN ha hi (f * 5 + g) x = hi (f * 5 + g) := by
    unfold hiN; split
    · exact Or.inr rfl
    · exact Or.inl rfl
  have loB : loN ha lo (f * 5 + g) y = y ∨ loN ha lo (f * 5 + g) y = lo (f * 5 + g) := by
    unfold loN; split
    · exact Or.inr rfl
    · exact Or.inl rfl
  refine ⟨fun a b hab hb => ?_, fun a ha5 => ?_, fun a b hab ha5 => ?_, fun k hk => ?_⟩
  · by_cases e : a * 5 + b = f * 5 + g
    · have ea : a = f := by omega
      have eb : b = g := by omega
      subst ea; subst eb
      rw [updI_s, updI_s, updI_s, m1, m2]
      refine Or.inr ⟨rfl, ?_⟩
      rcases h.1 a b hab hb with ⟨h1, h2, h3⟩ | ⟨h1, h2, h3, h4, h5, h6, h7⟩
      · have a1 : (if x < (1000000000 : Int) then x else 1000000000) = x := if_pos (by omega)
        have a2 : (if -y < (1000000000 : Int) then -y else 1000000000) = -y := if_pos (by omega)
        have a3 : hiN ha hi (a * 5 + b) x = x := by unfold hiN; exact if_neg (fun q => by omega)
        have a4 : loN ha lo (a * 5 + b) y = y := by unfold loN; exact if_neg (fun q => by omega)
        rw [h2, h3, a1, a2, a3, a4]
        exact ⟨rfl, rfl, by omega, by omega, by omega, by omega⟩
      · rw [h2, h3]
        have q1 : (if x < hi (a * 5 + b) then x else hi (a * 5 + b)) = hiN ha hi (a * 5 + b) x := by
          by_cases c : hi (a * 5 + b) < x
          · have w : hiN ha hi (a * 5 + b) x = hi (a * 5 + b) := by unfold hiN; exact if_pos ⟨h1, c⟩
            rw [w]; exact if_neg (by omega)
          · have w : hiN ha hi (a * 5 + b) x = x := by unfold hiN; exact if_neg (fun q => c q.2)
            rw [w]; split <;> omega
        have q2 : (if -y < -lo (a * 5 + b) then -y else -lo (a * 5 + b)) = -loN ha lo (a * 5 + b) y := by
          by_cases c : y < lo (a * 5 + b)
          · have w : loN ha lo (a * 5 + b) y = lo (a * 5 + b) := by unfold loN; exact if_pos ⟨h1, c⟩
            rw [w]; exact if_neg (by omega)
          · have w : loN ha lo (a * 5 + b) y = y := by unfold loN; exact if_neg (fun q => c q.2)
            rw [w]; split <;> omega
        refine ⟨q1, q2, ?_⟩
        rcases hiB with w1 | w1 <;> rcases loB with w2 | w2 <;> rw [w1, w2] <;> exact ⟨by omega, by omega, by omega, by omega⟩
    · rw [updI_n e, updI_n e, updI_n e, m3 _ e (by omega), m3 _ (by omega) (by omega)]
      exact h.1 a b hab hb
  · rw [m3 _ (by omega) (by omega)]
    exact h.2.1 a ha5
  · rw [updI_n (by omega)]
    exact h.2.2.1 a b hab ha5
  · have h1 := h.2.2.2 k hk
    by_cases e : k = f * 5 + g
    · subst e
      rw [updI_s, updI_s]
      rcases hiB with w1 | w1 <;> rcases loB with w2 | w2 <;> rw [w1, w2] <;> omega
    · rw [updI_n e, updI_n e]
      exact h1
end BDS
theorem NbOK.first : NbOK nbFirst := by
  have h1 : ∀ r, r < 6 → 0 ≤ lnFirst r ∧ lnFirst r ≤ 20 := by decide
  refine ⟨fun k _ => h1 (k % 6) (Nat.mod_lt _ (by decide)), fun l _ => ?_⟩
  unfold nbFirst
  rw [show l * 6 % 6 = 0 by omega, show (l * 6 + 2) % 6 = 2 by omega]
  decide
theorem NbOK.link {nb : Nat → Int} (h : NbOK nb) {lk wh : Nat} {v : Int} (hw : wh < 6) (hv : lnLeast wh ≤ v ∧ v ≤ lnMost wh) : NbOK (updI nb (lk * 6 + wh) v) := by
  have hl := ln_rng wh hw
  refine ⟨fun k hk => ?_, fun l hl4 => ⟨?_, ?_⟩⟩
  · by_cases e : k = lk * 6 + wh
    · subst e; rw [updI_s]; omega
    · rw [updI_n e]; exact h.1 k hk
  · by_cases e : l * 6 = lk * 6 + wh
    · rw [e, updI_s]
      have := ln_02 wh hw (Or.inl (by omega))
      omega
    · rw [updI_n e]; exact (h.2 l hl4).1
  · by_cases e : l * 6 + 2 = lk * 6 + wh
    · rw [e, updI_s]
      have := ln_02 wh hw (Or.inr (by omega))
      omega
    · rw [updI_n e]; exact (h.2 l hl4).2
theorem thN_min {nb : Nat → Int} {t : Int} {f : Nat} (ht : 0 ≤ t) (h : NbOK nb) : ∀ j : Nat, f + j ≤ 4 → t + (j : Int) ≤ thN nb t f j
  | 0, _ => by show t + ((0 : Nat) : Int) ≤ t; omega
  | j + 1, hj => by
    have ih := thN_min (f := f) ht h j (by omega)
    have h1 := (thN_rng (f := f) ht h.1 j (by omega)).1
    have h2 := (h.2 (f + j) (by omega)).1
    have h3 := h.1 ((f + j) * 6 + 1) (by omega)
    have h4 := tmod_rng (d := nb ((f + j) * 6 + 1) + 1) h1 (by omega)
    show t + ((j + 1 : Nat) : Int) ≤ thN nb t f j + (nb ((f + j) * 6) + (thN nb t f j).tmod (nb ((f + j) * 6 + 1) + 1))
    omega
theorem bkN_min {nb : Nat → Int} {t : Int} {g : Nat} (hg : g ≤ 4) (ht : 0 ≤ t) (h : NbOK nb) : ∀ j : Nat, j ≤ g → t + (j : Int) ≤ bkN nb t g j
  | 0, _ => by show t + ((0 : Nat) : Int) ≤ t; omega
  | j + 1, hj => by
    have ih := bkN_min hg ht h j (by omega)
    have h1 := (bkN_rng hg ht h.1 j (by omega)).1
    have h2 := (h.2 (g - 1 - j) (by omega)).2
    have h3 := h.1 ((g - 1 - j) * 6 + 3) (by omega)
    have h4 := tmod_rng (d := nb ((g - 1 - j) * 6 + 3) + 1) h1 (by omega)
    show t + ((j + 1 : Nat) : Int) ≤ bkN nb t g j + (nb ((g - 1 - j) * 6 + 2) + (bkN nb t g j).tmod (nb ((g - 1 - j) * 6 + 3) + 1))
    omega
/-! packets -/
theorem cnA_at (cn : Nat → Int) {b : Nat} (hb : b < 200) : ∀ J k, cnA cn b J k = if k % 200 = b ∧ k / 200 ≤ J then cn k + 1 else cn k
  | 0, k => by
    show updI cn (0 * 200 + b) (cn (0 * 200 + b) + 1) k = _
    by_cases e : k = 0 * 200 + b
    · subst e; rw [updI_s, if_pos (by omega)]
    · rw [updI_n e, if_neg (by omega)]
  | J + 1, k => by
    show updI (cnA cn b J) ((J + 1) * 200 + b) (cnA cn b J ((J + 1) * 200 + b) + 1) k = _
    by_cases e : k = (J + 1) * 200 + b
    · subst e; rw [updI_s, cnA_at cn hb J, if_neg (by omega), if_pos (by omega)]
    · rw [updI_n e, cnA_at cn hb J]
      by_cases g : k % 200 = b ∧ k / 200 ≤ J
      · rw [if_pos g, if_pos (by omega)]
      · rw [if_neg g, if_neg (by omega)]
theorem smA_at (sm ck nb : Nat → Int) (t : Int) {b : Nat} (hb : b < 200) : ∀ J k, smA sm ck nb t b J k = if k % 200 = b ∧ k / 200 ≤ J then sm k + (atN nb t (k / 200) + ck (k / 200)) else sm k
  | 0, k => by
    show updI sm (0 * 200 + b) (sm (0 * 200 + b) + (t + ck 0)) k = _
    by_cases e : k = 0 * 200 + b
    · subst e; rw [updI_s, if_pos (by omega), show (0 * 200 + b) / 200 = 0 by omega]; rfl
    · rw [updI_n e, if_neg (by omega)]
  | J + 1, k => by
    show updI (smA sm ck nb t b J) ((J + 1) * 200 + b) (smA sm ck nb t b J ((J + 1) * 200 + b) + (atN nb t (J + 1) + ck (J + 1))) k = _
    by_cases e : k = (J + 1) * 200 + b
    · subst e; rw [updI_s, smA_at sm ck nb t hb J, if_neg (by omega), if_pos (by omega), show ((J + 1) * 200 + b) / 200 = J + 1 by omega]
    · rw [updI_n e, smA_at sm ck nb t hb J]
      by_cases g : k % 200 = b ∧ k / 200 ≤ J
      · rw [if_pos g, if_pos (by omega)]
      · rw [if_neg g, if_neg (by omega)]
theorem bOf_div {x k : Int} (hx : 0 ≤ x) (hk : 0 < k) : ((bOf x k : Nat) : Int) * k ≤ x ∧ x < ((bOf x k : Nat) : Int) * k + k := by
  have h1 := bOf_eq hx hk
  have h2 := Int.tmod_def x k
  have h3 := tmod_rng (t := x) hx hk
  rw [h1, Int.mul_comm] at h2
  omega
theorem CnOK.packet {sA kA tA : Int} {cn sm ck nb : Nat → Int} {J : Nat} (h : CnOK sA kA cn sm) (hs : 0 ≤ sA ∧ sA < 200) (hk : 1 ≤ kA ∧ kA ≤ 20) (ht : 0 ≤ tA ∧ tA ≤ 9999) (hck : CkOK ck) (hnb : NbOK nb) (hJ : J ≤ 4) : CnOK (sA + 1) kA (cnA cn (bOf sA kA) J) (smA sm ck nb tA (bOf sA kA) J) := by
  have hb := bOf_lt (n := 200) hs.1 (show 0 < kA by omega) (by omega)
  have hd := bOf_div hs.1 (show 0 < kA by omega)
  refine ⟨fun k hk1 => ?_, fun n b hn hb2 => ?_, fun b hb2 => ?_⟩
  · rw [cnA_at cn hb, smA_at sm ck nb tA hb]
    have h1 := h.1 k hk1
    by_cases g : k % 200 = bOf sA kA ∧ k / 200 ≤ J
    · rw [if_pos g, if_pos g]
      have h2 := atN_rng ht.1 hnb.1 (k / 200) (by omega)
      have h3 := hck (k / 200) (by omega)
      omega
    · rw [if_neg g, if_neg g]
      omega
  · rw [cnA_at cn hb, cnA_at cn hb]
    have h1 := h.2.1 n b hn hb2
    rw [show ((n + 1) * 200 + b) % 200 = b by omega, show ((n + 1) * 200 + b) / 200 = n + 1 by omega, show (n * 200 + b) % 200 = b by omega, show (n * 200 + b) / 200 = n by omega]
    by_cases g1 : b = bOf sA kA ∧ n + 1 ≤ J
    · rw [if_pos g1, if_pos (by omega)]; omega
    · rw [if_neg g1]
      split <;> omega
  · rw [cnA_at cn hb, show (0 * 200 + b) % 200 = b by omega, show (0 * 200 + b) / 200 = 0 by omega]
    have h1 := h.2.2 b hb2
    have h2 := h.1 (0 * 200 + b) (by omega)
    by_cases g : b = bOf sA kA
    · rw [if_pos ⟨g, Nat.zero_le _⟩]
      rw [← g] at hd
      constructor
      · intro _; omega
      · intro _; omega
    · rw [if_neg (fun q => g q.1), h1]
      have hne : (b : Int) * kA ≠ sA := by
        intro e
        apply g
        have g1 : ((bOf sA kA : Nat) : Int) * kA ≤ (b : Int) * kA := by omega
        have g2 : (b : Int) * kA < (((bOf sA kA : Nat) : Int) + 1) * kA := by rw [Int.add_mul, Int.one_mul]; omega
        have g3 := Int.le_of_mul_le_mul_right g1 (by omega)
        have g4 := Int.lt_of_mul_lt_mul_right g2 (by omega)
        omega
      omega
theorem CnOK.send {sA kA tA : Int} {cn sm ck nb : Nat → Int} {M : Nat} (h : CnOK sA kA cn sm) (hk : 1 ≤ kA ∧ kA ≤ 20) (hck : CkOK ck) (hnb : NbOK nb) (hM : M ≤ 4) (hs : 0 ≤ sA) (ht : 0 ≤ tA) : ∀ j : Nat, sA + (j : Int) ≤ 200 → tA + (j : Int) ≤ 9999 → CnOK (sA + (j : Int)) kA (sdC nb M sA kA cn j) (sdS ck nb M tA sA kA sm j)
  | 0, _, _ => by rw [show sA + ((0 : Nat) : Int) = sA by omega]; exact h
  | j + 1, h1, h2 => by
    have ih := CnOK.send h hk hck hnb hM hs ht j (by omega) (by omega)
    have hst := (stop_ok nb (sA + (j : Int)) M).1
    have := CnOK.packet (tA := tA + (j : Int)) ih (by omega) hk (by omega) hck hnb (J := stop nb (sA + (j : Int)) M) (by omega)
    rw [show sA + ((j + 1 : Nat) : Int) = sA + (j : Int) + 1 by omega]
    exact this
theorem CnOK.zero {kA : Int} (hk : 1 ≤ kA) : CnOK 0 kA (fun _ => 0) (fun _ => 0) := by
  refine ⟨fun k _ => ⟨Int.le_refl _, Int.le_refl _, by show -(11000 * (0 : Int)) ≤ 0; omega, by show (0 : Int) ≤ 11000 * 0; omega⟩, fun n b _ _ => Int.le_refl _, fun b _ => ?_⟩
  have h : 0 ≤ (b : Int) * kA := Int.mul_nonneg (by omega) (by omega)
  show (0 : Int) < 0 ↔ (b : Int) * kA < 0
  constructor
  · intro h1; exact absurd h1 (by omega)
  · intro h1; omega
theorem CnOK.block {sA kA v : Int} {cn sm : Nat → Int} (h : CnOK sA kA cn sm) (h0 : sA = 0) (hk : 1 ≤ kA) (hv : 1 ≤ v) : CnOK sA v cn sm := by
  refine ⟨h.1, h.2.1, fun b hb => ?_⟩
  have h1 := h.1 (0 * 200 + b) (by omega)
  have h2 : 0 ≤ (b : Int) * v := Int.mul_nonneg (by omega) (by omega)
  constructor
  · intro g; omega
  · intro g; omega
theorem cntP_is (f : Nat → Int) (c : Int) (hc : 0 ≤ c) (h : ∀ b : Nat, b < 200 → (0 < f b ↔ (b : Int) < c)) : ∀ n : Nat, n ≤ 200 → cntP f n = if (n : Int) ≤ c then (n : Int) else c
  | 0, _ => by show (0 : Int) = _; rw [if_pos (by omega)]; rfl
  | n + 1, hn => by
    have ih := cntP_is f c hc h n (by omega)
    have hb := h n (by omega)
    show cntP f n + (if 0 < f n then 1 else 0) = _
    rw [ih]
    by_cases g : (n : Int) < c
    · rw [if_pos (hb.mpr g), if_pos (by omega), if_pos (by omega)]; omega
    · rw [if_neg (fun q => g (hb.mp q)), if_neg (show ¬ ((n + 1 : Nat) : Int) ≤ c by omega)]
      split <;> omega
theorem CnOK.blocks {sA kA : Int} {cn sm : Nat → Int} (h : CnOK sA kA cn sm) (hs : 0 ≤ sA ∧ sA ≤ 200) (hk : 1 ≤ kA) : cntP (fun b => cn (0 * 200 + b)) 200 = (sA + kA - 1).tdiv kA := by
  rw [Int.tdiv_eq_ediv_of_nonneg (by omega)]
  have hc0 : 0 ≤ (sA + kA - 1) / kA := Int.ediv_nonneg (by omega) (by omega)
  have key : ∀ z : Int, z < (sA + kA - 1) / kA ↔ z * kA < sA := by
    intro z
    have h1 := Int.le_ediv_iff_mul_le (a := z + 1) (b := sA + kA - 1) (c := kA) (by omega)
    rw [Int.add_mul, Int.one_mul] at h1
    omega
  have h1 := cntP_is (fun b => cn (0 * 200 + b)) ((sA + kA - 1) / kA) hc0 (fun b hb => (h.2.2 b hb).trans (key b).symm) 200 (Nat.le_refl _)
  rw [h1]
  have h2 : ¬ (200 : Int) < (sA + kA - 1) / kA := by
    rw [key]
    have : (200 : Int) * 1 ≤ 200 * kA := Int.mul_le_mul_of_nonneg_left hk (by omega)
    omega
  split <;> omega
theorem CnOK.rng {sA kA : Int} {cn sm : Nat → Int} (h : CnOK sA kA cn sm) (hs : sA ≤ 200) : ∀ k, k < 1000 → 0 ≤ cn k ∧ cn k ≤ 200 := by
  intro k hk
  have := h.1 k hk
  omega
