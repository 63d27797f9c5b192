/-! Least sums: by way of each node (the reference) and by rounds from one node (the class) are the same -/
def EdgeOK (ck mo le : Nat → Int) : Prop := (∀ a b, a < 5 → b < 5 → a ≠ b → (mo (a * 5 + b) = 1000000000 ∧ le (a * 5 + b) = 1000000) ∨ (mo (a * 5 + b) ≠ 1000000000 ∧ le (a * 5 + b) = mo (a * 5 + b) ∧ ck b - ck a ≤ mo (a * 5 + b) ∧ mo (a * 5 + b) ≤ 1000)) ∧ (∀ a, a < 5 → mo (a * 5 + a) = 1000000000 ∧ le (a * 5 + a) = 0) ∧ (∀ k, k < 5 → -99 ≤ ck k ∧ ck k ≤ 99)
theorem dm5 {a b : Nat} (hb : b < 5) : (a * 5 + b) / 5 = a ∧ (a * 5 + b) % 5 = b := by omega
theorem EdgeOK.pot {ck mo le : Nat → Int} (h : EdgeOK ck mo le) : potOK ck le := by
  intro i hi
  have hk1 := h.2.2 (i / 5) (by omega)
  have hk2 := h.2.2 (i % 5) (by omega)
  by_cases e : i / 5 = i % 5
  · have h1 := (h.2.1 (i / 5) (by omega)).2
    rw [show i / 5 * 5 + i / 5 = i by omega] at h1
    rw [e, h1]; omega
  · have h1 := h.1 (i / 5) (i % 5) (by omega) (by omega) e
    rw [show i / 5 * 5 + i % 5 = i by omega] at h1
    rcases h1 with ⟨-, h1⟩ | ⟨-, h1, h2, h3⟩ <;> omega
/-- one stage, all at once -/
def stg (d : Nat → Int) (y a b : Nat) : Int := if d (a * 5 + y) < 1000000 ∧ d (y * 5 + b) < 1000000 ∧ d (a * 5 + y) + d (y * 5 + b) < d (a * 5 + b) then d (a * 5 + y) + d (y * 5 + b) else d (a * 5 + b)
theorem fwI_stg {d : Nat → Int} {y : Nat} (hy : y < 5) (h0 : d (y * 5 + y) = 0) : ∀ i, i ≤ 25 → ∀ k, k < 25 → fwI d y i k = if k < i then stg d y (k / 5) (k % 5) else d k
  | 0, _, k, _ => by rw [if_neg (Nat.not_lt_zero _)]; rfl
  | i + 1, hi, k, hk => by
    have ih := fwI_stg hy h0 i (by omega)
    have col : fwI d y i ((i / 5) * 5 + y) = d ((i / 5) * 5 + y) := by
      rw [ih _ (by omega)]
      split
      · rw [(dm5 hy).1, (dm5 hy).2]
        unfold stg
        rw [h0, if_neg (by omega)]
      · rfl
    have row : fwI d y i (y * 5 + i % 5) = d (y * 5 + i % 5) := by
      rw [ih _ (by omega)]
      split
      · rw [(dm5 (a := y) (b := i % 5) (by omega)).1, (dm5 (a := y) (b := i % 5) (by omega)).2]
        unfold stg
        rw [h0, if_neg (by omega)]
      · rfl
    have self : fwI d y i i = d i := by rw [ih i (by omega), if_neg (Nat.lt_irrefl _)]
    show updI (fwI d y i) i (fwV (fwI d y i) y i) k = _
    by_cases e : k = i
    · subst e
      rw [updI_s, if_pos (by omega)]
      unfold fwV stg
      rw [col, row, self, show k / 5 * 5 + k % 5 = k by omega]
    · rw [updI_n e, ih k hk]
      by_cases h : k < i
      · rw [if_pos h, if_pos (by omega)]
      · rw [if_neg h, if_neg (by omega)]
theorem fwI_at {d : Nat → Int} {y a b : Nat} (hy : y < 5) (ha : a < 5) (hb : b < 5) (h0 : d (y * 5 + y) = 0) : fwI d y 25 (a * 5 + b) = stg d y a b := by
  rw [fwI_stg hy h0 25 (Nat.le_refl _) _ (by omega), if_pos (by omega), (dm5 hb).1, (dm5 hb).2]
theorem stg_facts (d : Nat → Int) (y a b : Nat) : stg d y a b ≤ d (a * 5 + b) ∧ (d (a * 5 + y) < 1000000 → d (y * 5 + b) < 1000000 → stg d y a b ≤ d (a * 5 + y) + d (y * 5 + b)) ∧ (stg d y a b = d (a * 5 + b) ∨ (d (a * 5 + y) < 1000000 ∧ d (y * 5 + b) < 1000000 ∧ stg d y a b = d (a * 5 + y) + d (y * 5 + b))) := by
  unfold stg
  split
  · rename_i h
    exact ⟨by omega, fun _ _ => Int.le_refl _, Or.inr ⟨h.1, h.2.1, rfl⟩⟩
  · rename_i h
    refine ⟨Int.le_refl _, fun h1 h2 => ?_, Or.inl rfl⟩
    rcases Int.lt_or_le (d (a * 5 + y) + d (y * 5 + b)) (d (a * 5 + b)) with g | g
    · exact absurd ⟨h1, h2, g⟩ h
    · exact g
/-- what holds behind y stages -/
def FwOK (ck d : Nat → Int) (y : Nat) (B : Int) : Prop := potOK ck d ∧ (∀ a, a < 5 → d (a * 5 + a) = 0) ∧ (∀ a b, a < 5 → b < 5 → d (a * 5 + b) < 1000000 → d (a * 5 + b) ≤ B) ∧ (∀ m a b, m < y → a < 5 → b < 5 → d (a * 5 + m) < 1000000 → d (m * 5 + b) < 1000000 → d (a * 5 + b) ≤ d (a * 5 + m) + d (m * 5 + b))
theorem FwOK.step {ck d : Nat → Int} {y : Nat} {B : Int} (hy : y < 5) (hB : 0 ≤ B ∧ B ≤ 200000) (h : FwOK ck d y B) : FwOK ck (fwI d y 25) (y + 1) (2 * B) := by
  obtain ⟨hp, hd, hb, ht⟩ := h
  have h0 := hd y hy
  refine ⟨fwI_pot hy hp 25 (Nat.le_refl _), fun a ha => ?_, fun a b ha hbb hf => ?_, fun m a b hm ha hbb h1 h2 => ?_⟩
  · have hp2 := fwI_pot hy hp 25 (Nat.le_refl _) (a * 5 + a) (by omega)
    rw [(dm5 ha).1, (dm5 ha).2] at hp2
    have := fwI_at hy ha ha h0
    have h3 := (stg_facts d y a a).1
    have h4 := hd a ha
    omega
  · rw [fwI_at hy ha hbb h0] at hf ⊢
    rcases (stg_facts d y a b).2.2 with h3 | ⟨h3, h4, h5⟩
    · rw [h3] at hf ⊢
      have := hb a b ha hbb hf
      omega
    · have := hb a y ha hy h3
      have := hb y b hy hbb h4
      omega
  · have hm5 : m < 5 := by omega
    rw [fwI_at hy ha hm5 h0] at h1 ⊢
    rw [fwI_at hy hm5 hbb h0] at h2 ⊢
    rw [fwI_at hy ha hbb h0]
    obtain ⟨a1, a2, a3⟩ := stg_facts d y a b
    obtain ⟨b1, b2, b3⟩ := stg_facts d y a m
    obtain ⟨c1, c2, c3⟩ := stg_facts d y m b
    by_cases e : m = y
    · subst e
      have e1 : stg d m a m = d (a * 5 + m) := by
        unfold stg; rw [h0, if_neg (by omega)]
      have e2 : stg d m m b = d (m * 5 + b) := by
        unfold stg; rw [h0, if_neg (by omega)]
      rw [e1] at h1 ⊢
      rw [e2] at h2 ⊢
      exact a2 h1 h2
    · have hmy : m < y := by omega
      rcases b3 with b3 | ⟨b4, b5, b6⟩ <;> rcases c3 with c3 | ⟨c4, c5, c6⟩
      · rw [b3] at h1 ⊢
        rw [c3] at h2 ⊢
        have := ht m a b hmy ha hbb h1 h2
        omega
      · rw [b3] at h1 ⊢
        rw [c6]
        have g1 := ht m a y hmy ha hy h1 c4
        have g2 := hb a m ha hm5 h1
        have g3 := hb m y hm5 hy c4
        have := a2 (by omega) c5
        omega
      · rw [c3] at h2 ⊢
        rw [b6]
        have g1 := ht m y b hmy hy hbb b5 h2
        have g2 := hb y m hy hm5 b5
        have g3 := hb m b hm5 hbb h2
        have := a2 b4 (by omega)
        omega
      · rw [b6, c6]
        have g1 := ht m y y hmy hy hy b5 c4
        have := a2 b4 c5
        omega
theorem FwOK.all {ck mo le : Nat → Int} (h : EdgeOK ck mo le) : ∀ y, y ≤ 5 → FwOK ck (fwO le y) y (1000 * 2 ^ y)
  | 0, _ => ⟨h.pot, fun a ha => (h.2.1 a ha).2, fun a b ha hb hf => by
      by_cases e : a = b
      · subst e
        have := (h.2.1 a ha).2
        show le (a * 5 + a) ≤ 1000
        omega
      · have h1 := h.1 a b ha hb e
        show le (a * 5 + b) ≤ 1000
        have hf : le (a * 5 + b) < 1000000 := hf
        rcases h1 with ⟨-, h1⟩ | ⟨-, h1, h2, h3⟩ <;> omega, fun m a b hm => absurd hm (Nat.not_lt_zero _)⟩
  | y + 1, hy => by
    have ih := FwOK.all h y (by omega)
    have hB : (0 : Int) ≤ 1000 * 2 ^ y ∧ (1000 * 2 ^ y : Int) ≤ 200000 := by
      rcases (show y = 0 ∨ y = 1 ∨ y = 2 ∨ y = 3 ∨ y = 4 by omega) with rfl | rfl | rfl | rfl | rfl <;> decide
    have := FwOK.step (by omega) hB ih
    rw [show (1000 * 2 ^ (y + 1) : Int) = 2 * (1000 * 2 ^ y) by rw [Int.pow_succ]; omega]
    exact this
theorem fwO_le {ck mo le : Nat → Int} (h : EdgeOK ck mo le) {a b : Nat} (ha : a < 5) (hb : b < 5) : ∀ y, y ≤ 5 → fwO le y (a * 5 + b) ≤ le (a * 5 + b)
  | 0, _ => Int.le_refl _
  | y + 1, hy => by
    have h1 := fwO_le h ha hb y (by omega)
    have h2 := (FwOK.all h y (by omega)).2.1 y (by omega)
    show fwI (fwO le y) y 25 (a * 5 + b) ≤ _
    rw [fwI_at (by omega) ha hb h2]
    have := (stg_facts (fwO le y) y a b).1
    omega
/-- any solution of the steps' bounds is no more than the stages' sums -/
theorem fwO_ge {ck mo le f : Nat → Int} (h : EdgeOK ck mo le) (hf : ∀ a b, a < 5 → b < 5 → f a ≠ 1000000000 → mo (a * 5 + b) ≠ 1000000000 → f b ≠ 1000000000 ∧ f b ≤ f a + mo (a * 5 + b)) : ∀ y, y ≤ 5 → ∀ a b, a < 5 → b < 5 → f a ≠ 1000000000 → fwO le y (a * 5 + b) < 1000000 → f b ≠ 1000000000 ∧ f b ≤ f a + fwO le y (a * 5 + b)
  | 0, _, a, b, ha, hb, h1, h2 => by
    have h2 : le (a * 5 + b) < 1000000 := h2
    show f b ≠ 1000000000 ∧ f b ≤ f a + le (a * 5 + b)
    by_cases e : a = b
    · subst e
      have := (h.2.1 a ha).2
      exact ⟨h1, by omega⟩
    · rcases h.1 a b ha hb e with ⟨-, h3⟩ | ⟨h3, h4, -⟩
      · omega
      · rw [h4]; exact hf a b ha hb h1 h3
  | y + 1, hy, a, b, ha, hb, h1, h2 => by
    have ih := fwO_ge h hf y (by omega)
    have h0 := (FwOK.all h y (by omega)).2.1 y (by omega)
    have h2 : fwI (fwO le y) y 25 (a * 5 + b) < 1000000 := h2
    show f b ≠ 1000000000 ∧ f b ≤ f a + fwI (fwO le y) y 25 (a * 5 + b)
    rw [fwI_at (by omega) ha hb h0] at h2 ⊢
    rcases (stg_facts (fwO le y) y a b).2.2 with h3 | ⟨h3, h4, h5⟩
    · rw [h3] at h2 ⊢; exact ih a b ha hb h1 h2
    · obtain ⟨g1, g2⟩ := ih a y ha (by omega) h1 h3
      obtain ⟨g3, g4⟩ := ih y b (by omega) hb g1 h4
      exact ⟨g3, by omega⟩
/-- rounds, all at once -/
def jm (mo f : Nat → Int) (b : Nat) : Nat → Int
  | 0 => f b
  | a + 1 => if f a ≠ 1000000000 ∧ mo (a * 5 + b) ≠ 1000000000 ∧ f a + mo (a * 5 + b) < jm mo f b a then f a + mo (a * 5 + b) else jm mo f b a
theorem jm_facts (mo f : Nat → Int) (b : Nat) : ∀ n, jm mo f b n ≤ f b ∧ (∀ a, a < n → f a ≠ 1000000000 → mo (a * 5 + b) ≠ 1000000000 → jm mo f b n ≤ f a + mo (a * 5 + b)) ∧ (jm mo f b n = f b ∨ ∃ a, a < n ∧ f a ≠ 1000000000 ∧ mo (a * 5 + b) ≠ 1000000000 ∧ jm mo f b n = f a + mo (a * 5 + b))
  | 0 => ⟨Int.le_refl _, fun a h => absurd h (Nat.not_lt_zero _), Or.inl rfl⟩
  | n + 1 => by
    obtain ⟨h1, h2, h3⟩ := jm_facts mo f b n
    unfold jm
    split
    · rename_i h
      refine ⟨by omega, fun a ha g1 g2 => ?_, Or.inr ⟨n, by omega, h.1, h.2.1, rfl⟩⟩
      by_cases e : a = n
      · subst e; exact Int.le_refl _
      · have := h2 a (by omega) g1 g2; omega
    · rename_i h
      refine ⟨h1, fun a ha g1 g2 => ?_, ?_⟩
      · by_cases e : a = n
        · subst e
          rcases Int.lt_or_le (f a + mo (a * 5 + b)) (jm mo f b a) with g | g
          · exact absurd ⟨g1, g2, g⟩ h
          · exact g
        · exact h2 a (by omega) g1 g2
      · rcases h3 with h3 | ⟨a, g1, g2⟩
        · exact Or.inl h3
        · exact Or.inr ⟨a, by omega, g2⟩
def jk (mo : Nat → Int) (x : Nat) : Nat → (Nat → Int)
  | 0 => re0 x
  | k + 1 => fun b => jm mo (jk mo x k) b 5
theorem jk_mono (mo : Nat → Int) (x k b : Nat) : jk mo x (k + 1) b ≤ jk mo x k b := (jm_facts mo (jk mo x k) b 5).1
theorem jk_monoN (mo : Nat → Int) (x b : Nat) : ∀ i j, i ≤ j → jk mo x j b ≤ jk mo x i b := by
  intro i j hij
  induction j with
  | zero => rw [show i = 0 by omega]; exact Int.le_refl _
  | succ j ih =>
    rcases Nat.lt_or_ge i (j + 1) with h | h
    · have := ih (by omega)
      have := jk_mono mo x j b
      omega
    · rw [show i = j + 1 by omega]; exact Int.le_refl _
theorem jk_0 (x b : Nat) : re0 x b = 1000000000 ∨ (b = x ∧ re0 x b = 0) := by
  unfold re0 updI
  by_cases h : b = x
  · exact Or.inr ⟨h, if_pos h⟩
  · exact Or.inl (if_neg h)
/-- why a value fell in a round: by a step from one that fell in the round before -/
theorem jk_chain {mo : Nat → Int} {x k y : Nat} (h : jk mo x (k + 1) y < jk mo x k y) : ∃ a, a < 5 ∧ mo (a * 5 + y) ≠ 1000000000 ∧ jk mo x (k + 1) y = jk mo x k a + mo (a * 5 + y) ∧ jk mo x k a ≠ 1000000000 ∧ (k = 0 ∨ jk mo x k a < jk mo x (k - 1) a) := by
  rcases (jm_facts mo (jk mo x k) y 5).2.2 with h1 | ⟨a, ha, h1, h2, h3⟩
  · exact absurd (show jk mo x (k + 1) y = jk mo x k y from h1) (by omega)
  · refine ⟨a, ha, h2, h3, h1, ?_⟩
    cases k with
    | zero => exact Or.inl rfl
    | succ k =>
      refine Or.inr ?_
      show jk mo x (k + 1) a < jk mo x k a
      rcases Int.lt_or_le (jk mo x (k + 1) a) (jk mo x k a) with g | g
      · exact g
      · have g2 := jk_mono mo x k a
        have g3 : jk mo x (k + 1) a = jk mo x k a := by omega
        have g4 := (jm_facts mo (jk mo x k) y 5).2.1 a ha (by rw [← g3]; exact h1) h2
        have g5 : jk mo x (k + 1) y ≤ jk mo x k a + mo (a * 5 + y) := g4
        have h3 : jk mo x (k + 1 + 1) y = jk mo x (k + 1) a + mo (a * 5 + y) := h3
        omega
theorem pigB : ((List.range 5).all fun a => (List.range 5).all fun b => b == a || (List.range 5).all fun c => c == a || (c == b || (List.range 5).all fun d => d == a || (d == b || (d == c || (List.range 5).all fun e => e == a || (e == b || (e == c || (e == d || (List.range 5).all fun f => f == a || (f == b || (f == c || (f == d || f == e)))))))))) = true := by decide
theorem pig5 : ∀ a, a < 5 → ∀ b, b < 5 → b ≠ a → ∀ c, c < 5 → c ≠ a → c ≠ b → ∀ d, d < 5 → d ≠ a → d ≠ b → d ≠ c → ∀ e, e < 5 → e ≠ a → e ≠ b → e ≠ c → e ≠ d → ∀ f, f < 5 → f ≠ a → f ≠ b → f ≠ c → f ≠ d → f ≠ e → False := by
  intro a ha b hb hba c hc hca hcb d hd hda hdb hdc e he hea heb hec hed f hf hfa hfb hfc hfd hfe
  have h := pigB
  simp only [List.all_eq_true, List.mem_range, Bool.or_eq_true, beq_iff_eq] at h
  rcases h a ha b hb with h | h
  · exact hba h
  rcases h c hc with h | h | h
  · exact hca h
  · exact hcb h
  rcases h d hd with h | h | h | h
  · exact hda h
  · exact hdb h
  · exact hdc h
  rcases h e he with h | h | h | h | h
  · exact hea h
  · exact heb h
  · exact hec h
  · exact hed h
  rcases h f hf with h | h | h | h | h
  · exact hfa h
  · exact hfb h
  · exact hfc h
  · exact hfd h
  · exact hfe h
/-- two of a falling chain are never one node -/
theorem jk_apart {mo ck : Nat → Int} {x i j u v : Nat} (hij : i < j) (hv : jk mo x j v < jk mo x (j - 1) v) (hr : jk mo x i u - ck u ≤ jk mo x j v - ck v) : v ≠ u := by
  intro e
  subst e
  have := jk_monoN mo x v i (j - 1) (by omega)
  omega
theorem jk_4 {ck mo le : Nat → Int} (h : EdgeOK ck mo le) (x y : Nat) (hy : y < 5) : ¬ jk mo x 5 y < jk mo x 4 y := by
  intro h5
  have ed : ∀ a b, a < 5 → b < 5 → mo (a * 5 + b) ≠ 1000000000 → ck b - ck a ≤ mo (a * 5 + b) := by
    intro a b ha hb hm
    by_cases e : a = b
    · subst e; exact absurd (h.2.1 a ha).1 hm
    · rcases h.1 a b ha hb e with ⟨g, -⟩ | ⟨-, -, g, -⟩
      · exact absurd g hm
      · exact g
  obtain ⟨y4, l4, m4, e4, -, c4⟩ := jk_chain h5
  have h4 : jk mo x 4 y4 < jk mo x 3 y4 := c4.resolve_left (by decide)
  obtain ⟨y3, l3, m3, e3, -, c3⟩ := jk_chain h4
  have h3 : jk mo x 3 y3 < jk mo x 2 y3 := c3.resolve_left (by decide)
  obtain ⟨y2, l2, m2, e2, -, c2⟩ := jk_chain h3
  have h2 : jk mo x 2 y2 < jk mo x 1 y2 := c2.resolve_left (by decide)
  obtain ⟨y1, l1, m1, e1, -, c1⟩ := jk_chain h2
  have h1 : jk mo x 1 y1 < jk mo x 0 y1 := c1.resolve_left (by decide)
  obtain ⟨y0, l0, m0, e0, -, -⟩ := jk_chain h1
  have e4 : jk mo x 5 y = jk mo x 4 y4 + mo (y4 * 5 + y) := e4
  have e3 : jk mo x 4 y4 = jk mo x 3 y3 + mo (y3 * 5 + y4) := e3
  have e2 : jk mo x 3 y3 = jk mo x 2 y2 + mo (y2 * 5 + y3) := e2
  have e1 : jk mo x 2 y2 = jk mo x 1 y1 + mo (y1 * 5 + y2) := e1
  have e0 : jk mo x 1 y1 = jk mo x 0 y0 + mo (y0 * 5 + y1) := e0
  have d0 := ed y0 y1 l0 l1 m0
  have d1 := ed y1 y2 l1 l2 m1
  have d2 := ed y2 y3 l2 l3 m2
  have d3 := ed y3 y4 l3 l4 m3
  have d4 := ed y4 y l4 hy m4
  exact pig5 y0 l0 y1 l1 (jk_apart (ck := ck) (i := 0) (j := 1) (by decide) h1 (by omega)) y2 l2 (jk_apart (ck := ck) (i := 0) (j := 2) (by decide) h2 (by omega)) (jk_apart (ck := ck) (i := 1) (j := 2) (by decide) h2 (by omega))
    y3 l3 (jk_apart (ck := ck) (i := 0) (j := 3) (by decide) h3 (by omega)) (jk_apart (ck := ck) (i := 1) (j := 3) (by decide) h3 (by omega)) (jk_apart (ck := ck) (i := 2) (j := 3) (by decide) h3 (by omega))
    y4 l4 (jk_apart (ck := ck) (i := 0) (j := 4) (by decide) h4 (by omega)) (jk_apart (ck := ck) (i := 1) (j := 4) (by decide) h4 (by omega)) (jk_apart (ck := ck) (i := 2) (j := 4) (by decide) h4 (by omega)) (jk_apart (ck := ck) (i := 3) (j := 4) (by decide) h4 (by omega))
    y hy (jk_apart (ck := ck) (i := 0) (j := 5) (by decide) h5 (by omega)) (jk_apart (ck := ck) (i := 1) (j := 5) (by decide) h5 (by omega)) (jk_apart (ck := ck) (i := 2) (j := 5) (by decide) h5 (by omega)) (jk_apart (ck := ck) (i := 3) (j := 5) (by decide) h5 (by omega)) (jk_apart (ck := ck) (i := 4) (j := 5) (by decide) h5 (by omega))
theorem edge_le {ck mo le : Nat → Int} (h : EdgeOK ck mo le) {a b : Nat} (ha : a < 5) (hb : b < 5) (h2 : mo (a * 5 + b) ≠ 1000000000) : mo (a * 5 + b) ≤ 1000 ∧ ck b - ck a ≤ mo (a * 5 + b) ∧ le (a * 5 + b) = mo (a * 5 + b) := by
  by_cases e : a = b
  · subst e; exact absurd (h.2.1 a ha).1 h2
  · rcases h.1 a b ha hb e with ⟨g, -⟩ | ⟨-, g1, g2, g3⟩
    · exact absurd g h2
    · exact ⟨g3, g2, g1⟩
theorem jk_small {ck mo le : Nat → Int} (h : EdgeOK ck mo le) (x : Nat) : ∀ k b, b < 5 → jk mo x k b = 1000000000 ∨ jk mo x k b ≤ 1000 * (k : Int)
  | 0, b, _ => by
    rcases jk_0 x b with g | ⟨-, g⟩
    · exact Or.inl g
    · refine Or.inr ?_
      show re0 x b ≤ 1000 * ((0 : Nat) : Int)
      omega
  | k + 1, b, hb => by
    rcases (jm_facts mo (jk mo x k) b 5).2.2 with h1 | ⟨a, ha, h1, h2, h3⟩
    · have h1 : jk mo x (k + 1) b = jk mo x k b := h1
      rcases jk_small h x k b hb with g | g
      · exact Or.inl (by omega)
      · exact Or.inr (by omega)
    · have h3 : jk mo x (k + 1) b = jk mo x k a + mo (a * 5 + b) := h3
      have h4 := (edge_le h ha hb h2).1
      rcases jk_small h x k a ha with g | g
      · exact absurd g h1
      · exact Or.inr (by omega)
/-- the rounds' least sums are no more than the stages' -/
theorem jk_le {ck mo le : Nat → Int} (h : EdgeOK ck mo le) {x y : Nat} (hx : x < 5) (hy : y < 5) (hf : fwO le 5 (x * 5 + y) < 1000000) : jk mo x 4 y ≤ fwO le 5 (x * 5 + y) := by
  have hx0 : jk mo x 4 x ≤ 0 := by
    have h1 := jk_monoN mo x x 0 4 (by decide)
    have h2 : jk mo x 0 x = 0 := by show re0 x x = 0; unfold re0; exact updI_s
    omega
  have feas : ∀ a b, a < 5 → b < 5 → jk mo x 4 a ≠ 1000000000 → mo (a * 5 + b) ≠ 1000000000 → jk mo x 4 b ≠ 1000000000 ∧ jk mo x 4 b ≤ jk mo x 4 a + mo (a * 5 + b) := by
    intro a b ha hb h1 h2
    have h3 : jk mo x 5 b ≤ jk mo x 4 a + mo (a * 5 + b) := (jm_facts mo (jk mo x 4) b 5).2.1 a ha h1 h2
    have h4 := jk_4 h x b hb
    have h6 := (edge_le h ha hb h2).1
    have h7 : jk mo x 4 b ≤ jk mo x 4 a + mo (a * 5 + b) := by omega
    have h8 := (jk_small h x 4 a ha).resolve_left h1
    exact ⟨by omega, h7⟩
  have := (fwO_ge h feas 5 (Nat.le_refl _) x y hx hy (by omega) hf).2
  omega
/-- the class's rounds, one after another in place, are no more than these -/
theorem rlx_mono (mo re : Nat → Int) (a k : Nat) : ∀ j, rlx mo a re (j + 1) k ≤ rlx mo a re j k := by
  intro j
  show (if mo (a * 5 + j) = 1000000000 then rlx mo a re j else updI (rlx mo a re j) j (if rlx mo a re j a + mo (a * 5 + j) < rlx mo a re j j then rlx mo a re j a + mo (a * 5 + j) else rlx mo a re j j)) k ≤ _
  split
  · exact Int.le_refl _
  · unfold updI
    split
    · rename_i e
      subst e
      split <;> omega
    · exact Int.le_refl _
theorem rlx_monoN (mo re : Nat → Int) (a k : Nat) : ∀ i j, i ≤ j → rlx mo a re j k ≤ rlx mo a re i k := by
  intro i j hij
  induction j with
  | zero => rw [show i = 0 by omega]; exact Int.le_refl _
  | succ j ih =>
    rcases Nat.lt_or_ge i (j + 1) with h | h
    · have := ih (by omega)
      have := rlx_mono mo re a k j
      omega
    · rw [show i = j + 1 by omega]; exact Int.le_refl _
theorem stp_mono (mo re : Nat → Int) (a k : Nat) : stp mo a re k ≤ re k := by
  unfold stp
  split
  · exact Int.le_refl _
  · exact rlx_monoN mo re a k 0 5 (by decide)
theorem stp_rel {mo re : Nat → Int} {a b : Nat} (hb : b < 5) (h1 : re a ≠ 1000000000) (h2 : mo (a * 5 + b) ≠ 1000000000) : stp mo a re b ≤ re a + mo (a * 5 + b) := by
  unfold stp
  rw [if_neg h1]
  have g1 := rlx_monoN mo re a b (b + 1) 5 (by omega)
  have g2 := rlx_monoN mo re a a 0 b (Nat.zero_le _)
  have g3 : rlx mo a re (b + 1) b ≤ rlx mo a re b a + mo (a * 5 + b) := by
    show (if mo (a * 5 + b) = 1000000000 then rlx mo a re b else updI (rlx mo a re b) b (if rlx mo a re b a + mo (a * 5 + b) < rlx mo a re b b then rlx mo a re b a + mo (a * 5 + b) else rlx mo a re b b)) b ≤ _
    rw [if_neg h2, updI_s]
    split <;> omega
  have g4 : rlx mo a re 0 a = re a := rfl
  omega
theorem rnd_mono (mo re : Nat → Int) (k : Nat) : ∀ i j, i ≤ j → rnd mo re j k ≤ rnd mo re i k := by
  intro i j hij
  induction j with
  | zero => rw [show i = 0 by omega]; exact Int.le_refl _
  | succ j ih =>
    rcases Nat.lt_or_ge i (j + 1) with h | h
    · have h1 := ih (by omega)
      have h2 : rnd mo re (j + 1) k ≤ rnd mo re j k := stp_mono mo (rnd mo re j) j k
      omega
    · rw [show i = j + 1 by omega]; exact Int.le_refl _
theorem rnd_jm {mo re f : Nat → Int} (hf : ∀ k, k < 5 → f k ≤ 1000000000) (h : ∀ k, k < 5 → re k ≤ f k) : ∀ b, b < 5 → rnd mo re 5 b ≤ jm mo f b 5 := by
  intro b hb
  rcases (jm_facts mo f b 5).2.2 with h1 | ⟨a, ha, h1, h2, h3⟩
  · rw [h1]
    have := rnd_mono mo re b 0 5 (by decide)
    have h4 : rnd mo re 0 b = re b := rfl
    have := h b hb
    omega
  · rw [h3]
    have g1 := rnd_mono mo re a 0 a (Nat.zero_le _)
    have g2 : rnd mo re 0 a = re a := rfl
    have g3 := h a ha
    have g4 := hf a ha
    have g5 : stp mo a (rnd mo re a) b ≤ rnd mo re a a + mo (a * 5 + b) := stp_rel hb (by omega) h2
    have g6 : rnd mo re (a + 1) b = stp mo a (rnd mo re a) b := rfl
    have g7 := rnd_mono mo re b (a + 1) 5 (by omega)
    omega
theorem rnds_jk (mo : Nat → Int) (x : Nat) : ∀ r b, b < 5 → rnds mo (re0 x) r b ≤ jk mo x r b
  | 0, b, _ => Int.le_refl _
  | r + 1, b, hb => rnd_jm (f := jk mo x r) (fun k hk => by
      have h1 := jk_monoN mo x k 0 r (Nat.zero_le _)
      have h2 : jk mo x 0 k ≤ 1000000000 := by rcases jk_0 x k with h | ⟨-, h⟩ <;> (show re0 x k ≤ 1000000000; omega)
      omega) (rnds_jk mo x r) b hb
/-- and no less than the stages' -/
def GeOK (d : Nat → Int) (x : Nat) (r : Nat → Int) : Prop := ∀ k, k < 5 → r k ≠ 1000000000 → d (x * 5 + k) < 1000000 ∧ d (x * 5 + k) ≤ r k
theorem rlx_ge {ck mo le re : Nat → Int} {x a : Nat} (h : EdgeOK ck mo le) (hx : x < 5) (ha : a < 5) (hr : GeOK (fwO le 5) x re) (hre : ∀ k, k < 5 → re k ≤ 1000000000) (h0 : re a ≠ 1000000000) : ∀ j, j ≤ 5 → GeOK (fwO le 5) x (rlx mo a re j)
  | 0, _ => hr
  | j + 1, hj => by
    have ih := rlx_ge h hx ha hr hre h0 j (by omega)
    have hfw := FwOK.all h 5 (Nat.le_refl _)
    intro k hk
    show (if mo (a * 5 + j) = 1000000000 then rlx mo a re j else updI (rlx mo a re j) j (if rlx mo a re j a + mo (a * 5 + j) < rlx mo a re j j then rlx mo a re j a + mo (a * 5 + j) else rlx mo a re j j)) k ≠ 1000000000 → _ ∧ _ ≤ (if mo (a * 5 + j) = 1000000000 then rlx mo a re j else updI (rlx mo a re j) j (if rlx mo a re j a + mo (a * 5 + j) < rlx mo a re j j then rlx mo a re j a + mo (a * 5 + j) else rlx mo a re j j)) k
    by_cases hm : mo (a * 5 + j) = 1000000000
    · rw [if_pos hm]; exact ih k hk
    · rw [if_neg hm]
      by_cases e : k = j
      · subst e
        rw [updI_s]
        by_cases hl : rlx mo a re k a + mo (a * 5 + k) < rlx mo a re k k
        · rw [if_pos hl]
          intro _
          have g1 := rlx_monoN mo re a a 0 k (Nat.zero_le _)
          have g2 : rlx mo a re 0 a = re a := rfl
          have g3 := hre a ha
          obtain ⟨g4, g5⟩ := ih a ha (by omega)
          obtain ⟨g6, g7, g8⟩ := edge_le h ha hk hm
          have g9 := fwO_le h ha hk 5 (Nat.le_refl _)
          have g10 := hfw.2.2.2 a x k (by omega) hx hk g4 (by omega)
          have g11 := hfw.2.2.1 x a hx ha g4
          have g12 : (1000 * 2 ^ 5 : Int) = 32000 := by decide
          exact ⟨by omega, by omega⟩
        · rw [if_neg hl]; exact ih k hk
      · rw [updI_n e]; exact ih k hk
theorem stp_ge {ck mo le re : Nat → Int} {x a : Nat} (h : EdgeOK ck mo le) (hx : x < 5) (ha : a < 5) (hr : GeOK (fwO le 5) x re) (hre : ∀ k, k < 5 → re k ≤ 1000000000) : GeOK (fwO le 5) x (stp mo a re) ∧ ∀ k, k < 5 → stp mo a re k ≤ 1000000000 := by
  refine ⟨?_, fun k hk => Int.le_trans (stp_mono mo re a k) (hre k hk)⟩
  unfold stp
  by_cases h0 : re a = 1000000000
  · rw [if_pos h0]; exact hr
  · rw [if_neg h0]; exact rlx_ge h hx ha hr hre h0 5 (Nat.le_refl _)
theorem rnd_ge {ck mo le re : Nat → Int} {x : Nat} (h : EdgeOK ck mo le) (hx : x < 5) (hr : GeOK (fwO le 5) x re) (hre : ∀ k, k < 5 → re k ≤ 1000000000) : ∀ a, a ≤ 5 → GeOK (fwO le 5) x (rnd mo re a) ∧ ∀ k, k < 5 → rnd mo re a k ≤ 1000000000
  | 0, _ => ⟨hr, hre⟩
  | a + 1, ha => by
    have ih := rnd_ge h hx hr hre a (by omega)
    exact stp_ge h hx (by omega) ih.1 ih.2
theorem rnds_ge {ck mo le : Nat → Int} {x : Nat} (h : EdgeOK ck mo le) (hx : x < 5) : ∀ r, GeOK (fwO le 5) x (rnds mo (re0 x) r) ∧ ∀ k, k < 5 → rnds mo (re0 x) r k ≤ 1000000000
  | 0 => by
    refine ⟨fun k hk hne => ?_, fun k _ => ?_⟩
    · have hne : re0 x k ≠ 1000000000 := hne
      show fwO le 5 (x * 5 + k) < 1000000 ∧ fwO le 5 (x * 5 + k) ≤ re0 x k
      rcases jk_0 x k with g | ⟨g1, g2⟩
      · exact absurd g hne
      · have := (FwOK.all h 5 (Nat.le_refl _)).2.1 x hx
        rw [g1] at g2 ⊢
        omega
    · show re0 x k ≤ 1000000000
      rcases jk_0 x k with g | ⟨-, g⟩ <;> omega
  | r + 1 => by
    have ih := rnds_ge h hx r
    exact rnd_ge h hx ih.1 ih.2 5 (Nat.le_refl _)
/-- THE LEAST SUMS ARE THE SAME -/
theorem tight_eq {ck mo le : Nat → Int} (h : EdgeOK ck mo le) {x y : Nat} (hx : x < 5) (hy : y < 5) : (fwO le 5 (x * 5 + y) = 1000000 ∧ rnds mo (re0 x) 4 y = 1000000000) ∨ (fwO le 5 (x * 5 + y) ≠ 1000000 ∧ rnds mo (re0 x) 4 y ≠ 1000000000 ∧ rnds mo (re0 x) 4 y = fwO le 5 (x * 5 + y) ∧ -198 ≤ fwO le 5 (x * 5 + y) ∧ fwO le 5 (x * 5 + y) ≤ 32000) := by
  have hfw := FwOK.all h 5 (Nat.le_refl _)
  have hp := hfw.1 (x * 5 + y) (by omega)
  rw [(dm5 hy).1, (dm5 hy).2] at hp
  have k1 := h.2.2 x hx
  have k2 := h.2.2 y hy
  have hg := (rnds_ge h hx 4).1 y hy
  rcases Int.lt_or_le (fwO le 5 (x * 5 + y)) 1000000 with g | g
  · have h1 := jk_le h hx hy g
    have h2 := rnds_jk mo x 4 y hy
    have h3 := hg (by omega)
    have h4 := hfw.2.2.1 x y hx hy g
    have g12 : (1000 * 2 ^ 5 : Int) = 32000 := by decide
    exact Or.inr ⟨by omega, by omega, by omega, by omega, by omega⟩
  · refine Or.inl ⟨by omega, ?_⟩
    rcases Decidable.em (rnds mo (re0 x) 4 y = 1000000000) with e | e
    · exact e
    · have := (hg e).1
      omega
