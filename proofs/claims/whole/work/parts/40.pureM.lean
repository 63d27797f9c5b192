/-! The reference's one row of numbers, by its parts; its own pure words -/
def stF (mn tA sA kA : Int) (nb ck hi lo ha cn sm : Nat → Int) : Nat → Int := fun k =>
  if k = 0 then mn else if k = 1 then tA else if k = 2 then sA else if k = 3 then kA else if k < 28 then nb (k - 4) else if k < 33 then ck (k - 28) else if k < 58 then hi (k - 33) else if k < 83 then lo (k - 58) else if k < 108 then ha (k - 83) else if k < 1108 then cn (k - 108) else sm (k - 1108)
section STF
variable {mn tA sA kA : Int} {nb ck hi lo ha cn sm : Nat → Int} {k j : Nat} {v : Int}
theorem st_mn : stF mn tA sA kA nb ck hi lo ha cn sm 0 = mn := rfl
theorem st_tA : stF mn tA sA kA nb ck hi lo ha cn sm 1 = tA := rfl
theorem st_sA : stF mn tA sA kA nb ck hi lo ha cn sm 2 = sA := rfl
theorem st_kA : stF mn tA sA kA nb ck hi lo ha cn sm 3 = kA := rfl
theorem st_nb (h : k = 4 + j) (hj : j < 24) : stF mn tA sA kA nb ck hi lo ha cn sm k = nb j := by
  subst h; unfold stF
  rw [if_neg (by omega), if_neg (by omega), if_neg (by omega), if_neg (by omega), if_pos (by omega), show 4 + j - 4 = j by omega]
theorem st_ck (h : k = 28 + j) (hj : j < 5) : stF mn tA sA kA nb ck hi lo ha cn sm k = ck j := by
  subst h; unfold stF
  rw [if_neg (by omega), if_neg (by omega), if_neg (by omega), if_neg (by omega), if_neg (by omega), if_pos (by omega), show 28 + j - 28 = j by omega]
theorem st_hi (h : k = 33 + j) (hj : j < 25) : stF mn tA sA kA nb ck hi lo ha cn sm k = hi j := by
  subst h; unfold stF
  rw [if_neg (by omega), if_neg (by omega), if_neg (by omega), if_neg (by omega), if_neg (by omega), if_neg (by omega), if_pos (by omega), show 33 + j - 33 = j by omega]
theorem st_lo (h : k = 58 + j) (hj : j < 25) : stF mn tA sA kA nb ck hi lo ha cn sm k = lo j := by
  subst h; unfold stF
  rw [if_neg (by omega), if_neg (by omega), if_neg (by omega), if_neg (by omega), if_neg (by omega), if_neg (by omega), if_neg (by omega), if_pos (by omega), show 58 + j - 58 = j by omega]
theorem st_ha (h : k = 83 + j) (hj : j < 25) : stF mn tA sA kA nb ck hi lo ha cn sm k = ha j := by
  subst h; unfold stF
  rw [if_neg (by omega), if_neg (by omega), if_neg (by omega), if_neg (by omega), if_neg (by omega), if_neg (by omega), if_neg (by omega), if_neg (by omega), if_pos (by omega), show 83 + j - 83 = j by omega]
theorem st_cn (h : k = 108 + j) (hj : j < 1000) : stF mn tA sA kA nb ck hi lo ha cn sm k = cn j := by
  subst h; unfold stF
  rw [if_neg (by omega), if_neg (by omega), if_neg (by omega), if_neg (by omega), if_neg (by omega), if_neg (by omega), if_neg (by omega), if_neg (by omega), if_neg (by omega), if_pos (by omega), show 108 + j - 108 = j by omega]
theorem st_sm (h : k = 1108 + j) (_ : j < 1000) : stF mn tA sA kA nb ck hi lo ha cn sm k = sm j := by
  subst h; unfold stF
  rw [if_neg (by omega), if_neg (by omega), if_neg (by omega), if_neg (by omega), if_neg (by omega), if_neg (by omega), if_neg (by omega), if_neg (by omega), if_neg (by omega), if_neg (by omega), show 1108 + j - 1108 = j by omega]
theorem su_mn : updI (stF mn tA sA kA nb ck hi lo ha cn sm) 0 v = stF v tA sA kA nb ck hi lo ha cn sm := by
  funext x; unfold updI stF; by_cases h : x = 0
  · simp [h]
  · simp [h]
theorem su_tA : updI (stF mn tA sA kA nb ck hi lo ha cn sm) 1 v = stF mn v sA kA nb ck hi lo ha cn sm := by
  funext x; unfold updI stF; by_cases h : x = 1
  · simp [h]
  · simp [h]
theorem su_sA : updI (stF mn tA sA kA nb ck hi lo ha cn sm) 2 v = stF mn tA v kA nb ck hi lo ha cn sm := by
  funext x; unfold updI stF; by_cases h : x = 2
  · simp [h]
  · simp [h]
theorem su_kA : updI (stF mn tA sA kA nb ck hi lo ha cn sm) 3 v = stF mn tA sA v nb ck hi lo ha cn sm := by
  funext x; unfold updI stF; by_cases h : x = 3
  · simp [h]
  · simp [h]
end STF
/-- two parts that agree but at one place -/
theorem su_gen {F G : Nat → Int} {k : Nat} {v : Int} (h1 : G k = v) (h2 : ∀ x, x ≠ k → G x = F x) : updI F k v = G := by
  funext x
  by_cases h : x = k
  · subst h; rw [updI_s, h1]
  · rw [updI_n h, h2 x h]
section SUF
variable {mn tA sA kA : Int} {nb ck hi lo ha cn sm : Nat → Int} {k j : Nat} {v : Int}
theorem su_nb (h : k = 4 + j) (hj : j < 24) : updI (stF mn tA sA kA nb ck hi lo ha cn sm) k v = stF mn tA sA kA (updI nb j v) ck hi lo ha cn sm := by
  refine su_gen (by rw [st_nb h hj, updI_s]) (fun x hx => ?_)
  unfold stF
  by_cases e : x - 4 = j
  · rcases (show x = 0 ∨ x = 1 ∨ x = 2 ∨ x = 3 by omega) with rfl | rfl | rfl | rfl <;> rfl
  · rw [updI_n e]
theorem su_ck (h : k = 28 + j) (hj : j < 5) : updI (stF mn tA sA kA nb ck hi lo ha cn sm) k v = stF mn tA sA kA nb (updI ck j v) hi lo ha cn sm := by
  refine su_gen (by rw [st_ck h hj, updI_s]) (fun x hx => ?_)
  unfold stF
  by_cases e : x - 28 = j
  · have hB : x < 28 := by omega
    rw [if_pos hB, if_pos hB]
  · rw [updI_n e]
theorem su_hi (h : k = 33 + j) (hj : j < 25) : updI (stF mn tA sA kA nb ck hi lo ha cn sm) k v = stF mn tA sA kA nb ck (updI hi j v) lo ha cn sm := by
  refine su_gen (by rw [st_hi h hj, updI_s]) (fun x hx => ?_)
  unfold stF
  by_cases e : x - 33 = j
  · have hB : x < 33 := by omega
    rw [if_pos hB, if_pos hB]
  · rw [updI_n e]
theorem su_lo (h : k = 58 + j) (hj : j < 25) : updI (stF mn tA sA kA nb ck hi lo ha cn sm) k v = stF mn tA sA kA nb ck hi (updI lo j v) ha cn sm := by
  refine su_gen (by rw [st_lo h hj, updI_s]) (fun x hx => ?_)
  unfold stF
  by_cases e : x - 58 = j
  · have hB : x < 58 := by omega
    rw [if_pos hB, if_pos hB]
  · rw [updI_n e]
theorem su_ha (h : k = 83 + j) (hj : j < 25) : updI (stF mn tA sA kA nb ck hi lo ha cn sm) k v = stF mn tA sA kA nb ck hi lo (updI ha j v) cn sm := by
  refine su_gen (by rw [st_ha h hj, updI_s]) (fun x hx => ?_)
  unfold stF
  by_cases e : x - 83 = j
  · have hB : x < 83 := by omega
    rw [if_pos hB, if_pos hB]
  · rw [updI_n e]
theorem su_cn (h : k = 108 + j) (hj : j < 1000) : updI (stF mn tA sA kA nb ck hi lo ha cn sm) k v = stF mn tA sA kA nb ck hi lo ha (updI cn j v) sm := by
  refine su_gen (by rw [st_cn h hj, updI_s]) (fun x hx => ?_)
  unfold stF
  by_cases e : x - 108 = j
  · have hB : x < 108 := by omega
    rw [if_pos hB, if_pos hB]
  · rw [updI_n e]
theorem su_sm (h : k = 1108 + j) (hj : j < 1000) : updI (stF mn tA sA kA nb ck hi lo ha cn sm) k v = stF mn tA sA kA nb ck hi lo ha cn (updI sm j v) := by
  refine su_gen (by rw [st_sm h hj, updI_s]) (fun x hx => ?_)
  unfold stF
  by_cases e : x - 1108 = j
  · have hB : x < 1108 := by omega
    rw [if_pos hB, if_pos hB]
  · rw [updI_n e]
end SUF
theorem ln_02 : ∀ k, k < 6 → (k = 0 ∨ k = 2) → lnLeast k = 1 ∧ lnMost k = 20 := by decide
theorem ln_un : ∀ k, k < 6 → k ≠ 0 → k ≠ 2 → lnLeast k = 0 ∧ lnMost k = 9 := by decide
/-- the places of a node among the pairs, cleared -/
def fgh (ha : Nat → Int) (n i : Nat) : Nat → Int := fun k => if (k / 5 = n ∧ k % 5 < i) ∨ (k % 5 = n ∧ k / 5 < i) then 0 else ha k
theorem fgh_0 (ha : Nat → Int) (n : Nat) : ha = fgh ha n 0 := by funext k; simp [fgh]
theorem fgh_s (ha : Nat → Int) (n i : Nat) (hn : n < 5) (hi : i < 5) : updI (updI (fgh ha n i) (n * 5 + i) 0) (i * 5 + n) 0 = fgh ha n (i + 1) := by
  funext k
  unfold updI fgh
  by_cases h1 : k = i * 5 + n
  · rw [if_pos h1, if_pos (Or.inr (by omega))]
  · rw [if_neg h1]
    by_cases h2 : k = n * 5 + i
    · rw [if_pos h2, if_pos (Or.inl (by omega))]
    · rw [if_neg h2]
      by_cases h3 : (k / 5 = n ∧ k % 5 < i) ∨ (k % 5 = n ∧ k / 5 < i)
      · rw [if_pos h3, if_pos (by omega)]
      · rw [if_neg h3, if_neg (by omega)]
def hiN (ha hi : Nat → Int) (q : Nat) (x : Int) : Int := if ha q = 1 ∧ hi q < x then hi q else x
def loN (ha lo : Nat → Int) (q : Nat) (y : Int) : Int := if ha q = 1 ∧ y < lo q then lo q else y
/-- the least sums: laid, then by way of each node -/
def lay0 (hi lo ha : Nat → Int) (i : Nat) : Int := if i / 5 = i % 5 then 0 else if ha (if i / 5 < i % 5 then i else (i % 5) * 5 + i / 5) = 0 then 1000000 else if i / 5 < i % 5 then hi i else -lo ((i % 5) * 5 + i / 5)
def fwV (r : Nat → Int) (y i : Nat) : Int := if r ((i / 5) * 5 + y) < 1000000 ∧ r (y * 5 + i % 5) < 1000000 ∧ r ((i / 5) * 5 + y) + r (y * 5 + i % 5) < r i then r ((i / 5) * 5 + y) + r (y * 5 + i % 5) else r i
def fwI (le : Nat → Int) (y : Nat) : Nat → (Nat → Int)
  | 0 => le
  | i + 1 => updI (fwI le y i) i (fwV (fwI le y i) y i)
def fwO (le : Nat → Int) : Nat → (Nat → Int)
  | 0 => le
  | y + 1 => fwI (fwO le y) y 25
def potOK (ck le : Nat → Int) : Prop := ∀ i, i < 25 → ck (i % 5) - ck (i / 5) ≤ le i ∧ le i ≤ 1000000
theorem fwV_pot {ck r : Nat → Int} {y i : Nat} (hy : y < 5) (hi : i < 25) (h : potOK ck r) : ck (i % 5) - ck (i / 5) ≤ fwV r y i ∧ fwV r y i ≤ 1000000 := by
  have h1 := h ((i / 5) * 5 + y) (by omega)
  have h2 := h (y * 5 + i % 5) (by omega)
  have h3 := h i hi
  rw [show ((i / 5) * 5 + y) % 5 = y by omega, show ((i / 5) * 5 + y) / 5 = i / 5 by omega] at h1
  rw [show (y * 5 + i % 5) % 5 = i % 5 by omega, show (y * 5 + i % 5) / 5 = y by omega] at h2
  unfold fwV
  split <;> omega
theorem fwI_pot {ck le : Nat → Int} {y : Nat} (hy : y < 5) (h : potOK ck le) : ∀ i, i ≤ 25 → potOK ck (fwI le y i)
  | 0, _ => h
  | i + 1, hi => by
    have ih := fwI_pot hy h i (by omega)
    intro k hk
    show ck (k % 5) - ck (k / 5) ≤ updI (fwI le y i) i (fwV (fwI le y i) y i) k ∧ updI (fwI le y i) i (fwV (fwI le y i) y i) k ≤ 1000000
    by_cases e : k = i
    · subst e; rw [updI_s]; exact fwV_pot hy hk ih
    · rw [updI_n e]; exact ih k hk
theorem fwO_pot {ck le : Nat → Int} (h : potOK ck le) : ∀ y, y ≤ 5 → potOK ck (fwO le y)
  | 0, _ => h
  | y + 1, hy => fwI_pot (by omega) (fwO_pot h y (by omega)) 25 (Nat.le_refl _)
/-- images: two rows in one; what is kept -/
def imF (iA iB : Nat → Int) : Nat → Int := fun k => if k < 2108 then iA k else iB (k - 2108)
def kpF (b0 b1 : Int) : Nat → Int := fun k => if k = 0 then b0 else if k = 1 then b1 else 0
theorem kp_0 {b0 b1 : Int} : kpF b0 b1 0 = b0 := rfl
theorem kp_1 {b0 b1 : Int} : kpF b0 b1 1 = b1 := rfl
theorem ku_0 {b0 b1 v : Int} : updI (kpF b0 b1) 0 v = kpF v b1 := by
  funext x; unfold updI kpF; by_cases h : x = 0
  · simp [h]
  · simp [h]
theorem ku_1 {b0 b1 v : Int} : updI (kpF b0 b1) 1 v = kpF b0 v := by
  funext x; unfold updI kpF; by_cases h : x = 1
  · simp [h]
  · simp [h]
theorem gcd_c (u : Int) (w : Nat) : Nat.gcd w u.natAbs = Nat.gcd u.natAbs w := Nat.gcd_comm _ _
theorem im_a0 (iA iB S : Nat → Int) : imF iA iB = imF (fun j => if j < 0 then S j else iA j) iB := by
  congr 1
theorem im_as (iA iB S : Nat → Int) (i : Nat) (hi : i < 2108) : updI (imF (fun j => if j < i then S j else iA j) iB) (0 + i) (S i) = imF (fun j => if j < i + 1 then S j else iA j) iB := by
  refine su_gen ?_ (fun x hx => ?_)
  · unfold imF; dsimp only; rw [if_pos (by omega), if_pos (by omega), Nat.zero_add]
  · unfold imF
    dsimp only
    by_cases h1 : x < 2108
    · rw [if_pos h1, if_pos h1]
      by_cases h2 : x < i
      · rw [if_pos h2, if_pos (by omega)]
      · rw [if_neg h2, if_neg (by omega)]
    · rw [if_neg h1, if_neg h1]
theorem im_ae (iA iB S : Nat → Int) : imF (fun j => if j < 2108 then S j else iA j) iB = imF S iB := by
  funext x; unfold imF; dsimp only
  by_cases h1 : x < 2108
  · rw [if_pos h1, if_pos h1, if_pos h1]
  · rw [if_neg h1, if_neg h1]
theorem im_b0 (iA iB S : Nat → Int) : imF iA iB = imF iA (fun j => if j < 0 then S j else iB j) := by
  congr 1
theorem im_bs (iA iB S : Nat → Int) (i : Nat) (hi : i < 2108) : updI (imF iA (fun j => if j < i then S j else iB j)) (2108 + i) (S i) = imF iA (fun j => if j < i + 1 then S j else iB j) := by
  refine su_gen ?_ (fun x hx => ?_)
  · unfold imF; dsimp only; rw [if_neg (by omega), if_pos (by omega), show 2108 + i - 2108 = i by omega]
  · unfold imF
    dsimp only
    by_cases h1 : x < 2108
    · rw [if_pos h1, if_pos h1]
    · rw [if_neg h1, if_neg h1]
      by_cases h2 : x - 2108 < i
      · rw [if_pos h2, if_pos (by omega)]
      · rw [if_neg h2, if_neg (by omega)]
theorem im_at0 {iA iB : Nat → Int} {k i : Nat} (h : k = i) (hi : i < 2108) : imF iA iB k = iA i := by subst h; unfold imF; rw [if_pos hi]
theorem im_at1 {iA iB : Nat → Int} {k i : Nat} (h : k = 2108 + i) : imF iA iB k = iB i := by subst h; unfold imF; rw [if_neg (by omega), show 2108 + i - 2108 = i by omega]
