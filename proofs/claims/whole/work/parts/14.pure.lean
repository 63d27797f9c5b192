/-! The pure words of the class's methods -/
def sumTo (f : Nat → Int) : Nat → Int
  | 0 => 0
  | n + 1 => sumTo f n + f n
def cntP (f : Nat → Int) : Nat → Int
  | 0 => 0
  | n + 1 => cntP f n + (if 0 < f n then 1 else 0)
theorem cntP_rng (f : Nat → Int) : ∀ n, 0 ≤ cntP f n ∧ cntP f n ≤ (n : Int)
  | 0 => ⟨Int.le_refl _, Int.le_refl _⟩
  | n + 1 => by
    have h := cntP_rng f n
    show 0 ≤ cntP f n + (if 0 < f n then 1 else 0) ∧ cntP f n + (if 0 < f n then 1 else 0) ≤ ((n + 1 : Nat) : Int)
    split <;> omega
/-- links: ticks there and back, drops -/
def tkT (nb : Nat → Int) (l : Nat) (t : Int) : Int := nb (l * 6) + t.tmod (nb (l * 6 + 1) + 1)
def tkB (nb : Nat → Int) (l : Nat) (t : Int) : Int := nb (l * 6 + 2) + t.tmod (nb (l * 6 + 3) + 1)
def drp (nb : Nat → Int) (l : Nat) (x : Int) : Prop := 0 < nb (l * 6 + 4) ∧ x.tmod (nb (l * 6 + 4)) = nb (l * 6 + 5)
def nbFirst (k : Nat) : Int := lnFirst (k % 6)
theorem tmod_rng {t d : Int} (ht : 0 ≤ t) (hd : 0 < d) : 0 ≤ t.tmod d ∧ t.tmod d < d := ⟨Int.tmod_nonneg _ ht, Int.tmod_lt_of_pos _ hd⟩
theorem tmod_rngZ {t d : Int} (hd : 0 < d) : -d < t.tmod d ∧ t.tmod d < d := ⟨Int.lt_tmod_of_pos _ hd, Int.tmod_lt_of_pos _ hd⟩
theorem tkT_rng {nb : Nat → Int} {l : Nat} {t : Int} (hl : l < 4) (ht : 0 ≤ t) (hnb : ∀ k, k < 24 → 0 ≤ nb k ∧ nb k ≤ 20) : 0 ≤ tkT nb l t ∧ tkT nb l t ≤ 40 := by
  have h1 := hnb (l * 6) (by omega)
  have h2 := hnb (l * 6 + 1) (by omega)
  have h3 := tmod_rng (d := nb (l * 6 + 1) + 1) ht (by omega)
  unfold tkT
  omega
theorem tkB_rng {nb : Nat → Int} {l : Nat} {t : Int} (hl : l < 4) (ht : 0 ≤ t) (hnb : ∀ k, k < 24 → 0 ≤ nb k ∧ nb k ≤ 20) : 0 ≤ tkB nb l t ∧ tkB nb l t ≤ 40 := by
  have h1 := hnb (l * 6 + 2) (by omega)
  have h2 := hnb (l * 6 + 3) (by omega)
  have h3 := tmod_rng (d := nb (l * 6 + 3) + 1) ht (by omega)
  unfold tkB
  omega
/-- bounds -/
def fgt (mo : Nat → Int) (n i : Nat) : Nat → Int := fun k => if (k / 5 = n ∧ k % 5 < i) ∨ (k % 5 = n ∧ k / 5 < i) then 1000000000 else mo k
theorem fgt_0 (mo : Nat → Int) (n : Nat) : mo = fgt mo n 0 := by funext k; simp [fgt]
theorem fgt_s (mo : Nat → Int) (n i : Nat) (hn : n < 5) (hi : i < 5) : updI (updI (fgt mo n i) (n * 5 + i) 1000000000) (i * 5 + n) 1000000000 = fgt mo n (i + 1) := by
  funext k
  unfold updI fgt
  by_cases h1 : k = i * 5 + n
  · rw [if_pos h1, if_pos (Or.inr (by omega))]
  · rw [if_neg h1]
    by_cases h2 : k = n * 5 + i
    · rw [if_pos h2, if_pos (Or.inl (by omega))]
    · rw [if_neg h2]
      by_cases h3 : (k / 5 = n ∧ k % 5 < i) ∨ (k % 5 = n ∧ k / 5 < i)
      · rw [if_pos h3, if_pos (by omega)]
      · rw [if_neg h3, if_neg (by omega)]
def nrw (mo : Nat → Int) (f t : Nat) (x y : Int) : Nat → Int := updI (updI mo (f * 5 + t) (if x < mo (f * 5 + t) then x else mo (f * 5 + t))) (t * 5 + f) (if -y < updI mo (f * 5 + t) (if x < mo (f * 5 + t) then x else mo (f * 5 + t)) (t * 5 + f) then -y else updI mo (f * 5 + t) (if x < mo (f * 5 + t) then x else mo (f * 5 + t)) (t * 5 + f))
def prI (mo : Nat → Int) (f : Nat) : Nat → Int
  | 0 => 0
  | j + 1 => prI mo f j + (if mo (f * 5 + (f + 1 + j)) = 1000000000 then 0 else 1)
def prO (mo : Nat → Int) : Nat → Int
  | 0 => 0
  | f + 1 => prO mo f + prI mo f (4 - f)
def rlx (mo : Nat → Int) (a : Nat) (re : Nat → Int) : Nat → (Nat → Int)
  | 0 => re
  | k + 1 => if mo (a * 5 + k) = 1000000000 then rlx mo a re k else updI (rlx mo a re k) k (if rlx mo a re k a + mo (a * 5 + k) < rlx mo a re k k then rlx mo a re k a + mo (a * 5 + k) else rlx mo a re k k)
def stp (mo : Nat → Int) (a : Nat) (re : Nat → Int) : Nat → Int := if re a = 1000000000 then re else rlx mo a re 5
def rnd (mo : Nat → Int) (re : Nat → Int) : Nat → (Nat → Int)
  | 0 => re
  | a + 1 => stp mo a (rnd mo re a)
def rnds (mo : Nat → Int) (re : Nat → Int) : Nat → (Nat → Int)
  | 0 => re
  | r + 1 => rnd mo (rnds mo re r) 5
theorem rlx_rng {mo re : Nat → Int} {a : Nat} {L : Int} (ha : a < 5) (hmo : ∀ k, k < 25 → -1000 ≤ mo k ∧ mo k ≤ 1000000000) (hre : ∀ k, k < 5 → -L ≤ re k ∧ re k ≤ 1000000000) : ∀ j : Nat, j ≤ 5 → ∀ k, k < 5 → -(L + 1000 * (j : Int)) ≤ rlx mo a re j k ∧ rlx mo a re j k ≤ 1000000000
  | 0, _, k, hk => by have h := hre k hk; show -(L + 1000 * ((0 : Nat) : Int)) ≤ re k ∧ re k ≤ 1000000000; omega
  | j + 1, hj, k, hk => by
    have h1 := rlx_rng ha hmo hre j (by omega) k hk
    have h2 := rlx_rng ha hmo hre j (by omega) a ha
    have h3 := hmo (a * 5 + j) (by omega)
    have h4 := rlx_rng ha hmo hre j (by omega) j (by omega)
    unfold rlx
    split
    · omega
    · unfold updI
      split
      · split <;> omega
      · omega
theorem stp_rng {mo re : Nat → Int} {a : Nat} {L : Int} (ha : a < 5) (hL : 0 ≤ L) (hmo : ∀ k, k < 25 → -1000 ≤ mo k ∧ mo k ≤ 1000000000) (hre : ∀ k, k < 5 → -L ≤ re k ∧ re k ≤ 1000000000) : ∀ k, k < 5 → -(L + 5000) ≤ stp mo a re k ∧ stp mo a re k ≤ 1000000000 := by
  intro k hk
  unfold stp
  split
  · have h := hre k hk; omega
  · have h := rlx_rng ha hmo hre 5 (by omega) k hk; omega
theorem rnd_rng {mo re : Nat → Int} {L : Int} (hL : 0 ≤ L) (hmo : ∀ k, k < 25 → -1000 ≤ mo k ∧ mo k ≤ 1000000000) (hre : ∀ k, k < 5 → -L ≤ re k ∧ re k ≤ 1000000000) : ∀ a : Nat, a ≤ 5 → ∀ k, k < 5 → -(L + 5000 * (a : Int)) ≤ rnd mo re a k ∧ rnd mo re a k ≤ 1000000000
  | 0, _, k, hk => by have h := hre k hk; show -(L + 5000 * ((0 : Nat) : Int)) ≤ re k ∧ re k ≤ 1000000000; omega
  | a + 1, ha, k, hk => by
    have h := stp_rng (a := a) (by omega) (L := L + 5000 * (a : Int)) (by omega) hmo (rnd_rng hL hmo hre a (by omega)) k hk
    show -(L + 5000 * ((a + 1 : Nat) : Int)) ≤ stp mo a (rnd mo re a) k ∧ stp mo a (rnd mo re a) k ≤ 1000000000
    omega
theorem rnds_rng {mo re : Nat → Int} {L : Int} (hL : 0 ≤ L) (hmo : ∀ k, k < 25 → -1000 ≤ mo k ∧ mo k ≤ 1000000000) (hre : ∀ k, k < 5 → -L ≤ re k ∧ re k ≤ 1000000000) : ∀ r : Nat, ∀ k, k < 5 → -(L + 25000 * (r : Int)) ≤ rnds mo re r k ∧ rnds mo re r k ≤ 1000000000
  | 0, k, hk => by have h := hre k hk; show -(L + 25000 * ((0 : Nat) : Int)) ≤ re k ∧ re k ≤ 1000000000; omega
  | r + 1, k, hk => by
    have h := rnd_rng (L := L + 25000 * (r : Int)) (by omega) hmo (rnds_rng hL hmo hre r) 5 (by omega) k hk
    show -(L + 25000 * ((r + 1 : Nat) : Int)) ≤ rnd mo (rnds mo re r) 5 k ∧ rnd mo (rnds mo re r) 5 k ≤ 1000000000
    omega
/-- what lies in the three worlds' parts -/
def re0 (x : Nat) : Nat → Int := updI (fun _ => 1000000000) x 0
theorem re0_rng (x : Nat) : ∀ k, k < 5 → -0 ≤ re0 x k ∧ re0 x k ≤ 1000000000 := by
  intro k _
  unfold re0 updI
  split
  · omega
  · show -0 ≤ (1000000000 : Int) ∧ (1000000000 : Int) ≤ 1000000000
    omega
