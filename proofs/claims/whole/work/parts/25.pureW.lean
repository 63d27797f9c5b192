/-! The pure words of the world's methods -/
def atN (nb : Nat → Int) (t : Int) : Nat → Int
  | 0 => t
  | l + 1 => atN nb t l + tkT nb l (atN nb t l)
theorem atN_rng {nb : Nat → Int} {t : Int} (ht : 0 ≤ t) (hnb : ∀ k, k < 24 → 0 ≤ nb k ∧ nb k ≤ 20) : ∀ l : Nat, l ≤ 4 → 0 ≤ atN nb t l ∧ atN nb t l ≤ t + 40 * (l : Int)
  | 0, _ => by show 0 ≤ t ∧ t ≤ t + 40 * ((0 : Nat) : Int); omega
  | l + 1, h => by
    have h1 := atN_rng ht hnb l (by omega)
    have h2 := tkT_rng (l := l) (by omega) h1.1 hnb
    show 0 ≤ atN nb t l + tkT nb l (atN nb t l) ∧ atN nb t l + tkT nb l (atN nb t l) ≤ t + 40 * ((l + 1 : Nat) : Int)
    omega
def cnA (cn : Nat → Int) (b : Nat) : Nat → (Nat → Int)
  | 0 => updI cn (0 * 200 + b) (cn (0 * 200 + b) + 1)
  | l + 1 => updI (cnA cn b l) ((l + 1) * 200 + b) (cnA cn b l ((l + 1) * 200 + b) + 1)
def smA (sm ck nb : Nat → Int) (t : Int) (b : Nat) : Nat → (Nat → Int)
  | 0 => updI sm (0 * 200 + b) (sm (0 * 200 + b) + (t + ck 0))
  | l + 1 => updI (smA sm ck nb t b l) ((l + 1) * 200 + b) (smA sm ck nb t b l ((l + 1) * 200 + b) + (atN nb t (l + 1) + ck (l + 1)))
def thN (nb : Nat → Int) (t : Int) (f : Nat) : Nat → Int
  | 0 => t
  | j + 1 => thN nb t f j + tkT nb (f + j) (thN nb t f j)
theorem thN_rng {nb : Nat → Int} {t : Int} {f : Nat} (ht : 0 ≤ t) (hnb : ∀ k, k < 24 → 0 ≤ nb k ∧ nb k ≤ 20) : ∀ j : Nat, f + j ≤ 4 → 0 ≤ thN nb t f j ∧ thN nb t f j ≤ t + 40 * (j : Int) ∧ t ≤ thN nb t f j
  | 0, _ => by show 0 ≤ t ∧ t ≤ t + 40 * ((0 : Nat) : Int) ∧ t ≤ t; omega
  | j + 1, h => by
    have h1 := thN_rng (f := f) ht hnb j (by omega)
    have h2 := tkT_rng (l := f + j) (by omega) h1.1 hnb
    show 0 ≤ thN nb t f j + tkT nb (f + j) (thN nb t f j) ∧ thN nb t f j + tkT nb (f + j) (thN nb t f j) ≤ t + 40 * ((j + 1 : Nat) : Int) ∧ t ≤ thN nb t f j + tkT nb (f + j) (thN nb t f j)
    omega
def bkN (nb : Nat → Int) (t : Int) (g : Nat) : Nat → Int
  | 0 => t
  | j + 1 => bkN nb t g j + tkB nb (g - 1 - j) (bkN nb t g j)
theorem bkN_rng {nb : Nat → Int} {t : Int} {g : Nat} (hg : g ≤ 4) (ht : 0 ≤ t) (hnb : ∀ k, k < 24 → 0 ≤ nb k ∧ nb k ≤ 20) : ∀ j : Nat, j ≤ g → 0 ≤ bkN nb t g j ∧ bkN nb t g j ≤ t + 40 * (j : Int) ∧ t ≤ bkN nb t g j
  | 0, _ => by show 0 ≤ t ∧ t ≤ t + 40 * ((0 : Nat) : Int) ∧ t ≤ t; omega
  | j + 1, h => by
    have h1 := bkN_rng hg ht hnb j (by omega)
    have h2 := tkB_rng (l := g - 1 - j) (by omega) h1.1 hnb
    show 0 ≤ bkN nb t g j + tkB nb (g - 1 - j) (bkN nb t g j) ∧ bkN nb t g j + tkB nb (g - 1 - j) (bkN nb t g j) ≤ t + 40 * ((j + 1 : Nat) : Int) ∧ t ≤ bkN nb t g j + tkB nb (g - 1 - j) (bkN nb t g j)
    omega
