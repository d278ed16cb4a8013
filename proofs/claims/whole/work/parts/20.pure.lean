/-! THE NUMBERS, by functions -/
/-- squares of d numbers from k on -/
def sqN (f : Nat → Int64) (k : Nat) : Nat → Int64
  | 0 => 0
  | d + 1 => sqN f k d + f (k + d) * f (k + d)
def sqAt (f : Nat → Int64) (q : Nat) : Int64 := sqN f (q * 4) 4
def sqA (f : Nat → Int64) : Nat → Int64
  | 0 => 0
  | q + 1 => sqA f q + sqAt f q
def sqs (f : Nat → Int64) : Int64 := sqA f 12
/-- squares at marked places -/
def sqM (f : Nat → Int64) (mk : Nat → Bool) : Nat → Int64
  | 0 => 0
  | q + 1 => if mk q = true then sqM f mk q + sqAt f q else sqM f mk q
def told (x : Int64) : Bool := decide (-100 ≤ x ∧ x ≤ 100)
def toldB (f : Nat → Int64) (c : Nat) : Nat → Bool
  | 0 => true
  | i + 1 => toldB f c i && (decide (i = c) || told (f i))
/-- the door k is one of the net's -/
def dor (pl dr k : Nat) : Bool := decide (k / 4 < pl ∧ k % 4 < dr)
def fillF (pl dr : Nat) (v : Int64) (f : Nat → Int64) : Nat → Int64 := fun k => if dor pl dr k = true then v else f k
def signF (pl dr : Nat) (mk : Nat → Bool) (f : Nat → Int64) : Nat → Int64 := fun k => if dor pl dr k = true ∧ mk (k / 4) = true then -(f k) else f k
def sumN (f : Nat → Int64) (k : Nat) : Nat → Int64
  | 0 => 0
  | d + 1 => sumN f k d + f (k + d)
/-- what the number at the door k becomes by the table -/
def tv (dr : Nat) (f : Nat → Int64) (k : Nat) : Int64 :=
  if dr = 2 then (if k % 4 = 0 then f k + f (k + 1) else f (k - 1) - f k)
  else if dr = 3 then 2 * sumN f (k / 4 * 4) 3 - 3 * f k else sumN f (k / 4 * 4) 4 - 2 * f k
def turnF (pl dr : Nat) (f : Nat → Int64) : Nat → Int64 := fun k => if dor pl dr k = true then tv dr f k else f k
/-- at one place -/
def turn1 (q dr : Nat) (f : Nat → Int64) : Nat → Int64 := fun k => if k / 4 = q ∧ k % 4 < dr then tv dr f k else f k
def scOf (dr : Nat) : Int64 := if dr = 2 then 2 else if dr = 3 then 9 else 4
def scN (dr : Nat) : Nat := if dr = 2 then 2 else if dr = 3 then 9 else 4
def lessF (pl dr : Nat) (f : Nat → Int64) : Nat → Int64 := fun k => if dor pl dr k = true then f k / scOf dr else f k
def less1 (q dr : Nat) (f : Nat → Int64) : Nat → Int64 := fun k => if k / 4 = q ∧ k % 4 < dr then f k / scOf dr else f k
def goF (to : Nat → Nat) (f : Nat → Int64) : Nat → Int64 := fun k => f (to k)
def stepF (pl dr : Nat) (to : Nat → Nat) (mk : Nat → Bool) (f : Nat → Int64) : Nat → Int64 := goF to (turnF pl dr (signF pl dr mk f))
def undoF (pl dr : Nat) (to : Nat → Nat) (mk : Nat → Bool) (f : Nat → Int64) : Nat → Int64 := signF pl dr mk (lessF pl dr (turnF pl dr (goF to f)))
/-- how far it goes on: lim steps at most, each from a weight not above hv -/
def leftF (hv sc : Int64) : Nat → Int64 → Nat
  | 0, _ => 0
  | n + 1, wt => if wt ≤ hv then leftF hv sc n (wt * sc) + 1 else 0
/-- the first i < n where g isn't 0, else n -/
def fnz (g : Nat → Int64) : Nat → Nat
  | 0 => 0
  | n + 1 => if fnz g n < n then fnz g n else if g n = 0 then n + 1 else n
def mulB (f g : Nat → Int64) (z : Nat) : Nat → Bool
  | 0 => true
  | i + 1 => mulB f g z i && decide (f i * g z = g i * f z)
def isMul (f g : Nat → Int64) : Bool := decide (fnz g 48 < 48) && mulB f g (fnz g 48) 48
def allAt (f : Nat → Int64) (q : Nat) : Bool := decide (0 < sqAt f q ∧ sqAt f q = sqs f)
/-- a pairing of the 48 cells, that keeps to the net's doors -/
def pairs (pl dr : Nat) (to : Nat → Nat) : Prop := ∀ k, k < 48 → to k < 48 ∧ to (to k) = k ∧ (dor pl dr k = true → dor pl dr (to k) = true) ∧ (dor pl dr k = false → to k = k)
theorem dor_iff {pl dr k : Nat} : dor pl dr k = true ↔ k / 4 < pl ∧ k % 4 < dr := by unfold dor; exact decide_eq_true_iff
theorem dor_at {pl dr q d : Nat} (hd : d < 4) : dor pl dr (q * 4 + d) = true ↔ q < pl ∧ d < dr := by
  rw [dor_iff]
  have h1 : (q * 4 + d) / 4 = q := by omega
  have h2 : (q * 4 + d) % 4 = d := by omega
  rw [h1, h2]
theorem told_iff {x : Int64} : told x = true ↔ -100 ≤ x ∧ x ≤ 100 := by unfold told; exact decide_eq_true_iff
theorem sumN_congr {f g : Nat → Int64} {k : Nat} : ∀ d, (∀ j, j < d → f (k + j) = g (k + j)) → sumN f k d = sumN g k d
  | 0, _ => rfl
  | d + 1, h => by rw [sumN, sumN, sumN_congr d (fun j hj => h j (by omega)), h d (by omega)]
theorem sqN_congr {f g : Nat → Int64} {k : Nat} : ∀ d, (∀ j, j < d → f (k + j) = g (k + j)) → sqN f k d = sqN g k d
  | 0, _ => rfl
  | d + 1, h => by rw [sqN, sqN, sqN_congr d (fun j hj => h j (by omega)), h d (by omega)]
theorem sqAt_congr {f g : Nat → Int64} {q : Nat} (h : ∀ j, j < 4 → f (q * 4 + j) = g (q * 4 + j)) : sqAt f q = sqAt g q := sqN_congr 4 h
theorem tv_congr {dr : Nat} {f g : Nat → Int64} {k : Nat} (hd : k % 4 < dr) (hdr : dr = 2 ∨ dr = 3 ∨ dr = 4) (h : ∀ j, j < dr → f (k / 4 * 4 + j) = g (k / 4 * 4 + j)) : tv dr f k = tv dr g k := by
  have hk : f k = g k := by
    have := h (k % 4) hd
    rwa [show k / 4 * 4 + k % 4 = k by omega] at this
  unfold tv
  rcases hdr with rfl | rfl | rfl
  · by_cases h0 : k % 4 = 0
    · rw [if_pos rfl, if_pos rfl, if_pos h0, if_pos h0, hk]
      have := h 1 (by omega)
      rw [show k / 4 * 4 + 1 = k + 1 by omega] at this
      rw [this]
    · rw [if_pos rfl, if_pos rfl, if_neg h0, if_neg h0, hk]
      have := h 0 (by omega)
      rw [show k / 4 * 4 + 0 = k - 1 by omega] at this
      rw [this]
  · show 2 * sumN f (k / 4 * 4) 3 - 3 * f k = 2 * sumN g (k / 4 * 4) 3 - 3 * g k
    rw [hk, sumN_congr 3 h]
  · show sumN f (k / 4 * 4) 4 - 2 * f k = sumN g (k / 4 * 4) 4 - 2 * g k
    rw [hk, sumN_congr 4 h]
theorem fnz_le (g : Nat → Int64) : ∀ n, fnz g n ≤ n
  | 0 => Nat.le_refl _
  | n + 1 => by
    have := fnz_le g n
    rw [fnz]
    split
    · omega
    · split <;> omega
theorem fnz_zero (g : Nat → Int64) : ∀ n k, k < fnz g n → g k = 0
  | 0, k, h => absurd h (Nat.not_lt_zero k)
  | n + 1, k, h => by
    have ih := fnz_zero g n
    have hle := fnz_le g n
    rw [fnz] at h
    split at h
    · exact ih k h
    · split at h
      · next h1 h2 =>
        rcases Nat.lt_or_ge k n with q | q
        · exact ih k (by omega)
        · rw [show k = n by omega]; exact h2
      · exact ih k (by omega)
theorem fnz_ne (g : Nat → Int64) : ∀ n, fnz g n < n → g (fnz g n) ≠ 0
  | 0, h => absurd h (Nat.not_lt_zero _)
  | n + 1, h => by
    have hle := fnz_le g n
    rw [fnz] at h ⊢
    split
    · next h1 => exact fnz_ne g n h1
    · next h1 =>
      split
      · next h2 => rw [if_neg h1, if_pos h2] at h; omega
      · next h2 => exact h2
theorem fnz_of {g : Nat → Int64} {n i : Nat} (hi : i < n) (h0 : ∀ k, k < i → g k = 0) (h1 : g i ≠ 0) : fnz g n = i := by
  have hle := fnz_le g n
  rcases Nat.lt_trichotomy (fnz g n) i with h | h | h
  · exact absurd (h0 _ h) (fnz_ne g n (by omega))
  · exact h
  · exact absurd (fnz_zero g n i h) h1
theorem fnz_none {g : Nat → Int64} {n : Nat} (h0 : ∀ k, k < n → g k = 0) : fnz g n = n := by
  have hle := fnz_le g n
  rcases Nat.lt_or_ge (fnz g n) n with h | h
  · exact absurd (h0 _ h) (fnz_ne g n h)
  · omega
