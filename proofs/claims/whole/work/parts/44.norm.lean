/-! EXACT NUMBERS: squares' sums of waves -/
theorem x_bm {z : Int} (h1 : -9223372036854775808 ≤ z) (h2 : z < 9223372036854775808) : z.bmod (2 ^ 64) = z := Int.bmod_eq_of_le (by omega) (by omega)
theorem x_add {a b : Int64} (h1 : -9223372036854775808 ≤ a.toInt + b.toInt) (h2 : a.toInt + b.toInt < 9223372036854775808) : (a + b).toInt = a.toInt + b.toInt := by rw [Int64.toInt_add, x_bm h1 h2]
theorem x_sub {a b : Int64} (h1 : -9223372036854775808 ≤ a.toInt - b.toInt) (h2 : a.toInt - b.toInt < 9223372036854775808) : (a - b).toInt = a.toInt - b.toInt := by rw [Int64.toInt_sub, x_bm h1 h2]
theorem x_mul {a b : Int64} (h1 : -9223372036854775808 ≤ a.toInt * b.toInt) (h2 : a.toInt * b.toInt < 9223372036854775808) : (a * b).toInt = a.toInt * b.toInt := by rw [Int64.toInt_mul, x_bm h1 h2]
theorem x_neg {a : Int64} (h1 : -9223372036854775808 < a.toInt) (h2 : a.toInt < 9223372036854775808) : (-a).toInt = -a.toInt := by rw [Int64.toInt_neg, x_bm (by omega) (by omega)]
def sumZ (F : Nat → Int) : Nat → Int
  | 0 => 0
  | n + 1 => sumZ F n + F n
theorem sumZ_congr {F F' : Nat → Int} : ∀ n, (∀ k, k < n → F k = F' k) → sumZ F n = sumZ F' n
  | 0, _ => rfl
  | n + 1, h => by rw [sumZ, sumZ, sumZ_congr n (fun k hk => h k (by omega)), h n (by omega)]
theorem sumZ_add (F F' : Nat → Int) : ∀ n, sumZ (fun k => F k + F' k) n = sumZ F n + sumZ F' n
  | 0 => rfl
  | n + 1 => by rw [sumZ, sumZ, sumZ, sumZ_add F F' n]; omega
theorem sumZ_mul (c : Int) (F : Nat → Int) : ∀ n, sumZ (fun k => c * F k) n = c * sumZ F n
  | 0 => by simp [sumZ]
  | n + 1 => by rw [sumZ, sumZ, sumZ_mul c F n, Int.mul_add]
theorem sumZ_zero : ∀ n, sumZ (fun _ => 0) n = 0
  | 0 => rfl
  | n + 1 => by rw [sumZ, sumZ_zero n]; rfl
theorem sumZ_le {F F' : Nat → Int} : ∀ n, (∀ k, k < n → F k ≤ F' k) → sumZ F n ≤ sumZ F' n
  | 0, _ => Int.le_refl _
  | n + 1, h => by
    have h1 := sumZ_le n (fun k hk => h k (by omega))
    have h2 := h n (by omega)
    rw [sumZ, sumZ]; omega
theorem sumZ_nn {F : Nat → Int} (n : Nat) (h : ∀ k, k < n → 0 ≤ F k) : 0 ≤ sumZ F n := by
  have := sumZ_le (F := fun _ => 0) (F' := F) n h
  rw [sumZ_zero] at this
  exact this
theorem sumZ_one (a : Nat) (v : Int) : ∀ n, sumZ (fun k => if k = a then v else 0) n = if a < n then v else 0
  | 0 => rfl
  | n + 1 => by
    rw [sumZ, sumZ_one a v n]
    by_cases h : n = a
    · rw [if_pos h, if_neg (by omega), if_pos (by omega)]; omega
    · rw [if_neg h]
      by_cases h2 : a < n
      · rw [if_pos h2, if_pos (by omega)]; omega
      · rw [if_neg h2, if_neg (by omega)]; omega
theorem sumZ_swap (F : Nat → Nat → Int) (m : Nat) : ∀ n, sumZ (fun i => sumZ (fun j => F i j) m) n = sumZ (fun j => sumZ (fun i => F i j) n) m
  | 0 => by
    show (0 : Int) = sumZ (fun _ => 0) m
    rw [sumZ_zero]
  | n + 1 => by
    rw [sumZ, sumZ_swap F m n, ← sumZ_add]
    rfl
/-- a pairing leaves a sum as it was -/
theorem sumZ_inv {to : Nat → Nat} {n : Nat} (h : ∀ k, k < n → to k < n ∧ to (to k) = k) (F : Nat → Int) : sumZ (fun k => F (to k)) n = sumZ F n := by
  have e1 : sumZ (fun k => F (to k)) n = sumZ (fun k => sumZ (fun j => if j = to k then F j else 0) n) n := by
    refine sumZ_congr n (fun k hk => ?_)
    have := sumZ_one (to k) (F (to k)) n
    rw [if_pos (h k hk).1] at this
    refine this.symm.trans (sumZ_congr n (fun j _ => ?_))
    by_cases e : j = to k
    · rw [if_pos e, if_pos e, e]
    · rw [if_neg e, if_neg e]
  have e2 : sumZ F n = sumZ (fun j => sumZ (fun k => if j = to k then F j else 0) n) n := by
    refine sumZ_congr n (fun j hj => ?_)
    have := sumZ_one (to j) (F j) n
    rw [if_pos (h j hj).1] at this
    refine this.symm.trans (sumZ_congr n (fun k hk => ?_))
    by_cases e : k = to j
    · rw [if_pos e, if_pos (by rw [e, (h j hj).2])]
    · rw [if_neg e, if_neg (fun z => e (by rw [z, (h k hk).2]))]
  rw [e1, e2]
  exact sumZ_swap (fun k j => if j = to k then F j else 0) n n
/-- by fours -/
theorem sumZ_4 (F : Nat → Int) : ∀ q, sumZ F (q * 4) = sumZ (fun i => F (i * 4) + F (i * 4 + 1) + F (i * 4 + 2) + F (i * 4 + 3)) q
  | 0 => rfl
  | q + 1 => by
    rw [show (q + 1) * 4 = q * 4 + 3 + 1 by omega, sumZ, sumZ, sumZ, sumZ, sumZ_4 F q, sumZ]
    omega
abbrev sq (x : Int64) : Int := x.toInt * x.toInt
theorem sq_nn (x : Int64) : 0 ≤ sq x := by
  rcases Int.le_total 0 x.toInt with h | h
  · exact Int.mul_nonneg h h
  · exact Int.mul_nonneg_of_nonpos_of_nonpos h h
theorem nrm_sum (f : Nat → Int64) : ∀ n, nrm f n = sumZ (fun k => sq (f k)) n
  | 0 => rfl
  | n + 1 => by rw [nrm, sumZ, nrm_sum f n]
theorem sq_le {f : Nat → Int64} {n k : Nat} (h : k < n) : sq (f k) ≤ nrm f n := by
  rw [nrm_sum]
  have := sumZ_le (F := fun j => if j = k then sq (f k) else 0) (F' := fun j => sq (f j)) n (fun j _ => by
    by_cases e : j = k
    · simp only [if_pos e, e]; exact Int.le_refl _
    · simp only [if_neg e]; exact sq_nn _)
  rw [sumZ_one, if_pos h] at this
  exact this
theorem abs_le {x : Int64} {N : Int} (h : sq x ≤ N * N) (hN : 0 ≤ N) : -N ≤ x.toInt ∧ x.toInt ≤ N := by
  have h : x.toInt * x.toInt ≤ N * N := h
  constructor
  · rcases Int.lt_or_le x.toInt (-N) with g | g
    · have h1 : (N + 1) * (N + 1) ≤ (-x.toInt) * (-x.toInt) := Int.mul_le_mul (by omega) (by omega) (by omega) (by omega)
      rw [Int.neg_mul_neg] at h1
      have h2 : (N + 1) * (N + 1) = N * N + 2 * N + 1 := by rw [Int.add_mul, Int.mul_add]; omega
      omega
    · exact g
  · rcases Int.lt_or_le N x.toInt with g | g
    · have h1 : (N + 1) * (N + 1) ≤ x.toInt * x.toInt := Int.mul_le_mul (by omega) (by omega) (by omega) (by omega)
      have h2 : (N + 1) * (N + 1) = N * N + 2 * N + 1 := by rw [Int.add_mul, Int.mul_add]; omega
      omega
    · exact g
/-- a number of a wave that keeps to the weight -/
theorem small {f : Nat → Int64} (h : nrm f 48 ≤ 4611686018427387904) {k : Nat} (hk : k < 48) : -2147483648 ≤ (f k).toInt ∧ (f k).toInt ≤ 2147483648 :=
  abs_le (N := 2147483648) (Int.le_trans (sq_le hk) h) (by omega)
theorem sq_mul {x : Int64} (h : -2147483648 ≤ x.toInt ∧ x.toInt ≤ 2147483648) : (x * x).toInt = sq x := by
  have h1 := sq_nn x
  have h2 : sq x ≤ 2147483648 * 2147483648 := by
    rcases Int.le_total 0 x.toInt with g | g
    · exact Int.mul_le_mul h.2 h.2 g (by omega)
    · have : (-x.toInt) * (-x.toInt) ≤ 2147483648 * 2147483648 := Int.mul_le_mul (by omega) (by omega) (by omega) (by omega)
      rw [Int.neg_mul_neg] at this
      exact this
  exact x_mul (by show _ ≤ sq x; omega) (by show sq x < _; omega)
theorem nrm_mono' (f : Nat → Int64) (a : Nat) : ∀ b, sumZ (fun k => sq (f k)) a ≤ sumZ (fun k => sq (f k)) (a + b)
  | 0 => Int.le_refl _
  | b + 1 => by
    have h1 := nrm_mono' f a b
    have h2 := sq_nn (f (a + b))
    show _ ≤ sumZ (fun k => sq (f k)) (a + b) + sq (f (a + b))
    omega
theorem sqN_ex {f : Nat → Int64} (h : nrm f 48 ≤ 4611686018427387904) (k : Nat) : ∀ d, k + d ≤ 48 → (sqN f k d).toInt = sumZ (fun j => sq (f (k + j))) d ∧ sumZ (fun j => sq (f (k + j))) d ≤ nrm f (k + d)
  | 0, _ => ⟨rfl, by
    show (0 : Int) ≤ nrm f k
    rw [nrm_sum]
    exact sumZ_nn k (fun j _ => sq_nn _)⟩
  | d + 1, hd => by
    obtain ⟨h1, h2⟩ := sqN_ex h k d (by omega)
    have h3 := sq_mul (small h (show k + d < 48 by omega))
    have h4 : nrm f (k + (d + 1)) = nrm f (k + d) + sq (f (k + d)) := rfl
    have h5 : nrm f (k + (d + 1)) ≤ nrm f 48 := by
      rw [nrm_sum, nrm_sum]
      have := nrm_mono' f (k + (d + 1)) (48 - (k + (d + 1)))
      rw [show k + (d + 1) + (48 - (k + (d + 1))) = 48 by omega] at this
      exact this
    have h6 := sumZ_nn (F := fun j => sq (f (k + j))) d (fun j _ => sq_nn _)
    have h7 := sq_nn (f (k + d))
    have e : sumZ (fun j => sq (f (k + j))) (d + 1) = sumZ (fun j => sq (f (k + j))) d + sq (f (k + d)) := rfl
    rw [e, h4]
    refine ⟨?_, by omega⟩
    rw [sqN, x_add (by rw [h1, h3]; omega) (by rw [h1, h3]; omega), h1, h3]
theorem nrm_mono (f : Nat → Int64) {a b : Nat} (h : a ≤ b) : nrm f a ≤ nrm f b := by
  rw [nrm_sum, nrm_sum]
  have := nrm_mono' f a (b - a)
  rw [show a + (b - a) = b by omega] at this
  exact this
theorem nrm_nn (f : Nat → Int64) (n : Nat) : 0 ≤ nrm f n := by rw [nrm_sum]; exact sumZ_nn n (fun _ _ => sq_nn _)
/-- the squares at a place -/
def pls (f : Nat → Int64) (q : Nat) : Int := sq (f (q * 4)) + sq (f (q * 4 + 1)) + sq (f (q * 4 + 2)) + sq (f (q * 4 + 3))
theorem nrm_pls (f : Nat → Int64) (q : Nat) : nrm f (q * 4) = sumZ (pls f) q := by rw [nrm_sum, sumZ_4]; rfl
theorem sqAt_ex {f : Nat → Int64} (h : nrm f 48 ≤ 4611686018427387904) {q : Nat} (hq : q < 12) : (sqAt f q).toInt = pls f q := by
  obtain ⟨h1, -⟩ := sqN_ex h (q * 4) 4 (by omega)
  unfold sqAt pls
  rw [h1]
  show 0 + sq (f (q * 4 + 0)) + sq (f (q * 4 + 1)) + sq (f (q * 4 + 2)) + sq (f (q * 4 + 3)) = _
  rw [Int.zero_add, Nat.add_zero]
theorem pls_nn (f : Nat → Int64) (q : Nat) : 0 ≤ pls f q := by
  unfold pls
  have h1 := sq_nn (f (q * 4))
  have h2 := sq_nn (f (q * 4 + 1))
  have h3 := sq_nn (f (q * 4 + 2))
  have h4 := sq_nn (f (q * 4 + 3))
  omega
theorem sqA_ex {f : Nat → Int64} (h : nrm f 48 ≤ 4611686018427387904) : ∀ q, q ≤ 12 → (sqA f q).toInt = nrm f (q * 4)
  | 0, _ => rfl
  | q + 1, hq => by
    have h1 := sqA_ex h q (by omega)
    have h2 := sqAt_ex h (show q < 12 by omega)
    have h3 : nrm f ((q + 1) * 4) = nrm f (q * 4) + pls f q := by rw [nrm_pls, nrm_pls, sumZ]
    have h4 := nrm_mono f (show (q + 1) * 4 ≤ 48 by omega)
    have h5 := nrm_nn f (q * 4)
    have h6 := pls_nn f q
    rw [sqA, x_add (by rw [h1, h2]; omega) (by rw [h1, h2]; omega), h1, h2, h3]
theorem sqs_ex {f : Nat → Int64} (h : nrm f 48 ≤ 4611686018427387904) : (sqs f).toInt = nrm f 48 := sqA_ex h 12 (by omega)
theorem sqAt_le {f : Nat → Int64} (h : nrm f 48 ≤ 4611686018427387904) {q : Nat} (hq : q < 12) : 0 ≤ (sqAt f q).toInt ∧ (sqAt f q).toInt ≤ 4611686018427387904 := by
  rw [sqAt_ex h hq]
  refine ⟨pls_nn f q, ?_⟩
  have h3 : nrm f ((q + 1) * 4) = nrm f (q * 4) + pls f q := by rw [nrm_pls, nrm_pls, sumZ]
  have h4 := nrm_mono f (show (q + 1) * 4 ≤ 48 by omega)
  have h5 := nrm_nn f (q * 4)
  omega
/-! one step -/
def scI (dr : Nat) : Int := if dr = 2 then 2 else if dr = 3 then 9 else 4
theorem scOf_I {dr : Nat} (h : dr = 2 ∨ dr = 3 ∨ dr = 4) : (scOf dr).toInt = scI dr := by rcases h with rfl | rfl | rfl <;> decide
theorem sgn_ex {pl dr : Nat} {mk : Nat → Bool} {f : Nat → Int64} (h : nrm f 48 ≤ 4611686018427387904) {k : Nat} (hk : k < 48) : sq (signF pl dr mk f k) = sq (f k) := by
  unfold signF
  split
  · have := small h hk
    unfold sq
    rw [x_neg (by omega) (by omega), Int.neg_mul_neg]
  · rfl
theorem sgn_nrm {pl dr : Nat} {mk : Nat → Bool} {f : Nat → Int64} (h : nrm f 48 ≤ 4611686018427387904) : nrm (signF pl dr mk f) 48 = nrm f 48 := by
  rw [nrm_sum, nrm_sum]
  exact sumZ_congr 48 (fun k hk => sgn_ex h hk)
theorem go_nrm {pl dr : Nat} {to : Nat → Nat} (hp : pairs pl dr to) (f : Nat → Int64) : nrm (goF to f) 48 = nrm f 48 := by
  rw [nrm_sum, nrm_sum]
  exact sumZ_inv (fun k hk => ⟨(hp k hk).1, (hp k hk).2.1⟩) (fun k => sq (f k))
/-- zero but at the doors -/
def zpd (pl dr : Nat) (f : Nat → Int64) : Prop := ∀ k, k < 48 → dor pl dr k = false → f k = 0
theorem zpd.sgn {pl dr : Nat} {mk : Nat → Bool} {f : Nat → Int64} (h : zpd pl dr f) : zpd pl dr (signF pl dr mk f) := fun k hk hd => by
  unfold signF
  rw [if_neg (fun z => by rw [hd] at z; exact absurd z.1 (by decide))]
  exact h k hk hd
theorem zpd.turn {pl dr : Nat} {f : Nat → Int64} (h : zpd pl dr f) : zpd pl dr (turnF pl dr f) := fun k hk hd => by
  unfold turnF
  rw [if_neg (fun z => by rw [hd] at z; exact absurd z (by decide))]
  exact h k hk hd
theorem zpd.less {pl dr : Nat} {f : Nat → Int64} (h : zpd pl dr f) : zpd pl dr (lessF pl dr f) := fun k hk hd => by
  unfold lessF
  rw [if_neg (fun z => by rw [hd] at z; exact absurd z (by decide))]
  exact h k hk hd
theorem zpd.go {pl dr : Nat} {to : Nat → Nat} {f : Nat → Int64} (hp : pairs pl dr to) (h : zpd pl dr f) : zpd pl dr (goF to f) := fun k hk hd => by
  show f (to k) = 0
  rw [(hp k hk).2.2.2 hd]
  exact h k hk hd
theorem sgnR_eq {pl dr : Nat} {mk : Nat → Bool} {f : Nat → Int64} (h : zpd pl dr f) {k : Nat} (hk : k < 48) : sgnR pl mk f k = signF pl dr mk f k := by
  unfold sgnR signF
  by_cases hd : dor pl dr k = true
  · have := dor_iff.mp hd
    by_cases hm : mk (k / 4) = true
    · rw [if_pos ⟨this.1, hm⟩, if_pos ⟨hd, hm⟩]
    · rw [if_neg (fun z => hm z.2), if_neg (fun z => hm z.2)]
  · rw [h k hk (Bool.eq_false_iff.mpr hd)]
    split <;> split <;> rfl
