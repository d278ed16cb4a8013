/-! what a step, an undone step and a told number do to a wave -/
theorem tv2a (f : Nat → Int64) (q : Nat) : tv 2 f (q * 4) = f (q * 4) + f (q * 4 + 1) := by unfold tv; rw [if_pos rfl, if_pos (by omega)]
theorem tv2b (f : Nat → Int64) (q : Nat) : tv 2 f (q * 4 + 1) = f (q * 4) - f (q * 4 + 1) := by unfold tv; rw [if_pos rfl, if_neg (by omega)]; rfl
theorem tv3 (f : Nat → Int64) (q : Nat) {d : Nat} (hd : d < 3) : tv 3 f (q * 4 + d) = 2 * (f (q * 4) + f (q * 4 + 1) + f (q * 4 + 2)) - 3 * f (q * 4 + d) := by
  unfold tv
  rw [if_neg (by decide), if_pos rfl, show (q * 4 + d) / 4 * 4 = q * 4 by omega]
  show 2 * (0 + f (q * 4) + f (q * 4 + 1) + f (q * 4 + 2)) - _ = _
  rw [Int64.zero_add]
theorem tv4 (f : Nat → Int64) (q : Nat) {d : Nat} (hd : d < 4) : tv 4 f (q * 4 + d) = f (q * 4) + f (q * 4 + 1) + f (q * 4 + 2) + f (q * 4 + 3) - 2 * f (q * 4 + d) := by
  unfold tv
  rw [if_neg (by decide), if_neg (by decide), show (q * 4 + d) / 4 * 4 = q * 4 by omega]
  show (0 + f (q * 4) + f (q * 4 + 1) + f (q * 4 + 2) + f (q * 4 + 3)) - _ = _
  rw [Int64.zero_add]
theorem turn_at {pl dr q d : Nat} {f : Nat → Int64} (hq : q < pl) (hd : d < dr) (h4 : d < 4) : turnF pl dr f (q * 4 + d) = tv dr f (q * 4 + d) := by
  unfold turnF
  rw [if_pos ((dor_at h4).mpr ⟨hq, hd⟩)]
theorem turn_no {pl dr q d : Nat} {f : Nat → Int64} (h4 : d < 4) (h : ¬ (q < pl ∧ d < dr)) : turnF pl dr f (q * 4 + d) = f (q * 4 + d) := by
  unfold turnF
  rw [if_neg (fun z => h ((dor_at h4).mp z))]
theorem zpd.at {pl dr : Nat} {f : Nat → Int64} (h : zpd pl dr f) {q d : Nat} (hq : q < 12) (h4 : d < 4) (hn : ¬ (q < pl ∧ d < dr)) : f (q * 4 + d) = 0 := h _ (by omega) (Bool.eq_false_iff.mpr (fun z => hn ((dor_at h4).mp z)))
theorem i3 {a b c x : Int64} (ha : -2147483648 ≤ a.toInt ∧ a.toInt ≤ 2147483648) (hb : -2147483648 ≤ b.toInt ∧ b.toInt ≤ 2147483648) (hc : -2147483648 ≤ c.toInt ∧ c.toInt ≤ 2147483648) (hx : -2147483648 ≤ x.toInt ∧ x.toInt ≤ 2147483648) : (2 * (a + b + c) - 3 * x).toInt = 2 * (a.toInt + b.toInt + c.toInt) - 3 * x.toInt := by
  have e2 : (2 : Int64).toInt = 2 := rfl
  have e3 : (3 : Int64).toInt = 3 := rfl
  have h1 : (a + b).toInt = a.toInt + b.toInt := x_add (by omega) (by omega)
  have h2 : (a + b + c).toInt = a.toInt + b.toInt + c.toInt := by rw [x_add (by omega) (by omega), h1]
  have h3 : (2 * (a + b + c)).toInt = 2 * (a.toInt + b.toInt + c.toInt) := by rw [x_mul (by rw [e2]; omega) (by rw [e2]; omega), h2, e2]
  have h4 : (3 * x).toInt = 3 * x.toInt := by rw [x_mul (by rw [e3]; omega) (by rw [e3]; omega), e3]
  rw [x_sub (by omega) (by omega), h3, h4]
theorem i4 {a b c d x : Int64} (ha : -2147483648 ≤ a.toInt ∧ a.toInt ≤ 2147483648) (hb : -2147483648 ≤ b.toInt ∧ b.toInt ≤ 2147483648) (hc : -2147483648 ≤ c.toInt ∧ c.toInt ≤ 2147483648) (hd : -2147483648 ≤ d.toInt ∧ d.toInt ≤ 2147483648) (hx : -2147483648 ≤ x.toInt ∧ x.toInt ≤ 2147483648) : (a + b + c + d - 2 * x).toInt = a.toInt + b.toInt + c.toInt + d.toInt - 2 * x.toInt := by
  have e2 : (2 : Int64).toInt = 2 := rfl
  have h1 : (a + b).toInt = a.toInt + b.toInt := x_add (by omega) (by omega)
  have h2 : (a + b + c).toInt = a.toInt + b.toInt + c.toInt := by rw [x_add (by omega) (by omega), h1]
  have h3 : (a + b + c + d).toInt = a.toInt + b.toInt + c.toInt + d.toInt := by rw [x_add (by omega) (by omega), h2]
  have h4 : (2 * x).toInt = 2 * x.toInt := by rw [x_mul (by rw [e2]; omega) (by rw [e2]; omega), e2]
  rw [x_sub (by omega) (by omega), h3, h4]
theorem r2 (a b : Int) : (a + b) * (a + b) + (a - b) * (a - b) + 0 * 0 + 0 * 0 = 2 * (a * a + b * b + 0 * 0 + 0 * 0) := by grind
theorem r3 (a b c : Int) : (2 * (a + b + c) - 3 * a) * (2 * (a + b + c) - 3 * a) + (2 * (a + b + c) - 3 * b) * (2 * (a + b + c) - 3 * b) + (2 * (a + b + c) - 3 * c) * (2 * (a + b + c) - 3 * c) + 0 * 0 = 9 * (a * a + b * b + c * c + 0 * 0) := by grind
theorem r4 (a b c d : Int) : (a + b + c + d - 2 * a) * (a + b + c + d - 2 * a) + (a + b + c + d - 2 * b) * (a + b + c + d - 2 * b) + (a + b + c + d - 2 * c) * (a + b + c + d - 2 * c) + (a + b + c + d - 2 * d) * (a + b + c + d - 2 * d) = 4 * (a * a + b * b + c * c + d * d) := by grind
theorem z0 : (0 : Int64).toInt = 0 := rfl
theorem turn_pls {pl dr : Nat} {f : Nat → Int64} (hd4 : dr = 2 ∨ dr = 3 ∨ dr = 4) (hz : zpd pl dr f) (h : nrm f 48 ≤ 4611686018427387904) {q : Nat} (hq : q < 12) : pls (turnF pl dr f) q = scI dr * pls f q := by
  have h0 := small h (show q * 4 < 48 by omega)
  have h1 := small h (show q * 4 + 1 < 48 by omega)
  have h2 := small h (show q * 4 + 2 < 48 by omega)
  have h3 := small h (show q * 4 + 3 < 48 by omega)
  unfold pls
  by_cases hp : q < pl
  · rcases hd4 with rfl | rfl | rfl
    · have t0 : turnF pl 2 f (q * 4) = f (q * 4) + f (q * 4 + 1) := by rw [← tv2a]; exact turn_at (d := 0) hp (by omega) (by omega)
      have t1 : turnF pl 2 f (q * 4 + 1) = f (q * 4) - f (q * 4 + 1) := by rw [← tv2b]; exact turn_at hp (by omega) (by omega)
      have z2 := hz.at hq (show 2 < 4 by omega) (by omega)
      have z3 := hz.at hq (show 3 < 4 by omega) (by omega)
      have t2 : turnF pl 2 f (q * 4 + 2) = 0 := by rw [turn_no (by omega) (by omega)]; exact z2
      have t3 : turnF pl 2 f (q * 4 + 3) = 0 := by rw [turn_no (by omega) (by omega)]; exact z3
      unfold sq
      rw [t0, t1, t2, t3, z2, z3, z0, x_add (by omega) (by omega), x_sub (by omega) (by omega)]
      exact r2 _ _
    · have t0 : turnF pl 3 f (q * 4) = 2 * (f (q * 4) + f (q * 4 + 1) + f (q * 4 + 2)) - 3 * f (q * 4) := (turn_at (d := 0) hp (by omega) (by omega)).trans (tv3 f q (d := 0) (by omega))
      have t1 := (turn_at (f := f) (d := 1) hp (show 1 < 3 by omega) (by omega)).trans (tv3 f q (d := 1) (by omega))
      have t2 := (turn_at (f := f) (d := 2) hp (show 2 < 3 by omega) (by omega)).trans (tv3 f q (d := 2) (by omega))
      have z3 := hz.at hq (show 3 < 4 by omega) (by omega)
      have t3 : turnF pl 3 f (q * 4 + 3) = 0 := by rw [turn_no (by omega) (by omega)]; exact z3
      unfold sq
      rw [t0, t1, t2, t3, z3, z0, i3 h0 h1 h2 h0, i3 h0 h1 h2 h1, i3 h0 h1 h2 h2]
      exact r3 _ _ _
    · have t0 : turnF pl 4 f (q * 4) = f (q * 4) + f (q * 4 + 1) + f (q * 4 + 2) + f (q * 4 + 3) - 2 * f (q * 4) := (turn_at (d := 0) hp (by omega) (by omega)).trans (tv4 f q (d := 0) (by omega))
      have t1 := (turn_at (f := f) (d := 1) hp (show 1 < 4 by omega) (by omega)).trans (tv4 f q (d := 1) (by omega))
      have t2 := (turn_at (f := f) (d := 2) hp (show 2 < 4 by omega) (by omega)).trans (tv4 f q (d := 2) (by omega))
      have t3 := (turn_at (f := f) (d := 3) hp (show 3 < 4 by omega) (by omega)).trans (tv4 f q (d := 3) (by omega))
      unfold sq
      rw [t0, t1, t2, t3, i4 h0 h1 h2 h3 h0, i4 h0 h1 h2 h3 h1, i4 h0 h1 h2 h3 h2, i4 h0 h1 h2 h3 h3]
      exact r4 _ _ _ _
  · have g : ∀ d, d < 4 → turnF pl dr f (q * 4 + d) = 0 ∧ f (q * 4 + d) = 0 := fun d hd => by
      have z := hz.at hq hd (fun w => hp w.1)
      exact ⟨by rw [turn_no hd (fun w => hp w.1)]; exact z, z⟩
    obtain ⟨a0, b0⟩ := g 0 (by omega)
    obtain ⟨a1, b1⟩ := g 1 (by omega)
    obtain ⟨a2, b2⟩ := g 2 (by omega)
    obtain ⟨a3, b3⟩ := g 3 (by omega)
    rw [Nat.add_zero] at a0 b0
    unfold sq
    rw [a0, a1, a2, a3, b0, b1, b2, b3, z0]
    simp
theorem turn_nrm {pl dr : Nat} {f : Nat → Int64} (hd4 : dr = 2 ∨ dr = 3 ∨ dr = 4) (hz : zpd pl dr f) (h : nrm f 48 ≤ 4611686018427387904) : nrm (turnF pl dr f) 48 = scI dr * nrm f 48 := by
  rw [show (48 : Nat) = 12 * 4 by rfl, nrm_pls, nrm_pls, ← sumZ_mul]
  exact sumZ_congr 12 (fun q hq => turn_pls hd4 hz h hq)
theorem hv_sc {dr : Nat} (hd4 : dr = 2 ∨ dr = 3 ∨ dr = 4) {x : Int} (h : x ≤ (hvOf dr).toInt) : scI dr * x ≤ 4611686018427387904 := by
  rcases hd4 with rfl | rfl | rfl
  · have e : (hvOf 2).toInt = 2305843009213693952 := by decide
    have e2 : scI 2 = 2 := rfl
    rw [e2]; omega
  · have e : (hvOf 3).toInt = 512409557603043100 := by decide
    have e2 : scI 3 = 9 := rfl
    rw [e2]; omega
  · have e : (hvOf 4).toInt = 1152921504606846976 := by decide
    have e2 : scI 4 = 4 := rfl
    rw [e2]; omega
theorem sc_pos {dr : Nat} (hd4 : dr = 2 ∨ dr = 3 ∨ dr = 4) : 2 ≤ scI dr ∧ scI dr ≤ 9 := by rcases hd4 with rfl | rfl | rfl <;> decide
section STP
variable {pl dr : Nat} {to : Nat → Nat} {mk : Nat → Bool} {f : Nat → Int64}
theorem wOk.step (hw : wOk pl dr f) (hp : pairs pl dr to) (hd4 : dr = 2 ∨ dr = 3 ∨ dr = 4) (hh : sqs f ≤ hvOf dr) : wOk pl dr (stepF pl dr to mk f) ∧ sqs (stepF pl dr to mk f) = sqs f * scOf dr ∧ (sqs f ≠ 0 → sqs (stepF pl dr to mk f) ≠ 0) := by
  obtain ⟨hz, hn⟩ := hw
  have e := sqs_ex hn
  have hh : (sqs f).toInt ≤ (hvOf dr).toInt := Int64.le_iff_toInt_le.mp hh
  rw [e] at hh
  have h1 := hv_sc hd4 hh
  have n1 : nrm (signF pl dr mk f) 48 = nrm f 48 := sgn_nrm hn
  have n2 : nrm (turnF pl dr (signF pl dr mk f)) 48 = scI dr * nrm f 48 := by rw [turn_nrm hd4 (zpd.sgn hz) (by rw [n1]; exact hn), n1]
  have n3 : nrm (stepF pl dr to mk f) 48 = scI dr * nrm f 48 := by unfold stepF; rw [go_nrm hp, n2]
  have hn3 : nrm (stepF pl dr to mk f) 48 ≤ 4611686018427387904 := by rw [n3]; exact h1
  have e3 := sqs_ex hn3
  have h0 := nrm_nn f 48
  have hs := sc_pos hd4
  have e4 : (sqs f * scOf dr).toInt = scI dr * nrm f 48 := by
    have h2 : (sqs f).toInt * (scOf dr).toInt = scI dr * nrm f 48 := by rw [e, scOf_I hd4, Int.mul_comm]
    have h3 : 0 ≤ scI dr * nrm f 48 := Int.mul_nonneg (by omega) h0
    rw [x_mul (by rw [h2]; omega) (by rw [h2]; omega), h2]
  have e5 : sqs (stepF pl dr to mk f) = sqs f * scOf dr := Int64.toInt_inj.mp (by rw [e3, n3, e4])
  refine ⟨⟨zpd.go hp (zpd.turn (zpd.sgn hz)), hn3⟩, e5, fun hne hz0 => hne ?_⟩
  refine Int64.toInt_inj.mp ?_
  rw [hz0] at e3
  have h5 : scI dr * nrm f 48 = 0 := by rw [← n3, ← e3]; rfl
  rcases Int.mul_eq_zero.mp h5 with g | g
  · omega
  · rw [e, g]; rfl
theorem left_on {hv sc wt : Int64} {t : Nat} (ht : t < 60) (h : wt ≤ hv) : leftF hv sc (60 - t) wt = leftF hv sc (60 - (t + 1)) (wt * sc) + 1 := by
  rw [show 60 - t = 60 - (t + 1) + 1 by omega, leftF, if_pos h]
theorem left_off {hv sc wt : Int64} {t : Nat} (h : ¬ (t < 60 ∧ wt ≤ hv)) : leftF hv sc (60 - t) wt = 0 := by
  rcases Nat.lt_or_ge t 60 with g | g
  · rw [show 60 - t = 60 - (t + 1) + 1 by omega, leftF, if_neg (fun z => h ⟨g, z⟩)]
  · rw [show 60 - t = 0 by omega, leftF]
theorem div_sq {a : Int64} {dr : Nat} (hd4 : dr = 2 ∨ dr = 3 ∨ dr = 4) : scI dr * scI dr * sq (a / scOf dr) ≤ sq a := by
  have hs := sc_pos hd4
  have hsc := scOf_I hd4
  have ha1 := a.minValue_le_toInt
  have ha2 := a.toInt_lt
  have key : ∀ x y : Int, 2 ≤ y → y * y * (x.tdiv y * x.tdiv y) ≤ x * x ∧ -x.natAbs ≤ x.tdiv y ∧ x.tdiv y ≤ x.natAbs := by
    intro x y hy
    have n1 : (x.tdiv y).natAbs = x.natAbs / y.natAbs := Int.natAbs_tdiv x y
    have n2 : y.natAbs * (x.natAbs / y.natAbs) ≤ x.natAbs := Nat.mul_div_le _ _
    have n3 : (y.natAbs * (x.natAbs / y.natAbs)) * (y.natAbs * (x.natAbs / y.natAbs)) ≤ x.natAbs * x.natAbs := Nat.mul_le_mul n2 n2
    rw [← n1] at n3
    have c : ∀ z : Int, ((z.natAbs * z.natAbs : Nat) : Int) = z * z := fun z => Int.natAbs_mul_self
    have n4 : (((y.natAbs * (x.tdiv y).natAbs) * (y.natAbs * (x.tdiv y).natAbs) : Nat) : Int) ≤ ((x.natAbs * x.natAbs : Nat) : Int) := Int.ofNat_le.mpr n3
    rw [c x, ← Int.natAbs_mul, c] at n4
    have n5 : (x.tdiv y).natAbs ≤ x.natAbs := by rw [n1]; exact Nat.div_le_self _ _
    refine ⟨?_, by omega, by omega⟩
    have e : y * y * (x.tdiv y * x.tdiv y) = y * x.tdiv y * (y * x.tdiv y) := by grind
    rw [e]; exact n4
  obtain ⟨k1, k2, k3⟩ := key a.toInt (scI dr) (by omega)
  have e : (a / scOf dr).toInt = a.toInt.tdiv (scI dr) := by
    rw [Int64.toInt_div, hsc]
    have b1 : (a.toInt.tdiv (scI dr)).natAbs ≤ a.toInt.natAbs / 2 := by
      rw [Int.natAbs_tdiv]
      exact Nat.div_le_div_left (by omega) (by omega)
    exact x_bm (by have : Int64.minValue.toInt = -9223372036854775808 := rfl
                   omega) (by have : Int64.minValue.toInt = -9223372036854775808 := rfl
                              omega)
  unfold sq
  rw [e]
  exact k1
theorem wOk.undo (hw : wOk pl dr f) (hp : pairs pl dr to) (hd4 : dr = 2 ∨ dr = 3 ∨ dr = 4) : wOk pl dr (undoF pl dr to mk f) := by
  obtain ⟨hz, hn⟩ := hw
  have g1 : nrm (goF to f) 48 = nrm f 48 := go_nrm hp f
  have z1 := zpd.go hp hz
  have n2 : nrm (turnF pl dr (goF to f)) 48 = scI dr * nrm f 48 := by rw [turn_nrm hd4 z1 (by rw [g1]; exact hn), g1]
  have z2 := zpd.turn z1
  have h3 : scI dr * scI dr * nrm (lessF pl dr (turnF pl dr (goF to f))) 48 ≤ nrm (turnF pl dr (goF to f)) 48 := by
    rw [nrm_sum, nrm_sum, ← sumZ_mul]
    refine sumZ_le 48 (fun k hk => ?_)
    unfold lessF
    by_cases hd : dor pl dr k = true
    · rw [if_pos hd]; exact div_sq hd4
    · rw [if_neg hd, z2 k hk (Bool.eq_false_iff.mpr hd)]
      unfold sq
      rw [z0]; simp
  have h0 := nrm_nn (lessF pl dr (turnF pl dr (goF to f))) 48
  have h4 : nrm (lessF pl dr (turnF pl dr (goF to f))) 48 ≤ nrm f 48 := by
    rw [n2] at h3
    rcases hd4 with rfl | rfl | rfl
    · have e : scI 2 = 2 := rfl
      rw [e] at h3; omega
    · have e : scI 3 = 9 := rfl
      rw [e] at h3; omega
    · have e : scI 4 = 4 := rfl
      rw [e] at h3; omega
  refine ⟨zpd.sgn (zpd.less z2), ?_⟩
  unfold undoF
  rw [sgn_nrm (Int.le_trans h4 hn)]
  exact Int.le_trans h4 hn
theorem told_sq {x : Int64} (h : told x = true) : sq x ≤ 10000 := by
  have h := told_iff.mp h
  have h1 := Int64.le_iff_toInt_le.mp h.1
  have h2 := Int64.le_iff_toInt_le.mp h.2
  have e1 : (-100 : Int64).toInt = -100 := by decide
  have e2 : (100 : Int64).toInt = 100 := rfl
  rw [e1] at h1
  rw [e2] at h2
  rcases Int.le_total 0 x.toInt with g | g
  · exact Int.mul_le_mul h2 h2 g (by omega)
  · have : (-x.toInt) * (-x.toInt) ≤ 100 * 100 := Int.mul_le_mul (by omega) (by omega) (by omega) (by omega)
    rw [Int.neg_mul_neg] at this
    exact this
theorem nrm_told (h : ∀ k, k < 48 → told (f k) = true) : nrm f 48 ≤ 4611686018427387904 := by
  rw [nrm_sum]
  have := sumZ_le (F := fun k => sq (f k)) (F' := fun _ => 10000) 48 (fun k hk => told_sq (h k hk))
  have e : sumZ (fun _ => 10000) 48 = 480000 := by decide
  rw [e] at this
  omega
theorem toldB_all {c : Nat} : ∀ n, toldB f c n = true → ∀ i, i < n → i = c ∨ told (f i) = true
  | 0, _, i, hi => absurd hi (Nat.not_lt_zero i)
  | n + 1, h, i, hi => by
    rw [toldB, Bool.and_eq_true, Bool.or_eq_true, decide_eq_true_iff] at h
    rcases Nat.lt_or_ge i n with g | g
    · exact toldB_all n h.1 i g
    · rw [show i = n by omega]; exact h.2
theorem told0 : told 0 = true := by decide
theorem wOk.put (hw : wOk pl dr f) {a : Nat} {x : Int64} (ha : dor pl dr a = true) (hx : told x = true) (ht : toldB f a 48 = true) : wOk pl dr (vp_updL f a x) := by
  refine ⟨fun k hk hd => ?_, nrm_told (fun k hk => ?_)⟩
  · unfold vp_updL
    rw [if_neg (fun z => by rw [z, ha] at hd; cases hd)]
    exact hw.1 k hk hd
  · unfold vp_updL
    split
    · exact hx
    · next e => exact (toldB_all 48 ht k hk).resolve_left e
theorem wOk.fill (hw : wOk pl dr f) {x : Int64} (hx : told x = true) : wOk pl dr (fillF pl dr x f) := by
  refine ⟨fun k hk hd => ?_, nrm_told (fun k hk => ?_)⟩
  · unfold fillF
    rw [if_neg (fun z => by rw [hd] at z; cases z)]
    exact hw.1 k hk hd
  · unfold fillF
    split
    · exact hx
    · next e => rw [hw.1 k hk (Bool.eq_false_iff.mpr e)]; exact told0
/-! as the reference tells multiples -/
theorem mulB_all {g : Nat → Int64} {z : Nat} : ∀ n, mulB f g z n = true → ∀ i, i < n → f i * g z = g i * f z
  | 0, _, i, hi => absurd hi (Nat.not_lt_zero i)
  | n + 1, h, i, hi => by
    rw [mulB, Bool.and_eq_true, decide_eq_true_iff] at h
    rcases Nat.lt_or_ge i n with q | q
    · exact mulB_all n h.1 i q
    · rw [show i = n by omega]; exact h.2
theorem prod_bd {a b : Int} (ha : -2147483648 ≤ a ∧ a ≤ 2147483648) (hb : -2147483648 ≤ b ∧ b ≤ 2147483648) : -4611686018427387904 ≤ a * b ∧ a * b ≤ 4611686018427387904 := by
  have h1 : (a * b).natAbs ≤ 2147483648 * 2147483648 := by
    rw [Int.natAbs_mul]
    exact Nat.mul_le_mul (by omega) (by omega)
  omega
theorem nz_of (h : sqs f ≠ 0) : ∃ k, k < 48 ∧ f k ≠ 0 := by
  refine Classical.byContradiction (fun z => h ?_)
  have h0 : ∀ k, k < 48 → f k = 0 := fun k hk => Classical.byContradiction (fun w => z ⟨k, hk, w⟩)
  have : ∀ q, q < 12 → sqAt f q = 0 := fun q hq => by
    rw [sqAt_congr (g := fun _ => 0) (fun j hj => h0 _ (by omega))]
    rfl
  have g : ∀ q, q ≤ 12 → sqA f q = 0 := by
    intro q
    induction q with
    | zero => intro _; rfl
    | succ q ih => intro hq; rw [sqA, ih (by omega), this q (by omega)]; rfl
  exact g 12 (by omega)
theorem fnz_lt (h : sqs f ≠ 0) : fnz f 48 < 48 := by
  obtain ⟨k, hk, hne⟩ := nz_of h
  rcases Nat.lt_or_ge (fnz f 48) 48 with g | g
  · exact g
  · exact absurd (fnz_zero f 48 k (by omega)) hne
theorem isMul_ref {g : Nat → Int64} (hf : nrm f 48 ≤ 4611686018427387904) (hg : nrm g 48 ≤ 4611686018427387904) (hfz : sqs f ≠ 0) (hgz : sqs g ≠ 0) : (decide (f (fnz g 48) ≠ 0) && mulB f g (fnz g 48) 48) = isMul f g := by
  have hz := fnz_lt hgz
  unfold isMul
  rw [decide_eq_true hz, Bool.true_and]
  cases hm : mulB f g (fnz g 48) 48 with
  | false => rw [Bool.and_false]
  | true =>
    rw [Bool.and_true]
    refine decide_eq_true (fun h0 => ?_)
    obtain ⟨k, hk, hne⟩ := nz_of hfz
    have h1 := mulB_all 48 hm k hk
    rw [h0, Int64.mul_zero] at h1
    have bd := prod_bd (small hf hk) (small hg hz)
    have h2 := x_mul (a := f k) (b := g (fnz g 48)) (by omega) (by omega)
    rw [h1] at h2
    rcases Int.mul_eq_zero.mp h2.symm with e | e
    · exact hne (Int64.toInt_inj.mp e)
    · exact fnz_ne g 48 hz (Int64.toInt_inj.mp e)
end STP
/-! the mean's sum: told from either side -/
theorem men_iff {dr : Nat} (hd4 : dr = 2 ∨ dr = 3 ∨ dr = 4) {s x : Int64} (h0 : 0 ≤ s.toInt) (hs : s ≤ hvOf dr) (hx : 0 ≤ x.toInt ∧ x.toInt ≤ 4611686018427387904) : (4611686018427387904 - x < s * scOf dr ↔ 4611686018427387904 - s * scOf dr < x) ∧ (¬ 4611686018427387904 - s * scOf dr < x → 0 ≤ (s * scOf dr + x).toInt ∧ (s * scOf dr + x).toInt ≤ 4611686018427387904) := by
  have hh := Int64.le_iff_toInt_le.mp hs
  have h1 := hv_sc hd4 hh
  have hp := sc_pos hd4
  have e2 : s.toInt * (scOf dr).toInt = scI dr * s.toInt := by rw [scOf_I hd4, Int.mul_comm]
  have h3 : 0 ≤ scI dr * s.toInt := Int.mul_nonneg (by omega) h0
  have e : (s * scOf dr).toInt = scI dr * s.toInt := by rw [x_mul (by rw [e2]; omega) (by rw [e2]; omega), e2]
  have l : (4611686018427387904 : Int64).toInt = 4611686018427387904 := rfl
  have a1 : ((4611686018427387904 : Int64) - x).toInt = 4611686018427387904 - x.toInt := by rw [x_sub (by rw [l]; omega) (by rw [l]; omega), l]
  have a2 : ((4611686018427387904 : Int64) - s * scOf dr).toInt = 4611686018427387904 - scI dr * s.toInt := by rw [x_sub (by rw [l, e]; omega) (by rw [l, e]; omega), l, e]
  constructor
  · rw [Int64.lt_iff_toInt_lt, Int64.lt_iff_toInt_lt, a1, a2, e]
    constructor <;> intro h <;> omega
  · intro h
    rw [Int64.lt_iff_toInt_lt, a2] at h
    rw [x_add (by rw [e]; omega) (by rw [e]; omega), e]
    omega
