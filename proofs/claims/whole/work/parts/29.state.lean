/-! THE STATE: what the class and the reference both hold, and where the class holds it -/
/-- places, doors, leads, marks, has walks; net, time, wave -/
abbrev Ab : Type := (Nat → Nat) × (Nat → Nat) × (Nat → Nat → Nat) × (Nat → Nat → Bool) × (Nat → Bool) × (Nat → Nat) × (Nat → Nat) × (Nat → Nat → Int64)
def aPl (σ : Ab) : Nat → Nat := σ.1
def aDr (σ : Ab) : Nat → Nat := σ.2.1
def aTo (σ : Ab) : Nat → Nat → Nat := σ.2.2.1
def aMk (σ : Ab) : Nat → Nat → Bool := σ.2.2.2.1
def aUs (σ : Ab) : Nat → Bool := σ.2.2.2.2.1
def aNt (σ : Ab) : Nat → Nat := σ.2.2.2.2.2.1
def aTm (σ : Ab) : Nat → Nat := σ.2.2.2.2.2.2.1
def aWv (σ : Ab) : Nat → Nat → Int64 := σ.2.2.2.2.2.2.2
/-- the heaviest wave that goes on -/
def hvOf (dr : Nat) : Int64 := if dr = 2 then 2305843009213693952 else if dr = 3 then 512409557603043100 else 1152921504606846976
/-- the squares' sum as a whole number -/
def nrm (f : Nat → Int64) : Nat → Int
  | 0 => 0
  | k + 1 => nrm f k + (f k).toInt * (f k).toInt
def wOk (pl dr : Nat) (f : Nat → Int64) : Prop := (∀ k, k < 48 → dor pl dr k = false → f k = 0) ∧ nrm f 48 ≤ 4611686018427387904
def nOk (σ : Ab) (i : Nat) : Prop := 1 ≤ aPl σ i ∧ aPl σ i ≤ 12 ∧ (aDr σ i = 2 ∨ aDr σ i = 3 ∨ aDr σ i = 4) ∧ pairs (aPl σ i) (aDr σ i) (aTo σ i)
def aOk (cn cw : Nat) (σ : Ab) : Prop := cn ≤ 6 ∧ cw ≤ 12 ∧ (∀ i, i < cn → nOk σ i) ∧ ∀ j, j < cw → aNt σ j < cn ∧ aTm σ j ≤ 60 ∧ wOk (aPl σ (aNt σ j)) (aDr σ (aNt σ j)) (aWv σ j) ∧ aUs σ (aNt σ j) = true
def cSh (L : List Nat) (G : mG) (cn cw : Nat) (nt : Nat → Nat) : Prop :=
  (∀ r, r < 8 → r ∈ L) ∧ G 0 0 = some 1 ∧ G 0 1 = some 2 ∧ G 0 2 = some 3 ∧ G 0 3 = some 5 ∧ G 3 0 = some 4 ∧ G 5 0 = some 6 ∧ G 5 1 = some 7 ∧
  (∀ i, i < 6 → G 1 i = if i < cn then some (8 + 3 * i) else none) ∧ (∀ j, j < 12 → G 2 j = if j < cw then some (26 + 3 * j) else none) ∧
  (∀ i, i < cn → 8 + 3 * i ∈ L ∧ 9 + 3 * i ∈ L ∧ 10 + 3 * i ∈ L ∧ G (8 + 3 * i) 4 = some (9 + 3 * i) ∧ G (8 + 3 * i) 5 = some (10 + 3 * i)) ∧
  ∀ j, j < cw → 26 + 3 * j ∈ L ∧ 27 + 3 * j ∈ L ∧ 28 + 3 * j ∈ L ∧ G (26 + 3 * j) 1 = some (8 + 3 * nt j) ∧ G (26 + 3 * j) 2 = some (27 + 3 * j) ∧ G (27 + 3 * j) 0 = some (28 + 3 * j)
def cNet (σ : Ab) (I : mI) (J : mJ) (i : Nat) : Prop := I (8 + 3 * i) 0 = nI (aPl σ i) ∧ I (8 + 3 * i) 1 = nI (aDr σ i) ∧ I (8 + 3 * i) 2 = nI (scN (aDr σ i)) ∧ J (8 + 3 * i) 3 = hvOf (aDr σ i) ∧ I (8 + 3 * i) 6 = bI (aUs σ i) ∧ (∀ c, c < 48 → I (9 + 3 * i) c = nI (aTo σ i c)) ∧ ∀ q, q < 12 → I (10 + 3 * i) q = bI (aMk σ i q)
def cWk (σ : Ab) (I : mI) (J : mJ) (j : Nat) : Prop := I (26 + 3 * j) 0 = nI (aNt σ j) ∧ I (27 + 3 * j) 1 = nI (aTm σ j) ∧ J (28 + 3 * j) = aWv σ j
def cDt (cn cw : Nat) (σ : Ab) (I : mI) (J : mJ) : Prop := I 0 4 = nI cn ∧ I 0 5 = nI cw ∧ (∀ i, i < cn → cNet σ I J i) ∧ ∀ j, j < cw → cWk σ I J j
/-- nothing but the class's own cells has changed -/
def frm (I I' : mI) (J J' : mJ) : Prop := ∀ r, 62 ≤ r → I' r = I r ∧ J' r = J r
theorem frm.rf (I : mI) (J : mJ) : frm I I J J := fun _ _ => ⟨rfl, rfl⟩
theorem kd_n {i : Nat} (h : i < 6) : kd (8 + 3 * i) = 1 := by unfold kd; rw [if_neg (by omega), if_pos (by omega), if_pos (by omega)]
theorem kd_t {i : Nat} (h : i < 6) : kd (9 + 3 * i) = 6 := by unfold kd; rw [if_neg (by omega), if_pos (by omega), if_neg (by omega), if_pos (by omega)]
theorem kd_k {i : Nat} (h : i < 6) : kd (10 + 3 * i) = 8 := by unfold kd; rw [if_neg (by omega), if_pos (by omega), if_neg (by omega), if_neg (by omega)]
theorem kd_w {j : Nat} (h : j < 12) : kd (26 + 3 * j) = 2 := by unfold kd; rw [if_neg (by omega), if_neg (by omega), if_pos (by omega), if_pos (by omega)]
theorem kd_v {j : Nat} (h : j < 12) : kd (27 + 3 * j) = 3 := by unfold kd; rw [if_neg (by omega), if_neg (by omega), if_pos (by omega), if_neg (by omega), if_pos (by omega)]
theorem kd_q {j : Nat} (h : j < 12) : kd (28 + 3 * j) = 7 := by unfold kd; rw [if_neg (by omega), if_neg (by omega), if_pos (by omega), if_neg (by omega), if_neg (by omega)]
theorem ln_t {i : Nat} (h : i < 6) : ln (9 + 3 * i) = 48 := by unfold ln; rw [if_neg (by omega), if_neg (by omega), if_neg (by omega), if_neg (by omega), if_pos (by omega), if_pos (by omega)]
theorem ln_k {i : Nat} (h : i < 6) : ln (10 + 3 * i) = 12 := by unfold ln; rw [if_neg (by omega), if_neg (by omega), if_neg (by omega), if_neg (by omega), if_pos (by omega), if_neg (by omega)]
theorem ln_q {j : Nat} (h : j < 12) : ln (28 + 3 * j) = 48 := by unfold ln; rw [if_neg (by omega), if_neg (by omega), if_neg (by omega), if_neg (by omega), if_neg (by omega), if_pos (by omega)]
section SH
variable {L : List Nat} {G : mG} {cn cw : Nat} {nt : Nat → Nat}
theorem cSh.net (h : cSh L G cn cw nt) {i : Nat} (hi : i < cn) (h6 : cn ≤ 6) : isN L G (8 + 3 * i) (9 + 3 * i) (10 + 3 * i) := by
  obtain ⟨-, -, -, -, -, -, -, -, -, -, hn, -⟩ := h
  obtain ⟨a, b, c, d, e⟩ := hn i hi
  exact ⟨a, kd_n (by omega), d, b, kd_t (by omega), ln_t (by omega), e, c, kd_k (by omega), ln_k (by omega)⟩
theorem cSh.wave (h : cSh L G cn cw nt) {j : Nat} (hj : j < cw) (h12 : cw ≤ 12) : isV L G (27 + 3 * j) (28 + 3 * j) := by
  obtain ⟨-, -, -, -, -, -, -, -, -, -, -, hw⟩ := h
  obtain ⟨a, b, c, d, e, f⟩ := hw j hj
  exact ⟨b, kd_v (by omega), f, c, kd_q (by omega), ln_q (by omega)⟩
theorem cSh.trial (h : cSh L G cn cw nt) : isV L G 3 4 := ⟨h.1 3 (by omega), by decide, h.2.2.2.2.2.1, h.1 4 (by omega), by decide, by decide⟩
theorem cSh.cls (h : cSh L G cn cw nt) : isC L G 5 6 7 := ⟨h.1 5 (by omega), by decide, h.2.2.2.2.2.2.1, h.1 6 (by omega), by decide, by decide, h.2.2.2.2.2.2.2.1, h.1 7 (by omega), by decide, by decide⟩
end SH
/-- an int as a number below n -/
def ixN (x : Int32) (n : Nat) : Option Nat := if 0 ≤ x.toInt ∧ x.toInt < (n : Int) then some x.toInt.toNat else none
theorem ixN_nI {i n : Nat} (h : i < n) (hn : n ≤ 2 ^ 31) : ixN (nI i) n = some i := by
  unfold ixN
  rw [nI_toInt (by omega), if_pos (by omega)]
  rfl
theorem ixN_some {x : Int32} {n i : Nat} (h : ixN x n = some i) (hn : n ≤ 2 ^ 31) : i < n ∧ x = nI i := by
  unfold ixN at h
  split at h
  · next g =>
    have e := Option.some.inj h
    refine ⟨by omega, Int32.toInt_inj.mp ?_⟩
    rw [nI_toInt (by omega)]
    omega
  · cases h
theorem ixN_neg {x : Int32} {n : Nat} (h : x < 0) : ixN x n = none := by
  unfold ixN
  rw [Int32.lt_iff_toInt_lt] at h
  rw [if_neg (fun z => by have : (0 : Int32).toInt = 0 := by decide
                          omega)]
theorem ixN_ge {x : Int32} {n : Nat} (h : nI n ≤ x) (hn : n < 2 ^ 31) : ixN x n = none := by
  unfold ixN
  rw [Int32.le_iff_toInt_le, nI_toInt hn] at h
  rw [if_neg (by omega)]
theorem ixN_not {n i : Nat} (h : n ≤ i) (hi : i < 2 ^ 31) : ixN (nI i) n = none := ixN_ge (nI_le h hi) (by omega)
