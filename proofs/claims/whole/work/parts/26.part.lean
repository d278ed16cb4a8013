/-! CLASSES OF PLACES: relations on the first N numbers, their least members, how many -/
theorem wb_tb (n : Nat) : (lN n).toBitVec = BitVec.ofNat 64 n := rfl
theorem wb_inj {a b : Int64} (h : a.toBitVec = b.toBitVec) : a = b := Int64.toBitVec_inj.mp h
theorem wb_c : ∀ k, k < 64 → ((nI k).toInt64 &&& 63) = lN k := by decide +kernel
theorem wb_sm : ∀ k, k < 64 → (BitVec.ofNat 64 k).smod 64 = BitVec.ofNat 64 k := by decide +kernel
theorem wb_shl (n : Nat) {k : Nat} (hk : k < 64) : lN n <<< ((nI k).toInt64 &&& 63) = lN (n * 2 ^ k) := by
  rw [wb_c k hk]
  apply wb_inj
  rw [Int64.toBitVec_shiftLeft, wb_tb, wb_tb, wb_tb, wb_sm k hk]
  apply BitVec.eq_of_toNat_eq
  rw [BitVec.shiftLeft_eq', BitVec.toNat_shiftLeft, BitVec.toNat_ofNat, BitVec.toNat_ofNat, BitVec.toNat_ofNat, Nat.mod_eq_of_lt (show k < 2 ^ 64 by omega), Nat.shiftLeft_eq, Nat.mul_mod, Nat.mod_mod, ← Nat.mul_mod]
/-- the least i < n with P i, else n -/
def lst (P : Nat → Bool) : Nat → Nat
  | 0 => 0
  | n + 1 => if lst P n < n then lst P n else if P n = true then n else n + 1
theorem lst_le (P : Nat → Bool) : ∀ n, lst P n ≤ n
  | 0 => Nat.le_refl _
  | n + 1 => by
    have := lst_le P n
    rw [lst]
    split
    · omega
    · split <;> omega
theorem lst_no (P : Nat → Bool) : ∀ n k, k < lst P n → P k = false
  | 0, k, h => absurd h (Nat.not_lt_zero k)
  | n + 1, k, h => by
    have ih := lst_no P n
    have hle := lst_le P n
    rw [lst] at h
    split at h
    · exact ih k h
    · split at h
      · exact ih k (by omega)
      · next h1 h2 =>
        rcases Nat.lt_or_ge k n with q | q
        · exact ih k (by omega)
        · rw [show k = n by omega]; exact Bool.eq_false_iff.mpr h2
theorem lst_yes (P : Nat → Bool) : ∀ n, lst P n < n → P (lst P n) = true
  | 0, h => absurd h (Nat.not_lt_zero _)
  | n + 1, h => by
    have hle := lst_le P n
    rw [lst] at h ⊢
    split
    · next h1 => exact lst_yes P n h1
    · next h1 =>
      split
      · next h2 => exact h2
      · next h2 => rw [if_neg h1, if_neg h2] at h; omega
theorem lst_of {P : Nat → Bool} {n i : Nat} (hi : i < n) (h0 : ∀ k, k < i → P k = false) (h1 : P i = true) : lst P n = i := by
  have hle := lst_le P n
  rcases Nat.lt_trichotomy (lst P n) i with h | h | h
  · have := lst_yes P n (by omega); rw [h0 _ h] at this; cases this
  · exact h
  · have := lst_no P n i h; rw [h1] at this; cases this
theorem lst_none {P : Nat → Bool} {n : Nat} (h0 : ∀ k, k < n → P k = false) : lst P n = n := by
  have hle := lst_le P n
  rcases Nat.lt_or_ge (lst P n) n with h | h
  · have := lst_yes P n h; rw [h0 _ h] at this; cases this
  · omega
/-- the least member of p's class; how many classes have their least members below n -/
def fsE (E : Nat → Nat → Bool) (p : Nat) : Nat := lst (fun i => E i p) p
def numE (E : Nat → Nat → Bool) : Nat → Nat
  | 0 => 0
  | p + 1 => if fsE E p < p then numE E p else numE E p + 1
def eqv (N : Nat) (E : Nat → Nat → Bool) : Prop := (∀ p, p < N → E p p = true) ∧ (∀ p q, p < N → q < N → E p q = true → E q p = true) ∧ ∀ p q r, p < N → q < N → r < N → E p q = true → E q r = true → E p r = true
theorem fsE_le (E : Nat → Nat → Bool) (p : Nat) : fsE E p ≤ p := lst_le _ _
theorem fsE_rel {N : Nat} {E : Nat → Nat → Bool} (hE : eqv N E) {p : Nat} (hp : p < N) : E (fsE E p) p = true := by
  rcases Nat.lt_or_ge (fsE E p) p with h | h
  · exact lst_yes (fun i => E i p) p h
  · rw [show fsE E p = p from Nat.le_antisymm (fsE_le E p) h]; exact hE.1 p hp
theorem fsE_min {E : Nat → Nat → Bool} {p i : Nat} (h : i < fsE E p) : E i p = false := lst_no (fun i => E i p) p i h
theorem fsE_eq {N : Nat} {E : Nat → Nat → Bool} (hE : eqv N E) {p q : Nat} (hp : p < N) (hq : q < N) : fsE E p = fsE E q ↔ E p q = true := by
  have ap := fsE_le E p
  have aq := fsE_le E q
  have rp := fsE_rel hE hp
  have rq := fsE_rel hE hq
  constructor
  · intro h
    have h1 : E p (fsE E p) = true := hE.2.1 _ _ (by omega) hp rp
    rw [h] at h1
    exact hE.2.2 _ _ _ hp (by omega) hq h1 rq
  · intro h
    rcases Nat.lt_trichotomy (fsE E p) (fsE E q) with g | g | g
    · have := fsE_min g
      rw [hE.2.2 _ _ _ (by omega) hp hq rp h] at this
      cases this
    · exact g
    · have := fsE_min g
      rw [hE.2.2 _ _ _ (by omega) hq hp rq (hE.2.1 _ _ hp hq h)] at this
      cases this
theorem fsE_fs {N : Nat} {E : Nat → Nat → Bool} (hE : eqv N E) {p : Nat} (hp : p < N) : fsE E (fsE E p) = fsE E p :=
  (fsE_eq hE (Nat.lt_of_le_of_lt (fsE_le E p) hp) hp).mpr (fsE_rel hE hp)
theorem numE_mono (E : Nat → Nat → Bool) (m : Nat) : ∀ n, numE E m ≤ numE E (m + n)
  | 0 => Nat.le_refl _
  | n + 1 => by
    have := numE_mono E m n
    show _ ≤ numE E (m + n + 1)
    rw [numE]
    split <;> omega
theorem numE_le (E : Nat → Nat → Bool) : ∀ n, numE E n ≤ n
  | 0 => Nat.le_refl _
  | n + 1 => by
    have := numE_le E n
    rw [numE]
    split <;> omega
theorem numE_rep {E : Nat → Nat → Bool} {p : Nat} (h : fsE E p = p) : numE E (p + 1) = numE E p + 1 := by rw [numE, if_neg (by omega)]
theorem numE_lt {E : Nat → Nat → Bool} {p q : Nat} (h : fsE E p = p) (hpq : p < q) : numE E p < numE E q := by
  have h1 := numE_rep h
  have h2 := numE_mono E (p + 1) (q - (p + 1))
  rw [show p + 1 + (q - (p + 1)) = q by omega] at h2
  omega
theorem numE_inj {E : Nat → Nat → Bool} {p q : Nat} (h : fsE E p = p) (h2 : fsE E q = q) (e : numE E p = numE E q) : p = q := by
  rcases Nat.lt_trichotomy p q with g | g | g
  · have := numE_lt h g; omega
  · exact g
  · have := numE_lt h2 g; omega
/-- relations that agree below N -/
def agr (N : Nat) (E E' : Nat → Nat → Bool) : Prop := ∀ p q, p < N → q < N → E p q = E' p q
theorem lst_congr {P P' : Nat → Bool} : ∀ n, (∀ k, k < n → P k = P' k) → lst P n = lst P' n
  | 0, _ => rfl
  | n + 1, h => by rw [lst, lst, lst_congr n (fun k hk => h k (by omega)), h n (by omega)]
theorem fsE_congr {N : Nat} {E E' : Nat → Nat → Bool} (h : agr N E E') {p : Nat} (hp : p < N) : fsE E p = fsE E' p := lst_congr p (fun k hk => h k p (by omega) hp)
theorem numE_congr {N : Nat} {E E' : Nat → Nat → Bool} (h : agr N E E') : ∀ n, n ≤ N → numE E n = numE E' n
  | 0, _ => rfl
  | n + 1, hn => by rw [numE, numE, numE_congr h n (by omega), fsE_congr h (show n < N by omega)]
theorem agr_fs {N : Nat} {E E' : Nat → Nat → Bool} (hE : eqv N E) (hE' : eqv N E') (h : ∀ p, p < N → fsE E' p = fsE E p) : agr N E' E := by
  intro p q hp hq
  have h1 := fsE_eq hE hp hq
  have h2 := fsE_eq hE' hp hq
  rw [h p hp, h q hq] at h2
  exact Bool.eq_iff_iff.mpr (h2.symm.trans h1)
/-- a finer relation has no fewer classes; as many only if it is the same -/
theorem fine_rep {N : Nat} {E E' : Nat → Nat → Bool} (hf : ∀ p q, p < N → q < N → E' p q = true → E p q = true) {p : Nat} (hp : p < N) (h : fsE E p = p) : fsE E' p = p := by
  refine lst_none (fun k hk => ?_)
  cases hc : E' k p with
  | false => rfl
  | true =>
    have h1 := hf k p (by omega) hp hc
    have h2 := fsE_min (E := E) (p := p) (i := k) (by omega)
    rw [h1] at h2
    cases h2
theorem fine_step {N : Nat} {E E' : Nat → Nat → Bool} (hf : ∀ p q, p < N → q < N → E' p q = true → E p q = true) {p : Nat} (hp : p < N) : numE E (p + 1) + numE E' p ≤ numE E' (p + 1) + numE E p := by
  rw [numE, numE]
  by_cases h : fsE E p < p
  · rw [if_pos h]; split <;> omega
  · have h1 : fsE E p = p := by have := fsE_le E p; omega
    have h2 := fine_rep hf hp h1
    rw [if_neg h, if_neg (by omega)]
    omega
theorem fine_up {N : Nat} {E E' : Nat → Nat → Bool} (hf : ∀ p q, p < N → q < N → E' p q = true → E p q = true) (m : Nat) : ∀ n, m + n ≤ N → numE E (m + n) + numE E' m ≤ numE E' (m + n) + numE E m
  | 0, _ => by rw [Nat.add_zero]; omega
  | n + 1, h => by
    have h1 := fine_up hf m n (by omega)
    have h2 := fine_step hf (p := m + n) (by omega)
    show numE E (m + n + 1) + _ ≤ numE E' (m + n + 1) + _
    omega
theorem fine_le {N : Nat} {E E' : Nat → Nat → Bool} (hf : ∀ p q, p < N → q < N → E' p q = true → E p q = true) : numE E N ≤ numE E' N := by
  have := fine_up hf 0 N (by omega)
  rw [Nat.zero_add] at this
  simpa [numE] using this
theorem fine_eq {N : Nat} {E E' : Nat → Nat → Bool} (hE : eqv N E) (hE' : eqv N E') (hf : ∀ p q, p < N → q < N → E' p q = true → E p q = true) (e : numE E' N = numE E N) : ∀ p, p < N → fsE E' p = fsE E p := by
  have rep : ∀ p, p < N → fsE E' p = p → fsE E p = p := by
    intro p hp h
    have h1 := fine_up hf 0 p (by omega)
    have h2 := fine_up hf (p + 1) (N - (p + 1)) (by omega)
    rw [Nat.zero_add] at h1
    rw [show p + 1 + (N - (p + 1)) = N by omega] at h2
    have z1 : numE E 0 = 0 := rfl
    have z2 : numE E' 0 = 0 := rfl
    have h3 := numE_rep h
    by_cases g : fsE E p < p
    · have h4 : numE E (p + 1) = numE E p := by rw [numE, if_pos g]
      omega
    · have := fsE_le E p; omega
  intro p hp
  have hr := fsE_fs hE' hp
  have hlt : fsE E' p < N := Nat.lt_of_le_of_lt (fsE_le E' p) hp
  have h1 := rep _ hlt hr
  have h2 := hf _ _ hlt hp (fsE_rel hE' hp)
  have h3 := (fsE_eq hE hlt hp).mpr h2
  rw [h1] at h3
  exact h3
/-- how many of d things are c -/
def cnt (h : Nat → Nat) (c : Nat) : Nat → Nat
  | 0 => 0
  | d + 1 => cnt h c d + (if h d = c then 1 else 0)
theorem cnt_le (h : Nat → Nat) (c : Nat) : ∀ d, cnt h c d ≤ d
  | 0 => Nat.le_refl _
  | d + 1 => by have := cnt_le h c d; rw [cnt]; split <;> omega
theorem cnt_congr {h h' : Nat → Nat} {c c' : Nat} : ∀ d, (∀ i, i < d → (h i = c ↔ h' i = c')) → cnt h c d = cnt h' c' d
  | 0, _ => rfl
  | d + 1, g => by
    rw [cnt, cnt, cnt_congr d (fun i hi => g i (by omega))]
    by_cases e : h d = c
    · rw [if_pos e, if_pos ((g d (by omega)).mp e)]
    · rw [if_neg e, if_neg (fun z => e ((g d (by omega)).mpr z))]
theorem cnt_zero {h : Nat → Nat} {c : Nat} : ∀ d, (∀ i, i < d → h i ≠ c) → cnt h c d = 0
  | 0, _ => rfl
  | d + 1, g => by rw [cnt, cnt_zero d (fun i hi => g i (by omega)), if_neg (g d (by omega))]
/-- the place to which a door leads -/
def led (to : Nat → Nat) (p d : Nat) : Nat := to (p * 4 + d) / 4
/-- the next, finer relation -/
def nxE (pl dr : Nat) (to : Nat → Nat) (E : Nat → Nat → Bool) : Nat → Nat → Bool := fun p q => E p q && decide (∀ c, c < pl → cnt (fun d => fsE E (led to p d)) c dr = cnt (fun d => fsE E (led to q d)) c dr)
def itE (pl dr : Nat) (to : Nat → Nat) (mk : Nat → Bool) : Nat → Nat → Nat → Bool
  | 0 => fun p q => decide (mk p = mk q)
  | k + 1 => nxE pl dr to (itE pl dr to mk k)
theorem nxE_iff {pl dr : Nat} {to : Nat → Nat} {E : Nat → Nat → Bool} {p q : Nat} : nxE pl dr to E p q = true ↔ E p q = true ∧ ∀ c, c < pl → cnt (fun d => fsE E (led to p d)) c dr = cnt (fun d => fsE E (led to q d)) c dr := by
  unfold nxE
  rw [Bool.and_eq_true, decide_eq_true_iff]
theorem nxE_eqv {pl dr : Nat} {to : Nat → Nat} {E : Nat → Nat → Bool} (hE : eqv pl E) : eqv pl (nxE pl dr to E) := by
  refine ⟨fun p hp => nxE_iff.mpr ⟨hE.1 p hp, fun _ _ => rfl⟩, fun p q hp hq h => ?_, fun p q r hp hq hr h1 h2 => ?_⟩
  · have h := nxE_iff.mp h
    exact nxE_iff.mpr ⟨hE.2.1 p q hp hq h.1, fun c hc => (h.2 c hc).symm⟩
  · have h1 := nxE_iff.mp h1
    have h2 := nxE_iff.mp h2
    exact nxE_iff.mpr ⟨hE.2.2 p q r hp hq hr h1.1 h2.1, fun c hc => (h1.2 c hc).trans (h2.2 c hc)⟩
theorem nxE_fine {pl dr : Nat} {to : Nat → Nat} {E : Nat → Nat → Bool} : ∀ p q, p < pl → q < pl → nxE pl dr to E p q = true → E p q = true := fun _ _ _ _ h => (nxE_iff.mp h).1
theorem nxE_agr {pl dr : Nat} {to : Nat → Nat} {E E' : Nat → Nat → Bool} (hled : ∀ p d, p < pl → d < dr → led to p d < pl) (h : agr pl E E') : agr pl (nxE pl dr to E) (nxE pl dr to E') := by
  intro p q hp hq
  refine Bool.eq_iff_iff.mpr ?_
  rw [nxE_iff, nxE_iff, h p q hp hq]
  have e : ∀ p, p < pl → ∀ c, cnt (fun d => fsE E (led to p d)) c dr = cnt (fun d => fsE E' (led to p d)) c dr := fun p hp c => cnt_congr dr (fun i hi => by rw [fsE_congr h (hled p i hp hi)])
  constructor
  · intro g; exact ⟨g.1, fun c hc => by rw [← e p hp, ← e q hq]; exact g.2 c hc⟩
  · intro g; exact ⟨g.1, fun c hc => by rw [e p hp, e q hq]; exact g.2 c hc⟩
theorem itE_eqv {pl dr : Nat} {to : Nat → Nat} {mk : Nat → Bool} : ∀ k, eqv pl (itE pl dr to mk k)
  | 0 => ⟨fun _ _ => decide_eq_true rfl, fun _ _ _ _ h => decide_eq_true (of_decide_eq_true h).symm, fun _ _ _ _ _ _ h1 h2 => decide_eq_true ((of_decide_eq_true h1).trans (of_decide_eq_true h2))⟩
  | k + 1 => nxE_eqv (itE_eqv k)
/-- once a round parts nothing, none does -/
theorem itE_stay {pl dr : Nat} {to : Nat → Nat} {mk : Nat → Bool} (hled : ∀ p d, p < pl → d < dr → led to p d < pl) {k : Nat} (h : ∀ p, p < pl → fsE (itE pl dr to mk (k + 1)) p = fsE (itE pl dr to mk k) p) : ∀ j, agr pl (itE pl dr to mk (k + j)) (itE pl dr to mk k)
  | 0 => fun _ _ _ _ => rfl
  | j + 1 => by
    have h1 := nxE_agr hled (itE_stay hled h j) (dr := dr)
    have h2 := agr_fs (itE_eqv k) (itE_eqv (k + 1)) h
    intro p q hp hq
    exact (h1 p q hp hq).trans (h2 p q hp hq)
/-- the numbers that the last relation gives: a place's class, how many -/
def lastE (pl dr : Nat) (to : Nat → Nat) (mk : Nat → Bool) : Nat → Nat → Bool := itE pl dr to mk pl
def clsA (pl dr : Nat) (to : Nat → Nat) (mk : Nat → Bool) (p : Nat) : Nat := numE (lastE pl dr to mk) (fsE (lastE pl dr to mk) p)
def numA (pl dr : Nat) (to : Nat → Nat) (mk : Nat → Bool) : Nat := numE (lastE pl dr to mk) pl
/-! keys: sums of powers of 8 -/
def sm8 (h : Nat → Nat) : Nat → Nat
  | 0 => 0
  | d + 1 => sm8 h d + 2 ^ (3 * h d)
theorem p8 (n : Nat) : 2 ^ (3 * n) = 8 ^ n := by rw [Nat.pow_mul]
theorem dig_add {S c j : Nat} (h : S / 8 ^ c % 8 < 7) : (S + 8 ^ c) / 8 ^ j % 8 = S / 8 ^ j % 8 + (if c = j then 1 else 0) := by
  have pos : ∀ n : Nat, 0 < 8 ^ n := fun n => Nat.pow_pos (by omega)
  rcases Nat.lt_trichotomy j c with g | g | g
  · rw [if_neg (by omega), show c = j + (c - j - 1 + 1) by omega, Nat.pow_add, Nat.pow_succ, Nat.add_mul_div_left _ _ (pos j), Nat.mul_comm (8 ^ (c - j - 1)) 8, Nat.add_mul_mod_self_left, Nat.add_zero]
  · subst g
    rw [if_pos rfl, Nat.add_div_right _ (pos j)]
    omega
  · rw [if_neg (by omega), Nat.add_zero]
    have e : (S + 8 ^ c) / 8 ^ (c + 1) = S / 8 ^ (c + 1) := by
      rw [Nat.pow_succ, ← Nat.div_div_eq_div_mul, ← Nat.div_div_eq_div_mul, Nat.add_div_right _ (pos c)]
      omega
    rw [show j = (c + 1) + (j - (c + 1)) by omega, Nat.pow_add, ← Nat.div_div_eq_div_mul, ← Nat.div_div_eq_div_mul, e]
theorem sm8_dig (h : Nat → Nat) (j : Nat) : ∀ d, d ≤ 7 → sm8 h d / 8 ^ j % 8 = cnt h j d
  | 0, _ => by simp [sm8, cnt]
  | d + 1, hd => by
    have ih : ∀ j, sm8 h d / 8 ^ j % 8 = cnt h j d := fun j => sm8_dig h j d (by omega)
    rw [sm8, cnt, p8, dig_add (by rw [ih]; have := cnt_le h (h d) d; omega), ih]
def t8 (f : Nat → Nat) : Nat → Nat
  | 0 => 0
  | n + 1 => t8 f n + f n * 8 ^ n
theorem t8_congr {f g : Nat → Nat} : ∀ n, (∀ k, k < n → f k = g k) → t8 f n = t8 g n
  | 0, _ => rfl
  | n + 1, h => by rw [t8, t8, t8_congr n (fun k hk => h k (by omega)), h n (by omega)]
theorem t8_add (f : Nat → Nat) (c : Nat) : ∀ n, t8 (fun j => f j + (if c = j then 1 else 0)) n = t8 f n + (if c < n then 8 ^ c else 0)
  | 0 => by simp [t8]
  | n + 1 => by
    rw [t8, t8, t8_add f c n]
    by_cases h : c < n
    · rw [if_pos h, if_neg (by omega), if_pos (by omega), Nat.add_zero]; omega
    · by_cases h2 : c = n
      · subst h2
        rw [if_neg h, if_pos rfl, if_pos (by omega), Nat.add_mul]; omega
      · rw [if_neg h, if_neg h2, if_neg (by omega), Nat.add_zero, Nat.add_zero, Nat.add_zero]
theorem t8_0 : ∀ n, t8 (fun _ => 0) n = 0
  | 0 => rfl
  | n + 1 => by rw [t8, t8_0 n]; simp
theorem sm8_t8 (h : Nat → Nat) (n : Nat) : ∀ d, (∀ i, i < d → h i < n) → sm8 h d = t8 (fun j => cnt h j d) n
  | 0, _ => by rw [sm8]; exact (t8_0 n).symm
  | d + 1, g => by
    rw [sm8, sm8_t8 h n d (fun i hi => g i (by omega)), p8]
    have := t8_add (fun j => cnt h j d) (h d) n
    rw [if_pos (g d (by omega))] at this
    rw [← this]
    rfl
theorem sm8_lt {h : Nat → Nat} : ∀ d, (∀ i, i < d → h i < 12) → sm8 h d ≤ d * 2 ^ 33
  | 0, _ => by simp [sm8]
  | d + 1, g => by
    have h1 := sm8_lt d (fun i hi => g i (by omega))
    have h2 : 2 ^ (3 * h d) ≤ 2 ^ 33 := Nat.pow_le_pow_right (by omega) (by have := g d (by omega); omega)
    rw [sm8, Nat.add_mul]
    omega
/-- a place's key, out of the numbers of the classes -/
def keyN (dr : Nat) (to : Nat → Nat) (cl : Nat → Nat) (p : Nat) : Nat := cl p * 2 ^ 36 + sm8 (fun d => cl (led to p d)) dr
theorem key_iff {pl dr : Nat} {to : Nat → Nat} {E : Nat → Nat → Bool} (hE : eqv pl E) (h12 : pl ≤ 12) (hd : dr ≤ 4) (hled : ∀ p d, p < pl → d < dr → led to p d < pl) {p q : Nat} (hp : p < pl) (hq : q < pl) :
    keyN dr to (fun a => numE E (fsE E a)) p = keyN dr to (fun a => numE E (fsE E a)) q ↔ nxE pl dr to E p q = true := by
  have small : ∀ a, a < pl → numE E (fsE E a) < 12 := by
    intro a ha
    have h1 := fsE_le E a
    have h2 := numE_lt (fsE_fs hE ha) (show fsE E a < pl by omega)
    have h3 := numE_le E pl
    omega
  have lt : ∀ a, a < pl → sm8 (fun d => numE E (fsE E (led to a d))) dr < 2 ^ 36 := by
    intro a ha
    have := sm8_lt (h := fun d => numE E (fsE E (led to a d))) dr (fun i hi => small _ (hled a i ha hi))
    have e : dr * 2 ^ 33 ≤ 4 * 2 ^ 33 := Nat.mul_le_mul_right _ hd
    omega
  have inj : ∀ a b, a < pl → b < pl → (numE E (fsE E a) = numE E (fsE E b) ↔ fsE E a = fsE E b) := fun a b ha hb => ⟨fun h => numE_inj (fsE_fs hE ha) (fsE_fs hE hb) h, fun h => by rw [h]⟩
  -- counts by numbers and by least members
  have cc : ∀ a, a < pl → ∀ b, b < pl → cnt (fun d => numE E (fsE E (led to a d))) (numE E (fsE E b)) dr = cnt (fun d => fsE E (led to a d)) (fsE E b) dr := fun a ha b hb => cnt_congr dr (fun i hi => inj _ _ (hled a i ha hi) hb)
  rw [nxE_iff]
  dsimp only [keyN]
  have l1 := lt p hp
  have l2 := lt q hq
  constructor
  · intro h
    have e1 : numE E (fsE E p) = numE E (fsE E q) := by omega
    have e2 : sm8 (fun d => numE E (fsE E (led to p d))) dr = sm8 (fun d => numE E (fsE E (led to q d))) dr := by omega
    refine ⟨(fsE_eq hE hp hq).mp ((inj p q hp hq).mp e1), fun c hc => ?_⟩
    by_cases hr : fsE E c = c
    · have h1 := cc p hp c hc
      have h2 := cc q hq c hc
      rw [hr] at h1 h2
      rw [← h1, ← h2, ← sm8_dig _ _ dr (by omega), ← sm8_dig _ _ dr (by omega), e2]
    · rw [cnt_zero dr (fun i hi z => hr (by rw [← z]; exact fsE_fs hE (hled p i hp hi))), cnt_zero dr (fun i hi z => hr (by rw [← z]; exact fsE_fs hE (hled q i hq hi)))]
  · intro ⟨h1, h2⟩
    have e1 : fsE E p = fsE E q := (fsE_eq hE hp hq).mpr h1
    have e2 : sm8 (fun d => numE E (fsE E (led to p d))) dr = sm8 (fun d => numE E (fsE E (led to q d))) dr := by
      rw [sm8_t8 _ 12 dr (fun i hi => small _ (hled p i hp hi)), sm8_t8 _ 12 dr (fun i hi => small _ (hled q i hq hi))]
      refine t8_congr 12 (fun j hj => ?_)
      by_cases ex : ∃ b, b < pl ∧ numE E (fsE E b) = j
      · obtain ⟨b, hb, rfl⟩ := ex
        have hb2 : fsE E b < pl := by have := fsE_le E b; omega
        rw [cc p hp b hb, cc q hq b hb]
        exact h2 _ hb2
      · rw [cnt_zero dr (fun i hi z => ex ⟨_, hled p i hp hi, z⟩), cnt_zero dr (fun i hi z => ex ⟨_, hled q i hq hi, z⟩)]
    rw [e1, e2]
