/-! THE REFERENCE'S PICTURE of the state -/
def rNt (σ : Ab) (I : mI) (i : Nat) : Prop := I 65 i = nI (aPl σ i) ∧ I 66 i = nI (aDr σ i) ∧ (∀ c, c < 48 → I 67 (48 * i + c) = nI (aTo σ i c)) ∧ I 69 i = bI (aUs σ i) ∧ ∀ q, q < 12 → I 68 (12 * i + q) = bI (aMk σ i q)
def rWk (σ : Ab) (I : mI) (J : mJ) (j : Nat) : Prop := I 70 j = nI (aNt σ j) ∧ I 71 j = nI (aTm σ j) ∧ ∀ k, k < 48 → J 72 (48 * j + k) = aWv σ j k
def rDt (cn cw : Nat) (σ : Ab) (I : mI) (J : mJ) : Prop := I 64 1 = nI cn ∧ I 64 2 = nI cw ∧ (∀ i, i < cn → rNt σ I i) ∧ (∀ i, cn ≤ i → i < 6 → I 69 i = bI false ∧ ∀ q, q < 12 → I 68 (12 * i + q) = bI false) ∧ (∀ j, j < cw → rWk σ I J j) ∧ ∀ j, cw ≤ j → j < 12 → I 71 j = nI 0 ∧ ∀ k, k < 48 → J 72 (48 * j + k) = 0
/-- nothing but the reference's own cells has changed -/
def rfr (I I' : mI) (J J' : mJ) : Prop := ∀ r, (r < 64 ∨ 75 < r) → I' r = I r ∧ J' r = J r
/-- what a call of the reference leaves: the code, the answer where it is none, the state -/
def rst (sp : Sp) (v : Int64) (cn cw : Nat) (I I' : mI) (J J' : mJ) : Prop := I' 64 0 = nI sp.1 ∧ (sp.1 = 0 → sp.2.1 = v) ∧ rDt cn cw sp.2.2 I' J' ∧ rfr I I' J J'
theorem rfr.rf (I : mI) (J : mJ) : rfr I I J J := fun _ _ => ⟨rfl, rfl⟩
theorem rfr.up {I I1 : mI} {J J1 : mJ} (h : rfr I I1 J J1) {r : Nat} (h1 : 64 ≤ r) (h2 : r ≤ 75) (g : Nat → Int32) : rfr I (va_up I1 r g) J J1 := fun q hq => ⟨by rw [va_up_ne _ _ (by omega)]; exact (h q hq).1, (h q hq).2⟩
theorem rfr.upJ {I I1 : mI} {J J1 : mJ} (h : rfr I I1 J J1) {r : Nat} (h1 : 64 ≤ r) (h2 : r ≤ 75) (g : Nat → Int64) : rfr I I1 J (va_up J1 r g) := fun q hq => ⟨(h q hq).1, by rw [va_up_ne _ _ (by omega)]; exact (h q hq).2⟩
theorem rfr.blk {I I1 : mI} {J J1 J2 : mJ} (h : rfr I I1 J J1) {w : Nat} {g : Nat → Int64} (hb : blk J1 J2 w g) : rfr I I1 J J2 := fun q hq => ⟨(h q hq).1, (hb.1 q (by omega) (by omega)).trans (h q hq).2⟩
theorem rfr.thr (I : mI) (J : mJ) (t : Nat) : rfr I (thr I t) J J := (rfr.rf I J).up (by omega) (by omega) _
theorem thr_ne {I : mI} {t r : Nat} (h : r ≠ 64) : thr I t r = I r := va_up_ne _ _ h
theorem thr_0 (I : mI) (t : Nat) : thr I t 64 0 = nI t := by unfold thr; rw [va_up_self]; rfl
theorem thr_k (I : mI) (t : Nat) {k : Nat} (h : k ≠ 0) : thr I t 64 k = I 64 k := by unfold thr; rw [va_up_self, pk_un h]
/-- a picture told by its rows -/
theorem rDt.same {cn cw : Nat} {σ : Ab} {I I' : mI} {J J' : mJ} (h : rDt cn cw σ I J) (h1 : I' 64 1 = I 64 1) (h2 : I' 64 2 = I 64 2) (hr : ∀ r, 65 ≤ r → r ≤ 69 → I' r = I r) (h70 : ∀ v, v < 12 → I' 70 v = I 70 v) (h71 : ∀ v, v < 12 → I' 71 v = I 71 v) (hJ : ∀ v, v < 12 → ∀ k, k < 48 → J' 72 (48 * v + k) = J 72 (48 * v + k)) (h12 : cw ≤ 12) : rDt cn cw σ I' J' := by
  obtain ⟨a, b, c, d, e, f⟩ := h
  refine ⟨h1.trans a, h2.trans b, fun i hi => ?_, fun i h3 h4 => ?_, fun j hj => ?_, fun j h3 h4 => ?_⟩
  · obtain ⟨c1, c2, c3, c4, c5⟩ := c i hi
    refine ⟨?_, ?_, fun k hk => ?_, ?_, fun k hk => ?_⟩
    · rw [hr 65 (by omega) (by omega)]; exact c1
    · rw [hr 66 (by omega) (by omega)]; exact c2
    · rw [hr 67 (by omega) (by omega)]; exact c3 k hk
    · rw [hr 69 (by omega) (by omega)]; exact c4
    · rw [hr 68 (by omega) (by omega)]; exact c5 k hk
  · rw [hr 69 (by omega) (by omega), hr 68 (by omega) (by omega)]; exact d i h3 h4
  · obtain ⟨e1, e2, e3⟩ := e j hj
    exact ⟨(h70 j (by omega)).trans e1, (h71 j (by omega)).trans e2, fun k hk => (hJ j (by omega) k hk).trans (e3 k hk)⟩
  · exact ⟨(h71 j h4).trans (f j h3 h4).1, fun k hk => (hJ j h4 k hk).trans ((f j h3 h4).2 k hk)⟩
theorem rDt.thr {cn cw : Nat} {σ : Ab} {I : mI} {J : mJ} (h : rDt cn cw σ I J) (h12 : cw ≤ 12) (t : Nat) : rDt cn cw σ (thr I t) J :=
  h.same (thr_k I t (by decide)) (thr_k I t (by decide)) (fun r h1 _ => thr_ne (by omega)) (fun v _ => by rw [thr_ne (by decide)]) (fun v _ => by rw [thr_ne (by decide)]) (fun _ _ _ _ => rfl) h12
theorem rDt.wv {cn cw : Nat} {σ : Ab} {I I' : mI} {J J' : mJ} (h : rDt cn cw σ I J) {j : Nat} (hj : j < cw) {f : Nat → Int64} {t : Nat} (h1 : I' 64 1 = I 64 1) (h2 : I' 64 2 = I 64 2) (hr : ∀ r, 65 ≤ r → r ≤ 69 → I' r = I r) (h70 : ∀ v, v < 12 → I' 70 v = I 70 v) (h71 : ∀ v, v < 12 → v ≠ j → I' 71 v = I 71 v) (h71j : I' 71 j = nI t) (hJ : ∀ v, v < 12 → v ≠ j → ∀ k, k < 48 → J' 72 (48 * v + k) = J 72 (48 * v + k)) (hJj : ∀ k, k < 48 → J' 72 (48 * j + k) = f k) (h12 : cw ≤ 12) : rDt cn cw (sWv σ j f t) I' J' := by
  obtain ⟨a, b, c, d, e, g⟩ := h
  refine ⟨h1.trans a, h2.trans b, fun i hi => ?_, fun i h3 h4 => ?_, fun v hv => ?_, fun v h3 h4 => ?_⟩
  · obtain ⟨c1, c2, c3, c4, c5⟩ := c i hi
    refine ⟨?_, ?_, fun k hk => ?_, ?_, fun k hk => ?_⟩
    · rw [hr 65 (by omega) (by omega)]; exact c1
    · rw [hr 66 (by omega) (by omega)]; exact c2
    · rw [hr 67 (by omega) (by omega)]; exact c3 k hk
    · rw [hr 69 (by omega) (by omega)]; exact c4
    · rw [hr 68 (by omega) (by omega)]; exact c5 k hk
  · rw [hr 69 (by omega) (by omega), hr 68 (by omega) (by omega)]; exact d i h3 h4
  · obtain ⟨e1, e2, e3⟩ := e v hv
    by_cases hvj : v = j
    · subst hvj
      refine ⟨(h70 v (by omega)).trans e1, ?_, fun k hk => ?_⟩
      · show I' 71 v = nI (va_up (aTm σ) v t v)
        rw [va_up_self]; exact h71j
      · show J' 72 _ = va_up (aWv σ) v f v k
        rw [va_up_self]; exact hJj k hk
    · refine ⟨(h70 v (by omega)).trans e1, ?_, fun k hk => ?_⟩
      · show I' 71 v = nI (va_up (aTm σ) j t v)
        rw [va_up_ne _ _ hvj]; exact (h71 v (by omega) hvj).trans e2
      · show J' 72 _ = va_up (aWv σ) j f v k
        rw [va_up_ne _ _ hvj]; exact (hJ v (by omega) hvj k hk).trans (e3 k hk)
  · exact ⟨(h71 v h4 (by omega)).trans (g v h3 h4).1, fun k hk => (hJ v h4 (by omega) k hk).trans ((g v h3 h4).2 k hk)⟩
theorem rDt.to {cn cw : Nat} {σ : Ab} {I I' : mI} {J : mJ} (h : rDt cn cw σ I J) {i : Nat} (hi : i < cn) (h6 : cn ≤ 6) {g : Nat → Nat} (h1 : I' 64 1 = I 64 1) (h2 : I' 64 2 = I 64 2) (hr : ∀ r, 65 ≤ r → r ≤ 71 → r ≠ 67 → I' r = I r) (ht : ∀ c, c < 48 → I' 67 (48 * i + c) = nI (g c)) (ht2 : ∀ v, v ≠ i → ∀ c, c < 48 → I' 67 (48 * v + c) = I 67 (48 * v + c)) : rDt cn cw (sTo σ i g) I' J := by
  obtain ⟨a, b, c, d, e, f⟩ := h
  refine ⟨h1.trans a, h2.trans b, fun v hv => ?_, fun v h3 h4 => ?_, fun j hj => ?_, fun j h3 h4 => ?_⟩
  · obtain ⟨c1, c2, c3, c4, c5⟩ := c v hv
    refine ⟨?_, ?_, fun k hk => ?_, ?_, fun k hk => ?_⟩
    · rw [hr 65 (by omega) (by omega) (by omega)]; exact c1
    · rw [hr 66 (by omega) (by omega) (by omega)]; exact c2
    · show _ = nI (va_up (aTo σ) i g v k)
      by_cases e : v = i
      · subst e; rw [va_up_self]; exact ht k hk
      · rw [va_up_ne _ _ e]; exact (ht2 v e k hk).trans (c3 k hk)
    · rw [hr 69 (by omega) (by omega) (by omega)]; exact c4
    · rw [hr 68 (by omega) (by omega) (by omega)]; exact c5 k hk
  · rw [hr 69 (by omega) (by omega) (by omega), hr 68 (by omega) (by omega) (by omega)]; exact d v h3 h4
  · obtain ⟨e1, e2, e3⟩ := e j hj
    exact ⟨by rw [hr 70 (by omega) (by omega) (by omega)]; exact e1, by rw [hr 71 (by omega) (by omega) (by omega)]; exact e2, e3⟩
  · rw [hr 71 (by omega) (by omega) (by omega)]; exact f j h3 h4
theorem rDt.mk {cn cw : Nat} {σ : Ab} {I I' : mI} {J : mJ} (h : rDt cn cw σ I J) {i q : Nat} (hi : i < cn) (h6 : cn ≤ 6) (hq : q < 12) {x : Bool} (h1 : I' 64 1 = I 64 1) (h2 : I' 64 2 = I 64 2) (hr : ∀ r, 65 ≤ r → r ≤ 71 → r ≠ 68 → I' r = I r) (ht : I' 68 = upd (I 68) (12 * i + q) (bI x)) : rDt cn cw (sMk σ i (va_up (aMk σ i) q x)) I' J := by
  obtain ⟨a, b, c, d, e, f⟩ := h
  refine ⟨h1.trans a, h2.trans b, fun v hv => ?_, fun v h3 h4 => ?_, fun j hj => ?_, fun j h3 h4 => ?_⟩
  · obtain ⟨c1, c2, c3, c4, c5⟩ := c v hv
    refine ⟨?_, ?_, fun k hk => ?_, ?_, fun k hk => ?_⟩
    · rw [hr 65 (by omega) (by omega) (by omega)]; exact c1
    · rw [hr 66 (by omega) (by omega) (by omega)]; exact c2
    · rw [hr 67 (by omega) (by omega) (by omega)]; exact c3 k hk
    · rw [hr 69 (by omega) (by omega) (by omega)]; exact c4
    · show _ = bI (va_up (aMk σ) i (va_up (aMk σ i) q x) v k)
      rw [ht]
      by_cases e : v = i
      · subst e
        rw [va_up_self]
        by_cases e2 : k = q
        · subst e2; rw [va_up_self]; exact pk_us
        · rw [va_up_ne _ _ e2, pk_un (by omega)]; exact c5 k hk
      · rw [va_up_ne _ _ e, pk_un (by omega)]; exact c5 k hk
  · rw [hr 69 (by omega) (by omega) (by omega), ht]
    refine ⟨(d v h3 h4).1, fun k hk => ?_⟩
    rw [pk_un (by omega)]; exact (d v h3 h4).2 k hk
  · obtain ⟨e1, e2, e3⟩ := e j hj
    exact ⟨by rw [hr 70 (by omega) (by omega) (by omega)]; exact e1, by rw [hr 71 (by omega) (by omega) (by omega)]; exact e2, e3⟩
  · rw [hr 71 (by omega) (by omega) (by omega)]; exact f j h3 h4
theorem rst.thr {sp : Sp} {a v : Int64} {c cn cw : Nat} {σ : Ab} {I : mI} {J : mJ} (hsp : sp = (c, a, σ)) (h12 : cw ≤ 12) (hD : rDt cn cw σ I J) (ha : c = 0 → a = v) : rst sp v cn cw I (thr I c) J J := by
  subst hsp
  exact ⟨thr_0 I c, ha, rDt.thr hD h12 c, rfr.thr I J c⟩
theorem rst.to {sp : Sp} {a v : Int64} {cn cw : Nat} {σ : Ab} {I I' : mI} {J J' : mJ} (hsp : sp = (0, a, σ)) (ha : a = v) (h0 : I' 64 0 = nI 0) (hD : rDt cn cw σ I' J') (hf : rfr I I' J J') : rst sp v cn cw I I' J J' := by
  subst hsp
  exact ⟨h0, fun _ => ha, hD, hf⟩
theorem is_none {α : Type} {o : Option α} (h : o.isSome = false) : o = none := by cases o with
  | none => rfl
  | some _ => cases h
/-- steps as the reference does them -/
theorem turn_congr {pl dr : Nat} {f g : Nat → Int64} (hd4 : dr = 2 ∨ dr = 3 ∨ dr = 4) (h : ∀ k, k < 48 → f k = g k) {k : Nat} (hk : k < 48) : turnF pl dr f k = turnF pl dr g k := by
  unfold turnF
  by_cases hd : dor pl dr k = true
  · rw [if_pos hd, if_pos hd]
    exact tv_congr (dor_iff.mp hd).2 hd4 (fun j hj => h _ (by omega))
  · rw [if_neg hd, if_neg hd, h k hk]
theorem step_ref {pl dr : Nat} {to : Nat → Nat} {mk : Nat → Bool} {f : Nat → Int64} (hz : zpd pl dr f) (hp : pairs pl dr to) (hd4 : dr = 2 ∨ dr = 3 ∨ dr = 4) : ∀ k, k < 48 → stepF pl dr to mk f k = goF to (turnF pl dr (sgnR pl mk f)) k := fun k hk =>
  (turn_congr hd4 (fun j hj => sgnR_eq hz hj) (hp k hk).1).symm
theorem undo_ref {pl dr : Nat} {to : Nat → Nat} {mk : Nat → Bool} {f : Nat → Int64} (hz : zpd pl dr f) (hp : pairs pl dr to) (hd4 : dr = 2 ∨ dr = 3 ∨ dr = 4) : ∀ k, k < 48 → undoF pl dr to mk f k = sgnR pl mk (fun k => turnF pl dr (goF to f) k / scOf dr) k := by
  intro k hk
  have z2 := zpd.turn (zpd.go hp hz)
  have e : ∀ j, j < 48 → turnF pl dr (goF to f) j / scOf dr = lessF pl dr (turnF pl dr (goF to f)) j := fun j hj => by
    unfold lessF
    by_cases hd : dor pl dr j = true
    · rw [if_pos hd]
    · rw [if_neg hd, z2 j hj (Bool.eq_false_iff.mpr hd)]
      rcases hd4 with rfl | rfl | rfl <;> decide
  unfold undoF
  rw [← sgnR_eq (zpd.less z2) hk]
  unfold sgnR
  dsimp only
  rw [e k hk]
theorem join_ref {i : Nat} (hi : i < 6) {to : Nat → Nat} (h48 : ∀ c, c < 48 → to c < 48) {F : Nat → Int32} (hF : ∀ c, c < 48 → F (48 * i + c) = nI (to c)) {a b : Nat} (ha : a < 48) (hb : b < 48) : (∀ c, c < 48 → upd (upd (upd (upd F (48 * i + to a) (nI (to a))) (48 * i + to b) (nI (to b))) (48 * i + a) (nI b)) (48 * i + b) (nI a) (48 * i + c) = nI (jnF to a b c)) ∧ ∀ v, v ≠ i → ∀ c, c < 48 → upd (upd (upd (upd F (48 * i + to a) (nI (to a))) (48 * i + to b) (nI (to b))) (48 * i + a) (nI b)) (48 * i + b) (nI a) (48 * v + c) = F (48 * v + c) := by
  have h1 := h48 a ha
  have h2 := h48 b hb
  refine ⟨fun c hc => ?_, fun v hv c hc => ?_⟩
  · rw [jn_upd (f := fun k => F (48 * i + k)) (hF c hc)]
    unfold upd
    by_cases e1 : c = b
    · rw [if_pos (by omega), if_pos e1]
    · rw [if_neg (by omega), if_neg e1]
      by_cases e2 : c = a
      · rw [if_pos (by omega), if_pos e2]
      · rw [if_neg (by omega), if_neg e2]
        by_cases e3 : c = to b
        · rw [if_pos (by omega), if_pos e3]
        · rw [if_neg (by omega), if_neg e3]
          by_cases e4 : c = to a
          · rw [if_pos (by omega), if_pos e4]
          · rw [if_neg (by omega), if_neg e4]
  · rw [pk_un (by omega), pk_un (by omega), pk_un (by omega), pk_un (by omega)]
