/-! the reference's trial copy, step by step -/
theorem rDt.wvB {cn cw : Nat} {σ : Ab} {I : mI} {J J' : mJ} (h : rDt cn cw σ I J) {j : Nat} (hj : j < cw) (h12 : cw ≤ 12) {f : Nat → Int64} (hB : blk J J' j f) (t : Nat) : rDt cn cw (sWv σ j f t) (va_up I 71 (upd (I 71) j (nI t))) J' :=
  h.wv hj (by rw [va_up_ne _ _ (by decide)]) (by rw [va_up_ne _ _ (by decide)]) (fun r _ _ => va_up_ne _ _ (by omega)) (fun v _ => by rw [va_up_ne _ _ (by decide)]) (fun v _ hv => by rw [va_up_self, pk_un hv]) (by rw [va_up_self, pk_us]) (fun v _ hv k hk => hB.2.2 v hv k hk) hB.2.1 h12
theorem cp_same {I : mI} {a b : Nat} (h : I 70 b = I 70 a) : va_up (va_up I 70 (upd (I 70) b (I 70 a))) 71 (upd (I 71) b (I 71 a)) = va_up I 71 (upd (I 71) b (I 71 a)) := by
  rw [upd_self _ _ h, up_same]
def wv (σ : Ab) (j i : Nat) : Nat → Int64 := itS (stp σ (aNt σ j)) i (aWv σ j)
def rCp (cn cw : Nat) (σ : Ab) (j : Nat) (I I1 : mI) (J J1 : mJ) (i : Nat) : Prop :=
  I1 64 0 = nI 0 ∧ rDt cn cw σ I1 J1 ∧ rfr I I1 J J1 ∧ I1 70 12 = nI (aNt σ j) ∧ I1 71 12 = nI (aTm σ j + i) ∧ (∀ k, k < 48 → J1 72 (48 * 12 + k) = wv σ j i k) ∧ wOk (aPl σ (aNt σ j)) (aDr σ (aNt σ j)) (wv σ j i) ∧ aTm σ j + i ≤ 60 ∧ lf σ j = i + leftF (hvOf (aDr σ (aNt σ j))) (scOf (aDr σ (aNt σ j))) (60 - (aTm σ j + i)) (sqs (wv σ j i)) ∧ (sqs (aWv σ j) ≠ 0 → sqs (wv σ j i) ≠ 0)
section CP
variable {cn cw : Nat} {σ : Ab} {j : Nat} {I I1 I2 : mI} {J J1 J2 : mJ} {i : Nat}
theorem rCp.init (hA : aOk cn cw σ) (hD : rDt cn cw σ I J) (hj : j < cw) (hI : I1 = va_up (va_up (thr I 0) 70 (upd (thr I 0 70) 12 (thr I 0 70 j))) 71 (upd (thr I 0 71) 12 (thr I 0 71 j))) (hB : blk J J1 12 (aWv σ j)) : rCp cn cw σ j I I1 J J1 0 := by
  have h12 := hA.2.1
  have hD0 := rDt.thr hD h12 0
  obtain ⟨hno, htm, -⟩ := hD0.2.2.2.2.1 j hj
  obtain ⟨-, ht60, hwo, -⟩ := hA.2.2.2 j hj
  subst hI
  refine ⟨?_, ?_, ?_, ?_, ?_, hB.2.1, hwo, ht60, ?_, fun h => h⟩
  · rw [va_up_ne _ _ (by decide), va_up_ne _ _ (by decide)]; exact thr_0 I 0
  · refine hD0.same ?_ ?_ (fun r h1 h2 => ?_) (fun v hv => ?_) (fun v hv => ?_) (fun v hv k hk => hB.2.2 v (by omega) k hk) h12
    · rw [va_up_ne _ _ (by decide), va_up_ne _ _ (by decide)]
    · rw [va_up_ne _ _ (by decide), va_up_ne _ _ (by decide)]
    · rw [va_up_ne _ _ (by omega), va_up_ne _ _ (by omega)]
    · rw [va_up_ne _ _ (by decide), va_up_self, pk_un (by omega)]
    · rw [va_up_self, pk_un (by omega)]
  · exact (((rfr.thr I J 0).up (by omega) (by omega) _).up (by omega) (by omega) _).blk hB
  · rw [va_up_ne _ _ (by decide), va_up_self, pk_us]; exact hno
  · rw [va_up_self, pk_us]; exact htm
  · rw [Nat.zero_add]; rfl
theorem rCp.on (hA : aOk cn cw σ) (hj : j < cw) (h : rCp cn cw σ j I I1 J J1 i) (hg : aTm σ j + i < 60 ∧ sqs (wv σ j i) ≤ hvOf (aDr σ (aNt σ j))) (hI : I2 = va_up I1 71 (upd (I1 71) 12 (nI (aTm σ j + i + 1)))) (hB : blk J1 J2 12 (goF (aTo σ (aNt σ j)) (turnF (aPl σ (aNt σ j)) (aDr σ (aNt σ j)) (sgnR (aPl σ (aNt σ j)) (aMk σ (aNt σ j)) (wv σ j i))))) : rCp cn cw σ j I I2 J J2 (i + 1) := by
  obtain ⟨a, b, c, d, e, f, g, t, u, w⟩ := h
  obtain ⟨hic, -, -, -⟩ := hA.2.2.2 j hj
  obtain ⟨-, hp12, hd4, hpr⟩ := hA.2.2.1 _ hic
  have h12 := hA.2.1
  obtain ⟨s1, s2, s3⟩ := g.step (mk := aMk σ (aNt σ j)) hpr hd4 hg.2
  have e1 : wv σ j (i + 1) = stepF (aPl σ (aNt σ j)) (aDr σ (aNt σ j)) (aTo σ (aNt σ j)) (aMk σ (aNt σ j)) (wv σ j i) := rfl
  subst hI
  refine ⟨?_, ?_, ?_, ?_, ?_, fun k hk => ?_, ?_, by omega, ?_, fun hz => ?_⟩
  · rw [va_up_ne _ _ (by decide)]; exact a
  · refine b.same ?_ ?_ (fun r h1 h2 => ?_) (fun v hv => ?_) (fun v hv => ?_) (fun v hv k hk => hB.2.2 v (by omega) k hk) h12
    · rw [va_up_ne _ _ (by decide)]
    · rw [va_up_ne _ _ (by decide)]
    · rw [va_up_ne _ _ (by omega)]
    · rw [va_up_ne _ _ (by decide)]
    · rw [va_up_self, pk_un (by omega)]
  · exact (c.up (by omega) (by omega) _).blk hB
  · rw [va_up_ne _ _ (by decide)]; exact d
  · rw [va_up_self, pk_us]; rfl
  · rw [hB.2.1 k hk, e1]; exact (step_ref g.1 hpr hd4 k hk).symm
  · rw [e1]; exact s1
  · rw [u, left_on hg.1 hg.2, ← s2, ← e1, show aTm σ j + i + 1 = aTm σ j + (i + 1) by omega]; omega
  · rw [e1]; exact s3 (w hz)
theorem rCp.off (h : rCp cn cw σ j I I1 J J1 i) (hg : ¬ (aTm σ j + i < 60 ∧ sqs (wv σ j i) ≤ hvOf (aDr σ (aNt σ j)))) : lf σ j = i := by
  obtain ⟨a, b, c, d, e, f, g, t, u, w⟩ := h
  rw [u, left_off hg, Nat.add_zero]
theorem rCp.le (h : rCp cn cw σ j I I1 J J1 i) : i ≤ lf σ j := by
  obtain ⟨a, b, c, d, e, f, g, t, u, w⟩ := h
  rw [u]; omega
theorem ret_zero {k : Nat} (hz : sqs (aWv σ j) = 0) (hw : nrm (aWv σ j) 48 ≤ 4611686018427387904) : retA σ j k = -1 := by
  have h0 : nrm (aWv σ j) 48 = 0 := by rw [← sqs_ex hw, hz]; rfl
  have hf : ∀ k, k < 48 → aWv σ j k = 0 := fun k hk => by
    have h1 := sq_le (f := aWv σ j) hk
    rw [h0] at h1
    have h2 := abs_le (N := 0) h1 (by omega)
    exact Int64.toInt_inj.mp (by rw [z0]; omega)
  have hm : ∀ g : Nat → Int64, isMul g (aWv σ j) = false := fun g => by
    unfold isMul
    rw [fnz_none hf, decide_eq_false (by omega)]
    rfl
  unfold retA
  rw [lst_none (fun i _ => hm _), if_neg (by omega)]
/-- a time told down, a wave undone: the walk itself -/
def bkI (I : mI) (σ : Ab) (j d : Nat) : mI := va_up (thr I 0) 71 (upd (thr I 0 71) j (nI (aTm σ j - d)))
def bv (σ : Ab) (j i : Nat) : Nat → Int64 := itS (und σ (aNt σ j)) i (aWv σ j)
theorem bkI_0 (hD : rDt cn cw σ I J) (h12 : cw ≤ 12) (hj : j < cw) : bkI I σ j 0 = thr I 0 := by
  unfold bkI
  rw [Nat.sub_zero, upd_self _ _ ((rDt.thr hD h12 0).2.2.2.2.1 j hj).2.1, up_same]
theorem bkI_s (d : Nat) : va_up (bkI I σ j d) 71 (upd (bkI I σ j d 71) j (nI (aTm σ j - d - 1))) = bkI I σ j (d + 1) := by
  unfold bkI
  rw [va_up_self, up_up, upd_upd]
  rfl
theorem bkI_at (d : Nat) : bkI I σ j d 71 j = nI (aTm σ j - d) := by unfold bkI; rw [va_up_self, pk_us]
theorem bkI_ne (d : Nat) {r : Nat} (h : r ≠ 71) : bkI I σ j d r = thr I 0 r := va_up_ne _ _ h
end CP
