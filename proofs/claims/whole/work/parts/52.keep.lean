/-! THE STATE STAYS IN ORDER -/
theorem jn_pairs {pl dr : Nat} {to : Nat → Nat} (h : pairs pl dr to) {a b : Nat} (ha : a < 48) (hb : b < 48) (da : dor pl dr a = true) (db : dor pl dr b = true) : pairs pl dr (jnF to a b) := by
  intro k hk
  obtain ⟨h1, h2, h3, h4⟩ := h k hk
  obtain ⟨a1, a2, a3, -⟩ := h a ha
  obtain ⟨b1, b2, b3, -⟩ := h b hb
  unfold jnF
  by_cases e1 : k = b
  · rw [if_pos e1]
    refine ⟨ha, ?_, fun _ => da, fun z => by rw [e1, db] at z; cases z⟩
    by_cases e : a = b
    · rw [if_pos e]; omega
    · rw [if_neg e, if_pos rfl]; omega
  · rw [if_neg e1]
    by_cases e2 : k = a
    · rw [if_pos e2]
      exact ⟨hb, by rw [if_pos rfl]; omega, fun _ => db, fun z => by rw [e2, da] at z; cases z⟩
    · rw [if_neg e2]
      by_cases e3 : k = to b
      · rw [if_pos e3]
        refine ⟨b1, ?_, fun _ => b3 db, fun _ => e3.symm⟩
        rw [← e3, if_neg e1, if_neg e2, if_pos rfl]
      · rw [if_neg e3]
        by_cases e4 : k = to a
        · rw [if_pos e4]
          refine ⟨a1, ?_, fun _ => a3 da, fun _ => e4.symm⟩
          rw [← e4, if_neg e1, if_neg e2, if_neg e3, if_pos rfl]
        · rw [if_neg e4]
          refine ⟨h1, ?_, h3, h4⟩
          rw [if_neg (fun z => e3 (by rw [← z, h2])), if_neg (fun z => e4 (by rw [← z, h2])), if_neg (fun z => e1 (by rw [← h2, z, b2])), if_neg (fun z => e2 (by rw [← h2, z, a2])), h2]
section KE
variable {cn cw : Nat} {σ : Ab}
theorem aOk.wv (h : aOk cn cw σ) {j : Nat} (hj : j < cw) {f : Nat → Int64} {t : Nat} (ht : t ≤ 60) (hf : wOk (aPl σ (aNt σ j)) (aDr σ (aNt σ j)) f) : aOk cn cw (sWv σ j f t) := by
  refine ⟨h.1, h.2.1, h.2.2.1, fun v hv => ?_⟩
  obtain ⟨a, b, c, d⟩ := h.2.2.2 v hv
  refine ⟨a, ?_, ?_, d⟩
  · show va_up (aTm σ) j t v ≤ 60
    by_cases e : v = j
    · subst e; rw [va_up_self]; exact ht
    · rw [va_up_ne _ _ e]; exact b
  · show wOk (aPl σ (aNt σ v)) (aDr σ (aNt σ v)) (va_up (aWv σ) j f v)
    by_cases e : v = j
    · subst e; rw [va_up_self]; exact hf
    · rw [va_up_ne _ _ e]; exact c
theorem aOk.to (h : aOk cn cw σ) {i a b : Nat} (hi : i < cn) (ha : a < 48) (hb : b < 48) (da : dor (aPl σ i) (aDr σ i) a = true) (db : dor (aPl σ i) (aDr σ i) b = true) : aOk cn cw (sTo σ i (jnF (aTo σ i) a b)) := by
  refine ⟨h.1, h.2.1, fun v hv => ?_, h.2.2.2⟩
  obtain ⟨a1, a2, a3, a4⟩ := h.2.2.1 v hv
  refine ⟨a1, a2, a3, ?_⟩
  show pairs (aPl σ v) (aDr σ v) (va_up (aTo σ) i _ v)
  by_cases e : v = i
  · subst e; rw [va_up_self]; exact jn_pairs a4 ha hb da db
  · rw [va_up_ne _ _ e]; exact a4
/-- what a spec's state keeps -/
def kept (cn cw : Nat) (σ : Ab) (sp : Sp) : Prop := aOk cn cw sp.2.2 ∧ aNt sp.2.2 = aNt σ
theorem kept.same (h : aOk cn cw σ) (c : Nat) (a : Int64) : kept cn cw σ (c, a, σ) := ⟨h, rfl⟩
theorem spDoor_at {i a : Nat} {p d : Int32} (hp12 : aPl σ i ≤ 12) (hd4 : aDr σ i ≤ 4) (h : spDoor σ i p d = some a) : a < 48 ∧ dor (aPl σ i) (aDr σ i) a = true := by
  unfold spDoor at h
  cases h1 : ixN p (aPl σ i) with
  | none => rw [h1] at h; cases h
  | some q =>
    cases h2 : ixN d (aDr σ i) with
    | none => simp only [h1, h2] at h; cases h
    | some e =>
      simp only [h1, h2] at h
      have := Option.some.inj h
      obtain ⟨q1, -⟩ := ixN_some h1 (by omega)
      obtain ⟨e1, -⟩ := ixN_some h2 (by omega)
      exact ⟨by omega, by rw [← this]; exact (dor_at (by omega)).mpr ⟨q1, e1⟩⟩
theorem k_join (h : aOk cn cw σ) (x p d p2 d2 : Int32) : kept cn cw σ (spJoin cn σ x p d p2 d2) := by
  unfold spJoin
  cases hx : ixN x cn with
  | none => exact kept.same h _ _
  | some i =>
    have h6 := h.1
    obtain ⟨hi, -⟩ := ixN_some hx (by omega)
    obtain ⟨b1, b2, b3, b4⟩ := h.2.2.1 i hi
    cases ha : spDoor σ i p d with
    | none => simp only [ha]; exact kept.same h _ _
    | some a =>
      cases hb : spDoor σ i p2 d2 with
      | none => simp only [ha, hb]; exact kept.same h _ _
      | some b =>
        simp only [ha, hb]
        obtain ⟨a1, a2⟩ := spDoor_at b2 (by omega) ha
        obtain ⟨c1, c2⟩ := spDoor_at b2 (by omega) hb
        split
        · exact kept.same h _ _
        · exact ⟨h.to hi a1 c1 a2 c2, rfl⟩
theorem k_leads (h : aOk cn cw σ) (x p d : Int32) : kept cn cw σ (spLeads cn σ x p d) := by
  unfold spLeads
  split
  · exact kept.same h _ _
  · split <;> exact kept.same h _ _
theorem k_mark (h : aOk cn cw σ) (x p : Int32) (b : Bool) : kept cn cw σ (spMark cn σ x p b) := by
  unfold spMark
  split
  · exact kept.same h _ _
  · split
    · exact kept.same h _ _
    · split
      · exact kept.same h _ _
      · exact ⟨⟨h.1, h.2.1, h.2.2.1, h.2.2.2⟩, rfl⟩
theorem k_alike (h : aOk cn cw σ) (x p : Int32) : kept cn cw σ (spAlike cn σ x p) := by
  unfold spAlike
  split
  · exact kept.same h _ _
  · split
    · exact kept.same h _ _
    · split <;> exact kept.same h _ _
theorem k_set (h : aOk cn cw σ) (w p d v : Int32) : kept cn cw σ (spSet cw σ w p d v) := by
  unfold spSet
  cases hw : ixN w cw with
  | none => exact kept.same h _ _
  | some j =>
    have h12 := h.2.1
    obtain ⟨hj, -⟩ := ixN_some hw (by omega)
    obtain ⟨w1, w2, w3, -⟩ := h.2.2.2 j hj
    obtain ⟨b1, b2, b3, b4⟩ := h.2.2.1 _ w1
    cases ha : spDoor σ (aNt σ j) p d with
    | none => simp only [ha]; exact kept.same h _ _
    | some a =>
      simp only [ha]
      obtain ⟨a1, a2⟩ := spDoor_at b2 (by omega) ha
      split
      · exact kept.same h _ _
      · next ht =>
        split
        · next hb => exact ⟨h.wv hj (by omega) (w3.put a2 (Bool.not_eq_false _ ▸ ht) hb), rfl⟩
        · exact kept.same h _ _
theorem k_spread (h : aOk cn cw σ) (w v : Int32) : kept cn cw σ (spSpread cw σ w v) := by
  unfold spSpread
  cases hw : ixN w cw with
  | none => exact kept.same h _ _
  | some j =>
    have h12 := h.2.1
    obtain ⟨hj, -⟩ := ixN_some hw (by omega)
    obtain ⟨w1, w2, w3, -⟩ := h.2.2.2 j hj
    simp only
    split
    · exact kept.same h _ _
    · next ht => exact ⟨h.wv hj (by omega) (w3.fill (Bool.not_eq_false _ ▸ ht)), rfl⟩
/-- as far as a wave goes on, it keeps to the weight -/
theorem run_ok (h : aOk cn cw σ) {j : Nat} (hj : j < cw) : ∀ i, i ≤ lf σ j → wOk (aPl σ (aNt σ j)) (aDr σ (aNt σ j)) (wv σ j i) ∧ aTm σ j + i ≤ 60 ∧ lf σ j = i + leftF (hvOf (aDr σ (aNt σ j))) (scOf (aDr σ (aNt σ j))) (60 - (aTm σ j + i)) (sqs (wv σ j i))
  | 0, _ => by
    obtain ⟨w1, w2, w3, -⟩ := h.2.2.2 j hj
    exact ⟨w3, w2, by rw [Nat.zero_add]; rfl⟩
  | i + 1, hi => by
    obtain ⟨g, t, u⟩ := run_ok h hj i (by omega)
    obtain ⟨w1, -, -, -⟩ := h.2.2.2 j hj
    obtain ⟨-, -, hd4, hpr⟩ := h.2.2.1 _ w1
    by_cases hg : aTm σ j + i < 60 ∧ sqs (wv σ j i) ≤ hvOf (aDr σ (aNt σ j))
    · obtain ⟨s1, s2, -⟩ := g.step (mk := aMk σ (aNt σ j)) hpr hd4 hg.2
      have e1 : wv σ j (i + 1) = stepF (aPl σ (aNt σ j)) (aDr σ (aNt σ j)) (aTo σ (aNt σ j)) (aMk σ (aNt σ j)) (wv σ j i) := rfl
      refine ⟨by rw [e1]; exact s1, by omega, ?_⟩
      rw [u, left_on hg.1 hg.2, ← s2, ← e1, show aTm σ j + i + 1 = aTm σ j + (i + 1) by omega]; omega
    · rw [left_off hg] at u
      omega
theorem bv_ok (h : aOk cn cw σ) {j : Nat} (hj : j < cw) : ∀ i, wOk (aPl σ (aNt σ j)) (aDr σ (aNt σ j)) (bv σ j i)
  | 0 => (h.2.2.2 j hj).2.2.1
  | i + 1 => by
    obtain ⟨w1, -, -, -⟩ := h.2.2.2 j hj
    obtain ⟨-, -, hd4, hpr⟩ := h.2.2.1 _ w1
    exact (bv_ok h hj i).undo hpr hd4
theorem k_step (h : aOk cn cw σ) (w n : Int32) : kept cn cw σ (spStep cw σ w n) := by
  unfold spStep
  cases hw : ixN w cw with
  | none => exact kept.same h _ _
  | some j =>
    have h12 := h.2.1
    obtain ⟨hj, -⟩ := ixN_some hw (by omega)
    cases hn : ixN n 61 with
    | none => exact kept.same h _ _
    | some k =>
      simp only
      split
      · exact kept.same h _ _
      · next hc =>
        obtain ⟨a, b, -⟩ := run_ok h hj k (by omega)
        exact ⟨h.wv hj b a, rfl⟩
theorem k_back (h : aOk cn cw σ) (w n : Int32) : kept cn cw σ (spBack cw σ w n) := by
  unfold spBack
  cases hw : ixN w cw with
  | none => exact kept.same h _ _
  | some j =>
    have h12 := h.2.1
    obtain ⟨hj, -⟩ := ixN_some hw (by omega)
    obtain ⟨w1, w2, w3, -⟩ := h.2.2.2 j hj
    cases hn : ixN n 61 with
    | none => exact kept.same h _ _
    | some k =>
      simp only
      split
      · exact kept.same h _ _
      · exact ⟨h.wv hj (by omega) (bv_ok h hj k), rfl⟩
theorem k_at (h : aOk cn cw σ) (w p d : Int32) : kept cn cw σ (spAt cw σ w p d) := by
  unfold spAt
  split
  · exact kept.same h _ _
  · split <;> exact kept.same h _ _
theorem k_share (h : aOk cn cw σ) (w p : Int32) : kept cn cw σ (spShare cw σ w p) := by
  unfold spShare
  split
  · exact kept.same h _ _
  · split
    · exact kept.same h _ _
    · split <;> exact kept.same h _ _
theorem k_of (h : aOk cn cw σ) (w x : Int32) : kept cn cw σ (spOf cw σ w x) := by
  unfold spOf
  split
  · exact kept.same h _ _
  · split <;> exact kept.same h _ _
theorem k_arr (h : aOk cn cw σ) (w p n : Int32) : kept cn cw σ (spArr cw σ w p n) := by
  unfold spArr
  split
  · exact kept.same h _ _
  · split
    · exact kept.same h _ _
    · split <;> exact kept.same h _ _
theorem k_ret (h : aOk cn cw σ) (w n : Int32) : kept cn cw σ (spRet cw σ w n) := by
  unfold spRet
  split
  · exact kept.same h _ _
  · split <;> exact kept.same h _ _
theorem k_best (h : aOk cn cw σ) (w n : Int32) : kept cn cw σ (spBest cw σ w n) := by
  unfold spBest
  split
  · exact kept.same h _ _
  · split
    · exact kept.same h _ _
    · split <;> exact kept.same h _ _
theorem k_mean (h : aOk cn cw σ) (w p n : Int32) : kept cn cw σ (spMean cw σ w p n) := by
  unfold spMean
  split
  · exact kept.same h _ _
  · split
    · exact kept.same h _ _
    · split
      · exact kept.same h _ _
      · split <;> exact kept.same h _ _
theorem k_copy (h : aOk cn cw σ) (w v : Int32) : kept cn cw σ (spCopy cw σ w v) := by
  unfold spCopy
  cases hw : ixN w cw with
  | none => exact kept.same h _ _
  | some j =>
    have h12 := h.2.1
    obtain ⟨hj, -⟩ := ixN_some hw (by omega)
    cases hv : ixN v cw with
    | none => exact kept.same h _ _
    | some i =>
      obtain ⟨hi, -⟩ := ixN_some hv (by omega)
      obtain ⟨w1, w2, w3, -⟩ := h.2.2.2 i hi
      simp only
      split
      · next e => exact ⟨h.wv hj w2 (by rw [e]; exact w3), rfl⟩
      · exact kept.same h _ _
theorem k_count (h : aOk cn cw σ) (x : Int32) : kept cn cw σ (spCount cn cw σ x) := by
  unfold spCount
  split <;> exact kept.same h _ _
end KE
/-! a net made, a walk made -/
def sNet (σ : Ab) (n pl dr : Nat) : Ab := (va_up (aPl σ) n pl, va_up (aDr σ) n dr, va_up (aTo σ) n (fun k => k), va_up (aMk σ) n (fun _ => false), va_up (aUs σ) n false, aNt σ, aTm σ, aWv σ)
def sWalk (σ : Ab) (i w : Nat) : Ab := (aPl σ, aDr σ, aTo σ, aMk σ, va_up (aUs σ) i true, va_up (aNt σ) w i, va_up (aTm σ) w 0, va_up (aWv σ) w (fun _ => 0))
def spNet (cn : Nat) (p d : Int32) : Option (Nat × Nat) := if cn < 6 ∧ 1 ≤ p.toInt ∧ p.toInt ≤ 12 ∧ 2 ≤ d.toInt ∧ d.toInt ≤ 4 then some (p.toInt.toNat, d.toInt.toNat) else none
theorem spNet_some {cn pl dr : Nat} {p d : Int32} (h : spNet cn p d = some (pl, dr)) : cn < 6 ∧ 1 ≤ pl ∧ pl ≤ 12 ∧ (dr = 2 ∨ dr = 3 ∨ dr = 4) ∧ p = nI pl ∧ d = nI dr := by
  unfold spNet at h
  split at h
  · next g =>
    have e := Option.some.inj h
    have e1 : p.toInt.toNat = pl := congrArg Prod.fst e
    have e2 : d.toInt.toNat = dr := congrArg Prod.snd e
    refine ⟨g.1, by omega, by omega, by omega, Int32.toInt_inj.mp ?_, Int32.toInt_inj.mp ?_⟩
    · rw [nI_toInt (by omega)]; omega
    · rw [nI_toInt (by omega)]; omega
  · cases h
theorem aOk.net {cn cw : Nat} {σ : Ab} (h : aOk cn cw σ) {pl dr : Nat} (h6 : cn < 6) (h1 : 1 ≤ pl) (h2 : pl ≤ 12) (h3 : dr = 2 ∨ dr = 3 ∨ dr = 4) : aOk (cn + 1) cw (sNet σ cn pl dr) := by
  refine ⟨by omega, h.2.1, fun i hi => ?_, fun j hj => ?_⟩
  · show 1 ≤ va_up (aPl σ) cn pl i ∧ va_up (aPl σ) cn pl i ≤ 12 ∧ (va_up (aDr σ) cn dr i = 2 ∨ va_up (aDr σ) cn dr i = 3 ∨ va_up (aDr σ) cn dr i = 4) ∧ pairs (va_up (aPl σ) cn pl i) (va_up (aDr σ) cn dr i) (va_up (aTo σ) cn (fun k => k) i)
    by_cases e : i = cn
    · subst e
      rw [va_up_self, va_up_self, va_up_self]
      exact ⟨h1, h2, h3, fun k hk => ⟨hk, rfl, fun z => z, fun _ => rfl⟩⟩
    · rw [va_up_ne _ _ e, va_up_ne _ _ e, va_up_ne _ _ e]
      exact h.2.2.1 i (by omega)
  · obtain ⟨a, b, c, d⟩ := h.2.2.2 j hj
    refine ⟨by show aNt σ j < cn + 1; omega, b, ?_, ?_⟩
    · show wOk (va_up (aPl σ) cn pl (aNt σ j)) (va_up (aDr σ) cn dr (aNt σ j)) (aWv σ j)
      rw [va_up_ne _ _ (by omega), va_up_ne _ _ (by omega)]; exact c
    · show va_up (aUs σ) cn false (aNt σ j) = true
      rw [va_up_ne _ _ (by omega)]; exact d
theorem nrm_z : nrm (fun _ => 0) 48 ≤ 4611686018427387904 := by decide
theorem aOk.walk {cn cw : Nat} {σ : Ab} (h : aOk cn cw σ) {i : Nat} (hi : i < cn) (h12 : cw < 12) : aOk cn (cw + 1) (sWalk σ i cw) := by
  refine ⟨h.1, by omega, h.2.2.1, fun j hj => ?_⟩
  show va_up (aNt σ) cw i j < cn ∧ va_up (aTm σ) cw 0 j ≤ 60 ∧ wOk (aPl σ (va_up (aNt σ) cw i j)) (aDr σ (va_up (aNt σ) cw i j)) (va_up (aWv σ) cw (fun _ => 0) j) ∧ va_up (aUs σ) i true (va_up (aNt σ) cw i j) = true
  by_cases e : j = cw
  · subst e
    rw [va_up_self, va_up_self, va_up_self, va_up_self]
    exact ⟨hi, by omega, ⟨fun _ _ _ => rfl, nrm_z⟩, rfl⟩
  · rw [va_up_ne _ _ e, va_up_ne _ _ e, va_up_ne _ _ e]
    obtain ⟨a, b, c, d⟩ := h.2.2.2 j (by omega)
    refine ⟨a, b, c, ?_⟩
    by_cases e2 : aNt σ j = i
    · rw [e2, va_up_self]
    · rw [va_up_ne _ _ e2]; exact d
