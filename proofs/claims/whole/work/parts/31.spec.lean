/-! WHAT EACH CALL ANSWERS: a code (0: an answer, 1: NoSuchElementException, 2: IllegalArgumentException), the answer, the state behind it -/
abbrev Sp : Type := Nat × Int64 × Ab
def itS (g : (Nat → Int64) → Nat → Int64) : Nat → (Nat → Int64) → Nat → Int64
  | 0, f => f
  | n + 1, f => g (itS g n f)
def stp (σ : Ab) (i : Nat) : (Nat → Int64) → Nat → Int64 := stepF (aPl σ i) (aDr σ i) (aTo σ i) (aMk σ i)
def und (σ : Ab) (i : Nat) : (Nat → Int64) → Nat → Int64 := undoF (aPl σ i) (aDr σ i) (aTo σ i) (aMk σ i)
def lf (σ : Ab) (j : Nat) : Nat := leftF (hvOf (aDr σ (aNt σ j))) (scOf (aDr σ (aNt σ j))) (60 - aTm σ j) (sqs (aWv σ j))
def sTo (σ : Ab) (i : Nat) (g : Nat → Nat) : Ab := (aPl σ, aDr σ, va_up (aTo σ) i g, aMk σ, aUs σ, aNt σ, aTm σ, aWv σ)
def sMk (σ : Ab) (i : Nat) (g : Nat → Bool) : Ab := (aPl σ, aDr σ, aTo σ, va_up (aMk σ) i g, aUs σ, aNt σ, aTm σ, aWv σ)
def sWv (σ : Ab) (j : Nat) (f : Nat → Int64) (t : Nat) : Ab := (aPl σ, aDr σ, aTo σ, aMk σ, aUs σ, aNt σ, va_up (aTm σ) j t, va_up (aWv σ) j f)
def spDoor (σ : Ab) (i : Nat) (p d : Int32) : Option Nat := match ixN p (aPl σ i) with
  | none => none
  | some q => match ixN d (aDr σ i) with
    | none => none
    | some e => some (q * 4 + e)
def spJoin (cn : Nat) (σ : Ab) (x p d p2 d2 : Int32) : Sp := match ixN x cn with
  | none => (1, 0, σ)
  | some i => match spDoor σ i p d with
    | none => (1, 0, σ)
    | some a => match spDoor σ i p2 d2 with
      | none => (1, 0, σ)
      | some b => if aUs σ i = true then (0, 0, σ) else (0, 1, sTo σ i (jnF (aTo σ i) a b))
def spLeads (cn : Nat) (σ : Ab) (x p d : Int32) : Sp := match ixN x cn with
  | none => (1, 0, σ)
  | some i => match spDoor σ i p d with
    | none => (1, 0, σ)
    | some a => (0, lN (aTo σ i a), σ)
def spMark (cn : Nat) (σ : Ab) (x p : Int32) (b : Bool) : Sp := match ixN x cn with
  | none => (1, 0, σ)
  | some i => match ixN p (aPl σ i) with
    | none => (1, 0, σ)
    | some q => if aUs σ i = true then (0, 0, σ) else (0, 1, sMk σ i (va_up (aMk σ i) q b))
def spAlike (cn : Nat) (σ : Ab) (x p : Int32) : Sp := match ixN x cn with
  | none => (1, 0, σ)
  | some i => if p = -1 then (0, lN (numA (aPl σ i) (aDr σ i) (aTo σ i) (aMk σ i)), σ) else match ixN p (aPl σ i) with
    | none => (1, 0, σ)
    | some q => (0, lN (clsA (aPl σ i) (aDr σ i) (aTo σ i) (aMk σ i) q), σ)
def spSet (cw : Nat) (σ : Ab) (w p d v : Int32) : Sp := match ixN w cw with
  | none => (1, 0, σ)
  | some j => match spDoor σ (aNt σ j) p d with
    | none => (1, 0, σ)
    | some a => if told v.toInt64 = false then (2, 0, σ) else if toldB (aWv σ j) a 48 = true then (0, 1, sWv σ j (vp_updL (aWv σ j) a v.toInt64) 0) else (0, 0, σ)
def spSpread (cw : Nat) (σ : Ab) (w v : Int32) : Sp := match ixN w cw with
  | none => (1, 0, σ)
  | some j => if told v.toInt64 = false then (2, 0, σ) else (0, 0, sWv σ j (fillF (aPl σ (aNt σ j)) (aDr σ (aNt σ j)) v.toInt64 (aWv σ j)) 0)
def spStep (cw : Nat) (σ : Ab) (w n : Int32) : Sp := match ixN w cw with
  | none => (1, 0, σ)
  | some j => match ixN n 61 with
    | none => (2, 0, σ)
    | some k => if sqs (aWv σ j) = 0 ∨ lf σ j < k then (0, -1, σ) else (0, lN (aTm σ j + k), sWv σ j (itS (stp σ (aNt σ j)) k (aWv σ j)) (aTm σ j + k))
def spBack (cw : Nat) (σ : Ab) (w n : Int32) : Sp := match ixN w cw with
  | none => (1, 0, σ)
  | some j => match ixN n 61 with
    | none => (2, 0, σ)
    | some k => if aTm σ j < k then (0, -1, σ) else (0, lN (aTm σ j - k), sWv σ j (itS (und σ (aNt σ j)) k (aWv σ j)) (aTm σ j - k))
def spAt (cw : Nat) (σ : Ab) (w p d : Int32) : Sp := match ixN w cw with
  | none => (1, 0, σ)
  | some j => match spDoor σ (aNt σ j) p d with
    | none => (1, 0, σ)
    | some a => (0, aWv σ j a, σ)
def spShare (cw : Nat) (σ : Ab) (w p : Int32) : Sp := match ixN w cw with
  | none => (1, 0, σ)
  | some j => if p = -1 then (0, sqs (aWv σ j), σ) else match ixN p (aPl σ (aNt σ j)) with
    | none => (1, 0, σ)
    | some q => (0, sqAt (aWv σ j) q, σ)
def spOf (cw : Nat) (σ : Ab) (w x : Int32) : Sp := match ixN w cw with
  | none => (1, 0, σ)
  | some j => match ixN x 3 with
    | none => (1, 0, σ)
    | some k => (0, if k = 0 then lN (aNt σ j) else if k = 1 then lN (aTm σ j) else scOf (aDr σ (aNt σ j)), σ)
def arrA (σ : Ab) (j q k : Nat) : Int64 :=
  if lst (fun i => allAt (itS (stp σ (aNt σ j)) i (aWv σ j)) q) (min k (lf σ j) + 1) < min k (lf σ j) + 1 then lN (lst (fun i => allAt (itS (stp σ (aNt σ j)) i (aWv σ j)) q) (min k (lf σ j) + 1)) else -1
def spArr (cw : Nat) (σ : Ab) (w p n : Int32) : Sp := match ixN w cw with
  | none => (1, 0, σ)
  | some j => match ixN p (aPl σ (aNt σ j)) with
    | none => (1, 0, σ)
    | some q => match ixN n 61 with
      | none => (2, 0, σ)
      | some k => (0, arrA σ j q k, σ)
def retA (σ : Ab) (j k : Nat) : Int64 :=
  if lst (fun i => isMul (itS (stp σ (aNt σ j)) (i + 1) (aWv σ j)) (aWv σ j)) (min k (lf σ j)) < min k (lf σ j) then lN (lst (fun i => isMul (itS (stp σ (aNt σ j)) (i + 1) (aWv σ j)) (aWv σ j)) (min k (lf σ j)) + 1) else -1
def spRet (cw : Nat) (σ : Ab) (w n : Int32) : Sp := match ixN w cw with
  | none => (1, 0, σ)
  | some j => match ixN n 61 with
    | none => (2, 0, σ)
    | some k => (0, retA σ j k, σ)
/-- best so far, and its share brought to the weight at hand -/
def bstF (g : (Nat → Int64) → Nat → Int64) (f : Nat → Int64) (mk : Nat → Bool) (pl : Nat) (sc : Int64) : Nat → Nat × Int64
  | 0 => (0, sqM f mk pl)
  | i + 1 => if (bstF g f mk pl sc i).2 * sc < sqM (itS g (i + 1) f) mk pl then (i + 1, sqM (itS g (i + 1) f) mk pl) else ((bstF g f mk pl sc i).1, (bstF g f mk pl sc i).2 * sc)
def bstA (σ : Ab) (j k : Nat) : Nat := (bstF (stp σ (aNt σ j)) (aWv σ j) (aMk σ (aNt σ j)) (aPl σ (aNt σ j)) (scOf (aDr σ (aNt σ j))) (min k (lf σ j))).1
def spBest (cw : Nat) (σ : Ab) (w n : Int32) : Sp := match ixN w cw with
  | none => (1, 0, σ)
  | some j => match ixN n 61 with
    | none => (2, 0, σ)
    | some k => if sqs (aWv σ j) = 0 then (0, -1, σ) else (0, lN (bstA σ j k), σ)
/-- the sum, none where it is too great -/
def menF (g : (Nat → Int64) → Nat → Int64) (f : Nat → Int64) (q : Nat) (hv sc : Int64) : Nat → Option Int64
  | 0 => some (sqAt f q)
  | i + 1 => match menF g f q hv sc i with
    | none => none
    | some s => if hv < s ∨ 4611686018427387904 - sqAt (itS g (i + 1) f) q < s * sc then none else some (s * sc + sqAt (itS g (i + 1) f) q)
def menA (σ : Ab) (j q k : Nat) : Option Int64 := menF (stp σ (aNt σ j)) (aWv σ j) q (hvOf (aDr σ (aNt σ j))) (scOf (aDr σ (aNt σ j))) k
def spMean (cw : Nat) (σ : Ab) (w p n : Int32) : Sp := match ixN w cw with
  | none => (1, 0, σ)
  | some j => match ixN p (aPl σ (aNt σ j)) with
    | none => (1, 0, σ)
    | some q => match ixN n 61 with
      | none => (2, 0, σ)
      | some k => if lf σ j < k then (0, -1, σ) else (0, (menA σ j q k).getD (-1), σ)
def spCopy (cw : Nat) (σ : Ab) (w v : Int32) : Sp := match ixN w cw with
  | none => (1, 0, σ)
  | some j => match ixN v cw with
    | none => (1, 0, σ)
    | some i => if aNt σ j = aNt σ i then (0, 0, sWv σ j (aWv σ i) (aTm σ i)) else (2, 0, σ)
def spCount (cn cw : Nat) (σ : Ab) (x : Int32) : Sp := match ixN x 2 with
  | none => (1, 0, σ)
  | some k => (0, if k = 0 then lN cn else lN cw, σ)
/-- a class's method: it answers as told, or throws as told -/
def pst (sp : Sp) (v : Int64) (cn cw : Nat) (I I' : mI) (J J' : mJ) : Prop := sp.1 = 0 ∧ sp.2.1 = v ∧ cDt cn cw sp.2.2 I' J' ∧ frm I I' J J'
def pxs (sp : Sp) (E : String) : Prop := (E = na_N ∧ sp.1 = 1) ∨ (E = ia_N ∧ sp.1 = 2)
/-! the state behind a change -/
theorem cDt.keep {cn cw : Nat} {σ : Ab} {I I' : mI} {J J' : mJ} (h : cDt cn cw σ I J) (h0 : I' 0 = I 0) (hI : ∀ r, 8 ≤ r → r < 62 → I' r = I r) (hJ : ∀ r, 8 ≤ r → r < 62 → J' r = J r) (h6 : cn ≤ 6) (h12 : cw ≤ 12) : cDt cn cw σ I' J' := by
  obtain ⟨a, b, c, d⟩ := h
  refine ⟨by rw [h0]; exact a, by rw [h0]; exact b, fun i hi => ?_, fun j hj => ?_⟩
  · obtain ⟨c1, c2, c3, c4, c5, c6, c7⟩ := c i hi
    refine ⟨?_, ?_, ?_, ?_, ?_, fun k hk => ?_, fun k hk => ?_⟩
    · rw [hI _ (by omega) (by omega)]; exact c1
    · rw [hI _ (by omega) (by omega)]; exact c2
    · rw [hI _ (by omega) (by omega)]; exact c3
    · rw [hJ _ (by omega) (by omega)]; exact c4
    · rw [hI _ (by omega) (by omega)]; exact c5
    · rw [hI _ (by omega) (by omega)]; exact c6 k hk
    · rw [hI _ (by omega) (by omega)]; exact c7 k hk
  · obtain ⟨d1, d2, d3⟩ := d j hj
    refine ⟨?_, ?_, ?_⟩
    · rw [hI _ (by omega) (by omega)]; exact d1
    · rw [hI _ (by omega) (by omega)]; exact d2
    · rw [hJ _ (by omega) (by omega)]; exact d3
abbrev iS (I : mI) (w t : Nat) : mI := va_up I w (upd (I w) 1 (nI t))
abbrev jS (J : mJ) (q : Nat) (f : Nat → Int64) : mJ := va_up J q f
theorem upd_upd (f : Nat → Int32) (k : Nat) (x z : Int32) : upd (upd f k x) k z = upd f k z := by
  funext j
  unfold upd
  split <;> rfl
theorem upd_self (f : Nat → Int32) (k : Nat) {x : Int32} (h : f k = x) : upd f k x = f := by
  funext j
  unfold upd
  split
  · next e => rw [e, h]
  · rfl
theorem iS_iS (I : mI) (w a b : Nat) : va_up (iS I w a) w (upd (iS I w a w) 1 (nI b)) = iS I w b := by
  unfold iS
  rw [va_up_self, up_up, upd_upd]
theorem iS_0 {I : mI} {w t : Nat} (h : I w 1 = nI t) : iS I w t = I := by
  unfold iS
  rw [upd_self _ _ h, up_same]
theorem iS_1 (I : mI) (w t : Nat) : iS I w t w 1 = nI t := by
  unfold iS
  rw [va_up_self]
  rfl
theorem jS_at (J : mJ) (q : Nat) (f : Nat → Int64) : jS J q f q = f := va_up_self _ _ _
theorem jS_jS (J : mJ) (q : Nat) (f g : Nat → Int64) : va_up (jS J q f) q g = jS J q g := up_up _ _ _ _
theorem cDt.wv {cn cw : Nat} {σ : Ab} {I : mI} {J : mJ} (h : cDt cn cw σ I J) (h6 : cn ≤ 6) (h12 : cw ≤ 12) {j : Nat} (hj : j < cw) (t : Nat) (f : Nat → Int64) : cDt cn cw (sWv σ j f t) (iS I (27 + 3 * j) t) (jS J (28 + 3 * j) f) := by
  obtain ⟨a, b, c, d⟩ := h
  have nI : ∀ r, r ≠ 27 + 3 * j → iS I (27 + 3 * j) t r = I r := fun r hr => va_up_ne _ _ hr
  have nJ : ∀ r, r ≠ 28 + 3 * j → jS J (28 + 3 * j) f r = J r := fun r hr => va_up_ne _ _ hr
  refine ⟨by rw [nI 0 (by omega)]; exact a, by rw [nI 0 (by omega)]; exact b, fun i hi => ?_, fun i hi => ?_⟩
  · obtain ⟨c1, c2, c3, c4, c5, c6, c7⟩ := c i hi
    refine ⟨?_, ?_, ?_, ?_, ?_, fun k hk => ?_, fun k hk => ?_⟩
    · rw [nI _ (by omega)]; exact c1
    · rw [nI _ (by omega)]; exact c2
    · rw [nI _ (by omega)]; exact c3
    · rw [nJ _ (by omega)]; exact c4
    · rw [nI _ (by omega)]; exact c5
    · rw [nI _ (by omega)]; exact c6 k hk
    · rw [nI _ (by omega)]; exact c7 k hk
  · obtain ⟨d1, d2, d3⟩ := d i hi
    refine ⟨?_, ?_, ?_⟩
    · rw [nI _ (by omega)]; exact d1
    · by_cases e : i = j
      · subst e
        rw [iS_1]
        show _ = _root_.Jvm.Pilot.@@N@@.nI (va_up (aTm σ) i t i)
        rw [va_up_self]
      · rw [nI _ (by omega), d2]
        show _ = _root_.Jvm.Pilot.@@N@@.nI (va_up (aTm σ) j t i)
        rw [va_up_ne _ _ e]
    · by_cases e : i = j
      · subst e
        show va_up J _ f _ = va_up (aWv σ) i f i
        rw [va_up_self, va_up_self]
      · rw [nJ _ (by omega), d3]
        show _ = va_up (aWv σ) j f i
        rw [va_up_ne _ _ e]
theorem frm.wv {I : mI} {J : mJ} {j : Nat} (hj : j < 12) (t : Nat) (f : Nat → Int64) : frm I (iS I (27 + 3 * j) t) J (jS J (28 + 3 * j) f) := fun r hr => ⟨va_up_ne _ _ (by omega), va_up_ne _ _ (by omega)⟩
/-! the net's numbers, at hand for the wave's methods -/
def nHas (I : mI) (J : mJ) (n t k pl dr : Nat) (to : Nat → Nat) (mk : Nat → Bool) : Prop := I n 0 = nI pl ∧ I n 1 = nI dr ∧ I n 2 = nI (scN dr) ∧ J n 3 = hvOf dr ∧ (∀ c, c < 48 → I t c = nI (to c)) ∧ ∀ c, c < 12 → I k c = bI (mk c)
theorem nHas.keep {I I' : mI} {J J' : mJ} {n t k pl dr : Nat} {to : Nat → Nat} {mk : Nat → Bool} (h : nHas I J n t k pl dr to mk) (h1 : I' n = I n) (h2 : I' t = I t) (h3 : I' k = I k) (h4 : J' n = J n) : nHas I' J' n t k pl dr to mk := by
  obtain ⟨a, b, c, d, e, f⟩ := h
  exact ⟨by rw [h1]; exact a, by rw [h1]; exact b, by rw [h1]; exact c, by rw [h4]; exact d, fun c hc => by rw [h2]; exact e c hc, fun c hc => by rw [h3]; exact f c hc⟩
theorem cDt.nHas {cn cw : Nat} {σ : Ab} {I : mI} {J : mJ} (h : cDt cn cw σ I J) {i : Nat} (hi : i < cn) : nHas I J (8 + 3 * i) (9 + 3 * i) (10 + 3 * i) (aPl σ i) (aDr σ i) (aTo σ i) (aMk σ i) := by
  obtain ⟨c1, c2, c3, c4, c5, c6, c7⟩ := h.2.2.1 i hi
  exact ⟨c1, c2, c3, c4, c6, c7⟩
section DS
variable {l : Launch} {D : va_G} {cy : Nat → ClassId} {L : List Nat} {ad : Nat → Nat} {G : mG} {I : mI} {J : mJ} {w q n t k pl dr : Nat} {to : Nat → Nat} {mk : Nat → Bool}
theorem d_do (hV : isV L G w q) (hN : isN L G n t k) (h : nHas I J n t k pl dr to mk) (hw : n ≠ w ∧ t ≠ w ∧ k ≠ w ∧ n ≠ q) (h12 : pl ≤ 12) (hd4 : dr = 2 ∨ dr = 3 ∨ dr = 4) (hpr : pairs pl dr to) (T : Nat) (hT : T ≤ 60) (f : Nat → Int64) :
    pMet l yX3_doStep wsX3_doStep rmX3_doStep D cy L ad G (iS I w T) (jS J q f) [.ref (ad w), .ref (ad n)] (qV (fun I' J' => I' = iS I w (T + 1) ∧ J' = jS J q (stepF pl dr to mk f)) D cy L ad G) := by
  obtain ⟨a, b, c, d, e, g⟩ := nHas.keep (I' := iS I w T) (J' := jS J q f) h (va_up_ne _ _ hw.1) (va_up_ne _ _ hw.2.1) (va_up_ne _ _ hw.2.2.1) (va_up_ne _ _ hw.2.2.2)
  have := c_X3_doStep l D cy L ad G (iS I w T) (jS J q f) w q hV n t k hN pl dr a b h12 hd4 mk g to e hpr T (iS_1 I w T) hT
  rw [iS_iS, jS_at, jS_jS] at this
  exact this
theorem d_un (hV : isV L G w q) (hN : isN L G n t k) (h : nHas I J n t k pl dr to mk) (hw : n ≠ w ∧ t ≠ w ∧ k ≠ w ∧ n ≠ q) (h12 : pl ≤ 12) (hd4 : dr = 2 ∨ dr = 3 ∨ dr = 4) (hpr : pairs pl dr to) (T : Nat) (hT : T ≤ 60) (hT1 : 1 ≤ T) (f : Nat → Int64) :
    pMet l yX3_undoStep wsX3_undoStep rmX3_undoStep D cy L ad G (iS I w T) (jS J q f) [.ref (ad w), .ref (ad n)] (qV (fun I' J' => I' = iS I w (T - 1) ∧ J' = jS J q (undoF pl dr to mk f)) D cy L ad G) := by
  obtain ⟨a, b, c, d, e, g⟩ := nHas.keep (I' := iS I w T) (J' := jS J q f) h (va_up_ne _ _ hw.1) (va_up_ne _ _ hw.2.1) (va_up_ne _ _ hw.2.2.1) (va_up_ne _ _ hw.2.2.2)
  have := c_X3_undoStep l D cy L ad G (iS I w T) (jS J q f) w q hV n t k hN pl dr a b h12 hd4 mk g to e hpr T (iS_1 I w T) hT hT1
  rw [iS_iS, jS_at, jS_jS] at this
  exact this
end DS
