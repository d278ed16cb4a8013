/-! A NET MADE, A WALK MADE -/
def fre (L : List Nat) (cn cw : Nat) : Prop := (∀ i, cn ≤ i → i < 6 → 8 + 3 * i ∉ L ∧ 9 + 3 * i ∉ L ∧ 10 + 3 * i ∉ L) ∧ ∀ j, cw ≤ j → j < 12 → 26 + 3 * j ∉ L ∧ 27 + 3 * j ∉ L ∧ 28 + 3 * j ∉ L
theorem nin3 {L : List Nat} {a b c q : Nat} (h : q ∉ L) (h1 : q ≠ a) (h2 : q ≠ b) (h3 : q ≠ c) : q ∉ L ++ [a] ++ [b] ++ [c] := nin_push rfl (nin_push rfl (nin_push rfl h h1) h2) h3
theorem fre.net {L L' : List Nat} {cn cw : Nat} (h : fre L cn cw) (h6 : cn < 6) (e : L' = L ++ [8 + 3 * cn] ++ [9 + 3 * cn] ++ [10 + 3 * cn]) : fre L' (cn + 1) cw := by
  subst e
  refine ⟨fun i h1 h2 => ?_, fun j h1 h2 => ?_⟩
  · obtain ⟨a, b, c⟩ := h.1 i (by omega) h2
    exact ⟨nin3 a (by omega) (by omega) (by omega), nin3 b (by omega) (by omega) (by omega), nin3 c (by omega) (by omega) (by omega)⟩
  · obtain ⟨a, b, c⟩ := h.2 j h1 h2
    exact ⟨nin3 a (by omega) (by omega) (by omega), nin3 b (by omega) (by omega) (by omega), nin3 c (by omega) (by omega) (by omega)⟩
theorem fre.walk {L L' : List Nat} {cn cw : Nat} (h : fre L cn cw) (h12 : cw < 12) (e : L' = L ++ [26 + 3 * cw] ++ [27 + 3 * cw] ++ [28 + 3 * cw]) : fre L' cn (cw + 1) := by
  subst e
  refine ⟨fun i h1 h2 => ?_, fun j h1 h2 => ?_⟩
  · obtain ⟨a, b, c⟩ := h.1 i h1 h2
    exact ⟨nin3 a (by omega) (by omega) (by omega), nin3 b (by omega) (by omega) (by omega), nin3 c (by omega) (by omega) (by omega)⟩
  · obtain ⟨a, b, c⟩ := h.2 j (by omega) h2
    exact ⟨nin3 a (by omega) (by omega) (by omega), nin3 b (by omega) (by omega) (by omega), nin3 c (by omega) (by omega) (by omega)⟩
theorem cSh.mkNet {L L' : List Nat} {G G' : mG} {cn cw : Nat} {nt : Nat → Nat} (h : cSh L G cn cw nt) (h6 : cn < 6) (h12 : cw ≤ 12) (hm : ∀ r, r ∈ L → r ∈ L') (m1 : 8 + 3 * cn ∈ L') (m2 : 9 + 3 * cn ∈ L') (m3 : 10 + 3 * cn ∈ L') (hG : ∀ r, r ≠ 1 → r ≠ 8 + 3 * cn → r ≠ 9 + 3 * cn → r ≠ 10 + 3 * cn → G' r = G r) (h1 : G' 1 = va_up (G 1) cn (some (8 + 3 * cn))) (h4 : G' (8 + 3 * cn) 4 = some (9 + 3 * cn)) (h5 : G' (8 + 3 * cn) 5 = some (10 + 3 * cn)) : cSh L' G' (cn + 1) cw nt := by
  obtain ⟨a0, a1, a2, a3, a4, a5, a6, a7, a8, a9, a10, a11⟩ := h
  refine ⟨fun r hr => hm r (a0 r hr), ?_, ?_, ?_, ?_, ?_, ?_, ?_, fun i hi => ?_, fun j hj => ?_, fun i hi => ?_, fun j hj => ?_⟩
  · rw [hG 0 (by omega) (by omega) (by omega) (by omega)]; exact a1
  · rw [hG 0 (by omega) (by omega) (by omega) (by omega)]; exact a2
  · rw [hG 0 (by omega) (by omega) (by omega) (by omega)]; exact a3
  · rw [hG 0 (by omega) (by omega) (by omega) (by omega)]; exact a4
  · rw [hG 3 (by omega) (by omega) (by omega) (by omega)]; exact a5
  · rw [hG 5 (by omega) (by omega) (by omega) (by omega)]; exact a6
  · rw [hG 5 (by omega) (by omega) (by omega) (by omega)]; exact a7
  · rw [h1]
    by_cases e : i = cn
    · subst e; rw [va_up_self, if_pos (by omega)]
    · rw [va_up_ne _ _ e, a8 i hi]
      by_cases e2 : i < cn
      · rw [if_pos e2, if_pos (by omega)]
      · rw [if_neg e2, if_neg (by omega)]
  · rw [hG 2 (by omega) (by omega) (by omega) (by omega)]; exact a9 j hj
  · by_cases e : i = cn
    · subst e; exact ⟨m1, m2, m3, h4, h5⟩
    · obtain ⟨b1, b2, b3, b4, b5⟩ := a10 i (by omega)
      rw [hG (8 + 3 * i) (by omega) (by omega) (by omega) (by omega)]
      exact ⟨hm _ b1, hm _ b2, hm _ b3, b4, b5⟩
  · obtain ⟨b1, b2, b3, b4, b5, b6⟩ := a11 j hj
    rw [hG (26 + 3 * j) (by omega) (by omega) (by omega) (by omega), hG (27 + 3 * j) (by omega) (by omega) (by omega) (by omega)]
    exact ⟨hm _ b1, hm _ b2, hm _ b3, b4, b5, b6⟩
theorem cSh.mkWalk {L L' : List Nat} {G G' : mG} {cn cw i0 : Nat} {nt : Nat → Nat} (h : cSh L G cn cw nt) (h6 : cn ≤ 6) (h12 : cw < 12) (hm : ∀ r, r ∈ L → r ∈ L') (m1 : 26 + 3 * cw ∈ L') (m2 : 27 + 3 * cw ∈ L') (m3 : 28 + 3 * cw ∈ L') (hG : ∀ r, r ≠ 2 → r ≠ 26 + 3 * cw → r ≠ 27 + 3 * cw → r ≠ 28 + 3 * cw → G' r = G r) (h2 : G' 2 = va_up (G 2) cw (some (26 + 3 * cw))) (h4 : G' (26 + 3 * cw) 1 = some (8 + 3 * i0)) (h5 : G' (26 + 3 * cw) 2 = some (27 + 3 * cw)) (h7 : G' (27 + 3 * cw) 0 = some (28 + 3 * cw)) : cSh L' G' cn (cw + 1) (va_up nt cw i0) := by
  obtain ⟨a0, a1, a2, a3, a4, a5, a6, a7, a8, a9, a10, a11⟩ := h
  refine ⟨fun r hr => hm r (a0 r hr), ?_, ?_, ?_, ?_, ?_, ?_, ?_, fun i hi => ?_, fun j hj => ?_, fun i hi => ?_, fun j hj => ?_⟩
  · rw [hG 0 (by omega) (by omega) (by omega) (by omega)]; exact a1
  · rw [hG 0 (by omega) (by omega) (by omega) (by omega)]; exact a2
  · rw [hG 0 (by omega) (by omega) (by omega) (by omega)]; exact a3
  · rw [hG 0 (by omega) (by omega) (by omega) (by omega)]; exact a4
  · rw [hG 3 (by omega) (by omega) (by omega) (by omega)]; exact a5
  · rw [hG 5 (by omega) (by omega) (by omega) (by omega)]; exact a6
  · rw [hG 5 (by omega) (by omega) (by omega) (by omega)]; exact a7
  · rw [hG 1 (by omega) (by omega) (by omega) (by omega)]; exact a8 i hi
  · rw [h2]
    by_cases e : j = cw
    · subst e; rw [va_up_self, if_pos (by omega)]
    · rw [va_up_ne _ _ e, a9 j hj]
      by_cases e2 : j < cw
      · rw [if_pos e2, if_pos (by omega)]
      · rw [if_neg e2, if_neg (by omega)]
  · obtain ⟨b1, b2, b3, b4, b5⟩ := a10 i hi
    rw [hG (8 + 3 * i) (by omega) (by omega) (by omega) (by omega)]
    exact ⟨hm _ b1, hm _ b2, hm _ b3, b4, b5⟩
  · by_cases e : j = cw
    · subst e; rw [va_up_self]; exact ⟨m1, m2, m3, h4, h5, h7⟩
    · obtain ⟨b1, b2, b3, b4, b5, b6⟩ := a11 j (by omega)
      rw [va_up_ne _ _ e, hG (26 + 3 * j) (by omega) (by omega) (by omega) (by omega), hG (27 + 3 * j) (by omega) (by omega) (by omega) (by omega)]
      exact ⟨hm _ b1, hm _ b2, hm _ b3, b4, b5, b6⟩
theorem cDt.mkNet {cn cw : Nat} {σ : Ab} {I I' : mI} {J J' : mJ} (h : cDt cn cw σ I J) (h6 : cn < 6) (h12 : cw ≤ 12) {pl dr : Nat} (h4 : I' 0 4 = nI (cn + 1)) (h5 : I' 0 5 = I 0 5) (hI : ∀ r, 8 ≤ r → r < 62 → r ≠ 8 + 3 * cn → r ≠ 9 + 3 * cn → r ≠ 10 + 3 * cn → I' r = I r ∧ J' r = J r)
    (c1 : I' (8 + 3 * cn) 0 = nI pl) (c2 : I' (8 + 3 * cn) 1 = nI dr) (c3 : I' (8 + 3 * cn) 2 = nI (scN dr)) (c4 : J' (8 + 3 * cn) 3 = hvOf dr) (c5 : I' (8 + 3 * cn) 6 = bI false) (c6 : ∀ c, c < 48 → I' (9 + 3 * cn) c = nI c) (c7 : ∀ c, c < 12 → I' (10 + 3 * cn) c = bI false) : cDt (cn + 1) cw (sNet σ cn pl dr) I' J' := by
  obtain ⟨a, b, c, d⟩ := h
  refine ⟨h4, h5.trans b, fun i hi => ?_, fun j hj => ?_⟩
  · show I' (8 + 3 * i) 0 = nI (va_up (aPl σ) cn pl i) ∧ I' (8 + 3 * i) 1 = nI (va_up (aDr σ) cn dr i) ∧ I' (8 + 3 * i) 2 = nI (scN (va_up (aDr σ) cn dr i)) ∧ J' (8 + 3 * i) 3 = hvOf (va_up (aDr σ) cn dr i) ∧ I' (8 + 3 * i) 6 = bI (va_up (aUs σ) cn false i) ∧ (∀ c, c < 48 → I' (9 + 3 * i) c = nI (va_up (aTo σ) cn (fun k => k) i c)) ∧ ∀ q, q < 12 → I' (10 + 3 * i) q = bI (va_up (aMk σ) cn (fun _ => false) i q)
    by_cases e : i = cn
    · subst e
      rw [va_up_self, va_up_self, va_up_self, va_up_self, va_up_self]
      exact ⟨c1, c2, c3, c4, c5, c6, c7⟩
    · rw [va_up_ne _ _ e, va_up_ne _ _ e, va_up_ne _ _ e, va_up_ne _ _ e, va_up_ne _ _ e, (hI (8 + 3 * i) (by omega) (by omega) (by omega) (by omega) (by omega)).1, (hI (8 + 3 * i) (by omega) (by omega) (by omega) (by omega) (by omega)).2, (hI (9 + 3 * i) (by omega) (by omega) (by omega) (by omega) (by omega)).1, (hI (10 + 3 * i) (by omega) (by omega) (by omega) (by omega) (by omega)).1]
      exact c i (by omega)
  · obtain ⟨d1, d2, d3⟩ := d j hj
    exact ⟨by rw [(hI (26 + 3 * j) (by omega) (by omega) (by omega) (by omega) (by omega)).1]; exact d1, by rw [(hI (27 + 3 * j) (by omega) (by omega) (by omega) (by omega) (by omega)).1]; exact d2, by rw [(hI (28 + 3 * j) (by omega) (by omega) (by omega) (by omega) (by omega)).2]; exact d3⟩
theorem cDt.mkWalk {cn cw : Nat} {σ : Ab} {I I' : mI} {J J' : mJ} (h : cDt cn cw σ I J) (h6 : cn ≤ 6) (h12 : cw < 12) {i0 : Nat} (hi0 : i0 < cn) (h4 : I' 0 4 = I 0 4) (h5 : I' 0 5 = nI (cw + 1)) (hI : ∀ r, 8 ≤ r → r < 62 → r ≠ 8 + 3 * i0 → r ≠ 26 + 3 * cw → r ≠ 27 + 3 * cw → r ≠ 28 + 3 * cw → I' r = I r) (hJ : ∀ r, 8 ≤ r → r < 62 → r ≠ 26 + 3 * cw → r ≠ 27 + 3 * cw → r ≠ 28 + 3 * cw → J' r = J r)
    (h8 : I' (8 + 3 * i0) = upd (I (8 + 3 * i0)) 6 (bI true)) (c1 : I' (26 + 3 * cw) 0 = nI i0) (c2 : I' (27 + 3 * cw) 1 = nI 0) (c3 : J' (28 + 3 * cw) = fun _ => 0) : cDt cn (cw + 1) (sWalk σ i0 cw) I' J' := by
  obtain ⟨a, b, c, d⟩ := h
  refine ⟨h4.trans a, h5, fun i hi => ?_, fun j hj => ?_⟩
  · obtain ⟨b1, b2, b3, b4, b5, b6, b7⟩ := c i hi
    show I' (8 + 3 * i) 0 = nI (aPl σ i) ∧ I' (8 + 3 * i) 1 = nI (aDr σ i) ∧ I' (8 + 3 * i) 2 = nI (scN (aDr σ i)) ∧ J' (8 + 3 * i) 3 = hvOf (aDr σ i) ∧ I' (8 + 3 * i) 6 = bI (va_up (aUs σ) i0 true i) ∧ (∀ c, c < 48 → I' (9 + 3 * i) c = nI (aTo σ i c)) ∧ ∀ q, q < 12 → I' (10 + 3 * i) q = bI (aMk σ i q)
    rw [hJ (8 + 3 * i) (by omega) (by omega) (by omega) (by omega) (by omega), hI (9 + 3 * i) (by omega) (by omega) (by omega) (by omega) (by omega) (by omega), hI (10 + 3 * i) (by omega) (by omega) (by omega) (by omega) (by omega) (by omega)]
    by_cases e : i = i0
    · subst e
      rw [h8, va_up_self, pk_un (by decide), pk_un (by decide), pk_un (by decide), pk_us]
      exact ⟨b1, b2, b3, b4, rfl, b6, b7⟩
    · rw [va_up_ne _ _ e, hI (8 + 3 * i) (by omega) (by omega) (by omega) (by omega) (by omega) (by omega)]
      exact ⟨b1, b2, b3, b4, b5, b6, b7⟩
  · show I' (26 + 3 * j) 0 = nI (va_up (aNt σ) cw i0 j) ∧ I' (27 + 3 * j) 1 = nI (va_up (aTm σ) cw 0 j) ∧ J' (28 + 3 * j) = va_up (aWv σ) cw (fun _ => 0) j
    by_cases e : j = cw
    · subst e
      rw [va_up_self, va_up_self, va_up_self]
      exact ⟨c1, c2, c3⟩
    · obtain ⟨d1, d2, d3⟩ := d j (by omega)
      rw [va_up_ne _ _ e, va_up_ne _ _ e, va_up_ne _ _ e, hI (26 + 3 * j) (by omega) (by omega) (by omega) (by omega) (by omega) (by omega), hI (27 + 3 * j) (by omega) (by omega) (by omega) (by omega) (by omega) (by omega), hJ (28 + 3 * j) (by omega) (by omega) (by omega) (by omega) (by omega)]
      exact ⟨d1, d2, d3⟩
/-- behind a call of net; behind one of walk -/
def nN (cn cw : Nat) (σ : Ab) (xp xd : Int32) (L : List Nat) (ad : Nat → Nat) (G : mG) (I : mI) (J : mJ) (v : Int32) : nPost := fun L' ad' G' I' J' => (∀ r, r ∈ L → ad' r = ad r) ∧ (∀ r, r ∈ L → r ∈ L') ∧ clo L' G' ∧ (∀ r, 62 ≤ r → G' r = G r ∧ I' r = I r ∧ J' r = J r) ∧ (spNet cn xp xd = none → v = -1 ∧ L' = L ∧ G' = G ∧ cDt cn cw σ I' J') ∧ ∀ pl dr, spNet cn xp xd = some (pl, dr) → v = nI cn ∧ cSh L' G' (cn + 1) cw (aNt σ) ∧ fre L' (cn + 1) cw ∧ cDt (cn + 1) cw (sNet σ cn pl dr) I' J'
def nWk (cn cw : Nat) (σ : Ab) (x : Int32) (L : List Nat) (ad : Nat → Nat) (G : mG) (I : mI) (J : mJ) (v : Int32) : nPost := fun L' ad' G' I' J' => (∀ r, r ∈ L → ad' r = ad r) ∧ (∀ r, r ∈ L → r ∈ L') ∧ clo L' G' ∧ (∀ r, 62 ≤ r → G' r = G r ∧ I' r = I r ∧ J' r = J r) ∧ ∃ i, ixN x cn = some i ∧ (cw = 12 → v = -1 ∧ L' = L ∧ G' = G ∧ cDt cn cw σ I' J') ∧ (cw < 12 → v = nI cw ∧ cSh L' G' cn (cw + 1) (va_up (aNt σ) cw i) ∧ fre L' cn (cw + 1) ∧ cDt cn (cw + 1) (sWalk σ i cw) I' J')
section OFX
variable {l : Launch} {y : MethodName} {ws ws' : List Cond} {rm : Room} {D : va_G} {cy : Nat → ClassId} {L : List Nat} {ad : Nat → Nat} {G : mG} {I : mI} {J : mJ} {av : List Value} {cc : ByteArray} {maxL : Nat}
theorem pXet.ofNI {post : Int32 → nPost} {px : String → Prop} (hy : plainName y.cls = true) (hw : ws = Cond.code y cc maxL (some .int) :: ws') (hav : (lg_sl av).length ≤ maxL)
    (body : ∀ (p : Program) (e : Env) (R : Room) (s : State) (m : MethodId) (args : Array Value) (below : List Frame) (meth : Method) (c : Code) (A : Nat → Prop) (Q : State → Prop), Cx p s m args c cc y.cls ws D cy A → c.maxLocals = maxL → rm = R → gX A s → (∀ (v : Int32) (L' : List Nat) (ad' : Nat → Nat) (G' : mG) (I' : mI) (J' : mJ) (H : Heap) (locs : List Loc) (cells slots : Nat) (ls : Array Slot) (pc : Nat), cells ≤ rm.cells → slots ≤ rm.slots → Wd D cy A s.heap H locs L' ad' G' I' J' → post v L' ad' G' I' J' → decode cc pc = .ok (.ireturn, 1) → W p l e R s m args below meth c H locs cells slots Q (F0 m pc ls [.int v])) → (∀ (E : String) (ce : Cell) (q : Addr) (H : Heap) (locs : List Loc) (cells slots : Nat) (ls : Array Slot) (pc : Nat) (st : List Value), cells ≤ rm.cells → slots ≤ rm.slots → Wd D cy A s.heap H locs L ad G I J → px E → H[q]? = some ce → ce.vm = .none → s.vm.findClass E = some ce.cls → vx_W p l e R s m args below meth c H locs cells slots Q (F0 m pc ls st) q) →
      Wd D cy A s.heap s.heap [] L ad G I J → ∀ ls, lv_has ls maxL (lv_args 0 av) → W p l e R s m args below meth c s.heap [] 0 0 Q (F0 m 0 ls [])) : pXet l y ws rm D cy L ad G I J av (qNI post D cy) px := by
  refine pXet.of hy hw hav ?_
  intro p e s m below meth c A C hml hr hlk hx hg hW ls hl
  exact body p e _ s m _ below meth c A _ C hml rfl hg (fun v L' ad' G' I' J' H locs cells slots ls pc hc hs hW hp hdg => vx_ret (p_iretN C hr hlk hW hc hs hp hdg))
    (fun E ce q H locs cells slots ls pc st hc hs hW hp h1 h2 h3 => vx_out (fun x h => (hx x h).elim) hlk h1 h2 h3 (fun t ht hvm => ⟨(I, J), rfl, ⟨hp, by rw [ht]; exact hW.1, va_K.moved hvm C.2.2.2.2.1, hW.2.1⟩, hW.2.2.F ht⟩) hW.2.2.2.2 hc hs) hW ls hl
end OFX
theorem ic_ngt4 {x : Int32} (h : ¬ nI 4 < x) : x ≤ nI 4 := by
  rw [Int32.lt_iff_toInt_lt] at h
  rw [Int32.le_iff_toInt_le]
  omega
theorem ic_gt4 {x : Int32} (h : nI 4 < x) : ¬ x ≤ nI 4 := by
  rw [Int32.lt_iff_toInt_lt] at h
  rw [Int32.le_iff_toInt_le]
  omega
abbrev rmX4_net : Room := { frames := 2, cells := 3, slots := 67, locals := 60 }
set_option maxHeartbeats 400000 in
set_option maxRecDepth 100000 in
theorem c_X4_net (l : Launch) (D : va_G) (cy : Nat → ClassId) (L : List Nat) (ad : Nat → Nat) (G : mG) (I : mI) (J : mJ) (hcl : clo L G) (cn cw : Nat) (σ : Ab) (hS : cSh L G cn cw (aNt σ)) (hf : fre L cn cw) (hA : aOk cn cw σ) (hD : cDt cn cw σ I J) (xp xd : Int32) : pMet l yX4_net wsX4_net rmX4_net D cy L ad G I J [.ref (ad 0), .int xp, .int xd] (qNI (nN cn cw σ xp xd L ad G I J) D cy) := by
  refine pMet.ofNI (cc := cX4_net) (maxL := 4) (by decide +kernel) rfl (Nat.le_of_ble_eq_true rfl) ?_
  intro p e R s m args below meth c A Q C hml hR hg ret hW ls hl
  subst hR
  have C : Cx p s m args c cX4_net RX4 wsX4_net D cy A := C
  have hx := C.1
  have hb := C.2.1
  have lk11 := C.2.2.2.1 (.fieldLink RX4 11 "WaveWalk" "nets" "[LWaveWalk$Net;") (by decide +kernel)
  have lk35 := C.2.2.2.1 (.fieldLink RX4 35 "WaveWalk" "netCount" "I") (by decide +kernel)
  have hinX4 : ∀ w ∈ wsX40, w ∈ wsX4_net := by decide +kernel
  have hl : lv_has ls 4 [(0, .ref (ad 0)), (1, .int xp), (2, .int xd)] := hl
  have h6 := hA.1
  have h12 := hA.2.1
  refine lv_iload_n hx hb dX4_net_0 rfl (lv_at hl 1 rfl) ?_
  refine lv_iconst (v := nI 1) hx hb dX4_net_1 (by decide) ?_
  refine lv_icmp_lt (tgt := 25) hx hb dX4_net_2 (by decide) (fun hc_1 => ?_) (fun hc_1 => ?_)
  · skip
    refine lv_iconst (v := nI 0) hx hb dX4_net_25 (by decide) ?_
    have hs : spNet cn xp xd = none := netc_no (Or.inr (Or.inl hc_1))
    refine lv_istore_n (lv' := [(3, .int (nI 0)), (0, .ref (ad 0)), (1, .int xp), (2, .int xd)]) hx hb dX4_net_26 rfl hl (by decide) rfl (fun ls hl => ?_)
    refine lv_iload_n hx hb dX4_net_27 rfl (lv_at hl 0 rfl) ?_
    refine lv_if_eq (tgt := 40) hx hb dX4_net_28 (by decide) (fun hc_2 => ?_) (fun hc_2 => ?_)
    · skip
      refine lv_iconst (v := (-1)) hx hb dX4_net_40 (by decide) ?_
      exact ret _ _ _ _ _ _ _ _ _ _ _ _ (Nat.le_of_ble_eq_true rfl) (Nat.le_of_ble_eq_true rfl) hW ⟨fun _ _ => rfl, fun _ h => h, hcl, fun _ _ => ⟨rfl, rfl, rfl⟩, fun _ => ⟨rfl, rfl, rfl, hD⟩, fun pl dr z => (by rw [hs] at z; cases z)⟩ dX4_net_41
    · skip
      exact absurd rfl hc_2
  · skip
    refine lv_iload_n hx hb dX4_net_5 rfl (lv_at hl 1 rfl) ?_
    refine lv_bipush (v := nI 12) hx hb dX4_net_6 (by decide) ?_
    refine lv_icmp_gt (tgt := 25) hx hb dX4_net_8 (by decide) (fun hc_3 => ?_) (fun hc_3 => ?_)
    · skip
      refine lv_iconst (v := nI 0) hx hb dX4_net_25 (by decide) ?_
      have hs : spNet cn xp xd = none := netc_no (Or.inr (Or.inr (Or.inl hc_3)))
      refine lv_istore_n (lv' := [(3, .int (nI 0)), (0, .ref (ad 0)), (1, .int xp), (2, .int xd)]) hx hb dX4_net_26 rfl hl (by decide) rfl (fun ls hl => ?_)
      refine lv_iload_n hx hb dX4_net_27 rfl (lv_at hl 0 rfl) ?_
      refine lv_if_eq (tgt := 40) hx hb dX4_net_28 (by decide) (fun hc_4 => ?_) (fun hc_4 => ?_)
      · skip
        refine lv_iconst (v := (-1)) hx hb dX4_net_40 (by decide) ?_
        exact ret _ _ _ _ _ _ _ _ _ _ _ _ (Nat.le_of_ble_eq_true rfl) (Nat.le_of_ble_eq_true rfl) hW ⟨fun _ _ => rfl, fun _ h => h, hcl, fun _ _ => ⟨rfl, rfl, rfl⟩, fun _ => ⟨rfl, rfl, rfl, hD⟩, fun pl dr z => (by rw [hs] at z; cases z)⟩ dX4_net_41
      · skip
        exact absurd rfl hc_4
    · skip
      refine lv_iload_n hx hb dX4_net_11 rfl (lv_at hl 2 rfl) ?_
      refine lv_iconst (v := nI 2) hx hb dX4_net_12 (by decide) ?_
      refine lv_icmp_lt (tgt := 25) hx hb dX4_net_13 (by decide) (fun hc_5 => ?_) (fun hc_5 => ?_)
      · skip
        refine lv_iconst (v := nI 0) hx hb dX4_net_25 (by decide) ?_
        have hs : spNet cn xp xd = none := netc_no (Or.inr (Or.inr (Or.inr (Or.inl hc_5))))
        refine lv_istore_n (lv' := [(3, .int (nI 0)), (0, .ref (ad 0)), (1, .int xp), (2, .int xd)]) hx hb dX4_net_26 rfl hl (by decide) rfl (fun ls hl => ?_)
        refine lv_iload_n hx hb dX4_net_27 rfl (lv_at hl 0 rfl) ?_
        refine lv_if_eq (tgt := 40) hx hb dX4_net_28 (by decide) (fun hc_6 => ?_) (fun hc_6 => ?_)
        · skip
          refine lv_iconst (v := (-1)) hx hb dX4_net_40 (by decide) ?_
          exact ret _ _ _ _ _ _ _ _ _ _ _ _ (Nat.le_of_ble_eq_true rfl) (Nat.le_of_ble_eq_true rfl) hW ⟨fun _ _ => rfl, fun _ h => h, hcl, fun _ _ => ⟨rfl, rfl, rfl⟩, fun _ => ⟨rfl, rfl, rfl, hD⟩, fun pl dr z => (by rw [hs] at z; cases z)⟩ dX4_net_41
        · skip
          exact absurd rfl hc_6
      · skip
        refine lv_iload_n hx hb dX4_net_16 rfl (lv_at hl 2 rfl) ?_
        refine lv_iconst (v := nI 4) hx hb dX4_net_17 (by decide) ?_
        refine lv_icmp_gt (tgt := 25) hx hb dX4_net_18 (by decide) (fun hc_7 => ?_) (fun hc_7 => ?_)
        · skip
          refine lv_iconst (v := nI 0) hx hb dX4_net_25 (by decide) ?_
          have hs : spNet cn xp xd = none := netc_no (Or.inr (Or.inr (Or.inr (Or.inr (ic_gt4 hc_7)))))
          refine lv_istore_n (lv' := [(3, .int (nI 0)), (0, .ref (ad 0)), (1, .int xp), (2, .int xd)]) hx hb dX4_net_26 rfl hl (by decide) rfl (fun ls hl => ?_)
          refine lv_iload_n hx hb dX4_net_27 rfl (lv_at hl 0 rfl) ?_
          refine lv_if_eq (tgt := 40) hx hb dX4_net_28 (by decide) (fun hc_8 => ?_) (fun hc_8 => ?_)
          · skip
            refine lv_iconst (v := (-1)) hx hb dX4_net_40 (by decide) ?_
            exact ret _ _ _ _ _ _ _ _ _ _ _ _ (Nat.le_of_ble_eq_true rfl) (Nat.le_of_ble_eq_true rfl) hW ⟨fun _ _ => rfl, fun _ h => h, hcl, fun _ _ => ⟨rfl, rfl, rfl⟩, fun _ => ⟨rfl, rfl, rfl, hD⟩, fun pl dr z => (by rw [hs] at z; cases z)⟩ dX4_net_41
          · skip
            exact absurd rfl hc_8
        · skip
          refine lv_iconst (v := nI 1) hx hb dX4_net_21 (by decide) ?_
          refine lv_goto (tgt := 26) hx hb dX4_net_22 (by decide) ?_
          refine lv_istore_n (lv' := [(3, .int (nI 1)), (0, .ref (ad 0)), (1, .int xp), (2, .int xd)]) hx hb dX4_net_26 rfl hl (by decide) rfl (fun ls hl => ?_)
          refine lv_iload_n hx hb dX4_net_27 rfl (lv_at hl 0 rfl) ?_
          refine lv_if_eq (tgt := 40) hx hb dX4_net_28 (by decide) (fun hc_9 => ?_) (fun hc_9 => ?_)
          · skip
            exact absurd hc_9 (by decide)
          · skip
            refine lv_aload_n hx hb dX4_net_31 rfl (lv_at hl 1 rfl) ?_
            refine g_X4_4 C hinX4 hW (hS.1 0 (by omega)) (by decide) lk35 dX4_net_32 ?_
            refine w_top (y := .int (nI cn)) (by rw [hD.1]) ?_
            refine lv_bipush (v := nI 6) hx hb dX4_net_35 (by decide) ?_
            refine n_icmp_lt (tgt := 42) hx hb (by omega) (by omega) dX4_net_37 (by decide) (fun hc_10 => ?_) (fun hc_10 => ?_)
            · skip
              have hc6 : cn < 6 := hc_10
              obtain ⟨pl, dr, hs⟩ := netc_ok h6 (by omega) hc_1 hc_3 hc_5 (ic_ngt4 hc_7)
              obtain ⟨-, hp1, hp12, hd4, hx1, hx2⟩ := spNet_some hs
              subst hx1
              subst hx2
              obtain ⟨n, en⟩ : ∃ z, z = 8 + 3 * cn := ⟨_, rfl⟩
              obtain ⟨t, et⟩ : ∃ z, z = 9 + 3 * cn := ⟨_, rfl⟩
              obtain ⟨k, ek⟩ : ∃ z, z = 10 + 3 * cn := ⟨_, rfl⟩
              have kn : kd n = 1 := by rw [en]; exact kd_n hc6
              have kt : kd t = 6 := by rw [et]; exact kd_t hc6
              have lt : ln t = 48 := by rw [et]; exact ln_t hc6
              have kk0 : kd k = 8 := by rw [ek]; exact kd_k hc6
              have lk0 : ln k = 12 := by rw [ek]; exact ln_k hc6
              obtain ⟨fn, ft, fk⟩ := hf.1 cn (Nat.le_refl _) hc6
              rw [← en] at fn
              rw [← et] at ft
              rw [← ek] at fk
              refine lv_aload_n hx hb dX4_net_42 rfl (lv_at hl 1 rfl) ?_
              refine g_X4_0 C hinX4 hW (hS.1 0 (by omega)) (by decide) hS.2.1 lk11 dX4_net_43 ?_
              refine lv_aload_n hx hb dX4_net_46 rfl (lv_at hl 1 rfl) ?_
              refine g_X4_4 C hinX4 hW (hS.1 0 (by omega)) (by decide) lk35 dX4_net_47 ?_
              refine w_top (y := .int (nI cn)) (by rw [hD.1]) ?_
              refine p_new C hW hcl fn (ci := 1) rfl (by decide +kernel) tyX1 tyX1_ok (C.2.2.2.1 (.classLink RX4 9 RX1) (by decide +kernel)) (C.2.2.2.1 (.instantiable RX1 7) (by decide +kernel)) (C.2.2.2.1 (.initialized RX1) (by decide +kernel)) dfX1 (fun a => dgX1 kn a) (Nat.le_of_ble_eq_true rfl) (Nat.le_of_ble_eq_true rfl) dX4_net_50 (fun ad11 H hag12 hW => ?_)
              rw [← hag12 1 (hS.1 1 (by omega))]
              have hl : lv_has ls 4 [(3, .int (nI 1)), (0, .ref (ad11 0)), (1, .int (nI pl)), (2, .int (nI dr))] := by rw [hag12 0 (hS.1 0 (by omega))]; exact hl
              obtain ⟨L13, eL13⟩ : ∃ z, z = L ++ [n] := ⟨_, rfl⟩
              rw [← eL13] at hW
              obtain ⟨G14, eG14⟩ : ∃ z, z = va_up G n (fun _ => (none : Option Nat)) := ⟨_, rfl⟩
              rw [← eG14] at hW
              obtain ⟨I15, eI15⟩ : ∃ z, z = va_up I n (fun _ => (0 : Int32)) := ⟨_, rfl⟩
              rw [← eI15] at hW
              obtain ⟨J16, eJ16⟩ : ∃ z, z = va_up J n (fun _ => (0 : Int64)) := ⟨_, rfl⟩
              rw [← eJ16] at hW
              have cl17 : clo L13 G14 := clo_new hcl fn eL13 eG14
              have mo18 : ∀ q, q ∈ L → q ∈ L13 := fun q h => mem_old eL13 h
              refine lv_dup hx hb dX4_net_53 rfl ?_
              refine lv_iload_n hx hb dX4_net_54 rfl (lv_at hl 2 rfl) ?_
              refine lv_iload_n hx hb dX4_net_55 rfl (lv_at hl 3 rfl) ?_
              refine p_cI C hml hg hW (c_X1_init l D cy L13 ad11 G14 I15 J16 cl17 n t k (mem_new eL13) kn (nin_push eL13 ft (Ne.symm (by omega))) kt lt (nin_push eL13 fk (Ne.symm (by omega))) kk0 lk0 (by omega) pl dr hd4) (cwI 2 C.2.2.2.1 gX4_net_X1_init rfl rfl rfl (C.2.2.2.1 (.initialized RX1) (by decide +kernel)) (C.2.2.2.1 (.methodLink RX4 42 yX1_init) (by decide +kernel)) (C.2.2.2.1 (.instanceMethod yX1_init) (by decide +kernel)) rfl (by decide +kernel) ⟨Nat.le_of_ble_eq_true rfl, Nat.le_of_ble_eq_true rfl⟩) rfl hl.1 rfl (Nat.le_of_ble_eq_true rfl) dX4_net_56 (Nat.le_of_ble_eq_true rfl) (Nat.le_of_ble_eq_true rfl) (fun L19 ad20 G21 I22 J23 H locs hp hW => ?_)
              obtain ⟨eL23, cl23, hag23, hot23, hgn, hi0, hi1, hi2, hj3, hi6, hit, hik⟩ := hp
              have mo24 : ∀ q, q ∈ L13 → q ∈ L19 := fun q h => by rw [eL23]; exact List.mem_append_left _ (List.mem_append_left _ h)
              rw [← hag23 1 (mo18 _ (hS.1 1 (by omega)))]
              rw [← hag23 n (mem_new eL13)]
              have hl : lv_has ls 4 [(3, .int (nI 1)), (0, .ref (ad20 0)), (1, .int (nI pl)), (2, .int (nI dr))] := by rw [hag23 0 (mo18 _ (hS.1 0 (by omega)))]; exact hl
              have mt : t ∈ L19 := by rw [eL23]; exact List.mem_append_left _ (List.mem_append_right _ List.mem_cons_self)
              have mk : k ∈ L19 := by rw [eL23]; exact List.mem_append_right _ List.mem_cons_self
              refine p_aast C hW (mo24 _ (mo18 _ (hS.1 1 (by omega)))) (Or.inl (by decide)) (mo24 _ (mem_new eL13)) (i := 3) (pF_1 kn) rfl rfl (by decide) (k := cn) (by rw [show ln 1 = 6 by decide]; omega) dX4_net_59 (fun H locs hW => ?_)
              obtain ⟨G25, eG25⟩ : ∃ z, z = va_up G21 1 (va_up (G21 1) cn (some n)) := ⟨_, rfl⟩
              rw [← eG25] at hW
              have cl26 : clo L19 G25 := clo_put cl23 (mo24 _ (mo18 _ (hS.1 1 (by omega)))) (mo24 _ (mem_new eL13)) eG25
              have hc4 : I22 0 4 = nI cn := by rw [(hot23 0 (by omega) (by omega) (by omega)).2.1, eI15, va_up_ne _ _ (by omega), hD.1]
              refine lv_aload_n hx hb dX4_net_60 rfl (lv_at hl 1 rfl) ?_
              refine lv_dup hx hb dX4_net_61 rfl ?_
              refine g_X4_4 C hinX4 hW (mo24 _ (mo18 _ (hS.1 0 (by omega)))) (by decide) lk35 dX4_net_62 ?_
              refine w_top (y := .int (nI cn)) (by rw [hc4]) ?_
              refine lv_iconst (v := nI 1) hx hb dX4_net_65 (by decide) ?_
              refine n_iadd hx hb dX4_net_66 ?_
              refine s_X4_4 C hinX4 hW (mo24 _ (mo18 _ (hS.1 0 (by omega)))) (by decide) lk35 dX4_net_67 (fun H locs hW => ?_)
              obtain ⟨I27, eI27⟩ : ∃ z, z = va_up I22 0 (upd (I22 0) 4 (nI (cn + 1))) := ⟨_, rfl⟩
              rw [← eI27] at hW
              refine lv_aload_n hx hb dX4_net_70 rfl (lv_at hl 1 rfl) ?_
              refine g_X4_4 C hinX4 hW (mo24 _ (mo18 _ (hS.1 0 (by omega)))) (by decide) lk35 dX4_net_71 ?_
              refine w_top (y := .int (nI (cn + 1))) (by rw [eI27, va_up_self]; rfl) ?_
              refine lv_iconst (v := nI 1) hx hb dX4_net_74 (by decide) ?_
              refine n_isub hx hb (by omega) dX4_net_75 ?_
              have q0 : ∀ r, r ≠ 0 → r ≠ 1 → r ≠ n → r ≠ t → r ≠ k → G25 r = G r ∧ I27 r = I r ∧ J23 r = J r := fun r g0 g1 g2 g3 g4 => ⟨by rw [eG25, va_up_ne _ _ g1, (hot23 r g2 g3 g4).1, eG14, va_up_ne _ _ g2], by rw [eI27, va_up_ne _ _ g0, (hot23 r g2 g3 g4).2.1, eI15, va_up_ne _ _ g2], by rw [(hot23 r g2 g3 g4).2.2, eJ16, va_up_ne _ _ g2]⟩
              have q1 : G25 1 = va_up (G 1) cn (some n) := by rw [eG25, va_up_self, (hot23 1 (by omega) (by omega) (by omega)).1, eG14, va_up_ne _ _ (by omega)]
              have q2 : G25 0 = G 0 := by rw [eG25, va_up_ne _ _ (by decide), (hot23 0 (by omega) (by omega) (by omega)).1, eG14, va_up_ne _ _ (by omega)]
              have q3 : G25 n = va_up (va_up (fun _ => none) 4 (some t)) 5 (some k) := by rw [eG25, va_up_ne _ _ (by omega), hgn, eG14, va_up_self]
              have q4 : ∀ r, r ≠ 0 → I27 r = I22 r := fun r h => by rw [eI27, va_up_ne _ _ h]
              have q5 : I27 0 = upd (I 0) 4 (nI (cn + 1)) := by rw [eI27, va_up_self, (hot23 0 (by omega) (by omega) (by omega)).2.1, eI15, va_up_ne _ _ (by omega)]
              have hLe : L19 = L ++ [n] ++ [t] ++ [k] := by rw [eL23, eL13]
              have hmm : ∀ r, r ∈ L → r ∈ L19 := fun r h => by rw [hLe]; exact List.mem_append_left _ (List.mem_append_left _ (List.mem_append_left _ h))
              have mn : n ∈ L19 := (mo24 _ (mem_new eL13))
              exact ret _ _ _ _ _ _ _ _ _ _ _ _ (Nat.le_of_ble_eq_true rfl) (Nat.le_of_ble_eq_true rfl) hW ⟨(fun q hq => (hag23 q (mo18 q hq)).trans (hag12 q hq)), hmm, cl26, fun r h => q0 r (by omega) (by omega) (by omega) (by omega) (by omega), fun z => (by rw [hs] at z; cases z), fun pl1 dr1 z => (by rw [hs] at z; cases z; subst en; subst et; subst ek; exact ⟨rfl, hS.mkNet hc6 h12 hmm mn mt mk (fun r a1 a2 a3 a4 => by by_cases a0 : r = 0; (subst a0; exact q2); exact (q0 r a0 a1 a2 a3 a4).1) q1 (by rw [q3, va_up_ne _ _ (by decide), va_up_self]) (by rw [q3, va_up_self]), hf.net hc6 hLe, hD.mkNet hc6 h12 (by rw [q5, pk_us]) (by rw [q5, pk_un (by decide)]) (fun r b1 b2 b3 b4 b5 => (q0 r (by omega) (by omega) b3 b4 b5).2) (by rw [q4 _ (by omega)]; exact hi0) (by rw [q4 _ (by omega)]; exact hi1) (by rw [q4 _ (by omega)]; exact hi2) hj3 (by rw [q4 _ (by omega)]; exact hi6) (by rw [q4 _ (by omega)]; exact hit) (by rw [q4 _ (by omega)]; exact hik)⟩)⟩ dX4_net_76
            · skip
              have hs : spNet cn xp xd = none := netc_no (Or.inl (by omega))
              refine lv_iconst (v := (-1)) hx hb dX4_net_40 (by decide) ?_
              exact ret _ _ _ _ _ _ _ _ _ _ _ _ (Nat.le_of_ble_eq_true rfl) (Nat.le_of_ble_eq_true rfl) hW ⟨fun _ _ => rfl, fun _ h => h, hcl, fun _ _ => ⟨rfl, rfl, rfl⟩, fun _ => ⟨rfl, rfl, rfl, hD⟩, fun pl dr z => (by rw [hs] at z; cases z)⟩ dX4_net_41
