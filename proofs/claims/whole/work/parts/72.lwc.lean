/-! THE LAW'S LOOP: what holds between two calls -/
def pic (cn cw : Nat) (σ : Ab) (L : List Nat) (G : mG) (I : mI) (J : mJ) : Prop := cSh L G cn cw (aNt σ) ∧ fre L cn cw ∧ clo L G ∧ rSh L G ∧ 80 ∈ L ∧ aOk cn cw σ ∧ cDt cn cw σ I J ∧ rDt cn cw σ I J
section PI
variable {cn cw : Nat} {σ : Ab} {L : List Nat} {G : mG} {I I1 I2 : mI} {J J1 J2 : mJ}
theorem rDt.far (h : rDt cn cw σ I J) (h12 : cw ≤ 12) (hI : ∀ r, 64 ≤ r → r ≤ 75 → I1 r = I r) (hJ : ∀ r, 64 ≤ r → r ≤ 75 → J1 r = J r) : rDt cn cw σ I1 J1 :=
  h.same (by rw [hI 64 (by omega) (by omega)]) (by rw [hI 64 (by omega) (by omega)]) (fun r h1 h2 => hI r (by omega) (by omega)) (fun v _ => by rw [hI 70 (by omega) (by omega)]) (fun v _ => by rw [hI 71 (by omega) (by omega)]) (fun v _ k _ => by rw [hJ 72 (by omega) (by omega)]) h12
theorem pic.mid {sp : Sp} {v : Int32} (h : pic cn cw σ L G I J) (h1 : hst sp v cn cw I I1 J J1) : rDt cn cw σ I1 J1 := by
  obtain ⟨a, b, c, d, e, f, g, k⟩ := h
  exact k.far f.2.1 (fun r h2 h3 => (h1.2.2.2 r (by omega)).1) (fun r h2 h3 => (h1.2.2.2 r (by omega)).2 (by omega))
theorem pic.next {sp : Sp} {v : Int32} {v2 : Int64} (h : pic cn cw σ L G I J) (hk : kept cn cw σ sp) (h1 : hst sp v cn cw I I1 J J1) (h2 : rst sp v2 cn cw I1 I2 J1 J2) : pic cn cw sp.2.2 L G I2 J2 := by
  obtain ⟨a, b, c, d, e, f, g, k⟩ := h
  refine ⟨by rw [hk.2]; exact a, b, c, d, e, hk.1, ?_, h2.2.2.1⟩
  exact h1.2.2.1.keep (h2.2.2.2 0 (by omega)).1 (fun r h3 h4 => (h2.2.2.2 r (by omega)).1) (fun r h3 h4 => (h2.2.2.2 r (by omega)).2) f.1 f.2.1
theorem pic.midV {sp : Sp} (h : pic cn cw σ L G I J) (h1 : ∀ r, 62 ≤ r → I1 r = I r ∧ J1 r = J r) : rDt cn cw σ I1 J1 := by
  obtain ⟨a, b, c, d, e, f, g, k⟩ := h
  exact k.far f.2.1 (fun r h2 h3 => (h1 r (by omega)).1) (fun r h2 h3 => (h1 r (by omega)).2)
theorem pic.nextV {sp : Sp} {v2 : Int64} (h : pic cn cw σ L G I J) (hk : kept cn cw σ sp) (h1 : cDt cn cw sp.2.2 I1 J1) (h2 : rst sp v2 cn cw I1 I2 J1 J2) : pic cn cw sp.2.2 L G I2 J2 := by
  obtain ⟨a, b, c, d, e, f, g, k⟩ := h
  refine ⟨by rw [hk.2]; exact a, b, c, d, e, hk.1, ?_, h2.2.2.1⟩
  exact h1.keep (h2.2.2.2 0 (by omega)).1 (fun r h3 h4 => (h2.2.2.2 r (by omega)).1) (fun r h3 h4 => (h2.2.2.2 r (by omega)).2) f.1 f.2.1
theorem rSh.grow {L' : List Nat} {G' : mG} (h : rSh L G) (hm : ∀ r, r ∈ L → r ∈ L') (hG : G' 64 = G 64) : rSh L' G' := ⟨fun r h1 h2 => hm r (h.1 r h1 h2), fun k h1 h2 => by rw [hG]; exact h.2 k h1 h2⟩
/-- a net made on both sides -/
theorem pic.net {xp xd v v2 : Int32} {ad : Nat → Nat} {L1 : List Nat} {ad1 : Nat → Nat} {G1 : mG} (h : pic cn cw σ L G I J) (h1 : nN cn cw σ xp xd L ad G I J v L1 ad1 G1 I1 J1) (h2 : rsN cn cw σ xp xd v2 I1 I2 J1 J2) : v = v2 ∧ ∃ cn' σ', pic cn' cw σ' L1 G1 I2 J2 := by
  obtain ⟨a, b, c, d, e, f, g, k⟩ := h
  obtain ⟨p1, p2, p3, p4, p5, p6⟩ := h1
  obtain ⟨q1, q2, q3⟩ := h2
  have hr : rSh L1 G1 := d.grow p2 (p4 64 (by omega)).1
  cases hs : spNet cn xp xd with
  | none =>
    obtain ⟨e1, e2, e3, e4⟩ := p5 hs
    obtain ⟨r1, r2⟩ := q2 hs
    refine ⟨by rw [e1, r1], cn, σ, by rw [e2, e3]; exact a, by rw [e2]; exact b, p3, hr, p2 80 e, f, ?_, r2⟩
    exact e4.keep (q1 0 (by omega)).1 (fun r h3 h4 => (q1 r (by omega)).1) (fun r h3 h4 => (q1 r (by omega)).2) f.1 f.2.1
  | some pd =>
    obtain ⟨pl, dr⟩ := pd
    obtain ⟨e1, e2, e3, e4⟩ := p6 pl dr hs
    obtain ⟨r1, r2⟩ := q3 pl dr hs
    obtain ⟨s1, s2, s3, s4, -, -⟩ := spNet_some hs
    have hA := f.net s1 s2 s3 s4
    refine ⟨by rw [e1, r1], cn + 1, sNet σ cn pl dr, e2, e3, p3, hr, p2 80 e, hA, ?_, r2⟩
    exact e4.keep (q1 0 (by omega)).1 (fun r h3 h4 => (q1 r (by omega)).1) (fun r h3 h4 => (q1 r (by omega)).2) hA.1 hA.2.1
theorem pic.midN {xp xd v : Int32} {ad : Nat → Nat} {L1 : List Nat} {ad1 : Nat → Nat} {G1 : mG} (h : pic cn cw σ L G I J) (h1 : nN cn cw σ xp xd L ad G I J v L1 ad1 G1 I1 J1) : rSh L1 G1 ∧ rDt cn cw σ I1 J1 := by
  obtain ⟨a, b, c, d, e, f, g, k⟩ := h
  obtain ⟨p1, p2, p3, p4, -, -⟩ := h1
  exact ⟨d.grow p2 (p4 64 (by omega)).1, k.far f.2.1 (fun r h2 h3 => (p4 r (by omega)).2.1) (fun r h2 h3 => (p4 r (by omega)).2.2)⟩
/-- a walk made on both sides -/
theorem pic.walk {x v v2 : Int32} {ad : Nat → Nat} {L1 : List Nat} {ad1 : Nat → Nat} {G1 : mG} (h : pic cn cw σ L G I J) (h1 : hWk cn cw σ x L ad G I J v L1 ad1 G1 I1 J1) (h2 : rsW cn cw σ x v2 I1 I2 J1 J2) : I2 64 0 = v ∧ (v = 0 → J2 80 0 = v2.toInt64) ∧ ∃ cw' σ', pic cn cw' σ' L1 G1 I2 J2 := by
  obtain ⟨a, b, c, d, e, f, g, k⟩ := h
  obtain ⟨p1, p2, p3, p4, p5, p6⟩ := h1
  obtain ⟨q1, q2, q3⟩ := h2
  have hr : rSh L1 G1 := d.grow p2 (p4 64 (by omega)).1
  have h12 := f.2.1
  have h80 : J2 80 = J1 80 := (q1 80 (by omega)).2
  cases hs : ixN x cn with
  | none =>
    obtain ⟨e1, e2, e3, e4⟩ := p5 hs
    obtain ⟨r1, r2⟩ := q2 hs
    refine ⟨by rw [r1, e1], fun z => absurd z (by rw [e1]; decide), cw, σ, by rw [e2, e3]; exact a, by rw [e2]; exact b, p3, hr, p2 80 e, f, ?_, r2⟩
    exact e4.keep (q1 0 (by omega)).1 (fun r h3 h4 => (q1 r (by omega)).1) (fun r h3 h4 => (q1 r (by omega)).2) f.1 f.2.1
  | some i =>
    obtain ⟨e0, e1, e2⟩ := p6 i hs
    obtain ⟨r0, r1, r2⟩ := q3 i hs
    obtain ⟨hi, -⟩ := ixN_some hs (by have := f.1; omega)
    rcases Nat.lt_or_ge cw 12 with hc | hc
    · obtain ⟨y1, y2, y3, y4⟩ := e2 hc
      obtain ⟨z1, z2⟩ := r2 hc
      have hA := f.walk hi hc
      refine ⟨by rw [r0, e0], fun _ => by rw [h80, y1, z1]; exact (nI_l (by omega)).symm, cw + 1, sWalk σ i cw, y2, y3, p3, hr, p2 80 e, hA, ?_, z2⟩
      exact y4.keep (q1 0 (by omega)).1 (fun r h3 h4 => (q1 r (by omega)).1) (fun r h3 h4 => (q1 r (by omega)).2) hA.1 hA.2.1
    · obtain ⟨y1, y2, y3, y4⟩ := e1 (by omega)
      obtain ⟨z1, z2⟩ := r1 (by omega)
      refine ⟨by rw [r0, e0], fun _ => by rw [h80, y1, z1]; decide, cw, σ, by rw [y2, y3]; exact a, by rw [y2]; exact b, p3, hr, p2 80 e, f, ?_, z2⟩
      exact y4.keep (q1 0 (by omega)).1 (fun r h3 h4 => (q1 r (by omega)).1) (fun r h3 h4 => (q1 r (by omega)).2) f.1 f.2.1
theorem pic.midW {x v : Int32} {ad : Nat → Nat} {L1 : List Nat} {ad1 : Nat → Nat} {G1 : mG} (h : pic cn cw σ L G I J) (h1 : hWk cn cw σ x L ad G I J v L1 ad1 G1 I1 J1) : rSh L1 G1 ∧ rDt cn cw σ I1 J1 := by
  obtain ⟨a, b, c, d, e, f, g, k⟩ := h
  obtain ⟨p1, p2, p3, p4, -, -⟩ := h1
  exact ⟨d.grow p2 (p4 64 (by omega)).1, k.far f.2.1 (fun r h2 h3 => (p4 r (by omega)).2.1) (fun r h2 h3 => (p4 r (by omega)).2.2 (by omega))⟩
end PI
section LL
variable {p : Program} {l : Launch} {e : Env} {R : Room} {s : State} {m : MethodId} {args : Array Value} {below : List Frame} {meth : Method} {c : Code} {H : Heap} {locs : List Loc} {cells slots : Nat} {Q : State → Prop}
variable {cc : ByteArray} {pc : Nat} {ls : Array Slot} {rest : List Value} {own : String} {Ts : List Cond} {D : va_G} {cy : Nat → ClassId} {A : Nat → Prop} {L : List Nat} {ad : Nat → Nat} {G : mG} {I : mI} {J : mJ} {b Lx : Nat} {xs : Nat → Int32}
/-- the script, all along -/
def scr (b Lx : Nat) (xs : Nat → Int32) (A : Nat → Prop) (s : State) : Prop := va_X b Lx xs s s.heap ∧ b < s.heap.size ∧ ¬ A b ∧ Lx ≤ 3072
theorem l_sld (C : Cx p s m args c cc own Ts D cy A) (hX : scr b Lx xs A s) (hW : Wd D cy A s.heap H locs L ad G I J) {k : Nat} (hk : k < Lx) (hdg : decode cc pc = .ok (.iaload, 1))
    (kk : W p l e R s m args below meth c H locs cells slots Q (F0 m (pc + 1) ls (.int (xs k) :: rest))) : W p l e R s m args below meth c H locs cells slots Q (F0 m pc ls (.int (nI k) :: .ref b :: rest)) := by
  obtain ⟨h1, h2, h3, h4⟩ := hX
  refine va_sld C.1 C.2.1 h1 h2 h3 hW.2.2 (vp_in_nI hk (by omega)) hdg ?_
  rw [nI_clamp (by omega)]
  exact kk
theorem l_slen (C : Cx p s m args c cc own Ts D cy A) (hX : scr b Lx xs A s) (hW : Wd D cy A s.heap H locs L ad G I J) (hdg : decode cc pc = .ok (.arraylength, 1))
    (kk : W p l e R s m args below meth c H locs cells slots Q (F0 m (pc + 1) ls (.int (nI Lx) :: rest))) : W p l e R s m args below meth c H locs cells slots Q (F0 m pc ls (.ref b :: rest)) := by
  obtain ⟨h1, h2, h3, h4⟩ := hX
  exact va_slen C.1 C.2.1 h1 h2 h3 hW.2.2 hdg kk
end LL
theorem sw31 (x : Int32) : ∃ k, k < 32 ∧ x &&& nI 31 = nI k := by
  refine ⟨(x &&& nI 31).toBitVec.toNat, ?_, ?_⟩
  · have h : (x &&& nI 31).toBitVec = x.toBitVec &&& 31#32 := rfl
    rw [h, BitVec.toNat_and]
    exact Nat.lt_of_le_of_lt Nat.and_le_right (by decide)
  · refine Int32.toBitVec_inj.mp ?_
    show _ = BitVec.ofNat 32 _
    rw [BitVec.ofNat_toNat]
    simp
theorem gt6 {i Lx : Nat} (hi : i ≤ 3078) (hL : Lx ≤ 3072) : nI Lx - nI 6 < nI i ↔ Lx < i + 6 := by
  rw [Int32.lt_iff_toInt_lt, Int32.toInt_sub, nI_toInt (by omega), nI_toInt (by omega), nI_toInt (by omega), Int.bmod_eq_of_le (by omega) (by omega)]
  omega
section C3
variable {cn cw : Nat} {σ : Ab}
theorem c3_join (x xp xd xp2 xd2 : Int32) : (spJoin cn σ x xp xd xp2 xd2).1 < 3 := by
  unfold spJoin
  repeat' split
  all_goals (dsimp only; omega)
theorem c3_leads (x xp xd : Int32) : (spLeads cn σ x xp xd).1 < 3 := by
  unfold spLeads
  repeat' split
  all_goals (dsimp only; omega)
theorem c3_mark (x xp : Int32) (xb : Bool) : (spMark cn σ x xp xb).1 < 3 := by
  unfold spMark
  repeat' split
  all_goals (dsimp only; omega)
theorem c3_alike (x xp : Int32) : (spAlike cn σ x xp).1 < 3 := by
  unfold spAlike
  repeat' split
  all_goals (dsimp only; omega)
theorem c3_set (x xp xd xv : Int32) : (spSet cw σ x xp xd xv).1 < 3 := by
  unfold spSet
  repeat' split
  all_goals (dsimp only; omega)
theorem c3_spread (x xv : Int32) : (spSpread cw σ x xv).1 < 3 := by
  unfold spSpread
  repeat' split
  all_goals (dsimp only; omega)
theorem c3_step (x xn : Int32) : (spStep cw σ x xn).1 < 3 := by
  unfold spStep
  repeat' split
  all_goals (dsimp only; omega)
theorem c3_back (x xn : Int32) : (spBack cw σ x xn).1 < 3 := by
  unfold spBack
  repeat' split
  all_goals (dsimp only; omega)
theorem c3_at (x xp xd : Int32) : (spAt cw σ x xp xd).1 < 3 := by
  unfold spAt
  repeat' split
  all_goals (dsimp only; omega)
theorem c3_share (x xp : Int32) : (spShare cw σ x xp).1 < 3 := by
  unfold spShare
  repeat' split
  all_goals (dsimp only; omega)
theorem c3_of (x xw : Int32) : (spOf cw σ x xw).1 < 3 := by
  unfold spOf
  repeat' split
  all_goals (dsimp only; omega)
theorem c3_arrives (x xp xn : Int32) : (spArr cw σ x xp xn).1 < 3 := by
  unfold spArr
  repeat' split
  all_goals (dsimp only; omega)
theorem c3_returns (x xn : Int32) : (spRet cw σ x xn).1 < 3 := by
  unfold spRet
  repeat' split
  all_goals (dsimp only; omega)
theorem c3_best (x xn : Int32) : (spBest cw σ x xn).1 < 3 := by
  unfold spBest
  repeat' split
  all_goals (dsimp only; omega)
theorem c3_mean (x xp xn : Int32) : (spMean cw σ x xp xn).1 < 3 := by
  unfold spMean
  repeat' split
  all_goals (dsimp only; omega)
theorem c3_copy (x xv : Int32) : (spCopy cw σ x xv).1 < 3 := by
  unfold spCopy
  repeat' split
  all_goals (dsimp only; omega)
theorem c3_count (x : Int32) : (spCount cn cw σ x).1 < 3 := by
  unfold spCount
  repeat' split
  all_goals (dsimp only; omega)
end C3
theorem z3 {k : Nat} (h : k < 3) (hz : nI k = 0) : k = 0 := nz_z h hz
