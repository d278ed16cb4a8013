/-- the wave of one walk has become g; what else changes is the row 'next' alone -/
def blk (J J' : mJ) (w : Nat) (g : Nat → Int64) : Prop := (∀ r, r ≠ 72 → r ≠ 73 → J' r = J r) ∧ (∀ k, k < 48 → J' 72 (48 * w + k) = g k) ∧ ∀ v, v ≠ w → ∀ k, k < 48 → J' 72 (48 * v + k) = J 72 (48 * v + k)
theorem blk.rf {J : mJ} {w : Nat} {g : Nat → Int64} (h : ∀ k, k < 48 → J 72 (48 * w + k) = g k) : blk J J w g := ⟨fun _ _ _ => rfl, h, fun _ _ _ _ => rfl⟩
theorem blk.put {J J1 : mJ} {w : Nat} {g : Nat → Int64} (h : blk J J1 w g) {k idx : Nat} (hk : k < 48) (hi : idx = 48 * w + k) (x : Int64) : blk J (va_up J1 72 (vp_updL (J1 72) idx x)) w (vp_updL g k x) := by
  subst hi
  refine ⟨fun r h1 h2 => ?_, fun j hj => ?_, fun v hv j hj => ?_⟩
  · rw [va_up_ne _ _ h1]; exact h.1 r h1 h2
  · rw [va_up_self]
    dsimp only [vp_updL]
    by_cases e : j = k
    · rw [if_pos (by omega), if_pos e]
    · rw [if_neg (by omega), if_neg e]; exact h.2.1 j hj
  · rw [va_up_self]
    dsimp only [vp_updL]
    rw [if_neg (by omega)]
    exact h.2.2 v hv j hj
theorem blk.congr {J J1 : mJ} {w : Nat} {g g' : Nat → Int64} (h : blk J J1 w g) (e : ∀ k, k < 48 → g' k = g k) : blk J J1 w g' := ⟨h.1, fun k hk => (h.2.1 k hk).trans (e k hk).symm, h.2.2⟩
theorem blk.next {J J1 : mJ} {w : Nat} {g : Nat → Int64} (h : blk J J1 w g) (row : Nat → Int64) : blk J (va_up J1 73 row) w g := by
  refine ⟨fun r h1 h2 => ?_, fun j hj => ?_, fun v hv j hj => ?_⟩
  · rw [va_up_ne _ _ h2]; exact h.1 r h1 h2
  · rw [va_up_ne _ _ (by decide)]; exact h.2.1 j hj
  · rw [va_up_ne _ _ (by decide)]; exact h.2.2 v hv j hj
theorem blk.trans {J J1 J2 : mJ} {w : Nat} {g g2 : Nat → Int64} (h : blk J J1 w g) (h2 : blk J1 J2 w g2) : blk J J2 w g2 :=
  ⟨fun r a b => (h2.1 r a b).trans (h.1 r a b), h2.2.1, fun v hv k hk => (h2.2.2 v hv k hk).trans (h.2.2 v hv k hk)⟩
theorem cp_ld {J J1 : mJ} {a b d : Nat} {f : Nat → Int64} (hB : blk J J1 b (fun k => if k < d then f k else J 72 (48 * b + k))) (hf : ∀ k, k < 48 → J 72 (48 * a + k) = f k) (hd : d < 48) : J1 72 (48 * a + d) = f d := by
  by_cases hab : a = b
  · rw [hab, hB.2.1 d hd]
    dsimp only
    rw [if_neg (by omega), ← hab, hf d hd]
  · rw [hB.2.2 a hab d hd, hf d hd]
def sgnR (pl : Nat) (mk : Nat → Bool) (f : Nat → Int64) : Nat → Int64 := fun k => if k / 4 < pl ∧ mk (k / 4) = true then -(f k) else f k
theorem sc_ne {dr : Nat} (h : dr = 2 ∨ dr = 3 ∨ dr = 4) : ¬ scOf dr = 0 := by rcases h with rfl | rfl | rfl <;> decide
theorem lim_div {dr : Nat} (h : dr = 2 ∨ dr = 3 ∨ dr = 4) : (4611686018427387904 : Int64) / scOf dr = hvOf dr := by rcases h with rfl | rfl | rfl <;> decide
theorem turn_ge {a dr : Nat} {f : Nat → Int64} {k : Nat} (h : a * 4 ≤ k) : turnF a dr f k = f k := by
  unfold turnF
  rw [if_neg (by rw [dor_iff]; omega)]
theorem turn_two {dr a : Nat} (h2 : dr = 2) (f : Nat → Int64) (k : Nat) : turnF (a + 1) dr f k = vp_updL (vp_updL (turnF a dr f) (a * 4) (sumN f (a * 4) dr)) (a * 4 + 1) (f (a * 4) - f (a * 4 + 1)) k := by
  subst h2
  have hs : sumN f (a * 4) 2 = f (a * 4) + f (a * 4 + 1) := by
    show (0 + f (a * 4 + 0)) + f (a * 4 + 1) = _
    rw [Int64.zero_add]
    rfl
  rw [turn_s (Or.inl rfl), hs]
  dsimp only [vp_updL, turn1]
  by_cases h1 : k = a * 4 + 1
  · rw [if_pos (by omega), if_pos h1]
    show (if k % 4 = 0 then turnF a 2 f k + turnF a 2 f (k + 1) else turnF a 2 f (k - 1) - turnF a 2 f k) = _
    rw [if_neg (by omega), turn_ge (by omega), turn_ge (by omega), h1]
    rfl
  · rw [if_neg h1]
    by_cases h0 : k = a * 4
    · rw [if_pos (by omega), if_pos h0]
      show (if k % 4 = 0 then turnF a 2 f k + turnF a 2 f (k + 1) else turnF a 2 f (k - 1) - turnF a 2 f k) = _
      rw [if_pos (by omega), turn_ge (by omega), turn_ge (by omega), h0]
    · rw [if_neg h0, if_neg (by omega)]
abbrev rmX5_shareOf : Room := { frames := 0, cells := 0, slots := 0, locals := 0 }
set_option maxHeartbeats 4000000 in
set_option maxRecDepth 100000 in
theorem c_X5_shareOf (l : Launch) (D : va_G) (cy : Nat → ClassId) (L : List Nat) (ad : Nat → Nat) (G : mG) (I : mI) (J : mJ) (hS : rSh L G) (w : Nat) (hw : w < 13) (f : Nat → Int64) (hf : ∀ k, k < 48 → J 72 (48 * w + k) = f k) (q : Nat) (hq : q < 12) : pMet l yX5_shareOf wsX5_shareOf rmX5_shareOf D cy L ad G I J [.ref (ad 64), .int (nI w), .int (nI q)] (qL (fun v I' J' => v = sqAt f q ∧ I' = I ∧ J' = J) D cy L ad G) := by
  refine pMet.ofL (cc := cX5_shareOf) (maxL := 6) (by decide +kernel) rfl (Nat.le_of_ble_eq_true rfl) ?_
  intro p e R s m args below meth c A Q C hml hR hg ret hW ls hl
  subst hR
  have C : Cx p s m args c cX5_shareOf RX5 wsX5_shareOf D cy A := C
  have hx := C.1
  have hb := C.2.1
  have lk32 := C.2.2.2.1 (.fieldLink RX5 32 "WaveWalkModel" "wave" "[J") (by decide +kernel)
  have hinX5 : ∀ w ∈ wsX50, w ∈ wsX5_shareOf := by decide +kernel
  have hl : lv_has ls 6 [(0, .ref (ad 64)), (1, .int (nI w)), (2, .int (nI q))] := hl
  refine lv_lconst (v := 0) hx hb dX5_shareOf_0 (by decide) ?_
  refine lv_lstore_n (lv' := [(3, .long 0), (0, .ref (ad 64)), (1, .int (nI w)), (2, .int (nI q))]) hx hb dX5_shareOf_1 rfl hl (by decide) rfl (fun ls hl => ?_)
  refine lv_iconst (v := nI 0) hx hb dX5_shareOf_2 (by decide) ?_
  refine lv_istore (lv' := [(5, .int (nI 0)), (3, .long 0), (0, .ref (ad 64)), (1, .int (nI w)), (2, .int (nI q))]) hx hb dX5_shareOf_3 hl (by decide) rfl (fun ls hl => ?_)
  have lp5 : ∀ (nn : Nat) (d : Nat), (d ≤ 4) → (5 ≤ d + nn) → ∀ (H : Heap) (locs : List Loc), Wd D cy A s.heap H locs L ad G I J → ∀ (ls : Array Slot), lv_has ls 6 [(0, .ref (ad 64)), (1, .int (nI w)), (2, .int (nI q)), (3, .long (sqN f (q * 4) d)), (5, .int (nI d))] → W p l e rmX5_shareOf s m args below meth c H locs 0 0 Q (F0 m 5 ls []) := by
    intro nn
    induction nn with
    | zero => intros; exfalso; omega
    | succ nn ih5 =>
      intro d hd hfu H locs hW ls hl
      refine lv_iload hx hb dX5_shareOf_5 (lv_at hl 4 rfl) ?_
      refine lv_iconst (v := nI 4) hx hb dX5_shareOf_7 (by decide) ?_
      refine n_icmp_ge (tgt := 53) hx hb (by omega) (by omega) dX5_shareOf_8 (by decide) (fun hc_1 => ?_) (fun hc_1 => ?_)
      · skip
        refine lv_lload_n hx hb dX5_shareOf_53 rfl (lv_at hl 3 rfl) ?_
        exact ret _ _ _ _ _ _ _ _ _ (Nat.le_of_ble_eq_true rfl) (Nat.le_of_ble_eq_true rfl) hW ⟨by rw [show d = 4 by omega]; rfl, rfl, rfl⟩ dX5_shareOf_54
      · skip
        refine lv_lload_n hx hb dX5_shareOf_11 rfl (lv_at hl 3 rfl) ?_
        refine lv_aload_n hx hb dX5_shareOf_12 rfl (lv_at hl 0 rfl) ?_
        refine g_X5_10 C hinX5 hW (hS.1 64 (by omega) (by omega)) (by decide) (hS.2 10 (by omega) (by omega)) lk32 dX5_shareOf_13 ?_
        refine lv_bipush (v := nI 48) hx hb dX5_shareOf_16 (by decide) ?_
        refine lv_iload_n hx hb dX5_shareOf_18 rfl (lv_at hl 1 rfl) ?_
        refine n_imul hx hb dX5_shareOf_19 ?_
        refine lv_iconst (v := nI 4) hx hb dX5_shareOf_20 (by decide) ?_
        refine lv_iload_n hx hb dX5_shareOf_21 rfl (lv_at hl 2 rfl) ?_
        refine n_imul hx hb dX5_shareOf_22 ?_
        refine n_iadd hx hb dX5_shareOf_23 ?_
        refine lv_iload hx hb dX5_shareOf_24 (lv_at hl 4 rfl) ?_
        refine n_iadd hx hb dX5_shareOf_26 ?_
        refine p_lald C hW (hS.1 72 (by omega) (by omega)) (by decide) (k := ((48 * w) + (4 * q)) + d) rfl (by rw [show ln 72 = 624 by decide]; omega) dX5_shareOf_27 ?_
        refine w_top (y := .long (f (q * 4 + d))) (by rw [show ((48 * w) + (4 * q)) + d = 48 * w + (q * 4 + d) by omega, hf _ (by omega)]) ?_
        refine lv_aload_n hx hb dX5_shareOf_28 rfl (lv_at hl 0 rfl) ?_
        refine g_X5_10 C hinX5 hW (hS.1 64 (by omega) (by omega)) (by decide) (hS.2 10 (by omega) (by omega)) lk32 dX5_shareOf_29 ?_
        refine lv_bipush (v := nI 48) hx hb dX5_shareOf_32 (by decide) ?_
        refine lv_iload_n hx hb dX5_shareOf_34 rfl (lv_at hl 1 rfl) ?_
        refine n_imul hx hb dX5_shareOf_35 ?_
        refine lv_iconst (v := nI 4) hx hb dX5_shareOf_36 (by decide) ?_
        refine lv_iload_n hx hb dX5_shareOf_37 rfl (lv_at hl 2 rfl) ?_
        refine n_imul hx hb dX5_shareOf_38 ?_
        refine n_iadd hx hb dX5_shareOf_39 ?_
        refine lv_iload hx hb dX5_shareOf_40 (lv_at hl 4 rfl) ?_
        refine n_iadd hx hb dX5_shareOf_42 ?_
        refine p_lald C hW (hS.1 72 (by omega) (by omega)) (by decide) (k := ((48 * w) + (4 * q)) + d) rfl (by rw [show ln 72 = 624 by decide]; omega) dX5_shareOf_43 ?_
        refine w_top (y := .long (f (q * 4 + d))) (by rw [show ((48 * w) + (4 * q)) + d = 48 * w + (q * 4 + d) by omega, hf _ (by omega)]) ?_
        refine lv_lmul hx hb dX5_shareOf_44 ?_
        refine lv_ladd hx hb dX5_shareOf_45 ?_
        refine lv_lstore_n (lv' := [(3, .long ((sqN f (q * 4) d) + ((f (q * 4 + d)) * (f (q * 4 + d))))), (0, .ref (ad 64)), (1, .int (nI w)), (2, .int (nI q)), (5, .int (nI d))]) hx hb dX5_shareOf_46 rfl hl (by decide) rfl (fun ls hl => ?_)
        refine lv_iinc (v := nI (d + 1)) (lv' := [(5, .int (nI (d + 1))), (3, .long ((sqN f (q * 4) d) + ((f (q * 4 + d)) * (f (q * 4 + d))))), (0, .ref (ad 64)), (1, .int (nI w)), (2, .int (nI q))]) hx hb dX5_shareOf_47 hl (k := 4) rfl (nI_inc _) (by decide) rfl (fun ls hl => ?_)
        refine lv_goto (tgt := 5) hx hb dX5_shareOf_50 (by decide) ?_
        exact ih5 (d + 1) (by omega) (by omega) _ _ hW ls (lv_sub hl [2, 3, 4, 1, 0] rfl)
  exact lp5 5 0 (by omega) (by omega) _ _ hW ls (lv_sub hl [2, 3, 4, 1, 0] rfl)
abbrev rmX5_weight : Room := { frames := 1, cells := 0, slots := 0, locals := 25 }
set_option maxHeartbeats 4000000 in
set_option maxRecDepth 100000 in
theorem c_X5_weight (l : Launch) (D : va_G) (cy : Nat → ClassId) (L : List Nat) (ad : Nat → Nat) (G : mG) (I : mI) (J : mJ) (hS : rSh L G) (w : Nat) (hw : w < 13) (f : Nat → Int64) (hf : ∀ k, k < 48 → J 72 (48 * w + k) = f k) : pMet l yX5_weight wsX5_weight rmX5_weight D cy L ad G I J [.ref (ad 64), .int (nI w)] (qL (fun v I' J' => v = sqs f ∧ I' = I ∧ J' = J) D cy L ad G) := by
  refine pMet.ofL (cc := cX5_weight) (maxL := 5) (by decide +kernel) rfl (Nat.le_of_ble_eq_true rfl) ?_
  intro p e R s m args below meth c A Q C hml hR hg ret hW ls hl
  subst hR
  have C : Cx p s m args c cX5_weight RX5 wsX5_weight D cy A := C
  have hx := C.1
  have hb := C.2.1
  have hl : lv_has ls 5 [(0, .ref (ad 64)), (1, .int (nI w))] := hl
  refine lv_lconst (v := 0) hx hb dX5_weight_0 (by decide) ?_
  refine lv_lstore_n (lv' := [(2, .long 0), (0, .ref (ad 64)), (1, .int (nI w))]) hx hb dX5_weight_1 rfl hl (by decide) rfl (fun ls hl => ?_)
  refine lv_iconst (v := nI 0) hx hb dX5_weight_2 (by decide) ?_
  refine lv_istore (lv' := [(4, .int (nI 0)), (2, .long 0), (0, .ref (ad 64)), (1, .int (nI w))]) hx hb dX5_weight_3 hl (by decide) rfl (fun ls hl => ?_)
  have lp5 : ∀ (nn : Nat) (d : Nat), (d ≤ 12) → (13 ≤ d + nn) → ∀ (H : Heap) (locs : List Loc), Wd D cy A s.heap H locs L ad G I J → ∀ (ls : Array Slot), lv_has ls 5 [(0, .ref (ad 64)), (1, .int (nI w)), (2, .long (sqA f d)), (4, .int (nI d))] → W p l e rmX5_weight s m args below meth c H locs 0 0 Q (F0 m 5 ls []) := by
    intro nn
    induction nn with
    | zero => intros; exfalso; omega
    | succ nn ih5 =>
      intro d hd hfu H locs hW ls hl
      refine lv_iload hx hb dX5_weight_5 (lv_at hl 3 rfl) ?_
      refine lv_bipush (v := nI 12) hx hb dX5_weight_7 (by decide) ?_
      refine n_icmp_ge (tgt := 28) hx hb (by omega) (by omega) dX5_weight_9 (by decide) (fun hc_1 => ?_) (fun hc_1 => ?_)
      · skip
        refine lv_lload_n hx hb dX5_weight_28 rfl (lv_at hl 2 rfl) ?_
        exact ret _ _ _ _ _ _ _ _ _ (Nat.le_of_ble_eq_true rfl) (Nat.le_of_ble_eq_true rfl) hW ⟨by rw [show d = 12 by omega]; rfl, rfl, rfl⟩ dX5_weight_29
      · skip
        refine lv_lload_n hx hb dX5_weight_12 rfl (lv_at hl 2 rfl) ?_
        refine lv_aload_n hx hb dX5_weight_13 rfl (lv_at hl 0 rfl) ?_
        refine lv_iload_n hx hb dX5_weight_14 rfl (lv_at hl 1 rfl) ?_
        refine lv_iload hx hb dX5_weight_15 (lv_at hl 3 rfl) ?_
        refine p_cVl C hml hg hW (c_X5_shareOf l D cy L ad G I J hS w hw f hf d (by omega)) (cwV 2 C.2.2.2.1 gX5_weight_X5_shareOf rfl rfl rfl (by decide +kernel) ⟨Nat.le_of_ble_eq_true rfl, Nat.le_of_ble_eq_true rfl⟩) (p_recv C hW (hS.1 64 (by omega) (by omega)) (pF_5 (by decide)) rfl) rfl hl.1 rfl (Nat.le_of_ble_eq_true rfl) dX5_weight_17 (Nat.le_of_ble_eq_true rfl) (Nat.le_of_ble_eq_true rfl) (fun v2 I3 J4 H locs hp hW => ?_)
        obtain ⟨hv, hI, hJ⟩ := hp
        subst v2
        subst I3
        subst J4
        refine lv_ladd hx hb dX5_weight_20 ?_
        refine lv_lstore_n (lv' := [(2, .long ((sqA f d) + (sqAt f d))), (0, .ref (ad 64)), (1, .int (nI w)), (4, .int (nI d))]) hx hb dX5_weight_21 rfl hl (by decide) rfl (fun ls hl => ?_)
        refine lv_iinc (v := nI (d + 1)) (lv' := [(4, .int (nI (d + 1))), (2, .long ((sqA f d) + (sqAt f d))), (0, .ref (ad 64)), (1, .int (nI w))]) hx hb dX5_weight_22 hl (k := 3) rfl (nI_inc _) (by decide) rfl (fun ls hl => ?_)
        refine lv_goto (tgt := 5) hx hb dX5_weight_25 (by decide) ?_
        exact ih5 (d + 1) (by omega) (by omega) _ _ hW ls (lv_sub hl [2, 3, 1, 0] rfl)
  exact lp5 13 0 (by omega) (by omega) _ _ hW ls (lv_sub hl [2, 3, 1, 0] rfl)
abbrev rmX5_goesOn : Room := { frames := 2, cells := 0, slots := 0, locals := 50 }
set_option maxHeartbeats 4000000 in
set_option maxRecDepth 100000 in
theorem c_X5_goesOn (l : Launch) (D : va_G) (cy : Nat → ClassId) (L : List Nat) (ad : Nat → Nat) (G : mG) (I : mI) (J : mJ) (hS : rSh L G) (w : Nat) (hw : w < 13) (f : Nat → Int64) (hf : ∀ k, k < 48 → J 72 (48 * w + k) = f k) (n dr : Nat) (hno : I 70 w = nI n) (hn6 : n < 6) (hdr : I 66 n = nI dr) (hd4 : dr = 2 ∨ dr = 3 ∨ dr = 4) (t0 : Nat) (htm : I 71 w = nI t0) (ht6 : t0 ≤ 60) : pMet l yX5_goesOn wsX5_goesOn rmX5_goesOn D cy L ad G I J [.ref (ad 64), .int (nI w)] (qI (fun v I' J' => v = bI (decide (t0 < 60 ∧ sqs f ≤ hvOf dr)) ∧ I' = I ∧ J' = J) D cy L ad G) := by
  refine pMet.ofZ (cc := cX5_goesOn) (maxL := 2) (by decide +kernel) rfl (Nat.le_of_ble_eq_true rfl) ?_
  intro p e R s m args below meth c A Q C hml hR hg ret hW ls hl
  subst hR
  have C : Cx p s m args c cX5_goesOn RX5 wsX5_goesOn D cy A := C
  have hx := C.1
  have hb := C.2.1
  have lk29 := C.2.2.2.1 (.fieldLink RX5 29 "WaveWalkModel" "time" "[I") (by decide +kernel)
  have hinX5 : ∀ w ∈ wsX50, w ∈ wsX5_goesOn := by decide +kernel
  have ck97 := C.2.2.2.1 (.constantLong RX5 97 (4611686018427387904)) (by decide +kernel)
  have hl : lv_has ls 2 [(0, .ref (ad 64)), (1, .int (nI w))] := hl
  refine lv_aload_n hx hb dX5_goesOn_0 rfl (lv_at hl 0 rfl) ?_
  refine g_X5_9 C hinX5 hW (hS.1 64 (by omega) (by omega)) (by decide) (hS.2 9 (by omega) (by omega)) lk29 dX5_goesOn_1 ?_
  refine lv_iload_n hx hb dX5_goesOn_4 rfl (lv_at hl 1 rfl) ?_
  refine p_iald C hW (hS.1 71 (by omega) (by omega)) (by decide) (k := w) rfl (by rw [show ln 71 = 13 by decide]; omega) dX5_goesOn_5 ?_
  refine w_top (y := .int (nI t0)) (by rw [htm]) ?_
  refine lv_bipush (v := nI 60) hx hb dX5_goesOn_6 (by decide) ?_
  refine n_icmp_ge (tgt := 34) hx hb (by omega) (by omega) dX5_goesOn_8 (by decide) (fun hc_1 => ?_) (fun hc_1 => ?_)
  · skip
    refine lv_iconst (v := nI 0) hx hb dX5_goesOn_34 (by decide) ?_
    exact ret _ _ _ _ _ _ _ _ _ (Nat.le_of_ble_eq_true rfl) (Nat.le_of_ble_eq_true rfl) hW ⟨by rw [decide_eq_false (fun z => by omega)]; rfl, rfl, rfl⟩ (by decide) dX5_goesOn_35
  · skip
    refine lv_aload_n hx hb dX5_goesOn_11 rfl (lv_at hl 0 rfl) ?_
    refine lv_iload_n hx hb dX5_goesOn_12 rfl (lv_at hl 1 rfl) ?_
    refine p_cVl C hml hg hW (c_X5_weight l D cy L ad G I J hS w hw f hf) (cwV 1 C.2.2.2.1 gX5_goesOn_X5_weight rfl rfl rfl (by decide +kernel) ⟨Nat.le_of_ble_eq_true rfl, Nat.le_of_ble_eq_true rfl⟩) (p_recv C hW (hS.1 64 (by omega) (by omega)) (pF_5 (by decide)) rfl) rfl hl.1 rfl (Nat.le_of_ble_eq_true rfl) dX5_goesOn_13 (Nat.le_of_ble_eq_true rfl) (Nat.le_of_ble_eq_true rfl) (fun v2 I3 J4 H locs hp hW => ?_)
    obtain ⟨hv, hI, hJ⟩ := hp
    subst v2
    subst I3
    subst J4
    refine lv_ldc2 hx hb C.2.2.1 ck97 dX5_goesOn_16 ?_
    refine lv_aload_n hx hb dX5_goesOn_19 rfl (lv_at hl 0 rfl) ?_
    refine lv_iload_n hx hb dX5_goesOn_20 rfl (lv_at hl 1 rfl) ?_
    refine p_cVi C hml hg hW (c_X5_scale l D cy L ad G I J hS w n dr hw hno hn6 hdr hd4) (cwV 1 C.2.2.2.1 gX5_goesOn_X5_scale rfl rfl rfl (by decide +kernel) ⟨Nat.le_of_ble_eq_true rfl, Nat.le_of_ble_eq_true rfl⟩) (p_recv C hW (hS.1 64 (by omega) (by omega)) (pF_5 (by decide)) rfl) rfl hl.1 rfl (Nat.le_of_ble_eq_true rfl) dX5_goesOn_21 (Nat.le_of_ble_eq_true rfl) (Nat.le_of_ble_eq_true rfl) (fun v5 I6 J7 H locs hp hW => ?_)
    obtain ⟨hv, hI, hJ⟩ := hp
    subst v5
    subst I6
    subst J7
    refine lv_i2l (v := scOf dr) hx hb dX5_goesOn_24 (sc_l hd4) ?_
    refine lv_ldiv hx hb dX5_goesOn_25 (sc_ne hd4) ?_
    refine w_top (y := .long (hvOf dr)) (by rw [lim_div hd4]) ?_
    refine l_gt (tgt := 34) hx hb dX5_goesOn_26 dX5_goesOn_27 (by decide) (fun hc_8 => ?_) (fun hc_8 => ?_)
    · skip
      refine lv_iconst (v := nI 0) hx hb dX5_goesOn_34 (by decide) ?_
      exact ret _ _ _ _ _ _ _ _ _ (Nat.le_of_ble_eq_true rfl) (Nat.le_of_ble_eq_true rfl) hW ⟨by rw [decide_eq_false (fun z => Int64.not_le.mpr hc_8 z.2)]; rfl, rfl, rfl⟩ (by decide) dX5_goesOn_35
    · skip
      refine lv_iconst (v := nI 1) hx hb dX5_goesOn_30 (by decide) ?_
      refine lv_goto (tgt := 35) hx hb dX5_goesOn_31 (by decide) ?_
      exact ret _ _ _ _ _ _ _ _ _ (Nat.le_of_ble_eq_true rfl) (Nat.le_of_ble_eq_true rfl) hW ⟨by rw [decide_eq_true ⟨hc_1, Int64.not_lt.mp hc_8⟩]; rfl, rfl, rfl⟩ (by decide) dX5_goesOn_35
abbrev rmX5_marked : Room := { frames := 1, cells := 0, slots := 0, locals := 25 }
set_option maxHeartbeats 4000000 in
set_option maxRecDepth 100000 in
theorem c_X5_marked (l : Launch) (D : va_G) (cy : Nat → ClassId) (L : List Nat) (ad : Nat → Nat) (G : mG) (I : mI) (J : mJ) (hS : rSh L G) (w : Nat) (hw : w < 13) (f : Nat → Int64) (hf : ∀ k, k < 48 → J 72 (48 * w + k) = f k) (n pl : Nat) (hno : I 70 w = nI n) (hn6 : n < 6) (hpl : I 65 n = nI pl) (hp12 : pl ≤ 12) (mk : Nat → Bool) (hmk : ∀ c, c < 12 → I 68 (12 * n + c) = bI (mk c)) : pMet l yX5_marked wsX5_marked rmX5_marked D cy L ad G I J [.ref (ad 64), .int (nI w)] (qL (fun v I' J' => v = sqM f mk pl ∧ I' = I ∧ J' = J) D cy L ad G) := by
  refine pMet.ofL (cc := cX5_marked) (maxL := 5) (by decide +kernel) rfl (Nat.le_of_ble_eq_true rfl) ?_
  intro p e R s m args below meth c A Q C hml hR hg ret hW ls hl
  subst hR
  have C : Cx p s m args c cX5_marked RX5 wsX5_marked D cy A := C
  have hx := C.1
  have hb := C.2.1
  have lk7 := C.2.2.2.1 (.fieldLink RX5 7 "WaveWalkModel" "places" "[I") (by decide +kernel)
  have lk19 := C.2.2.2.1 (.fieldLink RX5 19 "WaveWalkModel" "isMarked" "[Z") (by decide +kernel)
  have lk26 := C.2.2.2.1 (.fieldLink RX5 26 "WaveWalkModel" "netOf" "[I") (by decide +kernel)
  have hinX5 : ∀ w ∈ wsX50, w ∈ wsX5_marked := by decide +kernel
  have hl : lv_has ls 5 [(0, .ref (ad 64)), (1, .int (nI w))] := hl
  refine lv_lconst (v := 0) hx hb dX5_marked_0 (by decide) ?_
  refine lv_lstore_n (lv' := [(2, .long 0), (0, .ref (ad 64)), (1, .int (nI w))]) hx hb dX5_marked_1 rfl hl (by decide) rfl (fun ls hl => ?_)
  refine lv_iconst (v := nI 0) hx hb dX5_marked_2 (by decide) ?_
  refine lv_istore (lv' := [(4, .int (nI 0)), (2, .long 0), (0, .ref (ad 64)), (1, .int (nI w))]) hx hb dX5_marked_3 hl (by decide) rfl (fun ls hl => ?_)
  have lp5 : ∀ (nn : Nat) (d : Nat), (d ≤ pl) → (pl + 1 ≤ d + nn) → ∀ (H : Heap) (locs : List Loc), Wd D cy A s.heap H locs L ad G I J → ∀ (ls : Array Slot), lv_has ls 5 [(0, .ref (ad 64)), (1, .int (nI w)), (2, .long (sqM f mk d)), (4, .int (nI d))] → W p l e rmX5_marked s m args below meth c H locs 0 0 Q (F0 m 5 ls []) := by
    intro nn
    induction nn with
    | zero => intros; exfalso; omega
    | succ nn ih5 =>
      intro d hd hfu H locs hW ls hl
      refine lv_iload hx hb dX5_marked_5 (lv_at hl 3 rfl) ?_
      refine lv_aload_n hx hb dX5_marked_7 rfl (lv_at hl 0 rfl) ?_
      refine g_X5_3 C hinX5 hW (hS.1 64 (by omega) (by omega)) (by decide) (hS.2 3 (by omega) (by omega)) lk7 dX5_marked_8 ?_
      refine lv_aload_n hx hb dX5_marked_11 rfl (lv_at hl 0 rfl) ?_
      refine g_X5_8 C hinX5 hW (hS.1 64 (by omega) (by omega)) (by decide) (hS.2 8 (by omega) (by omega)) lk26 dX5_marked_12 ?_
      refine lv_iload_n hx hb dX5_marked_15 rfl (lv_at hl 1 rfl) ?_
      refine p_iald C hW (hS.1 70 (by omega) (by omega)) (by decide) (k := w) rfl (by rw [show ln 70 = 13 by decide]; omega) dX5_marked_16 ?_
      refine w_top (y := .int (nI n)) (by rw [hno]) ?_
      refine p_iald C hW (hS.1 65 (by omega) (by omega)) (by decide) (k := n) rfl (by rw [show ln 65 = 6 by decide]; omega) dX5_marked_17 ?_
      refine w_top (y := .int (nI pl)) (by rw [hpl]) ?_
      refine n_icmp_ge (tgt := 57) hx hb (by omega) (by omega) dX5_marked_18 (by decide) (fun hc_1 => ?_) (fun hc_1 => ?_)
      · skip
        refine lv_lload_n hx hb dX5_marked_57 rfl (lv_at hl 2 rfl) ?_
        exact ret _ _ _ _ _ _ _ _ _ (Nat.le_of_ble_eq_true rfl) (Nat.le_of_ble_eq_true rfl) hW ⟨by rw [show d = pl by omega], rfl, rfl⟩ dX5_marked_58
      · skip
        refine lv_aload_n hx hb dX5_marked_21 rfl (lv_at hl 0 rfl) ?_
        refine g_X5_6 C hinX5 hW (hS.1 64 (by omega) (by omega)) (by decide) (hS.2 6 (by omega) (by omega)) lk19 dX5_marked_22 ?_
        refine lv_bipush (v := nI 12) hx hb dX5_marked_25 (by decide) ?_
        refine lv_aload_n hx hb dX5_marked_27 rfl (lv_at hl 0 rfl) ?_
        refine g_X5_8 C hinX5 hW (hS.1 64 (by omega) (by omega)) (by decide) (hS.2 8 (by omega) (by omega)) lk26 dX5_marked_28 ?_
        refine lv_iload_n hx hb dX5_marked_31 rfl (lv_at hl 1 rfl) ?_
        refine p_iald C hW (hS.1 70 (by omega) (by omega)) (by decide) (k := w) rfl (by rw [show ln 70 = 13 by decide]; omega) dX5_marked_32 ?_
        refine w_top (y := .int (nI n)) (by rw [hno]) ?_
        refine n_imul hx hb dX5_marked_33 ?_
        refine lv_iload hx hb dX5_marked_34 (lv_at hl 3 rfl) ?_
        refine n_iadd hx hb dX5_marked_36 ?_
        refine p_zald C hW (hS.1 68 (by omega) (by omega)) (by decide) (k := (12 * n) + d) rfl (by rw [show ln 68 = 72 by decide]; omega) dX5_marked_37 ?_
        refine w_top (y := .int (bI (mk d))) (by rw [hmk _ (by omega)]) ?_
        refine b_if_eq (tgt := 51) hx hb dX5_marked_38 (by decide) (fun hc_2 => ?_) (fun hc_2 => ?_)
        · skip
          refine lv_iinc (v := nI (d + 1)) (lv' := [(4, .int (nI (d + 1))), (0, .ref (ad 64)), (1, .int (nI w)), (2, .long (sqM f mk d))]) hx hb dX5_marked_51 hl (k := 3) rfl (nI_inc _) (by decide) rfl (fun ls hl => ?_)
          refine lv_goto (tgt := 5) hx hb dX5_marked_54 (by decide) ?_
          have e2 : sqM f mk (d + 1) = sqM f mk d := by rw [sqM]; simp [hc_2]
          rw [← e2] at hl
          exact ih5 (d + 1) (by omega) (by omega) _ _ hW ls (lv_sub hl [1, 2, 3, 0] rfl)
        · skip
          refine lv_lload_n hx hb dX5_marked_41 rfl (lv_at hl 2 rfl) ?_
          refine lv_aload_n hx hb dX5_marked_42 rfl (lv_at hl 0 rfl) ?_
          refine lv_iload_n hx hb dX5_marked_43 rfl (lv_at hl 1 rfl) ?_
          refine lv_iload hx hb dX5_marked_44 (lv_at hl 3 rfl) ?_
          refine p_cVl C hml hg hW (c_X5_shareOf l D cy L ad G I J hS w hw f hf d (by omega)) (cwV 2 C.2.2.2.1 gX5_marked_X5_shareOf rfl rfl rfl (by decide +kernel) ⟨Nat.le_of_ble_eq_true rfl, Nat.le_of_ble_eq_true rfl⟩) (p_recv C hW (hS.1 64 (by omega) (by omega)) (pF_5 (by decide)) rfl) rfl hl.1 rfl (Nat.le_of_ble_eq_true rfl) dX5_marked_46 (Nat.le_of_ble_eq_true rfl) (Nat.le_of_ble_eq_true rfl) (fun v3 I4 J5 H locs hp hW => ?_)
          obtain ⟨hv, hI, hJ⟩ := hp
          subst v3
          subst I4
          subst J5
          refine lv_ladd hx hb dX5_marked_49 ?_
          refine lv_lstore_n (lv' := [(2, .long ((sqM f mk d) + (sqAt f d))), (0, .ref (ad 64)), (1, .int (nI w)), (4, .int (nI d))]) hx hb dX5_marked_50 rfl hl (by decide) rfl (fun ls hl => ?_)
          refine lv_iinc (v := nI (d + 1)) (lv' := [(4, .int (nI (d + 1))), (2, .long ((sqM f mk d) + (sqAt f d))), (0, .ref (ad 64)), (1, .int (nI w))]) hx hb dX5_marked_51 hl (k := 3) rfl (nI_inc _) (by decide) rfl (fun ls hl => ?_)
          refine lv_goto (tgt := 5) hx hb dX5_marked_54 (by decide) ?_
          have e2 : sqM f mk (d + 1) = (sqM f mk d) + (sqAt f d) := by rw [sqM]; simp [hc_2]
          rw [← e2] at hl
          exact ih5 (d + 1) (by omega) (by omega) _ _ hW ls (lv_sub hl [2, 3, 1, 0] rfl)
  exact lp5 (pl + 1) 0 (by omega) (by omega) _ _ hW ls (lv_sub hl [2, 3, 1, 0] rfl)
abbrev rmX5_signs : Room := { frames := 0, cells := 0, slots := 0, locals := 0 }
set_option maxHeartbeats 4000000 in
set_option maxRecDepth 100000 in
theorem c_X5_signs (l : Launch) (D : va_G) (cy : Nat → ClassId) (L : List Nat) (ad : Nat → Nat) (G : mG) (I : mI) (J : mJ) (hS : rSh L G) (w : Nat) (hw : w < 13) (f : Nat → Int64) (hf : ∀ k, k < 48 → J 72 (48 * w + k) = f k) (n pl : Nat) (hno : I 70 w = nI n) (hn6 : n < 6) (hpl : I 65 n = nI pl) (hp12 : pl ≤ 12) (mk : Nat → Bool) (hmk : ∀ c, c < 12 → I 68 (12 * n + c) = bI (mk c)) : pMet l yX5_signs wsX5_signs rmX5_signs D cy L ad G I J [.ref (ad 64), .int (nI w)] (qV (fun I' J' => I' = I ∧ blk J J' w (sgnR pl mk f)) D cy L ad G) := by
  refine pMet.ofV (cc := cX5_signs) (maxL := 4) (by decide +kernel) rfl (Nat.le_of_ble_eq_true rfl) ?_
  intro p e R s m args below meth c A Q C hml hR hg ret hW ls hl
  subst hR
  have C : Cx p s m args c cX5_signs RX5 wsX5_signs D cy A := C
  have hx := C.1
  have hb := C.2.1
  have lk7 := C.2.2.2.1 (.fieldLink RX5 7 "WaveWalkModel" "places" "[I") (by decide +kernel)
  have lk19 := C.2.2.2.1 (.fieldLink RX5 19 "WaveWalkModel" "isMarked" "[Z") (by decide +kernel)
  have lk26 := C.2.2.2.1 (.fieldLink RX5 26 "WaveWalkModel" "netOf" "[I") (by decide +kernel)
  have lk32 := C.2.2.2.1 (.fieldLink RX5 32 "WaveWalkModel" "wave" "[J") (by decide +kernel)
  have hinX5 : ∀ w ∈ wsX50, w ∈ wsX5_signs := by decide +kernel
  have hl : lv_has ls 4 [(0, .ref (ad 64)), (1, .int (nI w))] := hl
  refine lv_iconst (v := nI 0) hx hb dX5_signs_0 (by decide) ?_
  refine lv_istore_n (lv' := [(2, .int (nI 0)), (0, .ref (ad 64)), (1, .int (nI w))]) hx hb dX5_signs_1 rfl hl (by decide) rfl (fun ls hl => ?_)
  have lp2 : ∀ (nn : Nat) (a : Nat) (J1 : mJ), (a ≤ pl) → (pl + 1 ≤ a + nn) → (blk J J1 w (fun k => if ((k / 4 < a ∨ (k / 4 = a ∧ k % 4 < 0)) ∧ mk (k / 4) = true) then -(f k) else f k)) → ∀ (H : Heap) (locs : List Loc), Wd D cy A s.heap H locs L ad G I J1 → ∀ (ls : Array Slot), lv_has ls 4 [(0, .ref (ad 64)), (1, .int (nI w)), (2, .int (nI a))] → W p l e rmX5_signs s m args below meth c H locs 0 0 Q (F0 m 2 ls []) := by
    intro nn
    induction nn with
    | zero => intros; exfalso; omega
    | succ nn ih2 =>
      intro a J1 ha hfu hB H locs hW ls hl
      refine lv_iload_n hx hb dX5_signs_2 rfl (lv_at hl 2 rfl) ?_
      refine lv_aload_n hx hb dX5_signs_3 rfl (lv_at hl 0 rfl) ?_
      refine g_X5_3 C hinX5 hW (hS.1 64 (by omega) (by omega)) (by decide) (hS.2 3 (by omega) (by omega)) lk7 dX5_signs_4 ?_
      refine lv_aload_n hx hb dX5_signs_7 rfl (lv_at hl 0 rfl) ?_
      refine g_X5_8 C hinX5 hW (hS.1 64 (by omega) (by omega)) (by decide) (hS.2 8 (by omega) (by omega)) lk26 dX5_signs_8 ?_
      refine lv_iload_n hx hb dX5_signs_11 rfl (lv_at hl 1 rfl) ?_
      refine p_iald C hW (hS.1 70 (by omega) (by omega)) (by decide) (k := w) rfl (by rw [show ln 70 = 13 by decide]; omega) dX5_signs_12 ?_
      refine w_top (y := .int (nI n)) (by rw [hno]) ?_
      refine p_iald C hW (hS.1 65 (by omega) (by omega)) (by decide) (k := n) rfl (by rw [show ln 65 = 6 by decide]; omega) dX5_signs_13 ?_
      refine w_top (y := .int (nI pl)) (by rw [hpl]) ?_
      refine n_icmp_ge (tgt := 86) hx hb (by omega) (by omega) dX5_signs_14 (by decide) (fun hc_1 => ?_) (fun hc_1 => ?_)
      · skip
        exact ret _ _ _ _ _ _ _ _ (Nat.le_of_ble_eq_true rfl) (Nat.le_of_ble_eq_true rfl) hW ⟨rfl, hB.congr (fun k hk => by unfold sgnR; by_cases hc : k / 4 < pl ∧ mk (k / 4) = true; rw [if_pos hc, if_pos ⟨by omega, hc.2⟩]; rw [if_neg hc, if_neg (fun z => hc ⟨by omega, z.2⟩)])⟩ dX5_signs_86
      · skip
        refine lv_iconst (v := nI 0) hx hb dX5_signs_17 (by decide) ?_
        refine lv_istore_n (lv' := [(3, .int (nI 0)), (0, .ref (ad 64)), (1, .int (nI w)), (2, .int (nI a))]) hx hb dX5_signs_18 rfl hl (by decide) rfl (fun ls hl => ?_)
        have lp19 : ∀ (nn : Nat) (b : Nat) (J2 : mJ), (b ≤ 4) → (5 ≤ b + nn) → (blk J J2 w (fun k => if ((k / 4 < a ∨ (k / 4 = a ∧ k % 4 < b)) ∧ mk (k / 4) = true) then -(f k) else f k)) → ∀ (H : Heap) (locs : List Loc), Wd D cy A s.heap H locs L ad G I J2 → ∀ (ls : Array Slot), lv_has ls 4 [(0, .ref (ad 64)), (1, .int (nI w)), (2, .int (nI a)), (3, .int (nI b))] → W p l e rmX5_signs s m args below meth c H locs 0 0 Q (F0 m 19 ls []) := by
          intro nn
          induction nn with
          | zero => intros; exfalso; omega
          | succ nn ih19 =>
            intro b J2 hb4 hfu2 hB2 H locs hW ls hl
            refine lv_iload_n hx hb dX5_signs_19 rfl (lv_at hl 3 rfl) ?_
            refine lv_iconst (v := nI 4) hx hb dX5_signs_20 (by decide) ?_
            refine n_icmp_ge (tgt := 80) hx hb (by omega) (by omega) dX5_signs_21 (by decide) (fun hc_2 => ?_) (fun hc_2 => ?_)
            · skip
              refine lv_iinc (v := nI (a + 1)) (lv' := [(2, .int (nI (a + 1))), (0, .ref (ad 64)), (1, .int (nI w)), (3, .int (nI b))]) hx hb dX5_signs_80 hl (k := 2) rfl (nI_inc _) (by decide) rfl (fun ls hl => ?_)
              refine lv_goto (tgt := 2) hx hb dX5_signs_83 (by decide) ?_
              exact ih2 (a + 1) J2 (by omega) (by omega) (hB2.congr (fun k hk => by by_cases hc : k / 4 < a + 1 ∧ mk (k / 4) = true; rw [if_pos ⟨by omega, hc.2⟩, if_pos ⟨by omega, hc.2⟩]; rw [if_neg (fun z => hc ⟨by omega, z.2⟩), if_neg (fun z => hc ⟨by omega, z.2⟩)])) _ _ hW ls (lv_sub hl [1, 2, 0] rfl)
            · skip
              refine lv_aload_n hx hb dX5_signs_24 rfl (lv_at hl 0 rfl) ?_
              refine g_X5_6 C hinX5 hW (hS.1 64 (by omega) (by omega)) (by decide) (hS.2 6 (by omega) (by omega)) lk19 dX5_signs_25 ?_
              refine lv_bipush (v := nI 12) hx hb dX5_signs_28 (by decide) ?_
              refine lv_aload_n hx hb dX5_signs_30 rfl (lv_at hl 0 rfl) ?_
              refine g_X5_8 C hinX5 hW (hS.1 64 (by omega) (by omega)) (by decide) (hS.2 8 (by omega) (by omega)) lk26 dX5_signs_31 ?_
              refine lv_iload_n hx hb dX5_signs_34 rfl (lv_at hl 1 rfl) ?_
              refine p_iald C hW (hS.1 70 (by omega) (by omega)) (by decide) (k := w) rfl (by rw [show ln 70 = 13 by decide]; omega) dX5_signs_35 ?_
              refine w_top (y := .int (nI n)) (by rw [hno]) ?_
              refine n_imul hx hb dX5_signs_36 ?_
              refine lv_iload_n hx hb dX5_signs_37 rfl (lv_at hl 2 rfl) ?_
              refine n_iadd hx hb dX5_signs_38 ?_
              refine p_zald C hW (hS.1 68 (by omega) (by omega)) (by decide) (k := (12 * n) + a) rfl (by rw [show ln 68 = 72 by decide]; omega) dX5_signs_39 ?_
              refine w_top (y := .int (bI (mk a))) (by rw [hmk _ (by omega)]) ?_
              refine b_if_eq (tgt := 74) hx hb dX5_signs_40 (by decide) (fun hc_3 => ?_) (fun hc_3 => ?_)
              · skip
                refine lv_iinc (v := nI (b + 1)) (lv' := [(3, .int (nI (b + 1))), (0, .ref (ad 64)), (1, .int (nI w)), (2, .int (nI a))]) hx hb dX5_signs_74 hl (k := 3) rfl (nI_inc _) (by decide) rfl (fun ls hl => ?_)
                refine lv_goto (tgt := 19) hx hb dX5_signs_77 (by decide) ?_
                exact ih19 (b + 1) J2 (by omega) (by omega) (hB2.congr (fun k hk => by by_cases hc : (k / 4 < a ∨ (k / 4 = a ∧ k % 4 < b)) ∧ mk (k / 4) = true; rw [if_pos ⟨by omega, hc.2⟩, if_pos hc]; rw [if_neg (fun z => by by_cases e9 : k / 4 = a; (have := z.2; rw [e9, hc_3] at this; cases this); exact hc ⟨by omega, z.2⟩), if_neg hc])) _ _ hW ls (lv_sub hl [1, 2, 3, 0] rfl)
              · skip
                refine lv_aload_n hx hb dX5_signs_43 rfl (lv_at hl 0 rfl) ?_
                refine g_X5_10 C hinX5 hW (hS.1 64 (by omega) (by omega)) (by decide) (hS.2 10 (by omega) (by omega)) lk32 dX5_signs_44 ?_
                refine lv_bipush (v := nI 48) hx hb dX5_signs_47 (by decide) ?_
                refine lv_iload_n hx hb dX5_signs_49 rfl (lv_at hl 1 rfl) ?_
                refine n_imul hx hb dX5_signs_50 ?_
                refine lv_iconst (v := nI 4) hx hb dX5_signs_51 (by decide) ?_
                refine lv_iload_n hx hb dX5_signs_52 rfl (lv_at hl 2 rfl) ?_
                refine n_imul hx hb dX5_signs_53 ?_
                refine n_iadd hx hb dX5_signs_54 ?_
                refine lv_iload_n hx hb dX5_signs_55 rfl (lv_at hl 3 rfl) ?_
                refine n_iadd hx hb dX5_signs_56 ?_
                refine lv_aload_n hx hb dX5_signs_57 rfl (lv_at hl 0 rfl) ?_
                refine g_X5_10 C hinX5 hW (hS.1 64 (by omega) (by omega)) (by decide) (hS.2 10 (by omega) (by omega)) lk32 dX5_signs_58 ?_
                refine lv_bipush (v := nI 48) hx hb dX5_signs_61 (by decide) ?_
                refine lv_iload_n hx hb dX5_signs_63 rfl (lv_at hl 1 rfl) ?_
                refine n_imul hx hb dX5_signs_64 ?_
                refine lv_iconst (v := nI 4) hx hb dX5_signs_65 (by decide) ?_
                refine lv_iload_n hx hb dX5_signs_66 rfl (lv_at hl 2 rfl) ?_
                refine n_imul hx hb dX5_signs_67 ?_
                refine n_iadd hx hb dX5_signs_68 ?_
                refine lv_iload_n hx hb dX5_signs_69 rfl (lv_at hl 3 rfl) ?_
                refine n_iadd hx hb dX5_signs_70 ?_
                refine p_lald C hW (hS.1 72 (by omega) (by omega)) (by decide) (k := ((48 * w) + (4 * a)) + b) rfl (by rw [show ln 72 = 624 by decide]; omega) dX5_signs_71 ?_
                refine w_top (y := .long (f (a * 4 + b))) (by rw [show ((48 * w) + (4 * a)) + b = 48 * w + (a * 4 + b) by omega, hB2.2.1 _ (by omega)]; dsimp only; rw [if_neg (by omega)]) ?_
                refine lv_lneg hx hb dX5_signs_72 ?_
                refine p_last C hW (hS.1 72 (by omega) (by omega)) (by decide) (k := ((48 * w) + (4 * a)) + b) rfl (by rw [show ln 72 = 624 by decide]; omega) dX5_signs_73 (fun H locs hW => ?_)
                obtain ⟨J4, eJ4⟩ : ∃ z, z = va_up J2 72 (vp_updL (J2 72) (((48 * w) + (4 * a)) + b) (-(f (a * 4 + b)))) := ⟨_, rfl⟩
                rw [← eJ4] at hW
                refine lv_iinc (v := nI (b + 1)) (lv' := [(3, .int (nI (b + 1))), (0, .ref (ad 64)), (1, .int (nI w)), (2, .int (nI a))]) hx hb dX5_signs_74 hl (k := 3) rfl (nI_inc _) (by decide) rfl (fun ls hl => ?_)
                refine lv_goto (tgt := 19) hx hb dX5_signs_77 (by decide) ?_
                exact ih19 (b + 1) J4 (by omega) (by omega) (by rw [eJ4]; exact (hB2.put (k := a * 4 + b) (by omega) (by omega) _).congr (fun k hk => by dsimp only [vp_updL]; by_cases hc : k = a * 4 + b; (rw [if_pos ⟨by omega, by rw [show k / 4 = a by omega]; exact hc_3⟩, if_pos hc, hc]); rw [if_neg hc]; by_cases hc2 : (k / 4 < a ∨ (k / 4 = a ∧ k % 4 < b)) ∧ mk (k / 4) = true; rw [if_pos ⟨by omega, hc2.2⟩, if_pos hc2]; rw [if_neg (fun z => hc2 ⟨by omega, z.2⟩), if_neg hc2])) _ _ hW ls (lv_sub hl [1, 2, 3, 0] rfl)
        exact lp19 5 0 J1 (by omega) (by omega) hB _ _ hW ls (lv_sub hl [1, 2, 3, 0] rfl)
  exact lp2 (pl + 1) 0 J (by omega) (by omega) (blk.rf (fun k hk => by rw [hf k hk, if_neg (by omega)])) _ _ hW ls (lv_sub hl [1, 2, 0] rfl)
abbrev rmX5_goes : Room := { frames := 0, cells := 0, slots := 0, locals := 0 }
set_option maxHeartbeats 4000000 in
set_option maxRecDepth 100000 in
theorem c_X5_goes (l : Launch) (D : va_G) (cy : Nat → ClassId) (L : List Nat) (ad : Nat → Nat) (G : mG) (I : mI) (J : mJ) (hS : rSh L G) (w : Nat) (hw : w < 13) (f : Nat → Int64) (hf : ∀ k, k < 48 → J 72 (48 * w + k) = f k) (n : Nat) (hno : I 70 w = nI n) (hn6 : n < 6) (to : Nat → Nat) (hto : ∀ c, c < 48 → I 67 (48 * n + c) = nI (to c)) (ht48 : ∀ c, c < 48 → to c < 48) : pMet l yX5_goes wsX5_goes rmX5_goes D cy L ad G I J [.ref (ad 64), .int (nI w)] (qV (fun I' J' => I' = I ∧ blk J J' w (goF to f)) D cy L ad G) := by
  refine pMet.ofV (cc := cX5_goes) (maxL := 3) (by decide +kernel) rfl (Nat.le_of_ble_eq_true rfl) ?_
  intro p e R s m args below meth c A Q C hml hR hg ret hW ls hl
  subst hR
  have C : Cx p s m args c cX5_goes RX5 wsX5_goes D cy A := C
  have hx := C.1
  have hb := C.2.1
  have lk16 := C.2.2.2.1 (.fieldLink RX5 16 "WaveWalkModel" "to" "[I") (by decide +kernel)
  have lk26 := C.2.2.2.1 (.fieldLink RX5 26 "WaveWalkModel" "netOf" "[I") (by decide +kernel)
  have lk32 := C.2.2.2.1 (.fieldLink RX5 32 "WaveWalkModel" "wave" "[J") (by decide +kernel)
  have lk36 := C.2.2.2.1 (.fieldLink RX5 36 "WaveWalkModel" "next" "[J") (by decide +kernel)
  have hinX5 : ∀ w ∈ wsX50, w ∈ wsX5_goes := by decide +kernel
  have hl : lv_has ls 3 [(0, .ref (ad 64)), (1, .int (nI w))] := hl
  refine lv_iconst (v := nI 0) hx hb dX5_goes_0 (by decide) ?_
  refine lv_istore_n (lv' := [(2, .int (nI 0)), (0, .ref (ad 64)), (1, .int (nI w))]) hx hb dX5_goes_1 rfl hl (by decide) rfl (fun ls hl => ?_)
  have lp2 : ∀ (nn : Nat) (a : Nat) (J1 : mJ), (a ≤ 48) → (49 ≤ a + nn) → (blk J J1 w f) → (∀ k, k < a → J1 73 k = f (to k)) → ∀ (H : Heap) (locs : List Loc), Wd D cy A s.heap H locs L ad G I J1 → ∀ (ls : Array Slot), lv_has ls 3 [(0, .ref (ad 64)), (1, .int (nI w)), (2, .int (nI a))] → W p l e rmX5_goes s m args below meth c H locs 0 0 Q (F0 m 2 ls []) := by
    intro nn
    induction nn with
    | zero => intros; exfalso; omega
    | succ nn ih2 =>
      intro a J1 ha hfu hB hx1 H locs hW ls hl
      refine lv_iload_n hx hb dX5_goes_2 rfl (lv_at hl 2 rfl) ?_
      refine lv_bipush (v := nI 48) hx hb dX5_goes_3 (by decide) ?_
      refine n_icmp_ge (tgt := 46) hx hb (by omega) (by omega) dX5_goes_5 (by decide) (fun hc_1 => ?_) (fun hc_1 => ?_)
      · skip
        refine lv_iconst (v := nI 0) hx hb dX5_goes_46 (by decide) ?_
        refine lv_istore_n (lv' := [(2, .int (nI 0)), (0, .ref (ad 64)), (1, .int (nI w))]) hx hb dX5_goes_47 rfl hl (by decide) rfl (fun ls hl => ?_)
        have lp48 : ∀ (nn : Nat) (b : Nat) (J2 : mJ), (b ≤ 48) → (49 ≤ b + nn) → (blk J J2 w (fun k => if k < b then f (to k) else f k)) → (∀ k, k < 48 → J2 73 k = f (to k)) → ∀ (H : Heap) (locs : List Loc), Wd D cy A s.heap H locs L ad G I J2 → ∀ (ls : Array Slot), lv_has ls 3 [(0, .ref (ad 64)), (1, .int (nI w)), (2, .int (nI b))] → W p l e rmX5_goes s m args below meth c H locs 0 0 Q (F0 m 48 ls []) := by
          intro nn
          induction nn with
          | zero => intros; exfalso; omega
          | succ nn ih48 =>
            intro b J2 hb4 hfu2 hB2 hx2 H locs hW ls hl
            refine lv_iload_n hx hb dX5_goes_48 rfl (lv_at hl 2 rfl) ?_
            refine lv_bipush (v := nI 48) hx hb dX5_goes_49 (by decide) ?_
            refine n_icmp_ge (tgt := 77) hx hb (by omega) (by omega) dX5_goes_51 (by decide) (fun hc_2 => ?_) (fun hc_2 => ?_)
            · skip
              exact ret _ _ _ _ _ _ _ _ (Nat.le_of_ble_eq_true rfl) (Nat.le_of_ble_eq_true rfl) hW ⟨rfl, hB2.congr (fun k hk => by unfold goF; rw [if_pos (by omega)])⟩ dX5_goes_77
            · skip
              refine lv_aload_n hx hb dX5_goes_54 rfl (lv_at hl 0 rfl) ?_
              refine g_X5_10 C hinX5 hW (hS.1 64 (by omega) (by omega)) (by decide) (hS.2 10 (by omega) (by omega)) lk32 dX5_goes_55 ?_
              refine lv_bipush (v := nI 48) hx hb dX5_goes_58 (by decide) ?_
              refine lv_iload_n hx hb dX5_goes_60 rfl (lv_at hl 1 rfl) ?_
              refine n_imul hx hb dX5_goes_61 ?_
              refine lv_iload_n hx hb dX5_goes_62 rfl (lv_at hl 2 rfl) ?_
              refine n_iadd hx hb dX5_goes_63 ?_
              refine lv_aload_n hx hb dX5_goes_64 rfl (lv_at hl 0 rfl) ?_
              refine g_X5_11 C hinX5 hW (hS.1 64 (by omega) (by omega)) (by decide) (hS.2 11 (by omega) (by omega)) lk36 dX5_goes_65 ?_
              refine lv_iload_n hx hb dX5_goes_68 rfl (lv_at hl 2 rfl) ?_
              refine p_lald C hW (hS.1 73 (by omega) (by omega)) (by decide) (k := b) rfl (by rw [show ln 73 = 48 by decide]; omega) dX5_goes_69 ?_
              refine w_top (y := .long (f (to b))) (by rw [hx2 _ (by omega)]) ?_
              refine p_last C hW (hS.1 72 (by omega) (by omega)) (by decide) (k := (48 * w) + b) rfl (by rw [show ln 72 = 624 by decide]; omega) dX5_goes_70 (fun H locs hW => ?_)
              obtain ⟨J3, eJ3⟩ : ∃ z, z = va_up J2 72 (vp_updL (J2 72) ((48 * w) + b) (f (to b))) := ⟨_, rfl⟩
              rw [← eJ3] at hW
              refine lv_iinc (v := nI (b + 1)) (lv' := [(2, .int (nI (b + 1))), (0, .ref (ad 64)), (1, .int (nI w))]) hx hb dX5_goes_71 hl (k := 2) rfl (nI_inc _) (by decide) rfl (fun ls hl => ?_)
              refine lv_goto (tgt := 48) hx hb dX5_goes_74 (by decide) ?_
              exact ih48 (b + 1) J3 (by omega) (by omega) (by rw [eJ3]; exact (hB2.put (k := b) (by omega) (by omega) _).congr (fun k hk => by dsimp only [vp_updL]; by_cases hc : k = b; rw [if_pos (by omega), if_pos hc, hc]; rw [if_neg hc]; by_cases hc2 : k < b; rw [if_pos (by omega), if_pos hc2]; rw [if_neg (by omega), if_neg hc2])) (fun k hk => by rw [eJ3, va_up_ne _ _ (by decide)]; exact hx2 k hk) _ _ hW ls (lv_sub hl [1, 2, 0] rfl)
        exact lp48 49 0 J1 (by omega) (by omega) (hB.congr (fun k hk => by rw [if_neg (by omega)])) (fun k hk => hx1 k (by omega)) _ _ hW ls (lv_sub hl [1, 2, 0] rfl)
      · skip
        have hta := ht48 a (by omega)
        refine lv_aload_n hx hb dX5_goes_8 rfl (lv_at hl 0 rfl) ?_
        refine g_X5_11 C hinX5 hW (hS.1 64 (by omega) (by omega)) (by decide) (hS.2 11 (by omega) (by omega)) lk36 dX5_goes_9 ?_
        refine lv_iload_n hx hb dX5_goes_12 rfl (lv_at hl 2 rfl) ?_
        refine lv_aload_n hx hb dX5_goes_13 rfl (lv_at hl 0 rfl) ?_
        refine g_X5_10 C hinX5 hW (hS.1 64 (by omega) (by omega)) (by decide) (hS.2 10 (by omega) (by omega)) lk32 dX5_goes_14 ?_
        refine lv_bipush (v := nI 48) hx hb dX5_goes_17 (by decide) ?_
        refine lv_iload_n hx hb dX5_goes_19 rfl (lv_at hl 1 rfl) ?_
        refine n_imul hx hb dX5_goes_20 ?_
        refine lv_aload_n hx hb dX5_goes_21 rfl (lv_at hl 0 rfl) ?_
        refine g_X5_5 C hinX5 hW (hS.1 64 (by omega) (by omega)) (by decide) (hS.2 5 (by omega) (by omega)) lk16 dX5_goes_22 ?_
        refine lv_bipush (v := nI 48) hx hb dX5_goes_25 (by decide) ?_
        refine lv_aload_n hx hb dX5_goes_27 rfl (lv_at hl 0 rfl) ?_
        refine g_X5_8 C hinX5 hW (hS.1 64 (by omega) (by omega)) (by decide) (hS.2 8 (by omega) (by omega)) lk26 dX5_goes_28 ?_
        refine lv_iload_n hx hb dX5_goes_31 rfl (lv_at hl 1 rfl) ?_
        refine p_iald C hW (hS.1 70 (by omega) (by omega)) (by decide) (k := w) rfl (by rw [show ln 70 = 13 by decide]; omega) dX5_goes_32 ?_
        refine w_top (y := .int (nI n)) (by rw [hno]) ?_
        refine n_imul hx hb dX5_goes_33 ?_
        refine lv_iload_n hx hb dX5_goes_34 rfl (lv_at hl 2 rfl) ?_
        refine n_iadd hx hb dX5_goes_35 ?_
        refine p_iald C hW (hS.1 67 (by omega) (by omega)) (by decide) (k := (48 * n) + a) rfl (by rw [show ln 67 = 288 by decide]; omega) dX5_goes_36 ?_
        refine w_top (y := .int (nI (to a))) (by rw [hto _ (by omega)]) ?_
        refine n_iadd hx hb dX5_goes_37 ?_
        refine p_lald C hW (hS.1 72 (by omega) (by omega)) (by decide) (k := (48 * w) + (to a)) rfl (by rw [show ln 72 = 624 by decide]; omega) dX5_goes_38 ?_
        refine w_top (y := .long (f (to a))) (by rw [hB.2.1 _ hta]) ?_
        refine p_last C hW (hS.1 73 (by omega) (by omega)) (by decide) (k := a) rfl (by rw [show ln 73 = 48 by decide]; omega) dX5_goes_39 (fun H locs hW => ?_)
        obtain ⟨J4, eJ4⟩ : ∃ z, z = va_up J1 73 (vp_updL (J1 73) a (f (to a))) := ⟨_, rfl⟩
        rw [← eJ4] at hW
        refine lv_iinc (v := nI (a + 1)) (lv' := [(2, .int (nI (a + 1))), (0, .ref (ad 64)), (1, .int (nI w))]) hx hb dX5_goes_40 hl (k := 2) rfl (nI_inc _) (by decide) rfl (fun ls hl => ?_)
        refine lv_goto (tgt := 2) hx hb dX5_goes_43 (by decide) ?_
        exact ih2 (a + 1) J4 (by omega) (by omega) (by rw [eJ4]; exact hB.next _) (fun k hk => by rw [eJ4, va_up_self]; dsimp only [vp_updL]; by_cases hc : k = a; rw [if_pos hc, hc]; rw [if_neg hc]; exact hx1 k (by omega)) _ _ hW ls (lv_sub hl [1, 2, 0] rfl)
  exact lp2 49 0 J (by omega) (by omega) (blk.rf hf) (fun k hk => absurd hk (Nat.not_lt_zero k)) _ _ hW ls (lv_sub hl [1, 2, 0] rfl)
abbrev rmX5_turns : Room := { frames := 0, cells := 0, slots := 0, locals := 0 }
set_option maxHeartbeats 4000000 in
set_option maxRecDepth 100000 in
theorem c_X5_turns (l : Launch) (D : va_G) (cy : Nat → ClassId) (L : List Nat) (ad : Nat → Nat) (G : mG) (I : mI) (J : mJ) (hS : rSh L G) (w : Nat) (hw : w < 13) (f : Nat → Int64) (hf : ∀ k, k < 48 → J 72 (48 * w + k) = f k) (n pl dr : Nat) (hno : I 70 w = nI n) (hn6 : n < 6) (hpl : I 65 n = nI pl) (hp12 : pl ≤ 12) (hdr : I 66 n = nI dr) (hd4 : dr = 2 ∨ dr = 3 ∨ dr = 4) : pMet l yX5_turns wsX5_turns rmX5_turns D cy L ad G I J [.ref (ad 64), .int (nI w)] (qV (fun I' J' => I' = I ∧ blk J J' w (turnF pl dr f)) D cy L ad G) := by
  refine pMet.ofV (cc := cX5_turns) (maxL := 10) (by decide +kernel) rfl (Nat.le_of_ble_eq_true rfl) ?_
  intro p e R s m args below meth c A Q C hml hR hg ret hW ls hl
  subst hR
  have C : Cx p s m args c cX5_turns RX5 wsX5_turns D cy A := C
  have hx := C.1
  have hb := C.2.1
  have lk7 := C.2.2.2.1 (.fieldLink RX5 7 "WaveWalkModel" "places" "[I") (by decide +kernel)
  have lk13 := C.2.2.2.1 (.fieldLink RX5 13 "WaveWalkModel" "doors" "[I") (by decide +kernel)
  have lk26 := C.2.2.2.1 (.fieldLink RX5 26 "WaveWalkModel" "netOf" "[I") (by decide +kernel)
  have lk32 := C.2.2.2.1 (.fieldLink RX5 32 "WaveWalkModel" "wave" "[J") (by decide +kernel)
  have hinX5 : ∀ w ∈ wsX50, w ∈ wsX5_turns := by decide +kernel
  have ck102 := C.2.2.2.1 (.constantLong RX5 102 (2)) (by decide +kernel)
  have ck104 := C.2.2.2.1 (.constantLong RX5 104 (3)) (by decide +kernel)
  have hl : lv_has ls 10 [(0, .ref (ad 64)), (1, .int (nI w))] := hl
  refine lv_aload_n hx hb dX5_turns_0 rfl (lv_at hl 0 rfl) ?_
  refine g_X5_8 C hinX5 hW (hS.1 64 (by omega) (by omega)) (by decide) (hS.2 8 (by omega) (by omega)) lk26 dX5_turns_1 ?_
  refine lv_iload_n hx hb dX5_turns_4 rfl (lv_at hl 1 rfl) ?_
  refine p_iald C hW (hS.1 70 (by omega) (by omega)) (by decide) (k := w) rfl (by rw [show ln 70 = 13 by decide]; omega) dX5_turns_5 ?_
  refine w_top (y := .int (nI n)) (by rw [hno]) ?_
  refine lv_istore_n (lv' := [(2, .int (nI n)), (0, .ref (ad 64)), (1, .int (nI w))]) hx hb dX5_turns_6 rfl hl (by decide) rfl (fun ls hl => ?_)
  refine lv_aload_n hx hb dX5_turns_7 rfl (lv_at hl 1 rfl) ?_
  refine g_X5_4 C hinX5 hW (hS.1 64 (by omega) (by omega)) (by decide) (hS.2 4 (by omega) (by omega)) lk13 dX5_turns_8 ?_
  refine lv_iload_n hx hb dX5_turns_11 rfl (lv_at hl 0 rfl) ?_
  refine p_iald C hW (hS.1 66 (by omega) (by omega)) (by decide) (k := n) rfl (by rw [show ln 66 = 6 by decide]; omega) dX5_turns_12 ?_
  refine w_top (y := .int (nI dr)) (by rw [hdr]) ?_
  refine lv_istore_n (lv' := [(3, .int (nI dr)), (2, .int (nI n)), (0, .ref (ad 64)), (1, .int (nI w))]) hx hb dX5_turns_13 rfl hl (by decide) rfl (fun ls hl => ?_)
  refine lv_iconst (v := nI 0) hx hb dX5_turns_14 (by decide) ?_
  refine lv_istore (lv' := [(4, .int (nI 0)), (3, .int (nI dr)), (2, .int (nI n)), (0, .ref (ad 64)), (1, .int (nI w))]) hx hb dX5_turns_15 hl (by decide) rfl (fun ls hl => ?_)
  have lp17 : ∀ (nn : Nat) (a : Nat) (J1 : mJ), (a ≤ pl) → (pl + 1 ≤ a + nn) → (blk J J1 w (turnF a dr f)) → ∀ (H : Heap) (locs : List Loc), Wd D cy A s.heap H locs L ad G I J1 → ∀ (ls : Array Slot), lv_has ls 10 [(0, .ref (ad 64)), (1, .int (nI w)), (2, .int (nI n)), (3, .int (nI dr)), (4, .int (nI a))] → W p l e rmX5_turns s m args below meth c H locs 0 0 Q (F0 m 17 ls []) := by
    intro nn
    induction nn with
    | zero => intros; exfalso; omega
    | succ nn ih17 =>
      intro a J1 ha hfu hB H locs hW ls hl
      refine lv_iload hx hb dX5_turns_17 (lv_at hl 4 rfl) ?_
      refine lv_aload_n hx hb dX5_turns_19 rfl (lv_at hl 0 rfl) ?_
      refine g_X5_3 C hinX5 hW (hS.1 64 (by omega) (by omega)) (by decide) (hS.2 3 (by omega) (by omega)) lk7 dX5_turns_20 ?_
      refine lv_iload_n hx hb dX5_turns_23 rfl (lv_at hl 2 rfl) ?_
      refine p_iald C hW (hS.1 65 (by omega) (by omega)) (by decide) (k := n) rfl (by rw [show ln 65 = 6 by decide]; omega) dX5_turns_24 ?_
      refine w_top (y := .int (nI pl)) (by rw [hpl]) ?_
      refine n_icmp_ge (tgt := 196) hx hb (by omega) (by omega) dX5_turns_25 (by decide) (fun hc_1 => ?_) (fun hc_1 => ?_)
      · skip
        exact ret _ _ _ _ _ _ _ _ (Nat.le_of_ble_eq_true rfl) (Nat.le_of_ble_eq_true rfl) hW ⟨rfl, by rw [show pl = a by omega]; exact hB⟩ dX5_turns_196
      · skip
        refine lv_bipush (v := nI 48) hx hb dX5_turns_28 (by decide) ?_
        refine lv_iload_n hx hb dX5_turns_30 rfl (lv_at hl 1 rfl) ?_
        refine n_imul hx hb dX5_turns_31 ?_
        refine lv_iconst (v := nI 4) hx hb dX5_turns_32 (by decide) ?_
        refine lv_iload hx hb dX5_turns_33 (lv_at hl 4 rfl) ?_
        refine n_imul hx hb dX5_turns_35 ?_
        refine n_iadd hx hb dX5_turns_36 ?_
        refine lv_istore (lv' := [(5, .int (nI ((48 * w) + (4 * a)))), (0, .ref (ad 64)), (1, .int (nI w)), (2, .int (nI n)), (3, .int (nI dr)), (4, .int (nI a))]) hx hb dX5_turns_37 hl (by decide) rfl (fun ls hl => ?_)
        refine lv_lconst (v := 0) hx hb dX5_turns_39 (by decide) ?_
        refine lv_lstore (lv' := [(6, .long 0), (5, .int (nI ((48 * w) + (4 * a)))), (0, .ref (ad 64)), (1, .int (nI w)), (2, .int (nI n)), (3, .int (nI dr)), (4, .int (nI a))]) hx hb dX5_turns_40 hl (by decide) rfl (fun ls hl => ?_)
        refine lv_iconst (v := nI 0) hx hb dX5_turns_42 (by decide) ?_
        refine lv_istore (lv' := [(8, .int (nI 0)), (6, .long 0), (5, .int (nI ((48 * w) + (4 * a)))), (0, .ref (ad 64)), (1, .int (nI w)), (2, .int (nI n)), (3, .int (nI dr)), (4, .int (nI a))]) hx hb dX5_turns_43 hl (by decide) rfl (fun ls hl => ?_)
        have lp45 : ∀ (nn : Nat) (d : Nat), (d ≤ dr) → (dr + 1 ≤ d + nn) → ∀ (H : Heap) (locs : List Loc), Wd D cy A s.heap H locs L ad G I J1 → ∀ (ls : Array Slot), lv_has ls 10 [(0, .ref (ad 64)), (1, .int (nI w)), (2, .int (nI n)), (3, .int (nI dr)), (4, .int (nI a)), (5, .int (nI ((48 * w) + (4 * a)))), (6, .long (sumN f (a * 4) d)), (8, .int (nI d))] → W p l e rmX5_turns s m args below meth c H locs 0 0 Q (F0 m 45 ls []) := by
          intro nn
          induction nn with
          | zero => intros; exfalso; omega
          | succ nn ih45 =>
            intro d hd hfu2 H locs hW ls hl
            refine lv_iload hx hb dX5_turns_45 (lv_at hl 7 rfl) ?_
            refine lv_iload_n hx hb dX5_turns_47 rfl (lv_at hl 3 rfl) ?_
            refine n_icmp_ge (tgt := 72) hx hb (by omega) (by omega) dX5_turns_48 (by decide) (fun hc_2 => ?_) (fun hc_2 => ?_)
            · skip
              have hdd : d = dr := by omega
              rw [hdd] at hl
              refine lv_iload_n hx hb dX5_turns_72 rfl (lv_at hl 3 rfl) ?_
              refine lv_iconst (v := nI 2) hx hb dX5_turns_73 (by decide) ?_
              refine n_icmp_ne (tgt := 119) hx hb (by omega) (by omega) dX5_turns_74 (by decide) (fun hc_3 => ?_) (fun hc_3 => ?_)
              · skip
                refine lv_iconst (v := nI 0) hx hb dX5_turns_119 (by decide) ?_
                refine lv_istore (lv' := [(8, .int (nI 0)), (0, .ref (ad 64)), (1, .int (nI w)), (2, .int (nI n)), (3, .int (nI dr)), (4, .int (nI a)), (5, .int (nI ((48 * w) + (4 * a)))), (6, .long (sumN f (a * 4) dr))]) hx hb dX5_turns_120 hl (by decide) rfl (fun ls hl => ?_)
                have lp122 : ∀ (nn : Nat) (b : Nat) (J2 : mJ), (b ≤ dr) → (dr + 1 ≤ b + nn) → (blk J J2 w (fun k => if k / 4 = a ∧ k % 4 < b then tv dr f k else turnF a dr f k)) → ∀ (H : Heap) (locs : List Loc), Wd D cy A s.heap H locs L ad G I J2 → ∀ (ls : Array Slot), lv_has ls 10 [(0, .ref (ad 64)), (1, .int (nI w)), (2, .int (nI n)), (3, .int (nI dr)), (4, .int (nI a)), (5, .int (nI ((48 * w) + (4 * a)))), (6, .long (sumN f (a * 4) dr)), (8, .int (nI b))] → W p l e rmX5_turns s m args below meth c H locs 0 0 Q (F0 m 122 ls []) := by
                  intro nn
                  induction nn with
                  | zero => intros; exfalso; omega
                  | succ nn ih122 =>
                    intro b J2 hb4 hfu3 hB2 H locs hW ls hl
                    refine lv_iload hx hb dX5_turns_122 (lv_at hl 7 rfl) ?_
                    refine lv_iload_n hx hb dX5_turns_124 rfl (lv_at hl 3 rfl) ?_
                    refine n_icmp_ge (tgt := 190) hx hb (by omega) (by omega) dX5_turns_125 (by decide) (fun hc_4 => ?_) (fun hc_4 => ?_)
                    · skip
                      refine lv_iinc (v := nI (a + 1)) (lv' := [(4, .int (nI (a + 1))), (0, .ref (ad 64)), (1, .int (nI w)), (2, .int (nI n)), (3, .int (nI dr)), (5, .int (nI ((48 * w) + (4 * a)))), (6, .long (sumN f (a * 4) dr)), (8, .int (nI b))]) hx hb dX5_turns_190 hl (k := 4) rfl (nI_inc _) (by decide) rfl (fun ls hl => ?_)
                      refine lv_goto (tgt := 17) hx hb dX5_turns_193 (by decide) ?_
                      exact ih17 (a + 1) J2 (by omega) (by omega) (hB2.congr (fun k hk => by rw [turn_s hd4]; unfold turn1; by_cases hc : k / 4 = a ∧ k % 4 < dr; (rw [if_pos hc, if_pos (by omega)]; exact tv_congr hc.2 hd4 (fun j hj => turn_ge (by omega))); rw [if_neg hc, if_neg (by omega)])) _ _ hW ls (lv_sub hl [1, 2, 3, 4, 0] rfl)
                    · skip
                      refine lv_aload_n hx hb dX5_turns_128 rfl (lv_at hl 0 rfl) ?_
                      refine g_X5_10 C hinX5 hW (hS.1 64 (by omega) (by omega)) (by decide) (hS.2 10 (by omega) (by omega)) lk32 dX5_turns_129 ?_
                      refine lv_iload hx hb dX5_turns_132 (lv_at hl 5 rfl) ?_
                      refine lv_iload hx hb dX5_turns_134 (lv_at hl 7 rfl) ?_
                      refine n_iadd hx hb dX5_turns_136 ?_
                      refine lv_iload_n hx hb dX5_turns_137 rfl (lv_at hl 3 rfl) ?_
                      refine lv_iconst (v := nI 3) hx hb dX5_turns_138 (by decide) ?_
                      refine n_icmp_ne (tgt := 166) hx hb (by omega) (by omega) dX5_turns_139 (by decide) (fun hc_5 => ?_) (fun hc_5 => ?_)
                      · skip
                        refine lv_lload hx hb dX5_turns_166 (lv_at hl 6 rfl) ?_
                        refine lv_ldc2 hx hb C.2.2.1 ck102 dX5_turns_168 ?_
                        refine lv_aload_n hx hb dX5_turns_171 rfl (lv_at hl 0 rfl) ?_
                        refine g_X5_10 C hinX5 hW (hS.1 64 (by omega) (by omega)) (by decide) (hS.2 10 (by omega) (by omega)) lk32 dX5_turns_172 ?_
                        refine lv_iload hx hb dX5_turns_175 (lv_at hl 5 rfl) ?_
                        refine lv_iload hx hb dX5_turns_177 (lv_at hl 7 rfl) ?_
                        refine n_iadd hx hb dX5_turns_179 ?_
                        refine p_lald C hW (hS.1 72 (by omega) (by omega)) (by decide) (k := ((48 * w) + (4 * a)) + b) rfl (by rw [show ln 72 = 624 by decide]; omega) dX5_turns_180 ?_
                        refine w_top (y := .long (f (a * 4 + b))) (by rw [show ((48 * w) + (4 * a)) + b = 48 * w + (a * 4 + b) by omega, hB2.2.1 _ (by omega)]; dsimp only; rw [if_neg (by omega), turn_ge (by omega)]) ?_
                        refine lv_lmul hx hb dX5_turns_181 ?_
                        refine lv_lsub hx hb dX5_turns_182 ?_
                        refine p_last C hW (hS.1 72 (by omega) (by omega)) (by decide) (k := ((48 * w) + (4 * a)) + b) rfl (by rw [show ln 72 = 624 by decide]; omega) dX5_turns_183 (fun H locs hW => ?_)
                        obtain ⟨J6, eJ6⟩ : ∃ z, z = va_up J2 72 (vp_updL (J2 72) (((48 * w) + (4 * a)) + b) ((sumN f (a * 4) dr) - (2 * (f (a * 4 + b))))) := ⟨_, rfl⟩
                        rw [← eJ6] at hW
                        refine lv_iinc (v := nI (b + 1)) (lv' := [(8, .int (nI (b + 1))), (0, .ref (ad 64)), (1, .int (nI w)), (2, .int (nI n)), (3, .int (nI dr)), (4, .int (nI a)), (5, .int (nI ((48 * w) + (4 * a)))), (6, .long (sumN f (a * 4) dr))]) hx hb dX5_turns_184 hl (k := 7) rfl (nI_inc _) (by decide) rfl (fun ls hl => ?_)
                        refine lv_goto (tgt := 122) hx hb dX5_turns_187 (by decide) ?_
                        exact ih122 (b + 1) J6 (by omega) (by omega) (by rw [eJ6]; exact (hB2.put (k := a * 4 + b) (by omega) (by omega) _).congr (fun k hk => by dsimp only [vp_updL]; by_cases hc : k = a * 4 + b; (rw [if_pos (by omega), if_pos hc, hc, tv_4 (by omega) (by omega)]); rw [if_neg hc]; by_cases hc2 : k / 4 = a ∧ k % 4 < b; rw [if_pos (by omega), if_pos hc2]; rw [if_neg (by omega), if_neg hc2])) _ _ hW ls (lv_sub hl [1, 2, 3, 4, 5, 6, 7, 0] rfl)
                      · skip
                        refine lv_ldc2 hx hb C.2.2.1 ck102 dX5_turns_142 ?_
                        refine lv_lload hx hb dX5_turns_145 (lv_at hl 6 rfl) ?_
                        refine lv_lmul hx hb dX5_turns_147 ?_
                        refine lv_ldc2 hx hb C.2.2.1 ck104 dX5_turns_148 ?_
                        refine lv_aload_n hx hb dX5_turns_151 rfl (lv_at hl 0 rfl) ?_
                        refine g_X5_10 C hinX5 hW (hS.1 64 (by omega) (by omega)) (by decide) (hS.2 10 (by omega) (by omega)) lk32 dX5_turns_152 ?_
                        refine lv_iload hx hb dX5_turns_155 (lv_at hl 5 rfl) ?_
                        refine lv_iload hx hb dX5_turns_157 (lv_at hl 7 rfl) ?_
                        refine n_iadd hx hb dX5_turns_159 ?_
                        refine p_lald C hW (hS.1 72 (by omega) (by omega)) (by decide) (k := ((48 * w) + (4 * a)) + b) rfl (by rw [show ln 72 = 624 by decide]; omega) dX5_turns_160 ?_
                        refine w_top (y := .long (f (a * 4 + b))) (by rw [show ((48 * w) + (4 * a)) + b = 48 * w + (a * 4 + b) by omega, hB2.2.1 _ (by omega)]; dsimp only; rw [if_neg (by omega), turn_ge (by omega)]) ?_
                        refine lv_lmul hx hb dX5_turns_161 ?_
                        refine lv_lsub hx hb dX5_turns_162 ?_
                        refine lv_goto (tgt := 183) hx hb dX5_turns_163 (by decide) ?_
                        refine p_last C hW (hS.1 72 (by omega) (by omega)) (by decide) (k := ((48 * w) + (4 * a)) + b) rfl (by rw [show ln 72 = 624 by decide]; omega) dX5_turns_183 (fun H locs hW => ?_)
                        obtain ⟨J7, eJ7⟩ : ∃ z, z = va_up J2 72 (vp_updL (J2 72) (((48 * w) + (4 * a)) + b) ((2 * (sumN f (a * 4) dr)) - (3 * (f (a * 4 + b))))) := ⟨_, rfl⟩
                        rw [← eJ7] at hW
                        refine lv_iinc (v := nI (b + 1)) (lv' := [(8, .int (nI (b + 1))), (0, .ref (ad 64)), (1, .int (nI w)), (2, .int (nI n)), (3, .int (nI dr)), (4, .int (nI a)), (5, .int (nI ((48 * w) + (4 * a)))), (6, .long (sumN f (a * 4) dr))]) hx hb dX5_turns_184 hl (k := 7) rfl (nI_inc _) (by decide) rfl (fun ls hl => ?_)
                        refine lv_goto (tgt := 122) hx hb dX5_turns_187 (by decide) ?_
                        exact ih122 (b + 1) J7 (by omega) (by omega) (by rw [eJ7]; exact (hB2.put (k := a * 4 + b) (by omega) (by omega) _).congr (fun k hk => by dsimp only [vp_updL]; by_cases hc : k = a * 4 + b; (rw [if_pos (by omega), if_pos hc, hc, tv_3 (by omega) (by omega)]); rw [if_neg hc]; by_cases hc2 : k / 4 = a ∧ k % 4 < b; rw [if_pos (by omega), if_pos hc2]; rw [if_neg (by omega), if_neg hc2])) _ _ hW ls (lv_sub hl [1, 2, 3, 4, 5, 6, 7, 0] rfl)
                exact lp122 (dr + 1) 0 J1 (by omega) (by omega) (hB.congr (fun k hk => by rw [if_neg (by omega)])) _ _ hW ls (lv_sub hl [1, 2, 3, 4, 5, 6, 7, 0] rfl)
              · skip
                refine lv_aload_n hx hb dX5_turns_77 rfl (lv_at hl 0 rfl) ?_
                refine g_X5_10 C hinX5 hW (hS.1 64 (by omega) (by omega)) (by decide) (hS.2 10 (by omega) (by omega)) lk32 dX5_turns_78 ?_
                refine lv_iload hx hb dX5_turns_81 (lv_at hl 5 rfl) ?_
                refine p_lald C hW (hS.1 72 (by omega) (by omega)) (by decide) (k := (48 * w) + (4 * a)) rfl (by rw [show ln 72 = 624 by decide]; omega) dX5_turns_83 ?_
                refine w_top (y := .long (f (a * 4))) (by rw [show (48 * w) + (4 * a) = 48 * w + (a * 4) by omega, hB.2.1 _ (by omega), turn_ge]; omega) ?_
                refine lv_aload_n hx hb dX5_turns_84 rfl (lv_at hl 0 rfl) ?_
                refine g_X5_10 C hinX5 hW (hS.1 64 (by omega) (by omega)) (by decide) (hS.2 10 (by omega) (by omega)) lk32 dX5_turns_85 ?_
                refine lv_iload hx hb dX5_turns_88 (lv_at hl 5 rfl) ?_
                refine lv_iconst (v := nI 1) hx hb dX5_turns_90 (by decide) ?_
                refine n_iadd hx hb dX5_turns_91 ?_
                refine p_lald C hW (hS.1 72 (by omega) (by omega)) (by decide) (k := ((48 * w) + (4 * a)) + 1) rfl (by rw [show ln 72 = 624 by decide]; omega) dX5_turns_92 ?_
                refine w_top (y := .long (f (a * 4 + 1))) (by rw [show ((48 * w) + (4 * a)) + 1 = 48 * w + (a * 4 + 1) by omega, hB.2.1 _ (by omega), turn_ge]; omega) ?_
                refine lv_lsub hx hb dX5_turns_93 ?_
                refine lv_lstore (lv' := [(8, .long ((f (a * 4)) - (f (a * 4 + 1)))), (0, .ref (ad 64)), (1, .int (nI w)), (2, .int (nI n)), (3, .int (nI dr)), (4, .int (nI a)), (5, .int (nI ((48 * w) + (4 * a)))), (6, .long (sumN f (a * 4) dr))]) hx hb dX5_turns_94 hl (by decide) rfl (fun ls hl => ?_)
                refine lv_aload_n hx hb dX5_turns_96 rfl (lv_at hl 1 rfl) ?_
                refine g_X5_10 C hinX5 hW (hS.1 64 (by omega) (by omega)) (by decide) (hS.2 10 (by omega) (by omega)) lk32 dX5_turns_97 ?_
                refine lv_iload hx hb dX5_turns_100 (lv_at hl 6 rfl) ?_
                refine lv_lload hx hb dX5_turns_102 (lv_at hl 7 rfl) ?_
                refine p_last C hW (hS.1 72 (by omega) (by omega)) (by decide) (k := (48 * w) + (4 * a)) rfl (by rw [show ln 72 = 624 by decide]; omega) dX5_turns_104 (fun H locs hW => ?_)
                obtain ⟨J8, eJ8⟩ : ∃ z, z = va_up J1 72 (vp_updL (J1 72) ((48 * w) + (4 * a)) (sumN f (a * 4) dr)) := ⟨_, rfl⟩
                rw [← eJ8] at hW
                refine lv_aload_n hx hb dX5_turns_105 rfl (lv_at hl 1 rfl) ?_
                refine g_X5_10 C hinX5 hW (hS.1 64 (by omega) (by omega)) (by decide) (hS.2 10 (by omega) (by omega)) lk32 dX5_turns_106 ?_
                refine lv_iload hx hb dX5_turns_109 (lv_at hl 6 rfl) ?_
                refine lv_iconst (v := nI 1) hx hb dX5_turns_111 (by decide) ?_
                refine n_iadd hx hb dX5_turns_112 ?_
                refine lv_lload hx hb dX5_turns_113 (lv_at hl 0 rfl) ?_
                refine p_last C hW (hS.1 72 (by omega) (by omega)) (by decide) (k := ((48 * w) + (4 * a)) + 1) rfl (by rw [show ln 72 = 624 by decide]; omega) dX5_turns_115 (fun H locs hW => ?_)
                obtain ⟨J9, eJ9⟩ : ∃ z, z = va_up J8 72 (vp_updL (J8 72) (((48 * w) + (4 * a)) + 1) ((f (a * 4)) - (f (a * 4 + 1)))) := ⟨_, rfl⟩
                rw [← eJ9] at hW
                refine lv_goto (tgt := 190) hx hb dX5_turns_116 (by decide) ?_
                refine lv_iinc (v := nI (a + 1)) (lv' := [(4, .int (nI (a + 1))), (8, .long ((f (a * 4)) - (f (a * 4 + 1)))), (0, .ref (ad 64)), (1, .int (nI w)), (2, .int (nI n)), (3, .int (nI dr)), (5, .int (nI ((48 * w) + (4 * a)))), (6, .long (sumN f (a * 4) dr))]) hx hb dX5_turns_190 hl (k := 5) rfl (nI_inc _) (by decide) rfl (fun ls hl => ?_)
                refine lv_goto (tgt := 17) hx hb dX5_turns_193 (by decide) ?_
                exact ih17 (a + 1) J9 (by omega) (by omega) (by rw [eJ9, eJ8]; exact ((hB.put (k := a * 4) (by omega) (by omega) _).put (k := a * 4 + 1) (by omega) (by omega) _).congr (fun k hk => turn_two (by omega) f k)) _ _ hW ls (lv_sub hl [2, 3, 4, 5, 0] rfl)
            · skip
              refine lv_lload hx hb dX5_turns_51 (lv_at hl 6 rfl) ?_
              refine lv_aload_n hx hb dX5_turns_53 rfl (lv_at hl 0 rfl) ?_
              refine g_X5_10 C hinX5 hW (hS.1 64 (by omega) (by omega)) (by decide) (hS.2 10 (by omega) (by omega)) lk32 dX5_turns_54 ?_
              refine lv_iload hx hb dX5_turns_57 (lv_at hl 5 rfl) ?_
              refine lv_iload hx hb dX5_turns_59 (lv_at hl 7 rfl) ?_
              refine n_iadd hx hb dX5_turns_61 ?_
              refine p_lald C hW (hS.1 72 (by omega) (by omega)) (by decide) (k := ((48 * w) + (4 * a)) + d) rfl (by rw [show ln 72 = 624 by decide]; omega) dX5_turns_62 ?_
              refine w_top (y := .long (f (a * 4 + d))) (by rw [show ((48 * w) + (4 * a)) + d = 48 * w + (a * 4 + d) by omega, hB.2.1 _ (by omega), turn_ge]; omega) ?_
              refine lv_ladd hx hb dX5_turns_63 ?_
              refine lv_lstore (lv' := [(6, .long ((sumN f (a * 4) d) + (f (a * 4 + d)))), (0, .ref (ad 64)), (1, .int (nI w)), (2, .int (nI n)), (3, .int (nI dr)), (4, .int (nI a)), (5, .int (nI ((48 * w) + (4 * a)))), (8, .int (nI d))]) hx hb dX5_turns_64 hl (by decide) rfl (fun ls hl => ?_)
              refine lv_iinc (v := nI (d + 1)) (lv' := [(8, .int (nI (d + 1))), (6, .long ((sumN f (a * 4) d) + (f (a * 4 + d)))), (0, .ref (ad 64)), (1, .int (nI w)), (2, .int (nI n)), (3, .int (nI dr)), (4, .int (nI a)), (5, .int (nI ((48 * w) + (4 * a))))]) hx hb dX5_turns_66 hl (k := 7) rfl (nI_inc _) (by decide) rfl (fun ls hl => ?_)
              refine lv_goto (tgt := 45) hx hb dX5_turns_69 (by decide) ?_
              exact ih45 (d + 1) (by omega) (by omega) _ _ hW ls (lv_sub hl [2, 3, 4, 5, 6, 7, 1, 0] rfl)
        exact lp45 (dr + 1) 0 (by omega) (by omega) _ _ hW ls (lv_sub hl [3, 4, 5, 6, 7, 2, 1, 0] rfl)
  exact lp17 (pl + 1) 0 J (by omega) (by omega) (blk.rf (fun k hk => by rw [hf k hk, turn_0])) _ _ hW ls (lv_sub hl [3, 4, 2, 1, 0] rfl)
abbrev rmX5_copies : Room := { frames := 0, cells := 0, slots := 0, locals := 0 }
set_option maxHeartbeats 4000000 in
set_option maxRecDepth 100000 in
theorem c_X5_copies (l : Launch) (D : va_G) (cy : Nat → ClassId) (L : List Nat) (ad : Nat → Nat) (G : mG) (I : mI) (J : mJ) (hS : rSh L G) (a b : Nat) (ha : a < 13) (hb : b < 13) (f : Nat → Int64) (hf : ∀ k, k < 48 → J 72 (48 * a + k) = f k) : pMet l yX5_copies wsX5_copies rmX5_copies D cy L ad G I J [.ref (ad 64), .int (nI a), .int (nI b)] (qV (fun I' J' => I' = va_up (va_up I 70 (upd (I 70) b (I 70 a))) 71 (upd (I 71) b (I 71 a)) ∧ blk J J' b f) D cy L ad G) := by
  refine pMet.ofV (cc := cX5_copies) (maxL := 4) (by decide +kernel) rfl (Nat.le_of_ble_eq_true rfl) ?_
  intro p e R s m args below meth c A Q C hml hR hg ret hW ls hl
  subst hR
  have C : Cx p s m args c cX5_copies RX5 wsX5_copies D cy A := C
  have hx := C.1
  have hb := C.2.1
  have lk26 := C.2.2.2.1 (.fieldLink RX5 26 "WaveWalkModel" "netOf" "[I") (by decide +kernel)
  have lk29 := C.2.2.2.1 (.fieldLink RX5 29 "WaveWalkModel" "time" "[I") (by decide +kernel)
  have lk32 := C.2.2.2.1 (.fieldLink RX5 32 "WaveWalkModel" "wave" "[J") (by decide +kernel)
  have hinX5 : ∀ w ∈ wsX50, w ∈ wsX5_copies := by decide +kernel
  have hl : lv_has ls 4 [(0, .ref (ad 64)), (1, .int (nI a)), (2, .int (nI b))] := hl
  refine lv_aload_n hx hb dX5_copies_0 rfl (lv_at hl 0 rfl) ?_
  refine g_X5_8 C hinX5 hW (hS.1 64 (by omega) (by omega)) (by decide) (hS.2 8 (by omega) (by omega)) lk26 dX5_copies_1 ?_
  refine lv_iload_n hx hb dX5_copies_4 rfl (lv_at hl 2 rfl) ?_
  refine lv_aload_n hx hb dX5_copies_5 rfl (lv_at hl 0 rfl) ?_
  refine g_X5_8 C hinX5 hW (hS.1 64 (by omega) (by omega)) (by decide) (hS.2 8 (by omega) (by omega)) lk26 dX5_copies_6 ?_
  refine lv_iload_n hx hb dX5_copies_9 rfl (lv_at hl 1 rfl) ?_
  refine p_iald C hW (hS.1 70 (by omega) (by omega)) (by decide) (k := a) rfl (by rw [show ln 70 = 13 by decide]; omega) dX5_copies_10 ?_
  refine p_iast C hW (hS.1 70 (by omega) (by omega)) (by decide) (k := b) rfl (by rw [show ln 70 = 13 by decide]; omega) dX5_copies_11 (fun H locs hW => ?_)
  obtain ⟨I1, eI1⟩ : ∃ z, z = va_up I 70 (upd (I 70) b (I 70 a)) := ⟨_, rfl⟩
  rw [← eI1] at hW
  refine lv_aload_n hx hb dX5_copies_12 rfl (lv_at hl 0 rfl) ?_
  refine g_X5_9 C hinX5 hW (hS.1 64 (by omega) (by omega)) (by decide) (hS.2 9 (by omega) (by omega)) lk29 dX5_copies_13 ?_
  refine lv_iload_n hx hb dX5_copies_16 rfl (lv_at hl 2 rfl) ?_
  refine lv_aload_n hx hb dX5_copies_17 rfl (lv_at hl 0 rfl) ?_
  refine g_X5_9 C hinX5 hW (hS.1 64 (by omega) (by omega)) (by decide) (hS.2 9 (by omega) (by omega)) lk29 dX5_copies_18 ?_
  refine lv_iload_n hx hb dX5_copies_21 rfl (lv_at hl 1 rfl) ?_
  refine p_iald C hW (hS.1 71 (by omega) (by omega)) (by decide) (k := a) rfl (by rw [show ln 71 = 13 by decide]; omega) dX5_copies_22 ?_
  refine w_top (y := .int (I 71 a)) (by rw [eI1, va_up_ne _ _ (by decide)]) ?_
  refine p_iast C hW (hS.1 71 (by omega) (by omega)) (by decide) (k := b) rfl (by rw [show ln 71 = 13 by decide]; omega) dX5_copies_23 (fun H locs hW => ?_)
  obtain ⟨I2, eI2⟩ : ∃ z, z = va_up I1 71 (upd (I1 71) b (I 71 a)) := ⟨_, rfl⟩
  rw [← eI2] at hW
  refine lv_iconst (v := nI 0) hx hb dX5_copies_24 (by decide) ?_
  refine lv_istore_n (lv' := [(3, .int (nI 0)), (0, .ref (ad 64)), (1, .int (nI a)), (2, .int (nI b))]) hx hb dX5_copies_25 rfl hl (by decide) rfl (fun ls hl => ?_)
  have lp26 : ∀ (nn : Nat) (d : Nat) (J1 : mJ), (d ≤ 48) → (49 ≤ d + nn) → (blk J J1 b (fun k => if k < d then f k else J 72 (48 * b + k))) → ∀ (H : Heap) (locs : List Loc), Wd D cy A s.heap H locs L ad G I2 J1 → ∀ (ls : Array Slot), lv_has ls 4 [(0, .ref (ad 64)), (1, .int (nI a)), (2, .int (nI b)), (3, .int (nI d))] → W p l e rmX5_copies s m args below meth c H locs 0 0 Q (F0 m 26 ls []) := by
    intro nn
    induction nn with
    | zero => intros; exfalso; omega
    | succ nn ih26 =>
      intro d J1 hd hfu hB H locs hW ls hl
      refine lv_iload_n hx hb dX5_copies_26 rfl (lv_at hl 3 rfl) ?_
      refine lv_bipush (v := nI 48) hx hb dX5_copies_27 (by decide) ?_
      refine n_icmp_ge (tgt := 60) hx hb (by omega) (by omega) dX5_copies_29 (by decide) (fun hc_3 => ?_) (fun hc_3 => ?_)
      · skip
        exact ret _ _ _ _ _ _ _ _ (Nat.le_of_ble_eq_true rfl) (Nat.le_of_ble_eq_true rfl) hW ⟨by rw [eI2, eI1, va_up_ne (j := 71) _ _ (by decide)], hB.congr (fun k hk => by rw [if_pos (by omega)])⟩ dX5_copies_60
      · skip
        refine lv_aload_n hx hb dX5_copies_32 rfl (lv_at hl 0 rfl) ?_
        refine g_X5_10 C hinX5 hW (hS.1 64 (by omega) (by omega)) (by decide) (hS.2 10 (by omega) (by omega)) lk32 dX5_copies_33 ?_
        refine lv_bipush (v := nI 48) hx hb dX5_copies_36 (by decide) ?_
        refine lv_iload_n hx hb dX5_copies_38 rfl (lv_at hl 2 rfl) ?_
        refine n_imul hx hb dX5_copies_39 ?_
        refine lv_iload_n hx hb dX5_copies_40 rfl (lv_at hl 3 rfl) ?_
        refine n_iadd hx hb dX5_copies_41 ?_
        refine lv_aload_n hx hb dX5_copies_42 rfl (lv_at hl 0 rfl) ?_
        refine g_X5_10 C hinX5 hW (hS.1 64 (by omega) (by omega)) (by decide) (hS.2 10 (by omega) (by omega)) lk32 dX5_copies_43 ?_
        refine lv_bipush (v := nI 48) hx hb dX5_copies_46 (by decide) ?_
        refine lv_iload_n hx hb dX5_copies_48 rfl (lv_at hl 1 rfl) ?_
        refine n_imul hx hb dX5_copies_49 ?_
        refine lv_iload_n hx hb dX5_copies_50 rfl (lv_at hl 3 rfl) ?_
        refine n_iadd hx hb dX5_copies_51 ?_
        refine p_lald C hW (hS.1 72 (by omega) (by omega)) (by decide) (k := (48 * a) + d) rfl (by rw [show ln 72 = 624 by decide]; omega) dX5_copies_52 ?_
        refine w_top (y := .long (f d)) (by rw [cp_ld hB hf (by omega)]) ?_
        refine p_last C hW (hS.1 72 (by omega) (by omega)) (by decide) (k := (48 * b) + d) rfl (by rw [show ln 72 = 624 by decide]; omega) dX5_copies_53 (fun H locs hW => ?_)
        obtain ⟨J4, eJ4⟩ : ∃ z, z = va_up J1 72 (vp_updL (J1 72) ((48 * b) + d) (f d)) := ⟨_, rfl⟩
        rw [← eJ4] at hW
        refine lv_iinc (v := nI (d + 1)) (lv' := [(3, .int (nI (d + 1))), (0, .ref (ad 64)), (1, .int (nI a)), (2, .int (nI b))]) hx hb dX5_copies_54 hl (k := 3) rfl (nI_inc _) (by decide) rfl (fun ls hl => ?_)
        refine lv_goto (tgt := 26) hx hb dX5_copies_57 (by decide) ?_
        exact ih26 (d + 1) J4 (by omega) (by omega) (by rw [eJ4]; exact (hB.put (k := d) (by omega) (by omega) _).congr (fun k hk => by dsimp only [vp_updL]; by_cases hc : k = d; rw [if_pos (by omega), if_pos hc, hc]; rw [if_neg hc]; by_cases hc2 : k < d; rw [if_pos (by omega), if_pos hc2]; rw [if_neg (by omega), if_neg hc2])) _ _ hW ls (lv_sub hl [1, 2, 3, 0] rfl)
  exact lp26 49 0 J (by omega) (by omega) (blk.rf (fun k hk => by rw [if_neg (by omega)])) _ _ hW ls (lv_sub hl [1, 2, 3, 0] rfl)
