theorem sc_l {dr : Nat} (h : dr = 2 ∨ dr = 3 ∨ dr = 4) : (nI (scN dr)).toInt64 = scOf dr := by
  rcases h with rfl | rfl | rfl <;> decide
theorem left_in {hv sc wt w0 : Int64} {N d : Nat} (h : d < N) (h2 : ¬ hv < wt) (e : d + leftF hv sc (N - d) wt = leftF hv sc N w0) : d + 1 + leftF hv sc (N - (d + 1)) (wt * sc) = leftF hv sc N w0 := by
  rw [← e, show N - d = (N - (d + 1)) + 1 by omega, leftF, if_pos (Int64.not_lt.mp h2)]
  omega
theorem left_out {hv sc wt : Int64} {N : Nat} (h2 : hv < wt) : leftF hv sc N wt = 0 := by
  cases N with
  | zero => rfl
  | succ n => rw [leftF, if_neg (Int64.not_le.mpr h2)]
theorem turn_0 {dr : Nat} (f : Nat → Int64) (k : Nat) : turnF 0 dr f k = f k := by
  unfold turnF
  rw [if_neg (by rw [dor_iff]; omega)]
theorem less_0 {dr : Nat} (f : Nat → Int64) (k : Nat) : lessF 0 dr f k = f k := by
  unfold lessF
  rw [if_neg (by rw [dor_iff]; omega)]
theorem turn_s {a dr : Nat} (hd4 : dr = 2 ∨ dr = 3 ∨ dr = 4) (f : Nat → Int64) (k : Nat) : turnF (a + 1) dr f k = turn1 a dr (turnF a dr f) k := by
  unfold turn1
  by_cases h : k / 4 = a ∧ k % 4 < dr
  · rw [if_pos h]
    have h1 : turnF (a + 1) dr f k = tv dr f k := by unfold turnF; rw [if_pos (dor_iff.mpr ⟨by omega, h.2⟩)]
    rw [h1]
    refine tv_congr h.2 hd4 (fun j hj => ?_)
    unfold turnF
    rw [if_neg (by rw [dor_iff]; omega)]
  · rw [if_neg h]
    unfold turnF
    by_cases h2 : dor a dr k = true
    · rw [if_pos h2, if_pos (by rw [dor_iff] at h2 ⊢; omega)]
    · rw [if_neg h2, if_neg (by rw [dor_iff] at h2 ⊢; omega)]
theorem less_s {a dr : Nat} (hd4 : dr = 2 ∨ dr = 3 ∨ dr = 4) (f : Nat → Int64) (k : Nat) : lessF (a + 1) dr (turnF (a + 1) dr f) k = less1 a dr (turn1 a dr (lessF a dr (turnF a dr f))) k := by
  unfold less1
  by_cases h : k / 4 = a ∧ k % 4 < dr
  · rw [if_pos h]
    have h1 : lessF (a + 1) dr (turnF (a + 1) dr f) k = tv dr f k / scOf dr := by unfold lessF turnF; rw [if_pos (dor_iff.mpr ⟨by omega, h.2⟩), if_pos (dor_iff.mpr ⟨by omega, h.2⟩)]
    have h2 : turn1 a dr (lessF a dr (turnF a dr f)) k = tv dr f k := by
      unfold turn1
      rw [if_pos h]
      refine tv_congr h.2 hd4 (fun j hj => ?_)
      unfold lessF turnF
      rw [if_neg (by rw [dor_iff]; omega), if_neg (by rw [dor_iff]; omega)]
    rw [h1, h2]
  · rw [if_neg h]
    unfold turn1
    rw [if_neg h]
    unfold lessF turnF
    by_cases h2 : dor a dr k = true
    · rw [if_pos h2, if_pos h2, if_pos (by rw [dor_iff] at h2 ⊢; omega), if_pos (by rw [dor_iff] at h2 ⊢; omega)]
    · rw [if_neg h2, if_neg h2, if_neg (by rw [dor_iff] at h2 ⊢; omega), if_neg (by rw [dor_iff] at h2 ⊢; omega)]
abbrev rmX3_stepsLeft : Room := { frames := 2, cells := 0, slots := 0, locals := 50 }
set_option maxHeartbeats 4000000 in
set_option maxRecDepth 100000 in
theorem c_X3_stepsLeft (l : Launch) (D : va_G) (cy : Nat → ClassId) (L : List Nat) (ad : Nat → Nat) (G : mG) (I : mI) (J : mJ) (w q : Nat) (hV : isV L G w q) (n t k : Nat) (hN : isN L G n t k) (pl dr : Nat) (hpl : I n 0 = nI pl) (hdr : I n 1 = nI dr) (hp12 : pl ≤ 12) (hd4 : dr = 2 ∨ dr = 3 ∨ dr = 4) (hsc : I n 2 = nI (scN dr)) (tm : Nat) (htm : I w 1 = nI tm) (ht60 : tm ≤ 60) : pMet l yX3_stepsLeft wsX3_stepsLeft rmX3_stepsLeft D cy L ad G I J [.ref (ad w), .ref (ad n)] (qI (fun v I' J' => v = nI (leftF (J n 3) (scOf dr) (60 - tm) (sqs (J q))) ∧ I' = I ∧ J' = J) D cy L ad G) := by
  refine pMet.ofI (cc := cX3_stepsLeft) (maxL := 5) (by decide +kernel) rfl (Nat.le_of_ble_eq_true rfl) ?_
  intro p e R s m args below meth c A Q C hml hR hg ret hW ls hl
  subst hR
  have C : Cx p s m args c cX3_stepsLeft RX3 wsX3_stepsLeft D cy A := C
  have hx := C.1
  have hb := C.2.1
  have lk15 := C.2.2.2.1 (.fieldLink RX3 15 "WaveWalk$Wave" "time" "I") (by decide +kernel)
  have lk49 := C.2.2.2.1 (.fieldLink RX3 49 "WaveWalk$Net" "heaviestToStep" "J") (by decide +kernel)
  have lk53 := C.2.2.2.1 (.fieldLink RX3 53 "WaveWalk$Net" "scale" "I") (by decide +kernel)
  have hinX1 : ∀ w ∈ wsX10, w ∈ wsX3_stepsLeft := by decide +kernel
  have hinX3 : ∀ w ∈ wsX30, w ∈ wsX3_stepsLeft := by decide +kernel
  have hl : lv_has ls 5 [(0, .ref (ad w)), (1, .ref (ad n))] := hl
  obtain ⟨hw, kw, gq, hq, kq, lq⟩ := id hV
  obtain ⟨hn, kn, gt, ht, kt, lt, gk, hk, kk, lk⟩ := id hN
  refine lv_aload_n hx hb dX3_stepsLeft_0 rfl (lv_at hl 0 rfl) ?_
  refine p_cVl C hml hg hW (c_X3_squares l D cy L ad G I J w q hV) (cwV 0 C.2.2.2.1 gX3_stepsLeft_X3_squares rfl rfl rfl (by decide +kernel) ⟨Nat.le_of_ble_eq_true rfl, Nat.le_of_ble_eq_true rfl⟩) (p_recv C hW hw (pF_3 kw) rfl) rfl hl.1 rfl (Nat.le_of_ble_eq_true rfl) dX3_stepsLeft_1 (Nat.le_of_ble_eq_true rfl) (Nat.le_of_ble_eq_true rfl) (fun v1 I2 J3 H locs hp hW => ?_)
  obtain ⟨hv, hI, hJ⟩ := hp
  subst v1
  subst I2
  subst J3
  refine lv_lstore_n (lv' := [(2, .long (sqs (J q))), (0, .ref (ad w)), (1, .ref (ad n))]) hx hb dX3_stepsLeft_4 rfl hl (by decide) rfl (fun ls hl => ?_)
  refine lv_iconst (v := nI 0) hx hb dX3_stepsLeft_5 (by decide) ?_
  refine lv_istore (lv' := [(4, .int (nI 0)), (2, .long (sqs (J q))), (0, .ref (ad w)), (1, .ref (ad n))]) hx hb dX3_stepsLeft_6 hl (by decide) rfl (fun ls hl => ?_)
  have lp8 : ∀ (nn : Nat) (d : Nat) (wt : Int64), (d ≤ 60 - tm) → (61 ≤ d + nn) → (d + leftF (J n 3) (scOf dr) (60 - tm - d) wt = leftF (J n 3) (scOf dr) (60 - tm) (sqs (J q))) → ∀ (H : Heap) (locs : List Loc), Wd D cy A s.heap H locs L ad G I J → ∀ (ls : Array Slot), lv_has ls 5 [(0, .ref (ad w)), (1, .ref (ad n)), (2, .long wt), (4, .int (nI d))] → W p l e rmX3_stepsLeft s m args below meth c H locs 0 0 Q (F0 m 8 ls []) := by
    intro nn
    induction nn with
    | zero => intros; exfalso; omega
    | succ nn ih8 =>
      intro d wt hd hf hv9 H locs hW ls hl
      refine lv_iload hx hb dX3_stepsLeft_8 (lv_at hl 3 rfl) ?_
      refine lv_bipush (v := nI 60) hx hb dX3_stepsLeft_10 (by decide) ?_
      refine lv_aload_n hx hb dX3_stepsLeft_12 rfl (lv_at hl 0 rfl) ?_
      refine g_X3_1 C hinX3 hW hw kw lk15 dX3_stepsLeft_13 ?_
      refine w_top (y := .int (nI tm)) (by rw [htm]) ?_
      refine n_isub hx hb (by omega) dX3_stepsLeft_16 ?_
      refine n_icmp_ge (tgt := 43) hx hb (by omega) (by omega) dX3_stepsLeft_17 (by decide) (fun h4 => ?_) (fun h4 => ?_)
      · skip
        refine lv_iload hx hb dX3_stepsLeft_43 (lv_at hl 3 rfl) ?_
        exact ret _ _ _ _ _ _ _ _ _ (Nat.le_of_ble_eq_true rfl) (Nat.le_of_ble_eq_true rfl) hW ⟨by rw [← hv9, show 60 - tm - d = 0 by omega]; rfl, rfl, rfl⟩ dX3_stepsLeft_45
      · skip
        refine lv_lload_n hx hb dX3_stepsLeft_20 rfl (lv_at hl 2 rfl) ?_
        refine lv_aload_n hx hb dX3_stepsLeft_21 rfl (lv_at hl 1 rfl) ?_
        refine g_X1_3 C hinX1 hW hn kn lk49 dX3_stepsLeft_22 ?_
        refine l_gt (tgt := 43) hx hb dX3_stepsLeft_25 dX3_stepsLeft_26 (by decide) (fun h5 => ?_) (fun h5 => ?_)
        · skip
          refine lv_iload hx hb dX3_stepsLeft_43 (lv_at hl 3 rfl) ?_
          exact ret _ _ _ _ _ _ _ _ _ (Nat.le_of_ble_eq_true rfl) (Nat.le_of_ble_eq_true rfl) hW ⟨by rw [← hv9, left_out h5]; rfl, rfl, rfl⟩ dX3_stepsLeft_45
        · skip
          refine lv_lload_n hx hb dX3_stepsLeft_29 rfl (lv_at hl 2 rfl) ?_
          refine lv_aload_n hx hb dX3_stepsLeft_30 rfl (lv_at hl 1 rfl) ?_
          refine g_X1_2 C hinX1 hW hn kn lk53 dX3_stepsLeft_31 ?_
          refine w_top (y := .int (nI (scN dr))) (by rw [hsc]) ?_
          refine lv_i2l (v := scOf dr) hx hb dX3_stepsLeft_34 (sc_l hd4) ?_
          refine lv_lmul hx hb dX3_stepsLeft_35 ?_
          refine lv_lstore_n (lv' := [(2, .long (wt * (scOf dr))), (0, .ref (ad w)), (1, .ref (ad n)), (4, .int (nI d))]) hx hb dX3_stepsLeft_36 rfl hl (by decide) rfl (fun ls hl => ?_)
          refine lv_iinc (v := nI (d + 1)) (lv' := [(4, .int (nI (d + 1))), (2, .long (wt * (scOf dr))), (0, .ref (ad w)), (1, .ref (ad n))]) hx hb dX3_stepsLeft_37 hl (k := 3) rfl (nI_inc _) (by decide) rfl (fun ls hl => ?_)
          refine lv_goto (tgt := 8) hx hb dX3_stepsLeft_40 (by decide) ?_
          exact ih8 (d + 1) (wt * scOf dr) (by omega) (by omega) (left_in (by omega) h5 hv9) _ _ hW ls (lv_sub hl [2, 3, 1, 0] rfl)
  exact lp8 61 0 (sqs (J q)) (by omega) (by omega) (by rw [Nat.zero_add, Nat.sub_zero]) _ _ hW ls (lv_sub hl [2, 3, 1, 0] rfl)
abbrev rmX3_doStep : Room := { frames := 1, cells := 0, slots := 0, locals := 27 }
set_option maxHeartbeats 4000000 in
set_option maxRecDepth 100000 in
theorem c_X3_doStep (l : Launch) (D : va_G) (cy : Nat → ClassId) (L : List Nat) (ad : Nat → Nat) (G : mG) (I : mI) (J : mJ) (w q : Nat) (hV : isV L G w q) (n t k : Nat) (hN : isN L G n t k) (pl dr : Nat) (hpl : I n 0 = nI pl) (hdr : I n 1 = nI dr) (hp12 : pl ≤ 12) (hd4 : dr = 2 ∨ dr = 3 ∨ dr = 4) (mk : Nat → Bool) (hmk : ∀ c, c < 12 → I k c = bI (mk c)) (to : Nat → Nat) (hto : ∀ c, c < 48 → I t c = nI (to c)) (hpr : pairs pl dr to) (tm : Nat) (htm : I w 1 = nI tm) (ht60 : tm ≤ 60) : pMet l yX3_doStep wsX3_doStep rmX3_doStep D cy L ad G I J [.ref (ad w), .ref (ad n)] (qV (fun I' J' => I' = va_up I w (upd (I w) 1 (nI (tm + 1))) ∧ J' = va_up J q (stepF pl dr to mk (J q))) D cy L ad G) := by
  refine pMet.ofV (cc := cX3_doStep) (maxL := 3) (by decide +kernel) rfl (Nat.le_of_ble_eq_true rfl) ?_
  intro p e R s m args below meth c A Q C hml hR hg ret hW ls hl
  subst hR
  have C : Cx p s m args c cX3_doStep RX3 wsX3_doStep D cy A := C
  have hx := C.1
  have hb := C.2.1
  have lk15 := C.2.2.2.1 (.fieldLink RX3 15 "WaveWalk$Wave" "time" "I") (by decide +kernel)
  have lk25 := C.2.2.2.1 (.fieldLink RX3 25 "WaveWalk$Net" "places" "I") (by decide +kernel)
  have lk30 := C.2.2.2.1 (.fieldLink RX3 30 "WaveWalk$Net" "doors" "I") (by decide +kernel)
  have hinX1 : ∀ w ∈ wsX10, w ∈ wsX3_doStep := by decide +kernel
  have hinX3 : ∀ w ∈ wsX30, w ∈ wsX3_doStep := by decide +kernel
  have hl : lv_has ls 3 [(0, .ref (ad w)), (1, .ref (ad n))] := hl
  obtain ⟨hw, kw, gq, hq, kq, lq⟩ := id hV
  obtain ⟨hn, kn, gt, ht, kt, lt, gk, hk, kk, lk⟩ := id hN
  have hW : Wd D cy A s.heap s.heap [] L ad G I (va_up J q (J q)) := by rw [up_same]; exact hW
  refine lv_aload_n hx hb dX3_doStep_0 rfl (lv_at hl 0 rfl) ?_
  refine lv_aload_n hx hb dX3_doStep_1 rfl (lv_at hl 1 rfl) ?_
  refine p_cVv C hml hg hW (c_X3_changeSigns l D cy L ad G I (va_up J q (J q)) w q hV n t k hN pl dr hpl hdr hp12 hd4 mk hmk) (cwV 1 C.2.2.2.1 gX3_doStep_X3_changeSigns rfl rfl rfl (by decide +kernel) ⟨Nat.le_of_ble_eq_true rfl, Nat.le_of_ble_eq_true rfl⟩) (p_recv C hW hw (pF_3 kw) rfl) rfl hl.1 rfl (Nat.le_of_ble_eq_true rfl) dX3_doStep_2 (Nat.le_of_ble_eq_true rfl) (Nat.le_of_ble_eq_true rfl) (fun I1 J2 H locs hp hW => ?_)
  obtain ⟨hI, hJ⟩ := hp
  rw [va_up_self, up_up] at hJ
  subst I1
  subst J2
  refine lv_iconst (v := nI 0) hx hb dX3_doStep_5 (by decide) ?_
  refine lv_istore_n (lv' := [(2, .int (nI 0)), (0, .ref (ad w)), (1, .ref (ad n))]) hx hb dX3_doStep_6 rfl hl (by decide) rfl (fun ls hl => ?_)
  have lp7 : ∀ (nn : Nat) (a : Nat), (a ≤ pl) → (pl + 1 ≤ a + nn) → ∀ (H : Heap) (locs : List Loc), Wd D cy A s.heap H locs L ad G I (va_up J q (turnF a dr (signF pl dr mk (J q)))) → ∀ (ls : Array Slot), lv_has ls 3 [(0, .ref (ad w)), (1, .ref (ad n)), (2, .int (nI a))] → W p l e rmX3_doStep s m args below meth c H locs 0 0 Q (F0 m 7 ls []) := by
    intro nn
    induction nn with
    | zero => intros; exfalso; omega
    | succ nn ih7 =>
      intro a ha hf H locs hW ls hl
      refine lv_iload_n hx hb dX3_doStep_7 rfl (lv_at hl 2 rfl) ?_
      refine lv_aload_n hx hb dX3_doStep_8 rfl (lv_at hl 1 rfl) ?_
      refine g_X1_0 C hinX1 hW hn kn lk25 dX3_doStep_9 ?_
      refine w_top (y := .int (nI pl)) (by rw [hpl]) ?_
      refine n_icmp_ge (tgt := 30) hx hb (by omega) (by omega) dX3_doStep_12 (by decide) (fun h3 => ?_) (fun h3 => ?_)
      · skip
        have hap : a = pl := by omega
        rw [hap] at hW
        refine lv_aload_n hx hb dX3_doStep_30 rfl (lv_at hl 0 rfl) ?_
        refine lv_aload_n hx hb dX3_doStep_31 rfl (lv_at hl 1 rfl) ?_
        refine p_cVv C hml hg hW (c_X3_goThroughDoors l D cy L ad G I (va_up J q (turnF pl dr (signF pl dr mk (J q)))) w q hV n t k hN pl dr hpl hdr hp12 hd4 to hto hpr) (cwV 1 C.2.2.2.1 gX3_doStep_X3_goThroughDoors rfl rfl rfl (by decide +kernel) ⟨Nat.le_of_ble_eq_true rfl, Nat.le_of_ble_eq_true rfl⟩) (p_recv C hW hw (pF_3 kw) rfl) rfl hl.1 rfl (Nat.le_of_ble_eq_true rfl) dX3_doStep_32 (Nat.le_of_ble_eq_true rfl) (Nat.le_of_ble_eq_true rfl) (fun I4 J5 H locs hp hW => ?_)
        obtain ⟨hI, hJ⟩ := hp
        rw [va_up_self, up_up] at hJ
        subst I4
        subst J5
        refine lv_aload_n hx hb dX3_doStep_35 rfl (lv_at hl 0 rfl) ?_
        refine lv_dup hx hb dX3_doStep_36 rfl ?_
        refine g_X3_1 C hinX3 hW hw kw lk15 dX3_doStep_37 ?_
        refine w_top (y := .int (nI tm)) (by rw [htm]) ?_
        refine lv_iconst (v := nI 1) hx hb dX3_doStep_40 (by decide) ?_
        refine n_iadd hx hb dX3_doStep_41 ?_
        refine s_X3_1 C hinX3 hW hw kw lk15 dX3_doStep_42 (fun H locs hW => ?_)
        obtain ⟨I6, eI6⟩ : ∃ z, z = va_up I w (upd (I w) 1 (nI (tm + 1))) := ⟨_, rfl⟩
        rw [← eI6] at hW
        exact ret _ _ _ _ _ _ _ _ (Nat.le_of_ble_eq_true rfl) (Nat.le_of_ble_eq_true rfl) hW ⟨eI6, rfl⟩ dX3_doStep_45
      · skip
        refine lv_aload_n hx hb dX3_doStep_15 rfl (lv_at hl 0 rfl) ?_
        refine lv_iload_n hx hb dX3_doStep_16 rfl (lv_at hl 2 rfl) ?_
        refine lv_aload_n hx hb dX3_doStep_17 rfl (lv_at hl 1 rfl) ?_
        refine g_X1_1 C hinX1 hW hn kn lk30 dX3_doStep_18 ?_
        refine w_top (y := .int (nI dr)) (by rw [hdr]) ?_
        refine p_cVv C hml hg hW (c_X3_turnAt l D cy L ad G I (va_up J q (turnF a dr (signF pl dr mk (J q)))) w q hV a dr (by omega) hd4) (cwV 2 C.2.2.2.1 gX3_doStep_X3_turnAt rfl rfl rfl (by decide +kernel) ⟨Nat.le_of_ble_eq_true rfl, Nat.le_of_ble_eq_true rfl⟩) (p_recv C hW hw (pF_3 kw) rfl) rfl hl.1 rfl (Nat.le_of_ble_eq_true rfl) dX3_doStep_21 (Nat.le_of_ble_eq_true rfl) (Nat.le_of_ble_eq_true rfl) (fun I7 J8 H locs hp hW => ?_)
        obtain ⟨hI, hJ⟩ := hp
        rw [va_up_self, up_up] at hJ
        subst I7
        subst J8
        refine lv_iinc (v := nI (a + 1)) (lv' := [(2, .int (nI (a + 1))), (0, .ref (ad w)), (1, .ref (ad n))]) hx hb dX3_doStep_24 hl (k := 2) rfl (nI_inc _) (by decide) rfl (fun ls hl => ?_)
        refine lv_goto (tgt := 7) hx hb dX3_doStep_27 (by decide) ?_
        have hW := Wd_setJ (g := (turnF (a + 1) dr (signF pl dr mk (J q)))) hW kq (by rw [lq]; exact (fun k hk => turn_s hd4 _ k))
        exact ih7 (a + 1) (by omega) (by omega) _ _ hW ls (lv_sub hl [1, 2, 0] rfl)
  have hW := Wd_setJ (g := (turnF 0 dr (signF pl dr mk (J q)))) hW kq (by rw [lq]; exact (fun k hk => turn_0 _ k))
  exact lp7 (pl + 1) 0 (by omega) (by omega) _ _ hW ls (lv_sub hl [1, 2, 0] rfl)
abbrev rmX3_undoStep : Room := { frames := 1, cells := 0, slots := 0, locals := 27 }
set_option maxHeartbeats 4000000 in
set_option maxRecDepth 100000 in
theorem c_X3_undoStep (l : Launch) (D : va_G) (cy : Nat → ClassId) (L : List Nat) (ad : Nat → Nat) (G : mG) (I : mI) (J : mJ) (w q : Nat) (hV : isV L G w q) (n t k : Nat) (hN : isN L G n t k) (pl dr : Nat) (hpl : I n 0 = nI pl) (hdr : I n 1 = nI dr) (hp12 : pl ≤ 12) (hd4 : dr = 2 ∨ dr = 3 ∨ dr = 4) (mk : Nat → Bool) (hmk : ∀ c, c < 12 → I k c = bI (mk c)) (to : Nat → Nat) (hto : ∀ c, c < 48 → I t c = nI (to c)) (hpr : pairs pl dr to) (tm : Nat) (htm : I w 1 = nI tm) (ht60 : tm ≤ 60) (ht1 : 1 ≤ tm) : pMet l yX3_undoStep wsX3_undoStep rmX3_undoStep D cy L ad G I J [.ref (ad w), .ref (ad n)] (qV (fun I' J' => I' = va_up I w (upd (I w) 1 (nI (tm - 1))) ∧ J' = va_up J q (undoF pl dr to mk (J q))) D cy L ad G) := by
  refine pMet.ofV (cc := cX3_undoStep) (maxL := 3) (by decide +kernel) rfl (Nat.le_of_ble_eq_true rfl) ?_
  intro p e R s m args below meth c A Q C hml hR hg ret hW ls hl
  subst hR
  have C : Cx p s m args c cX3_undoStep RX3 wsX3_undoStep D cy A := C
  have hx := C.1
  have hb := C.2.1
  have lk15 := C.2.2.2.1 (.fieldLink RX3 15 "WaveWalk$Wave" "time" "I") (by decide +kernel)
  have lk25 := C.2.2.2.1 (.fieldLink RX3 25 "WaveWalk$Net" "places" "I") (by decide +kernel)
  have lk30 := C.2.2.2.1 (.fieldLink RX3 30 "WaveWalk$Net" "doors" "I") (by decide +kernel)
  have hinX1 : ∀ w ∈ wsX10, w ∈ wsX3_undoStep := by decide +kernel
  have hinX3 : ∀ w ∈ wsX30, w ∈ wsX3_undoStep := by decide +kernel
  have hl : lv_has ls 3 [(0, .ref (ad w)), (1, .ref (ad n))] := hl
  obtain ⟨hw, kw, gq, hq, kq, lq⟩ := id hV
  obtain ⟨hn, kn, gt, ht, kt, lt, gk, hk, kk, lk⟩ := id hN
  have hW : Wd D cy A s.heap s.heap [] L ad G I (va_up J q (J q)) := by rw [up_same]; exact hW
  refine lv_aload_n hx hb dX3_undoStep_0 rfl (lv_at hl 0 rfl) ?_
  refine lv_aload_n hx hb dX3_undoStep_1 rfl (lv_at hl 1 rfl) ?_
  refine p_cVv C hml hg hW (c_X3_goThroughDoors l D cy L ad G I (va_up J q (J q)) w q hV n t k hN pl dr hpl hdr hp12 hd4 to hto hpr) (cwV 1 C.2.2.2.1 gX3_undoStep_X3_goThroughDoors rfl rfl rfl (by decide +kernel) ⟨Nat.le_of_ble_eq_true rfl, Nat.le_of_ble_eq_true rfl⟩) (p_recv C hW hw (pF_3 kw) rfl) rfl hl.1 rfl (Nat.le_of_ble_eq_true rfl) dX3_undoStep_2 (Nat.le_of_ble_eq_true rfl) (Nat.le_of_ble_eq_true rfl) (fun I1 J2 H locs hp hW => ?_)
  obtain ⟨hI, hJ⟩ := hp
  rw [va_up_self, up_up] at hJ
  subst I1
  subst J2
  refine lv_iconst (v := nI 0) hx hb dX3_undoStep_5 (by decide) ?_
  refine lv_istore_n (lv' := [(2, .int (nI 0)), (0, .ref (ad w)), (1, .ref (ad n))]) hx hb dX3_undoStep_6 rfl hl (by decide) rfl (fun ls hl => ?_)
  have lp7 : ∀ (nn : Nat) (a : Nat), (a ≤ pl) → (pl + 1 ≤ a + nn) → ∀ (H : Heap) (locs : List Loc), Wd D cy A s.heap H locs L ad G I (va_up J q (lessF a dr (turnF a dr (goF to (J q))))) → ∀ (ls : Array Slot), lv_has ls 3 [(0, .ref (ad w)), (1, .ref (ad n)), (2, .int (nI a))] → W p l e rmX3_undoStep s m args below meth c H locs 0 0 Q (F0 m 7 ls []) := by
    intro nn
    induction nn with
    | zero => intros; exfalso; omega
    | succ nn ih7 =>
      intro a ha hf H locs hW ls hl
      refine lv_iload_n hx hb dX3_undoStep_7 rfl (lv_at hl 2 rfl) ?_
      refine lv_aload_n hx hb dX3_undoStep_8 rfl (lv_at hl 1 rfl) ?_
      refine g_X1_0 C hinX1 hW hn kn lk25 dX3_undoStep_9 ?_
      refine w_top (y := .int (nI pl)) (by rw [hpl]) ?_
      refine n_icmp_ge (tgt := 39) hx hb (by omega) (by omega) dX3_undoStep_12 (by decide) (fun h3 => ?_) (fun h3 => ?_)
      · skip
        have hap : a = pl := by omega
        rw [hap] at hW
        refine lv_aload_n hx hb dX3_undoStep_39 rfl (lv_at hl 0 rfl) ?_
        refine lv_aload_n hx hb dX3_undoStep_40 rfl (lv_at hl 1 rfl) ?_
        refine p_cVv C hml hg hW (c_X3_changeSigns l D cy L ad G I (va_up J q (lessF pl dr (turnF pl dr (goF to (J q))))) w q hV n t k hN pl dr hpl hdr hp12 hd4 mk hmk) (cwV 1 C.2.2.2.1 gX3_undoStep_X3_changeSigns rfl rfl rfl (by decide +kernel) ⟨Nat.le_of_ble_eq_true rfl, Nat.le_of_ble_eq_true rfl⟩) (p_recv C hW hw (pF_3 kw) rfl) rfl hl.1 rfl (Nat.le_of_ble_eq_true rfl) dX3_undoStep_41 (Nat.le_of_ble_eq_true rfl) (Nat.le_of_ble_eq_true rfl) (fun I4 J5 H locs hp hW => ?_)
        obtain ⟨hI, hJ⟩ := hp
        rw [va_up_self, up_up] at hJ
        subst I4
        subst J5
        refine lv_aload_n hx hb dX3_undoStep_44 rfl (lv_at hl 0 rfl) ?_
        refine lv_dup hx hb dX3_undoStep_45 rfl ?_
        refine g_X3_1 C hinX3 hW hw kw lk15 dX3_undoStep_46 ?_
        refine w_top (y := .int (nI tm)) (by rw [htm]) ?_
        refine lv_iconst (v := nI 1) hx hb dX3_undoStep_49 (by decide) ?_
        refine n_isub hx hb (by omega) dX3_undoStep_50 ?_
        refine s_X3_1 C hinX3 hW hw kw lk15 dX3_undoStep_51 (fun H locs hW => ?_)
        obtain ⟨I6, eI6⟩ : ∃ z, z = va_up I w (upd (I w) 1 (nI (tm - 1))) := ⟨_, rfl⟩
        rw [← eI6] at hW
        exact ret _ _ _ _ _ _ _ _ (Nat.le_of_ble_eq_true rfl) (Nat.le_of_ble_eq_true rfl) hW ⟨eI6, rfl⟩ dX3_undoStep_54
      · skip
        refine lv_aload_n hx hb dX3_undoStep_15 rfl (lv_at hl 0 rfl) ?_
        refine lv_iload_n hx hb dX3_undoStep_16 rfl (lv_at hl 2 rfl) ?_
        refine lv_aload_n hx hb dX3_undoStep_17 rfl (lv_at hl 1 rfl) ?_
        refine g_X1_1 C hinX1 hW hn kn lk30 dX3_undoStep_18 ?_
        refine w_top (y := .int (nI dr)) (by rw [hdr]) ?_
        refine p_cVv C hml hg hW (c_X3_turnAt l D cy L ad G I (va_up J q (lessF a dr (turnF a dr (goF to (J q))))) w q hV a dr (by omega) hd4) (cwV 2 C.2.2.2.1 gX3_undoStep_X3_turnAt rfl rfl rfl (by decide +kernel) ⟨Nat.le_of_ble_eq_true rfl, Nat.le_of_ble_eq_true rfl⟩) (p_recv C hW hw (pF_3 kw) rfl) rfl hl.1 rfl (Nat.le_of_ble_eq_true rfl) dX3_undoStep_21 (Nat.le_of_ble_eq_true rfl) (Nat.le_of_ble_eq_true rfl) (fun I7 J8 H locs hp hW => ?_)
        obtain ⟨hI, hJ⟩ := hp
        rw [va_up_self, up_up] at hJ
        subst I7
        subst J8
        refine lv_aload_n hx hb dX3_undoStep_24 rfl (lv_at hl 0 rfl) ?_
        refine lv_iload_n hx hb dX3_undoStep_25 rfl (lv_at hl 2 rfl) ?_
        refine lv_aload_n hx hb dX3_undoStep_26 rfl (lv_at hl 1 rfl) ?_
        refine g_X1_1 C hinX1 hW hn kn lk30 dX3_undoStep_27 ?_
        refine w_top (y := .int (nI dr)) (by rw [hdr]) ?_
        refine p_cVv C hml hg hW (c_X3_lessenAt l D cy L ad G I (va_up J q (turn1 a dr (lessF a dr (turnF a dr (goF to (J q)))))) w q hV a dr (by omega) hd4) (cwV 2 C.2.2.2.1 gX3_undoStep_X3_lessenAt rfl rfl rfl (by decide +kernel) ⟨Nat.le_of_ble_eq_true rfl, Nat.le_of_ble_eq_true rfl⟩) (p_recv C hW hw (pF_3 kw) rfl) rfl hl.1 rfl (Nat.le_of_ble_eq_true rfl) dX3_undoStep_30 (Nat.le_of_ble_eq_true rfl) (Nat.le_of_ble_eq_true rfl) (fun I9 J10 H locs hp hW => ?_)
        obtain ⟨hI, hJ⟩ := hp
        rw [va_up_self, up_up] at hJ
        subst I9
        subst J10
        refine lv_iinc (v := nI (a + 1)) (lv' := [(2, .int (nI (a + 1))), (0, .ref (ad w)), (1, .ref (ad n))]) hx hb dX3_undoStep_33 hl (k := 2) rfl (nI_inc _) (by decide) rfl (fun ls hl => ?_)
        refine lv_goto (tgt := 7) hx hb dX3_undoStep_36 (by decide) ?_
        have hW := Wd_setJ (g := (lessF (a + 1) dr (turnF (a + 1) dr (goF to (J q))))) hW kq (by rw [lq]; exact (fun k hk => less_s hd4 _ k))
        exact ih7 (a + 1) (by omega) (by omega) _ _ hW ls (lv_sub hl [1, 2, 0] rfl)
  have hW := Wd_setJ (g := (lessF 0 dr (turnF 0 dr (goF to (J q))))) hW kq (by rw [lq]; exact (fun k hk => by rw [less_0, turn_0]))
  exact lp7 (pl + 1) 0 (by omega) (by omega) _ _ hW ls (lv_sub hl [1, 2, 0] rfl)
