abbrev rmX3_squaresAt : Room := { frames := 0, cells := 0, slots := 0, locals := 0 }
set_option maxHeartbeats 4000000 in
set_option maxRecDepth 100000 in
theorem c_X3_squaresAt (l : Launch) (D : va_G) (cy : Nat → ClassId) (L : List Nat) (ad : Nat → Nat) (G : mG) (I : mI) (J : mJ) (w q : Nat) (hV : isV L G w q) (pl : Nat) (hp : pl < 12) : pMet l yX3_squaresAt wsX3_squaresAt rmX3_squaresAt D cy L ad G I J [.ref (ad w), .int (nI pl)] (qL (fun v I' J' => v = sqAt (J q) pl ∧ I' = I ∧ J' = J) D cy L ad G) := by
  refine pMet.ofL (cc := cX3_squaresAt) (maxL := 6) (by decide +kernel) rfl (Nat.le_of_ble_eq_true rfl) ?_
  intro p e R s m args below meth c A Q C hml hR hg ret hW ls hl
  subst hR
  have C : Cx p s m args c cX3_squaresAt RX3 wsX3_squaresAt D cy A := C
  have hx := C.1
  have hb := C.2.1
  have lk9 := C.2.2.2.1 (.fieldLink RX3 9 "WaveWalk$Wave" "numbers" "[J") (by decide +kernel)
  have hinX3 : ∀ w ∈ wsX30, w ∈ wsX3_squaresAt := by decide +kernel
  have hl : lv_has ls 6 [(0, .ref (ad w)), (1, .int (nI pl))] := hl
  obtain ⟨hw, kw, gq, hq, kq, lq⟩ := id hV
  refine lv_iload_n hx hb dX3_squaresAt_0 rfl (lv_at hl 1 rfl) ?_
  refine lv_iconst (v := nI 4) hx hb dX3_squaresAt_1 (by decide) ?_
  refine n_imul hx hb dX3_squaresAt_2 ?_
  refine lv_istore_n (lv' := [(2, .int (nI (pl * 4))), (0, .ref (ad w)), (1, .int (nI pl))]) hx hb dX3_squaresAt_3 rfl hl (by decide) rfl (fun ls hl => ?_)
  refine lv_lconst (v := 0) hx hb dX3_squaresAt_4 (by decide) ?_
  refine lv_lstore_n (lv' := [(3, .long 0), (2, .int (nI (pl * 4))), (0, .ref (ad w)), (1, .int (nI pl))]) hx hb dX3_squaresAt_5 rfl hl (by decide) rfl (fun ls hl => ?_)
  refine lv_iload_n hx hb dX3_squaresAt_6 rfl (lv_at hl 1 rfl) ?_
  refine lv_istore (lv' := [(5, .int (nI (pl * 4))), (3, .long 0), (2, .int (nI (pl * 4))), (0, .ref (ad w)), (1, .int (nI pl))]) hx hb dX3_squaresAt_7 hl (by decide) rfl (fun ls hl => ?_)
  have lp9 : ∀ (nn : Nat) (d : Nat), (d ≤ 4) → (5 ≤ d + nn) → ∀ (H : Heap) (locs : List Loc), Wd D cy A s.heap H locs L ad G I J → ∀ (ls : Array Slot), lv_has ls 6 [(0, .ref (ad w)), (1, .int (nI pl)), (2, .int (nI (pl * 4))), (3, .long (sqN (J q) (pl * 4) d)), (5, .int (nI (pl * 4 + d)))] → W p l e rmX3_squaresAt s m args below meth c H locs 0 0 Q (F0 m 9 ls []) := by
    intro nn
    induction nn with
    | zero => intros; exfalso; omega
    | succ nn ih9 =>
      intro d hd hn H locs hW ls hl
      refine lv_iload hx hb dX3_squaresAt_9 (lv_at hl 4 rfl) ?_
      refine lv_iload_n hx hb dX3_squaresAt_11 rfl (lv_at hl 2 rfl) ?_
      refine lv_iconst (v := nI 4) hx hb dX3_squaresAt_12 (by decide) ?_
      refine n_iadd hx hb dX3_squaresAt_13 ?_
      refine n_icmp_ge (tgt := 41) hx hb (by omega) (by omega) dX3_squaresAt_14 (by decide) (fun h1 => ?_) (fun h1 => ?_)
      · skip
        refine lv_lload_n hx hb dX3_squaresAt_41 rfl (lv_at hl 3 rfl) ?_
        exact ret _ _ _ _ _ _ _ _ _ (Nat.le_of_ble_eq_true rfl) (Nat.le_of_ble_eq_true rfl) hW ⟨by rw [show d = 4 by omega]; rfl, rfl, rfl⟩ dX3_squaresAt_42
      · skip
        refine lv_lload_n hx hb dX3_squaresAt_17 rfl (lv_at hl 3 rfl) ?_
        refine lv_aload_n hx hb dX3_squaresAt_18 rfl (lv_at hl 0 rfl) ?_
        refine g_X3_0 C hinX3 hW hw kw gq lk9 dX3_squaresAt_19 ?_
        refine lv_iload hx hb dX3_squaresAt_22 (lv_at hl 4 rfl) ?_
        refine p_lald C hW hq kq (k := pl * 4 + d) rfl (by rw [lq]; omega) dX3_squaresAt_24 ?_
        refine lv_aload_n hx hb dX3_squaresAt_25 rfl (lv_at hl 0 rfl) ?_
        refine g_X3_0 C hinX3 hW hw kw gq lk9 dX3_squaresAt_26 ?_
        refine lv_iload hx hb dX3_squaresAt_29 (lv_at hl 4 rfl) ?_
        refine p_lald C hW hq kq (k := pl * 4 + d) rfl (by rw [lq]; omega) dX3_squaresAt_31 ?_
        refine lv_lmul hx hb dX3_squaresAt_32 ?_
        refine lv_ladd hx hb dX3_squaresAt_33 ?_
        refine lv_lstore_n (lv' := [(3, .long ((sqN (J q) (pl * 4) d) + ((J q (pl * 4 + d)) * (J q (pl * 4 + d))))), (0, .ref (ad w)), (1, .int (nI pl)), (2, .int (nI (pl * 4))), (5, .int (nI (pl * 4 + d)))]) hx hb dX3_squaresAt_34 rfl hl (by decide) rfl (fun ls hl => ?_)
        refine lv_iinc (v := nI ((pl * 4 + d) + 1)) (lv' := [(5, .int (nI ((pl * 4 + d) + 1))), (3, .long ((sqN (J q) (pl * 4) d) + ((J q (pl * 4 + d)) * (J q (pl * 4 + d))))), (0, .ref (ad w)), (1, .int (nI pl)), (2, .int (nI (pl * 4)))]) hx hb dX3_squaresAt_35 hl (k := 4) rfl (nI_inc _) (by decide) rfl (fun ls hl => ?_)
        refine lv_goto (tgt := 9) hx hb dX3_squaresAt_38 (by decide) ?_
        exact ih9 (d + 1) (by omega) (by omega) _ _ hW ls (lv_sub hl [2, 3, 4, 1, 0] rfl)
  exact lp9 5 0 (by omega) (by omega) _ _ hW ls (lv_sub hl [3, 4, 2, 1, 0] rfl)
abbrev rmX3_squares : Room := { frames := 1, cells := 0, slots := 0, locals := 25 }
set_option maxHeartbeats 4000000 in
set_option maxRecDepth 100000 in
theorem c_X3_squares (l : Launch) (D : va_G) (cy : Nat → ClassId) (L : List Nat) (ad : Nat → Nat) (G : mG) (I : mI) (J : mJ) (w q : Nat) (hV : isV L G w q) : pMet l yX3_squares wsX3_squares rmX3_squares D cy L ad G I J [.ref (ad w)] (qL (fun v I' J' => v = sqs (J q) ∧ I' = I ∧ J' = J) D cy L ad G) := by
  refine pMet.ofL (cc := cX3_squares) (maxL := 4) (by decide +kernel) rfl (Nat.le_of_ble_eq_true rfl) ?_
  intro p e R s m args below meth c A Q C hml hR hg ret hW ls hl
  subst hR
  have C : Cx p s m args c cX3_squares RX3 wsX3_squares D cy A := C
  have hx := C.1
  have hb := C.2.1
  have hl : lv_has ls 4 [(0, .ref (ad w))] := hl
  obtain ⟨hw, kw, gq, hq, kq, lq⟩ := id hV
  refine lv_lconst (v := 0) hx hb dX3_squares_0 (by decide) ?_
  refine lv_lstore_n (lv' := [(1, .long 0), (0, .ref (ad w))]) hx hb dX3_squares_1 rfl hl (by decide) rfl (fun ls hl => ?_)
  refine lv_iconst (v := nI 0) hx hb dX3_squares_2 (by decide) ?_
  refine lv_istore_n (lv' := [(3, .int (nI 0)), (1, .long 0), (0, .ref (ad w))]) hx hb dX3_squares_3 rfl hl (by decide) rfl (fun ls hl => ?_)
  have lp4 : ∀ (nn : Nat) (d : Nat), (d ≤ 12) → (13 ≤ d + nn) → ∀ (H : Heap) (locs : List Loc), Wd D cy A s.heap H locs L ad G I J → ∀ (ls : Array Slot), lv_has ls 4 [(0, .ref (ad w)), (1, .long (sqA (J q) d)), (3, .int (nI d))] → W p l e rmX3_squares s m args below meth c H locs 0 0 Q (F0 m 4 ls []) := by
    intro nn
    induction nn with
    | zero => intros; exfalso; omega
    | succ nn ih4 =>
      intro d hd hn H locs hW ls hl
      refine lv_iload_n hx hb dX3_squares_4 rfl (lv_at hl 2 rfl) ?_
      refine lv_bipush (v := nI 12) hx hb dX3_squares_5 (by decide) ?_
      refine n_icmp_ge (tgt := 24) hx hb (by omega) (by omega) dX3_squares_7 (by decide) (fun h1 => ?_) (fun h1 => ?_)
      · skip
        refine lv_lload_n hx hb dX3_squares_24 rfl (lv_at hl 1 rfl) ?_
        exact ret _ _ _ _ _ _ _ _ _ (Nat.le_of_ble_eq_true rfl) (Nat.le_of_ble_eq_true rfl) hW ⟨by rw [show d = 12 by omega]; rfl, rfl, rfl⟩ dX3_squares_25
      · skip
        refine lv_lload_n hx hb dX3_squares_10 rfl (lv_at hl 1 rfl) ?_
        refine lv_aload_n hx hb dX3_squares_11 rfl (lv_at hl 0 rfl) ?_
        refine lv_iload_n hx hb dX3_squares_12 rfl (lv_at hl 2 rfl) ?_
        refine p_cVl C hml hg hW (c_X3_squaresAt l D cy L ad G I J w q hV d (by omega)) (cwV 1 C.2.2.2.1 gX3_squares_X3_squaresAt rfl rfl rfl (by decide +kernel) ⟨Nat.le_of_ble_eq_true rfl, Nat.le_of_ble_eq_true rfl⟩) (p_recv C hW hw (pF_3 kw) rfl) rfl hl.1 rfl (Nat.le_of_ble_eq_true rfl) dX3_squares_13 (Nat.le_of_ble_eq_true rfl) (Nat.le_of_ble_eq_true rfl) (fun v2 I3 J4 H locs hp hW => ?_)
        obtain ⟨hv, hI, hJ⟩ := hp
        subst v2
        subst I3
        subst J4
        refine lv_ladd hx hb dX3_squares_16 ?_
        refine lv_lstore_n (lv' := [(1, .long ((sqA (J q) d) + (sqAt (J q) d))), (0, .ref (ad w)), (3, .int (nI d))]) hx hb dX3_squares_17 rfl hl (by decide) rfl (fun ls hl => ?_)
        refine lv_iinc (v := nI (d + 1)) (lv' := [(3, .int (nI (d + 1))), (1, .long ((sqA (J q) d) + (sqAt (J q) d))), (0, .ref (ad w))]) hx hb dX3_squares_18 hl (k := 2) rfl (nI_inc _) (by decide) rfl (fun ls hl => ?_)
        refine lv_goto (tgt := 4) hx hb dX3_squares_21 (by decide) ?_
        exact ih4 (d + 1) (by omega) (by omega) _ _ hW ls (lv_sub hl [2, 1, 0] rfl)
  exact lp4 13 0 (by omega) (by omega) _ _ hW ls (lv_sub hl [2, 1, 0] rfl)
abbrev rmX3_squaresAtMarked : Room := { frames := 1, cells := 0, slots := 0, locals := 25 }
set_option maxHeartbeats 4000000 in
set_option maxRecDepth 100000 in
theorem c_X3_squaresAtMarked (l : Launch) (D : va_G) (cy : Nat → ClassId) (L : List Nat) (ad : Nat → Nat) (G : mG) (I : mI) (J : mJ) (w q : Nat) (hV : isV L G w q) (n t k : Nat) (hN : isN L G n t k) (pl dr : Nat) (hpl : I n 0 = nI pl) (hdr : I n 1 = nI dr) (hp12 : pl ≤ 12) (hd4 : dr = 2 ∨ dr = 3 ∨ dr = 4) (mk : Nat → Bool) (hmk : ∀ c, c < 12 → I k c = bI (mk c)) : pMet l yX3_squaresAtMarked wsX3_squaresAtMarked rmX3_squaresAtMarked D cy L ad G I J [.ref (ad w), .ref (ad n)] (qL (fun v I' J' => v = sqM (J q) mk pl ∧ I' = I ∧ J' = J) D cy L ad G) := by
  refine pMet.ofL (cc := cX3_squaresAtMarked) (maxL := 5) (by decide +kernel) rfl (Nat.le_of_ble_eq_true rfl) ?_
  intro p e R s m args below meth c A Q C hml hR hg ret hW ls hl
  subst hR
  have C : Cx p s m args c cX3_squaresAtMarked RX3 wsX3_squaresAtMarked D cy A := C
  have hx := C.1
  have hb := C.2.1
  have lk25 := C.2.2.2.1 (.fieldLink RX3 25 "WaveWalk$Net" "places" "I") (by decide +kernel)
  have lk41 := C.2.2.2.1 (.fieldLink RX3 41 "WaveWalk$Net" "marked" "[Z") (by decide +kernel)
  have hinX1 : ∀ w ∈ wsX10, w ∈ wsX3_squaresAtMarked := by decide +kernel
  have hl : lv_has ls 5 [(0, .ref (ad w)), (1, .ref (ad n))] := hl
  obtain ⟨hw, kw, gq, hq, kq, lq⟩ := id hV
  obtain ⟨hn, kn, gt, ht, kt, lt, gk, hk, kk, lk⟩ := id hN
  refine lv_lconst (v := 0) hx hb dX3_squaresAtMarked_0 (by decide) ?_
  refine lv_lstore_n (lv' := [(2, .long 0), (0, .ref (ad w)), (1, .ref (ad n))]) hx hb dX3_squaresAtMarked_1 rfl hl (by decide) rfl (fun ls hl => ?_)
  refine lv_iconst (v := nI 0) hx hb dX3_squaresAtMarked_2 (by decide) ?_
  refine lv_istore (lv' := [(4, .int (nI 0)), (2, .long 0), (0, .ref (ad w)), (1, .ref (ad n))]) hx hb dX3_squaresAtMarked_3 hl (by decide) rfl (fun ls hl => ?_)
  have lp5 : ∀ (nn : Nat) (d : Nat), (d ≤ pl) → (pl + 1 ≤ d + nn) → ∀ (H : Heap) (locs : List Loc), Wd D cy A s.heap H locs L ad G I J → ∀ (ls : Array Slot), lv_has ls 5 [(0, .ref (ad w)), (1, .ref (ad n)), (2, .long (sqM (J q) mk d)), (4, .int (nI d))] → W p l e rmX3_squaresAtMarked s m args below meth c H locs 0 0 Q (F0 m 5 ls []) := by
    intro nn
    induction nn with
    | zero => intros; exfalso; omega
    | succ nn ih5 =>
      intro d hd hn9 H locs hW ls hl
      refine lv_iload hx hb dX3_squaresAtMarked_5 (lv_at hl 3 rfl) ?_
      refine lv_aload_n hx hb dX3_squaresAtMarked_7 rfl (lv_at hl 1 rfl) ?_
      refine g_X1_0 C hinX1 hW hn kn lk25 dX3_squaresAtMarked_8 ?_
      refine w_top (y := .int (nI pl)) (by rw [hpl]) ?_
      refine n_icmp_ge (tgt := 39) hx hb (by omega) (by omega) dX3_squaresAtMarked_11 (by decide) (fun h1 => ?_) (fun h1 => ?_)
      · skip
        refine lv_lload_n hx hb dX3_squaresAtMarked_39 rfl (lv_at hl 2 rfl) ?_
        exact ret _ _ _ _ _ _ _ _ _ (Nat.le_of_ble_eq_true rfl) (Nat.le_of_ble_eq_true rfl) hW ⟨by rw [show d = pl by omega], rfl, rfl⟩ dX3_squaresAtMarked_40
      · skip
        refine lv_aload_n hx hb dX3_squaresAtMarked_14 rfl (lv_at hl 1 rfl) ?_
        refine g_X1_5 C hinX1 hW hn kn gk lk41 dX3_squaresAtMarked_15 ?_
        refine lv_iload hx hb dX3_squaresAtMarked_18 (lv_at hl 3 rfl) ?_
        refine p_zald C hW hk kk (k := d) rfl (by rw [lk]; omega) dX3_squaresAtMarked_20 ?_
        refine w_top (y := .int (bI (mk d))) (by rw [hmk _ (by omega)]) ?_
        refine b_if_eq (tgt := 33) hx hb dX3_squaresAtMarked_21 (by decide) (fun h2 => ?_) (fun h2 => ?_)
        · skip
          refine lv_iinc (v := nI (d + 1)) (lv' := [(4, .int (nI (d + 1))), (0, .ref (ad w)), (1, .ref (ad n)), (2, .long (sqM (J q) mk d))]) hx hb dX3_squaresAtMarked_33 hl (k := 3) rfl (nI_inc _) (by decide) rfl (fun ls hl => ?_)
          refine lv_goto (tgt := 5) hx hb dX3_squaresAtMarked_36 (by decide) ?_
          have e2 : sqM (J q) mk (d + 1) = sqM (J q) mk d := by rw [sqM]; simp [h2]
          rw [← e2] at hl
          exact ih5 (d + 1) (by omega) (by omega) _ _ hW ls (lv_sub hl [1, 2, 3, 0] rfl)
        · skip
          refine lv_lload_n hx hb dX3_squaresAtMarked_24 rfl (lv_at hl 2 rfl) ?_
          refine lv_aload_n hx hb dX3_squaresAtMarked_25 rfl (lv_at hl 0 rfl) ?_
          refine lv_iload hx hb dX3_squaresAtMarked_26 (lv_at hl 3 rfl) ?_
          refine p_cVl C hml hg hW (c_X3_squaresAt l D cy L ad G I J w q hV d (by omega)) (cwV 1 C.2.2.2.1 gX3_squaresAtMarked_X3_squaresAt rfl rfl rfl (by decide +kernel) ⟨Nat.le_of_ble_eq_true rfl, Nat.le_of_ble_eq_true rfl⟩) (p_recv C hW hw (pF_3 kw) rfl) rfl hl.1 rfl (Nat.le_of_ble_eq_true rfl) dX3_squaresAtMarked_28 (Nat.le_of_ble_eq_true rfl) (Nat.le_of_ble_eq_true rfl) (fun v3 I4 J5 H locs hp hW => ?_)
          obtain ⟨hv, hI, hJ⟩ := hp
          subst v3
          subst I4
          subst J5
          refine lv_ladd hx hb dX3_squaresAtMarked_31 ?_
          refine lv_lstore_n (lv' := [(2, .long ((sqM (J q) mk d) + (sqAt (J q) d))), (0, .ref (ad w)), (1, .ref (ad n)), (4, .int (nI d))]) hx hb dX3_squaresAtMarked_32 rfl hl (by decide) rfl (fun ls hl => ?_)
          refine lv_iinc (v := nI (d + 1)) (lv' := [(4, .int (nI (d + 1))), (2, .long ((sqM (J q) mk d) + (sqAt (J q) d))), (0, .ref (ad w)), (1, .ref (ad n))]) hx hb dX3_squaresAtMarked_33 hl (k := 3) rfl (nI_inc _) (by decide) rfl (fun ls hl => ?_)
          refine lv_goto (tgt := 5) hx hb dX3_squaresAtMarked_36 (by decide) ?_
          have e2 : sqM (J q) mk (d + 1) = (sqM (J q) mk d) + (sqAt (J q) d) := by rw [sqM]; simp [h2]
          rw [← e2] at hl
          exact ih5 (d + 1) (by omega) (by omega) _ _ hW ls (lv_sub hl [2, 3, 1, 0] rfl)
  exact lp5 (pl + 1) 0 (by omega) (by omega) _ _ hW ls (lv_sub hl [2, 3, 1, 0] rfl)
abbrev rmX3_isAllAt : Room := { frames := 2, cells := 0, slots := 0, locals := 50 }
set_option maxHeartbeats 4000000 in
set_option maxRecDepth 100000 in
theorem c_X3_isAllAt (l : Launch) (D : va_G) (cy : Nat → ClassId) (L : List Nat) (ad : Nat → Nat) (G : mG) (I : mI) (J : mJ) (w q : Nat) (hV : isV L G w q) (pl : Nat) (hp : pl < 12) : pMet l yX3_isAllAt wsX3_isAllAt rmX3_isAllAt D cy L ad G I J [.ref (ad w), .int (nI pl)] (qI (fun v I' J' => v = bI (allAt (J q) pl) ∧ I' = I ∧ J' = J) D cy L ad G) := by
  refine pMet.ofZ (cc := cX3_isAllAt) (maxL := 4) (by decide +kernel) rfl (Nat.le_of_ble_eq_true rfl) ?_
  intro p e R s m args below meth c A Q C hml hR hg ret hW ls hl
  subst hR
  have C : Cx p s m args c cX3_isAllAt RX3 wsX3_isAllAt D cy A := C
  have hx := C.1
  have hb := C.2.1
  have hl : lv_has ls 4 [(0, .ref (ad w)), (1, .int (nI pl))] := hl
  obtain ⟨hw, kw, gq, hq, kq, lq⟩ := id hV
  refine lv_aload_n hx hb dX3_isAllAt_0 rfl (lv_at hl 0 rfl) ?_
  refine lv_iload_n hx hb dX3_isAllAt_1 rfl (lv_at hl 1 rfl) ?_
  refine p_cVl C hml hg hW (c_X3_squaresAt l D cy L ad G I J w q hV pl hp) (cwV 1 C.2.2.2.1 gX3_isAllAt_X3_squaresAt rfl rfl rfl (by decide +kernel) ⟨Nat.le_of_ble_eq_true rfl, Nat.le_of_ble_eq_true rfl⟩) (p_recv C hW hw (pF_3 kw) rfl) rfl hl.1 rfl (Nat.le_of_ble_eq_true rfl) dX3_isAllAt_2 (Nat.le_of_ble_eq_true rfl) (Nat.le_of_ble_eq_true rfl) (fun v1 I2 J3 H locs hp hW => ?_)
  obtain ⟨hv, hI, hJ⟩ := hp
  subst v1
  subst I2
  subst J3
  refine lv_lstore_n (lv' := [(2, .long (sqAt (J q) pl)), (0, .ref (ad w)), (1, .int (nI pl))]) hx hb dX3_isAllAt_5 rfl hl (by decide) rfl (fun ls hl => ?_)
  refine lv_lload_n hx hb dX3_isAllAt_6 rfl (lv_at hl 0 rfl) ?_
  refine lv_lconst (v := 0) hx hb dX3_isAllAt_7 (by decide) ?_
  refine l_le (tgt := 25) hx hb dX3_isAllAt_8 dX3_isAllAt_9 (by decide) (fun h4 => ?_) (fun h4 => ?_)
  · skip
    refine lv_iconst (v := nI 0) hx hb dX3_isAllAt_25 (by decide) ?_
    exact ret _ _ _ _ _ _ _ _ _ (Nat.le_of_ble_eq_true rfl) (Nat.le_of_ble_eq_true rfl) hW ⟨by rw [show allAt (J q) pl = false from decide_eq_false (fun z => h4 z.1)]; rfl, rfl, rfl⟩ (by decide) dX3_isAllAt_26
  · skip
    refine lv_lload_n hx hb dX3_isAllAt_12 rfl (lv_at hl 0 rfl) ?_
    refine lv_aload_n hx hb dX3_isAllAt_13 rfl (lv_at hl 1 rfl) ?_
    refine p_cVl C hml hg hW (c_X3_squares l D cy L ad G I J w q hV) (cwV 0 C.2.2.2.1 gX3_isAllAt_X3_squares rfl rfl rfl (by decide +kernel) ⟨Nat.le_of_ble_eq_true rfl, Nat.le_of_ble_eq_true rfl⟩) (p_recv C hW hw (pF_3 kw) rfl) rfl hl.1 rfl (Nat.le_of_ble_eq_true rfl) dX3_isAllAt_14 (Nat.le_of_ble_eq_true rfl) (Nat.le_of_ble_eq_true rfl) (fun v5 I6 J7 H locs hp hW => ?_)
    obtain ⟨hv, hI, hJ⟩ := hp
    subst v5
    subst I6
    subst J7
    refine l_ne (tgt := 25) hx hb dX3_isAllAt_17 dX3_isAllAt_18 (by decide) (fun h8 => ?_) (fun h8 => ?_)
    · skip
      refine lv_iconst (v := nI 0) hx hb dX3_isAllAt_25 (by decide) ?_
      exact ret _ _ _ _ _ _ _ _ _ (Nat.le_of_ble_eq_true rfl) (Nat.le_of_ble_eq_true rfl) hW ⟨by rw [show allAt (J q) pl = false from decide_eq_false (fun z => h8 z.2)]; rfl, rfl, rfl⟩ (by decide) dX3_isAllAt_26
    · skip
      refine lv_iconst (v := nI 1) hx hb dX3_isAllAt_21 (by decide) ?_
      refine lv_goto (tgt := 26) hx hb dX3_isAllAt_22 (by decide) ?_
      exact ret _ _ _ _ _ _ _ _ _ (Nat.le_of_ble_eq_true rfl) (Nat.le_of_ble_eq_true rfl) hW ⟨by rw [show allAt (J q) pl = true from decide_eq_true ⟨h4, h8⟩]; rfl, rfl, rfl⟩ (by decide) dX3_isAllAt_26
