theorem toldB_false (f : Nat → Int64) (c : Nat) : ∀ n i, i < n → i ≠ c → told (f i) = false → toldB f c n = false
  | 0, i, h, _, _ => absurd h (Nat.not_lt_zero i)
  | n + 1, i, h, h1, h2 => by
    rw [toldB]
    rcases Nat.lt_or_ge i n with q | q
    · rw [toldB_false f c n i q h1 h2, Bool.false_and]
    · have e : i = n := by omega
      subst e
      rw [h2, decide_eq_false h1]
      simp
theorem mulB_false (f g : Nat → Int64) (z : Nat) : ∀ n i, i < n → f i * g z ≠ g i * f z → mulB f g z n = false
  | 0, i, h, _ => absurd h (Nat.not_lt_zero i)
  | n + 1, i, h, h1 => by
    rw [mulB]
    rcases Nat.lt_or_ge i n with q | q
    · rw [mulB_false f g z n i q h1, Bool.false_and]
    · have e : i = n := by omega
      subst e
      rw [decide_eq_false h1, Bool.and_false]
abbrev rmX4_isTold : Room := { frames := 0, cells := 0, slots := 0, locals := 0 }
set_option maxHeartbeats 4000000 in
set_option maxRecDepth 100000 in
theorem c_X4_isTold (l : Launch) (D : va_G) (cy : Nat → ClassId) (L : List Nat) (ad : Nat → Nat) (G : mG) (I : mI) (J : mJ) (z : Int64) : pMet l yX4_isTold wsX4_isTold rmX4_isTold D cy L ad G I J [.long z] (qI (fun v I' J' => v = bI (told z) ∧ I' = I ∧ J' = J) D cy L ad G) := by
  refine pMet.ofZ (cc := cX4_isTold) (maxL := 2) (by decide +kernel) rfl (Nat.le_of_ble_eq_true rfl) ?_
  intro p e R s m args below meth c A Q C hml hR hg ret hW ls hl
  subst hR
  have C : Cx p s m args c cX4_isTold RX4 wsX4_isTold D cy A := C
  have hx := C.1
  have hb := C.2.1
  have ck206 := C.2.2.2.1 (.constantLong RX4 206 (-100)) (by decide +kernel)
  have ck208 := C.2.2.2.1 (.constantLong RX4 208 (100)) (by decide +kernel)
  have hl : lv_has ls 2 [(0, .long z)] := hl
  refine lv_lload_n hx hb dX4_isTold_0 rfl (lv_at hl 0 rfl) ?_
  refine lv_ldc2 hx hb C.2.2.1 ck206 dX4_isTold_1 ?_
  refine l_lt (tgt := 20) hx hb dX4_isTold_4 dX4_isTold_5 (by decide) (fun h1 => ?_) (fun h1 => ?_)
  · skip
    refine lv_iconst (v := nI 0) hx hb dX4_isTold_20 (by decide) ?_
    exact ret _ _ _ _ _ _ _ _ _ (Nat.le_of_ble_eq_true rfl) (Nat.le_of_ble_eq_true rfl) hW ⟨by rw [show told z = false from decide_eq_false (fun y => by have := y.1; rw [Int64.le_iff_toInt_le] at this; rw [Int64.lt_iff_toInt_lt] at h1; omega)]; rfl, rfl, rfl⟩ (by decide) dX4_isTold_21
  · skip
    refine lv_lload_n hx hb dX4_isTold_8 rfl (lv_at hl 0 rfl) ?_
    refine lv_ldc2 hx hb C.2.2.1 ck208 dX4_isTold_9 ?_
    refine l_gt (tgt := 20) hx hb dX4_isTold_12 dX4_isTold_13 (by decide) (fun h2 => ?_) (fun h2 => ?_)
    · skip
      refine lv_iconst (v := nI 0) hx hb dX4_isTold_20 (by decide) ?_
      exact ret _ _ _ _ _ _ _ _ _ (Nat.le_of_ble_eq_true rfl) (Nat.le_of_ble_eq_true rfl) hW ⟨by rw [show told z = false from decide_eq_false (fun y => by have := y.2; rw [Int64.le_iff_toInt_le] at this; rw [Int64.lt_iff_toInt_lt] at h2; omega)]; rfl, rfl, rfl⟩ (by decide) dX4_isTold_21
    · skip
      refine lv_iconst (v := nI 1) hx hb dX4_isTold_16 (by decide) ?_
      refine lv_goto (tgt := 21) hx hb dX4_isTold_17 (by decide) ?_
      exact ret _ _ _ _ _ _ _ _ _ (Nat.le_of_ble_eq_true rfl) (Nat.le_of_ble_eq_true rfl) hW ⟨by rw [show told z = true from decide_eq_true ⟨Int64.not_lt.mp h1, Int64.not_lt.mp h2⟩]; rfl, rfl, rfl⟩ (by decide) dX4_isTold_21
abbrev rmX3_isToldBut : Room := { frames := 1, cells := 0, slots := 0, locals := 21 }
set_option maxHeartbeats 4000000 in
set_option maxRecDepth 100000 in
theorem c_X3_isToldBut (l : Launch) (D : va_G) (cy : Nat → ClassId) (L : List Nat) (ad : Nat → Nat) (G : mG) (I : mI) (J : mJ) (w q : Nat) (hV : isV L G w q) (z : Nat) (hz : z < 48) : pMet l yX3_isToldBut wsX3_isToldBut rmX3_isToldBut D cy L ad G I J [.ref (ad w), .int (nI z)] (qI (fun v I' J' => v = bI (toldB (J q) z 48) ∧ I' = I ∧ J' = J) D cy L ad G) := by
  refine pMet.ofZ (cc := cX3_isToldBut) (maxL := 3) (by decide +kernel) rfl (Nat.le_of_ble_eq_true rfl) ?_
  intro p e R s m args below meth c A Q C hml hR hg ret hW ls hl
  subst hR
  have C : Cx p s m args c cX3_isToldBut RX3 wsX3_isToldBut D cy A := C
  have hx := C.1
  have hb := C.2.1
  have lk9 := C.2.2.2.1 (.fieldLink RX3 9 "WaveWalk$Wave" "numbers" "[J") (by decide +kernel)
  have hinX3 : ∀ w ∈ wsX30, w ∈ wsX3_isToldBut := by decide +kernel
  have hl : lv_has ls 3 [(0, .ref (ad w)), (1, .int (nI z))] := hl
  obtain ⟨hw, kw, gq, hq, kq, lq⟩ := id hV
  refine lv_iconst (v := nI 0) hx hb dX3_isToldBut_0 (by decide) ?_
  refine lv_istore_n (lv' := [(2, .int (nI 0)), (0, .ref (ad w)), (1, .int (nI z))]) hx hb dX3_isToldBut_1 rfl hl (by decide) rfl (fun ls hl => ?_)
  have lp2 : ∀ (nn : Nat) (d : Nat), (d ≤ 48) → (49 ≤ d + nn) → (toldB (J q) z d = true) → ∀ (H : Heap) (locs : List Loc), Wd D cy A s.heap H locs L ad G I J → ∀ (ls : Array Slot), lv_has ls 3 [(0, .ref (ad w)), (1, .int (nI z)), (2, .int (nI d))] → W p l e rmX3_isToldBut s m args below meth c H locs 0 0 Q (F0 m 2 ls []) := by
    intro nn
    induction nn with
    | zero => intros; exfalso; omega
    | succ nn ih2 =>
      intro d hd hn ht H locs hW ls hl
      refine lv_iload_n hx hb dX3_isToldBut_2 rfl (lv_at hl 2 rfl) ?_
      refine lv_bipush (v := nI 48) hx hb dX3_isToldBut_3 (by decide) ?_
      refine n_icmp_ge (tgt := 33) hx hb (by omega) (by omega) dX3_isToldBut_5 (by decide) (fun h1 => ?_) (fun h1 => ?_)
      · skip
        refine lv_iconst (v := nI 1) hx hb dX3_isToldBut_33 (by decide) ?_
        exact ret _ _ _ _ _ _ _ _ _ (Nat.le_of_ble_eq_true rfl) (Nat.le_of_ble_eq_true rfl) hW ⟨by rw [show d = 48 by omega] at ht; rw [ht]; rfl, rfl, rfl⟩ (by decide) dX3_isToldBut_34
      · skip
        refine lv_iload_n hx hb dX3_isToldBut_8 rfl (lv_at hl 2 rfl) ?_
        refine lv_iload_n hx hb dX3_isToldBut_9 rfl (lv_at hl 1 rfl) ?_
        refine n_icmp_eq (tgt := 27) hx hb (by omega) (by omega) dX3_isToldBut_10 (by decide) (fun h2 => ?_) (fun h2 => ?_)
        · skip
          refine lv_iinc (v := nI (d + 1)) (lv' := [(2, .int (nI (d + 1))), (0, .ref (ad w)), (1, .int (nI z))]) hx hb dX3_isToldBut_27 hl (k := 2) rfl (nI_inc _) (by decide) rfl (fun ls hl => ?_)
          refine lv_goto (tgt := 2) hx hb dX3_isToldBut_30 (by decide) ?_
          exact ih2 (d + 1) (by omega) (by omega) (by rw [toldB, ht]; simp [h2]) _ _ hW ls (lv_sub hl [1, 2, 0] rfl)
        · skip
          refine lv_aload_n hx hb dX3_isToldBut_13 rfl (lv_at hl 0 rfl) ?_
          refine g_X3_0 C hinX3 hW hw kw gq lk9 dX3_isToldBut_14 ?_
          refine lv_iload_n hx hb dX3_isToldBut_17 rfl (lv_at hl 2 rfl) ?_
          refine p_lald C hW hq kq (k := d) rfl (by rw [lq]; omega) dX3_isToldBut_18 ?_
          refine p_cNi C hml hg hW (c_X4_isTold l D cy L ad G I J (J q d)) (host := RX4) ⟨va_cnB 1 C.2.2.2.1 gX3_isToldBut_X4_isTold_n33 rfl rfl rfl hg.1.2.2.2.1 (C.2.2.2.1 (.initialized RX4) (by decide +kernel)) (by decide +kernel) ⟨Nat.le_of_ble_eq_true rfl, Nat.le_of_ble_eq_true rfl⟩, C.2.2.2.1 (.static yX4_isTold) (by decide +kernel), trivial⟩ rfl hl.1 rfl (Nat.le_of_ble_eq_true rfl) dX3_isToldBut_19 (Nat.le_of_ble_eq_true rfl) (Nat.le_of_ble_eq_true rfl) (fun v3 I4 J5 H locs hp hW => ?_)
          obtain ⟨hv, hI, hJ⟩ := hp
          subst v3
          subst I4
          subst J5
          refine b_if_ne (tgt := 27) hx hb dX3_isToldBut_22 (by decide) (fun h6 => ?_) (fun h6 => ?_)
          · skip
            refine lv_iinc (v := nI (d + 1)) (lv' := [(2, .int (nI (d + 1))), (0, .ref (ad w)), (1, .int (nI z))]) hx hb dX3_isToldBut_27 hl (k := 2) rfl (nI_inc _) (by decide) rfl (fun ls hl => ?_)
            refine lv_goto (tgt := 2) hx hb dX3_isToldBut_30 (by decide) ?_
            exact ih2 (d + 1) (by omega) (by omega) (by rw [toldB, ht]; simp [h6]) _ _ hW ls (lv_sub hl [1, 2, 0] rfl)
          · skip
            refine lv_iconst (v := nI 0) hx hb dX3_isToldBut_25 (by decide) ?_
            exact ret _ _ _ _ _ _ _ _ _ (Nat.le_of_ble_eq_true rfl) (Nat.le_of_ble_eq_true rfl) hW ⟨by rw [toldB_false (J q) z 48 d (by omega) h2 h6]; rfl, rfl, rfl⟩ (by decide) dX3_isToldBut_26
  exact lp2 49 0 (by omega) (by omega) rfl _ _ hW ls (lv_sub hl [1, 2, 0] rfl)
abbrev rmX3_isMultipleOf : Room := { frames := 0, cells := 0, slots := 0, locals := 0 }
set_option maxHeartbeats 4000000 in
set_option maxRecDepth 100000 in
theorem c_X3_isMultipleOf (l : Launch) (D : va_G) (cy : Nat → ClassId) (L : List Nat) (ad : Nat → Nat) (G : mG) (I : mI) (J : mJ) (w q w2 q2 : Nat) (hV : isV L G w q) (hV2 : isV L G w2 q2) : pMet l yX3_isMultipleOf wsX3_isMultipleOf rmX3_isMultipleOf D cy L ad G I J [.ref (ad w), .ref (ad w2)] (qI (fun v I' J' => v = bI (isMul (J q) (J q2)) ∧ I' = I ∧ J' = J) D cy L ad G) := by
  refine pMet.ofZ (cc := cX3_isMultipleOf) (maxL := 4) (by decide +kernel) rfl (Nat.le_of_ble_eq_true rfl) ?_
  intro p e R s m args below meth c A Q C hml hR hg ret hW ls hl
  subst hR
  have C : Cx p s m args c cX3_isMultipleOf RX3 wsX3_isMultipleOf D cy A := C
  have hx := C.1
  have hb := C.2.1
  have lk9 := C.2.2.2.1 (.fieldLink RX3 9 "WaveWalk$Wave" "numbers" "[J") (by decide +kernel)
  have hinX3 : ∀ w ∈ wsX30, w ∈ wsX3_isMultipleOf := by decide +kernel
  have hl : lv_has ls 4 [(0, .ref (ad w)), (1, .ref (ad w2))] := hl
  obtain ⟨hw, kw, gq, hq, kq, lq⟩ := id hV
  obtain ⟨hw2, kw2, gq2, hq2, kq2, lq2⟩ := id hV2
  refine lv_iconst (v := nI 0) hx hb dX3_isMultipleOf_0 (by decide) ?_
  refine lv_istore_n (lv' := [(2, .int (nI 0)), (0, .ref (ad w)), (1, .ref (ad w2))]) hx hb dX3_isMultipleOf_1 rfl hl (by decide) rfl (fun ls hl => ?_)
  have lp2 : ∀ (nn : Nat) (d : Nat), (d ≤ 48) → (49 ≤ d + nn) → (∀ i, i < d → J q2 i = 0) → ∀ (H : Heap) (locs : List Loc), Wd D cy A s.heap H locs L ad G I J → ∀ (ls : Array Slot), lv_has ls 4 [(0, .ref (ad w)), (1, .ref (ad w2)), (2, .int (nI d))] → W p l e rmX3_isMultipleOf s m args below meth c H locs 0 0 Q (F0 m 2 ls []) := by
    intro nn
    induction nn with
    | zero => intros; exfalso; omega
    | succ nn ih2 =>
      intro d hd hn hz H locs hW ls hl
      refine lv_iload_n hx hb dX3_isMultipleOf_2 rfl (lv_at hl 2 rfl) ?_
      refine lv_bipush (v := nI 48) hx hb dX3_isMultipleOf_3 (by decide) ?_
      refine n_icmp_ge (tgt := 25) hx hb (by omega) (by omega) dX3_isMultipleOf_5 (by decide) (fun h1 => ?_) (fun h1 => ?_)
      · skip
        refine lv_iload_n hx hb dX3_isMultipleOf_25 rfl (lv_at hl 2 rfl) ?_
        refine lv_bipush (v := nI 48) hx hb dX3_isMultipleOf_26 (by decide) ?_
        refine n_icmp_lt (tgt := 33) hx hb (by omega) (by omega) dX3_isMultipleOf_28 (by decide) (fun h2 => ?_) (fun h2 => ?_)
        · skip
          exfalso; omega
        · skip
          refine lv_iconst (v := nI 0) hx hb dX3_isMultipleOf_31 (by decide) ?_
          exact ret _ _ _ _ _ _ _ _ _ (Nat.le_of_ble_eq_true rfl) (Nat.le_of_ble_eq_true rfl) hW ⟨by rw [show isMul (J q) (J q2) = false by unfold isMul; rw [fnz_none (fun i hi => hz i (by omega))]; rfl]; rfl, rfl, rfl⟩ (by decide) dX3_isMultipleOf_32
      · skip
        refine lv_aload_n hx hb dX3_isMultipleOf_8 rfl (lv_at hl 1 rfl) ?_
        refine g_X3_0 C hinX3 hW hw2 kw2 gq2 lk9 dX3_isMultipleOf_9 ?_
        refine lv_iload_n hx hb dX3_isMultipleOf_12 rfl (lv_at hl 2 rfl) ?_
        refine p_lald C hW hq2 kq2 (k := d) rfl (by rw [lq2]; omega) dX3_isMultipleOf_13 ?_
        refine lv_lconst (v := 0) hx hb dX3_isMultipleOf_14 (by decide) ?_
        refine l_ne (tgt := 25) hx hb dX3_isMultipleOf_15 dX3_isMultipleOf_16 (by decide) (fun h3 => ?_) (fun h3 => ?_)
        · skip
          refine lv_iload_n hx hb dX3_isMultipleOf_25 rfl (lv_at hl 2 rfl) ?_
          refine lv_bipush (v := nI 48) hx hb dX3_isMultipleOf_26 (by decide) ?_
          refine n_icmp_lt (tgt := 33) hx hb (by omega) (by omega) dX3_isMultipleOf_28 (by decide) (fun h4 => ?_) (fun h4 => ?_)
          · skip
            refine lv_iconst (v := nI 0) hx hb dX3_isMultipleOf_33 (by decide) ?_
            refine lv_istore_n (lv' := [(3, .int (nI 0)), (0, .ref (ad w)), (1, .ref (ad w2)), (2, .int (nI d))]) hx hb dX3_isMultipleOf_34 rfl hl (by decide) rfl (fun ls hl => ?_)
            have lp35 : ∀ (nn : Nat) (j : Nat), (j ≤ 48) → (49 ≤ j + nn) → (mulB (J q) (J q2) d j = true) → ∀ (H : Heap) (locs : List Loc), Wd D cy A s.heap H locs L ad G I J → ∀ (ls : Array Slot), lv_has ls 4 [(0, .ref (ad w)), (1, .ref (ad w2)), (2, .int (nI d)), (3, .int (nI j))] → W p l e rmX3_isMultipleOf s m args below meth c H locs 0 0 Q (F0 m 35 ls []) := by
              intro nn
              induction nn with
              | zero => intros; exfalso; omega
              | succ nn ih35 =>
                intro j hj hn2 hm H locs hW ls hl
                refine lv_iload_n hx hb dX3_isMultipleOf_35 rfl (lv_at hl 3 rfl) ?_
                refine lv_bipush (v := nI 48) hx hb dX3_isMultipleOf_36 (by decide) ?_
                refine n_icmp_ge (tgt := 79) hx hb (by omega) (by omega) dX3_isMultipleOf_38 (by decide) (fun h5 => ?_) (fun h5 => ?_)
                · skip
                  refine lv_iconst (v := nI 1) hx hb dX3_isMultipleOf_79 (by decide) ?_
                  exact ret _ _ _ _ _ _ _ _ _ (Nat.le_of_ble_eq_true rfl) (Nat.le_of_ble_eq_true rfl) hW ⟨by rw [show isMul (J q) (J q2) = true by rw [show j = 48 by omega] at hm; unfold isMul; rw [(fnz_of (g := J q2) (n := 48) (i := d) (by omega) hz h3), hm, Bool.and_true]; exact decide_eq_true (by omega)]; rfl, rfl, rfl⟩ (by decide) dX3_isMultipleOf_80
                · skip
                  refine lv_aload_n hx hb dX3_isMultipleOf_41 rfl (lv_at hl 0 rfl) ?_
                  refine g_X3_0 C hinX3 hW hw kw gq lk9 dX3_isMultipleOf_42 ?_
                  refine lv_iload_n hx hb dX3_isMultipleOf_45 rfl (lv_at hl 3 rfl) ?_
                  refine p_lald C hW hq kq (k := j) rfl (by rw [lq]; omega) dX3_isMultipleOf_46 ?_
                  refine lv_aload_n hx hb dX3_isMultipleOf_47 rfl (lv_at hl 1 rfl) ?_
                  refine g_X3_0 C hinX3 hW hw2 kw2 gq2 lk9 dX3_isMultipleOf_48 ?_
                  refine lv_iload_n hx hb dX3_isMultipleOf_51 rfl (lv_at hl 2 rfl) ?_
                  refine p_lald C hW hq2 kq2 (k := d) rfl (by rw [lq2]; omega) dX3_isMultipleOf_52 ?_
                  refine lv_lmul hx hb dX3_isMultipleOf_53 ?_
                  refine lv_aload_n hx hb dX3_isMultipleOf_54 rfl (lv_at hl 1 rfl) ?_
                  refine g_X3_0 C hinX3 hW hw2 kw2 gq2 lk9 dX3_isMultipleOf_55 ?_
                  refine lv_iload_n hx hb dX3_isMultipleOf_58 rfl (lv_at hl 3 rfl) ?_
                  refine p_lald C hW hq2 kq2 (k := j) rfl (by rw [lq2]; omega) dX3_isMultipleOf_59 ?_
                  refine lv_aload_n hx hb dX3_isMultipleOf_60 rfl (lv_at hl 0 rfl) ?_
                  refine g_X3_0 C hinX3 hW hw kw gq lk9 dX3_isMultipleOf_61 ?_
                  refine lv_iload_n hx hb dX3_isMultipleOf_64 rfl (lv_at hl 2 rfl) ?_
                  refine p_lald C hW hq kq (k := d) rfl (by rw [lq]; omega) dX3_isMultipleOf_65 ?_
                  refine lv_lmul hx hb dX3_isMultipleOf_66 ?_
                  refine l_eq (tgt := 73) hx hb dX3_isMultipleOf_67 dX3_isMultipleOf_68 (by decide) (fun h6 => ?_) (fun h6 => ?_)
                  · skip
                    refine lv_iinc (v := nI (j + 1)) (lv' := [(3, .int (nI (j + 1))), (0, .ref (ad w)), (1, .ref (ad w2)), (2, .int (nI d))]) hx hb dX3_isMultipleOf_73 hl (k := 3) rfl (nI_inc _) (by decide) rfl (fun ls hl => ?_)
                    refine lv_goto (tgt := 35) hx hb dX3_isMultipleOf_76 (by decide) ?_
                    exact ih35 (j + 1) (by omega) (by omega) (by rw [mulB, hm]; simp [h6]) _ _ hW ls (lv_sub hl [1, 2, 3, 0] rfl)
                  · skip
                    refine lv_iconst (v := nI 0) hx hb dX3_isMultipleOf_71 (by decide) ?_
                    exact ret _ _ _ _ _ _ _ _ _ (Nat.le_of_ble_eq_true rfl) (Nat.le_of_ble_eq_true rfl) hW ⟨by rw [show isMul (J q) (J q2) = false by unfold isMul; rw [(fnz_of (g := J q2) (n := 48) (i := d) (by omega) hz h3), mulB_false (J q) (J q2) d 48 j (by omega) h6, Bool.and_false]]; rfl, rfl, rfl⟩ (by decide) dX3_isMultipleOf_72
            exact lp35 49 0 (by omega) (by omega) rfl _ _ hW ls (lv_sub hl [1, 2, 3, 0] rfl)
          · skip
            exfalso; omega
        · skip
          refine lv_iinc (v := nI (d + 1)) (lv' := [(2, .int (nI (d + 1))), (0, .ref (ad w)), (1, .ref (ad w2))]) hx hb dX3_isMultipleOf_19 hl (k := 2) rfl (nI_inc _) (by decide) rfl (fun ls hl => ?_)
          refine lv_goto (tgt := 2) hx hb dX3_isMultipleOf_22 (by decide) ?_
          exact ih2 (d + 1) (by omega) (by omega) (fun i hi => by rcases Nat.lt_or_ge i d with h | h; exact hz i h; rw [show i = d by omega]; exact h3) _ _ hW ls (lv_sub hl [1, 2, 0] rfl)
  exact lp2 49 0 (by omega) (by omega) (fun i hi => absurd hi (Nat.not_lt_zero i)) _ _ hW ls (lv_sub hl [1, 2, 0] rfl)
