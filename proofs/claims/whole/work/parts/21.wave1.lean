abbrev rmX3_squaresAt : Room := { frames := 0, cells := 0, slots := 0, locals := 0 }
set_option maxHeartbeats 4000000 in
set_option maxRecDepth 100000 in
theorem c_X3_squaresAt (l : Launch) (D : va_G) (cy : Nat → ClassId) (L : List Nat) (ad : Nat → Nat) (G : mG) (I : mI) (J : mJ) (w q : Nat) (hw : w ∈ L) (kw : kd w = 3) (gq : G w 0 = some q) (hq : q ∈ L) (kq : kd q = 7) (lq : ln q = 48) (pl : Nat) (hp : pl < 12) : pMet l yX3_squaresAt wsX3_squaresAt rmX3_squaresAt D cy L ad G I J [.ref (ad w), .int (nI pl)] (qL (fun v I' J' => v = sqAt (J q) pl ∧ I' = I ∧ J' = J) D cy L ad G) := by
  refine pMet.ofL (cc := cX3_squaresAt) (maxL := 6) (by decide +kernel) rfl (Nat.le_of_ble_eq_true rfl) ?_
  intro p e R s m args below meth c A Q C hml hR hg ret hW ls hl
  subst hR
  have C : Cx p s m args c cX3_squaresAt RX3 wsX3_squaresAt D cy A := C
  have hx := C.1
  have hb := C.2.1
  have lk9 := C.2.2.2.1 (.fieldLink RX3 9 "WaveWalk$Wave" "numbers" "[J") (by decide +kernel)
  have hinX3 : ∀ w ∈ wsX30, w ∈ wsX3_squaresAt := by decide +kernel
  have hl : lv_has ls 6 [(0, .ref (ad w)), (1, .int (nI pl))] := hl
  refine lv_iload_n hx hb dX3_squaresAt_0 rfl (lv_at hl 1 rfl) ?_
  refine lv_iconst (v := nI 4) hx hb dX3_squaresAt_1 (by decide) ?_
  refine n_imul hx hb dX3_squaresAt_2 ?_
  refine lv_istore_n (lv' := [(2, .int (nI (pl * 4))), (0, .ref (ad w)), (1, .int (nI pl))]) hx hb dX3_squaresAt_3 rfl hl (by decide) rfl (fun ls hl => ?_)
  refine lv_lconst (v := 0) hx hb dX3_squaresAt_4 (by decide) ?_
  refine lv_lstore_n (lv' := [(3, .long 0), (2, .int (nI (pl * 4))), (0, .ref (ad w)), (1, .int (nI pl))]) hx hb dX3_squaresAt_5 rfl hl (by decide) rfl (fun ls hl => ?_)
  refine lv_iload_n hx hb dX3_squaresAt_6 rfl (lv_at hl 1 rfl) ?_
  refine lv_istore (lv' := [(5, .int (nI (pl * 4))), (3, .long 0), (2, .int (nI (pl * 4))), (0, .ref (ad w)), (1, .int (nI pl))]) hx hb dX3_squaresAt_7 hl (by decide) rfl (fun ls hl => ?_)
  have lp9 : ∀ (n : Nat) (d : Nat), (d ≤ 4) → (5 ≤ d + n) → ∀ (H : Heap) (locs : List Loc), Wd D cy A s.heap H locs L ad G I J → ∀ (ls : Array Slot), lv_has ls 6 [(0, .ref (ad w)), (1, .int (nI pl)), (2, .int (nI (pl * 4))), (3, .long (sqN (J q) (pl * 4) d)), (5, .int (nI (pl * 4 + d)))] → W p l e rmX3_squaresAt s m args below meth c H locs 0 0 Q (F0 m 9 ls []) := by
    intro n
    induction n with
    | zero => intros; exfalso; omega
    | succ n ih9 =>
      intro d hd hn H locs hW ls hl
      refine lv_iload hx hb dX3_squaresAt_9 (lv_at hl 4 rfl) ?_
      refine lv_iload_n hx hb dX3_squaresAt_11 rfl (lv_at hl 2 rfl) ?_
      refine lv_iconst (v := nI 4) hx hb dX3_squaresAt_12 (by decide) ?_
      refine n_iadd hx hb dX3_squaresAt_13 ?_
      refine n_icmp_ge (tgt := 41) hx hb (by omega) (by omega) dX3_squaresAt_14 (by decide) (fun h1 => ?_) (fun h1 => ?_)
      · skip
        refine lv_lload_n hx hb dX3_squaresAt_41 rfl (lv_at hl 3 rfl) ?_
        exact ret _ _ _ _ _ _ _ _ _ (Nat.le_of_ble_eq_true rfl) (Nat.le_of_ble_eq_true rfl) hW ⟨by rw [show d = 4 by omega]; rfl, rfl, rfl⟩ dX3_squaresAt_42
      · skip
        refine lv_lload_n hx hb dX3_squaresAt_17 rfl (lv_at hl 3 rfl) ?_
        refine lv_aload_n hx hb dX3_squaresAt_18 rfl (lv_at hl 0 rfl) ?_
        refine g_X3_0 C hinX3 hW hw kw gq lk9 dX3_squaresAt_19 ?_
        refine lv_iload hx hb dX3_squaresAt_22 (lv_at hl 4 rfl) ?_
        refine p_lald C hW hq kq (k := pl * 4 + d) rfl (by rw [lq]; omega) dX3_squaresAt_24 ?_
        refine lv_aload_n hx hb dX3_squaresAt_25 rfl (lv_at hl 0 rfl) ?_
        refine g_X3_0 C hinX3 hW hw kw gq lk9 dX3_squaresAt_26 ?_
        refine lv_iload hx hb dX3_squaresAt_29 (lv_at hl 4 rfl) ?_
        refine p_lald C hW hq kq (k := pl * 4 + d) rfl (by rw [lq]; omega) dX3_squaresAt_31 ?_
        refine lv_lmul hx hb dX3_squaresAt_32 ?_
        refine lv_ladd hx hb dX3_squaresAt_33 ?_
        refine lv_lstore_n (lv' := [(3, .long ((sqN (J q) (pl * 4) d) + ((J q (pl * 4 + d)) * (J q (pl * 4 + d))))), (0, .ref (ad w)), (1, .int (nI pl)), (2, .int (nI (pl * 4))), (5, .int (nI (pl * 4 + d)))]) hx hb dX3_squaresAt_34 rfl hl (by decide) rfl (fun ls hl => ?_)
        refine lv_iinc (v := nI ((pl * 4 + d) + 1)) (lv' := [(5, .int (nI ((pl * 4 + d) + 1))), (3, .long ((sqN (J q) (pl * 4) d) + ((J q (pl * 4 + d)) * (J q (pl * 4 + d))))), (0, .ref (ad w)), (1, .int (nI pl)), (2, .int (nI (pl * 4)))]) hx hb dX3_squaresAt_35 hl (k := 4) rfl (nI_inc _) (by decide) rfl (fun ls hl => ?_)
        refine lv_goto (tgt := 9) hx hb dX3_squaresAt_38 (by decide) ?_
        exact ih9 (d + 1) (by omega) (by omega) _ _ hW ls (lv_sub hl [2, 3, 4, 1, 0] rfl)
  exact lp9 5 0 (by omega) (by omega) _ _ hW ls (lv_sub hl [3, 4, 2, 1, 0] rfl)
