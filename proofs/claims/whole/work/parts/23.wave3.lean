abbrev rmX3_becomeLike : Room := { frames := 1, cells := 0, slots := 0, locals := 40 }
set_option maxHeartbeats 4000000 in
set_option maxRecDepth 100000 in
theorem c_X3_becomeLike (l : Launch) (D : va_G) (cy : Nat → ClassId) (L : List Nat) (ad : Nat → Nat) (G : mG) (I : mI) (J : mJ) (w q w2 q2 : Nat) (hV : isV L G w q) (hV2 : isV L G w2 q2) : pMet l yX3_becomeLike wsX3_becomeLike rmX3_becomeLike D cy L ad G I J [.ref (ad w), .ref (ad w2)] (qV (fun I' J' => I' = va_up I w (upd (I w) 1 (I w2 1)) ∧ J' = va_up J q (J q2)) D cy L ad G) := by
  refine pMet.ofV (cc := cX3_becomeLike) (maxL := 2) (by decide +kernel) rfl (Nat.le_of_ble_eq_true rfl) ?_
  intro p e R s m args below meth c A Q C hml hR hg ret hW ls hl
  subst hR
  have C : Cx p s m args c cX3_becomeLike RX3 wsX3_becomeLike D cy A := C
  have hx := C.1
  have hb := C.2.1
  have lk9 := C.2.2.2.1 (.fieldLink RX3 9 "WaveWalk$Wave" "numbers" "[J") (by decide +kernel)
  have lk15 := C.2.2.2.1 (.fieldLink RX3 15 "WaveWalk$Wave" "time" "I") (by decide +kernel)
  have hinX3 : ∀ w ∈ wsX30, w ∈ wsX3_becomeLike := by decide +kernel
  have hl : lv_has ls 2 [(0, .ref (ad w)), (1, .ref (ad w2))] := hl
  obtain ⟨hw, kw, gq, hq, kq, lq⟩ := id hV
  obtain ⟨hw2, kw2, gq2, hq2, kq2, lq2⟩ := id hV2
  refine lv_aload_n hx hb dX3_becomeLike_0 rfl (lv_at hl 1 rfl) ?_
  refine g_X3_0 C hinX3 hW hw2 kw2 gq2 lk9 dX3_becomeLike_1 ?_
  refine lv_iconst (v := nI 0) hx hb dX3_becomeLike_4 (by decide) ?_
  refine lv_aload_n hx hb dX3_becomeLike_5 rfl (lv_at hl 0 rfl) ?_
  refine g_X3_0 C hinX3 hW hw kw gq lk9 dX3_becomeLike_6 ?_
  refine lv_iconst (v := nI 0) hx hb dX3_becomeLike_9 (by decide) ?_
  refine lv_bipush (v := nI 48) hx hb dX3_becomeLike_10 (by decide) ?_
  refine p_copy C (hml.trans hl.1.symm) (C.2.2.2.1 (.methodLink RX3 19 arraycopyName) (by decide +kernel)) (C.2.2.2.1 (.native arraycopyName) (by decide +kernel)) (C.2.2.2.1 (.static arraycopyName) (by decide +kernel)) (C.2.2.2.1 (.initialized "java/lang/System") (by decide +kernel)) hW hq kq lq hq2 kq2 lq2 (Nat.le_of_ble_eq_true rfl) (by decide +kernel) dX3_becomeLike_12 (fun H locs hW => ?_)
  refine lv_aload_n hx hb dX3_becomeLike_15 rfl (lv_at hl 0 rfl) ?_
  refine lv_aload_n hx hb dX3_becomeLike_16 rfl (lv_at hl 1 rfl) ?_
  refine g_X3_1 C hinX3 hW hw2 kw2 lk15 dX3_becomeLike_17 ?_
  refine s_X3_1 C hinX3 hW hw kw lk15 dX3_becomeLike_20 (fun H locs hW => ?_)
  obtain ⟨I1, eI1⟩ : ∃ z, z = va_up I w (upd (I w) 1 (I w2 1)) := ⟨_, rfl⟩
  rw [← eI1] at hW
  exact ret _ _ _ _ _ _ _ _ (Nat.le_of_ble_eq_true rfl) (Nat.le_of_ble_eq_true rfl) hW ⟨eI1, rfl⟩ dX3_becomeLike_23
abbrev rmX3_fillAll : Room := { frames := 0, cells := 0, slots := 0, locals := 0 }
set_option maxHeartbeats 4000000 in
set_option maxRecDepth 100000 in
theorem c_X3_fillAll (l : Launch) (D : va_G) (cy : Nat → ClassId) (L : List Nat) (ad : Nat → Nat) (G : mG) (I : mI) (J : mJ) (w q : Nat) (hV : isV L G w q) (n t k : Nat) (hN : isN L G n t k) (pl dr : Nat) (hpl : I n 0 = nI pl) (hdr : I n 1 = nI dr) (hp12 : pl ≤ 12) (hd4 : dr = 2 ∨ dr = 3 ∨ dr = 4) (z : Int32) : pMet l yX3_fillAll wsX3_fillAll rmX3_fillAll D cy L ad G I J [.ref (ad w), .ref (ad n), .int z] (qV (fun I' J' => I' = va_up I w (upd (I w) 1 (nI 0)) ∧ J' = va_up J q (fillF pl dr z.toInt64 (J q))) D cy L ad G) := by
  refine pMet.ofV (cc := cX3_fillAll) (maxL := 5) (by decide +kernel) rfl (Nat.le_of_ble_eq_true rfl) ?_
  intro p e R s m args below meth c A Q C hml hR hg ret hW ls hl
  subst hR
  have C : Cx p s m args c cX3_fillAll RX3 wsX3_fillAll D cy A := C
  have hx := C.1
  have hb := C.2.1
  have lk9 := C.2.2.2.1 (.fieldLink RX3 9 "WaveWalk$Wave" "numbers" "[J") (by decide +kernel)
  have lk15 := C.2.2.2.1 (.fieldLink RX3 15 "WaveWalk$Wave" "time" "I") (by decide +kernel)
  have lk25 := C.2.2.2.1 (.fieldLink RX3 25 "WaveWalk$Net" "places" "I") (by decide +kernel)
  have lk30 := C.2.2.2.1 (.fieldLink RX3 30 "WaveWalk$Net" "doors" "I") (by decide +kernel)
  have hinX1 : ∀ w ∈ wsX10, w ∈ wsX3_fillAll := by decide +kernel
  have hinX3 : ∀ w ∈ wsX30, w ∈ wsX3_fillAll := by decide +kernel
  have hl : lv_has ls 5 [(0, .ref (ad w)), (1, .ref (ad n)), (2, .int z)] := hl
  obtain ⟨hw, kw, gq, hq, kq, lq⟩ := id hV
  obtain ⟨hn, kn, gt, ht, kt, lt, gk, hk, kk, lk⟩ := id hN
  have hW : Wd D cy A s.heap s.heap [] L ad G I (va_up J q (J q)) := by rw [up_same]; exact hW
  refine lv_iconst (v := nI 0) hx hb dX3_fillAll_0 (by decide) ?_
  refine lv_istore_n (lv' := [(3, .int (nI 0)), (0, .ref (ad w)), (1, .ref (ad n)), (2, .int z)]) hx hb dX3_fillAll_1 rfl hl (by decide) rfl (fun ls hl => ?_)
  have lp2 : ∀ (nn : Nat) (a : Nat), (a ≤ pl) → (pl + 1 ≤ a + nn) → ∀ (H : Heap) (locs : List Loc), Wd D cy A s.heap H locs L ad G I (va_up J q (fun k => if (k / 4 < a ∧ k % 4 < dr) ∨ (k / 4 = a ∧ k % 4 < 0) then z.toInt64 else J q k)) → ∀ (ls : Array Slot), lv_has ls 5 [(0, .ref (ad w)), (1, .ref (ad n)), (2, .int z), (3, .int (nI a))] → W p l e rmX3_fillAll s m args below meth c H locs 0 0 Q (F0 m 2 ls []) := by
    intro nn
    induction nn with
    | zero => intros; exfalso; omega
    | succ nn ih2 =>
      intro a ha hf H locs hW ls hl
      refine lv_iload_n hx hb dX3_fillAll_2 rfl (lv_at hl 3 rfl) ?_
      refine lv_aload_n hx hb dX3_fillAll_3 rfl (lv_at hl 1 rfl) ?_
      refine g_X1_0 C hinX1 hW hn kn lk25 dX3_fillAll_4 ?_
      refine w_top (y := .int (nI pl)) (by rw [hpl]) ?_
      refine n_icmp_ge (tgt := 47) hx hb (by omega) (by omega) dX3_fillAll_7 (by decide) (fun h1 => ?_) (fun h1 => ?_)
      · skip
        have hW := Wd_setJ (g := (fillF pl dr z.toInt64 (J q))) hW kq (by rw [lq]; exact (fun k hk => by unfold fillF; by_cases hc : dor pl dr k = true; rw [if_pos hc, if_pos (by rw [dor_iff] at hc; omega)]; rw [if_neg hc, if_neg (by rw [dor_iff] at hc; omega)]))
        refine lv_aload_n hx hb dX3_fillAll_47 rfl (lv_at hl 0 rfl) ?_
        refine lv_iconst (v := nI 0) hx hb dX3_fillAll_48 (by decide) ?_
        refine s_X3_1 C hinX3 hW hw kw lk15 dX3_fillAll_49 (fun H locs hW => ?_)
        obtain ⟨I2, eI2⟩ : ∃ z, z = va_up I w (upd (I w) 1 (nI 0)) := ⟨_, rfl⟩
        rw [← eI2] at hW
        exact ret _ _ _ _ _ _ _ _ (Nat.le_of_ble_eq_true rfl) (Nat.le_of_ble_eq_true rfl) hW ⟨eI2, rfl⟩ dX3_fillAll_52
      · skip
        refine lv_iconst (v := nI 0) hx hb dX3_fillAll_10 (by decide) ?_
        refine lv_istore (lv' := [(4, .int (nI 0)), (0, .ref (ad w)), (1, .ref (ad n)), (2, .int z), (3, .int (nI a))]) hx hb dX3_fillAll_11 hl (by decide) rfl (fun ls hl => ?_)
        have lp13 : ∀ (nn : Nat) (b : Nat), (b ≤ dr) → (dr + 1 ≤ b + nn) → ∀ (H : Heap) (locs : List Loc), Wd D cy A s.heap H locs L ad G I (va_up J q (fun k => if (k / 4 < a ∧ k % 4 < dr) ∨ (k / 4 = a ∧ k % 4 < b) then z.toInt64 else J q k)) → ∀ (ls : Array Slot), lv_has ls 5 [(0, .ref (ad w)), (1, .ref (ad n)), (2, .int z), (3, .int (nI a)), (4, .int (nI b))] → W p l e rmX3_fillAll s m args below meth c H locs 0 0 Q (F0 m 13 ls []) := by
          intro nn
          induction nn with
          | zero => intros; exfalso; omega
          | succ nn ih13 =>
            intro b hb4 hf2 H locs hW ls hl
            refine lv_iload hx hb dX3_fillAll_13 (lv_at hl 4 rfl) ?_
            refine lv_aload_n hx hb dX3_fillAll_15 rfl (lv_at hl 1 rfl) ?_
            refine g_X1_1 C hinX1 hW hn kn lk30 dX3_fillAll_16 ?_
            refine w_top (y := .int (nI dr)) (by rw [hdr]) ?_
            refine n_icmp_ge (tgt := 41) hx hb (by omega) (by omega) dX3_fillAll_19 (by decide) (fun h3 => ?_) (fun h3 => ?_)
            · skip
              refine lv_iinc (v := nI (a + 1)) (lv' := [(3, .int (nI (a + 1))), (0, .ref (ad w)), (1, .ref (ad n)), (2, .int z), (4, .int (nI b))]) hx hb dX3_fillAll_41 hl (k := 3) rfl (nI_inc _) (by decide) rfl (fun ls hl => ?_)
              refine lv_goto (tgt := 2) hx hb dX3_fillAll_44 (by decide) ?_
              have hW := Wd_setJ (g := (fun k => if (k / 4 < a + 1 ∧ k % 4 < dr) ∨ (k / 4 = a + 1 ∧ k % 4 < 0) then z.toInt64 else J q k)) hW kq (by rw [lq]; exact (fun k hk => by by_cases hc : k / 4 < a + 1 ∧ k % 4 < dr; rw [if_pos (by omega), if_pos (by omega)]; rw [if_neg (by omega), if_neg (by omega)]))
              exact ih2 (a + 1) (by omega) (by omega) _ _ hW ls (lv_sub hl [1, 2, 3, 0] rfl)
            · skip
              refine lv_aload_n hx hb dX3_fillAll_22 rfl (lv_at hl 0 rfl) ?_
              refine g_X3_0 C hinX3 hW hw kw gq lk9 dX3_fillAll_23 ?_
              refine lv_iload_n hx hb dX3_fillAll_26 rfl (lv_at hl 3 rfl) ?_
              refine lv_iconst (v := nI 4) hx hb dX3_fillAll_27 (by decide) ?_
              refine n_imul hx hb dX3_fillAll_28 ?_
              refine lv_iload hx hb dX3_fillAll_29 (lv_at hl 4 rfl) ?_
              refine n_iadd hx hb dX3_fillAll_31 ?_
              refine lv_iload_n hx hb dX3_fillAll_32 rfl (lv_at hl 2 rfl) ?_
              refine lv_i2l (v := z.toInt64) hx hb dX3_fillAll_33 rfl ?_
              refine p_last C hW hq kq (k := (a * 4) + b) rfl (by rw [lq]; omega) dX3_fillAll_34 (fun H locs hW => ?_)
              rw [va_up_self, up_up] at hW
              refine lv_iinc (v := nI (b + 1)) (lv' := [(4, .int (nI (b + 1))), (0, .ref (ad w)), (1, .ref (ad n)), (2, .int z), (3, .int (nI a))]) hx hb dX3_fillAll_35 hl (k := 4) rfl (nI_inc _) (by decide) rfl (fun ls hl => ?_)
              refine lv_goto (tgt := 13) hx hb dX3_fillAll_38 (by decide) ?_
              have hW := Wd_setJ (g := (fun k => if (k / 4 < a ∧ k % 4 < dr) ∨ (k / 4 = a ∧ k % 4 < b + 1) then z.toInt64 else J q k)) hW kq (by rw [lq]; exact (fun k hk => by dsimp only [vp_updL]; by_cases hc : k = a * 4 + b; rw [if_pos (by omega), if_pos hc]; rw [if_neg hc]; by_cases hc2 : (k / 4 < a ∧ k % 4 < dr) ∨ (k / 4 = a ∧ k % 4 < b); rw [if_pos (by omega), if_pos hc2]; rw [if_neg (by omega), if_neg hc2]))
              exact ih13 (b + 1) (by omega) (by omega) _ _ hW ls (lv_sub hl [1, 2, 3, 4, 0] rfl)
        exact lp13 (dr + 1) 0 (by omega) (by omega) _ _ hW ls (lv_sub hl [1, 2, 3, 4, 0] rfl)
  have hW := Wd_setJ (g := (fun k => if (k / 4 < 0 ∧ k % 4 < dr) ∨ (k / 4 = 0 ∧ k % 4 < 0) then z.toInt64 else J q k)) hW kq (by rw [lq]; exact (fun k hk => by rw [if_neg (by omega)]))
  exact lp2 (pl + 1) 0 (by omega) (by omega) _ _ hW ls (lv_sub hl [1, 2, 3, 0] rfl)
abbrev rmX3_changeSigns : Room := { frames := 0, cells := 0, slots := 0, locals := 0 }
set_option maxHeartbeats 4000000 in
set_option maxRecDepth 100000 in
theorem c_X3_changeSigns (l : Launch) (D : va_G) (cy : Nat → ClassId) (L : List Nat) (ad : Nat → Nat) (G : mG) (I : mI) (J : mJ) (w q : Nat) (hV : isV L G w q) (n t k : Nat) (hN : isN L G n t k) (pl dr : Nat) (hpl : I n 0 = nI pl) (hdr : I n 1 = nI dr) (hp12 : pl ≤ 12) (hd4 : dr = 2 ∨ dr = 3 ∨ dr = 4) (mk : Nat → Bool) (hmk : ∀ c, c < 12 → I k c = bI (mk c)) : pMet l yX3_changeSigns wsX3_changeSigns rmX3_changeSigns D cy L ad G I J [.ref (ad w), .ref (ad n)] (qV (fun I' J' => I' = I ∧ J' = va_up J q (signF pl dr mk (J q))) D cy L ad G) := by
  refine pMet.ofV (cc := cX3_changeSigns) (maxL := 5) (by decide +kernel) rfl (Nat.le_of_ble_eq_true rfl) ?_
  intro p e R s m args below meth c A Q C hml hR hg ret hW ls hl
  subst hR
  have C : Cx p s m args c cX3_changeSigns RX3 wsX3_changeSigns D cy A := C
  have hx := C.1
  have hb := C.2.1
  have lk9 := C.2.2.2.1 (.fieldLink RX3 9 "WaveWalk$Wave" "numbers" "[J") (by decide +kernel)
  have lk25 := C.2.2.2.1 (.fieldLink RX3 25 "WaveWalk$Net" "places" "I") (by decide +kernel)
  have lk30 := C.2.2.2.1 (.fieldLink RX3 30 "WaveWalk$Net" "doors" "I") (by decide +kernel)
  have lk41 := C.2.2.2.1 (.fieldLink RX3 41 "WaveWalk$Net" "marked" "[Z") (by decide +kernel)
  have hinX1 : ∀ w ∈ wsX10, w ∈ wsX3_changeSigns := by decide +kernel
  have hinX3 : ∀ w ∈ wsX30, w ∈ wsX3_changeSigns := by decide +kernel
  have hl : lv_has ls 5 [(0, .ref (ad w)), (1, .ref (ad n))] := hl
  obtain ⟨hw, kw, gq, hq, kq, lq⟩ := id hV
  obtain ⟨hn, kn, gt, ht, kt, lt, gk, hk, kk, lk⟩ := id hN
  have hW : Wd D cy A s.heap s.heap [] L ad G I (va_up J q (J q)) := by rw [up_same]; exact hW
  refine lv_iconst (v := nI 0) hx hb dX3_changeSigns_0 (by decide) ?_
  refine lv_istore_n (lv' := [(2, .int (nI 0)), (0, .ref (ad w)), (1, .ref (ad n))]) hx hb dX3_changeSigns_1 rfl hl (by decide) rfl (fun ls hl => ?_)
  have lp2 : ∀ (nn : Nat) (a : Nat), (a ≤ pl) → (pl + 1 ≤ a + nn) → ∀ (H : Heap) (locs : List Loc), Wd D cy A s.heap H locs L ad G I (va_up J q (fun k => if ((k / 4 < a ∧ k % 4 < dr) ∨ (k / 4 = a ∧ k % 4 < 0)) ∧ mk (k / 4) = true then -(J q k) else J q k)) → ∀ (ls : Array Slot), lv_has ls 5 [(0, .ref (ad w)), (1, .ref (ad n)), (2, .int (nI a))] → W p l e rmX3_changeSigns s m args below meth c H locs 0 0 Q (F0 m 2 ls []) := by
    intro nn
    induction nn with
    | zero => intros; exfalso; omega
    | succ nn ih2 =>
      intro a ha hf H locs hW ls hl
      refine lv_iload_n hx hb dX3_changeSigns_2 rfl (lv_at hl 2 rfl) ?_
      refine lv_aload_n hx hb dX3_changeSigns_3 rfl (lv_at hl 1 rfl) ?_
      refine g_X1_0 C hinX1 hW hn kn lk25 dX3_changeSigns_4 ?_
      refine w_top (y := .int (nI pl)) (by rw [hpl]) ?_
      refine n_icmp_ge (tgt := 63) hx hb (by omega) (by omega) dX3_changeSigns_7 (by decide) (fun h1 => ?_) (fun h1 => ?_)
      · skip
        have hW := Wd_setJ (g := (signF pl dr mk (J q))) hW kq (by rw [lq]; exact (fun k hk => by unfold signF; by_cases hc : dor pl dr k = true ∧ mk (k / 4) = true; rw [if_pos hc, if_pos ⟨by have := dor_iff.mp hc.1; omega, hc.2⟩]; rw [if_neg hc, if_neg (fun y => hc ⟨dor_iff.mpr (by omega), y.2⟩)]))
        exact ret _ _ _ _ _ _ _ _ (Nat.le_of_ble_eq_true rfl) (Nat.le_of_ble_eq_true rfl) hW ⟨rfl, rfl⟩ dX3_changeSigns_63
      · skip
        refine lv_aload_n hx hb dX3_changeSigns_10 rfl (lv_at hl 1 rfl) ?_
        refine g_X1_5 C hinX1 hW hn kn gk lk41 dX3_changeSigns_11 ?_
        refine lv_iload_n hx hb dX3_changeSigns_14 rfl (lv_at hl 2 rfl) ?_
        refine p_zald C hW hk kk (k := a) rfl (by rw [lk]; omega) dX3_changeSigns_15 ?_
        refine w_top (y := .int (bI (mk a))) (by rw [hmk _ (by omega)]) ?_
        refine b_if_eq (tgt := 57) hx hb dX3_changeSigns_16 (by decide) (fun h2 => ?_) (fun h2 => ?_)
        · skip
          refine lv_iinc (v := nI (a + 1)) (lv' := [(2, .int (nI (a + 1))), (0, .ref (ad w)), (1, .ref (ad n))]) hx hb dX3_changeSigns_57 hl (k := 2) rfl (nI_inc _) (by decide) rfl (fun ls hl => ?_)
          refine lv_goto (tgt := 2) hx hb dX3_changeSigns_60 (by decide) ?_
          have hW := Wd_setJ (g := (fun k => if ((k / 4 < a + 1 ∧ k % 4 < dr) ∨ (k / 4 = a + 1 ∧ k % 4 < 0)) ∧ mk (k / 4) = true then -(J q k) else J q k)) hW kq (by rw [lq]; exact (fun k hk => by by_cases hc : (k / 4 < a ∧ k % 4 < dr) ∧ mk (k / 4) = true; rw [if_pos ⟨Or.inl ⟨by omega, hc.1.2⟩, hc.2⟩, if_pos ⟨Or.inl hc.1, hc.2⟩]; rw [if_neg (fun y => by by_cases e : k / 4 = a; (have := y.2; rw [e, h2] at this; cases this); exact hc ⟨by omega, y.2⟩), if_neg (fun y => hc ⟨by omega, y.2⟩)]))
          exact ih2 (a + 1) (by omega) (by omega) _ _ hW ls (lv_sub hl [1, 2, 0] rfl)
        · skip
          refine lv_iconst (v := nI 0) hx hb dX3_changeSigns_19 (by decide) ?_
          refine lv_istore_n (lv' := [(3, .int (nI 0)), (0, .ref (ad w)), (1, .ref (ad n)), (2, .int (nI a))]) hx hb dX3_changeSigns_20 rfl hl (by decide) rfl (fun ls hl => ?_)
          have lp21 : ∀ (nn : Nat) (b : Nat), (b ≤ dr) → (dr + 1 ≤ b + nn) → ∀ (H : Heap) (locs : List Loc), Wd D cy A s.heap H locs L ad G I (va_up J q (fun k => if ((k / 4 < a ∧ k % 4 < dr) ∨ (k / 4 = a ∧ k % 4 < b)) ∧ mk (k / 4) = true then -(J q k) else J q k)) → ∀ (ls : Array Slot), lv_has ls 5 [(0, .ref (ad w)), (1, .ref (ad n)), (2, .int (nI a)), (3, .int (nI b))] → W p l e rmX3_changeSigns s m args below meth c H locs 0 0 Q (F0 m 21 ls []) := by
            intro nn
            induction nn with
            | zero => intros; exfalso; omega
            | succ nn ih21 =>
              intro b hb4 hf2 H locs hW ls hl
              refine lv_iload_n hx hb dX3_changeSigns_21 rfl (lv_at hl 3 rfl) ?_
              refine lv_aload_n hx hb dX3_changeSigns_22 rfl (lv_at hl 1 rfl) ?_
              refine g_X1_1 C hinX1 hW hn kn lk30 dX3_changeSigns_23 ?_
              refine w_top (y := .int (nI dr)) (by rw [hdr]) ?_
              refine n_icmp_ge (tgt := 57) hx hb (by omega) (by omega) dX3_changeSigns_26 (by decide) (fun h3 => ?_) (fun h3 => ?_)
              · skip
                refine lv_iinc (v := nI (a + 1)) (lv' := [(2, .int (nI (a + 1))), (0, .ref (ad w)), (1, .ref (ad n)), (3, .int (nI b))]) hx hb dX3_changeSigns_57 hl (k := 2) rfl (nI_inc _) (by decide) rfl (fun ls hl => ?_)
                refine lv_goto (tgt := 2) hx hb dX3_changeSigns_60 (by decide) ?_
                have hW := Wd_setJ (g := (fun k => if ((k / 4 < a + 1 ∧ k % 4 < dr) ∨ (k / 4 = a + 1 ∧ k % 4 < 0)) ∧ mk (k / 4) = true then -(J q k) else J q k)) hW kq (by rw [lq]; exact (fun k hk => by by_cases hc : (k / 4 < a + 1 ∧ k % 4 < dr) ∧ mk (k / 4) = true; rw [if_pos ⟨by omega, hc.2⟩, if_pos ⟨by omega, hc.2⟩]; rw [if_neg (fun y => hc ⟨by omega, y.2⟩), if_neg (fun y => hc ⟨by omega, y.2⟩)]))
                exact ih2 (a + 1) (by omega) (by omega) _ _ hW ls (lv_sub hl [1, 2, 0] rfl)
              · skip
                refine lv_iload_n hx hb dX3_changeSigns_29 rfl (lv_at hl 2 rfl) ?_
                refine lv_iconst (v := nI 4) hx hb dX3_changeSigns_30 (by decide) ?_
                refine n_imul hx hb dX3_changeSigns_31 ?_
                refine lv_iload_n hx hb dX3_changeSigns_32 rfl (lv_at hl 3 rfl) ?_
                refine n_iadd hx hb dX3_changeSigns_33 ?_
                refine lv_istore (lv' := [(4, .int (nI ((a * 4) + b))), (0, .ref (ad w)), (1, .ref (ad n)), (2, .int (nI a)), (3, .int (nI b))]) hx hb dX3_changeSigns_34 hl (by decide) rfl (fun ls hl => ?_)
                refine lv_aload_n hx hb dX3_changeSigns_36 rfl (lv_at hl 1 rfl) ?_
                refine g_X3_0 C hinX3 hW hw kw gq lk9 dX3_changeSigns_37 ?_
                refine lv_iload hx hb dX3_changeSigns_40 (lv_at hl 0 rfl) ?_
                refine lv_aload_n hx hb dX3_changeSigns_42 rfl (lv_at hl 1 rfl) ?_
                refine g_X3_0 C hinX3 hW hw kw gq lk9 dX3_changeSigns_43 ?_
                refine lv_iload hx hb dX3_changeSigns_46 (lv_at hl 0 rfl) ?_
                refine p_lald C hW hq kq (k := (a * 4) + b) rfl (by rw [lq]; omega) dX3_changeSigns_48 ?_
                refine w_top (y := .long ((fun k => if ((k / 4 < a ∧ k % 4 < dr) ∨ (k / 4 = a ∧ k % 4 < b)) ∧ mk (k / 4) = true then -(J q k) else J q k) ((a * 4) + b))) (by rw [va_up_self]) ?_
                refine lv_lneg hx hb dX3_changeSigns_49 ?_
                refine p_last C hW hq kq (k := (a * 4) + b) rfl (by rw [lq]; omega) dX3_changeSigns_50 (fun H locs hW => ?_)
                rw [va_up_self, up_up] at hW
                refine lv_iinc (v := nI (b + 1)) (lv' := [(3, .int (nI (b + 1))), (4, .int (nI ((a * 4) + b))), (0, .ref (ad w)), (1, .ref (ad n)), (2, .int (nI a))]) hx hb dX3_changeSigns_51 hl (k := 4) rfl (nI_inc _) (by decide) rfl (fun ls hl => ?_)
                refine lv_goto (tgt := 21) hx hb dX3_changeSigns_54 (by decide) ?_
                have hW := Wd_setJ (g := (fun k => if ((k / 4 < a ∧ k % 4 < dr) ∨ (k / 4 = a ∧ k % 4 < b + 1)) ∧ mk (k / 4) = true then -(J q k) else J q k)) hW kq (by rw [lq]; exact (fun k hk => by dsimp only [vp_updL]; by_cases hc : k = a * 4 + b; (rw [if_pos ⟨by omega, by rw [show k / 4 = a by omega]; exact h2⟩, if_pos hc, if_neg (by omega), hc]); rw [if_neg hc]; by_cases hc2 : ((k / 4 < a ∧ k % 4 < dr) ∨ (k / 4 = a ∧ k % 4 < b)) ∧ mk (k / 4) = true; rw [if_pos ⟨by omega, hc2.2⟩, if_pos hc2]; rw [if_neg (fun y => hc2 ⟨by omega, y.2⟩), if_neg hc2]))
                exact ih21 (b + 1) (by omega) (by omega) _ _ hW ls (lv_sub hl [2, 3, 4, 0] rfl)
          exact lp21 (dr + 1) 0 (by omega) (by omega) _ _ hW ls (lv_sub hl [1, 2, 3, 0] rfl)
  have hW := Wd_setJ (g := (fun k => if ((k / 4 < 0 ∧ k % 4 < dr) ∨ (k / 4 = 0 ∧ k % 4 < 0)) ∧ mk (k / 4) = true then -(J q k) else J q k)) hW kq (by rw [lq]; exact (fun k hk => by rw [if_neg (by omega)]))
  exact lp2 (pl + 1) 0 (by omega) (by omega) _ _ hW ls (lv_sub hl [1, 2, 0] rfl)
