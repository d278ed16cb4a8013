abbrev rmX4_netOf : Room := { frames := 6, cells := 1, slots := 6, locals := 82 }
set_option maxHeartbeats 4000000 in
set_option maxRecDepth 100000 in
theorem c_X4_netOf (l : Launch) (hst : l.stackTraces = false) (D : va_G) (cy : Nat → ClassId) (L : List Nat) (ad : Nat → Nat) (G : mG) (I : mI) (J : mJ) (cn cw : Nat) (nt : Nat → Nat) (hS : cSh L G cn cw nt) (h6 : cn ≤ 6) (h12 : cw ≤ 12) (x : Int32) : pXet l yX4_netOf wsX4_netOf rmX4_netOf D cy L ad G I J [.ref (ad 0), .int x] (qR (fun q I' J' => (∃ i, ixN x cn = some i ∧ q = 8 + 3 * i) ∧ I' = I ∧ J' = J) D cy L ad G) (fun E => E = na_N ∧ ixN x cn = none) := by
  refine pXet.ofR (cc := cX4_netOf) (maxL := 3) (by decide +kernel) rfl (Nat.le_of_ble_eq_true rfl) ?_
  intro p e R s m args below meth c A Q C hml hR hg ret thr hQ hlk hnx hW ls hl
  subst hR
  have C : Cx p s m args c cX4_netOf RX4 wsX4_netOf D cy A := C
  have hx := C.1
  have hb := C.2.1
  have lk11 := C.2.2.2.1 (.fieldLink RX4 11 "WaveWalk" "nets" "[LWaveWalk$Net;") (by decide +kernel)
  have hinX4 : ∀ w ∈ wsX40, w ∈ wsX4_netOf := by decide +kernel
  have hl : lv_has ls 3 [(0, .ref (ad 0)), (1, .int x)] := hl
  have h0L : 0 ∈ L := hS.1 0 (by omega)
  have h1L : 1 ∈ L := hS.1 1 (by omega)
  have h2L : 2 ∈ L := hS.1 2 (by omega)
  refine lv_iload_n hx hb dX4_netOf_0 rfl (lv_at hl 1 rfl) ?_
  refine lv_if_lt (tgt := 22) hx hb dX4_netOf_1 (by decide) (fun h1 => ?_) (fun h1 => ?_)
  · skip
    refine lv_null hx hb dX4_netOf_22 ?_
    refine lv_astore_nN (lv' := [(2, .null), (0, .ref (ad 0)), (1, .int x)]) hx hb dX4_netOf_23 rfl hl (by decide) rfl (fun ls hl => ?_)
    refine lv_aload_nN hx hb dX4_netOf_24 rfl (lv_at hl 0 rfl) ?_
    refine lv_ifnonnullN hx hb dX4_netOf_25 ?_
    rw [hQ]
    exact p_thrN C hst hg (by first | exact fun w h => List.mem_cons_of_mem _ (List.mem_append_right _ h) | exact fun w h => List.mem_cons_of_mem _ (List.mem_append_left _ (List.mem_append_right _ h))) (by decide +kernel) (by decide +kernel) hg.1.2.2.2.2.2.2.2.2.2.2.2.2.1 hW (hl.1.trans hml.symm) dX4_netOf_28 dX4_netOf_31 dX4_netOf_32 dX4_netOf_34 dX4_netOf_37 hnx (Nat.le_of_ble_eq_true rfl) (Nat.le_of_ble_eq_true rfl) (Nat.le_of_ble_eq_true rfl) (Nat.le_of_ble_eq_true rfl) hlk ⟨rfl, ixN_neg h1⟩ (Nat.le_of_ble_eq_true rfl) (Nat.le_of_ble_eq_true rfl)
  · skip
    refine lv_iload_n hx hb dX4_netOf_4 rfl (lv_at hl 1 rfl) ?_
    refine lv_aload_n hx hb dX4_netOf_5 rfl (lv_at hl 0 rfl) ?_
    refine g_X4_0 C hinX4 hW h0L (by decide) hS.2.1 lk11 dX4_netOf_6 ?_
    refine p_alen C hW h1L (Or.inl (by decide)) dX4_netOf_9 ?_
    refine w_top (y := .int (nI 6)) (by rw [show ln 1 = 6 by decide]) ?_
    refine lv_icmp_ge (tgt := 22) hx hb dX4_netOf_10 (by decide) (fun h2 => ?_) (fun h2 => ?_)
    · skip
      refine lv_null hx hb dX4_netOf_22 ?_
      refine lv_astore_nN (lv' := [(2, .null), (0, .ref (ad 0)), (1, .int x)]) hx hb dX4_netOf_23 rfl hl (by decide) rfl (fun ls hl => ?_)
      refine lv_aload_nN hx hb dX4_netOf_24 rfl (lv_at hl 0 rfl) ?_
      refine lv_ifnonnullN hx hb dX4_netOf_25 ?_
      rw [hQ]
      exact p_thrN C hst hg (by first | exact fun w h => List.mem_cons_of_mem _ (List.mem_append_right _ h) | exact fun w h => List.mem_cons_of_mem _ (List.mem_append_left _ (List.mem_append_right _ h))) (by decide +kernel) (by decide +kernel) hg.1.2.2.2.2.2.2.2.2.2.2.2.2.1 hW (hl.1.trans hml.symm) dX4_netOf_28 dX4_netOf_31 dX4_netOf_32 dX4_netOf_34 dX4_netOf_37 hnx (Nat.le_of_ble_eq_true rfl) (Nat.le_of_ble_eq_true rfl) (Nat.le_of_ble_eq_true rfl) (Nat.le_of_ble_eq_true rfl) hlk ⟨rfl, ixN_ge (n := cn) (by have h := h2; rw [Int32.le_iff_toInt_le, nI_toInt (by omega)] at h ⊢; omega) (by omega)⟩ (Nat.le_of_ble_eq_true rfl) (Nat.le_of_ble_eq_true rfl)
    · skip
      obtain ⟨i, hi, hxi, -⟩ := pk_mu h1 h2 (by omega)
      subst hxi
      refine lv_aload_n hx hb dX4_netOf_13 rfl (lv_at hl 0 rfl) ?_
      refine g_X4_0 C hinX4 hW h0L (by decide) hS.2.1 lk11 dX4_netOf_14 ?_
      refine lv_iload_n hx hb dX4_netOf_17 rfl (lv_at hl 1 rfl) ?_
      refine p_aald C hW h1L (Or.inl (by decide)) (k := i) rfl (by rw [show ln 1 = 6 by decide]; omega) dX4_netOf_18 ?_
      by_cases hlt : i < cn
      · skip
        refine w_top (y := .ref (ad (8 + 3 * i))) (by rw [hS.2.2.2.2.2.2.2.2.1 i hi, if_pos hlt]; rfl) ?_
        refine lv_goto (tgt := 23) hx hb dX4_netOf_19 (by decide) ?_
        refine lv_astore_n (lv' := [(2, .ref (ad (8 + 3 * i))), (0, .ref (ad 0)), (1, .int (nI i))]) hx hb dX4_netOf_23 rfl hl (by decide) rfl (fun ls hl => ?_)
        refine lv_aload_n hx hb dX4_netOf_24 rfl (lv_at hl 0 rfl) ?_
        refine lv_ifnonnull (tgt := 38) hx hb dX4_netOf_25 (by decide) ?_
        refine lv_aload_n hx hb dX4_netOf_38 rfl (lv_at hl 0 rfl) ?_
        exact ret _ _ _ _ _ _ _ _ _ (Nat.le_of_ble_eq_true rfl) (Nat.le_of_ble_eq_true rfl) hW ⟨⟨i, ixN_nI hlt (by omega), rfl⟩, rfl, rfl⟩ dX4_netOf_39
      · skip
        refine w_top (y := .null) (by rw [hS.2.2.2.2.2.2.2.2.1 i hi, if_neg hlt]; rfl) ?_
        refine lv_goto (tgt := 23) hx hb dX4_netOf_19 (by decide) ?_
        refine lv_astore_nN (lv' := [(2, .null), (0, .ref (ad 0)), (1, .int (nI i))]) hx hb dX4_netOf_23 rfl hl (by decide) rfl (fun ls hl => ?_)
        refine lv_aload_nN hx hb dX4_netOf_24 rfl (lv_at hl 0 rfl) ?_
        refine lv_ifnonnullN hx hb dX4_netOf_25 ?_
        rw [hQ]
        exact p_thrN C hst hg (by first | exact fun w h => List.mem_cons_of_mem _ (List.mem_append_right _ h) | exact fun w h => List.mem_cons_of_mem _ (List.mem_append_left _ (List.mem_append_right _ h))) (by decide +kernel) (by decide +kernel) hg.1.2.2.2.2.2.2.2.2.2.2.2.2.1 hW (hl.1.trans hml.symm) dX4_netOf_28 dX4_netOf_31 dX4_netOf_32 dX4_netOf_34 dX4_netOf_37 hnx (Nat.le_of_ble_eq_true rfl) (Nat.le_of_ble_eq_true rfl) (Nat.le_of_ble_eq_true rfl) (Nat.le_of_ble_eq_true rfl) hlk ⟨rfl, ixN_not (by omega) (by omega)⟩ (Nat.le_of_ble_eq_true rfl) (Nat.le_of_ble_eq_true rfl)
abbrev rmX4_walkOf : Room := { frames := 6, cells := 1, slots := 6, locals := 82 }
set_option maxHeartbeats 4000000 in
set_option maxRecDepth 100000 in
theorem c_X4_walkOf (l : Launch) (hst : l.stackTraces = false) (D : va_G) (cy : Nat → ClassId) (L : List Nat) (ad : Nat → Nat) (G : mG) (I : mI) (J : mJ) (cn cw : Nat) (nt : Nat → Nat) (hS : cSh L G cn cw nt) (h6 : cn ≤ 6) (h12 : cw ≤ 12) (x : Int32) : pXet l yX4_walkOf wsX4_walkOf rmX4_walkOf D cy L ad G I J [.ref (ad 0), .int x] (qR (fun q I' J' => (∃ i, ixN x cw = some i ∧ q = 26 + 3 * i) ∧ I' = I ∧ J' = J) D cy L ad G) (fun E => E = na_N ∧ ixN x cw = none) := by
  refine pXet.ofR (cc := cX4_walkOf) (maxL := 3) (by decide +kernel) rfl (Nat.le_of_ble_eq_true rfl) ?_
  intro p e R s m args below meth c A Q C hml hR hg ret thr hQ hlk hnx hW ls hl
  subst hR
  have C : Cx p s m args c cX4_walkOf RX4 wsX4_walkOf D cy A := C
  have hx := C.1
  have hb := C.2.1
  have lk17 := C.2.2.2.1 (.fieldLink RX4 17 "WaveWalk" "walks" "[LWaveWalk$Walk;") (by decide +kernel)
  have hinX4 : ∀ w ∈ wsX40, w ∈ wsX4_walkOf := by decide +kernel
  have hl : lv_has ls 3 [(0, .ref (ad 0)), (1, .int x)] := hl
  have h0L : 0 ∈ L := hS.1 0 (by omega)
  have h1L : 1 ∈ L := hS.1 1 (by omega)
  have h2L : 2 ∈ L := hS.1 2 (by omega)
  refine lv_iload_n hx hb dX4_walkOf_0 rfl (lv_at hl 1 rfl) ?_
  refine lv_if_lt (tgt := 22) hx hb dX4_walkOf_1 (by decide) (fun h1 => ?_) (fun h1 => ?_)
  · skip
    refine lv_null hx hb dX4_walkOf_22 ?_
    refine lv_astore_nN (lv' := [(2, .null), (0, .ref (ad 0)), (1, .int x)]) hx hb dX4_walkOf_23 rfl hl (by decide) rfl (fun ls hl => ?_)
    refine lv_aload_nN hx hb dX4_walkOf_24 rfl (lv_at hl 0 rfl) ?_
    refine lv_ifnonnullN hx hb dX4_walkOf_25 ?_
    rw [hQ]
    exact p_thrN C hst hg (by first | exact fun w h => List.mem_cons_of_mem _ (List.mem_append_right _ h) | exact fun w h => List.mem_cons_of_mem _ (List.mem_append_left _ (List.mem_append_right _ h))) (by decide +kernel) (by decide +kernel) hg.1.2.2.2.2.2.2.2.2.2.2.2.2.2.2.2.1 hW (hl.1.trans hml.symm) dX4_walkOf_28 dX4_walkOf_31 dX4_walkOf_32 dX4_walkOf_34 dX4_walkOf_37 hnx (Nat.le_of_ble_eq_true rfl) (Nat.le_of_ble_eq_true rfl) (Nat.le_of_ble_eq_true rfl) (Nat.le_of_ble_eq_true rfl) hlk ⟨rfl, ixN_neg h1⟩ (Nat.le_of_ble_eq_true rfl) (Nat.le_of_ble_eq_true rfl)
  · skip
    refine lv_iload_n hx hb dX4_walkOf_4 rfl (lv_at hl 1 rfl) ?_
    refine lv_aload_n hx hb dX4_walkOf_5 rfl (lv_at hl 0 rfl) ?_
    refine g_X4_1 C hinX4 hW h0L (by decide) hS.2.2.1 lk17 dX4_walkOf_6 ?_
    refine p_alen C hW h2L (Or.inr (by decide)) dX4_walkOf_9 ?_
    refine w_top (y := .int (nI 12)) (by rw [show ln 2 = 12 by decide]) ?_
    refine lv_icmp_ge (tgt := 22) hx hb dX4_walkOf_10 (by decide) (fun h2 => ?_) (fun h2 => ?_)
    · skip
      refine lv_null hx hb dX4_walkOf_22 ?_
      refine lv_astore_nN (lv' := [(2, .null), (0, .ref (ad 0)), (1, .int x)]) hx hb dX4_walkOf_23 rfl hl (by decide) rfl (fun ls hl => ?_)
      refine lv_aload_nN hx hb dX4_walkOf_24 rfl (lv_at hl 0 rfl) ?_
      refine lv_ifnonnullN hx hb dX4_walkOf_25 ?_
      rw [hQ]
      exact p_thrN C hst hg (by first | exact fun w h => List.mem_cons_of_mem _ (List.mem_append_right _ h) | exact fun w h => List.mem_cons_of_mem _ (List.mem_append_left _ (List.mem_append_right _ h))) (by decide +kernel) (by decide +kernel) hg.1.2.2.2.2.2.2.2.2.2.2.2.2.2.2.2.1 hW (hl.1.trans hml.symm) dX4_walkOf_28 dX4_walkOf_31 dX4_walkOf_32 dX4_walkOf_34 dX4_walkOf_37 hnx (Nat.le_of_ble_eq_true rfl) (Nat.le_of_ble_eq_true rfl) (Nat.le_of_ble_eq_true rfl) (Nat.le_of_ble_eq_true rfl) hlk ⟨rfl, ixN_ge (n := cw) (by have h := h2; rw [Int32.le_iff_toInt_le, nI_toInt (by omega)] at h ⊢; omega) (by omega)⟩ (Nat.le_of_ble_eq_true rfl) (Nat.le_of_ble_eq_true rfl)
    · skip
      obtain ⟨i, hi, hxi, -⟩ := pk_mu h1 h2 (by omega)
      subst hxi
      refine lv_aload_n hx hb dX4_walkOf_13 rfl (lv_at hl 0 rfl) ?_
      refine g_X4_1 C hinX4 hW h0L (by decide) hS.2.2.1 lk17 dX4_walkOf_14 ?_
      refine lv_iload_n hx hb dX4_walkOf_17 rfl (lv_at hl 1 rfl) ?_
      refine p_aald C hW h2L (Or.inr (by decide)) (k := i) rfl (by rw [show ln 2 = 12 by decide]; omega) dX4_walkOf_18 ?_
      by_cases hlt : i < cw
      · skip
        refine w_top (y := .ref (ad (26 + 3 * i))) (by rw [hS.2.2.2.2.2.2.2.2.2.1 i hi, if_pos hlt]; rfl) ?_
        refine lv_goto (tgt := 23) hx hb dX4_walkOf_19 (by decide) ?_
        refine lv_astore_n (lv' := [(2, .ref (ad (26 + 3 * i))), (0, .ref (ad 0)), (1, .int (nI i))]) hx hb dX4_walkOf_23 rfl hl (by decide) rfl (fun ls hl => ?_)
        refine lv_aload_n hx hb dX4_walkOf_24 rfl (lv_at hl 0 rfl) ?_
        refine lv_ifnonnull (tgt := 38) hx hb dX4_walkOf_25 (by decide) ?_
        refine lv_aload_n hx hb dX4_walkOf_38 rfl (lv_at hl 0 rfl) ?_
        exact ret _ _ _ _ _ _ _ _ _ (Nat.le_of_ble_eq_true rfl) (Nat.le_of_ble_eq_true rfl) hW ⟨⟨i, ixN_nI hlt (by omega), rfl⟩, rfl, rfl⟩ dX4_walkOf_39
      · skip
        refine w_top (y := .null) (by rw [hS.2.2.2.2.2.2.2.2.2.1 i hi, if_neg hlt]; rfl) ?_
        refine lv_goto (tgt := 23) hx hb dX4_walkOf_19 (by decide) ?_
        refine lv_astore_nN (lv' := [(2, .null), (0, .ref (ad 0)), (1, .int (nI i))]) hx hb dX4_walkOf_23 rfl hl (by decide) rfl (fun ls hl => ?_)
        refine lv_aload_nN hx hb dX4_walkOf_24 rfl (lv_at hl 0 rfl) ?_
        refine lv_ifnonnullN hx hb dX4_walkOf_25 ?_
        rw [hQ]
        exact p_thrN C hst hg (by first | exact fun w h => List.mem_cons_of_mem _ (List.mem_append_right _ h) | exact fun w h => List.mem_cons_of_mem _ (List.mem_append_left _ (List.mem_append_right _ h))) (by decide +kernel) (by decide +kernel) hg.1.2.2.2.2.2.2.2.2.2.2.2.2.2.2.2.1 hW (hl.1.trans hml.symm) dX4_walkOf_28 dX4_walkOf_31 dX4_walkOf_32 dX4_walkOf_34 dX4_walkOf_37 hnx (Nat.le_of_ble_eq_true rfl) (Nat.le_of_ble_eq_true rfl) (Nat.le_of_ble_eq_true rfl) (Nat.le_of_ble_eq_true rfl) hlk ⟨rfl, ixN_not (by omega) (by omega)⟩ (Nat.le_of_ble_eq_true rfl) (Nat.le_of_ble_eq_true rfl)
abbrev rmX4_needPlace : Room := { frames := 6, cells := 1, slots := 6, locals := 82 }
set_option maxHeartbeats 4000000 in
set_option maxRecDepth 100000 in
theorem c_X4_needPlace (l : Launch) (hst : l.stackTraces = false) (D : va_G) (cy : Nat → ClassId) (L : List Nat) (ad : Nat → Nat) (G : mG) (I : mI) (J : mJ) (n t k : Nat) (hN : isN L G n t k) (pl : Nat) (hpl : I n 0 = nI pl) (hp12 : pl ≤ 12) (x : Int32) : pXet l yX4_needPlace wsX4_needPlace rmX4_needPlace D cy L ad G I J [.ref (ad n), .int x] (qV (fun I' J' => (∃ q, ixN x pl = some q) ∧ I' = I ∧ J' = J) D cy L ad G) (fun E => E = na_N ∧ ixN x pl = none) := by
  refine pXet.ofV (cc := cX4_needPlace) (maxL := 2) (by decide +kernel) rfl (Nat.le_of_ble_eq_true rfl) ?_
  intro p e R s m args below meth c A Q C hml hR hg ret thr hQ hlk hnx hW ls hl
  subst hR
  have C : Cx p s m args c cX4_needPlace RX4 wsX4_needPlace D cy A := C
  have hx := C.1
  have hb := C.2.1
  have lk188 := C.2.2.2.1 (.fieldLink RX4 188 "WaveWalk$Net" "places" "I") (by decide +kernel)
  have hinX1 : ∀ w ∈ wsX10, w ∈ wsX4_needPlace := by decide +kernel
  have hl : lv_has ls 2 [(0, .ref (ad n)), (1, .int x)] := hl
  obtain ⟨hn, kn, gt, ht, kt, lt, gk, hk, kk, lk⟩ := id hN
  refine lv_iload_n hx hb dX4_needPlace_0 rfl (lv_at hl 1 rfl) ?_
  refine lv_if_lt (tgt := 12) hx hb dX4_needPlace_1 (by decide) (fun h1 => ?_) (fun h1 => ?_)
  · skip
    rw [hQ]
    exact p_thrN C hst hg (by first | exact fun w h => List.mem_cons_of_mem _ (List.mem_append_right _ h) | exact fun w h => List.mem_cons_of_mem _ (List.mem_append_left _ (List.mem_append_right _ h))) (by decide +kernel) (by decide +kernel) hg.1.2.2.2.2.2.2.2.2.2.2.2.2.2.1 hW (hl.1.trans hml.symm) dX4_needPlace_12 dX4_needPlace_15 dX4_needPlace_16 dX4_needPlace_18 dX4_needPlace_21 hnx (Nat.le_of_ble_eq_true rfl) (Nat.le_of_ble_eq_true rfl) (Nat.le_of_ble_eq_true rfl) (Nat.le_of_ble_eq_true rfl) hlk ⟨rfl, ixN_neg h1⟩ (Nat.le_of_ble_eq_true rfl) (Nat.le_of_ble_eq_true rfl)
  · skip
    refine lv_iload_n hx hb dX4_needPlace_4 rfl (lv_at hl 1 rfl) ?_
    refine lv_aload_n hx hb dX4_needPlace_5 rfl (lv_at hl 0 rfl) ?_
    refine g_X1_0 C hinX1 hW hn kn lk188 dX4_needPlace_6 ?_
    refine w_top (y := .int (nI pl)) (by rw [hpl]) ?_
    refine lv_icmp_lt (tgt := 22) hx hb dX4_needPlace_9 (by decide) (fun h2 => ?_) (fun h2 => ?_)
    · skip
      obtain ⟨i, hi, hxi, -⟩ := pk_mu h1 (i32_nle.mpr h2) (by omega)
      subst hxi
      exact ret _ _ _ _ _ _ _ _ (Nat.le_of_ble_eq_true rfl) (Nat.le_of_ble_eq_true rfl) hW ⟨⟨i, ixN_nI hi (by omega)⟩, rfl, rfl⟩ dX4_needPlace_22
    · skip
      rw [hQ]
      exact p_thrN C hst hg (by first | exact fun w h => List.mem_cons_of_mem _ (List.mem_append_right _ h) | exact fun w h => List.mem_cons_of_mem _ (List.mem_append_left _ (List.mem_append_right _ h))) (by decide +kernel) (by decide +kernel) hg.1.2.2.2.2.2.2.2.2.2.2.2.2.2.1 hW (hl.1.trans hml.symm) dX4_needPlace_12 dX4_needPlace_15 dX4_needPlace_16 dX4_needPlace_18 dX4_needPlace_21 hnx (Nat.le_of_ble_eq_true rfl) (Nat.le_of_ble_eq_true rfl) (Nat.le_of_ble_eq_true rfl) (Nat.le_of_ble_eq_true rfl) hlk ⟨rfl, ixN_ge (i32_nlt.mp h2) (by omega)⟩ (Nat.le_of_ble_eq_true rfl) (Nat.le_of_ble_eq_true rfl)
abbrev rmX4_cellOf : Room := { frames := 7, cells := 2, slots := 12, locals := 103 }
set_option maxHeartbeats 4000000 in
set_option maxRecDepth 100000 in
theorem c_X4_cellOf (l : Launch) (hst : l.stackTraces = false) (D : va_G) (cy : Nat → ClassId) (L : List Nat) (ad : Nat → Nat) (G : mG) (I : mI) (J : mJ) (n t k : Nat) (hN : isN L G n t k) (pl dr : Nat) (hpl : I n 0 = nI pl) (hdr : I n 1 = nI dr) (hp12 : pl ≤ 12) (hd4 : dr ≤ 4) (x z : Int32) : pXet l yX4_cellOf wsX4_cellOf rmX4_cellOf D cy L ad G I J [.ref (ad n), .int x, .int z] (qI (fun v I' J' => (∃ q d, ixN x pl = some q ∧ ixN z dr = some d ∧ v = nI (q * 4 + d)) ∧ I' = I ∧ J' = J) D cy L ad G) (fun E => E = na_N ∧ (ixN x pl = none ∨ ixN z dr = none)) := by
  refine pXet.ofI (cc := cX4_cellOf) (maxL := 3) (by decide +kernel) rfl (Nat.le_of_ble_eq_true rfl) ?_
  intro p e R s m args below meth c A Q C hml hR hg ret thr hQ hlk hnx hW ls hl
  subst hR
  have C : Cx p s m args c cX4_cellOf RX4 wsX4_cellOf D cy A := C
  have hx := C.1
  have hb := C.2.1
  have lk193 := C.2.2.2.1 (.fieldLink RX4 193 "WaveWalk$Net" "doors" "I") (by decide +kernel)
  have hinX1 : ∀ w ∈ wsX10, w ∈ wsX4_cellOf := by decide +kernel
  have hl : lv_has ls 3 [(0, .ref (ad n)), (1, .int x), (2, .int z)] := hl
  obtain ⟨hn, kn, gt, ht, kt, lt, gk, hk, kk, lk⟩ := id hN
  refine lv_aload_n hx hb dX4_cellOf_0 rfl (lv_at hl 0 rfl) ?_
  refine lv_iload_n hx hb dX4_cellOf_1 rfl (lv_at hl 1 rfl) ?_
  refine p_xSv C hml hg hW (c_X4_needPlace l hst D cy L ad G I J n t k hN pl hpl hp12 x) (va_cwS 2 C.2.2.2.1 gX4_cellOf_X4_needPlace rfl rfl rfl (by decide +kernel) ⟨Nat.le_of_ble_eq_true rfl, Nat.le_of_ble_eq_true rfl⟩) rfl hl.1 rfl (Nat.le_of_ble_eq_true rfl) dX4_cellOf_2 (Nat.le_of_ble_eq_true rfl) (Nat.le_of_ble_eq_true rfl) (fun E ce q9 H locs hW hp h1 h2 h3 => thr E ce q9 H locs _ _ _ _ _ (Nat.le_of_ble_eq_true rfl) (Nat.le_of_ble_eq_true rfl) hW ⟨hp.1, Or.inl hp.2⟩ h1 h2 h3) (fun I1 J2 H locs hp hW => ?_)
  obtain ⟨⟨q, hq⟩, hI, hJ⟩ := hp
  subst I1
  subst J2
  obtain ⟨hql, hxq⟩ := ixN_some hq (by omega)
  subst hxq
  refine lv_iload_n hx hb dX4_cellOf_5 rfl (lv_at hl 2 rfl) ?_
  refine lv_if_lt (tgt := 17) hx hb dX4_cellOf_6 (by decide) (fun h3 => ?_) (fun h3 => ?_)
  · skip
    rw [hQ]
    exact p_thrN C hst hg (by first | exact fun w h => List.mem_cons_of_mem _ (List.mem_append_right _ h) | exact fun w h => List.mem_cons_of_mem _ (List.mem_append_left _ (List.mem_append_right _ h))) (by decide +kernel) (by decide +kernel) hg.1.2.2.2.2.2.2.2.2.2.2.2.2.2.2.1 hW (hl.1.trans hml.symm) dX4_cellOf_17 dX4_cellOf_20 dX4_cellOf_21 dX4_cellOf_23 dX4_cellOf_26 hnx (Nat.le_of_ble_eq_true rfl) (Nat.le_of_ble_eq_true rfl) (Nat.le_of_ble_eq_true rfl) (Nat.le_of_ble_eq_true rfl) hlk ⟨rfl, Or.inr (ixN_neg h3)⟩ (Nat.le_of_ble_eq_true rfl) (Nat.le_of_ble_eq_true rfl)
  · skip
    refine lv_iload_n hx hb dX4_cellOf_9 rfl (lv_at hl 2 rfl) ?_
    refine lv_aload_n hx hb dX4_cellOf_10 rfl (lv_at hl 0 rfl) ?_
    refine g_X1_1 C hinX1 hW hn kn lk193 dX4_cellOf_11 ?_
    refine w_top (y := .int (nI dr)) (by rw [hdr]) ?_
    refine lv_icmp_lt (tgt := 27) hx hb dX4_cellOf_14 (by decide) (fun h4 => ?_) (fun h4 => ?_)
    · skip
      obtain ⟨i, hi, hxi, -⟩ := pk_mu h3 (i32_nle.mpr h4) (by omega)
      subst hxi
      refine lv_iload_n hx hb dX4_cellOf_27 rfl (lv_at hl 1 rfl) ?_
      refine lv_iconst (v := nI 4) hx hb dX4_cellOf_28 (by decide) ?_
      refine n_imul hx hb dX4_cellOf_29 ?_
      refine lv_iload_n hx hb dX4_cellOf_30 rfl (lv_at hl 2 rfl) ?_
      refine n_iadd hx hb dX4_cellOf_31 ?_
      exact ret _ _ _ _ _ _ _ _ _ (Nat.le_of_ble_eq_true rfl) (Nat.le_of_ble_eq_true rfl) hW ⟨⟨q, i, hq, ixN_nI hi (by omega), rfl⟩, rfl, rfl⟩ dX4_cellOf_32
    · skip
      rw [hQ]
      exact p_thrN C hst hg (by first | exact fun w h => List.mem_cons_of_mem _ (List.mem_append_right _ h) | exact fun w h => List.mem_cons_of_mem _ (List.mem_append_left _ (List.mem_append_right _ h))) (by decide +kernel) (by decide +kernel) hg.1.2.2.2.2.2.2.2.2.2.2.2.2.2.2.1 hW (hl.1.trans hml.symm) dX4_cellOf_17 dX4_cellOf_20 dX4_cellOf_21 dX4_cellOf_23 dX4_cellOf_26 hnx (Nat.le_of_ble_eq_true rfl) (Nat.le_of_ble_eq_true rfl) (Nat.le_of_ble_eq_true rfl) (Nat.le_of_ble_eq_true rfl) hlk ⟨rfl, Or.inr (ixN_ge (i32_nlt.mp h4) (by omega))⟩ (Nat.le_of_ble_eq_true rfl) (Nat.le_of_ble_eq_true rfl)
abbrev rmX4_needTold : Room := { frames := 6, cells := 1, slots := 6, locals := 82 }
set_option maxHeartbeats 4000000 in
set_option maxRecDepth 100000 in
theorem c_X4_needTold (l : Launch) (hst : l.stackTraces = false) (D : va_G) (cy : Nat → ClassId) (L : List Nat) (ad : Nat → Nat) (G : mG) (I : mI) (J : mJ) (x : Int32) : pXet l yX4_needTold wsX4_needTold rmX4_needTold D cy L ad G I J [.int x] (qV (fun I' J' => told x.toInt64 = true ∧ I' = I ∧ J' = J) D cy L ad G) (fun E => E = ia_N ∧ told x.toInt64 = false) := by
  refine pXet.ofV (cc := cX4_needTold) (maxL := 1) (by decide +kernel) rfl (Nat.le_of_ble_eq_true rfl) ?_
  intro p e R s m args below meth c A Q C hml hR hg ret thr hQ hlk hnx hW ls hl
  subst hR
  have C : Cx p s m args c cX4_needTold RX4 wsX4_needTold D cy A := C
  have hx := C.1
  have hb := C.2.1
  have hl : lv_has ls 1 [(0, .int x)] := hl
  refine lv_iload_n hx hb dX4_needTold_0 rfl (lv_at hl 0 rfl) ?_
  refine lv_i2l (v := x.toInt64) hx hb dX4_needTold_1 rfl ?_
  refine p_cSi C hml hg hW (c_X4_isTold l D cy L ad G I J x.toInt64) (va_cwS 1 C.2.2.2.1 gX4_needTold_X4_isTold rfl rfl rfl (by decide +kernel) ⟨Nat.le_of_ble_eq_true rfl, Nat.le_of_ble_eq_true rfl⟩) rfl hl.1 rfl (Nat.le_of_ble_eq_true rfl) dX4_needTold_2 (Nat.le_of_ble_eq_true rfl) (Nat.le_of_ble_eq_true rfl) (fun v1 I2 J3 H locs hp hW => ?_)
  obtain ⟨hv, hI, hJ⟩ := hp
  subst v1
  subst I2
  subst J3
  refine b_if_ne (tgt := 18) hx hb dX4_needTold_5 (by decide) (fun h4 => ?_) (fun h4 => ?_)
  · skip
    exact ret _ _ _ _ _ _ _ _ (Nat.le_of_ble_eq_true rfl) (Nat.le_of_ble_eq_true rfl) hW ⟨h4, rfl, rfl⟩ dX4_needTold_18
  · skip
    rw [hQ]
    exact p_thrI C hst hg (by first | exact fun w h => List.mem_cons_of_mem _ (List.mem_append_right _ h) | exact fun w h => List.mem_cons_of_mem _ (List.mem_append_left _ (List.mem_append_right _ h))) (by decide +kernel) (by decide +kernel) hg.1.2.2.2.2.2.2.2.2.2.2.2.2.2.2.2.2.1 hW (hl.1.trans hml.symm) dX4_needTold_8 dX4_needTold_11 dX4_needTold_12 dX4_needTold_14 dX4_needTold_17 hnx (Nat.le_of_ble_eq_true rfl) (Nat.le_of_ble_eq_true rfl) (Nat.le_of_ble_eq_true rfl) (Nat.le_of_ble_eq_true rfl) hlk ⟨rfl, h4⟩ (Nat.le_of_ble_eq_true rfl) (Nat.le_of_ble_eq_true rfl)
abbrev rmX4_needSteps : Room := { frames := 6, cells := 1, slots := 6, locals := 82 }
set_option maxHeartbeats 4000000 in
set_option maxRecDepth 100000 in
theorem c_X4_needSteps (l : Launch) (hst : l.stackTraces = false) (D : va_G) (cy : Nat → ClassId) (L : List Nat) (ad : Nat → Nat) (G : mG) (I : mI) (J : mJ) (x : Int32) : pXet l yX4_needSteps wsX4_needSteps rmX4_needSteps D cy L ad G I J [.int x] (qV (fun I' J' => (∃ k, ixN x 61 = some k) ∧ I' = I ∧ J' = J) D cy L ad G) (fun E => E = ia_N ∧ ixN x 61 = none) := by
  refine pXet.ofV (cc := cX4_needSteps) (maxL := 1) (by decide +kernel) rfl (Nat.le_of_ble_eq_true rfl) ?_
  intro p e R s m args below meth c A Q C hml hR hg ret thr hQ hlk hnx hW ls hl
  subst hR
  have C : Cx p s m args c cX4_needSteps RX4 wsX4_needSteps D cy A := C
  have hx := C.1
  have hb := C.2.1
  have hl : lv_has ls 1 [(0, .int x)] := hl
  refine lv_iload_n hx hb dX4_needSteps_0 rfl (lv_at hl 0 rfl) ?_
  refine lv_if_lt (tgt := 10) hx hb dX4_needSteps_1 (by decide) (fun h1 => ?_) (fun h1 => ?_)
  · skip
    rw [hQ]
    exact p_thrI C hst hg (by first | exact fun w h => List.mem_cons_of_mem _ (List.mem_append_right _ h) | exact fun w h => List.mem_cons_of_mem _ (List.mem_append_left _ (List.mem_append_right _ h))) (by decide +kernel) (by decide +kernel) hg.1.2.2.2.2.2.2.2.2.2.2.2.2.2.2.2.2.2.1 hW (hl.1.trans hml.symm) dX4_needSteps_10 dX4_needSteps_13 dX4_needSteps_14 dX4_needSteps_16 dX4_needSteps_19 hnx (Nat.le_of_ble_eq_true rfl) (Nat.le_of_ble_eq_true rfl) (Nat.le_of_ble_eq_true rfl) (Nat.le_of_ble_eq_true rfl) hlk ⟨rfl, ixN_neg h1⟩ (Nat.le_of_ble_eq_true rfl) (Nat.le_of_ble_eq_true rfl)
  · skip
    refine lv_iload_n hx hb dX4_needSteps_4 rfl (lv_at hl 0 rfl) ?_
    refine lv_bipush (v := nI 60) hx hb dX4_needSteps_5 (by decide) ?_
    refine lv_icmp_le (tgt := 20) hx hb dX4_needSteps_7 (by decide) (fun h2 => ?_) (fun h2 => ?_)
    · skip
      obtain ⟨i, hi, hxi, -⟩ := pk_mu (L := 61) h1 (by have h := h2; rw [Int32.le_iff_toInt_le, nI_toInt (by omega)] at h ⊢; omega) (by omega)
      subst hxi
      exact ret _ _ _ _ _ _ _ _ (Nat.le_of_ble_eq_true rfl) (Nat.le_of_ble_eq_true rfl) hW ⟨⟨i, ixN_nI hi (by omega)⟩, rfl, rfl⟩ dX4_needSteps_20
    · skip
      rw [hQ]
      exact p_thrI C hst hg (by first | exact fun w h => List.mem_cons_of_mem _ (List.mem_append_right _ h) | exact fun w h => List.mem_cons_of_mem _ (List.mem_append_left _ (List.mem_append_right _ h))) (by decide +kernel) (by decide +kernel) hg.1.2.2.2.2.2.2.2.2.2.2.2.2.2.2.2.2.2.1 hW (hl.1.trans hml.symm) dX4_needSteps_10 dX4_needSteps_13 dX4_needSteps_14 dX4_needSteps_16 dX4_needSteps_19 hnx (Nat.le_of_ble_eq_true rfl) (Nat.le_of_ble_eq_true rfl) (Nat.le_of_ble_eq_true rfl) (Nat.le_of_ble_eq_true rfl) hlk ⟨rfl, ixN_ge (n := 61) (by have h := h2; rw [Int32.le_iff_toInt_le, nI_toInt (by omega)] at h ⊢; omega) (by omega)⟩ (Nat.le_of_ble_eq_true rfl) (Nat.le_of_ble_eq_true rfl)
