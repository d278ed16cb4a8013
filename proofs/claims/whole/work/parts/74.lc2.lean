set_option maxHeartbeats 1000000 in
set_option maxRecDepth 100000 in
theorem law_6 {p : Program} {l : Launch} {e : Env} {s : State} {m : MethodId} {args : Array Value} {below : List Frame} {meth : Method} {c : Code} {Q : State → Prop} {D : va_G} {cy : Nat → ClassId} {A : Nat → Prop} (hst0 : l.stackTraces = false) (C : Cx p s m args c cL_law RL wsL_law D cy A) (hml : c.maxLocals = 8) (hg : gX A s) {b Lx : Nat} {xs : Nat → Int32} (hX : scr b Lx xs A s) (i : Nat) (hi : i + 6 ≤ Lx) (cn cw : Nat) (σ : Ab) (L : List Nat) (ad : Nat → Nat) (G : mG) (I : mI) (J : mJ) (hp : pic cn cw σ L G I J) (H : Heap) (locs : List Loc) (cells slots : Nat) (hcc : cells ≤ 20000) (hcs : slots ≤ 200000) (hW : Wd D cy A s.heap H locs L ad G I J) (ls : Array Slot) (hl : lv_has ls 8 [(0, .ref b), (1, .ref (ad 0)), (2, .ref (ad 64)), (3, .ref (ad 80)), (4, .int (nI i))]) (K : kon p l e s m args below meth c Q D cy A b i cells slots) : W p l e room_1 s m args below meth c H locs cells slots Q (F0 m 587 ls []) := by
  have hx := C.1
  have hb := C.2.1
  obtain ⟨hS, hf, hcl, hR, h80, hA, hD, hDr⟩ := id hp
  have h12 := hA.2.1
  have hXl := hX.2.2.2
  refine lv_aload_n hx hb dL_law_587 rfl (lv_at hl 1 rfl) ?_
  refine lv_aload_n hx hb dL_law_588 rfl (lv_at hl 0 rfl) ?_
  refine lv_iload hx hb dL_law_589 (lv_at hl 4 rfl) ?_
  refine lv_iconst (v := nI 1) hx hb dL_law_591 (by decide) ?_
  refine n_iadd hx hb dL_law_592 ?_
  refine l_sld C hX hW (k := i + 1) (by omega) dL_law_593 ?_
  refine lv_aload_n hx hb dL_law_594 rfl (lv_at hl 0 rfl) ?_
  refine lv_iload hx hb dL_law_595 (lv_at hl 4 rfl) ?_
  refine lv_iconst (v := nI 2) hx hb dL_law_597 (by decide) ?_
  refine n_iadd hx hb dL_law_598 ?_
  refine l_sld C hX hW (k := i + 2) (by omega) dL_law_599 ?_
  refine lv_aload_n hx hb dL_law_600 rfl (lv_at hl 0 rfl) ?_
  refine lv_iload hx hb dL_law_601 (lv_at hl 4 rfl) ?_
  refine lv_iconst (v := nI 3) hx hb dL_law_603 (by decide) ?_
  refine n_iadd hx hb dL_law_604 ?_
  refine l_sld C hX hW (k := i + 3) (by omega) dL_law_605 ?_
  refine lv_aload_n hx hb dL_law_606 rfl (lv_at hl 0 rfl) ?_
  refine lv_iload hx hb dL_law_607 (lv_at hl 4 rfl) ?_
  refine lv_iconst (v := nI 4) hx hb dL_law_609 (by decide) ?_
  refine n_iadd hx hb dL_law_610 ?_
  refine l_sld C hX hW (k := i + 4) (by omega) dL_law_611 ?_
  refine lv_aload_n hx hb dL_law_612 rfl (lv_at hl 3 rfl) ?_
  refine p_cHi C hml hg hW (c_L_set l hst0 D cy L ad G I J cn cw σ hS hA hD h80 (xs (i + 1)) (xs (i + 2)) (xs (i + 3)) (xs (i + 4))) (vx_cwSW 6 C.2.2.2.1 gL_law_L_set rfl rfl rfl (by decide +kernel) ⟨Nat.le_of_ble_eq_true rfl, Nat.le_of_ble_eq_true rfl⟩) rfl hl.1 rfl (Nat.le_of_ble_eq_true rfl) dL_law_613 (show cells + 4 ≤ 601024 by omega) (show slots + 24 ≤ 7293034 by omega) (fun v1 I1 J1 H locs h1 hW => ?_)
  refine lv_istore (lv' := [(5, .int v1), (0, .ref b), (1, .ref (ad 0)), (2, .ref (ad 64)), (3, .ref (ad 80)), (4, .int (nI i))]) hx hb dL_law_616 hl (by decide) rfl (fun ls hl => ?_)
  refine lv_aload_n hx hb dL_law_618 rfl (lv_at hl 3 rfl) ?_
  refine lv_aload_n hx hb dL_law_619 rfl (lv_at hl 1 rfl) ?_
  refine lv_iload hx hb dL_law_620 (lv_at hl 5 rfl) ?_
  refine lv_iconst (v := nI 1) hx hb dL_law_622 (by decide) ?_
  refine n_iadd hx hb dL_law_623 ?_
  refine l_sld C hX hW (k := i + 1) (by omega) dL_law_624 ?_
  refine lv_aload_n hx hb dL_law_625 rfl (lv_at hl 1 rfl) ?_
  refine lv_iload hx hb dL_law_626 (lv_at hl 5 rfl) ?_
  refine lv_iconst (v := nI 2) hx hb dL_law_628 (by decide) ?_
  refine n_iadd hx hb dL_law_629 ?_
  refine l_sld C hX hW (k := i + 2) (by omega) dL_law_630 ?_
  refine lv_aload_n hx hb dL_law_631 rfl (lv_at hl 1 rfl) ?_
  refine lv_iload hx hb dL_law_632 (lv_at hl 5 rfl) ?_
  refine lv_iconst (v := nI 3) hx hb dL_law_634 (by decide) ?_
  refine n_iadd hx hb dL_law_635 ?_
  refine l_sld C hX hW (k := i + 3) (by omega) dL_law_636 ?_
  refine lv_aload_n hx hb dL_law_637 rfl (lv_at hl 1 rfl) ?_
  refine lv_iload hx hb dL_law_638 (lv_at hl 5 rfl) ?_
  refine lv_iconst (v := nI 4) hx hb dL_law_640 (by decide) ?_
  refine n_iadd hx hb dL_law_641 ?_
  refine l_sld C hX hW (k := i + 4) (by omega) dL_law_642 ?_
  refine p_cVi C hml hg hW (c_X5_set l D cy L ad G I1 J1 hR cn cw σ hA (hp.mid h1) (xs (i + 1)) (xs (i + 2)) (xs (i + 3)) (xs (i + 4))) (cwV 4 C.2.2.2.1 gL_law_X5_set rfl rfl rfl (by decide +kernel) ⟨Nat.le_of_ble_eq_true rfl, Nat.le_of_ble_eq_true rfl⟩) (p_recv C hW (hR.1 64 (by omega) (by omega)) (pF_5 (by decide)) rfl) rfl hl.1 rfl (Nat.le_of_ble_eq_true rfl) dL_law_643 (show cells + 4 + 0 ≤ 601024 by omega) (show slots + 24 + 0 ≤ 7293034 by omega) (fun v2 I2 J2 H locs h2 hW => ?_)
  refine lv_istore (lv' := [(6, .int v2), (5, .int v1), (0, .ref b), (1, .ref (ad 0)), (2, .ref (ad 64)), (3, .ref (ad 80)), (4, .int (nI i))]) hx hb dL_law_646 hl (by decide) rfl (fun ls hl => ?_)
  refine lv_aload_n hx hb dL_law_648 rfl (lv_at hl 4 rfl) ?_
  refine p_cVi C hml hg hW (c_X5_thrown l D cy L ad G I2 J2 hR) (cwV 0 C.2.2.2.1 gL_law_X5_thrown rfl rfl rfl (by decide +kernel) ⟨Nat.le_of_ble_eq_true rfl, Nat.le_of_ble_eq_true rfl⟩) (p_recv C hW (hR.1 64 (by omega) (by omega)) (pF_5 (by decide)) rfl) rfl hl.1 rfl (Nat.le_of_ble_eq_true rfl) dL_law_649 (show cells + 4 + 0 + 0 ≤ 601024 by omega) (show slots + 24 + 0 + 0 ≤ 7293034 by omega) (fun v3 I3 J3 H locs h3 hW => ?_)
  obtain ⟨e3, eI, eJ⟩ := h3
  subst v3
  subst I3
  subst J3
  refine lv_iload hx hb dL_law_652 (lv_at hl 1 rfl) ?_
  refine lv_icmp_eq (tgt := 659) hx hb dL_law_654 (by decide) (fun hc_1 => ?_) (fun hc_1 => ?_)
  · skip
    refine lv_iload hx hb dL_law_659 (lv_at hl 1 rfl) ?_
    refine lv_if_ne (tgt := 683) hx hb dL_law_661 (by decide) (fun hc_2 => ?_) (fun hc_2 => ?_)
    · skip
      refine lv_goto (tgt := 1483) hx hb dL_law_683 (by decide) ?_
      exact K cn cw _ L ad G I2 J2 _ _ ls _ _ (hp.next (k_set hA (xs (i + 1)) (xs (i + 2)) (xs (i + 3)) (xs (i + 4))) h1 h2) hW (lv_sub hl [2, 3, 4, 5, 6] rfl) (show cells + 4 + 0 + 0 ≤ cells + 12 by omega) (show slots + 24 + 0 + 0 ≤ slots + 120 by omega)
    · skip
      have hz := z3 (c3_set (xs (i + 1)) (xs (i + 2)) (xs (i + 3)) (xs (i + 4))) (h1.1.symm.trans hc_2)
      have ho := ((congrFun (h2.2.2.2 80 (by omega)).2 0).trans (h1.2.1 hz))
      have hb01 := tb (h2.2.1 hz) (b_set (xs (i + 1)) (xs (i + 2)) (xs (i + 3)) (xs (i + 4)))
      refine lv_aload_n hx hb dL_law_664 rfl (lv_at hl 5 rfl) ?_
      refine lv_iconst (v := nI 0) hx hb dL_law_665 (by decide) ?_
      refine p_lald C hW h80 (by decide) (k := 0) rfl (by rw [show ln 80 = 1 by decide]; omega) dL_law_666 ?_
      refine lv_iload hx hb dL_law_667 (lv_at hl 0 rfl) ?_
      refine lv_if_eq (tgt := 676) hx hb dL_law_669 (by decide) (fun hc_3 => ?_) (fun hc_3 => ?_)
      · skip
        refine lv_lconst (v := 0) hx hb dL_law_676 (by decide) ?_
        refine l_eq (tgt := 683) hx hb dL_law_677 dL_law_678 (by decide) (fun hc_4 => ?_) (fun hc_4 => ?_)
        · skip
          refine lv_goto (tgt := 1483) hx hb dL_law_683 (by decide) ?_
          exact K cn cw _ L ad G I2 J2 _ _ ls _ _ (hp.next (k_set hA (xs (i + 1)) (xs (i + 2)) (xs (i + 3)) (xs (i + 4))) h1 h2) hW (lv_sub hl [2, 3, 4, 5, 6] rfl) (show cells + 4 + 0 + 0 ≤ cells + 12 by omega) (show slots + 24 + 0 + 0 ≤ slots + 120 by omega)
        · skip
          exact absurd (ho.trans (hb01.1 hc_3)) hc_4
      · skip
        refine lv_lconst (v := 1) hx hb dL_law_672 (by decide) ?_
        refine lv_goto (tgt := 677) hx hb dL_law_673 (by decide) ?_
        refine l_eq (tgt := 683) hx hb dL_law_677 dL_law_678 (by decide) (fun hc_5 => ?_) (fun hc_5 => ?_)
        · skip
          refine lv_goto (tgt := 1483) hx hb dL_law_683 (by decide) ?_
          exact K cn cw _ L ad G I2 J2 _ _ ls _ _ (hp.next (k_set hA (xs (i + 1)) (xs (i + 2)) (xs (i + 3)) (xs (i + 4))) h1 h2) hW (lv_sub hl [2, 3, 4, 5, 6] rfl) (show cells + 4 + 0 + 0 ≤ cells + 12 by omega) (show slots + 24 + 0 + 0 ≤ slots + 120 by omega)
        · skip
          exact absurd (ho.trans (hb01.2 hc_3)) hc_5
  · skip
    exact absurd (h2.1.trans h1.1.symm) hc_1
set_option maxHeartbeats 1000000 in
set_option maxRecDepth 100000 in
theorem law_7 {p : Program} {l : Launch} {e : Env} {s : State} {m : MethodId} {args : Array Value} {below : List Frame} {meth : Method} {c : Code} {Q : State → Prop} {D : va_G} {cy : Nat → ClassId} {A : Nat → Prop} (hst0 : l.stackTraces = false) (C : Cx p s m args c cL_law RL wsL_law D cy A) (hml : c.maxLocals = 8) (hg : gX A s) {b Lx : Nat} {xs : Nat → Int32} (hX : scr b Lx xs A s) (i : Nat) (hi : i + 6 ≤ Lx) (cn cw : Nat) (σ : Ab) (L : List Nat) (ad : Nat → Nat) (G : mG) (I : mI) (J : mJ) (hp : pic cn cw σ L G I J) (H : Heap) (locs : List Loc) (cells slots : Nat) (hcc : cells ≤ 20000) (hcs : slots ≤ 200000) (hW : Wd D cy A s.heap H locs L ad G I J) (ls : Array Slot) (hl : lv_has ls 8 [(0, .ref b), (1, .ref (ad 0)), (2, .ref (ad 64)), (3, .ref (ad 80)), (4, .int (nI i))]) (K : kon p l e s m args below meth c Q D cy A b i cells slots) : W p l e room_1 s m args below meth c H locs cells slots Q (F0 m 686 ls []) := by
  have hx := C.1
  have hb := C.2.1
  obtain ⟨hS, hf, hcl, hR, h80, hA, hD, hDr⟩ := id hp
  have h12 := hA.2.1
  have hXl := hX.2.2.2
  refine lv_aload_n hx hb dL_law_686 rfl (lv_at hl 1 rfl) ?_
  refine lv_aload_n hx hb dL_law_687 rfl (lv_at hl 0 rfl) ?_
  refine lv_iload hx hb dL_law_688 (lv_at hl 4 rfl) ?_
  refine lv_iconst (v := nI 1) hx hb dL_law_690 (by decide) ?_
  refine n_iadd hx hb dL_law_691 ?_
  refine l_sld C hX hW (k := i + 1) (by omega) dL_law_692 ?_
  refine lv_aload_n hx hb dL_law_693 rfl (lv_at hl 0 rfl) ?_
  refine lv_iload hx hb dL_law_694 (lv_at hl 4 rfl) ?_
  refine lv_iconst (v := nI 2) hx hb dL_law_696 (by decide) ?_
  refine n_iadd hx hb dL_law_697 ?_
  refine l_sld C hX hW (k := i + 2) (by omega) dL_law_698 ?_
  refine p_cHi C hml hg hW (c_L_spread l hst0 D cy L ad G I J cn cw σ hS hA hD h80 (xs (i + 1)) (xs (i + 2))) (vx_cwSW 3 C.2.2.2.1 gL_law_L_spread rfl rfl rfl (by decide +kernel) ⟨Nat.le_of_ble_eq_true rfl, Nat.le_of_ble_eq_true rfl⟩) rfl hl.1 rfl (Nat.le_of_ble_eq_true rfl) dL_law_699 (show cells + 2 ≤ 601024 by omega) (show slots + 12 ≤ 7293034 by omega) (fun v1 I1 J1 H locs h1 hW => ?_)
  refine lv_istore (lv' := [(5, .int v1), (0, .ref b), (1, .ref (ad 0)), (2, .ref (ad 64)), (3, .ref (ad 80)), (4, .int (nI i))]) hx hb dL_law_702 hl (by decide) rfl (fun ls hl => ?_)
  refine lv_aload_n hx hb dL_law_704 rfl (lv_at hl 3 rfl) ?_
  refine lv_aload_n hx hb dL_law_705 rfl (lv_at hl 1 rfl) ?_
  refine lv_iload hx hb dL_law_706 (lv_at hl 5 rfl) ?_
  refine lv_iconst (v := nI 1) hx hb dL_law_708 (by decide) ?_
  refine n_iadd hx hb dL_law_709 ?_
  refine l_sld C hX hW (k := i + 1) (by omega) dL_law_710 ?_
  refine lv_aload_n hx hb dL_law_711 rfl (lv_at hl 1 rfl) ?_
  refine lv_iload hx hb dL_law_712 (lv_at hl 5 rfl) ?_
  refine lv_iconst (v := nI 2) hx hb dL_law_714 (by decide) ?_
  refine n_iadd hx hb dL_law_715 ?_
  refine l_sld C hX hW (k := i + 2) (by omega) dL_law_716 ?_
  refine p_cVv C hml hg hW (c_X5_spread l D cy L ad G I1 J1 hR cn cw σ hA (hp.midV (sp := spSpread cw σ (xs (i + 1)) (xs (i + 2))) h1.2.2) (xs (i + 1)) (xs (i + 2))) (cwV 2 C.2.2.2.1 gL_law_X5_spread rfl rfl rfl (by decide +kernel) ⟨Nat.le_of_ble_eq_true rfl, Nat.le_of_ble_eq_true rfl⟩) (p_recv C hW (hR.1 64 (by omega) (by omega)) (pF_5 (by decide)) rfl) rfl hl.1 rfl (Nat.le_of_ble_eq_true rfl) dL_law_717 (show cells + 2 + 0 ≤ 601024 by omega) (show slots + 12 + 0 ≤ 7293034 by omega) (fun I2 J2 H locs h2 hW => ?_)
  refine lv_aload_n hx hb dL_law_720 rfl (lv_at hl 3 rfl) ?_
  refine p_cVi C hml hg hW (c_X5_thrown l D cy L ad G I2 J2 hR) (cwV 0 C.2.2.2.1 gL_law_X5_thrown rfl rfl rfl (by decide +kernel) ⟨Nat.le_of_ble_eq_true rfl, Nat.le_of_ble_eq_true rfl⟩) (p_recv C hW (hR.1 64 (by omega) (by omega)) (pF_5 (by decide)) rfl) rfl hl.1 rfl (Nat.le_of_ble_eq_true rfl) dL_law_721 (show cells + 2 + 0 + 0 ≤ 601024 by omega) (show slots + 12 + 0 + 0 ≤ 7293034 by omega) (fun v3 I3 J3 H locs h3 hW => ?_)
  obtain ⟨e3, eI, eJ⟩ := h3
  subst v3
  subst I3
  subst J3
  refine lv_iload hx hb dL_law_724 (lv_at hl 0 rfl) ?_
  refine lv_icmp_eq (tgt := 731) hx hb dL_law_726 (by decide) (fun hc_1 => ?_) (fun hc_1 => ?_)
  · skip
    refine lv_goto (tgt := 1483) hx hb dL_law_731 (by decide) ?_
    exact K cn cw _ L ad G I2 J2 _ _ ls _ _ (hp.nextV (k_spread hA (xs (i + 1)) (xs (i + 2))) h1.2.1 h2) hW (lv_sub hl [1, 2, 3, 4, 5] rfl) (show cells + 2 + 0 + 0 ≤ cells + 12 by omega) (show slots + 12 + 0 + 0 ≤ slots + 120 by omega)
  · skip
    exact absurd (h2.1.trans h1.1.symm) hc_1
set_option maxHeartbeats 1000000 in
set_option maxRecDepth 100000 in
theorem law_8 {p : Program} {l : Launch} {e : Env} {s : State} {m : MethodId} {args : Array Value} {below : List Frame} {meth : Method} {c : Code} {Q : State → Prop} {D : va_G} {cy : Nat → ClassId} {A : Nat → Prop} (hst0 : l.stackTraces = false) (C : Cx p s m args c cL_law RL wsL_law D cy A) (hml : c.maxLocals = 8) (hg : gX A s) {b Lx : Nat} {xs : Nat → Int32} (hX : scr b Lx xs A s) (i : Nat) (hi : i + 6 ≤ Lx) (cn cw : Nat) (σ : Ab) (L : List Nat) (ad : Nat → Nat) (G : mG) (I : mI) (J : mJ) (hp : pic cn cw σ L G I J) (H : Heap) (locs : List Loc) (cells slots : Nat) (hcc : cells ≤ 20000) (hcs : slots ≤ 200000) (hW : Wd D cy A s.heap H locs L ad G I J) (ls : Array Slot) (hl : lv_has ls 8 [(0, .ref b), (1, .ref (ad 0)), (2, .ref (ad 64)), (3, .ref (ad 80)), (4, .int (nI i))]) (K : kon p l e s m args below meth c Q D cy A b i cells slots) : W p l e room_1 s m args below meth c H locs cells slots Q (F0 m 734 ls []) := by
  have hx := C.1
  have hb := C.2.1
  obtain ⟨hS, hf, hcl, hR, h80, hA, hD, hDr⟩ := id hp
  have h12 := hA.2.1
  have hXl := hX.2.2.2
  refine lv_aload_n hx hb dL_law_734 rfl (lv_at hl 1 rfl) ?_
  refine lv_aload_n hx hb dL_law_735 rfl (lv_at hl 0 rfl) ?_
  refine lv_iload hx hb dL_law_736 (lv_at hl 4 rfl) ?_
  refine lv_iconst (v := nI 1) hx hb dL_law_738 (by decide) ?_
  refine n_iadd hx hb dL_law_739 ?_
  refine l_sld C hX hW (k := i + 1) (by omega) dL_law_740 ?_
  refine lv_aload_n hx hb dL_law_741 rfl (lv_at hl 0 rfl) ?_
  refine lv_iload hx hb dL_law_742 (lv_at hl 4 rfl) ?_
  refine lv_iconst (v := nI 2) hx hb dL_law_744 (by decide) ?_
  refine n_iadd hx hb dL_law_745 ?_
  refine l_sld C hX hW (k := i + 2) (by omega) dL_law_746 ?_
  refine lv_aload_n hx hb dL_law_747 rfl (lv_at hl 3 rfl) ?_
  refine p_cHi C hml hg hW (c_L_step l hst0 D cy L ad G I J cn cw σ hS hA hD h80 (xs (i + 1)) (xs (i + 2))) (vx_cwSW 4 C.2.2.2.1 gL_law_L_step rfl rfl rfl (by decide +kernel) ⟨Nat.le_of_ble_eq_true rfl, Nat.le_of_ble_eq_true rfl⟩) rfl hl.1 rfl (Nat.le_of_ble_eq_true rfl) dL_law_748 (show cells + 2 ≤ 601024 by omega) (show slots + 12 ≤ 7293034 by omega) (fun v1 I1 J1 H locs h1 hW => ?_)
  refine lv_istore (lv' := [(5, .int v1), (0, .ref b), (1, .ref (ad 0)), (2, .ref (ad 64)), (3, .ref (ad 80)), (4, .int (nI i))]) hx hb dL_law_751 hl (by decide) rfl (fun ls hl => ?_)
  refine lv_aload_n hx hb dL_law_753 rfl (lv_at hl 3 rfl) ?_
  refine lv_aload_n hx hb dL_law_754 rfl (lv_at hl 1 rfl) ?_
  refine lv_iload hx hb dL_law_755 (lv_at hl 5 rfl) ?_
  refine lv_iconst (v := nI 1) hx hb dL_law_757 (by decide) ?_
  refine n_iadd hx hb dL_law_758 ?_
  refine l_sld C hX hW (k := i + 1) (by omega) dL_law_759 ?_
  refine lv_aload_n hx hb dL_law_760 rfl (lv_at hl 1 rfl) ?_
  refine lv_iload hx hb dL_law_761 (lv_at hl 5 rfl) ?_
  refine lv_iconst (v := nI 2) hx hb dL_law_763 (by decide) ?_
  refine n_iadd hx hb dL_law_764 ?_
  refine l_sld C hX hW (k := i + 2) (by omega) dL_law_765 ?_
  refine p_cVi C hml hg hW (c_X5_step l D cy L ad G I1 J1 hR cn cw σ hA (hp.mid h1) (xs (i + 1)) (xs (i + 2))) (cwV 2 C.2.2.2.1 gL_law_X5_step rfl rfl rfl (by decide +kernel) ⟨Nat.le_of_ble_eq_true rfl, Nat.le_of_ble_eq_true rfl⟩) (p_recv C hW (hR.1 64 (by omega) (by omega)) (pF_5 (by decide)) rfl) rfl hl.1 rfl (Nat.le_of_ble_eq_true rfl) dL_law_766 (show cells + 2 + 0 ≤ 601024 by omega) (show slots + 12 + 0 ≤ 7293034 by omega) (fun v2 I2 J2 H locs h2 hW => ?_)
  refine lv_istore (lv' := [(6, .int v2), (5, .int v1), (0, .ref b), (1, .ref (ad 0)), (2, .ref (ad 64)), (3, .ref (ad 80)), (4, .int (nI i))]) hx hb dL_law_769 hl (by decide) rfl (fun ls hl => ?_)
  refine lv_aload_n hx hb dL_law_771 rfl (lv_at hl 4 rfl) ?_
  refine p_cVi C hml hg hW (c_X5_thrown l D cy L ad G I2 J2 hR) (cwV 0 C.2.2.2.1 gL_law_X5_thrown rfl rfl rfl (by decide +kernel) ⟨Nat.le_of_ble_eq_true rfl, Nat.le_of_ble_eq_true rfl⟩) (p_recv C hW (hR.1 64 (by omega) (by omega)) (pF_5 (by decide)) rfl) rfl hl.1 rfl (Nat.le_of_ble_eq_true rfl) dL_law_772 (show cells + 2 + 0 + 0 ≤ 601024 by omega) (show slots + 12 + 0 + 0 ≤ 7293034 by omega) (fun v3 I3 J3 H locs h3 hW => ?_)
  obtain ⟨e3, eI, eJ⟩ := h3
  subst v3
  subst I3
  subst J3
  refine lv_iload hx hb dL_law_775 (lv_at hl 1 rfl) ?_
  refine lv_icmp_eq (tgt := 782) hx hb dL_law_777 (by decide) (fun hc_1 => ?_) (fun hc_1 => ?_)
  · skip
    refine lv_iload hx hb dL_law_782 (lv_at hl 1 rfl) ?_
    refine lv_if_ne (tgt := 799) hx hb dL_law_784 (by decide) (fun hc_2 => ?_) (fun hc_2 => ?_)
    · skip
      refine lv_goto (tgt := 1483) hx hb dL_law_799 (by decide) ?_
      exact K cn cw _ L ad G I2 J2 _ _ ls _ _ (hp.next (k_step hA (xs (i + 1)) (xs (i + 2))) h1 h2) hW (lv_sub hl [2, 3, 4, 5, 6] rfl) (show cells + 2 + 0 + 0 ≤ cells + 12 by omega) (show slots + 12 + 0 + 0 ≤ slots + 120 by omega)
    · skip
      have hz := z3 (c3_step (xs (i + 1)) (xs (i + 2))) (h1.1.symm.trans hc_2)
      have ho := ((congrFun (h2.2.2.2 80 (by omega)).2 0).trans (h1.2.1 hz))
      have ho := ho.trans (h2.2.1 hz)
      refine lv_aload_n hx hb dL_law_787 rfl (lv_at hl 5 rfl) ?_
      refine lv_iconst (v := nI 0) hx hb dL_law_788 (by decide) ?_
      refine p_lald C hW h80 (by decide) (k := 0) rfl (by rw [show ln 80 = 1 by decide]; omega) dL_law_789 ?_
      refine lv_iload hx hb dL_law_790 (lv_at hl 0 rfl) ?_
      refine lv_i2l (v := v2.toInt64) hx hb dL_law_792 rfl ?_
      refine l_eq (tgt := 799) hx hb dL_law_793 dL_law_794 (by decide) (fun hc_3 => ?_) (fun hc_3 => ?_)
      · skip
        refine lv_goto (tgt := 1483) hx hb dL_law_799 (by decide) ?_
        exact K cn cw _ L ad G I2 J2 _ _ ls _ _ (hp.next (k_step hA (xs (i + 1)) (xs (i + 2))) h1 h2) hW (lv_sub hl [2, 3, 4, 5, 6] rfl) (show cells + 2 + 0 + 0 ≤ cells + 12 by omega) (show slots + 12 + 0 + 0 ≤ slots + 120 by omega)
      · skip
        exact absurd ho hc_3
  · skip
    exact absurd (h2.1.trans h1.1.symm) hc_1
set_option maxHeartbeats 1000000 in
set_option maxRecDepth 100000 in
theorem law_9 {p : Program} {l : Launch} {e : Env} {s : State} {m : MethodId} {args : Array Value} {below : List Frame} {meth : Method} {c : Code} {Q : State → Prop} {D : va_G} {cy : Nat → ClassId} {A : Nat → Prop} (hst0 : l.stackTraces = false) (C : Cx p s m args c cL_law RL wsL_law D cy A) (hml : c.maxLocals = 8) (hg : gX A s) {b Lx : Nat} {xs : Nat → Int32} (hX : scr b Lx xs A s) (i : Nat) (hi : i + 6 ≤ Lx) (cn cw : Nat) (σ : Ab) (L : List Nat) (ad : Nat → Nat) (G : mG) (I : mI) (J : mJ) (hp : pic cn cw σ L G I J) (H : Heap) (locs : List Loc) (cells slots : Nat) (hcc : cells ≤ 20000) (hcs : slots ≤ 200000) (hW : Wd D cy A s.heap H locs L ad G I J) (ls : Array Slot) (hl : lv_has ls 8 [(0, .ref b), (1, .ref (ad 0)), (2, .ref (ad 64)), (3, .ref (ad 80)), (4, .int (nI i))]) (K : kon p l e s m args below meth c Q D cy A b i cells slots) : W p l e room_1 s m args below meth c H locs cells slots Q (F0 m 802 ls []) := by
  have hx := C.1
  have hb := C.2.1
  obtain ⟨hS, hf, hcl, hR, h80, hA, hD, hDr⟩ := id hp
  have h12 := hA.2.1
  have hXl := hX.2.2.2
  refine lv_aload_n hx hb dL_law_802 rfl (lv_at hl 1 rfl) ?_
  refine lv_aload_n hx hb dL_law_803 rfl (lv_at hl 0 rfl) ?_
  refine lv_iload hx hb dL_law_804 (lv_at hl 4 rfl) ?_
  refine lv_iconst (v := nI 1) hx hb dL_law_806 (by decide) ?_
  refine n_iadd hx hb dL_law_807 ?_
  refine l_sld C hX hW (k := i + 1) (by omega) dL_law_808 ?_
  refine lv_aload_n hx hb dL_law_809 rfl (lv_at hl 0 rfl) ?_
  refine lv_iload hx hb dL_law_810 (lv_at hl 4 rfl) ?_
  refine lv_iconst (v := nI 2) hx hb dL_law_812 (by decide) ?_
  refine n_iadd hx hb dL_law_813 ?_
  refine l_sld C hX hW (k := i + 2) (by omega) dL_law_814 ?_
  refine lv_aload_n hx hb dL_law_815 rfl (lv_at hl 3 rfl) ?_
  refine p_cHi C hml hg hW (c_L_back l hst0 D cy L ad G I J cn cw σ hS hA hD h80 (xs (i + 1)) (xs (i + 2))) (vx_cwSW 4 C.2.2.2.1 gL_law_L_back rfl rfl rfl (by decide +kernel) ⟨Nat.le_of_ble_eq_true rfl, Nat.le_of_ble_eq_true rfl⟩) rfl hl.1 rfl (Nat.le_of_ble_eq_true rfl) dL_law_816 (show cells + 2 ≤ 601024 by omega) (show slots + 12 ≤ 7293034 by omega) (fun v1 I1 J1 H locs h1 hW => ?_)
  refine lv_istore (lv' := [(5, .int v1), (0, .ref b), (1, .ref (ad 0)), (2, .ref (ad 64)), (3, .ref (ad 80)), (4, .int (nI i))]) hx hb dL_law_819 hl (by decide) rfl (fun ls hl => ?_)
  refine lv_aload_n hx hb dL_law_821 rfl (lv_at hl 3 rfl) ?_
  refine lv_aload_n hx hb dL_law_822 rfl (lv_at hl 1 rfl) ?_
  refine lv_iload hx hb dL_law_823 (lv_at hl 5 rfl) ?_
  refine lv_iconst (v := nI 1) hx hb dL_law_825 (by decide) ?_
  refine n_iadd hx hb dL_law_826 ?_
  refine l_sld C hX hW (k := i + 1) (by omega) dL_law_827 ?_
  refine lv_aload_n hx hb dL_law_828 rfl (lv_at hl 1 rfl) ?_
  refine lv_iload hx hb dL_law_829 (lv_at hl 5 rfl) ?_
  refine lv_iconst (v := nI 2) hx hb dL_law_831 (by decide) ?_
  refine n_iadd hx hb dL_law_832 ?_
  refine l_sld C hX hW (k := i + 2) (by omega) dL_law_833 ?_
  refine p_cVi C hml hg hW (c_X5_back l D cy L ad G I1 J1 hR cn cw σ hA (hp.mid h1) (xs (i + 1)) (xs (i + 2))) (cwV 2 C.2.2.2.1 gL_law_X5_back rfl rfl rfl (by decide +kernel) ⟨Nat.le_of_ble_eq_true rfl, Nat.le_of_ble_eq_true rfl⟩) (p_recv C hW (hR.1 64 (by omega) (by omega)) (pF_5 (by decide)) rfl) rfl hl.1 rfl (Nat.le_of_ble_eq_true rfl) dL_law_834 (show cells + 2 + 0 ≤ 601024 by omega) (show slots + 12 + 0 ≤ 7293034 by omega) (fun v2 I2 J2 H locs h2 hW => ?_)
  refine lv_istore (lv' := [(6, .int v2), (5, .int v1), (0, .ref b), (1, .ref (ad 0)), (2, .ref (ad 64)), (3, .ref (ad 80)), (4, .int (nI i))]) hx hb dL_law_837 hl (by decide) rfl (fun ls hl => ?_)
  refine lv_aload_n hx hb dL_law_839 rfl (lv_at hl 4 rfl) ?_
  refine p_cVi C hml hg hW (c_X5_thrown l D cy L ad G I2 J2 hR) (cwV 0 C.2.2.2.1 gL_law_X5_thrown rfl rfl rfl (by decide +kernel) ⟨Nat.le_of_ble_eq_true rfl, Nat.le_of_ble_eq_true rfl⟩) (p_recv C hW (hR.1 64 (by omega) (by omega)) (pF_5 (by decide)) rfl) rfl hl.1 rfl (Nat.le_of_ble_eq_true rfl) dL_law_840 (show cells + 2 + 0 + 0 ≤ 601024 by omega) (show slots + 12 + 0 + 0 ≤ 7293034 by omega) (fun v3 I3 J3 H locs h3 hW => ?_)
  obtain ⟨e3, eI, eJ⟩ := h3
  subst v3
  subst I3
  subst J3
  refine lv_iload hx hb dL_law_843 (lv_at hl 1 rfl) ?_
  refine lv_icmp_eq (tgt := 850) hx hb dL_law_845 (by decide) (fun hc_1 => ?_) (fun hc_1 => ?_)
  · skip
    refine lv_iload hx hb dL_law_850 (lv_at hl 1 rfl) ?_
    refine lv_if_ne (tgt := 867) hx hb dL_law_852 (by decide) (fun hc_2 => ?_) (fun hc_2 => ?_)
    · skip
      refine lv_goto (tgt := 1483) hx hb dL_law_867 (by decide) ?_
      exact K cn cw _ L ad G I2 J2 _ _ ls _ _ (hp.next (k_back hA (xs (i + 1)) (xs (i + 2))) h1 h2) hW (lv_sub hl [2, 3, 4, 5, 6] rfl) (show cells + 2 + 0 + 0 ≤ cells + 12 by omega) (show slots + 12 + 0 + 0 ≤ slots + 120 by omega)
    · skip
      have hz := z3 (c3_back (xs (i + 1)) (xs (i + 2))) (h1.1.symm.trans hc_2)
      have ho := ((congrFun (h2.2.2.2 80 (by omega)).2 0).trans (h1.2.1 hz))
      have ho := ho.trans (h2.2.1 hz)
      refine lv_aload_n hx hb dL_law_855 rfl (lv_at hl 5 rfl) ?_
      refine lv_iconst (v := nI 0) hx hb dL_law_856 (by decide) ?_
      refine p_lald C hW h80 (by decide) (k := 0) rfl (by rw [show ln 80 = 1 by decide]; omega) dL_law_857 ?_
      refine lv_iload hx hb dL_law_858 (lv_at hl 0 rfl) ?_
      refine lv_i2l (v := v2.toInt64) hx hb dL_law_860 rfl ?_
      refine l_eq (tgt := 867) hx hb dL_law_861 dL_law_862 (by decide) (fun hc_3 => ?_) (fun hc_3 => ?_)
      · skip
        refine lv_goto (tgt := 1483) hx hb dL_law_867 (by decide) ?_
        exact K cn cw _ L ad G I2 J2 _ _ ls _ _ (hp.next (k_back hA (xs (i + 1)) (xs (i + 2))) h1 h2) hW (lv_sub hl [2, 3, 4, 5, 6] rfl) (show cells + 2 + 0 + 0 ≤ cells + 12 by omega) (show slots + 12 + 0 + 0 ≤ slots + 120 by omega)
      · skip
        exact absurd ho hc_3
  · skip
    exact absurd (h2.1.trans h1.1.symm) hc_1
set_option maxHeartbeats 1000000 in
set_option maxRecDepth 100000 in
theorem law_10 {p : Program} {l : Launch} {e : Env} {s : State} {m : MethodId} {args : Array Value} {below : List Frame} {meth : Method} {c : Code} {Q : State → Prop} {D : va_G} {cy : Nat → ClassId} {A : Nat → Prop} (hst0 : l.stackTraces = false) (C : Cx p s m args c cL_law RL wsL_law D cy A) (hml : c.maxLocals = 8) (hg : gX A s) {b Lx : Nat} {xs : Nat → Int32} (hX : scr b Lx xs A s) (i : Nat) (hi : i + 6 ≤ Lx) (cn cw : Nat) (σ : Ab) (L : List Nat) (ad : Nat → Nat) (G : mG) (I : mI) (J : mJ) (hp : pic cn cw σ L G I J) (H : Heap) (locs : List Loc) (cells slots : Nat) (hcc : cells ≤ 20000) (hcs : slots ≤ 200000) (hW : Wd D cy A s.heap H locs L ad G I J) (ls : Array Slot) (hl : lv_has ls 8 [(0, .ref b), (1, .ref (ad 0)), (2, .ref (ad 64)), (3, .ref (ad 80)), (4, .int (nI i))]) (K : kon p l e s m args below meth c Q D cy A b i cells slots) : W p l e room_1 s m args below meth c H locs cells slots Q (F0 m 870 ls []) := by
  have hx := C.1
  have hb := C.2.1
  obtain ⟨hS, hf, hcl, hR, h80, hA, hD, hDr⟩ := id hp
  have h12 := hA.2.1
  have hXl := hX.2.2.2
  refine lv_aload_n hx hb dL_law_870 rfl (lv_at hl 1 rfl) ?_
  refine lv_aload_n hx hb dL_law_871 rfl (lv_at hl 0 rfl) ?_
  refine lv_iload hx hb dL_law_872 (lv_at hl 4 rfl) ?_
  refine lv_iconst (v := nI 1) hx hb dL_law_874 (by decide) ?_
  refine n_iadd hx hb dL_law_875 ?_
  refine l_sld C hX hW (k := i + 1) (by omega) dL_law_876 ?_
  refine lv_aload_n hx hb dL_law_877 rfl (lv_at hl 0 rfl) ?_
  refine lv_iload hx hb dL_law_878 (lv_at hl 4 rfl) ?_
  refine lv_iconst (v := nI 2) hx hb dL_law_880 (by decide) ?_
  refine n_iadd hx hb dL_law_881 ?_
  refine l_sld C hX hW (k := i + 2) (by omega) dL_law_882 ?_
  refine lv_aload_n hx hb dL_law_883 rfl (lv_at hl 0 rfl) ?_
  refine lv_iload hx hb dL_law_884 (lv_at hl 4 rfl) ?_
  refine lv_iconst (v := nI 3) hx hb dL_law_886 (by decide) ?_
  refine n_iadd hx hb dL_law_887 ?_
  refine l_sld C hX hW (k := i + 3) (by omega) dL_law_888 ?_
  refine lv_aload_n hx hb dL_law_889 rfl (lv_at hl 3 rfl) ?_
  refine p_cHi C hml hg hW (c_L_at l hst0 D cy L ad G I J cn cw σ hS hA hD h80 (xs (i + 1)) (xs (i + 2)) (xs (i + 3))) (vx_cwSW 5 C.2.2.2.1 gL_law_L_at rfl rfl rfl (by decide +kernel) ⟨Nat.le_of_ble_eq_true rfl, Nat.le_of_ble_eq_true rfl⟩) rfl hl.1 rfl (Nat.le_of_ble_eq_true rfl) dL_law_890 (show cells + 3 ≤ 601024 by omega) (show slots + 18 ≤ 7293034 by omega) (fun v1 I1 J1 H locs h1 hW => ?_)
  refine lv_istore (lv' := [(5, .int v1), (0, .ref b), (1, .ref (ad 0)), (2, .ref (ad 64)), (3, .ref (ad 80)), (4, .int (nI i))]) hx hb dL_law_893 hl (by decide) rfl (fun ls hl => ?_)
  refine lv_aload_n hx hb dL_law_895 rfl (lv_at hl 3 rfl) ?_
  refine lv_aload_n hx hb dL_law_896 rfl (lv_at hl 1 rfl) ?_
  refine lv_iload hx hb dL_law_897 (lv_at hl 5 rfl) ?_
  refine lv_iconst (v := nI 1) hx hb dL_law_899 (by decide) ?_
  refine n_iadd hx hb dL_law_900 ?_
  refine l_sld C hX hW (k := i + 1) (by omega) dL_law_901 ?_
  refine lv_aload_n hx hb dL_law_902 rfl (lv_at hl 1 rfl) ?_
  refine lv_iload hx hb dL_law_903 (lv_at hl 5 rfl) ?_
  refine lv_iconst (v := nI 2) hx hb dL_law_905 (by decide) ?_
  refine n_iadd hx hb dL_law_906 ?_
  refine l_sld C hX hW (k := i + 2) (by omega) dL_law_907 ?_
  refine lv_aload_n hx hb dL_law_908 rfl (lv_at hl 1 rfl) ?_
  refine lv_iload hx hb dL_law_909 (lv_at hl 5 rfl) ?_
  refine lv_iconst (v := nI 3) hx hb dL_law_911 (by decide) ?_
  refine n_iadd hx hb dL_law_912 ?_
  refine l_sld C hX hW (k := i + 3) (by omega) dL_law_913 ?_
  refine p_cVl C hml hg hW (c_X5_at l D cy L ad G I1 J1 hR cn cw σ hA (hp.mid h1) (xs (i + 1)) (xs (i + 2)) (xs (i + 3))) (cwV 3 C.2.2.2.1 gL_law_X5_at rfl rfl rfl (by decide +kernel) ⟨Nat.le_of_ble_eq_true rfl, Nat.le_of_ble_eq_true rfl⟩) (p_recv C hW (hR.1 64 (by omega) (by omega)) (pF_5 (by decide)) rfl) rfl hl.1 rfl (Nat.le_of_ble_eq_true rfl) dL_law_914 (show cells + 3 + 0 ≤ 601024 by omega) (show slots + 18 + 0 ≤ 7293034 by omega) (fun v2 I2 J2 H locs h2 hW => ?_)
  refine lv_lstore (lv' := [(6, .long v2), (5, .int v1), (0, .ref b), (1, .ref (ad 0)), (2, .ref (ad 64)), (3, .ref (ad 80)), (4, .int (nI i))]) hx hb dL_law_917 hl (by decide) rfl (fun ls hl => ?_)
  refine lv_aload_n hx hb dL_law_919 rfl (lv_at hl 4 rfl) ?_
  refine p_cVi C hml hg hW (c_X5_thrown l D cy L ad G I2 J2 hR) (cwV 0 C.2.2.2.1 gL_law_X5_thrown rfl rfl rfl (by decide +kernel) ⟨Nat.le_of_ble_eq_true rfl, Nat.le_of_ble_eq_true rfl⟩) (p_recv C hW (hR.1 64 (by omega) (by omega)) (pF_5 (by decide)) rfl) rfl hl.1 rfl (Nat.le_of_ble_eq_true rfl) dL_law_920 (show cells + 3 + 0 + 0 ≤ 601024 by omega) (show slots + 18 + 0 + 0 ≤ 7293034 by omega) (fun v3 I3 J3 H locs h3 hW => ?_)
  obtain ⟨e3, eI, eJ⟩ := h3
  subst v3
  subst I3
  subst J3
  refine lv_iload hx hb dL_law_923 (lv_at hl 1 rfl) ?_
  refine lv_icmp_eq (tgt := 930) hx hb dL_law_925 (by decide) (fun hc_1 => ?_) (fun hc_1 => ?_)
  · skip
    refine lv_iload hx hb dL_law_930 (lv_at hl 1 rfl) ?_
    refine lv_if_ne (tgt := 946) hx hb dL_law_932 (by decide) (fun hc_2 => ?_) (fun hc_2 => ?_)
    · skip
      refine lv_goto (tgt := 1483) hx hb dL_law_946 (by decide) ?_
      exact K cn cw _ L ad G I2 J2 _ _ ls _ _ (hp.next (k_at hA (xs (i + 1)) (xs (i + 2)) (xs (i + 3))) h1 h2) hW (lv_sub hl [2, 3, 4, 5, 6] rfl) (show cells + 3 + 0 + 0 ≤ cells + 12 by omega) (show slots + 18 + 0 + 0 ≤ slots + 120 by omega)
    · skip
      have hz := z3 (c3_at (xs (i + 1)) (xs (i + 2)) (xs (i + 3))) (h1.1.symm.trans hc_2)
      have ho := ((congrFun (h2.2.2.2 80 (by omega)).2 0).trans (h1.2.1 hz))
      have ho := ho.trans (h2.2.1 hz)
      refine lv_aload_n hx hb dL_law_935 rfl (lv_at hl 5 rfl) ?_
      refine lv_iconst (v := nI 0) hx hb dL_law_936 (by decide) ?_
      refine p_lald C hW h80 (by decide) (k := 0) rfl (by rw [show ln 80 = 1 by decide]; omega) dL_law_937 ?_
      refine lv_lload hx hb dL_law_938 (lv_at hl 0 rfl) ?_
      refine l_eq (tgt := 946) hx hb dL_law_940 dL_law_941 (by decide) (fun hc_3 => ?_) (fun hc_3 => ?_)
      · skip
        refine lv_goto (tgt := 1483) hx hb dL_law_946 (by decide) ?_
        exact K cn cw _ L ad G I2 J2 _ _ ls _ _ (hp.next (k_at hA (xs (i + 1)) (xs (i + 2)) (xs (i + 3))) h1 h2) hW (lv_sub hl [2, 3, 4, 5, 6] rfl) (show cells + 3 + 0 + 0 ≤ cells + 12 by omega) (show slots + 18 + 0 + 0 ≤ slots + 120 by omega)
      · skip
        exact absurd ho hc_3
  · skip
    exact absurd (h2.1.trans h1.1.symm) hc_1
set_option maxHeartbeats 1000000 in
set_option maxRecDepth 100000 in
theorem law_11 {p : Program} {l : Launch} {e : Env} {s : State} {m : MethodId} {args : Array Value} {below : List Frame} {meth : Method} {c : Code} {Q : State → Prop} {D : va_G} {cy : Nat → ClassId} {A : Nat → Prop} (hst0 : l.stackTraces = false) (C : Cx p s m args c cL_law RL wsL_law D cy A) (hml : c.maxLocals = 8) (hg : gX A s) {b Lx : Nat} {xs : Nat → Int32} (hX : scr b Lx xs A s) (i : Nat) (hi : i + 6 ≤ Lx) (cn cw : Nat) (σ : Ab) (L : List Nat) (ad : Nat → Nat) (G : mG) (I : mI) (J : mJ) (hp : pic cn cw σ L G I J) (H : Heap) (locs : List Loc) (cells slots : Nat) (hcc : cells ≤ 20000) (hcs : slots ≤ 200000) (hW : Wd D cy A s.heap H locs L ad G I J) (ls : Array Slot) (hl : lv_has ls 8 [(0, .ref b), (1, .ref (ad 0)), (2, .ref (ad 64)), (3, .ref (ad 80)), (4, .int (nI i))]) (K : kon p l e s m args below meth c Q D cy A b i cells slots) : W p l e room_1 s m args below meth c H locs cells slots Q (F0 m 949 ls []) := by
  have hx := C.1
  have hb := C.2.1
  obtain ⟨hS, hf, hcl, hR, h80, hA, hD, hDr⟩ := id hp
  have h12 := hA.2.1
  have hXl := hX.2.2.2
  refine lv_aload_n hx hb dL_law_949 rfl (lv_at hl 1 rfl) ?_
  refine lv_aload_n hx hb dL_law_950 rfl (lv_at hl 0 rfl) ?_
  refine lv_iload hx hb dL_law_951 (lv_at hl 4 rfl) ?_
  refine lv_iconst (v := nI 1) hx hb dL_law_953 (by decide) ?_
  refine n_iadd hx hb dL_law_954 ?_
  refine l_sld C hX hW (k := i + 1) (by omega) dL_law_955 ?_
  refine lv_aload_n hx hb dL_law_956 rfl (lv_at hl 0 rfl) ?_
  refine lv_iload hx hb dL_law_957 (lv_at hl 4 rfl) ?_
  refine lv_iconst (v := nI 2) hx hb dL_law_959 (by decide) ?_
  refine n_iadd hx hb dL_law_960 ?_
  refine l_sld C hX hW (k := i + 2) (by omega) dL_law_961 ?_
  refine lv_aload_n hx hb dL_law_962 rfl (lv_at hl 3 rfl) ?_
  refine p_cHi C hml hg hW (c_L_share l hst0 D cy L ad G I J cn cw σ hS hA hD h80 (xs (i + 1)) (xs (i + 2))) (vx_cwSW 4 C.2.2.2.1 gL_law_L_share rfl rfl rfl (by decide +kernel) ⟨Nat.le_of_ble_eq_true rfl, Nat.le_of_ble_eq_true rfl⟩) rfl hl.1 rfl (Nat.le_of_ble_eq_true rfl) dL_law_963 (show cells + 2 ≤ 601024 by omega) (show slots + 12 ≤ 7293034 by omega) (fun v1 I1 J1 H locs h1 hW => ?_)
  refine lv_istore (lv' := [(5, .int v1), (0, .ref b), (1, .ref (ad 0)), (2, .ref (ad 64)), (3, .ref (ad 80)), (4, .int (nI i))]) hx hb dL_law_966 hl (by decide) rfl (fun ls hl => ?_)
  refine lv_aload_n hx hb dL_law_968 rfl (lv_at hl 3 rfl) ?_
  refine lv_aload_n hx hb dL_law_969 rfl (lv_at hl 1 rfl) ?_
  refine lv_iload hx hb dL_law_970 (lv_at hl 5 rfl) ?_
  refine lv_iconst (v := nI 1) hx hb dL_law_972 (by decide) ?_
  refine n_iadd hx hb dL_law_973 ?_
  refine l_sld C hX hW (k := i + 1) (by omega) dL_law_974 ?_
  refine lv_aload_n hx hb dL_law_975 rfl (lv_at hl 1 rfl) ?_
  refine lv_iload hx hb dL_law_976 (lv_at hl 5 rfl) ?_
  refine lv_iconst (v := nI 2) hx hb dL_law_978 (by decide) ?_
  refine n_iadd hx hb dL_law_979 ?_
  refine l_sld C hX hW (k := i + 2) (by omega) dL_law_980 ?_
  refine p_cVl C hml hg hW (c_X5_share l D cy L ad G I1 J1 hR cn cw σ hA (hp.mid h1) (xs (i + 1)) (xs (i + 2))) (cwV 2 C.2.2.2.1 gL_law_X5_share rfl rfl rfl (by decide +kernel) ⟨Nat.le_of_ble_eq_true rfl, Nat.le_of_ble_eq_true rfl⟩) (p_recv C hW (hR.1 64 (by omega) (by omega)) (pF_5 (by decide)) rfl) rfl hl.1 rfl (Nat.le_of_ble_eq_true rfl) dL_law_981 (show cells + 2 + 0 ≤ 601024 by omega) (show slots + 12 + 0 ≤ 7293034 by omega) (fun v2 I2 J2 H locs h2 hW => ?_)
  refine lv_lstore (lv' := [(6, .long v2), (5, .int v1), (0, .ref b), (1, .ref (ad 0)), (2, .ref (ad 64)), (3, .ref (ad 80)), (4, .int (nI i))]) hx hb dL_law_984 hl (by decide) rfl (fun ls hl => ?_)
  refine lv_aload_n hx hb dL_law_986 rfl (lv_at hl 4 rfl) ?_
  refine p_cVi C hml hg hW (c_X5_thrown l D cy L ad G I2 J2 hR) (cwV 0 C.2.2.2.1 gL_law_X5_thrown rfl rfl rfl (by decide +kernel) ⟨Nat.le_of_ble_eq_true rfl, Nat.le_of_ble_eq_true rfl⟩) (p_recv C hW (hR.1 64 (by omega) (by omega)) (pF_5 (by decide)) rfl) rfl hl.1 rfl (Nat.le_of_ble_eq_true rfl) dL_law_987 (show cells + 2 + 0 + 0 ≤ 601024 by omega) (show slots + 12 + 0 + 0 ≤ 7293034 by omega) (fun v3 I3 J3 H locs h3 hW => ?_)
  obtain ⟨e3, eI, eJ⟩ := h3
  subst v3
  subst I3
  subst J3
  refine lv_iload hx hb dL_law_990 (lv_at hl 1 rfl) ?_
  refine lv_icmp_eq (tgt := 997) hx hb dL_law_992 (by decide) (fun hc_1 => ?_) (fun hc_1 => ?_)
  · skip
    refine lv_iload hx hb dL_law_997 (lv_at hl 1 rfl) ?_
    refine lv_if_ne (tgt := 1013) hx hb dL_law_999 (by decide) (fun hc_2 => ?_) (fun hc_2 => ?_)
    · skip
      refine lv_goto (tgt := 1483) hx hb dL_law_1013 (by decide) ?_
      exact K cn cw _ L ad G I2 J2 _ _ ls _ _ (hp.next (k_share hA (xs (i + 1)) (xs (i + 2))) h1 h2) hW (lv_sub hl [2, 3, 4, 5, 6] rfl) (show cells + 2 + 0 + 0 ≤ cells + 12 by omega) (show slots + 12 + 0 + 0 ≤ slots + 120 by omega)
    · skip
      have hz := z3 (c3_share (xs (i + 1)) (xs (i + 2))) (h1.1.symm.trans hc_2)
      have ho := ((congrFun (h2.2.2.2 80 (by omega)).2 0).trans (h1.2.1 hz))
      have ho := ho.trans (h2.2.1 hz)
      refine lv_aload_n hx hb dL_law_1002 rfl (lv_at hl 5 rfl) ?_
      refine lv_iconst (v := nI 0) hx hb dL_law_1003 (by decide) ?_
      refine p_lald C hW h80 (by decide) (k := 0) rfl (by rw [show ln 80 = 1 by decide]; omega) dL_law_1004 ?_
      refine lv_lload hx hb dL_law_1005 (lv_at hl 0 rfl) ?_
      refine l_eq (tgt := 1013) hx hb dL_law_1007 dL_law_1008 (by decide) (fun hc_3 => ?_) (fun hc_3 => ?_)
      · skip
        refine lv_goto (tgt := 1483) hx hb dL_law_1013 (by decide) ?_
        exact K cn cw _ L ad G I2 J2 _ _ ls _ _ (hp.next (k_share hA (xs (i + 1)) (xs (i + 2))) h1 h2) hW (lv_sub hl [2, 3, 4, 5, 6] rfl) (show cells + 2 + 0 + 0 ≤ cells + 12 by omega) (show slots + 12 + 0 + 0 ≤ slots + 120 by omega)
      · skip
        exact absurd ho hc_3
  · skip
    exact absurd (h2.1.trans h1.1.symm) hc_1
set_option maxHeartbeats 1000000 in
set_option maxRecDepth 100000 in
theorem law_12 {p : Program} {l : Launch} {e : Env} {s : State} {m : MethodId} {args : Array Value} {below : List Frame} {meth : Method} {c : Code} {Q : State → Prop} {D : va_G} {cy : Nat → ClassId} {A : Nat → Prop} (hst0 : l.stackTraces = false) (C : Cx p s m args c cL_law RL wsL_law D cy A) (hml : c.maxLocals = 8) (hg : gX A s) {b Lx : Nat} {xs : Nat → Int32} (hX : scr b Lx xs A s) (i : Nat) (hi : i + 6 ≤ Lx) (cn cw : Nat) (σ : Ab) (L : List Nat) (ad : Nat → Nat) (G : mG) (I : mI) (J : mJ) (hp : pic cn cw σ L G I J) (H : Heap) (locs : List Loc) (cells slots : Nat) (hcc : cells ≤ 20000) (hcs : slots ≤ 200000) (hW : Wd D cy A s.heap H locs L ad G I J) (ls : Array Slot) (hl : lv_has ls 8 [(0, .ref b), (1, .ref (ad 0)), (2, .ref (ad 64)), (3, .ref (ad 80)), (4, .int (nI i))]) (K : kon p l e s m args below meth c Q D cy A b i cells slots) : W p l e room_1 s m args below meth c H locs cells slots Q (F0 m 1016 ls []) := by
  have hx := C.1
  have hb := C.2.1
  obtain ⟨hS, hf, hcl, hR, h80, hA, hD, hDr⟩ := id hp
  have h12 := hA.2.1
  have hXl := hX.2.2.2
  refine lv_aload_n hx hb dL_law_1016 rfl (lv_at hl 1 rfl) ?_
  refine lv_aload_n hx hb dL_law_1017 rfl (lv_at hl 0 rfl) ?_
  refine lv_iload hx hb dL_law_1018 (lv_at hl 4 rfl) ?_
  refine lv_iconst (v := nI 1) hx hb dL_law_1020 (by decide) ?_
  refine n_iadd hx hb dL_law_1021 ?_
  refine l_sld C hX hW (k := i + 1) (by omega) dL_law_1022 ?_
  refine lv_aload_n hx hb dL_law_1023 rfl (lv_at hl 0 rfl) ?_
  refine lv_iload hx hb dL_law_1024 (lv_at hl 4 rfl) ?_
  refine lv_iconst (v := nI 2) hx hb dL_law_1026 (by decide) ?_
  refine n_iadd hx hb dL_law_1027 ?_
  refine l_sld C hX hW (k := i + 2) (by omega) dL_law_1028 ?_
  refine lv_aload_n hx hb dL_law_1029 rfl (lv_at hl 3 rfl) ?_
  refine p_cHi C hml hg hW (c_L_of l hst0 D cy L ad G I J cn cw σ hS hA hD h80 (xs (i + 1)) (xs (i + 2))) (vx_cwSW 4 C.2.2.2.1 gL_law_L_of rfl rfl rfl (by decide +kernel) ⟨Nat.le_of_ble_eq_true rfl, Nat.le_of_ble_eq_true rfl⟩) rfl hl.1 rfl (Nat.le_of_ble_eq_true rfl) dL_law_1030 (show cells + 2 ≤ 601024 by omega) (show slots + 12 ≤ 7293034 by omega) (fun v1 I1 J1 H locs h1 hW => ?_)
  refine lv_istore (lv' := [(5, .int v1), (0, .ref b), (1, .ref (ad 0)), (2, .ref (ad 64)), (3, .ref (ad 80)), (4, .int (nI i))]) hx hb dL_law_1033 hl (by decide) rfl (fun ls hl => ?_)
  refine lv_aload_n hx hb dL_law_1035 rfl (lv_at hl 3 rfl) ?_
  refine lv_aload_n hx hb dL_law_1036 rfl (lv_at hl 1 rfl) ?_
  refine lv_iload hx hb dL_law_1037 (lv_at hl 5 rfl) ?_
  refine lv_iconst (v := nI 1) hx hb dL_law_1039 (by decide) ?_
  refine n_iadd hx hb dL_law_1040 ?_
  refine l_sld C hX hW (k := i + 1) (by omega) dL_law_1041 ?_
  refine lv_aload_n hx hb dL_law_1042 rfl (lv_at hl 1 rfl) ?_
  refine lv_iload hx hb dL_law_1043 (lv_at hl 5 rfl) ?_
  refine lv_iconst (v := nI 2) hx hb dL_law_1045 (by decide) ?_
  refine n_iadd hx hb dL_law_1046 ?_
  refine l_sld C hX hW (k := i + 2) (by omega) dL_law_1047 ?_
  refine p_cVi C hml hg hW (c_X5_of l D cy L ad G I1 J1 hR cn cw σ hA (hp.mid h1) (xs (i + 1)) (xs (i + 2))) (cwV 2 C.2.2.2.1 gL_law_X5_of rfl rfl rfl (by decide +kernel) ⟨Nat.le_of_ble_eq_true rfl, Nat.le_of_ble_eq_true rfl⟩) (p_recv C hW (hR.1 64 (by omega) (by omega)) (pF_5 (by decide)) rfl) rfl hl.1 rfl (Nat.le_of_ble_eq_true rfl) dL_law_1048 (show cells + 2 + 0 ≤ 601024 by omega) (show slots + 12 + 0 ≤ 7293034 by omega) (fun v2 I2 J2 H locs h2 hW => ?_)
  refine lv_istore (lv' := [(6, .int v2), (5, .int v1), (0, .ref b), (1, .ref (ad 0)), (2, .ref (ad 64)), (3, .ref (ad 80)), (4, .int (nI i))]) hx hb dL_law_1051 hl (by decide) rfl (fun ls hl => ?_)
  refine lv_aload_n hx hb dL_law_1053 rfl (lv_at hl 4 rfl) ?_
  refine p_cVi C hml hg hW (c_X5_thrown l D cy L ad G I2 J2 hR) (cwV 0 C.2.2.2.1 gL_law_X5_thrown rfl rfl rfl (by decide +kernel) ⟨Nat.le_of_ble_eq_true rfl, Nat.le_of_ble_eq_true rfl⟩) (p_recv C hW (hR.1 64 (by omega) (by omega)) (pF_5 (by decide)) rfl) rfl hl.1 rfl (Nat.le_of_ble_eq_true rfl) dL_law_1054 (show cells + 2 + 0 + 0 ≤ 601024 by omega) (show slots + 12 + 0 + 0 ≤ 7293034 by omega) (fun v3 I3 J3 H locs h3 hW => ?_)
  obtain ⟨e3, eI, eJ⟩ := h3
  subst v3
  subst I3
  subst J3
  refine lv_iload hx hb dL_law_1057 (lv_at hl 1 rfl) ?_
  refine lv_icmp_eq (tgt := 1064) hx hb dL_law_1059 (by decide) (fun hc_1 => ?_) (fun hc_1 => ?_)
  · skip
    refine lv_iload hx hb dL_law_1064 (lv_at hl 1 rfl) ?_
    refine lv_if_ne (tgt := 1081) hx hb dL_law_1066 (by decide) (fun hc_2 => ?_) (fun hc_2 => ?_)
    · skip
      refine lv_goto (tgt := 1483) hx hb dL_law_1081 (by decide) ?_
      exact K cn cw _ L ad G I2 J2 _ _ ls _ _ (hp.next (k_of hA (xs (i + 1)) (xs (i + 2))) h1 h2) hW (lv_sub hl [2, 3, 4, 5, 6] rfl) (show cells + 2 + 0 + 0 ≤ cells + 12 by omega) (show slots + 12 + 0 + 0 ≤ slots + 120 by omega)
    · skip
      have hz := z3 (c3_of (xs (i + 1)) (xs (i + 2))) (h1.1.symm.trans hc_2)
      have ho := ((congrFun (h2.2.2.2 80 (by omega)).2 0).trans (h1.2.1 hz))
      have ho := ho.trans (h2.2.1 hz)
      refine lv_aload_n hx hb dL_law_1069 rfl (lv_at hl 5 rfl) ?_
      refine lv_iconst (v := nI 0) hx hb dL_law_1070 (by decide) ?_
      refine p_lald C hW h80 (by decide) (k := 0) rfl (by rw [show ln 80 = 1 by decide]; omega) dL_law_1071 ?_
      refine lv_iload hx hb dL_law_1072 (lv_at hl 0 rfl) ?_
      refine lv_i2l (v := v2.toInt64) hx hb dL_law_1074 rfl ?_
      refine l_eq (tgt := 1081) hx hb dL_law_1075 dL_law_1076 (by decide) (fun hc_3 => ?_) (fun hc_3 => ?_)
      · skip
        refine lv_goto (tgt := 1483) hx hb dL_law_1081 (by decide) ?_
        exact K cn cw _ L ad G I2 J2 _ _ ls _ _ (hp.next (k_of hA (xs (i + 1)) (xs (i + 2))) h1 h2) hW (lv_sub hl [2, 3, 4, 5, 6] rfl) (show cells + 2 + 0 + 0 ≤ cells + 12 by omega) (show slots + 12 + 0 + 0 ≤ slots + 120 by omega)
      · skip
        exact absurd ho hc_3
  · skip
    exact absurd (h2.1.trans h1.1.symm) hc_1
