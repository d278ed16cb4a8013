abbrev rmX5_back : Room := { frames := 4, cells := 0, slots := 0, locals := 140 }
set_option maxHeartbeats 4000000 in
set_option maxRecDepth 100000 in
theorem c_X5_back (l : Launch) (D : va_G) (cy : Nat → ClassId) (L : List Nat) (ad : Nat → Nat) (G : mG) (I : mI) (J : mJ) (hS : rSh L G) (cn cw : Nat) (σ : Ab) (hA : aOk cn cw σ) (hD : rDt cn cw σ I J) (x xn : Int32) : pMet l yX5_back wsX5_back rmX5_back D cy L ad G I J [.ref (ad 64), .int x, .int xn] (qI (fun v I' J' => rst (spBack cw σ x xn) v.toInt64 cn cw I I' J J') D cy L ad G) := by
  refine pMet.ofI (cc := cX5_back) (maxL := 5) (by decide +kernel) rfl (Nat.le_of_ble_eq_true rfl) ?_
  intro p e R s m args below meth c A Q C hml hR hg ret hW ls hl
  subst hR
  have C : Cx p s m args c cX5_back RX5 wsX5_back D cy A := C
  have hx := C.1
  have hb := C.2.1
  have lk29 := C.2.2.2.1 (.fieldLink RX5 29 "WaveWalkModel" "time" "[I") (by decide +kernel)
  have lk32 := C.2.2.2.1 (.fieldLink RX5 32 "WaveWalkModel" "wave" "[J") (by decide +kernel)
  have hinX5 : ∀ w ∈ wsX50, w ∈ wsX5_back := by decide +kernel
  have hl : lv_has ls 5 [(0, .ref (ad 64)), (1, .int x), (2, .int xn)] := hl
  have h6 := hA.1
  have h12 := hA.2.1
  refine lv_aload_n hx hb dX5_back_0 rfl (lv_at hl 0 rfl) ?_
  refine lv_iload_n hx hb dX5_back_1 rfl (lv_at hl 1 rfl) ?_
  refine p_cVi C hml hg hW (c_X5_isWalk l D cy L ad G I J hS cw hD.2.1 h12 x) (cwV 1 C.2.2.2.1 gX5_back_X5_isWalk rfl rfl rfl (by decide +kernel) ⟨Nat.le_of_ble_eq_true rfl, Nat.le_of_ble_eq_true rfl⟩) (p_recv C hW (hS.1 64 (by omega) (by omega)) (pF_5 (by decide)) rfl) rfl hl.1 rfl (Nat.le_of_ble_eq_true rfl) dX5_back_2 (Nat.le_of_ble_eq_true rfl) (Nat.le_of_ble_eq_true rfl) (fun v1 I2 J3 H locs hp hW => ?_)
  obtain ⟨hv, hI, hJ⟩ := hp
  subst v1
  subst I2
  subst J3
  refine b_if_eq (tgt := 20) hx hb dX5_back_5 (by decide) (fun hc_4 => ?_) (fun hc_4 => ?_)
  · skip
    rw [if_neg (by rw [hc_4]; decide)] at hW
    have hn1 := is_none hc_4
    refine lv_iconst (v := nI 0) hx hb dX5_back_20 (by decide) ?_
    have hsp : spBack cw σ x xn = (1, 0, σ) := by simp only [spBack, hn1]
    exact ret _ _ _ _ _ _ _ _ _ (Nat.le_of_ble_eq_true rfl) (Nat.le_of_ble_eq_true rfl) hW (rst.thr hsp h12 hD (fun z => absurd z (by decide))) dX5_back_21
  · skip
    rw [if_pos hc_4] at hW
    obtain ⟨j, hj⟩ := Option.isSome_iff_exists.mp hc_4
    obtain ⟨hjc, hxe⟩ := ixN_some hj (by omega)
    subst hxe
    have hD0 := rDt.thr hD h12 0
    obtain ⟨hno, htm, hwv⟩ := hD0.2.2.2.2.1 j hjc
    obtain ⟨hic, ht60, hwo, hus2⟩ := hA.2.2.2 j hjc
    obtain ⟨hpl, hdr, hto, hus, hmk⟩ := hD0.2.2.1 (aNt σ j) hic
    obtain ⟨hp1, hp12, hd4, hpr⟩ := hA.2.2.1 (aNt σ j) hic
    refine lv_aload_n hx hb dX5_back_8 rfl (lv_at hl 0 rfl) ?_
    refine lv_iload_n hx hb dX5_back_9 rfl (lv_at hl 2 rfl) ?_
    refine p_cSi C hml hg hW (c_X5_isMany l D cy L ad G (thr I 0) J xn) (va_cwS 1 C.2.2.2.1 gX5_back_X5_isMany rfl rfl rfl (by decide +kernel) ⟨Nat.le_of_ble_eq_true rfl, Nat.le_of_ble_eq_true rfl⟩) rfl hl.1 rfl (Nat.le_of_ble_eq_true rfl) dX5_back_10 (Nat.le_of_ble_eq_true rfl) (Nat.le_of_ble_eq_true rfl) (fun v5 I6 J7 H locs hp hW => ?_)
    obtain ⟨hv, hI, hJ⟩ := hp
    subst v5
    subst I6
    subst J7
    refine lv_iconst (v := nI 2) hx hb dX5_back_13 (by decide) ?_
    refine p_cVi C hml hg hW (c_X5_right l D cy L ad G (thr I 0) J hS ((ixN xn 61).isSome) 2 0 (thr_0 I 0) (by omega) (by omega)) (cwV 2 C.2.2.2.1 gX5_back_X5_right rfl rfl rfl (by decide +kernel) ⟨Nat.le_of_ble_eq_true rfl, Nat.le_of_ble_eq_true rfl⟩) (p_recv C hW (hS.1 64 (by omega) (by omega)) (pF_5 (by decide)) rfl) rfl hl.1 rfl (Nat.le_of_ble_eq_true rfl) dX5_back_14 (Nat.le_of_ble_eq_true rfl) (Nat.le_of_ble_eq_true rfl) (fun v8 I9 J10 H locs hp hW => ?_)
    obtain ⟨hv, hI, hJ⟩ := hp
    replace hI := hI.trans (thr_thr I 0 _)
    subst v8
    subst I9
    subst J10
    refine b_if_ne (tgt := 22) hx hb dX5_back_17 (by decide) (fun hc_11 => ?_) (fun hc_11 => ?_)
    · skip
      have hr1 : (ixN xn 61).isSome = true := rt_yes (by decide) hc_11
      rw [if_neg (fun z => by rw [hr1] at z; cases z.2)] at hW
      obtain ⟨k, hk⟩ := Option.isSome_iff_exists.mp hr1
      obtain ⟨hkl, hx3⟩ := ixN_some hk (by omega)
      subst hx3
      refine lv_aload_n hx hb dX5_back_22 rfl (lv_at hl 0 rfl) ?_
      refine g_X5_9 C hinX5 hW (hS.1 64 (by omega) (by omega)) (by decide) (hS.2 9 (by omega) (by omega)) lk29 dX5_back_23 ?_
      refine lv_iload_n hx hb dX5_back_26 rfl (lv_at hl 1 rfl) ?_
      refine p_iald C hW (hS.1 71 (by omega) (by omega)) (by decide) (k := j) rfl (by rw [show ln 71 = 13 by decide]; omega) dX5_back_27 ?_
      refine w_top (y := .int (nI (aTm σ j))) (by rw [htm]) ?_
      refine lv_iload_n hx hb dX5_back_28 rfl (lv_at hl 2 rfl) ?_
      refine n_icmp_ge (tgt := 34) hx hb (by omega) (by omega) dX5_back_29 (by decide) (fun hc_12 => ?_) (fun hc_12 => ?_)
      · skip
        have hge := hc_12
        refine lv_iconst (v := nI 0) hx hb dX5_back_34 (by decide) ?_
        refine lv_istore_n (lv' := [(3, .int (nI 0)), (0, .ref (ad 64)), (1, .int (nI j)), (2, .int (nI k))]) hx hb dX5_back_35 rfl hl (by decide) rfl (fun ls hl => ?_)
        have lp36 : ∀ (nn : Nat) (d : Nat) (Ja : mJ), (d ≤ k) → (k + 1 ≤ d + nn) → (blk J Ja j (bv σ j d)) → (wOk (aPl σ (aNt σ j)) (aDr σ (aNt σ j)) (bv σ j d)) → ∀ (H : Heap) (locs : List Loc), Wd D cy A s.heap H locs L ad G (bkI I σ j d) Ja → ∀ (ls : Array Slot), lv_has ls 5 [(0, .ref (ad 64)), (1, .int (nI j)), (2, .int (nI k)), (3, .int (nI d))] → W p l e rmX5_back s m args below meth c H locs 0 0 Q (F0 m 36 ls []) := by
          intro nn
          induction nn with
          | zero => intros; exfalso; omega
          | succ nn ih36 =>
            intro d Ja hd hfu hB hwd H locs hW ls hl
            have bno : bkI I σ j d 70 j = nI (aNt σ j) := by rw [bkI_ne d (by decide)]; exact hno
            have bpl : bkI I σ j d 65 (aNt σ j) = nI (aPl σ (aNt σ j)) := by rw [bkI_ne d (by decide)]; exact hpl
            have bdr : bkI I σ j d 66 (aNt σ j) = nI (aDr σ (aNt σ j)) := by rw [bkI_ne d (by decide)]; exact hdr
            refine lv_iload_n hx hb dX5_back_36 rfl (lv_at hl 3 rfl) ?_
            refine lv_iload_n hx hb dX5_back_37 rfl (lv_at hl 2 rfl) ?_
            refine n_icmp_ge (tgt := 109) hx hb (by omega) (by omega) dX5_back_38 (by decide) (fun hc_13 => ?_) (fun hc_13 => ?_)
            · skip
              refine lv_aload_n hx hb dX5_back_109 rfl (lv_at hl 0 rfl) ?_
              refine g_X5_9 C hinX5 hW (hS.1 64 (by omega) (by omega)) (by decide) (hS.2 9 (by omega) (by omega)) lk29 dX5_back_110 ?_
              refine lv_iload_n hx hb dX5_back_113 rfl (lv_at hl 1 rfl) ?_
              refine p_iald C hW (hS.1 71 (by omega) (by omega)) (by decide) (k := j) rfl (by rw [show ln 71 = 13 by decide]; omega) dX5_back_114 ?_
              refine w_top (y := .int (nI (aTm σ j - d))) (by rw [bkI_at]) ?_
              have hdk : d = k := by omega
              subst hdk
              have hsp : spBack cw σ (nI j) (nI d) = (0, lN (aTm σ j - d), sWv σ j (bv σ j d) (aTm σ j - d)) := by simp only [spBack, hj, hk]; rw [if_neg (by omega)]; rfl
              exact ret _ _ _ _ _ _ _ _ _ (Nat.le_of_ble_eq_true rfl) (Nat.le_of_ble_eq_true rfl) hW (rst.to hsp (nI_l (by omega)).symm (by rw [bkI_ne d (by decide)]; exact thr_0 I 0) (hD0.wvB hjc h12 hB _) (((rfr.thr I J 0).up (by omega) (by omega) _).blk hB)) dX5_back_115
            · skip
              refine lv_aload_n hx hb dX5_back_41 rfl (lv_at hl 0 rfl) ?_
              refine lv_iload_n hx hb dX5_back_42 rfl (lv_at hl 1 rfl) ?_
              refine p_cVv C hml hg hW (c_X5_goes l D cy L ad G (bkI I σ j d) Ja hS j (by omega) (bv σ j d) hB.2.1 (aNt σ j) bno (by omega) (aTo σ (aNt σ j)) (by rw [bkI_ne d (by decide)]; exact hto) (fun c hc => (hpr c hc).1)) (cwV 1 C.2.2.2.1 gX5_back_X5_goes rfl rfl rfl (by decide +kernel) ⟨Nat.le_of_ble_eq_true rfl, Nat.le_of_ble_eq_true rfl⟩) (p_recv C hW (hS.1 64 (by omega) (by omega)) (pF_5 (by decide)) rfl) rfl hl.1 rfl (Nat.le_of_ble_eq_true rfl) dX5_back_43 (Nat.le_of_ble_eq_true rfl) (Nat.le_of_ble_eq_true rfl) (fun I14 J15 H locs hp hW => ?_)
              obtain ⟨hI, hB1⟩ := hp
              subst I14
              have hB1 := hB.trans hB1
              refine lv_aload_n hx hb dX5_back_46 rfl (lv_at hl 0 rfl) ?_
              refine lv_iload_n hx hb dX5_back_47 rfl (lv_at hl 1 rfl) ?_
              refine p_cVv C hml hg hW (c_X5_turns l D cy L ad G (bkI I σ j d) J15 hS j (by omega) _ hB1.2.1 (aNt σ j) (aPl σ (aNt σ j)) (aDr σ (aNt σ j)) bno (by omega) bpl hp12 bdr hd4) (cwV 1 C.2.2.2.1 gX5_back_X5_turns rfl rfl rfl (by decide +kernel) ⟨Nat.le_of_ble_eq_true rfl, Nat.le_of_ble_eq_true rfl⟩) (p_recv C hW (hS.1 64 (by omega) (by omega)) (pF_5 (by decide)) rfl) rfl hl.1 rfl (Nat.le_of_ble_eq_true rfl) dX5_back_48 (Nat.le_of_ble_eq_true rfl) (Nat.le_of_ble_eq_true rfl) (fun I16 J17 H locs hp hW => ?_)
              obtain ⟨hI, hB2⟩ := hp
              subst I16
              have hB2 := hB1.trans hB2
              refine lv_iconst (v := nI 0) hx hb dX5_back_51 (by decide) ?_
              refine lv_istore (lv' := [(4, .int (nI 0)), (0, .ref (ad 64)), (1, .int (nI j)), (2, .int (nI k)), (3, .int (nI d))]) hx hb dX5_back_52 hl (by decide) rfl (fun ls hl => ?_)
              have lp54 : ∀ (nn : Nat) (b : Nat) (Jb : mJ), (b ≤ 48) → (49 ≤ b + nn) → (blk J Jb j (fun k => if k < b then turnF (aPl σ (aNt σ j)) (aDr σ (aNt σ j)) (goF (aTo σ (aNt σ j)) (bv σ j d)) k / scOf (aDr σ (aNt σ j)) else turnF (aPl σ (aNt σ j)) (aDr σ (aNt σ j)) (goF (aTo σ (aNt σ j)) (bv σ j d)) k)) → ∀ (H : Heap) (locs : List Loc), Wd D cy A s.heap H locs L ad G (bkI I σ j d) Jb → ∀ (ls : Array Slot), lv_has ls 5 [(0, .ref (ad 64)), (1, .int (nI j)), (2, .int (nI k)), (3, .int (nI d)), (4, .int (nI b))] → W p l e rmX5_back s m args below meth c H locs 0 0 Q (F0 m 54 ls []) := by
                intro nn
                induction nn with
                | zero => intros; exfalso; omega
                | succ nn ih54 =>
                  intro b Jb hb4 hfu2 hB3 H locs hW ls hl
                  refine lv_iload hx hb dX5_back_54 (lv_at hl 4 rfl) ?_
                  refine lv_bipush (v := nI 48) hx hb dX5_back_56 (by decide) ?_
                  refine n_icmp_ge (tgt := 88) hx hb (by omega) (by omega) dX5_back_58 (by decide) (fun hc_18 => ?_) (fun hc_18 => ?_)
                  · skip
                    refine lv_aload_n hx hb dX5_back_88 rfl (lv_at hl 0 rfl) ?_
                    refine lv_iload_n hx hb dX5_back_89 rfl (lv_at hl 1 rfl) ?_
                    have hB3 := hB3.congr (g' := fun k => turnF (aPl σ (aNt σ j)) (aDr σ (aNt σ j)) (goF (aTo σ (aNt σ j)) (bv σ j d)) k / scOf (aDr σ (aNt σ j))) (fun k hk => by rw [if_pos (by omega)])
                    refine p_cVv C hml hg hW (c_X5_signs l D cy L ad G (bkI I σ j d) Jb hS j (by omega) _ hB3.2.1 (aNt σ j) (aPl σ (aNt σ j)) bno (by omega) bpl hp12 (aMk σ (aNt σ j)) (by rw [bkI_ne d (by decide)]; exact hmk)) (cwV 1 C.2.2.2.1 gX5_back_X5_signs rfl rfl rfl (by decide +kernel) ⟨Nat.le_of_ble_eq_true rfl, Nat.le_of_ble_eq_true rfl⟩) (p_recv C hW (hS.1 64 (by omega) (by omega)) (pF_5 (by decide)) rfl) rfl hl.1 rfl (Nat.le_of_ble_eq_true rfl) dX5_back_90 (Nat.le_of_ble_eq_true rfl) (Nat.le_of_ble_eq_true rfl) (fun I19 J20 H locs hp hW => ?_)
                    obtain ⟨hI, hB4⟩ := hp
                    subst I19
                    have hB4 := (hB3.trans hB4).congr (g' := bv σ j (d + 1)) (undo_ref hwd.1 hpr hd4)
                    refine lv_aload_n hx hb dX5_back_93 rfl (lv_at hl 0 rfl) ?_
                    refine g_X5_9 C hinX5 hW (hS.1 64 (by omega) (by omega)) (by decide) (hS.2 9 (by omega) (by omega)) lk29 dX5_back_94 ?_
                    refine lv_iload_n hx hb dX5_back_97 rfl (lv_at hl 1 rfl) ?_
                    refine lv_dup2_11 hx hb dX5_back_98 rfl rfl ?_
                    refine p_iald C hW (hS.1 71 (by omega) (by omega)) (by decide) (k := j) rfl (by rw [show ln 71 = 13 by decide]; omega) dX5_back_99 ?_
                    refine w_top (y := .int (nI (aTm σ j - d))) (by rw [bkI_at]) ?_
                    refine lv_iconst (v := nI 1) hx hb dX5_back_100 (by decide) ?_
                    refine n_isub hx hb (by omega) dX5_back_101 ?_
                    refine p_iast C hW (hS.1 71 (by omega) (by omega)) (by decide) (k := j) rfl (by rw [show ln 71 = 13 by decide]; omega) dX5_back_102 (fun H locs hW => ?_)
                    obtain ⟨I21, eI21⟩ : ∃ z, z = va_up (bkI I σ j d) 71 (upd ((bkI I σ j d) 71) j (nI ((aTm σ j - d) - 1))) := ⟨_, rfl⟩
                    rw [← eI21] at hW
                    refine lv_iinc (v := nI (d + 1)) (lv' := [(3, .int (nI (d + 1))), (0, .ref (ad 64)), (1, .int (nI j)), (2, .int (nI k)), (4, .int (nI b))]) hx hb dX5_back_103 hl (k := 3) rfl (nI_inc _) (by decide) rfl (fun ls hl => ?_)
                    refine lv_goto (tgt := 36) hx hb dX5_back_106 (by decide) ?_
                    rw [eI21, bkI_s] at hW
                    exact ih36 (d + 1) J20 (by omega) (by omega) hB4 (hwd.undo hpr hd4) _ _ hW ls (lv_sub hl [1, 2, 3, 0] rfl)
                  · skip
                    refine lv_aload_n hx hb dX5_back_61 rfl (lv_at hl 0 rfl) ?_
                    refine g_X5_10 C hinX5 hW (hS.1 64 (by omega) (by omega)) (by decide) (hS.2 10 (by omega) (by omega)) lk32 dX5_back_62 ?_
                    refine lv_bipush (v := nI 48) hx hb dX5_back_65 (by decide) ?_
                    refine lv_iload_n hx hb dX5_back_67 rfl (lv_at hl 1 rfl) ?_
                    refine n_imul hx hb dX5_back_68 ?_
                    refine lv_iload hx hb dX5_back_69 (lv_at hl 4 rfl) ?_
                    refine n_iadd hx hb dX5_back_71 ?_
                    refine lv_dup2_11 hx hb dX5_back_72 rfl rfl ?_
                    refine p_lald C hW (hS.1 72 (by omega) (by omega)) (by decide) (k := (48 * j) + b) rfl (by rw [show ln 72 = 624 by decide]; omega) dX5_back_73 ?_
                    refine w_top (y := .long (turnF (aPl σ (aNt σ j)) (aDr σ (aNt σ j)) (goF (aTo σ (aNt σ j)) (bv σ j d)) b)) (by rw [hB3.2.1 _ (by omega)]; exact congrArg Value.long (if_neg (by omega))) ?_
                    refine lv_aload_n hx hb dX5_back_74 rfl (lv_at hl 0 rfl) ?_
                    refine lv_iload_n hx hb dX5_back_75 rfl (lv_at hl 1 rfl) ?_
                    refine p_cVi C hml hg hW (c_X5_scale l D cy L ad G (bkI I σ j d) Jb hS j (aNt σ j) (aDr σ (aNt σ j)) (by omega) bno (by omega) bdr hd4) (cwV 1 C.2.2.2.1 gX5_back_X5_scale rfl rfl rfl (by decide +kernel) ⟨Nat.le_of_ble_eq_true rfl, Nat.le_of_ble_eq_true rfl⟩) (p_recv C hW (hS.1 64 (by omega) (by omega)) (pF_5 (by decide)) rfl) rfl hl.1 rfl (Nat.le_of_ble_eq_true rfl) dX5_back_76 (Nat.le_of_ble_eq_true rfl) (Nat.le_of_ble_eq_true rfl) (fun v22 I23 J24 H locs hp hW => ?_)
                    obtain ⟨hv, hI, hJ⟩ := hp
                    subst v22
                    subst I23
                    subst J24
                    refine lv_i2l (v := scOf (aDr σ (aNt σ j))) hx hb dX5_back_79 (sc_l hd4) ?_
                    refine lv_ldiv hx hb dX5_back_80 (sc_ne hd4) ?_
                    refine p_last C hW (hS.1 72 (by omega) (by omega)) (by decide) (k := (48 * j) + b) rfl (by rw [show ln 72 = 624 by decide]; omega) dX5_back_81 (fun H locs hW => ?_)
                    obtain ⟨J25, eJ25⟩ : ∃ z, z = va_up Jb 72 (vp_updL (Jb 72) ((48 * j) + b) ((turnF (aPl σ (aNt σ j)) (aDr σ (aNt σ j)) (goF (aTo σ (aNt σ j)) (bv σ j d)) b) / (scOf (aDr σ (aNt σ j))))) := ⟨_, rfl⟩
                    rw [← eJ25] at hW
                    refine lv_iinc (v := nI (b + 1)) (lv' := [(4, .int (nI (b + 1))), (0, .ref (ad 64)), (1, .int (nI j)), (2, .int (nI k)), (3, .int (nI d))]) hx hb dX5_back_82 hl (k := 4) rfl (nI_inc _) (by decide) rfl (fun ls hl => ?_)
                    refine lv_goto (tgt := 54) hx hb dX5_back_85 (by decide) ?_
                    exact ih54 (b + 1) J25 (by omega) (by omega) (by rw [eJ25]; exact (hB3.put (k := b) (by omega) (by omega) _).congr (fun k hk => by dsimp only [vp_updL]; by_cases hc : k = b; rw [if_pos (by omega), if_pos hc, hc]; rw [if_neg hc]; by_cases hc2 : k < b; rw [if_pos (by omega), if_pos hc2]; rw [if_neg (by omega), if_neg hc2])) _ _ hW ls (lv_sub hl [1, 2, 3, 4, 0] rfl)
              exact lp54 49 0 J17 (by omega) (by omega) (hB2.congr (fun k hk => by rw [if_neg (by omega)])) _ _ hW ls (lv_sub hl [1, 2, 3, 4, 0] rfl)
        have hW := hW
        rw [← bkI_0 hD h12 hjc] at hW
        exact lp36 (k + 1) 0 J (by omega) (by omega) (blk.rf hwv) hwo _ _ hW ls (lv_sub hl [1, 2, 3, 0] rfl)
      · skip
        refine lv_iconst (v := (-1)) hx hb dX5_back_32 (by decide) ?_
        have hsp : spBack cw σ (nI j) (nI k) = (0, -1, σ) := by simp only [spBack, hj, hk]; rw [if_pos hc_12]
        exact ret _ _ _ _ _ _ _ _ _ (Nat.le_of_ble_eq_true rfl) (Nat.le_of_ble_eq_true rfl) hW (rst.thr hsp h12 hD (fun _ => by decide)) dX5_back_33
    · skip
      have hr0 : (ixN xn 61).isSome = false := rt_no hc_11
      rw [if_pos ⟨rfl, hr0⟩] at hW
      have hn3 := is_none hr0
      refine lv_iconst (v := nI 0) hx hb dX5_back_20 (by decide) ?_
      have hsp : spBack cw σ (nI j) xn = (2, 0, σ) := by simp only [spBack, hj, hn3]
      exact ret _ _ _ _ _ _ _ _ _ (Nat.le_of_ble_eq_true rfl) (Nat.le_of_ble_eq_true rfl) hW (rst.thr hsp h12 hD (fun z => absurd z (by decide))) dX5_back_21
