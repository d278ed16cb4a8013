abbrev rmX5_step : Room := { frames := 4, cells := 0, slots := 0, locals := 140 }
set_option maxHeartbeats 4000000 in
set_option maxRecDepth 100000 in
theorem c_X5_step (l : Launch) (D : va_G) (cy : Nat → ClassId) (L : List Nat) (ad : Nat → Nat) (G : mG) (I : mI) (J : mJ) (hS : rSh L G) (cn cw : Nat) (σ : Ab) (hA : aOk cn cw σ) (hD : rDt cn cw σ I J) (x xn : Int32) : pMet l yX5_step wsX5_step rmX5_step D cy L ad G I J [.ref (ad 64), .int x, .int xn] (qI (fun v I' J' => rst (spStep cw σ x xn) v.toInt64 cn cw I I' J J') D cy L ad G) := by
  refine pMet.ofI (cc := cX5_step) (maxL := 4) (by decide +kernel) rfl (Nat.le_of_ble_eq_true rfl) ?_
  intro p e R s m args below meth c A Q C hml hR hg ret hW ls hl
  subst hR
  have C : Cx p s m args c cX5_step RX5 wsX5_step D cy A := C
  have hx := C.1
  have hb := C.2.1
  have lk29 := C.2.2.2.1 (.fieldLink RX5 29 "WaveWalkModel" "time" "[I") (by decide +kernel)
  have hinX5 : ∀ w ∈ wsX50, w ∈ wsX5_step := by decide +kernel
  have hl : lv_has ls 4 [(0, .ref (ad 64)), (1, .int x), (2, .int xn)] := hl
  have h6 := hA.1
  have h12 := hA.2.1
  refine lv_aload_n hx hb dX5_step_0 rfl (lv_at hl 0 rfl) ?_
  refine lv_iload_n hx hb dX5_step_1 rfl (lv_at hl 1 rfl) ?_
  refine p_cVi C hml hg hW (c_X5_isWalk l D cy L ad G I J hS cw hD.2.1 h12 x) (cwV 1 C.2.2.2.1 gX5_step_X5_isWalk rfl rfl rfl (by decide +kernel) ⟨Nat.le_of_ble_eq_true rfl, Nat.le_of_ble_eq_true rfl⟩) (p_recv C hW (hS.1 64 (by omega) (by omega)) (pF_5 (by decide)) rfl) rfl hl.1 rfl (Nat.le_of_ble_eq_true rfl) dX5_step_2 (Nat.le_of_ble_eq_true rfl) (Nat.le_of_ble_eq_true rfl) (fun v1 I2 J3 H locs hp hW => ?_)
  obtain ⟨hv, hI, hJ⟩ := hp
  subst v1
  subst I2
  subst J3
  refine b_if_eq (tgt := 20) hx hb dX5_step_5 (by decide) (fun hc_4 => ?_) (fun hc_4 => ?_)
  · skip
    rw [if_neg (by rw [hc_4]; decide)] at hW
    have hn1 := is_none hc_4
    refine lv_iconst (v := nI 0) hx hb dX5_step_20 (by decide) ?_
    have hsp : spStep cw σ x xn = (1, 0, σ) := by simp only [spStep, hn1]
    exact ret _ _ _ _ _ _ _ _ _ (Nat.le_of_ble_eq_true rfl) (Nat.le_of_ble_eq_true rfl) hW (rst.thr hsp h12 hD (fun z => absurd z (by decide))) dX5_step_21
  · skip
    rw [if_pos hc_4] at hW
    obtain ⟨j, hj⟩ := Option.isSome_iff_exists.mp hc_4
    obtain ⟨hjc, hxe⟩ := ixN_some hj (by omega)
    subst hxe
    have hD0 := rDt.thr hD h12 0
    obtain ⟨hno, htm, hwv⟩ := hD0.2.2.2.2.1 j hjc
    obtain ⟨hic, ht60, hwo, hus2⟩ := hA.2.2.2 j hjc
    obtain ⟨hpl, hdr, hto, hus, hmk⟩ := hD0.2.2.1 (aNt σ j) hic
    obtain ⟨hp1, hp12, hd4, hpr⟩ := hA.2.2.1 (aNt σ j) hic
    refine lv_aload_n hx hb dX5_step_8 rfl (lv_at hl 0 rfl) ?_
    refine lv_iload_n hx hb dX5_step_9 rfl (lv_at hl 2 rfl) ?_
    refine p_cSi C hml hg hW (c_X5_isMany l D cy L ad G (thr I 0) J xn) (va_cwS 1 C.2.2.2.1 gX5_step_X5_isMany rfl rfl rfl (by decide +kernel) ⟨Nat.le_of_ble_eq_true rfl, Nat.le_of_ble_eq_true rfl⟩) rfl hl.1 rfl (Nat.le_of_ble_eq_true rfl) dX5_step_10 (Nat.le_of_ble_eq_true rfl) (Nat.le_of_ble_eq_true rfl) (fun v5 I6 J7 H locs hp hW => ?_)
    obtain ⟨hv, hI, hJ⟩ := hp
    subst v5
    subst I6
    subst J7
    refine lv_iconst (v := nI 2) hx hb dX5_step_13 (by decide) ?_
    refine p_cVi C hml hg hW (c_X5_right l D cy L ad G (thr I 0) J hS ((ixN xn 61).isSome) 2 0 (thr_0 I 0) (by omega) (by omega)) (cwV 2 C.2.2.2.1 gX5_step_X5_right rfl rfl rfl (by decide +kernel) ⟨Nat.le_of_ble_eq_true rfl, Nat.le_of_ble_eq_true rfl⟩) (p_recv C hW (hS.1 64 (by omega) (by omega)) (pF_5 (by decide)) rfl) rfl hl.1 rfl (Nat.le_of_ble_eq_true rfl) dX5_step_14 (Nat.le_of_ble_eq_true rfl) (Nat.le_of_ble_eq_true rfl) (fun v8 I9 J10 H locs hp hW => ?_)
    obtain ⟨hv, hI, hJ⟩ := hp
    replace hI := hI.trans (thr_thr I 0 _)
    subst v8
    subst I9
    subst J10
    refine b_if_ne (tgt := 22) hx hb dX5_step_17 (by decide) (fun hc_11 => ?_) (fun hc_11 => ?_)
    · skip
      have hr1 : (ixN xn 61).isSome = true := rt_yes (by decide) hc_11
      rw [if_neg (fun z => by rw [hr1] at z; cases z.2)] at hW
      obtain ⟨k, hk⟩ := Option.isSome_iff_exists.mp hr1
      obtain ⟨hkl, hx3⟩ := ixN_some hk (by omega)
      subst hx3
      refine lv_aload_n hx hb dX5_step_22 rfl (lv_at hl 0 rfl) ?_
      refine lv_iload_n hx hb dX5_step_23 rfl (lv_at hl 1 rfl) ?_
      refine p_cVl C hml hg hW (c_X5_weight l D cy L ad G (thr I 0) J hS j (by omega) (aWv σ j) hwv) (cwV 1 C.2.2.2.1 gX5_step_X5_weight rfl rfl rfl (by decide +kernel) ⟨Nat.le_of_ble_eq_true rfl, Nat.le_of_ble_eq_true rfl⟩) (p_recv C hW (hS.1 64 (by omega) (by omega)) (pF_5 (by decide)) rfl) rfl hl.1 rfl (Nat.le_of_ble_eq_true rfl) dX5_step_24 (Nat.le_of_ble_eq_true rfl) (Nat.le_of_ble_eq_true rfl) (fun v12 I13 J14 H locs hp hW => ?_)
      obtain ⟨hv, hI, hJ⟩ := hp
      subst v12
      subst I13
      subst J14
      refine lv_lconst (v := 0) hx hb dX5_step_27 (by decide) ?_
      refine l_ne (tgt := 34) hx hb dX5_step_28 dX5_step_29 (by decide) (fun hc_15 => ?_) (fun hc_15 => ?_)
      · skip
        have hnz := hc_15
        refine lv_aload_n hx hb dX5_step_34 rfl (lv_at hl 0 rfl) ?_
        refine lv_iload_n hx hb dX5_step_35 rfl (lv_at hl 1 rfl) ?_
        refine lv_bipush (v := nI 12) hx hb dX5_step_36 (by decide) ?_
        refine p_cVv C hml hg hW (c_X5_copies l D cy L ad G (thr I 0) J hS j 12 (by omega) (by omega) (aWv σ j) hwv) (cwV 2 C.2.2.2.1 gX5_step_X5_copies rfl rfl rfl (by decide +kernel) ⟨Nat.le_of_ble_eq_true rfl, Nat.le_of_ble_eq_true rfl⟩) (p_recv C hW (hS.1 64 (by omega) (by omega)) (pF_5 (by decide)) rfl) rfl hl.1 rfl (Nat.le_of_ble_eq_true rfl) dX5_step_38 (Nat.le_of_ble_eq_true rfl) (Nat.le_of_ble_eq_true rfl) (fun I16 J17 H locs hp hW => ?_)
        obtain ⟨hI, hB⟩ := hp
        have hP := rCp.init hA hD hjc hI hB
        clear hI hB
        refine lv_iconst (v := nI 0) hx hb dX5_step_41 (by decide) ?_
        refine lv_istore_n (lv' := [(3, .int (nI 0)), (0, .ref (ad 64)), (1, .int (nI j)), (2, .int (nI k))]) hx hb dX5_step_42 rfl hl (by decide) rfl (fun ls hl => ?_)
        have lp43 : ∀ (nn : Nat) (d : Nat) (Ia : mI) (Ja : mJ), (d ≤ k) → (k + 1 ≤ d + nn) → (rCp cn cw σ j I Ia J Ja d) → ∀ (H : Heap) (locs : List Loc), Wd D cy A s.heap H locs L ad G Ia Ja → ∀ (ls : Array Slot), lv_has ls 4 [(0, .ref (ad 64)), (1, .int (nI j)), (2, .int (nI k)), (3, .int (nI d))] → W p l e rmX5_step s m args below meth c H locs 0 0 Q (F0 m 43 ls []) := by
          intro nn
          induction nn with
          | zero => intros; exfalso; omega
          | succ nn ih43 =>
            intro d Ia Ja hd hfu hP H locs hW ls hl
            refine lv_iload_n hx hb dX5_step_43 rfl (lv_at hl 3 rfl) ?_
            refine lv_iload_n hx hb dX5_step_44 rfl (lv_at hl 2 rfl) ?_
            refine n_icmp_ge (tgt := 71) hx hb (by omega) (by omega) dX5_step_45 (by decide) (fun hc_18 => ?_) (fun hc_18 => ?_)
            · skip
              refine lv_aload_n hx hb dX5_step_71 rfl (lv_at hl 0 rfl) ?_
              refine lv_bipush (v := nI 12) hx hb dX5_step_72 (by decide) ?_
              refine lv_iload_n hx hb dX5_step_74 rfl (lv_at hl 1 rfl) ?_
              obtain ⟨cno, ctm, -⟩ := hP.2.1.2.2.2.2.1 j hjc
              refine p_cVv C hml hg hW (c_X5_copies l D cy L ad G Ia Ja hS 12 j (by omega) (by omega) (wv σ j d) hP.2.2.2.2.2.1) (cwV 2 C.2.2.2.1 gX5_step_X5_copies rfl rfl rfl (by decide +kernel) ⟨Nat.le_of_ble_eq_true rfl, Nat.le_of_ble_eq_true rfl⟩) (p_recv C hW (hS.1 64 (by omega) (by omega)) (pF_5 (by decide)) rfl) rfl hl.1 rfl (Nat.le_of_ble_eq_true rfl) dX5_step_75 (Nat.le_of_ble_eq_true rfl) (Nat.le_of_ble_eq_true rfl) (fun I19 J20 H locs hp hW => ?_)
              obtain ⟨hI, hB⟩ := hp
              rw [cp_same (by rw [hP.2.2.2.1, cno]), hP.2.2.2.2.1] at hI
              refine lv_aload_n hx hb dX5_step_78 rfl (lv_at hl 0 rfl) ?_
              refine g_X5_9 C hinX5 hW (hS.1 64 (by omega) (by omega)) (by decide) (hS.2 9 (by omega) (by omega)) lk29 dX5_step_79 ?_
              refine lv_iload_n hx hb dX5_step_82 rfl (lv_at hl 1 rfl) ?_
              refine p_iald C hW (hS.1 71 (by omega) (by omega)) (by decide) (k := j) rfl (by rw [show ln 71 = 13 by decide]; omega) dX5_step_83 ?_
              refine w_top (y := .int (nI (aTm σ j + d))) (by rw [hI, va_up_self, pk_us]) ?_
              have hdk : d = k := by omega
              have hle := hP.le
              subst hdk
              have hsp : spStep cw σ (nI j) (nI d) = (0, lN (aTm σ j + d), sWv σ j (wv σ j d) (aTm σ j + d)) := by simp only [spStep, hj, hk]; rw [if_neg (fun z => by rcases z with z | z; exact hnz z; omega)]; rfl
              have ht := hP.2.2.2.2.2.2.2.1
              exact ret _ _ _ _ _ _ _ _ _ (Nat.le_of_ble_eq_true rfl) (Nat.le_of_ble_eq_true rfl) hW (by rw [hI]; exact rst.to hsp (nI_l (by omega)).symm (by rw [va_up_ne _ _ (by decide)]; exact hP.1) (hP.2.1.wvB hjc h12 hB _) ((hP.2.2.1.up (by omega) (by omega) _).blk hB)) dX5_step_84
            · skip
              refine lv_aload_n hx hb dX5_step_48 rfl (lv_at hl 0 rfl) ?_
              refine lv_bipush (v := nI 12) hx hb dX5_step_49 (by decide) ?_
              obtain ⟨cpl, cdr, cto, -, cmk⟩ := hP.2.1.2.2.1 _ hic
              refine p_cVi C hml hg hW (c_X5_goesOn l D cy L ad G Ia Ja hS 12 (by omega) (wv σ j d) hP.2.2.2.2.2.1 (aNt σ j) (aDr σ (aNt σ j)) hP.2.2.2.1 (by omega) cdr hd4 (aTm σ j + d) hP.2.2.2.2.1 hP.2.2.2.2.2.2.2.1) (cwV 1 C.2.2.2.1 gX5_step_X5_goesOn rfl rfl rfl (by decide +kernel) ⟨Nat.le_of_ble_eq_true rfl, Nat.le_of_ble_eq_true rfl⟩) (p_recv C hW (hS.1 64 (by omega) (by omega)) (pF_5 (by decide)) rfl) rfl hl.1 rfl (Nat.le_of_ble_eq_true rfl) dX5_step_51 (Nat.le_of_ble_eq_true rfl) (Nat.le_of_ble_eq_true rfl) (fun v21 I22 J23 H locs hp hW => ?_)
              obtain ⟨hv, hI, hJ⟩ := hp
              subst v21
              subst I22
              subst J23
              refine b_if_ne (tgt := 59) hx hb dX5_step_54 (by decide) (fun hc_24 => ?_) (fun hc_24 => ?_)
              · skip
                have hgo := of_decide_eq_true hc_24
                refine lv_aload_n hx hb dX5_step_59 rfl (lv_at hl 0 rfl) ?_
                refine lv_bipush (v := nI 12) hx hb dX5_step_60 (by decide) ?_
                refine p_cVv C hml hg hW (c_X5_steps l D cy L ad G Ia Ja hS 12 (by omega) (wv σ j d) hP.2.2.2.2.2.1 (aNt σ j) (aPl σ (aNt σ j)) (aDr σ (aNt σ j)) (aTm σ j + d) hP.2.2.2.1 (by omega) cpl hp12 cdr hd4 (aMk σ (aNt σ j)) cmk (aTo σ (aNt σ j)) cto (fun c hc => (hpr c hc).1) hP.2.2.2.2.1) (cwV 1 C.2.2.2.1 gX5_step_X5_steps rfl rfl rfl (by decide +kernel) ⟨Nat.le_of_ble_eq_true rfl, Nat.le_of_ble_eq_true rfl⟩) (p_recv C hW (hS.1 64 (by omega) (by omega)) (pF_5 (by decide)) rfl) rfl hl.1 rfl (Nat.le_of_ble_eq_true rfl) dX5_step_62 (Nat.le_of_ble_eq_true rfl) (Nat.le_of_ble_eq_true rfl) (fun I25 J26 H locs hp hW => ?_)
                obtain ⟨hI, hB⟩ := hp
                have hP := hP.on hA hjc hgo hI hB
                clear hI hB
                refine lv_iinc (v := nI (d + 1)) (lv' := [(3, .int (nI (d + 1))), (0, .ref (ad 64)), (1, .int (nI j)), (2, .int (nI k))]) hx hb dX5_step_65 hl (k := 3) rfl (nI_inc _) (by decide) rfl (fun ls hl => ?_)
                refine lv_goto (tgt := 43) hx hb dX5_step_68 (by decide) ?_
                exact ih43 (d + 1) I25 J26 (by omega) (by omega) hP _ _ hW ls (lv_sub hl [1, 2, 3, 0] rfl)
              · skip
                have hlf := hP.off (of_decide_eq_false hc_24)
                refine lv_iconst (v := (-1)) hx hb dX5_step_57 (by decide) ?_
                have hsp : spStep cw σ (nI j) (nI k) = (0, -1, σ) := by simp only [spStep, hj, hk]; rw [if_pos (Or.inr (by omega))]
                exact ret _ _ _ _ _ _ _ _ _ (Nat.le_of_ble_eq_true rfl) (Nat.le_of_ble_eq_true rfl) hW (rst.to hsp (by decide) hP.1 hP.2.1 hP.2.2.1) dX5_step_58
        exact lp43 (k + 1) 0 I16 J17 (by omega) (by omega) hP _ _ hW ls (lv_sub hl [1, 2, 3, 0] rfl)
      · skip
        refine lv_iconst (v := (-1)) hx hb dX5_step_32 (by decide) ?_
        have hsp : spStep cw σ (nI j) (nI k) = (0, -1, σ) := by simp only [spStep, hj, hk]; rw [if_pos (Or.inl hc_15)]
        exact ret _ _ _ _ _ _ _ _ _ (Nat.le_of_ble_eq_true rfl) (Nat.le_of_ble_eq_true rfl) hW (rst.thr hsp h12 hD (fun _ => by decide)) dX5_step_33
    · skip
      have hr0 : (ixN xn 61).isSome = false := rt_no hc_11
      rw [if_pos ⟨rfl, hr0⟩] at hW
      have hn3 := is_none hr0
      refine lv_iconst (v := nI 0) hx hb dX5_step_20 (by decide) ?_
      have hsp : spStep cw σ (nI j) xn = (2, 0, σ) := by simp only [spStep, hj, hn3]
      exact ret _ _ _ _ _ _ _ _ _ (Nat.le_of_ble_eq_true rfl) (Nat.le_of_ble_eq_true rfl) hW (rst.thr hsp h12 hD (fun z => absurd z (by decide))) dX5_step_21
abbrev rmX5_arrives : Room := { frames := 4, cells := 0, slots := 0, locals := 140 }
set_option maxHeartbeats 4000000 in
set_option maxRecDepth 100000 in
theorem c_X5_arrives (l : Launch) (D : va_G) (cy : Nat → ClassId) (L : List Nat) (ad : Nat → Nat) (G : mG) (I : mI) (J : mJ) (hS : rSh L G) (cn cw : Nat) (σ : Ab) (hA : aOk cn cw σ) (hD : rDt cn cw σ I J) (x xp xn : Int32) : pMet l yX5_arrives wsX5_arrives rmX5_arrives D cy L ad G I J [.ref (ad 64), .int x, .int xp, .int xn] (qI (fun v I' J' => rst (spArr cw σ x xp xn) v.toInt64 cn cw I I' J J') D cy L ad G) := by
  refine pMet.ofI (cc := cX5_arrives) (maxL := 7) (by decide +kernel) rfl (Nat.le_of_ble_eq_true rfl) ?_
  intro p e R s m args below meth c A Q C hml hR hg ret hW ls hl
  subst hR
  have C : Cx p s m args c cX5_arrives RX5 wsX5_arrives D cy A := C
  have hx := C.1
  have hb := C.2.1
  have hl : lv_has ls 7 [(0, .ref (ad 64)), (1, .int x), (2, .int xp), (3, .int xn)] := hl
  have h6 := hA.1
  have h12 := hA.2.1
  refine lv_aload_n hx hb dX5_arrives_0 rfl (lv_at hl 0 rfl) ?_
  refine lv_iload_n hx hb dX5_arrives_1 rfl (lv_at hl 1 rfl) ?_
  refine p_cVi C hml hg hW (c_X5_isWalk l D cy L ad G I J hS cw hD.2.1 h12 x) (cwV 1 C.2.2.2.1 gX5_arrives_X5_isWalk rfl rfl rfl (by decide +kernel) ⟨Nat.le_of_ble_eq_true rfl, Nat.le_of_ble_eq_true rfl⟩) (p_recv C hW (hS.1 64 (by omega) (by omega)) (pF_5 (by decide)) rfl) rfl hl.1 rfl (Nat.le_of_ble_eq_true rfl) dX5_arrives_2 (Nat.le_of_ble_eq_true rfl) (Nat.le_of_ble_eq_true rfl) (fun v1 I2 J3 H locs hp hW => ?_)
  obtain ⟨hv, hI, hJ⟩ := hp
  subst v1
  subst I2
  subst J3
  refine b_if_eq (tgt := 29) hx hb dX5_arrives_5 (by decide) (fun hc_4 => ?_) (fun hc_4 => ?_)
  · skip
    rw [if_neg (by rw [hc_4]; decide)] at hW
    have hn1 := is_none hc_4
    refine lv_iconst (v := nI 0) hx hb dX5_arrives_29 (by decide) ?_
    have hsp : spArr cw σ x xp xn = (1, 0, σ) := by simp only [spArr, hn1]
    exact ret _ _ _ _ _ _ _ _ _ (Nat.le_of_ble_eq_true rfl) (Nat.le_of_ble_eq_true rfl) hW (rst.thr hsp h12 hD (fun z => absurd z (by decide))) dX5_arrives_30
  · skip
    rw [if_pos hc_4] at hW
    obtain ⟨j, hj⟩ := Option.isSome_iff_exists.mp hc_4
    obtain ⟨hjc, hxe⟩ := ixN_some hj (by omega)
    subst hxe
    have hD0 := rDt.thr hD h12 0
    obtain ⟨hno, htm, hwv⟩ := hD0.2.2.2.2.1 j hjc
    obtain ⟨hic, ht60, hwo, hus2⟩ := hA.2.2.2 j hjc
    obtain ⟨hpl, hdr, hto, hus, hmk⟩ := hD0.2.2.1 (aNt σ j) hic
    obtain ⟨hp1, hp12, hd4, hpr⟩ := hA.2.2.1 (aNt σ j) hic
    refine lv_aload_n hx hb dX5_arrives_8 rfl (lv_at hl 0 rfl) ?_
    refine lv_iload_n hx hb dX5_arrives_9 rfl (lv_at hl 1 rfl) ?_
    refine lv_iload_n hx hb dX5_arrives_10 rfl (lv_at hl 2 rfl) ?_
    refine p_cVi C hml hg hW (c_X5_isIn l D cy L ad G (thr I 0) J hS j (aNt σ j) (aPl σ (aNt σ j)) (by omega) hno (by omega) hpl hp12 (thr_0 I 0) xp) (cwV 2 C.2.2.2.1 gX5_arrives_X5_isIn rfl rfl rfl (by decide +kernel) ⟨Nat.le_of_ble_eq_true rfl, Nat.le_of_ble_eq_true rfl⟩) (p_recv C hW (hS.1 64 (by omega) (by omega)) (pF_5 (by decide)) rfl) rfl hl.1 rfl (Nat.le_of_ble_eq_true rfl) dX5_arrives_11 (Nat.le_of_ble_eq_true rfl) (Nat.le_of_ble_eq_true rfl) (fun v5 I6 J7 H locs hp hW => ?_)
    obtain ⟨hv, hI, hJ⟩ := hp
    replace hI := hI.trans (thr_thr I 0 _)
    subst v5
    subst I6
    subst J7
    refine b_if_eq (tgt := 29) hx hb dX5_arrives_14 (by decide) (fun hc_8 => ?_) (fun hc_8 => ?_)
    · skip
      rw [if_neg (by rw [hc_8]; decide)] at hW
      have hn2 := is_none hc_8
      refine lv_iconst (v := nI 0) hx hb dX5_arrives_29 (by decide) ?_
      have hsp : spArr cw σ (nI j) xp xn = (1, 0, σ) := by simp only [spArr, hj, hn2]
      exact ret _ _ _ _ _ _ _ _ _ (Nat.le_of_ble_eq_true rfl) (Nat.le_of_ble_eq_true rfl) hW (rst.thr hsp h12 hD (fun z => absurd z (by decide))) dX5_arrives_30
    · skip
      rw [if_pos hc_8] at hW
      obtain ⟨q, hq⟩ := Option.isSome_iff_exists.mp hc_8
      obtain ⟨hql, hx1⟩ := ixN_some hq (by omega)
      subst hx1
      refine lv_aload_n hx hb dX5_arrives_17 rfl (lv_at hl 0 rfl) ?_
      refine lv_iload_n hx hb dX5_arrives_18 rfl (lv_at hl 3 rfl) ?_
      refine p_cSi C hml hg hW (c_X5_isMany l D cy L ad G (thr I 0) J xn) (va_cwS 1 C.2.2.2.1 gX5_arrives_X5_isMany rfl rfl rfl (by decide +kernel) ⟨Nat.le_of_ble_eq_true rfl, Nat.le_of_ble_eq_true rfl⟩) rfl hl.1 rfl (Nat.le_of_ble_eq_true rfl) dX5_arrives_19 (Nat.le_of_ble_eq_true rfl) (Nat.le_of_ble_eq_true rfl) (fun v9 I10 J11 H locs hp hW => ?_)
      obtain ⟨hv, hI, hJ⟩ := hp
      subst v9
      subst I10
      subst J11
      refine lv_iconst (v := nI 2) hx hb dX5_arrives_22 (by decide) ?_
      refine p_cVi C hml hg hW (c_X5_right l D cy L ad G (thr I 0) J hS ((ixN xn 61).isSome) 2 0 (thr_0 I 0) (by omega) (by omega)) (cwV 2 C.2.2.2.1 gX5_arrives_X5_right rfl rfl rfl (by decide +kernel) ⟨Nat.le_of_ble_eq_true rfl, Nat.le_of_ble_eq_true rfl⟩) (p_recv C hW (hS.1 64 (by omega) (by omega)) (pF_5 (by decide)) rfl) rfl hl.1 rfl (Nat.le_of_ble_eq_true rfl) dX5_arrives_23 (Nat.le_of_ble_eq_true rfl) (Nat.le_of_ble_eq_true rfl) (fun v12 I13 J14 H locs hp hW => ?_)
      obtain ⟨hv, hI, hJ⟩ := hp
      replace hI := hI.trans (thr_thr I 0 _)
      subst v12
      subst I13
      subst J14
      refine b_if_ne (tgt := 31) hx hb dX5_arrives_26 (by decide) (fun hc_15 => ?_) (fun hc_15 => ?_)
      · skip
        have hr1 : (ixN xn 61).isSome = true := rt_yes (by decide) hc_15
        rw [if_neg (fun z => by rw [hr1] at z; cases z.2)] at hW
        obtain ⟨k, hk⟩ := Option.isSome_iff_exists.mp hr1
        obtain ⟨hkl, hx3⟩ := ixN_some hk (by omega)
        subst hx3
        refine lv_aload_n hx hb dX5_arrives_31 rfl (lv_at hl 0 rfl) ?_
        refine lv_iload_n hx hb dX5_arrives_32 rfl (lv_at hl 1 rfl) ?_
        refine lv_bipush (v := nI 12) hx hb dX5_arrives_33 (by decide) ?_
        refine p_cVv C hml hg hW (c_X5_copies l D cy L ad G (thr I 0) J hS j 12 (by omega) (by omega) (aWv σ j) hwv) (cwV 2 C.2.2.2.1 gX5_arrives_X5_copies rfl rfl rfl (by decide +kernel) ⟨Nat.le_of_ble_eq_true rfl, Nat.le_of_ble_eq_true rfl⟩) (p_recv C hW (hS.1 64 (by omega) (by omega)) (pF_5 (by decide)) rfl) rfl hl.1 rfl (Nat.le_of_ble_eq_true rfl) dX5_arrives_35 (Nat.le_of_ble_eq_true rfl) (Nat.le_of_ble_eq_true rfl) (fun I16 J17 H locs hp hW => ?_)
        obtain ⟨hI, hB⟩ := hp
        have hP := rCp.init hA hD hjc hI hB
        clear hI hB
        refine lv_iconst (v := nI 0) hx hb dX5_arrives_38 (by decide) ?_
        refine lv_istore (lv' := [(4, .int (nI 0)), (0, .ref (ad 64)), (1, .int (nI j)), (2, .int (nI q)), (3, .int (nI k))]) hx hb dX5_arrives_39 hl (by decide) rfl (fun ls hl => ?_)
        have lp41 : ∀ (nn : Nat) (d : Nat) (Ia : mI) (Ja : mJ), (d ≤ k + 1) → (k + 2 ≤ d + nn) → (rCp cn cw σ j I Ia J Ja d) → (∀ b, b < d → allAt (wv σ j b) q = false) → ∀ (H : Heap) (locs : List Loc), Wd D cy A s.heap H locs L ad G Ia Ja → ∀ (ls : Array Slot), lv_has ls 7 [(0, .ref (ad 64)), (1, .int (nI j)), (2, .int (nI q)), (3, .int (nI k)), (4, .int (nI d))] → W p l e rmX5_arrives s m args below meth c H locs 0 0 Q (F0 m 41 ls []) := by
          intro nn
          induction nn with
          | zero => intros; exfalso; omega
          | succ nn ih41 =>
            intro d Ia Ja hd hfu hP hnh H locs hW ls hl
            refine lv_iload hx hb dX5_arrives_41 (lv_at hl 4 rfl) ?_
            refine lv_iload_n hx hb dX5_arrives_43 rfl (lv_at hl 3 rfl) ?_
            refine n_icmp_gt (tgt := 101) hx hb (by omega) (by omega) dX5_arrives_44 (by decide) (fun hc_18 => ?_) (fun hc_18 => ?_)
            · skip
              refine lv_iconst (v := (-1)) hx hb dX5_arrives_101 (by decide) ?_
              have hsp : spArr cw σ (nI j) (nI q) (nI k) = (0, -1, σ) := by simp only [spArr, hj, hq, hk, arrA]; rw [if_neg (by rw [lst_none (P := fun i => allAt (itS (stp σ (aNt σ j)) i (aWv σ j)) q) (fun i hi => hnh i (by omega))]; omega)]
              exact ret _ _ _ _ _ _ _ _ _ (Nat.le_of_ble_eq_true rfl) (Nat.le_of_ble_eq_true rfl) hW (rst.to hsp (by decide) hP.1 hP.2.1 hP.2.2.1) dX5_arrives_102
            · skip
              refine lv_aload_n hx hb dX5_arrives_47 rfl (lv_at hl 0 rfl) ?_
              refine lv_bipush (v := nI 12) hx hb dX5_arrives_48 (by decide) ?_
              refine lv_iload_n hx hb dX5_arrives_50 rfl (lv_at hl 2 rfl) ?_
              refine p_cVl C hml hg hW (c_X5_shareOf l D cy L ad G Ia Ja hS 12 (by omega) (wv σ j d) hP.2.2.2.2.2.1 q (by omega)) (cwV 2 C.2.2.2.1 gX5_arrives_X5_shareOf rfl rfl rfl (by decide +kernel) ⟨Nat.le_of_ble_eq_true rfl, Nat.le_of_ble_eq_true rfl⟩) (p_recv C hW (hS.1 64 (by omega) (by omega)) (pF_5 (by decide)) rfl) rfl hl.1 rfl (Nat.le_of_ble_eq_true rfl) dX5_arrives_51 (Nat.le_of_ble_eq_true rfl) (Nat.le_of_ble_eq_true rfl) (fun v19 I20 J21 H locs hp hW => ?_)
              obtain ⟨hv, hI, hJ⟩ := hp
              subst v19
              subst I20
              subst J21
              refine lv_lstore (lv' := [(5, .long (sqAt (wv σ j d) q)), (0, .ref (ad 64)), (1, .int (nI j)), (2, .int (nI q)), (3, .int (nI k)), (4, .int (nI d))]) hx hb dX5_arrives_54 hl (by decide) rfl (fun ls hl => ?_)
              refine lv_lload hx hb dX5_arrives_56 (lv_at hl 0 rfl) ?_
              refine lv_lconst (v := 0) hx hb dX5_arrives_58 (by decide) ?_
              refine l_le (tgt := 78) hx hb dX5_arrives_59 dX5_arrives_60 (by decide) (fun hc_22 => ?_) (fun hc_22 => ?_)
              · skip
                have hal : allAt (wv σ j d) q = false := decide_eq_false (fun z => hc_22 z.1)
                have hnh : ∀ b, b < d + 1 → allAt (wv σ j b) q = false := fun b hb2 => by rcases Nat.lt_or_ge b d with h | h; exact hnh b h; rw [show b = d by omega]; exact hal
                refine lv_aload_n hx hb dX5_arrives_78 rfl (lv_at hl 1 rfl) ?_
                refine lv_bipush (v := nI 12) hx hb dX5_arrives_79 (by decide) ?_
                obtain ⟨cpl, cdr, cto, -, cmk⟩ := hP.2.1.2.2.1 _ hic
                refine p_cVi C hml hg hW (c_X5_goesOn l D cy L ad G Ia Ja hS 12 (by omega) (wv σ j d) hP.2.2.2.2.2.1 (aNt σ j) (aDr σ (aNt σ j)) hP.2.2.2.1 (by omega) cdr hd4 (aTm σ j + d) hP.2.2.2.2.1 hP.2.2.2.2.2.2.2.1) (cwV 1 C.2.2.2.1 gX5_arrives_X5_goesOn rfl rfl rfl (by decide +kernel) ⟨Nat.le_of_ble_eq_true rfl, Nat.le_of_ble_eq_true rfl⟩) (p_recv C hW (hS.1 64 (by omega) (by omega)) (pF_5 (by decide)) rfl) rfl hl.1 rfl (Nat.le_of_ble_eq_true rfl) dX5_arrives_81 (Nat.le_of_ble_eq_true rfl) (Nat.le_of_ble_eq_true rfl) (fun v23 I24 J25 H locs hp hW => ?_)
                obtain ⟨hv, hI, hJ⟩ := hp
                subst v23
                subst I24
                subst J25
                refine b_if_ne (tgt := 89) hx hb dX5_arrives_84 (by decide) (fun hc_26 => ?_) (fun hc_26 => ?_)
                · skip
                  have hgo := of_decide_eq_true hc_26
                  refine lv_aload_n hx hb dX5_arrives_89 rfl (lv_at hl 1 rfl) ?_
                  refine lv_bipush (v := nI 12) hx hb dX5_arrives_90 (by decide) ?_
                  refine p_cVv C hml hg hW (c_X5_steps l D cy L ad G Ia Ja hS 12 (by omega) (wv σ j d) hP.2.2.2.2.2.1 (aNt σ j) (aPl σ (aNt σ j)) (aDr σ (aNt σ j)) (aTm σ j + d) hP.2.2.2.1 (by omega) cpl hp12 cdr hd4 (aMk σ (aNt σ j)) cmk (aTo σ (aNt σ j)) cto (fun c hc => (hpr c hc).1) hP.2.2.2.2.1) (cwV 1 C.2.2.2.1 gX5_arrives_X5_steps rfl rfl rfl (by decide +kernel) ⟨Nat.le_of_ble_eq_true rfl, Nat.le_of_ble_eq_true rfl⟩) (p_recv C hW (hS.1 64 (by omega) (by omega)) (pF_5 (by decide)) rfl) rfl hl.1 rfl (Nat.le_of_ble_eq_true rfl) dX5_arrives_92 (Nat.le_of_ble_eq_true rfl) (Nat.le_of_ble_eq_true rfl) (fun I27 J28 H locs hp hW => ?_)
                  obtain ⟨hI, hB⟩ := hp
                  have hP := hP.on hA hjc hgo hI hB
                  clear hI hB
                  refine lv_iinc (v := nI (d + 1)) (lv' := [(4, .int (nI (d + 1))), (5, .long (sqAt (wv σ j d) q)), (0, .ref (ad 64)), (1, .int (nI j)), (2, .int (nI q)), (3, .int (nI k))]) hx hb dX5_arrives_95 hl (k := 5) rfl (nI_inc _) (by decide) rfl (fun ls hl => ?_)
                  refine lv_goto (tgt := 41) hx hb dX5_arrives_98 (by decide) ?_
                  exact ih41 (d + 1) I27 J28 (by omega) (by omega) hP hnh _ _ hW ls (lv_sub hl [2, 3, 4, 5, 0] rfl)
                · skip
                  have hlf := hP.off (of_decide_eq_false hc_26)
                  refine lv_iconst (v := (-1)) hx hb dX5_arrives_87 (by decide) ?_
                  have hsp : spArr cw σ (nI j) (nI q) (nI k) = (0, -1, σ) := by simp only [spArr, hj, hq, hk, arrA]; rw [if_neg (by rw [lst_none (P := fun i => allAt (itS (stp σ (aNt σ j)) i (aWv σ j)) q) (fun i hi => hnh i (by omega))]; omega)]
                  exact ret _ _ _ _ _ _ _ _ _ (Nat.le_of_ble_eq_true rfl) (Nat.le_of_ble_eq_true rfl) hW (rst.to hsp (by decide) hP.1 hP.2.1 hP.2.2.1) dX5_arrives_88
              · skip
                refine lv_lload hx hb dX5_arrives_63 (lv_at hl 0 rfl) ?_
                refine lv_aload_n hx hb dX5_arrives_65 rfl (lv_at hl 1 rfl) ?_
                refine lv_bipush (v := nI 12) hx hb dX5_arrives_66 (by decide) ?_
                refine p_cVl C hml hg hW (c_X5_weight l D cy L ad G Ia Ja hS 12 (by omega) (wv σ j d) hP.2.2.2.2.2.1) (cwV 1 C.2.2.2.1 gX5_arrives_X5_weight rfl rfl rfl (by decide +kernel) ⟨Nat.le_of_ble_eq_true rfl, Nat.le_of_ble_eq_true rfl⟩) (p_recv C hW (hS.1 64 (by omega) (by omega)) (pF_5 (by decide)) rfl) rfl hl.1 rfl (Nat.le_of_ble_eq_true rfl) dX5_arrives_68 (Nat.le_of_ble_eq_true rfl) (Nat.le_of_ble_eq_true rfl) (fun v29 I30 J31 H locs hp hW => ?_)
                obtain ⟨hv, hI, hJ⟩ := hp
                subst v29
                subst I30
                subst J31
                refine l_ne (tgt := 78) hx hb dX5_arrives_71 dX5_arrives_72 (by decide) (fun hc_32 => ?_) (fun hc_32 => ?_)
                · skip
                  have hal : allAt (wv σ j d) q = false := decide_eq_false (fun z => hc_32 z.2)
                  have hnh : ∀ b, b < d + 1 → allAt (wv σ j b) q = false := fun b hb2 => by rcases Nat.lt_or_ge b d with h | h; exact hnh b h; rw [show b = d by omega]; exact hal
                  refine lv_aload_n hx hb dX5_arrives_78 rfl (lv_at hl 1 rfl) ?_
                  refine lv_bipush (v := nI 12) hx hb dX5_arrives_79 (by decide) ?_
                  obtain ⟨cpl, cdr, cto, -, cmk⟩ := hP.2.1.2.2.1 _ hic
                  refine p_cVi C hml hg hW (c_X5_goesOn l D cy L ad G Ia Ja hS 12 (by omega) (wv σ j d) hP.2.2.2.2.2.1 (aNt σ j) (aDr σ (aNt σ j)) hP.2.2.2.1 (by omega) cdr hd4 (aTm σ j + d) hP.2.2.2.2.1 hP.2.2.2.2.2.2.2.1) (cwV 1 C.2.2.2.1 gX5_arrives_X5_goesOn rfl rfl rfl (by decide +kernel) ⟨Nat.le_of_ble_eq_true rfl, Nat.le_of_ble_eq_true rfl⟩) (p_recv C hW (hS.1 64 (by omega) (by omega)) (pF_5 (by decide)) rfl) rfl hl.1 rfl (Nat.le_of_ble_eq_true rfl) dX5_arrives_81 (Nat.le_of_ble_eq_true rfl) (Nat.le_of_ble_eq_true rfl) (fun v33 I34 J35 H locs hp hW => ?_)
                  obtain ⟨hv, hI, hJ⟩ := hp
                  subst v33
                  subst I34
                  subst J35
                  refine b_if_ne (tgt := 89) hx hb dX5_arrives_84 (by decide) (fun hc_36 => ?_) (fun hc_36 => ?_)
                  · skip
                    have hgo := of_decide_eq_true hc_36
                    refine lv_aload_n hx hb dX5_arrives_89 rfl (lv_at hl 1 rfl) ?_
                    refine lv_bipush (v := nI 12) hx hb dX5_arrives_90 (by decide) ?_
                    refine p_cVv C hml hg hW (c_X5_steps l D cy L ad G Ia Ja hS 12 (by omega) (wv σ j d) hP.2.2.2.2.2.1 (aNt σ j) (aPl σ (aNt σ j)) (aDr σ (aNt σ j)) (aTm σ j + d) hP.2.2.2.1 (by omega) cpl hp12 cdr hd4 (aMk σ (aNt σ j)) cmk (aTo σ (aNt σ j)) cto (fun c hc => (hpr c hc).1) hP.2.2.2.2.1) (cwV 1 C.2.2.2.1 gX5_arrives_X5_steps rfl rfl rfl (by decide +kernel) ⟨Nat.le_of_ble_eq_true rfl, Nat.le_of_ble_eq_true rfl⟩) (p_recv C hW (hS.1 64 (by omega) (by omega)) (pF_5 (by decide)) rfl) rfl hl.1 rfl (Nat.le_of_ble_eq_true rfl) dX5_arrives_92 (Nat.le_of_ble_eq_true rfl) (Nat.le_of_ble_eq_true rfl) (fun I37 J38 H locs hp hW => ?_)
                    obtain ⟨hI, hB⟩ := hp
                    have hP := hP.on hA hjc hgo hI hB
                    clear hI hB
                    refine lv_iinc (v := nI (d + 1)) (lv' := [(4, .int (nI (d + 1))), (5, .long (sqAt (wv σ j d) q)), (0, .ref (ad 64)), (1, .int (nI j)), (2, .int (nI q)), (3, .int (nI k))]) hx hb dX5_arrives_95 hl (k := 5) rfl (nI_inc _) (by decide) rfl (fun ls hl => ?_)
                    refine lv_goto (tgt := 41) hx hb dX5_arrives_98 (by decide) ?_
                    exact ih41 (d + 1) I37 J38 (by omega) (by omega) hP hnh _ _ hW ls (lv_sub hl [2, 3, 4, 5, 0] rfl)
                  · skip
                    have hlf := hP.off (of_decide_eq_false hc_36)
                    refine lv_iconst (v := (-1)) hx hb dX5_arrives_87 (by decide) ?_
                    have hsp : spArr cw σ (nI j) (nI q) (nI k) = (0, -1, σ) := by simp only [spArr, hj, hq, hk, arrA]; rw [if_neg (by rw [lst_none (P := fun i => allAt (itS (stp σ (aNt σ j)) i (aWv σ j)) q) (fun i hi => hnh i (by omega))]; omega)]
                    exact ret _ _ _ _ _ _ _ _ _ (Nat.le_of_ble_eq_true rfl) (Nat.le_of_ble_eq_true rfl) hW (rst.to hsp (by decide) hP.1 hP.2.1 hP.2.2.1) dX5_arrives_88
                · skip
                  have hal : allAt (wv σ j d) q = true := decide_eq_true ⟨hc_22, hc_32⟩
                  have hle := hP.le
                  have hls : lst (fun i => allAt (itS (stp σ (aNt σ j)) i (aWv σ j)) q) (min k (lf σ j) + 1) = d := lst_of (by omega) hnh hal
                  refine lv_iload hx hb dX5_arrives_75 (lv_at hl 5 rfl) ?_
                  have hsp : spArr cw σ (nI j) (nI q) (nI k) = (0, lN d, σ) := by simp only [spArr, hj, hq, hk, arrA, hls]; rw [if_pos (by omega)]
                  exact ret _ _ _ _ _ _ _ _ _ (Nat.le_of_ble_eq_true rfl) (Nat.le_of_ble_eq_true rfl) hW (rst.to hsp (nI_l (by omega)).symm hP.1 hP.2.1 hP.2.2.1) dX5_arrives_77
        exact lp41 (k + 2) 0 I16 J17 (by omega) (by omega) hP (fun b hb2 => absurd hb2 (Nat.not_lt_zero b)) _ _ hW ls (lv_sub hl [1, 2, 3, 4, 0] rfl)
      · skip
        have hr0 : (ixN xn 61).isSome = false := rt_no hc_15
        rw [if_pos ⟨rfl, hr0⟩] at hW
        have hn3 := is_none hr0
        refine lv_iconst (v := nI 0) hx hb dX5_arrives_29 (by decide) ?_
        have hsp : spArr cw σ (nI j) (nI q) xn = (2, 0, σ) := by simp only [spArr, hj, hq, hn3]
        exact ret _ _ _ _ _ _ _ _ _ (Nat.le_of_ble_eq_true rfl) (Nat.le_of_ble_eq_true rfl) hW (rst.thr hsp h12 hD (fun z => absurd z (by decide))) dX5_arrives_30
abbrev rmX5_returns : Room := { frames := 4, cells := 0, slots := 0, locals := 140 }
set_option maxHeartbeats 4000000 in
set_option maxRecDepth 100000 in
theorem c_X5_returns (l : Launch) (D : va_G) (cy : Nat → ClassId) (L : List Nat) (ad : Nat → Nat) (G : mG) (I : mI) (J : mJ) (hS : rSh L G) (cn cw : Nat) (σ : Ab) (hA : aOk cn cw σ) (hD : rDt cn cw σ I J) (x xn : Int32) : pMet l yX5_returns wsX5_returns rmX5_returns D cy L ad G I J [.ref (ad 64), .int x, .int xn] (qI (fun v I' J' => rst (spRet cw σ x xn) v.toInt64 cn cw I I' J J') D cy L ad G) := by
  refine pMet.ofI (cc := cX5_returns) (maxL := 4) (by decide +kernel) rfl (Nat.le_of_ble_eq_true rfl) ?_
  intro p e R s m args below meth c A Q C hml hR hg ret hW ls hl
  subst hR
  have C : Cx p s m args c cX5_returns RX5 wsX5_returns D cy A := C
  have hx := C.1
  have hb := C.2.1
  have hl : lv_has ls 4 [(0, .ref (ad 64)), (1, .int x), (2, .int xn)] := hl
  have h6 := hA.1
  have h12 := hA.2.1
  refine lv_aload_n hx hb dX5_returns_0 rfl (lv_at hl 0 rfl) ?_
  refine lv_iload_n hx hb dX5_returns_1 rfl (lv_at hl 1 rfl) ?_
  refine p_cVi C hml hg hW (c_X5_isWalk l D cy L ad G I J hS cw hD.2.1 h12 x) (cwV 1 C.2.2.2.1 gX5_returns_X5_isWalk rfl rfl rfl (by decide +kernel) ⟨Nat.le_of_ble_eq_true rfl, Nat.le_of_ble_eq_true rfl⟩) (p_recv C hW (hS.1 64 (by omega) (by omega)) (pF_5 (by decide)) rfl) rfl hl.1 rfl (Nat.le_of_ble_eq_true rfl) dX5_returns_2 (Nat.le_of_ble_eq_true rfl) (Nat.le_of_ble_eq_true rfl) (fun v1 I2 J3 H locs hp hW => ?_)
  obtain ⟨hv, hI, hJ⟩ := hp
  subst v1
  subst I2
  subst J3
  refine b_if_eq (tgt := 20) hx hb dX5_returns_5 (by decide) (fun hc_4 => ?_) (fun hc_4 => ?_)
  · skip
    rw [if_neg (by rw [hc_4]; decide)] at hW
    have hn1 := is_none hc_4
    refine lv_iconst (v := nI 0) hx hb dX5_returns_20 (by decide) ?_
    have hsp : spRet cw σ x xn = (1, 0, σ) := by simp only [spRet, hn1]
    exact ret _ _ _ _ _ _ _ _ _ (Nat.le_of_ble_eq_true rfl) (Nat.le_of_ble_eq_true rfl) hW (rst.thr hsp h12 hD (fun z => absurd z (by decide))) dX5_returns_21
  · skip
    rw [if_pos hc_4] at hW
    obtain ⟨j, hj⟩ := Option.isSome_iff_exists.mp hc_4
    obtain ⟨hjc, hxe⟩ := ixN_some hj (by omega)
    subst hxe
    have hD0 := rDt.thr hD h12 0
    obtain ⟨hno, htm, hwv⟩ := hD0.2.2.2.2.1 j hjc
    obtain ⟨hic, ht60, hwo, hus2⟩ := hA.2.2.2 j hjc
    obtain ⟨hpl, hdr, hto, hus, hmk⟩ := hD0.2.2.1 (aNt σ j) hic
    obtain ⟨hp1, hp12, hd4, hpr⟩ := hA.2.2.1 (aNt σ j) hic
    refine lv_aload_n hx hb dX5_returns_8 rfl (lv_at hl 0 rfl) ?_
    refine lv_iload_n hx hb dX5_returns_9 rfl (lv_at hl 2 rfl) ?_
    refine p_cSi C hml hg hW (c_X5_isMany l D cy L ad G (thr I 0) J xn) (va_cwS 1 C.2.2.2.1 gX5_returns_X5_isMany rfl rfl rfl (by decide +kernel) ⟨Nat.le_of_ble_eq_true rfl, Nat.le_of_ble_eq_true rfl⟩) rfl hl.1 rfl (Nat.le_of_ble_eq_true rfl) dX5_returns_10 (Nat.le_of_ble_eq_true rfl) (Nat.le_of_ble_eq_true rfl) (fun v5 I6 J7 H locs hp hW => ?_)
    obtain ⟨hv, hI, hJ⟩ := hp
    subst v5
    subst I6
    subst J7
    refine lv_iconst (v := nI 2) hx hb dX5_returns_13 (by decide) ?_
    refine p_cVi C hml hg hW (c_X5_right l D cy L ad G (thr I 0) J hS ((ixN xn 61).isSome) 2 0 (thr_0 I 0) (by omega) (by omega)) (cwV 2 C.2.2.2.1 gX5_returns_X5_right rfl rfl rfl (by decide +kernel) ⟨Nat.le_of_ble_eq_true rfl, Nat.le_of_ble_eq_true rfl⟩) (p_recv C hW (hS.1 64 (by omega) (by omega)) (pF_5 (by decide)) rfl) rfl hl.1 rfl (Nat.le_of_ble_eq_true rfl) dX5_returns_14 (Nat.le_of_ble_eq_true rfl) (Nat.le_of_ble_eq_true rfl) (fun v8 I9 J10 H locs hp hW => ?_)
    obtain ⟨hv, hI, hJ⟩ := hp
    replace hI := hI.trans (thr_thr I 0 _)
    subst v8
    subst I9
    subst J10
    refine b_if_ne (tgt := 22) hx hb dX5_returns_17 (by decide) (fun hc_11 => ?_) (fun hc_11 => ?_)
    · skip
      have hr1 : (ixN xn 61).isSome = true := rt_yes (by decide) hc_11
      rw [if_neg (fun z => by rw [hr1] at z; cases z.2)] at hW
      obtain ⟨k, hk⟩ := Option.isSome_iff_exists.mp hr1
      obtain ⟨hkl, hx3⟩ := ixN_some hk (by omega)
      subst hx3
      refine lv_aload_n hx hb dX5_returns_22 rfl (lv_at hl 0 rfl) ?_
      refine lv_iload_n hx hb dX5_returns_23 rfl (lv_at hl 1 rfl) ?_
      refine p_cVl C hml hg hW (c_X5_weight l D cy L ad G (thr I 0) J hS j (by omega) (aWv σ j) hwv) (cwV 1 C.2.2.2.1 gX5_returns_X5_weight rfl rfl rfl (by decide +kernel) ⟨Nat.le_of_ble_eq_true rfl, Nat.le_of_ble_eq_true rfl⟩) (p_recv C hW (hS.1 64 (by omega) (by omega)) (pF_5 (by decide)) rfl) rfl hl.1 rfl (Nat.le_of_ble_eq_true rfl) dX5_returns_24 (Nat.le_of_ble_eq_true rfl) (Nat.le_of_ble_eq_true rfl) (fun v12 I13 J14 H locs hp hW => ?_)
      obtain ⟨hv, hI, hJ⟩ := hp
      subst v12
      subst I13
      subst J14
      refine lv_lconst (v := 0) hx hb dX5_returns_27 (by decide) ?_
      refine l_ne (tgt := 34) hx hb dX5_returns_28 dX5_returns_29 (by decide) (fun hc_15 => ?_) (fun hc_15 => ?_)
      · skip
        have hnz := hc_15
        refine lv_aload_n hx hb dX5_returns_34 rfl (lv_at hl 0 rfl) ?_
        refine lv_iload_n hx hb dX5_returns_35 rfl (lv_at hl 1 rfl) ?_
        refine lv_bipush (v := nI 12) hx hb dX5_returns_36 (by decide) ?_
        refine p_cVv C hml hg hW (c_X5_copies l D cy L ad G (thr I 0) J hS j 12 (by omega) (by omega) (aWv σ j) hwv) (cwV 2 C.2.2.2.1 gX5_returns_X5_copies rfl rfl rfl (by decide +kernel) ⟨Nat.le_of_ble_eq_true rfl, Nat.le_of_ble_eq_true rfl⟩) (p_recv C hW (hS.1 64 (by omega) (by omega)) (pF_5 (by decide)) rfl) rfl hl.1 rfl (Nat.le_of_ble_eq_true rfl) dX5_returns_38 (Nat.le_of_ble_eq_true rfl) (Nat.le_of_ble_eq_true rfl) (fun I16 J17 H locs hp hW => ?_)
        obtain ⟨hI, hB⟩ := hp
        have hP := rCp.init hA hD hjc hI hB
        clear hI hB
        refine lv_iconst (v := nI 1) hx hb dX5_returns_41 (by decide) ?_
        refine lv_istore_n (lv' := [(3, .int (nI 1)), (0, .ref (ad 64)), (1, .int (nI j)), (2, .int (nI k))]) hx hb dX5_returns_42 rfl hl (by decide) rfl (fun ls hl => ?_)
        have lp43 : ∀ (nn : Nat) (d : Nat) (Ia : mI) (Ja : mJ), (d ≤ k) → (k + 1 ≤ d + nn) → (rCp cn cw σ j I Ia J Ja d) → (∀ b, b < d → isMul (wv σ j (b + 1)) (aWv σ j) = false) → ∀ (H : Heap) (locs : List Loc), Wd D cy A s.heap H locs L ad G Ia Ja → ∀ (ls : Array Slot), lv_has ls 4 [(0, .ref (ad 64)), (1, .int (nI j)), (2, .int (nI k)), (3, .int (nI (d + 1)))] → W p l e rmX5_returns s m args below meth c H locs 0 0 Q (F0 m 43 ls []) := by
          intro nn
          induction nn with
          | zero => intros; exfalso; omega
          | succ nn ih43 =>
            intro d Ia Ja hd hfu hP hnh H locs hW ls hl
            refine lv_iload_n hx hb dX5_returns_43 rfl (lv_at hl 3 rfl) ?_
            refine lv_iload_n hx hb dX5_returns_44 rfl (lv_at hl 2 rfl) ?_
            refine n_icmp_gt (tgt := 83) hx hb (by omega) (by omega) dX5_returns_45 (by decide) (fun hc_18 => ?_) (fun hc_18 => ?_)
            · skip
              refine lv_iconst (v := (-1)) hx hb dX5_returns_83 (by decide) ?_
              have hsp : spRet cw σ (nI j) (nI k) = (0, -1, σ) := by simp only [spRet, hj, hk, retA]; rw [if_neg (by rw [lst_none (P := (fun i => isMul (itS (stp σ (aNt σ j)) (i + 1) (aWv σ j)) (aWv σ j))) (fun i hi => hnh i (by omega))]; omega)]
              exact ret _ _ _ _ _ _ _ _ _ (Nat.le_of_ble_eq_true rfl) (Nat.le_of_ble_eq_true rfl) hW (rst.to hsp (by decide) hP.1 hP.2.1 hP.2.2.1) dX5_returns_84
            · skip
              refine lv_aload_n hx hb dX5_returns_48 rfl (lv_at hl 0 rfl) ?_
              refine lv_bipush (v := nI 12) hx hb dX5_returns_49 (by decide) ?_
              obtain ⟨cpl, cdr, cto, -, cmk⟩ := hP.2.1.2.2.1 _ hic
              refine p_cVi C hml hg hW (c_X5_goesOn l D cy L ad G Ia Ja hS 12 (by omega) (wv σ j d) hP.2.2.2.2.2.1 (aNt σ j) (aDr σ (aNt σ j)) hP.2.2.2.1 (by omega) cdr hd4 (aTm σ j + d) hP.2.2.2.2.1 hP.2.2.2.2.2.2.2.1) (cwV 1 C.2.2.2.1 gX5_returns_X5_goesOn rfl rfl rfl (by decide +kernel) ⟨Nat.le_of_ble_eq_true rfl, Nat.le_of_ble_eq_true rfl⟩) (p_recv C hW (hS.1 64 (by omega) (by omega)) (pF_5 (by decide)) rfl) rfl hl.1 rfl (Nat.le_of_ble_eq_true rfl) dX5_returns_51 (Nat.le_of_ble_eq_true rfl) (Nat.le_of_ble_eq_true rfl) (fun v19 I20 J21 H locs hp hW => ?_)
              obtain ⟨hv, hI, hJ⟩ := hp
              subst v19
              subst I20
              subst J21
              refine b_if_ne (tgt := 59) hx hb dX5_returns_54 (by decide) (fun hc_22 => ?_) (fun hc_22 => ?_)
              · skip
                have hgo := of_decide_eq_true hc_22
                refine lv_aload_n hx hb dX5_returns_59 rfl (lv_at hl 0 rfl) ?_
                refine lv_bipush (v := nI 12) hx hb dX5_returns_60 (by decide) ?_
                refine p_cVv C hml hg hW (c_X5_steps l D cy L ad G Ia Ja hS 12 (by omega) (wv σ j d) hP.2.2.2.2.2.1 (aNt σ j) (aPl σ (aNt σ j)) (aDr σ (aNt σ j)) (aTm σ j + d) hP.2.2.2.1 (by omega) cpl hp12 cdr hd4 (aMk σ (aNt σ j)) cmk (aTo σ (aNt σ j)) cto (fun c hc => (hpr c hc).1) hP.2.2.2.2.1) (cwV 1 C.2.2.2.1 gX5_returns_X5_steps rfl rfl rfl (by decide +kernel) ⟨Nat.le_of_ble_eq_true rfl, Nat.le_of_ble_eq_true rfl⟩) (p_recv C hW (hS.1 64 (by omega) (by omega)) (pF_5 (by decide)) rfl) rfl hl.1 rfl (Nat.le_of_ble_eq_true rfl) dX5_returns_62 (Nat.le_of_ble_eq_true rfl) (Nat.le_of_ble_eq_true rfl) (fun I23 J24 H locs hp hW => ?_)
                obtain ⟨hI, hB⟩ := hp
                have hP := hP.on hA hjc hgo hI hB
                clear hI hB
                refine lv_aload_n hx hb dX5_returns_65 rfl (lv_at hl 0 rfl) ?_
                refine lv_bipush (v := nI 12) hx hb dX5_returns_66 (by decide) ?_
                refine lv_iload_n hx hb dX5_returns_68 rfl (lv_at hl 1 rfl) ?_
                obtain ⟨-, -, hwv3⟩ := hP.2.1.2.2.2.2.1 j hjc
                have hmr := isMul_ref (f := wv σ j (d + 1)) (g := aWv σ j) hP.2.2.2.2.2.2.1.2 hwo.2 (hP.2.2.2.2.2.2.2.2.2 hnz) hnz
                refine p_cVi C hml hg hW (c_X5_isMultiple l D cy L ad G I23 J24 hS 12 j (by omega) (by omega) (wv σ j (d + 1)) (aWv σ j) hP.2.2.2.2.2.1 hwv3 (fnz_lt hnz)) (cwV 2 C.2.2.2.1 gX5_returns_X5_isMultiple rfl rfl rfl (by decide +kernel) ⟨Nat.le_of_ble_eq_true rfl, Nat.le_of_ble_eq_true rfl⟩) (p_recv C hW (hS.1 64 (by omega) (by omega)) (pF_5 (by decide)) rfl) rfl hl.1 rfl (Nat.le_of_ble_eq_true rfl) dX5_returns_69 (Nat.le_of_ble_eq_true rfl) (Nat.le_of_ble_eq_true rfl) (fun v25 I26 J27 H locs hp hW => ?_)
                obtain ⟨hv, hI, hJ⟩ := hp
                rw [hmr] at hv
                subst v25
                subst I26
                subst J27
                refine b_if_eq (tgt := 77) hx hb dX5_returns_72 (by decide) (fun hc_28 => ?_) (fun hc_28 => ?_)
                · skip
                  have hnh : ∀ b, b < d + 1 → isMul (wv σ j (b + 1)) (aWv σ j) = false := fun b hb2 => by rcases Nat.lt_or_ge b d with h | h; exact hnh b h; rw [show b = d by omega]; exact hc_28
                  refine lv_iinc (v := nI ((d + 1) + 1)) (lv' := [(3, .int (nI ((d + 1) + 1))), (0, .ref (ad 64)), (1, .int (nI j)), (2, .int (nI k))]) hx hb dX5_returns_77 hl (k := 3) rfl (nI_inc _) (by decide) rfl (fun ls hl => ?_)
                  refine lv_goto (tgt := 43) hx hb dX5_returns_80 (by decide) ?_
                  exact ih43 (d + 1) I23 J24 (by omega) (by omega) hP hnh _ _ hW ls (lv_sub hl [1, 2, 3, 0] rfl)
                · skip
                  have hle := hP.le
                  have hls : lst (fun i => isMul (itS (stp σ (aNt σ j)) (i + 1) (aWv σ j)) (aWv σ j)) (min k (lf σ j)) = d := lst_of (by omega) hnh hc_28
                  refine lv_iload_n hx hb dX5_returns_75 rfl (lv_at hl 3 rfl) ?_
                  have hsp : spRet cw σ (nI j) (nI k) = (0, lN (d + 1), σ) := by simp only [spRet, hj, hk, retA, hls]; rw [if_pos (by omega)]
                  exact ret _ _ _ _ _ _ _ _ _ (Nat.le_of_ble_eq_true rfl) (Nat.le_of_ble_eq_true rfl) hW (rst.to hsp (nI_l (by omega)).symm hP.1 hP.2.1 hP.2.2.1) dX5_returns_76
              · skip
                have hlf := hP.off (of_decide_eq_false hc_22)
                refine lv_iconst (v := (-1)) hx hb dX5_returns_57 (by decide) ?_
                have hsp : spRet cw σ (nI j) (nI k) = (0, -1, σ) := by simp only [spRet, hj, hk, retA]; rw [if_neg (by rw [lst_none (P := (fun i => isMul (itS (stp σ (aNt σ j)) (i + 1) (aWv σ j)) (aWv σ j))) (fun i hi => hnh i (by omega))]; omega)]
                exact ret _ _ _ _ _ _ _ _ _ (Nat.le_of_ble_eq_true rfl) (Nat.le_of_ble_eq_true rfl) hW (rst.to hsp (by decide) hP.1 hP.2.1 hP.2.2.1) dX5_returns_58
        exact lp43 (k + 1) 0 I16 J17 (by omega) (by omega) hP (fun b hb2 => absurd hb2 (Nat.not_lt_zero b)) _ _ hW ls (lv_sub hl [1, 2, 3, 0] rfl)
      · skip
        refine lv_iconst (v := (-1)) hx hb dX5_returns_32 (by decide) ?_
        have hsp : spRet cw σ (nI j) (nI k) = (0, -1, σ) := by simp only [spRet, hj, hk]; rw [ret_zero hc_15 hwo.2]
        exact ret _ _ _ _ _ _ _ _ _ (Nat.le_of_ble_eq_true rfl) (Nat.le_of_ble_eq_true rfl) hW (rst.thr hsp h12 hD (fun _ => by decide)) dX5_returns_33
    · skip
      have hr0 : (ixN xn 61).isSome = false := rt_no hc_11
      rw [if_pos ⟨rfl, hr0⟩] at hW
      have hn3 := is_none hr0
      refine lv_iconst (v := nI 0) hx hb dX5_returns_20 (by decide) ?_
      have hsp : spRet cw σ (nI j) xn = (2, 0, σ) := by simp only [spRet, hj, hn3]
      exact ret _ _ _ _ _ _ _ _ _ (Nat.le_of_ble_eq_true rfl) (Nat.le_of_ble_eq_true rfl) hW (rst.thr hsp h12 hD (fun z => absurd z (by decide))) dX5_returns_21
abbrev rmX5_best : Room := { frames := 4, cells := 0, slots := 0, locals := 140 }
set_option maxHeartbeats 4000000 in
set_option maxRecDepth 100000 in
theorem c_X5_best (l : Launch) (D : va_G) (cy : Nat → ClassId) (L : List Nat) (ad : Nat → Nat) (G : mG) (I : mI) (J : mJ) (hS : rSh L G) (cn cw : Nat) (σ : Ab) (hA : aOk cn cw σ) (hD : rDt cn cw σ I J) (x xn : Int32) : pMet l yX5_best wsX5_best rmX5_best D cy L ad G I J [.ref (ad 64), .int x, .int xn] (qI (fun v I' J' => rst (spBest cw σ x xn) v.toInt64 cn cw I I' J J') D cy L ad G) := by
  refine pMet.ofI (cc := cX5_best) (maxL := 7) (by decide +kernel) rfl (Nat.le_of_ble_eq_true rfl) ?_
  intro p e R s m args below meth c A Q C hml hR hg ret hW ls hl
  subst hR
  have C : Cx p s m args c cX5_best RX5 wsX5_best D cy A := C
  have hx := C.1
  have hb := C.2.1
  have hl : lv_has ls 7 [(0, .ref (ad 64)), (1, .int x), (2, .int xn)] := hl
  have h6 := hA.1
  have h12 := hA.2.1
  refine lv_aload_n hx hb dX5_best_0 rfl (lv_at hl 0 rfl) ?_
  refine lv_iload_n hx hb dX5_best_1 rfl (lv_at hl 1 rfl) ?_
  refine p_cVi C hml hg hW (c_X5_isWalk l D cy L ad G I J hS cw hD.2.1 h12 x) (cwV 1 C.2.2.2.1 gX5_best_X5_isWalk rfl rfl rfl (by decide +kernel) ⟨Nat.le_of_ble_eq_true rfl, Nat.le_of_ble_eq_true rfl⟩) (p_recv C hW (hS.1 64 (by omega) (by omega)) (pF_5 (by decide)) rfl) rfl hl.1 rfl (Nat.le_of_ble_eq_true rfl) dX5_best_2 (Nat.le_of_ble_eq_true rfl) (Nat.le_of_ble_eq_true rfl) (fun v1 I2 J3 H locs hp hW => ?_)
  obtain ⟨hv, hI, hJ⟩ := hp
  subst v1
  subst I2
  subst J3
  refine b_if_eq (tgt := 20) hx hb dX5_best_5 (by decide) (fun hc_4 => ?_) (fun hc_4 => ?_)
  · skip
    rw [if_neg (by rw [hc_4]; decide)] at hW
    have hn1 := is_none hc_4
    refine lv_iconst (v := nI 0) hx hb dX5_best_20 (by decide) ?_
    have hsp : spBest cw σ x xn = (1, 0, σ) := by simp only [spBest, hn1]
    exact ret _ _ _ _ _ _ _ _ _ (Nat.le_of_ble_eq_true rfl) (Nat.le_of_ble_eq_true rfl) hW (rst.thr hsp h12 hD (fun z => absurd z (by decide))) dX5_best_21
  · skip
    rw [if_pos hc_4] at hW
    obtain ⟨j, hj⟩ := Option.isSome_iff_exists.mp hc_4
    obtain ⟨hjc, hxe⟩ := ixN_some hj (by omega)
    subst hxe
    have hD0 := rDt.thr hD h12 0
    obtain ⟨hno, htm, hwv⟩ := hD0.2.2.2.2.1 j hjc
    obtain ⟨hic, ht60, hwo, hus2⟩ := hA.2.2.2 j hjc
    obtain ⟨hpl, hdr, hto, hus, hmk⟩ := hD0.2.2.1 (aNt σ j) hic
    obtain ⟨hp1, hp12, hd4, hpr⟩ := hA.2.2.1 (aNt σ j) hic
    refine lv_aload_n hx hb dX5_best_8 rfl (lv_at hl 0 rfl) ?_
    refine lv_iload_n hx hb dX5_best_9 rfl (lv_at hl 2 rfl) ?_
    refine p_cSi C hml hg hW (c_X5_isMany l D cy L ad G (thr I 0) J xn) (va_cwS 1 C.2.2.2.1 gX5_best_X5_isMany rfl rfl rfl (by decide +kernel) ⟨Nat.le_of_ble_eq_true rfl, Nat.le_of_ble_eq_true rfl⟩) rfl hl.1 rfl (Nat.le_of_ble_eq_true rfl) dX5_best_10 (Nat.le_of_ble_eq_true rfl) (Nat.le_of_ble_eq_true rfl) (fun v5 I6 J7 H locs hp hW => ?_)
    obtain ⟨hv, hI, hJ⟩ := hp
    subst v5
    subst I6
    subst J7
    refine lv_iconst (v := nI 2) hx hb dX5_best_13 (by decide) ?_
    refine p_cVi C hml hg hW (c_X5_right l D cy L ad G (thr I 0) J hS ((ixN xn 61).isSome) 2 0 (thr_0 I 0) (by omega) (by omega)) (cwV 2 C.2.2.2.1 gX5_best_X5_right rfl rfl rfl (by decide +kernel) ⟨Nat.le_of_ble_eq_true rfl, Nat.le_of_ble_eq_true rfl⟩) (p_recv C hW (hS.1 64 (by omega) (by omega)) (pF_5 (by decide)) rfl) rfl hl.1 rfl (Nat.le_of_ble_eq_true rfl) dX5_best_14 (Nat.le_of_ble_eq_true rfl) (Nat.le_of_ble_eq_true rfl) (fun v8 I9 J10 H locs hp hW => ?_)
    obtain ⟨hv, hI, hJ⟩ := hp
    replace hI := hI.trans (thr_thr I 0 _)
    subst v8
    subst I9
    subst J10
    refine b_if_ne (tgt := 22) hx hb dX5_best_17 (by decide) (fun hc_11 => ?_) (fun hc_11 => ?_)
    · skip
      have hr1 : (ixN xn 61).isSome = true := rt_yes (by decide) hc_11
      rw [if_neg (fun z => by rw [hr1] at z; cases z.2)] at hW
      obtain ⟨k, hk⟩ := Option.isSome_iff_exists.mp hr1
      obtain ⟨hkl, hx3⟩ := ixN_some hk (by omega)
      subst hx3
      refine lv_aload_n hx hb dX5_best_22 rfl (lv_at hl 0 rfl) ?_
      refine lv_iload_n hx hb dX5_best_23 rfl (lv_at hl 1 rfl) ?_
      refine p_cVl C hml hg hW (c_X5_weight l D cy L ad G (thr I 0) J hS j (by omega) (aWv σ j) hwv) (cwV 1 C.2.2.2.1 gX5_best_X5_weight rfl rfl rfl (by decide +kernel) ⟨Nat.le_of_ble_eq_true rfl, Nat.le_of_ble_eq_true rfl⟩) (p_recv C hW (hS.1 64 (by omega) (by omega)) (pF_5 (by decide)) rfl) rfl hl.1 rfl (Nat.le_of_ble_eq_true rfl) dX5_best_24 (Nat.le_of_ble_eq_true rfl) (Nat.le_of_ble_eq_true rfl) (fun v12 I13 J14 H locs hp hW => ?_)
      obtain ⟨hv, hI, hJ⟩ := hp
      subst v12
      subst I13
      subst J14
      refine lv_lconst (v := 0) hx hb dX5_best_27 (by decide) ?_
      refine l_ne (tgt := 34) hx hb dX5_best_28 dX5_best_29 (by decide) (fun hc_15 => ?_) (fun hc_15 => ?_)
      · skip
        have hnz := hc_15
        refine lv_aload_n hx hb dX5_best_34 rfl (lv_at hl 0 rfl) ?_
        refine lv_iload_n hx hb dX5_best_35 rfl (lv_at hl 1 rfl) ?_
        refine lv_bipush (v := nI 12) hx hb dX5_best_36 (by decide) ?_
        refine p_cVv C hml hg hW (c_X5_copies l D cy L ad G (thr I 0) J hS j 12 (by omega) (by omega) (aWv σ j) hwv) (cwV 2 C.2.2.2.1 gX5_best_X5_copies rfl rfl rfl (by decide +kernel) ⟨Nat.le_of_ble_eq_true rfl, Nat.le_of_ble_eq_true rfl⟩) (p_recv C hW (hS.1 64 (by omega) (by omega)) (pF_5 (by decide)) rfl) rfl hl.1 rfl (Nat.le_of_ble_eq_true rfl) dX5_best_38 (Nat.le_of_ble_eq_true rfl) (Nat.le_of_ble_eq_true rfl) (fun I16 J17 H locs hp hW => ?_)
        obtain ⟨hI, hB⟩ := hp
        have hP := rCp.init hA hD hjc hI hB
        clear hI hB
        refine lv_iconst (v := nI 0) hx hb dX5_best_41 (by decide) ?_
        refine lv_istore_n (lv' := [(3, .int (nI 0)), (0, .ref (ad 64)), (1, .int (nI j)), (2, .int (nI k))]) hx hb dX5_best_42 rfl hl (by decide) rfl (fun ls hl => ?_)
        refine lv_aload_n hx hb dX5_best_43 rfl (lv_at hl 1 rfl) ?_
        refine lv_bipush (v := nI 12) hx hb dX5_best_44 (by decide) ?_
        obtain ⟨cpl, cdr, cto, -, cmk⟩ := hP.2.1.2.2.1 _ hic
        refine p_cVl C hml hg hW (c_X5_marked l D cy L ad G I16 J17 hS 12 (by omega) (wv σ j 0) hP.2.2.2.2.2.1 (aNt σ j) (aPl σ (aNt σ j)) hP.2.2.2.1 (by omega) cpl hp12 (aMk σ (aNt σ j)) cmk) (cwV 1 C.2.2.2.1 gX5_best_X5_marked rfl rfl rfl (by decide +kernel) ⟨Nat.le_of_ble_eq_true rfl, Nat.le_of_ble_eq_true rfl⟩) (p_recv C hW (hS.1 64 (by omega) (by omega)) (pF_5 (by decide)) rfl) rfl hl.1 rfl (Nat.le_of_ble_eq_true rfl) dX5_best_46 (Nat.le_of_ble_eq_true rfl) (Nat.le_of_ble_eq_true rfl) (fun v18 I19 J20 H locs hp hW => ?_)
        obtain ⟨hv, hI, hJ⟩ := hp
        subst v18
        subst I19
        subst J20
        refine lv_lstore (lv' := [(4, .long (sqM (wv σ j 0) (aMk σ (aNt σ j)) (aPl σ (aNt σ j)))), (3, .int (nI 0)), (0, .ref (ad 64)), (1, .int (nI j)), (2, .int (nI k))]) hx hb dX5_best_49 hl (by decide) rfl (fun ls hl => ?_)
        refine lv_iconst (v := nI 1) hx hb dX5_best_51 (by decide) ?_
        refine lv_istore (lv' := [(6, .int (nI 1)), (4, .long (sqM (wv σ j 0) (aMk σ (aNt σ j)) (aPl σ (aNt σ j)))), (3, .int (nI 0)), (0, .ref (ad 64)), (1, .int (nI j)), (2, .int (nI k))]) hx hb dX5_best_52 hl (by decide) rfl (fun ls hl => ?_)
        have lp54 : ∀ (nn : Nat) (d : Nat) (Ia : mI) (Ja : mJ), (d ≤ k) → (k + 1 ≤ d + nn) → (rCp cn cw σ j I Ia J Ja d) → ∀ (H : Heap) (locs : List Loc), Wd D cy A s.heap H locs L ad G Ia Ja → ∀ (ls : Array Slot), lv_has ls 7 [(0, .ref (ad 64)), (1, .int (nI j)), (2, .int (nI k)), (3, .int (nI ((bstF (stp σ (aNt σ j)) (aWv σ j) (aMk σ (aNt σ j)) (aPl σ (aNt σ j)) (scOf (aDr σ (aNt σ j))) d).1))), (4, .long ((bstF (stp σ (aNt σ j)) (aWv σ j) (aMk σ (aNt σ j)) (aPl σ (aNt σ j)) (scOf (aDr σ (aNt σ j))) d).2)), (6, .int (nI (d + 1)))] → W p l e rmX5_best s m args below meth c H locs 0 0 Q (F0 m 54 ls []) := by
          intro nn
          induction nn with
          | zero => intros; exfalso; omega
          | succ nn ih54 =>
            intro d Ia Ja hd hfu hP H locs hW ls hl
            refine lv_iload hx hb dX5_best_54 (lv_at hl 5 rfl) ?_
            refine lv_iload_n hx hb dX5_best_56 rfl (lv_at hl 2 rfl) ?_
            refine n_icmp_gt (tgt := 118) hx hb (by omega) (by omega) dX5_best_57 (by decide) (fun hc_21 => ?_) (fun hc_21 => ?_)
            · skip
              have hbl2 := bst_le (stp σ (aNt σ j)) (aWv σ j) (aMk σ (aNt σ j)) (aPl σ (aNt σ j)) (scOf (aDr σ (aNt σ j))) d
              have hle := hP.le
              have hmn : min k (lf σ j) = d := by omega
              refine lv_iload_n hx hb dX5_best_118 rfl (lv_at hl 3 rfl) ?_
              have hsp : spBest cw σ (nI j) (nI k) = (0, lN (bstF (stp σ (aNt σ j)) (aWv σ j) (aMk σ (aNt σ j)) (aPl σ (aNt σ j)) (scOf (aDr σ (aNt σ j))) d).1, σ) := by simp only [spBest, hj, hk, bstA, hmn]; rw [if_neg hnz]
              exact ret _ _ _ _ _ _ _ _ _ (Nat.le_of_ble_eq_true rfl) (Nat.le_of_ble_eq_true rfl) hW (rst.to hsp (nI_l (by omega)).symm hP.1 hP.2.1 hP.2.2.1) dX5_best_119
            · skip
              have hbl := bst_le (stp σ (aNt σ j)) (aWv σ j) (aMk σ (aNt σ j)) (aPl σ (aNt σ j)) (scOf (aDr σ (aNt σ j))) d
              refine lv_aload_n hx hb dX5_best_60 rfl (lv_at hl 0 rfl) ?_
              refine lv_bipush (v := nI 12) hx hb dX5_best_61 (by decide) ?_
              obtain ⟨cpl, cdr, cto, -, cmk⟩ := hP.2.1.2.2.1 _ hic
              refine p_cVi C hml hg hW (c_X5_goesOn l D cy L ad G Ia Ja hS 12 (by omega) (wv σ j d) hP.2.2.2.2.2.1 (aNt σ j) (aDr σ (aNt σ j)) hP.2.2.2.1 (by omega) cdr hd4 (aTm σ j + d) hP.2.2.2.2.1 hP.2.2.2.2.2.2.2.1) (cwV 1 C.2.2.2.1 gX5_best_X5_goesOn rfl rfl rfl (by decide +kernel) ⟨Nat.le_of_ble_eq_true rfl, Nat.le_of_ble_eq_true rfl⟩) (p_recv C hW (hS.1 64 (by omega) (by omega)) (pF_5 (by decide)) rfl) rfl hl.1 rfl (Nat.le_of_ble_eq_true rfl) dX5_best_63 (Nat.le_of_ble_eq_true rfl) (Nat.le_of_ble_eq_true rfl) (fun v22 I23 J24 H locs hp hW => ?_)
              obtain ⟨hv, hI, hJ⟩ := hp
              subst v22
              subst I23
              subst J24
              refine b_if_eq (tgt := 118) hx hb dX5_best_66 (by decide) (fun hc_25 => ?_) (fun hc_25 => ?_)
              · skip
                have hlf := hP.off (of_decide_eq_false hc_25)
                have hbl2 := bst_le (stp σ (aNt σ j)) (aWv σ j) (aMk σ (aNt σ j)) (aPl σ (aNt σ j)) (scOf (aDr σ (aNt σ j))) d
                have hle := hP.le
                have hmn : min k (lf σ j) = d := by omega
                refine lv_iload_n hx hb dX5_best_118 rfl (lv_at hl 3 rfl) ?_
                have hsp : spBest cw σ (nI j) (nI k) = (0, lN (bstF (stp σ (aNt σ j)) (aWv σ j) (aMk σ (aNt σ j)) (aPl σ (aNt σ j)) (scOf (aDr σ (aNt σ j))) d).1, σ) := by simp only [spBest, hj, hk, bstA, hmn]; rw [if_neg hnz]
                exact ret _ _ _ _ _ _ _ _ _ (Nat.le_of_ble_eq_true rfl) (Nat.le_of_ble_eq_true rfl) hW (rst.to hsp (nI_l (by omega)).symm hP.1 hP.2.1 hP.2.2.1) dX5_best_119
              · skip
                have hgo := of_decide_eq_true hc_25
                refine lv_aload_n hx hb dX5_best_69 rfl (lv_at hl 0 rfl) ?_
                refine lv_bipush (v := nI 12) hx hb dX5_best_70 (by decide) ?_
                refine p_cVv C hml hg hW (c_X5_steps l D cy L ad G Ia Ja hS 12 (by omega) (wv σ j d) hP.2.2.2.2.2.1 (aNt σ j) (aPl σ (aNt σ j)) (aDr σ (aNt σ j)) (aTm σ j + d) hP.2.2.2.1 (by omega) cpl hp12 cdr hd4 (aMk σ (aNt σ j)) cmk (aTo σ (aNt σ j)) cto (fun c hc => (hpr c hc).1) hP.2.2.2.2.1) (cwV 1 C.2.2.2.1 gX5_best_X5_steps rfl rfl rfl (by decide +kernel) ⟨Nat.le_of_ble_eq_true rfl, Nat.le_of_ble_eq_true rfl⟩) (p_recv C hW (hS.1 64 (by omega) (by omega)) (pF_5 (by decide)) rfl) rfl hl.1 rfl (Nat.le_of_ble_eq_true rfl) dX5_best_72 (Nat.le_of_ble_eq_true rfl) (Nat.le_of_ble_eq_true rfl) (fun I26 J27 H locs hp hW => ?_)
                obtain ⟨hI, hB⟩ := hp
                have hP := hP.on hA hjc hgo hI hB
                clear hI hB
                refine lv_lload hx hb dX5_best_75 (lv_at hl 4 rfl) ?_
                refine lv_aload_n hx hb dX5_best_77 rfl (lv_at hl 0 rfl) ?_
                refine lv_iload_n hx hb dX5_best_78 rfl (lv_at hl 1 rfl) ?_
                obtain ⟨cpl, cdr, cto, -, cmk⟩ := hP.2.1.2.2.1 _ hic
                obtain ⟨cno, -, -⟩ := hP.2.1.2.2.2.2.1 j hjc
                refine p_cVi C hml hg hW (c_X5_scale l D cy L ad G I26 J27 hS j (aNt σ j) (aDr σ (aNt σ j)) (by omega) cno (by omega) cdr hd4) (cwV 1 C.2.2.2.1 gX5_best_X5_scale rfl rfl rfl (by decide +kernel) ⟨Nat.le_of_ble_eq_true rfl, Nat.le_of_ble_eq_true rfl⟩) (p_recv C hW (hS.1 64 (by omega) (by omega)) (pF_5 (by decide)) rfl) rfl hl.1 rfl (Nat.le_of_ble_eq_true rfl) dX5_best_79 (Nat.le_of_ble_eq_true rfl) (Nat.le_of_ble_eq_true rfl) (fun v28 I29 J30 H locs hp hW => ?_)
                obtain ⟨hv, hI, hJ⟩ := hp
                subst v28
                subst I29
                subst J30
                refine lv_i2l (v := scOf (aDr σ (aNt σ j))) hx hb dX5_best_82 (sc_l hd4) ?_
                refine lv_lmul hx hb dX5_best_83 ?_
                refine lv_lstore (lv' := [(4, .long (((bstF (stp σ (aNt σ j)) (aWv σ j) (aMk σ (aNt σ j)) (aPl σ (aNt σ j)) (scOf (aDr σ (aNt σ j))) d).2) * (scOf (aDr σ (aNt σ j))))), (0, .ref (ad 64)), (1, .int (nI j)), (2, .int (nI k)), (3, .int (nI ((bstF (stp σ (aNt σ j)) (aWv σ j) (aMk σ (aNt σ j)) (aPl σ (aNt σ j)) (scOf (aDr σ (aNt σ j))) d).1))), (6, .int (nI (d + 1)))]) hx hb dX5_best_84 hl (by decide) rfl (fun ls hl => ?_)
                refine lv_aload_n hx hb dX5_best_86 rfl (lv_at hl 1 rfl) ?_
                refine lv_bipush (v := nI 12) hx hb dX5_best_87 (by decide) ?_
                obtain ⟨cpl, cdr, cto, -, cmk⟩ := hP.2.1.2.2.1 _ hic
                refine p_cVl C hml hg hW (c_X5_marked l D cy L ad G I26 J27 hS 12 (by omega) (wv σ j (d + 1)) hP.2.2.2.2.2.1 (aNt σ j) (aPl σ (aNt σ j)) hP.2.2.2.1 (by omega) cpl hp12 (aMk σ (aNt σ j)) cmk) (cwV 1 C.2.2.2.1 gX5_best_X5_marked rfl rfl rfl (by decide +kernel) ⟨Nat.le_of_ble_eq_true rfl, Nat.le_of_ble_eq_true rfl⟩) (p_recv C hW (hS.1 64 (by omega) (by omega)) (pF_5 (by decide)) rfl) rfl hl.1 rfl (Nat.le_of_ble_eq_true rfl) dX5_best_89 (Nat.le_of_ble_eq_true rfl) (Nat.le_of_ble_eq_true rfl) (fun v31 I32 J33 H locs hp hW => ?_)
                obtain ⟨hv, hI, hJ⟩ := hp
                subst v31
                subst I32
                subst J33
                refine lv_lload hx hb dX5_best_92 (lv_at hl 0 rfl) ?_
                refine l_gt (tgt := 101) hx hb dX5_best_94 dX5_best_95 (by decide) (fun hc_34 => ?_) (fun hc_34 => ?_)
                · skip
                  refine lv_aload_n hx hb dX5_best_101 rfl (lv_at hl 1 rfl) ?_
                  refine lv_bipush (v := nI 12) hx hb dX5_best_102 (by decide) ?_
                  obtain ⟨cpl, cdr, cto, -, cmk⟩ := hP.2.1.2.2.1 _ hic
                  refine p_cVl C hml hg hW (c_X5_marked l D cy L ad G I26 J27 hS 12 (by omega) (wv σ j (d + 1)) hP.2.2.2.2.2.1 (aNt σ j) (aPl σ (aNt σ j)) hP.2.2.2.1 (by omega) cpl hp12 (aMk σ (aNt σ j)) cmk) (cwV 1 C.2.2.2.1 gX5_best_X5_marked rfl rfl rfl (by decide +kernel) ⟨Nat.le_of_ble_eq_true rfl, Nat.le_of_ble_eq_true rfl⟩) (p_recv C hW (hS.1 64 (by omega) (by omega)) (pF_5 (by decide)) rfl) rfl hl.1 rfl (Nat.le_of_ble_eq_true rfl) dX5_best_104 (Nat.le_of_ble_eq_true rfl) (Nat.le_of_ble_eq_true rfl) (fun v35 I36 J37 H locs hp hW => ?_)
                  obtain ⟨hv, hI, hJ⟩ := hp
                  subst v35
                  subst I36
                  subst J37
                  refine lv_lstore (lv' := [(4, .long (sqM (wv σ j (d + 1)) (aMk σ (aNt σ j)) (aPl σ (aNt σ j)))), (0, .ref (ad 64)), (1, .int (nI j)), (2, .int (nI k)), (3, .int (nI ((bstF (stp σ (aNt σ j)) (aWv σ j) (aMk σ (aNt σ j)) (aPl σ (aNt σ j)) (scOf (aDr σ (aNt σ j))) d).1))), (6, .int (nI (d + 1)))]) hx hb dX5_best_107 hl (by decide) rfl (fun ls hl => ?_)
                  refine lv_iload hx hb dX5_best_109 (lv_at hl 5 rfl) ?_
                  refine lv_istore_n (lv' := [(3, .int (nI (d + 1))), (4, .long (sqM (wv σ j (d + 1)) (aMk σ (aNt σ j)) (aPl σ (aNt σ j)))), (0, .ref (ad 64)), (1, .int (nI j)), (2, .int (nI k)), (6, .int (nI (d + 1)))]) hx hb dX5_best_111 rfl hl (by decide) rfl (fun ls hl => ?_)
                  refine lv_iinc (v := nI ((d + 1) + 1)) (lv' := [(6, .int (nI ((d + 1) + 1))), (3, .int (nI (d + 1))), (4, .long (sqM (wv σ j (d + 1)) (aMk σ (aNt σ j)) (aPl σ (aNt σ j)))), (0, .ref (ad 64)), (1, .int (nI j)), (2, .int (nI k))]) hx hb dX5_best_112 hl (k := 5) rfl (nI_inc _) (by decide) rfl (fun ls hl => ?_)
                  refine lv_goto (tgt := 54) hx hb dX5_best_115 (by decide) ?_
                  have eb : bstF (stp σ (aNt σ j)) (aWv σ j) (aMk σ (aNt σ j)) (aPl σ (aNt σ j)) (scOf (aDr σ (aNt σ j))) (d + 1) = (d + 1, sqM (wv σ j (d + 1)) (aMk σ (aNt σ j)) (aPl σ (aNt σ j))) := by rw [bstF]; exact if_pos hc_34
                  have hl : lv_has ls 7 [(6, .int (nI ((d + 1) + 1))), (3, .int (nI ((bstF (stp σ (aNt σ j)) (aWv σ j) (aMk σ (aNt σ j)) (aPl σ (aNt σ j)) (scOf (aDr σ (aNt σ j))) (d + 1)).1))), (4, .long ((bstF (stp σ (aNt σ j)) (aWv σ j) (aMk σ (aNt σ j)) (aPl σ (aNt σ j)) (scOf (aDr σ (aNt σ j))) (d + 1)).2)), (0, .ref (ad 64)), (1, .int (nI j)), (2, .int (nI k))] := by rw [eb]; exact hl
                  exact ih54 (d + 1) I26 J27 (by omega) (by omega) hP _ _ hW ls (lv_sub hl [3, 4, 5, 1, 2, 0] rfl)
                · skip
                  refine lv_goto (tgt := 112) hx hb dX5_best_98 (by decide) ?_
                  refine lv_iinc (v := nI ((d + 1) + 1)) (lv' := [(6, .int (nI ((d + 1) + 1))), (4, .long (((bstF (stp σ (aNt σ j)) (aWv σ j) (aMk σ (aNt σ j)) (aPl σ (aNt σ j)) (scOf (aDr σ (aNt σ j))) d).2) * (scOf (aDr σ (aNt σ j))))), (0, .ref (ad 64)), (1, .int (nI j)), (2, .int (nI k)), (3, .int (nI ((bstF (stp σ (aNt σ j)) (aWv σ j) (aMk σ (aNt σ j)) (aPl σ (aNt σ j)) (scOf (aDr σ (aNt σ j))) d).1)))]) hx hb dX5_best_112 hl (k := 5) rfl (nI_inc _) (by decide) rfl (fun ls hl => ?_)
                  refine lv_goto (tgt := 54) hx hb dX5_best_115 (by decide) ?_
                  have eb : bstF (stp σ (aNt σ j)) (aWv σ j) (aMk σ (aNt σ j)) (aPl σ (aNt σ j)) (scOf (aDr σ (aNt σ j))) (d + 1) = ((bstF (stp σ (aNt σ j)) (aWv σ j) (aMk σ (aNt σ j)) (aPl σ (aNt σ j)) (scOf (aDr σ (aNt σ j))) d).1, (bstF (stp σ (aNt σ j)) (aWv σ j) (aMk σ (aNt σ j)) (aPl σ (aNt σ j)) (scOf (aDr σ (aNt σ j))) d).2 * scOf (aDr σ (aNt σ j))) := by rw [bstF]; exact if_neg hc_34
                  have hl : lv_has ls 7 [(6, .int (nI ((d + 1) + 1))), (4, .long ((bstF (stp σ (aNt σ j)) (aWv σ j) (aMk σ (aNt σ j)) (aPl σ (aNt σ j)) (scOf (aDr σ (aNt σ j))) (d + 1)).2)), (0, .ref (ad 64)), (1, .int (nI j)), (2, .int (nI k)), (3, .int (nI ((bstF (stp σ (aNt σ j)) (aWv σ j) (aMk σ (aNt σ j)) (aPl σ (aNt σ j)) (scOf (aDr σ (aNt σ j))) (d + 1)).1)))] := by rw [eb]; exact hl
                  exact ih54 (d + 1) I26 J27 (by omega) (by omega) hP _ _ hW ls (lv_sub hl [2, 3, 4, 5, 1, 0] rfl)
        have hl : lv_has ls 7 [(6, .int (nI (0 + 1))), (4, .long ((bstF (stp σ (aNt σ j)) (aWv σ j) (aMk σ (aNt σ j)) (aPl σ (aNt σ j)) (scOf (aDr σ (aNt σ j))) 0).2)), (3, .int (nI ((bstF (stp σ (aNt σ j)) (aWv σ j) (aMk σ (aNt σ j)) (aPl σ (aNt σ j)) (scOf (aDr σ (aNt σ j))) 0).1))), (0, .ref (ad 64)), (1, .int (nI j)), (2, .int (nI k))] := hl
        exact lp54 (k + 1) 0 I16 J17 (by omega) (by omega) hP _ _ hW ls (lv_sub hl [3, 4, 5, 2, 1, 0] rfl)
      · skip
        refine lv_iconst (v := (-1)) hx hb dX5_best_32 (by decide) ?_
        have hsp : spBest cw σ (nI j) (nI k) = (0, -1, σ) := by simp only [spBest, hj, hk]; rw [if_pos hc_15]
        exact ret _ _ _ _ _ _ _ _ _ (Nat.le_of_ble_eq_true rfl) (Nat.le_of_ble_eq_true rfl) hW (rst.thr hsp h12 hD (fun _ => by decide)) dX5_best_33
    · skip
      have hr0 : (ixN xn 61).isSome = false := rt_no hc_11
      rw [if_pos ⟨rfl, hr0⟩] at hW
      have hn3 := is_none hr0
      refine lv_iconst (v := nI 0) hx hb dX5_best_20 (by decide) ?_
      have hsp : spBest cw σ (nI j) xn = (2, 0, σ) := by simp only [spBest, hj, hn3]
      exact ret _ _ _ _ _ _ _ _ _ (Nat.le_of_ble_eq_true rfl) (Nat.le_of_ble_eq_true rfl) hW (rst.thr hsp h12 hD (fun z => absurd z (by decide))) dX5_best_21
abbrev rmX5_mean : Room := { frames := 4, cells := 0, slots := 0, locals := 140 }
set_option maxHeartbeats 4000000 in
set_option maxRecDepth 100000 in
theorem c_X5_mean (l : Launch) (D : va_G) (cy : Nat → ClassId) (L : List Nat) (ad : Nat → Nat) (G : mG) (I : mI) (J : mJ) (hS : rSh L G) (cn cw : Nat) (σ : Ab) (hA : aOk cn cw σ) (hD : rDt cn cw σ I J) (x xp xn : Int32) : pMet l yX5_mean wsX5_mean rmX5_mean D cy L ad G I J [.ref (ad 64), .int x, .int xp, .int xn] (qL (fun v I' J' => rst (spMean cw σ x xp xn) v cn cw I I' J J') D cy L ad G) := by
  refine pMet.ofL (cc := cX5_mean) (maxL := 10) (by decide +kernel) rfl (Nat.le_of_ble_eq_true rfl) ?_
  intro p e R s m args below meth c A Q C hml hR hg ret hW ls hl
  subst hR
  have C : Cx p s m args c cX5_mean RX5 wsX5_mean D cy A := C
  have hx := C.1
  have hb := C.2.1
  have ck97 := C.2.2.2.1 (.constantLong RX5 97 (4611686018427387904)) (by decide +kernel)
  have ck139 := C.2.2.2.1 (.constantLong RX5 139 (-1)) (by decide +kernel)
  have hl : lv_has ls 10 [(0, .ref (ad 64)), (1, .int x), (2, .int xp), (3, .int xn)] := hl
  have h6 := hA.1
  have h12 := hA.2.1
  refine lv_aload_n hx hb dX5_mean_0 rfl (lv_at hl 0 rfl) ?_
  refine lv_iload_n hx hb dX5_mean_1 rfl (lv_at hl 1 rfl) ?_
  refine p_cVi C hml hg hW (c_X5_isWalk l D cy L ad G I J hS cw hD.2.1 h12 x) (cwV 1 C.2.2.2.1 gX5_mean_X5_isWalk rfl rfl rfl (by decide +kernel) ⟨Nat.le_of_ble_eq_true rfl, Nat.le_of_ble_eq_true rfl⟩) (p_recv C hW (hS.1 64 (by omega) (by omega)) (pF_5 (by decide)) rfl) rfl hl.1 rfl (Nat.le_of_ble_eq_true rfl) dX5_mean_2 (Nat.le_of_ble_eq_true rfl) (Nat.le_of_ble_eq_true rfl) (fun v1 I2 J3 H locs hp hW => ?_)
  obtain ⟨hv, hI, hJ⟩ := hp
  subst v1
  subst I2
  subst J3
  refine b_if_eq (tgt := 29) hx hb dX5_mean_5 (by decide) (fun hc_4 => ?_) (fun hc_4 => ?_)
  · skip
    rw [if_neg (by rw [hc_4]; decide)] at hW
    have hn1 := is_none hc_4
    refine lv_lconst (v := 0) hx hb dX5_mean_29 (by decide) ?_
    have hsp : spMean cw σ x xp xn = (1, 0, σ) := by simp only [spMean, hn1]
    exact ret _ _ _ _ _ _ _ _ _ (Nat.le_of_ble_eq_true rfl) (Nat.le_of_ble_eq_true rfl) hW (rst.thr hsp h12 hD (fun z => absurd z (by decide))) dX5_mean_30
  · skip
    rw [if_pos hc_4] at hW
    obtain ⟨j, hj⟩ := Option.isSome_iff_exists.mp hc_4
    obtain ⟨hjc, hxe⟩ := ixN_some hj (by omega)
    subst hxe
    have hD0 := rDt.thr hD h12 0
    obtain ⟨hno, htm, hwv⟩ := hD0.2.2.2.2.1 j hjc
    obtain ⟨hic, ht60, hwo, hus2⟩ := hA.2.2.2 j hjc
    obtain ⟨hpl, hdr, hto, hus, hmk⟩ := hD0.2.2.1 (aNt σ j) hic
    obtain ⟨hp1, hp12, hd4, hpr⟩ := hA.2.2.1 (aNt σ j) hic
    refine lv_aload_n hx hb dX5_mean_8 rfl (lv_at hl 0 rfl) ?_
    refine lv_iload_n hx hb dX5_mean_9 rfl (lv_at hl 1 rfl) ?_
    refine lv_iload_n hx hb dX5_mean_10 rfl (lv_at hl 2 rfl) ?_
    refine p_cVi C hml hg hW (c_X5_isIn l D cy L ad G (thr I 0) J hS j (aNt σ j) (aPl σ (aNt σ j)) (by omega) hno (by omega) hpl hp12 (thr_0 I 0) xp) (cwV 2 C.2.2.2.1 gX5_mean_X5_isIn rfl rfl rfl (by decide +kernel) ⟨Nat.le_of_ble_eq_true rfl, Nat.le_of_ble_eq_true rfl⟩) (p_recv C hW (hS.1 64 (by omega) (by omega)) (pF_5 (by decide)) rfl) rfl hl.1 rfl (Nat.le_of_ble_eq_true rfl) dX5_mean_11 (Nat.le_of_ble_eq_true rfl) (Nat.le_of_ble_eq_true rfl) (fun v5 I6 J7 H locs hp hW => ?_)
    obtain ⟨hv, hI, hJ⟩ := hp
    replace hI := hI.trans (thr_thr I 0 _)
    subst v5
    subst I6
    subst J7
    refine b_if_eq (tgt := 29) hx hb dX5_mean_14 (by decide) (fun hc_8 => ?_) (fun hc_8 => ?_)
    · skip
      rw [if_neg (by rw [hc_8]; decide)] at hW
      have hn2 := is_none hc_8
      refine lv_lconst (v := 0) hx hb dX5_mean_29 (by decide) ?_
      have hsp : spMean cw σ (nI j) xp xn = (1, 0, σ) := by simp only [spMean, hj, hn2]
      exact ret _ _ _ _ _ _ _ _ _ (Nat.le_of_ble_eq_true rfl) (Nat.le_of_ble_eq_true rfl) hW (rst.thr hsp h12 hD (fun z => absurd z (by decide))) dX5_mean_30
    · skip
      rw [if_pos hc_8] at hW
      obtain ⟨q, hq⟩ := Option.isSome_iff_exists.mp hc_8
      obtain ⟨hql, hx1⟩ := ixN_some hq (by omega)
      subst hx1
      refine lv_aload_n hx hb dX5_mean_17 rfl (lv_at hl 0 rfl) ?_
      refine lv_iload_n hx hb dX5_mean_18 rfl (lv_at hl 3 rfl) ?_
      refine p_cSi C hml hg hW (c_X5_isMany l D cy L ad G (thr I 0) J xn) (va_cwS 1 C.2.2.2.1 gX5_mean_X5_isMany rfl rfl rfl (by decide +kernel) ⟨Nat.le_of_ble_eq_true rfl, Nat.le_of_ble_eq_true rfl⟩) rfl hl.1 rfl (Nat.le_of_ble_eq_true rfl) dX5_mean_19 (Nat.le_of_ble_eq_true rfl) (Nat.le_of_ble_eq_true rfl) (fun v9 I10 J11 H locs hp hW => ?_)
      obtain ⟨hv, hI, hJ⟩ := hp
      subst v9
      subst I10
      subst J11
      refine lv_iconst (v := nI 2) hx hb dX5_mean_22 (by decide) ?_
      refine p_cVi C hml hg hW (c_X5_right l D cy L ad G (thr I 0) J hS ((ixN xn 61).isSome) 2 0 (thr_0 I 0) (by omega) (by omega)) (cwV 2 C.2.2.2.1 gX5_mean_X5_right rfl rfl rfl (by decide +kernel) ⟨Nat.le_of_ble_eq_true rfl, Nat.le_of_ble_eq_true rfl⟩) (p_recv C hW (hS.1 64 (by omega) (by omega)) (pF_5 (by decide)) rfl) rfl hl.1 rfl (Nat.le_of_ble_eq_true rfl) dX5_mean_23 (Nat.le_of_ble_eq_true rfl) (Nat.le_of_ble_eq_true rfl) (fun v12 I13 J14 H locs hp hW => ?_)
      obtain ⟨hv, hI, hJ⟩ := hp
      replace hI := hI.trans (thr_thr I 0 _)
      subst v12
      subst I13
      subst J14
      refine b_if_ne (tgt := 31) hx hb dX5_mean_26 (by decide) (fun hc_15 => ?_) (fun hc_15 => ?_)
      · skip
        have hr1 : (ixN xn 61).isSome = true := rt_yes (by decide) hc_15
        rw [if_neg (fun z => by rw [hr1] at z; cases z.2)] at hW
        obtain ⟨k, hk⟩ := Option.isSome_iff_exists.mp hr1
        obtain ⟨hkl, hx3⟩ := ixN_some hk (by omega)
        subst hx3
        refine lv_aload_n hx hb dX5_mean_31 rfl (lv_at hl 0 rfl) ?_
        refine lv_iload_n hx hb dX5_mean_32 rfl (lv_at hl 1 rfl) ?_
        refine lv_bipush (v := nI 12) hx hb dX5_mean_33 (by decide) ?_
        refine p_cVv C hml hg hW (c_X5_copies l D cy L ad G (thr I 0) J hS j 12 (by omega) (by omega) (aWv σ j) hwv) (cwV 2 C.2.2.2.1 gX5_mean_X5_copies rfl rfl rfl (by decide +kernel) ⟨Nat.le_of_ble_eq_true rfl, Nat.le_of_ble_eq_true rfl⟩) (p_recv C hW (hS.1 64 (by omega) (by omega)) (pF_5 (by decide)) rfl) rfl hl.1 rfl (Nat.le_of_ble_eq_true rfl) dX5_mean_35 (Nat.le_of_ble_eq_true rfl) (Nat.le_of_ble_eq_true rfl) (fun I16 J17 H locs hp hW => ?_)
        obtain ⟨hI, hB⟩ := hp
        have hP := rCp.init hA hD hjc hI hB
        clear hI hB
        refine lv_aload_n hx hb dX5_mean_38 rfl (lv_at hl 0 rfl) ?_
        refine lv_bipush (v := nI 12) hx hb dX5_mean_39 (by decide) ?_
        refine lv_iload_n hx hb dX5_mean_41 rfl (lv_at hl 2 rfl) ?_
        refine p_cVl C hml hg hW (c_X5_shareOf l D cy L ad G I16 J17 hS 12 (by omega) (wv σ j 0) hP.2.2.2.2.2.1 q (by omega)) (cwV 2 C.2.2.2.1 gX5_mean_X5_shareOf rfl rfl rfl (by decide +kernel) ⟨Nat.le_of_ble_eq_true rfl, Nat.le_of_ble_eq_true rfl⟩) (p_recv C hW (hS.1 64 (by omega) (by omega)) (pF_5 (by decide)) rfl) rfl hl.1 rfl (Nat.le_of_ble_eq_true rfl) dX5_mean_42 (Nat.le_of_ble_eq_true rfl) (Nat.le_of_ble_eq_true rfl) (fun v18 I19 J20 H locs hp hW => ?_)
        obtain ⟨hv, hI, hJ⟩ := hp
        subst v18
        subst I19
        subst J20
        refine lv_lstore (lv' := [(4, .long (sqAt (wv σ j 0) q)), (0, .ref (ad 64)), (1, .int (nI j)), (2, .int (nI q)), (3, .int (nI k))]) hx hb dX5_mean_45 hl (by decide) rfl (fun ls hl => ?_)
        refine lv_iconst (v := nI 0) hx hb dX5_mean_47 (by decide) ?_
        refine w_top (y := .int (bI false)) rfl ?_
        refine lv_istore (lv' := [(6, .int (bI false)), (4, .long (sqAt (wv σ j 0) q)), (0, .ref (ad 64)), (1, .int (nI j)), (2, .int (nI q)), (3, .int (nI k))]) hx hb dX5_mean_48 hl (by decide) rfl (fun ls hl => ?_)
        refine lv_iconst (v := nI 1) hx hb dX5_mean_50 (by decide) ?_
        refine lv_istore (lv' := [(7, .int (nI 1)), (6, .int (bI false)), (4, .long (sqAt (wv σ j 0) q)), (0, .ref (ad 64)), (1, .int (nI j)), (2, .int (nI q)), (3, .int (nI k))]) hx hb dX5_mean_51 hl (by decide) rfl (fun ls hl => ?_)
        have lp53 : ∀ (nn : Nat) (d : Nat) (mu : Bool) (z : Int64) (Ia : mI) (Ja : mJ), (d ≤ k) → (k + 1 ≤ d + nn) → (rCp cn cw σ j I Ia J Ja d) → ((mu = true ∧ menF (stp σ (aNt σ j)) (aWv σ j) q (hvOf (aDr σ (aNt σ j))) (scOf (aDr σ (aNt σ j))) d = none) ∨ (mu = false ∧ menF (stp σ (aNt σ j)) (aWv σ j) q (hvOf (aDr σ (aNt σ j))) (scOf (aDr σ (aNt σ j))) d = some z ∧ 0 ≤ (z).toInt)) → ∀ (H : Heap) (locs : List Loc), Wd D cy A s.heap H locs L ad G Ia Ja → ∀ (ls : Array Slot), lv_has ls 10 [(0, .ref (ad 64)), (1, .int (nI j)), (2, .int (nI q)), (3, .int (nI k)), (4, .long z), (6, .int (bI mu)), (7, .int (nI (d + 1)))] → W p l e rmX5_mean s m args below meth c H locs 0 0 Q (F0 m 53 ls []) := by
          intro nn
          induction nn with
          | zero => intros; exfalso; omega
          | succ nn ih53 =>
            intro d mu z Ia Ja hd hfu hP hIn H locs hW ls hl
            refine lv_iload hx hb dX5_mean_53 (lv_at hl 6 rfl) ?_
            refine lv_iload_n hx hb dX5_mean_55 rfl (lv_at hl 3 rfl) ?_
            refine n_icmp_gt (tgt := 165) hx hb (by omega) (by omega) dX5_mean_56 (by decide) (fun hc_21 => ?_) (fun hc_21 => ?_)
            · skip
              refine lv_iload hx hb dX5_mean_165 (lv_at hl 5 rfl) ?_
              refine b_if_eq (tgt := 176) hx hb dX5_mean_167 (by decide) (fun hc_22 => ?_) (fun hc_22 => ?_)
              · skip
                have hdk : d = k := by omega
                have hle := hP.le
                subst hdk
                obtain ⟨-, hms, -⟩ := hIn.resolve_left (fun y => by rw [y.1] at hc_22; cases hc_22)
                refine lv_lload hx hb dX5_mean_176 (lv_at hl 4 rfl) ?_
                have hsp : spMean cw σ (nI j) (nI q) (nI d) = (0, z, σ) := by simp only [spMean, hj, hq, hk, menA, hms]; rw [if_neg (by omega)]; rfl
                exact ret _ _ _ _ _ _ _ _ _ (Nat.le_of_ble_eq_true rfl) (Nat.le_of_ble_eq_true rfl) hW (rst.to hsp rfl hP.1 hP.2.1 hP.2.2.1) dX5_mean_178
              · skip
                have hdk : d = k := by omega
                have hle := hP.le
                subst hdk
                obtain ⟨-, hms⟩ := hIn.resolve_right (fun y => by rw [y.1] at hc_22; cases hc_22)
                refine lv_ldc2 hx hb C.2.2.1 ck139 dX5_mean_170 ?_
                refine lv_goto (tgt := 178) hx hb dX5_mean_173 (by decide) ?_
                have hsp : spMean cw σ (nI j) (nI q) (nI d) = (0, -1, σ) := by simp only [spMean, hj, hq, hk, menA, hms]; rw [if_neg (by omega)]; rfl
                exact ret _ _ _ _ _ _ _ _ _ (Nat.le_of_ble_eq_true rfl) (Nat.le_of_ble_eq_true rfl) hW (rst.to hsp rfl hP.1 hP.2.1 hP.2.2.1) dX5_mean_178
            · skip
              refine lv_aload_n hx hb dX5_mean_59 rfl (lv_at hl 0 rfl) ?_
              refine lv_bipush (v := nI 12) hx hb dX5_mean_60 (by decide) ?_
              obtain ⟨cpl, cdr, cto, -, cmk⟩ := hP.2.1.2.2.1 _ hic
              refine p_cVi C hml hg hW (c_X5_goesOn l D cy L ad G Ia Ja hS 12 (by omega) (wv σ j d) hP.2.2.2.2.2.1 (aNt σ j) (aDr σ (aNt σ j)) hP.2.2.2.1 (by omega) cdr hd4 (aTm σ j + d) hP.2.2.2.2.1 hP.2.2.2.2.2.2.2.1) (cwV 1 C.2.2.2.1 gX5_mean_X5_goesOn rfl rfl rfl (by decide +kernel) ⟨Nat.le_of_ble_eq_true rfl, Nat.le_of_ble_eq_true rfl⟩) (p_recv C hW (hS.1 64 (by omega) (by omega)) (pF_5 (by decide)) rfl) rfl hl.1 rfl (Nat.le_of_ble_eq_true rfl) dX5_mean_62 (Nat.le_of_ble_eq_true rfl) (Nat.le_of_ble_eq_true rfl) (fun v23 I24 J25 H locs hp hW => ?_)
              obtain ⟨hv, hI, hJ⟩ := hp
              subst v23
              subst I24
              subst J25
              refine b_if_ne (tgt := 72) hx hb dX5_mean_65 (by decide) (fun hc_26 => ?_) (fun hc_26 => ?_)
              · skip
                have hgo := of_decide_eq_true hc_26
                refine lv_aload_n hx hb dX5_mean_72 rfl (lv_at hl 0 rfl) ?_
                refine lv_bipush (v := nI 12) hx hb dX5_mean_73 (by decide) ?_
                refine p_cVv C hml hg hW (c_X5_steps l D cy L ad G Ia Ja hS 12 (by omega) (wv σ j d) hP.2.2.2.2.2.1 (aNt σ j) (aPl σ (aNt σ j)) (aDr σ (aNt σ j)) (aTm σ j + d) hP.2.2.2.1 (by omega) cpl hp12 cdr hd4 (aMk σ (aNt σ j)) cmk (aTo σ (aNt σ j)) cto (fun c hc => (hpr c hc).1) hP.2.2.2.2.1) (cwV 1 C.2.2.2.1 gX5_mean_X5_steps rfl rfl rfl (by decide +kernel) ⟨Nat.le_of_ble_eq_true rfl, Nat.le_of_ble_eq_true rfl⟩) (p_recv C hW (hS.1 64 (by omega) (by omega)) (pF_5 (by decide)) rfl) rfl hl.1 rfl (Nat.le_of_ble_eq_true rfl) dX5_mean_75 (Nat.le_of_ble_eq_true rfl) (Nat.le_of_ble_eq_true rfl) (fun I27 J28 H locs hp hW => ?_)
                obtain ⟨hI, hB⟩ := hp
                have hP := hP.on hA hjc hgo hI hB
                clear hI hB
                refine lv_iload hx hb dX5_mean_78 (lv_at hl 5 rfl) ?_
                refine b_if_ne (tgt := 99) hx hb dX5_mean_80 (by decide) (fun hc_29 => ?_) (fun hc_29 => ?_)
                · skip
                  refine lv_iconst (v := nI 1) hx hb dX5_mean_99 (by decide) ?_
                  refine lv_goto (tgt := 104) hx hb dX5_mean_100 (by decide) ?_
                  refine w_top (y := .int (bI (mu || decide (hvOf (aDr σ (aNt σ j)) < z)))) (by rw [hc_29]; rfl) ?_
                  refine lv_istore (lv' := [(6, .int (bI (mu || decide (hvOf (aDr σ (aNt σ j)) < z)))), (0, .ref (ad 64)), (1, .int (nI j)), (2, .int (nI q)), (3, .int (nI k)), (4, .long z), (7, .int (nI (d + 1)))]) hx hb dX5_mean_104 hl (by decide) rfl (fun ls hl => ?_)
                  refine lv_iload hx hb dX5_mean_106 (lv_at hl 0 rfl) ?_
                  refine b_if_eq (tgt := 114) hx hb dX5_mean_108 (by decide) (fun hc_30 => ?_) (fun hc_30 => ?_)
                  · skip
                    obtain ⟨hmu, hhv⟩ := Bool.or_eq_false_iff.mp hc_30
                    have hhv := of_decide_eq_false hhv
                    obtain ⟨-, hms, hz0⟩ := hIn.resolve_left (fun y => by rw [y.1] at hmu; cases hmu)
                    have hzl := Int64.not_lt.mp hhv
                    have hq12 := sqAt_le hP.2.2.2.2.2.2.1.2 (show q < 12 by omega)
                    obtain ⟨hm1, hm2⟩ := men_iff hd4 hz0 hzl hq12
                    refine lv_lload hx hb dX5_mean_114 (lv_at hl 5 rfl) ?_
                    refine lv_aload_n hx hb dX5_mean_116 rfl (lv_at hl 1 rfl) ?_
                    refine lv_iload_n hx hb dX5_mean_117 rfl (lv_at hl 2 rfl) ?_
                    obtain ⟨cpl, cdr, cto, -, cmk⟩ := hP.2.1.2.2.1 _ hic
                    obtain ⟨cno, -, -⟩ := hP.2.1.2.2.2.2.1 j hjc
                    refine p_cVi C hml hg hW (c_X5_scale l D cy L ad G I27 J28 hS j (aNt σ j) (aDr σ (aNt σ j)) (by omega) cno (by omega) cdr hd4) (cwV 1 C.2.2.2.1 gX5_mean_X5_scale rfl rfl rfl (by decide +kernel) ⟨Nat.le_of_ble_eq_true rfl, Nat.le_of_ble_eq_true rfl⟩) (p_recv C hW (hS.1 64 (by omega) (by omega)) (pF_5 (by decide)) rfl) rfl hl.1 rfl (Nat.le_of_ble_eq_true rfl) dX5_mean_118 (Nat.le_of_ble_eq_true rfl) (Nat.le_of_ble_eq_true rfl) (fun v31 I32 J33 H locs hp hW => ?_)
                    obtain ⟨hv, hI, hJ⟩ := hp
                    subst v31
                    subst I32
                    subst J33
                    refine lv_i2l (v := scOf (aDr σ (aNt σ j))) hx hb dX5_mean_121 (sc_l hd4) ?_
                    refine lv_lmul hx hb dX5_mean_122 ?_
                    refine lv_lstore (lv' := [(4, .long (z * (scOf (aDr σ (aNt σ j))))), (6, .int (bI (mu || decide (hvOf (aDr σ (aNt σ j)) < z)))), (0, .ref (ad 64)), (1, .int (nI j)), (2, .int (nI q)), (3, .int (nI k)), (7, .int (nI (d + 1)))]) hx hb dX5_mean_123 hl (by decide) rfl (fun ls hl => ?_)
                    refine lv_aload_n hx hb dX5_mean_125 rfl (lv_at hl 2 rfl) ?_
                    refine lv_bipush (v := nI 12) hx hb dX5_mean_126 (by decide) ?_
                    refine lv_iload_n hx hb dX5_mean_128 rfl (lv_at hl 4 rfl) ?_
                    refine p_cVl C hml hg hW (c_X5_shareOf l D cy L ad G I27 J28 hS 12 (by omega) (wv σ j (d + 1)) hP.2.2.2.2.2.1 q (by omega)) (cwV 2 C.2.2.2.1 gX5_mean_X5_shareOf rfl rfl rfl (by decide +kernel) ⟨Nat.le_of_ble_eq_true rfl, Nat.le_of_ble_eq_true rfl⟩) (p_recv C hW (hS.1 64 (by omega) (by omega)) (pF_5 (by decide)) rfl) rfl hl.1 rfl (Nat.le_of_ble_eq_true rfl) dX5_mean_129 (Nat.le_of_ble_eq_true rfl) (Nat.le_of_ble_eq_true rfl) (fun v34 I35 J36 H locs hp hW => ?_)
                    obtain ⟨hv, hI, hJ⟩ := hp
                    subst v34
                    subst I35
                    subst J36
                    refine lv_lstore (lv' := [(8, .long (sqAt (wv σ j (d + 1)) q)), (4, .long (z * (scOf (aDr σ (aNt σ j))))), (6, .int (bI (mu || decide (hvOf (aDr σ (aNt σ j)) < z)))), (0, .ref (ad 64)), (1, .int (nI j)), (2, .int (nI q)), (3, .int (nI k)), (7, .int (nI (d + 1)))]) hx hb dX5_mean_132 hl (by decide) rfl (fun ls hl => ?_)
                    refine lv_lload hx hb dX5_mean_134 (lv_at hl 0 rfl) ?_
                    refine lv_ldc2 hx hb C.2.2.1 ck97 dX5_mean_136 ?_
                    refine lv_lload hx hb dX5_mean_139 (lv_at hl 1 rfl) ?_
                    refine lv_lsub hx hb dX5_mean_141 ?_
                    refine l_le (tgt := 152) hx hb dX5_mean_142 dX5_mean_143 (by decide) (fun hc_37 => ?_) (fun hc_37 => ?_)
                    · skip
                      refine lv_lload hx hb dX5_mean_152 (lv_at hl 1 rfl) ?_
                      refine lv_lload hx hb dX5_mean_154 (lv_at hl 0 rfl) ?_
                      refine lv_ladd hx hb dX5_mean_156 ?_
                      refine lv_lstore (lv' := [(4, .long ((z * (scOf (aDr σ (aNt σ j)))) + (sqAt (wv σ j (d + 1)) q))), (8, .long (sqAt (wv σ j (d + 1)) q)), (6, .int (bI (mu || decide (hvOf (aDr σ (aNt σ j)) < z)))), (0, .ref (ad 64)), (1, .int (nI j)), (2, .int (nI q)), (3, .int (nI k)), (7, .int (nI (d + 1)))]) hx hb dX5_mean_157 hl (by decide) rfl (fun ls hl => ?_)
                      refine lv_iinc (v := nI ((d + 1) + 1)) (lv' := [(7, .int (nI ((d + 1) + 1))), (4, .long ((z * (scOf (aDr σ (aNt σ j)))) + (sqAt (wv σ j (d + 1)) q))), (8, .long (sqAt (wv σ j (d + 1)) q)), (6, .int (bI (mu || decide (hvOf (aDr σ (aNt σ j)) < z)))), (0, .ref (ad 64)), (1, .int (nI j)), (2, .int (nI q)), (3, .int (nI k))]) hx hb dX5_mean_159 hl (k := 7) rfl (nI_inc _) (by decide) rfl (fun ls hl => ?_)
                      refine lv_goto (tgt := 53) hx hb dX5_mean_162 (by decide) ?_
                      exact ih53 (d + 1) (mu || decide (hvOf (aDr σ (aNt σ j)) < z)) ((z * (scOf (aDr σ (aNt σ j)))) + (sqAt (wv σ j (d + 1)) q)) I27 J28 (by omega) (by omega) hP (Or.inr ⟨hc_30, by rw [menF, hms]; exact if_neg (fun y => by rcases y with y | y; exact hhv y; exact hc_37 (hm1.mp y)), (hm2 hc_37).1⟩) _ _ hW ls (lv_sub hl [4, 5, 6, 7, 1, 3, 0] rfl)
                    · skip
                      refine lv_iconst (v := nI 1) hx hb dX5_mean_146 (by decide) ?_
                      refine w_top (y := .int (bI true)) rfl ?_
                      refine lv_istore (lv' := [(6, .int (bI true)), (8, .long (sqAt (wv σ j (d + 1)) q)), (4, .long (z * (scOf (aDr σ (aNt σ j))))), (0, .ref (ad 64)), (1, .int (nI j)), (2, .int (nI q)), (3, .int (nI k)), (7, .int (nI (d + 1)))]) hx hb dX5_mean_147 hl (by decide) rfl (fun ls hl => ?_)
                      refine lv_goto (tgt := 159) hx hb dX5_mean_149 (by decide) ?_
                      refine lv_iinc (v := nI ((d + 1) + 1)) (lv' := [(7, .int (nI ((d + 1) + 1))), (6, .int (bI true)), (8, .long (sqAt (wv σ j (d + 1)) q)), (4, .long (z * (scOf (aDr σ (aNt σ j))))), (0, .ref (ad 64)), (1, .int (nI j)), (2, .int (nI q)), (3, .int (nI k))]) hx hb dX5_mean_159 hl (k := 7) rfl (nI_inc _) (by decide) rfl (fun ls hl => ?_)
                      refine lv_goto (tgt := 53) hx hb dX5_mean_162 (by decide) ?_
                      exact ih53 (d + 1) true (z * (scOf (aDr σ (aNt σ j)))) I27 J28 (by omega) (by omega) hP (Or.inl ⟨rfl, by rw [menF, hms]; exact if_pos (Or.inr (hm1.mpr hc_37))⟩) _ _ hW ls (lv_sub hl [4, 5, 6, 7, 3, 1, 0] rfl)
                  · skip
                    have hno3 : menF (stp σ (aNt σ j)) (aWv σ j) q (hvOf (aDr σ (aNt σ j))) (scOf (aDr σ (aNt σ j))) (d + 1) = none := by
                      rcases hIn with y | y
                      · rw [menF, y.2]
                      · have h2 : hvOf (aDr σ (aNt σ j)) < z := by
                          rcases Bool.or_eq_true_iff.mp hc_30 with w | w
                          · rw [y.1] at w; cases w
                          · exact of_decide_eq_true w
                        rw [menF, y.2.1]
                        exact if_pos (Or.inl h2)
                    refine lv_goto (tgt := 159) hx hb dX5_mean_111 (by decide) ?_
                    refine lv_iinc (v := nI ((d + 1) + 1)) (lv' := [(7, .int (nI ((d + 1) + 1))), (6, .int (bI (mu || decide (hvOf (aDr σ (aNt σ j)) < z)))), (0, .ref (ad 64)), (1, .int (nI j)), (2, .int (nI q)), (3, .int (nI k)), (4, .long z)]) hx hb dX5_mean_159 hl (k := 6) rfl (nI_inc _) (by decide) rfl (fun ls hl => ?_)
                    refine lv_goto (tgt := 53) hx hb dX5_mean_162 (by decide) ?_
                    exact ih53 (d + 1) (mu || decide (hvOf (aDr σ (aNt σ j)) < z)) z I27 J28 (by omega) (by omega) hP (Or.inl ⟨hc_30, hno3⟩) _ _ hW ls (lv_sub hl [2, 3, 4, 5, 6, 1, 0] rfl)
                · skip
                  refine lv_lload hx hb dX5_mean_83 (lv_at hl 4 rfl) ?_
                  refine lv_ldc2 hx hb C.2.2.1 ck97 dX5_mean_85 ?_
                  refine lv_aload_n hx hb dX5_mean_88 rfl (lv_at hl 0 rfl) ?_
                  refine lv_iload_n hx hb dX5_mean_89 rfl (lv_at hl 1 rfl) ?_
                  obtain ⟨cpl, cdr, cto, -, cmk⟩ := hP.2.1.2.2.1 _ hic
                  obtain ⟨cno, -, -⟩ := hP.2.1.2.2.2.2.1 j hjc
                  refine p_cVi C hml hg hW (c_X5_scale l D cy L ad G I27 J28 hS j (aNt σ j) (aDr σ (aNt σ j)) (by omega) cno (by omega) cdr hd4) (cwV 1 C.2.2.2.1 gX5_mean_X5_scale rfl rfl rfl (by decide +kernel) ⟨Nat.le_of_ble_eq_true rfl, Nat.le_of_ble_eq_true rfl⟩) (p_recv C hW (hS.1 64 (by omega) (by omega)) (pF_5 (by decide)) rfl) rfl hl.1 rfl (Nat.le_of_ble_eq_true rfl) dX5_mean_90 (Nat.le_of_ble_eq_true rfl) (Nat.le_of_ble_eq_true rfl) (fun v38 I39 J40 H locs hp hW => ?_)
                  obtain ⟨hv, hI, hJ⟩ := hp
                  subst v38
                  subst I39
                  subst J40
                  refine lv_i2l (v := scOf (aDr σ (aNt σ j))) hx hb dX5_mean_93 (sc_l hd4) ?_
                  refine lv_ldiv hx hb dX5_mean_94 (sc_ne hd4) ?_
                  refine l_le (tgt := 103) hx hb dX5_mean_95 dX5_mean_96 (by decide) (fun hc_41 => ?_) (fun hc_41 => ?_)
                  · skip
                    refine lv_iconst (v := nI 0) hx hb dX5_mean_103 (by decide) ?_
                    refine w_top (y := .int (bI (mu || decide (hvOf (aDr σ (aNt σ j)) < z)))) (by rw [hc_29, decide_eq_false (by rw [← lim_div hd4]; exact hc_41)]; rfl) ?_
                    refine lv_istore (lv' := [(6, .int (bI (mu || decide (hvOf (aDr σ (aNt σ j)) < z)))), (0, .ref (ad 64)), (1, .int (nI j)), (2, .int (nI q)), (3, .int (nI k)), (4, .long z), (7, .int (nI (d + 1)))]) hx hb dX5_mean_104 hl (by decide) rfl (fun ls hl => ?_)
                    refine lv_iload hx hb dX5_mean_106 (lv_at hl 0 rfl) ?_
                    refine b_if_eq (tgt := 114) hx hb dX5_mean_108 (by decide) (fun hc_42 => ?_) (fun hc_42 => ?_)
                    · skip
                      obtain ⟨hmu, hhv⟩ := Bool.or_eq_false_iff.mp hc_42
                      have hhv := of_decide_eq_false hhv
                      obtain ⟨-, hms, hz0⟩ := hIn.resolve_left (fun y => by rw [y.1] at hmu; cases hmu)
                      have hzl := Int64.not_lt.mp hhv
                      have hq12 := sqAt_le hP.2.2.2.2.2.2.1.2 (show q < 12 by omega)
                      obtain ⟨hm1, hm2⟩ := men_iff hd4 hz0 hzl hq12
                      refine lv_lload hx hb dX5_mean_114 (lv_at hl 5 rfl) ?_
                      refine lv_aload_n hx hb dX5_mean_116 rfl (lv_at hl 1 rfl) ?_
                      refine lv_iload_n hx hb dX5_mean_117 rfl (lv_at hl 2 rfl) ?_
                      obtain ⟨cpl, cdr, cto, -, cmk⟩ := hP.2.1.2.2.1 _ hic
                      obtain ⟨cno, -, -⟩ := hP.2.1.2.2.2.2.1 j hjc
                      refine p_cVi C hml hg hW (c_X5_scale l D cy L ad G I27 J28 hS j (aNt σ j) (aDr σ (aNt σ j)) (by omega) cno (by omega) cdr hd4) (cwV 1 C.2.2.2.1 gX5_mean_X5_scale rfl rfl rfl (by decide +kernel) ⟨Nat.le_of_ble_eq_true rfl, Nat.le_of_ble_eq_true rfl⟩) (p_recv C hW (hS.1 64 (by omega) (by omega)) (pF_5 (by decide)) rfl) rfl hl.1 rfl (Nat.le_of_ble_eq_true rfl) dX5_mean_118 (Nat.le_of_ble_eq_true rfl) (Nat.le_of_ble_eq_true rfl) (fun v43 I44 J45 H locs hp hW => ?_)
                      obtain ⟨hv, hI, hJ⟩ := hp
                      subst v43
                      subst I44
                      subst J45
                      refine lv_i2l (v := scOf (aDr σ (aNt σ j))) hx hb dX5_mean_121 (sc_l hd4) ?_
                      refine lv_lmul hx hb dX5_mean_122 ?_
                      refine lv_lstore (lv' := [(4, .long (z * (scOf (aDr σ (aNt σ j))))), (6, .int (bI (mu || decide (hvOf (aDr σ (aNt σ j)) < z)))), (0, .ref (ad 64)), (1, .int (nI j)), (2, .int (nI q)), (3, .int (nI k)), (7, .int (nI (d + 1)))]) hx hb dX5_mean_123 hl (by decide) rfl (fun ls hl => ?_)
                      refine lv_aload_n hx hb dX5_mean_125 rfl (lv_at hl 2 rfl) ?_
                      refine lv_bipush (v := nI 12) hx hb dX5_mean_126 (by decide) ?_
                      refine lv_iload_n hx hb dX5_mean_128 rfl (lv_at hl 4 rfl) ?_
                      refine p_cVl C hml hg hW (c_X5_shareOf l D cy L ad G I27 J28 hS 12 (by omega) (wv σ j (d + 1)) hP.2.2.2.2.2.1 q (by omega)) (cwV 2 C.2.2.2.1 gX5_mean_X5_shareOf rfl rfl rfl (by decide +kernel) ⟨Nat.le_of_ble_eq_true rfl, Nat.le_of_ble_eq_true rfl⟩) (p_recv C hW (hS.1 64 (by omega) (by omega)) (pF_5 (by decide)) rfl) rfl hl.1 rfl (Nat.le_of_ble_eq_true rfl) dX5_mean_129 (Nat.le_of_ble_eq_true rfl) (Nat.le_of_ble_eq_true rfl) (fun v46 I47 J48 H locs hp hW => ?_)
                      obtain ⟨hv, hI, hJ⟩ := hp
                      subst v46
                      subst I47
                      subst J48
                      refine lv_lstore (lv' := [(8, .long (sqAt (wv σ j (d + 1)) q)), (4, .long (z * (scOf (aDr σ (aNt σ j))))), (6, .int (bI (mu || decide (hvOf (aDr σ (aNt σ j)) < z)))), (0, .ref (ad 64)), (1, .int (nI j)), (2, .int (nI q)), (3, .int (nI k)), (7, .int (nI (d + 1)))]) hx hb dX5_mean_132 hl (by decide) rfl (fun ls hl => ?_)
                      refine lv_lload hx hb dX5_mean_134 (lv_at hl 0 rfl) ?_
                      refine lv_ldc2 hx hb C.2.2.1 ck97 dX5_mean_136 ?_
                      refine lv_lload hx hb dX5_mean_139 (lv_at hl 1 rfl) ?_
                      refine lv_lsub hx hb dX5_mean_141 ?_
                      refine l_le (tgt := 152) hx hb dX5_mean_142 dX5_mean_143 (by decide) (fun hc_49 => ?_) (fun hc_49 => ?_)
                      · skip
                        refine lv_lload hx hb dX5_mean_152 (lv_at hl 1 rfl) ?_
                        refine lv_lload hx hb dX5_mean_154 (lv_at hl 0 rfl) ?_
                        refine lv_ladd hx hb dX5_mean_156 ?_
                        refine lv_lstore (lv' := [(4, .long ((z * (scOf (aDr σ (aNt σ j)))) + (sqAt (wv σ j (d + 1)) q))), (8, .long (sqAt (wv σ j (d + 1)) q)), (6, .int (bI (mu || decide (hvOf (aDr σ (aNt σ j)) < z)))), (0, .ref (ad 64)), (1, .int (nI j)), (2, .int (nI q)), (3, .int (nI k)), (7, .int (nI (d + 1)))]) hx hb dX5_mean_157 hl (by decide) rfl (fun ls hl => ?_)
                        refine lv_iinc (v := nI ((d + 1) + 1)) (lv' := [(7, .int (nI ((d + 1) + 1))), (4, .long ((z * (scOf (aDr σ (aNt σ j)))) + (sqAt (wv σ j (d + 1)) q))), (8, .long (sqAt (wv σ j (d + 1)) q)), (6, .int (bI (mu || decide (hvOf (aDr σ (aNt σ j)) < z)))), (0, .ref (ad 64)), (1, .int (nI j)), (2, .int (nI q)), (3, .int (nI k))]) hx hb dX5_mean_159 hl (k := 7) rfl (nI_inc _) (by decide) rfl (fun ls hl => ?_)
                        refine lv_goto (tgt := 53) hx hb dX5_mean_162 (by decide) ?_
                        exact ih53 (d + 1) (mu || decide (hvOf (aDr σ (aNt σ j)) < z)) ((z * (scOf (aDr σ (aNt σ j)))) + (sqAt (wv σ j (d + 1)) q)) I27 J28 (by omega) (by omega) hP (Or.inr ⟨hc_42, by rw [menF, hms]; exact if_neg (fun y => by rcases y with y | y; exact hhv y; exact hc_49 (hm1.mp y)), (hm2 hc_49).1⟩) _ _ hW ls (lv_sub hl [4, 5, 6, 7, 1, 3, 0] rfl)
                      · skip
                        refine lv_iconst (v := nI 1) hx hb dX5_mean_146 (by decide) ?_
                        refine w_top (y := .int (bI true)) rfl ?_
                        refine lv_istore (lv' := [(6, .int (bI true)), (8, .long (sqAt (wv σ j (d + 1)) q)), (4, .long (z * (scOf (aDr σ (aNt σ j))))), (0, .ref (ad 64)), (1, .int (nI j)), (2, .int (nI q)), (3, .int (nI k)), (7, .int (nI (d + 1)))]) hx hb dX5_mean_147 hl (by decide) rfl (fun ls hl => ?_)
                        refine lv_goto (tgt := 159) hx hb dX5_mean_149 (by decide) ?_
                        refine lv_iinc (v := nI ((d + 1) + 1)) (lv' := [(7, .int (nI ((d + 1) + 1))), (6, .int (bI true)), (8, .long (sqAt (wv σ j (d + 1)) q)), (4, .long (z * (scOf (aDr σ (aNt σ j))))), (0, .ref (ad 64)), (1, .int (nI j)), (2, .int (nI q)), (3, .int (nI k))]) hx hb dX5_mean_159 hl (k := 7) rfl (nI_inc _) (by decide) rfl (fun ls hl => ?_)
                        refine lv_goto (tgt := 53) hx hb dX5_mean_162 (by decide) ?_
                        exact ih53 (d + 1) true (z * (scOf (aDr σ (aNt σ j)))) I27 J28 (by omega) (by omega) hP (Or.inl ⟨rfl, by rw [menF, hms]; exact if_pos (Or.inr (hm1.mpr hc_49))⟩) _ _ hW ls (lv_sub hl [4, 5, 6, 7, 3, 1, 0] rfl)
                    · skip
                      have hno3 : menF (stp σ (aNt σ j)) (aWv σ j) q (hvOf (aDr σ (aNt σ j))) (scOf (aDr σ (aNt σ j))) (d + 1) = none := by
                        rcases hIn with y | y
                        · rw [menF, y.2]
                        · have h2 : hvOf (aDr σ (aNt σ j)) < z := by
                            rcases Bool.or_eq_true_iff.mp hc_42 with w | w
                            · rw [y.1] at w; cases w
                            · exact of_decide_eq_true w
                          rw [menF, y.2.1]
                          exact if_pos (Or.inl h2)
                      refine lv_goto (tgt := 159) hx hb dX5_mean_111 (by decide) ?_
                      refine lv_iinc (v := nI ((d + 1) + 1)) (lv' := [(7, .int (nI ((d + 1) + 1))), (6, .int (bI (mu || decide (hvOf (aDr σ (aNt σ j)) < z)))), (0, .ref (ad 64)), (1, .int (nI j)), (2, .int (nI q)), (3, .int (nI k)), (4, .long z)]) hx hb dX5_mean_159 hl (k := 6) rfl (nI_inc _) (by decide) rfl (fun ls hl => ?_)
                      refine lv_goto (tgt := 53) hx hb dX5_mean_162 (by decide) ?_
                      exact ih53 (d + 1) (mu || decide (hvOf (aDr σ (aNt σ j)) < z)) z I27 J28 (by omega) (by omega) hP (Or.inl ⟨hc_42, hno3⟩) _ _ hW ls (lv_sub hl [2, 3, 4, 5, 6, 1, 0] rfl)
                  · skip
                    refine lv_iconst (v := nI 1) hx hb dX5_mean_99 (by decide) ?_
                    refine lv_goto (tgt := 104) hx hb dX5_mean_100 (by decide) ?_
                    refine w_top (y := .int (bI (mu || decide (hvOf (aDr σ (aNt σ j)) < z)))) (by rw [hc_29, decide_eq_true (by rw [← lim_div hd4]; exact hc_41)]; rfl) ?_
                    refine lv_istore (lv' := [(6, .int (bI (mu || decide (hvOf (aDr σ (aNt σ j)) < z)))), (0, .ref (ad 64)), (1, .int (nI j)), (2, .int (nI q)), (3, .int (nI k)), (4, .long z), (7, .int (nI (d + 1)))]) hx hb dX5_mean_104 hl (by decide) rfl (fun ls hl => ?_)
                    refine lv_iload hx hb dX5_mean_106 (lv_at hl 0 rfl) ?_
                    refine b_if_eq (tgt := 114) hx hb dX5_mean_108 (by decide) (fun hc_50 => ?_) (fun hc_50 => ?_)
                    · skip
                      obtain ⟨hmu, hhv⟩ := Bool.or_eq_false_iff.mp hc_50
                      have hhv := of_decide_eq_false hhv
                      obtain ⟨-, hms, hz0⟩ := hIn.resolve_left (fun y => by rw [y.1] at hmu; cases hmu)
                      have hzl := Int64.not_lt.mp hhv
                      have hq12 := sqAt_le hP.2.2.2.2.2.2.1.2 (show q < 12 by omega)
                      obtain ⟨hm1, hm2⟩ := men_iff hd4 hz0 hzl hq12
                      refine lv_lload hx hb dX5_mean_114 (lv_at hl 5 rfl) ?_
                      refine lv_aload_n hx hb dX5_mean_116 rfl (lv_at hl 1 rfl) ?_
                      refine lv_iload_n hx hb dX5_mean_117 rfl (lv_at hl 2 rfl) ?_
                      obtain ⟨cpl, cdr, cto, -, cmk⟩ := hP.2.1.2.2.1 _ hic
                      obtain ⟨cno, -, -⟩ := hP.2.1.2.2.2.2.1 j hjc
                      refine p_cVi C hml hg hW (c_X5_scale l D cy L ad G I27 J28 hS j (aNt σ j) (aDr σ (aNt σ j)) (by omega) cno (by omega) cdr hd4) (cwV 1 C.2.2.2.1 gX5_mean_X5_scale rfl rfl rfl (by decide +kernel) ⟨Nat.le_of_ble_eq_true rfl, Nat.le_of_ble_eq_true rfl⟩) (p_recv C hW (hS.1 64 (by omega) (by omega)) (pF_5 (by decide)) rfl) rfl hl.1 rfl (Nat.le_of_ble_eq_true rfl) dX5_mean_118 (Nat.le_of_ble_eq_true rfl) (Nat.le_of_ble_eq_true rfl) (fun v51 I52 J53 H locs hp hW => ?_)
                      obtain ⟨hv, hI, hJ⟩ := hp
                      subst v51
                      subst I52
                      subst J53
                      refine lv_i2l (v := scOf (aDr σ (aNt σ j))) hx hb dX5_mean_121 (sc_l hd4) ?_
                      refine lv_lmul hx hb dX5_mean_122 ?_
                      refine lv_lstore (lv' := [(4, .long (z * (scOf (aDr σ (aNt σ j))))), (6, .int (bI (mu || decide (hvOf (aDr σ (aNt σ j)) < z)))), (0, .ref (ad 64)), (1, .int (nI j)), (2, .int (nI q)), (3, .int (nI k)), (7, .int (nI (d + 1)))]) hx hb dX5_mean_123 hl (by decide) rfl (fun ls hl => ?_)
                      refine lv_aload_n hx hb dX5_mean_125 rfl (lv_at hl 2 rfl) ?_
                      refine lv_bipush (v := nI 12) hx hb dX5_mean_126 (by decide) ?_
                      refine lv_iload_n hx hb dX5_mean_128 rfl (lv_at hl 4 rfl) ?_
                      refine p_cVl C hml hg hW (c_X5_shareOf l D cy L ad G I27 J28 hS 12 (by omega) (wv σ j (d + 1)) hP.2.2.2.2.2.1 q (by omega)) (cwV 2 C.2.2.2.1 gX5_mean_X5_shareOf rfl rfl rfl (by decide +kernel) ⟨Nat.le_of_ble_eq_true rfl, Nat.le_of_ble_eq_true rfl⟩) (p_recv C hW (hS.1 64 (by omega) (by omega)) (pF_5 (by decide)) rfl) rfl hl.1 rfl (Nat.le_of_ble_eq_true rfl) dX5_mean_129 (Nat.le_of_ble_eq_true rfl) (Nat.le_of_ble_eq_true rfl) (fun v54 I55 J56 H locs hp hW => ?_)
                      obtain ⟨hv, hI, hJ⟩ := hp
                      subst v54
                      subst I55
                      subst J56
                      refine lv_lstore (lv' := [(8, .long (sqAt (wv σ j (d + 1)) q)), (4, .long (z * (scOf (aDr σ (aNt σ j))))), (6, .int (bI (mu || decide (hvOf (aDr σ (aNt σ j)) < z)))), (0, .ref (ad 64)), (1, .int (nI j)), (2, .int (nI q)), (3, .int (nI k)), (7, .int (nI (d + 1)))]) hx hb dX5_mean_132 hl (by decide) rfl (fun ls hl => ?_)
                      refine lv_lload hx hb dX5_mean_134 (lv_at hl 0 rfl) ?_
                      refine lv_ldc2 hx hb C.2.2.1 ck97 dX5_mean_136 ?_
                      refine lv_lload hx hb dX5_mean_139 (lv_at hl 1 rfl) ?_
                      refine lv_lsub hx hb dX5_mean_141 ?_
                      refine l_le (tgt := 152) hx hb dX5_mean_142 dX5_mean_143 (by decide) (fun hc_57 => ?_) (fun hc_57 => ?_)
                      · skip
                        refine lv_lload hx hb dX5_mean_152 (lv_at hl 1 rfl) ?_
                        refine lv_lload hx hb dX5_mean_154 (lv_at hl 0 rfl) ?_
                        refine lv_ladd hx hb dX5_mean_156 ?_
                        refine lv_lstore (lv' := [(4, .long ((z * (scOf (aDr σ (aNt σ j)))) + (sqAt (wv σ j (d + 1)) q))), (8, .long (sqAt (wv σ j (d + 1)) q)), (6, .int (bI (mu || decide (hvOf (aDr σ (aNt σ j)) < z)))), (0, .ref (ad 64)), (1, .int (nI j)), (2, .int (nI q)), (3, .int (nI k)), (7, .int (nI (d + 1)))]) hx hb dX5_mean_157 hl (by decide) rfl (fun ls hl => ?_)
                        refine lv_iinc (v := nI ((d + 1) + 1)) (lv' := [(7, .int (nI ((d + 1) + 1))), (4, .long ((z * (scOf (aDr σ (aNt σ j)))) + (sqAt (wv σ j (d + 1)) q))), (8, .long (sqAt (wv σ j (d + 1)) q)), (6, .int (bI (mu || decide (hvOf (aDr σ (aNt σ j)) < z)))), (0, .ref (ad 64)), (1, .int (nI j)), (2, .int (nI q)), (3, .int (nI k))]) hx hb dX5_mean_159 hl (k := 7) rfl (nI_inc _) (by decide) rfl (fun ls hl => ?_)
                        refine lv_goto (tgt := 53) hx hb dX5_mean_162 (by decide) ?_
                        exact ih53 (d + 1) (mu || decide (hvOf (aDr σ (aNt σ j)) < z)) ((z * (scOf (aDr σ (aNt σ j)))) + (sqAt (wv σ j (d + 1)) q)) I27 J28 (by omega) (by omega) hP (Or.inr ⟨hc_50, by rw [menF, hms]; exact if_neg (fun y => by rcases y with y | y; exact hhv y; exact hc_57 (hm1.mp y)), (hm2 hc_57).1⟩) _ _ hW ls (lv_sub hl [4, 5, 6, 7, 1, 3, 0] rfl)
                      · skip
                        refine lv_iconst (v := nI 1) hx hb dX5_mean_146 (by decide) ?_
                        refine w_top (y := .int (bI true)) rfl ?_
                        refine lv_istore (lv' := [(6, .int (bI true)), (8, .long (sqAt (wv σ j (d + 1)) q)), (4, .long (z * (scOf (aDr σ (aNt σ j))))), (0, .ref (ad 64)), (1, .int (nI j)), (2, .int (nI q)), (3, .int (nI k)), (7, .int (nI (d + 1)))]) hx hb dX5_mean_147 hl (by decide) rfl (fun ls hl => ?_)
                        refine lv_goto (tgt := 159) hx hb dX5_mean_149 (by decide) ?_
                        refine lv_iinc (v := nI ((d + 1) + 1)) (lv' := [(7, .int (nI ((d + 1) + 1))), (6, .int (bI true)), (8, .long (sqAt (wv σ j (d + 1)) q)), (4, .long (z * (scOf (aDr σ (aNt σ j))))), (0, .ref (ad 64)), (1, .int (nI j)), (2, .int (nI q)), (3, .int (nI k))]) hx hb dX5_mean_159 hl (k := 7) rfl (nI_inc _) (by decide) rfl (fun ls hl => ?_)
                        refine lv_goto (tgt := 53) hx hb dX5_mean_162 (by decide) ?_
                        exact ih53 (d + 1) true (z * (scOf (aDr σ (aNt σ j)))) I27 J28 (by omega) (by omega) hP (Or.inl ⟨rfl, by rw [menF, hms]; exact if_pos (Or.inr (hm1.mpr hc_57))⟩) _ _ hW ls (lv_sub hl [4, 5, 6, 7, 3, 1, 0] rfl)
                    · skip
                      have hno3 : menF (stp σ (aNt σ j)) (aWv σ j) q (hvOf (aDr σ (aNt σ j))) (scOf (aDr σ (aNt σ j))) (d + 1) = none := by
                        rcases hIn with y | y
                        · rw [menF, y.2]
                        · have h2 : hvOf (aDr σ (aNt σ j)) < z := by
                            rcases Bool.or_eq_true_iff.mp hc_50 with w | w
                            · rw [y.1] at w; cases w
                            · exact of_decide_eq_true w
                          rw [menF, y.2.1]
                          exact if_pos (Or.inl h2)
                      refine lv_goto (tgt := 159) hx hb dX5_mean_111 (by decide) ?_
                      refine lv_iinc (v := nI ((d + 1) + 1)) (lv' := [(7, .int (nI ((d + 1) + 1))), (6, .int (bI (mu || decide (hvOf (aDr σ (aNt σ j)) < z)))), (0, .ref (ad 64)), (1, .int (nI j)), (2, .int (nI q)), (3, .int (nI k)), (4, .long z)]) hx hb dX5_mean_159 hl (k := 6) rfl (nI_inc _) (by decide) rfl (fun ls hl => ?_)
                      refine lv_goto (tgt := 53) hx hb dX5_mean_162 (by decide) ?_
                      exact ih53 (d + 1) (mu || decide (hvOf (aDr σ (aNt σ j)) < z)) z I27 J28 (by omega) (by omega) hP (Or.inl ⟨hc_50, hno3⟩) _ _ hW ls (lv_sub hl [2, 3, 4, 5, 6, 1, 0] rfl)
              · skip
                have hlf := hP.off (of_decide_eq_false hc_26)
                refine lv_ldc2 hx hb C.2.2.1 ck139 dX5_mean_68 ?_
                have hsp : spMean cw σ (nI j) (nI q) (nI k) = (0, -1, σ) := by simp only [spMean, hj, hq, hk]; rw [if_pos (by omega)]
                exact ret _ _ _ _ _ _ _ _ _ (Nat.le_of_ble_eq_true rfl) (Nat.le_of_ble_eq_true rfl) hW (rst.to hsp rfl hP.1 hP.2.1 hP.2.2.1) dX5_mean_71
        have hl : lv_has ls 10 [(7, .int (nI (0 + 1))), (6, .int (bI false)), (4, .long (sqAt (wv σ j 0) q)), (0, .ref (ad 64)), (1, .int (nI j)), (2, .int (nI q)), (3, .int (nI k))] := hl
        exact lp53 (k + 1) 0 false (sqAt (wv σ j 0) q) I16 J17 (by omega) (by omega) hP (Or.inr ⟨rfl, rfl, (sqAt_le hP.2.2.2.2.2.2.1.2 (show q < 12 by omega)).1⟩) _ _ hW ls (lv_sub hl [3, 4, 5, 6, 2, 1, 0] rfl)
      · skip
        have hr0 : (ixN xn 61).isSome = false := rt_no hc_15
        rw [if_pos ⟨rfl, hr0⟩] at hW
        have hn3 := is_none hr0
        refine lv_lconst (v := 0) hx hb dX5_mean_29 (by decide) ?_
        have hsp : spMean cw σ (nI j) (nI q) xn = (2, 0, σ) := by simp only [spMean, hj, hq, hn3]
        exact ret _ _ _ _ _ _ _ _ _ (Nat.le_of_ble_eq_true rfl) (Nat.le_of_ble_eq_true rfl) hW (rst.thr hsp h12 hD (fun z => absurd z (by decide))) dX5_mean_30
