theorem left_le (hv sc : Int64) : ∀ (n : Nat) (wt : Int64), leftF hv sc n wt ≤ n
  | 0, _ => Nat.le_refl _
  | n + 1, wt => by
    have := left_le hv sc n (wt * sc)
    rw [leftF]
    split <;> omega
theorem mn_nI {a b : Nat} (ha : a < 2 ^ 31) (hb : b < 2 ^ 31) : (if nI b < nI a then nI b else nI a) = nI (min a b) := by
  by_cases h : b < a
  · rw [if_pos ((nI_ltI hb ha).mpr h), Nat.min_eq_right (by omega)]
  · rw [if_neg (fun z => h ((nI_ltI hb ha).mp z)), Nat.min_eq_left (by omega)]
theorem bst_le (g : (Nat → Int64) → Nat → Int64) (f : Nat → Int64) (mk : Nat → Bool) (pl : Nat) (sc : Int64) : ∀ i, (bstF g f mk pl sc i).1 ≤ i
  | 0 => Nat.le_refl _
  | i + 1 => by
    have := bst_le g f mk pl sc i
    rw [bstF]
    split
    · exact Nat.le_refl _
    · exact Nat.le_succ_of_le this
theorem men_none {g : (Nat → Int64) → Nat → Int64} {f : Nat → Int64} {q : Nat} {hv sc : Int64} {i k : Nat} (h : menF g f q hv sc i = none) (hk : i ≤ k) : menF g f q hv sc k = none := by
  obtain ⟨d, rfl⟩ : ∃ d, k = i + d := ⟨k - i, by omega⟩
  clear hk
  induction d with
  | zero => exact h
  | succ d ih =>
    show menF g f q hv sc (i + d + 1) = none
    rw [menF, ih]
abbrev rmX4_step : Room := { frames := 7, cells := 2, slots := 12, locals := 104 }
set_option maxHeartbeats 4000000 in
set_option maxRecDepth 100000 in
theorem c_X4_step (l : Launch) (hst : l.stackTraces = false) (D : va_G) (cy : Nat → ClassId) (L : List Nat) (ad : Nat → Nat) (G : mG) (I : mI) (J : mJ) (cn cw : Nat) (σ : Ab) (hS : cSh L G cn cw (aNt σ)) (hA : aOk cn cw σ) (hD : cDt cn cw σ I J) (x xn : Int32) : pXet l yX4_step wsX4_step rmX4_step D cy L ad G I J [.ref (ad 0), .int x, .int xn] (qI (fun v I' J' => pst (spStep cw σ x xn) v.toInt64 cn cw I I' J J') D cy L ad G) (pxs (spStep cw σ x xn)) := by
  refine pXet.ofI (cc := cX4_step) (maxL := 6) (by decide +kernel) rfl (Nat.le_of_ble_eq_true rfl) ?_
  intro p e R s m args below meth c A Q C hml hR hg ret thr hQ hlk hnx hW ls hl
  subst hR
  have C : Cx p s m args c cX4_step RX4 wsX4_step D cy A := C
  have hx := C.1
  have hb := C.2.1
  have lk89 := C.2.2.2.1 (.fieldLink RX4 89 "WaveWalk$Walk" "net" "LWaveWalk$Net;") (by decide +kernel)
  have lk97 := C.2.2.2.1 (.fieldLink RX4 97 "WaveWalk$Walk" "wave" "LWaveWalk$Wave;") (by decide +kernel)
  have lk108 := C.2.2.2.1 (.fieldLink RX4 108 "WaveWalk$Wave" "time" "I") (by decide +kernel)
  have hinX2 : ∀ w ∈ wsX20, w ∈ wsX4_step := by decide +kernel
  have hinX3 : ∀ w ∈ wsX30, w ∈ wsX4_step := by decide +kernel
  have hl : lv_has ls 6 [(0, .ref (ad 0)), (1, .int x), (2, .int xn)] := hl
  have h6 := hA.1
  have h12 := hA.2.1
  have h0L : 0 ∈ L := hS.1 0 (by omega)
  have h1L : 1 ∈ L := hS.1 1 (by omega)
  have h2L : 2 ∈ L := hS.1 2 (by omega)
  have hV3 := hS.trial
  have hC5 := hS.cls
  refine lv_aload_n hx hb dX4_step_0 rfl (lv_at hl 0 rfl) ?_
  refine lv_iload_n hx hb dX4_step_1 rfl (lv_at hl 1 rfl) ?_
  refine p_xVr C hml hg hW (c_X4_walkOf l hst D cy L ad G I J cn cw (aNt σ) hS h6 h12 x) (cwV 1 C.2.2.2.1 gX4_step_X4_walkOf rfl rfl rfl (by decide +kernel) ⟨Nat.le_of_ble_eq_true rfl, Nat.le_of_ble_eq_true rfl⟩) (p_recv C hW h0L (pF_4 (by decide)) rfl) rfl hl.1 rfl (Nat.le_of_ble_eq_true rfl) dX4_step_2 (Nat.le_of_ble_eq_true rfl) (Nat.le_of_ble_eq_true rfl) (fun E ce q9 H locs hW hp h1 h2 h3 => thr E ce q9 H locs _ _ _ _ _ (Nat.le_of_ble_eq_true rfl) (Nat.le_of_ble_eq_true rfl) hW (Or.inl ⟨hp.1, by simp only [spStep, hp.2]⟩) h1 h2 h3) (fun v1 I2 J3 H locs hp hW => ?_)
  obtain ⟨⟨j, hj, hq⟩, hI, hJ⟩ := hp
  subst v1
  subst I2
  subst J3
  obtain ⟨hjl, -⟩ := ixN_some hj (by omega)
  have wk := hS.2.2.2.2.2.2.2.2.2.2.2 j hjl
  have hV := hS.wave hjl h12
  obtain ⟨wl1, wl2, wl3, wl4⟩ := hA.2.2.2 j hjl
  obtain ⟨wd1, wd2, wd3⟩ := id (hD.2.2.2 j hjl)
  have hN := hS.net wl1 h6
  have hO := hA.2.2.1 _ wl1
  have hH := hD.nHas wl1
  obtain ⟨po1, po2, po3, po4⟩ := id hO
  obtain ⟨nh0, nh1, nh2, nh3, nh4, nh5⟩ := id hH
  refine lv_astore_n (lv' := [(3, .ref (ad (26 + 3 * j))), (0, .ref (ad 0)), (1, .int x), (2, .int xn)]) hx hb dX4_step_5 rfl hl (by decide) rfl (fun ls hl => ?_)
  refine lv_iload_n hx hb dX4_step_6 rfl (lv_at hl 3 rfl) ?_
  refine p_xSv C hml hg hW (c_X4_needSteps l hst D cy L ad G I J xn) (va_cwS 1 C.2.2.2.1 gX4_step_X4_needSteps rfl rfl rfl (by decide +kernel) ⟨Nat.le_of_ble_eq_true rfl, Nat.le_of_ble_eq_true rfl⟩) rfl hl.1 rfl (Nat.le_of_ble_eq_true rfl) dX4_step_7 (Nat.le_of_ble_eq_true rfl) (Nat.le_of_ble_eq_true rfl) (fun E ce q9 H locs hW hp h1 h2 h3 => thr E ce q9 H locs _ _ _ _ _ (Nat.le_of_ble_eq_true rfl) (Nat.le_of_ble_eq_true rfl) hW (Or.inr ⟨hp.1, by simp only [spStep, hj, hp.2]⟩) h1 h2 h3) (fun I4 J5 H locs hp hW => ?_)
  obtain ⟨⟨k, hk⟩, hI, hJ⟩ := hp
  subst I4
  subst J5
  obtain ⟨hkl, hke⟩ := ixN_some hk (by omega)
  subst hke
  refine lv_aload_n hx hb dX4_step_10 rfl (lv_at hl 0 rfl) ?_
  refine g_X2_2 C hinX2 hW wk.1 (kd_w (by omega)) wk.2.2.2.2.1 lk97 dX4_step_11 ?_
  refine lv_astore (lv' := [(4, .ref (ad (27 + 3 * j))), (3, .ref (ad (26 + 3 * j))), (0, .ref (ad 0)), (1, .int x), (2, .int (nI k))]) hx hb dX4_step_14 hl (by decide) rfl (fun ls hl => ?_)
  refine lv_aload hx hb dX4_step_16 (lv_at hl 0 rfl) ?_
  refine p_cVl C hml hg hW (c_X3_squares l D cy L ad G I J (27 + 3 * j) (28 + 3 * j) hV) (cwV 0 C.2.2.2.1 gX4_step_X3_squares rfl rfl rfl (by decide +kernel) ⟨Nat.le_of_ble_eq_true rfl, Nat.le_of_ble_eq_true rfl⟩) (p_recv C hW hV.1 (pF_3 hV.2.1) rfl) rfl hl.1 rfl (Nat.le_of_ble_eq_true rfl) dX4_step_18 (Nat.le_of_ble_eq_true rfl) (Nat.le_of_ble_eq_true rfl) (fun v6 I7 J8 H locs hp hW => ?_)
  obtain ⟨hv, hI, hJ⟩ := hp
  subst v6
  subst I7
  subst J8
  refine w_top (y := .long (sqs (aWv σ j))) (by rw [wd3]) ?_
  refine lv_lconst (v := 0) hx hb dX4_step_21 (by decide) ?_
  refine l_eq (tgt := 39) hx hb dX4_step_22 dX4_step_23 (by decide) (fun hc_9 => ?_) (fun hc_9 => ?_)
  · skip
    refine lv_iconst (v := (-1)) hx hb dX4_step_39 (by decide) ?_
    have hsp : spStep cw σ x (nI k) = (0, -1, σ) := by simp only [spStep, hj, hk]; rw [if_pos (Or.inl hc_9)]
    exact ret _ _ _ _ _ _ _ _ _ (Nat.le_of_ble_eq_true rfl) (Nat.le_of_ble_eq_true rfl) hW (by unfold pst; rw [hsp]; exact ⟨rfl, (by decide : (-1 : Int64) = (-1 : Int32).toInt64), hD, frm.rf I J⟩) dX4_step_40
  · skip
    refine lv_iload_n hx hb dX4_step_26 rfl (lv_at hl 4 rfl) ?_
    refine lv_aload hx hb dX4_step_27 (lv_at hl 0 rfl) ?_
    refine lv_aload_n hx hb dX4_step_29 rfl (lv_at hl 1 rfl) ?_
    refine g_X2_1 C hinX2 hW wk.1 (kd_w (by omega)) wk.2.2.2.1 lk89 dX4_step_30 ?_
    refine p_cVi C hml hg hW (c_X3_stepsLeft l D cy L ad G I J (27 + 3 * j) (28 + 3 * j) hV (8 + 3 * aNt σ j) (9 + 3 * aNt σ j) (10 + 3 * aNt σ j) hN (aPl σ (aNt σ j)) (aDr σ (aNt σ j)) nh0 nh1 po2 po3 nh2 (aTm σ j) wd2 wl2) (cwV 1 C.2.2.2.1 gX4_step_X3_stepsLeft rfl rfl rfl (by decide +kernel) ⟨Nat.le_of_ble_eq_true rfl, Nat.le_of_ble_eq_true rfl⟩) (p_recv C hW hV.1 (pF_3 hV.2.1) rfl) rfl hl.1 rfl (Nat.le_of_ble_eq_true rfl) dX4_step_33 (Nat.le_of_ble_eq_true rfl) (Nat.le_of_ble_eq_true rfl) (fun v10 I11 J12 H locs hp hW => ?_)
    obtain ⟨hv, hI, hJ⟩ := hp
    subst v10
    subst I11
    subst J12
    refine w_top (y := .int (nI (lf σ j))) (by unfold lf; rw [nh3, wd3]) ?_
    have hlf : lf σ j ≤ 60 - aTm σ j := left_le _ _ _ _
    refine n_icmp_le (tgt := 41) hx hb (by omega) (by omega) dX4_step_36 (by decide) (fun hc_13 => ?_) (fun hc_13 => ?_)
    · skip
      refine lv_iconst (v := nI 0) hx hb dX4_step_41 (by decide) ?_
      refine lv_istore (lv' := [(5, .int (nI 0)), (4, .ref (ad (27 + 3 * j))), (3, .ref (ad (26 + 3 * j))), (0, .ref (ad 0)), (1, .int x), (2, .int (nI k))]) hx hb dX4_step_42 hl (by decide) rfl (fun ls hl => ?_)
      have lp44 : ∀ (nn : Nat) (a : Nat), (a ≤ k) → (k + 1 ≤ a + nn) → ∀ (H : Heap) (locs : List Loc), Wd D cy A s.heap H locs L ad G (va_up I (27 + 3 * j) (upd (I (27 + 3 * j)) 1 (nI (aTm σ j + a)))) (va_up J (28 + 3 * j) (itS (stp σ (aNt σ j)) a (aWv σ j))) → ∀ (ls : Array Slot), lv_has ls 6 [(0, .ref (ad 0)), (2, .int (nI k)), (3, .ref (ad (26 + 3 * j))), (4, .ref (ad (27 + 3 * j))), (5, .int (nI a))] → W p l e rmX4_step s m args below meth c H locs ((((0 + rmX4_walkOf.cells) + rmX4_needSteps.cells) + rmX3_squares.cells) + rmX3_stepsLeft.cells) ((((0 + rmX4_walkOf.slots) + rmX4_needSteps.slots) + rmX3_squares.slots) + rmX3_stepsLeft.slots) Q (F0 m 44 ls []) := by
        intro nn
        induction nn with
        | zero => intros; exfalso; omega
        | succ nn ih44 =>
          intro a ha hf H locs hW ls hl
          refine lv_iload hx hb dX4_step_44 (lv_at hl 4 rfl) ?_
          refine lv_iload_n hx hb dX4_step_46 rfl (lv_at hl 1 rfl) ?_
          refine n_icmp_ge (tgt := 65) hx hb (by omega) (by omega) dX4_step_47 (by decide) (fun hc_14 => ?_) (fun hc_14 => ?_)
          · skip
            refine lv_aload hx hb dX4_step_65 (lv_at hl 3 rfl) ?_
            refine g_X3_1 C hinX3 hW hV.1 hV.2.1 lk108 dX4_step_67 ?_
            refine w_top (y := .int (nI (aTm σ j + a))) (by rw [va_up_self]; rfl) ?_
            have hak : a = k := by omega
            subst hak
            have hsp : spStep cw σ x (nI a) = (0, lN (aTm σ j + a), sWv σ j (itS (stp σ (aNt σ j)) a (aWv σ j)) (aTm σ j + a)) := by simp only [spStep, hj, hk]; rw [if_neg (fun z => z.elim hc_9 (by omega))]
            exact ret _ _ _ _ _ _ _ _ _ (Nat.le_of_ble_eq_true rfl) (Nat.le_of_ble_eq_true rfl) hW (by unfold pst; rw [hsp]; exact ⟨rfl, (nI_l (by omega)).symm, hD.wv h6 h12 hjl _ _, frm.wv (by omega) _ _⟩) dX4_step_70
          · skip
            refine lv_aload hx hb dX4_step_50 (lv_at hl 3 rfl) ?_
            refine lv_aload_n hx hb dX4_step_52 rfl (lv_at hl 2 rfl) ?_
            refine g_X2_1 C hinX2 hW wk.1 (kd_w (by omega)) wk.2.2.2.1 lk89 dX4_step_53 ?_
            refine p_cVv C hml hg hW (d_do hV hN hH ⟨by omega, by omega, by omega, by omega⟩ po2 po3 po4 (aTm σ j + a) (by omega) (itS (stp σ (aNt σ j)) a (aWv σ j))) (cwV 1 C.2.2.2.1 gX4_step_X3_doStep rfl rfl rfl (by decide +kernel) ⟨Nat.le_of_ble_eq_true rfl, Nat.le_of_ble_eq_true rfl⟩) (p_recv C hW hV.1 (pF_3 hV.2.1) rfl) rfl hl.1 rfl (Nat.le_of_ble_eq_true rfl) dX4_step_56 (Nat.le_of_ble_eq_true rfl) (Nat.le_of_ble_eq_true rfl) (fun I15 J16 H locs hp hW => ?_)
            obtain ⟨hI, hJ⟩ := hp
            subst I15
            subst J16
            refine lv_iinc (v := nI (a + 1)) (lv' := [(5, .int (nI (a + 1))), (0, .ref (ad 0)), (2, .int (nI k)), (3, .ref (ad (26 + 3 * j))), (4, .ref (ad (27 + 3 * j)))]) hx hb dX4_step_59 hl (k := 4) rfl (nI_inc _) (by decide) rfl (fun ls hl => ?_)
            refine lv_goto (tgt := 44) hx hb dX4_step_62 (by decide) ?_
            exact ih44 (a + 1) (by omega) (by omega) _ _ hW ls (lv_sub hl [1, 2, 3, 4, 0] rfl)
      have hW : Wd D cy A s.heap H locs L ad G (iS I (27 + 3 * j) (aTm σ j)) (jS J (28 + 3 * j) (itS (stp σ (aNt σ j)) 0 (aWv σ j))) := by
        rw [iS_0 wd2, show jS J (28 + 3 * j) (itS (stp σ (aNt σ j)) 0 (aWv σ j)) = J from by unfold jS itS; rw [← wd3, up_same]]
        exact hW
      exact lp44 (k + 1) 0 (by omega) (by omega) _ _ hW ls (lv_sub hl [3, 5, 2, 1, 0] rfl)
    · skip
      refine lv_iconst (v := (-1)) hx hb dX4_step_39 (by decide) ?_
      have hsp : spStep cw σ x (nI k) = (0, -1, σ) := by simp only [spStep, hj, hk]; rw [if_pos (Or.inr hc_13)]
      exact ret _ _ _ _ _ _ _ _ _ (Nat.le_of_ble_eq_true rfl) (Nat.le_of_ble_eq_true rfl) hW (by unfold pst; rw [hsp]; exact ⟨rfl, (by decide : (-1 : Int64) = (-1 : Int32).toInt64), hD, frm.rf I J⟩) dX4_step_40
abbrev rmX4_back : Room := { frames := 7, cells := 2, slots := 12, locals := 104 }
set_option maxHeartbeats 4000000 in
set_option maxRecDepth 100000 in
theorem c_X4_back (l : Launch) (hst : l.stackTraces = false) (D : va_G) (cy : Nat → ClassId) (L : List Nat) (ad : Nat → Nat) (G : mG) (I : mI) (J : mJ) (cn cw : Nat) (σ : Ab) (hS : cSh L G cn cw (aNt σ)) (hA : aOk cn cw σ) (hD : cDt cn cw σ I J) (x xn : Int32) : pXet l yX4_back wsX4_back rmX4_back D cy L ad G I J [.ref (ad 0), .int x, .int xn] (qI (fun v I' J' => pst (spBack cw σ x xn) v.toInt64 cn cw I I' J J') D cy L ad G) (pxs (spBack cw σ x xn)) := by
  refine pXet.ofI (cc := cX4_back) (maxL := 6) (by decide +kernel) rfl (Nat.le_of_ble_eq_true rfl) ?_
  intro p e R s m args below meth c A Q C hml hR hg ret thr hQ hlk hnx hW ls hl
  subst hR
  have C : Cx p s m args c cX4_back RX4 wsX4_back D cy A := C
  have hx := C.1
  have hb := C.2.1
  have lk89 := C.2.2.2.1 (.fieldLink RX4 89 "WaveWalk$Walk" "net" "LWaveWalk$Net;") (by decide +kernel)
  have lk97 := C.2.2.2.1 (.fieldLink RX4 97 "WaveWalk$Walk" "wave" "LWaveWalk$Wave;") (by decide +kernel)
  have lk108 := C.2.2.2.1 (.fieldLink RX4 108 "WaveWalk$Wave" "time" "I") (by decide +kernel)
  have hinX2 : ∀ w ∈ wsX20, w ∈ wsX4_back := by decide +kernel
  have hinX3 : ∀ w ∈ wsX30, w ∈ wsX4_back := by decide +kernel
  have hl : lv_has ls 6 [(0, .ref (ad 0)), (1, .int x), (2, .int xn)] := hl
  have h6 := hA.1
  have h12 := hA.2.1
  have h0L : 0 ∈ L := hS.1 0 (by omega)
  have h1L : 1 ∈ L := hS.1 1 (by omega)
  have h2L : 2 ∈ L := hS.1 2 (by omega)
  have hV3 := hS.trial
  have hC5 := hS.cls
  refine lv_aload_n hx hb dX4_back_0 rfl (lv_at hl 0 rfl) ?_
  refine lv_iload_n hx hb dX4_back_1 rfl (lv_at hl 1 rfl) ?_
  refine p_xVr C hml hg hW (c_X4_walkOf l hst D cy L ad G I J cn cw (aNt σ) hS h6 h12 x) (cwV 1 C.2.2.2.1 gX4_back_X4_walkOf rfl rfl rfl (by decide +kernel) ⟨Nat.le_of_ble_eq_true rfl, Nat.le_of_ble_eq_true rfl⟩) (p_recv C hW h0L (pF_4 (by decide)) rfl) rfl hl.1 rfl (Nat.le_of_ble_eq_true rfl) dX4_back_2 (Nat.le_of_ble_eq_true rfl) (Nat.le_of_ble_eq_true rfl) (fun E ce q9 H locs hW hp h1 h2 h3 => thr E ce q9 H locs _ _ _ _ _ (Nat.le_of_ble_eq_true rfl) (Nat.le_of_ble_eq_true rfl) hW (Or.inl ⟨hp.1, by simp only [spBack, hp.2]⟩) h1 h2 h3) (fun v1 I2 J3 H locs hp hW => ?_)
  obtain ⟨⟨j, hj, hq⟩, hI, hJ⟩ := hp
  subst v1
  subst I2
  subst J3
  obtain ⟨hjl, -⟩ := ixN_some hj (by omega)
  have wk := hS.2.2.2.2.2.2.2.2.2.2.2 j hjl
  have hV := hS.wave hjl h12
  obtain ⟨wl1, wl2, wl3, wl4⟩ := hA.2.2.2 j hjl
  obtain ⟨wd1, wd2, wd3⟩ := id (hD.2.2.2 j hjl)
  have hN := hS.net wl1 h6
  have hO := hA.2.2.1 _ wl1
  have hH := hD.nHas wl1
  obtain ⟨po1, po2, po3, po4⟩ := id hO
  obtain ⟨nh0, nh1, nh2, nh3, nh4, nh5⟩ := id hH
  refine lv_astore_n (lv' := [(3, .ref (ad (26 + 3 * j))), (0, .ref (ad 0)), (1, .int x), (2, .int xn)]) hx hb dX4_back_5 rfl hl (by decide) rfl (fun ls hl => ?_)
  refine lv_iload_n hx hb dX4_back_6 rfl (lv_at hl 3 rfl) ?_
  refine p_xSv C hml hg hW (c_X4_needSteps l hst D cy L ad G I J xn) (va_cwS 1 C.2.2.2.1 gX4_back_X4_needSteps rfl rfl rfl (by decide +kernel) ⟨Nat.le_of_ble_eq_true rfl, Nat.le_of_ble_eq_true rfl⟩) rfl hl.1 rfl (Nat.le_of_ble_eq_true rfl) dX4_back_7 (Nat.le_of_ble_eq_true rfl) (Nat.le_of_ble_eq_true rfl) (fun E ce q9 H locs hW hp h1 h2 h3 => thr E ce q9 H locs _ _ _ _ _ (Nat.le_of_ble_eq_true rfl) (Nat.le_of_ble_eq_true rfl) hW (Or.inr ⟨hp.1, by simp only [spBack, hj, hp.2]⟩) h1 h2 h3) (fun I4 J5 H locs hp hW => ?_)
  obtain ⟨⟨k, hk⟩, hI, hJ⟩ := hp
  subst I4
  subst J5
  obtain ⟨hkl, hke⟩ := ixN_some hk (by omega)
  subst hke
  refine lv_aload_n hx hb dX4_back_10 rfl (lv_at hl 0 rfl) ?_
  refine g_X2_2 C hinX2 hW wk.1 (kd_w (by omega)) wk.2.2.2.2.1 lk97 dX4_back_11 ?_
  refine lv_astore (lv' := [(4, .ref (ad (27 + 3 * j))), (3, .ref (ad (26 + 3 * j))), (0, .ref (ad 0)), (1, .int x), (2, .int (nI k))]) hx hb dX4_back_14 hl (by decide) rfl (fun ls hl => ?_)
  refine lv_aload hx hb dX4_back_16 (lv_at hl 0 rfl) ?_
  refine g_X3_1 C hinX3 hW hV.1 hV.2.1 lk108 dX4_back_18 ?_
  refine w_top (y := .int (nI (aTm σ j))) (by rw [wd2]) ?_
  refine lv_iload_n hx hb dX4_back_21 rfl (lv_at hl 4 rfl) ?_
  refine n_icmp_ge (tgt := 27) hx hb (by omega) (by omega) dX4_back_22 (by decide) (fun hc_6 => ?_) (fun hc_6 => ?_)
  · skip
    refine lv_iconst (v := nI 0) hx hb dX4_back_27 (by decide) ?_
    refine lv_istore (lv' := [(5, .int (nI 0)), (4, .ref (ad (27 + 3 * j))), (3, .ref (ad (26 + 3 * j))), (0, .ref (ad 0)), (1, .int x), (2, .int (nI k))]) hx hb dX4_back_28 hl (by decide) rfl (fun ls hl => ?_)
    have lp30 : ∀ (nn : Nat) (a : Nat), (a ≤ k) → (k + 1 ≤ a + nn) → ∀ (H : Heap) (locs : List Loc), Wd D cy A s.heap H locs L ad G (va_up I (27 + 3 * j) (upd (I (27 + 3 * j)) 1 (nI (aTm σ j - a)))) (va_up J (28 + 3 * j) (itS (und σ (aNt σ j)) a (aWv σ j))) → ∀ (ls : Array Slot), lv_has ls 6 [(0, .ref (ad 0)), (2, .int (nI k)), (3, .ref (ad (26 + 3 * j))), (4, .ref (ad (27 + 3 * j))), (5, .int (nI a))] → W p l e rmX4_back s m args below meth c H locs ((0 + rmX4_walkOf.cells) + rmX4_needSteps.cells) ((0 + rmX4_walkOf.slots) + rmX4_needSteps.slots) Q (F0 m 30 ls []) := by
      intro nn
      induction nn with
      | zero => intros; exfalso; omega
      | succ nn ih30 =>
        intro a ha hf H locs hW ls hl
        refine lv_iload hx hb dX4_back_30 (lv_at hl 4 rfl) ?_
        refine lv_iload_n hx hb dX4_back_32 rfl (lv_at hl 1 rfl) ?_
        refine n_icmp_ge (tgt := 51) hx hb (by omega) (by omega) dX4_back_33 (by decide) (fun hc_7 => ?_) (fun hc_7 => ?_)
        · skip
          refine lv_aload hx hb dX4_back_51 (lv_at hl 3 rfl) ?_
          refine g_X3_1 C hinX3 hW hV.1 hV.2.1 lk108 dX4_back_53 ?_
          refine w_top (y := .int (nI (aTm σ j - a))) (by rw [va_up_self]; rfl) ?_
          have hak : a = k := by omega
          subst hak
          have hsp : spBack cw σ x (nI a) = (0, lN (aTm σ j - a), sWv σ j (itS (und σ (aNt σ j)) a (aWv σ j)) (aTm σ j - a)) := by simp only [spBack, hj, hk]; rw [if_neg (by omega)]
          exact ret _ _ _ _ _ _ _ _ _ (Nat.le_of_ble_eq_true rfl) (Nat.le_of_ble_eq_true rfl) hW (by unfold pst; rw [hsp]; exact ⟨rfl, (nI_l (by omega)).symm, hD.wv h6 h12 hjl _ _, frm.wv (by omega) _ _⟩) dX4_back_56
        · skip
          refine lv_aload hx hb dX4_back_36 (lv_at hl 3 rfl) ?_
          refine lv_aload_n hx hb dX4_back_38 rfl (lv_at hl 2 rfl) ?_
          refine g_X2_1 C hinX2 hW wk.1 (kd_w (by omega)) wk.2.2.2.1 lk89 dX4_back_39 ?_
          refine p_cVv C hml hg hW (d_un hV hN hH ⟨by omega, by omega, by omega, by omega⟩ po2 po3 po4 (aTm σ j - a) (by omega) (by omega) (itS (und σ (aNt σ j)) a (aWv σ j))) (cwV 1 C.2.2.2.1 gX4_back_X3_undoStep rfl rfl rfl (by decide +kernel) ⟨Nat.le_of_ble_eq_true rfl, Nat.le_of_ble_eq_true rfl⟩) (p_recv C hW hV.1 (pF_3 hV.2.1) rfl) rfl hl.1 rfl (Nat.le_of_ble_eq_true rfl) dX4_back_42 (Nat.le_of_ble_eq_true rfl) (Nat.le_of_ble_eq_true rfl) (fun I8 J9 H locs hp hW => ?_)
          obtain ⟨hI, hJ⟩ := hp
          subst I8
          subst J9
          rw [show aTm σ j - a - 1 = aTm σ j - (a + 1) by omega] at hW
          refine lv_iinc (v := nI (a + 1)) (lv' := [(5, .int (nI (a + 1))), (0, .ref (ad 0)), (2, .int (nI k)), (3, .ref (ad (26 + 3 * j))), (4, .ref (ad (27 + 3 * j)))]) hx hb dX4_back_45 hl (k := 4) rfl (nI_inc _) (by decide) rfl (fun ls hl => ?_)
          refine lv_goto (tgt := 30) hx hb dX4_back_48 (by decide) ?_
          exact ih30 (a + 1) (by omega) (by omega) _ _ hW ls (lv_sub hl [1, 2, 3, 4, 0] rfl)
    have hW : Wd D cy A s.heap H locs L ad G (iS I (27 + 3 * j) (aTm σ j)) (jS J (28 + 3 * j) (itS (und σ (aNt σ j)) 0 (aWv σ j))) := by
      rw [iS_0 wd2, show jS J (28 + 3 * j) (itS (und σ (aNt σ j)) 0 (aWv σ j)) = J from by unfold jS itS; rw [← wd3, up_same]]
      exact hW
    exact lp30 (k + 1) 0 (by omega) (by omega) _ _ hW ls (lv_sub hl [3, 5, 2, 1, 0] rfl)
  · skip
    refine lv_iconst (v := (-1)) hx hb dX4_back_25 (by decide) ?_
    have hsp : spBack cw σ x (nI k) = (0, -1, σ) := by simp only [spBack, hj, hk]; rw [if_pos hc_6]
    exact ret _ _ _ _ _ _ _ _ _ (Nat.le_of_ble_eq_true rfl) (Nat.le_of_ble_eq_true rfl) hW (by unfold pst; rw [hsp]; exact ⟨rfl, (by decide : (-1 : Int64) = (-1 : Int32).toInt64), hD, frm.rf I J⟩) dX4_back_26
abbrev rmX4_arrives : Room := { frames := 7, cells := 3, slots := 18, locals := 104 }
set_option maxHeartbeats 4000000 in
set_option maxRecDepth 100000 in
theorem c_X4_arrives (l : Launch) (hst : l.stackTraces = false) (D : va_G) (cy : Nat → ClassId) (L : List Nat) (ad : Nat → Nat) (G : mG) (I : mI) (J : mJ) (cn cw : Nat) (σ : Ab) (hS : cSh L G cn cw (aNt σ)) (hA : aOk cn cw σ) (hD : cDt cn cw σ I J) (x xp xn : Int32) : pXet l yX4_arrives wsX4_arrives rmX4_arrives D cy L ad G I J [.ref (ad 0), .int x, .int xp, .int xn] (qI (fun v I' J' => pst (spArr cw σ x xp xn) v.toInt64 cn cw I I' J J') D cy L ad G) (pxs (spArr cw σ x xp xn)) := by
  refine pXet.ofI (cc := cX4_arrives) (maxL := 7) (by decide +kernel) rfl (Nat.le_of_ble_eq_true rfl) ?_
  intro p e R s m args below meth c A Q C hml hR hg ret thr hQ hlk hnx hW ls hl
  subst hR
  have C : Cx p s m args c cX4_arrives RX4 wsX4_arrives D cy A := C
  have hx := C.1
  have hb := C.2.1
  have lk24 := C.2.2.2.1 (.fieldLink RX4 24 "WaveWalk" "trial" "LWaveWalk$Wave;") (by decide +kernel)
  have lk89 := C.2.2.2.1 (.fieldLink RX4 89 "WaveWalk$Walk" "net" "LWaveWalk$Net;") (by decide +kernel)
  have lk97 := C.2.2.2.1 (.fieldLink RX4 97 "WaveWalk$Walk" "wave" "LWaveWalk$Wave;") (by decide +kernel)
  have hinX2 : ∀ w ∈ wsX20, w ∈ wsX4_arrives := by decide +kernel
  have hinX4 : ∀ w ∈ wsX40, w ∈ wsX4_arrives := by decide +kernel
  have hl : lv_has ls 7 [(0, .ref (ad 0)), (1, .int x), (2, .int xp), (3, .int xn)] := hl
  have h6 := hA.1
  have h12 := hA.2.1
  have h0L : 0 ∈ L := hS.1 0 (by omega)
  have h1L : 1 ∈ L := hS.1 1 (by omega)
  have h2L : 2 ∈ L := hS.1 2 (by omega)
  have hV3 := hS.trial
  have hC5 := hS.cls
  refine lv_aload_n hx hb dX4_arrives_0 rfl (lv_at hl 0 rfl) ?_
  refine lv_iload_n hx hb dX4_arrives_1 rfl (lv_at hl 1 rfl) ?_
  refine p_xVr C hml hg hW (c_X4_walkOf l hst D cy L ad G I J cn cw (aNt σ) hS h6 h12 x) (cwV 1 C.2.2.2.1 gX4_arrives_X4_walkOf rfl rfl rfl (by decide +kernel) ⟨Nat.le_of_ble_eq_true rfl, Nat.le_of_ble_eq_true rfl⟩) (p_recv C hW h0L (pF_4 (by decide)) rfl) rfl hl.1 rfl (Nat.le_of_ble_eq_true rfl) dX4_arrives_2 (Nat.le_of_ble_eq_true rfl) (Nat.le_of_ble_eq_true rfl) (fun E ce q9 H locs hW hp h1 h2 h3 => thr E ce q9 H locs _ _ _ _ _ (Nat.le_of_ble_eq_true rfl) (Nat.le_of_ble_eq_true rfl) hW (Or.inl ⟨hp.1, by simp only [spArr, hp.2]⟩) h1 h2 h3) (fun v1 I2 J3 H locs hp hW => ?_)
  obtain ⟨⟨j, hj, hq⟩, hI, hJ⟩ := hp
  subst v1
  subst I2
  subst J3
  obtain ⟨hjl, -⟩ := ixN_some hj (by omega)
  have wk := hS.2.2.2.2.2.2.2.2.2.2.2 j hjl
  have hV := hS.wave hjl h12
  obtain ⟨wl1, wl2, wl3, wl4⟩ := hA.2.2.2 j hjl
  obtain ⟨wd1, wd2, wd3⟩ := id (hD.2.2.2 j hjl)
  have hN := hS.net wl1 h6
  have hO := hA.2.2.1 _ wl1
  have hH := hD.nHas wl1
  obtain ⟨po1, po2, po3, po4⟩ := id hO
  obtain ⟨nh0, nh1, nh2, nh3, nh4, nh5⟩ := id hH
  refine lv_astore (lv' := [(4, .ref (ad (26 + 3 * j))), (0, .ref (ad 0)), (1, .int x), (2, .int xp), (3, .int xn)]) hx hb dX4_arrives_5 hl (by decide) rfl (fun ls hl => ?_)
  refine lv_aload hx hb dX4_arrives_7 (lv_at hl 0 rfl) ?_
  refine g_X2_1 C hinX2 hW wk.1 (kd_w (by omega)) wk.2.2.2.1 lk89 dX4_arrives_9 ?_
  refine lv_iload_n hx hb dX4_arrives_12 rfl (lv_at hl 3 rfl) ?_
  refine p_xSv C hml hg hW (c_X4_needPlace l hst D cy L ad G I J (8 + 3 * aNt σ j) (9 + 3 * aNt σ j) (10 + 3 * aNt σ j) hN (aPl σ (aNt σ j)) nh0 po2 xp) (va_cwS 2 C.2.2.2.1 gX4_arrives_X4_needPlace rfl rfl rfl (by decide +kernel) ⟨Nat.le_of_ble_eq_true rfl, Nat.le_of_ble_eq_true rfl⟩) rfl hl.1 rfl (Nat.le_of_ble_eq_true rfl) dX4_arrives_13 (Nat.le_of_ble_eq_true rfl) (Nat.le_of_ble_eq_true rfl) (fun E ce q9 H locs hW hp h1 h2 h3 => thr E ce q9 H locs _ _ _ _ _ (Nat.le_of_ble_eq_true rfl) (Nat.le_of_ble_eq_true rfl) hW (Or.inl ⟨hp.1, by simp only [spArr, hj, hp.2]⟩) h1 h2 h3) (fun I4 J5 H locs hp hW => ?_)
  obtain ⟨⟨q, hq⟩, hI, hJ⟩ := hp
  subst I4
  subst J5
  obtain ⟨hql, hqe⟩ := ixN_some hq (by omega)
  subst hqe
  refine lv_iload_n hx hb dX4_arrives_16 rfl (lv_at hl 4 rfl) ?_
  refine p_xSv C hml hg hW (c_X4_needSteps l hst D cy L ad G I J xn) (va_cwS 1 C.2.2.2.1 gX4_arrives_X4_needSteps rfl rfl rfl (by decide +kernel) ⟨Nat.le_of_ble_eq_true rfl, Nat.le_of_ble_eq_true rfl⟩) rfl hl.1 rfl (Nat.le_of_ble_eq_true rfl) dX4_arrives_17 (Nat.le_of_ble_eq_true rfl) (Nat.le_of_ble_eq_true rfl) (fun E ce q9 H locs hW hp h1 h2 h3 => thr E ce q9 H locs _ _ _ _ _ (Nat.le_of_ble_eq_true rfl) (Nat.le_of_ble_eq_true rfl) hW (Or.inr ⟨hp.1, by simp only [spArr, hj, hq, hp.2]⟩) h1 h2 h3) (fun I6 J7 H locs hp hW => ?_)
  obtain ⟨⟨k, hk⟩, hI, hJ⟩ := hp
  subst I6
  subst J7
  obtain ⟨hkl, hke⟩ := ixN_some hk (by omega)
  subst hke
  refine lv_iload_n hx hb dX4_arrives_20 rfl (lv_at hl 4 rfl) ?_
  refine lv_aload hx hb dX4_arrives_21 (lv_at hl 0 rfl) ?_
  refine g_X2_2 C hinX2 hW wk.1 (kd_w (by omega)) wk.2.2.2.2.1 lk97 dX4_arrives_23 ?_
  refine lv_aload hx hb dX4_arrives_26 (lv_at hl 0 rfl) ?_
  refine g_X2_1 C hinX2 hW wk.1 (kd_w (by omega)) wk.2.2.2.1 lk89 dX4_arrives_28 ?_
  refine p_cVi C hml hg hW (c_X3_stepsLeft l D cy L ad G I J (27 + 3 * j) (28 + 3 * j) hV (8 + 3 * aNt σ j) (9 + 3 * aNt σ j) (10 + 3 * aNt σ j) hN (aPl σ (aNt σ j)) (aDr σ (aNt σ j)) nh0 nh1 po2 po3 nh2 (aTm σ j) wd2 wl2) (cwV 1 C.2.2.2.1 gX4_arrives_X3_stepsLeft rfl rfl rfl (by decide +kernel) ⟨Nat.le_of_ble_eq_true rfl, Nat.le_of_ble_eq_true rfl⟩) (p_recv C hW hV.1 (pF_3 hV.2.1) rfl) rfl hl.1 rfl (Nat.le_of_ble_eq_true rfl) dX4_arrives_31 (Nat.le_of_ble_eq_true rfl) (Nat.le_of_ble_eq_true rfl) (fun v8 I9 J10 H locs hp hW => ?_)
  obtain ⟨hv, hI, hJ⟩ := hp
  subst v8
  subst I9
  subst J10
  refine w_top (y := .int (nI (lf σ j))) (by unfold lf; rw [nh3, wd3]) ?_
  have hlf : lf σ j ≤ 60 - aTm σ j := left_le _ _ _ _
  refine va_mmin hx hb (hml.trans hl.1.symm) C.2.2.1 (C.2.2.2.1 (.methodLink RX4 148 Lib.Math.min.name) (by decide +kernel)) (C.2.2.2.1 (.static Lib.Math.min.name) (by decide +kernel)) (C.2.2.2.1 (.initialized "java/lang/Math") (by decide +kernel)) (C.2.2.2.1 (.code Lib.Math.min.name Lib.Math.min.code 2 (some .int)) (by decide +kernel)) (Nat.le_of_ble_eq_true rfl) (Nat.le_of_ble_eq_true rfl) (Nat.le_of_ble_eq_true rfl) (Nat.le_of_ble_eq_true rfl) dX4_arrives_34 ?_
  refine w_top (y := .int (nI (min k (lf σ j)))) (by rw [mn_nI (by omega) (by omega)]) ?_
  refine lv_istore (lv' := [(5, .int (nI (min k (lf σ j)))), (4, .ref (ad (26 + 3 * j))), (0, .ref (ad 0)), (1, .int x), (2, .int (nI q)), (3, .int (nI k))]) hx hb dX4_arrives_37 hl (by decide) rfl (fun ls hl => ?_)
  refine lv_aload_n hx hb dX4_arrives_39 rfl (lv_at hl 2 rfl) ?_
  refine g_X4_2 C hinX4 hW h0L (by decide) hS.2.2.2.1 lk24 dX4_arrives_40 ?_
  refine lv_aload hx hb dX4_arrives_43 (lv_at hl 1 rfl) ?_
  refine g_X2_2 C hinX2 hW wk.1 (kd_w (by omega)) wk.2.2.2.2.1 lk97 dX4_arrives_45 ?_
  refine p_cVv C hml hg hW (c_X3_becomeLike l D cy L ad G I J 3 4 (27 + 3 * j) (28 + 3 * j) hV3 hV) (cwV 1 C.2.2.2.1 gX4_arrives_X3_becomeLike rfl rfl rfl (by decide +kernel) ⟨Nat.le_of_ble_eq_true rfl, Nat.le_of_ble_eq_true rfl⟩) (p_recv C hW hV3.1 (pF_3 hV3.2.1) rfl) rfl hl.1 rfl (Nat.le_of_ble_eq_true rfl) dX4_arrives_48 (Nat.le_of_ble_eq_true rfl) (Nat.le_of_ble_eq_true rfl) (fun I11 J12 H locs hp hW => ?_)
  obtain ⟨hI, hJ⟩ := hp
  rw [wd2] at hI
  rw [wd3] at hJ
  subst I11
  subst J12
  refine lv_iconst (v := nI 0) hx hb dX4_arrives_51 (by decide) ?_
  refine lv_istore (lv' := [(6, .int (nI 0)), (5, .int (nI (min k (lf σ j)))), (4, .ref (ad (26 + 3 * j))), (0, .ref (ad 0)), (1, .int x), (2, .int (nI q)), (3, .int (nI k))]) hx hb dX4_arrives_52 hl (by decide) rfl (fun ls hl => ?_)
  have lp54 : ∀ (nn : Nat) (a : Nat), (a ≤ min k (lf σ j) + 1) → (min k (lf σ j) + 2 ≤ a + nn) → (∀ b, b < a → allAt (itS (stp σ (aNt σ j)) b (aWv σ j)) q = false) → ∀ (H : Heap) (locs : List Loc), Wd D cy A s.heap H locs L ad G (va_up I 3 (upd (I 3) 1 (nI (aTm σ j + (a - 1))))) (va_up J 4 (itS (stp σ (aNt σ j)) (a - 1) (aWv σ j))) → ∀ (ls : Array Slot), lv_has ls 7 [(0, .ref (ad 0)), (2, .int (nI q)), (4, .ref (ad (26 + 3 * j))), (5, .int (nI (min k (lf σ j)))), (6, .int (nI a))] → W p l e rmX4_arrives s m args below meth c H locs (((((0 + rmX4_walkOf.cells) + rmX4_needPlace.cells) + rmX4_needSteps.cells) + rmX3_stepsLeft.cells) + rmX3_becomeLike.cells) (((((0 + rmX4_walkOf.slots) + rmX4_needPlace.slots) + rmX4_needSteps.slots) + rmX3_stepsLeft.slots) + rmX3_becomeLike.slots) Q (F0 m 54 ls []) := by
    intro nn
    induction nn with
    | zero => intros; exfalso; omega
    | succ nn ih54 =>
      intro a ha hf hno H locs hW ls hl
      refine lv_iload hx hb dX4_arrives_54 (lv_at hl 4 rfl) ?_
      refine lv_iload hx hb dX4_arrives_56 (lv_at hl 3 rfl) ?_
      refine n_icmp_gt (tgt := 98) hx hb (by omega) (by omega) dX4_arrives_58 (by decide) (fun hc_13 => ?_) (fun hc_13 => ?_)
      · skip
        refine lv_iconst (v := (-1)) hx hb dX4_arrives_98 (by decide) ?_
        have hsp : spArr cw σ x (nI q) (nI k) = (0, -1, σ) := by simp only [spArr, hj, hq, hk, arrA]; rw [if_neg (by rw [lst_none (fun b hb2 => hno b (by omega))]; omega)]
        exact ret _ _ _ _ _ _ _ _ _ (Nat.le_of_ble_eq_true rfl) (Nat.le_of_ble_eq_true rfl) hW (by unfold pst; rw [hsp]; exact ⟨rfl, (by decide : (-1 : Int64) = (-1 : Int32).toInt64), hD.keep (va_up_ne _ _ (by omega)) (fun r h1 h2 => va_up_ne _ _ (by omega)) (fun r h1 h2 => va_up_ne _ _ (by omega)) h6 h12, fun r hr => ⟨va_up_ne _ _ (by omega), va_up_ne _ _ (by omega)⟩⟩) dX4_arrives_99
      · skip
        refine lv_iload hx hb dX4_arrives_61 (lv_at hl 4 rfl) ?_
        refine lv_if_le (tgt := 78) hx hb dX4_arrives_63 (by decide) (fun hc_14 => ?_) (fun hc_14 => ?_)
        · skip
          have ha0 : a = 0 := by
            rw [Int32.le_iff_toInt_le, nI_toInt (by omega)] at hc_14
            have h00 : (0 : Int32).toInt = 0 := by decide
            omega
          refine lv_aload_n hx hb dX4_arrives_78 rfl (lv_at hl 0 rfl) ?_
          refine g_X4_2 C hinX4 hW h0L (by decide) hS.2.2.2.1 lk24 dX4_arrives_79 ?_
          refine lv_iload_n hx hb dX4_arrives_82 rfl (lv_at hl 1 rfl) ?_
          refine p_cVi C hml hg hW (c_X3_isAllAt l D cy L ad G (va_up I 3 (upd (I 3) 1 (nI (aTm σ j + (a - 1))))) (va_up J 4 (itS (stp σ (aNt σ j)) (a - 1) (aWv σ j))) 3 4 hV3 q (by omega)) (cwV 1 C.2.2.2.1 gX4_arrives_X3_isAllAt rfl rfl rfl (by decide +kernel) ⟨Nat.le_of_ble_eq_true rfl, Nat.le_of_ble_eq_true rfl⟩) (p_recv C hW hV3.1 (pF_3 hV3.2.1) rfl) rfl hl.1 rfl (Nat.le_of_ble_eq_true rfl) dX4_arrives_83 (Nat.le_of_ble_eq_true rfl) (Nat.le_of_ble_eq_true rfl) (fun v15 I16 J17 H locs hp hW => ?_)
          obtain ⟨hv, hI, hJ⟩ := hp
          subst v15
          subst I16
          subst J17
          refine w_top (y := .int (bI (allAt (itS (stp σ (aNt σ j)) a (aWv σ j)) q))) (by rw [va_up_self]; rw [ha0]) ?_
          refine b_if_eq (tgt := 92) hx hb dX4_arrives_86 (by decide) (fun hc_18 => ?_) (fun hc_18 => ?_)
          · skip
            refine lv_iinc (v := nI (a + 1)) (lv' := [(6, .int (nI (a + 1))), (0, .ref (ad 0)), (2, .int (nI q)), (4, .ref (ad (26 + 3 * j))), (5, .int (nI (min k (lf σ j))))]) hx hb dX4_arrives_92 hl (k := 4) rfl (nI_inc _) (by decide) rfl (fun ls hl => ?_)
            refine lv_goto (tgt := 54) hx hb dX4_arrives_95 (by decide) ?_
            have hW : Wd D cy A s.heap H locs L ad G (iS I 3 (aTm σ j + (a + 1 - 1))) (jS J 4 (itS (stp σ (aNt σ j)) (a + 1 - 1) (aWv σ j))) := by
              rw [ha0] at hW ⊢
              exact hW
            exact ih54 (a + 1) (by omega) (by omega) (fun b hb2 => by rcases Nat.lt_or_ge b a with h | h; exact hno b h; rw [show b = a by omega]; exact hc_18) _ _ hW ls (lv_sub hl [1, 2, 3, 4, 0] rfl)
          · skip
            refine lv_iload hx hb dX4_arrives_89 (lv_at hl 4 rfl) ?_
            have hls : lst (fun i => allAt (itS (stp σ (aNt σ j)) i (aWv σ j)) q) (min k (lf σ j) + 1) = a := lst_of (by omega) hno hc_18
            have hsp : spArr cw σ x (nI q) (nI k) = (0, lN a, σ) := by simp only [spArr, hj, hq, hk, arrA, hls]; rw [if_pos (by omega)]
            exact ret _ _ _ _ _ _ _ _ _ (Nat.le_of_ble_eq_true rfl) (Nat.le_of_ble_eq_true rfl) hW (by unfold pst; rw [hsp]; exact ⟨rfl, (nI_l (by omega)).symm, hD.keep (va_up_ne _ _ (by omega)) (fun r h1 h2 => va_up_ne _ _ (by omega)) (fun r h1 h2 => va_up_ne _ _ (by omega)) h6 h12, fun r hr => ⟨va_up_ne _ _ (by omega), va_up_ne _ _ (by omega)⟩⟩) dX4_arrives_91
        · skip
          have ha1 : 1 ≤ a := by
            rw [Int32.le_iff_toInt_le, nI_toInt (by omega)] at hc_14
            have h00 : (0 : Int32).toInt = 0 := by decide
            omega
          refine lv_aload_n hx hb dX4_arrives_66 rfl (lv_at hl 0 rfl) ?_
          refine g_X4_2 C hinX4 hW h0L (by decide) hS.2.2.2.1 lk24 dX4_arrives_67 ?_
          refine lv_aload hx hb dX4_arrives_70 (lv_at hl 2 rfl) ?_
          refine g_X2_1 C hinX2 hW wk.1 (kd_w (by omega)) wk.2.2.2.1 lk89 dX4_arrives_72 ?_
          refine p_cVv C hml hg hW (d_do hV3 hN hH ⟨by omega, by omega, by omega, by omega⟩ po2 po3 po4 (aTm σ j + (a - 1)) (by omega) (itS (stp σ (aNt σ j)) (a - 1) (aWv σ j))) (cwV 1 C.2.2.2.1 gX4_arrives_X3_doStep rfl rfl rfl (by decide +kernel) ⟨Nat.le_of_ble_eq_true rfl, Nat.le_of_ble_eq_true rfl⟩) (p_recv C hW hV3.1 (pF_3 hV3.2.1) rfl) rfl hl.1 rfl (Nat.le_of_ble_eq_true rfl) dX4_arrives_75 (Nat.le_of_ble_eq_true rfl) (Nat.le_of_ble_eq_true rfl) (fun I19 J20 H locs hp hW => ?_)
          obtain ⟨hI, hJ⟩ := hp
          subst I19
          subst J20
          refine lv_aload_n hx hb dX4_arrives_78 rfl (lv_at hl 0 rfl) ?_
          refine g_X4_2 C hinX4 hW h0L (by decide) hS.2.2.2.1 lk24 dX4_arrives_79 ?_
          refine lv_iload_n hx hb dX4_arrives_82 rfl (lv_at hl 1 rfl) ?_
          refine p_cVi C hml hg hW (c_X3_isAllAt l D cy L ad G (va_up I 3 (upd (I 3) 1 (nI (aTm σ j + (a - 1) + 1)))) (va_up J 4 (stepF (aPl σ (aNt σ j)) (aDr σ (aNt σ j)) (aTo σ (aNt σ j)) (aMk σ (aNt σ j)) (itS (stp σ (aNt σ j)) (a - 1) (aWv σ j)))) 3 4 hV3 q (by omega)) (cwV 1 C.2.2.2.1 gX4_arrives_X3_isAllAt rfl rfl rfl (by decide +kernel) ⟨Nat.le_of_ble_eq_true rfl, Nat.le_of_ble_eq_true rfl⟩) (p_recv C hW hV3.1 (pF_3 hV3.2.1) rfl) rfl hl.1 rfl (Nat.le_of_ble_eq_true rfl) dX4_arrives_83 (Nat.le_of_ble_eq_true rfl) (Nat.le_of_ble_eq_true rfl) (fun v21 I22 J23 H locs hp hW => ?_)
          obtain ⟨hv, hI, hJ⟩ := hp
          subst v21
          subst I22
          subst J23
          refine w_top (y := .int (bI (allAt (itS (stp σ (aNt σ j)) a (aWv σ j)) q))) (by rw [va_up_self]; rw [show a = (a - 1) + 1 by omega]; rfl) ?_
          refine b_if_eq (tgt := 92) hx hb dX4_arrives_86 (by decide) (fun hc_24 => ?_) (fun hc_24 => ?_)
          · skip
            refine lv_iinc (v := nI (a + 1)) (lv' := [(6, .int (nI (a + 1))), (0, .ref (ad 0)), (2, .int (nI q)), (4, .ref (ad (26 + 3 * j))), (5, .int (nI (min k (lf σ j))))]) hx hb dX4_arrives_92 hl (k := 4) rfl (nI_inc _) (by decide) rfl (fun ls hl => ?_)
            refine lv_goto (tgt := 54) hx hb dX4_arrives_95 (by decide) ?_
            have hW : Wd D cy A s.heap H locs L ad G (iS I 3 (aTm σ j + (a + 1 - 1))) (jS J 4 (itS (stp σ (aNt σ j)) (a + 1 - 1) (aWv σ j))) := by
              rw [show a + 1 - 1 = (a - 1) + 1 by omega]
              exact hW
            exact ih54 (a + 1) (by omega) (by omega) (fun b hb2 => by rcases Nat.lt_or_ge b a with h | h; exact hno b h; rw [show b = a by omega]; exact hc_24) _ _ hW ls (lv_sub hl [1, 2, 3, 4, 0] rfl)
          · skip
            refine lv_iload hx hb dX4_arrives_89 (lv_at hl 4 rfl) ?_
            have hls : lst (fun i => allAt (itS (stp σ (aNt σ j)) i (aWv σ j)) q) (min k (lf σ j) + 1) = a := lst_of (by omega) hno hc_24
            have hsp : spArr cw σ x (nI q) (nI k) = (0, lN a, σ) := by simp only [spArr, hj, hq, hk, arrA, hls]; rw [if_pos (by omega)]
            exact ret _ _ _ _ _ _ _ _ _ (Nat.le_of_ble_eq_true rfl) (Nat.le_of_ble_eq_true rfl) hW (by unfold pst; rw [hsp]; exact ⟨rfl, (nI_l (by omega)).symm, hD.keep (va_up_ne _ _ (by omega)) (fun r h1 h2 => va_up_ne _ _ (by omega)) (fun r h1 h2 => va_up_ne _ _ (by omega)) h6 h12, fun r hr => ⟨va_up_ne _ _ (by omega), va_up_ne _ _ (by omega)⟩⟩) dX4_arrives_91
  exact lp54 (min k (lf σ j) + 2) 0 (by omega) (by omega) (fun b hb => absurd hb (Nat.not_lt_zero b)) _ _ hW ls (lv_sub hl [3, 5, 2, 1, 0] rfl)
abbrev rmX4_returns : Room := { frames := 7, cells := 2, slots := 12, locals := 104 }
set_option maxHeartbeats 4000000 in
set_option maxRecDepth 100000 in
theorem c_X4_returns (l : Launch) (hst : l.stackTraces = false) (D : va_G) (cy : Nat → ClassId) (L : List Nat) (ad : Nat → Nat) (G : mG) (I : mI) (J : mJ) (cn cw : Nat) (σ : Ab) (hS : cSh L G cn cw (aNt σ)) (hA : aOk cn cw σ) (hD : cDt cn cw σ I J) (x xn : Int32) : pXet l yX4_returns wsX4_returns rmX4_returns D cy L ad G I J [.ref (ad 0), .int x, .int xn] (qI (fun v I' J' => pst (spRet cw σ x xn) v.toInt64 cn cw I I' J J') D cy L ad G) (pxs (spRet cw σ x xn)) := by
  refine pXet.ofI (cc := cX4_returns) (maxL := 6) (by decide +kernel) rfl (Nat.le_of_ble_eq_true rfl) ?_
  intro p e R s m args below meth c A Q C hml hR hg ret thr hQ hlk hnx hW ls hl
  subst hR
  have C : Cx p s m args c cX4_returns RX4 wsX4_returns D cy A := C
  have hx := C.1
  have hb := C.2.1
  have lk24 := C.2.2.2.1 (.fieldLink RX4 24 "WaveWalk" "trial" "LWaveWalk$Wave;") (by decide +kernel)
  have lk89 := C.2.2.2.1 (.fieldLink RX4 89 "WaveWalk$Walk" "net" "LWaveWalk$Net;") (by decide +kernel)
  have lk97 := C.2.2.2.1 (.fieldLink RX4 97 "WaveWalk$Walk" "wave" "LWaveWalk$Wave;") (by decide +kernel)
  have hinX2 : ∀ w ∈ wsX20, w ∈ wsX4_returns := by decide +kernel
  have hinX4 : ∀ w ∈ wsX40, w ∈ wsX4_returns := by decide +kernel
  have hl : lv_has ls 6 [(0, .ref (ad 0)), (1, .int x), (2, .int xn)] := hl
  have h6 := hA.1
  have h12 := hA.2.1
  have h0L : 0 ∈ L := hS.1 0 (by omega)
  have h1L : 1 ∈ L := hS.1 1 (by omega)
  have h2L : 2 ∈ L := hS.1 2 (by omega)
  have hV3 := hS.trial
  have hC5 := hS.cls
  refine lv_aload_n hx hb dX4_returns_0 rfl (lv_at hl 0 rfl) ?_
  refine lv_iload_n hx hb dX4_returns_1 rfl (lv_at hl 1 rfl) ?_
  refine p_xVr C hml hg hW (c_X4_walkOf l hst D cy L ad G I J cn cw (aNt σ) hS h6 h12 x) (cwV 1 C.2.2.2.1 gX4_returns_X4_walkOf rfl rfl rfl (by decide +kernel) ⟨Nat.le_of_ble_eq_true rfl, Nat.le_of_ble_eq_true rfl⟩) (p_recv C hW h0L (pF_4 (by decide)) rfl) rfl hl.1 rfl (Nat.le_of_ble_eq_true rfl) dX4_returns_2 (Nat.le_of_ble_eq_true rfl) (Nat.le_of_ble_eq_true rfl) (fun E ce q9 H locs hW hp h1 h2 h3 => thr E ce q9 H locs _ _ _ _ _ (Nat.le_of_ble_eq_true rfl) (Nat.le_of_ble_eq_true rfl) hW (Or.inl ⟨hp.1, by simp only [spRet, hp.2]⟩) h1 h2 h3) (fun v1 I2 J3 H locs hp hW => ?_)
  obtain ⟨⟨j, hj, hq⟩, hI, hJ⟩ := hp
  subst v1
  subst I2
  subst J3
  obtain ⟨hjl, -⟩ := ixN_some hj (by omega)
  have wk := hS.2.2.2.2.2.2.2.2.2.2.2 j hjl
  have hV := hS.wave hjl h12
  obtain ⟨wl1, wl2, wl3, wl4⟩ := hA.2.2.2 j hjl
  obtain ⟨wd1, wd2, wd3⟩ := id (hD.2.2.2 j hjl)
  have hN := hS.net wl1 h6
  have hO := hA.2.2.1 _ wl1
  have hH := hD.nHas wl1
  obtain ⟨po1, po2, po3, po4⟩ := id hO
  obtain ⟨nh0, nh1, nh2, nh3, nh4, nh5⟩ := id hH
  refine lv_astore_n (lv' := [(3, .ref (ad (26 + 3 * j))), (0, .ref (ad 0)), (1, .int x), (2, .int xn)]) hx hb dX4_returns_5 rfl hl (by decide) rfl (fun ls hl => ?_)
  refine lv_iload_n hx hb dX4_returns_6 rfl (lv_at hl 3 rfl) ?_
  refine p_xSv C hml hg hW (c_X4_needSteps l hst D cy L ad G I J xn) (va_cwS 1 C.2.2.2.1 gX4_returns_X4_needSteps rfl rfl rfl (by decide +kernel) ⟨Nat.le_of_ble_eq_true rfl, Nat.le_of_ble_eq_true rfl⟩) rfl hl.1 rfl (Nat.le_of_ble_eq_true rfl) dX4_returns_7 (Nat.le_of_ble_eq_true rfl) (Nat.le_of_ble_eq_true rfl) (fun E ce q9 H locs hW hp h1 h2 h3 => thr E ce q9 H locs _ _ _ _ _ (Nat.le_of_ble_eq_true rfl) (Nat.le_of_ble_eq_true rfl) hW (Or.inr ⟨hp.1, by simp only [spRet, hj, hp.2]⟩) h1 h2 h3) (fun I4 J5 H locs hp hW => ?_)
  obtain ⟨⟨k, hk⟩, hI, hJ⟩ := hp
  subst I4
  subst J5
  obtain ⟨hkl, hke⟩ := ixN_some hk (by omega)
  subst hke
  refine lv_iload_n hx hb dX4_returns_10 rfl (lv_at hl 3 rfl) ?_
  refine lv_aload_n hx hb dX4_returns_11 rfl (lv_at hl 0 rfl) ?_
  refine g_X2_2 C hinX2 hW wk.1 (kd_w (by omega)) wk.2.2.2.2.1 lk97 dX4_returns_12 ?_
  refine lv_aload_n hx hb dX4_returns_15 rfl (lv_at hl 0 rfl) ?_
  refine g_X2_1 C hinX2 hW wk.1 (kd_w (by omega)) wk.2.2.2.1 lk89 dX4_returns_16 ?_
  refine p_cVi C hml hg hW (c_X3_stepsLeft l D cy L ad G I J (27 + 3 * j) (28 + 3 * j) hV (8 + 3 * aNt σ j) (9 + 3 * aNt σ j) (10 + 3 * aNt σ j) hN (aPl σ (aNt σ j)) (aDr σ (aNt σ j)) nh0 nh1 po2 po3 nh2 (aTm σ j) wd2 wl2) (cwV 1 C.2.2.2.1 gX4_returns_X3_stepsLeft rfl rfl rfl (by decide +kernel) ⟨Nat.le_of_ble_eq_true rfl, Nat.le_of_ble_eq_true rfl⟩) (p_recv C hW hV.1 (pF_3 hV.2.1) rfl) rfl hl.1 rfl (Nat.le_of_ble_eq_true rfl) dX4_returns_19 (Nat.le_of_ble_eq_true rfl) (Nat.le_of_ble_eq_true rfl) (fun v6 I7 J8 H locs hp hW => ?_)
  obtain ⟨hv, hI, hJ⟩ := hp
  subst v6
  subst I7
  subst J8
  refine w_top (y := .int (nI (lf σ j))) (by unfold lf; rw [nh3, wd3]) ?_
  have hlf : lf σ j ≤ 60 - aTm σ j := left_le _ _ _ _
  refine va_mmin hx hb (hml.trans hl.1.symm) C.2.2.1 (C.2.2.2.1 (.methodLink RX4 148 Lib.Math.min.name) (by decide +kernel)) (C.2.2.2.1 (.static Lib.Math.min.name) (by decide +kernel)) (C.2.2.2.1 (.initialized "java/lang/Math") (by decide +kernel)) (C.2.2.2.1 (.code Lib.Math.min.name Lib.Math.min.code 2 (some .int)) (by decide +kernel)) (Nat.le_of_ble_eq_true rfl) (Nat.le_of_ble_eq_true rfl) (Nat.le_of_ble_eq_true rfl) (Nat.le_of_ble_eq_true rfl) dX4_returns_22 ?_
  refine w_top (y := .int (nI (min k (lf σ j)))) (by rw [mn_nI (by omega) (by omega)]) ?_
  refine lv_istore (lv' := [(4, .int (nI (min k (lf σ j)))), (3, .ref (ad (26 + 3 * j))), (0, .ref (ad 0)), (1, .int x), (2, .int (nI k))]) hx hb dX4_returns_25 hl (by decide) rfl (fun ls hl => ?_)
  refine lv_aload_n hx hb dX4_returns_27 rfl (lv_at hl 2 rfl) ?_
  refine g_X4_2 C hinX4 hW h0L (by decide) hS.2.2.2.1 lk24 dX4_returns_28 ?_
  refine lv_aload_n hx hb dX4_returns_31 rfl (lv_at hl 1 rfl) ?_
  refine g_X2_2 C hinX2 hW wk.1 (kd_w (by omega)) wk.2.2.2.2.1 lk97 dX4_returns_32 ?_
  refine p_cVv C hml hg hW (c_X3_becomeLike l D cy L ad G I J 3 4 (27 + 3 * j) (28 + 3 * j) hV3 hV) (cwV 1 C.2.2.2.1 gX4_returns_X3_becomeLike rfl rfl rfl (by decide +kernel) ⟨Nat.le_of_ble_eq_true rfl, Nat.le_of_ble_eq_true rfl⟩) (p_recv C hW hV3.1 (pF_3 hV3.2.1) rfl) rfl hl.1 rfl (Nat.le_of_ble_eq_true rfl) dX4_returns_35 (Nat.le_of_ble_eq_true rfl) (Nat.le_of_ble_eq_true rfl) (fun I9 J10 H locs hp hW => ?_)
  obtain ⟨hI, hJ⟩ := hp
  rw [wd2] at hI
  rw [wd3] at hJ
  subst I9
  subst J10
  refine lv_iconst (v := nI 1) hx hb dX4_returns_38 (by decide) ?_
  refine lv_istore (lv' := [(5, .int (nI 1)), (4, .int (nI (min k (lf σ j)))), (3, .ref (ad (26 + 3 * j))), (0, .ref (ad 0)), (1, .int x), (2, .int (nI k))]) hx hb dX4_returns_39 hl (by decide) rfl (fun ls hl => ?_)
  have lp41 : ∀ (nn : Nat) (a : Nat), (a ≤ min k (lf σ j)) → (min k (lf σ j) + 1 ≤ a + nn) → (∀ b, b < a → isMul (itS (stp σ (aNt σ j)) (b + 1) (aWv σ j)) (aWv σ j) = false) → ∀ (H : Heap) (locs : List Loc), Wd D cy A s.heap H locs L ad G (va_up I 3 (upd (I 3) 1 (nI (aTm σ j + (a))))) (va_up J 4 (itS (stp σ (aNt σ j)) (a) (aWv σ j))) → ∀ (ls : Array Slot), lv_has ls 6 [(0, .ref (ad 0)), (3, .ref (ad (26 + 3 * j))), (4, .int (nI (min k (lf σ j)))), (5, .int (nI (a + 1)))] → W p l e rmX4_returns s m args below meth c H locs ((((0 + rmX4_walkOf.cells) + rmX4_needSteps.cells) + rmX3_stepsLeft.cells) + rmX3_becomeLike.cells) ((((0 + rmX4_walkOf.slots) + rmX4_needSteps.slots) + rmX3_stepsLeft.slots) + rmX3_becomeLike.slots) Q (F0 m 41 ls []) := by
    intro nn
    induction nn with
    | zero => intros; exfalso; omega
    | succ nn ih41 =>
      intro a ha hf hno H locs hW ls hl
      refine lv_iload hx hb dX4_returns_41 (lv_at hl 3 rfl) ?_
      refine lv_iload hx hb dX4_returns_43 (lv_at hl 2 rfl) ?_
      refine n_icmp_gt (tgt := 82) hx hb (by omega) (by omega) dX4_returns_45 (by decide) (fun hc_11 => ?_) (fun hc_11 => ?_)
      · skip
        refine lv_iconst (v := (-1)) hx hb dX4_returns_82 (by decide) ?_
        have hsp : spRet cw σ x (nI k) = (0, -1, σ) := by simp only [spRet, hj, hk, retA]; rw [if_neg (by rw [lst_none (fun b hb2 => hno b (by omega))]; omega)]
        exact ret _ _ _ _ _ _ _ _ _ (Nat.le_of_ble_eq_true rfl) (Nat.le_of_ble_eq_true rfl) hW (by unfold pst; rw [hsp]; exact ⟨rfl, (by decide : (-1 : Int64) = (-1 : Int32).toInt64), hD.keep (va_up_ne _ _ (by omega)) (fun r h1 h2 => va_up_ne _ _ (by omega)) (fun r h1 h2 => va_up_ne _ _ (by omega)) h6 h12, fun r hr => ⟨va_up_ne _ _ (by omega), va_up_ne _ _ (by omega)⟩⟩) dX4_returns_83
      · skip
        refine lv_aload_n hx hb dX4_returns_48 rfl (lv_at hl 0 rfl) ?_
        refine g_X4_2 C hinX4 hW h0L (by decide) hS.2.2.2.1 lk24 dX4_returns_49 ?_
        refine lv_aload_n hx hb dX4_returns_52 rfl (lv_at hl 1 rfl) ?_
        refine g_X2_1 C hinX2 hW wk.1 (kd_w (by omega)) wk.2.2.2.1 lk89 dX4_returns_53 ?_
        refine p_cVv C hml hg hW (d_do hV3 hN hH ⟨by omega, by omega, by omega, by omega⟩ po2 po3 po4 (aTm σ j + (a)) (by omega) (itS (stp σ (aNt σ j)) (a) (aWv σ j))) (cwV 1 C.2.2.2.1 gX4_returns_X3_doStep rfl rfl rfl (by decide +kernel) ⟨Nat.le_of_ble_eq_true rfl, Nat.le_of_ble_eq_true rfl⟩) (p_recv C hW hV3.1 (pF_3 hV3.2.1) rfl) rfl hl.1 rfl (Nat.le_of_ble_eq_true rfl) dX4_returns_56 (Nat.le_of_ble_eq_true rfl) (Nat.le_of_ble_eq_true rfl) (fun I12 J13 H locs hp hW => ?_)
        obtain ⟨hI, hJ⟩ := hp
        subst I12
        subst J13
        refine lv_aload_n hx hb dX4_returns_59 rfl (lv_at hl 0 rfl) ?_
        refine g_X4_2 C hinX4 hW h0L (by decide) hS.2.2.2.1 lk24 dX4_returns_60 ?_
        refine lv_aload_n hx hb dX4_returns_63 rfl (lv_at hl 1 rfl) ?_
        refine g_X2_2 C hinX2 hW wk.1 (kd_w (by omega)) wk.2.2.2.2.1 lk97 dX4_returns_64 ?_
        refine p_cVi C hml hg hW (c_X3_isMultipleOf l D cy L ad G (va_up I 3 (upd (I 3) 1 (nI (aTm σ j + (a) + 1)))) (va_up J 4 (stepF (aPl σ (aNt σ j)) (aDr σ (aNt σ j)) (aTo σ (aNt σ j)) (aMk σ (aNt σ j)) (itS (stp σ (aNt σ j)) (a) (aWv σ j)))) 3 4 (27 + 3 * j) (28 + 3 * j) hV3 hV) (cwV 1 C.2.2.2.1 gX4_returns_X3_isMultipleOf rfl rfl rfl (by decide +kernel) ⟨Nat.le_of_ble_eq_true rfl, Nat.le_of_ble_eq_true rfl⟩) (p_recv C hW hV3.1 (pF_3 hV3.2.1) rfl) rfl hl.1 rfl (Nat.le_of_ble_eq_true rfl) dX4_returns_67 (Nat.le_of_ble_eq_true rfl) (Nat.le_of_ble_eq_true rfl) (fun v14 I15 J16 H locs hp hW => ?_)
        obtain ⟨hv, hI, hJ⟩ := hp
        subst v14
        subst I15
        subst J16
        refine w_top (y := .int (bI (isMul (itS (stp σ (aNt σ j)) (a + 1) (aWv σ j)) (aWv σ j)))) (by rw [va_up_self, va_up_ne _ _ (by omega), wd3]; rfl) ?_
        refine b_if_eq (tgt := 76) hx hb dX4_returns_70 (by decide) (fun hc_17 => ?_) (fun hc_17 => ?_)
        · skip
          refine lv_iinc (v := nI ((a + 1) + 1)) (lv' := [(5, .int (nI ((a + 1) + 1))), (0, .ref (ad 0)), (3, .ref (ad (26 + 3 * j))), (4, .int (nI (min k (lf σ j))))]) hx hb dX4_returns_76 hl (k := 3) rfl (nI_inc _) (by decide) rfl (fun ls hl => ?_)
          refine lv_goto (tgt := 41) hx hb dX4_returns_79 (by decide) ?_
          exact ih41 (a + 1) (by omega) (by omega) (fun b hb2 => by rcases Nat.lt_or_ge b a with h | h; exact hno b h; rw [show b = a by omega]; exact hc_17) _ _ hW ls (lv_sub hl [1, 2, 3, 0] rfl)
        · skip
          refine lv_iload hx hb dX4_returns_73 (lv_at hl 3 rfl) ?_
          have hls : lst (fun i => isMul (itS (stp σ (aNt σ j)) (i + 1) (aWv σ j)) (aWv σ j)) (min k (lf σ j)) = a := lst_of (by omega) hno hc_17
          have hsp : spRet cw σ x (nI k) = (0, lN (a + 1), σ) := by simp only [spRet, hj, hk, retA, hls]; rw [if_pos (by omega)]
          exact ret _ _ _ _ _ _ _ _ _ (Nat.le_of_ble_eq_true rfl) (Nat.le_of_ble_eq_true rfl) hW (by unfold pst; rw [hsp]; exact ⟨rfl, (nI_l (by omega)).symm, hD.keep (va_up_ne _ _ (by omega)) (fun r h1 h2 => va_up_ne _ _ (by omega)) (fun r h1 h2 => va_up_ne _ _ (by omega)) h6 h12, fun r hr => ⟨va_up_ne _ _ (by omega), va_up_ne _ _ (by omega)⟩⟩) dX4_returns_75
  exact lp41 (min k (lf σ j) + 1) 0 (by omega) (by omega) (fun b hb => absurd hb (Nat.not_lt_zero b)) _ _ hW ls (lv_sub hl [3, 2, 1, 0] rfl)
abbrev rmX4_best : Room := { frames := 7, cells := 2, slots := 12, locals := 104 }
set_option maxHeartbeats 4000000 in
set_option maxRecDepth 100000 in
theorem c_X4_best (l : Launch) (hst : l.stackTraces = false) (D : va_G) (cy : Nat → ClassId) (L : List Nat) (ad : Nat → Nat) (G : mG) (I : mI) (J : mJ) (cn cw : Nat) (σ : Ab) (hS : cSh L G cn cw (aNt σ)) (hA : aOk cn cw σ) (hD : cDt cn cw σ I J) (x xn : Int32) : pXet l yX4_best wsX4_best rmX4_best D cy L ad G I J [.ref (ad 0), .int x, .int xn] (qI (fun v I' J' => pst (spBest cw σ x xn) v.toInt64 cn cw I I' J J') D cy L ad G) (pxs (spBest cw σ x xn)) := by
  refine pXet.ofI (cc := cX4_best) (maxL := 11) (by decide +kernel) rfl (Nat.le_of_ble_eq_true rfl) ?_
  intro p e R s m args below meth c A Q C hml hR hg ret thr hQ hlk hnx hW ls hl
  subst hR
  have C : Cx p s m args c cX4_best RX4 wsX4_best D cy A := C
  have hx := C.1
  have hb := C.2.1
  have lk24 := C.2.2.2.1 (.fieldLink RX4 24 "WaveWalk" "trial" "LWaveWalk$Wave;") (by decide +kernel)
  have lk89 := C.2.2.2.1 (.fieldLink RX4 89 "WaveWalk$Walk" "net" "LWaveWalk$Net;") (by decide +kernel)
  have lk97 := C.2.2.2.1 (.fieldLink RX4 97 "WaveWalk$Walk" "wave" "LWaveWalk$Wave;") (by decide +kernel)
  have lk138 := C.2.2.2.1 (.fieldLink RX4 138 "WaveWalk$Net" "scale" "I") (by decide +kernel)
  have hinX1 : ∀ w ∈ wsX10, w ∈ wsX4_best := by decide +kernel
  have hinX2 : ∀ w ∈ wsX20, w ∈ wsX4_best := by decide +kernel
  have hinX4 : ∀ w ∈ wsX40, w ∈ wsX4_best := by decide +kernel
  have hl : lv_has ls 11 [(0, .ref (ad 0)), (1, .int x), (2, .int xn)] := hl
  have h6 := hA.1
  have h12 := hA.2.1
  have h0L : 0 ∈ L := hS.1 0 (by omega)
  have h1L : 1 ∈ L := hS.1 1 (by omega)
  have h2L : 2 ∈ L := hS.1 2 (by omega)
  have hV3 := hS.trial
  have hC5 := hS.cls
  refine lv_aload_n hx hb dX4_best_0 rfl (lv_at hl 0 rfl) ?_
  refine lv_iload_n hx hb dX4_best_1 rfl (lv_at hl 1 rfl) ?_
  refine p_xVr C hml hg hW (c_X4_walkOf l hst D cy L ad G I J cn cw (aNt σ) hS h6 h12 x) (cwV 1 C.2.2.2.1 gX4_best_X4_walkOf rfl rfl rfl (by decide +kernel) ⟨Nat.le_of_ble_eq_true rfl, Nat.le_of_ble_eq_true rfl⟩) (p_recv C hW h0L (pF_4 (by decide)) rfl) rfl hl.1 rfl (Nat.le_of_ble_eq_true rfl) dX4_best_2 (Nat.le_of_ble_eq_true rfl) (Nat.le_of_ble_eq_true rfl) (fun E ce q9 H locs hW hp h1 h2 h3 => thr E ce q9 H locs _ _ _ _ _ (Nat.le_of_ble_eq_true rfl) (Nat.le_of_ble_eq_true rfl) hW (Or.inl ⟨hp.1, by simp only [spBest, hp.2]⟩) h1 h2 h3) (fun v1 I2 J3 H locs hp hW => ?_)
  obtain ⟨⟨j, hj, hq⟩, hI, hJ⟩ := hp
  subst v1
  subst I2
  subst J3
  obtain ⟨hjl, -⟩ := ixN_some hj (by omega)
  have wk := hS.2.2.2.2.2.2.2.2.2.2.2 j hjl
  have hV := hS.wave hjl h12
  obtain ⟨wl1, wl2, wl3, wl4⟩ := hA.2.2.2 j hjl
  obtain ⟨wd1, wd2, wd3⟩ := id (hD.2.2.2 j hjl)
  have hN := hS.net wl1 h6
  have hO := hA.2.2.1 _ wl1
  have hH := hD.nHas wl1
  obtain ⟨po1, po2, po3, po4⟩ := id hO
  obtain ⟨nh0, nh1, nh2, nh3, nh4, nh5⟩ := id hH
  refine lv_astore_n (lv' := [(3, .ref (ad (26 + 3 * j))), (0, .ref (ad 0)), (1, .int x), (2, .int xn)]) hx hb dX4_best_5 rfl hl (by decide) rfl (fun ls hl => ?_)
  refine lv_iload_n hx hb dX4_best_6 rfl (lv_at hl 3 rfl) ?_
  refine p_xSv C hml hg hW (c_X4_needSteps l hst D cy L ad G I J xn) (va_cwS 1 C.2.2.2.1 gX4_best_X4_needSteps rfl rfl rfl (by decide +kernel) ⟨Nat.le_of_ble_eq_true rfl, Nat.le_of_ble_eq_true rfl⟩) rfl hl.1 rfl (Nat.le_of_ble_eq_true rfl) dX4_best_7 (Nat.le_of_ble_eq_true rfl) (Nat.le_of_ble_eq_true rfl) (fun E ce q9 H locs hW hp h1 h2 h3 => thr E ce q9 H locs _ _ _ _ _ (Nat.le_of_ble_eq_true rfl) (Nat.le_of_ble_eq_true rfl) hW (Or.inr ⟨hp.1, by simp only [spBest, hj, hp.2]⟩) h1 h2 h3) (fun I4 J5 H locs hp hW => ?_)
  obtain ⟨⟨k, hk⟩, hI, hJ⟩ := hp
  subst I4
  subst J5
  obtain ⟨hkl, hke⟩ := ixN_some hk (by omega)
  subst hke
  refine lv_aload_n hx hb dX4_best_10 rfl (lv_at hl 0 rfl) ?_
  refine g_X2_2 C hinX2 hW wk.1 (kd_w (by omega)) wk.2.2.2.2.1 lk97 dX4_best_11 ?_
  refine p_cVl C hml hg hW (c_X3_squares l D cy L ad G I J (27 + 3 * j) (28 + 3 * j) hV) (cwV 0 C.2.2.2.1 gX4_best_X3_squares rfl rfl rfl (by decide +kernel) ⟨Nat.le_of_ble_eq_true rfl, Nat.le_of_ble_eq_true rfl⟩) (p_recv C hW hV.1 (pF_3 hV.2.1) rfl) rfl hl.1 rfl (Nat.le_of_ble_eq_true rfl) dX4_best_14 (Nat.le_of_ble_eq_true rfl) (Nat.le_of_ble_eq_true rfl) (fun v6 I7 J8 H locs hp hW => ?_)
  obtain ⟨hv, hI, hJ⟩ := hp
  subst v6
  subst I7
  subst J8
  refine w_top (y := .long (sqs (aWv σ j))) (by rw [wd3]) ?_
  refine lv_lconst (v := 0) hx hb dX4_best_17 (by decide) ?_
  refine l_ne (tgt := 24) hx hb dX4_best_18 dX4_best_19 (by decide) (fun hc_9 => ?_) (fun hc_9 => ?_)
  · skip
    refine lv_iload_n hx hb dX4_best_24 rfl (lv_at hl 3 rfl) ?_
    refine lv_aload_n hx hb dX4_best_25 rfl (lv_at hl 0 rfl) ?_
    refine g_X2_2 C hinX2 hW wk.1 (kd_w (by omega)) wk.2.2.2.2.1 lk97 dX4_best_26 ?_
    refine lv_aload_n hx hb dX4_best_29 rfl (lv_at hl 0 rfl) ?_
    refine g_X2_1 C hinX2 hW wk.1 (kd_w (by omega)) wk.2.2.2.1 lk89 dX4_best_30 ?_
    refine p_cVi C hml hg hW (c_X3_stepsLeft l D cy L ad G I J (27 + 3 * j) (28 + 3 * j) hV (8 + 3 * aNt σ j) (9 + 3 * aNt σ j) (10 + 3 * aNt σ j) hN (aPl σ (aNt σ j)) (aDr σ (aNt σ j)) nh0 nh1 po2 po3 nh2 (aTm σ j) wd2 wl2) (cwV 1 C.2.2.2.1 gX4_best_X3_stepsLeft rfl rfl rfl (by decide +kernel) ⟨Nat.le_of_ble_eq_true rfl, Nat.le_of_ble_eq_true rfl⟩) (p_recv C hW hV.1 (pF_3 hV.2.1) rfl) rfl hl.1 rfl (Nat.le_of_ble_eq_true rfl) dX4_best_33 (Nat.le_of_ble_eq_true rfl) (Nat.le_of_ble_eq_true rfl) (fun v10 I11 J12 H locs hp hW => ?_)
    obtain ⟨hv, hI, hJ⟩ := hp
    subst v10
    subst I11
    subst J12
    refine w_top (y := .int (nI (lf σ j))) (by unfold lf; rw [nh3, wd3]) ?_
    have hlf : lf σ j ≤ 60 - aTm σ j := left_le _ _ _ _
    refine va_mmin hx hb (hml.trans hl.1.symm) C.2.2.1 (C.2.2.2.1 (.methodLink RX4 148 Lib.Math.min.name) (by decide +kernel)) (C.2.2.2.1 (.static Lib.Math.min.name) (by decide +kernel)) (C.2.2.2.1 (.initialized "java/lang/Math") (by decide +kernel)) (C.2.2.2.1 (.code Lib.Math.min.name Lib.Math.min.code 2 (some .int)) (by decide +kernel)) (Nat.le_of_ble_eq_true rfl) (Nat.le_of_ble_eq_true rfl) (Nat.le_of_ble_eq_true rfl) (Nat.le_of_ble_eq_true rfl) dX4_best_36 ?_
    refine w_top (y := .int (nI (min k (lf σ j)))) (by rw [mn_nI (by omega) (by omega)]) ?_
    refine lv_istore (lv' := [(4, .int (nI (min k (lf σ j)))), (3, .ref (ad (26 + 3 * j))), (0, .ref (ad 0)), (1, .int x), (2, .int (nI k))]) hx hb dX4_best_39 hl (by decide) rfl (fun ls hl => ?_)
    refine lv_aload_n hx hb dX4_best_41 rfl (lv_at hl 2 rfl) ?_
    refine g_X4_2 C hinX4 hW h0L (by decide) hS.2.2.2.1 lk24 dX4_best_42 ?_
    refine lv_aload_n hx hb dX4_best_45 rfl (lv_at hl 1 rfl) ?_
    refine g_X2_2 C hinX2 hW wk.1 (kd_w (by omega)) wk.2.2.2.2.1 lk97 dX4_best_46 ?_
    refine p_cVv C hml hg hW (c_X3_becomeLike l D cy L ad G I J 3 4 (27 + 3 * j) (28 + 3 * j) hV3 hV) (cwV 1 C.2.2.2.1 gX4_best_X3_becomeLike rfl rfl rfl (by decide +kernel) ⟨Nat.le_of_ble_eq_true rfl, Nat.le_of_ble_eq_true rfl⟩) (p_recv C hW hV3.1 (pF_3 hV3.2.1) rfl) rfl hl.1 rfl (Nat.le_of_ble_eq_true rfl) dX4_best_49 (Nat.le_of_ble_eq_true rfl) (Nat.le_of_ble_eq_true rfl) (fun I13 J14 H locs hp hW => ?_)
    obtain ⟨hI, hJ⟩ := hp
    rw [wd2] at hI
    rw [wd3] at hJ
    subst I13
    subst J14
    refine lv_iconst (v := nI 0) hx hb dX4_best_52 (by decide) ?_
    refine lv_istore (lv' := [(5, .int (nI 0)), (4, .int (nI (min k (lf σ j)))), (3, .ref (ad (26 + 3 * j))), (0, .ref (ad 0)), (1, .int x), (2, .int (nI k))]) hx hb dX4_best_53 hl (by decide) rfl (fun ls hl => ?_)
    refine lv_aload_n hx hb dX4_best_55 rfl (lv_at hl 3 rfl) ?_
    refine g_X4_2 C hinX4 hW h0L (by decide) hS.2.2.2.1 lk24 dX4_best_56 ?_
    refine lv_aload_n hx hb dX4_best_59 rfl (lv_at hl 2 rfl) ?_
    refine g_X2_1 C hinX2 hW wk.1 (kd_w (by omega)) wk.2.2.2.1 lk89 dX4_best_60 ?_
    have hHt : nHas (va_up I 3 (upd (I 3) 1 (nI (aTm σ j)))) (va_up J 4 (aWv σ j)) (8 + 3 * aNt σ j) (9 + 3 * aNt σ j) (10 + 3 * aNt σ j) (aPl σ (aNt σ j)) (aDr σ (aNt σ j)) (aTo σ (aNt σ j)) (aMk σ (aNt σ j)) := hH.keep (va_up_ne _ _ (by omega)) (va_up_ne _ _ (by omega)) (va_up_ne _ _ (by omega)) (va_up_ne _ _ (by omega))
    refine p_cVl C hml hg hW (c_X3_squaresAtMarked l D cy L ad G (va_up I 3 (upd (I 3) 1 (nI (aTm σ j)))) (va_up J 4 (aWv σ j)) 3 4 hV3 (8 + 3 * aNt σ j) (9 + 3 * aNt σ j) (10 + 3 * aNt σ j) hN (aPl σ (aNt σ j)) (aDr σ (aNt σ j)) hHt.1 hHt.2.1 po2 po3 (aMk σ (aNt σ j)) hHt.2.2.2.2.2) (cwV 1 C.2.2.2.1 gX4_best_X3_squaresAtMarked rfl rfl rfl (by decide +kernel) ⟨Nat.le_of_ble_eq_true rfl, Nat.le_of_ble_eq_true rfl⟩) (p_recv C hW hV3.1 (pF_3 hV3.2.1) rfl) rfl hl.1 rfl (Nat.le_of_ble_eq_true rfl) dX4_best_63 (Nat.le_of_ble_eq_true rfl) (Nat.le_of_ble_eq_true rfl) (fun v15 I16 J17 H locs hp hW => ?_)
    obtain ⟨hv, hI, hJ⟩ := hp
    subst v15
    subst I16
    subst J17
    refine w_top (y := .long (sqM (itS (stp σ (aNt σ j)) (0) (aWv σ j)) (aMk σ (aNt σ j)) (aPl σ (aNt σ j)))) (by rw [va_up_self]; rfl) ?_
    refine lv_lstore (lv' := [(6, .long (sqM (itS (stp σ (aNt σ j)) (0) (aWv σ j)) (aMk σ (aNt σ j)) (aPl σ (aNt σ j)))), (5, .int (nI 0)), (4, .int (nI (min k (lf σ j)))), (3, .ref (ad (26 + 3 * j))), (0, .ref (ad 0)), (1, .int x), (2, .int (nI k))]) hx hb dX4_best_66 hl (by decide) rfl (fun ls hl => ?_)
    refine lv_iconst (v := nI 1) hx hb dX4_best_68 (by decide) ?_
    refine lv_istore (lv' := [(8, .int (nI 1)), (6, .long (sqM (itS (stp σ (aNt σ j)) (0) (aWv σ j)) (aMk σ (aNt σ j)) (aPl σ (aNt σ j)))), (5, .int (nI 0)), (4, .int (nI (min k (lf σ j)))), (3, .ref (ad (26 + 3 * j))), (0, .ref (ad 0)), (1, .int x), (2, .int (nI k))]) hx hb dX4_best_69 hl (by decide) rfl (fun ls hl => ?_)
    have lp71 : ∀ (nn : Nat) (a : Nat), (a ≤ min k (lf σ j)) → (min k (lf σ j) + 1 ≤ a + nn) → ∀ (H : Heap) (locs : List Loc), Wd D cy A s.heap H locs L ad G (va_up I 3 (upd (I 3) 1 (nI (aTm σ j + (a))))) (va_up J 4 (itS (stp σ (aNt σ j)) (a) (aWv σ j))) → ∀ (ls : Array Slot), lv_has ls 11 [(0, .ref (ad 0)), (3, .ref (ad (26 + 3 * j))), (4, .int (nI (min k (lf σ j)))), (5, .int (nI ((bstF (stp σ (aNt σ j)) (aWv σ j) (aMk σ (aNt σ j)) (aPl σ (aNt σ j)) (scOf (aDr σ (aNt σ j))) (a)).1))), (6, .long ((bstF (stp σ (aNt σ j)) (aWv σ j) (aMk σ (aNt σ j)) (aPl σ (aNt σ j)) (scOf (aDr σ (aNt σ j))) (a)).2)), (8, .int (nI (a + 1)))] → W p l e rmX4_best s m args below meth c H locs ((((((0 + rmX4_walkOf.cells) + rmX4_needSteps.cells) + rmX3_squares.cells) + rmX3_stepsLeft.cells) + rmX3_becomeLike.cells) + rmX3_squaresAtMarked.cells) ((((((0 + rmX4_walkOf.slots) + rmX4_needSteps.slots) + rmX3_squares.slots) + rmX3_stepsLeft.slots) + rmX3_becomeLike.slots) + rmX3_squaresAtMarked.slots) Q (F0 m 71 ls []) := by
      intro nn
      induction nn with
      | zero => intros; exfalso; omega
      | succ nn ih71 =>
        intro a ha hf H locs hW ls hl
        refine lv_iload hx hb dX4_best_71 (lv_at hl 5 rfl) ?_
        refine lv_iload hx hb dX4_best_73 (lv_at hl 2 rfl) ?_
        refine n_icmp_gt (tgt := 137) hx hb (by omega) (by omega) dX4_best_75 (by decide) (fun hc_18 => ?_) (fun hc_18 => ?_)
        · skip
          refine lv_iload hx hb dX4_best_137 (lv_at hl 3 rfl) ?_
          have ham : a = min k (lf σ j) := by omega
          have hbl := bst_le (stp σ (aNt σ j)) (aWv σ j) (aMk σ (aNt σ j)) (aPl σ (aNt σ j)) (scOf (aDr σ (aNt σ j))) a
          have hsp : spBest cw σ x (nI k) = (0, lN ((bstF (stp σ (aNt σ j)) (aWv σ j) (aMk σ (aNt σ j)) (aPl σ (aNt σ j)) (scOf (aDr σ (aNt σ j))) (a)).1), σ) := by simp only [spBest, hj, hk, bstA]; rw [if_neg hc_9, ← ham]
          exact ret _ _ _ _ _ _ _ _ _ (Nat.le_of_ble_eq_true rfl) (Nat.le_of_ble_eq_true rfl) hW (by unfold pst; rw [hsp]; exact ⟨rfl, (nI_l (by omega)).symm, hD.keep (va_up_ne _ _ (by omega)) (fun r h1 h2 => va_up_ne _ _ (by omega)) (fun r h1 h2 => va_up_ne _ _ (by omega)) h6 h12, fun r hr => ⟨va_up_ne _ _ (by omega), va_up_ne _ _ (by omega)⟩⟩) dX4_best_139
        · skip
          refine lv_aload_n hx hb dX4_best_78 rfl (lv_at hl 0 rfl) ?_
          refine g_X4_2 C hinX4 hW h0L (by decide) hS.2.2.2.1 lk24 dX4_best_79 ?_
          refine lv_aload_n hx hb dX4_best_82 rfl (lv_at hl 1 rfl) ?_
          refine g_X2_1 C hinX2 hW wk.1 (kd_w (by omega)) wk.2.2.2.1 lk89 dX4_best_83 ?_
          refine p_cVv C hml hg hW (d_do hV3 hN hH ⟨by omega, by omega, by omega, by omega⟩ po2 po3 po4 (aTm σ j + (a)) (by omega) (itS (stp σ (aNt σ j)) (a) (aWv σ j))) (cwV 1 C.2.2.2.1 gX4_best_X3_doStep rfl rfl rfl (by decide +kernel) ⟨Nat.le_of_ble_eq_true rfl, Nat.le_of_ble_eq_true rfl⟩) (p_recv C hW hV3.1 (pF_3 hV3.2.1) rfl) rfl hl.1 rfl (Nat.le_of_ble_eq_true rfl) dX4_best_86 (Nat.le_of_ble_eq_true rfl) (Nat.le_of_ble_eq_true rfl) (fun I19 J20 H locs hp hW => ?_)
          obtain ⟨hI, hJ⟩ := hp
          subst I19
          subst J20
          refine lv_lload hx hb dX4_best_89 (lv_at hl 4 rfl) ?_
          refine lv_aload_n hx hb dX4_best_91 rfl (lv_at hl 1 rfl) ?_
          refine g_X2_1 C hinX2 hW wk.1 (kd_w (by omega)) wk.2.2.2.1 lk89 dX4_best_92 ?_
          refine g_X1_2 C hinX1 hW hN.1 hN.2.1 lk138 dX4_best_95 ?_
          refine w_top (y := .int (nI (scN (aDr σ (aNt σ j))))) (congrArg Value.int ((congrFun (va_up_ne _ _ (by omega)) 2).trans nh2)) ?_
          refine lv_i2l (v := scOf (aDr σ (aNt σ j))) hx hb dX4_best_98 (sc_l po3) ?_
          refine lv_lmul hx hb dX4_best_99 ?_
          refine lv_lstore (lv' := [(6, .long (((bstF (stp σ (aNt σ j)) (aWv σ j) (aMk σ (aNt σ j)) (aPl σ (aNt σ j)) (scOf (aDr σ (aNt σ j))) (a)).2) * (scOf (aDr σ (aNt σ j))))), (0, .ref (ad 0)), (3, .ref (ad (26 + 3 * j))), (4, .int (nI (min k (lf σ j)))), (5, .int (nI ((bstF (stp σ (aNt σ j)) (aWv σ j) (aMk σ (aNt σ j)) (aPl σ (aNt σ j)) (scOf (aDr σ (aNt σ j))) (a)).1))), (8, .int (nI (a + 1)))]) hx hb dX4_best_100 hl (by decide) rfl (fun ls hl => ?_)
          refine lv_aload_n hx hb dX4_best_102 rfl (lv_at hl 1 rfl) ?_
          refine g_X4_2 C hinX4 hW h0L (by decide) hS.2.2.2.1 lk24 dX4_best_103 ?_
          refine lv_aload_n hx hb dX4_best_106 rfl (lv_at hl 2 rfl) ?_
          refine g_X2_1 C hinX2 hW wk.1 (kd_w (by omega)) wk.2.2.2.1 lk89 dX4_best_107 ?_
          have hHt : nHas (va_up I 3 (upd (I 3) 1 (nI (aTm σ j + (a) + 1)))) (va_up J 4 (stepF (aPl σ (aNt σ j)) (aDr σ (aNt σ j)) (aTo σ (aNt σ j)) (aMk σ (aNt σ j)) (itS (stp σ (aNt σ j)) (a) (aWv σ j)))) (8 + 3 * aNt σ j) (9 + 3 * aNt σ j) (10 + 3 * aNt σ j) (aPl σ (aNt σ j)) (aDr σ (aNt σ j)) (aTo σ (aNt σ j)) (aMk σ (aNt σ j)) := hH.keep (va_up_ne _ _ (by omega)) (va_up_ne _ _ (by omega)) (va_up_ne _ _ (by omega)) (va_up_ne _ _ (by omega))
          refine p_cVl C hml hg hW (c_X3_squaresAtMarked l D cy L ad G (va_up I 3 (upd (I 3) 1 (nI (aTm σ j + (a) + 1)))) (va_up J 4 (stepF (aPl σ (aNt σ j)) (aDr σ (aNt σ j)) (aTo σ (aNt σ j)) (aMk σ (aNt σ j)) (itS (stp σ (aNt σ j)) (a) (aWv σ j)))) 3 4 hV3 (8 + 3 * aNt σ j) (9 + 3 * aNt σ j) (10 + 3 * aNt σ j) hN (aPl σ (aNt σ j)) (aDr σ (aNt σ j)) hHt.1 hHt.2.1 po2 po3 (aMk σ (aNt σ j)) hHt.2.2.2.2.2) (cwV 1 C.2.2.2.1 gX4_best_X3_squaresAtMarked rfl rfl rfl (by decide +kernel) ⟨Nat.le_of_ble_eq_true rfl, Nat.le_of_ble_eq_true rfl⟩) (p_recv C hW hV3.1 (pF_3 hV3.2.1) rfl) rfl hl.1 rfl (Nat.le_of_ble_eq_true rfl) dX4_best_110 (Nat.le_of_ble_eq_true rfl) (Nat.le_of_ble_eq_true rfl) (fun v21 I22 J23 H locs hp hW => ?_)
          obtain ⟨hv, hI, hJ⟩ := hp
          subst v21
          subst I22
          subst J23
          refine w_top (y := .long (sqM (itS (stp σ (aNt σ j)) (a + 1) (aWv σ j)) (aMk σ (aNt σ j)) (aPl σ (aNt σ j)))) (by rw [va_up_self]; rfl) ?_
          refine lv_lstore (lv' := [(9, .long (sqM (itS (stp σ (aNt σ j)) (a + 1) (aWv σ j)) (aMk σ (aNt σ j)) (aPl σ (aNt σ j)))), (6, .long (((bstF (stp σ (aNt σ j)) (aWv σ j) (aMk σ (aNt σ j)) (aPl σ (aNt σ j)) (scOf (aDr σ (aNt σ j))) (a)).2) * (scOf (aDr σ (aNt σ j))))), (0, .ref (ad 0)), (3, .ref (ad (26 + 3 * j))), (4, .int (nI (min k (lf σ j)))), (5, .int (nI ((bstF (stp σ (aNt σ j)) (aWv σ j) (aMk σ (aNt σ j)) (aPl σ (aNt σ j)) (scOf (aDr σ (aNt σ j))) (a)).1))), (8, .int (nI (a + 1)))]) hx hb dX4_best_113 hl (by decide) rfl (fun ls hl => ?_)
          refine lv_lload hx hb dX4_best_115 (lv_at hl 0 rfl) ?_
          refine lv_lload hx hb dX4_best_117 (lv_at hl 1 rfl) ?_
          refine l_le (tgt := 131) hx hb dX4_best_119 dX4_best_120 (by decide) (fun hc_24 => ?_) (fun hc_24 => ?_)
          · skip
            refine lv_iinc (v := nI ((a + 1) + 1)) (lv' := [(8, .int (nI ((a + 1) + 1))), (9, .long (sqM (itS (stp σ (aNt σ j)) (a + 1) (aWv σ j)) (aMk σ (aNt σ j)) (aPl σ (aNt σ j)))), (6, .long (((bstF (stp σ (aNt σ j)) (aWv σ j) (aMk σ (aNt σ j)) (aPl σ (aNt σ j)) (scOf (aDr σ (aNt σ j))) (a)).2) * (scOf (aDr σ (aNt σ j))))), (0, .ref (ad 0)), (3, .ref (ad (26 + 3 * j))), (4, .int (nI (min k (lf σ j)))), (5, .int (nI ((bstF (stp σ (aNt σ j)) (aWv σ j) (aMk σ (aNt σ j)) (aPl σ (aNt σ j)) (scOf (aDr σ (aNt σ j))) (a)).1)))]) hx hb dX4_best_131 hl (k := 6) rfl (nI_inc _) (by decide) rfl (fun ls hl => ?_)
            refine lv_goto (tgt := 71) hx hb dX4_best_134 (by decide) ?_
            have eB : bstF (stp σ (aNt σ j)) (aWv σ j) (aMk σ (aNt σ j)) (aPl σ (aNt σ j)) (scOf (aDr σ (aNt σ j))) (a + 1) = ((bstF (stp σ (aNt σ j)) (aWv σ j) (aMk σ (aNt σ j)) (aPl σ (aNt σ j)) (scOf (aDr σ (aNt σ j))) (a)).1, ((bstF (stp σ (aNt σ j)) (aWv σ j) (aMk σ (aNt σ j)) (aPl σ (aNt σ j)) (scOf (aDr σ (aNt σ j))) (a)).2) * (scOf (aDr σ (aNt σ j)))) := by rw [bstF, if_neg hc_24]
            have e5 : (bstF (stp σ (aNt σ j)) (aWv σ j) (aMk σ (aNt σ j)) (aPl σ (aNt σ j)) (scOf (aDr σ (aNt σ j))) (a + 1)).1 = (bstF (stp σ (aNt σ j)) (aWv σ j) (aMk σ (aNt σ j)) (aPl σ (aNt σ j)) (scOf (aDr σ (aNt σ j))) (a)).1 := by rw [eB]
            have e6 : (bstF (stp σ (aNt σ j)) (aWv σ j) (aMk σ (aNt σ j)) (aPl σ (aNt σ j)) (scOf (aDr σ (aNt σ j))) (a + 1)).2 = ((bstF (stp σ (aNt σ j)) (aWv σ j) (aMk σ (aNt σ j)) (aPl σ (aNt σ j)) (scOf (aDr σ (aNt σ j))) (a)).2) * (scOf (aDr σ (aNt σ j))) := by rw [eB]
            have hl : lv_has ls 11 [(8, .int (nI ((a + 1) + 1))), (9, .long (sqM (itS (stp σ (aNt σ j)) (a + 1) (aWv σ j)) (aMk σ (aNt σ j)) (aPl σ (aNt σ j)))), (6, .long ((bstF (stp σ (aNt σ j)) (aWv σ j) (aMk σ (aNt σ j)) (aPl σ (aNt σ j)) (scOf (aDr σ (aNt σ j))) (a + 1)).2)), (0, .ref (ad 0)), (3, .ref (ad (26 + 3 * j))), (4, .int (nI (min k (lf σ j)))), (5, .int (nI ((bstF (stp σ (aNt σ j)) (aWv σ j) (aMk σ (aNt σ j)) (aPl σ (aNt σ j)) (scOf (aDr σ (aNt σ j))) (a + 1)).1)))] := by rw [e5, e6]; exact hl
            exact ih71 (a + 1) (by omega) (by omega) _ _ hW ls (lv_sub hl [3, 4, 5, 6, 2, 0] rfl)
          · skip
            refine lv_lload hx hb dX4_best_123 (lv_at hl 0 rfl) ?_
            refine lv_lstore (lv' := [(6, .long (sqM (itS (stp σ (aNt σ j)) (a + 1) (aWv σ j)) (aMk σ (aNt σ j)) (aPl σ (aNt σ j)))), (9, .long (sqM (itS (stp σ (aNt σ j)) (a + 1) (aWv σ j)) (aMk σ (aNt σ j)) (aPl σ (aNt σ j)))), (0, .ref (ad 0)), (3, .ref (ad (26 + 3 * j))), (4, .int (nI (min k (lf σ j)))), (5, .int (nI ((bstF (stp σ (aNt σ j)) (aWv σ j) (aMk σ (aNt σ j)) (aPl σ (aNt σ j)) (scOf (aDr σ (aNt σ j))) (a)).1))), (8, .int (nI (a + 1)))]) hx hb dX4_best_125 hl (by decide) rfl (fun ls hl => ?_)
            refine lv_iload hx hb dX4_best_127 (lv_at hl 6 rfl) ?_
            refine lv_istore (lv' := [(5, .int (nI (a + 1))), (6, .long (sqM (itS (stp σ (aNt σ j)) (a + 1) (aWv σ j)) (aMk σ (aNt σ j)) (aPl σ (aNt σ j)))), (9, .long (sqM (itS (stp σ (aNt σ j)) (a + 1) (aWv σ j)) (aMk σ (aNt σ j)) (aPl σ (aNt σ j)))), (0, .ref (ad 0)), (3, .ref (ad (26 + 3 * j))), (4, .int (nI (min k (lf σ j)))), (8, .int (nI (a + 1)))]) hx hb dX4_best_129 hl (by decide) rfl (fun ls hl => ?_)
            refine lv_iinc (v := nI ((a + 1) + 1)) (lv' := [(8, .int (nI ((a + 1) + 1))), (5, .int (nI (a + 1))), (6, .long (sqM (itS (stp σ (aNt σ j)) (a + 1) (aWv σ j)) (aMk σ (aNt σ j)) (aPl σ (aNt σ j)))), (9, .long (sqM (itS (stp σ (aNt σ j)) (a + 1) (aWv σ j)) (aMk σ (aNt σ j)) (aPl σ (aNt σ j)))), (0, .ref (ad 0)), (3, .ref (ad (26 + 3 * j))), (4, .int (nI (min k (lf σ j))))]) hx hb dX4_best_131 hl (k := 6) rfl (nI_inc _) (by decide) rfl (fun ls hl => ?_)
            refine lv_goto (tgt := 71) hx hb dX4_best_134 (by decide) ?_
            have eB : bstF (stp σ (aNt σ j)) (aWv σ j) (aMk σ (aNt σ j)) (aPl σ (aNt σ j)) (scOf (aDr σ (aNt σ j))) (a + 1) = (a + 1, sqM (itS (stp σ (aNt σ j)) (a + 1) (aWv σ j)) (aMk σ (aNt σ j)) (aPl σ (aNt σ j))) := by rw [bstF, if_pos hc_24]
            have e5 : (bstF (stp σ (aNt σ j)) (aWv σ j) (aMk σ (aNt σ j)) (aPl σ (aNt σ j)) (scOf (aDr σ (aNt σ j))) (a + 1)).1 = a + 1 := by rw [eB]
            have e6 : (bstF (stp σ (aNt σ j)) (aWv σ j) (aMk σ (aNt σ j)) (aPl σ (aNt σ j)) (scOf (aDr σ (aNt σ j))) (a + 1)).2 = sqM (itS (stp σ (aNt σ j)) (a + 1) (aWv σ j)) (aMk σ (aNt σ j)) (aPl σ (aNt σ j)) := by rw [eB]
            have hl : lv_has ls 11 [(8, .int (nI ((a + 1) + 1))), (5, .int (nI ((bstF (stp σ (aNt σ j)) (aWv σ j) (aMk σ (aNt σ j)) (aPl σ (aNt σ j)) (scOf (aDr σ (aNt σ j))) (a + 1)).1))), (6, .long ((bstF (stp σ (aNt σ j)) (aWv σ j) (aMk σ (aNt σ j)) (aPl σ (aNt σ j)) (scOf (aDr σ (aNt σ j))) (a + 1)).2)), (9, .long (sqM (itS (stp σ (aNt σ j)) (a + 1) (aWv σ j)) (aMk σ (aNt σ j)) (aPl σ (aNt σ j)))), (0, .ref (ad 0)), (3, .ref (ad (26 + 3 * j))), (4, .int (nI (min k (lf σ j))))] := by rw [e5, e6]; exact hl
            exact ih71 (a + 1) (by omega) (by omega) _ _ hW ls (lv_sub hl [4, 5, 6, 1, 2, 0] rfl)
    exact lp71 (min k (lf σ j) + 1) 0 (by omega) (by omega) _ _ hW ls (lv_sub hl [5, 4, 3, 2, 1, 0] rfl)
  · skip
    refine lv_iconst (v := (-1)) hx hb dX4_best_22 (by decide) ?_
    have hsp : spBest cw σ x (nI k) = (0, -1, σ) := by simp only [spBest, hj, hk]; rw [if_pos hc_9]
    exact ret _ _ _ _ _ _ _ _ _ (Nat.le_of_ble_eq_true rfl) (Nat.le_of_ble_eq_true rfl) hW (by unfold pst; rw [hsp]; exact ⟨rfl, (by decide : (-1 : Int64) = (-1 : Int32).toInt64), hD, frm.rf I J⟩) dX4_best_23
abbrev rmX4_mean : Room := { frames := 7, cells := 3, slots := 18, locals := 104 }
set_option maxHeartbeats 4000000 in
set_option maxRecDepth 100000 in
theorem c_X4_mean (l : Launch) (hst : l.stackTraces = false) (D : va_G) (cy : Nat → ClassId) (L : List Nat) (ad : Nat → Nat) (G : mG) (I : mI) (J : mJ) (cn cw : Nat) (σ : Ab) (hS : cSh L G cn cw (aNt σ)) (hA : aOk cn cw σ) (hD : cDt cn cw σ I J) (x xp xn : Int32) : pXet l yX4_mean wsX4_mean rmX4_mean D cy L ad G I J [.ref (ad 0), .int x, .int xp, .int xn] (qL (fun v I' J' => pst (spMean cw σ x xp xn) v cn cw I I' J J') D cy L ad G) (pxs (spMean cw σ x xp xn)) := by
  refine pXet.ofL (cc := cX4_mean) (maxL := 10) (by decide +kernel) rfl (Nat.le_of_ble_eq_true rfl) ?_
  intro p e R s m args below meth c A Q C hml hR hg ret thr hQ hlk hnx hW ls hl
  subst hR
  have C : Cx p s m args c cX4_mean RX4 wsX4_mean D cy A := C
  have hx := C.1
  have hb := C.2.1
  have lk24 := C.2.2.2.1 (.fieldLink RX4 24 "WaveWalk" "trial" "LWaveWalk$Wave;") (by decide +kernel)
  have lk89 := C.2.2.2.1 (.fieldLink RX4 89 "WaveWalk$Walk" "net" "LWaveWalk$Net;") (by decide +kernel)
  have lk97 := C.2.2.2.1 (.fieldLink RX4 97 "WaveWalk$Walk" "wave" "LWaveWalk$Wave;") (by decide +kernel)
  have lk138 := C.2.2.2.1 (.fieldLink RX4 138 "WaveWalk$Net" "scale" "I") (by decide +kernel)
  have lk171 := C.2.2.2.1 (.fieldLink RX4 171 "WaveWalk$Net" "heaviestToStep" "J") (by decide +kernel)
  have hinX1 : ∀ w ∈ wsX10, w ∈ wsX4_mean := by decide +kernel
  have hinX2 : ∀ w ∈ wsX20, w ∈ wsX4_mean := by decide +kernel
  have hinX4 : ∀ w ∈ wsX40, w ∈ wsX4_mean := by decide +kernel
  have ck169 := C.2.2.2.1 (.constantLong RX4 169 (-1)) (by decide +kernel)
  have ck175 := C.2.2.2.1 (.constantLong RX4 175 (4611686018427387904)) (by decide +kernel)
  have hl : lv_has ls 10 [(0, .ref (ad 0)), (1, .int x), (2, .int xp), (3, .int xn)] := hl
  have h6 := hA.1
  have h12 := hA.2.1
  have h0L : 0 ∈ L := hS.1 0 (by omega)
  have h1L : 1 ∈ L := hS.1 1 (by omega)
  have h2L : 2 ∈ L := hS.1 2 (by omega)
  have hV3 := hS.trial
  have hC5 := hS.cls
  refine lv_aload_n hx hb dX4_mean_0 rfl (lv_at hl 0 rfl) ?_
  refine lv_iload_n hx hb dX4_mean_1 rfl (lv_at hl 1 rfl) ?_
  refine p_xVr C hml hg hW (c_X4_walkOf l hst D cy L ad G I J cn cw (aNt σ) hS h6 h12 x) (cwV 1 C.2.2.2.1 gX4_mean_X4_walkOf rfl rfl rfl (by decide +kernel) ⟨Nat.le_of_ble_eq_true rfl, Nat.le_of_ble_eq_true rfl⟩) (p_recv C hW h0L (pF_4 (by decide)) rfl) rfl hl.1 rfl (Nat.le_of_ble_eq_true rfl) dX4_mean_2 (Nat.le_of_ble_eq_true rfl) (Nat.le_of_ble_eq_true rfl) (fun E ce q9 H locs hW hp h1 h2 h3 => thr E ce q9 H locs _ _ _ _ _ (Nat.le_of_ble_eq_true rfl) (Nat.le_of_ble_eq_true rfl) hW (Or.inl ⟨hp.1, by simp only [spMean, hp.2]⟩) h1 h2 h3) (fun v1 I2 J3 H locs hp hW => ?_)
  obtain ⟨⟨j, hj, hq⟩, hI, hJ⟩ := hp
  subst v1
  subst I2
  subst J3
  obtain ⟨hjl, -⟩ := ixN_some hj (by omega)
  have wk := hS.2.2.2.2.2.2.2.2.2.2.2 j hjl
  have hV := hS.wave hjl h12
  obtain ⟨wl1, wl2, wl3, wl4⟩ := hA.2.2.2 j hjl
  obtain ⟨wd1, wd2, wd3⟩ := id (hD.2.2.2 j hjl)
  have hN := hS.net wl1 h6
  have hO := hA.2.2.1 _ wl1
  have hH := hD.nHas wl1
  obtain ⟨po1, po2, po3, po4⟩ := id hO
  obtain ⟨nh0, nh1, nh2, nh3, nh4, nh5⟩ := id hH
  refine lv_astore (lv' := [(4, .ref (ad (26 + 3 * j))), (0, .ref (ad 0)), (1, .int x), (2, .int xp), (3, .int xn)]) hx hb dX4_mean_5 hl (by decide) rfl (fun ls hl => ?_)
  refine lv_aload hx hb dX4_mean_7 (lv_at hl 0 rfl) ?_
  refine g_X2_1 C hinX2 hW wk.1 (kd_w (by omega)) wk.2.2.2.1 lk89 dX4_mean_9 ?_
  refine lv_iload_n hx hb dX4_mean_12 rfl (lv_at hl 3 rfl) ?_
  refine p_xSv C hml hg hW (c_X4_needPlace l hst D cy L ad G I J (8 + 3 * aNt σ j) (9 + 3 * aNt σ j) (10 + 3 * aNt σ j) hN (aPl σ (aNt σ j)) nh0 po2 xp) (va_cwS 2 C.2.2.2.1 gX4_mean_X4_needPlace rfl rfl rfl (by decide +kernel) ⟨Nat.le_of_ble_eq_true rfl, Nat.le_of_ble_eq_true rfl⟩) rfl hl.1 rfl (Nat.le_of_ble_eq_true rfl) dX4_mean_13 (Nat.le_of_ble_eq_true rfl) (Nat.le_of_ble_eq_true rfl) (fun E ce q9 H locs hW hp h1 h2 h3 => thr E ce q9 H locs _ _ _ _ _ (Nat.le_of_ble_eq_true rfl) (Nat.le_of_ble_eq_true rfl) hW (Or.inl ⟨hp.1, by simp only [spMean, hj, hp.2]⟩) h1 h2 h3) (fun I4 J5 H locs hp hW => ?_)
  obtain ⟨⟨q, hq⟩, hI, hJ⟩ := hp
  subst I4
  subst J5
  obtain ⟨hql, hqe⟩ := ixN_some hq (by omega)
  subst hqe
  refine lv_iload_n hx hb dX4_mean_16 rfl (lv_at hl 4 rfl) ?_
  refine p_xSv C hml hg hW (c_X4_needSteps l hst D cy L ad G I J xn) (va_cwS 1 C.2.2.2.1 gX4_mean_X4_needSteps rfl rfl rfl (by decide +kernel) ⟨Nat.le_of_ble_eq_true rfl, Nat.le_of_ble_eq_true rfl⟩) rfl hl.1 rfl (Nat.le_of_ble_eq_true rfl) dX4_mean_17 (Nat.le_of_ble_eq_true rfl) (Nat.le_of_ble_eq_true rfl) (fun E ce q9 H locs hW hp h1 h2 h3 => thr E ce q9 H locs _ _ _ _ _ (Nat.le_of_ble_eq_true rfl) (Nat.le_of_ble_eq_true rfl) hW (Or.inr ⟨hp.1, by simp only [spMean, hj, hq, hp.2]⟩) h1 h2 h3) (fun I6 J7 H locs hp hW => ?_)
  obtain ⟨⟨k, hk⟩, hI, hJ⟩ := hp
  subst I6
  subst J7
  obtain ⟨hkl, hke⟩ := ixN_some hk (by omega)
  subst hke
  refine lv_iload_n hx hb dX4_mean_20 rfl (lv_at hl 4 rfl) ?_
  refine lv_aload hx hb dX4_mean_21 (lv_at hl 0 rfl) ?_
  refine g_X2_2 C hinX2 hW wk.1 (kd_w (by omega)) wk.2.2.2.2.1 lk97 dX4_mean_23 ?_
  refine lv_aload hx hb dX4_mean_26 (lv_at hl 0 rfl) ?_
  refine g_X2_1 C hinX2 hW wk.1 (kd_w (by omega)) wk.2.2.2.1 lk89 dX4_mean_28 ?_
  refine p_cVi C hml hg hW (c_X3_stepsLeft l D cy L ad G I J (27 + 3 * j) (28 + 3 * j) hV (8 + 3 * aNt σ j) (9 + 3 * aNt σ j) (10 + 3 * aNt σ j) hN (aPl σ (aNt σ j)) (aDr σ (aNt σ j)) nh0 nh1 po2 po3 nh2 (aTm σ j) wd2 wl2) (cwV 1 C.2.2.2.1 gX4_mean_X3_stepsLeft rfl rfl rfl (by decide +kernel) ⟨Nat.le_of_ble_eq_true rfl, Nat.le_of_ble_eq_true rfl⟩) (p_recv C hW hV.1 (pF_3 hV.2.1) rfl) rfl hl.1 rfl (Nat.le_of_ble_eq_true rfl) dX4_mean_31 (Nat.le_of_ble_eq_true rfl) (Nat.le_of_ble_eq_true rfl) (fun v8 I9 J10 H locs hp hW => ?_)
  obtain ⟨hv, hI, hJ⟩ := hp
  subst v8
  subst I9
  subst J10
  refine w_top (y := .int (nI (lf σ j))) (by unfold lf; rw [nh3, wd3]) ?_
  have hlf : lf σ j ≤ 60 - aTm σ j := left_le _ _ _ _
  refine n_icmp_le (tgt := 41) hx hb (by omega) (by omega) dX4_mean_34 (by decide) (fun hc_11 => ?_) (fun hc_11 => ?_)
  · skip
    refine lv_aload_n hx hb dX4_mean_41 rfl (lv_at hl 1 rfl) ?_
    refine g_X4_2 C hinX4 hW h0L (by decide) hS.2.2.2.1 lk24 dX4_mean_42 ?_
    refine lv_aload hx hb dX4_mean_45 (lv_at hl 0 rfl) ?_
    refine g_X2_2 C hinX2 hW wk.1 (kd_w (by omega)) wk.2.2.2.2.1 lk97 dX4_mean_47 ?_
    refine p_cVv C hml hg hW (c_X3_becomeLike l D cy L ad G I J 3 4 (27 + 3 * j) (28 + 3 * j) hV3 hV) (cwV 1 C.2.2.2.1 gX4_mean_X3_becomeLike rfl rfl rfl (by decide +kernel) ⟨Nat.le_of_ble_eq_true rfl, Nat.le_of_ble_eq_true rfl⟩) (p_recv C hW hV3.1 (pF_3 hV3.2.1) rfl) rfl hl.1 rfl (Nat.le_of_ble_eq_true rfl) dX4_mean_50 (Nat.le_of_ble_eq_true rfl) (Nat.le_of_ble_eq_true rfl) (fun I12 J13 H locs hp hW => ?_)
    obtain ⟨hI, hJ⟩ := hp
    rw [wd2] at hI
    rw [wd3] at hJ
    subst I12
    subst J13
    refine lv_aload_n hx hb dX4_mean_53 rfl (lv_at hl 1 rfl) ?_
    refine g_X4_2 C hinX4 hW h0L (by decide) hS.2.2.2.1 lk24 dX4_mean_54 ?_
    refine lv_iload_n hx hb dX4_mean_57 rfl (lv_at hl 3 rfl) ?_
    refine p_cVl C hml hg hW (c_X3_squaresAt l D cy L ad G (va_up I 3 (upd (I 3) 1 (nI (aTm σ j)))) (va_up J 4 (aWv σ j)) 3 4 hV3 q (by omega)) (cwV 1 C.2.2.2.1 gX4_mean_X3_squaresAt rfl rfl rfl (by decide +kernel) ⟨Nat.le_of_ble_eq_true rfl, Nat.le_of_ble_eq_true rfl⟩) (p_recv C hW hV3.1 (pF_3 hV3.2.1) rfl) rfl hl.1 rfl (Nat.le_of_ble_eq_true rfl) dX4_mean_58 (Nat.le_of_ble_eq_true rfl) (Nat.le_of_ble_eq_true rfl) (fun v14 I15 J16 H locs hp hW => ?_)
    obtain ⟨hv, hI, hJ⟩ := hp
    subst v14
    subst I15
    subst J16
    refine w_top (y := .long (sqAt (itS (stp σ (aNt σ j)) (0) (aWv σ j)) q)) (by rw [va_up_self]; rfl) ?_
    refine lv_lstore (lv' := [(5, .long (sqAt (itS (stp σ (aNt σ j)) (0) (aWv σ j)) q)), (4, .ref (ad (26 + 3 * j))), (0, .ref (ad 0)), (1, .int x), (2, .int (nI q)), (3, .int (nI k))]) hx hb dX4_mean_61 hl (by decide) rfl (fun ls hl => ?_)
    refine lv_iconst (v := nI 1) hx hb dX4_mean_63 (by decide) ?_
    refine lv_istore (lv' := [(7, .int (nI 1)), (5, .long (sqAt (itS (stp σ (aNt σ j)) (0) (aWv σ j)) q)), (4, .ref (ad (26 + 3 * j))), (0, .ref (ad 0)), (1, .int x), (2, .int (nI q)), (3, .int (nI k))]) hx hb dX4_mean_64 hl (by decide) rfl (fun ls hl => ?_)
    have lp66 : ∀ (nn : Nat) (a : Nat) (sm : Int64), (a ≤ k) → (k + 1 ≤ a + nn) → (menF (stp σ (aNt σ j)) (aWv σ j) q (hvOf (aDr σ (aNt σ j))) (scOf (aDr σ (aNt σ j))) (a) = some sm) → ∀ (H : Heap) (locs : List Loc), Wd D cy A s.heap H locs L ad G (va_up I 3 (upd (I 3) 1 (nI (aTm σ j + (a))))) (va_up J 4 (itS (stp σ (aNt σ j)) (a) (aWv σ j))) → ∀ (ls : Array Slot), lv_has ls 10 [(0, .ref (ad 0)), (2, .int (nI q)), (3, .int (nI k)), (4, .ref (ad (26 + 3 * j))), (5, .long sm), (7, .int (nI (a + 1)))] → W p l e rmX4_mean s m args below meth c H locs ((((((0 + rmX4_walkOf.cells) + rmX4_needPlace.cells) + rmX4_needSteps.cells) + rmX3_stepsLeft.cells) + rmX3_becomeLike.cells) + rmX3_squaresAt.cells) ((((((0 + rmX4_walkOf.slots) + rmX4_needPlace.slots) + rmX4_needSteps.slots) + rmX3_stepsLeft.slots) + rmX3_becomeLike.slots) + rmX3_squaresAt.slots) Q (F0 m 66 ls []) := by
      intro nn
      induction nn with
      | zero => intros; exfalso; omega
      | succ nn ih66 =>
        intro a sm ha hf hsm H locs hW ls hl
        refine lv_iload hx hb dX4_mean_66 (lv_at hl 5 rfl) ?_
        refine lv_iload_n hx hb dX4_mean_68 rfl (lv_at hl 2 rfl) ?_
        refine n_icmp_gt (tgt := 157) hx hb (by omega) (by omega) dX4_mean_69 (by decide) (fun hc_17 => ?_) (fun hc_17 => ?_)
        · skip
          refine lv_lload hx hb dX4_mean_157 (lv_at hl 4 rfl) ?_
          have hak : a = k := by omega
          rw [hak] at hsm
          have hsp : spMean cw σ x (nI q) (nI k) = (0, sm, σ) := by simp only [spMean, hj, hq, hk, menA]; rw [if_neg (by omega), hsm]; rfl
          exact ret _ _ _ _ _ _ _ _ _ (Nat.le_of_ble_eq_true rfl) (Nat.le_of_ble_eq_true rfl) hW (by unfold pst; rw [hsp]; exact ⟨rfl, rfl, hD.keep (va_up_ne _ _ (by omega)) (fun r h1 h2 => va_up_ne _ _ (by omega)) (fun r h1 h2 => va_up_ne _ _ (by omega)) h6 h12, fun r hr => ⟨va_up_ne _ _ (by omega), va_up_ne _ _ (by omega)⟩⟩) dX4_mean_159
        · skip
          refine lv_aload_n hx hb dX4_mean_72 rfl (lv_at hl 0 rfl) ?_
          refine g_X4_2 C hinX4 hW h0L (by decide) hS.2.2.2.1 lk24 dX4_mean_73 ?_
          refine lv_aload hx hb dX4_mean_76 (lv_at hl 3 rfl) ?_
          refine g_X2_1 C hinX2 hW wk.1 (kd_w (by omega)) wk.2.2.2.1 lk89 dX4_mean_78 ?_
          refine p_cVv C hml hg hW (d_do hV3 hN hH ⟨by omega, by omega, by omega, by omega⟩ po2 po3 po4 (aTm σ j + (a)) (by omega) (itS (stp σ (aNt σ j)) (a) (aWv σ j))) (cwV 1 C.2.2.2.1 gX4_mean_X3_doStep rfl rfl rfl (by decide +kernel) ⟨Nat.le_of_ble_eq_true rfl, Nat.le_of_ble_eq_true rfl⟩) (p_recv C hW hV3.1 (pF_3 hV3.2.1) rfl) rfl hl.1 rfl (Nat.le_of_ble_eq_true rfl) dX4_mean_81 (Nat.le_of_ble_eq_true rfl) (Nat.le_of_ble_eq_true rfl) (fun I18 J19 H locs hp hW => ?_)
          obtain ⟨hI, hJ⟩ := hp
          subst I18
          subst J19
          refine lv_aload_n hx hb dX4_mean_84 rfl (lv_at hl 0 rfl) ?_
          refine g_X4_2 C hinX4 hW h0L (by decide) hS.2.2.2.1 lk24 dX4_mean_85 ?_
          refine lv_iload_n hx hb dX4_mean_88 rfl (lv_at hl 1 rfl) ?_
          refine p_cVl C hml hg hW (c_X3_squaresAt l D cy L ad G (va_up I 3 (upd (I 3) 1 (nI (aTm σ j + (a) + 1)))) (va_up J 4 (stepF (aPl σ (aNt σ j)) (aDr σ (aNt σ j)) (aTo σ (aNt σ j)) (aMk σ (aNt σ j)) (itS (stp σ (aNt σ j)) (a) (aWv σ j)))) 3 4 hV3 q (by omega)) (cwV 1 C.2.2.2.1 gX4_mean_X3_squaresAt rfl rfl rfl (by decide +kernel) ⟨Nat.le_of_ble_eq_true rfl, Nat.le_of_ble_eq_true rfl⟩) (p_recv C hW hV3.1 (pF_3 hV3.2.1) rfl) rfl hl.1 rfl (Nat.le_of_ble_eq_true rfl) dX4_mean_89 (Nat.le_of_ble_eq_true rfl) (Nat.le_of_ble_eq_true rfl) (fun v20 I21 J22 H locs hp hW => ?_)
          obtain ⟨hv, hI, hJ⟩ := hp
          subst v20
          subst I21
          subst J22
          refine w_top (y := .long (sqAt (itS (stp σ (aNt σ j)) (a + 1) (aWv σ j)) q)) (by rw [va_up_self]; rfl) ?_
          refine lv_lstore (lv' := [(8, .long (sqAt (itS (stp σ (aNt σ j)) (a + 1) (aWv σ j)) q)), (0, .ref (ad 0)), (2, .int (nI q)), (3, .int (nI k)), (4, .ref (ad (26 + 3 * j))), (5, .long sm), (7, .int (nI (a + 1)))]) hx hb dX4_mean_92 hl (by decide) rfl (fun ls hl => ?_)
          refine lv_lload hx hb dX4_mean_94 (lv_at hl 5 rfl) ?_
          refine lv_aload hx hb dX4_mean_96 (lv_at hl 4 rfl) ?_
          refine g_X2_1 C hinX2 hW wk.1 (kd_w (by omega)) wk.2.2.2.1 lk89 dX4_mean_98 ?_
          refine g_X1_3 C hinX1 hW hN.1 hN.2.1 lk171 dX4_mean_101 ?_
          refine w_top (y := .long (hvOf (aDr σ (aNt σ j)))) (congrArg Value.long ((congrFun (va_up_ne _ _ (by omega)) 3).trans nh3)) ?_
          refine l_gt (tgt := 130) hx hb dX4_mean_104 dX4_mean_105 (by decide) (fun hc_23 => ?_) (fun hc_23 => ?_)
          · skip
            refine lv_ldc2 hx hb C.2.2.1 ck169 dX4_mean_130 ?_
            have hn1 : menF (stp σ (aNt σ j)) (aWv σ j) q (hvOf (aDr σ (aNt σ j))) (scOf (aDr σ (aNt σ j))) (a + 1) = none := by rw [menF, hsm]; dsimp only; rw [if_pos (Or.inl hc_23)]
            have hsp : spMean cw σ x (nI q) (nI k) = (0, -1, σ) := by simp only [spMean, hj, hq, hk, menA]; rw [if_neg (by omega), men_none hn1 (show a + 1 ≤ k by omega)]; rfl
            exact ret _ _ _ _ _ _ _ _ _ (Nat.le_of_ble_eq_true rfl) (Nat.le_of_ble_eq_true rfl) hW (by unfold pst; rw [hsp]; exact ⟨rfl, rfl, hD.keep (va_up_ne _ _ (by omega)) (fun r h1 h2 => va_up_ne _ _ (by omega)) (fun r h1 h2 => va_up_ne _ _ (by omega)) h6 h12, fun r hr => ⟨va_up_ne _ _ (by omega), va_up_ne _ _ (by omega)⟩⟩) dX4_mean_133
          · skip
            refine lv_lload hx hb dX4_mean_108 (lv_at hl 5 rfl) ?_
            refine lv_aload hx hb dX4_mean_110 (lv_at hl 4 rfl) ?_
            refine g_X2_1 C hinX2 hW wk.1 (kd_w (by omega)) wk.2.2.2.1 lk89 dX4_mean_112 ?_
            refine g_X1_2 C hinX1 hW hN.1 hN.2.1 lk138 dX4_mean_115 ?_
            refine w_top (y := .int (nI (scN (aDr σ (aNt σ j))))) (congrArg Value.int ((congrFun (va_up_ne _ _ (by omega)) 2).trans nh2)) ?_
            refine lv_i2l (v := scOf (aDr σ (aNt σ j))) hx hb dX4_mean_118 (sc_l po3) ?_
            refine lv_lmul hx hb dX4_mean_119 ?_
            refine lv_ldc2 hx hb C.2.2.1 ck175 dX4_mean_120 ?_
            refine lv_lload hx hb dX4_mean_123 (lv_at hl 0 rfl) ?_
            refine lv_lsub hx hb dX4_mean_125 ?_
            refine l_le (tgt := 134) hx hb dX4_mean_126 dX4_mean_127 (by decide) (fun hc_24 => ?_) (fun hc_24 => ?_)
            · skip
              refine lv_lload hx hb dX4_mean_134 (lv_at hl 5 rfl) ?_
              refine lv_aload hx hb dX4_mean_136 (lv_at hl 4 rfl) ?_
              refine g_X2_1 C hinX2 hW wk.1 (kd_w (by omega)) wk.2.2.2.1 lk89 dX4_mean_138 ?_
              refine g_X1_2 C hinX1 hW hN.1 hN.2.1 lk138 dX4_mean_141 ?_
              refine w_top (y := .int (nI (scN (aDr σ (aNt σ j))))) (congrArg Value.int ((congrFun (va_up_ne _ _ (by omega)) 2).trans nh2)) ?_
              refine lv_i2l (v := scOf (aDr σ (aNt σ j))) hx hb dX4_mean_144 (sc_l po3) ?_
              refine lv_lmul hx hb dX4_mean_145 ?_
              refine lv_lload hx hb dX4_mean_146 (lv_at hl 0 rfl) ?_
              refine lv_ladd hx hb dX4_mean_148 ?_
              refine lv_lstore (lv' := [(5, .long ((sm * (scOf (aDr σ (aNt σ j)))) + (sqAt (itS (stp σ (aNt σ j)) (a + 1) (aWv σ j)) q))), (8, .long (sqAt (itS (stp σ (aNt σ j)) (a + 1) (aWv σ j)) q)), (0, .ref (ad 0)), (2, .int (nI q)), (3, .int (nI k)), (4, .ref (ad (26 + 3 * j))), (7, .int (nI (a + 1)))]) hx hb dX4_mean_149 hl (by decide) rfl (fun ls hl => ?_)
              refine lv_iinc (v := nI ((a + 1) + 1)) (lv' := [(7, .int (nI ((a + 1) + 1))), (5, .long ((sm * (scOf (aDr σ (aNt σ j)))) + (sqAt (itS (stp σ (aNt σ j)) (a + 1) (aWv σ j)) q))), (8, .long (sqAt (itS (stp σ (aNt σ j)) (a + 1) (aWv σ j)) q)), (0, .ref (ad 0)), (2, .int (nI q)), (3, .int (nI k)), (4, .ref (ad (26 + 3 * j)))]) hx hb dX4_mean_151 hl (k := 6) rfl (nI_inc _) (by decide) rfl (fun ls hl => ?_)
              refine lv_goto (tgt := 66) hx hb dX4_mean_154 (by decide) ?_
              exact ih66 (a + 1) ((sm * (scOf (aDr σ (aNt σ j)))) + (sqAt (itS (stp σ (aNt σ j)) (a + 1) (aWv σ j)) q)) (by omega) (by omega) (by rw [menF, hsm]; dsimp only; rw [if_neg (fun z => z.elim hc_23 hc_24)]) _ _ hW ls (lv_sub hl [3, 4, 5, 6, 1, 0] rfl)
            · skip
              refine lv_ldc2 hx hb C.2.2.1 ck169 dX4_mean_130 ?_
              have hn1 : menF (stp σ (aNt σ j)) (aWv σ j) q (hvOf (aDr σ (aNt σ j))) (scOf (aDr σ (aNt σ j))) (a + 1) = none := by rw [menF, hsm]; dsimp only; rw [if_pos (Or.inr hc_24)]
              have hsp : spMean cw σ x (nI q) (nI k) = (0, -1, σ) := by simp only [spMean, hj, hq, hk, menA]; rw [if_neg (by omega), men_none hn1 (show a + 1 ≤ k by omega)]; rfl
              exact ret _ _ _ _ _ _ _ _ _ (Nat.le_of_ble_eq_true rfl) (Nat.le_of_ble_eq_true rfl) hW (by unfold pst; rw [hsp]; exact ⟨rfl, rfl, hD.keep (va_up_ne _ _ (by omega)) (fun r h1 h2 => va_up_ne _ _ (by omega)) (fun r h1 h2 => va_up_ne _ _ (by omega)) h6 h12, fun r hr => ⟨va_up_ne _ _ (by omega), va_up_ne _ _ (by omega)⟩⟩) dX4_mean_133
    exact lp66 (k + 1) 0 (sqAt (itS (stp σ (aNt σ j)) (0) (aWv σ j)) q) (by omega) (by omega) rfl _ _ hW ls (lv_sub hl [3, 5, 6, 2, 1, 0] rfl)
  · skip
    refine lv_ldc2 hx hb C.2.2.1 ck169 dX4_mean_37 ?_
    have hsp : spMean cw σ x (nI q) (nI k) = (0, -1, σ) := by simp only [spMean, hj, hq, hk]; rw [if_pos hc_11]
    exact ret _ _ _ _ _ _ _ _ _ (Nat.le_of_ble_eq_true rfl) (Nat.le_of_ble_eq_true rfl) hW (by unfold pst; rw [hsp]; exact ⟨rfl, rfl, hD, frm.rf I J⟩) dX4_mean_40
