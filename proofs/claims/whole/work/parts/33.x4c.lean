theorem sw_3 (x : Int32) : ixN x 3 = none ∨ x = nI 0 ∨ x = nI 1 ∨ x = nI 2 := by
  cases h : ixN x 3 with
  | none => exact Or.inl rfl
  | some k =>
    obtain ⟨h1, h2⟩ := ixN_some h (by omega)
    rcases (show k = 0 ∨ k = 1 ∨ k = 2 by omega) with rfl | rfl | rfl
    · exact Or.inr (Or.inl h2)
    · exact Or.inr (Or.inr (Or.inl h2))
    · exact Or.inr (Or.inr (Or.inr h2))
theorem sw_2 (x : Int32) : ixN x 2 = none ∨ x = nI 0 ∨ x = nI 1 := by
  cases h : ixN x 2 with
  | none => exact Or.inl rfl
  | some k =>
    obtain ⟨h1, h2⟩ := ixN_some h (by omega)
    rcases (show k = 0 ∨ k = 1 by omega) with rfl | rfl
    · exact Or.inr (Or.inl h2)
    · exact Or.inr (Or.inr h2)
theorem sw_out {x : Int32} (h : ixN x 3 = none) : x.toInt < 0 ∨ 2 < x.toInt := by
  unfold ixN at h
  split at h
  · cases h
  · omega
theorem sw_lk {x : Int32} (h : ixN x 2 = none) : Op.lookupswitch.offset [(0, 27), (1, 32)] 37 x.toInt = 37 := by
  unfold ixN at h
  split at h
  · cases h
  · have h0 : x.toInt ≠ 0 := by omega
    have h1 : x.toInt ≠ 1 := by omega
    simp [Op.lookupswitch.offset, h0, h1, Ne.symm h0, Ne.symm h1]
abbrev rmX4_set : Room := { frames := 8, cells := 4, slots := 24, locals := 125 }
set_option maxHeartbeats 4000000 in
set_option maxRecDepth 100000 in
theorem c_X4_set (l : Launch) (hst : l.stackTraces = false) (D : va_G) (cy : Nat → ClassId) (L : List Nat) (ad : Nat → Nat) (G : mG) (I : mI) (J : mJ) (cn cw : Nat) (σ : Ab) (hS : cSh L G cn cw (aNt σ)) (hA : aOk cn cw σ) (hD : cDt cn cw σ I J) (x xp xd xv : Int32) : pXet l yX4_set wsX4_set rmX4_set D cy L ad G I J [.ref (ad 0), .int x, .int xp, .int xd, .int xv] (qI (fun v I' J' => pst (spSet cw σ x xp xd xv) v.toInt64 cn cw I I' J J') D cy L ad G) (pxs (spSet cw σ x xp xd xv)) := by
  refine pXet.ofZ (cc := cX4_set) (maxL := 7) (by decide +kernel) rfl (Nat.le_of_ble_eq_true rfl) ?_
  intro p e R s m args below meth c A Q C hml hR hg ret thr hQ hlk hnx hW ls hl
  subst hR
  have C : Cx p s m args c cX4_set RX4 wsX4_set D cy A := C
  have hx := C.1
  have hb := C.2.1
  have lk89 := C.2.2.2.1 (.fieldLink RX4 89 "WaveWalk$Walk" "net" "LWaveWalk$Net;") (by decide +kernel)
  have lk97 := C.2.2.2.1 (.fieldLink RX4 97 "WaveWalk$Walk" "wave" "LWaveWalk$Wave;") (by decide +kernel)
  have lk104 := C.2.2.2.1 (.fieldLink RX4 104 "WaveWalk$Wave" "numbers" "[J") (by decide +kernel)
  have lk108 := C.2.2.2.1 (.fieldLink RX4 108 "WaveWalk$Wave" "time" "I") (by decide +kernel)
  have hinX2 : ∀ w ∈ wsX20, w ∈ wsX4_set := by decide +kernel
  have hinX3 : ∀ w ∈ wsX30, w ∈ wsX4_set := by decide +kernel
  have hl : lv_has ls 7 [(0, .ref (ad 0)), (1, .int x), (2, .int xp), (3, .int xd), (4, .int xv)] := hl
  have h6 := hA.1
  have h12 := hA.2.1
  have h0L : 0 ∈ L := hS.1 0 (by omega)
  have h1L : 1 ∈ L := hS.1 1 (by omega)
  have h2L : 2 ∈ L := hS.1 2 (by omega)
  have hV3 := hS.trial
  have hC5 := hS.cls
  refine lv_aload_n hx hb dX4_set_0 rfl (lv_at hl 0 rfl) ?_
  refine lv_iload_n hx hb dX4_set_1 rfl (lv_at hl 1 rfl) ?_
  refine p_xVr C hml hg hW (c_X4_walkOf l hst D cy L ad G I J cn cw (aNt σ) hS h6 h12 x) (cwV 1 C.2.2.2.1 gX4_set_X4_walkOf rfl rfl rfl (by decide +kernel) ⟨Nat.le_of_ble_eq_true rfl, Nat.le_of_ble_eq_true rfl⟩) (p_recv C hW h0L (pF_4 (by decide)) rfl) rfl hl.1 rfl (Nat.le_of_ble_eq_true rfl) dX4_set_2 (Nat.le_of_ble_eq_true rfl) (Nat.le_of_ble_eq_true rfl) (fun E ce q9 H locs hW hp h1 h2 h3 => thr E ce q9 H locs _ _ _ _ _ (Nat.le_of_ble_eq_true rfl) (Nat.le_of_ble_eq_true rfl) hW (Or.inl ⟨hp.1, by simp only [spSet, hp.2]⟩) h1 h2 h3) (fun v1 I2 J3 H locs hp hW => ?_)
  obtain ⟨⟨j, hj, hq⟩, hI, hJ⟩ := hp
  subst v1
  subst I2
  subst J3
  obtain ⟨hjl, -⟩ := ixN_some hj (by omega)
  have wk := hS.2.2.2.2.2.2.2.2.2.2.2 j hjl
  have hV := hS.wave hjl h12
  obtain ⟨wl1, wl2, wl3, wl4⟩ := hA.2.2.2 j hjl
  obtain ⟨wd1, wd2, wd3⟩ := id (hD.2.2.2 j hjl)
  have hN := hS.net wl1 h6
  have hO := hA.2.2.1 _ wl1
  have hH := hD.nHas wl1
  obtain ⟨po1, po2, po3, po4⟩ := id hO
  obtain ⟨nh0, nh1, nh2, nh3, nh4, nh5⟩ := id hH
  refine lv_astore (lv' := [(5, .ref (ad (26 + 3 * j))), (0, .ref (ad 0)), (1, .int x), (2, .int xp), (3, .int xd), (4, .int xv)]) hx hb dX4_set_5 hl (by decide) rfl (fun ls hl => ?_)
  refine lv_aload hx hb dX4_set_7 (lv_at hl 0 rfl) ?_
  refine g_X2_1 C hinX2 hW wk.1 (kd_w (by omega)) wk.2.2.2.1 lk89 dX4_set_9 ?_
  refine lv_iload_n hx hb dX4_set_12 rfl (lv_at hl 3 rfl) ?_
  refine lv_iload_n hx hb dX4_set_13 rfl (lv_at hl 4 rfl) ?_
  refine p_xSi C hml hg hW (c_X4_cellOf l hst D cy L ad G I J (8 + 3 * aNt σ j) (9 + 3 * aNt σ j) (10 + 3 * aNt σ j) hN (aPl σ (aNt σ j)) (aDr σ (aNt σ j)) nh0 nh1 po2 (by omega) xp xd) (va_cwS 3 C.2.2.2.1 gX4_set_X4_cellOf rfl rfl rfl (by decide +kernel) ⟨Nat.le_of_ble_eq_true rfl, Nat.le_of_ble_eq_true rfl⟩) rfl hl.1 rfl (Nat.le_of_ble_eq_true rfl) dX4_set_14 (Nat.le_of_ble_eq_true rfl) (Nat.le_of_ble_eq_true rfl) (fun E ce q9 H locs hW hp h1 h2 h3 => thr E ce q9 H locs _ _ _ _ _ (Nat.le_of_ble_eq_true rfl) (Nat.le_of_ble_eq_true rfl) hW (Or.inl ⟨hp.1, by simp only [spSet, hj, spDoor_none hp.2]⟩) h1 h2 h3) (fun v4 I5 J6 H locs hp hW => ?_)
  obtain ⟨⟨q, e1, hq, he1, hv⟩, hI, hJ⟩ := hp
  subst v4
  subst I5
  subst J6
  obtain ⟨hql, -⟩ := ixN_some hq (by omega)
  obtain ⟨he1l, -⟩ := ixN_some he1 (by omega)
  have hc1 := spDoor_some hq he1
  refine lv_istore (lv' := [(6, .int (nI (q * 4 + e1))), (5, .ref (ad (26 + 3 * j))), (0, .ref (ad 0)), (1, .int x), (2, .int xp), (3, .int xd), (4, .int xv)]) hx hb dX4_set_17 hl (by decide) rfl (fun ls hl => ?_)
  refine lv_iload hx hb dX4_set_19 (lv_at hl 6 rfl) ?_
  refine p_xSv C hml hg hW (c_X4_needTold l hst D cy L ad G I J xv) (va_cwS 1 C.2.2.2.1 gX4_set_X4_needTold rfl rfl rfl (by decide +kernel) ⟨Nat.le_of_ble_eq_true rfl, Nat.le_of_ble_eq_true rfl⟩) rfl hl.1 rfl (Nat.le_of_ble_eq_true rfl) dX4_set_21 (Nat.le_of_ble_eq_true rfl) (Nat.le_of_ble_eq_true rfl) (fun E ce q9 H locs hW hp h1 h2 h3 => thr E ce q9 H locs _ _ _ _ _ (Nat.le_of_ble_eq_true rfl) (Nat.le_of_ble_eq_true rfl) hW (Or.inr ⟨hp.1, by simp [spSet, hj, hc1, hp.2]⟩) h1 h2 h3) (fun I7 J8 H locs hp hW => ?_)
  obtain ⟨htd, hI, hJ⟩ := hp
  subst I7
  subst J8
  refine lv_aload hx hb dX4_set_24 (lv_at hl 1 rfl) ?_
  refine g_X2_2 C hinX2 hW wk.1 (kd_w (by omega)) wk.2.2.2.2.1 lk97 dX4_set_26 ?_
  refine lv_iload hx hb dX4_set_29 (lv_at hl 0 rfl) ?_
  refine p_cVi C hml hg hW (c_X3_isToldBut l D cy L ad G I J (27 + 3 * j) (28 + 3 * j) hV (q * 4 + e1) (by omega)) (cwV 1 C.2.2.2.1 gX4_set_X3_isToldBut rfl rfl rfl (by decide +kernel) ⟨Nat.le_of_ble_eq_true rfl, Nat.le_of_ble_eq_true rfl⟩) (p_recv C hW hV.1 (pF_3 hV.2.1) rfl) rfl hl.1 rfl (Nat.le_of_ble_eq_true rfl) dX4_set_31 (Nat.le_of_ble_eq_true rfl) (Nat.le_of_ble_eq_true rfl) (fun v9 I10 J11 H locs hp hW => ?_)
  obtain ⟨hv, hI, hJ⟩ := hp
  subst v9
  subst I10
  subst J11
  refine w_top (y := .int (bI (toldB (aWv σ j) (q * 4 + e1) 48))) (by rw [wd3]) ?_
  refine b_if_ne (tgt := 39) hx hb dX4_set_34 (by decide) (fun hc_12 => ?_) (fun hc_12 => ?_)
  · skip
    refine lv_aload hx hb dX4_set_39 (lv_at hl 1 rfl) ?_
    refine g_X2_2 C hinX2 hW wk.1 (kd_w (by omega)) wk.2.2.2.2.1 lk97 dX4_set_41 ?_
    refine g_X3_0 C hinX3 hW hV.1 hV.2.1 hV.2.2.1 lk104 dX4_set_44 ?_
    refine lv_iload hx hb dX4_set_47 (lv_at hl 0 rfl) ?_
    refine lv_iload hx hb dX4_set_49 (lv_at hl 6 rfl) ?_
    refine lv_i2l (v := xv.toInt64) hx hb dX4_set_51 rfl ?_
    refine p_last C hW hV.2.2.2.1 hV.2.2.2.2.1 (k := q * 4 + e1) rfl (by rw [hV.2.2.2.2.2]; omega) dX4_set_52 (fun H locs hW => ?_)
    obtain ⟨J13, eJ13⟩ : ∃ z, z = va_up J (28 + 3 * j) (vp_updL (J (28 + 3 * j)) (q * 4 + e1) xv.toInt64) := ⟨_, rfl⟩
    rw [← eJ13] at hW
    refine lv_aload hx hb dX4_set_53 (lv_at hl 1 rfl) ?_
    refine g_X2_2 C hinX2 hW wk.1 (kd_w (by omega)) wk.2.2.2.2.1 lk97 dX4_set_55 ?_
    refine lv_iconst (v := nI 0) hx hb dX4_set_58 (by decide) ?_
    refine s_X3_1 C hinX3 hW hV.1 hV.2.1 lk108 dX4_set_59 (fun H locs hW => ?_)
    obtain ⟨I14, eI14⟩ : ∃ z, z = va_up I (27 + 3 * j) (upd (I (27 + 3 * j)) 1 (nI 0)) := ⟨_, rfl⟩
    rw [← eI14] at hW
    refine lv_iconst (v := nI 1) hx hb dX4_set_62 (by decide) ?_
    have hsp : spSet cw σ x xp xd xv = (0, 1, sWv σ j (vp_updL (aWv σ j) (q * 4 + e1) xv.toInt64) 0) := by simp [spSet, hj, hc1, htd, hc_12]
    rw [wd3] at eJ13
    exact ret _ _ _ _ _ _ _ _ _ (Nat.le_of_ble_eq_true rfl) (Nat.le_of_ble_eq_true rfl) hW (by unfold pst; rw [hsp, eI14, eJ13]; exact ⟨rfl, (by decide : (1 : Int64) = (nI 1).toInt64), hD.wv h6 h12 hjl 0 _, frm.wv (by omega) 0 _⟩) (by decide) dX4_set_63
  · skip
    refine lv_iconst (v := nI 0) hx hb dX4_set_37 (by decide) ?_
    have hsp : spSet cw σ x xp xd xv = (0, 0, σ) := by simp [spSet, hj, hc1, htd, hc_12]
    exact ret _ _ _ _ _ _ _ _ _ (Nat.le_of_ble_eq_true rfl) (Nat.le_of_ble_eq_true rfl) hW (by unfold pst; rw [hsp]; exact ⟨rfl, (by decide : (0 : Int64) = (nI 0).toInt64), hD, frm.rf I J⟩) (by decide) dX4_set_38
abbrev rmX4_spread : Room := { frames := 7, cells := 2, slots := 12, locals := 104 }
set_option maxHeartbeats 4000000 in
set_option maxRecDepth 100000 in
theorem c_X4_spread (l : Launch) (hst : l.stackTraces = false) (D : va_G) (cy : Nat → ClassId) (L : List Nat) (ad : Nat → Nat) (G : mG) (I : mI) (J : mJ) (cn cw : Nat) (σ : Ab) (hS : cSh L G cn cw (aNt σ)) (hA : aOk cn cw σ) (hD : cDt cn cw σ I J) (x xv : Int32) : pXet l yX4_spread wsX4_spread rmX4_spread D cy L ad G I J [.ref (ad 0), .int x, .int xv] (qV (fun I' J' => pst (spSpread cw σ x xv) 0 cn cw I I' J J') D cy L ad G) (pxs (spSpread cw σ x xv)) := by
  refine pXet.ofV (cc := cX4_spread) (maxL := 4) (by decide +kernel) rfl (Nat.le_of_ble_eq_true rfl) ?_
  intro p e R s m args below meth c A Q C hml hR hg ret thr hQ hlk hnx hW ls hl
  subst hR
  have C : Cx p s m args c cX4_spread RX4 wsX4_spread D cy A := C
  have hx := C.1
  have hb := C.2.1
  have lk89 := C.2.2.2.1 (.fieldLink RX4 89 "WaveWalk$Walk" "net" "LWaveWalk$Net;") (by decide +kernel)
  have lk97 := C.2.2.2.1 (.fieldLink RX4 97 "WaveWalk$Walk" "wave" "LWaveWalk$Wave;") (by decide +kernel)
  have hinX2 : ∀ w ∈ wsX20, w ∈ wsX4_spread := by decide +kernel
  have hl : lv_has ls 4 [(0, .ref (ad 0)), (1, .int x), (2, .int xv)] := hl
  have h6 := hA.1
  have h12 := hA.2.1
  have h0L : 0 ∈ L := hS.1 0 (by omega)
  have h1L : 1 ∈ L := hS.1 1 (by omega)
  have h2L : 2 ∈ L := hS.1 2 (by omega)
  have hV3 := hS.trial
  have hC5 := hS.cls
  refine lv_aload_n hx hb dX4_spread_0 rfl (lv_at hl 0 rfl) ?_
  refine lv_iload_n hx hb dX4_spread_1 rfl (lv_at hl 1 rfl) ?_
  refine p_xVr C hml hg hW (c_X4_walkOf l hst D cy L ad G I J cn cw (aNt σ) hS h6 h12 x) (cwV 1 C.2.2.2.1 gX4_spread_X4_walkOf rfl rfl rfl (by decide +kernel) ⟨Nat.le_of_ble_eq_true rfl, Nat.le_of_ble_eq_true rfl⟩) (p_recv C hW h0L (pF_4 (by decide)) rfl) rfl hl.1 rfl (Nat.le_of_ble_eq_true rfl) dX4_spread_2 (Nat.le_of_ble_eq_true rfl) (Nat.le_of_ble_eq_true rfl) (fun E ce q9 H locs hW hp h1 h2 h3 => thr E ce q9 H locs _ _ _ _ _ (Nat.le_of_ble_eq_true rfl) (Nat.le_of_ble_eq_true rfl) hW (Or.inl ⟨hp.1, by simp only [spSpread, hp.2]⟩) h1 h2 h3) (fun v1 I2 J3 H locs hp hW => ?_)
  obtain ⟨⟨j, hj, hq⟩, hI, hJ⟩ := hp
  subst v1
  subst I2
  subst J3
  obtain ⟨hjl, -⟩ := ixN_some hj (by omega)
  have wk := hS.2.2.2.2.2.2.2.2.2.2.2 j hjl
  have hV := hS.wave hjl h12
  obtain ⟨wl1, wl2, wl3, wl4⟩ := hA.2.2.2 j hjl
  obtain ⟨wd1, wd2, wd3⟩ := id (hD.2.2.2 j hjl)
  have hN := hS.net wl1 h6
  have hO := hA.2.2.1 _ wl1
  have hH := hD.nHas wl1
  obtain ⟨po1, po2, po3, po4⟩ := id hO
  obtain ⟨nh0, nh1, nh2, nh3, nh4, nh5⟩ := id hH
  refine lv_astore_n (lv' := [(3, .ref (ad (26 + 3 * j))), (0, .ref (ad 0)), (1, .int x), (2, .int xv)]) hx hb dX4_spread_5 rfl hl (by decide) rfl (fun ls hl => ?_)
  refine lv_iload_n hx hb dX4_spread_6 rfl (lv_at hl 3 rfl) ?_
  refine p_xSv C hml hg hW (c_X4_needTold l hst D cy L ad G I J xv) (va_cwS 1 C.2.2.2.1 gX4_spread_X4_needTold rfl rfl rfl (by decide +kernel) ⟨Nat.le_of_ble_eq_true rfl, Nat.le_of_ble_eq_true rfl⟩) rfl hl.1 rfl (Nat.le_of_ble_eq_true rfl) dX4_spread_7 (Nat.le_of_ble_eq_true rfl) (Nat.le_of_ble_eq_true rfl) (fun E ce q9 H locs hW hp h1 h2 h3 => thr E ce q9 H locs _ _ _ _ _ (Nat.le_of_ble_eq_true rfl) (Nat.le_of_ble_eq_true rfl) hW (Or.inr ⟨hp.1, by simp [spSpread, hj, hp.2]⟩) h1 h2 h3) (fun I4 J5 H locs hp hW => ?_)
  obtain ⟨htd, hI, hJ⟩ := hp
  subst I4
  subst J5
  refine lv_aload_n hx hb dX4_spread_10 rfl (lv_at hl 0 rfl) ?_
  refine g_X2_2 C hinX2 hW wk.1 (kd_w (by omega)) wk.2.2.2.2.1 lk97 dX4_spread_11 ?_
  refine lv_aload_n hx hb dX4_spread_14 rfl (lv_at hl 0 rfl) ?_
  refine g_X2_1 C hinX2 hW wk.1 (kd_w (by omega)) wk.2.2.2.1 lk89 dX4_spread_15 ?_
  refine lv_iload_n hx hb dX4_spread_18 rfl (lv_at hl 3 rfl) ?_
  refine p_cVv C hml hg hW (c_X3_fillAll l D cy L ad G I J (27 + 3 * j) (28 + 3 * j) hV (8 + 3 * aNt σ j) (9 + 3 * aNt σ j) (10 + 3 * aNt σ j) hN (aPl σ (aNt σ j)) (aDr σ (aNt σ j)) nh0 nh1 po2 po3 xv) (cwV 2 C.2.2.2.1 gX4_spread_X3_fillAll rfl rfl rfl (by decide +kernel) ⟨Nat.le_of_ble_eq_true rfl, Nat.le_of_ble_eq_true rfl⟩) (p_recv C hW hV.1 (pF_3 hV.2.1) rfl) rfl hl.1 rfl (Nat.le_of_ble_eq_true rfl) dX4_spread_19 (Nat.le_of_ble_eq_true rfl) (Nat.le_of_ble_eq_true rfl) (fun I6 J7 H locs hp hW => ?_)
  obtain ⟨hI, hJ⟩ := hp
  have hsp : spSpread cw σ x xv = (0, 0, sWv σ j (fillF (aPl σ (aNt σ j)) (aDr σ (aNt σ j)) xv.toInt64 (aWv σ j)) 0) := by simp [spSpread, hj, htd]
  rw [wd3] at hJ
  exact ret _ _ _ _ _ _ _ _ (Nat.le_of_ble_eq_true rfl) (Nat.le_of_ble_eq_true rfl) hW (by unfold pst; rw [hsp, hI, hJ]; exact ⟨rfl, rfl, hD.wv h6 h12 hjl 0 _, frm.wv (by omega) 0 _⟩) dX4_spread_22
abbrev rmX4_at : Room := { frames := 8, cells := 3, slots := 18, locals := 125 }
set_option maxHeartbeats 4000000 in
set_option maxRecDepth 100000 in
theorem c_X4_at (l : Launch) (hst : l.stackTraces = false) (D : va_G) (cy : Nat → ClassId) (L : List Nat) (ad : Nat → Nat) (G : mG) (I : mI) (J : mJ) (cn cw : Nat) (σ : Ab) (hS : cSh L G cn cw (aNt σ)) (hA : aOk cn cw σ) (hD : cDt cn cw σ I J) (x xp xd : Int32) : pXet l yX4_at wsX4_at rmX4_at D cy L ad G I J [.ref (ad 0), .int x, .int xp, .int xd] (qL (fun v I' J' => pst (spAt cw σ x xp xd) v cn cw I I' J J') D cy L ad G) (pxs (spAt cw σ x xp xd)) := by
  refine pXet.ofL (cc := cX4_at) (maxL := 5) (by decide +kernel) rfl (Nat.le_of_ble_eq_true rfl) ?_
  intro p e R s m args below meth c A Q C hml hR hg ret thr hQ hlk hnx hW ls hl
  subst hR
  have C : Cx p s m args c cX4_at RX4 wsX4_at D cy A := C
  have hx := C.1
  have hb := C.2.1
  have lk89 := C.2.2.2.1 (.fieldLink RX4 89 "WaveWalk$Walk" "net" "LWaveWalk$Net;") (by decide +kernel)
  have lk97 := C.2.2.2.1 (.fieldLink RX4 97 "WaveWalk$Walk" "wave" "LWaveWalk$Wave;") (by decide +kernel)
  have lk104 := C.2.2.2.1 (.fieldLink RX4 104 "WaveWalk$Wave" "numbers" "[J") (by decide +kernel)
  have hinX2 : ∀ w ∈ wsX20, w ∈ wsX4_at := by decide +kernel
  have hinX3 : ∀ w ∈ wsX30, w ∈ wsX4_at := by decide +kernel
  have hl : lv_has ls 5 [(0, .ref (ad 0)), (1, .int x), (2, .int xp), (3, .int xd)] := hl
  have h6 := hA.1
  have h12 := hA.2.1
  have h0L : 0 ∈ L := hS.1 0 (by omega)
  have h1L : 1 ∈ L := hS.1 1 (by omega)
  have h2L : 2 ∈ L := hS.1 2 (by omega)
  have hV3 := hS.trial
  have hC5 := hS.cls
  refine lv_aload_n hx hb dX4_at_0 rfl (lv_at hl 0 rfl) ?_
  refine lv_iload_n hx hb dX4_at_1 rfl (lv_at hl 1 rfl) ?_
  refine p_xVr C hml hg hW (c_X4_walkOf l hst D cy L ad G I J cn cw (aNt σ) hS h6 h12 x) (cwV 1 C.2.2.2.1 gX4_at_X4_walkOf rfl rfl rfl (by decide +kernel) ⟨Nat.le_of_ble_eq_true rfl, Nat.le_of_ble_eq_true rfl⟩) (p_recv C hW h0L (pF_4 (by decide)) rfl) rfl hl.1 rfl (Nat.le_of_ble_eq_true rfl) dX4_at_2 (Nat.le_of_ble_eq_true rfl) (Nat.le_of_ble_eq_true rfl) (fun E ce q9 H locs hW hp h1 h2 h3 => thr E ce q9 H locs _ _ _ _ _ (Nat.le_of_ble_eq_true rfl) (Nat.le_of_ble_eq_true rfl) hW (Or.inl ⟨hp.1, by simp only [spAt, hp.2]⟩) h1 h2 h3) (fun v1 I2 J3 H locs hp hW => ?_)
  obtain ⟨⟨j, hj, hq⟩, hI, hJ⟩ := hp
  subst v1
  subst I2
  subst J3
  obtain ⟨hjl, -⟩ := ixN_some hj (by omega)
  have wk := hS.2.2.2.2.2.2.2.2.2.2.2 j hjl
  have hV := hS.wave hjl h12
  obtain ⟨wl1, wl2, wl3, wl4⟩ := hA.2.2.2 j hjl
  obtain ⟨wd1, wd2, wd3⟩ := id (hD.2.2.2 j hjl)
  have hN := hS.net wl1 h6
  have hO := hA.2.2.1 _ wl1
  have hH := hD.nHas wl1
  obtain ⟨po1, po2, po3, po4⟩ := id hO
  obtain ⟨nh0, nh1, nh2, nh3, nh4, nh5⟩ := id hH
  refine lv_astore (lv' := [(4, .ref (ad (26 + 3 * j))), (0, .ref (ad 0)), (1, .int x), (2, .int xp), (3, .int xd)]) hx hb dX4_at_5 hl (by decide) rfl (fun ls hl => ?_)
  refine lv_aload hx hb dX4_at_7 (lv_at hl 0 rfl) ?_
  refine g_X2_2 C hinX2 hW wk.1 (kd_w (by omega)) wk.2.2.2.2.1 lk97 dX4_at_9 ?_
  refine g_X3_0 C hinX3 hW hV.1 hV.2.1 hV.2.2.1 lk104 dX4_at_12 ?_
  refine lv_aload hx hb dX4_at_15 (lv_at hl 0 rfl) ?_
  refine g_X2_1 C hinX2 hW wk.1 (kd_w (by omega)) wk.2.2.2.1 lk89 dX4_at_17 ?_
  refine lv_iload_n hx hb dX4_at_20 rfl (lv_at hl 3 rfl) ?_
  refine lv_iload_n hx hb dX4_at_21 rfl (lv_at hl 4 rfl) ?_
  refine p_xSi C hml hg hW (c_X4_cellOf l hst D cy L ad G I J (8 + 3 * aNt σ j) (9 + 3 * aNt σ j) (10 + 3 * aNt σ j) hN (aPl σ (aNt σ j)) (aDr σ (aNt σ j)) nh0 nh1 po2 (by omega) xp xd) (va_cwS 3 C.2.2.2.1 gX4_at_X4_cellOf rfl rfl rfl (by decide +kernel) ⟨Nat.le_of_ble_eq_true rfl, Nat.le_of_ble_eq_true rfl⟩) rfl hl.1 rfl (Nat.le_of_ble_eq_true rfl) dX4_at_22 (Nat.le_of_ble_eq_true rfl) (Nat.le_of_ble_eq_true rfl) (fun E ce q9 H locs hW hp h1 h2 h3 => thr E ce q9 H locs _ _ _ _ _ (Nat.le_of_ble_eq_true rfl) (Nat.le_of_ble_eq_true rfl) hW (Or.inl ⟨hp.1, by simp only [spAt, hj, spDoor_none hp.2]⟩) h1 h2 h3) (fun v4 I5 J6 H locs hp hW => ?_)
  obtain ⟨⟨q, e1, hq, he1, hv⟩, hI, hJ⟩ := hp
  subst v4
  subst I5
  subst J6
  obtain ⟨hql, -⟩ := ixN_some hq (by omega)
  obtain ⟨he1l, -⟩ := ixN_some he1 (by omega)
  have hc1 := spDoor_some hq he1
  refine p_lald C hW hV.2.2.2.1 hV.2.2.2.2.1 (k := q * 4 + e1) rfl (by rw [hV.2.2.2.2.2]; omega) dX4_at_25 ?_
  have hsp : spAt cw σ x xp xd = (0, aWv σ j (q * 4 + e1), σ) := by simp only [spAt, hj, hc1]
  exact ret _ _ _ _ _ _ _ _ _ (Nat.le_of_ble_eq_true rfl) (Nat.le_of_ble_eq_true rfl) hW (by unfold pst; rw [hsp]; exact ⟨rfl, (by rw [wd3]), hD, frm.rf I J⟩) dX4_at_26
abbrev rmX4_share : Room := { frames := 7, cells := 2, slots := 12, locals := 104 }
set_option maxHeartbeats 4000000 in
set_option maxRecDepth 100000 in
theorem c_X4_share (l : Launch) (hst : l.stackTraces = false) (D : va_G) (cy : Nat → ClassId) (L : List Nat) (ad : Nat → Nat) (G : mG) (I : mI) (J : mJ) (cn cw : Nat) (σ : Ab) (hS : cSh L G cn cw (aNt σ)) (hA : aOk cn cw σ) (hD : cDt cn cw σ I J) (x xp : Int32) : pXet l yX4_share wsX4_share rmX4_share D cy L ad G I J [.ref (ad 0), .int x, .int xp] (qL (fun v I' J' => pst (spShare cw σ x xp) v cn cw I I' J J') D cy L ad G) (pxs (spShare cw σ x xp)) := by
  refine pXet.ofL (cc := cX4_share) (maxL := 4) (by decide +kernel) rfl (Nat.le_of_ble_eq_true rfl) ?_
  intro p e R s m args below meth c A Q C hml hR hg ret thr hQ hlk hnx hW ls hl
  subst hR
  have C : Cx p s m args c cX4_share RX4 wsX4_share D cy A := C
  have hx := C.1
  have hb := C.2.1
  have lk89 := C.2.2.2.1 (.fieldLink RX4 89 "WaveWalk$Walk" "net" "LWaveWalk$Net;") (by decide +kernel)
  have lk97 := C.2.2.2.1 (.fieldLink RX4 97 "WaveWalk$Walk" "wave" "LWaveWalk$Wave;") (by decide +kernel)
  have hinX2 : ∀ w ∈ wsX20, w ∈ wsX4_share := by decide +kernel
  have hl : lv_has ls 4 [(0, .ref (ad 0)), (1, .int x), (2, .int xp)] := hl
  have h6 := hA.1
  have h12 := hA.2.1
  have h0L : 0 ∈ L := hS.1 0 (by omega)
  have h1L : 1 ∈ L := hS.1 1 (by omega)
  have h2L : 2 ∈ L := hS.1 2 (by omega)
  have hV3 := hS.trial
  have hC5 := hS.cls
  refine lv_aload_n hx hb dX4_share_0 rfl (lv_at hl 0 rfl) ?_
  refine lv_iload_n hx hb dX4_share_1 rfl (lv_at hl 1 rfl) ?_
  refine p_xVr C hml hg hW (c_X4_walkOf l hst D cy L ad G I J cn cw (aNt σ) hS h6 h12 x) (cwV 1 C.2.2.2.1 gX4_share_X4_walkOf rfl rfl rfl (by decide +kernel) ⟨Nat.le_of_ble_eq_true rfl, Nat.le_of_ble_eq_true rfl⟩) (p_recv C hW h0L (pF_4 (by decide)) rfl) rfl hl.1 rfl (Nat.le_of_ble_eq_true rfl) dX4_share_2 (Nat.le_of_ble_eq_true rfl) (Nat.le_of_ble_eq_true rfl) (fun E ce q9 H locs hW hp h1 h2 h3 => thr E ce q9 H locs _ _ _ _ _ (Nat.le_of_ble_eq_true rfl) (Nat.le_of_ble_eq_true rfl) hW (Or.inl ⟨hp.1, by simp only [spShare, hp.2]⟩) h1 h2 h3) (fun v1 I2 J3 H locs hp hW => ?_)
  obtain ⟨⟨j, hj, hq⟩, hI, hJ⟩ := hp
  subst v1
  subst I2
  subst J3
  obtain ⟨hjl, -⟩ := ixN_some hj (by omega)
  have wk := hS.2.2.2.2.2.2.2.2.2.2.2 j hjl
  have hV := hS.wave hjl h12
  obtain ⟨wl1, wl2, wl3, wl4⟩ := hA.2.2.2 j hjl
  obtain ⟨wd1, wd2, wd3⟩ := id (hD.2.2.2 j hjl)
  have hN := hS.net wl1 h6
  have hO := hA.2.2.1 _ wl1
  have hH := hD.nHas wl1
  obtain ⟨po1, po2, po3, po4⟩ := id hO
  obtain ⟨nh0, nh1, nh2, nh3, nh4, nh5⟩ := id hH
  refine lv_astore_n (lv' := [(3, .ref (ad (26 + 3 * j))), (0, .ref (ad 0)), (1, .int x), (2, .int xp)]) hx hb dX4_share_5 rfl hl (by decide) rfl (fun ls hl => ?_)
  refine lv_iload_n hx hb dX4_share_6 rfl (lv_at hl 3 rfl) ?_
  refine lv_iconst (v := (-1)) hx hb dX4_share_7 (by decide) ?_
  refine lv_icmp_ne (tgt := 19) hx hb dX4_share_8 (by decide) (fun hc_4 => ?_) (fun hc_4 => ?_)
  · skip
    refine lv_aload_n hx hb dX4_share_19 rfl (lv_at hl 0 rfl) ?_
    refine g_X2_1 C hinX2 hW wk.1 (kd_w (by omega)) wk.2.2.2.1 lk89 dX4_share_20 ?_
    refine lv_iload_n hx hb dX4_share_23 rfl (lv_at hl 3 rfl) ?_
    refine p_xSv C hml hg hW (c_X4_needPlace l hst D cy L ad G I J (8 + 3 * aNt σ j) (9 + 3 * aNt σ j) (10 + 3 * aNt σ j) hN (aPl σ (aNt σ j)) nh0 po2 xp) (va_cwS 2 C.2.2.2.1 gX4_share_X4_needPlace rfl rfl rfl (by decide +kernel) ⟨Nat.le_of_ble_eq_true rfl, Nat.le_of_ble_eq_true rfl⟩) rfl hl.1 rfl (Nat.le_of_ble_eq_true rfl) dX4_share_24 (Nat.le_of_ble_eq_true rfl) (Nat.le_of_ble_eq_true rfl) (fun E ce q9 H locs hW hp h1 h2 h3 => thr E ce q9 H locs _ _ _ _ _ (Nat.le_of_ble_eq_true rfl) (Nat.le_of_ble_eq_true rfl) hW (Or.inl ⟨hp.1, by simp only [spShare, hj, hc_4, if_false, hp.2]⟩) h1 h2 h3) (fun I5 J6 H locs hp hW => ?_)
    obtain ⟨⟨q, hq⟩, hI, hJ⟩ := hp
    subst I5
    subst J6
    obtain ⟨hql, hqe⟩ := ixN_some hq (by omega)
    subst hqe
    refine lv_aload_n hx hb dX4_share_27 rfl (lv_at hl 0 rfl) ?_
    refine g_X2_2 C hinX2 hW wk.1 (kd_w (by omega)) wk.2.2.2.2.1 lk97 dX4_share_28 ?_
    refine lv_iload_n hx hb dX4_share_31 rfl (lv_at hl 3 rfl) ?_
    refine p_cVl C hml hg hW (c_X3_squaresAt l D cy L ad G I J (27 + 3 * j) (28 + 3 * j) hV q (by omega)) (cwV 1 C.2.2.2.1 gX4_share_X3_squaresAt rfl rfl rfl (by decide +kernel) ⟨Nat.le_of_ble_eq_true rfl, Nat.le_of_ble_eq_true rfl⟩) (p_recv C hW hV.1 (pF_3 hV.2.1) rfl) rfl hl.1 rfl (Nat.le_of_ble_eq_true rfl) dX4_share_32 (Nat.le_of_ble_eq_true rfl) (Nat.le_of_ble_eq_true rfl) (fun v7 I8 J9 H locs hp hW => ?_)
    obtain ⟨hv, hI, hJ⟩ := hp
    subst v7
    subst I8
    subst J9
    have hsp : spShare cw σ x (nI q) = (0, sqAt (aWv σ j) q, σ) := by simp only [spShare, hj, hq]; rw [if_neg hc_4]
    exact ret _ _ _ _ _ _ _ _ _ (Nat.le_of_ble_eq_true rfl) (Nat.le_of_ble_eq_true rfl) hW (by unfold pst; rw [hsp]; exact ⟨rfl, (by rw [wd3]), hD, frm.rf I J⟩) dX4_share_35
  · skip
    refine lv_aload_n hx hb dX4_share_11 rfl (lv_at hl 0 rfl) ?_
    refine g_X2_2 C hinX2 hW wk.1 (kd_w (by omega)) wk.2.2.2.2.1 lk97 dX4_share_12 ?_
    refine p_cVl C hml hg hW (c_X3_squares l D cy L ad G I J (27 + 3 * j) (28 + 3 * j) hV) (cwV 0 C.2.2.2.1 gX4_share_X3_squares rfl rfl rfl (by decide +kernel) ⟨Nat.le_of_ble_eq_true rfl, Nat.le_of_ble_eq_true rfl⟩) (p_recv C hW hV.1 (pF_3 hV.2.1) rfl) rfl hl.1 rfl (Nat.le_of_ble_eq_true rfl) dX4_share_15 (Nat.le_of_ble_eq_true rfl) (Nat.le_of_ble_eq_true rfl) (fun v10 I11 J12 H locs hp hW => ?_)
    obtain ⟨hv, hI, hJ⟩ := hp
    subst v10
    subst I11
    subst J12
    have hsp : spShare cw σ x xp = (0, sqs (aWv σ j), σ) := by simp only [spShare, hj]; rw [if_pos hc_4]
    exact ret _ _ _ _ _ _ _ _ _ (Nat.le_of_ble_eq_true rfl) (Nat.le_of_ble_eq_true rfl) hW (by unfold pst; rw [hsp]; exact ⟨rfl, (by rw [wd3]), hD, frm.rf I J⟩) dX4_share_18
abbrev rmX4_of : Room := { frames := 7, cells := 2, slots := 12, locals := 104 }
set_option maxHeartbeats 4000000 in
set_option maxRecDepth 100000 in
theorem c_X4_of (l : Launch) (hst : l.stackTraces = false) (D : va_G) (cy : Nat → ClassId) (L : List Nat) (ad : Nat → Nat) (G : mG) (I : mI) (J : mJ) (cn cw : Nat) (σ : Ab) (hS : cSh L G cn cw (aNt σ)) (hA : aOk cn cw σ) (hD : cDt cn cw σ I J) (x xw : Int32) : pXet l yX4_of wsX4_of rmX4_of D cy L ad G I J [.ref (ad 0), .int x, .int xw] (qI (fun v I' J' => pst (spOf cw σ x xw) v.toInt64 cn cw I I' J J') D cy L ad G) (pxs (spOf cw σ x xw)) := by
  refine pXet.ofI (cc := cX4_of) (maxL := 4) (by decide +kernel) rfl (Nat.le_of_ble_eq_true rfl) ?_
  intro p e R s m args below meth c A Q C hml hR hg ret thr hQ hlk hnx hW ls hl
  subst hR
  have C : Cx p s m args c cX4_of RX4 wsX4_of D cy A := C
  have hx := C.1
  have hb := C.2.1
  have lk89 := C.2.2.2.1 (.fieldLink RX4 89 "WaveWalk$Walk" "net" "LWaveWalk$Net;") (by decide +kernel)
  have lk97 := C.2.2.2.1 (.fieldLink RX4 97 "WaveWalk$Walk" "wave" "LWaveWalk$Wave;") (by decide +kernel)
  have lk108 := C.2.2.2.1 (.fieldLink RX4 108 "WaveWalk$Wave" "time" "I") (by decide +kernel)
  have lk135 := C.2.2.2.1 (.fieldLink RX4 135 "WaveWalk$Walk" "netNumber" "I") (by decide +kernel)
  have lk138 := C.2.2.2.1 (.fieldLink RX4 138 "WaveWalk$Net" "scale" "I") (by decide +kernel)
  have hinX1 : ∀ w ∈ wsX10, w ∈ wsX4_of := by decide +kernel
  have hinX2 : ∀ w ∈ wsX20, w ∈ wsX4_of := by decide +kernel
  have hinX3 : ∀ w ∈ wsX30, w ∈ wsX4_of := by decide +kernel
  have hl : lv_has ls 4 [(0, .ref (ad 0)), (1, .int x), (2, .int xw)] := hl
  have h6 := hA.1
  have h12 := hA.2.1
  have h0L : 0 ∈ L := hS.1 0 (by omega)
  have h1L : 1 ∈ L := hS.1 1 (by omega)
  have h2L : 2 ∈ L := hS.1 2 (by omega)
  have hV3 := hS.trial
  have hC5 := hS.cls
  refine lv_aload_n hx hb dX4_of_0 rfl (lv_at hl 0 rfl) ?_
  refine lv_iload_n hx hb dX4_of_1 rfl (lv_at hl 1 rfl) ?_
  refine p_xVr C hml hg hW (c_X4_walkOf l hst D cy L ad G I J cn cw (aNt σ) hS h6 h12 x) (cwV 1 C.2.2.2.1 gX4_of_X4_walkOf rfl rfl rfl (by decide +kernel) ⟨Nat.le_of_ble_eq_true rfl, Nat.le_of_ble_eq_true rfl⟩) (p_recv C hW h0L (pF_4 (by decide)) rfl) rfl hl.1 rfl (Nat.le_of_ble_eq_true rfl) dX4_of_2 (Nat.le_of_ble_eq_true rfl) (Nat.le_of_ble_eq_true rfl) (fun E ce q9 H locs hW hp h1 h2 h3 => thr E ce q9 H locs _ _ _ _ _ (Nat.le_of_ble_eq_true rfl) (Nat.le_of_ble_eq_true rfl) hW (Or.inl ⟨hp.1, by simp only [spOf, hp.2]⟩) h1 h2 h3) (fun v1 I2 J3 H locs hp hW => ?_)
  obtain ⟨⟨j, hj, hq⟩, hI, hJ⟩ := hp
  subst v1
  subst I2
  subst J3
  obtain ⟨hjl, -⟩ := ixN_some hj (by omega)
  have wk := hS.2.2.2.2.2.2.2.2.2.2.2 j hjl
  have hV := hS.wave hjl h12
  obtain ⟨wl1, wl2, wl3, wl4⟩ := hA.2.2.2 j hjl
  obtain ⟨wd1, wd2, wd3⟩ := id (hD.2.2.2 j hjl)
  have hN := hS.net wl1 h6
  have hO := hA.2.2.1 _ wl1
  have hH := hD.nHas wl1
  obtain ⟨po1, po2, po3, po4⟩ := id hO
  obtain ⟨nh0, nh1, nh2, nh3, nh4, nh5⟩ := id hH
  refine lv_astore_n (lv' := [(3, .ref (ad (26 + 3 * j))), (0, .ref (ad 0)), (1, .int x), (2, .int xw)]) hx hb dX4_of_5 rfl hl (by decide) rfl (fun ls hl => ?_)
  refine lv_iload_n hx hb dX4_of_6 rfl (lv_at hl 3 rfl) ?_
  rcases sw_3 xw with hw | hw | hw | hw
  · skip
    refine lv_tableOut (tgt := 53) hx hb dX4_of_7 (sw_out hw) (by decide) ?_
    rw [hQ]
    exact p_thrN C hst hg (by first | exact fun w h => List.mem_cons_of_mem _ (List.mem_append_right _ h) | exact fun w h => List.mem_cons_of_mem _ (List.mem_append_left _ (List.mem_append_right _ h))) (by decide +kernel) (by decide +kernel) hg.1.2.2.2.2.2.2.2.2.2.2.2.2.2.2.2.2.2.2.1 hW (hl.1.trans hml.symm) dX4_of_53 dX4_of_56 dX4_of_57 dX4_of_59 dX4_of_62 hnx (Nat.le_of_ble_eq_true rfl) (Nat.le_of_ble_eq_true rfl) (Nat.le_of_ble_eq_true rfl) (Nat.le_of_ble_eq_true rfl) hlk (Or.inl ⟨rfl, by simp only [spOf, hj, hw]⟩) (Nat.le_of_ble_eq_true rfl) (Nat.le_of_ble_eq_true rfl)
  · skip
    subst hw
    refine lv_tableIn (tgt := 32) (off := 25) hx hb dX4_of_7 (by decide) (by decide) (by decide) (by decide) ?_
    have hl := lv_sub hl [0, 1, 2] rfl (l' := [(3, .ref (ad (26 + 3 * j))), (0, .ref (ad 0)), (1, .int x)])
    refine lv_aload_n hx hb dX4_of_32 rfl (lv_at hl 0 rfl) ?_
    refine g_X2_0 C hinX2 hW wk.1 (kd_w (by omega)) lk135 dX4_of_33 ?_
    refine w_top (y := .int (nI (aNt σ j))) (by rw [wd1]) ?_
    have hsp : spOf cw σ x (nI 0) = (0, lN (aNt σ j), σ) := by simp only [spOf, hj, ixN_nI (show 0 < 3 by omega) (show 3 ≤ 2 ^ 31 by omega)]; rfl
    exact ret _ _ _ _ _ _ _ _ _ (Nat.le_of_ble_eq_true rfl) (Nat.le_of_ble_eq_true rfl) hW (by unfold pst; rw [hsp]; exact ⟨rfl, (nI_l (by omega)).symm, hD, frm.rf I J⟩) dX4_of_36
  · skip
    subst hw
    refine lv_tableIn (tgt := 37) (off := 30) hx hb dX4_of_7 (by decide) (by decide) (by decide) (by decide) ?_
    have hl := lv_sub hl [0, 1, 2] rfl (l' := [(3, .ref (ad (26 + 3 * j))), (0, .ref (ad 0)), (1, .int x)])
    refine lv_aload_n hx hb dX4_of_37 rfl (lv_at hl 0 rfl) ?_
    refine g_X2_2 C hinX2 hW wk.1 (kd_w (by omega)) wk.2.2.2.2.1 lk97 dX4_of_38 ?_
    refine g_X3_1 C hinX3 hW hV.1 hV.2.1 lk108 dX4_of_41 ?_
    refine w_top (y := .int (nI (aTm σ j))) (by rw [wd2]) ?_
    have hsp : spOf cw σ x (nI 1) = (0, lN (aTm σ j), σ) := by simp only [spOf, hj, ixN_nI (show 1 < 3 by omega) (show 3 ≤ 2 ^ 31 by omega)]; rfl
    exact ret _ _ _ _ _ _ _ _ _ (Nat.le_of_ble_eq_true rfl) (Nat.le_of_ble_eq_true rfl) hW (by unfold pst; rw [hsp]; exact ⟨rfl, (nI_l (by omega)).symm, hD, frm.rf I J⟩) dX4_of_44
  · skip
    subst hw
    refine lv_tableIn (tgt := 45) (off := 38) hx hb dX4_of_7 (by decide) (by decide) (by decide) (by decide) ?_
    have hl := lv_sub hl [0, 1, 2] rfl (l' := [(3, .ref (ad (26 + 3 * j))), (0, .ref (ad 0)), (1, .int x)])
    refine lv_aload_n hx hb dX4_of_45 rfl (lv_at hl 0 rfl) ?_
    refine g_X2_1 C hinX2 hW wk.1 (kd_w (by omega)) wk.2.2.2.1 lk89 dX4_of_46 ?_
    refine g_X1_2 C hinX1 hW hN.1 hN.2.1 lk138 dX4_of_49 ?_
    refine w_top (y := .int (nI (scN (aDr σ (aNt σ j))))) (by rw [nh2]) ?_
    have hsp : spOf cw σ x (nI 2) = (0, scOf (aDr σ (aNt σ j)), σ) := by simp only [spOf, hj, ixN_nI (show 2 < 3 by omega) (show 3 ≤ 2 ^ 31 by omega)]; rfl
    exact ret _ _ _ _ _ _ _ _ _ (Nat.le_of_ble_eq_true rfl) (Nat.le_of_ble_eq_true rfl) hW (by unfold pst; rw [hsp]; exact ⟨rfl, (sc_l po3).symm, hD, frm.rf I J⟩) dX4_of_52
abbrev rmX4_count : Room := { frames := 6, cells := 1, slots := 6, locals := 82 }
set_option maxHeartbeats 4000000 in
set_option maxRecDepth 100000 in
theorem c_X4_count (l : Launch) (hst : l.stackTraces = false) (D : va_G) (cy : Nat → ClassId) (L : List Nat) (ad : Nat → Nat) (G : mG) (I : mI) (J : mJ) (cn cw : Nat) (σ : Ab) (hS : cSh L G cn cw (aNt σ)) (hA : aOk cn cw σ) (hD : cDt cn cw σ I J) (x : Int32) : pXet l yX4_count wsX4_count rmX4_count D cy L ad G I J [.ref (ad 0), .int x] (qI (fun v I' J' => pst (spCount cn cw σ x) v.toInt64 cn cw I I' J J') D cy L ad G) (pxs (spCount cn cw σ x)) := by
  refine pXet.ofI (cc := cX4_count) (maxL := 2) (by decide +kernel) rfl (Nat.le_of_ble_eq_true rfl) ?_
  intro p e R s m args below meth c A Q C hml hR hg ret thr hQ hlk hnx hW ls hl
  subst hR
  have C : Cx p s m args c cX4_count RX4 wsX4_count D cy A := C
  have hx := C.1
  have hb := C.2.1
  have lk35 := C.2.2.2.1 (.fieldLink RX4 35 "WaveWalk" "netCount" "I") (by decide +kernel)
  have lk39 := C.2.2.2.1 (.fieldLink RX4 39 "WaveWalk" "walkCount" "I") (by decide +kernel)
  have hinX4 : ∀ w ∈ wsX40, w ∈ wsX4_count := by decide +kernel
  have hl : lv_has ls 2 [(0, .ref (ad 0)), (1, .int x)] := hl
  have h6 := hA.1
  have h12 := hA.2.1
  have h0L : 0 ∈ L := hS.1 0 (by omega)
  have h1L : 1 ∈ L := hS.1 1 (by omega)
  have h2L : 2 ∈ L := hS.1 2 (by omega)
  have hV3 := hS.trial
  have hC5 := hS.cls
  refine lv_iload_n hx hb dX4_count_0 rfl (lv_at hl 1 rfl) ?_
  rcases sw_2 x with hw | hw | hw
  · skip
    refine lv_lookup (tgt := 38) hx hb dX4_count_1 (by decide) (sw_lk hw) (by decide) ?_
    rw [hQ]
    exact p_thrN C hst hg (by first | exact fun w h => List.mem_cons_of_mem _ (List.mem_append_right _ h) | exact fun w h => List.mem_cons_of_mem _ (List.mem_append_left _ (List.mem_append_right _ h))) (by decide +kernel) (by decide +kernel) hg.1.2.2.2.2.2.2.2.2.2.2.2.2.2.2.2.2.2.2.2.2 hW (hl.1.trans hml.symm) dX4_count_38 dX4_count_41 dX4_count_42 dX4_count_44 dX4_count_47 hnx (Nat.le_of_ble_eq_true rfl) (Nat.le_of_ble_eq_true rfl) (Nat.le_of_ble_eq_true rfl) (Nat.le_of_ble_eq_true rfl) hlk (Or.inl ⟨rfl, by simp only [spCount, hw]⟩) (Nat.le_of_ble_eq_true rfl) (Nat.le_of_ble_eq_true rfl)
  · skip
    subst hw
    refine lv_lookup (tgt := 28) hx hb dX4_count_1 (by decide) (off := 27) (by decide) (by decide) ?_
    have hl := lv_sub hl [0] rfl (l' := [(0, .ref (ad 0))])
    refine lv_aload_n hx hb dX4_count_28 rfl (lv_at hl 0 rfl) ?_
    refine g_X4_4 C hinX4 hW h0L (by decide) lk35 dX4_count_29 ?_
    refine w_top (y := .int (nI cn)) (by rw [hD.1]) ?_
    have hsp : spCount cn cw σ (nI 0) = (0, lN cn, σ) := by simp only [spCount, ixN_nI (show 0 < 2 by omega) (show 2 ≤ 2 ^ 31 by omega)]; rfl
    exact ret _ _ _ _ _ _ _ _ _ (Nat.le_of_ble_eq_true rfl) (Nat.le_of_ble_eq_true rfl) hW (by unfold pst; rw [hsp]; exact ⟨rfl, (nI_l (by omega)).symm, hD, frm.rf I J⟩) dX4_count_32
  · skip
    subst hw
    refine lv_lookup (tgt := 33) hx hb dX4_count_1 (by decide) (off := 32) (by decide) (by decide) ?_
    have hl := lv_sub hl [0] rfl (l' := [(0, .ref (ad 0))])
    refine lv_aload_n hx hb dX4_count_33 rfl (lv_at hl 0 rfl) ?_
    refine g_X4_5 C hinX4 hW h0L (by decide) lk39 dX4_count_34 ?_
    refine w_top (y := .int (nI cw)) (by rw [hD.2.1]) ?_
    have hsp : spCount cn cw σ (nI 1) = (0, lN cw, σ) := by simp only [spCount, ixN_nI (show 1 < 2 by omega) (show 2 ≤ 2 ^ 31 by omega)]; rfl
    exact ret _ _ _ _ _ _ _ _ _ (Nat.le_of_ble_eq_true rfl) (Nat.le_of_ble_eq_true rfl) hW (by unfold pst; rw [hsp]; exact ⟨rfl, (nI_l (by omega)).symm, hD, frm.rf I J⟩) dX4_count_37
abbrev rmX4_copy : Room := { frames := 7, cells := 3, slots := 18, locals := 104 }
set_option maxHeartbeats 4000000 in
set_option maxRecDepth 100000 in
theorem c_X4_copy (l : Launch) (hst : l.stackTraces = false) (D : va_G) (cy : Nat → ClassId) (L : List Nat) (ad : Nat → Nat) (G : mG) (I : mI) (J : mJ) (cn cw : Nat) (σ : Ab) (hS : cSh L G cn cw (aNt σ)) (hA : aOk cn cw σ) (hD : cDt cn cw σ I J) (x xv : Int32) : pXet l yX4_copy wsX4_copy rmX4_copy D cy L ad G I J [.ref (ad 0), .int x, .int xv] (qV (fun I' J' => pst (spCopy cw σ x xv) 0 cn cw I I' J J') D cy L ad G) (pxs (spCopy cw σ x xv)) := by
  refine pXet.ofV (cc := cX4_copy) (maxL := 5) (by decide +kernel) rfl (Nat.le_of_ble_eq_true rfl) ?_
  intro p e R s m args below meth c A Q C hml hR hg ret thr hQ hlk hnx hW ls hl
  subst hR
  have C : Cx p s m args c cX4_copy RX4 wsX4_copy D cy A := C
  have hx := C.1
  have hb := C.2.1
  have lk97 := C.2.2.2.1 (.fieldLink RX4 97 "WaveWalk$Walk" "wave" "LWaveWalk$Wave;") (by decide +kernel)
  have lk135 := C.2.2.2.1 (.fieldLink RX4 135 "WaveWalk$Walk" "netNumber" "I") (by decide +kernel)
  have hinX2 : ∀ w ∈ wsX20, w ∈ wsX4_copy := by decide +kernel
  have hl : lv_has ls 5 [(0, .ref (ad 0)), (1, .int x), (2, .int xv)] := hl
  have h6 := hA.1
  have h12 := hA.2.1
  have h0L : 0 ∈ L := hS.1 0 (by omega)
  have h1L : 1 ∈ L := hS.1 1 (by omega)
  have h2L : 2 ∈ L := hS.1 2 (by omega)
  have hV3 := hS.trial
  have hC5 := hS.cls
  refine lv_aload_n hx hb dX4_copy_0 rfl (lv_at hl 0 rfl) ?_
  refine lv_iload_n hx hb dX4_copy_1 rfl (lv_at hl 1 rfl) ?_
  refine p_xVr C hml hg hW (c_X4_walkOf l hst D cy L ad G I J cn cw (aNt σ) hS h6 h12 x) (cwV 1 C.2.2.2.1 gX4_copy_X4_walkOf rfl rfl rfl (by decide +kernel) ⟨Nat.le_of_ble_eq_true rfl, Nat.le_of_ble_eq_true rfl⟩) (p_recv C hW h0L (pF_4 (by decide)) rfl) rfl hl.1 rfl (Nat.le_of_ble_eq_true rfl) dX4_copy_2 (Nat.le_of_ble_eq_true rfl) (Nat.le_of_ble_eq_true rfl) (fun E ce q9 H locs hW hp h1 h2 h3 => thr E ce q9 H locs _ _ _ _ _ (Nat.le_of_ble_eq_true rfl) (Nat.le_of_ble_eq_true rfl) hW (Or.inl ⟨hp.1, by simp only [spCopy, hp.2]⟩) h1 h2 h3) (fun v1 I2 J3 H locs hp hW => ?_)
  obtain ⟨⟨j, hj, hq⟩, hI, hJ⟩ := hp
  subst v1
  subst I2
  subst J3
  obtain ⟨hjl, -⟩ := ixN_some hj (by omega)
  have wk := hS.2.2.2.2.2.2.2.2.2.2.2 j hjl
  have hV := hS.wave hjl h12
  obtain ⟨wl1, wl2, wl3, wl4⟩ := hA.2.2.2 j hjl
  obtain ⟨wd1, wd2, wd3⟩ := id (hD.2.2.2 j hjl)
  have hN := hS.net wl1 h6
  have hO := hA.2.2.1 _ wl1
  have hH := hD.nHas wl1
  obtain ⟨po1, po2, po3, po4⟩ := id hO
  obtain ⟨nh0, nh1, nh2, nh3, nh4, nh5⟩ := id hH
  refine lv_astore_n (lv' := [(3, .ref (ad (26 + 3 * j))), (0, .ref (ad 0)), (1, .int x), (2, .int xv)]) hx hb dX4_copy_5 rfl hl (by decide) rfl (fun ls hl => ?_)
  refine lv_aload_n hx hb dX4_copy_6 rfl (lv_at hl 1 rfl) ?_
  refine lv_iload_n hx hb dX4_copy_7 rfl (lv_at hl 3 rfl) ?_
  refine p_xVr C hml hg hW (c_X4_walkOf l hst D cy L ad G I J cn cw (aNt σ) hS h6 h12 xv) (cwV 1 C.2.2.2.1 gX4_copy_X4_walkOf rfl rfl rfl (by decide +kernel) ⟨Nat.le_of_ble_eq_true rfl, Nat.le_of_ble_eq_true rfl⟩) (p_recv C hW h0L (pF_4 (by decide)) rfl) rfl hl.1 rfl (Nat.le_of_ble_eq_true rfl) dX4_copy_8 (Nat.le_of_ble_eq_true rfl) (Nat.le_of_ble_eq_true rfl) (fun E ce q9 H locs hW hp h1 h2 h3 => thr E ce q9 H locs _ _ _ _ _ (Nat.le_of_ble_eq_true rfl) (Nat.le_of_ble_eq_true rfl) hW (Or.inl ⟨hp.1, by simp only [spCopy, hj, hp.2]⟩) h1 h2 h3) (fun v4 I5 J6 H locs hp hW => ?_)
  obtain ⟨⟨i, hi, hq⟩, hI, hJ⟩ := hp
  subst v4
  subst I5
  subst J6
  obtain ⟨hil, -⟩ := ixN_some hi (by omega)
  have wk2 := hS.2.2.2.2.2.2.2.2.2.2.2 i hil
  have hV2 := hS.wave hil h12
  obtain ⟨wl12, wl22, wl32, wl42⟩ := hA.2.2.2 i hil
  obtain ⟨wd12, wd22, wd32⟩ := id (hD.2.2.2 i hil)
  have hN2 := hS.net wl12 h6
  have hO2 := hA.2.2.1 _ wl12
  have hH2 := hD.nHas wl12
  obtain ⟨po12, po22, po32, po42⟩ := id hO2
  obtain ⟨nh02, nh12, nh22, nh32, nh42, nh52⟩ := id hH2
  refine lv_astore (lv' := [(4, .ref (ad (26 + 3 * i))), (3, .ref (ad (26 + 3 * j))), (0, .ref (ad 0)), (1, .int x), (2, .int xv)]) hx hb dX4_copy_11 hl (by decide) rfl (fun ls hl => ?_)
  refine lv_aload_n hx hb dX4_copy_13 rfl (lv_at hl 1 rfl) ?_
  refine g_X2_0 C hinX2 hW wk.1 (kd_w (by omega)) lk135 dX4_copy_14 ?_
  refine w_top (y := .int (nI (aNt σ j))) (by rw [wd1]) ?_
  refine lv_aload hx hb dX4_copy_17 (lv_at hl 0 rfl) ?_
  refine g_X2_0 C hinX2 hW wk2.1 (kd_w (by omega)) lk135 dX4_copy_19 ?_
  refine w_top (y := .int (nI (aNt σ i))) (by rw [wd12]) ?_
  refine n_icmp_eq (tgt := 35) hx hb (by omega) (by omega) dX4_copy_22 (by decide) (fun hc_7 => ?_) (fun hc_7 => ?_)
  · skip
    refine lv_aload_n hx hb dX4_copy_35 rfl (lv_at hl 1 rfl) ?_
    refine g_X2_2 C hinX2 hW wk.1 (kd_w (by omega)) wk.2.2.2.2.1 lk97 dX4_copy_36 ?_
    refine lv_aload hx hb dX4_copy_39 (lv_at hl 0 rfl) ?_
    refine g_X2_2 C hinX2 hW wk2.1 (kd_w (by omega)) wk2.2.2.2.2.1 lk97 dX4_copy_41 ?_
    refine p_cVv C hml hg hW (c_X3_becomeLike l D cy L ad G I J (27 + 3 * j) (28 + 3 * j) (27 + 3 * i) (28 + 3 * i) hV hV2) (cwV 1 C.2.2.2.1 gX4_copy_X3_becomeLike rfl rfl rfl (by decide +kernel) ⟨Nat.le_of_ble_eq_true rfl, Nat.le_of_ble_eq_true rfl⟩) (p_recv C hW hV.1 (pF_3 hV.2.1) rfl) rfl hl.1 rfl (Nat.le_of_ble_eq_true rfl) dX4_copy_44 (Nat.le_of_ble_eq_true rfl) (Nat.le_of_ble_eq_true rfl) (fun I8 J9 H locs hp hW => ?_)
    obtain ⟨hI, hJ⟩ := hp
    have hsp : spCopy cw σ x xv = (0, 0, sWv σ j (aWv σ i) (aTm σ i)) := by simp only [spCopy, hj, hi]; rw [if_pos hc_7]
    rw [wd22] at hI
    rw [wd32] at hJ
    exact ret _ _ _ _ _ _ _ _ (Nat.le_of_ble_eq_true rfl) (Nat.le_of_ble_eq_true rfl) hW (by unfold pst; rw [hsp, hI, hJ]; exact ⟨rfl, rfl, hD.wv h6 h12 hjl (aTm σ i) _, frm.wv (by omega) (aTm σ i) _⟩) dX4_copy_47
  · skip
    rw [hQ]
    exact p_thrI C hst hg (by first | exact fun w h => List.mem_cons_of_mem _ (List.mem_append_right _ h) | exact fun w h => List.mem_cons_of_mem _ (List.mem_append_left _ (List.mem_append_right _ h))) (by decide +kernel) (by decide +kernel) hg.1.2.2.2.2.2.2.2.2.2.2.2.2.2.2.2.2.2.2.2.1 hW (hl.1.trans hml.symm) dX4_copy_25 dX4_copy_28 dX4_copy_29 dX4_copy_31 dX4_copy_34 hnx (Nat.le_of_ble_eq_true rfl) (Nat.le_of_ble_eq_true rfl) (Nat.le_of_ble_eq_true rfl) (Nat.le_of_ble_eq_true rfl) hlk (Or.inr ⟨rfl, by simp only [spCopy, hj, hi]; rw [if_neg hc_7]⟩) (Nat.le_of_ble_eq_true rfl) (Nat.le_of_ble_eq_true rfl)
