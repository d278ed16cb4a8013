theorem spDoor_some {σ : Ab} {i q e : Nat} {p d : Int32} (h1 : ixN p (aPl σ i) = some q) (h2 : ixN d (aDr σ i) = some e) : spDoor σ i p d = some (q * 4 + e) := by simp only [spDoor, h1, h2]
theorem spDoor_none {σ : Ab} {i : Nat} {p d : Int32} (h : ixN p (aPl σ i) = none ∨ ixN d (aDr σ i) = none) : spDoor σ i p d = none := by
  unfold spDoor
  cases h1 : ixN p (aPl σ i) with
  | none => rfl
  | some q =>
    rcases h with h | h
    · rw [h] at h1; cases h1
    · simp only [h]
theorem cDt.to {cn cw : Nat} {σ : Ab} {I : mI} {J : mJ} (h : cDt cn cw σ I J) {i : Nat} (hi : i < cn) (h6 : cn ≤ 6) (h12 : cw ≤ 12) (g : Nat → Nat) : cDt cn cw (sTo σ i g) (va_up I (9 + 3 * i) (fun k => nI (g k))) J := by
  obtain ⟨a, b, c, d⟩ := h
  have ne : ∀ r, r ≠ 9 + 3 * i → va_up I (9 + 3 * i) (fun k => nI (g k)) r = I r := fun r hr => va_up_ne _ _ hr
  refine ⟨by rw [ne 0 (by omega)]; exact a, by rw [ne 0 (by omega)]; exact b, fun j hj => ?_, fun j hj => ?_⟩
  · obtain ⟨c1, c2, c3, c4, c5, c6, c7⟩ := c j hj
    refine ⟨?_, ?_, ?_, c4, ?_, fun k hk => ?_, fun k hk => ?_⟩
    · rw [ne _ (by omega)]; exact c1
    · rw [ne _ (by omega)]; exact c2
    · rw [ne _ (by omega)]; exact c3
    · rw [ne _ (by omega)]; exact c5
    · by_cases e : j = i
      · subst e
        rw [va_up_self]
        show nI (g k) = nI (va_up (aTo σ) j g j k)
        rw [va_up_self]
      · rw [ne _ (by omega), c6 k hk]
        show nI (aTo σ j k) = nI (va_up (aTo σ) i g j k)
        rw [va_up_ne _ _ e]
    · rw [ne _ (by omega)]; exact c7 k hk
  · obtain ⟨d1, d2, d3⟩ := d j hj
    exact ⟨by rw [ne _ (by omega)]; exact d1, by rw [ne _ (by omega)]; exact d2, d3⟩
theorem cDt.mk {cn cw : Nat} {σ : Ab} {I : mI} {J : mJ} (h : cDt cn cw σ I J) {i q : Nat} (hi : i < cn) (h6 : cn ≤ 6) (h12 : cw ≤ 12) (hq : q < 12) (b : Bool) : cDt cn cw (sMk σ i (va_up (aMk σ i) q b)) (va_up I (10 + 3 * i) (upd (I (10 + 3 * i)) q (bI b))) J := by
  obtain ⟨a, b', c, d⟩ := h
  have ne : ∀ r, r ≠ 10 + 3 * i → va_up I (10 + 3 * i) (upd (I (10 + 3 * i)) q (bI b)) r = I r := fun r hr => va_up_ne _ _ hr
  refine ⟨by rw [ne 0 (by omega)]; exact a, by rw [ne 0 (by omega)]; exact b', fun j hj => ?_, fun j hj => ?_⟩
  · obtain ⟨c1, c2, c3, c4, c5, c6, c7⟩ := c j hj
    refine ⟨?_, ?_, ?_, c4, ?_, fun k hk => ?_, fun k hk => ?_⟩
    · rw [ne _ (by omega)]; exact c1
    · rw [ne _ (by omega)]; exact c2
    · rw [ne _ (by omega)]; exact c3
    · rw [ne _ (by omega)]; exact c5
    · rw [ne _ (by omega)]; exact c6 k hk
    · by_cases e : j = i
      · subst e
        rw [va_up_self]
        show upd (I (10 + 3 * j)) q (bI b) k = bI (va_up (aMk σ) j (va_up (aMk σ j) q b) j k)
        rw [va_up_self]
        unfold upd va_up
        split
        · rfl
        · exact c7 k hk
      · rw [ne _ (by omega), c7 k hk]
        show bI (aMk σ j k) = bI (va_up (aMk σ) i _ j k)
        rw [va_up_ne _ _ e]
  · obtain ⟨d1, d2, d3⟩ := d j hj
    exact ⟨by rw [ne _ (by omega)]; exact d1, by rw [ne _ (by omega)]; exact d2, d3⟩
theorem led_lt {pl dr : Nat} {to : Nat → Nat} (h : pairs pl dr to) (h12 : pl ≤ 12 := by omega) (h4 : dr ≤ 4 := by omega) : ∀ p d, p < pl → d < dr → led to p d < pl := by
  intro p d hp hd
  obtain ⟨-, -, h3, -⟩ := h (p * 4 + d) (by omega)
  exact (dor_iff.mp (h3 ((dor_at (by omega)).mpr ⟨hp, hd⟩))).1
abbrev rmX4_join : Room := { frames := 8, cells := 5, slots := 30, locals := 125 }
set_option maxHeartbeats 4000000 in
set_option maxRecDepth 100000 in
theorem c_X4_join (l : Launch) (hst : l.stackTraces = false) (D : va_G) (cy : Nat → ClassId) (L : List Nat) (ad : Nat → Nat) (G : mG) (I : mI) (J : mJ) (cn cw : Nat) (σ : Ab) (hS : cSh L G cn cw (aNt σ)) (hA : aOk cn cw σ) (hD : cDt cn cw σ I J) (x xp xd xp2 xd2 : Int32) : pXet l yX4_join wsX4_join rmX4_join D cy L ad G I J [.ref (ad 0), .int x, .int xp, .int xd, .int xp2, .int xd2] (qI (fun v I' J' => pst (spJoin cn σ x xp xd xp2 xd2) v.toInt64 cn cw I I' J J') D cy L ad G) (pxs (spJoin cn σ x xp xd xp2 xd2)) := by
  refine pXet.ofZ (cc := cX4_join) (maxL := 9) (by decide +kernel) rfl (Nat.le_of_ble_eq_true rfl) ?_
  intro p e R s m args below meth c A Q C hml hR hg ret thr hQ hlk hnx hW ls hl
  subst hR
  have C : Cx p s m args c cX4_join RX4 wsX4_join D cy A := C
  have hx := C.1
  have hb := C.2.1
  have lk53 := C.2.2.2.1 (.fieldLink RX4 53 "WaveWalk$Net" "hasWalks" "Z") (by decide +kernel)
  have hinX1 : ∀ w ∈ wsX10, w ∈ wsX4_join := by decide +kernel
  have hl : lv_has ls 9 [(0, .ref (ad 0)), (1, .int x), (2, .int xp), (3, .int xd), (4, .int xp2), (5, .int xd2)] := hl
  have h6 := hA.1
  have h12 := hA.2.1
  have h0L : 0 ∈ L := hS.1 0 (by omega)
  have h1L : 1 ∈ L := hS.1 1 (by omega)
  have h2L : 2 ∈ L := hS.1 2 (by omega)
  have hV3 := hS.trial
  have hC5 := hS.cls
  refine lv_aload_n hx hb dX4_join_0 rfl (lv_at hl 0 rfl) ?_
  refine lv_iload_n hx hb dX4_join_1 rfl (lv_at hl 1 rfl) ?_
  refine p_xVr C hml hg hW (c_X4_netOf l hst D cy L ad G I J cn cw (aNt σ) hS h6 h12 x) (cwV 1 C.2.2.2.1 gX4_join_X4_netOf rfl rfl rfl (by decide +kernel) ⟨Nat.le_of_ble_eq_true rfl, Nat.le_of_ble_eq_true rfl⟩) (p_recv C hW h0L (pF_4 (by decide)) rfl) rfl hl.1 rfl (Nat.le_of_ble_eq_true rfl) dX4_join_2 (Nat.le_of_ble_eq_true rfl) (Nat.le_of_ble_eq_true rfl) (fun E ce q9 H locs hW hp h1 h2 h3 => thr E ce q9 H locs _ _ _ _ _ (Nat.le_of_ble_eq_true rfl) (Nat.le_of_ble_eq_true rfl) hW (Or.inl ⟨hp.1, by simp only [spJoin, hp.2]⟩) h1 h2 h3) (fun v1 I2 J3 H locs hp hW => ?_)
  obtain ⟨⟨i, hi, hq⟩, hI, hJ⟩ := hp
  subst v1
  subst I2
  subst J3
  obtain ⟨hil, -⟩ := ixN_some hi (by omega)
  have hN := hS.net hil h6
  have hO := hA.2.2.1 _ hil
  have hH := hD.nHas hil
  obtain ⟨po1, po2, po3, po4⟩ := id hO
  obtain ⟨nh0, nh1, nh2, nh3, nh4, nh5⟩ := id hH
  obtain ⟨cn1, cn2, cn3, cn4, cn5, cn6, cn7⟩ := id (hD.2.2.1 i hil)
  refine lv_astore (lv' := [(6, .ref (ad (8 + 3 * i))), (0, .ref (ad 0)), (1, .int x), (2, .int xp), (3, .int xd), (4, .int xp2), (5, .int xd2)]) hx hb dX4_join_5 hl (by decide) rfl (fun ls hl => ?_)
  refine lv_aload hx hb dX4_join_7 (lv_at hl 0 rfl) ?_
  refine lv_iload_n hx hb dX4_join_9 rfl (lv_at hl 3 rfl) ?_
  refine lv_iload_n hx hb dX4_join_10 rfl (lv_at hl 4 rfl) ?_
  refine p_xSi C hml hg hW (c_X4_cellOf l hst D cy L ad G I J (8 + 3 * i) (9 + 3 * i) (10 + 3 * i) hN (aPl σ i) (aDr σ i) nh0 nh1 po2 (by omega) xp xd) (va_cwS 3 C.2.2.2.1 gX4_join_X4_cellOf rfl rfl rfl (by decide +kernel) ⟨Nat.le_of_ble_eq_true rfl, Nat.le_of_ble_eq_true rfl⟩) rfl hl.1 rfl (Nat.le_of_ble_eq_true rfl) dX4_join_11 (Nat.le_of_ble_eq_true rfl) (Nat.le_of_ble_eq_true rfl) (fun E ce q9 H locs hW hp h1 h2 h3 => thr E ce q9 H locs _ _ _ _ _ (Nat.le_of_ble_eq_true rfl) (Nat.le_of_ble_eq_true rfl) hW (Or.inl ⟨hp.1, by simp only [spJoin, hi, spDoor_none hp.2]⟩) h1 h2 h3) (fun v4 I5 J6 H locs hp hW => ?_)
  obtain ⟨⟨q, e1, hq, he1, hv⟩, hI, hJ⟩ := hp
  subst v4
  subst I5
  subst J6
  obtain ⟨hql, -⟩ := ixN_some hq (by omega)
  obtain ⟨he1l, -⟩ := ixN_some he1 (by omega)
  have hc1 := spDoor_some hq he1
  refine lv_istore (lv' := [(7, .int (nI (q * 4 + e1))), (6, .ref (ad (8 + 3 * i))), (0, .ref (ad 0)), (1, .int x), (2, .int xp), (3, .int xd), (4, .int xp2), (5, .int xd2)]) hx hb dX4_join_14 hl (by decide) rfl (fun ls hl => ?_)
  refine lv_aload hx hb dX4_join_16 (lv_at hl 1 rfl) ?_
  refine lv_iload hx hb dX4_join_18 (lv_at hl 6 rfl) ?_
  refine lv_iload hx hb dX4_join_20 (lv_at hl 7 rfl) ?_
  refine p_xSi C hml hg hW (c_X4_cellOf l hst D cy L ad G I J (8 + 3 * i) (9 + 3 * i) (10 + 3 * i) hN (aPl σ i) (aDr σ i) nh0 nh1 po2 (by omega) xp2 xd2) (va_cwS 3 C.2.2.2.1 gX4_join_X4_cellOf rfl rfl rfl (by decide +kernel) ⟨Nat.le_of_ble_eq_true rfl, Nat.le_of_ble_eq_true rfl⟩) rfl hl.1 rfl (Nat.le_of_ble_eq_true rfl) dX4_join_22 (Nat.le_of_ble_eq_true rfl) (Nat.le_of_ble_eq_true rfl) (fun E ce q9 H locs hW hp h1 h2 h3 => thr E ce q9 H locs _ _ _ _ _ (Nat.le_of_ble_eq_true rfl) (Nat.le_of_ble_eq_true rfl) hW (Or.inl ⟨hp.1, by simp only [spJoin, hi, hc1, spDoor_none hp.2]⟩) h1 h2 h3) (fun v7 I8 J9 H locs hp hW => ?_)
  obtain ⟨⟨q2, e2, hq2, he2, hv⟩, hI, hJ⟩ := hp
  subst v7
  subst I8
  subst J9
  obtain ⟨hq2l, -⟩ := ixN_some hq2 (by omega)
  obtain ⟨he2l, -⟩ := ixN_some he2 (by omega)
  have hc2 := spDoor_some hq2 he2
  refine lv_istore (lv' := [(8, .int (nI (q2 * 4 + e2))), (7, .int (nI (q * 4 + e1))), (6, .ref (ad (8 + 3 * i))), (0, .ref (ad 0)), (1, .int x), (2, .int xp), (3, .int xd), (4, .int xp2), (5, .int xd2)]) hx hb dX4_join_25 hl (by decide) rfl (fun ls hl => ?_)
  refine lv_aload hx hb dX4_join_27 (lv_at hl 2 rfl) ?_
  refine g_X1_6 C hinX1 hW hN.1 hN.2.1 lk53 dX4_join_29 ?_
  refine w_top (y := .int (bI (aUs σ i))) (by rw [cn5]) ?_
  refine b_if_eq (tgt := 37) hx hb dX4_join_32 (by decide) (fun hc_10 => ?_) (fun hc_10 => ?_)
  · skip
    refine lv_aload hx hb dX4_join_37 (lv_at hl 2 rfl) ?_
    refine lv_iload hx hb dX4_join_39 (lv_at hl 1 rfl) ?_
    refine lv_iload hx hb dX4_join_41 (lv_at hl 0 rfl) ?_
    refine p_cVv C hml hg hW (c_X1_joinCells l D cy L ad G I J (8 + 3 * i) (9 + 3 * i) (10 + 3 * i) hN (aTo σ i) nh4 (fun c hc => (po4 c hc).1) (q * 4 + e1) (q2 * 4 + e2) (by omega) (by omega)) (cwV 2 C.2.2.2.1 gX4_join_X1_joinCells rfl rfl rfl (by decide +kernel) ⟨Nat.le_of_ble_eq_true rfl, Nat.le_of_ble_eq_true rfl⟩) (p_recv C hW hN.1 (pF_1 hN.2.1) rfl) rfl hl.1 rfl (Nat.le_of_ble_eq_true rfl) dX4_join_43 (Nat.le_of_ble_eq_true rfl) (Nat.le_of_ble_eq_true rfl) (fun I11 J12 H locs hp hW => ?_)
    obtain ⟨hI, hJ⟩ := hp
    subst I11
    subst J12
    refine lv_iconst (v := nI 1) hx hb dX4_join_46 (by decide) ?_
    have hsp : spJoin cn σ x xp xd xp2 xd2 = (0, 1, sTo σ i (jnF (aTo σ i) (q * 4 + e1) (q2 * 4 + e2))) := by simp [spJoin, hi, hc1, hc2, hc_10]
    exact ret _ _ _ _ _ _ _ _ _ (Nat.le_of_ble_eq_true rfl) (Nat.le_of_ble_eq_true rfl) hW (by unfold pst; rw [hsp]; exact ⟨rfl, (by decide : (1 : Int64) = (nI 1).toInt64), hD.to hil h6 h12 _, fun r hr => ⟨va_up_ne _ _ (by omega), rfl⟩⟩) (by decide) dX4_join_47
  · skip
    refine lv_iconst (v := nI 0) hx hb dX4_join_35 (by decide) ?_
    have hsp : spJoin cn σ x xp xd xp2 xd2 = (0, 0, σ) := by simp [spJoin, hi, hc1, hc2, hc_10]
    exact ret _ _ _ _ _ _ _ _ _ (Nat.le_of_ble_eq_true rfl) (Nat.le_of_ble_eq_true rfl) hW (by unfold pst; rw [hsp]; exact ⟨rfl, (by decide : (0 : Int64) = (nI 0).toInt64), hD, frm.rf I J⟩) (by decide) dX4_join_36
abbrev rmX4_leads : Room := { frames := 8, cells := 3, slots := 18, locals := 125 }
set_option maxHeartbeats 4000000 in
set_option maxRecDepth 100000 in
theorem c_X4_leads (l : Launch) (hst : l.stackTraces = false) (D : va_G) (cy : Nat → ClassId) (L : List Nat) (ad : Nat → Nat) (G : mG) (I : mI) (J : mJ) (cn cw : Nat) (σ : Ab) (hS : cSh L G cn cw (aNt σ)) (hA : aOk cn cw σ) (hD : cDt cn cw σ I J) (x xp xd : Int32) : pXet l yX4_leads wsX4_leads rmX4_leads D cy L ad G I J [.ref (ad 0), .int x, .int xp, .int xd] (qI (fun v I' J' => pst (spLeads cn σ x xp xd) v.toInt64 cn cw I I' J J') D cy L ad G) (pxs (spLeads cn σ x xp xd)) := by
  refine pXet.ofI (cc := cX4_leads) (maxL := 5) (by decide +kernel) rfl (Nat.le_of_ble_eq_true rfl) ?_
  intro p e R s m args below meth c A Q C hml hR hg ret thr hQ hlk hnx hW ls hl
  subst hR
  have C : Cx p s m args c cX4_leads RX4 wsX4_leads D cy A := C
  have hx := C.1
  have hb := C.2.1
  have lk60 := C.2.2.2.1 (.fieldLink RX4 60 "WaveWalk$Net" "ledTo" "[I") (by decide +kernel)
  have hinX1 : ∀ w ∈ wsX10, w ∈ wsX4_leads := by decide +kernel
  have hl : lv_has ls 5 [(0, .ref (ad 0)), (1, .int x), (2, .int xp), (3, .int xd)] := hl
  have h6 := hA.1
  have h12 := hA.2.1
  have h0L : 0 ∈ L := hS.1 0 (by omega)
  have h1L : 1 ∈ L := hS.1 1 (by omega)
  have h2L : 2 ∈ L := hS.1 2 (by omega)
  have hV3 := hS.trial
  have hC5 := hS.cls
  refine lv_aload_n hx hb dX4_leads_0 rfl (lv_at hl 0 rfl) ?_
  refine lv_iload_n hx hb dX4_leads_1 rfl (lv_at hl 1 rfl) ?_
  refine p_xVr C hml hg hW (c_X4_netOf l hst D cy L ad G I J cn cw (aNt σ) hS h6 h12 x) (cwV 1 C.2.2.2.1 gX4_leads_X4_netOf rfl rfl rfl (by decide +kernel) ⟨Nat.le_of_ble_eq_true rfl, Nat.le_of_ble_eq_true rfl⟩) (p_recv C hW h0L (pF_4 (by decide)) rfl) rfl hl.1 rfl (Nat.le_of_ble_eq_true rfl) dX4_leads_2 (Nat.le_of_ble_eq_true rfl) (Nat.le_of_ble_eq_true rfl) (fun E ce q9 H locs hW hp h1 h2 h3 => thr E ce q9 H locs _ _ _ _ _ (Nat.le_of_ble_eq_true rfl) (Nat.le_of_ble_eq_true rfl) hW (Or.inl ⟨hp.1, by simp only [spLeads, hp.2]⟩) h1 h2 h3) (fun v1 I2 J3 H locs hp hW => ?_)
  obtain ⟨⟨i, hi, hq⟩, hI, hJ⟩ := hp
  subst v1
  subst I2
  subst J3
  obtain ⟨hil, -⟩ := ixN_some hi (by omega)
  have hN := hS.net hil h6
  have hO := hA.2.2.1 _ hil
  have hH := hD.nHas hil
  obtain ⟨po1, po2, po3, po4⟩ := id hO
  obtain ⟨nh0, nh1, nh2, nh3, nh4, nh5⟩ := id hH
  obtain ⟨cn1, cn2, cn3, cn4, cn5, cn6, cn7⟩ := id (hD.2.2.1 i hil)
  refine lv_astore (lv' := [(4, .ref (ad (8 + 3 * i))), (0, .ref (ad 0)), (1, .int x), (2, .int xp), (3, .int xd)]) hx hb dX4_leads_5 hl (by decide) rfl (fun ls hl => ?_)
  refine lv_aload hx hb dX4_leads_7 (lv_at hl 0 rfl) ?_
  refine g_X1_4 C hinX1 hW hN.1 hN.2.1 hN.2.2.1 lk60 dX4_leads_9 ?_
  refine lv_aload hx hb dX4_leads_12 (lv_at hl 0 rfl) ?_
  refine lv_iload_n hx hb dX4_leads_14 rfl (lv_at hl 3 rfl) ?_
  refine lv_iload_n hx hb dX4_leads_15 rfl (lv_at hl 4 rfl) ?_
  refine p_xSi C hml hg hW (c_X4_cellOf l hst D cy L ad G I J (8 + 3 * i) (9 + 3 * i) (10 + 3 * i) hN (aPl σ i) (aDr σ i) nh0 nh1 po2 (by omega) xp xd) (va_cwS 3 C.2.2.2.1 gX4_leads_X4_cellOf rfl rfl rfl (by decide +kernel) ⟨Nat.le_of_ble_eq_true rfl, Nat.le_of_ble_eq_true rfl⟩) rfl hl.1 rfl (Nat.le_of_ble_eq_true rfl) dX4_leads_16 (Nat.le_of_ble_eq_true rfl) (Nat.le_of_ble_eq_true rfl) (fun E ce q9 H locs hW hp h1 h2 h3 => thr E ce q9 H locs _ _ _ _ _ (Nat.le_of_ble_eq_true rfl) (Nat.le_of_ble_eq_true rfl) hW (Or.inl ⟨hp.1, by simp only [spLeads, hi, spDoor_none hp.2]⟩) h1 h2 h3) (fun v4 I5 J6 H locs hp hW => ?_)
  obtain ⟨⟨q, e1, hq, he1, hv⟩, hI, hJ⟩ := hp
  subst v4
  subst I5
  subst J6
  obtain ⟨hql, -⟩ := ixN_some hq (by omega)
  obtain ⟨he1l, -⟩ := ixN_some he1 (by omega)
  have hc1 := spDoor_some hq he1
  refine p_iald C hW hN.2.2.2.1 hN.2.2.2.2.1 (k := q * 4 + e1) rfl (by rw [hN.2.2.2.2.2.1]; omega) dX4_leads_19 ?_
  refine w_top (y := .int (nI (aTo σ i (q * 4 + e1)))) (by rw [nh4 _ (by omega)]) ?_
  have ht48 := (po4 (q * 4 + e1) (by omega)).1
  have hsp : spLeads cn σ x xp xd = (0, lN (aTo σ i (q * 4 + e1)), σ) := by simp only [spLeads, hi, hc1]
  exact ret _ _ _ _ _ _ _ _ _ (Nat.le_of_ble_eq_true rfl) (Nat.le_of_ble_eq_true rfl) hW (by unfold pst; rw [hsp]; exact ⟨rfl, (nI_l (by omega)).symm, hD, frm.rf I J⟩) dX4_leads_20
abbrev rmX4_mark : Room := { frames := 7, cells := 2, slots := 12, locals := 104 }
set_option maxHeartbeats 4000000 in
set_option maxRecDepth 100000 in
theorem c_X4_mark (l : Launch) (hst : l.stackTraces = false) (D : va_G) (cy : Nat → ClassId) (L : List Nat) (ad : Nat → Nat) (G : mG) (I : mI) (J : mJ) (cn cw : Nat) (σ : Ab) (hS : cSh L G cn cw (aNt σ)) (hA : aOk cn cw σ) (hD : cDt cn cw σ I J) (x xp : Int32) (xb : Bool) : pXet l yX4_mark wsX4_mark rmX4_mark D cy L ad G I J [.ref (ad 0), .int x, .int xp, .int (bI xb)] (qI (fun v I' J' => pst (spMark cn σ x xp xb) v.toInt64 cn cw I I' J J') D cy L ad G) (pxs (spMark cn σ x xp xb)) := by
  refine pXet.ofZ (cc := cX4_mark) (maxL := 5) (by decide +kernel) rfl (Nat.le_of_ble_eq_true rfl) ?_
  intro p e R s m args below meth c A Q C hml hR hg ret thr hQ hlk hnx hW ls hl
  subst hR
  have C : Cx p s m args c cX4_mark RX4 wsX4_mark D cy A := C
  have hx := C.1
  have hb := C.2.1
  have lk53 := C.2.2.2.1 (.fieldLink RX4 53 "WaveWalk$Net" "hasWalks" "Z") (by decide +kernel)
  have lk68 := C.2.2.2.1 (.fieldLink RX4 68 "WaveWalk$Net" "marked" "[Z") (by decide +kernel)
  have hinX1 : ∀ w ∈ wsX10, w ∈ wsX4_mark := by decide +kernel
  have hl : lv_has ls 5 [(0, .ref (ad 0)), (1, .int x), (2, .int xp), (3, .int (bI xb))] := hl
  have h6 := hA.1
  have h12 := hA.2.1
  have h0L : 0 ∈ L := hS.1 0 (by omega)
  have h1L : 1 ∈ L := hS.1 1 (by omega)
  have h2L : 2 ∈ L := hS.1 2 (by omega)
  have hV3 := hS.trial
  have hC5 := hS.cls
  refine lv_aload_n hx hb dX4_mark_0 rfl (lv_at hl 0 rfl) ?_
  refine lv_iload_n hx hb dX4_mark_1 rfl (lv_at hl 1 rfl) ?_
  refine p_xVr C hml hg hW (c_X4_netOf l hst D cy L ad G I J cn cw (aNt σ) hS h6 h12 x) (cwV 1 C.2.2.2.1 gX4_mark_X4_netOf rfl rfl rfl (by decide +kernel) ⟨Nat.le_of_ble_eq_true rfl, Nat.le_of_ble_eq_true rfl⟩) (p_recv C hW h0L (pF_4 (by decide)) rfl) rfl hl.1 rfl (Nat.le_of_ble_eq_true rfl) dX4_mark_2 (Nat.le_of_ble_eq_true rfl) (Nat.le_of_ble_eq_true rfl) (fun E ce q9 H locs hW hp h1 h2 h3 => thr E ce q9 H locs _ _ _ _ _ (Nat.le_of_ble_eq_true rfl) (Nat.le_of_ble_eq_true rfl) hW (Or.inl ⟨hp.1, by simp only [spMark, hp.2]⟩) h1 h2 h3) (fun v1 I2 J3 H locs hp hW => ?_)
  obtain ⟨⟨i, hi, hq⟩, hI, hJ⟩ := hp
  subst v1
  subst I2
  subst J3
  obtain ⟨hil, -⟩ := ixN_some hi (by omega)
  have hN := hS.net hil h6
  have hO := hA.2.2.1 _ hil
  have hH := hD.nHas hil
  obtain ⟨po1, po2, po3, po4⟩ := id hO
  obtain ⟨nh0, nh1, nh2, nh3, nh4, nh5⟩ := id hH
  obtain ⟨cn1, cn2, cn3, cn4, cn5, cn6, cn7⟩ := id (hD.2.2.1 i hil)
  refine lv_astore (lv' := [(4, .ref (ad (8 + 3 * i))), (0, .ref (ad 0)), (1, .int x), (2, .int xp), (3, .int (bI xb))]) hx hb dX4_mark_5 hl (by decide) rfl (fun ls hl => ?_)
  refine lv_aload hx hb dX4_mark_7 (lv_at hl 0 rfl) ?_
  refine lv_iload_n hx hb dX4_mark_9 rfl (lv_at hl 3 rfl) ?_
  refine p_xSv C hml hg hW (c_X4_needPlace l hst D cy L ad G I J (8 + 3 * i) (9 + 3 * i) (10 + 3 * i) hN (aPl σ i) nh0 po2 xp) (va_cwS 2 C.2.2.2.1 gX4_mark_X4_needPlace rfl rfl rfl (by decide +kernel) ⟨Nat.le_of_ble_eq_true rfl, Nat.le_of_ble_eq_true rfl⟩) rfl hl.1 rfl (Nat.le_of_ble_eq_true rfl) dX4_mark_10 (Nat.le_of_ble_eq_true rfl) (Nat.le_of_ble_eq_true rfl) (fun E ce q9 H locs hW hp h1 h2 h3 => thr E ce q9 H locs _ _ _ _ _ (Nat.le_of_ble_eq_true rfl) (Nat.le_of_ble_eq_true rfl) hW (Or.inl ⟨hp.1, by simp only [spMark, hi, hp.2]⟩) h1 h2 h3) (fun I4 J5 H locs hp hW => ?_)
  obtain ⟨⟨q, hq⟩, hI, hJ⟩ := hp
  subst I4
  subst J5
  obtain ⟨hql, hqe⟩ := ixN_some hq (by omega)
  subst hqe
  refine lv_aload hx hb dX4_mark_13 (lv_at hl 0 rfl) ?_
  refine g_X1_6 C hinX1 hW hN.1 hN.2.1 lk53 dX4_mark_15 ?_
  refine w_top (y := .int (bI (aUs σ i))) (by rw [cn5]) ?_
  refine b_if_eq (tgt := 23) hx hb dX4_mark_18 (by decide) (fun hc_6 => ?_) (fun hc_6 => ?_)
  · skip
    refine lv_aload hx hb dX4_mark_23 (lv_at hl 0 rfl) ?_
    refine g_X1_5 C hinX1 hW hN.1 hN.2.1 hN.2.2.2.2.2.2.1 lk68 dX4_mark_25 ?_
    refine lv_iload_n hx hb dX4_mark_28 rfl (lv_at hl 3 rfl) ?_
    refine lv_iload_n hx hb dX4_mark_29 rfl (lv_at hl 4 rfl) ?_
    refine p_zast C hW hN.2.2.2.2.2.2.2.1 hN.2.2.2.2.2.2.2.2.1 (k := q) rfl (by rw [hN.2.2.2.2.2.2.2.2.2]; omega) (bI_n _) dX4_mark_30 (fun H locs hW => ?_)
    obtain ⟨I7, eI7⟩ : ∃ z, z = va_up I (10 + 3 * i) (upd (I (10 + 3 * i)) q (bI xb)) := ⟨_, rfl⟩
    rw [← eI7] at hW
    refine lv_iconst (v := nI 1) hx hb dX4_mark_31 (by decide) ?_
    have hsp : spMark cn σ x (nI q) xb = (0, 1, sMk σ i (va_up (aMk σ i) q xb)) := by simp [spMark, hi, hq, hc_6]
    exact ret _ _ _ _ _ _ _ _ _ (Nat.le_of_ble_eq_true rfl) (Nat.le_of_ble_eq_true rfl) hW (by unfold pst; rw [hsp]; exact ⟨rfl, (by decide : (1 : Int64) = (nI 1).toInt64), by rw [eI7]; exact hD.mk hil h6 h12 (by omega) xb, fun r hr => ⟨by rw [eI7]; exact va_up_ne _ _ (by omega), rfl⟩⟩) (by decide) dX4_mark_32
  · skip
    refine lv_iconst (v := nI 0) hx hb dX4_mark_21 (by decide) ?_
    have hsp : spMark cn σ x (nI q) xb = (0, 0, σ) := by simp [spMark, hi, hq, hc_6]
    exact ret _ _ _ _ _ _ _ _ _ (Nat.le_of_ble_eq_true rfl) (Nat.le_of_ble_eq_true rfl) hW (by unfold pst; rw [hsp]; exact ⟨rfl, (by decide : (0 : Int64) = (nI 0).toInt64), hD, frm.rf I J⟩) (by decide) dX4_mark_22
abbrev rmX4_alike : Room := { frames := 7, cells := 2, slots := 12, locals := 104 }
set_option maxHeartbeats 4000000 in
set_option maxRecDepth 100000 in
theorem c_X4_alike (l : Launch) (hst : l.stackTraces = false) (D : va_G) (cy : Nat → ClassId) (L : List Nat) (ad : Nat → Nat) (G : mG) (I : mI) (J : mJ) (cn cw : Nat) (σ : Ab) (hS : cSh L G cn cw (aNt σ)) (hA : aOk cn cw σ) (hD : cDt cn cw σ I J) (x xp : Int32) : pXet l yX4_alike wsX4_alike rmX4_alike D cy L ad G I J [.ref (ad 0), .int x, .int xp] (qI (fun v I' J' => pst (spAlike cn σ x xp) v.toInt64 cn cw I I' J J') D cy L ad G) (pxs (spAlike cn σ x xp)) := by
  refine pXet.ofI (cc := cX4_alike) (maxL := 4) (by decide +kernel) rfl (Nat.le_of_ble_eq_true rfl) ?_
  intro p e R s m args below meth c A Q C hml hR hg ret thr hQ hlk hnx hW ls hl
  subst hR
  have C : Cx p s m args c cX4_alike RX4 wsX4_alike D cy A := C
  have hx := C.1
  have hb := C.2.1
  have lk31 := C.2.2.2.1 (.fieldLink RX4 31 "WaveWalk" "classes" "LWaveWalk$Classes;") (by decide +kernel)
  have lk76 := C.2.2.2.1 (.fieldLink RX4 76 "WaveWalk$Classes" "number" "I") (by decide +kernel)
  have lk79 := C.2.2.2.1 (.fieldLink RX4 79 "WaveWalk$Classes" "ofPlace" "[I") (by decide +kernel)
  have hinX0 : ∀ w ∈ wsX00, w ∈ wsX4_alike := by decide +kernel
  have hinX4 : ∀ w ∈ wsX40, w ∈ wsX4_alike := by decide +kernel
  have hl : lv_has ls 4 [(0, .ref (ad 0)), (1, .int x), (2, .int xp)] := hl
  have h6 := hA.1
  have h12 := hA.2.1
  have h0L : 0 ∈ L := hS.1 0 (by omega)
  have h1L : 1 ∈ L := hS.1 1 (by omega)
  have h2L : 2 ∈ L := hS.1 2 (by omega)
  have hV3 := hS.trial
  have hC5 := hS.cls
  refine lv_aload_n hx hb dX4_alike_0 rfl (lv_at hl 0 rfl) ?_
  refine lv_iload_n hx hb dX4_alike_1 rfl (lv_at hl 1 rfl) ?_
  refine p_xVr C hml hg hW (c_X4_netOf l hst D cy L ad G I J cn cw (aNt σ) hS h6 h12 x) (cwV 1 C.2.2.2.1 gX4_alike_X4_netOf rfl rfl rfl (by decide +kernel) ⟨Nat.le_of_ble_eq_true rfl, Nat.le_of_ble_eq_true rfl⟩) (p_recv C hW h0L (pF_4 (by decide)) rfl) rfl hl.1 rfl (Nat.le_of_ble_eq_true rfl) dX4_alike_2 (Nat.le_of_ble_eq_true rfl) (Nat.le_of_ble_eq_true rfl) (fun E ce q9 H locs hW hp h1 h2 h3 => thr E ce q9 H locs _ _ _ _ _ (Nat.le_of_ble_eq_true rfl) (Nat.le_of_ble_eq_true rfl) hW (Or.inl ⟨hp.1, by simp only [spAlike, hp.2]⟩) h1 h2 h3) (fun v1 I2 J3 H locs hp hW => ?_)
  obtain ⟨⟨i, hi, hq⟩, hI, hJ⟩ := hp
  subst v1
  subst I2
  subst J3
  obtain ⟨hil, -⟩ := ixN_some hi (by omega)
  have hN := hS.net hil h6
  have hO := hA.2.2.1 _ hil
  have hH := hD.nHas hil
  obtain ⟨po1, po2, po3, po4⟩ := id hO
  obtain ⟨nh0, nh1, nh2, nh3, nh4, nh5⟩ := id hH
  obtain ⟨cn1, cn2, cn3, cn4, cn5, cn6, cn7⟩ := id (hD.2.2.1 i hil)
  refine lv_astore_n (lv' := [(3, .ref (ad (8 + 3 * i))), (0, .ref (ad 0)), (1, .int x), (2, .int xp)]) hx hb dX4_alike_5 rfl hl (by decide) rfl (fun ls hl => ?_)
  refine lv_iload_n hx hb dX4_alike_6 rfl (lv_at hl 3 rfl) ?_
  refine lv_iconst (v := (-1)) hx hb dX4_alike_7 (by decide) ?_
  refine lv_icmp_eq (tgt := 16) hx hb dX4_alike_8 (by decide) (fun hc_4 => ?_) (fun hc_4 => ?_)
  · skip
    refine lv_aload_n hx hb dX4_alike_16 rfl (lv_at hl 1 rfl) ?_
    refine g_X4_3 C hinX4 hW h0L (by decide) hS.2.2.2.2.1 lk31 dX4_alike_17 ?_
    refine lv_aload_n hx hb dX4_alike_20 rfl (lv_at hl 0 rfl) ?_
    refine p_cVv C hml hg hW (c_X0_partAll l D cy L ad G I J 5 6 7 hC5 (8 + 3 * i) (9 + 3 * i) (10 + 3 * i) hN (aPl σ i) (aDr σ i) nh0 nh1 po2 po3 (aMk σ i) nh5 (aTo σ i) nh4 (fun c hc => (po4 c hc).1) (led_lt po4) (by omega)) (cwV 1 C.2.2.2.1 gX4_alike_X0_partAll rfl rfl rfl (by decide +kernel) ⟨Nat.le_of_ble_eq_true rfl, Nat.le_of_ble_eq_true rfl⟩) (p_recv C hW hC5.1 (pF_0 hC5.2.1) rfl) rfl hl.1 rfl (Nat.le_of_ble_eq_true rfl) dX4_alike_21 (Nat.le_of_ble_eq_true rfl) (Nat.le_of_ble_eq_true rfl) (fun I5 J6 H locs hp hW => ?_)
    obtain ⟨fr, fo, fn, fJ⟩ := hp
    have hD2 : cDt cn cw σ I5 J6 := hD.keep (fr 0 (by omega) (by omega)) (fun r h1 h2 => fr r (by omega) (by omega)) (fun r h1 h2 => fJ r (by omega)) h6 h12
    have hF2 : frm I I5 J J6 := fun r hr => ⟨fr r (by omega) (by omega), fJ r (by omega)⟩
    refine lv_iload_n hx hb dX4_alike_24 rfl (lv_at hl 3 rfl) ?_
    refine lv_iconst (v := (-1)) hx hb dX4_alike_25 (by decide) ?_
    refine lv_icmp_ne (tgt := 39) hx hb dX4_alike_26 (by decide) (fun hc_7 => ?_) (fun hc_7 => ?_)
    · skip
      exact absurd hc_4 hc_7
    · skip
      refine lv_aload_n hx hb dX4_alike_29 rfl (lv_at hl 1 rfl) ?_
      refine g_X4_3 C hinX4 hW h0L (by decide) hS.2.2.2.2.1 lk31 dX4_alike_30 ?_
      refine g_X0_2 C hinX0 hW hC5.1 (by decide) lk76 dX4_alike_33 ?_
      refine w_top (y := .int (nI (numA (aPl σ i) (aDr σ i) (aTo σ i) (aMk σ i)))) (by rw [fn]) ?_
      refine lv_goto (tgt := 48) hx hb dX4_alike_36 (by decide) ?_
      have hb1 := numE_le (lastE (aPl σ i) (aDr σ i) (aTo σ i) (aMk σ i)) (aPl σ i)
      have hsp : spAlike cn σ x xp = (0, lN (numA (aPl σ i) (aDr σ i) (aTo σ i) (aMk σ i)), σ) := by simp only [spAlike, hi]; rw [if_pos hc_4]
      exact ret _ _ _ _ _ _ _ _ _ (Nat.le_of_ble_eq_true rfl) (Nat.le_of_ble_eq_true rfl) hW (by unfold pst; rw [hsp]; exact ⟨rfl, (nI_l (by unfold numA; omega)).symm, hD2, hF2⟩) dX4_alike_48
  · skip
    refine lv_aload_n hx hb dX4_alike_11 rfl (lv_at hl 0 rfl) ?_
    refine lv_iload_n hx hb dX4_alike_12 rfl (lv_at hl 3 rfl) ?_
    refine p_xSv C hml hg hW (c_X4_needPlace l hst D cy L ad G I J (8 + 3 * i) (9 + 3 * i) (10 + 3 * i) hN (aPl σ i) nh0 po2 xp) (va_cwS 2 C.2.2.2.1 gX4_alike_X4_needPlace rfl rfl rfl (by decide +kernel) ⟨Nat.le_of_ble_eq_true rfl, Nat.le_of_ble_eq_true rfl⟩) rfl hl.1 rfl (Nat.le_of_ble_eq_true rfl) dX4_alike_13 (Nat.le_of_ble_eq_true rfl) (Nat.le_of_ble_eq_true rfl) (fun E ce q9 H locs hW hp h1 h2 h3 => thr E ce q9 H locs _ _ _ _ _ (Nat.le_of_ble_eq_true rfl) (Nat.le_of_ble_eq_true rfl) hW (Or.inl ⟨hp.1, by simp only [spAlike, hi, hc_4, if_false, hp.2]⟩) h1 h2 h3) (fun I8 J9 H locs hp hW => ?_)
    obtain ⟨⟨q, hq⟩, hI, hJ⟩ := hp
    subst I8
    subst J9
    obtain ⟨hql, hqe⟩ := ixN_some hq (by omega)
    subst hqe
    refine lv_aload_n hx hb dX4_alike_16 rfl (lv_at hl 1 rfl) ?_
    refine g_X4_3 C hinX4 hW h0L (by decide) hS.2.2.2.2.1 lk31 dX4_alike_17 ?_
    refine lv_aload_n hx hb dX4_alike_20 rfl (lv_at hl 0 rfl) ?_
    refine p_cVv C hml hg hW (c_X0_partAll l D cy L ad G I J 5 6 7 hC5 (8 + 3 * i) (9 + 3 * i) (10 + 3 * i) hN (aPl σ i) (aDr σ i) nh0 nh1 po2 po3 (aMk σ i) nh5 (aTo σ i) nh4 (fun c hc => (po4 c hc).1) (led_lt po4) (by omega)) (cwV 1 C.2.2.2.1 gX4_alike_X0_partAll rfl rfl rfl (by decide +kernel) ⟨Nat.le_of_ble_eq_true rfl, Nat.le_of_ble_eq_true rfl⟩) (p_recv C hW hC5.1 (pF_0 hC5.2.1) rfl) rfl hl.1 rfl (Nat.le_of_ble_eq_true rfl) dX4_alike_21 (Nat.le_of_ble_eq_true rfl) (Nat.le_of_ble_eq_true rfl) (fun I10 J11 H locs hp hW => ?_)
    obtain ⟨fr, fo, fn, fJ⟩ := hp
    have hD2 : cDt cn cw σ I10 J11 := hD.keep (fr 0 (by omega) (by omega)) (fun r h1 h2 => fr r (by omega) (by omega)) (fun r h1 h2 => fJ r (by omega)) h6 h12
    have hF2 : frm I I10 J J11 := fun r hr => ⟨fr r (by omega) (by omega), fJ r (by omega)⟩
    refine lv_iload_n hx hb dX4_alike_24 rfl (lv_at hl 3 rfl) ?_
    refine lv_iconst (v := (-1)) hx hb dX4_alike_25 (by decide) ?_
    refine lv_icmp_ne (tgt := 39) hx hb dX4_alike_26 (by decide) (fun hc_12 => ?_) (fun hc_12 => ?_)
    · skip
      refine lv_aload_n hx hb dX4_alike_39 rfl (lv_at hl 1 rfl) ?_
      refine g_X4_3 C hinX4 hW h0L (by decide) hS.2.2.2.2.1 lk31 dX4_alike_40 ?_
      refine g_X0_0 C hinX0 hW hC5.1 (by decide) hC5.2.2.1 lk79 dX4_alike_43 ?_
      refine lv_iload_n hx hb dX4_alike_46 rfl (lv_at hl 3 rfl) ?_
      refine p_iald C hW hC5.2.2.2.1 (by decide) (k := q) rfl (by rw [show ln 6 = 12 by decide]; omega) dX4_alike_47 ?_
      refine w_top (y := .int (nI (clsA (aPl σ i) (aDr σ i) (aTo σ i) (aMk σ i) q))) (by rw [fo _ hql]) ?_
      have hb1 := num_small (itE_eqv (pl := aPl σ i) (dr := aDr σ i) (to := aTo σ i) (mk := aMk σ i) (aPl σ i)) po2 hql
      have hsp : spAlike cn σ x (nI q) = (0, lN (clsA (aPl σ i) (aDr σ i) (aTo σ i) (aMk σ i) q), σ) := by simp only [spAlike, hi, hq]; rw [if_neg hc_4]
      exact ret _ _ _ _ _ _ _ _ _ (Nat.le_of_ble_eq_true rfl) (Nat.le_of_ble_eq_true rfl) hW (by unfold pst; rw [hsp]; exact ⟨rfl, (nI_l (by unfold clsA lastE; omega)).symm, hD2, hF2⟩) dX4_alike_48
    · skip
      exact absurd hc_12 hc_4
