abbrev rmL_join : Room := { frames := 9, cells := 5, slots := 30, locals := 153 }
set_option maxHeartbeats 400000 in
set_option maxRecDepth 100000 in
theorem c_L_join (l : Launch) (hst0 : l.stackTraces = false) (D : va_G) (cy : Nat → ClassId) (L : List Nat) (ad : Nat → Nat) (G : mG) (I : mI) (J : mJ) (cn cw : Nat) (σ : Ab) (hS : cSh L G cn cw (aNt σ)) (hA : aOk cn cw σ) (hD : cDt cn cw σ I J) (h80 : 80 ∈ L) (x xp xd xp2 xd2 : Int32) : pMet l yL_join wsL_join rmL_join D cy L ad G I J [.ref (ad 0), .int x, .int xp, .int xd, .int xp2, .int xd2, .ref (ad 80)] (qI (fun v I' J' => hst (spJoin cn σ x xp xd xp2 xd2) v cn cw I I' J J') D cy L ad G) := by
  refine pMet.ofH (cc := cL_join) (maxL := 8) (hh := [(0, 23, 26, 13)]) (by decide +kernel) rfl (Nat.le_of_ble_eq_true rfl) ?_
  intro p e R s m args below meth c A Q C hml hR htab hg ret hW ls hl
  subst hR
  have C : Cx p s m args c cL_join RL wsL_join D cy A := C
  have hx := C.1
  have hb := C.2.1
  have hl : lv_has ls 8 [(0, .ref (ad 0)), (1, .int x), (2, .int xp), (3, .int xd), (4, .int xp2), (5, .int xd2), (6, .ref (ad 80))] := hl
  have h6 := hA.1
  have h12 := hA.2.1
  have hcl := C.2.2.2.1 (.classLink RL 13 "java/util/NoSuchElementException") (by decide +kernel)
  refine lv_aload hx hb dL_join_0 (lv_at hl 6 rfl) ?_
  refine lv_iconst (v := nI 0) hx hb dL_join_2 (by decide) ?_
  refine lv_aload_n hx hb dL_join_3 rfl (lv_at hl 0 rfl) ?_
  refine lv_iload_n hx hb dL_join_4 rfl (lv_at hl 1 rfl) ?_
  refine lv_iload_n hx hb dL_join_5 rfl (lv_at hl 2 rfl) ?_
  refine lv_iload_n hx hb dL_join_6 rfl (lv_at hl 3 rfl) ?_
  refine lv_iload hx hb dL_join_7 (lv_at hl 4 rfl) ?_
  refine lv_iload hx hb dL_join_9 (lv_at hl 5 rfl) ?_
  refine p_xVi C hml hg hW (c_X4_join l hst0 D cy L ad G I J cn cw σ hS hA hD x xp xd xp2 xd2) (cwV 5 C.2.2.2.1 gL_join_X4_join rfl rfl rfl (by decide +kernel) ⟨Nat.le_of_ble_eq_true rfl, Nat.le_of_ble_eq_true rfl⟩) (p_recv C hW (hS.1 0 (by omega)) (pF_4 (by decide)) rfl) rfl hl.1 rfl (Nat.le_of_ble_eq_true rfl) dL_join_11 (Nat.le_of_ble_eq_true rfl) (Nat.le_of_ble_eq_true rfl) (fun E ce q9 H locs hW hp g1 g2 g3 => ?_) (fun v1 I1 J1 H locs hp hW => ?_)
  · skip
    rcases hp with ⟨hE, hc1⟩ | ⟨hE, hc1⟩
    · skip
      subst hE
      refine p_catN C hg htab rfl hcl (by decide) g1 g2 g3 ?_
      refine lv_astore (lv' := [(7, .ref q9), (0, .ref (ad 0)), (1, .int x), (2, .int xp), (3, .int xd), (4, .int xp2), (5, .int xd2), (6, .ref (ad 80))]) hx hb dL_join_26 hl (by decide) rfl (fun ls hl => ?_)
      refine lv_iconst (v := nI 1) hx hb dL_join_28 (by decide) ?_
      exact ret _ _ _ _ _ _ _ _ _ (Nat.le_of_ble_eq_true rfl) (Nat.le_of_ble_eq_true rfl) hW (hst.bad hc1 (by decide) (z_join x xp xd xp2 xd2) hD) dL_join_29
    · skip
      exact absurd hc1 (n_join x xp xd xp2 xd2)
  · skip
    have hb01 := tb hp.2.1 (b_join x xp xd xp2 xd2)
    refine lv_if_eq (tgt := 21) hx hb dL_join_14 (by decide) (fun hc_1 => ?_) (fun hc_1 => ?_)
    · skip
      refine lv_lconst (v := 0) hx hb dL_join_21 (by decide) ?_
      refine p_last C hW h80 (by decide) (k := 0) rfl (by rw [show ln 80 = 1 by decide]; omega) dL_join_22 (fun H locs hW => ?_)
      obtain ⟨J2, eJ2⟩ : ∃ z, z = va_up J1 80 (vp_updL (J1 80) 0 0) := ⟨_, rfl⟩
      rw [← eJ2] at hW
      refine lv_goto (tgt := 30) hx hb dL_join_23 (by decide) ?_
      refine lv_iconst (v := nI 0) hx hb dL_join_30 (by decide) ?_
      exact ret _ _ _ _ _ _ _ _ _ (Nat.le_of_ble_eq_true rfl) (Nat.le_of_ble_eq_true rfl) hW (by rw [eJ2]; exact (hst.good h6 h12 hp (hb01.1 hc_1))) dL_join_31
    · skip
      refine lv_lconst (v := 1) hx hb dL_join_17 (by decide) ?_
      refine lv_goto (tgt := 22) hx hb dL_join_18 (by decide) ?_
      refine p_last C hW h80 (by decide) (k := 0) rfl (by rw [show ln 80 = 1 by decide]; omega) dL_join_22 (fun H locs hW => ?_)
      obtain ⟨J3, eJ3⟩ : ∃ z, z = va_up J1 80 (vp_updL (J1 80) 0 1) := ⟨_, rfl⟩
      rw [← eJ3] at hW
      refine lv_goto (tgt := 30) hx hb dL_join_23 (by decide) ?_
      refine lv_iconst (v := nI 0) hx hb dL_join_30 (by decide) ?_
      exact ret _ _ _ _ _ _ _ _ _ (Nat.le_of_ble_eq_true rfl) (Nat.le_of_ble_eq_true rfl) hW (by rw [eJ3]; exact (hst.good h6 h12 hp (hb01.2 hc_1))) dL_join_31
abbrev rmL_leads : Room := { frames := 9, cells := 3, slots := 18, locals := 149 }
set_option maxHeartbeats 400000 in
set_option maxRecDepth 100000 in
theorem c_L_leads (l : Launch) (hst0 : l.stackTraces = false) (D : va_G) (cy : Nat → ClassId) (L : List Nat) (ad : Nat → Nat) (G : mG) (I : mI) (J : mJ) (cn cw : Nat) (σ : Ab) (hS : cSh L G cn cw (aNt σ)) (hA : aOk cn cw σ) (hD : cDt cn cw σ I J) (h80 : 80 ∈ L) (x xp xd : Int32) : pMet l yL_leads wsL_leads rmL_leads D cy L ad G I J [.ref (ad 0), .int x, .int xp, .int xd, .ref (ad 80)] (qI (fun v I' J' => hst (spLeads cn σ x xp xd) v cn cw I I' J J') D cy L ad G) := by
  refine pMet.ofH (cc := cL_leads) (maxL := 6) (hh := [(0, 12, 15, 13)]) (by decide +kernel) rfl (Nat.le_of_ble_eq_true rfl) ?_
  intro p e R s m args below meth c A Q C hml hR htab hg ret hW ls hl
  subst hR
  have C : Cx p s m args c cL_leads RL wsL_leads D cy A := C
  have hx := C.1
  have hb := C.2.1
  have hl : lv_has ls 6 [(0, .ref (ad 0)), (1, .int x), (2, .int xp), (3, .int xd), (4, .ref (ad 80))] := hl
  have h6 := hA.1
  have h12 := hA.2.1
  have hcl := C.2.2.2.1 (.classLink RL 13 "java/util/NoSuchElementException") (by decide +kernel)
  refine lv_aload hx hb dL_leads_0 (lv_at hl 4 rfl) ?_
  refine lv_iconst (v := nI 0) hx hb dL_leads_2 (by decide) ?_
  refine lv_aload_n hx hb dL_leads_3 rfl (lv_at hl 0 rfl) ?_
  refine lv_iload_n hx hb dL_leads_4 rfl (lv_at hl 1 rfl) ?_
  refine lv_iload_n hx hb dL_leads_5 rfl (lv_at hl 2 rfl) ?_
  refine lv_iload_n hx hb dL_leads_6 rfl (lv_at hl 3 rfl) ?_
  refine p_xVi C hml hg hW (c_X4_leads l hst0 D cy L ad G I J cn cw σ hS hA hD x xp xd) (cwV 3 C.2.2.2.1 gL_leads_X4_leads rfl rfl rfl (by decide +kernel) ⟨Nat.le_of_ble_eq_true rfl, Nat.le_of_ble_eq_true rfl⟩) (p_recv C hW (hS.1 0 (by omega)) (pF_4 (by decide)) rfl) rfl hl.1 rfl (Nat.le_of_ble_eq_true rfl) dL_leads_7 (Nat.le_of_ble_eq_true rfl) (Nat.le_of_ble_eq_true rfl) (fun E ce q9 H locs hW hp g1 g2 g3 => ?_) (fun v1 I1 J1 H locs hp hW => ?_)
  · skip
    rcases hp with ⟨hE, hc1⟩ | ⟨hE, hc1⟩
    · skip
      subst hE
      refine p_catN C hg htab rfl hcl (by decide) g1 g2 g3 ?_
      refine lv_astore (lv' := [(5, .ref q9), (0, .ref (ad 0)), (1, .int x), (2, .int xp), (3, .int xd), (4, .ref (ad 80))]) hx hb dL_leads_15 hl (by decide) rfl (fun ls hl => ?_)
      refine lv_iconst (v := nI 1) hx hb dL_leads_17 (by decide) ?_
      exact ret _ _ _ _ _ _ _ _ _ (Nat.le_of_ble_eq_true rfl) (Nat.le_of_ble_eq_true rfl) hW (hst.bad hc1 (by decide) (z_leads x xp xd) hD) dL_leads_18
    · skip
      exact absurd hc1 (n_leads x xp xd)
  · skip
    refine lv_i2l (v := v1.toInt64) hx hb dL_leads_10 rfl ?_
    refine p_last C hW h80 (by decide) (k := 0) rfl (by rw [show ln 80 = 1 by decide]; omega) dL_leads_11 (fun H locs hW => ?_)
    obtain ⟨J1, eJ1⟩ : ∃ z, z = va_up J1 80 (vp_updL (J1 80) 0 v1.toInt64) := ⟨_, rfl⟩
    rw [← eJ1] at hW
    refine lv_goto (tgt := 19) hx hb dL_leads_12 (by decide) ?_
    refine lv_iconst (v := nI 0) hx hb dL_leads_19 (by decide) ?_
    exact ret _ _ _ _ _ _ _ _ _ (Nat.le_of_ble_eq_true rfl) (Nat.le_of_ble_eq_true rfl) hW (by rw [eJ1]; exact (hst.good h6 h12 hp hp.2.1)) dL_leads_20
abbrev rmL_mark : Room := { frames := 8, cells := 2, slots := 12, locals := 128 }
set_option maxHeartbeats 400000 in
set_option maxRecDepth 100000 in
theorem c_L_mark (l : Launch) (hst0 : l.stackTraces = false) (D : va_G) (cy : Nat → ClassId) (L : List Nat) (ad : Nat → Nat) (G : mG) (I : mI) (J : mJ) (cn cw : Nat) (σ : Ab) (hS : cSh L G cn cw (aNt σ)) (hA : aOk cn cw σ) (hD : cDt cn cw σ I J) (h80 : 80 ∈ L) (x xp : Int32) (xb : Bool) : pMet l yL_mark wsL_mark rmL_mark D cy L ad G I J [.ref (ad 0), .int x, .int xp, .int (bI xb), .ref (ad 80)] (qI (fun v I' J' => hst (spMark cn σ x xp xb) v cn cw I I' J J') D cy L ad G) := by
  refine pMet.ofH (cc := cL_mark) (maxL := 6) (hh := [(0, 19, 22, 13)]) (by decide +kernel) rfl (Nat.le_of_ble_eq_true rfl) ?_
  intro p e R s m args below meth c A Q C hml hR htab hg ret hW ls hl
  subst hR
  have C : Cx p s m args c cL_mark RL wsL_mark D cy A := C
  have hx := C.1
  have hb := C.2.1
  have hl : lv_has ls 6 [(0, .ref (ad 0)), (1, .int x), (2, .int xp), (3, .int (bI xb)), (4, .ref (ad 80))] := hl
  have h6 := hA.1
  have h12 := hA.2.1
  have hcl := C.2.2.2.1 (.classLink RL 13 "java/util/NoSuchElementException") (by decide +kernel)
  refine lv_aload hx hb dL_mark_0 (lv_at hl 4 rfl) ?_
  refine lv_iconst (v := nI 0) hx hb dL_mark_2 (by decide) ?_
  refine lv_aload_n hx hb dL_mark_3 rfl (lv_at hl 0 rfl) ?_
  refine lv_iload_n hx hb dL_mark_4 rfl (lv_at hl 1 rfl) ?_
  refine lv_iload_n hx hb dL_mark_5 rfl (lv_at hl 2 rfl) ?_
  refine lv_iload_n hx hb dL_mark_6 rfl (lv_at hl 3 rfl) ?_
  refine p_xVi C hml hg hW (c_X4_mark l hst0 D cy L ad G I J cn cw σ hS hA hD x xp xb) (cwV 3 C.2.2.2.1 gL_mark_X4_mark rfl rfl rfl (by decide +kernel) ⟨Nat.le_of_ble_eq_true rfl, Nat.le_of_ble_eq_true rfl⟩) (p_recv C hW (hS.1 0 (by omega)) (pF_4 (by decide)) rfl) rfl hl.1 rfl (Nat.le_of_ble_eq_true rfl) dL_mark_7 (Nat.le_of_ble_eq_true rfl) (Nat.le_of_ble_eq_true rfl) (fun E ce q9 H locs hW hp g1 g2 g3 => ?_) (fun v1 I1 J1 H locs hp hW => ?_)
  · skip
    rcases hp with ⟨hE, hc1⟩ | ⟨hE, hc1⟩
    · skip
      subst hE
      refine p_catN C hg htab rfl hcl (by decide) g1 g2 g3 ?_
      refine lv_astore (lv' := [(5, .ref q9), (0, .ref (ad 0)), (1, .int x), (2, .int xp), (3, .int (bI xb)), (4, .ref (ad 80))]) hx hb dL_mark_22 hl (by decide) rfl (fun ls hl => ?_)
      refine lv_iconst (v := nI 1) hx hb dL_mark_24 (by decide) ?_
      exact ret _ _ _ _ _ _ _ _ _ (Nat.le_of_ble_eq_true rfl) (Nat.le_of_ble_eq_true rfl) hW (hst.bad hc1 (by decide) (z_mark x xp xb) hD) dL_mark_25
    · skip
      exact absurd hc1 (n_mark x xp xb)
  · skip
    have hb01 := tb hp.2.1 (b_mark x xp xb)
    refine lv_if_eq (tgt := 17) hx hb dL_mark_10 (by decide) (fun hc_1 => ?_) (fun hc_1 => ?_)
    · skip
      refine lv_lconst (v := 0) hx hb dL_mark_17 (by decide) ?_
      refine p_last C hW h80 (by decide) (k := 0) rfl (by rw [show ln 80 = 1 by decide]; omega) dL_mark_18 (fun H locs hW => ?_)
      obtain ⟨J2, eJ2⟩ : ∃ z, z = va_up J1 80 (vp_updL (J1 80) 0 0) := ⟨_, rfl⟩
      rw [← eJ2] at hW
      refine lv_goto (tgt := 26) hx hb dL_mark_19 (by decide) ?_
      refine lv_iconst (v := nI 0) hx hb dL_mark_26 (by decide) ?_
      exact ret _ _ _ _ _ _ _ _ _ (Nat.le_of_ble_eq_true rfl) (Nat.le_of_ble_eq_true rfl) hW (by rw [eJ2]; exact (hst.good h6 h12 hp (hb01.1 hc_1))) dL_mark_27
    · skip
      refine lv_lconst (v := 1) hx hb dL_mark_13 (by decide) ?_
      refine lv_goto (tgt := 18) hx hb dL_mark_14 (by decide) ?_
      refine p_last C hW h80 (by decide) (k := 0) rfl (by rw [show ln 80 = 1 by decide]; omega) dL_mark_18 (fun H locs hW => ?_)
      obtain ⟨J3, eJ3⟩ : ∃ z, z = va_up J1 80 (vp_updL (J1 80) 0 1) := ⟨_, rfl⟩
      rw [← eJ3] at hW
      refine lv_goto (tgt := 26) hx hb dL_mark_19 (by decide) ?_
      refine lv_iconst (v := nI 0) hx hb dL_mark_26 (by decide) ?_
      exact ret _ _ _ _ _ _ _ _ _ (Nat.le_of_ble_eq_true rfl) (Nat.le_of_ble_eq_true rfl) hW (by rw [eJ3]; exact (hst.good h6 h12 hp (hb01.2 hc_1))) dL_mark_27
abbrev rmL_alike : Room := { frames := 8, cells := 2, slots := 12, locals := 127 }
set_option maxHeartbeats 400000 in
set_option maxRecDepth 100000 in
theorem c_L_alike (l : Launch) (hst0 : l.stackTraces = false) (D : va_G) (cy : Nat → ClassId) (L : List Nat) (ad : Nat → Nat) (G : mG) (I : mI) (J : mJ) (cn cw : Nat) (σ : Ab) (hS : cSh L G cn cw (aNt σ)) (hA : aOk cn cw σ) (hD : cDt cn cw σ I J) (h80 : 80 ∈ L) (x xp : Int32) : pMet l yL_alike wsL_alike rmL_alike D cy L ad G I J [.ref (ad 0), .int x, .int xp, .ref (ad 80)] (qI (fun v I' J' => hst (spAlike cn σ x xp) v cn cw I I' J J') D cy L ad G) := by
  refine pMet.ofH (cc := cL_alike) (maxL := 5) (hh := [(0, 10, 13, 13)]) (by decide +kernel) rfl (Nat.le_of_ble_eq_true rfl) ?_
  intro p e R s m args below meth c A Q C hml hR htab hg ret hW ls hl
  subst hR
  have C : Cx p s m args c cL_alike RL wsL_alike D cy A := C
  have hx := C.1
  have hb := C.2.1
  have hl : lv_has ls 5 [(0, .ref (ad 0)), (1, .int x), (2, .int xp), (3, .ref (ad 80))] := hl
  have h6 := hA.1
  have h12 := hA.2.1
  have hcl := C.2.2.2.1 (.classLink RL 13 "java/util/NoSuchElementException") (by decide +kernel)
  refine lv_aload_n hx hb dL_alike_0 rfl (lv_at hl 3 rfl) ?_
  refine lv_iconst (v := nI 0) hx hb dL_alike_1 (by decide) ?_
  refine lv_aload_n hx hb dL_alike_2 rfl (lv_at hl 0 rfl) ?_
  refine lv_iload_n hx hb dL_alike_3 rfl (lv_at hl 1 rfl) ?_
  refine lv_iload_n hx hb dL_alike_4 rfl (lv_at hl 2 rfl) ?_
  refine p_xVi C hml hg hW (c_X4_alike l hst0 D cy L ad G I J cn cw σ hS hA hD x xp) (cwV 2 C.2.2.2.1 gL_alike_X4_alike rfl rfl rfl (by decide +kernel) ⟨Nat.le_of_ble_eq_true rfl, Nat.le_of_ble_eq_true rfl⟩) (p_recv C hW (hS.1 0 (by omega)) (pF_4 (by decide)) rfl) rfl hl.1 rfl (Nat.le_of_ble_eq_true rfl) dL_alike_5 (Nat.le_of_ble_eq_true rfl) (Nat.le_of_ble_eq_true rfl) (fun E ce q9 H locs hW hp g1 g2 g3 => ?_) (fun v1 I1 J1 H locs hp hW => ?_)
  · skip
    rcases hp with ⟨hE, hc1⟩ | ⟨hE, hc1⟩
    · skip
      subst hE
      refine p_catN C hg htab rfl hcl (by decide) g1 g2 g3 ?_
      refine lv_astore (lv' := [(4, .ref q9), (0, .ref (ad 0)), (1, .int x), (2, .int xp), (3, .ref (ad 80))]) hx hb dL_alike_13 hl (by decide) rfl (fun ls hl => ?_)
      refine lv_iconst (v := nI 1) hx hb dL_alike_15 (by decide) ?_
      exact ret _ _ _ _ _ _ _ _ _ (Nat.le_of_ble_eq_true rfl) (Nat.le_of_ble_eq_true rfl) hW (hst.bad hc1 (by decide) (z_alike x xp) hD) dL_alike_16
    · skip
      exact absurd hc1 (n_alike x xp)
  · skip
    refine lv_i2l (v := v1.toInt64) hx hb dL_alike_8 rfl ?_
    refine p_last C hW h80 (by decide) (k := 0) rfl (by rw [show ln 80 = 1 by decide]; omega) dL_alike_9 (fun H locs hW => ?_)
    obtain ⟨J1, eJ1⟩ : ∃ z, z = va_up J1 80 (vp_updL (J1 80) 0 v1.toInt64) := ⟨_, rfl⟩
    rw [← eJ1] at hW
    refine lv_goto (tgt := 17) hx hb dL_alike_10 (by decide) ?_
    refine lv_iconst (v := nI 0) hx hb dL_alike_17 (by decide) ?_
    exact ret _ _ _ _ _ _ _ _ _ (Nat.le_of_ble_eq_true rfl) (Nat.le_of_ble_eq_true rfl) hW (by rw [eJ1]; exact (hst.good h6 h12 hp hp.2.1)) dL_alike_18
abbrev rmL_set : Room := { frames := 9, cells := 4, slots := 24, locals := 151 }
set_option maxHeartbeats 400000 in
set_option maxRecDepth 100000 in
theorem c_L_set (l : Launch) (hst0 : l.stackTraces = false) (D : va_G) (cy : Nat → ClassId) (L : List Nat) (ad : Nat → Nat) (G : mG) (I : mI) (J : mJ) (cn cw : Nat) (σ : Ab) (hS : cSh L G cn cw (aNt σ)) (hA : aOk cn cw σ) (hD : cDt cn cw σ I J) (h80 : 80 ∈ L) (x xp xd xv : Int32) : pMet l yL_set wsL_set rmL_set D cy L ad G I J [.ref (ad 0), .int x, .int xp, .int xd, .int xv, .ref (ad 80)] (qI (fun v I' J' => hst (spSet cw σ x xp xd xv) v cn cw I I' J J') D cy L ad G) := by
  refine pMet.ofH (cc := cL_set) (maxL := 7) (hh := [(0, 21, 24, 13), (0, 21, 28, 35)]) (by decide +kernel) rfl (Nat.le_of_ble_eq_true rfl) ?_
  intro p e R s m args below meth c A Q C hml hR htab hg ret hW ls hl
  subst hR
  have C : Cx p s m args c cL_set RL wsL_set D cy A := C
  have hx := C.1
  have hb := C.2.1
  have hl : lv_has ls 7 [(0, .ref (ad 0)), (1, .int x), (2, .int xp), (3, .int xd), (4, .int xv), (5, .ref (ad 80))] := hl
  have h6 := hA.1
  have h12 := hA.2.1
  have hcl := C.2.2.2.1 (.classLink RL 13 "java/util/NoSuchElementException") (by decide +kernel)
  have hcl2 := C.2.2.2.1 (.classLink RL 35 "java/lang/IllegalArgumentException") (by decide +kernel)
  refine lv_aload hx hb dL_set_0 (lv_at hl 5 rfl) ?_
  refine lv_iconst (v := nI 0) hx hb dL_set_2 (by decide) ?_
  refine lv_aload_n hx hb dL_set_3 rfl (lv_at hl 0 rfl) ?_
  refine lv_iload_n hx hb dL_set_4 rfl (lv_at hl 1 rfl) ?_
  refine lv_iload_n hx hb dL_set_5 rfl (lv_at hl 2 rfl) ?_
  refine lv_iload_n hx hb dL_set_6 rfl (lv_at hl 3 rfl) ?_
  refine lv_iload hx hb dL_set_7 (lv_at hl 4 rfl) ?_
  refine p_xVi C hml hg hW (c_X4_set l hst0 D cy L ad G I J cn cw σ hS hA hD x xp xd xv) (cwV 4 C.2.2.2.1 gL_set_X4_set rfl rfl rfl (by decide +kernel) ⟨Nat.le_of_ble_eq_true rfl, Nat.le_of_ble_eq_true rfl⟩) (p_recv C hW (hS.1 0 (by omega)) (pF_4 (by decide)) rfl) rfl hl.1 rfl (Nat.le_of_ble_eq_true rfl) dL_set_9 (Nat.le_of_ble_eq_true rfl) (Nat.le_of_ble_eq_true rfl) (fun E ce q9 H locs hW hp g1 g2 g3 => ?_) (fun v1 I1 J1 H locs hp hW => ?_)
  · skip
    rcases hp with ⟨hE, hc1⟩ | ⟨hE, hc1⟩
    · skip
      subst hE
      refine p_catN C hg htab rfl hcl (by decide) g1 g2 g3 ?_
      refine lv_astore (lv' := [(6, .ref q9), (0, .ref (ad 0)), (1, .int x), (2, .int xp), (3, .int xd), (4, .int xv), (5, .ref (ad 80))]) hx hb dL_set_24 hl (by decide) rfl (fun ls hl => ?_)
      refine lv_iconst (v := nI 1) hx hb dL_set_26 (by decide) ?_
      exact ret _ _ _ _ _ _ _ _ _ (Nat.le_of_ble_eq_true rfl) (Nat.le_of_ble_eq_true rfl) hW (hst.bad hc1 (by decide) (z_set x xp xd xv) hD) dL_set_27
    · skip
      subst hE
      refine p_catI C hg htab rfl hcl hcl2 (by decide) g1 g2 g3 ?_
      refine lv_astore (lv' := [(6, .ref q9), (0, .ref (ad 0)), (1, .int x), (2, .int xp), (3, .int xd), (4, .int xv), (5, .ref (ad 80))]) hx hb dL_set_28 hl (by decide) rfl (fun ls hl => ?_)
      refine lv_iconst (v := nI 2) hx hb dL_set_30 (by decide) ?_
      exact ret _ _ _ _ _ _ _ _ _ (Nat.le_of_ble_eq_true rfl) (Nat.le_of_ble_eq_true rfl) hW (hst.bad hc1 (by decide) (z_set x xp xd xv) hD) dL_set_31
  · skip
    have hb01 := tb hp.2.1 (b_set x xp xd xv)
    refine lv_if_eq (tgt := 19) hx hb dL_set_12 (by decide) (fun hc_1 => ?_) (fun hc_1 => ?_)
    · skip
      refine lv_lconst (v := 0) hx hb dL_set_19 (by decide) ?_
      refine p_last C hW h80 (by decide) (k := 0) rfl (by rw [show ln 80 = 1 by decide]; omega) dL_set_20 (fun H locs hW => ?_)
      obtain ⟨J2, eJ2⟩ : ∃ z, z = va_up J1 80 (vp_updL (J1 80) 0 0) := ⟨_, rfl⟩
      rw [← eJ2] at hW
      refine lv_goto (tgt := 32) hx hb dL_set_21 (by decide) ?_
      refine lv_iconst (v := nI 0) hx hb dL_set_32 (by decide) ?_
      exact ret _ _ _ _ _ _ _ _ _ (Nat.le_of_ble_eq_true rfl) (Nat.le_of_ble_eq_true rfl) hW (by rw [eJ2]; exact (hst.good h6 h12 hp (hb01.1 hc_1))) dL_set_33
    · skip
      refine lv_lconst (v := 1) hx hb dL_set_15 (by decide) ?_
      refine lv_goto (tgt := 20) hx hb dL_set_16 (by decide) ?_
      refine p_last C hW h80 (by decide) (k := 0) rfl (by rw [show ln 80 = 1 by decide]; omega) dL_set_20 (fun H locs hW => ?_)
      obtain ⟨J3, eJ3⟩ : ∃ z, z = va_up J1 80 (vp_updL (J1 80) 0 1) := ⟨_, rfl⟩
      rw [← eJ3] at hW
      refine lv_goto (tgt := 32) hx hb dL_set_21 (by decide) ?_
      refine lv_iconst (v := nI 0) hx hb dL_set_32 (by decide) ?_
      exact ret _ _ _ _ _ _ _ _ _ (Nat.le_of_ble_eq_true rfl) (Nat.le_of_ble_eq_true rfl) hW (by rw [eJ3]; exact (hst.good h6 h12 hp (hb01.2 hc_1))) dL_set_33
abbrev rmL_spread : Room := { frames := 8, cells := 2, slots := 12, locals := 127 }
set_option maxHeartbeats 400000 in
set_option maxRecDepth 100000 in
theorem c_L_spread (l : Launch) (hst0 : l.stackTraces = false) (D : va_G) (cy : Nat → ClassId) (L : List Nat) (ad : Nat → Nat) (G : mG) (I : mI) (J : mJ) (cn cw : Nat) (σ : Ab) (hS : cSh L G cn cw (aNt σ)) (hA : aOk cn cw σ) (hD : cDt cn cw σ I J) (h80 : 80 ∈ L) (x xv : Int32) : pMet l yL_spread wsL_spread rmL_spread D cy L ad G I J [.ref (ad 0), .int x, .int xv] (qI (fun v I' J' => v = nI (spSpread cw σ x xv).1 ∧ cDt cn cw (spSpread cw σ x xv).2.2 I' J' ∧ ∀ r, 62 ≤ r → I' r = I r ∧ J' r = J r) D cy L ad G) := by
  refine pMet.ofH (cc := cL_spread) (maxL := 4) (hh := [(0, 6, 9, 13), (0, 6, 12, 35)]) (by decide +kernel) rfl (Nat.le_of_ble_eq_true rfl) ?_
  intro p e R s m args below meth c A Q C hml hR htab hg ret hW ls hl
  subst hR
  have C : Cx p s m args c cL_spread RL wsL_spread D cy A := C
  have hx := C.1
  have hb := C.2.1
  have hl : lv_has ls 4 [(0, .ref (ad 0)), (1, .int x), (2, .int xv)] := hl
  have h6 := hA.1
  have h12 := hA.2.1
  have hcl := C.2.2.2.1 (.classLink RL 13 "java/util/NoSuchElementException") (by decide +kernel)
  have hcl2 := C.2.2.2.1 (.classLink RL 35 "java/lang/IllegalArgumentException") (by decide +kernel)
  refine lv_aload_n hx hb dL_spread_0 rfl (lv_at hl 0 rfl) ?_
  refine lv_iload_n hx hb dL_spread_1 rfl (lv_at hl 1 rfl) ?_
  refine lv_iload_n hx hb dL_spread_2 rfl (lv_at hl 2 rfl) ?_
  refine p_xVv C hml hg hW (c_X4_spread l hst0 D cy L ad G I J cn cw σ hS hA hD x xv) (cwV 2 C.2.2.2.1 gL_spread_X4_spread rfl rfl rfl (by decide +kernel) ⟨Nat.le_of_ble_eq_true rfl, Nat.le_of_ble_eq_true rfl⟩) (p_recv C hW (hS.1 0 (by omega)) (pF_4 (by decide)) rfl) rfl hl.1 rfl (Nat.le_of_ble_eq_true rfl) dL_spread_3 (Nat.le_of_ble_eq_true rfl) (Nat.le_of_ble_eq_true rfl) (fun E ce q9 H locs hW hp g1 g2 g3 => ?_) (fun I1 J1 H locs hp hW => ?_)
  · skip
    rcases hp with ⟨hE, hc1⟩ | ⟨hE, hc1⟩
    · skip
      subst hE
      refine p_catN C hg htab rfl hcl (by decide) g1 g2 g3 ?_
      refine lv_astore_n (lv' := [(3, .ref q9), (0, .ref (ad 0)), (1, .int x), (2, .int xv)]) hx hb dL_spread_9 rfl hl (by decide) rfl (fun ls hl => ?_)
      refine lv_iconst (v := nI 1) hx hb dL_spread_10 (by decide) ?_
      exact ret _ _ _ _ _ _ _ _ _ (Nat.le_of_ble_eq_true rfl) (Nat.le_of_ble_eq_true rfl) hW ⟨by rw [hc1], by rw [z_spread x xv (by rw [hc1]; decide)]; exact hD, fun _ _ => ⟨rfl, rfl⟩⟩ dL_spread_11
    · skip
      subst hE
      refine p_catI C hg htab rfl hcl hcl2 (by decide) g1 g2 g3 ?_
      refine lv_astore_n (lv' := [(3, .ref q9), (0, .ref (ad 0)), (1, .int x), (2, .int xv)]) hx hb dL_spread_12 rfl hl (by decide) rfl (fun ls hl => ?_)
      refine lv_iconst (v := nI 2) hx hb dL_spread_13 (by decide) ?_
      exact ret _ _ _ _ _ _ _ _ _ (Nat.le_of_ble_eq_true rfl) (Nat.le_of_ble_eq_true rfl) hW ⟨by rw [hc1], by rw [z_spread x xv (by rw [hc1]; decide)]; exact hD, fun _ _ => ⟨rfl, rfl⟩⟩ dL_spread_14
  · skip
    refine lv_goto (tgt := 15) hx hb dL_spread_6 (by decide) ?_
    refine lv_iconst (v := nI 0) hx hb dL_spread_15 (by decide) ?_
    exact ret _ _ _ _ _ _ _ _ _ (Nat.le_of_ble_eq_true rfl) (Nat.le_of_ble_eq_true rfl) hW ⟨by rw [hp.1], hp.2.2.1, hp.2.2.2⟩ dL_spread_16
abbrev rmL_step : Room := { frames := 8, cells := 2, slots := 12, locals := 129 }
set_option maxHeartbeats 400000 in
set_option maxRecDepth 100000 in
theorem c_L_step (l : Launch) (hst0 : l.stackTraces = false) (D : va_G) (cy : Nat → ClassId) (L : List Nat) (ad : Nat → Nat) (G : mG) (I : mI) (J : mJ) (cn cw : Nat) (σ : Ab) (hS : cSh L G cn cw (aNt σ)) (hA : aOk cn cw σ) (hD : cDt cn cw σ I J) (h80 : 80 ∈ L) (x xn : Int32) : pMet l yL_step wsL_step rmL_step D cy L ad G I J [.ref (ad 0), .int x, .int xn, .ref (ad 80)] (qI (fun v I' J' => hst (spStep cw σ x xn) v cn cw I I' J J') D cy L ad G) := by
  refine pMet.ofH (cc := cL_step) (maxL := 5) (hh := [(0, 10, 13, 13), (0, 10, 17, 35)]) (by decide +kernel) rfl (Nat.le_of_ble_eq_true rfl) ?_
  intro p e R s m args below meth c A Q C hml hR htab hg ret hW ls hl
  subst hR
  have C : Cx p s m args c cL_step RL wsL_step D cy A := C
  have hx := C.1
  have hb := C.2.1
  have hl : lv_has ls 5 [(0, .ref (ad 0)), (1, .int x), (2, .int xn), (3, .ref (ad 80))] := hl
  have h6 := hA.1
  have h12 := hA.2.1
  have hcl := C.2.2.2.1 (.classLink RL 13 "java/util/NoSuchElementException") (by decide +kernel)
  have hcl2 := C.2.2.2.1 (.classLink RL 35 "java/lang/IllegalArgumentException") (by decide +kernel)
  refine lv_aload_n hx hb dL_step_0 rfl (lv_at hl 3 rfl) ?_
  refine lv_iconst (v := nI 0) hx hb dL_step_1 (by decide) ?_
  refine lv_aload_n hx hb dL_step_2 rfl (lv_at hl 0 rfl) ?_
  refine lv_iload_n hx hb dL_step_3 rfl (lv_at hl 1 rfl) ?_
  refine lv_iload_n hx hb dL_step_4 rfl (lv_at hl 2 rfl) ?_
  refine p_xVi C hml hg hW (c_X4_step l hst0 D cy L ad G I J cn cw σ hS hA hD x xn) (cwV 2 C.2.2.2.1 gL_step_X4_step rfl rfl rfl (by decide +kernel) ⟨Nat.le_of_ble_eq_true rfl, Nat.le_of_ble_eq_true rfl⟩) (p_recv C hW (hS.1 0 (by omega)) (pF_4 (by decide)) rfl) rfl hl.1 rfl (Nat.le_of_ble_eq_true rfl) dL_step_5 (Nat.le_of_ble_eq_true rfl) (Nat.le_of_ble_eq_true rfl) (fun E ce q9 H locs hW hp g1 g2 g3 => ?_) (fun v1 I1 J1 H locs hp hW => ?_)
  · skip
    rcases hp with ⟨hE, hc1⟩ | ⟨hE, hc1⟩
    · skip
      subst hE
      refine p_catN C hg htab rfl hcl (by decide) g1 g2 g3 ?_
      refine lv_astore (lv' := [(4, .ref q9), (0, .ref (ad 0)), (1, .int x), (2, .int xn), (3, .ref (ad 80))]) hx hb dL_step_13 hl (by decide) rfl (fun ls hl => ?_)
      refine lv_iconst (v := nI 1) hx hb dL_step_15 (by decide) ?_
      exact ret _ _ _ _ _ _ _ _ _ (Nat.le_of_ble_eq_true rfl) (Nat.le_of_ble_eq_true rfl) hW (hst.bad hc1 (by decide) (z_step x xn) hD) dL_step_16
    · skip
      subst hE
      refine p_catI C hg htab rfl hcl hcl2 (by decide) g1 g2 g3 ?_
      refine lv_astore (lv' := [(4, .ref q9), (0, .ref (ad 0)), (1, .int x), (2, .int xn), (3, .ref (ad 80))]) hx hb dL_step_17 hl (by decide) rfl (fun ls hl => ?_)
      refine lv_iconst (v := nI 2) hx hb dL_step_19 (by decide) ?_
      exact ret _ _ _ _ _ _ _ _ _ (Nat.le_of_ble_eq_true rfl) (Nat.le_of_ble_eq_true rfl) hW (hst.bad hc1 (by decide) (z_step x xn) hD) dL_step_20
  · skip
    refine lv_i2l (v := v1.toInt64) hx hb dL_step_8 rfl ?_
    refine p_last C hW h80 (by decide) (k := 0) rfl (by rw [show ln 80 = 1 by decide]; omega) dL_step_9 (fun H locs hW => ?_)
    obtain ⟨J1, eJ1⟩ : ∃ z, z = va_up J1 80 (vp_updL (J1 80) 0 v1.toInt64) := ⟨_, rfl⟩
    rw [← eJ1] at hW
    refine lv_goto (tgt := 21) hx hb dL_step_10 (by decide) ?_
    refine lv_iconst (v := nI 0) hx hb dL_step_21 (by decide) ?_
    exact ret _ _ _ _ _ _ _ _ _ (Nat.le_of_ble_eq_true rfl) (Nat.le_of_ble_eq_true rfl) hW (by rw [eJ1]; exact (hst.good h6 h12 hp hp.2.1)) dL_step_22
abbrev rmL_back : Room := { frames := 8, cells := 2, slots := 12, locals := 129 }
set_option maxHeartbeats 400000 in
set_option maxRecDepth 100000 in
theorem c_L_back (l : Launch) (hst0 : l.stackTraces = false) (D : va_G) (cy : Nat → ClassId) (L : List Nat) (ad : Nat → Nat) (G : mG) (I : mI) (J : mJ) (cn cw : Nat) (σ : Ab) (hS : cSh L G cn cw (aNt σ)) (hA : aOk cn cw σ) (hD : cDt cn cw σ I J) (h80 : 80 ∈ L) (x xn : Int32) : pMet l yL_back wsL_back rmL_back D cy L ad G I J [.ref (ad 0), .int x, .int xn, .ref (ad 80)] (qI (fun v I' J' => hst (spBack cw σ x xn) v cn cw I I' J J') D cy L ad G) := by
  refine pMet.ofH (cc := cL_back) (maxL := 5) (hh := [(0, 10, 13, 13), (0, 10, 17, 35)]) (by decide +kernel) rfl (Nat.le_of_ble_eq_true rfl) ?_
  intro p e R s m args below meth c A Q C hml hR htab hg ret hW ls hl
  subst hR
  have C : Cx p s m args c cL_back RL wsL_back D cy A := C
  have hx := C.1
  have hb := C.2.1
  have hl : lv_has ls 5 [(0, .ref (ad 0)), (1, .int x), (2, .int xn), (3, .ref (ad 80))] := hl
  have h6 := hA.1
  have h12 := hA.2.1
  have hcl := C.2.2.2.1 (.classLink RL 13 "java/util/NoSuchElementException") (by decide +kernel)
  have hcl2 := C.2.2.2.1 (.classLink RL 35 "java/lang/IllegalArgumentException") (by decide +kernel)
  refine lv_aload_n hx hb dL_back_0 rfl (lv_at hl 3 rfl) ?_
  refine lv_iconst (v := nI 0) hx hb dL_back_1 (by decide) ?_
  refine lv_aload_n hx hb dL_back_2 rfl (lv_at hl 0 rfl) ?_
  refine lv_iload_n hx hb dL_back_3 rfl (lv_at hl 1 rfl) ?_
  refine lv_iload_n hx hb dL_back_4 rfl (lv_at hl 2 rfl) ?_
  refine p_xVi C hml hg hW (c_X4_back l hst0 D cy L ad G I J cn cw σ hS hA hD x xn) (cwV 2 C.2.2.2.1 gL_back_X4_back rfl rfl rfl (by decide +kernel) ⟨Nat.le_of_ble_eq_true rfl, Nat.le_of_ble_eq_true rfl⟩) (p_recv C hW (hS.1 0 (by omega)) (pF_4 (by decide)) rfl) rfl hl.1 rfl (Nat.le_of_ble_eq_true rfl) dL_back_5 (Nat.le_of_ble_eq_true rfl) (Nat.le_of_ble_eq_true rfl) (fun E ce q9 H locs hW hp g1 g2 g3 => ?_) (fun v1 I1 J1 H locs hp hW => ?_)
  · skip
    rcases hp with ⟨hE, hc1⟩ | ⟨hE, hc1⟩
    · skip
      subst hE
      refine p_catN C hg htab rfl hcl (by decide) g1 g2 g3 ?_
      refine lv_astore (lv' := [(4, .ref q9), (0, .ref (ad 0)), (1, .int x), (2, .int xn), (3, .ref (ad 80))]) hx hb dL_back_13 hl (by decide) rfl (fun ls hl => ?_)
      refine lv_iconst (v := nI 1) hx hb dL_back_15 (by decide) ?_
      exact ret _ _ _ _ _ _ _ _ _ (Nat.le_of_ble_eq_true rfl) (Nat.le_of_ble_eq_true rfl) hW (hst.bad hc1 (by decide) (z_back x xn) hD) dL_back_16
    · skip
      subst hE
      refine p_catI C hg htab rfl hcl hcl2 (by decide) g1 g2 g3 ?_
      refine lv_astore (lv' := [(4, .ref q9), (0, .ref (ad 0)), (1, .int x), (2, .int xn), (3, .ref (ad 80))]) hx hb dL_back_17 hl (by decide) rfl (fun ls hl => ?_)
      refine lv_iconst (v := nI 2) hx hb dL_back_19 (by decide) ?_
      exact ret _ _ _ _ _ _ _ _ _ (Nat.le_of_ble_eq_true rfl) (Nat.le_of_ble_eq_true rfl) hW (hst.bad hc1 (by decide) (z_back x xn) hD) dL_back_20
  · skip
    refine lv_i2l (v := v1.toInt64) hx hb dL_back_8 rfl ?_
    refine p_last C hW h80 (by decide) (k := 0) rfl (by rw [show ln 80 = 1 by decide]; omega) dL_back_9 (fun H locs hW => ?_)
    obtain ⟨J1, eJ1⟩ : ∃ z, z = va_up J1 80 (vp_updL (J1 80) 0 v1.toInt64) := ⟨_, rfl⟩
    rw [← eJ1] at hW
    refine lv_goto (tgt := 21) hx hb dL_back_10 (by decide) ?_
    refine lv_iconst (v := nI 0) hx hb dL_back_21 (by decide) ?_
    exact ret _ _ _ _ _ _ _ _ _ (Nat.le_of_ble_eq_true rfl) (Nat.le_of_ble_eq_true rfl) hW (by rw [eJ1]; exact (hst.good h6 h12 hp hp.2.1)) dL_back_22
abbrev rmL_at : Room := { frames := 9, cells := 3, slots := 18, locals := 149 }
set_option maxHeartbeats 400000 in
set_option maxRecDepth 100000 in
theorem c_L_at (l : Launch) (hst0 : l.stackTraces = false) (D : va_G) (cy : Nat → ClassId) (L : List Nat) (ad : Nat → Nat) (G : mG) (I : mI) (J : mJ) (cn cw : Nat) (σ : Ab) (hS : cSh L G cn cw (aNt σ)) (hA : aOk cn cw σ) (hD : cDt cn cw σ I J) (h80 : 80 ∈ L) (x xp xd : Int32) : pMet l yL_at wsL_at rmL_at D cy L ad G I J [.ref (ad 0), .int x, .int xp, .int xd, .ref (ad 80)] (qI (fun v I' J' => hst (spAt cw σ x xp xd) v cn cw I I' J J') D cy L ad G) := by
  refine pMet.ofH (cc := cL_at) (maxL := 6) (hh := [(0, 11, 14, 13)]) (by decide +kernel) rfl (Nat.le_of_ble_eq_true rfl) ?_
  intro p e R s m args below meth c A Q C hml hR htab hg ret hW ls hl
  subst hR
  have C : Cx p s m args c cL_at RL wsL_at D cy A := C
  have hx := C.1
  have hb := C.2.1
  have hl : lv_has ls 6 [(0, .ref (ad 0)), (1, .int x), (2, .int xp), (3, .int xd), (4, .ref (ad 80))] := hl
  have h6 := hA.1
  have h12 := hA.2.1
  have hcl := C.2.2.2.1 (.classLink RL 13 "java/util/NoSuchElementException") (by decide +kernel)
  refine lv_aload hx hb dL_at_0 (lv_at hl 4 rfl) ?_
  refine lv_iconst (v := nI 0) hx hb dL_at_2 (by decide) ?_
  refine lv_aload_n hx hb dL_at_3 rfl (lv_at hl 0 rfl) ?_
  refine lv_iload_n hx hb dL_at_4 rfl (lv_at hl 1 rfl) ?_
  refine lv_iload_n hx hb dL_at_5 rfl (lv_at hl 2 rfl) ?_
  refine lv_iload_n hx hb dL_at_6 rfl (lv_at hl 3 rfl) ?_
  refine p_xVl C hml hg hW (c_X4_at l hst0 D cy L ad G I J cn cw σ hS hA hD x xp xd) (cwV 3 C.2.2.2.1 gL_at_X4_at rfl rfl rfl (by decide +kernel) ⟨Nat.le_of_ble_eq_true rfl, Nat.le_of_ble_eq_true rfl⟩) (p_recv C hW (hS.1 0 (by omega)) (pF_4 (by decide)) rfl) rfl hl.1 rfl (Nat.le_of_ble_eq_true rfl) dL_at_7 (Nat.le_of_ble_eq_true rfl) (Nat.le_of_ble_eq_true rfl) (fun E ce q9 H locs hW hp g1 g2 g3 => ?_) (fun v1 I1 J1 H locs hp hW => ?_)
  · skip
    rcases hp with ⟨hE, hc1⟩ | ⟨hE, hc1⟩
    · skip
      subst hE
      refine p_catN C hg htab rfl hcl (by decide) g1 g2 g3 ?_
      refine lv_astore (lv' := [(5, .ref q9), (0, .ref (ad 0)), (1, .int x), (2, .int xp), (3, .int xd), (4, .ref (ad 80))]) hx hb dL_at_14 hl (by decide) rfl (fun ls hl => ?_)
      refine lv_iconst (v := nI 1) hx hb dL_at_16 (by decide) ?_
      exact ret _ _ _ _ _ _ _ _ _ (Nat.le_of_ble_eq_true rfl) (Nat.le_of_ble_eq_true rfl) hW (hst.bad hc1 (by decide) (z_at x xp xd) hD) dL_at_17
    · skip
      exact absurd hc1 (n_at x xp xd)
  · skip
    refine p_last C hW h80 (by decide) (k := 0) rfl (by rw [show ln 80 = 1 by decide]; omega) dL_at_10 (fun H locs hW => ?_)
    obtain ⟨J1, eJ1⟩ : ∃ z, z = va_up J1 80 (vp_updL (J1 80) 0 v1) := ⟨_, rfl⟩
    rw [← eJ1] at hW
    refine lv_goto (tgt := 18) hx hb dL_at_11 (by decide) ?_
    refine lv_iconst (v := nI 0) hx hb dL_at_18 (by decide) ?_
    exact ret _ _ _ _ _ _ _ _ _ (Nat.le_of_ble_eq_true rfl) (Nat.le_of_ble_eq_true rfl) hW (by rw [eJ1]; exact (hst.good h6 h12 hp hp.2.1)) dL_at_19
abbrev rmL_share : Room := { frames := 8, cells := 2, slots := 12, locals := 127 }
set_option maxHeartbeats 400000 in
set_option maxRecDepth 100000 in
theorem c_L_share (l : Launch) (hst0 : l.stackTraces = false) (D : va_G) (cy : Nat → ClassId) (L : List Nat) (ad : Nat → Nat) (G : mG) (I : mI) (J : mJ) (cn cw : Nat) (σ : Ab) (hS : cSh L G cn cw (aNt σ)) (hA : aOk cn cw σ) (hD : cDt cn cw σ I J) (h80 : 80 ∈ L) (x xp : Int32) : pMet l yL_share wsL_share rmL_share D cy L ad G I J [.ref (ad 0), .int x, .int xp, .ref (ad 80)] (qI (fun v I' J' => hst (spShare cw σ x xp) v cn cw I I' J J') D cy L ad G) := by
  refine pMet.ofH (cc := cL_share) (maxL := 5) (hh := [(0, 9, 12, 13)]) (by decide +kernel) rfl (Nat.le_of_ble_eq_true rfl) ?_
  intro p e R s m args below meth c A Q C hml hR htab hg ret hW ls hl
  subst hR
  have C : Cx p s m args c cL_share RL wsL_share D cy A := C
  have hx := C.1
  have hb := C.2.1
  have hl : lv_has ls 5 [(0, .ref (ad 0)), (1, .int x), (2, .int xp), (3, .ref (ad 80))] := hl
  have h6 := hA.1
  have h12 := hA.2.1
  have hcl := C.2.2.2.1 (.classLink RL 13 "java/util/NoSuchElementException") (by decide +kernel)
  refine lv_aload_n hx hb dL_share_0 rfl (lv_at hl 3 rfl) ?_
  refine lv_iconst (v := nI 0) hx hb dL_share_1 (by decide) ?_
  refine lv_aload_n hx hb dL_share_2 rfl (lv_at hl 0 rfl) ?_
  refine lv_iload_n hx hb dL_share_3 rfl (lv_at hl 1 rfl) ?_
  refine lv_iload_n hx hb dL_share_4 rfl (lv_at hl 2 rfl) ?_
  refine p_xVl C hml hg hW (c_X4_share l hst0 D cy L ad G I J cn cw σ hS hA hD x xp) (cwV 2 C.2.2.2.1 gL_share_X4_share rfl rfl rfl (by decide +kernel) ⟨Nat.le_of_ble_eq_true rfl, Nat.le_of_ble_eq_true rfl⟩) (p_recv C hW (hS.1 0 (by omega)) (pF_4 (by decide)) rfl) rfl hl.1 rfl (Nat.le_of_ble_eq_true rfl) dL_share_5 (Nat.le_of_ble_eq_true rfl) (Nat.le_of_ble_eq_true rfl) (fun E ce q9 H locs hW hp g1 g2 g3 => ?_) (fun v1 I1 J1 H locs hp hW => ?_)
  · skip
    rcases hp with ⟨hE, hc1⟩ | ⟨hE, hc1⟩
    · skip
      subst hE
      refine p_catN C hg htab rfl hcl (by decide) g1 g2 g3 ?_
      refine lv_astore (lv' := [(4, .ref q9), (0, .ref (ad 0)), (1, .int x), (2, .int xp), (3, .ref (ad 80))]) hx hb dL_share_12 hl (by decide) rfl (fun ls hl => ?_)
      refine lv_iconst (v := nI 1) hx hb dL_share_14 (by decide) ?_
      exact ret _ _ _ _ _ _ _ _ _ (Nat.le_of_ble_eq_true rfl) (Nat.le_of_ble_eq_true rfl) hW (hst.bad hc1 (by decide) (z_share x xp) hD) dL_share_15
    · skip
      exact absurd hc1 (n_share x xp)
  · skip
    refine p_last C hW h80 (by decide) (k := 0) rfl (by rw [show ln 80 = 1 by decide]; omega) dL_share_8 (fun H locs hW => ?_)
    obtain ⟨J1, eJ1⟩ : ∃ z, z = va_up J1 80 (vp_updL (J1 80) 0 v1) := ⟨_, rfl⟩
    rw [← eJ1] at hW
    refine lv_goto (tgt := 16) hx hb dL_share_9 (by decide) ?_
    refine lv_iconst (v := nI 0) hx hb dL_share_16 (by decide) ?_
    exact ret _ _ _ _ _ _ _ _ _ (Nat.le_of_ble_eq_true rfl) (Nat.le_of_ble_eq_true rfl) hW (by rw [eJ1]; exact (hst.good h6 h12 hp hp.2.1)) dL_share_17
abbrev rmL_of : Room := { frames := 8, cells := 2, slots := 12, locals := 127 }
set_option maxHeartbeats 400000 in
set_option maxRecDepth 100000 in
theorem c_L_of (l : Launch) (hst0 : l.stackTraces = false) (D : va_G) (cy : Nat → ClassId) (L : List Nat) (ad : Nat → Nat) (G : mG) (I : mI) (J : mJ) (cn cw : Nat) (σ : Ab) (hS : cSh L G cn cw (aNt σ)) (hA : aOk cn cw σ) (hD : cDt cn cw σ I J) (h80 : 80 ∈ L) (x xw : Int32) : pMet l yL_of wsL_of rmL_of D cy L ad G I J [.ref (ad 0), .int x, .int xw, .ref (ad 80)] (qI (fun v I' J' => hst (spOf cw σ x xw) v cn cw I I' J J') D cy L ad G) := by
  refine pMet.ofH (cc := cL_of) (maxL := 5) (hh := [(0, 10, 13, 13)]) (by decide +kernel) rfl (Nat.le_of_ble_eq_true rfl) ?_
  intro p e R s m args below meth c A Q C hml hR htab hg ret hW ls hl
  subst hR
  have C : Cx p s m args c cL_of RL wsL_of D cy A := C
  have hx := C.1
  have hb := C.2.1
  have hl : lv_has ls 5 [(0, .ref (ad 0)), (1, .int x), (2, .int xw), (3, .ref (ad 80))] := hl
  have h6 := hA.1
  have h12 := hA.2.1
  have hcl := C.2.2.2.1 (.classLink RL 13 "java/util/NoSuchElementException") (by decide +kernel)
  refine lv_aload_n hx hb dL_of_0 rfl (lv_at hl 3 rfl) ?_
  refine lv_iconst (v := nI 0) hx hb dL_of_1 (by decide) ?_
  refine lv_aload_n hx hb dL_of_2 rfl (lv_at hl 0 rfl) ?_
  refine lv_iload_n hx hb dL_of_3 rfl (lv_at hl 1 rfl) ?_
  refine lv_iload_n hx hb dL_of_4 rfl (lv_at hl 2 rfl) ?_
  refine p_xVi C hml hg hW (c_X4_of l hst0 D cy L ad G I J cn cw σ hS hA hD x xw) (cwV 2 C.2.2.2.1 gL_of_X4_of rfl rfl rfl (by decide +kernel) ⟨Nat.le_of_ble_eq_true rfl, Nat.le_of_ble_eq_true rfl⟩) (p_recv C hW (hS.1 0 (by omega)) (pF_4 (by decide)) rfl) rfl hl.1 rfl (Nat.le_of_ble_eq_true rfl) dL_of_5 (Nat.le_of_ble_eq_true rfl) (Nat.le_of_ble_eq_true rfl) (fun E ce q9 H locs hW hp g1 g2 g3 => ?_) (fun v1 I1 J1 H locs hp hW => ?_)
  · skip
    rcases hp with ⟨hE, hc1⟩ | ⟨hE, hc1⟩
    · skip
      subst hE
      refine p_catN C hg htab rfl hcl (by decide) g1 g2 g3 ?_
      refine lv_astore (lv' := [(4, .ref q9), (0, .ref (ad 0)), (1, .int x), (2, .int xw), (3, .ref (ad 80))]) hx hb dL_of_13 hl (by decide) rfl (fun ls hl => ?_)
      refine lv_iconst (v := nI 1) hx hb dL_of_15 (by decide) ?_
      exact ret _ _ _ _ _ _ _ _ _ (Nat.le_of_ble_eq_true rfl) (Nat.le_of_ble_eq_true rfl) hW (hst.bad hc1 (by decide) (z_of x xw) hD) dL_of_16
    · skip
      exact absurd hc1 (n_of x xw)
  · skip
    refine lv_i2l (v := v1.toInt64) hx hb dL_of_8 rfl ?_
    refine p_last C hW h80 (by decide) (k := 0) rfl (by rw [show ln 80 = 1 by decide]; omega) dL_of_9 (fun H locs hW => ?_)
    obtain ⟨J1, eJ1⟩ : ∃ z, z = va_up J1 80 (vp_updL (J1 80) 0 v1.toInt64) := ⟨_, rfl⟩
    rw [← eJ1] at hW
    refine lv_goto (tgt := 17) hx hb dL_of_10 (by decide) ?_
    refine lv_iconst (v := nI 0) hx hb dL_of_17 (by decide) ?_
    exact ret _ _ _ _ _ _ _ _ _ (Nat.le_of_ble_eq_true rfl) (Nat.le_of_ble_eq_true rfl) hW (by rw [eJ1]; exact (hst.good h6 h12 hp hp.2.1)) dL_of_18
abbrev rmL_arrives : Room := { frames := 8, cells := 3, slots := 18, locals := 130 }
set_option maxHeartbeats 400000 in
set_option maxRecDepth 100000 in
theorem c_L_arrives (l : Launch) (hst0 : l.stackTraces = false) (D : va_G) (cy : Nat → ClassId) (L : List Nat) (ad : Nat → Nat) (G : mG) (I : mI) (J : mJ) (cn cw : Nat) (σ : Ab) (hS : cSh L G cn cw (aNt σ)) (hA : aOk cn cw σ) (hD : cDt cn cw σ I J) (h80 : 80 ∈ L) (x xp xn : Int32) : pMet l yL_arrives wsL_arrives rmL_arrives D cy L ad G I J [.ref (ad 0), .int x, .int xp, .int xn, .ref (ad 80)] (qI (fun v I' J' => hst (spArr cw σ x xp xn) v cn cw I I' J J') D cy L ad G) := by
  refine pMet.ofH (cc := cL_arrives) (maxL := 6) (hh := [(0, 12, 15, 13), (0, 12, 19, 35)]) (by decide +kernel) rfl (Nat.le_of_ble_eq_true rfl) ?_
  intro p e R s m args below meth c A Q C hml hR htab hg ret hW ls hl
  subst hR
  have C : Cx p s m args c cL_arrives RL wsL_arrives D cy A := C
  have hx := C.1
  have hb := C.2.1
  have hl : lv_has ls 6 [(0, .ref (ad 0)), (1, .int x), (2, .int xp), (3, .int xn), (4, .ref (ad 80))] := hl
  have h6 := hA.1
  have h12 := hA.2.1
  have hcl := C.2.2.2.1 (.classLink RL 13 "java/util/NoSuchElementException") (by decide +kernel)
  have hcl2 := C.2.2.2.1 (.classLink RL 35 "java/lang/IllegalArgumentException") (by decide +kernel)
  refine lv_aload hx hb dL_arrives_0 (lv_at hl 4 rfl) ?_
  refine lv_iconst (v := nI 0) hx hb dL_arrives_2 (by decide) ?_
  refine lv_aload_n hx hb dL_arrives_3 rfl (lv_at hl 0 rfl) ?_
  refine lv_iload_n hx hb dL_arrives_4 rfl (lv_at hl 1 rfl) ?_
  refine lv_iload_n hx hb dL_arrives_5 rfl (lv_at hl 2 rfl) ?_
  refine lv_iload_n hx hb dL_arrives_6 rfl (lv_at hl 3 rfl) ?_
  refine p_xVi C hml hg hW (c_X4_arrives l hst0 D cy L ad G I J cn cw σ hS hA hD x xp xn) (cwV 3 C.2.2.2.1 gL_arrives_X4_arrives rfl rfl rfl (by decide +kernel) ⟨Nat.le_of_ble_eq_true rfl, Nat.le_of_ble_eq_true rfl⟩) (p_recv C hW (hS.1 0 (by omega)) (pF_4 (by decide)) rfl) rfl hl.1 rfl (Nat.le_of_ble_eq_true rfl) dL_arrives_7 (Nat.le_of_ble_eq_true rfl) (Nat.le_of_ble_eq_true rfl) (fun E ce q9 H locs hW hp g1 g2 g3 => ?_) (fun v1 I1 J1 H locs hp hW => ?_)
  · skip
    rcases hp with ⟨hE, hc1⟩ | ⟨hE, hc1⟩
    · skip
      subst hE
      refine p_catN C hg htab rfl hcl (by decide) g1 g2 g3 ?_
      refine lv_astore (lv' := [(5, .ref q9), (0, .ref (ad 0)), (1, .int x), (2, .int xp), (3, .int xn), (4, .ref (ad 80))]) hx hb dL_arrives_15 hl (by decide) rfl (fun ls hl => ?_)
      refine lv_iconst (v := nI 1) hx hb dL_arrives_17 (by decide) ?_
      exact ret _ _ _ _ _ _ _ _ _ (Nat.le_of_ble_eq_true rfl) (Nat.le_of_ble_eq_true rfl) hW (hst.bad hc1 (by decide) (z_arrives x xp xn) hD) dL_arrives_18
    · skip
      subst hE
      refine p_catI C hg htab rfl hcl hcl2 (by decide) g1 g2 g3 ?_
      refine lv_astore (lv' := [(5, .ref q9), (0, .ref (ad 0)), (1, .int x), (2, .int xp), (3, .int xn), (4, .ref (ad 80))]) hx hb dL_arrives_19 hl (by decide) rfl (fun ls hl => ?_)
      refine lv_iconst (v := nI 2) hx hb dL_arrives_21 (by decide) ?_
      exact ret _ _ _ _ _ _ _ _ _ (Nat.le_of_ble_eq_true rfl) (Nat.le_of_ble_eq_true rfl) hW (hst.bad hc1 (by decide) (z_arrives x xp xn) hD) dL_arrives_22
  · skip
    refine lv_i2l (v := v1.toInt64) hx hb dL_arrives_10 rfl ?_
    refine p_last C hW h80 (by decide) (k := 0) rfl (by rw [show ln 80 = 1 by decide]; omega) dL_arrives_11 (fun H locs hW => ?_)
    obtain ⟨J1, eJ1⟩ : ∃ z, z = va_up J1 80 (vp_updL (J1 80) 0 v1.toInt64) := ⟨_, rfl⟩
    rw [← eJ1] at hW
    refine lv_goto (tgt := 23) hx hb dL_arrives_12 (by decide) ?_
    refine lv_iconst (v := nI 0) hx hb dL_arrives_23 (by decide) ?_
    exact ret _ _ _ _ _ _ _ _ _ (Nat.le_of_ble_eq_true rfl) (Nat.le_of_ble_eq_true rfl) hW (by rw [eJ1]; exact (hst.good h6 h12 hp hp.2.1)) dL_arrives_24
abbrev rmL_returns : Room := { frames := 8, cells := 2, slots := 12, locals := 129 }
set_option maxHeartbeats 400000 in
set_option maxRecDepth 100000 in
theorem c_L_returns (l : Launch) (hst0 : l.stackTraces = false) (D : va_G) (cy : Nat → ClassId) (L : List Nat) (ad : Nat → Nat) (G : mG) (I : mI) (J : mJ) (cn cw : Nat) (σ : Ab) (hS : cSh L G cn cw (aNt σ)) (hA : aOk cn cw σ) (hD : cDt cn cw σ I J) (h80 : 80 ∈ L) (x xn : Int32) : pMet l yL_returns wsL_returns rmL_returns D cy L ad G I J [.ref (ad 0), .int x, .int xn, .ref (ad 80)] (qI (fun v I' J' => hst (spRet cw σ x xn) v cn cw I I' J J') D cy L ad G) := by
  refine pMet.ofH (cc := cL_returns) (maxL := 5) (hh := [(0, 10, 13, 13), (0, 10, 17, 35)]) (by decide +kernel) rfl (Nat.le_of_ble_eq_true rfl) ?_
  intro p e R s m args below meth c A Q C hml hR htab hg ret hW ls hl
  subst hR
  have C : Cx p s m args c cL_returns RL wsL_returns D cy A := C
  have hx := C.1
  have hb := C.2.1
  have hl : lv_has ls 5 [(0, .ref (ad 0)), (1, .int x), (2, .int xn), (3, .ref (ad 80))] := hl
  have h6 := hA.1
  have h12 := hA.2.1
  have hcl := C.2.2.2.1 (.classLink RL 13 "java/util/NoSuchElementException") (by decide +kernel)
  have hcl2 := C.2.2.2.1 (.classLink RL 35 "java/lang/IllegalArgumentException") (by decide +kernel)
  refine lv_aload_n hx hb dL_returns_0 rfl (lv_at hl 3 rfl) ?_
  refine lv_iconst (v := nI 0) hx hb dL_returns_1 (by decide) ?_
  refine lv_aload_n hx hb dL_returns_2 rfl (lv_at hl 0 rfl) ?_
  refine lv_iload_n hx hb dL_returns_3 rfl (lv_at hl 1 rfl) ?_
  refine lv_iload_n hx hb dL_returns_4 rfl (lv_at hl 2 rfl) ?_
  refine p_xVi C hml hg hW (c_X4_returns l hst0 D cy L ad G I J cn cw σ hS hA hD x xn) (cwV 2 C.2.2.2.1 gL_returns_X4_returns rfl rfl rfl (by decide +kernel) ⟨Nat.le_of_ble_eq_true rfl, Nat.le_of_ble_eq_true rfl⟩) (p_recv C hW (hS.1 0 (by omega)) (pF_4 (by decide)) rfl) rfl hl.1 rfl (Nat.le_of_ble_eq_true rfl) dL_returns_5 (Nat.le_of_ble_eq_true rfl) (Nat.le_of_ble_eq_true rfl) (fun E ce q9 H locs hW hp g1 g2 g3 => ?_) (fun v1 I1 J1 H locs hp hW => ?_)
  · skip
    rcases hp with ⟨hE, hc1⟩ | ⟨hE, hc1⟩
    · skip
      subst hE
      refine p_catN C hg htab rfl hcl (by decide) g1 g2 g3 ?_
      refine lv_astore (lv' := [(4, .ref q9), (0, .ref (ad 0)), (1, .int x), (2, .int xn), (3, .ref (ad 80))]) hx hb dL_returns_13 hl (by decide) rfl (fun ls hl => ?_)
      refine lv_iconst (v := nI 1) hx hb dL_returns_15 (by decide) ?_
      exact ret _ _ _ _ _ _ _ _ _ (Nat.le_of_ble_eq_true rfl) (Nat.le_of_ble_eq_true rfl) hW (hst.bad hc1 (by decide) (z_returns x xn) hD) dL_returns_16
    · skip
      subst hE
      refine p_catI C hg htab rfl hcl hcl2 (by decide) g1 g2 g3 ?_
      refine lv_astore (lv' := [(4, .ref q9), (0, .ref (ad 0)), (1, .int x), (2, .int xn), (3, .ref (ad 80))]) hx hb dL_returns_17 hl (by decide) rfl (fun ls hl => ?_)
      refine lv_iconst (v := nI 2) hx hb dL_returns_19 (by decide) ?_
      exact ret _ _ _ _ _ _ _ _ _ (Nat.le_of_ble_eq_true rfl) (Nat.le_of_ble_eq_true rfl) hW (hst.bad hc1 (by decide) (z_returns x xn) hD) dL_returns_20
  · skip
    refine lv_i2l (v := v1.toInt64) hx hb dL_returns_8 rfl ?_
    refine p_last C hW h80 (by decide) (k := 0) rfl (by rw [show ln 80 = 1 by decide]; omega) dL_returns_9 (fun H locs hW => ?_)
    obtain ⟨J1, eJ1⟩ : ∃ z, z = va_up J1 80 (vp_updL (J1 80) 0 v1.toInt64) := ⟨_, rfl⟩
    rw [← eJ1] at hW
    refine lv_goto (tgt := 21) hx hb dL_returns_10 (by decide) ?_
    refine lv_iconst (v := nI 0) hx hb dL_returns_21 (by decide) ?_
    exact ret _ _ _ _ _ _ _ _ _ (Nat.le_of_ble_eq_true rfl) (Nat.le_of_ble_eq_true rfl) hW (by rw [eJ1]; exact (hst.good h6 h12 hp hp.2.1)) dL_returns_22
abbrev rmL_best : Room := { frames := 8, cells := 2, slots := 12, locals := 134 }
set_option maxHeartbeats 400000 in
set_option maxRecDepth 100000 in
theorem c_L_best (l : Launch) (hst0 : l.stackTraces = false) (D : va_G) (cy : Nat → ClassId) (L : List Nat) (ad : Nat → Nat) (G : mG) (I : mI) (J : mJ) (cn cw : Nat) (σ : Ab) (hS : cSh L G cn cw (aNt σ)) (hA : aOk cn cw σ) (hD : cDt cn cw σ I J) (h80 : 80 ∈ L) (x xn : Int32) : pMet l yL_best wsL_best rmL_best D cy L ad G I J [.ref (ad 0), .int x, .int xn, .ref (ad 80)] (qI (fun v I' J' => hst (spBest cw σ x xn) v cn cw I I' J J') D cy L ad G) := by
  refine pMet.ofH (cc := cL_best) (maxL := 5) (hh := [(0, 10, 13, 13), (0, 10, 17, 35)]) (by decide +kernel) rfl (Nat.le_of_ble_eq_true rfl) ?_
  intro p e R s m args below meth c A Q C hml hR htab hg ret hW ls hl
  subst hR
  have C : Cx p s m args c cL_best RL wsL_best D cy A := C
  have hx := C.1
  have hb := C.2.1
  have hl : lv_has ls 5 [(0, .ref (ad 0)), (1, .int x), (2, .int xn), (3, .ref (ad 80))] := hl
  have h6 := hA.1
  have h12 := hA.2.1
  have hcl := C.2.2.2.1 (.classLink RL 13 "java/util/NoSuchElementException") (by decide +kernel)
  have hcl2 := C.2.2.2.1 (.classLink RL 35 "java/lang/IllegalArgumentException") (by decide +kernel)
  refine lv_aload_n hx hb dL_best_0 rfl (lv_at hl 3 rfl) ?_
  refine lv_iconst (v := nI 0) hx hb dL_best_1 (by decide) ?_
  refine lv_aload_n hx hb dL_best_2 rfl (lv_at hl 0 rfl) ?_
  refine lv_iload_n hx hb dL_best_3 rfl (lv_at hl 1 rfl) ?_
  refine lv_iload_n hx hb dL_best_4 rfl (lv_at hl 2 rfl) ?_
  refine p_xVi C hml hg hW (c_X4_best l hst0 D cy L ad G I J cn cw σ hS hA hD x xn) (cwV 2 C.2.2.2.1 gL_best_X4_best rfl rfl rfl (by decide +kernel) ⟨Nat.le_of_ble_eq_true rfl, Nat.le_of_ble_eq_true rfl⟩) (p_recv C hW (hS.1 0 (by omega)) (pF_4 (by decide)) rfl) rfl hl.1 rfl (Nat.le_of_ble_eq_true rfl) dL_best_5 (Nat.le_of_ble_eq_true rfl) (Nat.le_of_ble_eq_true rfl) (fun E ce q9 H locs hW hp g1 g2 g3 => ?_) (fun v1 I1 J1 H locs hp hW => ?_)
  · skip
    rcases hp with ⟨hE, hc1⟩ | ⟨hE, hc1⟩
    · skip
      subst hE
      refine p_catN C hg htab rfl hcl (by decide) g1 g2 g3 ?_
      refine lv_astore (lv' := [(4, .ref q9), (0, .ref (ad 0)), (1, .int x), (2, .int xn), (3, .ref (ad 80))]) hx hb dL_best_13 hl (by decide) rfl (fun ls hl => ?_)
      refine lv_iconst (v := nI 1) hx hb dL_best_15 (by decide) ?_
      exact ret _ _ _ _ _ _ _ _ _ (Nat.le_of_ble_eq_true rfl) (Nat.le_of_ble_eq_true rfl) hW (hst.bad hc1 (by decide) (z_best x xn) hD) dL_best_16
    · skip
      subst hE
      refine p_catI C hg htab rfl hcl hcl2 (by decide) g1 g2 g3 ?_
      refine lv_astore (lv' := [(4, .ref q9), (0, .ref (ad 0)), (1, .int x), (2, .int xn), (3, .ref (ad 80))]) hx hb dL_best_17 hl (by decide) rfl (fun ls hl => ?_)
      refine lv_iconst (v := nI 2) hx hb dL_best_19 (by decide) ?_
      exact ret _ _ _ _ _ _ _ _ _ (Nat.le_of_ble_eq_true rfl) (Nat.le_of_ble_eq_true rfl) hW (hst.bad hc1 (by decide) (z_best x xn) hD) dL_best_20
  · skip
    refine lv_i2l (v := v1.toInt64) hx hb dL_best_8 rfl ?_
    refine p_last C hW h80 (by decide) (k := 0) rfl (by rw [show ln 80 = 1 by decide]; omega) dL_best_9 (fun H locs hW => ?_)
    obtain ⟨J1, eJ1⟩ : ∃ z, z = va_up J1 80 (vp_updL (J1 80) 0 v1.toInt64) := ⟨_, rfl⟩
    rw [← eJ1] at hW
    refine lv_goto (tgt := 21) hx hb dL_best_10 (by decide) ?_
    refine lv_iconst (v := nI 0) hx hb dL_best_21 (by decide) ?_
    exact ret _ _ _ _ _ _ _ _ _ (Nat.le_of_ble_eq_true rfl) (Nat.le_of_ble_eq_true rfl) hW (by rw [eJ1]; exact (hst.good h6 h12 hp hp.2.1)) dL_best_22
abbrev rmL_mean : Room := { frames := 8, cells := 3, slots := 18, locals := 133 }
set_option maxHeartbeats 400000 in
set_option maxRecDepth 100000 in
theorem c_L_mean (l : Launch) (hst0 : l.stackTraces = false) (D : va_G) (cy : Nat → ClassId) (L : List Nat) (ad : Nat → Nat) (G : mG) (I : mI) (J : mJ) (cn cw : Nat) (σ : Ab) (hS : cSh L G cn cw (aNt σ)) (hA : aOk cn cw σ) (hD : cDt cn cw σ I J) (h80 : 80 ∈ L) (x xp xn : Int32) : pMet l yL_mean wsL_mean rmL_mean D cy L ad G I J [.ref (ad 0), .int x, .int xp, .int xn, .ref (ad 80)] (qI (fun v I' J' => hst (spMean cw σ x xp xn) v cn cw I I' J J') D cy L ad G) := by
  refine pMet.ofH (cc := cL_mean) (maxL := 6) (hh := [(0, 11, 14, 13), (0, 11, 18, 35)]) (by decide +kernel) rfl (Nat.le_of_ble_eq_true rfl) ?_
  intro p e R s m args below meth c A Q C hml hR htab hg ret hW ls hl
  subst hR
  have C : Cx p s m args c cL_mean RL wsL_mean D cy A := C
  have hx := C.1
  have hb := C.2.1
  have hl : lv_has ls 6 [(0, .ref (ad 0)), (1, .int x), (2, .int xp), (3, .int xn), (4, .ref (ad 80))] := hl
  have h6 := hA.1
  have h12 := hA.2.1
  have hcl := C.2.2.2.1 (.classLink RL 13 "java/util/NoSuchElementException") (by decide +kernel)
  have hcl2 := C.2.2.2.1 (.classLink RL 35 "java/lang/IllegalArgumentException") (by decide +kernel)
  refine lv_aload hx hb dL_mean_0 (lv_at hl 4 rfl) ?_
  refine lv_iconst (v := nI 0) hx hb dL_mean_2 (by decide) ?_
  refine lv_aload_n hx hb dL_mean_3 rfl (lv_at hl 0 rfl) ?_
  refine lv_iload_n hx hb dL_mean_4 rfl (lv_at hl 1 rfl) ?_
  refine lv_iload_n hx hb dL_mean_5 rfl (lv_at hl 2 rfl) ?_
  refine lv_iload_n hx hb dL_mean_6 rfl (lv_at hl 3 rfl) ?_
  refine p_xVl C hml hg hW (c_X4_mean l hst0 D cy L ad G I J cn cw σ hS hA hD x xp xn) (cwV 3 C.2.2.2.1 gL_mean_X4_mean rfl rfl rfl (by decide +kernel) ⟨Nat.le_of_ble_eq_true rfl, Nat.le_of_ble_eq_true rfl⟩) (p_recv C hW (hS.1 0 (by omega)) (pF_4 (by decide)) rfl) rfl hl.1 rfl (Nat.le_of_ble_eq_true rfl) dL_mean_7 (Nat.le_of_ble_eq_true rfl) (Nat.le_of_ble_eq_true rfl) (fun E ce q9 H locs hW hp g1 g2 g3 => ?_) (fun v1 I1 J1 H locs hp hW => ?_)
  · skip
    rcases hp with ⟨hE, hc1⟩ | ⟨hE, hc1⟩
    · skip
      subst hE
      refine p_catN C hg htab rfl hcl (by decide) g1 g2 g3 ?_
      refine lv_astore (lv' := [(5, .ref q9), (0, .ref (ad 0)), (1, .int x), (2, .int xp), (3, .int xn), (4, .ref (ad 80))]) hx hb dL_mean_14 hl (by decide) rfl (fun ls hl => ?_)
      refine lv_iconst (v := nI 1) hx hb dL_mean_16 (by decide) ?_
      exact ret _ _ _ _ _ _ _ _ _ (Nat.le_of_ble_eq_true rfl) (Nat.le_of_ble_eq_true rfl) hW (hst.bad hc1 (by decide) (z_mean x xp xn) hD) dL_mean_17
    · skip
      subst hE
      refine p_catI C hg htab rfl hcl hcl2 (by decide) g1 g2 g3 ?_
      refine lv_astore (lv' := [(5, .ref q9), (0, .ref (ad 0)), (1, .int x), (2, .int xp), (3, .int xn), (4, .ref (ad 80))]) hx hb dL_mean_18 hl (by decide) rfl (fun ls hl => ?_)
      refine lv_iconst (v := nI 2) hx hb dL_mean_20 (by decide) ?_
      exact ret _ _ _ _ _ _ _ _ _ (Nat.le_of_ble_eq_true rfl) (Nat.le_of_ble_eq_true rfl) hW (hst.bad hc1 (by decide) (z_mean x xp xn) hD) dL_mean_21
  · skip
    refine p_last C hW h80 (by decide) (k := 0) rfl (by rw [show ln 80 = 1 by decide]; omega) dL_mean_10 (fun H locs hW => ?_)
    obtain ⟨J1, eJ1⟩ : ∃ z, z = va_up J1 80 (vp_updL (J1 80) 0 v1) := ⟨_, rfl⟩
    rw [← eJ1] at hW
    refine lv_goto (tgt := 22) hx hb dL_mean_11 (by decide) ?_
    refine lv_iconst (v := nI 0) hx hb dL_mean_22 (by decide) ?_
    exact ret _ _ _ _ _ _ _ _ _ (Nat.le_of_ble_eq_true rfl) (Nat.le_of_ble_eq_true rfl) hW (by rw [eJ1]; exact (hst.good h6 h12 hp hp.2.1)) dL_mean_23
abbrev rmL_copy : Room := { frames := 8, cells := 3, slots := 18, locals := 128 }
set_option maxHeartbeats 400000 in
set_option maxRecDepth 100000 in
theorem c_L_copy (l : Launch) (hst0 : l.stackTraces = false) (D : va_G) (cy : Nat → ClassId) (L : List Nat) (ad : Nat → Nat) (G : mG) (I : mI) (J : mJ) (cn cw : Nat) (σ : Ab) (hS : cSh L G cn cw (aNt σ)) (hA : aOk cn cw σ) (hD : cDt cn cw σ I J) (h80 : 80 ∈ L) (x xv : Int32) : pMet l yL_copy wsL_copy rmL_copy D cy L ad G I J [.ref (ad 0), .int x, .int xv] (qI (fun v I' J' => v = nI (spCopy cw σ x xv).1 ∧ cDt cn cw (spCopy cw σ x xv).2.2 I' J' ∧ ∀ r, 62 ≤ r → I' r = I r ∧ J' r = J r) D cy L ad G) := by
  refine pMet.ofH (cc := cL_copy) (maxL := 4) (hh := [(0, 6, 9, 13), (0, 6, 12, 35)]) (by decide +kernel) rfl (Nat.le_of_ble_eq_true rfl) ?_
  intro p e R s m args below meth c A Q C hml hR htab hg ret hW ls hl
  subst hR
  have C : Cx p s m args c cL_copy RL wsL_copy D cy A := C
  have hx := C.1
  have hb := C.2.1
  have hl : lv_has ls 4 [(0, .ref (ad 0)), (1, .int x), (2, .int xv)] := hl
  have h6 := hA.1
  have h12 := hA.2.1
  have hcl := C.2.2.2.1 (.classLink RL 13 "java/util/NoSuchElementException") (by decide +kernel)
  have hcl2 := C.2.2.2.1 (.classLink RL 35 "java/lang/IllegalArgumentException") (by decide +kernel)
  refine lv_aload_n hx hb dL_copy_0 rfl (lv_at hl 0 rfl) ?_
  refine lv_iload_n hx hb dL_copy_1 rfl (lv_at hl 1 rfl) ?_
  refine lv_iload_n hx hb dL_copy_2 rfl (lv_at hl 2 rfl) ?_
  refine p_xVv C hml hg hW (c_X4_copy l hst0 D cy L ad G I J cn cw σ hS hA hD x xv) (cwV 2 C.2.2.2.1 gL_copy_X4_copy rfl rfl rfl (by decide +kernel) ⟨Nat.le_of_ble_eq_true rfl, Nat.le_of_ble_eq_true rfl⟩) (p_recv C hW (hS.1 0 (by omega)) (pF_4 (by decide)) rfl) rfl hl.1 rfl (Nat.le_of_ble_eq_true rfl) dL_copy_3 (Nat.le_of_ble_eq_true rfl) (Nat.le_of_ble_eq_true rfl) (fun E ce q9 H locs hW hp g1 g2 g3 => ?_) (fun I1 J1 H locs hp hW => ?_)
  · skip
    rcases hp with ⟨hE, hc1⟩ | ⟨hE, hc1⟩
    · skip
      subst hE
      refine p_catN C hg htab rfl hcl (by decide) g1 g2 g3 ?_
      refine lv_astore_n (lv' := [(3, .ref q9), (0, .ref (ad 0)), (1, .int x), (2, .int xv)]) hx hb dL_copy_9 rfl hl (by decide) rfl (fun ls hl => ?_)
      refine lv_iconst (v := nI 1) hx hb dL_copy_10 (by decide) ?_
      exact ret _ _ _ _ _ _ _ _ _ (Nat.le_of_ble_eq_true rfl) (Nat.le_of_ble_eq_true rfl) hW ⟨by rw [hc1], by rw [z_copy x xv (by rw [hc1]; decide)]; exact hD, fun _ _ => ⟨rfl, rfl⟩⟩ dL_copy_11
    · skip
      subst hE
      refine p_catI C hg htab rfl hcl hcl2 (by decide) g1 g2 g3 ?_
      refine lv_astore_n (lv' := [(3, .ref q9), (0, .ref (ad 0)), (1, .int x), (2, .int xv)]) hx hb dL_copy_12 rfl hl (by decide) rfl (fun ls hl => ?_)
      refine lv_iconst (v := nI 2) hx hb dL_copy_13 (by decide) ?_
      exact ret _ _ _ _ _ _ _ _ _ (Nat.le_of_ble_eq_true rfl) (Nat.le_of_ble_eq_true rfl) hW ⟨by rw [hc1], by rw [z_copy x xv (by rw [hc1]; decide)]; exact hD, fun _ _ => ⟨rfl, rfl⟩⟩ dL_copy_14
  · skip
    refine lv_goto (tgt := 15) hx hb dL_copy_6 (by decide) ?_
    refine lv_iconst (v := nI 0) hx hb dL_copy_15 (by decide) ?_
    exact ret _ _ _ _ _ _ _ _ _ (Nat.le_of_ble_eq_true rfl) (Nat.le_of_ble_eq_true rfl) hW ⟨by rw [hp.1], hp.2.2.1, hp.2.2.2⟩ dL_copy_16
abbrev rmL_count : Room := { frames := 7, cells := 1, slots := 6, locals := 103 }
set_option maxHeartbeats 400000 in
set_option maxRecDepth 100000 in
theorem c_L_count (l : Launch) (hst0 : l.stackTraces = false) (D : va_G) (cy : Nat → ClassId) (L : List Nat) (ad : Nat → Nat) (G : mG) (I : mI) (J : mJ) (cn cw : Nat) (σ : Ab) (hS : cSh L G cn cw (aNt σ)) (hA : aOk cn cw σ) (hD : cDt cn cw σ I J) (h80 : 80 ∈ L) (x : Int32) : pMet l yL_count wsL_count rmL_count D cy L ad G I J [.ref (ad 0), .int x, .ref (ad 80)] (qI (fun v I' J' => hst (spCount cn cw σ x) v cn cw I I' J J') D cy L ad G) := by
  refine pMet.ofH (cc := cL_count) (maxL := 4) (hh := [(0, 9, 12, 13)]) (by decide +kernel) rfl (Nat.le_of_ble_eq_true rfl) ?_
  intro p e R s m args below meth c A Q C hml hR htab hg ret hW ls hl
  subst hR
  have C : Cx p s m args c cL_count RL wsL_count D cy A := C
  have hx := C.1
  have hb := C.2.1
  have hl : lv_has ls 4 [(0, .ref (ad 0)), (1, .int x), (2, .ref (ad 80))] := hl
  have h6 := hA.1
  have h12 := hA.2.1
  have hcl := C.2.2.2.1 (.classLink RL 13 "java/util/NoSuchElementException") (by decide +kernel)
  refine lv_aload_n hx hb dL_count_0 rfl (lv_at hl 2 rfl) ?_
  refine lv_iconst (v := nI 0) hx hb dL_count_1 (by decide) ?_
  refine lv_aload_n hx hb dL_count_2 rfl (lv_at hl 0 rfl) ?_
  refine lv_iload_n hx hb dL_count_3 rfl (lv_at hl 1 rfl) ?_
  refine p_xVi C hml hg hW (c_X4_count l hst0 D cy L ad G I J cn cw σ hS hA hD x) (cwV 1 C.2.2.2.1 gL_count_X4_count rfl rfl rfl (by decide +kernel) ⟨Nat.le_of_ble_eq_true rfl, Nat.le_of_ble_eq_true rfl⟩) (p_recv C hW (hS.1 0 (by omega)) (pF_4 (by decide)) rfl) rfl hl.1 rfl (Nat.le_of_ble_eq_true rfl) dL_count_4 (Nat.le_of_ble_eq_true rfl) (Nat.le_of_ble_eq_true rfl) (fun E ce q9 H locs hW hp g1 g2 g3 => ?_) (fun v1 I1 J1 H locs hp hW => ?_)
  · skip
    rcases hp with ⟨hE, hc1⟩ | ⟨hE, hc1⟩
    · skip
      subst hE
      refine p_catN C hg htab rfl hcl (by decide) g1 g2 g3 ?_
      refine lv_astore_n (lv' := [(3, .ref q9), (0, .ref (ad 0)), (1, .int x), (2, .ref (ad 80))]) hx hb dL_count_12 rfl hl (by decide) rfl (fun ls hl => ?_)
      refine lv_iconst (v := nI 1) hx hb dL_count_13 (by decide) ?_
      exact ret _ _ _ _ _ _ _ _ _ (Nat.le_of_ble_eq_true rfl) (Nat.le_of_ble_eq_true rfl) hW (hst.bad hc1 (by decide) (z_count x) hD) dL_count_14
    · skip
      exact absurd hc1 (n_count x)
  · skip
    refine lv_i2l (v := v1.toInt64) hx hb dL_count_7 rfl ?_
    refine p_last C hW h80 (by decide) (k := 0) rfl (by rw [show ln 80 = 1 by decide]; omega) dL_count_8 (fun H locs hW => ?_)
    obtain ⟨J1, eJ1⟩ : ∃ z, z = va_up J1 80 (vp_updL (J1 80) 0 v1.toInt64) := ⟨_, rfl⟩
    rw [← eJ1] at hW
    refine lv_goto (tgt := 15) hx hb dL_count_9 (by decide) ?_
    refine lv_iconst (v := nI 0) hx hb dL_count_15 (by decide) ?_
    exact ret _ _ _ _ _ _ _ _ _ (Nat.le_of_ble_eq_true rfl) (Nat.le_of_ble_eq_true rfl) hW (by rw [eJ1]; exact (hst.good h6 h12 hp hp.2.1)) dL_count_16
