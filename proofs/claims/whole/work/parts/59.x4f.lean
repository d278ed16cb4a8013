abbrev rmX4_walk : Room := { frames := 8, cells := 6, slots := 90, locals := 160 }
set_option maxHeartbeats 400000 in
set_option maxRecDepth 100000 in
theorem c_X4_walk (l : Launch) (hst : l.stackTraces = false) (D : va_G) (cy : Nat → ClassId) (L : List Nat) (ad : Nat → Nat) (G : mG) (I : mI) (J : mJ) (hcl : clo L G) (cn cw : Nat) (σ : Ab) (hS : cSh L G cn cw (aNt σ)) (hf : fre L cn cw) (hA : aOk cn cw σ) (hD : cDt cn cw σ I J) (x : Int32) : pXet l yX4_walk wsX4_walk rmX4_walk D cy L ad G I J [.ref (ad 0), .int x] (qNI (nWk cn cw σ x L ad G I J) D cy) (fun E => E = na_N ∧ ixN x cn = none) := by
  refine pXet.ofNI (cc := cX4_walk) (maxL := 3) (by decide +kernel) rfl (Nat.le_of_ble_eq_true rfl) ?_
  intro p e R s m args below meth c A Q C hml hR hg ret thr hW ls hl
  subst hR
  have C : Cx p s m args c cX4_walk RX4 wsX4_walk D cy A := C
  have hx := C.1
  have hb := C.2.1
  have lk17 := C.2.2.2.1 (.fieldLink RX4 17 "WaveWalk" "walks" "[LWaveWalk$Walk;") (by decide +kernel)
  have lk39 := C.2.2.2.1 (.fieldLink RX4 39 "WaveWalk" "walkCount" "I") (by decide +kernel)
  have lk53 := C.2.2.2.1 (.fieldLink RX4 53 "WaveWalk$Net" "hasWalks" "Z") (by decide +kernel)
  have hinX1 : ∀ w ∈ wsX10, w ∈ wsX4_walk := by decide +kernel
  have hinX4 : ∀ w ∈ wsX40, w ∈ wsX4_walk := by decide +kernel
  have hl : lv_has ls 3 [(0, .ref (ad 0)), (1, .int x)] := hl
  have h6 := hA.1
  have h12 := hA.2.1
  refine lv_aload_n hx hb dX4_walk_0 rfl (lv_at hl 0 rfl) ?_
  refine lv_iload_n hx hb dX4_walk_1 rfl (lv_at hl 1 rfl) ?_
  refine p_xVr C hml hg hW (c_X4_netOf l hst D cy L ad G I J cn cw (aNt σ) hS h6 h12 x) (cwV 1 C.2.2.2.1 gX4_walk_X4_netOf rfl rfl rfl (by decide +kernel) ⟨Nat.le_of_ble_eq_true rfl, Nat.le_of_ble_eq_true rfl⟩) (p_recv C hW (hS.1 0 (by omega)) (pF_4 (by decide)) rfl) rfl hl.1 rfl (Nat.le_of_ble_eq_true rfl) dX4_walk_2 (Nat.le_of_ble_eq_true rfl) (Nat.le_of_ble_eq_true rfl) (fun E ce q9 H locs hW hp h1 h2 h3 => thr E ce q9 H locs _ _ _ _ _ (Nat.le_of_ble_eq_true rfl) (Nat.le_of_ble_eq_true rfl) hW hp h1 h2 h3) (fun v1 I2 J3 H locs hp hW => ?_)
  obtain ⟨⟨i, hi, hq⟩, hI, hJ⟩ := hp
  subst v1
  subst I2
  subst J3
  obtain ⟨hil, hxe⟩ := ixN_some hi (by omega)
  subst hxe
  have hN := hS.net hil h6
  refine lv_astore_n (lv' := [(2, .ref (ad (8 + 3 * i))), (0, .ref (ad 0)), (1, .int (nI i))]) hx hb dX4_walk_5 rfl hl (by decide) rfl (fun ls hl => ?_)
  refine lv_aload_n hx hb dX4_walk_6 rfl (lv_at hl 1 rfl) ?_
  refine g_X4_5 C hinX4 hW (hS.1 0 (by omega)) (by decide) lk39 dX4_walk_7 ?_
  refine w_top (y := .int (nI cw)) (by rw [hD.2.1]) ?_
  refine lv_bipush (v := nI 12) hx hb dX4_walk_10 (by decide) ?_
  refine n_icmp_lt (tgt := 17) hx hb (by omega) (by omega) dX4_walk_12 (by decide) (fun hc_4 => ?_) (fun hc_4 => ?_)
  · skip
    have hc12 : cw < 12 := hc_4
    obtain ⟨v, ev⟩ : ∃ z, z = 26 + 3 * cw := ⟨_, rfl⟩
    obtain ⟨w, ew⟩ : ∃ z, z = 27 + 3 * cw := ⟨_, rfl⟩
    obtain ⟨q, eq⟩ : ∃ z, z = 28 + 3 * cw := ⟨_, rfl⟩
    have kv : kd v = 2 := by rw [ev]; exact kd_w hc12
    have kw : kd w = 3 := by rw [ew]; exact kd_v hc12
    have kq : kd q = 7 := by rw [eq]; exact kd_q hc12
    have lq : ln q = 48 := by rw [eq]; exact ln_q hc12
    obtain ⟨fv, fw, fq⟩ := hf.2 cw (Nat.le_refl _) hc12
    rw [← ev] at fv
    rw [← ew] at fw
    rw [← eq] at fq
    refine lv_aload_n hx hb dX4_walk_17 rfl (lv_at hl 0 rfl) ?_
    refine lv_iconst (v := nI 1) hx hb dX4_walk_18 (by decide) ?_
    refine s_X1_6 C hinX1 hW hN.1 hN.2.1 rfl rfl lk53 dX4_walk_19 (fun H locs hW => ?_)
    obtain ⟨I5, eI5⟩ : ∃ z, z = va_up I (8 + 3 * i) (upd (I (8 + 3 * i)) 6 (nI 1)) := ⟨_, rfl⟩
    rw [← eI5] at hW
    refine lv_aload_n hx hb dX4_walk_22 rfl (lv_at hl 1 rfl) ?_
    refine g_X4_1 C hinX4 hW (hS.1 0 (by omega)) (by decide) hS.2.2.1 lk17 dX4_walk_23 ?_
    refine lv_aload_n hx hb dX4_walk_26 rfl (lv_at hl 1 rfl) ?_
    refine g_X4_5 C hinX4 hW (hS.1 0 (by omega)) (by decide) lk39 dX4_walk_27 ?_
    refine w_top (y := .int (nI cw)) (by rw [eI5, va_up_ne _ _ (by omega), hD.2.1]) ?_
    refine p_new C hW hcl fv (ci := 2) rfl (by decide +kernel) tyX2 tyX2_ok (C.2.2.2.1 (.classLink RX4 15 RX2) (by decide +kernel)) (C.2.2.2.1 (.instantiable RX2 3) (by decide +kernel)) (C.2.2.2.1 (.initialized RX2) (by decide +kernel)) dfX2 (fun a => dgX2 kv a) (Nat.le_of_ble_eq_true rfl) (Nat.le_of_ble_eq_true rfl) dX4_walk_30 (fun ad6 H hag7 hW => ?_)
    rw [← hag7 2 (hS.1 2 (by omega))]
    have hl : lv_has ls 3 [(2, .ref (ad6 (8 + 3 * i))), (0, .ref (ad6 0)), (1, .int (nI i))] := by rw [hag7 0 (hS.1 0 (by omega)), hag7 (8 + 3 * i) hN.1]; exact hl
    obtain ⟨L8, eL8⟩ : ∃ z, z = L ++ [v] := ⟨_, rfl⟩
    rw [← eL8] at hW
    obtain ⟨G9, eG9⟩ : ∃ z, z = va_up G v (fun _ => (none : Option Nat)) := ⟨_, rfl⟩
    rw [← eG9] at hW
    obtain ⟨I10, eI10⟩ : ∃ z, z = va_up I5 v (fun _ => (0 : Int32)) := ⟨_, rfl⟩
    rw [← eI10] at hW
    obtain ⟨J11, eJ11⟩ : ∃ z, z = va_up J v (fun _ => (0 : Int64)) := ⟨_, rfl⟩
    rw [← eJ11] at hW
    have cl12 : clo L8 G9 := clo_new hcl fv eL8 eG9
    have mo13 : ∀ q, q ∈ L → q ∈ L8 := fun q h => mem_old eL8 h
    refine lv_dup hx hb dX4_walk_33 rfl ?_
    refine lv_iload_n hx hb dX4_walk_34 rfl (lv_at hl 2 rfl) ?_
    refine lv_aload_n hx hb dX4_walk_35 rfl (lv_at hl 0 rfl) ?_
    refine p_cI C hml hg hW (c_X2_init l D cy L8 ad6 G9 I10 J11 cl12 v w q (8 + 3 * i) (mem_new eL8) kv (mo13 _ hN.1) hN.2.1 (nin_push eL8 fw (Ne.symm (by omega))) kw (nin_push eL8 fq (Ne.symm (by omega))) kq lq (by omega) (nI i)) (cwI 2 C.2.2.2.1 gX4_walk_X2_init rfl rfl rfl (C.2.2.2.1 (.initialized RX2) (by decide +kernel)) (C.2.2.2.1 (.methodLink RX4 82 yX2_init) (by decide +kernel)) (C.2.2.2.1 (.instanceMethod yX2_init) (by decide +kernel)) rfl (by decide +kernel) ⟨Nat.le_of_ble_eq_true rfl, Nat.le_of_ble_eq_true rfl⟩) rfl hl.1 rfl (Nat.le_of_ble_eq_true rfl) dX4_walk_36 (Nat.le_of_ble_eq_true rfl) (Nat.le_of_ble_eq_true rfl) (fun L14 ad15 G16 I17 J18 H locs hp hW => ?_)
    obtain ⟨eL18, cl18, hag18, hot18, hgv, hgw, hi0, hi1, hjq⟩ := hp
    have mo19 : ∀ q, q ∈ L8 → q ∈ L14 := fun q h => by rw [eL18]; exact List.mem_append_left _ (List.mem_append_left _ h)
    rw [← hag18 2 (mo13 _ (hS.1 2 (by omega)))]
    rw [← hag18 v (mem_new eL8)]
    have hl : lv_has ls 3 [(2, .ref (ad15 (8 + 3 * i))), (0, .ref (ad15 0)), (1, .int (nI i))] := by rw [hag18 0 (mo13 _ (hS.1 0 (by omega))), hag18 (8 + 3 * i) (mo13 _ hN.1)]; exact hl
    have mw : w ∈ L14 := by rw [eL18]; exact List.mem_append_left _ (List.mem_append_right _ List.mem_cons_self)
    have mq : q ∈ L14 := by rw [eL18]; exact List.mem_append_right _ List.mem_cons_self
    refine p_aast C hW (mo19 _ (mo13 _ (hS.1 2 (by omega)))) (Or.inr (by decide)) (mo19 _ (mem_new eL8)) (i := 4) (pF_2 kv) rfl rfl (by decide) (k := cw) (by rw [show ln 2 = 12 by decide]; omega) dX4_walk_39 (fun H locs hW => ?_)
    obtain ⟨G20, eG20⟩ : ∃ z, z = va_up G16 2 (va_up (G16 2) cw (some v)) := ⟨_, rfl⟩
    rw [← eG20] at hW
    have cl21 : clo L14 G20 := clo_put cl18 (mo19 _ (mo13 _ (hS.1 2 (by omega)))) (mo19 _ (mem_new eL8)) eG20
    have hc5 : I17 0 5 = nI cw := by rw [(hot18 0 (by omega) (by omega) (by omega)).2.1, eI10, va_up_ne _ _ (by omega), eI5, va_up_ne _ _ (by omega), hD.2.1]
    refine lv_aload_n hx hb dX4_walk_40 rfl (lv_at hl 1 rfl) ?_
    refine lv_dup hx hb dX4_walk_41 rfl ?_
    refine g_X4_5 C hinX4 hW (mo19 _ (mo13 _ (hS.1 0 (by omega)))) (by decide) lk39 dX4_walk_42 ?_
    refine w_top (y := .int (nI cw)) (by rw [hc5]) ?_
    refine lv_iconst (v := nI 1) hx hb dX4_walk_45 (by decide) ?_
    refine n_iadd hx hb dX4_walk_46 ?_
    refine s_X4_5 C hinX4 hW (mo19 _ (mo13 _ (hS.1 0 (by omega)))) (by decide) lk39 dX4_walk_47 (fun H locs hW => ?_)
    obtain ⟨I22, eI22⟩ : ∃ z, z = va_up I17 0 (upd (I17 0) 5 (nI (cw + 1))) := ⟨_, rfl⟩
    rw [← eI22] at hW
    refine lv_aload_n hx hb dX4_walk_50 rfl (lv_at hl 1 rfl) ?_
    refine g_X4_5 C hinX4 hW (mo19 _ (mo13 _ (hS.1 0 (by omega)))) (by decide) lk39 dX4_walk_51 ?_
    refine w_top (y := .int (nI (cw + 1))) (by rw [eI22, va_up_self]; rfl) ?_
    refine lv_iconst (v := nI 1) hx hb dX4_walk_54 (by decide) ?_
    refine n_isub hx hb (by omega) dX4_walk_55 ?_
    have q0 : ∀ r, r ≠ 0 → r ≠ 2 → r ≠ 8 + 3 * i → r ≠ v → r ≠ w → r ≠ q → G20 r = G r ∧ I22 r = I r ∧ J18 r = J r := fun r g0 g1 g5 g2 g3 g4 => ⟨by rw [eG20, va_up_ne _ _ g1, (hot18 r g2 g3 g4).1, eG9, va_up_ne _ _ g2], by rw [eI22, va_up_ne _ _ g0, (hot18 r g2 g3 g4).2.1, eI10, va_up_ne _ _ g2, eI5, va_up_ne _ _ g5], by rw [(hot18 r g2 g3 g4).2.2, eJ11, va_up_ne _ _ g2]⟩
    have q1 : G20 2 = va_up (G 2) cw (some v) := by rw [eG20, va_up_self, (hot18 2 (by omega) (by omega) (by omega)).1, eG9, va_up_ne _ _ (by omega)]
    have q2 : G20 0 = G 0 := by rw [eG20, va_up_ne _ _ (by decide), (hot18 0 (by omega) (by omega) (by omega)).1, eG9, va_up_ne _ _ (by omega)]
    have q22 : G20 (8 + 3 * i) = G (8 + 3 * i) := by rw [eG20, va_up_ne _ _ (Ne.symm (by omega)), (hot18 (8 + 3 * i) (by omega) (by omega) (by omega)).1, eG9, va_up_ne _ _ (by omega)]
    have q3 : G20 v = va_up (va_up (fun _ => none) 2 (some w)) 1 (some (8 + 3 * i)) := by rw [eG20, va_up_ne _ _ (by omega), hgv, eG9, va_up_self]
    have q33 : G20 w 0 = some q := by rw [eG20, va_up_ne _ _ (by omega)]; exact hgw
    have q4 : ∀ r, r ≠ 0 → I22 r = I17 r := fun r h => by rw [eI22, va_up_ne _ _ h]
    have q5 : I22 0 = upd (I 0) 5 (nI (cw + 1)) := by rw [eI22, va_up_self, (hot18 0 (by omega) (by omega) (by omega)).2.1, eI10, va_up_ne _ _ (by omega), eI5, va_up_ne _ _ (by omega)]
    have q6 : I22 (8 + 3 * i) = upd (I (8 + 3 * i)) 6 (bI true) := by rw [eI22, va_up_ne _ _ (Ne.symm (by omega)), (hot18 (8 + 3 * i) (by omega) (by omega) (by omega)).2.1, eI10, va_up_ne _ _ (by omega), eI5, va_up_self]; rfl
    have q7 : J18 (8 + 3 * i) = J (8 + 3 * i) := by rw [(hot18 (8 + 3 * i) (by omega) (by omega) (by omega)).2.2, eJ11, va_up_ne _ _ (by omega)]
    have hLe : L14 = L ++ [v] ++ [w] ++ [q] := by rw [eL18, eL8]
    have hmm : ∀ r, r ∈ L → r ∈ L14 := fun r h => by rw [hLe]; exact List.mem_append_left _ (List.mem_append_left _ (List.mem_append_left _ h))
    have mv : v ∈ L14 := (mo19 _ (mem_new eL8))
    exact ret _ _ _ _ _ _ _ _ _ _ _ _ (Nat.le_of_ble_eq_true rfl) (Nat.le_of_ble_eq_true rfl) hW ⟨(fun q hq => (hag18 q (mo13 q hq)).trans (hag7 q hq)), hmm, cl21, fun r h => q0 r (by omega) (by omega) (by omega) (by omega) (by omega) (by omega), i, hi, fun z => by omega, fun _ => (by subst ev; subst ew; subst eq; exact ⟨rfl, hS.mkWalk h6 hc12 hmm mv mw mq (fun r a1 a2 a3 a4 => by by_cases a0 : r = 0; (subst a0; exact q2); by_cases a5 : r = 8 + 3 * i; (rw [a5]; exact q22); exact (q0 r a0 a1 a5 a2 a3 a4).1) q1 (by rw [q3, va_up_self]) (by rw [q3, va_up_ne _ _ (by decide), va_up_self]) q33, hf.walk hc12 hLe, hD.mkWalk h6 hc12 hil (by rw [q5, pk_un (by decide)]) (by rw [q5, pk_us]) (fun r b1 b2 b6 b3 b4 b5 => (q0 r (by omega) (by omega) b6 b3 b4 b5).2.1) (fun r b1 b2 b3 b4 b5 => by by_cases b6 : r = 8 + 3 * i; (rw [b6]; exact q7); exact (q0 r (by omega) (by omega) b6 b3 b4 b5).2.2) q6 (by rw [q4 _ (by omega)]; exact hi0) (by rw [q4 _ (by omega)]; exact hi1) hjq⟩)⟩ dX4_walk_56
  · skip
    have hc12 : cw = 12 := by omega
    refine lv_iconst (v := (-1)) hx hb dX4_walk_15 (by decide) ?_
    exact ret _ _ _ _ _ _ _ _ _ _ _ _ (Nat.le_of_ble_eq_true rfl) (Nat.le_of_ble_eq_true rfl) hW ⟨fun _ _ => rfl, fun _ h => h, hcl, fun _ _ => ⟨rfl, rfl, rfl⟩, i, hi, fun _ => ⟨rfl, rfl, rfl, hD⟩, fun z => by omega⟩ dX4_walk_16
