/-! THE REFERENCE: its cells, roles 64 to 75 -/
def rSh (L : List Nat) (G : mG) : Prop := (∀ r, 64 ≤ r → r ≤ 75 → r ∈ L) ∧ ∀ k, 3 ≤ k → k ≤ 13 → G 64 k = some (62 + k)
abbrev thr (I : mI) (t : Nat) : mI := va_up I 64 (upd (I 64) 0 (nI t))
theorem thr_thr (I : mI) (a b : Nat) : va_up (thr I a) 64 (upd (thr I a 64) 0 (nI b)) = thr I b := by
  unfold thr
  rw [va_up_self, up_up, upd_upd]
theorem thr_self {I : mI} {t : Nat} (h : I 64 0 = nI t) : thr I t = I := by
  unfold thr
  rw [upd_self _ _ h, up_same]
theorem nz_z {t : Nat} (h3 : t < 3) (h : nI t = 0) : t = 0 := by
  rcases Nat.eq_zero_or_pos t with h0 | h0
  · exact h0
  · exact absurd h (nI_ne0 h0 (by omega))
section W2
variable {p : Program} {l : Launch} {e : Env} {R : Room} {s : State} {m : MethodId} {args : Array Value} {below : List Frame} {meth : Method} {c : Code} {H : Heap} {locs : List Loc} {cells slots : Nat} {Q : State → Prop} {pc : Nat} {ls : Array Slot} {rest : List Value}
theorem w_2 {v x y : Value} (hk : x = y) (kk : W p l e R s m args below meth c H locs cells slots Q (F0 m pc ls (v :: y :: rest))) : W p l e R s m args below meth c H locs cells slots Q (F0 m pc ls (v :: x :: rest)) := by rw [hk]; exact kk
end W2
abbrev rmX5_right : Room := { frames := 0, cells := 0, slots := 0, locals := 0 }
set_option maxHeartbeats 4000000 in
set_option maxRecDepth 100000 in
theorem c_X5_right (l : Launch) (D : va_G) (cy : Nat → ClassId) (L : List Nat) (ad : Nat → Nat) (G : mG) (I : mI) (J : mJ) (hS : rSh L G) (b : Bool) (wh t0 : Nat) (ht : I 64 0 = nI t0) (hw : wh < 3) (ht3 : t0 < 3) : pMet l yX5_right wsX5_right rmX5_right D cy L ad G I J [.ref (ad 64), .int (bI b), .int (nI wh)] (qI (fun v I' J' => v = bI (decide ((if t0 = 0 ∧ b = false then wh else t0) = 0)) ∧ I' = thr I (if t0 = 0 ∧ b = false then wh else t0) ∧ J' = J) D cy L ad G) := by
  refine pMet.ofZ (cc := cX5_right) (maxL := 3) (by decide +kernel) rfl (Nat.le_of_ble_eq_true rfl) ?_
  intro p e R s m args below meth c A Q C hml hR hg ret hW ls hl
  subst hR
  have C : Cx p s m args c cX5_right RX5 wsX5_right D cy A := C
  have hx := C.1
  have hb := C.2.1
  have lk45 := C.2.2.2.1 (.fieldLink RX5 45 "WaveWalkModel" "thrown" "I") (by decide +kernel)
  have hinX5 : ∀ w ∈ wsX50, w ∈ wsX5_right := by decide +kernel
  have hl : lv_has ls 3 [(0, .ref (ad 64)), (1, .int (bI b)), (2, .int (nI wh))] := hl
  refine lv_aload_n hx hb dX5_right_0 rfl (lv_at hl 0 rfl) ?_
  refine g_X5_0 C hinX5 hW (hS.1 64 (by omega) (by omega)) (by decide) lk45 dX5_right_1 ?_
  refine w_top (y := .int (nI t0)) (by rw [ht]) ?_
  refine lv_if_ne (tgt := 16) hx hb dX5_right_4 (by decide) (fun hc_1 => ?_) (fun hc_1 => ?_)
  · skip
    refine lv_aload_n hx hb dX5_right_16 rfl (lv_at hl 0 rfl) ?_
    refine g_X5_0 C hinX5 hW (hS.1 64 (by omega) (by omega)) (by decide) lk45 dX5_right_17 ?_
    refine w_top (y := .int (nI t0)) (by rw [ht]) ?_
    refine lv_if_ne (tgt := 27) hx hb dX5_right_20 (by decide) (fun hc_2 => ?_) (fun hc_2 => ?_)
    · skip
      refine lv_iconst (v := nI 0) hx hb dX5_right_27 (by decide) ?_
      have c4 : t0 ≠ 0 := fun z => hc_1 (by rw [z]; rfl)
      have ec : (if t0 = 0 ∧ b = false then wh else t0) = t0 := if_neg (fun z => c4 z.1)
      have cz : t0 ≠ 0 := fun z => hc_2 (by rw [z]; rfl)
      exact ret _ _ _ _ _ _ _ _ _ (Nat.le_of_ble_eq_true rfl) (Nat.le_of_ble_eq_true rfl) hW ⟨by rw [ec, decide_eq_false cz]; rfl, by rw [ec]; exact (thr_self ht).symm, rfl⟩ (by decide) dX5_right_28
    · skip
      refine lv_iconst (v := nI 1) hx hb dX5_right_23 (by decide) ?_
      refine lv_goto (tgt := 28) hx hb dX5_right_24 (by decide) ?_
      have c4 : t0 ≠ 0 := fun z => hc_1 (by rw [z]; rfl)
      have ec : (if t0 = 0 ∧ b = false then wh else t0) = t0 := if_neg (fun z => c4 z.1)
      have cz : t0 = 0 := nz_z (by omega) hc_2
      exact ret _ _ _ _ _ _ _ _ _ (Nat.le_of_ble_eq_true rfl) (Nat.le_of_ble_eq_true rfl) hW ⟨by rw [ec, decide_eq_true cz]; rfl, by rw [ec]; exact (thr_self ht).symm, rfl⟩ (by decide) dX5_right_28
  · skip
    refine lv_iload_n hx hb dX5_right_7 rfl (lv_at hl 1 rfl) ?_
    refine b_if_ne (tgt := 16) hx hb dX5_right_8 (by decide) (fun hc_3 => ?_) (fun hc_3 => ?_)
    · skip
      refine lv_aload_n hx hb dX5_right_16 rfl (lv_at hl 0 rfl) ?_
      refine g_X5_0 C hinX5 hW (hS.1 64 (by omega) (by omega)) (by decide) lk45 dX5_right_17 ?_
      refine w_top (y := .int (nI t0)) (by rw [ht]) ?_
      refine lv_if_ne (tgt := 27) hx hb dX5_right_20 (by decide) (fun hc_4 => ?_) (fun hc_4 => ?_)
      · skip
        refine lv_iconst (v := nI 0) hx hb dX5_right_27 (by decide) ?_
        have c4 : t0 = 0 := nz_z ht3 hc_1
        have ec : (if t0 = 0 ∧ b = false then wh else t0) = t0 := if_neg (fun z => by rw [hc_3] at z; cases z.2)
        have cz : t0 ≠ 0 := fun z => hc_4 (by rw [z]; rfl)
        exact ret _ _ _ _ _ _ _ _ _ (Nat.le_of_ble_eq_true rfl) (Nat.le_of_ble_eq_true rfl) hW ⟨by rw [ec, decide_eq_false cz]; rfl, by rw [ec]; exact (thr_self ht).symm, rfl⟩ (by decide) dX5_right_28
      · skip
        refine lv_iconst (v := nI 1) hx hb dX5_right_23 (by decide) ?_
        refine lv_goto (tgt := 28) hx hb dX5_right_24 (by decide) ?_
        have c4 : t0 = 0 := nz_z ht3 hc_1
        have ec : (if t0 = 0 ∧ b = false then wh else t0) = t0 := if_neg (fun z => by rw [hc_3] at z; cases z.2)
        have cz : t0 = 0 := nz_z (by omega) hc_4
        exact ret _ _ _ _ _ _ _ _ _ (Nat.le_of_ble_eq_true rfl) (Nat.le_of_ble_eq_true rfl) hW ⟨by rw [ec, decide_eq_true cz]; rfl, by rw [ec]; exact (thr_self ht).symm, rfl⟩ (by decide) dX5_right_28
    · skip
      refine lv_aload_n hx hb dX5_right_11 rfl (lv_at hl 0 rfl) ?_
      refine lv_iload_n hx hb dX5_right_12 rfl (lv_at hl 2 rfl) ?_
      refine s_X5_0 C hinX5 hW (hS.1 64 (by omega) (by omega)) (by decide) lk45 dX5_right_13 (fun H locs hW => ?_)
      obtain ⟨I5, eI5⟩ : ∃ z, z = va_up I 64 (upd (I 64) 0 (nI wh)) := ⟨_, rfl⟩
      rw [← eI5] at hW
      refine lv_aload_n hx hb dX5_right_16 rfl (lv_at hl 0 rfl) ?_
      refine g_X5_0 C hinX5 hW (hS.1 64 (by omega) (by omega)) (by decide) lk45 dX5_right_17 ?_
      refine w_top (y := .int (nI wh)) (by rw [eI5, va_up_self]; rfl) ?_
      refine lv_if_ne (tgt := 27) hx hb dX5_right_20 (by decide) (fun hc_6 => ?_) (fun hc_6 => ?_)
      · skip
        refine lv_iconst (v := nI 0) hx hb dX5_right_27 (by decide) ?_
        have c4 : t0 = 0 := nz_z ht3 hc_1
        have ec : (if t0 = 0 ∧ b = false then wh else t0) = wh := if_pos ⟨c4, hc_3⟩
        have cz : wh ≠ 0 := fun z => hc_6 (by rw [z]; rfl)
        exact ret _ _ _ _ _ _ _ _ _ (Nat.le_of_ble_eq_true rfl) (Nat.le_of_ble_eq_true rfl) hW ⟨by rw [ec, decide_eq_false cz]; rfl, by rw [ec, eI5], rfl⟩ (by decide) dX5_right_28
      · skip
        refine lv_iconst (v := nI 1) hx hb dX5_right_23 (by decide) ?_
        refine lv_goto (tgt := 28) hx hb dX5_right_24 (by decide) ?_
        have c4 : t0 = 0 := nz_z ht3 hc_1
        have ec : (if t0 = 0 ∧ b = false then wh else t0) = wh := if_pos ⟨c4, hc_3⟩
        have cz : wh = 0 := nz_z (by omega) hc_6
        exact ret _ _ _ _ _ _ _ _ _ (Nat.le_of_ble_eq_true rfl) (Nat.le_of_ble_eq_true rfl) hW ⟨by rw [ec, decide_eq_true cz]; rfl, by rw [ec, eI5], rfl⟩ (by decide) dX5_right_28
abbrev rmX5_isNet : Room := { frames := 1, cells := 0, slots := 0, locals := 22 }
set_option maxHeartbeats 4000000 in
set_option maxRecDepth 100000 in
theorem c_X5_isNet (l : Launch) (D : va_G) (cy : Nat → ClassId) (L : List Nat) (ad : Nat → Nat) (G : mG) (I : mI) (J : mJ) (hS : rSh L G) (cn : Nat) (hc : I 64 1 = nI cn) (h12 : cn ≤ 12) (x : Int32) : pMet l yX5_isNet wsX5_isNet rmX5_isNet D cy L ad G I J [.ref (ad 64), .int x] (qI (fun v I' J' => v = bI (ixN x cn).isSome ∧ I' = thr I (if (ixN x cn).isSome then 0 else 1) ∧ J' = J) D cy L ad G) := by
  refine pMet.ofZ (cc := cX5_isNet) (maxL := 2) (by decide +kernel) rfl (Nat.le_of_ble_eq_true rfl) ?_
  intro p e R s m args below meth c A Q C hml hR hg ret hW ls hl
  subst hR
  have C : Cx p s m args c cX5_isNet RX5 wsX5_isNet D cy A := C
  have hx := C.1
  have hb := C.2.1
  have lk45 := C.2.2.2.1 (.fieldLink RX5 45 "WaveWalkModel" "thrown" "I") (by decide +kernel)
  have lk49 := C.2.2.2.1 (.fieldLink RX5 49 "WaveWalkModel" "nets" "I") (by decide +kernel)
  have hinX5 : ∀ w ∈ wsX50, w ∈ wsX5_isNet := by decide +kernel
  have hl : lv_has ls 2 [(0, .ref (ad 64)), (1, .int x)] := hl
  refine lv_aload_n hx hb dX5_isNet_0 rfl (lv_at hl 0 rfl) ?_
  refine lv_iconst (v := nI 0) hx hb dX5_isNet_1 (by decide) ?_
  refine s_X5_0 C hinX5 hW (hS.1 64 (by omega) (by omega)) (by decide) lk45 dX5_isNet_2 (fun H locs hW => ?_)
  obtain ⟨I1, eI1⟩ : ∃ z, z = va_up I 64 (upd (I 64) 0 (nI 0)) := ⟨_, rfl⟩
  rw [← eI1] at hW
  refine lv_aload_n hx hb dX5_isNet_5 rfl (lv_at hl 0 rfl) ?_
  refine lv_iload_n hx hb dX5_isNet_6 rfl (lv_at hl 1 rfl) ?_
  refine lv_if_lt (tgt := 22) hx hb dX5_isNet_7 (by decide) (fun hc_2 => ?_) (fun hc_2 => ?_)
  · skip
    refine lv_iconst (v := nI 0) hx hb dX5_isNet_22 (by decide) ?_
    refine lv_iconst (v := nI 1) hx hb dX5_isNet_23 (by decide) ?_
    refine w_2 (y := .int (bI false)) rfl ?_
    refine p_cVi C hml hg hW (c_X5_right l D cy L ad G I1 J hS false 1 0 (by rw [eI1, va_up_self]; rfl) (by omega) (by omega)) (cwV 2 C.2.2.2.1 gX5_isNet_X5_right rfl rfl rfl (by decide +kernel) ⟨Nat.le_of_ble_eq_true rfl, Nat.le_of_ble_eq_true rfl⟩) (p_recv C hW (hS.1 64 (by omega) (by omega)) (pF_5 (by decide)) rfl) rfl hl.1 rfl (Nat.le_of_ble_eq_true rfl) dX5_isNet_24 (Nat.le_of_ble_eq_true rfl) (Nat.le_of_ble_eq_true rfl) (fun v3 I4 J5 H locs hp hW => ?_)
    obtain ⟨hv, hI, hJ⟩ := hp
    subst v3
    have hs : ixN x cn = none := ixN_neg hc_2
    exact ret _ _ _ _ _ _ _ _ _ (Nat.le_of_ble_eq_true rfl) (Nat.le_of_ble_eq_true rfl) hW ⟨by rw [hs]; rfl, by rw [hs, hI, eI1]; exact thr_thr I 0 _, hJ⟩ (by decide) dX5_isNet_27
  · skip
    refine lv_iload_n hx hb dX5_isNet_10 rfl (lv_at hl 1 rfl) ?_
    refine lv_aload_n hx hb dX5_isNet_11 rfl (lv_at hl 0 rfl) ?_
    refine g_X5_1 C hinX5 hW (hS.1 64 (by omega) (by omega)) (by decide) lk49 dX5_isNet_12 ?_
    refine w_top (y := .int (nI cn)) (by rw [eI1, va_up_self, pk_un (by decide), hc]) ?_
    refine lv_icmp_ge (tgt := 22) hx hb dX5_isNet_15 (by decide) (fun hc_6 => ?_) (fun hc_6 => ?_)
    · skip
      refine lv_iconst (v := nI 0) hx hb dX5_isNet_22 (by decide) ?_
      refine lv_iconst (v := nI 1) hx hb dX5_isNet_23 (by decide) ?_
      refine w_2 (y := .int (bI false)) rfl ?_
      refine p_cVi C hml hg hW (c_X5_right l D cy L ad G I1 J hS false 1 0 (by rw [eI1, va_up_self]; rfl) (by omega) (by omega)) (cwV 2 C.2.2.2.1 gX5_isNet_X5_right rfl rfl rfl (by decide +kernel) ⟨Nat.le_of_ble_eq_true rfl, Nat.le_of_ble_eq_true rfl⟩) (p_recv C hW (hS.1 64 (by omega) (by omega)) (pF_5 (by decide)) rfl) rfl hl.1 rfl (Nat.le_of_ble_eq_true rfl) dX5_isNet_24 (Nat.le_of_ble_eq_true rfl) (Nat.le_of_ble_eq_true rfl) (fun v7 I8 J9 H locs hp hW => ?_)
      obtain ⟨hv, hI, hJ⟩ := hp
      subst v7
      have hs : ixN x cn = none := ixN_ge hc_6 (by omega)
      exact ret _ _ _ _ _ _ _ _ _ (Nat.le_of_ble_eq_true rfl) (Nat.le_of_ble_eq_true rfl) hW ⟨by rw [hs]; rfl, by rw [hs, hI, eI1]; exact thr_thr I 0 _, hJ⟩ (by decide) dX5_isNet_27
    · skip
      refine lv_iconst (v := nI 1) hx hb dX5_isNet_18 (by decide) ?_
      refine lv_goto (tgt := 23) hx hb dX5_isNet_19 (by decide) ?_
      refine lv_iconst (v := nI 1) hx hb dX5_isNet_23 (by decide) ?_
      refine w_2 (y := .int (bI true)) rfl ?_
      refine p_cVi C hml hg hW (c_X5_right l D cy L ad G I1 J hS true 1 0 (by rw [eI1, va_up_self]; rfl) (by omega) (by omega)) (cwV 2 C.2.2.2.1 gX5_isNet_X5_right rfl rfl rfl (by decide +kernel) ⟨Nat.le_of_ble_eq_true rfl, Nat.le_of_ble_eq_true rfl⟩) (p_recv C hW (hS.1 64 (by omega) (by omega)) (pF_5 (by decide)) rfl) rfl hl.1 rfl (Nat.le_of_ble_eq_true rfl) dX5_isNet_24 (Nat.le_of_ble_eq_true rfl) (Nat.le_of_ble_eq_true rfl) (fun v10 I11 J12 H locs hp hW => ?_)
      obtain ⟨hv, hI, hJ⟩ := hp
      subst v10
      obtain ⟨i, hi, hxi, -⟩ := pk_mu hc_2 hc_6 (by omega)
      subst hxi
      have hs : ixN (nI i) cn = some i := ixN_nI hi (by omega)
      exact ret _ _ _ _ _ _ _ _ _ (Nat.le_of_ble_eq_true rfl) (Nat.le_of_ble_eq_true rfl) hW ⟨by rw [hs]; rfl, by rw [hs, hI, eI1]; exact thr_thr I 0 _, hJ⟩ (by decide) dX5_isNet_27
abbrev rmX5_isWalk : Room := { frames := 1, cells := 0, slots := 0, locals := 22 }
set_option maxHeartbeats 4000000 in
set_option maxRecDepth 100000 in
theorem c_X5_isWalk (l : Launch) (D : va_G) (cy : Nat → ClassId) (L : List Nat) (ad : Nat → Nat) (G : mG) (I : mI) (J : mJ) (hS : rSh L G) (cw : Nat) (hc : I 64 2 = nI cw) (h12 : cw ≤ 12) (x : Int32) : pMet l yX5_isWalk wsX5_isWalk rmX5_isWalk D cy L ad G I J [.ref (ad 64), .int x] (qI (fun v I' J' => v = bI (ixN x cw).isSome ∧ I' = thr I (if (ixN x cw).isSome then 0 else 1) ∧ J' = J) D cy L ad G) := by
  refine pMet.ofZ (cc := cX5_isWalk) (maxL := 2) (by decide +kernel) rfl (Nat.le_of_ble_eq_true rfl) ?_
  intro p e R s m args below meth c A Q C hml hR hg ret hW ls hl
  subst hR
  have C : Cx p s m args c cX5_isWalk RX5 wsX5_isWalk D cy A := C
  have hx := C.1
  have hb := C.2.1
  have lk45 := C.2.2.2.1 (.fieldLink RX5 45 "WaveWalkModel" "thrown" "I") (by decide +kernel)
  have lk75 := C.2.2.2.1 (.fieldLink RX5 75 "WaveWalkModel" "walks" "I") (by decide +kernel)
  have hinX5 : ∀ w ∈ wsX50, w ∈ wsX5_isWalk := by decide +kernel
  have hl : lv_has ls 2 [(0, .ref (ad 64)), (1, .int x)] := hl
  refine lv_aload_n hx hb dX5_isWalk_0 rfl (lv_at hl 0 rfl) ?_
  refine lv_iconst (v := nI 0) hx hb dX5_isWalk_1 (by decide) ?_
  refine s_X5_0 C hinX5 hW (hS.1 64 (by omega) (by omega)) (by decide) lk45 dX5_isWalk_2 (fun H locs hW => ?_)
  obtain ⟨I1, eI1⟩ : ∃ z, z = va_up I 64 (upd (I 64) 0 (nI 0)) := ⟨_, rfl⟩
  rw [← eI1] at hW
  refine lv_aload_n hx hb dX5_isWalk_5 rfl (lv_at hl 0 rfl) ?_
  refine lv_iload_n hx hb dX5_isWalk_6 rfl (lv_at hl 1 rfl) ?_
  refine lv_if_lt (tgt := 22) hx hb dX5_isWalk_7 (by decide) (fun hc_2 => ?_) (fun hc_2 => ?_)
  · skip
    refine lv_iconst (v := nI 0) hx hb dX5_isWalk_22 (by decide) ?_
    refine lv_iconst (v := nI 1) hx hb dX5_isWalk_23 (by decide) ?_
    refine w_2 (y := .int (bI false)) rfl ?_
    refine p_cVi C hml hg hW (c_X5_right l D cy L ad G I1 J hS false 1 0 (by rw [eI1, va_up_self]; rfl) (by omega) (by omega)) (cwV 2 C.2.2.2.1 gX5_isWalk_X5_right rfl rfl rfl (by decide +kernel) ⟨Nat.le_of_ble_eq_true rfl, Nat.le_of_ble_eq_true rfl⟩) (p_recv C hW (hS.1 64 (by omega) (by omega)) (pF_5 (by decide)) rfl) rfl hl.1 rfl (Nat.le_of_ble_eq_true rfl) dX5_isWalk_24 (Nat.le_of_ble_eq_true rfl) (Nat.le_of_ble_eq_true rfl) (fun v3 I4 J5 H locs hp hW => ?_)
    obtain ⟨hv, hI, hJ⟩ := hp
    subst v3
    have hs : ixN x cw = none := ixN_neg hc_2
    exact ret _ _ _ _ _ _ _ _ _ (Nat.le_of_ble_eq_true rfl) (Nat.le_of_ble_eq_true rfl) hW ⟨by rw [hs]; rfl, by rw [hs, hI, eI1]; exact thr_thr I 0 _, hJ⟩ (by decide) dX5_isWalk_27
  · skip
    refine lv_iload_n hx hb dX5_isWalk_10 rfl (lv_at hl 1 rfl) ?_
    refine lv_aload_n hx hb dX5_isWalk_11 rfl (lv_at hl 0 rfl) ?_
    refine g_X5_2 C hinX5 hW (hS.1 64 (by omega) (by omega)) (by decide) lk75 dX5_isWalk_12 ?_
    refine w_top (y := .int (nI cw)) (by rw [eI1, va_up_self, pk_un (by decide), hc]) ?_
    refine lv_icmp_ge (tgt := 22) hx hb dX5_isWalk_15 (by decide) (fun hc_6 => ?_) (fun hc_6 => ?_)
    · skip
      refine lv_iconst (v := nI 0) hx hb dX5_isWalk_22 (by decide) ?_
      refine lv_iconst (v := nI 1) hx hb dX5_isWalk_23 (by decide) ?_
      refine w_2 (y := .int (bI false)) rfl ?_
      refine p_cVi C hml hg hW (c_X5_right l D cy L ad G I1 J hS false 1 0 (by rw [eI1, va_up_self]; rfl) (by omega) (by omega)) (cwV 2 C.2.2.2.1 gX5_isWalk_X5_right rfl rfl rfl (by decide +kernel) ⟨Nat.le_of_ble_eq_true rfl, Nat.le_of_ble_eq_true rfl⟩) (p_recv C hW (hS.1 64 (by omega) (by omega)) (pF_5 (by decide)) rfl) rfl hl.1 rfl (Nat.le_of_ble_eq_true rfl) dX5_isWalk_24 (Nat.le_of_ble_eq_true rfl) (Nat.le_of_ble_eq_true rfl) (fun v7 I8 J9 H locs hp hW => ?_)
      obtain ⟨hv, hI, hJ⟩ := hp
      subst v7
      have hs : ixN x cw = none := ixN_ge hc_6 (by omega)
      exact ret _ _ _ _ _ _ _ _ _ (Nat.le_of_ble_eq_true rfl) (Nat.le_of_ble_eq_true rfl) hW ⟨by rw [hs]; rfl, by rw [hs, hI, eI1]; exact thr_thr I 0 _, hJ⟩ (by decide) dX5_isWalk_27
    · skip
      refine lv_iconst (v := nI 1) hx hb dX5_isWalk_18 (by decide) ?_
      refine lv_goto (tgt := 23) hx hb dX5_isWalk_19 (by decide) ?_
      refine lv_iconst (v := nI 1) hx hb dX5_isWalk_23 (by decide) ?_
      refine w_2 (y := .int (bI true)) rfl ?_
      refine p_cVi C hml hg hW (c_X5_right l D cy L ad G I1 J hS true 1 0 (by rw [eI1, va_up_self]; rfl) (by omega) (by omega)) (cwV 2 C.2.2.2.1 gX5_isWalk_X5_right rfl rfl rfl (by decide +kernel) ⟨Nat.le_of_ble_eq_true rfl, Nat.le_of_ble_eq_true rfl⟩) (p_recv C hW (hS.1 64 (by omega) (by omega)) (pF_5 (by decide)) rfl) rfl hl.1 rfl (Nat.le_of_ble_eq_true rfl) dX5_isWalk_24 (Nat.le_of_ble_eq_true rfl) (Nat.le_of_ble_eq_true rfl) (fun v10 I11 J12 H locs hp hW => ?_)
      obtain ⟨hv, hI, hJ⟩ := hp
      subst v10
      obtain ⟨i, hi, hxi, -⟩ := pk_mu hc_2 hc_6 (by omega)
      subst hxi
      have hs : ixN (nI i) cw = some i := ixN_nI hi (by omega)
      exact ret _ _ _ _ _ _ _ _ _ (Nat.le_of_ble_eq_true rfl) (Nat.le_of_ble_eq_true rfl) hW ⟨by rw [hs]; rfl, by rw [hs, hI, eI1]; exact thr_thr I 0 _, hJ⟩ (by decide) dX5_isWalk_27
abbrev rmX5_isSmall : Room := { frames := 0, cells := 0, slots := 0, locals := 0 }
set_option maxHeartbeats 4000000 in
set_option maxRecDepth 100000 in
theorem c_X5_isSmall (l : Launch) (D : va_G) (cy : Nat → ClassId) (L : List Nat) (ad : Nat → Nat) (G : mG) (I : mI) (J : mJ) (z : Int64) : pMet l yX5_isSmall wsX5_isSmall rmX5_isSmall D cy L ad G I J [.long z] (qI (fun v I' J' => v = bI (told z) ∧ I' = I ∧ J' = J) D cy L ad G) := by
  refine pMet.ofZ (cc := cX5_isSmall) (maxL := 2) (by decide +kernel) rfl (Nat.le_of_ble_eq_true rfl) ?_
  intro p e R s m args below meth c A Q C hml hR hg ret hW ls hl
  subst hR
  have C : Cx p s m args c cX5_isSmall RX5 wsX5_isSmall D cy A := C
  have hx := C.1
  have hb := C.2.1
  have ck78 := C.2.2.2.1 (.constantLong RX5 78 (-100)) (by decide +kernel)
  have ck80 := C.2.2.2.1 (.constantLong RX5 80 (100)) (by decide +kernel)
  have hl : lv_has ls 2 [(0, .long z)] := hl
  refine lv_lload_n hx hb dX5_isSmall_0 rfl (lv_at hl 0 rfl) ?_
  refine lv_ldc2 hx hb C.2.2.1 ck78 dX5_isSmall_1 ?_
  refine l_lt (tgt := 20) hx hb dX5_isSmall_4 dX5_isSmall_5 (by decide) (fun hc_1 => ?_) (fun hc_1 => ?_)
  · skip
    refine lv_iconst (v := nI 0) hx hb dX5_isSmall_20 (by decide) ?_
    exact ret _ _ _ _ _ _ _ _ _ (Nat.le_of_ble_eq_true rfl) (Nat.le_of_ble_eq_true rfl) hW ⟨by rw [show told z = false from decide_eq_false (fun y => by have := y.1; rw [Int64.le_iff_toInt_le] at this; rw [Int64.lt_iff_toInt_lt] at hc_1; omega)]; rfl, rfl, rfl⟩ (by decide) dX5_isSmall_21
  · skip
    refine lv_lload_n hx hb dX5_isSmall_8 rfl (lv_at hl 0 rfl) ?_
    refine lv_ldc2 hx hb C.2.2.1 ck80 dX5_isSmall_9 ?_
    refine l_gt (tgt := 20) hx hb dX5_isSmall_12 dX5_isSmall_13 (by decide) (fun hc_2 => ?_) (fun hc_2 => ?_)
    · skip
      refine lv_iconst (v := nI 0) hx hb dX5_isSmall_20 (by decide) ?_
      exact ret _ _ _ _ _ _ _ _ _ (Nat.le_of_ble_eq_true rfl) (Nat.le_of_ble_eq_true rfl) hW ⟨by rw [show told z = false from decide_eq_false (fun y => by have := y.2; rw [Int64.le_iff_toInt_le] at this; rw [Int64.lt_iff_toInt_lt] at hc_2; omega)]; rfl, rfl, rfl⟩ (by decide) dX5_isSmall_21
    · skip
      refine lv_iconst (v := nI 1) hx hb dX5_isSmall_16 (by decide) ?_
      refine lv_goto (tgt := 21) hx hb dX5_isSmall_17 (by decide) ?_
      exact ret _ _ _ _ _ _ _ _ _ (Nat.le_of_ble_eq_true rfl) (Nat.le_of_ble_eq_true rfl) hW ⟨by rw [show told z = true from decide_eq_true ⟨Int64.not_lt.mp hc_1, Int64.not_lt.mp hc_2⟩]; rfl, rfl, rfl⟩ (by decide) dX5_isSmall_21
abbrev rmX5_isMany : Room := { frames := 0, cells := 0, slots := 0, locals := 0 }
set_option maxHeartbeats 4000000 in
set_option maxRecDepth 100000 in
theorem c_X5_isMany (l : Launch) (D : va_G) (cy : Nat → ClassId) (L : List Nat) (ad : Nat → Nat) (G : mG) (I : mI) (J : mJ) (x : Int32) : pMet l yX5_isMany wsX5_isMany rmX5_isMany D cy L ad G I J [.int x] (qI (fun v I' J' => v = bI (ixN x 61).isSome ∧ I' = I ∧ J' = J) D cy L ad G) := by
  refine pMet.ofZ (cc := cX5_isMany) (maxL := 1) (by decide +kernel) rfl (Nat.le_of_ble_eq_true rfl) ?_
  intro p e R s m args below meth c A Q C hml hR hg ret hW ls hl
  subst hR
  have C : Cx p s m args c cX5_isMany RX5 wsX5_isMany D cy A := C
  have hx := C.1
  have hb := C.2.1
  have hl : lv_has ls 1 [(0, .int x)] := hl
  refine lv_iload_n hx hb dX5_isMany_0 rfl (lv_at hl 0 rfl) ?_
  refine lv_if_lt (tgt := 14) hx hb dX5_isMany_1 (by decide) (fun hc_1 => ?_) (fun hc_1 => ?_)
  · skip
    refine lv_iconst (v := nI 0) hx hb dX5_isMany_14 (by decide) ?_
    have hs : ixN x 61 = none := ixN_neg hc_1
    exact ret _ _ _ _ _ _ _ _ _ (Nat.le_of_ble_eq_true rfl) (Nat.le_of_ble_eq_true rfl) hW ⟨by rw [hs]; rfl, rfl, rfl⟩ (by decide) dX5_isMany_15
  · skip
    refine lv_iload_n hx hb dX5_isMany_4 rfl (lv_at hl 0 rfl) ?_
    refine lv_bipush (v := nI 60) hx hb dX5_isMany_5 (by decide) ?_
    refine lv_icmp_gt (tgt := 14) hx hb dX5_isMany_7 (by decide) (fun hc_2 => ?_) (fun hc_2 => ?_)
    · skip
      refine lv_iconst (v := nI 0) hx hb dX5_isMany_14 (by decide) ?_
      have hs : ixN x 61 = none := ixN_ge (n := 61) (by have h := hc_2; rw [Int32.lt_iff_toInt_lt, nI_toInt (by omega)] at h; rw [Int32.le_iff_toInt_le, nI_toInt (by omega)]; omega) (by omega)
      exact ret _ _ _ _ _ _ _ _ _ (Nat.le_of_ble_eq_true rfl) (Nat.le_of_ble_eq_true rfl) hW ⟨by rw [hs]; rfl, rfl, rfl⟩ (by decide) dX5_isMany_15
    · skip
      refine lv_iconst (v := nI 1) hx hb dX5_isMany_10 (by decide) ?_
      refine lv_goto (tgt := 15) hx hb dX5_isMany_11 (by decide) ?_
      obtain ⟨i, hi, hxi, -⟩ := pk_mu (L := 61) hc_1 (by have h := hc_2; rw [Int32.lt_iff_toInt_lt, nI_toInt (by omega)] at h; rw [Int32.le_iff_toInt_le, nI_toInt (by omega)]; omega) (by omega)
      subst hxi
      have hs : ixN (nI i) 61 = some i := ixN_nI hi (by omega)
      exact ret _ _ _ _ _ _ _ _ _ (Nat.le_of_ble_eq_true rfl) (Nat.le_of_ble_eq_true rfl) hW ⟨by rw [hs]; rfl, rfl, rfl⟩ (by decide) dX5_isMany_15
abbrev rmX5_thrown : Room := { frames := 0, cells := 0, slots := 0, locals := 0 }
set_option maxHeartbeats 4000000 in
set_option maxRecDepth 100000 in
theorem c_X5_thrown (l : Launch) (D : va_G) (cy : Nat → ClassId) (L : List Nat) (ad : Nat → Nat) (G : mG) (I : mI) (J : mJ) (hS : rSh L G)  : pMet l yX5_thrown wsX5_thrown rmX5_thrown D cy L ad G I J [.ref (ad 64)] (qI (fun v I' J' => v = I 64 0 ∧ I' = I ∧ J' = J) D cy L ad G) := by
  refine pMet.ofI (cc := cX5_thrown) (maxL := 1) (by decide +kernel) rfl (Nat.le_of_ble_eq_true rfl) ?_
  intro p e R s m args below meth c A Q C hml hR hg ret hW ls hl
  subst hR
  have C : Cx p s m args c cX5_thrown RX5 wsX5_thrown D cy A := C
  have hx := C.1
  have hb := C.2.1
  have lk45 := C.2.2.2.1 (.fieldLink RX5 45 "WaveWalkModel" "thrown" "I") (by decide +kernel)
  have hinX5 : ∀ w ∈ wsX50, w ∈ wsX5_thrown := by decide +kernel
  have hl : lv_has ls 1 [(0, .ref (ad 64))] := hl
  refine lv_aload_n hx hb dX5_thrown_0 rfl (lv_at hl 0 rfl) ?_
  refine g_X5_0 C hinX5 hW (hS.1 64 (by omega) (by omega)) (by decide) lk45 dX5_thrown_1 ?_
  exact ret _ _ _ _ _ _ _ _ _ (Nat.le_of_ble_eq_true rfl) (Nat.le_of_ble_eq_true rfl) hW ⟨rfl, rfl, rfl⟩ dX5_thrown_4
abbrev rmX5_scale : Room := { frames := 0, cells := 0, slots := 0, locals := 0 }
set_option maxHeartbeats 4000000 in
set_option maxRecDepth 100000 in
theorem c_X5_scale (l : Launch) (D : va_G) (cy : Nat → ClassId) (L : List Nat) (ad : Nat → Nat) (G : mG) (I : mI) (J : mJ) (hS : rSh L G) (w n dr : Nat) (hw : w < 13) (hno : I 70 w = nI n) (hn6 : n < 6) (hdr : I 66 n = nI dr) (hd4 : dr = 2 ∨ dr = 3 ∨ dr = 4) : pMet l yX5_scale wsX5_scale rmX5_scale D cy L ad G I J [.ref (ad 64), .int (nI w)] (qI (fun v I' J' => v = nI (scN dr) ∧ I' = I ∧ J' = J) D cy L ad G) := by
  refine pMet.ofI (cc := cX5_scale) (maxL := 3) (by decide +kernel) rfl (Nat.le_of_ble_eq_true rfl) ?_
  intro p e R s m args below meth c A Q C hml hR hg ret hW ls hl
  subst hR
  have C : Cx p s m args c cX5_scale RX5 wsX5_scale D cy A := C
  have hx := C.1
  have hb := C.2.1
  have lk13 := C.2.2.2.1 (.fieldLink RX5 13 "WaveWalkModel" "doors" "[I") (by decide +kernel)
  have lk26 := C.2.2.2.1 (.fieldLink RX5 26 "WaveWalkModel" "netOf" "[I") (by decide +kernel)
  have hinX5 : ∀ w ∈ wsX50, w ∈ wsX5_scale := by decide +kernel
  have hl : lv_has ls 3 [(0, .ref (ad 64)), (1, .int (nI w))] := hl
  refine lv_aload_n hx hb dX5_scale_0 rfl (lv_at hl 0 rfl) ?_
  refine g_X5_4 C hinX5 hW (hS.1 64 (by omega) (by omega)) (by decide) (hS.2 4 (by omega) (by omega)) lk13 dX5_scale_1 ?_
  refine lv_aload_n hx hb dX5_scale_4 rfl (lv_at hl 0 rfl) ?_
  refine g_X5_8 C hinX5 hW (hS.1 64 (by omega) (by omega)) (by decide) (hS.2 8 (by omega) (by omega)) lk26 dX5_scale_5 ?_
  refine lv_iload_n hx hb dX5_scale_8 rfl (lv_at hl 1 rfl) ?_
  refine p_iald C hW (hS.1 70 (by omega) (by omega)) (by decide) (k := w) rfl (by rw [show ln 70 = 13 by decide]; omega) dX5_scale_9 ?_
  refine w_top (y := .int (nI n)) (by rw [hno]) ?_
  refine p_iald C hW (hS.1 66 (by omega) (by omega)) (by decide) (k := n) rfl (by rw [show ln 66 = 6 by decide]; omega) dX5_scale_10 ?_
  refine w_top (y := .int (nI dr)) (by rw [hdr]) ?_
  refine lv_istore_n (lv' := [(2, .int (nI dr)), (0, .ref (ad 64)), (1, .int (nI w))]) hx hb dX5_scale_11 rfl hl (by decide) rfl (fun ls hl => ?_)
  refine lv_iload_n hx hb dX5_scale_12 rfl (lv_at hl 0 rfl) ?_
  refine lv_iconst (v := nI 2) hx hb dX5_scale_13 (by decide) ?_
  refine n_icmp_ne (tgt := 21) hx hb (by omega) (by omega) dX5_scale_14 (by decide) (fun hc_1 => ?_) (fun hc_1 => ?_)
  · skip
    refine lv_iload_n hx hb dX5_scale_21 rfl (lv_at hl 0 rfl) ?_
    refine lv_iconst (v := nI 3) hx hb dX5_scale_22 (by decide) ?_
    refine n_icmp_ne (tgt := 31) hx hb (by omega) (by omega) dX5_scale_23 (by decide) (fun hc_2 => ?_) (fun hc_2 => ?_)
    · skip
      refine lv_iconst (v := nI 4) hx hb dX5_scale_31 (by decide) ?_
      exact ret _ _ _ _ _ _ _ _ _ (Nat.le_of_ble_eq_true rfl) (Nat.le_of_ble_eq_true rfl) hW ⟨by rw [show dr = 4 by omega]; rfl, rfl, rfl⟩ dX5_scale_32
    · skip
      refine lv_bipush (v := nI 9) hx hb dX5_scale_26 (by decide) ?_
      refine lv_goto (tgt := 32) hx hb dX5_scale_28 (by decide) ?_
      exact ret _ _ _ _ _ _ _ _ _ (Nat.le_of_ble_eq_true rfl) (Nat.le_of_ble_eq_true rfl) hW ⟨by rw [show dr = 3 by omega]; rfl, rfl, rfl⟩ dX5_scale_32
  · skip
    refine lv_iconst (v := nI 2) hx hb dX5_scale_17 (by decide) ?_
    refine lv_goto (tgt := 32) hx hb dX5_scale_18 (by decide) ?_
    exact ret _ _ _ _ _ _ _ _ _ (Nat.le_of_ble_eq_true rfl) (Nat.le_of_ble_eq_true rfl) hW ⟨by rw [show dr = 2 by omega]; rfl, rfl, rfl⟩ dX5_scale_32
abbrev rmX5_isDoor : Room := { frames := 1, cells := 0, slots := 0, locals := 22 }
set_option maxHeartbeats 4000000 in
set_option maxRecDepth 100000 in
theorem c_X5_isDoor (l : Launch) (D : va_G) (cy : Nat → ClassId) (L : List Nat) (ad : Nat → Nat) (G : mG) (I : mI) (J : mJ) (hS : rSh L G) (n pl dr : Nat) (hn6 : n < 6) (hpl : I 65 n = nI pl) (hdr : I 66 n = nI dr) (hp12 : pl ≤ 12) (hd4 : dr ≤ 4) (ht : I 64 0 = nI 0) (xp xd : Int32) : pMet l yX5_isDoor wsX5_isDoor rmX5_isDoor D cy L ad G I J [.ref (ad 64), .int (nI n), .int xp, .int xd] (qI (fun v I' J' => v = bI ((ixN xp pl).isSome && (ixN xd dr).isSome) ∧ I' = thr I (if ((ixN xp pl).isSome && (ixN xd dr).isSome) = true then 0 else 1) ∧ J' = J) D cy L ad G) := by
  refine pMet.ofZ (cc := cX5_isDoor) (maxL := 4) (by decide +kernel) rfl (Nat.le_of_ble_eq_true rfl) ?_
  intro p e R s m args below meth c A Q C hml hR hg ret hW ls hl
  subst hR
  have C : Cx p s m args c cX5_isDoor RX5 wsX5_isDoor D cy A := C
  have hx := C.1
  have hb := C.2.1
  have lk7 := C.2.2.2.1 (.fieldLink RX5 7 "WaveWalkModel" "places" "[I") (by decide +kernel)
  have lk13 := C.2.2.2.1 (.fieldLink RX5 13 "WaveWalkModel" "doors" "[I") (by decide +kernel)
  have hinX5 : ∀ w ∈ wsX50, w ∈ wsX5_isDoor := by decide +kernel
  have hl : lv_has ls 4 [(0, .ref (ad 64)), (1, .int (nI n)), (2, .int xp), (3, .int xd)] := hl
  refine lv_aload_n hx hb dX5_isDoor_0 rfl (lv_at hl 0 rfl) ?_
  refine lv_iload_n hx hb dX5_isDoor_1 rfl (lv_at hl 2 rfl) ?_
  refine lv_if_lt (tgt := 33) hx hb dX5_isDoor_2 (by decide) (fun hc_1 => ?_) (fun hc_1 => ?_)
  · skip
    refine lv_iconst (v := nI 0) hx hb dX5_isDoor_33 (by decide) ?_
    refine lv_iconst (v := nI 1) hx hb dX5_isDoor_34 (by decide) ?_
    refine w_2 (y := .int (bI false)) rfl ?_
    refine p_cVi C hml hg hW (c_X5_right l D cy L ad G I J hS false 1 0 ht (by omega) (by omega)) (cwV 2 C.2.2.2.1 gX5_isDoor_X5_right rfl rfl rfl (by decide +kernel) ⟨Nat.le_of_ble_eq_true rfl, Nat.le_of_ble_eq_true rfl⟩) (p_recv C hW (hS.1 64 (by omega) (by omega)) (pF_5 (by decide)) rfl) rfl hl.1 rfl (Nat.le_of_ble_eq_true rfl) dX5_isDoor_35 (Nat.le_of_ble_eq_true rfl) (Nat.le_of_ble_eq_true rfl) (fun v2 I3 J4 H locs hp hW => ?_)
    obtain ⟨hv, hI, hJ⟩ := hp
    subst v2
    have hs : ((ixN xp pl).isSome && (ixN xd dr).isSome) = false := by rw [show ixN xp pl = none from ixN_neg hc_1]; simp
    exact ret _ _ _ _ _ _ _ _ _ (Nat.le_of_ble_eq_true rfl) (Nat.le_of_ble_eq_true rfl) hW ⟨by rw [hs]; rfl, by rw [hs, hI]; rfl, hJ⟩ (by decide) dX5_isDoor_38
  · skip
    refine lv_iload_n hx hb dX5_isDoor_5 rfl (lv_at hl 2 rfl) ?_
    refine lv_aload_n hx hb dX5_isDoor_6 rfl (lv_at hl 0 rfl) ?_
    refine g_X5_3 C hinX5 hW (hS.1 64 (by omega) (by omega)) (by decide) (hS.2 3 (by omega) (by omega)) lk7 dX5_isDoor_7 ?_
    refine lv_iload_n hx hb dX5_isDoor_10 rfl (lv_at hl 1 rfl) ?_
    refine p_iald C hW (hS.1 65 (by omega) (by omega)) (by decide) (k := n) rfl (by rw [show ln 65 = 6 by decide]; omega) dX5_isDoor_11 ?_
    refine w_top (y := .int (nI pl)) (by rw [hpl]) ?_
    refine lv_icmp_ge (tgt := 33) hx hb dX5_isDoor_12 (by decide) (fun hc_5 => ?_) (fun hc_5 => ?_)
    · skip
      refine lv_iconst (v := nI 0) hx hb dX5_isDoor_33 (by decide) ?_
      refine lv_iconst (v := nI 1) hx hb dX5_isDoor_34 (by decide) ?_
      refine w_2 (y := .int (bI false)) rfl ?_
      refine p_cVi C hml hg hW (c_X5_right l D cy L ad G I J hS false 1 0 ht (by omega) (by omega)) (cwV 2 C.2.2.2.1 gX5_isDoor_X5_right rfl rfl rfl (by decide +kernel) ⟨Nat.le_of_ble_eq_true rfl, Nat.le_of_ble_eq_true rfl⟩) (p_recv C hW (hS.1 64 (by omega) (by omega)) (pF_5 (by decide)) rfl) rfl hl.1 rfl (Nat.le_of_ble_eq_true rfl) dX5_isDoor_35 (Nat.le_of_ble_eq_true rfl) (Nat.le_of_ble_eq_true rfl) (fun v6 I7 J8 H locs hp hW => ?_)
      obtain ⟨hv, hI, hJ⟩ := hp
      subst v6
      have hs : ((ixN xp pl).isSome && (ixN xd dr).isSome) = false := by rw [show ixN xp pl = none from ixN_ge hc_5 (by omega)]; simp
      exact ret _ _ _ _ _ _ _ _ _ (Nat.le_of_ble_eq_true rfl) (Nat.le_of_ble_eq_true rfl) hW ⟨by rw [hs]; rfl, by rw [hs, hI]; rfl, hJ⟩ (by decide) dX5_isDoor_38
    · skip
      refine lv_iload_n hx hb dX5_isDoor_15 rfl (lv_at hl 3 rfl) ?_
      refine lv_if_lt (tgt := 33) hx hb dX5_isDoor_16 (by decide) (fun hc_9 => ?_) (fun hc_9 => ?_)
      · skip
        refine lv_iconst (v := nI 0) hx hb dX5_isDoor_33 (by decide) ?_
        refine lv_iconst (v := nI 1) hx hb dX5_isDoor_34 (by decide) ?_
        refine w_2 (y := .int (bI false)) rfl ?_
        refine p_cVi C hml hg hW (c_X5_right l D cy L ad G I J hS false 1 0 ht (by omega) (by omega)) (cwV 2 C.2.2.2.1 gX5_isDoor_X5_right rfl rfl rfl (by decide +kernel) ⟨Nat.le_of_ble_eq_true rfl, Nat.le_of_ble_eq_true rfl⟩) (p_recv C hW (hS.1 64 (by omega) (by omega)) (pF_5 (by decide)) rfl) rfl hl.1 rfl (Nat.le_of_ble_eq_true rfl) dX5_isDoor_35 (Nat.le_of_ble_eq_true rfl) (Nat.le_of_ble_eq_true rfl) (fun v10 I11 J12 H locs hp hW => ?_)
        obtain ⟨hv, hI, hJ⟩ := hp
        subst v10
        have hs : ((ixN xp pl).isSome && (ixN xd dr).isSome) = false := by rw [show ixN xd dr = none from ixN_neg hc_9]; simp
        exact ret _ _ _ _ _ _ _ _ _ (Nat.le_of_ble_eq_true rfl) (Nat.le_of_ble_eq_true rfl) hW ⟨by rw [hs]; rfl, by rw [hs, hI]; rfl, hJ⟩ (by decide) dX5_isDoor_38
      · skip
        refine lv_iload_n hx hb dX5_isDoor_19 rfl (lv_at hl 3 rfl) ?_
        refine lv_aload_n hx hb dX5_isDoor_20 rfl (lv_at hl 0 rfl) ?_
        refine g_X5_4 C hinX5 hW (hS.1 64 (by omega) (by omega)) (by decide) (hS.2 4 (by omega) (by omega)) lk13 dX5_isDoor_21 ?_
        refine lv_iload_n hx hb dX5_isDoor_24 rfl (lv_at hl 1 rfl) ?_
        refine p_iald C hW (hS.1 66 (by omega) (by omega)) (by decide) (k := n) rfl (by rw [show ln 66 = 6 by decide]; omega) dX5_isDoor_25 ?_
        refine w_top (y := .int (nI dr)) (by rw [hdr]) ?_
        refine lv_icmp_ge (tgt := 33) hx hb dX5_isDoor_26 (by decide) (fun hc_13 => ?_) (fun hc_13 => ?_)
        · skip
          refine lv_iconst (v := nI 0) hx hb dX5_isDoor_33 (by decide) ?_
          refine lv_iconst (v := nI 1) hx hb dX5_isDoor_34 (by decide) ?_
          refine w_2 (y := .int (bI false)) rfl ?_
          refine p_cVi C hml hg hW (c_X5_right l D cy L ad G I J hS false 1 0 ht (by omega) (by omega)) (cwV 2 C.2.2.2.1 gX5_isDoor_X5_right rfl rfl rfl (by decide +kernel) ⟨Nat.le_of_ble_eq_true rfl, Nat.le_of_ble_eq_true rfl⟩) (p_recv C hW (hS.1 64 (by omega) (by omega)) (pF_5 (by decide)) rfl) rfl hl.1 rfl (Nat.le_of_ble_eq_true rfl) dX5_isDoor_35 (Nat.le_of_ble_eq_true rfl) (Nat.le_of_ble_eq_true rfl) (fun v14 I15 J16 H locs hp hW => ?_)
          obtain ⟨hv, hI, hJ⟩ := hp
          subst v14
          have hs : ((ixN xp pl).isSome && (ixN xd dr).isSome) = false := by rw [show ixN xd dr = none from ixN_ge hc_13 (by omega)]; simp
          exact ret _ _ _ _ _ _ _ _ _ (Nat.le_of_ble_eq_true rfl) (Nat.le_of_ble_eq_true rfl) hW ⟨by rw [hs]; rfl, by rw [hs, hI]; rfl, hJ⟩ (by decide) dX5_isDoor_38
        · skip
          refine lv_iconst (v := nI 1) hx hb dX5_isDoor_29 (by decide) ?_
          refine lv_goto (tgt := 34) hx hb dX5_isDoor_30 (by decide) ?_
          refine lv_iconst (v := nI 1) hx hb dX5_isDoor_34 (by decide) ?_
          refine w_2 (y := .int (bI true)) rfl ?_
          refine p_cVi C hml hg hW (c_X5_right l D cy L ad G I J hS true 1 0 ht (by omega) (by omega)) (cwV 2 C.2.2.2.1 gX5_isDoor_X5_right rfl rfl rfl (by decide +kernel) ⟨Nat.le_of_ble_eq_true rfl, Nat.le_of_ble_eq_true rfl⟩) (p_recv C hW (hS.1 64 (by omega) (by omega)) (pF_5 (by decide)) rfl) rfl hl.1 rfl (Nat.le_of_ble_eq_true rfl) dX5_isDoor_35 (Nat.le_of_ble_eq_true rfl) (Nat.le_of_ble_eq_true rfl) (fun v17 I18 J19 H locs hp hW => ?_)
          obtain ⟨hv, hI, hJ⟩ := hp
          subst v17
          obtain ⟨i1, hi1, hx1, -⟩ := pk_mu hc_1 hc_5 (by omega)
          obtain ⟨i2, hi2, hx2, -⟩ := pk_mu hc_9 hc_13 (by omega)
          have hs : ((ixN xp pl).isSome && (ixN xd dr).isSome) = true := by rw [hx1, hx2, ixN_nI hi1 (by omega), ixN_nI hi2 (by omega)]; rfl
          exact ret _ _ _ _ _ _ _ _ _ (Nat.le_of_ble_eq_true rfl) (Nat.le_of_ble_eq_true rfl) hW ⟨by rw [hs]; rfl, by rw [hs, hI]; rfl, hJ⟩ (by decide) dX5_isDoor_38
abbrev rmX5_isIn : Room := { frames := 1, cells := 0, slots := 0, locals := 22 }
set_option maxHeartbeats 4000000 in
set_option maxRecDepth 100000 in
theorem c_X5_isIn (l : Launch) (D : va_G) (cy : Nat → ClassId) (L : List Nat) (ad : Nat → Nat) (G : mG) (I : mI) (J : mJ) (hS : rSh L G) (w n pl : Nat) (hw : w < 13) (hno : I 70 w = nI n) (hn6 : n < 6) (hpl : I 65 n = nI pl) (hp12 : pl ≤ 12) (ht : I 64 0 = nI 0) (xp : Int32) : pMet l yX5_isIn wsX5_isIn rmX5_isIn D cy L ad G I J [.ref (ad 64), .int (nI w), .int xp] (qI (fun v I' J' => v = bI (ixN xp pl).isSome ∧ I' = thr I (if (ixN xp pl).isSome = true then 0 else 1) ∧ J' = J) D cy L ad G) := by
  refine pMet.ofZ (cc := cX5_isIn) (maxL := 3) (by decide +kernel) rfl (Nat.le_of_ble_eq_true rfl) ?_
  intro p e R s m args below meth c A Q C hml hR hg ret hW ls hl
  subst hR
  have C : Cx p s m args c cX5_isIn RX5 wsX5_isIn D cy A := C
  have hx := C.1
  have hb := C.2.1
  have lk7 := C.2.2.2.1 (.fieldLink RX5 7 "WaveWalkModel" "places" "[I") (by decide +kernel)
  have lk26 := C.2.2.2.1 (.fieldLink RX5 26 "WaveWalkModel" "netOf" "[I") (by decide +kernel)
  have hinX5 : ∀ w ∈ wsX50, w ∈ wsX5_isIn := by decide +kernel
  have hl : lv_has ls 3 [(0, .ref (ad 64)), (1, .int (nI w)), (2, .int xp)] := hl
  refine lv_aload_n hx hb dX5_isIn_0 rfl (lv_at hl 0 rfl) ?_
  refine lv_iload_n hx hb dX5_isIn_1 rfl (lv_at hl 2 rfl) ?_
  refine lv_if_lt (tgt := 24) hx hb dX5_isIn_2 (by decide) (fun hc_1 => ?_) (fun hc_1 => ?_)
  · skip
    refine lv_iconst (v := nI 0) hx hb dX5_isIn_24 (by decide) ?_
    refine lv_iconst (v := nI 1) hx hb dX5_isIn_25 (by decide) ?_
    refine w_2 (y := .int (bI false)) rfl ?_
    refine p_cVi C hml hg hW (c_X5_right l D cy L ad G I J hS false 1 0 ht (by omega) (by omega)) (cwV 2 C.2.2.2.1 gX5_isIn_X5_right rfl rfl rfl (by decide +kernel) ⟨Nat.le_of_ble_eq_true rfl, Nat.le_of_ble_eq_true rfl⟩) (p_recv C hW (hS.1 64 (by omega) (by omega)) (pF_5 (by decide)) rfl) rfl hl.1 rfl (Nat.le_of_ble_eq_true rfl) dX5_isIn_26 (Nat.le_of_ble_eq_true rfl) (Nat.le_of_ble_eq_true rfl) (fun v2 I3 J4 H locs hp hW => ?_)
    obtain ⟨hv, hI, hJ⟩ := hp
    subst v2
    have hs : ixN xp pl = none := ixN_neg hc_1
    exact ret _ _ _ _ _ _ _ _ _ (Nat.le_of_ble_eq_true rfl) (Nat.le_of_ble_eq_true rfl) hW ⟨by rw [hs]; rfl, by rw [hs, hI]; rfl, hJ⟩ (by decide) dX5_isIn_29
  · skip
    refine lv_iload_n hx hb dX5_isIn_5 rfl (lv_at hl 2 rfl) ?_
    refine lv_aload_n hx hb dX5_isIn_6 rfl (lv_at hl 0 rfl) ?_
    refine g_X5_3 C hinX5 hW (hS.1 64 (by omega) (by omega)) (by decide) (hS.2 3 (by omega) (by omega)) lk7 dX5_isIn_7 ?_
    refine lv_aload_n hx hb dX5_isIn_10 rfl (lv_at hl 0 rfl) ?_
    refine g_X5_8 C hinX5 hW (hS.1 64 (by omega) (by omega)) (by decide) (hS.2 8 (by omega) (by omega)) lk26 dX5_isIn_11 ?_
    refine lv_iload_n hx hb dX5_isIn_14 rfl (lv_at hl 1 rfl) ?_
    refine p_iald C hW (hS.1 70 (by omega) (by omega)) (by decide) (k := w) rfl (by rw [show ln 70 = 13 by decide]; omega) dX5_isIn_15 ?_
    refine w_top (y := .int (nI n)) (by rw [hno]) ?_
    refine p_iald C hW (hS.1 65 (by omega) (by omega)) (by decide) (k := n) rfl (by rw [show ln 65 = 6 by decide]; omega) dX5_isIn_16 ?_
    refine w_top (y := .int (nI pl)) (by rw [hpl]) ?_
    refine lv_icmp_ge (tgt := 24) hx hb dX5_isIn_17 (by decide) (fun hc_5 => ?_) (fun hc_5 => ?_)
    · skip
      refine lv_iconst (v := nI 0) hx hb dX5_isIn_24 (by decide) ?_
      refine lv_iconst (v := nI 1) hx hb dX5_isIn_25 (by decide) ?_
      refine w_2 (y := .int (bI false)) rfl ?_
      refine p_cVi C hml hg hW (c_X5_right l D cy L ad G I J hS false 1 0 ht (by omega) (by omega)) (cwV 2 C.2.2.2.1 gX5_isIn_X5_right rfl rfl rfl (by decide +kernel) ⟨Nat.le_of_ble_eq_true rfl, Nat.le_of_ble_eq_true rfl⟩) (p_recv C hW (hS.1 64 (by omega) (by omega)) (pF_5 (by decide)) rfl) rfl hl.1 rfl (Nat.le_of_ble_eq_true rfl) dX5_isIn_26 (Nat.le_of_ble_eq_true rfl) (Nat.le_of_ble_eq_true rfl) (fun v6 I7 J8 H locs hp hW => ?_)
      obtain ⟨hv, hI, hJ⟩ := hp
      subst v6
      have hs : ixN xp pl = none := ixN_ge hc_5 (by omega)
      exact ret _ _ _ _ _ _ _ _ _ (Nat.le_of_ble_eq_true rfl) (Nat.le_of_ble_eq_true rfl) hW ⟨by rw [hs]; rfl, by rw [hs, hI]; rfl, hJ⟩ (by decide) dX5_isIn_29
    · skip
      refine lv_iconst (v := nI 1) hx hb dX5_isIn_20 (by decide) ?_
      refine lv_goto (tgt := 25) hx hb dX5_isIn_21 (by decide) ?_
      refine lv_iconst (v := nI 1) hx hb dX5_isIn_25 (by decide) ?_
      refine w_2 (y := .int (bI true)) rfl ?_
      refine p_cVi C hml hg hW (c_X5_right l D cy L ad G I J hS true 1 0 ht (by omega) (by omega)) (cwV 2 C.2.2.2.1 gX5_isIn_X5_right rfl rfl rfl (by decide +kernel) ⟨Nat.le_of_ble_eq_true rfl, Nat.le_of_ble_eq_true rfl⟩) (p_recv C hW (hS.1 64 (by omega) (by omega)) (pF_5 (by decide)) rfl) rfl hl.1 rfl (Nat.le_of_ble_eq_true rfl) dX5_isIn_26 (Nat.le_of_ble_eq_true rfl) (Nat.le_of_ble_eq_true rfl) (fun v9 I10 J11 H locs hp hW => ?_)
      obtain ⟨hv, hI, hJ⟩ := hp
      subst v9
      obtain ⟨i1, hi1, hx1, -⟩ := pk_mu hc_1 hc_5 (by omega)
      have hs : ixN xp pl = some i1 := by rw [hx1]; exact ixN_nI hi1 (by omega)
      exact ret _ _ _ _ _ _ _ _ _ (Nat.le_of_ble_eq_true rfl) (Nat.le_of_ble_eq_true rfl) hW ⟨by rw [hs]; rfl, by rw [hs, hI]; rfl, hJ⟩ (by decide) dX5_isIn_29
