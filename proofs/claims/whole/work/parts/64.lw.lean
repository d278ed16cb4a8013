def hWk (cn cw : Nat) (σ : Ab) (x : Int32) (L : List Nat) (ad : Nat → Nat) (G : mG) (I : mI) (J : mJ) (v : Int32) : nPost := fun L' ad' G' I' J' => (∀ r, r ∈ L → ad' r = ad r) ∧ (∀ r, r ∈ L → r ∈ L') ∧ clo L' G' ∧ (∀ r, 62 ≤ r → G' r = G r ∧ I' r = I r ∧ (r ≠ 80 → J' r = J r)) ∧ (ixN x cn = none → v = nI 1 ∧ L' = L ∧ G' = G ∧ cDt cn cw σ I' J') ∧ ∀ i, ixN x cn = some i → v = nI 0 ∧ (cw = 12 → J' 80 0 = -1 ∧ L' = L ∧ G' = G ∧ cDt cn cw σ I' J') ∧ (cw < 12 → J' 80 0 = lN cw ∧ cSh L' G' cn (cw + 1) (va_up (aNt σ) cw i) ∧ fre L' cn (cw + 1) ∧ cDt cn (cw + 1) (sWalk σ i cw) I' J')
abbrev rmL_walk : Room := { frames := 9, cells := 6, slots := 90, locals := 182 }
set_option maxHeartbeats 400000 in
set_option maxRecDepth 100000 in
theorem c_L_walk (l : Launch) (hst0 : l.stackTraces = false) (D : va_G) (cy : Nat → ClassId) (L : List Nat) (ad : Nat → Nat) (G : mG) (I : mI) (J : mJ) (hcl : clo L G) (cn cw : Nat) (σ : Ab) (hS : cSh L G cn cw (aNt σ)) (hf : fre L cn cw) (hA : aOk cn cw σ) (hD : cDt cn cw σ I J) (h80 : 80 ∈ L) (x : Int32) : pMet l yL_walk wsL_walk rmL_walk D cy L ad G I J [.ref (ad 0), .int x, .ref (ad 80)] (qNI (hWk cn cw σ x L ad G I J) D cy) := by
  refine pMet.ofHN (cc := cL_walk) (maxL := 4) (hh := [(0, 9, 12, 13)]) (by decide +kernel) rfl (Nat.le_of_ble_eq_true rfl) ?_
  intro p e R s m args below meth c A Q C hml hR htab hg ret hW ls hl
  subst hR
  have C : Cx p s m args c cL_walk RL wsL_walk D cy A := C
  have hx := C.1
  have hb := C.2.1
  have hl : lv_has ls 4 [(0, .ref (ad 0)), (1, .int x), (2, .ref (ad 80))] := hl
  have h6 := hA.1
  have h12 := hA.2.1
  have hcl9 := C.2.2.2.1 (.classLink RL 13 "java/util/NoSuchElementException") (by decide +kernel)
  refine lv_aload_n hx hb dL_walk_0 rfl (lv_at hl 2 rfl) ?_
  refine lv_iconst (v := nI 0) hx hb dL_walk_1 (by decide) ?_
  refine lv_aload_n hx hb dL_walk_2 rfl (lv_at hl 0 rfl) ?_
  refine lv_iload_n hx hb dL_walk_3 rfl (lv_at hl 1 rfl) ?_
  refine p_xVn C hml hg hW (c_X4_walk l hst0 D cy L ad G I J hcl cn cw σ hS hf hA hD x) (cwV 1 C.2.2.2.1 gL_walk_X4_walk rfl rfl rfl (by decide +kernel) ⟨Nat.le_of_ble_eq_true rfl, Nat.le_of_ble_eq_true rfl⟩) (p_recv C hW (hS.1 0 (by omega)) (pF_4 (by decide)) rfl) rfl hl.1 rfl (Nat.le_of_ble_eq_true rfl) dL_walk_4 (Nat.le_of_ble_eq_true rfl) (Nat.le_of_ble_eq_true rfl) (fun E ce q9 H locs hW hp g1 g2 g3 => ?_) (fun v1 Lw adw Gw Iw Jw H locs hp hW => ?_)
  · skip
    obtain ⟨hE, hc1⟩ := hp
    subst hE
    refine p_catN C hg htab rfl hcl9 (by decide) g1 g2 g3 ?_
    refine lv_astore_n (lv' := [(3, .ref q9), (0, .ref (ad 0)), (1, .int x), (2, .ref (ad 80))]) hx hb dL_walk_12 rfl hl (by decide) rfl (fun ls hl => ?_)
    refine lv_iconst (v := nI 1) hx hb dL_walk_13 (by decide) ?_
    exact ret _ _ _ _ _ _ _ _ _ _ _ _ (Nat.le_of_ble_eq_true rfl) (Nat.le_of_ble_eq_true rfl) hW ⟨fun _ _ => rfl, fun _ h => h, hcl, fun _ _ => ⟨rfl, rfl, fun _ => rfl⟩, fun _ => ⟨rfl, rfl, rfl, hD⟩, fun i z => (by rw [hc1] at z; cases z)⟩ dL_walk_14
  · skip
    obtain ⟨hag, hmm, hc2, hfr, i, hi, hw1, hw2⟩ := hp
    rw [← hag 80 h80]
    refine lv_i2l (v := v1.toInt64) hx hb dL_walk_7 rfl ?_
    refine p_last C hW (hmm 80 h80) (by decide) (k := 0) rfl (by rw [show ln 80 = 1 by decide]; omega) dL_walk_8 (fun H locs hW => ?_)
    obtain ⟨J1, eJ1⟩ : ∃ z, z = va_up Jw 80 (vp_updL (Jw 80) 0 v1.toInt64) := ⟨_, rfl⟩
    rw [← eJ1] at hW
    refine lv_goto (tgt := 15) hx hb dL_walk_9 (by decide) ?_
    refine lv_iconst (v := nI 0) hx hb dL_walk_15 (by decide) ?_
    have q1 : J1 80 0 = v1.toInt64 := by rw [eJ1, va_up_self]; rfl
    have q2 : ∀ r, r ≠ 80 → J1 r = Jw r := fun r h => by rw [eJ1, va_up_ne _ _ h]
    have q3 : ∀ {a b : Nat} {τ : Ab}, cDt a b τ Iw Jw → a ≤ 6 → b ≤ 12 → cDt a b τ Iw J1 := fun h h1 h2 => h.keep rfl (fun _ _ _ => rfl) (fun r _ _ => q2 r (by omega)) h1 h2
    exact ret _ _ _ _ _ _ _ _ _ _ _ _ (Nat.le_of_ble_eq_true rfl) (Nat.le_of_ble_eq_true rfl) hW ⟨hag, hmm, hc2, fun r hr => ⟨(hfr r hr).1, (hfr r hr).2.1, fun hne => by rw [q2 r hne]; exact (hfr r hr).2.2⟩, fun z => (by rw [hi] at z; cases z), fun i2 z => (by rw [hi] at z; cases z; exact ⟨rfl, fun hz => by obtain ⟨a, b, c9, d⟩ := hw1 hz; exact ⟨by rw [q1, a]; decide, b, c9, q3 d h6 h12⟩, fun hz => by obtain ⟨a, b, c9, d⟩ := hw2 hz; exact ⟨by rw [q1, a]; exact nI_l (by omega), b, c9, q3 d h6 (by omega)⟩⟩)⟩ dL_walk_16
