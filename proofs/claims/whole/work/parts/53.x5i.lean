/-- the reference's net -/
def rsN (cn cw : Nat) (σ : Ab) (p d v : Int32) (I I' : mI) (J J' : mJ) : Prop := rfr I I' J J' ∧ (spNet cn p d = none → v = -1 ∧ rDt cn cw σ I' J') ∧ ∀ pl dr, spNet cn p d = some (pl, dr) → v = nI cn ∧ rDt (cn + 1) cw (sNet σ cn pl dr) I' J'
/-- the reference's walk -/
def rsW (cn cw : Nat) (σ : Ab) (x v : Int32) (I I' : mI) (J J' : mJ) : Prop := rfr I I' J J' ∧ (ixN x cn = none → I' 64 0 = nI 1 ∧ rDt cn cw σ I' J') ∧ ∀ i, ixN x cn = some i → I' 64 0 = nI 0 ∧ (cw = 12 → v = -1 ∧ rDt cn cw σ I' J') ∧ (cw < 12 → v = nI cw ∧ rDt cn (cw + 1) (sWalk σ i cw) I' J')
theorem netc_ok {cn : Nat} {p d : Int32} (h6 : cn ≤ 6) (h : cn ≠ 6) (h1 : ¬ p < nI 1) (h2 : ¬ nI 12 < p) (h3 : ¬ d < nI 2) (h4 : d ≤ nI 4) : ∃ pl dr, spNet cn p d = some (pl, dr) := by
  rw [Int32.lt_iff_toInt_lt, nI_toInt (by omega)] at h1 h2 h3
  rw [Int32.le_iff_toInt_le, nI_toInt (by omega)] at h4
  exact ⟨_, _, if_pos ⟨by omega, by omega, by omega, by omega, by omega⟩⟩
theorem netc_no {cn : Nat} {p d : Int32} (h : cn = 6 ∨ p < nI 1 ∨ nI 12 < p ∨ d < nI 2 ∨ ¬ d ≤ nI 4) : spNet cn p d = none := by
  refine if_neg (fun z => ?_)
  rw [Int32.lt_iff_toInt_lt, nI_toInt (by omega), Int32.lt_iff_toInt_lt, nI_toInt (by omega), Int32.lt_iff_toInt_lt, nI_toInt (by omega), Int32.le_iff_toInt_le, nI_toInt (by omega)] at h
  omega
theorem rDt.net {cn cw : Nat} {σ : Ab} {I I' : mI} {J : mJ} (h : rDt cn cw σ I J) (h6 : cn < 6) (h12 : cw ≤ 12) (hA : ∀ j, j < cw → aNt σ j < cn) {pl dr : Nat} (h1 : I' 64 1 = nI (cn + 1)) (h2 : I' 64 2 = I 64 2) (h65 : I' 65 = upd (I 65) cn (nI pl)) (h66 : I' 66 = upd (I 66) cn (nI dr)) (hr : ∀ r, 68 ≤ r → r ≤ 71 → I' r = I r) (ht : ∀ c, c < 48 → I' 67 (48 * cn + c) = nI c) (ht2 : ∀ v, v ≠ cn → ∀ c, c < 48 → I' 67 (48 * v + c) = I 67 (48 * v + c)) : rDt (cn + 1) cw (sNet σ cn pl dr) I' J := by
  obtain ⟨a, b, c, d, e, f⟩ := h
  refine ⟨h1, h2.trans b, fun i hi => ?_, fun i h3 h4 => ?_, fun j hj => ?_, fun j h3 h4 => ?_⟩
  · by_cases ei : i = cn
    · subst ei
      have hd := d i (Nat.le_refl _) h6
      refine ⟨?_, ?_, fun k hk => ?_, ?_, fun k hk => ?_⟩
      · rw [h65, pk_us]; show _ = nI (va_up (aPl σ) i pl i); rw [va_up_self]
      · rw [h66, pk_us]; show _ = nI (va_up (aDr σ) i dr i); rw [va_up_self]
      · rw [ht k hk]; show _ = nI (va_up (aTo σ) i (fun k => k) i k); rw [va_up_self]
      · rw [hr 69 (by omega) (by omega), hd.1]; show _ = bI (va_up (aUs σ) i false i); rw [va_up_self]
      · rw [hr 68 (by omega) (by omega), hd.2 k hk]; show _ = bI (va_up (aMk σ) i (fun _ => false) i k); rw [va_up_self]
    · obtain ⟨c1, c2, c3, c4, c5⟩ := c i (by omega)
      refine ⟨?_, ?_, fun k hk => ?_, ?_, fun k hk => ?_⟩
      · rw [h65, pk_un ei, c1]; show _ = nI (va_up (aPl σ) cn pl i); rw [va_up_ne _ _ ei]
      · rw [h66, pk_un ei, c2]; show _ = nI (va_up (aDr σ) cn dr i); rw [va_up_ne _ _ ei]
      · rw [ht2 i ei k hk, c3 k hk]; show _ = nI (va_up (aTo σ) cn (fun k => k) i k); rw [va_up_ne _ _ ei]
      · rw [hr 69 (by omega) (by omega), c4]; show _ = bI (va_up (aUs σ) cn false i); rw [va_up_ne _ _ ei]
      · rw [hr 68 (by omega) (by omega), c5 k hk]; show _ = bI (va_up (aMk σ) cn (fun _ => false) i k); rw [va_up_ne _ _ ei]
  · rw [hr 69 (by omega) (by omega), hr 68 (by omega) (by omega)]; exact d i (by omega) h4
  · obtain ⟨e1, e2, e3⟩ := e j hj
    exact ⟨by rw [hr 70 (by omega) (by omega)]; exact e1, by rw [hr 71 (by omega) (by omega)]; exact e2, e3⟩
  · rw [hr 71 (by omega) (by omega)]; exact f j h3 h4
theorem rDt.walk {cn cw : Nat} {σ : Ab} {I I' : mI} {J : mJ} (h : rDt cn cw σ I J) (h6 : cn ≤ 6) (h12 : cw < 12) {i : Nat} (hi : i < cn) (h1 : I' 64 1 = I 64 1) (h2 : I' 64 2 = nI (cw + 1)) (h69 : I' 69 = upd (I 69) i (bI true)) (h70 : I' 70 = upd (I 70) cw (nI i)) (hr : ∀ r, 65 ≤ r → r ≤ 68 → I' r = I r) (h71 : I' 71 = I 71) : rDt cn (cw + 1) (sWalk σ i cw) I' J := by
  obtain ⟨a, b, c, d, e, f⟩ := h
  refine ⟨h1.trans a, h2, fun v hv => ?_, fun v h3 h4 => ?_, fun j hj => ?_, fun j h3 h4 => ?_⟩
  · obtain ⟨c1, c2, c3, c4, c5⟩ := c v hv
    refine ⟨by rw [hr 65 (by omega) (by omega)]; exact c1, by rw [hr 66 (by omega) (by omega)]; exact c2, fun k hk => by rw [hr 67 (by omega) (by omega)]; exact c3 k hk, ?_, fun k hk => by rw [hr 68 (by omega) (by omega)]; exact c5 k hk⟩
    show I' 69 v = bI (va_up (aUs σ) i true v)
    rw [h69]
    by_cases e : v = i
    · subst e; rw [pk_us, va_up_self]
    · rw [pk_un e, va_up_ne _ _ e]; exact c4
  · rw [h69, pk_un (by omega), hr 68 (by omega) (by omega)]; exact d v h3 h4
  · show I' 70 j = nI (va_up (aNt σ) cw i j) ∧ I' 71 j = nI (va_up (aTm σ) cw 0 j) ∧ ∀ k, k < 48 → J 72 (48 * j + k) = va_up (aWv σ) cw (fun _ => 0) j k
    rw [h70, h71]
    by_cases ej : j = cw
    · subst ej
      rw [pk_us, va_up_self, va_up_self, va_up_self]
      exact ⟨rfl, f j (Nat.le_refl _) h12⟩
    · rw [pk_un ej, va_up_ne _ _ ej, va_up_ne _ _ ej, va_up_ne _ _ ej]
      exact e j (by omega)
  · rw [h71]; exact f j (by omega) h4
abbrev rmX5_net : Room := { frames := 0, cells := 0, slots := 0, locals := 0 }
set_option maxHeartbeats 4000000 in
set_option maxRecDepth 100000 in
theorem c_X5_net (l : Launch) (D : va_G) (cy : Nat → ClassId) (L : List Nat) (ad : Nat → Nat) (G : mG) (I : mI) (J : mJ) (hS : rSh L G) (cn cw : Nat) (σ : Ab) (hA : aOk cn cw σ) (hD : rDt cn cw σ I J) (xp xd : Int32) : pMet l yX5_net wsX5_net rmX5_net D cy L ad G I J [.ref (ad 64), .int xp, .int xd] (qI (fun v I' J' => rsN cn cw σ xp xd v I I' J J') D cy L ad G) := by
  refine pMet.ofI (cc := cX5_net) (maxL := 4) (by decide +kernel) rfl (Nat.le_of_ble_eq_true rfl) ?_
  intro p e R s m args below meth c A Q C hml hR hg ret hW ls hl
  subst hR
  have C : Cx p s m args c cX5_net RX5 wsX5_net D cy A := C
  have hx := C.1
  have hb := C.2.1
  have lk7 := C.2.2.2.1 (.fieldLink RX5 7 "WaveWalkModel" "places" "[I") (by decide +kernel)
  have lk13 := C.2.2.2.1 (.fieldLink RX5 13 "WaveWalkModel" "doors" "[I") (by decide +kernel)
  have lk16 := C.2.2.2.1 (.fieldLink RX5 16 "WaveWalkModel" "to" "[I") (by decide +kernel)
  have lk45 := C.2.2.2.1 (.fieldLink RX5 45 "WaveWalkModel" "thrown" "I") (by decide +kernel)
  have lk49 := C.2.2.2.1 (.fieldLink RX5 49 "WaveWalkModel" "nets" "I") (by decide +kernel)
  have hinX5 : ∀ w ∈ wsX50, w ∈ wsX5_net := by decide +kernel
  have hl : lv_has ls 4 [(0, .ref (ad 64)), (1, .int xp), (2, .int xd)] := hl
  have h6 := hA.1
  have h12 := hA.2.1
  refine lv_aload_n hx hb dX5_net_0 rfl (lv_at hl 0 rfl) ?_
  refine lv_iconst (v := nI 0) hx hb dX5_net_1 (by decide) ?_
  refine s_X5_0 C hinX5 hW (hS.1 64 (by omega) (by omega)) (by decide) lk45 dX5_net_2 (fun H locs hW => ?_)
  obtain ⟨I1, eI1⟩ : ∃ z, z = va_up I 64 (upd (I 64) 0 (nI 0)) := ⟨_, rfl⟩
  rw [← eI1] at hW
  refine lv_aload_n hx hb dX5_net_5 rfl (lv_at hl 0 rfl) ?_
  refine g_X5_1 C hinX5 hW (hS.1 64 (by omega) (by omega)) (by decide) lk49 dX5_net_6 ?_
  refine w_top (y := .int (nI cn)) (by rw [eI1, va_up_self, pk_un (by decide), hD.1]) ?_
  refine lv_bipush (v := nI 6) hx hb dX5_net_9 (by decide) ?_
  refine n_icmp_eq (tgt := 35) hx hb (by omega) (by omega) dX5_net_11 (by decide) (fun hc_2 => ?_) (fun hc_2 => ?_)
  · skip
    have hs : spNet cn xp xd = none := netc_no (Or.inl hc_2)
    refine lv_iconst (v := (-1)) hx hb dX5_net_35 (by decide) ?_
    exact ret _ _ _ _ _ _ _ _ _ (Nat.le_of_ble_eq_true rfl) (Nat.le_of_ble_eq_true rfl) hW ⟨by rw [eI1]; exact rfr.thr I J 0, fun _ => ⟨rfl, by rw [eI1]; exact rDt.thr hD h12 0⟩, fun pl dr z => (by rw [hs] at z; cases z)⟩ dX5_net_36
  · skip
    refine lv_iload_n hx hb dX5_net_14 rfl (lv_at hl 1 rfl) ?_
    refine lv_iconst (v := nI 1) hx hb dX5_net_15 (by decide) ?_
    refine lv_icmp_lt (tgt := 35) hx hb dX5_net_16 (by decide) (fun hc_3 => ?_) (fun hc_3 => ?_)
    · skip
      have hs : spNet cn xp xd = none := netc_no (Or.inr (Or.inl hc_3))
      refine lv_iconst (v := (-1)) hx hb dX5_net_35 (by decide) ?_
      exact ret _ _ _ _ _ _ _ _ _ (Nat.le_of_ble_eq_true rfl) (Nat.le_of_ble_eq_true rfl) hW ⟨by rw [eI1]; exact rfr.thr I J 0, fun _ => ⟨rfl, by rw [eI1]; exact rDt.thr hD h12 0⟩, fun pl dr z => (by rw [hs] at z; cases z)⟩ dX5_net_36
    · skip
      refine lv_iload_n hx hb dX5_net_19 rfl (lv_at hl 1 rfl) ?_
      refine lv_bipush (v := nI 12) hx hb dX5_net_20 (by decide) ?_
      refine lv_icmp_gt (tgt := 35) hx hb dX5_net_22 (by decide) (fun hc_4 => ?_) (fun hc_4 => ?_)
      · skip
        have hs : spNet cn xp xd = none := netc_no (Or.inr (Or.inr (Or.inl hc_4)))
        refine lv_iconst (v := (-1)) hx hb dX5_net_35 (by decide) ?_
        exact ret _ _ _ _ _ _ _ _ _ (Nat.le_of_ble_eq_true rfl) (Nat.le_of_ble_eq_true rfl) hW ⟨by rw [eI1]; exact rfr.thr I J 0, fun _ => ⟨rfl, by rw [eI1]; exact rDt.thr hD h12 0⟩, fun pl dr z => (by rw [hs] at z; cases z)⟩ dX5_net_36
      · skip
        refine lv_iload_n hx hb dX5_net_25 rfl (lv_at hl 2 rfl) ?_
        refine lv_iconst (v := nI 2) hx hb dX5_net_26 (by decide) ?_
        refine lv_icmp_lt (tgt := 35) hx hb dX5_net_27 (by decide) (fun hc_5 => ?_) (fun hc_5 => ?_)
        · skip
          have hs : spNet cn xp xd = none := netc_no (Or.inr (Or.inr (Or.inr (Or.inl hc_5))))
          refine lv_iconst (v := (-1)) hx hb dX5_net_35 (by decide) ?_
          exact ret _ _ _ _ _ _ _ _ _ (Nat.le_of_ble_eq_true rfl) (Nat.le_of_ble_eq_true rfl) hW ⟨by rw [eI1]; exact rfr.thr I J 0, fun _ => ⟨rfl, by rw [eI1]; exact rDt.thr hD h12 0⟩, fun pl dr z => (by rw [hs] at z; cases z)⟩ dX5_net_36
        · skip
          refine lv_iload_n hx hb dX5_net_30 rfl (lv_at hl 2 rfl) ?_
          refine lv_iconst (v := nI 4) hx hb dX5_net_31 (by decide) ?_
          refine lv_icmp_le (tgt := 37) hx hb dX5_net_32 (by decide) (fun hc_6 => ?_) (fun hc_6 => ?_)
          · skip
            obtain ⟨pl, dr, hs⟩ := netc_ok h6 hc_2 hc_3 hc_4 hc_5 hc_6
            obtain ⟨hc6, hp1, hp12, hd4, hx1, hx2⟩ := spNet_some hs
            subst hx1
            subst hx2
            refine lv_aload_n hx hb dX5_net_37 rfl (lv_at hl 0 rfl) ?_
            refine g_X5_3 C hinX5 hW (hS.1 64 (by omega) (by omega)) (by decide) (hS.2 3 (by omega) (by omega)) lk7 dX5_net_38 ?_
            refine lv_aload_n hx hb dX5_net_41 rfl (lv_at hl 0 rfl) ?_
            refine g_X5_1 C hinX5 hW (hS.1 64 (by omega) (by omega)) (by decide) lk49 dX5_net_42 ?_
            refine w_top (y := .int (nI cn)) (by rw [eI1, va_up_self, pk_un (by decide), hD.1]) ?_
            refine lv_iload_n hx hb dX5_net_45 rfl (lv_at hl 1 rfl) ?_
            refine p_iast C hW (hS.1 65 (by omega) (by omega)) (by decide) (k := cn) rfl (by rw [show ln 65 = 6 by decide]; omega) dX5_net_46 (fun H locs hW => ?_)
            obtain ⟨I7, eI7⟩ : ∃ z, z = va_up I1 65 (upd (I1 65) cn (nI pl)) := ⟨_, rfl⟩
            rw [← eI7] at hW
            refine lv_aload_n hx hb dX5_net_47 rfl (lv_at hl 0 rfl) ?_
            refine g_X5_4 C hinX5 hW (hS.1 64 (by omega) (by omega)) (by decide) (hS.2 4 (by omega) (by omega)) lk13 dX5_net_48 ?_
            refine lv_aload_n hx hb dX5_net_51 rfl (lv_at hl 0 rfl) ?_
            refine g_X5_1 C hinX5 hW (hS.1 64 (by omega) (by omega)) (by decide) lk49 dX5_net_52 ?_
            refine w_top (y := .int (nI cn)) (by rw [eI7, va_up_ne _ _ (by decide), eI1, va_up_self, pk_un (by decide), hD.1]) ?_
            refine lv_iload_n hx hb dX5_net_55 rfl (lv_at hl 2 rfl) ?_
            refine p_iast C hW (hS.1 66 (by omega) (by omega)) (by decide) (k := cn) rfl (by rw [show ln 66 = 6 by decide]; omega) dX5_net_56 (fun H locs hW => ?_)
            obtain ⟨I8, eI8⟩ : ∃ z, z = va_up I7 66 (upd (I7 66) cn (nI dr)) := ⟨_, rfl⟩
            rw [← eI8] at hW
            refine lv_iconst (v := nI 0) hx hb dX5_net_57 (by decide) ?_
            have he1 : I8 64 1 = nI cn := (by rw [eI8, va_up_ne _ _ (by decide), eI7, va_up_ne _ _ (by decide), eI1, va_up_self, pk_un (by decide), hD.1])
            refine lv_istore_n (lv' := [(3, .int (nI 0)), (0, .ref (ad 64)), (1, .int (nI pl)), (2, .int (nI dr))]) hx hb dX5_net_58 rfl hl (by decide) rfl (fun ls hl => ?_)
            have lp59 : ∀ (nn : Nat) (d : Nat) (Ia : mI), (d ≤ 48) → (49 ≤ d + nn) → (∀ r, r ≠ 67 → Ia r = I8 r) → (∀ c, c < d → Ia 67 (48 * cn + c) = nI c) → (∀ v, v ≠ cn → ∀ c, c < 48 → Ia 67 (48 * v + c) = I8 67 (48 * v + c)) → ∀ (H : Heap) (locs : List Loc), Wd D cy A s.heap H locs L ad G Ia J → ∀ (ls : Array Slot), lv_has ls 4 [(0, .ref (ad 64)), (3, .int (nI d))] → W p l e rmX5_net s m args below meth c H locs 0 0 Q (F0 m 59 ls []) := by
              intro nn
              induction nn with
              | zero => intros; exfalso; omega
              | succ nn ih59 =>
                intro d Ia hd hfu hk ht ht2 H locs hW ls hl
                have hc1 : Ia 64 1 = nI cn := by rw [hk 64 (by decide)]; exact he1
                refine lv_iload_n hx hb dX5_net_59 rfl (lv_at hl 1 rfl) ?_
                refine lv_bipush (v := nI 48) hx hb dX5_net_60 (by decide) ?_
                refine n_icmp_ge (tgt := 86) hx hb (by omega) (by omega) dX5_net_62 (by decide) (fun hc_9 => ?_) (fun hc_9 => ?_)
                · skip
                  refine lv_aload_n hx hb dX5_net_86 rfl (lv_at hl 0 rfl) ?_
                  refine lv_dup hx hb dX5_net_87 rfl ?_
                  refine g_X5_1 C hinX5 hW (hS.1 64 (by omega) (by omega)) (by decide) lk49 dX5_net_88 ?_
                  refine w_top (y := .int (nI cn)) (by rw [hc1]) ?_
                  refine lv_iconst (v := nI 1) hx hb dX5_net_91 (by decide) ?_
                  refine n_iadd hx hb dX5_net_92 ?_
                  refine s_X5_1 C hinX5 hW (hS.1 64 (by omega) (by omega)) (by decide) lk49 dX5_net_93 (fun H locs hW => ?_)
                  obtain ⟨I10, eI10⟩ : ∃ z, z = va_up Ia 64 (upd (Ia 64) 1 (nI (cn + 1))) := ⟨_, rfl⟩
                  rw [← eI10] at hW
                  refine lv_aload_n hx hb dX5_net_96 rfl (lv_at hl 0 rfl) ?_
                  refine g_X5_1 C hinX5 hW (hS.1 64 (by omega) (by omega)) (by decide) lk49 dX5_net_97 ?_
                  refine w_top (y := .int (nI (cn + 1))) (by rw [eI10, va_up_self]; rfl) ?_
                  refine lv_iconst (v := nI 1) hx hb dX5_net_100 (by decide) ?_
                  refine n_isub hx hb (by omega) dX5_net_101 ?_
                  have q0 : ∀ r, r ≠ 67 → r ≠ 64 → I10 r = I8 r := fun r h1 h2 => by rw [eI10, va_up_ne _ _ h2]; exact hk r h1
                  have q1 : I10 64 1 = nI (cn + 1) := by rw [eI10, va_up_self, pk_us]
                  have q2 : I10 64 2 = I 64 2 := by rw [eI10, va_up_self, pk_un (by decide), hk 64 (by decide), eI8, va_up_ne _ _ (by decide), eI7, va_up_ne _ _ (by decide), eI1, va_up_self, pk_un (by decide)]
                  have q3 : I10 65 = upd (I 65) cn (nI pl) := by rw [q0 65 (by decide) (by decide), eI8, va_up_ne _ _ (by decide), eI7, va_up_self, eI1, va_up_ne _ _ (by decide)]
                  have q4 : I10 66 = upd (I 66) cn (nI dr) := by rw [q0 66 (by decide) (by decide), eI8, va_up_self, eI7, va_up_ne _ _ (by decide), eI1, va_up_ne _ _ (by decide)]
                  have q5 : ∀ r, r ≠ 64 → r ≠ 65 → r ≠ 66 → r ≠ 67 → I10 r = I r := fun r h1 h2 h3 h4 => by rw [q0 r h4 h1, eI8, va_up_ne _ _ h3, eI7, va_up_ne _ _ h2, eI1, va_up_ne _ _ h1]
                  have q6 : I10 67 = Ia 67 := by rw [eI10, va_up_ne _ _ (by decide)]
                  have q7 : I8 67 = I 67 := by rw [eI8, va_up_ne _ _ (by decide), eI7, va_up_ne _ _ (by decide), eI1, va_up_ne _ _ (by decide)]
                  exact ret _ _ _ _ _ _ _ _ _ (Nat.le_of_ble_eq_true rfl) (Nat.le_of_ble_eq_true rfl) hW ⟨fun r hr => ⟨q5 r (by omega) (by omega) (by omega) (by omega), rfl⟩, fun z => (by rw [hs] at z; cases z), fun pl1 dr1 z => by rw [hs] at z; cases z; exact ⟨rfl, hD.net hc6 h12 (fun j hj => (hA.2.2.2 j hj).1) q1 q2 q3 q4 (fun r h1 h2 => q5 r (by omega) (by omega) (by omega) (by omega)) (fun c hc => by rw [q6]; exact ht c (by omega)) (fun v hv c hc => by rw [q6, ht2 v hv c hc, q7])⟩⟩ dX5_net_102
                · skip
                  refine lv_aload_n hx hb dX5_net_65 rfl (lv_at hl 0 rfl) ?_
                  refine g_X5_5 C hinX5 hW (hS.1 64 (by omega) (by omega)) (by decide) (hS.2 5 (by omega) (by omega)) lk16 dX5_net_66 ?_
                  refine lv_bipush (v := nI 48) hx hb dX5_net_69 (by decide) ?_
                  refine lv_aload_n hx hb dX5_net_71 rfl (lv_at hl 0 rfl) ?_
                  refine g_X5_1 C hinX5 hW (hS.1 64 (by omega) (by omega)) (by decide) lk49 dX5_net_72 ?_
                  refine w_top (y := .int (nI cn)) (by rw [hc1]) ?_
                  refine n_imul hx hb dX5_net_75 ?_
                  refine lv_iload_n hx hb dX5_net_76 rfl (lv_at hl 1 rfl) ?_
                  refine n_iadd hx hb dX5_net_77 ?_
                  refine lv_iload_n hx hb dX5_net_78 rfl (lv_at hl 1 rfl) ?_
                  refine p_iast C hW (hS.1 67 (by omega) (by omega)) (by decide) (k := (48 * cn) + d) rfl (by rw [show ln 67 = 288 by decide]; omega) dX5_net_79 (fun H locs hW => ?_)
                  obtain ⟨I11, eI11⟩ : ∃ z, z = va_up Ia 67 (upd (Ia 67) ((48 * cn) + d) (nI d)) := ⟨_, rfl⟩
                  rw [← eI11] at hW
                  refine lv_iinc (v := nI (d + 1)) (lv' := [(3, .int (nI (d + 1))), (0, .ref (ad 64))]) hx hb dX5_net_80 hl (k := 1) rfl (nI_inc _) (by decide) rfl (fun ls hl => ?_)
                  refine lv_goto (tgt := 59) hx hb dX5_net_83 (by decide) ?_
                  exact ih59 (d + 1) I11 (by omega) (by omega) (fun r hr => by rw [eI11, va_up_ne _ _ hr]; exact hk r hr) (fun c hc => by rw [eI11, va_up_self]; by_cases e : c = d; (rw [e, pk_us]); rw [pk_un (by omega)]; exact ht c (by omega)) (fun v hv c hc => by rw [eI11, va_up_self, pk_un (by omega)]; exact ht2 v hv c hc) _ _ hW ls (lv_sub hl [1, 0] rfl)
            exact lp59 49 0 I8 (by omega) (by omega) (fun _ _ => rfl) (fun c hc => absurd hc (Nat.not_lt_zero c)) (fun _ _ _ _ => rfl) _ _ hW ls (lv_sub hl [1, 0] rfl)
          · skip
            have hs : spNet cn xp xd = none := netc_no (Or.inr (Or.inr (Or.inr (Or.inr hc_6))))
            refine lv_iconst (v := (-1)) hx hb dX5_net_35 (by decide) ?_
            exact ret _ _ _ _ _ _ _ _ _ (Nat.le_of_ble_eq_true rfl) (Nat.le_of_ble_eq_true rfl) hW ⟨by rw [eI1]; exact rfr.thr I J 0, fun _ => ⟨rfl, by rw [eI1]; exact rDt.thr hD h12 0⟩, fun pl dr z => (by rw [hs] at z; cases z)⟩ dX5_net_36
abbrev rmX5_walk : Room := { frames := 4, cells := 0, slots := 0, locals := 60 }
set_option maxHeartbeats 4000000 in
set_option maxRecDepth 100000 in
theorem c_X5_walk (l : Launch) (D : va_G) (cy : Nat → ClassId) (L : List Nat) (ad : Nat → Nat) (G : mG) (I : mI) (J : mJ) (hS : rSh L G) (cn cw : Nat) (σ : Ab) (hA : aOk cn cw σ) (hD : rDt cn cw σ I J) (x : Int32) : pMet l yX5_walk wsX5_walk rmX5_walk D cy L ad G I J [.ref (ad 64), .int x] (qI (fun v I' J' => rsW cn cw σ x v I I' J J') D cy L ad G) := by
  refine pMet.ofI (cc := cX5_walk) (maxL := 2) (by decide +kernel) rfl (Nat.le_of_ble_eq_true rfl) ?_
  intro p e R s m args below meth c A Q C hml hR hg ret hW ls hl
  subst hR
  have C : Cx p s m args c cX5_walk RX5 wsX5_walk D cy A := C
  have hx := C.1
  have hb := C.2.1
  have lk23 := C.2.2.2.1 (.fieldLink RX5 23 "WaveWalkModel" "isUsed" "[Z") (by decide +kernel)
  have lk26 := C.2.2.2.1 (.fieldLink RX5 26 "WaveWalkModel" "netOf" "[I") (by decide +kernel)
  have lk75 := C.2.2.2.1 (.fieldLink RX5 75 "WaveWalkModel" "walks" "I") (by decide +kernel)
  have hinX5 : ∀ w ∈ wsX50, w ∈ wsX5_walk := by decide +kernel
  have hl : lv_has ls 2 [(0, .ref (ad 64)), (1, .int x)] := hl
  have h6 := hA.1
  have h12 := hA.2.1
  refine lv_aload_n hx hb dX5_walk_0 rfl (lv_at hl 0 rfl) ?_
  refine lv_iload_n hx hb dX5_walk_1 rfl (lv_at hl 1 rfl) ?_
  refine p_cVi C hml hg hW (c_X5_isNet l D cy L ad G I J hS cn hD.1 (by omega) x) (cwV 1 C.2.2.2.1 gX5_walk_X5_isNet rfl rfl rfl (by decide +kernel) ⟨Nat.le_of_ble_eq_true rfl, Nat.le_of_ble_eq_true rfl⟩) (p_recv C hW (hS.1 64 (by omega) (by omega)) (pF_5 (by decide)) rfl) rfl hl.1 rfl (Nat.le_of_ble_eq_true rfl) dX5_walk_2 (Nat.le_of_ble_eq_true rfl) (Nat.le_of_ble_eq_true rfl) (fun v1 I2 J3 H locs hp hW => ?_)
  obtain ⟨hv, hI, hJ⟩ := hp
  subst v1
  subst I2
  subst J3
  refine b_if_ne (tgt := 10) hx hb dX5_walk_5 (by decide) (fun hc_4 => ?_) (fun hc_4 => ?_)
  · skip
    rw [if_pos hc_4] at hW
    obtain ⟨i, hi⟩ := Option.isSome_iff_exists.mp hc_4
    obtain ⟨hic, hxe⟩ := ixN_some hi (by omega)
    subst hxe
    have hD0 := rDt.thr hD h12 0
    obtain ⟨hpl, hdr, hto, hus, hmk⟩ := hD0.2.2.1 i hic
    obtain ⟨hp1, hp12, hd4, hpr⟩ := hA.2.2.1 i hic
    refine lv_aload_n hx hb dX5_walk_10 rfl (lv_at hl 0 rfl) ?_
    refine g_X5_2 C hinX5 hW (hS.1 64 (by omega) (by omega)) (by decide) lk75 dX5_walk_11 ?_
    refine w_top (y := .int (nI cw)) (by rw [thr_k I 0 (by decide), hD.2.1]) ?_
    refine lv_bipush (v := nI 12) hx hb dX5_walk_14 (by decide) ?_
    refine n_icmp_ne (tgt := 21) hx hb (by omega) (by omega) dX5_walk_16 (by decide) (fun hc_5 => ?_) (fun hc_5 => ?_)
    · skip
      have hc12 : cw < 12 := by omega
      refine lv_aload_n hx hb dX5_walk_21 rfl (lv_at hl 0 rfl) ?_
      refine g_X5_8 C hinX5 hW (hS.1 64 (by omega) (by omega)) (by decide) (hS.2 8 (by omega) (by omega)) lk26 dX5_walk_22 ?_
      refine lv_aload_n hx hb dX5_walk_25 rfl (lv_at hl 0 rfl) ?_
      refine g_X5_2 C hinX5 hW (hS.1 64 (by omega) (by omega)) (by decide) lk75 dX5_walk_26 ?_
      refine w_top (y := .int (nI cw)) (by rw [thr_k I 0 (by decide), hD.2.1]) ?_
      refine lv_iload_n hx hb dX5_walk_29 rfl (lv_at hl 1 rfl) ?_
      refine p_iast C hW (hS.1 70 (by omega) (by omega)) (by decide) (k := cw) rfl (by rw [show ln 70 = 13 by decide]; omega) dX5_walk_30 (fun H locs hW => ?_)
      obtain ⟨I6, eI6⟩ : ∃ z, z = va_up (thr I 0) 70 (upd ((thr I 0) 70) cw (nI i)) := ⟨_, rfl⟩
      rw [← eI6] at hW
      refine lv_aload_n hx hb dX5_walk_31 rfl (lv_at hl 0 rfl) ?_
      refine g_X5_7 C hinX5 hW (hS.1 64 (by omega) (by omega)) (by decide) (hS.2 7 (by omega) (by omega)) lk23 dX5_walk_32 ?_
      refine lv_iload_n hx hb dX5_walk_35 rfl (lv_at hl 1 rfl) ?_
      refine lv_iconst (v := nI 1) hx hb dX5_walk_36 (by decide) ?_
      refine p_zast C hW (hS.1 69 (by omega) (by omega)) (by decide) (k := i) rfl (by rw [show ln 69 = 6 by decide]; omega) (by decide) dX5_walk_37 (fun H locs hW => ?_)
      obtain ⟨I7, eI7⟩ : ∃ z, z = va_up I6 69 (upd (I6 69) i (nI 1)) := ⟨_, rfl⟩
      rw [← eI7] at hW
      refine lv_aload_n hx hb dX5_walk_38 rfl (lv_at hl 0 rfl) ?_
      refine lv_dup hx hb dX5_walk_39 rfl ?_
      refine g_X5_2 C hinX5 hW (hS.1 64 (by omega) (by omega)) (by decide) lk75 dX5_walk_40 ?_
      refine w_top (y := .int (nI cw)) (by rw [eI7, va_up_ne _ _ (by decide), eI6, va_up_ne _ _ (by decide)]; exact (by rw [thr_k I 0 (by decide), hD.2.1])) ?_
      refine lv_iconst (v := nI 1) hx hb dX5_walk_43 (by decide) ?_
      refine n_iadd hx hb dX5_walk_44 ?_
      refine s_X5_2 C hinX5 hW (hS.1 64 (by omega) (by omega)) (by decide) lk75 dX5_walk_45 (fun H locs hW => ?_)
      obtain ⟨I8, eI8⟩ : ∃ z, z = va_up I7 64 (upd (I7 64) 2 (nI (cw + 1))) := ⟨_, rfl⟩
      rw [← eI8] at hW
      refine lv_aload_n hx hb dX5_walk_48 rfl (lv_at hl 0 rfl) ?_
      refine g_X5_2 C hinX5 hW (hS.1 64 (by omega) (by omega)) (by decide) lk75 dX5_walk_49 ?_
      refine w_top (y := .int (nI (cw + 1))) (by rw [eI8, va_up_self]; rfl) ?_
      refine lv_iconst (v := nI 1) hx hb dX5_walk_52 (by decide) ?_
      refine n_isub hx hb (by omega) dX5_walk_53 ?_
      have q5 : ∀ r, r ≠ 64 → r ≠ 69 → r ≠ 70 → I8 r = I r := fun r h1 h2 h3 => by rw [eI8, va_up_ne _ _ h1, eI7, va_up_ne _ _ h2, eI6, va_up_ne _ _ h3]; exact thr_ne h1
      have q6 : I8 64 = upd (thr I 0 64) 2 (nI (cw + 1)) := by rw [eI8, va_up_self, eI7, va_up_ne _ _ (by decide), eI6, va_up_ne _ _ (by decide)]
      have q7 : I8 69 = upd (I 69) i (bI true) := by rw [eI8, va_up_ne _ _ (by decide), eI7, va_up_self, eI6, va_up_ne _ _ (by decide), thr_ne (by decide)]; rfl
      have q8 : I8 70 = upd (I 70) cw (nI i) := by rw [eI8, va_up_ne _ _ (by decide), eI7, va_up_ne _ _ (by decide), eI6, va_up_self, thr_ne (by decide)]
      exact ret _ _ _ _ _ _ _ _ _ (Nat.le_of_ble_eq_true rfl) (Nat.le_of_ble_eq_true rfl) hW ⟨fun r hr => ⟨q5 r (by omega) (by omega) (by omega), rfl⟩, fun z => (by rw [hi] at z; cases z), fun i2 z => ⟨by rw [q6, pk_un (by decide)]; exact thr_0 I 0, fun z2 => by omega, fun _ => by rw [hi] at z; cases z; exact ⟨rfl, hD.walk h6 hc12 hic (by rw [q6, pk_un (by decide)]; exact thr_k I 0 (by decide)) (by rw [q6, pk_us]) q7 q8 (fun r h1 h2 => q5 r (by omega) (by omega) (by omega)) (q5 71 (by decide) (by decide) (by decide))⟩⟩⟩ dX5_walk_54
    · skip
      refine lv_iconst (v := (-1)) hx hb dX5_walk_19 (by decide) ?_
      exact ret _ _ _ _ _ _ _ _ _ (Nat.le_of_ble_eq_true rfl) (Nat.le_of_ble_eq_true rfl) hW ⟨rfr.thr I J 0, fun z => (by rw [hi] at z; cases z), fun i2 z => ⟨thr_0 I 0, fun _ => ⟨rfl, rDt.thr hD h12 0⟩, fun z2 => by omega⟩⟩ dX5_walk_20
  · skip
    rw [if_neg (by rw [hc_4]; decide)] at hW
    have hn1 := is_none hc_4
    refine lv_iconst (v := nI 0) hx hb dX5_walk_8 (by decide) ?_
    exact ret _ _ _ _ _ _ _ _ _ (Nat.le_of_ble_eq_true rfl) (Nat.le_of_ble_eq_true rfl) hW ⟨rfr.thr I J 1, fun _ => ⟨thr_0 I 1, rDt.thr hD h12 1⟩, fun i z => (by rw [hn1] at z; cases z)⟩ dX5_walk_9
