theorem ix2_none {x : Int32} (h0 : ¬ x = 0) (h1 : ¬ x = nI 1) : ixN x 2 = none := by
  unfold ixN
  refine if_neg (fun z => ?_)
  have a : x.toInt ≠ 0 := fun w => h0 (Int32.toInt_inj.mp w)
  have b : x.toInt ≠ 1 := fun w => h1 (Int32.toInt_inj.mp (w.trans (by decide)))
  omega
abbrev rmX5_set : Room := { frames := 4, cells := 0, slots := 0, locals := 140 }
set_option maxHeartbeats 4000000 in
set_option maxRecDepth 100000 in
theorem c_X5_set (l : Launch) (D : va_G) (cy : Nat → ClassId) (L : List Nat) (ad : Nat → Nat) (G : mG) (I : mI) (J : mJ) (hS : rSh L G) (cn cw : Nat) (σ : Ab) (hA : aOk cn cw σ) (hD : rDt cn cw σ I J) (x xp xd xv : Int32) : pMet l yX5_set wsX5_set rmX5_set D cy L ad G I J [.ref (ad 64), .int x, .int xp, .int xd, .int xv] (qI (fun v I' J' => rst (spSet cw σ x xp xd xv) v.toInt64 cn cw I I' J J') D cy L ad G) := by
  refine pMet.ofZ (cc := cX5_set) (maxL := 6) (by decide +kernel) rfl (Nat.le_of_ble_eq_true rfl) ?_
  intro p e R s m args below meth c A Q C hml hR hg ret hW ls hl
  subst hR
  have C : Cx p s m args c cX5_set RX5 wsX5_set D cy A := C
  have hx := C.1
  have hb := C.2.1
  have lk26 := C.2.2.2.1 (.fieldLink RX5 26 "WaveWalkModel" "netOf" "[I") (by decide +kernel)
  have lk29 := C.2.2.2.1 (.fieldLink RX5 29 "WaveWalkModel" "time" "[I") (by decide +kernel)
  have lk32 := C.2.2.2.1 (.fieldLink RX5 32 "WaveWalkModel" "wave" "[J") (by decide +kernel)
  have hinX5 : ∀ w ∈ wsX50, w ∈ wsX5_set := by decide +kernel
  have hl : lv_has ls 6 [(0, .ref (ad 64)), (1, .int x), (2, .int xp), (3, .int xd), (4, .int xv)] := hl
  have h6 := hA.1
  have h12 := hA.2.1
  refine lv_aload_n hx hb dX5_set_0 rfl (lv_at hl 0 rfl) ?_
  refine lv_iload_n hx hb dX5_set_1 rfl (lv_at hl 1 rfl) ?_
  refine p_cVi C hml hg hW (c_X5_isWalk l D cy L ad G I J hS cw hD.2.1 h12 x) (cwV 1 C.2.2.2.1 gX5_set_X5_isWalk rfl rfl rfl (by decide +kernel) ⟨Nat.le_of_ble_eq_true rfl, Nat.le_of_ble_eq_true rfl⟩) (p_recv C hW (hS.1 64 (by omega) (by omega)) (pF_5 (by decide)) rfl) rfl hl.1 rfl (Nat.le_of_ble_eq_true rfl) dX5_set_2 (Nat.le_of_ble_eq_true rfl) (Nat.le_of_ble_eq_true rfl) (fun v1 I2 J3 H locs hp hW => ?_)
  obtain ⟨hv, hI, hJ⟩ := hp
  subst v1
  subst I2
  subst J3
  refine b_if_eq (tgt := 37) hx hb dX5_set_5 (by decide) (fun hc_4 => ?_) (fun hc_4 => ?_)
  · skip
    rw [if_neg (by rw [hc_4]; decide)] at hW
    have hn1 := is_none hc_4
    refine lv_iconst (v := nI 0) hx hb dX5_set_37 (by decide) ?_
    have hsp : spSet cw σ x xp xd xv = (1, 0, σ) := by simp only [spSet, hn1]
    exact ret _ _ _ _ _ _ _ _ _ (Nat.le_of_ble_eq_true rfl) (Nat.le_of_ble_eq_true rfl) hW (rst.thr hsp h12 hD (fun z => absurd z (by decide))) (by decide) dX5_set_38
  · skip
    rw [if_pos hc_4] at hW
    obtain ⟨j, hj⟩ := Option.isSome_iff_exists.mp hc_4
    obtain ⟨hjc, hxe⟩ := ixN_some hj (by omega)
    subst hxe
    have hD0 := rDt.thr hD h12 0
    obtain ⟨hno, htm, hwv⟩ := hD0.2.2.2.2.1 j hjc
    obtain ⟨hic, ht60, hwo, hus2⟩ := hA.2.2.2 j hjc
    obtain ⟨hpl, hdr, hto, hus, hmk⟩ := hD0.2.2.1 (aNt σ j) hic
    obtain ⟨hp1, hp12, hd4, hpr⟩ := hA.2.2.1 (aNt σ j) hic
    refine lv_aload_n hx hb dX5_set_8 rfl (lv_at hl 0 rfl) ?_
    refine lv_aload_n hx hb dX5_set_9 rfl (lv_at hl 0 rfl) ?_
    refine g_X5_8 C hinX5 hW (hS.1 64 (by omega) (by omega)) (by decide) (hS.2 8 (by omega) (by omega)) lk26 dX5_set_10 ?_
    refine lv_iload_n hx hb dX5_set_13 rfl (lv_at hl 1 rfl) ?_
    refine p_iald C hW (hS.1 70 (by omega) (by omega)) (by decide) (k := j) rfl (by rw [show ln 70 = 13 by decide]; omega) dX5_set_14 ?_
    refine w_top (y := .int (nI (aNt σ j))) (by rw [hno]) ?_
    refine lv_iload_n hx hb dX5_set_15 rfl (lv_at hl 2 rfl) ?_
    refine lv_iload_n hx hb dX5_set_16 rfl (lv_at hl 3 rfl) ?_
    refine p_cVi C hml hg hW (c_X5_isDoor l D cy L ad G (thr I 0) J hS (aNt σ j) (aPl σ (aNt σ j)) (aDr σ (aNt σ j)) (by omega) hpl hdr hp12 (by omega) (thr_0 I 0) xp xd) (cwV 3 C.2.2.2.1 gX5_set_X5_isDoor rfl rfl rfl (by decide +kernel) ⟨Nat.le_of_ble_eq_true rfl, Nat.le_of_ble_eq_true rfl⟩) (p_recv C hW (hS.1 64 (by omega) (by omega)) (pF_5 (by decide)) rfl) rfl hl.1 rfl (Nat.le_of_ble_eq_true rfl) dX5_set_17 (Nat.le_of_ble_eq_true rfl) (Nat.le_of_ble_eq_true rfl) (fun v5 I6 J7 H locs hp hW => ?_)
    obtain ⟨hv, hI, hJ⟩ := hp
    replace hI := hI.trans (thr_thr I 0 _)
    subst v5
    subst I6
    subst J7
    refine b_if_eq (tgt := 37) hx hb dX5_set_20 (by decide) (fun hc_8 => ?_) (fun hc_8 => ?_)
    · skip
      rw [if_neg (by rw [hc_8]; decide)] at hW
      have hn2 := spDoor_none (σ := σ) (or_none hc_8)
      refine lv_iconst (v := nI 0) hx hb dX5_set_37 (by decide) ?_
      have hsp : spSet cw σ (nI j) xp xd xv = (1, 0, σ) := by simp only [spSet, hj, hn2]
      exact ret _ _ _ _ _ _ _ _ _ (Nat.le_of_ble_eq_true rfl) (Nat.le_of_ble_eq_true rfl) hW (rst.thr hsp h12 hD (fun z => absurd z (by decide))) (by decide) dX5_set_38
    · skip
      rw [if_pos hc_8] at hW
      obtain ⟨ha1, ha2⟩ := and_some hc_8
      obtain ⟨q, hq1⟩ := ha1
      obtain ⟨e1, he1⟩ := ha2
      obtain ⟨hql1, hx1⟩ := ixN_some hq1 (by omega)
      obtain ⟨hel1, hx2⟩ := ixN_some he1 (by omega)
      subst hx1
      subst hx2
      have hc1 := spDoor_some hq1 he1
      refine lv_aload_n hx hb dX5_set_23 rfl (lv_at hl 0 rfl) ?_
      refine lv_iload hx hb dX5_set_24 (lv_at hl 4 rfl) ?_
      refine lv_i2l (v := xv.toInt64) hx hb dX5_set_26 rfl ?_
      refine p_cSi C hml hg hW (c_X5_isSmall l D cy L ad G (thr I 0) J xv.toInt64) (va_cwS 1 C.2.2.2.1 gX5_set_X5_isSmall rfl rfl rfl (by decide +kernel) ⟨Nat.le_of_ble_eq_true rfl, Nat.le_of_ble_eq_true rfl⟩) rfl hl.1 rfl (Nat.le_of_ble_eq_true rfl) dX5_set_27 (Nat.le_of_ble_eq_true rfl) (Nat.le_of_ble_eq_true rfl) (fun v9 I10 J11 H locs hp hW => ?_)
      obtain ⟨hv, hI, hJ⟩ := hp
      subst v9
      subst I10
      subst J11
      refine lv_iconst (v := nI 2) hx hb dX5_set_30 (by decide) ?_
      refine p_cVi C hml hg hW (c_X5_right l D cy L ad G (thr I 0) J hS (told xv.toInt64) 2 0 (thr_0 I 0) (by omega) (by omega)) (cwV 2 C.2.2.2.1 gX5_set_X5_right rfl rfl rfl (by decide +kernel) ⟨Nat.le_of_ble_eq_true rfl, Nat.le_of_ble_eq_true rfl⟩) (p_recv C hW (hS.1 64 (by omega) (by omega)) (pF_5 (by decide)) rfl) rfl hl.1 rfl (Nat.le_of_ble_eq_true rfl) dX5_set_31 (Nat.le_of_ble_eq_true rfl) (Nat.le_of_ble_eq_true rfl) (fun v12 I13 J14 H locs hp hW => ?_)
      obtain ⟨hv, hI, hJ⟩ := hp
      replace hI := hI.trans (thr_thr I 0 _)
      subst v12
      subst I13
      subst J14
      refine b_if_ne (tgt := 39) hx hb dX5_set_34 (by decide) (fun hc_15 => ?_) (fun hc_15 => ?_)
      · skip
        have hr1 : told xv.toInt64 = true := rt_yes (by decide) hc_15
        rw [if_neg (fun z => by rw [hr1] at z; cases z.2)] at hW
        have htd := hr1
        refine lv_iconst (v := nI 0) hx hb dX5_set_39 (by decide) ?_
        refine lv_istore (lv' := [(5, .int (nI 0)), (0, .ref (ad 64)), (1, .int (nI j)), (2, .int (nI q)), (3, .int (nI e1)), (4, .int xv)]) hx hb dX5_set_40 hl (by decide) rfl (fun ls hl => ?_)
        have lp42 : ∀ (nn : Nat) (d : Nat), (d ≤ 48) → (49 ≤ d + nn) → (toldB (aWv σ j) (q * 4 + e1) d = true) → ∀ (H : Heap) (locs : List Loc), Wd D cy A s.heap H locs L ad G (thr I 0) J → ∀ (ls : Array Slot), lv_has ls 6 [(0, .ref (ad 64)), (1, .int (nI j)), (2, .int (nI q)), (3, .int (nI e1)), (4, .int xv), (5, .int (nI d))] → W p l e rmX5_set s m args below meth c H locs 0 0 Q (F0 m 42 ls []) := by
          intro nn
          induction nn with
          | zero => intros; exfalso; omega
          | succ nn ih42 =>
            intro d hd hfu htb H locs hW ls hl
            refine lv_iload hx hb dX5_set_42 (lv_at hl 5 rfl) ?_
            refine lv_bipush (v := nI 48) hx hb dX5_set_44 (by decide) ?_
            refine n_icmp_ge (tgt := 85) hx hb (by omega) (by omega) dX5_set_46 (by decide) (fun hc_16 => ?_) (fun hc_16 => ?_)
            · skip
              refine lv_aload_n hx hb dX5_set_85 rfl (lv_at hl 0 rfl) ?_
              refine g_X5_10 C hinX5 hW (hS.1 64 (by omega) (by omega)) (by decide) (hS.2 10 (by omega) (by omega)) lk32 dX5_set_86 ?_
              refine lv_bipush (v := nI 48) hx hb dX5_set_89 (by decide) ?_
              refine lv_iload_n hx hb dX5_set_91 rfl (lv_at hl 1 rfl) ?_
              refine n_imul hx hb dX5_set_92 ?_
              refine lv_iconst (v := nI 4) hx hb dX5_set_93 (by decide) ?_
              refine lv_iload_n hx hb dX5_set_94 rfl (lv_at hl 2 rfl) ?_
              refine n_imul hx hb dX5_set_95 ?_
              refine n_iadd hx hb dX5_set_96 ?_
              refine lv_iload_n hx hb dX5_set_97 rfl (lv_at hl 3 rfl) ?_
              refine n_iadd hx hb dX5_set_98 ?_
              refine lv_iload hx hb dX5_set_99 (lv_at hl 4 rfl) ?_
              refine lv_i2l (v := xv.toInt64) hx hb dX5_set_101 rfl ?_
              refine p_last C hW (hS.1 72 (by omega) (by omega)) (by decide) (k := ((48 * j) + (4 * q)) + e1) rfl (by rw [show ln 72 = 624 by decide]; omega) dX5_set_102 (fun H locs hW => ?_)
              obtain ⟨J17, eJ17⟩ : ∃ z, z = va_up J 72 (vp_updL (J 72) (((48 * j) + (4 * q)) + e1) xv.toInt64) := ⟨_, rfl⟩
              rw [← eJ17] at hW
              refine lv_aload_n hx hb dX5_set_103 rfl (lv_at hl 0 rfl) ?_
              refine g_X5_9 C hinX5 hW (hS.1 64 (by omega) (by omega)) (by decide) (hS.2 9 (by omega) (by omega)) lk29 dX5_set_104 ?_
              refine lv_iload_n hx hb dX5_set_107 rfl (lv_at hl 1 rfl) ?_
              refine lv_iconst (v := nI 0) hx hb dX5_set_108 (by decide) ?_
              refine p_iast C hW (hS.1 71 (by omega) (by omega)) (by decide) (k := j) rfl (by rw [show ln 71 = 13 by decide]; omega) dX5_set_109 (fun H locs hW => ?_)
              obtain ⟨I18, eI18⟩ : ∃ z, z = va_up (thr I 0) 71 (upd ((thr I 0) 71) j (nI 0)) := ⟨_, rfl⟩
              rw [← eI18] at hW
              refine lv_iconst (v := nI 1) hx hb dX5_set_110 (by decide) ?_
              have ht48 : toldB (aWv σ j) (q * 4 + e1) 48 = true := by rw [← show d = 48 by omega]; exact htb
              have hsp : spSet cw σ (nI j) (nI q) (nI e1) xv = (0, 1, sWv σ j (vp_updL (aWv σ j) (q * 4 + e1) xv.toInt64) 0) := by simp [spSet, hj, hc1, htd, ht48]
              have hB := (blk.rf hwv).put (k := q * 4 + e1) (idx := ((48 * j) + (4 * q)) + e1) (by omega) (by omega) xv.toInt64
              exact ret _ _ _ _ _ _ _ _ _ (Nat.le_of_ble_eq_true rfl) (Nat.le_of_ble_eq_true rfl) hW (by rw [eI18, eJ17]; exact rst.to hsp (by decide) (by rw [va_up_ne _ _ (by decide)]; exact thr_0 I 0) (hD0.wvB hjc h12 hB 0) (((rfr.thr I J 0).up (by omega) (by omega) _).blk hB)) (by decide) dX5_set_111
            · skip
              refine lv_iload hx hb dX5_set_49 (lv_at hl 5 rfl) ?_
              refine lv_iconst (v := nI 4) hx hb dX5_set_51 (by decide) ?_
              refine lv_iload_n hx hb dX5_set_52 rfl (lv_at hl 2 rfl) ?_
              refine n_imul hx hb dX5_set_53 ?_
              refine lv_iload_n hx hb dX5_set_54 rfl (lv_at hl 3 rfl) ?_
              refine n_iadd hx hb dX5_set_55 ?_
              refine n_icmp_eq (tgt := 79) hx hb (by omega) (by omega) dX5_set_56 (by decide) (fun hc_19 => ?_) (fun hc_19 => ?_)
              · skip
                refine lv_iinc (v := nI (d + 1)) (lv' := [(5, .int (nI (d + 1))), (0, .ref (ad 64)), (1, .int (nI j)), (2, .int (nI q)), (3, .int (nI e1)), (4, .int xv)]) hx hb dX5_set_79 hl (k := 5) rfl (nI_inc _) (by decide) rfl (fun ls hl => ?_)
                refine lv_goto (tgt := 42) hx hb dX5_set_82 (by decide) ?_
                exact ih42 (d + 1) (by omega) (by omega) (by rw [toldB, htb, decide_eq_true (show d = q * 4 + e1 by omega)]; rfl) _ _ hW ls (lv_sub hl [1, 2, 3, 4, 5, 0] rfl)
              · skip
                refine lv_aload_n hx hb dX5_set_59 rfl (lv_at hl 0 rfl) ?_
                refine g_X5_10 C hinX5 hW (hS.1 64 (by omega) (by omega)) (by decide) (hS.2 10 (by omega) (by omega)) lk32 dX5_set_60 ?_
                refine lv_bipush (v := nI 48) hx hb dX5_set_63 (by decide) ?_
                refine lv_iload_n hx hb dX5_set_65 rfl (lv_at hl 1 rfl) ?_
                refine n_imul hx hb dX5_set_66 ?_
                refine lv_iload hx hb dX5_set_67 (lv_at hl 5 rfl) ?_
                refine n_iadd hx hb dX5_set_69 ?_
                refine p_lald C hW (hS.1 72 (by omega) (by omega)) (by decide) (k := (48 * j) + d) rfl (by rw [show ln 72 = 624 by decide]; omega) dX5_set_70 ?_
                refine w_top (y := .long (aWv σ j d)) (by rw [hwv _ (by omega)]) ?_
                refine p_cSi C hml hg hW (c_X5_isSmall l D cy L ad G (thr I 0) J (aWv σ j d)) (va_cwS 1 C.2.2.2.1 gX5_set_X5_isSmall rfl rfl rfl (by decide +kernel) ⟨Nat.le_of_ble_eq_true rfl, Nat.le_of_ble_eq_true rfl⟩) rfl hl.1 rfl (Nat.le_of_ble_eq_true rfl) dX5_set_71 (Nat.le_of_ble_eq_true rfl) (Nat.le_of_ble_eq_true rfl) (fun v20 I21 J22 H locs hp hW => ?_)
                obtain ⟨hv, hI, hJ⟩ := hp
                subst v20
                subst I21
                subst J22
                refine b_if_ne (tgt := 79) hx hb dX5_set_74 (by decide) (fun hc_23 => ?_) (fun hc_23 => ?_)
                · skip
                  refine lv_iinc (v := nI (d + 1)) (lv' := [(5, .int (nI (d + 1))), (0, .ref (ad 64)), (1, .int (nI j)), (2, .int (nI q)), (3, .int (nI e1)), (4, .int xv)]) hx hb dX5_set_79 hl (k := 5) rfl (nI_inc _) (by decide) rfl (fun ls hl => ?_)
                  refine lv_goto (tgt := 42) hx hb dX5_set_82 (by decide) ?_
                  exact ih42 (d + 1) (by omega) (by omega) (by rw [toldB, htb, hc_23, Bool.or_true]; rfl) _ _ hW ls (lv_sub hl [1, 2, 3, 4, 5, 0] rfl)
                · skip
                  refine lv_iconst (v := nI 0) hx hb dX5_set_77 (by decide) ?_
                  have hsp : spSet cw σ (nI j) (nI q) (nI e1) xv = (0, 0, σ) := by simp [spSet, hj, hc1, htd, toldB_false (aWv σ j) (q * 4 + e1) 48 d (by omega) (by omega) hc_23]
                  exact ret _ _ _ _ _ _ _ _ _ (Nat.le_of_ble_eq_true rfl) (Nat.le_of_ble_eq_true rfl) hW (rst.thr hsp h12 hD (fun _ => by decide)) (by decide) dX5_set_78
        exact lp42 49 0 (by omega) (by omega) rfl _ _ hW ls (lv_sub hl [1, 2, 3, 4, 5, 0] rfl)
      · skip
        have hr0 : told xv.toInt64 = false := rt_no hc_15
        rw [if_pos ⟨rfl, hr0⟩] at hW
        refine lv_iconst (v := nI 0) hx hb dX5_set_37 (by decide) ?_
        have hsp : spSet cw σ (nI j) (nI q) (nI e1) xv = (2, 0, σ) := by simp [spSet, hj, hc1, hr0]
        exact ret _ _ _ _ _ _ _ _ _ (Nat.le_of_ble_eq_true rfl) (Nat.le_of_ble_eq_true rfl) hW (rst.thr hsp h12 hD (fun z => absurd z (by decide))) (by decide) dX5_set_38
abbrev rmX5_spread : Room := { frames := 4, cells := 0, slots := 0, locals := 140 }
set_option maxHeartbeats 4000000 in
set_option maxRecDepth 100000 in
theorem c_X5_spread (l : Launch) (D : va_G) (cy : Nat → ClassId) (L : List Nat) (ad : Nat → Nat) (G : mG) (I : mI) (J : mJ) (hS : rSh L G) (cn cw : Nat) (σ : Ab) (hA : aOk cn cw σ) (hD : rDt cn cw σ I J) (x xv : Int32) : pMet l yX5_spread wsX5_spread rmX5_spread D cy L ad G I J [.ref (ad 64), .int x, .int xv] (qV (fun I' J' => rst (spSpread cw σ x xv) 0 cn cw I I' J J') D cy L ad G) := by
  refine pMet.ofV (cc := cX5_spread) (maxL := 5) (by decide +kernel) rfl (Nat.le_of_ble_eq_true rfl) ?_
  intro p e R s m args below meth c A Q C hml hR hg ret hW ls hl
  subst hR
  have C : Cx p s m args c cX5_spread RX5 wsX5_spread D cy A := C
  have hx := C.1
  have hb := C.2.1
  have lk7 := C.2.2.2.1 (.fieldLink RX5 7 "WaveWalkModel" "places" "[I") (by decide +kernel)
  have lk13 := C.2.2.2.1 (.fieldLink RX5 13 "WaveWalkModel" "doors" "[I") (by decide +kernel)
  have lk26 := C.2.2.2.1 (.fieldLink RX5 26 "WaveWalkModel" "netOf" "[I") (by decide +kernel)
  have lk29 := C.2.2.2.1 (.fieldLink RX5 29 "WaveWalkModel" "time" "[I") (by decide +kernel)
  have lk32 := C.2.2.2.1 (.fieldLink RX5 32 "WaveWalkModel" "wave" "[J") (by decide +kernel)
  have hinX5 : ∀ w ∈ wsX50, w ∈ wsX5_spread := by decide +kernel
  have hl : lv_has ls 5 [(0, .ref (ad 64)), (1, .int x), (2, .int xv)] := hl
  have h6 := hA.1
  have h12 := hA.2.1
  refine lv_aload_n hx hb dX5_spread_0 rfl (lv_at hl 0 rfl) ?_
  refine lv_iload_n hx hb dX5_spread_1 rfl (lv_at hl 1 rfl) ?_
  refine p_cVi C hml hg hW (c_X5_isWalk l D cy L ad G I J hS cw hD.2.1 h12 x) (cwV 1 C.2.2.2.1 gX5_spread_X5_isWalk rfl rfl rfl (by decide +kernel) ⟨Nat.le_of_ble_eq_true rfl, Nat.le_of_ble_eq_true rfl⟩) (p_recv C hW (hS.1 64 (by omega) (by omega)) (pF_5 (by decide)) rfl) rfl hl.1 rfl (Nat.le_of_ble_eq_true rfl) dX5_spread_2 (Nat.le_of_ble_eq_true rfl) (Nat.le_of_ble_eq_true rfl) (fun v1 I2 J3 H locs hp hW => ?_)
  obtain ⟨hv, hI, hJ⟩ := hp
  subst v1
  subst I2
  subst J3
  refine b_if_eq (tgt := 21) hx hb dX5_spread_5 (by decide) (fun hc_4 => ?_) (fun hc_4 => ?_)
  · skip
    rw [if_neg (by rw [hc_4]; decide)] at hW
    have hn1 := is_none hc_4
    have hsp : spSpread cw σ x xv = (1, 0, σ) := by simp only [spSpread, hn1]
    exact ret _ _ _ _ _ _ _ _ (Nat.le_of_ble_eq_true rfl) (Nat.le_of_ble_eq_true rfl) hW (rst.thr hsp h12 hD (fun z => absurd z (by decide))) dX5_spread_21
  · skip
    rw [if_pos hc_4] at hW
    obtain ⟨j, hj⟩ := Option.isSome_iff_exists.mp hc_4
    obtain ⟨hjc, hxe⟩ := ixN_some hj (by omega)
    subst hxe
    have hD0 := rDt.thr hD h12 0
    obtain ⟨hno, htm, hwv⟩ := hD0.2.2.2.2.1 j hjc
    obtain ⟨hic, ht60, hwo, hus2⟩ := hA.2.2.2 j hjc
    obtain ⟨hpl, hdr, hto, hus, hmk⟩ := hD0.2.2.1 (aNt σ j) hic
    obtain ⟨hp1, hp12, hd4, hpr⟩ := hA.2.2.1 (aNt σ j) hic
    refine lv_aload_n hx hb dX5_spread_8 rfl (lv_at hl 0 rfl) ?_
    refine lv_iload_n hx hb dX5_spread_9 rfl (lv_at hl 2 rfl) ?_
    refine lv_i2l (v := xv.toInt64) hx hb dX5_spread_10 rfl ?_
    refine p_cSi C hml hg hW (c_X5_isSmall l D cy L ad G (thr I 0) J xv.toInt64) (va_cwS 1 C.2.2.2.1 gX5_spread_X5_isSmall rfl rfl rfl (by decide +kernel) ⟨Nat.le_of_ble_eq_true rfl, Nat.le_of_ble_eq_true rfl⟩) rfl hl.1 rfl (Nat.le_of_ble_eq_true rfl) dX5_spread_11 (Nat.le_of_ble_eq_true rfl) (Nat.le_of_ble_eq_true rfl) (fun v5 I6 J7 H locs hp hW => ?_)
    obtain ⟨hv, hI, hJ⟩ := hp
    subst v5
    subst I6
    subst J7
    refine lv_iconst (v := nI 2) hx hb dX5_spread_14 (by decide) ?_
    refine p_cVi C hml hg hW (c_X5_right l D cy L ad G (thr I 0) J hS (told xv.toInt64) 2 0 (thr_0 I 0) (by omega) (by omega)) (cwV 2 C.2.2.2.1 gX5_spread_X5_right rfl rfl rfl (by decide +kernel) ⟨Nat.le_of_ble_eq_true rfl, Nat.le_of_ble_eq_true rfl⟩) (p_recv C hW (hS.1 64 (by omega) (by omega)) (pF_5 (by decide)) rfl) rfl hl.1 rfl (Nat.le_of_ble_eq_true rfl) dX5_spread_15 (Nat.le_of_ble_eq_true rfl) (Nat.le_of_ble_eq_true rfl) (fun v8 I9 J10 H locs hp hW => ?_)
    obtain ⟨hv, hI, hJ⟩ := hp
    replace hI := hI.trans (thr_thr I 0 _)
    subst v8
    subst I9
    subst J10
    refine b_if_ne (tgt := 22) hx hb dX5_spread_18 (by decide) (fun hc_11 => ?_) (fun hc_11 => ?_)
    · skip
      have hr1 : told xv.toInt64 = true := rt_yes (by decide) hc_11
      rw [if_neg (fun z => by rw [hr1] at z; cases z.2)] at hW
      have htd := hr1
      refine lv_iconst (v := nI 0) hx hb dX5_spread_22 (by decide) ?_
      refine lv_istore_n (lv' := [(3, .int (nI 0)), (0, .ref (ad 64)), (1, .int (nI j)), (2, .int xv)]) hx hb dX5_spread_23 rfl hl (by decide) rfl (fun ls hl => ?_)
      have lp24 : ∀ (nn : Nat) (a : Nat) (Ja : mJ), (a ≤ aPl σ (aNt σ j)) → (aPl σ (aNt σ j) + 1 ≤ a + nn) → (blk J Ja j (fun k => if (k / 4 < a ∧ k % 4 < aDr σ (aNt σ j)) ∨ (k / 4 = a ∧ k % 4 < 0) then xv.toInt64 else aWv σ j k)) → ∀ (H : Heap) (locs : List Loc), Wd D cy A s.heap H locs L ad G (thr I 0) Ja → ∀ (ls : Array Slot), lv_has ls 5 [(0, .ref (ad 64)), (1, .int (nI j)), (2, .int xv), (3, .int (nI a))] → W p l e rmX5_spread s m args below meth c H locs 0 0 Q (F0 m 24 ls []) := by
        intro nn
        induction nn with
        | zero => intros; exfalso; omega
        | succ nn ih24 =>
          intro a Ja ha hfu hB H locs hW ls hl
          refine lv_iload_n hx hb dX5_spread_24 rfl (lv_at hl 3 rfl) ?_
          refine lv_aload_n hx hb dX5_spread_25 rfl (lv_at hl 0 rfl) ?_
          refine g_X5_3 C hinX5 hW (hS.1 64 (by omega) (by omega)) (by decide) (hS.2 3 (by omega) (by omega)) lk7 dX5_spread_26 ?_
          refine lv_aload_n hx hb dX5_spread_29 rfl (lv_at hl 0 rfl) ?_
          refine g_X5_8 C hinX5 hW (hS.1 64 (by omega) (by omega)) (by decide) (hS.2 8 (by omega) (by omega)) lk26 dX5_spread_30 ?_
          refine lv_iload_n hx hb dX5_spread_33 rfl (lv_at hl 1 rfl) ?_
          refine p_iald C hW (hS.1 70 (by omega) (by omega)) (by decide) (k := j) rfl (by rw [show ln 70 = 13 by decide]; omega) dX5_spread_34 ?_
          refine w_top (y := .int (nI (aNt σ j))) (by rw [hno]) ?_
          refine p_iald C hW (hS.1 65 (by omega) (by omega)) (by decide) (k := aNt σ j) rfl (by rw [show ln 65 = 6 by decide]; omega) dX5_spread_35 ?_
          refine w_top (y := .int (nI (aPl σ (aNt σ j)))) (by rw [hpl]) ?_
          refine n_icmp_ge (tgt := 88) hx hb (by omega) (by omega) dX5_spread_36 (by decide) (fun hc_12 => ?_) (fun hc_12 => ?_)
          · skip
            refine lv_aload_n hx hb dX5_spread_88 rfl (lv_at hl 0 rfl) ?_
            refine g_X5_9 C hinX5 hW (hS.1 64 (by omega) (by omega)) (by decide) (hS.2 9 (by omega) (by omega)) lk29 dX5_spread_89 ?_
            refine lv_iload_n hx hb dX5_spread_92 rfl (lv_at hl 1 rfl) ?_
            refine lv_iconst (v := nI 0) hx hb dX5_spread_93 (by decide) ?_
            refine p_iast C hW (hS.1 71 (by omega) (by omega)) (by decide) (k := j) rfl (by rw [show ln 71 = 13 by decide]; omega) dX5_spread_94 (fun H locs hW => ?_)
            obtain ⟨I13, eI13⟩ : ∃ z, z = va_up (thr I 0) 71 (upd ((thr I 0) 71) j (nI 0)) := ⟨_, rfl⟩
            rw [← eI13] at hW
            have hsp : spSpread cw σ (nI j) xv = (0, 0, sWv σ j (fillF (aPl σ (aNt σ j)) (aDr σ (aNt σ j)) xv.toInt64 (aWv σ j)) 0) := by simp [spSpread, hj, htd]
            have hB := hB.congr (g' := fillF (aPl σ (aNt σ j)) (aDr σ (aNt σ j)) xv.toInt64 (aWv σ j)) (fun k hk => by unfold fillF; by_cases hc : dor (aPl σ (aNt σ j)) (aDr σ (aNt σ j)) k = true; rw [if_pos hc, if_pos (by rw [dor_iff] at hc; omega)]; rw [if_neg hc, if_neg (by rw [dor_iff] at hc; omega)])
            exact ret _ _ _ _ _ _ _ _ (Nat.le_of_ble_eq_true rfl) (Nat.le_of_ble_eq_true rfl) hW (by rw [eI13]; exact rst.to hsp rfl (by rw [va_up_ne _ _ (by decide)]; exact thr_0 I 0) (hD0.wvB hjc h12 hB 0) (((rfr.thr I J 0).up (by omega) (by omega) _).blk hB)) dX5_spread_95
          · skip
            refine lv_iconst (v := nI 0) hx hb dX5_spread_39 (by decide) ?_
            refine lv_istore (lv' := [(4, .int (nI 0)), (0, .ref (ad 64)), (1, .int (nI j)), (2, .int xv), (3, .int (nI a))]) hx hb dX5_spread_40 hl (by decide) rfl (fun ls hl => ?_)
            have lp42 : ∀ (nn : Nat) (b : Nat) (Jb : mJ), (b ≤ aDr σ (aNt σ j)) → (aDr σ (aNt σ j) + 1 ≤ b + nn) → (blk J Jb j (fun k => if (k / 4 < a ∧ k % 4 < aDr σ (aNt σ j)) ∨ (k / 4 = a ∧ k % 4 < b) then xv.toInt64 else aWv σ j k)) → ∀ (H : Heap) (locs : List Loc), Wd D cy A s.heap H locs L ad G (thr I 0) Jb → ∀ (ls : Array Slot), lv_has ls 5 [(0, .ref (ad 64)), (1, .int (nI j)), (2, .int xv), (3, .int (nI a)), (4, .int (nI b))] → W p l e rmX5_spread s m args below meth c H locs 0 0 Q (F0 m 42 ls []) := by
              intro nn
              induction nn with
              | zero => intros; exfalso; omega
              | succ nn ih42 =>
                intro b Jb hb4 hfu2 hB H locs hW ls hl
                refine lv_iload hx hb dX5_spread_42 (lv_at hl 4 rfl) ?_
                refine lv_aload_n hx hb dX5_spread_44 rfl (lv_at hl 0 rfl) ?_
                refine g_X5_4 C hinX5 hW (hS.1 64 (by omega) (by omega)) (by decide) (hS.2 4 (by omega) (by omega)) lk13 dX5_spread_45 ?_
                refine lv_aload_n hx hb dX5_spread_48 rfl (lv_at hl 0 rfl) ?_
                refine g_X5_8 C hinX5 hW (hS.1 64 (by omega) (by omega)) (by decide) (hS.2 8 (by omega) (by omega)) lk26 dX5_spread_49 ?_
                refine lv_iload_n hx hb dX5_spread_52 rfl (lv_at hl 1 rfl) ?_
                refine p_iald C hW (hS.1 70 (by omega) (by omega)) (by decide) (k := j) rfl (by rw [show ln 70 = 13 by decide]; omega) dX5_spread_53 ?_
                refine w_top (y := .int (nI (aNt σ j))) (by rw [hno]) ?_
                refine p_iald C hW (hS.1 66 (by omega) (by omega)) (by decide) (k := aNt σ j) rfl (by rw [show ln 66 = 6 by decide]; omega) dX5_spread_54 ?_
                refine w_top (y := .int (nI (aDr σ (aNt σ j)))) (by rw [hdr]) ?_
                refine n_icmp_ge (tgt := 82) hx hb (by omega) (by omega) dX5_spread_55 (by decide) (fun hc_14 => ?_) (fun hc_14 => ?_)
                · skip
                  refine lv_iinc (v := nI (a + 1)) (lv' := [(3, .int (nI (a + 1))), (0, .ref (ad 64)), (1, .int (nI j)), (2, .int xv), (4, .int (nI b))]) hx hb dX5_spread_82 hl (k := 3) rfl (nI_inc _) (by decide) rfl (fun ls hl => ?_)
                  refine lv_goto (tgt := 24) hx hb dX5_spread_85 (by decide) ?_
                  exact ih24 (a + 1) Jb (by omega) (by omega) (hB.congr (fun k hk => by by_cases hc : k / 4 < a + 1 ∧ k % 4 < aDr σ (aNt σ j); rw [if_pos (by omega), if_pos (by omega)]; rw [if_neg (by omega), if_neg (by omega)])) _ _ hW ls (lv_sub hl [1, 2, 3, 0] rfl)
                · skip
                  refine lv_aload_n hx hb dX5_spread_58 rfl (lv_at hl 0 rfl) ?_
                  refine g_X5_10 C hinX5 hW (hS.1 64 (by omega) (by omega)) (by decide) (hS.2 10 (by omega) (by omega)) lk32 dX5_spread_59 ?_
                  refine lv_bipush (v := nI 48) hx hb dX5_spread_62 (by decide) ?_
                  refine lv_iload_n hx hb dX5_spread_64 rfl (lv_at hl 1 rfl) ?_
                  refine n_imul hx hb dX5_spread_65 ?_
                  refine lv_iconst (v := nI 4) hx hb dX5_spread_66 (by decide) ?_
                  refine lv_iload_n hx hb dX5_spread_67 rfl (lv_at hl 3 rfl) ?_
                  refine n_imul hx hb dX5_spread_68 ?_
                  refine n_iadd hx hb dX5_spread_69 ?_
                  refine lv_iload hx hb dX5_spread_70 (lv_at hl 4 rfl) ?_
                  refine n_iadd hx hb dX5_spread_72 ?_
                  refine lv_iload_n hx hb dX5_spread_73 rfl (lv_at hl 2 rfl) ?_
                  refine lv_i2l (v := xv.toInt64) hx hb dX5_spread_74 rfl ?_
                  refine p_last C hW (hS.1 72 (by omega) (by omega)) (by decide) (k := ((48 * j) + (4 * a)) + b) rfl (by rw [show ln 72 = 624 by decide]; omega) dX5_spread_75 (fun H locs hW => ?_)
                  obtain ⟨J15, eJ15⟩ : ∃ z, z = va_up Jb 72 (vp_updL (Jb 72) (((48 * j) + (4 * a)) + b) xv.toInt64) := ⟨_, rfl⟩
                  rw [← eJ15] at hW
                  refine lv_iinc (v := nI (b + 1)) (lv' := [(4, .int (nI (b + 1))), (0, .ref (ad 64)), (1, .int (nI j)), (2, .int xv), (3, .int (nI a))]) hx hb dX5_spread_76 hl (k := 4) rfl (nI_inc _) (by decide) rfl (fun ls hl => ?_)
                  refine lv_goto (tgt := 42) hx hb dX5_spread_79 (by decide) ?_
                  exact ih42 (b + 1) J15 (by omega) (by omega) (by rw [eJ15]; exact (hB.put (k := a * 4 + b) (by omega) (by omega) _).congr (fun k hk => by dsimp only [vp_updL]; by_cases hc : k = a * 4 + b; rw [if_pos (by omega), if_pos hc]; rw [if_neg hc]; by_cases hc2 : (k / 4 < a ∧ k % 4 < aDr σ (aNt σ j)) ∨ (k / 4 = a ∧ k % 4 < b); rw [if_pos (by omega), if_pos hc2]; rw [if_neg (by omega), if_neg hc2])) _ _ hW ls (lv_sub hl [1, 2, 3, 4, 0] rfl)
            exact lp42 (aDr σ (aNt σ j) + 1) 0 Ja (by omega) (by omega) hB _ _ hW ls (lv_sub hl [1, 2, 3, 4, 0] rfl)
      exact lp24 (aPl σ (aNt σ j) + 1) 0 J (by omega) (by omega) ((blk.rf hwv).congr (fun k hk => by rw [if_neg (by omega)])) _ _ hW ls (lv_sub hl [1, 2, 3, 0] rfl)
    · skip
      have hr0 : told xv.toInt64 = false := rt_no hc_11
      rw [if_pos ⟨rfl, hr0⟩] at hW
      have hsp : spSpread cw σ (nI j) xv = (2, 0, σ) := by simp [spSpread, hj, hr0]
      exact ret _ _ _ _ _ _ _ _ (Nat.le_of_ble_eq_true rfl) (Nat.le_of_ble_eq_true rfl) hW (rst.thr hsp h12 hD (fun z => absurd z (by decide))) dX5_spread_21
abbrev rmX5_count : Room := { frames := 4, cells := 0, slots := 0, locals := 140 }
set_option maxHeartbeats 4000000 in
set_option maxRecDepth 100000 in
theorem c_X5_count (l : Launch) (D : va_G) (cy : Nat → ClassId) (L : List Nat) (ad : Nat → Nat) (G : mG) (I : mI) (J : mJ) (hS : rSh L G) (cn cw : Nat) (σ : Ab) (hA : aOk cn cw σ) (hD : rDt cn cw σ I J) (x : Int32) : pMet l yX5_count wsX5_count rmX5_count D cy L ad G I J [.ref (ad 64), .int x] (qI (fun v I' J' => rst (spCount cn cw σ x) v.toInt64 cn cw I I' J J') D cy L ad G) := by
  refine pMet.ofI (cc := cX5_count) (maxL := 2) (by decide +kernel) rfl (Nat.le_of_ble_eq_true rfl) ?_
  intro p e R s m args below meth c A Q C hml hR hg ret hW ls hl
  subst hR
  have C : Cx p s m args c cX5_count RX5 wsX5_count D cy A := C
  have hx := C.1
  have hb := C.2.1
  have lk45 := C.2.2.2.1 (.fieldLink RX5 45 "WaveWalkModel" "thrown" "I") (by decide +kernel)
  have lk49 := C.2.2.2.1 (.fieldLink RX5 49 "WaveWalkModel" "nets" "I") (by decide +kernel)
  have lk75 := C.2.2.2.1 (.fieldLink RX5 75 "WaveWalkModel" "walks" "I") (by decide +kernel)
  have hinX5 : ∀ w ∈ wsX50, w ∈ wsX5_count := by decide +kernel
  have hl : lv_has ls 2 [(0, .ref (ad 64)), (1, .int x)] := hl
  have h6 := hA.1
  have h12 := hA.2.1
  refine lv_aload_n hx hb dX5_count_0 rfl (lv_at hl 0 rfl) ?_
  refine lv_iconst (v := nI 0) hx hb dX5_count_1 (by decide) ?_
  refine s_X5_0 C hinX5 hW (hS.1 64 (by omega) (by omega)) (by decide) lk45 dX5_count_2 (fun H locs hW => ?_)
  obtain ⟨I1, eI1⟩ : ∃ z, z = va_up I 64 (upd (I 64) 0 (nI 0)) := ⟨_, rfl⟩
  rw [← eI1] at hW
  have hW : Wd D cy A s.heap H locs L ad G (thr I 0) J := by rw [eI1] at hW; exact hW
  refine lv_aload_n hx hb dX5_count_5 rfl (lv_at hl 0 rfl) ?_
  refine lv_iload_n hx hb dX5_count_6 rfl (lv_at hl 1 rfl) ?_
  refine lv_if_eq (tgt := 15) hx hb dX5_count_7 (by decide) (fun hc_2 => ?_) (fun hc_2 => ?_)
  · skip
    refine lv_iconst (v := nI 1) hx hb dX5_count_15 (by decide) ?_
    refine lv_goto (tgt := 20) hx hb dX5_count_16 (by decide) ?_
    have hs : ixN x 2 = some 0 := by rw [show x = nI 0 from hc_2]; exact ixN_nI (by omega) (by omega)
    refine w_top (y := .int (bI (ixN x 2).isSome)) (by rw [hs]; rfl) ?_
    refine lv_iconst (v := nI 1) hx hb dX5_count_20 (by decide) ?_
    refine p_cVi C hml hg hW (c_X5_right l D cy L ad G (thr I 0) J hS ((ixN x 2).isSome) 1 0 (thr_0 I 0) (by omega) (by omega)) (cwV 2 C.2.2.2.1 gX5_count_X5_right rfl rfl rfl (by decide +kernel) ⟨Nat.le_of_ble_eq_true rfl, Nat.le_of_ble_eq_true rfl⟩) (p_recv C hW (hS.1 64 (by omega) (by omega)) (pF_5 (by decide)) rfl) rfl hl.1 rfl (Nat.le_of_ble_eq_true rfl) dX5_count_21 (Nat.le_of_ble_eq_true rfl) (Nat.le_of_ble_eq_true rfl) (fun v3 I4 J5 H locs hp hW => ?_)
    obtain ⟨hv, hI, hJ⟩ := hp
    replace hI := hI.trans (thr_thr I 0 _)
    subst v3
    subst I4
    subst J5
    refine b_if_ne (tgt := 29) hx hb dX5_count_24 (by decide) (fun hc_6 => ?_) (fun hc_6 => ?_)
    · skip
      have hr1 : (ixN x 2).isSome = true := rt_yes (by decide) hc_6
      rw [if_neg (fun z => by rw [hr1] at z; cases z.2)] at hW
      refine lv_iload_n hx hb dX5_count_29 rfl (lv_at hl 1 rfl) ?_
      refine lv_if_ne (tgt := 40) hx hb dX5_count_30 (by decide) (fun hc_7 => ?_) (fun hc_7 => ?_)
      · skip
        exact absurd hc_2 hc_7
      · skip
        refine lv_aload_n hx hb dX5_count_33 rfl (lv_at hl 0 rfl) ?_
        refine g_X5_1 C hinX5 hW (hS.1 64 (by omega) (by omega)) (by decide) lk49 dX5_count_34 ?_
        refine w_top (y := .int (nI cn)) (by rw [thr_k I 0 (by decide), hD.1]) ?_
        refine lv_goto (tgt := 44) hx hb dX5_count_37 (by decide) ?_
        have hsp : spCount cn cw σ x = (0, lN cn, σ) := by simp [spCount, hs]
        exact ret _ _ _ _ _ _ _ _ _ (Nat.le_of_ble_eq_true rfl) (Nat.le_of_ble_eq_true rfl) hW (rst.thr hsp h12 hD (fun _ => (nI_l (by omega)).symm)) dX5_count_44
    · skip
      rw [hs] at hc_6
      cases hc_6
  · skip
    refine lv_iload_n hx hb dX5_count_10 rfl (lv_at hl 1 rfl) ?_
    refine lv_iconst (v := nI 1) hx hb dX5_count_11 (by decide) ?_
    refine lv_icmp_ne (tgt := 19) hx hb dX5_count_12 (by decide) (fun hc_8 => ?_) (fun hc_8 => ?_)
    · skip
      refine lv_iconst (v := nI 0) hx hb dX5_count_19 (by decide) ?_
      have hs : ixN x 2 = none := ix2_none hc_2 hc_8
      refine w_top (y := .int (bI (ixN x 2).isSome)) (by rw [hs]; rfl) ?_
      refine lv_iconst (v := nI 1) hx hb dX5_count_20 (by decide) ?_
      refine p_cVi C hml hg hW (c_X5_right l D cy L ad G (thr I 0) J hS ((ixN x 2).isSome) 1 0 (thr_0 I 0) (by omega) (by omega)) (cwV 2 C.2.2.2.1 gX5_count_X5_right rfl rfl rfl (by decide +kernel) ⟨Nat.le_of_ble_eq_true rfl, Nat.le_of_ble_eq_true rfl⟩) (p_recv C hW (hS.1 64 (by omega) (by omega)) (pF_5 (by decide)) rfl) rfl hl.1 rfl (Nat.le_of_ble_eq_true rfl) dX5_count_21 (Nat.le_of_ble_eq_true rfl) (Nat.le_of_ble_eq_true rfl) (fun v9 I10 J11 H locs hp hW => ?_)
      obtain ⟨hv, hI, hJ⟩ := hp
      replace hI := hI.trans (thr_thr I 0 _)
      subst v9
      subst I10
      subst J11
      refine b_if_ne (tgt := 29) hx hb dX5_count_24 (by decide) (fun hc_12 => ?_) (fun hc_12 => ?_)
      · skip
        rw [hs] at hc_12
        cases hc_12
      · skip
        have hr0 : (ixN x 2).isSome = false := rt_no hc_12
        rw [if_pos ⟨rfl, hr0⟩] at hW
        refine lv_iconst (v := nI 0) hx hb dX5_count_27 (by decide) ?_
        have hsp : spCount cn cw σ x = (1, 0, σ) := by simp only [spCount, hs]
        exact ret _ _ _ _ _ _ _ _ _ (Nat.le_of_ble_eq_true rfl) (Nat.le_of_ble_eq_true rfl) hW (rst.thr hsp h12 hD (fun z => absurd z (by decide))) dX5_count_28
    · skip
      refine lv_iconst (v := nI 1) hx hb dX5_count_15 (by decide) ?_
      refine lv_goto (tgt := 20) hx hb dX5_count_16 (by decide) ?_
      have hs : ixN x 2 = some 1 := by rw [hc_8]; exact ixN_nI (by omega) (by omega)
      refine w_top (y := .int (bI (ixN x 2).isSome)) (by rw [hs]; rfl) ?_
      refine lv_iconst (v := nI 1) hx hb dX5_count_20 (by decide) ?_
      refine p_cVi C hml hg hW (c_X5_right l D cy L ad G (thr I 0) J hS ((ixN x 2).isSome) 1 0 (thr_0 I 0) (by omega) (by omega)) (cwV 2 C.2.2.2.1 gX5_count_X5_right rfl rfl rfl (by decide +kernel) ⟨Nat.le_of_ble_eq_true rfl, Nat.le_of_ble_eq_true rfl⟩) (p_recv C hW (hS.1 64 (by omega) (by omega)) (pF_5 (by decide)) rfl) rfl hl.1 rfl (Nat.le_of_ble_eq_true rfl) dX5_count_21 (Nat.le_of_ble_eq_true rfl) (Nat.le_of_ble_eq_true rfl) (fun v13 I14 J15 H locs hp hW => ?_)
      obtain ⟨hv, hI, hJ⟩ := hp
      replace hI := hI.trans (thr_thr I 0 _)
      subst v13
      subst I14
      subst J15
      refine b_if_ne (tgt := 29) hx hb dX5_count_24 (by decide) (fun hc_16 => ?_) (fun hc_16 => ?_)
      · skip
        have hr1 : (ixN x 2).isSome = true := rt_yes (by decide) hc_16
        rw [if_neg (fun z => by rw [hr1] at z; cases z.2)] at hW
        refine lv_iload_n hx hb dX5_count_29 rfl (lv_at hl 1 rfl) ?_
        refine lv_if_ne (tgt := 40) hx hb dX5_count_30 (by decide) (fun hc_17 => ?_) (fun hc_17 => ?_)
        · skip
          refine lv_aload_n hx hb dX5_count_40 rfl (lv_at hl 0 rfl) ?_
          refine g_X5_2 C hinX5 hW (hS.1 64 (by omega) (by omega)) (by decide) lk75 dX5_count_41 ?_
          refine w_top (y := .int (nI cw)) (by rw [thr_k I 0 (by decide), hD.2.1]) ?_
          have hsp : spCount cn cw σ x = (0, lN cw, σ) := by simp [spCount, hs]
          exact ret _ _ _ _ _ _ _ _ _ (Nat.le_of_ble_eq_true rfl) (Nat.le_of_ble_eq_true rfl) hW (rst.thr hsp h12 hD (fun _ => (nI_l (by omega)).symm)) dX5_count_44
        · skip
          exact absurd hc_17 (by rw [hc_8]; decide)
      · skip
        rw [hs] at hc_16
        cases hc_16
abbrev rmX5_copy : Room := { frames := 4, cells := 0, slots := 0, locals := 140 }
set_option maxHeartbeats 4000000 in
set_option maxRecDepth 100000 in
theorem c_X5_copy (l : Launch) (D : va_G) (cy : Nat → ClassId) (L : List Nat) (ad : Nat → Nat) (G : mG) (I : mI) (J : mJ) (hS : rSh L G) (cn cw : Nat) (σ : Ab) (hA : aOk cn cw σ) (hD : rDt cn cw σ I J) (x xv : Int32) : pMet l yX5_copy wsX5_copy rmX5_copy D cy L ad G I J [.ref (ad 64), .int x, .int xv] (qV (fun I' J' => rst (spCopy cw σ x xv) 0 cn cw I I' J J') D cy L ad G) := by
  refine pMet.ofV (cc := cX5_copy) (maxL := 3) (by decide +kernel) rfl (Nat.le_of_ble_eq_true rfl) ?_
  intro p e R s m args below meth c A Q C hml hR hg ret hW ls hl
  subst hR
  have C : Cx p s m args c cX5_copy RX5 wsX5_copy D cy A := C
  have hx := C.1
  have hb := C.2.1
  have lk26 := C.2.2.2.1 (.fieldLink RX5 26 "WaveWalkModel" "netOf" "[I") (by decide +kernel)
  have lk75 := C.2.2.2.1 (.fieldLink RX5 75 "WaveWalkModel" "walks" "I") (by decide +kernel)
  have hinX5 : ∀ w ∈ wsX50, w ∈ wsX5_copy := by decide +kernel
  have hl : lv_has ls 3 [(0, .ref (ad 64)), (1, .int x), (2, .int xv)] := hl
  have h6 := hA.1
  have h12 := hA.2.1
  refine lv_aload_n hx hb dX5_copy_0 rfl (lv_at hl 0 rfl) ?_
  refine lv_iload_n hx hb dX5_copy_1 rfl (lv_at hl 1 rfl) ?_
  refine p_cVi C hml hg hW (c_X5_isWalk l D cy L ad G I J hS cw hD.2.1 h12 x) (cwV 1 C.2.2.2.1 gX5_copy_X5_isWalk rfl rfl rfl (by decide +kernel) ⟨Nat.le_of_ble_eq_true rfl, Nat.le_of_ble_eq_true rfl⟩) (p_recv C hW (hS.1 64 (by omega) (by omega)) (pF_5 (by decide)) rfl) rfl hl.1 rfl (Nat.le_of_ble_eq_true rfl) dX5_copy_2 (Nat.le_of_ble_eq_true rfl) (Nat.le_of_ble_eq_true rfl) (fun v1 I2 J3 H locs hp hW => ?_)
  obtain ⟨hv, hI, hJ⟩ := hp
  subst v1
  subst I2
  subst J3
  refine b_if_eq (tgt := 61) hx hb dX5_copy_5 (by decide) (fun hc_4 => ?_) (fun hc_4 => ?_)
  · skip
    rw [if_neg (by rw [hc_4]; decide)] at hW
    have hn1 := is_none hc_4
    have hsp : spCopy cw σ x xv = (1, 0, σ) := by simp only [spCopy, hn1]
    exact ret _ _ _ _ _ _ _ _ (Nat.le_of_ble_eq_true rfl) (Nat.le_of_ble_eq_true rfl) hW (rst.thr hsp h12 hD (fun z => absurd z (by decide))) dX5_copy_61
  · skip
    rw [if_pos hc_4] at hW
    obtain ⟨j, hj⟩ := Option.isSome_iff_exists.mp hc_4
    obtain ⟨hjc, hxe⟩ := ixN_some hj (by omega)
    subst hxe
    have hD0 := rDt.thr hD h12 0
    obtain ⟨hno, htm, hwv⟩ := hD0.2.2.2.2.1 j hjc
    obtain ⟨hic, ht60, hwo, hus2⟩ := hA.2.2.2 j hjc
    obtain ⟨hpl, hdr, hto, hus, hmk⟩ := hD0.2.2.1 (aNt σ j) hic
    obtain ⟨hp1, hp12, hd4, hpr⟩ := hA.2.2.1 (aNt σ j) hic
    refine lv_aload_n hx hb dX5_copy_8 rfl (lv_at hl 0 rfl) ?_
    refine lv_iload_n hx hb dX5_copy_9 rfl (lv_at hl 2 rfl) ?_
    refine lv_if_lt (tgt := 25) hx hb dX5_copy_10 (by decide) (fun hc_5 => ?_) (fun hc_5 => ?_)
    · skip
      refine lv_iconst (v := nI 0) hx hb dX5_copy_25 (by decide) ?_
      have hs : ixN xv cw = none := ixN_neg hc_5
      refine w_top (y := .int (bI (ixN xv cw).isSome)) (by rw [hs]; rfl) ?_
      refine lv_iconst (v := nI 1) hx hb dX5_copy_26 (by decide) ?_
      refine p_cVi C hml hg hW (c_X5_right l D cy L ad G (thr I 0) J hS ((ixN xv cw).isSome) 1 0 (thr_0 I 0) (by omega) (by omega)) (cwV 2 C.2.2.2.1 gX5_copy_X5_right rfl rfl rfl (by decide +kernel) ⟨Nat.le_of_ble_eq_true rfl, Nat.le_of_ble_eq_true rfl⟩) (p_recv C hW (hS.1 64 (by omega) (by omega)) (pF_5 (by decide)) rfl) rfl hl.1 rfl (Nat.le_of_ble_eq_true rfl) dX5_copy_27 (Nat.le_of_ble_eq_true rfl) (Nat.le_of_ble_eq_true rfl) (fun v6 I7 J8 H locs hp hW => ?_)
      obtain ⟨hv, hI, hJ⟩ := hp
      replace hI := hI.trans (thr_thr I 0 _)
      subst v6
      subst I7
      subst J8
      refine b_if_eq (tgt := 61) hx hb dX5_copy_30 (by decide) (fun hc_9 => ?_) (fun hc_9 => ?_)
      · skip
        have hr0 : (ixN xv cw).isSome = false := rt_no hc_9
        rw [if_pos ⟨rfl, hr0⟩] at hW
        have hsp : spCopy cw σ (nI j) xv = (1, 0, σ) := by simp only [spCopy, hj, hs]
        exact ret _ _ _ _ _ _ _ _ (Nat.le_of_ble_eq_true rfl) (Nat.le_of_ble_eq_true rfl) hW (rst.thr hsp h12 hD (fun z => absurd z (by decide))) dX5_copy_61
      · skip
        rw [hs] at hc_9
        cases hc_9
    · skip
      refine lv_iload_n hx hb dX5_copy_13 rfl (lv_at hl 2 rfl) ?_
      refine lv_aload_n hx hb dX5_copy_14 rfl (lv_at hl 0 rfl) ?_
      refine g_X5_2 C hinX5 hW (hS.1 64 (by omega) (by omega)) (by decide) lk75 dX5_copy_15 ?_
      refine w_top (y := .int (nI cw)) (by rw [thr_k I 0 (by decide), hD.2.1]) ?_
      refine lv_icmp_ge (tgt := 25) hx hb dX5_copy_18 (by decide) (fun hc_10 => ?_) (fun hc_10 => ?_)
      · skip
        refine lv_iconst (v := nI 0) hx hb dX5_copy_25 (by decide) ?_
        have hs : ixN xv cw = none := ixN_ge hc_10 (by omega)
        refine w_top (y := .int (bI (ixN xv cw).isSome)) (by rw [hs]; rfl) ?_
        refine lv_iconst (v := nI 1) hx hb dX5_copy_26 (by decide) ?_
        refine p_cVi C hml hg hW (c_X5_right l D cy L ad G (thr I 0) J hS ((ixN xv cw).isSome) 1 0 (thr_0 I 0) (by omega) (by omega)) (cwV 2 C.2.2.2.1 gX5_copy_X5_right rfl rfl rfl (by decide +kernel) ⟨Nat.le_of_ble_eq_true rfl, Nat.le_of_ble_eq_true rfl⟩) (p_recv C hW (hS.1 64 (by omega) (by omega)) (pF_5 (by decide)) rfl) rfl hl.1 rfl (Nat.le_of_ble_eq_true rfl) dX5_copy_27 (Nat.le_of_ble_eq_true rfl) (Nat.le_of_ble_eq_true rfl) (fun v11 I12 J13 H locs hp hW => ?_)
        obtain ⟨hv, hI, hJ⟩ := hp
        replace hI := hI.trans (thr_thr I 0 _)
        subst v11
        subst I12
        subst J13
        refine b_if_eq (tgt := 61) hx hb dX5_copy_30 (by decide) (fun hc_14 => ?_) (fun hc_14 => ?_)
        · skip
          have hr0 : (ixN xv cw).isSome = false := rt_no hc_14
          rw [if_pos ⟨rfl, hr0⟩] at hW
          have hsp : spCopy cw σ (nI j) xv = (1, 0, σ) := by simp only [spCopy, hj, hs]
          exact ret _ _ _ _ _ _ _ _ (Nat.le_of_ble_eq_true rfl) (Nat.le_of_ble_eq_true rfl) hW (rst.thr hsp h12 hD (fun z => absurd z (by decide))) dX5_copy_61
        · skip
          rw [hs] at hc_14
          cases hc_14
      · skip
        refine lv_iconst (v := nI 1) hx hb dX5_copy_21 (by decide) ?_
        refine lv_goto (tgt := 26) hx hb dX5_copy_22 (by decide) ?_
        obtain ⟨i1, hi1, hx1, -⟩ := pk_mu hc_5 hc_10 (by omega)
        have hs : ixN xv cw = some i1 := by rw [hx1]; exact ixN_nI hi1 (by omega)
        refine w_top (y := .int (bI (ixN xv cw).isSome)) (by rw [hs]; rfl) ?_
        refine lv_iconst (v := nI 1) hx hb dX5_copy_26 (by decide) ?_
        refine p_cVi C hml hg hW (c_X5_right l D cy L ad G (thr I 0) J hS ((ixN xv cw).isSome) 1 0 (thr_0 I 0) (by omega) (by omega)) (cwV 2 C.2.2.2.1 gX5_copy_X5_right rfl rfl rfl (by decide +kernel) ⟨Nat.le_of_ble_eq_true rfl, Nat.le_of_ble_eq_true rfl⟩) (p_recv C hW (hS.1 64 (by omega) (by omega)) (pF_5 (by decide)) rfl) rfl hl.1 rfl (Nat.le_of_ble_eq_true rfl) dX5_copy_27 (Nat.le_of_ble_eq_true rfl) (Nat.le_of_ble_eq_true rfl) (fun v15 I16 J17 H locs hp hW => ?_)
        obtain ⟨hv, hI, hJ⟩ := hp
        replace hI := hI.trans (thr_thr I 0 _)
        subst v15
        subst I16
        subst J17
        refine b_if_eq (tgt := 61) hx hb dX5_copy_30 (by decide) (fun hc_18 => ?_) (fun hc_18 => ?_)
        · skip
          rw [hs] at hc_18
          cases hc_18
        · skip
          have hr1 : (ixN xv cw).isSome = true := rt_yes (by decide) hc_18
          rw [if_neg (fun z => by rw [hr1] at z; cases z.2)] at hW
          subst hx1
          obtain ⟨hno2, htm2, hwv2⟩ := hD0.2.2.2.2.1 i1 hi1
          obtain ⟨hic2, ht602, hwo2, hus3⟩ := hA.2.2.2 i1 hi1
          refine lv_aload_n hx hb dX5_copy_33 rfl (lv_at hl 0 rfl) ?_
          refine lv_aload_n hx hb dX5_copy_34 rfl (lv_at hl 0 rfl) ?_
          refine g_X5_8 C hinX5 hW (hS.1 64 (by omega) (by omega)) (by decide) (hS.2 8 (by omega) (by omega)) lk26 dX5_copy_35 ?_
          refine lv_iload_n hx hb dX5_copy_38 rfl (lv_at hl 1 rfl) ?_
          refine p_iald C hW (hS.1 70 (by omega) (by omega)) (by decide) (k := j) rfl (by rw [show ln 70 = 13 by decide]; omega) dX5_copy_39 ?_
          refine w_top (y := .int (nI (aNt σ j))) (by rw [hno]) ?_
          refine lv_aload_n hx hb dX5_copy_40 rfl (lv_at hl 0 rfl) ?_
          refine g_X5_8 C hinX5 hW (hS.1 64 (by omega) (by omega)) (by decide) (hS.2 8 (by omega) (by omega)) lk26 dX5_copy_41 ?_
          refine lv_iload_n hx hb dX5_copy_44 rfl (lv_at hl 2 rfl) ?_
          refine p_iald C hW (hS.1 70 (by omega) (by omega)) (by decide) (k := i1) rfl (by rw [show ln 70 = 13 by decide]; omega) dX5_copy_45 ?_
          refine w_top (y := .int (nI (aNt σ i1))) (by rw [hno2]) ?_
          refine n_icmp_ne (tgt := 53) hx hb (by omega) (by omega) dX5_copy_46 (by decide) (fun hc_19 => ?_) (fun hc_19 => ?_)
          · skip
            refine lv_iconst (v := nI 0) hx hb dX5_copy_53 (by decide) ?_
            refine w_top (y := .int (bI (decide (aNt σ j = aNt σ i1)))) (by rw [decide_eq_false hc_19]; rfl) ?_
            refine lv_iconst (v := nI 2) hx hb dX5_copy_54 (by decide) ?_
            refine p_cVi C hml hg hW (c_X5_right l D cy L ad G (thr I 0) J hS (decide (aNt σ j = aNt σ i1)) 2 0 (thr_0 I 0) (by omega) (by omega)) (cwV 2 C.2.2.2.1 gX5_copy_X5_right rfl rfl rfl (by decide +kernel) ⟨Nat.le_of_ble_eq_true rfl, Nat.le_of_ble_eq_true rfl⟩) (p_recv C hW (hS.1 64 (by omega) (by omega)) (pF_5 (by decide)) rfl) rfl hl.1 rfl (Nat.le_of_ble_eq_true rfl) dX5_copy_55 (Nat.le_of_ble_eq_true rfl) (Nat.le_of_ble_eq_true rfl) (fun v20 I21 J22 H locs hp hW => ?_)
            obtain ⟨hv, hI, hJ⟩ := hp
            replace hI := hI.trans (thr_thr I 0 _)
            subst v20
            subst I21
            subst J22
            refine b_if_ne (tgt := 62) hx hb dX5_copy_58 (by decide) (fun hc_23 => ?_) (fun hc_23 => ?_)
            · skip
              have hr1 : decide (aNt σ j = aNt σ i1) = true := rt_yes (by decide) hc_23
              rw [if_neg (fun z => by rw [hr1] at z; cases z.2)] at hW
              have hee := of_decide_eq_true hr1
              refine lv_aload_n hx hb dX5_copy_62 rfl (lv_at hl 0 rfl) ?_
              refine lv_iload_n hx hb dX5_copy_63 rfl (lv_at hl 2 rfl) ?_
              refine lv_iload_n hx hb dX5_copy_64 rfl (lv_at hl 1 rfl) ?_
              refine p_cVv C hml hg hW (c_X5_copies l D cy L ad G (thr I 0) J hS i1 j (by omega) (by omega) (aWv σ i1) hwv2) (cwV 2 C.2.2.2.1 gX5_copy_X5_copies rfl rfl rfl (by decide +kernel) ⟨Nat.le_of_ble_eq_true rfl, Nat.le_of_ble_eq_true rfl⟩) (p_recv C hW (hS.1 64 (by omega) (by omega)) (pF_5 (by decide)) rfl) rfl hl.1 rfl (Nat.le_of_ble_eq_true rfl) dX5_copy_65 (Nat.le_of_ble_eq_true rfl) (Nat.le_of_ble_eq_true rfl) (fun I24 J25 H locs hp hW => ?_)
              obtain ⟨hI, hB⟩ := hp
              rw [cp_same (by rw [hno, hno2, hee]), htm2] at hI
              subst I24
              have hsp : spCopy cw σ (nI j) (nI i1) = (0, 0, sWv σ j (aWv σ i1) (aTm σ i1)) := by simp [spCopy, hj, hs, hee]
              exact ret _ _ _ _ _ _ _ _ (Nat.le_of_ble_eq_true rfl) (Nat.le_of_ble_eq_true rfl) hW (rst.to hsp rfl (by rw [va_up_ne _ _ (by decide)]; exact thr_0 I 0) (hD0.wvB hjc h12 hB _) (((rfr.thr I J 0).up (by omega) (by omega) _).blk hB)) dX5_copy_68
            · skip
              have hr0 : decide (aNt σ j = aNt σ i1) = false := rt_no hc_23
              rw [if_pos ⟨rfl, hr0⟩] at hW
              have hsp : spCopy cw σ (nI j) (nI i1) = (2, 0, σ) := by simp [spCopy, hj, hs, of_decide_eq_false hr0]
              exact ret _ _ _ _ _ _ _ _ (Nat.le_of_ble_eq_true rfl) (Nat.le_of_ble_eq_true rfl) hW (rst.thr hsp h12 hD (fun z => absurd z (by decide))) dX5_copy_61
          · skip
            refine lv_iconst (v := nI 1) hx hb dX5_copy_49 (by decide) ?_
            refine lv_goto (tgt := 54) hx hb dX5_copy_50 (by decide) ?_
            refine w_top (y := .int (bI (decide (aNt σ j = aNt σ i1)))) (by rw [decide_eq_true hc_19]; rfl) ?_
            refine lv_iconst (v := nI 2) hx hb dX5_copy_54 (by decide) ?_
            refine p_cVi C hml hg hW (c_X5_right l D cy L ad G (thr I 0) J hS (decide (aNt σ j = aNt σ i1)) 2 0 (thr_0 I 0) (by omega) (by omega)) (cwV 2 C.2.2.2.1 gX5_copy_X5_right rfl rfl rfl (by decide +kernel) ⟨Nat.le_of_ble_eq_true rfl, Nat.le_of_ble_eq_true rfl⟩) (p_recv C hW (hS.1 64 (by omega) (by omega)) (pF_5 (by decide)) rfl) rfl hl.1 rfl (Nat.le_of_ble_eq_true rfl) dX5_copy_55 (Nat.le_of_ble_eq_true rfl) (Nat.le_of_ble_eq_true rfl) (fun v26 I27 J28 H locs hp hW => ?_)
            obtain ⟨hv, hI, hJ⟩ := hp
            replace hI := hI.trans (thr_thr I 0 _)
            subst v26
            subst I27
            subst J28
            refine b_if_ne (tgt := 62) hx hb dX5_copy_58 (by decide) (fun hc_29 => ?_) (fun hc_29 => ?_)
            · skip
              have hr1 : decide (aNt σ j = aNt σ i1) = true := rt_yes (by decide) hc_29
              rw [if_neg (fun z => by rw [hr1] at z; cases z.2)] at hW
              have hee := of_decide_eq_true hr1
              refine lv_aload_n hx hb dX5_copy_62 rfl (lv_at hl 0 rfl) ?_
              refine lv_iload_n hx hb dX5_copy_63 rfl (lv_at hl 2 rfl) ?_
              refine lv_iload_n hx hb dX5_copy_64 rfl (lv_at hl 1 rfl) ?_
              refine p_cVv C hml hg hW (c_X5_copies l D cy L ad G (thr I 0) J hS i1 j (by omega) (by omega) (aWv σ i1) hwv2) (cwV 2 C.2.2.2.1 gX5_copy_X5_copies rfl rfl rfl (by decide +kernel) ⟨Nat.le_of_ble_eq_true rfl, Nat.le_of_ble_eq_true rfl⟩) (p_recv C hW (hS.1 64 (by omega) (by omega)) (pF_5 (by decide)) rfl) rfl hl.1 rfl (Nat.le_of_ble_eq_true rfl) dX5_copy_65 (Nat.le_of_ble_eq_true rfl) (Nat.le_of_ble_eq_true rfl) (fun I30 J31 H locs hp hW => ?_)
              obtain ⟨hI, hB⟩ := hp
              rw [cp_same (by rw [hno, hno2, hee]), htm2] at hI
              subst I30
              have hsp : spCopy cw σ (nI j) (nI i1) = (0, 0, sWv σ j (aWv σ i1) (aTm σ i1)) := by simp [spCopy, hj, hs, hee]
              exact ret _ _ _ _ _ _ _ _ (Nat.le_of_ble_eq_true rfl) (Nat.le_of_ble_eq_true rfl) hW (rst.to hsp rfl (by rw [va_up_ne _ _ (by decide)]; exact thr_0 I 0) (hD0.wvB hjc h12 hB _) (((rfr.thr I J 0).up (by omega) (by omega) _).blk hB)) dX5_copy_68
            · skip
              have hr0 : decide (aNt σ j = aNt σ i1) = false := rt_no hc_29
              rw [if_pos ⟨rfl, hr0⟩] at hW
              have hsp : spCopy cw σ (nI j) (nI i1) = (2, 0, σ) := by simp [spCopy, hj, hs, of_decide_eq_false hr0]
              exact ret _ _ _ _ _ _ _ _ (Nat.le_of_ble_eq_true rfl) (Nat.le_of_ble_eq_true rfl) hW (rst.thr hsp h12 hD (fun z => absurd z (by decide))) dX5_copy_61
