theorem or_none {α β : Type} {o : Option α} {u : Option β} (h : (o.isSome && u.isSome) = false) : o = none ∨ u = none := by
  cases o with
  | none => exact Or.inl rfl
  | some a => cases u with
    | none => exact Or.inr rfl
    | some b => cases h
theorem and_some {α β : Type} {o : Option α} {u : Option β} (h : (o.isSome && u.isSome) = true) : (∃ a, o = some a) ∧ ∃ b, u = some b := by
  cases o with
  | none => cases h
  | some a => cases u with
    | none => cases h
    | some b => exact ⟨⟨a, rfl⟩, ⟨b, rfl⟩⟩
theorem rt_no {b : Bool} {k : Nat} (h : decide ((if (0 : Nat) = 0 ∧ b = false then k else 0) = 0) = false) : b = false := by
  cases b with
  | false => rfl
  | true => cases h
theorem rt_yes {b : Bool} {k : Nat} (hk : k ≠ 0) (h : decide ((if (0 : Nat) = 0 ∧ b = false then k else 0) = 0) = true) : b = true := by
  cases b with
  | true => rfl
  | false => exact absurd (of_decide_eq_true h) hk
theorem al_lo {p : Int32} {n : Nat} (h : p < -1) : (decide (p = -1) || (ixN p n).isSome) = false := by
  have e : (-1 : Int32).toInt = -1 := by decide
  rw [Int32.lt_iff_toInt_lt, e] at h
  rw [ixN_neg (by rw [Int32.lt_iff_toInt_lt]; have : (0 : Int32).toInt = 0 := rfl
                  omega), decide_eq_false (fun z => by rw [z, e] at h; omega)]
  rfl
theorem al_hi {p : Int32} {n : Nat} (hn : n < 2 ^ 31) (h : nI n ≤ p) : (decide (p = -1) || (ixN p n).isSome) = false := by
  rw [ixN_ge h hn]
  have e : (-1 : Int32).toInt = -1 := by decide
  rw [Int32.le_iff_toInt_le, nI_toInt hn] at h
  rw [decide_eq_false (fun z => by rw [z, e] at h; omega)]
  rfl
theorem al_in {p : Int32} {n : Nat} (hn : n < 2 ^ 31) (h1 : ¬ p < -1) (h2 : ¬ nI n ≤ p) : (decide (p = -1) || (ixN p n).isSome) = true := by
  have e : (-1 : Int32).toInt = -1 := by decide
  rw [Int32.lt_iff_toInt_lt, e] at h1
  rw [Int32.le_iff_toInt_le, nI_toInt hn] at h2
  by_cases h : p = -1
  · rw [decide_eq_true h]; rfl
  · have h3 : p.toInt ≠ -1 := fun z => h (Int32.toInt_inj.mp (z.trans e.symm))
    have h4 : (ixN p n).isSome = true := by unfold ixN; rw [if_pos (by omega)]; rfl
    rw [h4, Bool.or_true]
theorem ic_gt2 {x : Int32} (h : nI 2 < x) : nI 3 ≤ x := by
  rw [Int32.lt_iff_toInt_lt, nI_toInt (by omega)] at h
  rw [Int32.le_iff_toInt_le, nI_toInt (by omega)]
  omega
theorem ic_ngt2 {x : Int32} (h : ¬ nI 2 < x) : ¬ nI 3 ≤ x := by
  rw [Int32.lt_iff_toInt_lt, nI_toInt (by omega)] at h
  rw [Int32.le_iff_toInt_le, nI_toInt (by omega)]
  omega
abbrev rmX5_join : Room := { frames := 4, cells := 0, slots := 0, locals := 140 }
set_option maxHeartbeats 4000000 in
set_option maxRecDepth 100000 in
theorem c_X5_join (l : Launch) (D : va_G) (cy : Nat → ClassId) (L : List Nat) (ad : Nat → Nat) (G : mG) (I : mI) (J : mJ) (hS : rSh L G) (cn cw : Nat) (σ : Ab) (hA : aOk cn cw σ) (hD : rDt cn cw σ I J) (x xp xd xp2 xd2 : Int32) : pMet l yX5_join wsX5_join rmX5_join D cy L ad G I J [.ref (ad 64), .int x, .int xp, .int xd, .int xp2, .int xd2] (qI (fun v I' J' => rst (spJoin cn σ x xp xd xp2 xd2) v.toInt64 cn cw I I' J J') D cy L ad G) := by
  refine pMet.ofZ (cc := cX5_join) (maxL := 10) (by decide +kernel) rfl (Nat.le_of_ble_eq_true rfl) ?_
  intro p e R s m args below meth c A Q C hml hR hg ret hW ls hl
  subst hR
  have C : Cx p s m args c cX5_join RX5 wsX5_join D cy A := C
  have hx := C.1
  have hb := C.2.1
  have lk16 := C.2.2.2.1 (.fieldLink RX5 16 "WaveWalkModel" "to" "[I") (by decide +kernel)
  have lk23 := C.2.2.2.1 (.fieldLink RX5 23 "WaveWalkModel" "isUsed" "[Z") (by decide +kernel)
  have hinX5 : ∀ w ∈ wsX50, w ∈ wsX5_join := by decide +kernel
  have hl : lv_has ls 10 [(0, .ref (ad 64)), (1, .int x), (2, .int xp), (3, .int xd), (4, .int xp2), (5, .int xd2)] := hl
  have h6 := hA.1
  have h12 := hA.2.1
  refine lv_aload_n hx hb dX5_join_0 rfl (lv_at hl 0 rfl) ?_
  refine lv_iload_n hx hb dX5_join_1 rfl (lv_at hl 1 rfl) ?_
  refine p_cVi C hml hg hW (c_X5_isNet l D cy L ad G I J hS cn hD.1 (by omega) x) (cwV 1 C.2.2.2.1 gX5_join_X5_isNet rfl rfl rfl (by decide +kernel) ⟨Nat.le_of_ble_eq_true rfl, Nat.le_of_ble_eq_true rfl⟩) (p_recv C hW (hS.1 64 (by omega) (by omega)) (pF_5 (by decide)) rfl) rfl hl.1 rfl (Nat.le_of_ble_eq_true rfl) dX5_join_2 (Nat.le_of_ble_eq_true rfl) (Nat.le_of_ble_eq_true rfl) (fun v1 I2 J3 H locs hp hW => ?_)
  obtain ⟨hv, hI, hJ⟩ := hp
  subst v1
  subst I2
  subst J3
  refine b_if_eq (tgt := 39) hx hb dX5_join_5 (by decide) (fun hc_4 => ?_) (fun hc_4 => ?_)
  · skip
    rw [if_neg (by rw [hc_4]; decide)] at hW
    have hn1 := is_none hc_4
    refine lv_iconst (v := nI 0) hx hb dX5_join_39 (by decide) ?_
    have hsp : spJoin cn σ x xp xd xp2 xd2 = (1, 0, σ) := by simp only [spJoin, hn1]
    exact ret _ _ _ _ _ _ _ _ _ (Nat.le_of_ble_eq_true rfl) (Nat.le_of_ble_eq_true rfl) hW (rst.thr hsp h12 hD (fun z => absurd z (by decide))) (by decide) dX5_join_40
  · skip
    rw [if_pos hc_4] at hW
    obtain ⟨i, hi⟩ := Option.isSome_iff_exists.mp hc_4
    obtain ⟨hic, hxe⟩ := ixN_some hi (by omega)
    subst hxe
    have hD0 := rDt.thr hD h12 0
    obtain ⟨hpl, hdr, hto, hus, hmk⟩ := hD0.2.2.1 i hic
    obtain ⟨hp1, hp12, hd4, hpr⟩ := hA.2.2.1 i hic
    refine lv_aload_n hx hb dX5_join_8 rfl (lv_at hl 0 rfl) ?_
    refine lv_iload_n hx hb dX5_join_9 rfl (lv_at hl 1 rfl) ?_
    refine lv_iload_n hx hb dX5_join_10 rfl (lv_at hl 2 rfl) ?_
    refine lv_iload_n hx hb dX5_join_11 rfl (lv_at hl 3 rfl) ?_
    refine p_cVi C hml hg hW (c_X5_isDoor l D cy L ad G (thr I 0) J hS i (aPl σ i) (aDr σ i) (by omega) hpl hdr hp12 (by omega) (thr_0 I 0) xp xd) (cwV 3 C.2.2.2.1 gX5_join_X5_isDoor rfl rfl rfl (by decide +kernel) ⟨Nat.le_of_ble_eq_true rfl, Nat.le_of_ble_eq_true rfl⟩) (p_recv C hW (hS.1 64 (by omega) (by omega)) (pF_5 (by decide)) rfl) rfl hl.1 rfl (Nat.le_of_ble_eq_true rfl) dX5_join_12 (Nat.le_of_ble_eq_true rfl) (Nat.le_of_ble_eq_true rfl) (fun v5 I6 J7 H locs hp hW => ?_)
    obtain ⟨hv, hI, hJ⟩ := hp
    replace hI := hI.trans (thr_thr I 0 _)
    subst v5
    subst I6
    subst J7
    refine b_if_eq (tgt := 39) hx hb dX5_join_15 (by decide) (fun hc_8 => ?_) (fun hc_8 => ?_)
    · skip
      rw [if_neg (by rw [hc_8]; decide)] at hW
      have hn2 := spDoor_none (σ := σ) (or_none hc_8)
      refine lv_iconst (v := nI 0) hx hb dX5_join_39 (by decide) ?_
      have hsp : spJoin cn σ (nI i) xp xd xp2 xd2 = (1, 0, σ) := by simp only [spJoin, hi, hn2]
      exact ret _ _ _ _ _ _ _ _ _ (Nat.le_of_ble_eq_true rfl) (Nat.le_of_ble_eq_true rfl) hW (rst.thr hsp h12 hD (fun z => absurd z (by decide))) (by decide) dX5_join_40
    · skip
      rw [if_pos hc_8] at hW
      obtain ⟨ha1, ha2⟩ := and_some hc_8
      obtain ⟨q, hq1⟩ := ha1
      obtain ⟨e1, he1⟩ := ha2
      obtain ⟨hql1, hx1⟩ := ixN_some hq1 (by omega)
      obtain ⟨hel1, hx2⟩ := ixN_some he1 (by omega)
      subst hx1
      subst hx2
      have hc1 := spDoor_some hq1 he1
      refine lv_aload_n hx hb dX5_join_18 rfl (lv_at hl 0 rfl) ?_
      refine lv_iload_n hx hb dX5_join_19 rfl (lv_at hl 1 rfl) ?_
      refine lv_iload hx hb dX5_join_20 (lv_at hl 4 rfl) ?_
      refine lv_iload hx hb dX5_join_22 (lv_at hl 5 rfl) ?_
      refine p_cVi C hml hg hW (c_X5_isDoor l D cy L ad G (thr I 0) J hS i (aPl σ i) (aDr σ i) (by omega) hpl hdr hp12 (by omega) (thr_0 I 0) xp2 xd2) (cwV 3 C.2.2.2.1 gX5_join_X5_isDoor rfl rfl rfl (by decide +kernel) ⟨Nat.le_of_ble_eq_true rfl, Nat.le_of_ble_eq_true rfl⟩) (p_recv C hW (hS.1 64 (by omega) (by omega)) (pF_5 (by decide)) rfl) rfl hl.1 rfl (Nat.le_of_ble_eq_true rfl) dX5_join_24 (Nat.le_of_ble_eq_true rfl) (Nat.le_of_ble_eq_true rfl) (fun v9 I10 J11 H locs hp hW => ?_)
      obtain ⟨hv, hI, hJ⟩ := hp
      replace hI := hI.trans (thr_thr I 0 _)
      subst v9
      subst I10
      subst J11
      refine b_if_eq (tgt := 39) hx hb dX5_join_27 (by decide) (fun hc_12 => ?_) (fun hc_12 => ?_)
      · skip
        rw [if_neg (by rw [hc_12]; decide)] at hW
        have hn2 := spDoor_none (σ := σ) (or_none hc_12)
        refine lv_iconst (v := nI 0) hx hb dX5_join_39 (by decide) ?_
        have hsp : spJoin cn σ (nI i) (nI q) (nI e1) xp2 xd2 = (1, 0, σ) := by simp only [spJoin, hi, hc1, hn2]
        exact ret _ _ _ _ _ _ _ _ _ (Nat.le_of_ble_eq_true rfl) (Nat.le_of_ble_eq_true rfl) hW (rst.thr hsp h12 hD (fun z => absurd z (by decide))) (by decide) dX5_join_40
      · skip
        rw [if_pos hc_12] at hW
        obtain ⟨ha1, ha2⟩ := and_some hc_12
        obtain ⟨q2, hq2⟩ := ha1
        obtain ⟨e2, he2⟩ := ha2
        obtain ⟨hql2, hx1⟩ := ixN_some hq2 (by omega)
        obtain ⟨hel2, hx2⟩ := ixN_some he2 (by omega)
        subst hx1
        subst hx2
        have hc2 := spDoor_some hq2 he2
        refine lv_aload_n hx hb dX5_join_30 rfl (lv_at hl 0 rfl) ?_
        refine g_X5_7 C hinX5 hW (hS.1 64 (by omega) (by omega)) (by decide) (hS.2 7 (by omega) (by omega)) lk23 dX5_join_31 ?_
        refine lv_iload_n hx hb dX5_join_34 rfl (lv_at hl 1 rfl) ?_
        refine p_zald C hW (hS.1 69 (by omega) (by omega)) (by decide) (k := i) rfl (by rw [show ln 69 = 6 by decide]; omega) dX5_join_35 ?_
        refine w_top (y := .int (bI (aUs σ i))) (by rw [hus]) ?_
        refine b_if_eq (tgt := 41) hx hb dX5_join_36 (by decide) (fun hc_13 => ?_) (fun hc_13 => ?_)
        · skip
          refine lv_iconst (v := nI 4) hx hb dX5_join_41 (by decide) ?_
          refine lv_iload_n hx hb dX5_join_42 rfl (lv_at hl 2 rfl) ?_
          refine n_imul hx hb dX5_join_43 ?_
          refine lv_iload_n hx hb dX5_join_44 rfl (lv_at hl 3 rfl) ?_
          refine n_iadd hx hb dX5_join_45 ?_
          refine w_top (y := .int (nI (q * 4 + e1))) (by rw [show (4 * q) + e1 = q * 4 + e1 by omega]) ?_
          refine lv_istore (lv' := [(6, .int (nI (q * 4 + e1))), (0, .ref (ad 64)), (1, .int (nI i)), (2, .int (nI q)), (3, .int (nI e1)), (4, .int (nI q2)), (5, .int (nI e2))]) hx hb dX5_join_46 hl (by decide) rfl (fun ls hl => ?_)
          refine lv_iconst (v := nI 4) hx hb dX5_join_48 (by decide) ?_
          refine lv_iload hx hb dX5_join_49 (lv_at hl 5 rfl) ?_
          refine n_imul hx hb dX5_join_51 ?_
          refine lv_iload hx hb dX5_join_52 (lv_at hl 6 rfl) ?_
          refine n_iadd hx hb dX5_join_54 ?_
          refine w_top (y := .int (nI (q2 * 4 + e2))) (by rw [show (4 * q2) + e2 = q2 * 4 + e2 by omega]) ?_
          refine lv_istore (lv' := [(7, .int (nI (q2 * 4 + e2))), (6, .int (nI (q * 4 + e1))), (0, .ref (ad 64)), (1, .int (nI i)), (2, .int (nI q)), (3, .int (nI e1)), (4, .int (nI q2)), (5, .int (nI e2))]) hx hb dX5_join_55 hl (by decide) rfl (fun ls hl => ?_)
          have h48 : ∀ c, c < 48 → aTo σ i c < 48 := fun c hc => (hpr c hc).1
          have ha48 := h48 (q * 4 + e1) (by omega)
          have hb48 := h48 (q2 * 4 + e2) (by omega)
          refine lv_aload_n hx hb dX5_join_57 rfl (lv_at hl 2 rfl) ?_
          refine g_X5_5 C hinX5 hW (hS.1 64 (by omega) (by omega)) (by decide) (hS.2 5 (by omega) (by omega)) lk16 dX5_join_58 ?_
          refine lv_bipush (v := nI 48) hx hb dX5_join_61 (by decide) ?_
          refine lv_iload_n hx hb dX5_join_63 rfl (lv_at hl 3 rfl) ?_
          refine n_imul hx hb dX5_join_64 ?_
          refine lv_iload hx hb dX5_join_65 (lv_at hl 1 rfl) ?_
          refine n_iadd hx hb dX5_join_67 ?_
          refine p_iald C hW (hS.1 67 (by omega) (by omega)) (by decide) (k := (48 * i) + (q * 4 + e1)) rfl (by rw [show ln 67 = 288 by decide]; omega) dX5_join_68 ?_
          refine w_top (y := .int (nI (aTo σ i (q * 4 + e1)))) (by rw [hto _ (by omega)]) ?_
          refine lv_istore (lv' := [(8, .int (nI (aTo σ i (q * 4 + e1)))), (7, .int (nI (q2 * 4 + e2))), (6, .int (nI (q * 4 + e1))), (0, .ref (ad 64)), (1, .int (nI i)), (2, .int (nI q)), (3, .int (nI e1)), (4, .int (nI q2)), (5, .int (nI e2))]) hx hb dX5_join_69 hl (by decide) rfl (fun ls hl => ?_)
          refine lv_aload_n hx hb dX5_join_71 rfl (lv_at hl 3 rfl) ?_
          refine g_X5_5 C hinX5 hW (hS.1 64 (by omega) (by omega)) (by decide) (hS.2 5 (by omega) (by omega)) lk16 dX5_join_72 ?_
          refine lv_bipush (v := nI 48) hx hb dX5_join_75 (by decide) ?_
          refine lv_iload_n hx hb dX5_join_77 rfl (lv_at hl 4 rfl) ?_
          refine n_imul hx hb dX5_join_78 ?_
          refine lv_iload hx hb dX5_join_79 (lv_at hl 1 rfl) ?_
          refine n_iadd hx hb dX5_join_81 ?_
          refine p_iald C hW (hS.1 67 (by omega) (by omega)) (by decide) (k := (48 * i) + (q2 * 4 + e2)) rfl (by rw [show ln 67 = 288 by decide]; omega) dX5_join_82 ?_
          refine w_top (y := .int (nI (aTo σ i (q2 * 4 + e2)))) (by rw [hto _ (by omega)]) ?_
          refine lv_istore (lv' := [(9, .int (nI (aTo σ i (q2 * 4 + e2)))), (8, .int (nI (aTo σ i (q * 4 + e1)))), (7, .int (nI (q2 * 4 + e2))), (6, .int (nI (q * 4 + e1))), (0, .ref (ad 64)), (1, .int (nI i)), (2, .int (nI q)), (3, .int (nI e1)), (4, .int (nI q2)), (5, .int (nI e2))]) hx hb dX5_join_83 hl (by decide) rfl (fun ls hl => ?_)
          rw [← up_same (thr I 0) 67] at hW
          refine lv_aload_n hx hb dX5_join_85 rfl (lv_at hl 4 rfl) ?_
          refine g_X5_5 C hinX5 hW (hS.1 64 (by omega) (by omega)) (by decide) (hS.2 5 (by omega) (by omega)) lk16 dX5_join_86 ?_
          refine lv_bipush (v := nI 48) hx hb dX5_join_89 (by decide) ?_
          refine lv_iload_n hx hb dX5_join_91 rfl (lv_at hl 5 rfl) ?_
          refine n_imul hx hb dX5_join_92 ?_
          refine lv_iload hx hb dX5_join_93 (lv_at hl 1 rfl) ?_
          refine n_iadd hx hb dX5_join_95 ?_
          refine lv_iload hx hb dX5_join_96 (lv_at hl 1 rfl) ?_
          refine p_iast C hW (hS.1 67 (by omega) (by omega)) (by decide) (k := (48 * i) + (aTo σ i (q * 4 + e1))) rfl (by rw [show ln 67 = 288 by decide]; omega) dX5_join_98 (fun H locs hW => ?_)
          rw [va_up_self, up_up] at hW
          refine lv_aload_n hx hb dX5_join_99 rfl (lv_at hl 4 rfl) ?_
          refine g_X5_5 C hinX5 hW (hS.1 64 (by omega) (by omega)) (by decide) (hS.2 5 (by omega) (by omega)) lk16 dX5_join_100 ?_
          refine lv_bipush (v := nI 48) hx hb dX5_join_103 (by decide) ?_
          refine lv_iload_n hx hb dX5_join_105 rfl (lv_at hl 5 rfl) ?_
          refine n_imul hx hb dX5_join_106 ?_
          refine lv_iload hx hb dX5_join_107 (lv_at hl 0 rfl) ?_
          refine n_iadd hx hb dX5_join_109 ?_
          refine lv_iload hx hb dX5_join_110 (lv_at hl 0 rfl) ?_
          refine p_iast C hW (hS.1 67 (by omega) (by omega)) (by decide) (k := (48 * i) + (aTo σ i (q2 * 4 + e2))) rfl (by rw [show ln 67 = 288 by decide]; omega) dX5_join_112 (fun H locs hW => ?_)
          rw [va_up_self, up_up] at hW
          refine lv_aload_n hx hb dX5_join_113 rfl (lv_at hl 4 rfl) ?_
          refine g_X5_5 C hinX5 hW (hS.1 64 (by omega) (by omega)) (by decide) (hS.2 5 (by omega) (by omega)) lk16 dX5_join_114 ?_
          refine lv_bipush (v := nI 48) hx hb dX5_join_117 (by decide) ?_
          refine lv_iload_n hx hb dX5_join_119 rfl (lv_at hl 5 rfl) ?_
          refine n_imul hx hb dX5_join_120 ?_
          refine lv_iload hx hb dX5_join_121 (lv_at hl 3 rfl) ?_
          refine n_iadd hx hb dX5_join_123 ?_
          refine lv_iload hx hb dX5_join_124 (lv_at hl 2 rfl) ?_
          refine p_iast C hW (hS.1 67 (by omega) (by omega)) (by decide) (k := (48 * i) + (q * 4 + e1)) rfl (by rw [show ln 67 = 288 by decide]; omega) dX5_join_126 (fun H locs hW => ?_)
          rw [va_up_self, up_up] at hW
          refine lv_aload_n hx hb dX5_join_127 rfl (lv_at hl 4 rfl) ?_
          refine g_X5_5 C hinX5 hW (hS.1 64 (by omega) (by omega)) (by decide) (hS.2 5 (by omega) (by omega)) lk16 dX5_join_128 ?_
          refine lv_bipush (v := nI 48) hx hb dX5_join_131 (by decide) ?_
          refine lv_iload_n hx hb dX5_join_133 rfl (lv_at hl 5 rfl) ?_
          refine n_imul hx hb dX5_join_134 ?_
          refine lv_iload hx hb dX5_join_135 (lv_at hl 2 rfl) ?_
          refine n_iadd hx hb dX5_join_137 ?_
          refine lv_iload hx hb dX5_join_138 (lv_at hl 3 rfl) ?_
          refine p_iast C hW (hS.1 67 (by omega) (by omega)) (by decide) (k := (48 * i) + (q2 * 4 + e2)) rfl (by rw [show ln 67 = 288 by decide]; omega) dX5_join_140 (fun H locs hW => ?_)
          rw [va_up_self, up_up] at hW
          refine lv_iconst (v := nI 1) hx hb dX5_join_141 (by decide) ?_
          have hsp : spJoin cn σ (nI i) (nI q) (nI e1) (nI q2) (nI e2) = (0, 1, sTo σ i (jnF (aTo σ i) (q * 4 + e1) (q2 * 4 + e2))) := by simp [spJoin, hi, hc1, hc2, hc_13]
          have hjr := join_ref (show i < 6 by omega) h48 hto (show q * 4 + e1 < 48 by omega) (show q2 * 4 + e2 < 48 by omega)
          exact ret _ _ _ _ _ _ _ _ _ (Nat.le_of_ble_eq_true rfl) (Nat.le_of_ble_eq_true rfl) hW (rst.to hsp (by decide) (by rw [va_up_ne _ _ (by decide)]; exact thr_0 I 0) (hD0.to hic h6 (by rw [va_up_ne _ _ (by decide)]) (by rw [va_up_ne _ _ (by decide)]) (fun r _ _ h3 => va_up_ne _ _ h3) (by rw [va_up_self]; exact hjr.1) (by rw [va_up_self]; exact hjr.2)) ((rfr.thr I J 0).up (by omega) (by omega) _)) (by decide) dX5_join_142
        · skip
          refine lv_iconst (v := nI 0) hx hb dX5_join_39 (by decide) ?_
          have hsp : spJoin cn σ (nI i) (nI q) (nI e1) (nI q2) (nI e2) = (0, 0, σ) := by simp [spJoin, hi, hc1, hc2, hc_13]
          exact ret _ _ _ _ _ _ _ _ _ (Nat.le_of_ble_eq_true rfl) (Nat.le_of_ble_eq_true rfl) hW (rst.thr hsp h12 hD (fun _ => by decide)) (by decide) dX5_join_40
abbrev rmX5_leads : Room := { frames := 4, cells := 0, slots := 0, locals := 140 }
set_option maxHeartbeats 4000000 in
set_option maxRecDepth 100000 in
theorem c_X5_leads (l : Launch) (D : va_G) (cy : Nat → ClassId) (L : List Nat) (ad : Nat → Nat) (G : mG) (I : mI) (J : mJ) (hS : rSh L G) (cn cw : Nat) (σ : Ab) (hA : aOk cn cw σ) (hD : rDt cn cw σ I J) (x xp xd : Int32) : pMet l yX5_leads wsX5_leads rmX5_leads D cy L ad G I J [.ref (ad 64), .int x, .int xp, .int xd] (qI (fun v I' J' => rst (spLeads cn σ x xp xd) v.toInt64 cn cw I I' J J') D cy L ad G) := by
  refine pMet.ofI (cc := cX5_leads) (maxL := 4) (by decide +kernel) rfl (Nat.le_of_ble_eq_true rfl) ?_
  intro p e R s m args below meth c A Q C hml hR hg ret hW ls hl
  subst hR
  have C : Cx p s m args c cX5_leads RX5 wsX5_leads D cy A := C
  have hx := C.1
  have hb := C.2.1
  have lk16 := C.2.2.2.1 (.fieldLink RX5 16 "WaveWalkModel" "to" "[I") (by decide +kernel)
  have hinX5 : ∀ w ∈ wsX50, w ∈ wsX5_leads := by decide +kernel
  have hl : lv_has ls 4 [(0, .ref (ad 64)), (1, .int x), (2, .int xp), (3, .int xd)] := hl
  have h6 := hA.1
  have h12 := hA.2.1
  refine lv_aload_n hx hb dX5_leads_0 rfl (lv_at hl 0 rfl) ?_
  refine lv_iload_n hx hb dX5_leads_1 rfl (lv_at hl 1 rfl) ?_
  refine p_cVi C hml hg hW (c_X5_isNet l D cy L ad G I J hS cn hD.1 (by omega) x) (cwV 1 C.2.2.2.1 gX5_leads_X5_isNet rfl rfl rfl (by decide +kernel) ⟨Nat.le_of_ble_eq_true rfl, Nat.le_of_ble_eq_true rfl⟩) (p_recv C hW (hS.1 64 (by omega) (by omega)) (pF_5 (by decide)) rfl) rfl hl.1 rfl (Nat.le_of_ble_eq_true rfl) dX5_leads_2 (Nat.le_of_ble_eq_true rfl) (Nat.le_of_ble_eq_true rfl) (fun v1 I2 J3 H locs hp hW => ?_)
  obtain ⟨hv, hI, hJ⟩ := hp
  subst v1
  subst I2
  subst J3
  refine b_if_eq (tgt := 36) hx hb dX5_leads_5 (by decide) (fun hc_4 => ?_) (fun hc_4 => ?_)
  · skip
    rw [if_neg (by rw [hc_4]; decide)] at hW
    have hn1 := is_none hc_4
    refine lv_iconst (v := nI 0) hx hb dX5_leads_36 (by decide) ?_
    have hsp : spLeads cn σ x xp xd = (1, 0, σ) := by simp only [spLeads, hn1]
    exact ret _ _ _ _ _ _ _ _ _ (Nat.le_of_ble_eq_true rfl) (Nat.le_of_ble_eq_true rfl) hW (rst.thr hsp h12 hD (fun z => absurd z (by decide))) dX5_leads_37
  · skip
    rw [if_pos hc_4] at hW
    obtain ⟨i, hi⟩ := Option.isSome_iff_exists.mp hc_4
    obtain ⟨hic, hxe⟩ := ixN_some hi (by omega)
    subst hxe
    have hD0 := rDt.thr hD h12 0
    obtain ⟨hpl, hdr, hto, hus, hmk⟩ := hD0.2.2.1 i hic
    obtain ⟨hp1, hp12, hd4, hpr⟩ := hA.2.2.1 i hic
    refine lv_aload_n hx hb dX5_leads_8 rfl (lv_at hl 0 rfl) ?_
    refine lv_iload_n hx hb dX5_leads_9 rfl (lv_at hl 1 rfl) ?_
    refine lv_iload_n hx hb dX5_leads_10 rfl (lv_at hl 2 rfl) ?_
    refine lv_iload_n hx hb dX5_leads_11 rfl (lv_at hl 3 rfl) ?_
    refine p_cVi C hml hg hW (c_X5_isDoor l D cy L ad G (thr I 0) J hS i (aPl σ i) (aDr σ i) (by omega) hpl hdr hp12 (by omega) (thr_0 I 0) xp xd) (cwV 3 C.2.2.2.1 gX5_leads_X5_isDoor rfl rfl rfl (by decide +kernel) ⟨Nat.le_of_ble_eq_true rfl, Nat.le_of_ble_eq_true rfl⟩) (p_recv C hW (hS.1 64 (by omega) (by omega)) (pF_5 (by decide)) rfl) rfl hl.1 rfl (Nat.le_of_ble_eq_true rfl) dX5_leads_12 (Nat.le_of_ble_eq_true rfl) (Nat.le_of_ble_eq_true rfl) (fun v5 I6 J7 H locs hp hW => ?_)
    obtain ⟨hv, hI, hJ⟩ := hp
    replace hI := hI.trans (thr_thr I 0 _)
    subst v5
    subst I6
    subst J7
    refine b_if_eq (tgt := 36) hx hb dX5_leads_15 (by decide) (fun hc_8 => ?_) (fun hc_8 => ?_)
    · skip
      rw [if_neg (by rw [hc_8]; decide)] at hW
      have hn2 := spDoor_none (σ := σ) (or_none hc_8)
      refine lv_iconst (v := nI 0) hx hb dX5_leads_36 (by decide) ?_
      have hsp : spLeads cn σ (nI i) xp xd = (1, 0, σ) := by simp only [spLeads, hi, hn2]
      exact ret _ _ _ _ _ _ _ _ _ (Nat.le_of_ble_eq_true rfl) (Nat.le_of_ble_eq_true rfl) hW (rst.thr hsp h12 hD (fun z => absurd z (by decide))) dX5_leads_37
    · skip
      rw [if_pos hc_8] at hW
      obtain ⟨ha1, ha2⟩ := and_some hc_8
      obtain ⟨q, hq1⟩ := ha1
      obtain ⟨e1, he1⟩ := ha2
      obtain ⟨hql1, hx1⟩ := ixN_some hq1 (by omega)
      obtain ⟨hel1, hx2⟩ := ixN_some he1 (by omega)
      subst hx1
      subst hx2
      have hc1 := spDoor_some hq1 he1
      refine lv_aload_n hx hb dX5_leads_18 rfl (lv_at hl 0 rfl) ?_
      refine g_X5_5 C hinX5 hW (hS.1 64 (by omega) (by omega)) (by decide) (hS.2 5 (by omega) (by omega)) lk16 dX5_leads_19 ?_
      refine lv_bipush (v := nI 48) hx hb dX5_leads_22 (by decide) ?_
      refine lv_iload_n hx hb dX5_leads_24 rfl (lv_at hl 1 rfl) ?_
      refine n_imul hx hb dX5_leads_25 ?_
      refine lv_iconst (v := nI 4) hx hb dX5_leads_26 (by decide) ?_
      refine lv_iload_n hx hb dX5_leads_27 rfl (lv_at hl 2 rfl) ?_
      refine n_imul hx hb dX5_leads_28 ?_
      refine n_iadd hx hb dX5_leads_29 ?_
      refine lv_iload_n hx hb dX5_leads_30 rfl (lv_at hl 3 rfl) ?_
      refine n_iadd hx hb dX5_leads_31 ?_
      refine p_iald C hW (hS.1 67 (by omega) (by omega)) (by decide) (k := ((48 * i) + (4 * q)) + e1) rfl (by rw [show ln 67 = 288 by decide]; omega) dX5_leads_32 ?_
      refine w_top (y := .int (nI (aTo σ i (q * 4 + e1)))) (by rw [show ((48 * i) + (4 * q)) + e1 = 48 * i + (q * 4 + e1) by omega, hto _ (by omega)]) ?_
      have ht48 := (hpr (q * 4 + e1) (by omega)).1
      refine lv_goto (tgt := 37) hx hb dX5_leads_33 (by decide) ?_
      have hsp : spLeads cn σ (nI i) (nI q) (nI e1) = (0, lN (aTo σ i (q * 4 + e1)), σ) := by simp only [spLeads, hi, hc1]
      exact ret _ _ _ _ _ _ _ _ _ (Nat.le_of_ble_eq_true rfl) (Nat.le_of_ble_eq_true rfl) hW (rst.thr hsp h12 hD (fun _ => (nI_l (by omega)).symm)) dX5_leads_37
abbrev rmX5_mark : Room := { frames := 4, cells := 0, slots := 0, locals := 140 }
set_option maxHeartbeats 4000000 in
set_option maxRecDepth 100000 in
theorem c_X5_mark (l : Launch) (D : va_G) (cy : Nat → ClassId) (L : List Nat) (ad : Nat → Nat) (G : mG) (I : mI) (J : mJ) (hS : rSh L G) (cn cw : Nat) (σ : Ab) (hA : aOk cn cw σ) (hD : rDt cn cw σ I J) (x xp : Int32) (xb : Bool) : pMet l yX5_mark wsX5_mark rmX5_mark D cy L ad G I J [.ref (ad 64), .int x, .int xp, .int (bI xb)] (qI (fun v I' J' => rst (spMark cn σ x xp xb) v.toInt64 cn cw I I' J J') D cy L ad G) := by
  refine pMet.ofZ (cc := cX5_mark) (maxL := 4) (by decide +kernel) rfl (Nat.le_of_ble_eq_true rfl) ?_
  intro p e R s m args below meth c A Q C hml hR hg ret hW ls hl
  subst hR
  have C : Cx p s m args c cX5_mark RX5 wsX5_mark D cy A := C
  have hx := C.1
  have hb := C.2.1
  have lk7 := C.2.2.2.1 (.fieldLink RX5 7 "WaveWalkModel" "places" "[I") (by decide +kernel)
  have lk19 := C.2.2.2.1 (.fieldLink RX5 19 "WaveWalkModel" "isMarked" "[Z") (by decide +kernel)
  have lk23 := C.2.2.2.1 (.fieldLink RX5 23 "WaveWalkModel" "isUsed" "[Z") (by decide +kernel)
  have hinX5 : ∀ w ∈ wsX50, w ∈ wsX5_mark := by decide +kernel
  have hl : lv_has ls 4 [(0, .ref (ad 64)), (1, .int x), (2, .int xp), (3, .int (bI xb))] := hl
  have h6 := hA.1
  have h12 := hA.2.1
  refine lv_aload_n hx hb dX5_mark_0 rfl (lv_at hl 0 rfl) ?_
  refine lv_iload_n hx hb dX5_mark_1 rfl (lv_at hl 1 rfl) ?_
  refine p_cVi C hml hg hW (c_X5_isNet l D cy L ad G I J hS cn hD.1 (by omega) x) (cwV 1 C.2.2.2.1 gX5_mark_X5_isNet rfl rfl rfl (by decide +kernel) ⟨Nat.le_of_ble_eq_true rfl, Nat.le_of_ble_eq_true rfl⟩) (p_recv C hW (hS.1 64 (by omega) (by omega)) (pF_5 (by decide)) rfl) rfl hl.1 rfl (Nat.le_of_ble_eq_true rfl) dX5_mark_2 (Nat.le_of_ble_eq_true rfl) (Nat.le_of_ble_eq_true rfl) (fun v1 I2 J3 H locs hp hW => ?_)
  obtain ⟨hv, hI, hJ⟩ := hp
  subst v1
  subst I2
  subst J3
  refine b_if_eq (tgt := 44) hx hb dX5_mark_5 (by decide) (fun hc_4 => ?_) (fun hc_4 => ?_)
  · skip
    rw [if_neg (by rw [hc_4]; decide)] at hW
    have hn1 := is_none hc_4
    refine lv_iconst (v := nI 0) hx hb dX5_mark_44 (by decide) ?_
    have hsp : spMark cn σ x xp xb = (1, 0, σ) := by simp only [spMark, hn1]
    exact ret _ _ _ _ _ _ _ _ _ (Nat.le_of_ble_eq_true rfl) (Nat.le_of_ble_eq_true rfl) hW (rst.thr hsp h12 hD (fun z => absurd z (by decide))) (by decide) dX5_mark_45
  · skip
    rw [if_pos hc_4] at hW
    obtain ⟨i, hi⟩ := Option.isSome_iff_exists.mp hc_4
    obtain ⟨hic, hxe⟩ := ixN_some hi (by omega)
    subst hxe
    have hD0 := rDt.thr hD h12 0
    obtain ⟨hpl, hdr, hto, hus, hmk⟩ := hD0.2.2.1 i hic
    obtain ⟨hp1, hp12, hd4, hpr⟩ := hA.2.2.1 i hic
    refine lv_aload_n hx hb dX5_mark_8 rfl (lv_at hl 0 rfl) ?_
    refine lv_iload_n hx hb dX5_mark_9 rfl (lv_at hl 2 rfl) ?_
    refine lv_if_lt (tgt := 27) hx hb dX5_mark_10 (by decide) (fun hc_5 => ?_) (fun hc_5 => ?_)
    · skip
      refine lv_iconst (v := nI 0) hx hb dX5_mark_27 (by decide) ?_
      have hs : ixN xp (aPl σ i) = none := ixN_neg hc_5
      refine w_top (y := .int (bI (ixN xp (aPl σ i)).isSome)) (by rw [hs]; rfl) ?_
      refine lv_iconst (v := nI 1) hx hb dX5_mark_28 (by decide) ?_
      refine p_cVi C hml hg hW (c_X5_right l D cy L ad G (thr I 0) J hS ((ixN xp (aPl σ i)).isSome) 1 0 (thr_0 I 0) (by omega) (by omega)) (cwV 2 C.2.2.2.1 gX5_mark_X5_right rfl rfl rfl (by decide +kernel) ⟨Nat.le_of_ble_eq_true rfl, Nat.le_of_ble_eq_true rfl⟩) (p_recv C hW (hS.1 64 (by omega) (by omega)) (pF_5 (by decide)) rfl) rfl hl.1 rfl (Nat.le_of_ble_eq_true rfl) dX5_mark_29 (Nat.le_of_ble_eq_true rfl) (Nat.le_of_ble_eq_true rfl) (fun v6 I7 J8 H locs hp hW => ?_)
      obtain ⟨hv, hI, hJ⟩ := hp
      replace hI := hI.trans (thr_thr I 0 _)
      subst v6
      subst I7
      subst J8
      refine b_if_eq (tgt := 44) hx hb dX5_mark_32 (by decide) (fun hc_9 => ?_) (fun hc_9 => ?_)
      · skip
        have hr0 : (ixN xp (aPl σ i)).isSome = false := rt_no hc_9
        rw [if_pos ⟨rfl, hr0⟩] at hW
        refine lv_iconst (v := nI 0) hx hb dX5_mark_44 (by decide) ?_
        have hsp : spMark cn σ (nI i) xp xb = (1, 0, σ) := by simp only [spMark, hi, hs]
        exact ret _ _ _ _ _ _ _ _ _ (Nat.le_of_ble_eq_true rfl) (Nat.le_of_ble_eq_true rfl) hW (rst.thr hsp h12 hD (fun z => absurd z (by decide))) (by decide) dX5_mark_45
      · skip
        rw [hs] at hc_9
        cases hc_9
    · skip
      refine lv_iload_n hx hb dX5_mark_13 rfl (lv_at hl 2 rfl) ?_
      refine lv_aload_n hx hb dX5_mark_14 rfl (lv_at hl 0 rfl) ?_
      refine g_X5_3 C hinX5 hW (hS.1 64 (by omega) (by omega)) (by decide) (hS.2 3 (by omega) (by omega)) lk7 dX5_mark_15 ?_
      refine lv_iload_n hx hb dX5_mark_18 rfl (lv_at hl 1 rfl) ?_
      refine p_iald C hW (hS.1 65 (by omega) (by omega)) (by decide) (k := i) rfl (by rw [show ln 65 = 6 by decide]; omega) dX5_mark_19 ?_
      refine w_top (y := .int (nI (aPl σ i))) (by rw [hpl]) ?_
      refine lv_icmp_ge (tgt := 27) hx hb dX5_mark_20 (by decide) (fun hc_10 => ?_) (fun hc_10 => ?_)
      · skip
        refine lv_iconst (v := nI 0) hx hb dX5_mark_27 (by decide) ?_
        have hs : ixN xp (aPl σ i) = none := ixN_ge hc_10 (by omega)
        refine w_top (y := .int (bI (ixN xp (aPl σ i)).isSome)) (by rw [hs]; rfl) ?_
        refine lv_iconst (v := nI 1) hx hb dX5_mark_28 (by decide) ?_
        refine p_cVi C hml hg hW (c_X5_right l D cy L ad G (thr I 0) J hS ((ixN xp (aPl σ i)).isSome) 1 0 (thr_0 I 0) (by omega) (by omega)) (cwV 2 C.2.2.2.1 gX5_mark_X5_right rfl rfl rfl (by decide +kernel) ⟨Nat.le_of_ble_eq_true rfl, Nat.le_of_ble_eq_true rfl⟩) (p_recv C hW (hS.1 64 (by omega) (by omega)) (pF_5 (by decide)) rfl) rfl hl.1 rfl (Nat.le_of_ble_eq_true rfl) dX5_mark_29 (Nat.le_of_ble_eq_true rfl) (Nat.le_of_ble_eq_true rfl) (fun v11 I12 J13 H locs hp hW => ?_)
        obtain ⟨hv, hI, hJ⟩ := hp
        replace hI := hI.trans (thr_thr I 0 _)
        subst v11
        subst I12
        subst J13
        refine b_if_eq (tgt := 44) hx hb dX5_mark_32 (by decide) (fun hc_14 => ?_) (fun hc_14 => ?_)
        · skip
          have hr0 : (ixN xp (aPl σ i)).isSome = false := rt_no hc_14
          rw [if_pos ⟨rfl, hr0⟩] at hW
          refine lv_iconst (v := nI 0) hx hb dX5_mark_44 (by decide) ?_
          have hsp : spMark cn σ (nI i) xp xb = (1, 0, σ) := by simp only [spMark, hi, hs]
          exact ret _ _ _ _ _ _ _ _ _ (Nat.le_of_ble_eq_true rfl) (Nat.le_of_ble_eq_true rfl) hW (rst.thr hsp h12 hD (fun z => absurd z (by decide))) (by decide) dX5_mark_45
        · skip
          rw [hs] at hc_14
          cases hc_14
      · skip
        refine lv_iconst (v := nI 1) hx hb dX5_mark_23 (by decide) ?_
        refine lv_goto (tgt := 28) hx hb dX5_mark_24 (by decide) ?_
        obtain ⟨i1, hi1, hx1, -⟩ := pk_mu hc_5 hc_10 (by omega)
        have hs : ixN xp (aPl σ i) = some i1 := by rw [hx1]; exact ixN_nI hi1 (by omega)
        refine w_top (y := .int (bI (ixN xp (aPl σ i)).isSome)) (by rw [hs]; rfl) ?_
        refine lv_iconst (v := nI 1) hx hb dX5_mark_28 (by decide) ?_
        refine p_cVi C hml hg hW (c_X5_right l D cy L ad G (thr I 0) J hS ((ixN xp (aPl σ i)).isSome) 1 0 (thr_0 I 0) (by omega) (by omega)) (cwV 2 C.2.2.2.1 gX5_mark_X5_right rfl rfl rfl (by decide +kernel) ⟨Nat.le_of_ble_eq_true rfl, Nat.le_of_ble_eq_true rfl⟩) (p_recv C hW (hS.1 64 (by omega) (by omega)) (pF_5 (by decide)) rfl) rfl hl.1 rfl (Nat.le_of_ble_eq_true rfl) dX5_mark_29 (Nat.le_of_ble_eq_true rfl) (Nat.le_of_ble_eq_true rfl) (fun v15 I16 J17 H locs hp hW => ?_)
        obtain ⟨hv, hI, hJ⟩ := hp
        replace hI := hI.trans (thr_thr I 0 _)
        subst v15
        subst I16
        subst J17
        refine b_if_eq (tgt := 44) hx hb dX5_mark_32 (by decide) (fun hc_18 => ?_) (fun hc_18 => ?_)
        · skip
          rw [hs] at hc_18
          cases hc_18
        · skip
          have hr1 : (ixN xp (aPl σ i)).isSome = true := rt_yes (by decide) hc_18
          rw [if_neg (fun z => by rw [hr1] at z; cases z.2)] at hW
          subst hx1
          refine lv_aload_n hx hb dX5_mark_35 rfl (lv_at hl 0 rfl) ?_
          refine g_X5_7 C hinX5 hW (hS.1 64 (by omega) (by omega)) (by decide) (hS.2 7 (by omega) (by omega)) lk23 dX5_mark_36 ?_
          refine lv_iload_n hx hb dX5_mark_39 rfl (lv_at hl 1 rfl) ?_
          refine p_zald C hW (hS.1 69 (by omega) (by omega)) (by decide) (k := i) rfl (by rw [show ln 69 = 6 by decide]; omega) dX5_mark_40 ?_
          refine w_top (y := .int (bI (aUs σ i))) (by rw [hus]) ?_
          refine b_if_eq (tgt := 46) hx hb dX5_mark_41 (by decide) (fun hc_19 => ?_) (fun hc_19 => ?_)
          · skip
            refine lv_aload_n hx hb dX5_mark_46 rfl (lv_at hl 0 rfl) ?_
            refine g_X5_6 C hinX5 hW (hS.1 64 (by omega) (by omega)) (by decide) (hS.2 6 (by omega) (by omega)) lk19 dX5_mark_47 ?_
            refine lv_bipush (v := nI 12) hx hb dX5_mark_50 (by decide) ?_
            refine lv_iload_n hx hb dX5_mark_52 rfl (lv_at hl 1 rfl) ?_
            refine n_imul hx hb dX5_mark_53 ?_
            refine lv_iload_n hx hb dX5_mark_54 rfl (lv_at hl 2 rfl) ?_
            refine n_iadd hx hb dX5_mark_55 ?_
            refine lv_iload_n hx hb dX5_mark_56 rfl (lv_at hl 3 rfl) ?_
            refine p_zast C hW (hS.1 68 (by omega) (by omega)) (by decide) (k := (12 * i) + i1) rfl (by rw [show ln 68 = 72 by decide]; omega) (bI_n _) dX5_mark_57 (fun H locs hW => ?_)
            obtain ⟨I20, eI20⟩ : ∃ z, z = va_up (thr I 0) 68 (upd ((thr I 0) 68) ((12 * i) + i1) (bI xb)) := ⟨_, rfl⟩
            rw [← eI20] at hW
            refine lv_iconst (v := nI 1) hx hb dX5_mark_58 (by decide) ?_
            have hsp : spMark cn σ (nI i) (nI i1) xb = (0, 1, sMk σ i (va_up (aMk σ i) i1 xb)) := by simp [spMark, hi, hs, hc_19]
            exact ret _ _ _ _ _ _ _ _ _ (Nat.le_of_ble_eq_true rfl) (Nat.le_of_ble_eq_true rfl) hW (rst.to hsp (by decide) (by rw [eI20, va_up_ne _ _ (by decide)]; exact thr_0 I 0) (hD0.mk hic h6 (show i1 < 12 by omega) (by rw [eI20, va_up_ne _ _ (by decide)]) (by rw [eI20, va_up_ne _ _ (by decide)]) (fun r _ _ h3 => by rw [eI20, va_up_ne _ _ h3]) (by rw [eI20, va_up_self])) (by rw [eI20]; exact (rfr.thr I J 0).up (by omega) (by omega) _)) (by decide) dX5_mark_59
          · skip
            refine lv_iconst (v := nI 0) hx hb dX5_mark_44 (by decide) ?_
            have hsp : spMark cn σ (nI i) (nI i1) xb = (0, 0, σ) := by simp [spMark, hi, hs, hc_19]
            exact ret _ _ _ _ _ _ _ _ _ (Nat.le_of_ble_eq_true rfl) (Nat.le_of_ble_eq_true rfl) hW (rst.thr hsp h12 hD (fun _ => by decide)) (by decide) dX5_mark_45
abbrev rmX5_alike : Room := { frames := 4, cells := 0, slots := 0, locals := 140 }
set_option maxHeartbeats 4000000 in
set_option maxRecDepth 100000 in
theorem c_X5_alike (l : Launch) (D : va_G) (cy : Nat → ClassId) (L : List Nat) (ad : Nat → Nat) (G : mG) (I : mI) (J : mJ) (hS : rSh L G) (cn cw : Nat) (σ : Ab) (hA : aOk cn cw σ) (hD : rDt cn cw σ I J) (x xp : Int32) : pMet l yX5_alike wsX5_alike rmX5_alike D cy L ad G I J [.ref (ad 64), .int x, .int xp] (qI (fun v I' J' => rst (spAlike cn σ x xp) v.toInt64 cn cw I I' J J') D cy L ad G) := by
  refine pMet.ofI (cc := cX5_alike) (maxL := 4) (by decide +kernel) rfl (Nat.le_of_ble_eq_true rfl) ?_
  intro p e R s m args below meth c A Q C hml hR hg ret hW ls hl
  subst hR
  have C : Cx p s m args c cX5_alike RX5 wsX5_alike D cy A := C
  have hx := C.1
  have hb := C.2.1
  have lk7 := C.2.2.2.1 (.fieldLink RX5 7 "WaveWalkModel" "places" "[I") (by decide +kernel)
  have lk39 := C.2.2.2.1 (.fieldLink RX5 39 "WaveWalkModel" "classes" "[I") (by decide +kernel)
  have hinX5 : ∀ w ∈ wsX50, w ∈ wsX5_alike := by decide +kernel
  have hl : lv_has ls 4 [(0, .ref (ad 64)), (1, .int x), (2, .int xp)] := hl
  have h6 := hA.1
  have h12 := hA.2.1
  refine lv_aload_n hx hb dX5_alike_0 rfl (lv_at hl 0 rfl) ?_
  refine lv_iload_n hx hb dX5_alike_1 rfl (lv_at hl 1 rfl) ?_
  refine p_cVi C hml hg hW (c_X5_isNet l D cy L ad G I J hS cn hD.1 (by omega) x) (cwV 1 C.2.2.2.1 gX5_alike_X5_isNet rfl rfl rfl (by decide +kernel) ⟨Nat.le_of_ble_eq_true rfl, Nat.le_of_ble_eq_true rfl⟩) (p_recv C hW (hS.1 64 (by omega) (by omega)) (pF_5 (by decide)) rfl) rfl hl.1 rfl (Nat.le_of_ble_eq_true rfl) dX5_alike_2 (Nat.le_of_ble_eq_true rfl) (Nat.le_of_ble_eq_true rfl) (fun v1 I2 J3 H locs hp hW => ?_)
  obtain ⟨hv, hI, hJ⟩ := hp
  subst v1
  subst I2
  subst J3
  refine b_if_eq (tgt := 36) hx hb dX5_alike_5 (by decide) (fun hc_4 => ?_) (fun hc_4 => ?_)
  · skip
    rw [if_neg (by rw [hc_4]; decide)] at hW
    have hn1 := is_none hc_4
    refine lv_iconst (v := nI 0) hx hb dX5_alike_36 (by decide) ?_
    have hsp : spAlike cn σ x xp = (1, 0, σ) := by simp only [spAlike, hn1]
    exact ret _ _ _ _ _ _ _ _ _ (Nat.le_of_ble_eq_true rfl) (Nat.le_of_ble_eq_true rfl) hW (rst.thr hsp h12 hD (fun z => absurd z (by decide))) dX5_alike_37
  · skip
    rw [if_pos hc_4] at hW
    obtain ⟨i, hi⟩ := Option.isSome_iff_exists.mp hc_4
    obtain ⟨hic, hxe⟩ := ixN_some hi (by omega)
    subst hxe
    have hD0 := rDt.thr hD h12 0
    obtain ⟨hpl, hdr, hto, hus, hmk⟩ := hD0.2.2.1 i hic
    obtain ⟨hp1, hp12, hd4, hpr⟩ := hA.2.2.1 i hic
    refine lv_aload_n hx hb dX5_alike_8 rfl (lv_at hl 0 rfl) ?_
    refine lv_iload_n hx hb dX5_alike_9 rfl (lv_at hl 2 rfl) ?_
    refine lv_iconst (v := (-1)) hx hb dX5_alike_10 (by decide) ?_
    refine lv_icmp_lt (tgt := 28) hx hb dX5_alike_11 (by decide) (fun hc_5 => ?_) (fun hc_5 => ?_)
    · skip
      refine lv_iconst (v := nI 0) hx hb dX5_alike_28 (by decide) ?_
      have hs : (decide (xp = -1) || (ixN xp (aPl σ i)).isSome) = false := al_lo hc_5
      refine w_top (y := .int (bI (decide (xp = -1) || (ixN xp (aPl σ i)).isSome))) (by rw [hs]; rfl) ?_
      refine lv_iconst (v := nI 1) hx hb dX5_alike_29 (by decide) ?_
      refine p_cVi C hml hg hW (c_X5_right l D cy L ad G (thr I 0) J hS (decide (xp = -1) || (ixN xp (aPl σ i)).isSome) 1 0 (thr_0 I 0) (by omega) (by omega)) (cwV 2 C.2.2.2.1 gX5_alike_X5_right rfl rfl rfl (by decide +kernel) ⟨Nat.le_of_ble_eq_true rfl, Nat.le_of_ble_eq_true rfl⟩) (p_recv C hW (hS.1 64 (by omega) (by omega)) (pF_5 (by decide)) rfl) rfl hl.1 rfl (Nat.le_of_ble_eq_true rfl) dX5_alike_30 (Nat.le_of_ble_eq_true rfl) (Nat.le_of_ble_eq_true rfl) (fun v6 I7 J8 H locs hp hW => ?_)
      obtain ⟨hv, hI, hJ⟩ := hp
      replace hI := hI.trans (thr_thr I 0 _)
      subst v6
      subst I7
      subst J8
      refine b_if_ne (tgt := 38) hx hb dX5_alike_33 (by decide) (fun hc_9 => ?_) (fun hc_9 => ?_)
      · skip
        rw [hs] at hc_9
        cases hc_9
      · skip
        have hs1 := (Bool.or_eq_false_iff.mp hs).1
        have hs2 := is_none (Bool.or_eq_false_iff.mp hs).2
        have hs1 := of_decide_eq_false hs1
        have hr0 : (decide (xp = -1) || (ixN xp (aPl σ i)).isSome) = false := rt_no hc_9
        rw [if_pos ⟨rfl, hr0⟩] at hW
        refine lv_iconst (v := nI 0) hx hb dX5_alike_36 (by decide) ?_
        have hsp : spAlike cn σ (nI i) xp = (1, 0, σ) := by simp [spAlike, hi, hs1, hs2]
        exact ret _ _ _ _ _ _ _ _ _ (Nat.le_of_ble_eq_true rfl) (Nat.le_of_ble_eq_true rfl) hW (rst.thr hsp h12 hD (fun z => absurd z (by decide))) dX5_alike_37
    · skip
      refine lv_iload_n hx hb dX5_alike_14 rfl (lv_at hl 2 rfl) ?_
      refine lv_aload_n hx hb dX5_alike_15 rfl (lv_at hl 0 rfl) ?_
      refine g_X5_3 C hinX5 hW (hS.1 64 (by omega) (by omega)) (by decide) (hS.2 3 (by omega) (by omega)) lk7 dX5_alike_16 ?_
      refine lv_iload_n hx hb dX5_alike_19 rfl (lv_at hl 1 rfl) ?_
      refine p_iald C hW (hS.1 65 (by omega) (by omega)) (by decide) (k := i) rfl (by rw [show ln 65 = 6 by decide]; omega) dX5_alike_20 ?_
      refine w_top (y := .int (nI (aPl σ i))) (by rw [hpl]) ?_
      refine lv_icmp_ge (tgt := 28) hx hb dX5_alike_21 (by decide) (fun hc_10 => ?_) (fun hc_10 => ?_)
      · skip
        refine lv_iconst (v := nI 0) hx hb dX5_alike_28 (by decide) ?_
        have hs : (decide (xp = -1) || (ixN xp (aPl σ i)).isSome) = false := al_hi (by omega) hc_10
        refine w_top (y := .int (bI (decide (xp = -1) || (ixN xp (aPl σ i)).isSome))) (by rw [hs]; rfl) ?_
        refine lv_iconst (v := nI 1) hx hb dX5_alike_29 (by decide) ?_
        refine p_cVi C hml hg hW (c_X5_right l D cy L ad G (thr I 0) J hS (decide (xp = -1) || (ixN xp (aPl σ i)).isSome) 1 0 (thr_0 I 0) (by omega) (by omega)) (cwV 2 C.2.2.2.1 gX5_alike_X5_right rfl rfl rfl (by decide +kernel) ⟨Nat.le_of_ble_eq_true rfl, Nat.le_of_ble_eq_true rfl⟩) (p_recv C hW (hS.1 64 (by omega) (by omega)) (pF_5 (by decide)) rfl) rfl hl.1 rfl (Nat.le_of_ble_eq_true rfl) dX5_alike_30 (Nat.le_of_ble_eq_true rfl) (Nat.le_of_ble_eq_true rfl) (fun v11 I12 J13 H locs hp hW => ?_)
        obtain ⟨hv, hI, hJ⟩ := hp
        replace hI := hI.trans (thr_thr I 0 _)
        subst v11
        subst I12
        subst J13
        refine b_if_ne (tgt := 38) hx hb dX5_alike_33 (by decide) (fun hc_14 => ?_) (fun hc_14 => ?_)
        · skip
          rw [hs] at hc_14
          cases hc_14
        · skip
          have hs1 := (Bool.or_eq_false_iff.mp hs).1
          have hs2 := is_none (Bool.or_eq_false_iff.mp hs).2
          have hs1 := of_decide_eq_false hs1
          have hr0 : (decide (xp = -1) || (ixN xp (aPl σ i)).isSome) = false := rt_no hc_14
          rw [if_pos ⟨rfl, hr0⟩] at hW
          refine lv_iconst (v := nI 0) hx hb dX5_alike_36 (by decide) ?_
          have hsp : spAlike cn σ (nI i) xp = (1, 0, σ) := by simp [spAlike, hi, hs1, hs2]
          exact ret _ _ _ _ _ _ _ _ _ (Nat.le_of_ble_eq_true rfl) (Nat.le_of_ble_eq_true rfl) hW (rst.thr hsp h12 hD (fun z => absurd z (by decide))) dX5_alike_37
      · skip
        refine lv_iconst (v := nI 1) hx hb dX5_alike_24 (by decide) ?_
        refine lv_goto (tgt := 29) hx hb dX5_alike_25 (by decide) ?_
        have hs : (decide (xp = -1) || (ixN xp (aPl σ i)).isSome) = true := al_in (by omega) hc_5 hc_10
        refine w_top (y := .int (bI (decide (xp = -1) || (ixN xp (aPl σ i)).isSome))) (by rw [hs]; rfl) ?_
        refine lv_iconst (v := nI 1) hx hb dX5_alike_29 (by decide) ?_
        refine p_cVi C hml hg hW (c_X5_right l D cy L ad G (thr I 0) J hS (decide (xp = -1) || (ixN xp (aPl σ i)).isSome) 1 0 (thr_0 I 0) (by omega) (by omega)) (cwV 2 C.2.2.2.1 gX5_alike_X5_right rfl rfl rfl (by decide +kernel) ⟨Nat.le_of_ble_eq_true rfl, Nat.le_of_ble_eq_true rfl⟩) (p_recv C hW (hS.1 64 (by omega) (by omega)) (pF_5 (by decide)) rfl) rfl hl.1 rfl (Nat.le_of_ble_eq_true rfl) dX5_alike_30 (Nat.le_of_ble_eq_true rfl) (Nat.le_of_ble_eq_true rfl) (fun v15 I16 J17 H locs hp hW => ?_)
        obtain ⟨hv, hI, hJ⟩ := hp
        replace hI := hI.trans (thr_thr I 0 _)
        subst v15
        subst I16
        subst J17
        refine b_if_ne (tgt := 38) hx hb dX5_alike_33 (by decide) (fun hc_18 => ?_) (fun hc_18 => ?_)
        · skip
          have hr1 : (decide (xp = -1) || (ixN xp (aPl σ i)).isSome) = true := rt_yes (by decide) hc_18
          rw [if_neg (fun z => by rw [hr1] at z; cases z.2)] at hW
          refine lv_aload_n hx hb dX5_alike_38 rfl (lv_at hl 0 rfl) ?_
          refine lv_iload_n hx hb dX5_alike_39 rfl (lv_at hl 1 rfl) ?_
          refine p_cVi C hml hg hW (c_X5_finds l D cy L ad G (thr I 0) J hS i (aPl σ i) (aDr σ i) (by omega) hpl hp1 hp12 hdr (by omega) (aTo σ i) hto (fun c hc => (hpr c hc).1) (led_lt hpr) (aMk σ i) hmk) (cwV 1 C.2.2.2.1 gX5_alike_X5_finds rfl rfl rfl (by decide +kernel) ⟨Nat.le_of_ble_eq_true rfl, Nat.le_of_ble_eq_true rfl⟩) (p_recv C hW (hS.1 64 (by omega) (by omega)) (pF_5 (by decide)) rfl) rfl hl.1 rfl (Nat.le_of_ble_eq_true rfl) dX5_alike_40 (Nat.le_of_ble_eq_true rfl) (Nat.le_of_ble_eq_true rfl) (fun v19 I20 J21 H locs hp hW => ?_)
          obtain ⟨hv, hIk, hIc, hJ⟩ := hp
          subst v19
          subst J21
          have hnA := num_lt (lastE (aPl σ i) (aDr σ i) (aTo σ i) (aMk σ i)) (Nat.le_refl (aPl σ i))
          refine lv_istore_n (lv' := [(3, .int (nI (numA (aPl σ i) (aDr σ i) (aTo σ i) (aMk σ i)))), (0, .ref (ad 64)), (1, .int (nI i)), (2, .int xp)]) hx hb dX5_alike_43 rfl hl (by decide) rfl (fun ls hl => ?_)
          refine lv_iload_n hx hb dX5_alike_44 rfl (lv_at hl 3 rfl) ?_
          refine lv_iconst (v := (-1)) hx hb dX5_alike_45 (by decide) ?_
          refine lv_icmp_ne (tgt := 53) hx hb dX5_alike_46 (by decide) (fun hc_22 => ?_) (fun hc_22 => ?_)
          · skip
            have hq0 : ∃ q, ixN xp (aPl σ i) = some q := by
              rcases Bool.or_eq_true_iff.mp hs with z | z
              · exact absurd (of_decide_eq_true z) hc_22
              · exact Option.isSome_iff_exists.mp z
            obtain ⟨q, hq⟩ := hq0
            obtain ⟨hql, hx1⟩ := ixN_some hq (by omega)
            subst hx1
            have hcl : clsA (aPl σ i) (aDr σ i) (aTo σ i) (aMk σ i) q ≤ aPl σ i := num_lt _ (Nat.le_of_lt (fs_lt _ hql))
            refine lv_aload_n hx hb dX5_alike_53 rfl (lv_at hl 1 rfl) ?_
            refine g_X5_12 C hinX5 hW (hS.1 64 (by omega) (by omega)) (by decide) (hS.2 12 (by omega) (by omega)) lk39 dX5_alike_54 ?_
            refine lv_iload_n hx hb dX5_alike_57 rfl (lv_at hl 3 rfl) ?_
            refine p_iald C hW (hS.1 74 (by omega) (by omega)) (by decide) (k := q) rfl (by rw [show ln 74 = 12 by decide]; omega) dX5_alike_58 ?_
            refine w_top (y := .int (nI (clsA (aPl σ i) (aDr σ i) (aTo σ i) (aMk σ i) q))) (by rw [hIc q (by omega)]) ?_
            have hsp : spAlike cn σ (nI i) (nI q) = (0, lN (clsA (aPl σ i) (aDr σ i) (aTo σ i) (aMk σ i) q), σ) := by simp [spAlike, hi, hc_22, hq]
            exact ret _ _ _ _ _ _ _ _ _ (Nat.le_of_ble_eq_true rfl) (Nat.le_of_ble_eq_true rfl) hW (rst.to hsp (nI_l (by omega)).symm (by rw [hIk 64 (by decide) (by decide)]; exact thr_0 I 0) (hD0.same (by rw [hIk 64 (by decide) (by decide)]) (by rw [hIk 64 (by decide) (by decide)]) (fun r _ h2 => hIk r (by omega) (by omega)) (fun v _ => by rw [hIk 70 (by decide) (by decide)]) (fun v _ => by rw [hIk 71 (by decide) (by decide)]) (fun _ _ _ _ => rfl) h12) (fun r hr => ⟨by rw [hIk r (by omega) (by omega)]; exact thr_ne (by omega), rfl⟩)) dX5_alike_59
          · skip
            refine lv_iload_n hx hb dX5_alike_49 rfl (lv_at hl 0 rfl) ?_
            refine lv_goto (tgt := 59) hx hb dX5_alike_50 (by decide) ?_
            have hsp : spAlike cn σ (nI i) xp = (0, lN (numA (aPl σ i) (aDr σ i) (aTo σ i) (aMk σ i)), σ) := by simp [spAlike, hi, hc_22]
            exact ret _ _ _ _ _ _ _ _ _ (Nat.le_of_ble_eq_true rfl) (Nat.le_of_ble_eq_true rfl) hW (rst.to hsp (nI_l (by unfold numA; omega)).symm (by rw [hIk 64 (by decide) (by decide)]; exact thr_0 I 0) (hD0.same (by rw [hIk 64 (by decide) (by decide)]) (by rw [hIk 64 (by decide) (by decide)]) (fun r _ h2 => hIk r (by omega) (by omega)) (fun v _ => by rw [hIk 70 (by decide) (by decide)]) (fun v _ => by rw [hIk 71 (by decide) (by decide)]) (fun _ _ _ _ => rfl) h12) (fun r hr => ⟨by rw [hIk r (by omega) (by omega)]; exact thr_ne (by omega), rfl⟩)) dX5_alike_59
        · skip
          rw [hs] at hc_18
          cases hc_18
abbrev rmX5_at : Room := { frames := 4, cells := 0, slots := 0, locals := 140 }
set_option maxHeartbeats 4000000 in
set_option maxRecDepth 100000 in
theorem c_X5_at (l : Launch) (D : va_G) (cy : Nat → ClassId) (L : List Nat) (ad : Nat → Nat) (G : mG) (I : mI) (J : mJ) (hS : rSh L G) (cn cw : Nat) (σ : Ab) (hA : aOk cn cw σ) (hD : rDt cn cw σ I J) (x xp xd : Int32) : pMet l yX5_at wsX5_at rmX5_at D cy L ad G I J [.ref (ad 64), .int x, .int xp, .int xd] (qL (fun v I' J' => rst (spAt cw σ x xp xd) v cn cw I I' J J') D cy L ad G) := by
  refine pMet.ofL (cc := cX5_at) (maxL := 4) (by decide +kernel) rfl (Nat.le_of_ble_eq_true rfl) ?_
  intro p e R s m args below meth c A Q C hml hR hg ret hW ls hl
  subst hR
  have C : Cx p s m args c cX5_at RX5 wsX5_at D cy A := C
  have hx := C.1
  have hb := C.2.1
  have lk26 := C.2.2.2.1 (.fieldLink RX5 26 "WaveWalkModel" "netOf" "[I") (by decide +kernel)
  have lk32 := C.2.2.2.1 (.fieldLink RX5 32 "WaveWalkModel" "wave" "[J") (by decide +kernel)
  have hinX5 : ∀ w ∈ wsX50, w ∈ wsX5_at := by decide +kernel
  have hl : lv_has ls 4 [(0, .ref (ad 64)), (1, .int x), (2, .int xp), (3, .int xd)] := hl
  have h6 := hA.1
  have h12 := hA.2.1
  refine lv_aload_n hx hb dX5_at_0 rfl (lv_at hl 0 rfl) ?_
  refine lv_iload_n hx hb dX5_at_1 rfl (lv_at hl 1 rfl) ?_
  refine p_cVi C hml hg hW (c_X5_isWalk l D cy L ad G I J hS cw hD.2.1 h12 x) (cwV 1 C.2.2.2.1 gX5_at_X5_isWalk rfl rfl rfl (by decide +kernel) ⟨Nat.le_of_ble_eq_true rfl, Nat.le_of_ble_eq_true rfl⟩) (p_recv C hW (hS.1 64 (by omega) (by omega)) (pF_5 (by decide)) rfl) rfl hl.1 rfl (Nat.le_of_ble_eq_true rfl) dX5_at_2 (Nat.le_of_ble_eq_true rfl) (Nat.le_of_ble_eq_true rfl) (fun v1 I2 J3 H locs hp hW => ?_)
  obtain ⟨hv, hI, hJ⟩ := hp
  subst v1
  subst I2
  subst J3
  refine b_if_eq (tgt := 41) hx hb dX5_at_5 (by decide) (fun hc_4 => ?_) (fun hc_4 => ?_)
  · skip
    rw [if_neg (by rw [hc_4]; decide)] at hW
    have hn1 := is_none hc_4
    refine lv_lconst (v := 0) hx hb dX5_at_41 (by decide) ?_
    have hsp : spAt cw σ x xp xd = (1, 0, σ) := by simp only [spAt, hn1]
    exact ret _ _ _ _ _ _ _ _ _ (Nat.le_of_ble_eq_true rfl) (Nat.le_of_ble_eq_true rfl) hW (rst.thr hsp h12 hD (fun z => absurd z (by decide))) dX5_at_42
  · skip
    rw [if_pos hc_4] at hW
    obtain ⟨j, hj⟩ := Option.isSome_iff_exists.mp hc_4
    obtain ⟨hjc, hxe⟩ := ixN_some hj (by omega)
    subst hxe
    have hD0 := rDt.thr hD h12 0
    obtain ⟨hno, htm, hwv⟩ := hD0.2.2.2.2.1 j hjc
    obtain ⟨hic, ht60, hwo, hus2⟩ := hA.2.2.2 j hjc
    obtain ⟨hpl, hdr, hto, hus, hmk⟩ := hD0.2.2.1 (aNt σ j) hic
    obtain ⟨hp1, hp12, hd4, hpr⟩ := hA.2.2.1 (aNt σ j) hic
    refine lv_aload_n hx hb dX5_at_8 rfl (lv_at hl 0 rfl) ?_
    refine lv_aload_n hx hb dX5_at_9 rfl (lv_at hl 0 rfl) ?_
    refine g_X5_8 C hinX5 hW (hS.1 64 (by omega) (by omega)) (by decide) (hS.2 8 (by omega) (by omega)) lk26 dX5_at_10 ?_
    refine lv_iload_n hx hb dX5_at_13 rfl (lv_at hl 1 rfl) ?_
    refine p_iald C hW (hS.1 70 (by omega) (by omega)) (by decide) (k := j) rfl (by rw [show ln 70 = 13 by decide]; omega) dX5_at_14 ?_
    refine w_top (y := .int (nI (aNt σ j))) (by rw [hno]) ?_
    refine lv_iload_n hx hb dX5_at_15 rfl (lv_at hl 2 rfl) ?_
    refine lv_iload_n hx hb dX5_at_16 rfl (lv_at hl 3 rfl) ?_
    refine p_cVi C hml hg hW (c_X5_isDoor l D cy L ad G (thr I 0) J hS (aNt σ j) (aPl σ (aNt σ j)) (aDr σ (aNt σ j)) (by omega) hpl hdr hp12 (by omega) (thr_0 I 0) xp xd) (cwV 3 C.2.2.2.1 gX5_at_X5_isDoor rfl rfl rfl (by decide +kernel) ⟨Nat.le_of_ble_eq_true rfl, Nat.le_of_ble_eq_true rfl⟩) (p_recv C hW (hS.1 64 (by omega) (by omega)) (pF_5 (by decide)) rfl) rfl hl.1 rfl (Nat.le_of_ble_eq_true rfl) dX5_at_17 (Nat.le_of_ble_eq_true rfl) (Nat.le_of_ble_eq_true rfl) (fun v5 I6 J7 H locs hp hW => ?_)
    obtain ⟨hv, hI, hJ⟩ := hp
    replace hI := hI.trans (thr_thr I 0 _)
    subst v5
    subst I6
    subst J7
    refine b_if_eq (tgt := 41) hx hb dX5_at_20 (by decide) (fun hc_8 => ?_) (fun hc_8 => ?_)
    · skip
      rw [if_neg (by rw [hc_8]; decide)] at hW
      have hn2 := spDoor_none (σ := σ) (or_none hc_8)
      refine lv_lconst (v := 0) hx hb dX5_at_41 (by decide) ?_
      have hsp : spAt cw σ (nI j) xp xd = (1, 0, σ) := by simp only [spAt, hj, hn2]
      exact ret _ _ _ _ _ _ _ _ _ (Nat.le_of_ble_eq_true rfl) (Nat.le_of_ble_eq_true rfl) hW (rst.thr hsp h12 hD (fun z => absurd z (by decide))) dX5_at_42
    · skip
      rw [if_pos hc_8] at hW
      obtain ⟨ha1, ha2⟩ := and_some hc_8
      obtain ⟨q, hq1⟩ := ha1
      obtain ⟨e1, he1⟩ := ha2
      obtain ⟨hql1, hx1⟩ := ixN_some hq1 (by omega)
      obtain ⟨hel1, hx2⟩ := ixN_some he1 (by omega)
      subst hx1
      subst hx2
      have hc1 := spDoor_some hq1 he1
      refine lv_aload_n hx hb dX5_at_23 rfl (lv_at hl 0 rfl) ?_
      refine g_X5_10 C hinX5 hW (hS.1 64 (by omega) (by omega)) (by decide) (hS.2 10 (by omega) (by omega)) lk32 dX5_at_24 ?_
      refine lv_bipush (v := nI 48) hx hb dX5_at_27 (by decide) ?_
      refine lv_iload_n hx hb dX5_at_29 rfl (lv_at hl 1 rfl) ?_
      refine n_imul hx hb dX5_at_30 ?_
      refine lv_iconst (v := nI 4) hx hb dX5_at_31 (by decide) ?_
      refine lv_iload_n hx hb dX5_at_32 rfl (lv_at hl 2 rfl) ?_
      refine n_imul hx hb dX5_at_33 ?_
      refine n_iadd hx hb dX5_at_34 ?_
      refine lv_iload_n hx hb dX5_at_35 rfl (lv_at hl 3 rfl) ?_
      refine n_iadd hx hb dX5_at_36 ?_
      refine p_lald C hW (hS.1 72 (by omega) (by omega)) (by decide) (k := ((48 * j) + (4 * q)) + e1) rfl (by rw [show ln 72 = 624 by decide]; omega) dX5_at_37 ?_
      refine w_top (y := .long (aWv σ j (q * 4 + e1))) (by rw [show ((48 * j) + (4 * q)) + e1 = 48 * j + (q * 4 + e1) by omega, hwv _ (by omega)]) ?_
      refine lv_goto (tgt := 42) hx hb dX5_at_38 (by decide) ?_
      have hsp : spAt cw σ (nI j) (nI q) (nI e1) = (0, aWv σ j (q * 4 + e1), σ) := by simp only [spAt, hj, hc1]
      exact ret _ _ _ _ _ _ _ _ _ (Nat.le_of_ble_eq_true rfl) (Nat.le_of_ble_eq_true rfl) hW (rst.thr hsp h12 hD (fun _ => rfl)) dX5_at_42
abbrev rmX5_share : Room := { frames := 4, cells := 0, slots := 0, locals := 140 }
set_option maxHeartbeats 4000000 in
set_option maxRecDepth 100000 in
theorem c_X5_share (l : Launch) (D : va_G) (cy : Nat → ClassId) (L : List Nat) (ad : Nat → Nat) (G : mG) (I : mI) (J : mJ) (hS : rSh L G) (cn cw : Nat) (σ : Ab) (hA : aOk cn cw σ) (hD : rDt cn cw σ I J) (x xp : Int32) : pMet l yX5_share wsX5_share rmX5_share D cy L ad G I J [.ref (ad 64), .int x, .int xp] (qL (fun v I' J' => rst (spShare cw σ x xp) v cn cw I I' J J') D cy L ad G) := by
  refine pMet.ofL (cc := cX5_share) (maxL := 3) (by decide +kernel) rfl (Nat.le_of_ble_eq_true rfl) ?_
  intro p e R s m args below meth c A Q C hml hR hg ret hW ls hl
  subst hR
  have C : Cx p s m args c cX5_share RX5 wsX5_share D cy A := C
  have hx := C.1
  have hb := C.2.1
  have hl : lv_has ls 3 [(0, .ref (ad 64)), (1, .int x), (2, .int xp)] := hl
  have h6 := hA.1
  have h12 := hA.2.1
  refine lv_aload_n hx hb dX5_share_0 rfl (lv_at hl 0 rfl) ?_
  refine lv_iload_n hx hb dX5_share_1 rfl (lv_at hl 1 rfl) ?_
  refine p_cVi C hml hg hW (c_X5_isWalk l D cy L ad G I J hS cw hD.2.1 h12 x) (cwV 1 C.2.2.2.1 gX5_share_X5_isWalk rfl rfl rfl (by decide +kernel) ⟨Nat.le_of_ble_eq_true rfl, Nat.le_of_ble_eq_true rfl⟩) (p_recv C hW (hS.1 64 (by omega) (by omega)) (pF_5 (by decide)) rfl) rfl hl.1 rfl (Nat.le_of_ble_eq_true rfl) dX5_share_2 (Nat.le_of_ble_eq_true rfl) (Nat.le_of_ble_eq_true rfl) (fun v1 I2 J3 H locs hp hW => ?_)
  obtain ⟨hv, hI, hJ⟩ := hp
  subst v1
  subst I2
  subst J3
  refine b_if_ne (tgt := 10) hx hb dX5_share_5 (by decide) (fun hc_4 => ?_) (fun hc_4 => ?_)
  · skip
    rw [if_pos hc_4] at hW
    obtain ⟨j, hj⟩ := Option.isSome_iff_exists.mp hc_4
    obtain ⟨hjc, hxe⟩ := ixN_some hj (by omega)
    subst hxe
    have hD0 := rDt.thr hD h12 0
    obtain ⟨hno, htm, hwv⟩ := hD0.2.2.2.2.1 j hjc
    obtain ⟨hic, ht60, hwo, hus2⟩ := hA.2.2.2 j hjc
    obtain ⟨hpl, hdr, hto, hus, hmk⟩ := hD0.2.2.1 (aNt σ j) hic
    obtain ⟨hp1, hp12, hd4, hpr⟩ := hA.2.2.1 (aNt σ j) hic
    refine lv_iload_n hx hb dX5_share_10 rfl (lv_at hl 2 rfl) ?_
    refine lv_iconst (v := (-1)) hx hb dX5_share_11 (by decide) ?_
    refine lv_icmp_ne (tgt := 21) hx hb dX5_share_12 (by decide) (fun hc_5 => ?_) (fun hc_5 => ?_)
    · skip
      refine lv_aload_n hx hb dX5_share_21 rfl (lv_at hl 0 rfl) ?_
      refine lv_iload_n hx hb dX5_share_22 rfl (lv_at hl 1 rfl) ?_
      refine lv_iload_n hx hb dX5_share_23 rfl (lv_at hl 2 rfl) ?_
      refine p_cVi C hml hg hW (c_X5_isIn l D cy L ad G (thr I 0) J hS j (aNt σ j) (aPl σ (aNt σ j)) (by omega) hno (by omega) hpl hp12 (thr_0 I 0) xp) (cwV 2 C.2.2.2.1 gX5_share_X5_isIn rfl rfl rfl (by decide +kernel) ⟨Nat.le_of_ble_eq_true rfl, Nat.le_of_ble_eq_true rfl⟩) (p_recv C hW (hS.1 64 (by omega) (by omega)) (pF_5 (by decide)) rfl) rfl hl.1 rfl (Nat.le_of_ble_eq_true rfl) dX5_share_24 (Nat.le_of_ble_eq_true rfl) (Nat.le_of_ble_eq_true rfl) (fun v6 I7 J8 H locs hp hW => ?_)
      obtain ⟨hv, hI, hJ⟩ := hp
      replace hI := hI.trans (thr_thr I 0 _)
      subst v6
      subst I7
      subst J8
      refine b_if_eq (tgt := 39) hx hb dX5_share_27 (by decide) (fun hc_9 => ?_) (fun hc_9 => ?_)
      · skip
        rw [if_neg (by rw [hc_9]; decide)] at hW
        have hn2 := is_none hc_9
        refine lv_lconst (v := 0) hx hb dX5_share_39 (by decide) ?_
        have hsp : spShare cw σ (nI j) xp = (1, 0, σ) := by simp [spShare, hj, hc_5, hn2]
        exact ret _ _ _ _ _ _ _ _ _ (Nat.le_of_ble_eq_true rfl) (Nat.le_of_ble_eq_true rfl) hW (rst.thr hsp h12 hD (fun z => absurd z (by decide))) dX5_share_40
      · skip
        rw [if_pos hc_9] at hW
        obtain ⟨q, hq⟩ := Option.isSome_iff_exists.mp hc_9
        obtain ⟨hql, hx1⟩ := ixN_some hq (by omega)
        subst hx1
        refine lv_aload_n hx hb dX5_share_30 rfl (lv_at hl 0 rfl) ?_
        refine lv_iload_n hx hb dX5_share_31 rfl (lv_at hl 1 rfl) ?_
        refine lv_iload_n hx hb dX5_share_32 rfl (lv_at hl 2 rfl) ?_
        refine p_cVl C hml hg hW (c_X5_shareOf l D cy L ad G (thr I 0) J hS j (by omega) (aWv σ j) hwv q (by omega)) (cwV 2 C.2.2.2.1 gX5_share_X5_shareOf rfl rfl rfl (by decide +kernel) ⟨Nat.le_of_ble_eq_true rfl, Nat.le_of_ble_eq_true rfl⟩) (p_recv C hW (hS.1 64 (by omega) (by omega)) (pF_5 (by decide)) rfl) rfl hl.1 rfl (Nat.le_of_ble_eq_true rfl) dX5_share_33 (Nat.le_of_ble_eq_true rfl) (Nat.le_of_ble_eq_true rfl) (fun v10 I11 J12 H locs hp hW => ?_)
        obtain ⟨hv, hI, hJ⟩ := hp
        subst v10
        subst I11
        subst J12
        refine lv_goto (tgt := 40) hx hb dX5_share_36 (by decide) ?_
        have hsp : spShare cw σ (nI j) (nI q) = (0, sqAt (aWv σ j) q, σ) := by simp [spShare, hj, hc_5, hq]
        exact ret _ _ _ _ _ _ _ _ _ (Nat.le_of_ble_eq_true rfl) (Nat.le_of_ble_eq_true rfl) hW (rst.thr hsp h12 hD (fun _ => rfl)) dX5_share_40
    · skip
      refine lv_aload_n hx hb dX5_share_15 rfl (lv_at hl 0 rfl) ?_
      refine lv_iload_n hx hb dX5_share_16 rfl (lv_at hl 1 rfl) ?_
      refine p_cVl C hml hg hW (c_X5_weight l D cy L ad G (thr I 0) J hS j (by omega) (aWv σ j) hwv) (cwV 1 C.2.2.2.1 gX5_share_X5_weight rfl rfl rfl (by decide +kernel) ⟨Nat.le_of_ble_eq_true rfl, Nat.le_of_ble_eq_true rfl⟩) (p_recv C hW (hS.1 64 (by omega) (by omega)) (pF_5 (by decide)) rfl) rfl hl.1 rfl (Nat.le_of_ble_eq_true rfl) dX5_share_17 (Nat.le_of_ble_eq_true rfl) (Nat.le_of_ble_eq_true rfl) (fun v13 I14 J15 H locs hp hW => ?_)
      obtain ⟨hv, hI, hJ⟩ := hp
      subst v13
      subst I14
      subst J15
      have hsp : spShare cw σ (nI j) xp = (0, sqs (aWv σ j), σ) := by simp [spShare, hj, hc_5]
      exact ret _ _ _ _ _ _ _ _ _ (Nat.le_of_ble_eq_true rfl) (Nat.le_of_ble_eq_true rfl) hW (rst.thr hsp h12 hD (fun _ => rfl)) dX5_share_20
  · skip
    rw [if_neg (by rw [hc_4]; decide)] at hW
    have hn1 := is_none hc_4
    refine lv_lconst (v := 0) hx hb dX5_share_8 (by decide) ?_
    have hsp : spShare cw σ x xp = (1, 0, σ) := by simp only [spShare, hn1]
    exact ret _ _ _ _ _ _ _ _ _ (Nat.le_of_ble_eq_true rfl) (Nat.le_of_ble_eq_true rfl) hW (rst.thr hsp h12 hD (fun z => absurd z (by decide))) dX5_share_9
abbrev rmX5_of : Room := { frames := 4, cells := 0, slots := 0, locals := 140 }
set_option maxHeartbeats 4000000 in
set_option maxRecDepth 100000 in
theorem c_X5_of (l : Launch) (D : va_G) (cy : Nat → ClassId) (L : List Nat) (ad : Nat → Nat) (G : mG) (I : mI) (J : mJ) (hS : rSh L G) (cn cw : Nat) (σ : Ab) (hA : aOk cn cw σ) (hD : rDt cn cw σ I J) (x xw : Int32) : pMet l yX5_of wsX5_of rmX5_of D cy L ad G I J [.ref (ad 64), .int x, .int xw] (qI (fun v I' J' => rst (spOf cw σ x xw) v.toInt64 cn cw I I' J J') D cy L ad G) := by
  refine pMet.ofI (cc := cX5_of) (maxL := 3) (by decide +kernel) rfl (Nat.le_of_ble_eq_true rfl) ?_
  intro p e R s m args below meth c A Q C hml hR hg ret hW ls hl
  subst hR
  have C : Cx p s m args c cX5_of RX5 wsX5_of D cy A := C
  have hx := C.1
  have hb := C.2.1
  have lk26 := C.2.2.2.1 (.fieldLink RX5 26 "WaveWalkModel" "netOf" "[I") (by decide +kernel)
  have lk29 := C.2.2.2.1 (.fieldLink RX5 29 "WaveWalkModel" "time" "[I") (by decide +kernel)
  have hinX5 : ∀ w ∈ wsX50, w ∈ wsX5_of := by decide +kernel
  have hl : lv_has ls 3 [(0, .ref (ad 64)), (1, .int x), (2, .int xw)] := hl
  have h6 := hA.1
  have h12 := hA.2.1
  refine lv_aload_n hx hb dX5_of_0 rfl (lv_at hl 0 rfl) ?_
  refine lv_iload_n hx hb dX5_of_1 rfl (lv_at hl 1 rfl) ?_
  refine p_cVi C hml hg hW (c_X5_isWalk l D cy L ad G I J hS cw hD.2.1 h12 x) (cwV 1 C.2.2.2.1 gX5_of_X5_isWalk rfl rfl rfl (by decide +kernel) ⟨Nat.le_of_ble_eq_true rfl, Nat.le_of_ble_eq_true rfl⟩) (p_recv C hW (hS.1 64 (by omega) (by omega)) (pF_5 (by decide)) rfl) rfl hl.1 rfl (Nat.le_of_ble_eq_true rfl) dX5_of_2 (Nat.le_of_ble_eq_true rfl) (Nat.le_of_ble_eq_true rfl) (fun v1 I2 J3 H locs hp hW => ?_)
  obtain ⟨hv, hI, hJ⟩ := hp
  subst v1
  subst I2
  subst J3
  refine b_if_eq (tgt := 30) hx hb dX5_of_5 (by decide) (fun hc_4 => ?_) (fun hc_4 => ?_)
  · skip
    rw [if_neg (by rw [hc_4]; decide)] at hW
    have hn1 := is_none hc_4
    refine lv_iconst (v := nI 0) hx hb dX5_of_30 (by decide) ?_
    have hsp : spOf cw σ x xw = (1, 0, σ) := by simp only [spOf, hn1]
    exact ret _ _ _ _ _ _ _ _ _ (Nat.le_of_ble_eq_true rfl) (Nat.le_of_ble_eq_true rfl) hW (rst.thr hsp h12 hD (fun z => absurd z (by decide))) dX5_of_31
  · skip
    rw [if_pos hc_4] at hW
    obtain ⟨j, hj⟩ := Option.isSome_iff_exists.mp hc_4
    obtain ⟨hjc, hxe⟩ := ixN_some hj (by omega)
    subst hxe
    have hD0 := rDt.thr hD h12 0
    obtain ⟨hno, htm, hwv⟩ := hD0.2.2.2.2.1 j hjc
    obtain ⟨hic, ht60, hwo, hus2⟩ := hA.2.2.2 j hjc
    obtain ⟨hpl, hdr, hto, hus, hmk⟩ := hD0.2.2.1 (aNt σ j) hic
    obtain ⟨hp1, hp12, hd4, hpr⟩ := hA.2.2.1 (aNt σ j) hic
    refine lv_aload_n hx hb dX5_of_8 rfl (lv_at hl 0 rfl) ?_
    refine lv_iload_n hx hb dX5_of_9 rfl (lv_at hl 2 rfl) ?_
    refine lv_if_lt (tgt := 22) hx hb dX5_of_10 (by decide) (fun hc_5 => ?_) (fun hc_5 => ?_)
    · skip
      refine lv_iconst (v := nI 0) hx hb dX5_of_22 (by decide) ?_
      have hs : ixN xw 3 = none := ixN_neg hc_5
      refine w_top (y := .int (bI (ixN xw 3).isSome)) (by rw [hs]; rfl) ?_
      refine lv_iconst (v := nI 1) hx hb dX5_of_23 (by decide) ?_
      refine p_cVi C hml hg hW (c_X5_right l D cy L ad G (thr I 0) J hS ((ixN xw 3).isSome) 1 0 (thr_0 I 0) (by omega) (by omega)) (cwV 2 C.2.2.2.1 gX5_of_X5_right rfl rfl rfl (by decide +kernel) ⟨Nat.le_of_ble_eq_true rfl, Nat.le_of_ble_eq_true rfl⟩) (p_recv C hW (hS.1 64 (by omega) (by omega)) (pF_5 (by decide)) rfl) rfl hl.1 rfl (Nat.le_of_ble_eq_true rfl) dX5_of_24 (Nat.le_of_ble_eq_true rfl) (Nat.le_of_ble_eq_true rfl) (fun v6 I7 J8 H locs hp hW => ?_)
      obtain ⟨hv, hI, hJ⟩ := hp
      replace hI := hI.trans (thr_thr I 0 _)
      subst v6
      subst I7
      subst J8
      refine b_if_ne (tgt := 32) hx hb dX5_of_27 (by decide) (fun hc_9 => ?_) (fun hc_9 => ?_)
      · skip
        rw [hs] at hc_9
        cases hc_9
      · skip
        have hr0 : (ixN xw 3).isSome = false := rt_no hc_9
        rw [if_pos ⟨rfl, hr0⟩] at hW
        refine lv_iconst (v := nI 0) hx hb dX5_of_30 (by decide) ?_
        have hsp : spOf cw σ (nI j) xw = (1, 0, σ) := by simp only [spOf, hj, hs]
        exact ret _ _ _ _ _ _ _ _ _ (Nat.le_of_ble_eq_true rfl) (Nat.le_of_ble_eq_true rfl) hW (rst.thr hsp h12 hD (fun z => absurd z (by decide))) dX5_of_31
    · skip
      refine lv_iload_n hx hb dX5_of_13 rfl (lv_at hl 2 rfl) ?_
      refine lv_iconst (v := nI 2) hx hb dX5_of_14 (by decide) ?_
      refine lv_icmp_gt (tgt := 22) hx hb dX5_of_15 (by decide) (fun hc_10 => ?_) (fun hc_10 => ?_)
      · skip
        refine lv_iconst (v := nI 0) hx hb dX5_of_22 (by decide) ?_
        have hs : ixN xw 3 = none := ixN_ge (n := 3) (ic_gt2 hc_10) (by omega)
        refine w_top (y := .int (bI (ixN xw 3).isSome)) (by rw [hs]; rfl) ?_
        refine lv_iconst (v := nI 1) hx hb dX5_of_23 (by decide) ?_
        refine p_cVi C hml hg hW (c_X5_right l D cy L ad G (thr I 0) J hS ((ixN xw 3).isSome) 1 0 (thr_0 I 0) (by omega) (by omega)) (cwV 2 C.2.2.2.1 gX5_of_X5_right rfl rfl rfl (by decide +kernel) ⟨Nat.le_of_ble_eq_true rfl, Nat.le_of_ble_eq_true rfl⟩) (p_recv C hW (hS.1 64 (by omega) (by omega)) (pF_5 (by decide)) rfl) rfl hl.1 rfl (Nat.le_of_ble_eq_true rfl) dX5_of_24 (Nat.le_of_ble_eq_true rfl) (Nat.le_of_ble_eq_true rfl) (fun v11 I12 J13 H locs hp hW => ?_)
        obtain ⟨hv, hI, hJ⟩ := hp
        replace hI := hI.trans (thr_thr I 0 _)
        subst v11
        subst I12
        subst J13
        refine b_if_ne (tgt := 32) hx hb dX5_of_27 (by decide) (fun hc_14 => ?_) (fun hc_14 => ?_)
        · skip
          rw [hs] at hc_14
          cases hc_14
        · skip
          have hr0 : (ixN xw 3).isSome = false := rt_no hc_14
          rw [if_pos ⟨rfl, hr0⟩] at hW
          refine lv_iconst (v := nI 0) hx hb dX5_of_30 (by decide) ?_
          have hsp : spOf cw σ (nI j) xw = (1, 0, σ) := by simp only [spOf, hj, hs]
          exact ret _ _ _ _ _ _ _ _ _ (Nat.le_of_ble_eq_true rfl) (Nat.le_of_ble_eq_true rfl) hW (rst.thr hsp h12 hD (fun z => absurd z (by decide))) dX5_of_31
      · skip
        refine lv_iconst (v := nI 1) hx hb dX5_of_18 (by decide) ?_
        refine lv_goto (tgt := 23) hx hb dX5_of_19 (by decide) ?_
        obtain ⟨i1, hi1, hx1, -⟩ := pk_mu (L := 3) hc_5 (ic_ngt2 hc_10) (by omega)
        have hs : ixN xw 3 = some i1 := by rw [hx1]; exact ixN_nI hi1 (by omega)
        refine w_top (y := .int (bI (ixN xw 3).isSome)) (by rw [hs]; rfl) ?_
        refine lv_iconst (v := nI 1) hx hb dX5_of_23 (by decide) ?_
        refine p_cVi C hml hg hW (c_X5_right l D cy L ad G (thr I 0) J hS ((ixN xw 3).isSome) 1 0 (thr_0 I 0) (by omega) (by omega)) (cwV 2 C.2.2.2.1 gX5_of_X5_right rfl rfl rfl (by decide +kernel) ⟨Nat.le_of_ble_eq_true rfl, Nat.le_of_ble_eq_true rfl⟩) (p_recv C hW (hS.1 64 (by omega) (by omega)) (pF_5 (by decide)) rfl) rfl hl.1 rfl (Nat.le_of_ble_eq_true rfl) dX5_of_24 (Nat.le_of_ble_eq_true rfl) (Nat.le_of_ble_eq_true rfl) (fun v15 I16 J17 H locs hp hW => ?_)
        obtain ⟨hv, hI, hJ⟩ := hp
        replace hI := hI.trans (thr_thr I 0 _)
        subst v15
        subst I16
        subst J17
        refine b_if_ne (tgt := 32) hx hb dX5_of_27 (by decide) (fun hc_18 => ?_) (fun hc_18 => ?_)
        · skip
          have hr1 : (ixN xw 3).isSome = true := rt_yes (by decide) hc_18
          rw [if_neg (fun z => by rw [hr1] at z; cases z.2)] at hW
          subst hx1
          refine lv_iload_n hx hb dX5_of_32 rfl (lv_at hl 2 rfl) ?_
          refine lv_if_ne (tgt := 45) hx hb dX5_of_33 (by decide) (fun hc_19 => ?_) (fun hc_19 => ?_)
          · skip
            have h0 : i1 ≠ 0 := fun z => hc_19 (by rw [z]; rfl)
            refine lv_iload_n hx hb dX5_of_45 rfl (lv_at hl 2 rfl) ?_
            refine lv_iconst (v := nI 1) hx hb dX5_of_46 (by decide) ?_
            refine n_icmp_ne (tgt := 59) hx hb (by omega) (by omega) dX5_of_47 (by decide) (fun hc_20 => ?_) (fun hc_20 => ?_)
            · skip
              have h2 : i1 = 2 := by omega
              subst h2
              refine lv_aload_n hx hb dX5_of_59 rfl (lv_at hl 0 rfl) ?_
              refine lv_iload_n hx hb dX5_of_60 rfl (lv_at hl 1 rfl) ?_
              refine p_cVi C hml hg hW (c_X5_scale l D cy L ad G (thr I 0) J hS j (aNt σ j) (aDr σ (aNt σ j)) (by omega) hno (by omega) hdr hd4) (cwV 1 C.2.2.2.1 gX5_of_X5_scale rfl rfl rfl (by decide +kernel) ⟨Nat.le_of_ble_eq_true rfl, Nat.le_of_ble_eq_true rfl⟩) (p_recv C hW (hS.1 64 (by omega) (by omega)) (pF_5 (by decide)) rfl) rfl hl.1 rfl (Nat.le_of_ble_eq_true rfl) dX5_of_61 (Nat.le_of_ble_eq_true rfl) (Nat.le_of_ble_eq_true rfl) (fun v21 I22 J23 H locs hp hW => ?_)
              obtain ⟨hv, hI, hJ⟩ := hp
              subst v21
              subst I22
              subst J23
              have hsp : spOf cw σ (nI j) (nI 2) = (0, scOf (aDr σ (aNt σ j)), σ) := by simp [spOf, hj, hs]
              exact ret _ _ _ _ _ _ _ _ _ (Nat.le_of_ble_eq_true rfl) (Nat.le_of_ble_eq_true rfl) hW (rst.thr hsp h12 hD (fun _ => (sc_l hd4).symm)) dX5_of_64
            · skip
              subst hc_20
              refine lv_aload_n hx hb dX5_of_50 rfl (lv_at hl 0 rfl) ?_
              refine g_X5_9 C hinX5 hW (hS.1 64 (by omega) (by omega)) (by decide) (hS.2 9 (by omega) (by omega)) lk29 dX5_of_51 ?_
              refine lv_iload_n hx hb dX5_of_54 rfl (lv_at hl 1 rfl) ?_
              refine p_iald C hW (hS.1 71 (by omega) (by omega)) (by decide) (k := j) rfl (by rw [show ln 71 = 13 by decide]; omega) dX5_of_55 ?_
              refine w_top (y := .int (nI (aTm σ j))) (by rw [htm]) ?_
              refine lv_goto (tgt := 64) hx hb dX5_of_56 (by decide) ?_
              have hsp : spOf cw σ (nI j) (nI 1) = (0, lN (aTm σ j), σ) := by simp [spOf, hj, hs]
              exact ret _ _ _ _ _ _ _ _ _ (Nat.le_of_ble_eq_true rfl) (Nat.le_of_ble_eq_true rfl) hW (rst.thr hsp h12 hD (fun _ => (nI_l (by omega)).symm)) dX5_of_64
          · skip
            have h0 : i1 = 0 := nz_z hi1 hc_19
            subst h0
            refine lv_aload_n hx hb dX5_of_36 rfl (lv_at hl 0 rfl) ?_
            refine g_X5_8 C hinX5 hW (hS.1 64 (by omega) (by omega)) (by decide) (hS.2 8 (by omega) (by omega)) lk26 dX5_of_37 ?_
            refine lv_iload_n hx hb dX5_of_40 rfl (lv_at hl 1 rfl) ?_
            refine p_iald C hW (hS.1 70 (by omega) (by omega)) (by decide) (k := j) rfl (by rw [show ln 70 = 13 by decide]; omega) dX5_of_41 ?_
            refine w_top (y := .int (nI (aNt σ j))) (by rw [hno]) ?_
            refine lv_goto (tgt := 64) hx hb dX5_of_42 (by decide) ?_
            have hsp : spOf cw σ (nI j) (nI 0) = (0, lN (aNt σ j), σ) := by simp [spOf, hj, hs]
            exact ret _ _ _ _ _ _ _ _ _ (Nat.le_of_ble_eq_true rfl) (Nat.le_of_ble_eq_true rfl) hW (rst.thr hsp h12 hD (fun _ => (nI_l (by omega)).symm)) dX5_of_64
        · skip
          rw [hs] at hc_18
          cases hc_18
