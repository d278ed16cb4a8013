/-- alike by the least members cf: as the reference asks -/
def alkB (pl dr : Nat) (to cf : Nat → Nat) (p q : Nat) : Bool := decide (cf p = cf q ∧ ∀ c, c < pl → cnt (fun d => cf (led to p d)) c dr = cnt (fun d => cf (led to q d)) c dr)
abbrev rmX5_steps : Room := { frames := 1, cells := 0, slots := 0, locals := 29 }
set_option maxHeartbeats 4000000 in
set_option maxRecDepth 100000 in
theorem c_X5_steps (l : Launch) (D : va_G) (cy : Nat → ClassId) (L : List Nat) (ad : Nat → Nat) (G : mG) (I : mI) (J : mJ) (hS : rSh L G) (w : Nat) (hw : w < 13) (f : Nat → Int64) (hf : ∀ k, k < 48 → J 72 (48 * w + k) = f k) (n pl dr t0 : Nat) (hno : I 70 w = nI n) (hn6 : n < 6) (hpl : I 65 n = nI pl) (hp12 : pl ≤ 12) (hdr : I 66 n = nI dr) (hd4 : dr = 2 ∨ dr = 3 ∨ dr = 4) (mk : Nat → Bool) (hmk : ∀ c, c < 12 → I 68 (12 * n + c) = bI (mk c)) (to : Nat → Nat) (hto : ∀ c, c < 48 → I 67 (48 * n + c) = nI (to c)) (ht48 : ∀ c, c < 48 → to c < 48) (htm : I 71 w = nI t0) : pMet l yX5_steps wsX5_steps rmX5_steps D cy L ad G I J [.ref (ad 64), .int (nI w)] (qV (fun I' J' => I' = va_up I 71 (upd (I 71) w (nI (t0 + 1))) ∧ blk J J' w (goF to (turnF pl dr (sgnR pl mk f)))) D cy L ad G) := by
  refine pMet.ofV (cc := cX5_steps) (maxL := 2) (by decide +kernel) rfl (Nat.le_of_ble_eq_true rfl) ?_
  intro p e R s m args below meth c A Q C hml hR hg ret hW ls hl
  subst hR
  have C : Cx p s m args c cX5_steps RX5 wsX5_steps D cy A := C
  have hx := C.1
  have hb := C.2.1
  have lk29 := C.2.2.2.1 (.fieldLink RX5 29 "WaveWalkModel" "time" "[I") (by decide +kernel)
  have hinX5 : ∀ w ∈ wsX50, w ∈ wsX5_steps := by decide +kernel
  have hl : lv_has ls 2 [(0, .ref (ad 64)), (1, .int (nI w))] := hl
  refine lv_aload_n hx hb dX5_steps_0 rfl (lv_at hl 0 rfl) ?_
  refine lv_iload_n hx hb dX5_steps_1 rfl (lv_at hl 1 rfl) ?_
  refine p_cVv C hml hg hW (c_X5_signs l D cy L ad G I J hS w hw f hf n pl hno hn6 hpl hp12 mk hmk) (cwV 1 C.2.2.2.1 gX5_steps_X5_signs rfl rfl rfl (by decide +kernel) ⟨Nat.le_of_ble_eq_true rfl, Nat.le_of_ble_eq_true rfl⟩) (p_recv C hW (hS.1 64 (by omega) (by omega)) (pF_5 (by decide)) rfl) rfl hl.1 rfl (Nat.le_of_ble_eq_true rfl) dX5_steps_2 (Nat.le_of_ble_eq_true rfl) (Nat.le_of_ble_eq_true rfl) (fun I1 J2 H locs hp hW => ?_)
  obtain ⟨hI, hB1⟩ := hp
  subst I1
  refine lv_aload_n hx hb dX5_steps_5 rfl (lv_at hl 0 rfl) ?_
  refine lv_iload_n hx hb dX5_steps_6 rfl (lv_at hl 1 rfl) ?_
  refine p_cVv C hml hg hW (c_X5_turns l D cy L ad G I J2 hS w hw _ hB1.2.1 n pl dr hno hn6 hpl hp12 hdr hd4) (cwV 1 C.2.2.2.1 gX5_steps_X5_turns rfl rfl rfl (by decide +kernel) ⟨Nat.le_of_ble_eq_true rfl, Nat.le_of_ble_eq_true rfl⟩) (p_recv C hW (hS.1 64 (by omega) (by omega)) (pF_5 (by decide)) rfl) rfl hl.1 rfl (Nat.le_of_ble_eq_true rfl) dX5_steps_7 (Nat.le_of_ble_eq_true rfl) (Nat.le_of_ble_eq_true rfl) (fun I3 J4 H locs hp hW => ?_)
  obtain ⟨hI, hB2⟩ := hp
  subst I3
  have hB2 := hB1.trans hB2
  refine lv_aload_n hx hb dX5_steps_10 rfl (lv_at hl 0 rfl) ?_
  refine lv_iload_n hx hb dX5_steps_11 rfl (lv_at hl 1 rfl) ?_
  refine p_cVv C hml hg hW (c_X5_goes l D cy L ad G I J4 hS w hw _ hB2.2.1 n hno hn6 to hto ht48) (cwV 1 C.2.2.2.1 gX5_steps_X5_goes rfl rfl rfl (by decide +kernel) ⟨Nat.le_of_ble_eq_true rfl, Nat.le_of_ble_eq_true rfl⟩) (p_recv C hW (hS.1 64 (by omega) (by omega)) (pF_5 (by decide)) rfl) rfl hl.1 rfl (Nat.le_of_ble_eq_true rfl) dX5_steps_12 (Nat.le_of_ble_eq_true rfl) (Nat.le_of_ble_eq_true rfl) (fun I5 J6 H locs hp hW => ?_)
  obtain ⟨hI, hB3⟩ := hp
  subst I5
  have hB3 := hB2.trans hB3
  refine lv_aload_n hx hb dX5_steps_15 rfl (lv_at hl 0 rfl) ?_
  refine g_X5_9 C hinX5 hW (hS.1 64 (by omega) (by omega)) (by decide) (hS.2 9 (by omega) (by omega)) lk29 dX5_steps_16 ?_
  refine lv_iload_n hx hb dX5_steps_19 rfl (lv_at hl 1 rfl) ?_
  refine lv_dup2_11 hx hb dX5_steps_20 rfl rfl ?_
  refine p_iald C hW (hS.1 71 (by omega) (by omega)) (by decide) (k := w) rfl (by rw [show ln 71 = 13 by decide]; omega) dX5_steps_21 ?_
  refine w_top (y := .int (nI t0)) (by rw [htm]) ?_
  refine lv_iconst (v := nI 1) hx hb dX5_steps_22 (by decide) ?_
  refine n_iadd hx hb dX5_steps_23 ?_
  refine p_iast C hW (hS.1 71 (by omega) (by omega)) (by decide) (k := w) rfl (by rw [show ln 71 = 13 by decide]; omega) dX5_steps_24 (fun H locs hW => ?_)
  obtain ⟨I7, eI7⟩ : ∃ z, z = va_up I 71 (upd (I 71) w (nI (t0 + 1))) := ⟨_, rfl⟩
  rw [← eI7] at hW
  exact ret _ _ _ _ _ _ _ _ (Nat.le_of_ble_eq_true rfl) (Nat.le_of_ble_eq_true rfl) hW ⟨eI7, hB3⟩ dX5_steps_25
abbrev rmX5_isMultiple : Room := { frames := 0, cells := 0, slots := 0, locals := 0 }
set_option maxHeartbeats 4000000 in
set_option maxRecDepth 100000 in
theorem c_X5_isMultiple (l : Launch) (D : va_G) (cy : Nat → ClassId) (L : List Nat) (ad : Nat → Nat) (G : mG) (I : mI) (J : mJ) (hS : rSh L G) (a b : Nat) (ha : a < 13) (hb13 : b < 13) (f g : Nat → Int64) (hf : ∀ k, k < 48 → J 72 (48 * a + k) = f k) (hg0 : ∀ k, k < 48 → J 72 (48 * b + k) = g k) (hz : fnz g 48 < 48) : pMet l yX5_isMultiple wsX5_isMultiple rmX5_isMultiple D cy L ad G I J [.ref (ad 64), .int (nI a), .int (nI b)] (qI (fun v I' J' => v = bI (decide (f (fnz g 48) ≠ 0) && mulB f g (fnz g 48) 48) ∧ I' = I ∧ J' = J) D cy L ad G) := by
  refine pMet.ofZ (cc := cX5_isMultiple) (maxL := 6) (by decide +kernel) rfl (Nat.le_of_ble_eq_true rfl) ?_
  intro p e R s m args below meth c A Q C hml hR hg ret hW ls hl
  subst hR
  have C : Cx p s m args c cX5_isMultiple RX5 wsX5_isMultiple D cy A := C
  have hx := C.1
  have hb := C.2.1
  have lk32 := C.2.2.2.1 (.fieldLink RX5 32 "WaveWalkModel" "wave" "[J") (by decide +kernel)
  have hinX5 : ∀ w ∈ wsX50, w ∈ wsX5_isMultiple := by decide +kernel
  have hl : lv_has ls 6 [(0, .ref (ad 64)), (1, .int (nI a)), (2, .int (nI b))] := hl
  refine lv_iconst (v := nI 0) hx hb dX5_isMultiple_0 (by decide) ?_
  refine lv_istore_n (lv' := [(3, .int (nI 0)), (0, .ref (ad 64)), (1, .int (nI a)), (2, .int (nI b))]) hx hb dX5_isMultiple_1 rfl hl (by decide) rfl (fun ls hl => ?_)
  have lp2 : ∀ (nn : Nat) (d : Nat), (d ≤ fnz g 48) → (fnz g 48 + 1 ≤ d + nn) → ∀ (H : Heap) (locs : List Loc), Wd D cy A s.heap H locs L ad G I J → ∀ (ls : Array Slot), lv_has ls 6 [(0, .ref (ad 64)), (1, .int (nI a)), (2, .int (nI b)), (3, .int (nI d))] → W p l e rmX5_isMultiple s m args below meth c H locs 0 0 Q (F0 m 2 ls []) := by
    intro nn
    induction nn with
    | zero => intros; exfalso; omega
    | succ nn ih2 =>
      intro d hd hfu H locs hW ls hl
      refine lv_aload_n hx hb dX5_isMultiple_2 rfl (lv_at hl 0 rfl) ?_
      refine g_X5_10 C hinX5 hW (hS.1 64 (by omega) (by omega)) (by decide) (hS.2 10 (by omega) (by omega)) lk32 dX5_isMultiple_3 ?_
      refine lv_bipush (v := nI 48) hx hb dX5_isMultiple_6 (by decide) ?_
      refine lv_iload_n hx hb dX5_isMultiple_8 rfl (lv_at hl 2 rfl) ?_
      refine n_imul hx hb dX5_isMultiple_9 ?_
      refine lv_iload_n hx hb dX5_isMultiple_10 rfl (lv_at hl 3 rfl) ?_
      refine n_iadd hx hb dX5_isMultiple_11 ?_
      refine p_lald C hW (hS.1 72 (by omega) (by omega)) (by decide) (k := (48 * b) + d) rfl (by rw [show ln 72 = 624 by decide]; omega) dX5_isMultiple_12 ?_
      refine w_top (y := .long (g d)) (by rw [hg0 _ (by omega)]) ?_
      refine lv_lconst (v := 0) hx hb dX5_isMultiple_13 (by decide) ?_
      refine l_ne (tgt := 24) hx hb dX5_isMultiple_14 dX5_isMultiple_15 (by decide) (fun hc_1 => ?_) (fun hc_1 => ?_)
      · skip
        have hdz : d = fnz g 48 := by
          rcases Nat.lt_or_ge d (fnz g 48) with h | h
          · exact absurd (fnz_zero g 48 d h) hc_1
          · omega
        rw [hdz] at hl
        refine lv_aload_n hx hb dX5_isMultiple_24 rfl (lv_at hl 0 rfl) ?_
        refine g_X5_10 C hinX5 hW (hS.1 64 (by omega) (by omega)) (by decide) (hS.2 10 (by omega) (by omega)) lk32 dX5_isMultiple_25 ?_
        refine lv_bipush (v := nI 48) hx hb dX5_isMultiple_28 (by decide) ?_
        refine lv_iload_n hx hb dX5_isMultiple_30 rfl (lv_at hl 1 rfl) ?_
        refine n_imul hx hb dX5_isMultiple_31 ?_
        refine lv_iload_n hx hb dX5_isMultiple_32 rfl (lv_at hl 3 rfl) ?_
        refine n_iadd hx hb dX5_isMultiple_33 ?_
        refine p_lald C hW (hS.1 72 (by omega) (by omega)) (by decide) (k := (48 * a) + (fnz g 48)) rfl (by rw [show ln 72 = 624 by decide]; omega) dX5_isMultiple_34 ?_
        refine w_top (y := .long (f (fnz g 48))) (by rw [hf _ (by omega)]) ?_
        refine lv_lconst (v := 0) hx hb dX5_isMultiple_35 (by decide) ?_
        refine l_eq (tgt := 44) hx hb dX5_isMultiple_36 dX5_isMultiple_37 (by decide) (fun hc_2 => ?_) (fun hc_2 => ?_)
        · skip
          refine lv_iconst (v := nI 0) hx hb dX5_isMultiple_44 (by decide) ?_
          have hq0 : decide (f (fnz g 48) ≠ 0) = false := decide_eq_false (fun z => z hc_2)
          refine w_top (y := .int (bI (decide (f (fnz g 48) ≠ 0) && mulB f g (fnz g 48) 0))) (by rw [hq0]; rfl) ?_
          refine lv_istore (lv' := [(4, .int (bI (decide (f (fnz g 48) ≠ 0) && mulB f g (fnz g 48) 0))), (0, .ref (ad 64)), (1, .int (nI a)), (2, .int (nI b)), (3, .int (nI (fnz g 48)))]) hx hb dX5_isMultiple_45 hl (by decide) rfl (fun ls hl => ?_)
          refine lv_iconst (v := nI 0) hx hb dX5_isMultiple_47 (by decide) ?_
          refine lv_istore (lv' := [(5, .int (nI 0)), (4, .int (bI (decide (f (fnz g 48) ≠ 0) && mulB f g (fnz g 48) 0))), (0, .ref (ad 64)), (1, .int (nI a)), (2, .int (nI b)), (3, .int (nI (fnz g 48)))]) hx hb dX5_isMultiple_48 hl (by decide) rfl (fun ls hl => ?_)
          have lp50 : ∀ (nn : Nat) (i : Nat), (i ≤ 48) → (49 ≤ i + nn) → ∀ (H : Heap) (locs : List Loc), Wd D cy A s.heap H locs L ad G I J → ∀ (ls : Array Slot), lv_has ls 6 [(0, .ref (ad 64)), (1, .int (nI a)), (2, .int (nI b)), (3, .int (nI (fnz g 48))), (4, .int (bI (decide (f (fnz g 48) ≠ 0) && mulB f g (fnz g 48) i))), (5, .int (nI i))] → W p l e rmX5_isMultiple s m args below meth c H locs 0 0 Q (F0 m 50 ls []) := by
            intro nn
            induction nn with
            | zero => intros; exfalso; omega
            | succ nn ih50 =>
              intro i hi hfu2 H locs hW ls hl
              refine lv_iload hx hb dX5_isMultiple_50 (lv_at hl 5 rfl) ?_
              refine lv_bipush (v := nI 48) hx hb dX5_isMultiple_52 (by decide) ?_
              refine n_icmp_ge (tgt := 127) hx hb (by omega) (by omega) dX5_isMultiple_54 (by decide) (fun hc_3 => ?_) (fun hc_3 => ?_)
              · skip
                refine lv_iload hx hb dX5_isMultiple_127 (lv_at hl 4 rfl) ?_
                exact ret _ _ _ _ _ _ _ _ _ (Nat.le_of_ble_eq_true rfl) (Nat.le_of_ble_eq_true rfl) hW ⟨by rw [show i = 48 by omega], rfl, rfl⟩ (bI_nar _) dX5_isMultiple_129
              · skip
                refine lv_iload hx hb dX5_isMultiple_57 (lv_at hl 4 rfl) ?_
                refine b_if_eq (tgt := 118) hx hb dX5_isMultiple_59 (by decide) (fun hc_4 => ?_) (fun hc_4 => ?_)
                · skip
                  refine lv_iconst (v := nI 0) hx hb dX5_isMultiple_118 (by decide) ?_
                  refine w_top (y := .int (bI (decide (f (fnz g 48) ≠ 0) && mulB f g (fnz g 48) (i + 1)))) (by rw [mulB, ← Bool.and_assoc, hc_4]; rfl) ?_
                  refine lv_istore (lv' := [(4, .int (bI (decide (f (fnz g 48) ≠ 0) && mulB f g (fnz g 48) (i + 1)))), (0, .ref (ad 64)), (1, .int (nI a)), (2, .int (nI b)), (3, .int (nI (fnz g 48))), (5, .int (nI i))]) hx hb dX5_isMultiple_119 hl (by decide) rfl (fun ls hl => ?_)
                  refine lv_iinc (v := nI (i + 1)) (lv' := [(5, .int (nI (i + 1))), (4, .int (bI (decide (f (fnz g 48) ≠ 0) && mulB f g (fnz g 48) (i + 1)))), (0, .ref (ad 64)), (1, .int (nI a)), (2, .int (nI b)), (3, .int (nI (fnz g 48)))]) hx hb dX5_isMultiple_121 hl (k := 5) rfl (nI_inc _) (by decide) rfl (fun ls hl => ?_)
                  refine lv_goto (tgt := 50) hx hb dX5_isMultiple_124 (by decide) ?_
                  exact ih50 (i + 1) (by omega) (by omega) _ _ hW ls (lv_sub hl [2, 3, 4, 5, 1, 0] rfl)
                · skip
                  refine lv_aload_n hx hb dX5_isMultiple_62 rfl (lv_at hl 0 rfl) ?_
                  refine g_X5_10 C hinX5 hW (hS.1 64 (by omega) (by omega)) (by decide) (hS.2 10 (by omega) (by omega)) lk32 dX5_isMultiple_63 ?_
                  refine lv_bipush (v := nI 48) hx hb dX5_isMultiple_66 (by decide) ?_
                  refine lv_iload_n hx hb dX5_isMultiple_68 rfl (lv_at hl 1 rfl) ?_
                  refine n_imul hx hb dX5_isMultiple_69 ?_
                  refine lv_iload hx hb dX5_isMultiple_70 (lv_at hl 5 rfl) ?_
                  refine n_iadd hx hb dX5_isMultiple_72 ?_
                  refine p_lald C hW (hS.1 72 (by omega) (by omega)) (by decide) (k := (48 * a) + i) rfl (by rw [show ln 72 = 624 by decide]; omega) dX5_isMultiple_73 ?_
                  refine w_top (y := .long (f i)) (by rw [hf _ (by omega)]) ?_
                  refine lv_aload_n hx hb dX5_isMultiple_74 rfl (lv_at hl 0 rfl) ?_
                  refine g_X5_10 C hinX5 hW (hS.1 64 (by omega) (by omega)) (by decide) (hS.2 10 (by omega) (by omega)) lk32 dX5_isMultiple_75 ?_
                  refine lv_bipush (v := nI 48) hx hb dX5_isMultiple_78 (by decide) ?_
                  refine lv_iload_n hx hb dX5_isMultiple_80 rfl (lv_at hl 2 rfl) ?_
                  refine n_imul hx hb dX5_isMultiple_81 ?_
                  refine lv_iload_n hx hb dX5_isMultiple_82 rfl (lv_at hl 3 rfl) ?_
                  refine n_iadd hx hb dX5_isMultiple_83 ?_
                  refine p_lald C hW (hS.1 72 (by omega) (by omega)) (by decide) (k := (48 * b) + (fnz g 48)) rfl (by rw [show ln 72 = 624 by decide]; omega) dX5_isMultiple_84 ?_
                  refine w_top (y := .long (g (fnz g 48))) (by rw [hg0 _ (by omega)]) ?_
                  refine lv_lmul hx hb dX5_isMultiple_85 ?_
                  refine lv_aload_n hx hb dX5_isMultiple_86 rfl (lv_at hl 0 rfl) ?_
                  refine g_X5_10 C hinX5 hW (hS.1 64 (by omega) (by omega)) (by decide) (hS.2 10 (by omega) (by omega)) lk32 dX5_isMultiple_87 ?_
                  refine lv_bipush (v := nI 48) hx hb dX5_isMultiple_90 (by decide) ?_
                  refine lv_iload_n hx hb dX5_isMultiple_92 rfl (lv_at hl 2 rfl) ?_
                  refine n_imul hx hb dX5_isMultiple_93 ?_
                  refine lv_iload hx hb dX5_isMultiple_94 (lv_at hl 5 rfl) ?_
                  refine n_iadd hx hb dX5_isMultiple_96 ?_
                  refine p_lald C hW (hS.1 72 (by omega) (by omega)) (by decide) (k := (48 * b) + i) rfl (by rw [show ln 72 = 624 by decide]; omega) dX5_isMultiple_97 ?_
                  refine w_top (y := .long (g i)) (by rw [hg0 _ (by omega)]) ?_
                  refine lv_aload_n hx hb dX5_isMultiple_98 rfl (lv_at hl 0 rfl) ?_
                  refine g_X5_10 C hinX5 hW (hS.1 64 (by omega) (by omega)) (by decide) (hS.2 10 (by omega) (by omega)) lk32 dX5_isMultiple_99 ?_
                  refine lv_bipush (v := nI 48) hx hb dX5_isMultiple_102 (by decide) ?_
                  refine lv_iload_n hx hb dX5_isMultiple_104 rfl (lv_at hl 1 rfl) ?_
                  refine n_imul hx hb dX5_isMultiple_105 ?_
                  refine lv_iload_n hx hb dX5_isMultiple_106 rfl (lv_at hl 3 rfl) ?_
                  refine n_iadd hx hb dX5_isMultiple_107 ?_
                  refine p_lald C hW (hS.1 72 (by omega) (by omega)) (by decide) (k := (48 * a) + (fnz g 48)) rfl (by rw [show ln 72 = 624 by decide]; omega) dX5_isMultiple_108 ?_
                  refine w_top (y := .long (f (fnz g 48))) (by rw [hf _ (by omega)]) ?_
                  refine lv_lmul hx hb dX5_isMultiple_109 ?_
                  refine l_ne (tgt := 118) hx hb dX5_isMultiple_110 dX5_isMultiple_111 (by decide) (fun hc_5 => ?_) (fun hc_5 => ?_)
                  · skip
                    refine lv_iconst (v := nI 0) hx hb dX5_isMultiple_118 (by decide) ?_
                    refine w_top (y := .int (bI (decide (f (fnz g 48) ≠ 0) && mulB f g (fnz g 48) (i + 1)))) (by rw [mulB, ← Bool.and_assoc, decide_eq_false hc_5, Bool.and_false]; rfl) ?_
                    refine lv_istore (lv' := [(4, .int (bI (decide (f (fnz g 48) ≠ 0) && mulB f g (fnz g 48) (i + 1)))), (0, .ref (ad 64)), (1, .int (nI a)), (2, .int (nI b)), (3, .int (nI (fnz g 48))), (5, .int (nI i))]) hx hb dX5_isMultiple_119 hl (by decide) rfl (fun ls hl => ?_)
                    refine lv_iinc (v := nI (i + 1)) (lv' := [(5, .int (nI (i + 1))), (4, .int (bI (decide (f (fnz g 48) ≠ 0) && mulB f g (fnz g 48) (i + 1)))), (0, .ref (ad 64)), (1, .int (nI a)), (2, .int (nI b)), (3, .int (nI (fnz g 48)))]) hx hb dX5_isMultiple_121 hl (k := 5) rfl (nI_inc _) (by decide) rfl (fun ls hl => ?_)
                    refine lv_goto (tgt := 50) hx hb dX5_isMultiple_124 (by decide) ?_
                    exact ih50 (i + 1) (by omega) (by omega) _ _ hW ls (lv_sub hl [2, 3, 4, 5, 1, 0] rfl)
                  · skip
                    refine lv_iconst (v := nI 1) hx hb dX5_isMultiple_114 (by decide) ?_
                    refine lv_goto (tgt := 119) hx hb dX5_isMultiple_115 (by decide) ?_
                    refine w_top (y := .int (bI (decide (f (fnz g 48) ≠ 0) && mulB f g (fnz g 48) (i + 1)))) (by rw [mulB, ← Bool.and_assoc, hc_4, decide_eq_true hc_5]; rfl) ?_
                    refine lv_istore (lv' := [(4, .int (bI (decide (f (fnz g 48) ≠ 0) && mulB f g (fnz g 48) (i + 1)))), (0, .ref (ad 64)), (1, .int (nI a)), (2, .int (nI b)), (3, .int (nI (fnz g 48))), (5, .int (nI i))]) hx hb dX5_isMultiple_119 hl (by decide) rfl (fun ls hl => ?_)
                    refine lv_iinc (v := nI (i + 1)) (lv' := [(5, .int (nI (i + 1))), (4, .int (bI (decide (f (fnz g 48) ≠ 0) && mulB f g (fnz g 48) (i + 1)))), (0, .ref (ad 64)), (1, .int (nI a)), (2, .int (nI b)), (3, .int (nI (fnz g 48)))]) hx hb dX5_isMultiple_121 hl (k := 5) rfl (nI_inc _) (by decide) rfl (fun ls hl => ?_)
                    refine lv_goto (tgt := 50) hx hb dX5_isMultiple_124 (by decide) ?_
                    exact ih50 (i + 1) (by omega) (by omega) _ _ hW ls (lv_sub hl [2, 3, 4, 5, 1, 0] rfl)
          exact lp50 49 0 (by omega) (by omega) _ _ hW ls (lv_sub hl [2, 3, 4, 5, 1, 0] rfl)
        · skip
          refine lv_iconst (v := nI 1) hx hb dX5_isMultiple_40 (by decide) ?_
          refine lv_goto (tgt := 45) hx hb dX5_isMultiple_41 (by decide) ?_
          have hq0 : decide (f (fnz g 48) ≠ 0) = true := decide_eq_true hc_2
          refine w_top (y := .int (bI (decide (f (fnz g 48) ≠ 0) && mulB f g (fnz g 48) 0))) (by rw [hq0]; rfl) ?_
          refine lv_istore (lv' := [(4, .int (bI (decide (f (fnz g 48) ≠ 0) && mulB f g (fnz g 48) 0))), (0, .ref (ad 64)), (1, .int (nI a)), (2, .int (nI b)), (3, .int (nI (fnz g 48)))]) hx hb dX5_isMultiple_45 hl (by decide) rfl (fun ls hl => ?_)
          refine lv_iconst (v := nI 0) hx hb dX5_isMultiple_47 (by decide) ?_
          refine lv_istore (lv' := [(5, .int (nI 0)), (4, .int (bI (decide (f (fnz g 48) ≠ 0) && mulB f g (fnz g 48) 0))), (0, .ref (ad 64)), (1, .int (nI a)), (2, .int (nI b)), (3, .int (nI (fnz g 48)))]) hx hb dX5_isMultiple_48 hl (by decide) rfl (fun ls hl => ?_)
          have lp50_1 : ∀ (nn : Nat) (i : Nat), (i ≤ 48) → (49 ≤ i + nn) → ∀ (H : Heap) (locs : List Loc), Wd D cy A s.heap H locs L ad G I J → ∀ (ls : Array Slot), lv_has ls 6 [(0, .ref (ad 64)), (1, .int (nI a)), (2, .int (nI b)), (3, .int (nI (fnz g 48))), (4, .int (bI (decide (f (fnz g 48) ≠ 0) && mulB f g (fnz g 48) i))), (5, .int (nI i))] → W p l e rmX5_isMultiple s m args below meth c H locs 0 0 Q (F0 m 50 ls []) := by
            intro nn
            induction nn with
            | zero => intros; exfalso; omega
            | succ nn ih50 =>
              intro i hi hfu2 H locs hW ls hl
              refine lv_iload hx hb dX5_isMultiple_50 (lv_at hl 5 rfl) ?_
              refine lv_bipush (v := nI 48) hx hb dX5_isMultiple_52 (by decide) ?_
              refine n_icmp_ge (tgt := 127) hx hb (by omega) (by omega) dX5_isMultiple_54 (by decide) (fun hc_6 => ?_) (fun hc_6 => ?_)
              · skip
                refine lv_iload hx hb dX5_isMultiple_127 (lv_at hl 4 rfl) ?_
                exact ret _ _ _ _ _ _ _ _ _ (Nat.le_of_ble_eq_true rfl) (Nat.le_of_ble_eq_true rfl) hW ⟨by rw [show i = 48 by omega], rfl, rfl⟩ (bI_nar _) dX5_isMultiple_129
              · skip
                refine lv_iload hx hb dX5_isMultiple_57 (lv_at hl 4 rfl) ?_
                refine b_if_eq (tgt := 118) hx hb dX5_isMultiple_59 (by decide) (fun hc_7 => ?_) (fun hc_7 => ?_)
                · skip
                  refine lv_iconst (v := nI 0) hx hb dX5_isMultiple_118 (by decide) ?_
                  refine w_top (y := .int (bI (decide (f (fnz g 48) ≠ 0) && mulB f g (fnz g 48) (i + 1)))) (by rw [mulB, ← Bool.and_assoc, hc_7]; rfl) ?_
                  refine lv_istore (lv' := [(4, .int (bI (decide (f (fnz g 48) ≠ 0) && mulB f g (fnz g 48) (i + 1)))), (0, .ref (ad 64)), (1, .int (nI a)), (2, .int (nI b)), (3, .int (nI (fnz g 48))), (5, .int (nI i))]) hx hb dX5_isMultiple_119 hl (by decide) rfl (fun ls hl => ?_)
                  refine lv_iinc (v := nI (i + 1)) (lv' := [(5, .int (nI (i + 1))), (4, .int (bI (decide (f (fnz g 48) ≠ 0) && mulB f g (fnz g 48) (i + 1)))), (0, .ref (ad 64)), (1, .int (nI a)), (2, .int (nI b)), (3, .int (nI (fnz g 48)))]) hx hb dX5_isMultiple_121 hl (k := 5) rfl (nI_inc _) (by decide) rfl (fun ls hl => ?_)
                  refine lv_goto (tgt := 50) hx hb dX5_isMultiple_124 (by decide) ?_
                  exact ih50 (i + 1) (by omega) (by omega) _ _ hW ls (lv_sub hl [2, 3, 4, 5, 1, 0] rfl)
                · skip
                  refine lv_aload_n hx hb dX5_isMultiple_62 rfl (lv_at hl 0 rfl) ?_
                  refine g_X5_10 C hinX5 hW (hS.1 64 (by omega) (by omega)) (by decide) (hS.2 10 (by omega) (by omega)) lk32 dX5_isMultiple_63 ?_
                  refine lv_bipush (v := nI 48) hx hb dX5_isMultiple_66 (by decide) ?_
                  refine lv_iload_n hx hb dX5_isMultiple_68 rfl (lv_at hl 1 rfl) ?_
                  refine n_imul hx hb dX5_isMultiple_69 ?_
                  refine lv_iload hx hb dX5_isMultiple_70 (lv_at hl 5 rfl) ?_
                  refine n_iadd hx hb dX5_isMultiple_72 ?_
                  refine p_lald C hW (hS.1 72 (by omega) (by omega)) (by decide) (k := (48 * a) + i) rfl (by rw [show ln 72 = 624 by decide]; omega) dX5_isMultiple_73 ?_
                  refine w_top (y := .long (f i)) (by rw [hf _ (by omega)]) ?_
                  refine lv_aload_n hx hb dX5_isMultiple_74 rfl (lv_at hl 0 rfl) ?_
                  refine g_X5_10 C hinX5 hW (hS.1 64 (by omega) (by omega)) (by decide) (hS.2 10 (by omega) (by omega)) lk32 dX5_isMultiple_75 ?_
                  refine lv_bipush (v := nI 48) hx hb dX5_isMultiple_78 (by decide) ?_
                  refine lv_iload_n hx hb dX5_isMultiple_80 rfl (lv_at hl 2 rfl) ?_
                  refine n_imul hx hb dX5_isMultiple_81 ?_
                  refine lv_iload_n hx hb dX5_isMultiple_82 rfl (lv_at hl 3 rfl) ?_
                  refine n_iadd hx hb dX5_isMultiple_83 ?_
                  refine p_lald C hW (hS.1 72 (by omega) (by omega)) (by decide) (k := (48 * b) + (fnz g 48)) rfl (by rw [show ln 72 = 624 by decide]; omega) dX5_isMultiple_84 ?_
                  refine w_top (y := .long (g (fnz g 48))) (by rw [hg0 _ (by omega)]) ?_
                  refine lv_lmul hx hb dX5_isMultiple_85 ?_
                  refine lv_aload_n hx hb dX5_isMultiple_86 rfl (lv_at hl 0 rfl) ?_
                  refine g_X5_10 C hinX5 hW (hS.1 64 (by omega) (by omega)) (by decide) (hS.2 10 (by omega) (by omega)) lk32 dX5_isMultiple_87 ?_
                  refine lv_bipush (v := nI 48) hx hb dX5_isMultiple_90 (by decide) ?_
                  refine lv_iload_n hx hb dX5_isMultiple_92 rfl (lv_at hl 2 rfl) ?_
                  refine n_imul hx hb dX5_isMultiple_93 ?_
                  refine lv_iload hx hb dX5_isMultiple_94 (lv_at hl 5 rfl) ?_
                  refine n_iadd hx hb dX5_isMultiple_96 ?_
                  refine p_lald C hW (hS.1 72 (by omega) (by omega)) (by decide) (k := (48 * b) + i) rfl (by rw [show ln 72 = 624 by decide]; omega) dX5_isMultiple_97 ?_
                  refine w_top (y := .long (g i)) (by rw [hg0 _ (by omega)]) ?_
                  refine lv_aload_n hx hb dX5_isMultiple_98 rfl (lv_at hl 0 rfl) ?_
                  refine g_X5_10 C hinX5 hW (hS.1 64 (by omega) (by omega)) (by decide) (hS.2 10 (by omega) (by omega)) lk32 dX5_isMultiple_99 ?_
                  refine lv_bipush (v := nI 48) hx hb dX5_isMultiple_102 (by decide) ?_
                  refine lv_iload_n hx hb dX5_isMultiple_104 rfl (lv_at hl 1 rfl) ?_
                  refine n_imul hx hb dX5_isMultiple_105 ?_
                  refine lv_iload_n hx hb dX5_isMultiple_106 rfl (lv_at hl 3 rfl) ?_
                  refine n_iadd hx hb dX5_isMultiple_107 ?_
                  refine p_lald C hW (hS.1 72 (by omega) (by omega)) (by decide) (k := (48 * a) + (fnz g 48)) rfl (by rw [show ln 72 = 624 by decide]; omega) dX5_isMultiple_108 ?_
                  refine w_top (y := .long (f (fnz g 48))) (by rw [hf _ (by omega)]) ?_
                  refine lv_lmul hx hb dX5_isMultiple_109 ?_
                  refine l_ne (tgt := 118) hx hb dX5_isMultiple_110 dX5_isMultiple_111 (by decide) (fun hc_8 => ?_) (fun hc_8 => ?_)
                  · skip
                    refine lv_iconst (v := nI 0) hx hb dX5_isMultiple_118 (by decide) ?_
                    refine w_top (y := .int (bI (decide (f (fnz g 48) ≠ 0) && mulB f g (fnz g 48) (i + 1)))) (by rw [mulB, ← Bool.and_assoc, decide_eq_false hc_8, Bool.and_false]; rfl) ?_
                    refine lv_istore (lv' := [(4, .int (bI (decide (f (fnz g 48) ≠ 0) && mulB f g (fnz g 48) (i + 1)))), (0, .ref (ad 64)), (1, .int (nI a)), (2, .int (nI b)), (3, .int (nI (fnz g 48))), (5, .int (nI i))]) hx hb dX5_isMultiple_119 hl (by decide) rfl (fun ls hl => ?_)
                    refine lv_iinc (v := nI (i + 1)) (lv' := [(5, .int (nI (i + 1))), (4, .int (bI (decide (f (fnz g 48) ≠ 0) && mulB f g (fnz g 48) (i + 1)))), (0, .ref (ad 64)), (1, .int (nI a)), (2, .int (nI b)), (3, .int (nI (fnz g 48)))]) hx hb dX5_isMultiple_121 hl (k := 5) rfl (nI_inc _) (by decide) rfl (fun ls hl => ?_)
                    refine lv_goto (tgt := 50) hx hb dX5_isMultiple_124 (by decide) ?_
                    exact ih50 (i + 1) (by omega) (by omega) _ _ hW ls (lv_sub hl [2, 3, 4, 5, 1, 0] rfl)
                  · skip
                    refine lv_iconst (v := nI 1) hx hb dX5_isMultiple_114 (by decide) ?_
                    refine lv_goto (tgt := 119) hx hb dX5_isMultiple_115 (by decide) ?_
                    refine w_top (y := .int (bI (decide (f (fnz g 48) ≠ 0) && mulB f g (fnz g 48) (i + 1)))) (by rw [mulB, ← Bool.and_assoc, hc_7, decide_eq_true hc_8]; rfl) ?_
                    refine lv_istore (lv' := [(4, .int (bI (decide (f (fnz g 48) ≠ 0) && mulB f g (fnz g 48) (i + 1)))), (0, .ref (ad 64)), (1, .int (nI a)), (2, .int (nI b)), (3, .int (nI (fnz g 48))), (5, .int (nI i))]) hx hb dX5_isMultiple_119 hl (by decide) rfl (fun ls hl => ?_)
                    refine lv_iinc (v := nI (i + 1)) (lv' := [(5, .int (nI (i + 1))), (4, .int (bI (decide (f (fnz g 48) ≠ 0) && mulB f g (fnz g 48) (i + 1)))), (0, .ref (ad 64)), (1, .int (nI a)), (2, .int (nI b)), (3, .int (nI (fnz g 48)))]) hx hb dX5_isMultiple_121 hl (k := 5) rfl (nI_inc _) (by decide) rfl (fun ls hl => ?_)
                    refine lv_goto (tgt := 50) hx hb dX5_isMultiple_124 (by decide) ?_
                    exact ih50 (i + 1) (by omega) (by omega) _ _ hW ls (lv_sub hl [2, 3, 4, 5, 1, 0] rfl)
          exact lp50_1 49 0 (by omega) (by omega) _ _ hW ls (lv_sub hl [2, 3, 4, 5, 1, 0] rfl)
      · skip
        refine lv_iinc (v := nI (d + 1)) (lv' := [(3, .int (nI (d + 1))), (0, .ref (ad 64)), (1, .int (nI a)), (2, .int (nI b))]) hx hb dX5_isMultiple_18 hl (k := 3) rfl (nI_inc _) (by decide) rfl (fun ls hl => ?_)
        refine lv_goto (tgt := 2) hx hb dX5_isMultiple_21 (by decide) ?_
        exact ih2 (d + 1) (by rcases Nat.lt_or_ge d (fnz g 48) with h | h; omega; exact absurd hc_1 (by rw [show d = fnz g 48 by omega]; exact fnz_ne g 48 hz)) (by omega) _ _ hW ls (lv_sub hl [1, 2, 3, 0] rfl)
  exact lp2 (fnz g 48 + 1) 0 (by omega) (by omega) _ _ hW ls (lv_sub hl [1, 2, 3, 0] rfl)
abbrev rmX5_many : Room := { frames := 0, cells := 0, slots := 0, locals := 0 }
set_option maxHeartbeats 4000000 in
set_option maxRecDepth 100000 in
theorem c_X5_many (l : Launch) (D : va_G) (cy : Nat → ClassId) (L : List Nat) (ad : Nat → Nat) (G : mG) (I : mI) (J : mJ) (hS : rSh L G) (n pl dr : Nat) (hn6 : n < 6) (hpl : I 65 n = nI pl) (hp12 : pl ≤ 12) (hdr : I 66 n = nI dr) (hd4 : dr ≤ 4) (to : Nat → Nat) (hto : ∀ c, c < 48 → I 67 (48 * n + c) = nI (to c)) (ht48 : ∀ c, c < 48 → to c < 48) (hled : ∀ p d, p < pl → d < dr → led to p d < pl) (cf : Nat → Nat) (hcf : ∀ p, p < pl → I 74 p = nI (cf p)) (hc12 : ∀ p, p < pl → cf p < 12) (q c0 : Nat) (hq : q < pl) (hc0 : c0 < 12) : pMet l yX5_many wsX5_many rmX5_many D cy L ad G I J [.ref (ad 64), .int (nI n), .int (nI q), .int (nI c0)] (qI (fun v I' J' => v = nI (cnt (fun d => cf (led to q d)) c0 dr) ∧ I' = I ∧ J' = J) D cy L ad G) := by
  refine pMet.ofI (cc := cX5_many) (maxL := 6) (by decide +kernel) rfl (Nat.le_of_ble_eq_true rfl) ?_
  intro p e R s m args below meth c A Q C hml hR hg ret hW ls hl
  subst hR
  have C : Cx p s m args c cX5_many RX5 wsX5_many D cy A := C
  have hx := C.1
  have hb := C.2.1
  have lk13 := C.2.2.2.1 (.fieldLink RX5 13 "WaveWalkModel" "doors" "[I") (by decide +kernel)
  have lk16 := C.2.2.2.1 (.fieldLink RX5 16 "WaveWalkModel" "to" "[I") (by decide +kernel)
  have lk39 := C.2.2.2.1 (.fieldLink RX5 39 "WaveWalkModel" "classes" "[I") (by decide +kernel)
  have hinX5 : ∀ w ∈ wsX50, w ∈ wsX5_many := by decide +kernel
  have hl : lv_has ls 6 [(0, .ref (ad 64)), (1, .int (nI n)), (2, .int (nI q)), (3, .int (nI c0))] := hl
  refine lv_iconst (v := nI 0) hx hb dX5_many_0 (by decide) ?_
  refine lv_istore (lv' := [(4, .int (nI 0)), (0, .ref (ad 64)), (1, .int (nI n)), (2, .int (nI q)), (3, .int (nI c0))]) hx hb dX5_many_1 hl (by decide) rfl (fun ls hl => ?_)
  refine lv_iconst (v := nI 0) hx hb dX5_many_3 (by decide) ?_
  refine lv_istore (lv' := [(5, .int (nI 0)), (4, .int (nI 0)), (0, .ref (ad 64)), (1, .int (nI n)), (2, .int (nI q)), (3, .int (nI c0))]) hx hb dX5_many_4 hl (by decide) rfl (fun ls hl => ?_)
  have lp6 : ∀ (nn : Nat) (d : Nat), (d ≤ dr) → (dr + 1 ≤ d + nn) → ∀ (H : Heap) (locs : List Loc), Wd D cy A s.heap H locs L ad G I J → ∀ (ls : Array Slot), lv_has ls 6 [(0, .ref (ad 64)), (1, .int (nI n)), (2, .int (nI q)), (3, .int (nI c0)), (4, .int (nI (cnt (fun d => cf (led to q d)) c0 d))), (5, .int (nI d))] → W p l e rmX5_many s m args below meth c H locs 0 0 Q (F0 m 6 ls []) := by
    intro nn
    induction nn with
    | zero => intros; exfalso; omega
    | succ nn ih6 =>
      intro d hd hfu H locs hW ls hl
      refine lv_iload hx hb dX5_many_6 (lv_at hl 5 rfl) ?_
      refine lv_aload_n hx hb dX5_many_8 rfl (lv_at hl 0 rfl) ?_
      refine g_X5_4 C hinX5 hW (hS.1 64 (by omega) (by omega)) (by decide) (hS.2 4 (by omega) (by omega)) lk13 dX5_many_9 ?_
      refine lv_iload_n hx hb dX5_many_12 rfl (lv_at hl 1 rfl) ?_
      refine p_iald C hW (hS.1 66 (by omega) (by omega)) (by decide) (k := n) rfl (by rw [show ln 66 = 6 by decide]; omega) dX5_many_13 ?_
      refine w_top (y := .int (nI dr)) (by rw [hdr]) ?_
      refine n_icmp_ge (tgt := 53) hx hb (by omega) (by omega) dX5_many_14 (by decide) (fun hc_1 => ?_) (fun hc_1 => ?_)
      · skip
        refine lv_iload hx hb dX5_many_53 (lv_at hl 4 rfl) ?_
        exact ret _ _ _ _ _ _ _ _ _ (Nat.le_of_ble_eq_true rfl) (Nat.le_of_ble_eq_true rfl) hW ⟨by rw [show d = dr by omega], rfl, rfl⟩ dX5_many_55
      · skip
        have h48 := ht48 (q * 4 + d) (by omega)
        have hld : to (q * 4 + d) / 4 < pl := hled q d hq (by omega)
        have hcc := hc12 _ hld
        have hcl := cnt_le (fun d => cf (led to q d)) c0 d
        refine lv_aload_n hx hb dX5_many_17 rfl (lv_at hl 0 rfl) ?_
        refine g_X5_12 C hinX5 hW (hS.1 64 (by omega) (by omega)) (by decide) (hS.2 12 (by omega) (by omega)) lk39 dX5_many_18 ?_
        refine lv_aload_n hx hb dX5_many_21 rfl (lv_at hl 0 rfl) ?_
        refine g_X5_5 C hinX5 hW (hS.1 64 (by omega) (by omega)) (by decide) (hS.2 5 (by omega) (by omega)) lk16 dX5_many_22 ?_
        refine lv_bipush (v := nI 48) hx hb dX5_many_25 (by decide) ?_
        refine lv_iload_n hx hb dX5_many_27 rfl (lv_at hl 1 rfl) ?_
        refine n_imul hx hb dX5_many_28 ?_
        refine lv_iconst (v := nI 4) hx hb dX5_many_29 (by decide) ?_
        refine lv_iload_n hx hb dX5_many_30 rfl (lv_at hl 2 rfl) ?_
        refine n_imul hx hb dX5_many_31 ?_
        refine n_iadd hx hb dX5_many_32 ?_
        refine lv_iload hx hb dX5_many_33 (lv_at hl 5 rfl) ?_
        refine n_iadd hx hb dX5_many_35 ?_
        refine p_iald C hW (hS.1 67 (by omega) (by omega)) (by decide) (k := ((48 * n) + (4 * q)) + d) rfl (by rw [show ln 67 = 288 by decide]; omega) dX5_many_36 ?_
        refine w_top (y := .int (nI (to (q * 4 + d)))) (by rw [show ((48 * n) + (4 * q)) + d = 48 * n + (q * 4 + d) by omega, hto _ (by omega)]) ?_
        refine lv_iconst (v := nI 4) hx hb dX5_many_37 (by decide) ?_
        refine n_idiv hx hb (by omega) (by omega) (by omega) dX5_many_38 ?_
        refine p_iald C hW (hS.1 74 (by omega) (by omega)) (by decide) (k := (to (q * 4 + d)) / 4) rfl (by rw [show ln 74 = 12 by decide]; omega) dX5_many_39 ?_
        refine w_top (y := .int (nI (cf (to (q * 4 + d) / 4)))) (by rw [hcf _ hld]) ?_
        refine lv_iload_n hx hb dX5_many_40 rfl (lv_at hl 3 rfl) ?_
        refine n_icmp_ne (tgt := 47) hx hb (by omega) (by omega) dX5_many_41 (by decide) (fun hc_2 => ?_) (fun hc_2 => ?_)
        · skip
          refine lv_iinc (v := nI (d + 1)) (lv' := [(5, .int (nI (d + 1))), (0, .ref (ad 64)), (1, .int (nI n)), (2, .int (nI q)), (3, .int (nI c0)), (4, .int (nI (cnt (fun d => cf (led to q d)) c0 d)))]) hx hb dX5_many_47 hl (k := 5) rfl (nI_inc _) (by decide) rfl (fun ls hl => ?_)
          refine lv_goto (tgt := 6) hx hb dX5_many_50 (by decide) ?_
          have e4 : cnt (fun d => cf (led to q d)) c0 (d + 1) = cnt (fun d => cf (led to q d)) c0 d := by
            have hq : ¬ (fun d => cf (led to q d)) d = c0 := hc_2
            rw [cnt, if_neg hq, Nat.add_zero]
          have hl : lv_has ls 6 [(5, .int (nI (d + 1))), (0, .ref (ad 64)), (1, .int (nI n)), (2, .int (nI q)), (3, .int (nI c0)), (4, .int (nI (cnt (fun d => cf (led to q d)) c0 (d + 1))))] := by rw [e4]; exact hl
          exact ih6 (d + 1) (by omega) (by omega) _ _ hW ls (lv_sub hl [1, 2, 3, 4, 5, 0] rfl)
        · skip
          refine lv_iinc (v := nI ((cnt (fun d => cf (led to q d)) c0 d) + 1)) (lv' := [(4, .int (nI ((cnt (fun d => cf (led to q d)) c0 d) + 1))), (0, .ref (ad 64)), (1, .int (nI n)), (2, .int (nI q)), (3, .int (nI c0)), (5, .int (nI d))]) hx hb dX5_many_44 hl (k := 4) rfl (nI_inc _) (by decide) rfl (fun ls hl => ?_)
          refine lv_iinc (v := nI (d + 1)) (lv' := [(5, .int (nI (d + 1))), (4, .int (nI ((cnt (fun d => cf (led to q d)) c0 d) + 1))), (0, .ref (ad 64)), (1, .int (nI n)), (2, .int (nI q)), (3, .int (nI c0))]) hx hb dX5_many_47 hl (k := 5) rfl (nI_inc _) (by decide) rfl (fun ls hl => ?_)
          refine lv_goto (tgt := 6) hx hb dX5_many_50 (by decide) ?_
          have e4 : cnt (fun d => cf (led to q d)) c0 (d + 1) = (cnt (fun d => cf (led to q d)) c0 d) + 1 := by
            have hq : (fun d => cf (led to q d)) d = c0 := hc_2
            rw [cnt, if_pos hq]
          have hl : lv_has ls 6 [(5, .int (nI (d + 1))), (4, .int (nI (cnt (fun d => cf (led to q d)) c0 (d + 1)))), (0, .ref (ad 64)), (1, .int (nI n)), (2, .int (nI q)), (3, .int (nI c0))] := by rw [e4]; exact hl
          exact ih6 (d + 1) (by omega) (by omega) _ _ hW ls (lv_sub hl [2, 3, 4, 5, 1, 0] rfl)
  exact lp6 (dr + 1) 0 (by omega) (by omega) _ _ hW ls (lv_sub hl [2, 3, 4, 5, 1, 0] rfl)
abbrev rmX5_areAlike : Room := { frames := 1, cells := 0, slots := 0, locals := 25 }
set_option maxHeartbeats 4000000 in
set_option maxRecDepth 100000 in
theorem c_X5_areAlike (l : Launch) (D : va_G) (cy : Nat → ClassId) (L : List Nat) (ad : Nat → Nat) (G : mG) (I : mI) (J : mJ) (hS : rSh L G) (n pl dr : Nat) (hn6 : n < 6) (hpl : I 65 n = nI pl) (hp12 : pl ≤ 12) (hdr : I 66 n = nI dr) (hd4 : dr ≤ 4) (to : Nat → Nat) (hto : ∀ c, c < 48 → I 67 (48 * n + c) = nI (to c)) (ht48 : ∀ c, c < 48 → to c < 48) (hled : ∀ p d, p < pl → d < dr → led to p d < pl) (cf : Nat → Nat) (hcf : ∀ p, p < pl → I 74 p = nI (cf p)) (hc12 : ∀ p, p < pl → cf p < 12) (q q2 : Nat) (hq : q < pl) (hq2 : q2 < pl) : pMet l yX5_areAlike wsX5_areAlike rmX5_areAlike D cy L ad G I J [.ref (ad 64), .int (nI n), .int (nI q), .int (nI q2)] (qI (fun v I' J' => v = bI (alkB pl dr to cf q q2) ∧ I' = I ∧ J' = J) D cy L ad G) := by
  refine pMet.ofZ (cc := cX5_areAlike) (maxL := 5) (by decide +kernel) rfl (Nat.le_of_ble_eq_true rfl) ?_
  intro p e R s m args below meth c A Q C hml hR hg ret hW ls hl
  subst hR
  have C : Cx p s m args c cX5_areAlike RX5 wsX5_areAlike D cy A := C
  have hx := C.1
  have hb := C.2.1
  have lk7 := C.2.2.2.1 (.fieldLink RX5 7 "WaveWalkModel" "places" "[I") (by decide +kernel)
  have lk39 := C.2.2.2.1 (.fieldLink RX5 39 "WaveWalkModel" "classes" "[I") (by decide +kernel)
  have hinX5 : ∀ w ∈ wsX50, w ∈ wsX5_areAlike := by decide +kernel
  have hl : lv_has ls 5 [(0, .ref (ad 64)), (1, .int (nI n)), (2, .int (nI q)), (3, .int (nI q2))] := hl
  have hcq := hc12 q hq
  have hcq2 := hc12 q2 hq2
  refine lv_aload_n hx hb dX5_areAlike_0 rfl (lv_at hl 0 rfl) ?_
  refine g_X5_12 C hinX5 hW (hS.1 64 (by omega) (by omega)) (by decide) (hS.2 12 (by omega) (by omega)) lk39 dX5_areAlike_1 ?_
  refine lv_iload_n hx hb dX5_areAlike_4 rfl (lv_at hl 2 rfl) ?_
  refine p_iald C hW (hS.1 74 (by omega) (by omega)) (by decide) (k := q) rfl (by rw [show ln 74 = 12 by decide]; omega) dX5_areAlike_5 ?_
  refine w_top (y := .int (nI (cf q))) (by rw [hcf _ hq]) ?_
  refine lv_aload_n hx hb dX5_areAlike_6 rfl (lv_at hl 0 rfl) ?_
  refine g_X5_12 C hinX5 hW (hS.1 64 (by omega) (by omega)) (by decide) (hS.2 12 (by omega) (by omega)) lk39 dX5_areAlike_7 ?_
  refine lv_iload_n hx hb dX5_areAlike_10 rfl (lv_at hl 3 rfl) ?_
  refine p_iald C hW (hS.1 74 (by omega) (by omega)) (by decide) (k := q2) rfl (by rw [show ln 74 = 12 by decide]; omega) dX5_areAlike_11 ?_
  refine w_top (y := .int (nI (cf q2))) (by rw [hcf _ hq2]) ?_
  refine n_icmp_eq (tgt := 17) hx hb (by omega) (by omega) dX5_areAlike_12 (by decide) (fun hc_1 => ?_) (fun hc_1 => ?_)
  · skip
    refine lv_iconst (v := nI 0) hx hb dX5_areAlike_17 (by decide) ?_
    refine lv_istore (lv' := [(4, .int (nI 0)), (0, .ref (ad 64)), (1, .int (nI n)), (2, .int (nI q)), (3, .int (nI q2))]) hx hb dX5_areAlike_18 hl (by decide) rfl (fun ls hl => ?_)
    have lp20 : ∀ (nn : Nat) (d : Nat), (d ≤ pl) → (pl + 1 ≤ d + nn) → (∀ c, c < d → cnt (fun d => cf (led to q d)) c dr = cnt (fun d => cf (led to q2 d)) c dr) → ∀ (H : Heap) (locs : List Loc), Wd D cy A s.heap H locs L ad G I J → ∀ (ls : Array Slot), lv_has ls 5 [(0, .ref (ad 64)), (1, .int (nI n)), (2, .int (nI q)), (3, .int (nI q2)), (4, .int (nI d))] → W p l e rmX5_areAlike s m args below meth c H locs 0 0 Q (F0 m 20 ls []) := by
      intro nn
      induction nn with
      | zero => intros; exfalso; omega
      | succ nn ih20 =>
        intro d hd hfu hal H locs hW ls hl
        refine lv_iload hx hb dX5_areAlike_20 (lv_at hl 4 rfl) ?_
        refine lv_aload_n hx hb dX5_areAlike_22 rfl (lv_at hl 0 rfl) ?_
        refine g_X5_3 C hinX5 hW (hS.1 64 (by omega) (by omega)) (by decide) (hS.2 3 (by omega) (by omega)) lk7 dX5_areAlike_23 ?_
        refine lv_iload_n hx hb dX5_areAlike_26 rfl (lv_at hl 1 rfl) ?_
        refine p_iald C hW (hS.1 65 (by omega) (by omega)) (by decide) (k := n) rfl (by rw [show ln 65 = 6 by decide]; omega) dX5_areAlike_27 ?_
        refine w_top (y := .int (nI pl)) (by rw [hpl]) ?_
        refine n_icmp_ge (tgt := 58) hx hb (by omega) (by omega) dX5_areAlike_28 (by decide) (fun hc_2 => ?_) (fun hc_2 => ?_)
        · skip
          refine lv_iconst (v := nI 1) hx hb dX5_areAlike_58 (by decide) ?_
          exact ret _ _ _ _ _ _ _ _ _ (Nat.le_of_ble_eq_true rfl) (Nat.le_of_ble_eq_true rfl) hW ⟨by rw [show alkB pl dr to cf q q2 = true from decide_eq_true ⟨hc_1, fun c hc => hal c (by omega)⟩]; rfl, rfl, rfl⟩ (by decide) dX5_areAlike_59
        · skip
          refine lv_aload_n hx hb dX5_areAlike_31 rfl (lv_at hl 0 rfl) ?_
          refine lv_iload_n hx hb dX5_areAlike_32 rfl (lv_at hl 1 rfl) ?_
          refine lv_iload_n hx hb dX5_areAlike_33 rfl (lv_at hl 2 rfl) ?_
          refine lv_iload hx hb dX5_areAlike_34 (lv_at hl 4 rfl) ?_
          refine p_cVi C hml hg hW (c_X5_many l D cy L ad G I J hS n pl dr hn6 hpl hp12 hdr hd4 to hto ht48 hled cf hcf hc12 q d (by omega) (by omega)) (cwV 3 C.2.2.2.1 gX5_areAlike_X5_many rfl rfl rfl (by decide +kernel) ⟨Nat.le_of_ble_eq_true rfl, Nat.le_of_ble_eq_true rfl⟩) (p_recv C hW (hS.1 64 (by omega) (by omega)) (pF_5 (by decide)) rfl) rfl hl.1 rfl (Nat.le_of_ble_eq_true rfl) dX5_areAlike_36 (Nat.le_of_ble_eq_true rfl) (Nat.le_of_ble_eq_true rfl) (fun v3 I4 J5 H locs hp hW => ?_)
          obtain ⟨hv, hI, hJ⟩ := hp
          subst v3
          subst I4
          subst J5
          have hcl36 := cnt_le (fun d => cf (led to q d)) d dr
          refine lv_aload_n hx hb dX5_areAlike_39 rfl (lv_at hl 0 rfl) ?_
          refine lv_iload_n hx hb dX5_areAlike_40 rfl (lv_at hl 1 rfl) ?_
          refine lv_iload_n hx hb dX5_areAlike_41 rfl (lv_at hl 3 rfl) ?_
          refine lv_iload hx hb dX5_areAlike_42 (lv_at hl 4 rfl) ?_
          refine p_cVi C hml hg hW (c_X5_many l D cy L ad G I J hS n pl dr hn6 hpl hp12 hdr hd4 to hto ht48 hled cf hcf hc12 q2 d (by omega) (by omega)) (cwV 3 C.2.2.2.1 gX5_areAlike_X5_many rfl rfl rfl (by decide +kernel) ⟨Nat.le_of_ble_eq_true rfl, Nat.le_of_ble_eq_true rfl⟩) (p_recv C hW (hS.1 64 (by omega) (by omega)) (pF_5 (by decide)) rfl) rfl hl.1 rfl (Nat.le_of_ble_eq_true rfl) dX5_areAlike_44 (Nat.le_of_ble_eq_true rfl) (Nat.le_of_ble_eq_true rfl) (fun v6 I7 J8 H locs hp hW => ?_)
          obtain ⟨hv, hI, hJ⟩ := hp
          subst v6
          subst I7
          subst J8
          have hcl44 := cnt_le (fun d => cf (led to q2 d)) d dr
          refine n_icmp_eq (tgt := 52) hx hb (by omega) (by omega) dX5_areAlike_47 (by decide) (fun hc_9 => ?_) (fun hc_9 => ?_)
          · skip
            refine lv_iinc (v := nI (d + 1)) (lv' := [(4, .int (nI (d + 1))), (0, .ref (ad 64)), (1, .int (nI n)), (2, .int (nI q)), (3, .int (nI q2))]) hx hb dX5_areAlike_52 hl (k := 4) rfl (nI_inc _) (by decide) rfl (fun ls hl => ?_)
            refine lv_goto (tgt := 20) hx hb dX5_areAlike_55 (by decide) ?_
            exact ih20 (d + 1) (by omega) (by omega) (fun c hc => by rcases Nat.lt_or_ge c d with h | h; exact hal c h; rw [show c = d by omega]; exact hc_9) _ _ hW ls (lv_sub hl [1, 2, 3, 4, 0] rfl)
          · skip
            refine lv_iconst (v := nI 0) hx hb dX5_areAlike_50 (by decide) ?_
            exact ret _ _ _ _ _ _ _ _ _ (Nat.le_of_ble_eq_true rfl) (Nat.le_of_ble_eq_true rfl) hW ⟨by rw [show alkB pl dr to cf q q2 = false from decide_eq_false (fun z => hc_9 (z.2 d (by omega)))]; rfl, rfl, rfl⟩ (by decide) dX5_areAlike_51
    exact lp20 (pl + 1) 0 (by omega) (by omega) (fun c hc => absurd hc (Nat.not_lt_zero c)) _ _ hW ls (lv_sub hl [1, 2, 3, 4, 0] rfl)
  · skip
    refine lv_iconst (v := nI 0) hx hb dX5_areAlike_15 (by decide) ?_
    exact ret _ _ _ _ _ _ _ _ _ (Nat.le_of_ble_eq_true rfl) (Nat.le_of_ble_eq_true rfl) hW ⟨by rw [show alkB pl dr to cf q q2 = false from decide_eq_false (fun z => hc_1 z.1)]; rfl, rfl, rfl⟩ (by decide) dX5_areAlike_16
