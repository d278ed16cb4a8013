theorem tv_3 {dr a b : Nat} {f : Nat → Int64} (hb : b < dr) (h3 : dr = 3) : tv dr f (a * 4 + b) = 2 * sumN f (a * 4) dr - 3 * f (a * 4 + b) := by
  subst h3
  show 2 * sumN f ((a * 4 + b) / 4 * 4) 3 - 3 * f (a * 4 + b) = _
  rw [show (a * 4 + b) / 4 * 4 = a * 4 by omega]
theorem tv_4 {dr a b : Nat} {f : Nat → Int64} (hb : b < dr) (h4 : dr = 4) : tv dr f (a * 4 + b) = sumN f (a * 4) dr - 2 * f (a * 4 + b) := by
  subst h4
  show sumN f ((a * 4 + b) / 4 * 4) 4 - 2 * f (a * 4 + b) = _
  rw [show (a * 4 + b) / 4 * 4 = a * 4 by omega]
theorem turn1_two {dr a : Nat} (h2 : dr = 2) (ha : a < 12) (f : Nat → Int64) (k : Nat) : turn1 a dr f k = vp_updL (vp_updL f (a * 4) (f (a * 4) + f (a * 4 + 1))) (a * 4 + 1) (f (a * 4) - f (a * 4 + 1)) k := by
  subst h2
  dsimp only [vp_updL, turn1]
  by_cases h1 : k = a * 4 + 1
  · rw [if_pos (by omega), if_pos h1]
    show (if k % 4 = 0 then f k + f (k + 1) else f (k - 1) - f k) = _
    rw [if_neg (by omega), h1]
    rfl
  · rw [if_neg h1]
    by_cases h0 : k = a * 4
    · rw [if_pos (by omega), if_pos h0]
      show (if k % 4 = 0 then f k + f (k + 1) else f (k - 1) - f k) = _
      rw [if_pos (by omega), h0]
    · rw [if_neg h0, if_neg (by omega)]
theorem go_skip {pl dr c k : Nat} {to : Nat → Nat} {f : Nat → Int64} (hp : pairs pl dr to) (hc : c < 48) (h : to c ≤ c) (hk : k < 48) : (if k < c + 1 ∨ to k < c + 1 then f (to k) else f k) = (if k < c ∨ to k < c then f (to k) else f k) := by
  obtain ⟨p1, p2, -⟩ := hp c hc
  obtain ⟨q1, q2, -⟩ := hp k hk
  by_cases h1 : k < c ∨ to k < c
  · rw [if_pos h1, if_pos (by omega)]
  · rw [if_neg h1]
    by_cases h2 : k = c
    · rw [if_pos (by omega)]
      have : to k = k := by subst h2; omega
      rw [this]
    · by_cases h3 : to k = c
      · have : k = to c := by rw [← h3, q2]
        omega
      · rw [if_neg (by omega)]
theorem go_swap {pl dr c k : Nat} {to : Nat → Nat} {f : Nat → Int64} (hp : pairs pl dr to) (hc : c < 48) (h : c < to c) (hk : k < 48) : (if k < c + 1 ∨ to k < c + 1 then f (to k) else f k) = vp_updL (vp_updL (fun k => if k < c ∨ to k < c then f (to k) else f k) c ((fun k => if k < c ∨ to k < c then f (to k) else f k) (to c))) (to c) ((fun k => if k < c ∨ to k < c then f (to k) else f k) c) k := by
  obtain ⟨p1, p2, -⟩ := hp c hc
  obtain ⟨q1, q2, -⟩ := hp k hk
  dsimp only [vp_updL]
  by_cases h1 : k = to c
  · rw [if_pos h1, if_neg (show ¬ (c < c ∨ to c < c) by omega)]
    have e : to k = c := by rw [h1, p2]
    rw [if_pos (by omega), e]
  · rw [if_neg h1]
    by_cases h2 : k = c
    · subst h2
      rw [if_pos rfl, if_neg (show ¬ (to k < k ∨ to (to k) < k) by omega), if_pos (by omega)]
    · rw [if_neg h2]
      have h3 : to k ≠ c := fun z => h1 (by rw [← z, q2])
      by_cases h4 : k < c ∨ to k < c
      · rw [if_pos h4, if_pos (by omega)]
      · rw [if_neg h4, if_neg (by omega)]
theorem go_end {pl dr c k : Nat} {to : Nat → Nat} {f : Nat → Int64} (hp : pairs pl dr to) (h12 : pl ≤ 12) (h : pl * 4 ≤ c) (hk : k < 48) : goF to f k = (if k < c ∨ to k < c then f (to k) else f k) := by
  obtain ⟨q1, q2, -, q4⟩ := hp k hk
  unfold goF
  by_cases h1 : k < c ∨ to k < c
  · rw [if_pos h1]
  · rw [if_neg h1, q4 (by unfold dor; exact decide_eq_false (by omega))]
abbrev rmX3_turnAt : Room := { frames := 0, cells := 0, slots := 0, locals := 0 }
set_option maxHeartbeats 4000000 in
set_option maxRecDepth 100000 in
theorem c_X3_turnAt (l : Launch) (D : va_G) (cy : Nat → ClassId) (L : List Nat) (ad : Nat → Nat) (G : mG) (I : mI) (J : mJ) (w q : Nat) (hV : isV L G w q) (a dr : Nat) (ha : a < 12) (hd4 : dr = 2 ∨ dr = 3 ∨ dr = 4) : pMet l yX3_turnAt wsX3_turnAt rmX3_turnAt D cy L ad G I J [.ref (ad w), .int (nI a), .int (nI dr)] (qV (fun I' J' => I' = I ∧ J' = va_up J q (turn1 a dr (J q))) D cy L ad G) := by
  refine pMet.ofV (cc := cX3_turnAt) (maxL := 8) (by decide +kernel) rfl (Nat.le_of_ble_eq_true rfl) ?_
  intro p e R s m args below meth c A Q C hml hR hg ret hW ls hl
  subst hR
  have C : Cx p s m args c cX3_turnAt RX3 wsX3_turnAt D cy A := C
  have hx := C.1
  have hb := C.2.1
  have lk9 := C.2.2.2.1 (.fieldLink RX3 9 "WaveWalk$Wave" "numbers" "[J") (by decide +kernel)
  have hinX3 : ∀ w ∈ wsX30, w ∈ wsX3_turnAt := by decide +kernel
  have ck70 := C.2.2.2.1 (.constantLong RX3 70 (2)) (by decide +kernel)
  have ck72 := C.2.2.2.1 (.constantLong RX3 72 (3)) (by decide +kernel)
  have hl : lv_has ls 8 [(0, .ref (ad w)), (1, .int (nI a)), (2, .int (nI dr))] := hl
  obtain ⟨hw, kw, gq, hq, kq, lq⟩ := id hV
  have hW : Wd D cy A s.heap s.heap [] L ad G I (va_up J q (J q)) := by rw [up_same]; exact hW
  refine lv_iload_n hx hb dX3_turnAt_0 rfl (lv_at hl 1 rfl) ?_
  refine lv_iconst (v := nI 4) hx hb dX3_turnAt_1 (by decide) ?_
  refine n_imul hx hb dX3_turnAt_2 ?_
  refine lv_istore_n (lv' := [(3, .int (nI (a * 4))), (0, .ref (ad w)), (1, .int (nI a)), (2, .int (nI dr))]) hx hb dX3_turnAt_3 rfl hl (by decide) rfl (fun ls hl => ?_)
  refine lv_iload_n hx hb dX3_turnAt_4 rfl (lv_at hl 3 rfl) ?_
  refine lv_iconst (v := nI 2) hx hb dX3_turnAt_5 (by decide) ?_
  refine n_icmp_ne (tgt := 52) hx hb (by omega) (by omega) dX3_turnAt_6 (by decide) (fun h1 => ?_) (fun h1 => ?_)
  · skip
    refine lv_lconst (v := 0) hx hb dX3_turnAt_52 (by decide) ?_
    refine lv_lstore (lv' := [(4, .long 0), (3, .int (nI (a * 4))), (0, .ref (ad w)), (1, .int (nI a)), (2, .int (nI dr))]) hx hb dX3_turnAt_53 hl (by decide) rfl (fun ls hl => ?_)
    refine lv_iload_n hx hb dX3_turnAt_55 rfl (lv_at hl 1 rfl) ?_
    refine lv_istore (lv' := [(6, .int (nI (a * 4))), (4, .long 0), (3, .int (nI (a * 4))), (0, .ref (ad w)), (1, .int (nI a)), (2, .int (nI dr))]) hx hb dX3_turnAt_56 hl (by decide) rfl (fun ls hl => ?_)
    have lp58 : ∀ (nn : Nat) (d : Nat), (d ≤ dr) → (dr + 1 ≤ d + nn) → ∀ (H : Heap) (locs : List Loc), Wd D cy A s.heap H locs L ad G I (va_up J q (J q)) → ∀ (ls : Array Slot), lv_has ls 8 [(0, .ref (ad w)), (1, .int (nI a)), (2, .int (nI dr)), (3, .int (nI (a * 4))), (4, .long (sumN (J q) (a * 4) d)), (6, .int (nI (a * 4 + d)))] → W p l e rmX3_turnAt s m args below meth c H locs 0 0 Q (F0 m 58 ls []) := by
      intro nn
      induction nn with
      | zero => intros; exfalso; omega
      | succ nn ih58 =>
        intro d hd hf H locs hW ls hl
        refine lv_iload hx hb dX3_turnAt_58 (lv_at hl 5 rfl) ?_
        refine lv_iload_n hx hb dX3_turnAt_60 rfl (lv_at hl 3 rfl) ?_
        refine lv_iload_n hx hb dX3_turnAt_61 rfl (lv_at hl 2 rfl) ?_
        refine n_iadd hx hb dX3_turnAt_62 ?_
        refine n_icmp_ge (tgt := 84) hx hb (by omega) (by omega) dX3_turnAt_63 (by decide) (fun h2 => ?_) (fun h2 => ?_)
        · skip
          have hdd : d = dr := by omega
          rw [hdd] at hl
          refine lv_iload_n hx hb dX3_turnAt_84 rfl (lv_at hl 3 rfl) ?_
          refine lv_istore (lv' := [(6, .int (nI (a * 4))), (0, .ref (ad w)), (1, .int (nI a)), (2, .int (nI dr)), (3, .int (nI (a * 4))), (4, .long (sumN (J q) (a * 4) dr))]) hx hb dX3_turnAt_85 hl (by decide) rfl (fun ls hl => ?_)
          have lp87 : ∀ (nn : Nat) (b : Nat), (b ≤ dr) → (dr + 1 ≤ b + nn) → ∀ (H : Heap) (locs : List Loc), Wd D cy A s.heap H locs L ad G I (va_up J q (fun k => if k / 4 = a ∧ k % 4 < b then tv dr (J q) k else J q k)) → ∀ (ls : Array Slot), lv_has ls 8 [(0, .ref (ad w)), (1, .int (nI a)), (2, .int (nI dr)), (3, .int (nI (a * 4))), (4, .long (sumN (J q) (a * 4) dr)), (6, .int (nI (a * 4 + b)))] → W p l e rmX3_turnAt s m args below meth c H locs 0 0 Q (F0 m 87 ls []) := by
            intro nn
            induction nn with
            | zero => intros; exfalso; omega
            | succ nn ih87 =>
              intro b hb4 hf2 H locs hW ls hl
              refine lv_iload hx hb dX3_turnAt_87 (lv_at hl 5 rfl) ?_
              refine lv_iload_n hx hb dX3_turnAt_89 rfl (lv_at hl 3 rfl) ?_
              refine lv_iload_n hx hb dX3_turnAt_90 rfl (lv_at hl 2 rfl) ?_
              refine n_iadd hx hb dX3_turnAt_91 ?_
              refine n_icmp_ge (tgt := 148) hx hb (by omega) (by omega) dX3_turnAt_92 (by decide) (fun h3 => ?_) (fun h3 => ?_)
              · skip
                have hW := Wd_setJ (g := (turn1 a dr (J q))) hW kq (by rw [lq]; exact (fun k hk => by unfold turn1; rw [show b = dr by omega]))
                exact ret _ _ _ _ _ _ _ _ (Nat.le_of_ble_eq_true rfl) (Nat.le_of_ble_eq_true rfl) hW ⟨rfl, rfl⟩ dX3_turnAt_148
              · skip
                refine lv_aload_n hx hb dX3_turnAt_95 rfl (lv_at hl 0 rfl) ?_
                refine g_X3_0 C hinX3 hW hw kw gq lk9 dX3_turnAt_96 ?_
                refine lv_iload hx hb dX3_turnAt_99 (lv_at hl 5 rfl) ?_
                refine lv_iload_n hx hb dX3_turnAt_101 rfl (lv_at hl 2 rfl) ?_
                refine lv_iconst (v := nI 3) hx hb dX3_turnAt_102 (by decide) ?_
                refine n_icmp_ne (tgt := 127) hx hb (by omega) (by omega) dX3_turnAt_103 (by decide) (fun h4 => ?_) (fun h4 => ?_)
                · skip
                  refine lv_lload hx hb dX3_turnAt_127 (lv_at hl 4 rfl) ?_
                  refine lv_ldc2 hx hb C.2.2.1 ck70 dX3_turnAt_129 ?_
                  refine lv_aload_n hx hb dX3_turnAt_132 rfl (lv_at hl 0 rfl) ?_
                  refine g_X3_0 C hinX3 hW hw kw gq lk9 dX3_turnAt_133 ?_
                  refine lv_iload hx hb dX3_turnAt_136 (lv_at hl 5 rfl) ?_
                  refine p_lald C hW hq kq (k := a * 4 + b) rfl (by rw [lq]; omega) dX3_turnAt_138 ?_
                  refine w_top (y := .long ((fun k => if k / 4 = a ∧ k % 4 < b then tv dr (J q) k else J q k) (a * 4 + b))) (by rw [va_up_self]) ?_
                  refine lv_lmul hx hb dX3_turnAt_139 ?_
                  refine lv_lsub hx hb dX3_turnAt_140 ?_
                  refine p_last C hW hq kq (k := a * 4 + b) rfl (by rw [lq]; omega) dX3_turnAt_141 (fun H locs hW => ?_)
                  rw [va_up_self, up_up] at hW
                  refine lv_iinc (v := nI ((a * 4 + b) + 1)) (lv' := [(6, .int (nI ((a * 4 + b) + 1))), (0, .ref (ad w)), (1, .int (nI a)), (2, .int (nI dr)), (3, .int (nI (a * 4))), (4, .long (sumN (J q) (a * 4) dr))]) hx hb dX3_turnAt_142 hl (k := 5) rfl (nI_inc _) (by decide) rfl (fun ls hl => ?_)
                  refine lv_goto (tgt := 87) hx hb dX3_turnAt_145 (by decide) ?_
                  have hW := Wd_setJ (g := (fun k => if k / 4 = a ∧ k % 4 < b + 1 then tv dr (J q) k else J q k)) hW kq (by rw [lq]; exact (fun k hk => by dsimp only [vp_updL]; by_cases hc : k = a * 4 + b; (rw [if_pos (by omega), if_pos hc, if_neg (by omega), hc, tv_4 (by omega) (by omega)]); rw [if_neg hc]; by_cases hc2 : k / 4 = a ∧ k % 4 < b; rw [if_pos (by omega), if_pos hc2]; rw [if_neg (by omega), if_neg hc2]))
                  exact ih87 (b + 1) (by omega) (by omega) _ _ hW ls (lv_sub hl [1, 2, 3, 4, 5, 0] rfl)
                · skip
                  refine lv_ldc2 hx hb C.2.2.1 ck70 dX3_turnAt_106 ?_
                  refine lv_lload hx hb dX3_turnAt_109 (lv_at hl 4 rfl) ?_
                  refine lv_lmul hx hb dX3_turnAt_111 ?_
                  refine lv_ldc2 hx hb C.2.2.1 ck72 dX3_turnAt_112 ?_
                  refine lv_aload_n hx hb dX3_turnAt_115 rfl (lv_at hl 0 rfl) ?_
                  refine g_X3_0 C hinX3 hW hw kw gq lk9 dX3_turnAt_116 ?_
                  refine lv_iload hx hb dX3_turnAt_119 (lv_at hl 5 rfl) ?_
                  refine p_lald C hW hq kq (k := a * 4 + b) rfl (by rw [lq]; omega) dX3_turnAt_121 ?_
                  refine w_top (y := .long ((fun k => if k / 4 = a ∧ k % 4 < b then tv dr (J q) k else J q k) (a * 4 + b))) (by rw [va_up_self]) ?_
                  refine lv_lmul hx hb dX3_turnAt_122 ?_
                  refine lv_lsub hx hb dX3_turnAt_123 ?_
                  refine lv_goto (tgt := 141) hx hb dX3_turnAt_124 (by decide) ?_
                  refine p_last C hW hq kq (k := a * 4 + b) rfl (by rw [lq]; omega) dX3_turnAt_141 (fun H locs hW => ?_)
                  rw [va_up_self, up_up] at hW
                  refine lv_iinc (v := nI ((a * 4 + b) + 1)) (lv' := [(6, .int (nI ((a * 4 + b) + 1))), (0, .ref (ad w)), (1, .int (nI a)), (2, .int (nI dr)), (3, .int (nI (a * 4))), (4, .long (sumN (J q) (a * 4) dr))]) hx hb dX3_turnAt_142 hl (k := 5) rfl (nI_inc _) (by decide) rfl (fun ls hl => ?_)
                  refine lv_goto (tgt := 87) hx hb dX3_turnAt_145 (by decide) ?_
                  have hW := Wd_setJ (g := (fun k => if k / 4 = a ∧ k % 4 < b + 1 then tv dr (J q) k else J q k)) hW kq (by rw [lq]; exact (fun k hk => by dsimp only [vp_updL]; by_cases hc : k = a * 4 + b; (rw [if_pos (by omega), if_pos hc, if_neg (by omega), hc, tv_3 (by omega) (by omega)]); rw [if_neg hc]; by_cases hc2 : k / 4 = a ∧ k % 4 < b; rw [if_pos (by omega), if_pos hc2]; rw [if_neg (by omega), if_neg hc2]))
                  exact ih87 (b + 1) (by omega) (by omega) _ _ hW ls (lv_sub hl [1, 2, 3, 4, 5, 0] rfl)
          have hW := Wd_setJ (g := (fun k => if k / 4 = a ∧ k % 4 < 0 then tv dr (J q) k else J q k)) hW kq (by rw [lq]; exact (fun k hk => by rw [if_neg (by omega)]))
          exact lp87 (dr + 1) 0 (by omega) (by omega) _ _ hW ls (lv_sub hl [1, 2, 3, 4, 5, 0] rfl)
        · skip
          refine lv_lload hx hb dX3_turnAt_66 (lv_at hl 4 rfl) ?_
          refine lv_aload_n hx hb dX3_turnAt_68 rfl (lv_at hl 0 rfl) ?_
          refine g_X3_0 C hinX3 hW hw kw gq lk9 dX3_turnAt_69 ?_
          refine lv_iload hx hb dX3_turnAt_72 (lv_at hl 5 rfl) ?_
          refine p_lald C hW hq kq (k := a * 4 + d) rfl (by rw [lq]; omega) dX3_turnAt_74 ?_
          refine w_top (y := .long ((J q) (a * 4 + d))) (by rw [va_up_self]) ?_
          refine lv_ladd hx hb dX3_turnAt_75 ?_
          refine lv_lstore (lv' := [(4, .long ((sumN (J q) (a * 4) d) + ((J q) (a * 4 + d)))), (0, .ref (ad w)), (1, .int (nI a)), (2, .int (nI dr)), (3, .int (nI (a * 4))), (6, .int (nI (a * 4 + d)))]) hx hb dX3_turnAt_76 hl (by decide) rfl (fun ls hl => ?_)
          refine lv_iinc (v := nI ((a * 4 + d) + 1)) (lv' := [(6, .int (nI ((a * 4 + d) + 1))), (4, .long ((sumN (J q) (a * 4) d) + ((J q) (a * 4 + d)))), (0, .ref (ad w)), (1, .int (nI a)), (2, .int (nI dr)), (3, .int (nI (a * 4)))]) hx hb dX3_turnAt_78 hl (k := 5) rfl (nI_inc _) (by decide) rfl (fun ls hl => ?_)
          refine lv_goto (tgt := 58) hx hb dX3_turnAt_81 (by decide) ?_
          exact ih58 (d + 1) (by omega) (by omega) _ _ hW ls (lv_sub hl [2, 3, 4, 5, 1, 0] rfl)
    exact lp58 (dr + 1) 0 (by omega) (by omega) _ _ hW ls (lv_sub hl [3, 4, 5, 2, 1, 0] rfl)
  · skip
    refine lv_aload_n hx hb dX3_turnAt_9 rfl (lv_at hl 1 rfl) ?_
    refine g_X3_0 C hinX3 hW hw kw gq lk9 dX3_turnAt_10 ?_
    refine lv_iload_n hx hb dX3_turnAt_13 rfl (lv_at hl 0 rfl) ?_
    refine p_lald C hW hq kq (k := a * 4) rfl (by rw [lq]; omega) dX3_turnAt_14 ?_
    refine w_top (y := .long ((J q) (a * 4))) (by rw [va_up_self]) ?_
    refine lv_lstore (lv' := [(4, .long ((J q) (a * 4))), (3, .int (nI (a * 4))), (0, .ref (ad w)), (1, .int (nI a)), (2, .int (nI dr))]) hx hb dX3_turnAt_15 hl (by decide) rfl (fun ls hl => ?_)
    refine lv_aload_n hx hb dX3_turnAt_17 rfl (lv_at hl 2 rfl) ?_
    refine g_X3_0 C hinX3 hW hw kw gq lk9 dX3_turnAt_18 ?_
    refine lv_iload_n hx hb dX3_turnAt_21 rfl (lv_at hl 1 rfl) ?_
    refine lv_iconst (v := nI 1) hx hb dX3_turnAt_22 (by decide) ?_
    refine n_iadd hx hb dX3_turnAt_23 ?_
    refine p_lald C hW hq kq (k := (a * 4) + 1) rfl (by rw [lq]; omega) dX3_turnAt_24 ?_
    refine w_top (y := .long ((J q) ((a * 4) + 1))) (by rw [va_up_self]) ?_
    refine lv_lstore (lv' := [(6, .long ((J q) ((a * 4) + 1))), (4, .long ((J q) (a * 4))), (3, .int (nI (a * 4))), (0, .ref (ad w)), (1, .int (nI a)), (2, .int (nI dr))]) hx hb dX3_turnAt_25 hl (by decide) rfl (fun ls hl => ?_)
    refine lv_aload_n hx hb dX3_turnAt_27 rfl (lv_at hl 3 rfl) ?_
    refine g_X3_0 C hinX3 hW hw kw gq lk9 dX3_turnAt_28 ?_
    refine lv_iload_n hx hb dX3_turnAt_31 rfl (lv_at hl 2 rfl) ?_
    refine lv_lload hx hb dX3_turnAt_32 (lv_at hl 1 rfl) ?_
    refine lv_lload hx hb dX3_turnAt_34 (lv_at hl 0 rfl) ?_
    refine lv_ladd hx hb dX3_turnAt_36 ?_
    refine p_last C hW hq kq (k := a * 4) rfl (by rw [lq]; omega) dX3_turnAt_37 (fun H locs hW => ?_)
    rw [va_up_self, up_up] at hW
    refine lv_aload_n hx hb dX3_turnAt_38 rfl (lv_at hl 3 rfl) ?_
    refine g_X3_0 C hinX3 hW hw kw gq lk9 dX3_turnAt_39 ?_
    refine lv_iload_n hx hb dX3_turnAt_42 rfl (lv_at hl 2 rfl) ?_
    refine lv_iconst (v := nI 1) hx hb dX3_turnAt_43 (by decide) ?_
    refine n_iadd hx hb dX3_turnAt_44 ?_
    refine lv_lload hx hb dX3_turnAt_45 (lv_at hl 1 rfl) ?_
    refine lv_lload hx hb dX3_turnAt_47 (lv_at hl 0 rfl) ?_
    refine lv_lsub hx hb dX3_turnAt_49 ?_
    refine p_last C hW hq kq (k := (a * 4) + 1) rfl (by rw [lq]; omega) dX3_turnAt_50 (fun H locs hW => ?_)
    rw [va_up_self, up_up] at hW
    have hW := Wd_setJ (g := (turn1 a dr (J q))) hW kq (by rw [lq]; exact (fun k hk => turn1_two (by omega) ha (J q) k))
    exact ret _ _ _ _ _ _ _ _ (Nat.le_of_ble_eq_true rfl) (Nat.le_of_ble_eq_true rfl) hW ⟨rfl, rfl⟩ dX3_turnAt_51
abbrev rmX3_lessenAt : Room := { frames := 0, cells := 0, slots := 0, locals := 0 }
set_option maxHeartbeats 4000000 in
set_option maxRecDepth 100000 in
theorem c_X3_lessenAt (l : Launch) (D : va_G) (cy : Nat → ClassId) (L : List Nat) (ad : Nat → Nat) (G : mG) (I : mI) (J : mJ) (w q : Nat) (hV : isV L G w q) (a dr : Nat) (ha : a < 12) (hd4 : dr = 2 ∨ dr = 3 ∨ dr = 4) : pMet l yX3_lessenAt wsX3_lessenAt rmX3_lessenAt D cy L ad G I J [.ref (ad w), .int (nI a), .int (nI dr)] (qV (fun I' J' => I' = I ∧ J' = va_up J q (less1 a dr (J q))) D cy L ad G) := by
  refine pMet.ofV (cc := cX3_lessenAt) (maxL := 5) (by decide +kernel) rfl (Nat.le_of_ble_eq_true rfl) ?_
  intro p e R s m args below meth c A Q C hml hR hg ret hW ls hl
  subst hR
  have C : Cx p s m args c cX3_lessenAt RX3 wsX3_lessenAt D cy A := C
  have hx := C.1
  have hb := C.2.1
  have lk9 := C.2.2.2.1 (.fieldLink RX3 9 "WaveWalk$Wave" "numbers" "[J") (by decide +kernel)
  have hinX3 : ∀ w ∈ wsX30, w ∈ wsX3_lessenAt := by decide +kernel
  have ck70 := C.2.2.2.1 (.constantLong RX3 70 (2)) (by decide +kernel)
  have ck74 := C.2.2.2.1 (.constantLong RX3 74 (9)) (by decide +kernel)
  have ck76 := C.2.2.2.1 (.constantLong RX3 76 (4)) (by decide +kernel)
  have hl : lv_has ls 5 [(0, .ref (ad w)), (1, .int (nI a)), (2, .int (nI dr))] := hl
  obtain ⟨hw, kw, gq, hq, kq, lq⟩ := id hV
  have hW : Wd D cy A s.heap s.heap [] L ad G I (va_up J q (J q)) := by rw [up_same]; exact hW
  refine lv_iload_n hx hb dX3_lessenAt_0 rfl (lv_at hl 1 rfl) ?_
  refine lv_iconst (v := nI 4) hx hb dX3_lessenAt_1 (by decide) ?_
  refine n_imul hx hb dX3_lessenAt_2 ?_
  refine lv_istore_n (lv' := [(3, .int (nI (a * 4))), (0, .ref (ad w)), (1, .int (nI a)), (2, .int (nI dr))]) hx hb dX3_lessenAt_3 rfl hl (by decide) rfl (fun ls hl => ?_)
  refine lv_iload_n hx hb dX3_lessenAt_4 rfl (lv_at hl 0 rfl) ?_
  refine lv_istore (lv' := [(4, .int (nI (a * 4))), (3, .int (nI (a * 4))), (0, .ref (ad w)), (1, .int (nI a)), (2, .int (nI dr))]) hx hb dX3_lessenAt_5 hl (by decide) rfl (fun ls hl => ?_)
  have lp7 : ∀ (nn : Nat) (b : Nat), (b ≤ dr) → (dr + 1 ≤ b + nn) → ∀ (H : Heap) (locs : List Loc), Wd D cy A s.heap H locs L ad G I (va_up J q (fun k => if k / 4 = a ∧ k % 4 < b then J q k / scOf dr else J q k)) → ∀ (ls : Array Slot), lv_has ls 5 [(0, .ref (ad w)), (1, .int (nI a)), (2, .int (nI dr)), (3, .int (nI (a * 4))), (4, .int (nI (a * 4 + b)))] → W p l e rmX3_lessenAt s m args below meth c H locs 0 0 Q (F0 m 7 ls []) := by
    intro nn
    induction nn with
    | zero => intros; exfalso; omega
    | succ nn ih7 =>
      intro b hb4 hf2 H locs hW ls hl
      refine lv_iload hx hb dX3_lessenAt_7 (lv_at hl 4 rfl) ?_
      refine lv_iload_n hx hb dX3_lessenAt_9 rfl (lv_at hl 3 rfl) ?_
      refine lv_iload_n hx hb dX3_lessenAt_10 rfl (lv_at hl 2 rfl) ?_
      refine n_iadd hx hb dX3_lessenAt_11 ?_
      refine n_icmp_ge (tgt := 77) hx hb (by omega) (by omega) dX3_lessenAt_12 (by decide) (fun h1 => ?_) (fun h1 => ?_)
      · skip
        have hW := Wd_setJ (g := (less1 a dr (J q))) hW kq (by rw [lq]; exact (fun k hk => by unfold less1; rw [show b = dr by omega]))
        exact ret _ _ _ _ _ _ _ _ (Nat.le_of_ble_eq_true rfl) (Nat.le_of_ble_eq_true rfl) hW ⟨rfl, rfl⟩ dX3_lessenAt_77
      · skip
        refine lv_aload_n hx hb dX3_lessenAt_15 rfl (lv_at hl 0 rfl) ?_
        refine g_X3_0 C hinX3 hW hw kw gq lk9 dX3_lessenAt_16 ?_
        refine lv_iload hx hb dX3_lessenAt_19 (lv_at hl 4 rfl) ?_
        refine lv_iload_n hx hb dX3_lessenAt_21 rfl (lv_at hl 2 rfl) ?_
        refine lv_iconst (v := nI 2) hx hb dX3_lessenAt_22 (by decide) ?_
        refine n_icmp_ne (tgt := 40) hx hb (by omega) (by omega) dX3_lessenAt_23 (by decide) (fun h2 => ?_) (fun h2 => ?_)
        · skip
          refine lv_iload_n hx hb dX3_lessenAt_40 rfl (lv_at hl 2 rfl) ?_
          refine lv_iconst (v := nI 3) hx hb dX3_lessenAt_41 (by decide) ?_
          refine n_icmp_ne (tgt := 59) hx hb (by omega) (by omega) dX3_lessenAt_42 (by decide) (fun h3 => ?_) (fun h3 => ?_)
          · skip
            refine lv_aload_n hx hb dX3_lessenAt_59 rfl (lv_at hl 0 rfl) ?_
            refine g_X3_0 C hinX3 hW hw kw gq lk9 dX3_lessenAt_60 ?_
            refine lv_iload hx hb dX3_lessenAt_63 (lv_at hl 4 rfl) ?_
            refine p_lald C hW hq kq (k := a * 4 + b) rfl (by rw [lq]; omega) dX3_lessenAt_65 ?_
            refine w_top (y := .long ((fun k => if k / 4 = a ∧ k % 4 < b then J q k / scOf dr else J q k) (a * 4 + b))) (by rw [va_up_self]) ?_
            refine lv_ldc2 hx hb C.2.2.1 ck76 dX3_lessenAt_66 ?_
            refine lv_ldiv hx hb dX3_lessenAt_69 (by decide) ?_
            refine p_last C hW hq kq (k := a * 4 + b) rfl (by rw [lq]; omega) dX3_lessenAt_70 (fun H locs hW => ?_)
            rw [va_up_self, up_up] at hW
            refine lv_iinc (v := nI ((a * 4 + b) + 1)) (lv' := [(4, .int (nI ((a * 4 + b) + 1))), (0, .ref (ad w)), (1, .int (nI a)), (2, .int (nI dr)), (3, .int (nI (a * 4)))]) hx hb dX3_lessenAt_71 hl (k := 4) rfl (nI_inc _) (by decide) rfl (fun ls hl => ?_)
            refine lv_goto (tgt := 7) hx hb dX3_lessenAt_74 (by decide) ?_
            have hW := Wd_setJ (g := (fun k => if k / 4 = a ∧ k % 4 < b + 1 then J q k / scOf dr else J q k)) hW kq (by rw [lq]; exact (fun k hk => by dsimp only [vp_updL]; by_cases hc : k = a * 4 + b; (rw [if_pos (by omega), if_pos hc, if_neg (by omega), hc, show dr = 4 from (by omega : dr = 4)]; rfl); rw [if_neg hc]; by_cases hc2 : k / 4 = a ∧ k % 4 < b; rw [if_pos (by omega), if_pos hc2]; rw [if_neg (by omega), if_neg hc2]))
            exact ih7 (b + 1) (by omega) (by omega) _ _ hW ls (lv_sub hl [1, 2, 3, 4, 0] rfl)
          · skip
            refine lv_aload_n hx hb dX3_lessenAt_45 rfl (lv_at hl 0 rfl) ?_
            refine g_X3_0 C hinX3 hW hw kw gq lk9 dX3_lessenAt_46 ?_
            refine lv_iload hx hb dX3_lessenAt_49 (lv_at hl 4 rfl) ?_
            refine p_lald C hW hq kq (k := a * 4 + b) rfl (by rw [lq]; omega) dX3_lessenAt_51 ?_
            refine w_top (y := .long ((fun k => if k / 4 = a ∧ k % 4 < b then J q k / scOf dr else J q k) (a * 4 + b))) (by rw [va_up_self]) ?_
            refine lv_ldc2 hx hb C.2.2.1 ck74 dX3_lessenAt_52 ?_
            refine lv_ldiv hx hb dX3_lessenAt_55 (by decide) ?_
            refine lv_goto (tgt := 70) hx hb dX3_lessenAt_56 (by decide) ?_
            refine p_last C hW hq kq (k := a * 4 + b) rfl (by rw [lq]; omega) dX3_lessenAt_70 (fun H locs hW => ?_)
            rw [va_up_self, up_up] at hW
            refine lv_iinc (v := nI ((a * 4 + b) + 1)) (lv' := [(4, .int (nI ((a * 4 + b) + 1))), (0, .ref (ad w)), (1, .int (nI a)), (2, .int (nI dr)), (3, .int (nI (a * 4)))]) hx hb dX3_lessenAt_71 hl (k := 4) rfl (nI_inc _) (by decide) rfl (fun ls hl => ?_)
            refine lv_goto (tgt := 7) hx hb dX3_lessenAt_74 (by decide) ?_
            have hW := Wd_setJ (g := (fun k => if k / 4 = a ∧ k % 4 < b + 1 then J q k / scOf dr else J q k)) hW kq (by rw [lq]; exact (fun k hk => by dsimp only [vp_updL]; by_cases hc : k = a * 4 + b; (rw [if_pos (by omega), if_pos hc, if_neg (by omega), hc, show dr = 3 from (by omega : dr = 3)]; rfl); rw [if_neg hc]; by_cases hc2 : k / 4 = a ∧ k % 4 < b; rw [if_pos (by omega), if_pos hc2]; rw [if_neg (by omega), if_neg hc2]))
            exact ih7 (b + 1) (by omega) (by omega) _ _ hW ls (lv_sub hl [1, 2, 3, 4, 0] rfl)
        · skip
          refine lv_aload_n hx hb dX3_lessenAt_26 rfl (lv_at hl 0 rfl) ?_
          refine g_X3_0 C hinX3 hW hw kw gq lk9 dX3_lessenAt_27 ?_
          refine lv_iload hx hb dX3_lessenAt_30 (lv_at hl 4 rfl) ?_
          refine p_lald C hW hq kq (k := a * 4 + b) rfl (by rw [lq]; omega) dX3_lessenAt_32 ?_
          refine w_top (y := .long ((fun k => if k / 4 = a ∧ k % 4 < b then J q k / scOf dr else J q k) (a * 4 + b))) (by rw [va_up_self]) ?_
          refine lv_ldc2 hx hb C.2.2.1 ck70 dX3_lessenAt_33 ?_
          refine lv_ldiv hx hb dX3_lessenAt_36 (by decide) ?_
          refine lv_goto (tgt := 70) hx hb dX3_lessenAt_37 (by decide) ?_
          refine p_last C hW hq kq (k := a * 4 + b) rfl (by rw [lq]; omega) dX3_lessenAt_70 (fun H locs hW => ?_)
          rw [va_up_self, up_up] at hW
          refine lv_iinc (v := nI ((a * 4 + b) + 1)) (lv' := [(4, .int (nI ((a * 4 + b) + 1))), (0, .ref (ad w)), (1, .int (nI a)), (2, .int (nI dr)), (3, .int (nI (a * 4)))]) hx hb dX3_lessenAt_71 hl (k := 4) rfl (nI_inc _) (by decide) rfl (fun ls hl => ?_)
          refine lv_goto (tgt := 7) hx hb dX3_lessenAt_74 (by decide) ?_
          have hW := Wd_setJ (g := (fun k => if k / 4 = a ∧ k % 4 < b + 1 then J q k / scOf dr else J q k)) hW kq (by rw [lq]; exact (fun k hk => by dsimp only [vp_updL]; by_cases hc : k = a * 4 + b; (rw [if_pos (by omega), if_pos hc, if_neg (by omega), hc, show dr = 2 from (by omega : dr = 2)]; rfl); rw [if_neg hc]; by_cases hc2 : k / 4 = a ∧ k % 4 < b; rw [if_pos (by omega), if_pos hc2]; rw [if_neg (by omega), if_neg hc2]))
          exact ih7 (b + 1) (by omega) (by omega) _ _ hW ls (lv_sub hl [1, 2, 3, 4, 0] rfl)
  have hW := Wd_setJ (g := (fun k => if k / 4 = a ∧ k % 4 < 0 then J q k / scOf dr else J q k)) hW kq (by rw [lq]; exact (fun k hk => by rw [if_neg (by omega)]))
  exact lp7 (dr + 1) 0 (by omega) (by omega) _ _ hW ls (lv_sub hl [2, 3, 4, 1, 0] rfl)
abbrev rmX3_goThroughDoors : Room := { frames := 0, cells := 0, slots := 0, locals := 0 }
set_option maxHeartbeats 4000000 in
set_option maxRecDepth 100000 in
theorem c_X3_goThroughDoors (l : Launch) (D : va_G) (cy : Nat → ClassId) (L : List Nat) (ad : Nat → Nat) (G : mG) (I : mI) (J : mJ) (w q : Nat) (hV : isV L G w q) (n t k : Nat) (hN : isN L G n t k) (pl dr : Nat) (hpl : I n 0 = nI pl) (hdr : I n 1 = nI dr) (hp12 : pl ≤ 12) (hd4 : dr = 2 ∨ dr = 3 ∨ dr = 4) (to : Nat → Nat) (hto : ∀ c, c < 48 → I t c = nI (to c)) (hpr : pairs pl dr to) : pMet l yX3_goThroughDoors wsX3_goThroughDoors rmX3_goThroughDoors D cy L ad G I J [.ref (ad w), .ref (ad n)] (qV (fun I' J' => I' = I ∧ J' = va_up J q (goF to (J q))) D cy L ad G) := by
  refine pMet.ofV (cc := cX3_goThroughDoors) (maxL := 6) (by decide +kernel) rfl (Nat.le_of_ble_eq_true rfl) ?_
  intro p e R s m args below meth c A Q C hml hR hg ret hW ls hl
  subst hR
  have C : Cx p s m args c cX3_goThroughDoors RX3 wsX3_goThroughDoors D cy A := C
  have hx := C.1
  have hb := C.2.1
  have lk9 := C.2.2.2.1 (.fieldLink RX3 9 "WaveWalk$Wave" "numbers" "[J") (by decide +kernel)
  have lk25 := C.2.2.2.1 (.fieldLink RX3 25 "WaveWalk$Net" "places" "I") (by decide +kernel)
  have lk78 := C.2.2.2.1 (.fieldLink RX3 78 "WaveWalk$Net" "ledTo" "[I") (by decide +kernel)
  have hinX1 : ∀ w ∈ wsX10, w ∈ wsX3_goThroughDoors := by decide +kernel
  have hinX3 : ∀ w ∈ wsX30, w ∈ wsX3_goThroughDoors := by decide +kernel
  have hl : lv_has ls 6 [(0, .ref (ad w)), (1, .ref (ad n))] := hl
  obtain ⟨hw, kw, gq, hq, kq, lq⟩ := id hV
  obtain ⟨hn, kn, gt, ht, kt, lt, gk, hk, kk, lk⟩ := id hN
  have hW : Wd D cy A s.heap s.heap [] L ad G I (va_up J q (J q)) := by rw [up_same]; exact hW
  refine lv_iconst (v := nI 0) hx hb dX3_goThroughDoors_0 (by decide) ?_
  refine lv_istore_n (lv' := [(2, .int (nI 0)), (0, .ref (ad w)), (1, .ref (ad n))]) hx hb dX3_goThroughDoors_1 rfl hl (by decide) rfl (fun ls hl => ?_)
  have lp2 : ∀ (nn : Nat) (c0 : Nat), (c0 ≤ pl * 4) → (pl * 4 + 1 ≤ c0 + nn) → ∀ (H : Heap) (locs : List Loc), Wd D cy A s.heap H locs L ad G I (va_up J q (fun k => if k < c0 ∨ to k < c0 then J q (to k) else J q k)) → ∀ (ls : Array Slot), lv_has ls 6 [(0, .ref (ad w)), (1, .ref (ad n)), (2, .int (nI c0))] → W p l e rmX3_goThroughDoors s m args below meth c H locs 0 0 Q (F0 m 2 ls []) := by
    intro nn
    induction nn with
    | zero => intros; exfalso; omega
    | succ nn ih2 =>
      intro c0 hc0 hf H locs hW ls hl
      have hlt48 : c0 < pl * 4 → c0 < 48 ∧ to c0 < 48 := fun h => ⟨by omega, (hpr c0 (by omega)).1⟩
      refine lv_iload_n hx hb dX3_goThroughDoors_2 rfl (lv_at hl 2 rfl) ?_
      refine lv_aload_n hx hb dX3_goThroughDoors_3 rfl (lv_at hl 1 rfl) ?_
      refine g_X1_0 C hinX1 hW hn kn lk25 dX3_goThroughDoors_4 ?_
      refine w_top (y := .int (nI pl)) (by rw [hpl]) ?_
      refine lv_iconst (v := nI 4) hx hb dX3_goThroughDoors_7 (by decide) ?_
      refine n_imul hx hb dX3_goThroughDoors_8 ?_
      refine n_icmp_ge (tgt := 58) hx hb (by omega) (by omega) dX3_goThroughDoors_9 (by decide) (fun h1 => ?_) (fun h1 => ?_)
      · skip
        have hW := Wd_setJ (g := (goF to (J q))) hW kq (by rw [lq]; exact (fun k hk => go_end hpr hp12 (by omega) hk))
        exact ret _ _ _ _ _ _ _ _ (Nat.le_of_ble_eq_true rfl) (Nat.le_of_ble_eq_true rfl) hW ⟨rfl, rfl⟩ dX3_goThroughDoors_58
      · skip
        have h48 := hlt48 (by omega)
        refine lv_aload_n hx hb dX3_goThroughDoors_12 rfl (lv_at hl 1 rfl) ?_
        refine g_X1_4 C hinX1 hW hn kn gt lk78 dX3_goThroughDoors_13 ?_
        refine lv_iload_n hx hb dX3_goThroughDoors_16 rfl (lv_at hl 2 rfl) ?_
        refine p_iald C hW ht kt (k := c0) rfl (by rw [lt]; omega) dX3_goThroughDoors_17 ?_
        refine w_top (y := .int (nI (to c0))) (by rw [hto _ (by omega)]) ?_
        refine lv_istore_n (lv' := [(3, .int (nI (to c0))), (0, .ref (ad w)), (1, .ref (ad n)), (2, .int (nI c0))]) hx hb dX3_goThroughDoors_18 rfl hl (by decide) rfl (fun ls hl => ?_)
        refine lv_iload_n hx hb dX3_goThroughDoors_19 rfl (lv_at hl 3 rfl) ?_
        refine lv_iload_n hx hb dX3_goThroughDoors_20 rfl (lv_at hl 0 rfl) ?_
        refine n_icmp_ge (tgt := 52) hx hb (by omega) (by omega) dX3_goThroughDoors_21 (by decide) (fun h2 => ?_) (fun h2 => ?_)
        · skip
          refine lv_iinc (v := nI (c0 + 1)) (lv' := [(2, .int (nI (c0 + 1))), (3, .int (nI (to c0))), (0, .ref (ad w)), (1, .ref (ad n))]) hx hb dX3_goThroughDoors_52 hl (k := 3) rfl (nI_inc _) (by decide) rfl (fun ls hl => ?_)
          refine lv_goto (tgt := 2) hx hb dX3_goThroughDoors_55 (by decide) ?_
          have hW := Wd_setJ (g := (fun k => if k < c0 + 1 ∨ to k < c0 + 1 then J q (to k) else J q k)) hW kq (by rw [lq]; exact (fun k hk => go_skip hpr (by omega) h2 hk))
          exact ih2 (c0 + 1) (by omega) (by omega) _ _ hW ls (lv_sub hl [2, 3, 0] rfl)
        · skip
          refine lv_aload_n hx hb dX3_goThroughDoors_24 rfl (lv_at hl 1 rfl) ?_
          refine g_X3_0 C hinX3 hW hw kw gq lk9 dX3_goThroughDoors_25 ?_
          refine lv_iload_n hx hb dX3_goThroughDoors_28 rfl (lv_at hl 3 rfl) ?_
          refine p_lald C hW hq kq (k := c0) rfl (by rw [lq]; omega) dX3_goThroughDoors_29 ?_
          refine w_top (y := .long ((fun k => if k < c0 ∨ to k < c0 then J q (to k) else J q k) c0)) (by rw [va_up_self]) ?_
          refine lv_lstore (lv' := [(4, .long ((fun k => if k < c0 ∨ to k < c0 then J q (to k) else J q k) c0)), (3, .int (nI (to c0))), (0, .ref (ad w)), (1, .ref (ad n)), (2, .int (nI c0))]) hx hb dX3_goThroughDoors_30 hl (by decide) rfl (fun ls hl => ?_)
          refine lv_aload_n hx hb dX3_goThroughDoors_32 rfl (lv_at hl 2 rfl) ?_
          refine g_X3_0 C hinX3 hW hw kw gq lk9 dX3_goThroughDoors_33 ?_
          refine lv_iload_n hx hb dX3_goThroughDoors_36 rfl (lv_at hl 4 rfl) ?_
          refine lv_aload_n hx hb dX3_goThroughDoors_37 rfl (lv_at hl 2 rfl) ?_
          refine g_X3_0 C hinX3 hW hw kw gq lk9 dX3_goThroughDoors_38 ?_
          refine lv_iload_n hx hb dX3_goThroughDoors_41 rfl (lv_at hl 1 rfl) ?_
          refine p_lald C hW hq kq (k := to c0) rfl (by rw [lq]; omega) dX3_goThroughDoors_42 ?_
          refine w_top (y := .long ((fun k => if k < c0 ∨ to k < c0 then J q (to k) else J q k) (to c0))) (by rw [va_up_self]) ?_
          refine p_last C hW hq kq (k := c0) rfl (by rw [lq]; omega) dX3_goThroughDoors_43 (fun H locs hW => ?_)
          rw [va_up_self, up_up] at hW
          refine lv_aload_n hx hb dX3_goThroughDoors_44 rfl (lv_at hl 2 rfl) ?_
          refine g_X3_0 C hinX3 hW hw kw gq lk9 dX3_goThroughDoors_45 ?_
          refine lv_iload_n hx hb dX3_goThroughDoors_48 rfl (lv_at hl 1 rfl) ?_
          refine lv_lload hx hb dX3_goThroughDoors_49 (lv_at hl 0 rfl) ?_
          refine p_last C hW hq kq (k := to c0) rfl (by rw [lq]; omega) dX3_goThroughDoors_51 (fun H locs hW => ?_)
          rw [va_up_self, up_up] at hW
          refine lv_iinc (v := nI (c0 + 1)) (lv' := [(2, .int (nI (c0 + 1))), (4, .long ((fun k => if k < c0 ∨ to k < c0 then J q (to k) else J q k) c0)), (3, .int (nI (to c0))), (0, .ref (ad w)), (1, .ref (ad n))]) hx hb dX3_goThroughDoors_52 hl (k := 4) rfl (nI_inc _) (by decide) rfl (fun ls hl => ?_)
          refine lv_goto (tgt := 2) hx hb dX3_goThroughDoors_55 (by decide) ?_
          have hW := Wd_setJ (g := (fun k => if k < c0 + 1 ∨ to k < c0 + 1 then J q (to k) else J q k)) hW kq (by rw [lq]; exact (fun k hk => go_swap hpr (by omega) h2 hk))
          exact ih2 (c0 + 1) (by omega) (by omega) _ _ hW ls (lv_sub hl [3, 4, 0] rfl)
  have hW := Wd_setJ (g := (fun k => if k < 0 ∨ to k < 0 then J q (to k) else J q k)) hW kq (by rw [lq]; exact (fun k hk => by rw [if_neg (by omega)]))
  exact lp2 (pl * 4 + 1) 0 (by omega) (by omega) _ _ hW ls (lv_sub hl [1, 2, 0] rfl)
