def jnF (to : Nat → Nat) (a b k : Nat) : Nat := if k = b then a else if k = a then b else if k = to b then to b else if k = to a then to a else to k
theorem jn_upd {to : Nat → Nat} {a b k : Nat} {f : Nat → Int32} (h : f k = nI (to k)) : nI (jnF to a b k) = upd (upd (upd (upd f (to a) (nI (to a))) (to b) (nI (to b))) a (nI b)) b (nI a) k := by
  unfold jnF upd
  by_cases h1 : k = b
  · rw [if_pos h1, if_pos h1]
  · rw [if_neg h1, if_neg h1]
    by_cases h2 : k = a
    · rw [if_pos h2, if_pos h2]
    · rw [if_neg h2, if_neg h2]
      by_cases h3 : k = to b
      · rw [if_pos h3, if_pos h3]
      · rw [if_neg h3, if_neg h3]
        by_cases h4 : k = to a
        · rw [if_pos h4, if_pos h4]
        · rw [if_neg h4, if_neg h4, h]
def isC (L : List Nat) (G : mG) (cl op ke : Nat) : Prop := cl ∈ L ∧ kd cl = 0 ∧ G cl 0 = some op ∧ op ∈ L ∧ kd op = 6 ∧ ln op = 12 ∧ G cl 1 = some ke ∧ ke ∈ L ∧ kd ke = 7 ∧ ln ke = 12
def keyE (κ : Nat → Int64) : Nat → Nat → Bool := fun i p => decide (κ i = κ p)
theorem fs_hit {κ : Nat → Int64} {a b : Nat} (hb : b < a) (h : ∀ i, i < b → κ i ≠ κ a) (e : κ b = κ a) : fsE (keyE κ) a = b ∧ fsE (keyE κ) b = b :=
  ⟨lst_of hb (fun k hk => decide_eq_false (h k hk)) (decide_eq_true e), lst_none (fun k hk => decide_eq_false (by rw [e]; exact h k hk))⟩
theorem fs_miss {κ : Nat → Int64} {a : Nat} (h : ∀ i, i < a → κ i ≠ κ a) : fsE (keyE κ) a = a := lst_none (fun k hk => decide_eq_false (h k hk))
theorem one_shl {k : Nat} (hk : k < 64) : (1 : Int64) <<< ((nI k).toInt64 &&& 63) = lN (2 ^ k) := by
  have := wb_shl 1 hk
  rw [Nat.one_mul] at this
  exact this
theorem num_small {pl p : Nat} {E : Nat → Nat → Bool} (hE : eqv pl E) (h12 : pl ≤ 12) (hp : p < pl) : numE E (fsE E p) < 12 := by
  have h1 := fsE_le E p
  have h2 := numE_lt (fsE_fs hE hp) (show fsE E p < pl by omega)
  have h3 := numE_le E pl
  omega
theorem key0_agr {pl dr a : Nat} {to : Nat → Nat} {mk : Nat → Bool} {f : Nat → Int64} (ha : pl ≤ a) : agr pl (keyE (fun p => if p < a then lN (if mk p = true then 1 else 0) else f p)) (itE pl dr to mk 0) := by
  intro p q hp hq
  refine Bool.eq_iff_iff.mpr ?_
  show decide _ = true ↔ decide _ = true
  rw [decide_eq_true_iff, decide_eq_true_iff]
  dsimp only
  rw [if_pos (show p < a by omega), if_pos (show q < a by omega)]
  cases mk p <;> cases mk q <;> decide
theorem key1_agr {pl dr : Nat} {to : Nat → Nat} {E : Nat → Nat → Bool} {f : Nat → Int64} (hE : eqv pl E) (h12 : pl ≤ 12) (hd : dr ≤ 4) (hled : ∀ p d, p < pl → d < dr → led to p d < pl) : agr pl (keyE (fun p => if p < pl then lN (keyN dr to (fun a => numE E (fsE E a)) p) else f p)) (nxE pl dr to E) := by
  intro p q hp hq
  have small : ∀ p, p < pl → keyN dr to (fun a => numE E (fsE E a)) p < 2 ^ 63 := by
    intro p hp
    have h1 := num_small hE h12 hp
    have h2 := sm8_lt (h := fun d => numE E (fsE E (led to p d))) dr (fun i hi => num_small hE h12 (hled p i hp hi))
    have h3 : dr * 2 ^ 33 ≤ 4 * 2 ^ 33 := Nat.mul_le_mul_right _ hd
    dsimp only [keyN]
    omega
  refine Bool.eq_iff_iff.mpr (Iff.trans ?_ (key_iff hE h12 hd hled hp hq))
  show decide _ = true ↔ _
  dsimp only
  rw [decide_eq_true_iff, if_pos hp, if_pos hq]
  exact pk_lEQ (small p hp) (small q hq)
theorem part_stop {pl dr k : Nat} {to : Nat → Nat} {mk : Nat → Bool} (hled : ∀ p d, p < pl → d < dr → led to p d < pl) (st : ∀ p, p < pl → fsE (itE pl dr to mk (k + 1)) p = fsE (itE pl dr to mk k) p) (hk : k < pl) : agr pl (itE pl dr to mk (k + 1)) (itE pl dr to mk pl) := by
  intro p q hp hq
  have h1 := itE_stay hled st 1 p q hp hq
  have h2 := itE_stay hled st (pl - k) p q hp hq
  rw [show k + (pl - k) = pl by omega] at h2
  rw [h1, h2]
abbrev rmX1_joinCells : Room := { frames := 0, cells := 0, slots := 0, locals := 0 }
set_option maxHeartbeats 4000000 in
set_option maxRecDepth 100000 in
theorem c_X1_joinCells (l : Launch) (D : va_G) (cy : Nat → ClassId) (L : List Nat) (ad : Nat → Nat) (G : mG) (I : mI) (J : mJ) (n t k : Nat) (hN : isN L G n t k) (to : Nat → Nat) (hto : ∀ c, c < 48 → I t c = nI (to c)) (ht48 : ∀ c, c < 48 → to c < 48) (a b : Nat) (ha : a < 48) (hb48 : b < 48) : pMet l yX1_joinCells wsX1_joinCells rmX1_joinCells D cy L ad G I J [.ref (ad n), .int (nI a), .int (nI b)] (qV (fun I' J' => I' = va_up I t (fun k => nI (jnF to a b k)) ∧ J' = J) D cy L ad G) := by
  refine pMet.ofV (cc := cX1_joinCells) (maxL := 5) (by decide +kernel) rfl (Nat.le_of_ble_eq_true rfl) ?_
  intro p e R s m args below meth c A Q C hml hR hg ret hW ls hl
  subst hR
  have C : Cx p s m args c cX1_joinCells RX1 wsX1_joinCells D cy A := C
  have hx := C.1
  have hb := C.2.1
  have lk9 := C.2.2.2.1 (.fieldLink RX1 9 "WaveWalk$Net" "ledTo" "[I") (by decide +kernel)
  have hinX1 : ∀ w ∈ wsX10, w ∈ wsX1_joinCells := by decide +kernel
  have hl : lv_has ls 5 [(0, .ref (ad n)), (1, .int (nI a)), (2, .int (nI b))] := hl
  obtain ⟨hn, kn, gt, ht, kt, lt, gk, hk, kk, lk⟩ := id hN
  have hta := ht48 a ha
  have htb := ht48 b hb48
  have hW : Wd D cy A s.heap s.heap [] L ad G (va_up I t (I t)) J := by rw [up_same]; exact hW
  refine lv_aload_n hx hb dX1_joinCells_0 rfl (lv_at hl 0 rfl) ?_
  refine g_X1_4 C hinX1 hW hn kn gt lk9 dX1_joinCells_1 ?_
  refine lv_iload_n hx hb dX1_joinCells_4 rfl (lv_at hl 1 rfl) ?_
  refine p_iald C hW ht kt (k := a) rfl (by rw [lt]; omega) dX1_joinCells_5 ?_
  refine w_top (y := .int ((I t) a)) (by rw [va_up_self]) ?_
  refine w_top (y := .int (nI (to a))) (by rw [hto _ ha]) ?_
  refine lv_istore_n (lv' := [(3, .int (nI (to a))), (0, .ref (ad n)), (1, .int (nI a)), (2, .int (nI b))]) hx hb dX1_joinCells_6 rfl hl (by decide) rfl (fun ls hl => ?_)
  refine lv_aload_n hx hb dX1_joinCells_7 rfl (lv_at hl 1 rfl) ?_
  refine g_X1_4 C hinX1 hW hn kn gt lk9 dX1_joinCells_8 ?_
  refine lv_iload_n hx hb dX1_joinCells_11 rfl (lv_at hl 3 rfl) ?_
  refine p_iald C hW ht kt (k := b) rfl (by rw [lt]; omega) dX1_joinCells_12 ?_
  refine w_top (y := .int ((I t) b)) (by rw [va_up_self]) ?_
  refine w_top (y := .int (nI (to b))) (by rw [hto _ hb48]) ?_
  refine lv_istore (lv' := [(4, .int (nI (to b))), (3, .int (nI (to a))), (0, .ref (ad n)), (1, .int (nI a)), (2, .int (nI b))]) hx hb dX1_joinCells_13 hl (by decide) rfl (fun ls hl => ?_)
  refine lv_aload_n hx hb dX1_joinCells_15 rfl (lv_at hl 2 rfl) ?_
  refine g_X1_4 C hinX1 hW hn kn gt lk9 dX1_joinCells_16 ?_
  refine lv_iload_n hx hb dX1_joinCells_19 rfl (lv_at hl 1 rfl) ?_
  refine lv_iload_n hx hb dX1_joinCells_20 rfl (lv_at hl 1 rfl) ?_
  refine p_iast C hW ht kt (k := to a) rfl (by rw [lt]; omega) dX1_joinCells_21 (fun H locs hW => ?_)
  rw [va_up_self, up_up] at hW
  refine lv_aload_n hx hb dX1_joinCells_22 rfl (lv_at hl 2 rfl) ?_
  refine g_X1_4 C hinX1 hW hn kn gt lk9 dX1_joinCells_23 ?_
  refine lv_iload hx hb dX1_joinCells_26 (lv_at hl 0 rfl) ?_
  refine lv_iload hx hb dX1_joinCells_28 (lv_at hl 0 rfl) ?_
  refine p_iast C hW ht kt (k := to b) rfl (by rw [lt]; omega) dX1_joinCells_30 (fun H locs hW => ?_)
  rw [va_up_self, up_up] at hW
  refine lv_aload_n hx hb dX1_joinCells_31 rfl (lv_at hl 2 rfl) ?_
  refine g_X1_4 C hinX1 hW hn kn gt lk9 dX1_joinCells_32 ?_
  refine lv_iload_n hx hb dX1_joinCells_35 rfl (lv_at hl 3 rfl) ?_
  refine lv_iload_n hx hb dX1_joinCells_36 rfl (lv_at hl 4 rfl) ?_
  refine p_iast C hW ht kt (k := a) rfl (by rw [lt]; omega) dX1_joinCells_37 (fun H locs hW => ?_)
  rw [va_up_self, up_up] at hW
  refine lv_aload_n hx hb dX1_joinCells_38 rfl (lv_at hl 2 rfl) ?_
  refine g_X1_4 C hinX1 hW hn kn gt lk9 dX1_joinCells_39 ?_
  refine lv_iload_n hx hb dX1_joinCells_42 rfl (lv_at hl 4 rfl) ?_
  refine lv_iload_n hx hb dX1_joinCells_43 rfl (lv_at hl 3 rfl) ?_
  refine p_iast C hW ht kt (k := b) rfl (by rw [lt]; omega) dX1_joinCells_44 (fun H locs hW => ?_)
  rw [va_up_self, up_up] at hW
  have hW := Wd_setI (g := (fun k => nI (jnF to a b k))) hW (Or.inl kt) (by rw [lt]; exact (fun k hk => jn_upd (hto k hk)))
  exact ret _ _ _ _ _ _ _ _ (Nat.le_of_ble_eq_true rfl) (Nat.le_of_ble_eq_true rfl) hW ⟨rfl, rfl⟩ dX1_joinCells_45
abbrev rmX0_numberByKeys : Room := { frames := 0, cells := 0, slots := 0, locals := 0 }
set_option maxHeartbeats 4000000 in
set_option maxRecDepth 100000 in
theorem c_X0_numberByKeys (l : Launch) (D : va_G) (cy : Nat → ClassId) (L : List Nat) (ad : Nat → Nat) (G : mG) (I : mI) (J : mJ) (cl op ke : Nat) (hC : isC L G cl op ke) (pl : Nat) (hp12 : pl ≤ 12) : pMet l yX0_numberByKeys wsX0_numberByKeys rmX0_numberByKeys D cy L ad G I J [.ref (ad cl), .int (nI pl)] (qV (fun I' J' => (∀ r, r ≠ op → r ≠ cl → I' r = I r) ∧ (∀ p, p < pl → I' op p = nI (numE (keyE (J ke)) (fsE (keyE (J ke)) p))) ∧ I' cl 2 = nI (numE (keyE (J ke)) pl) ∧ J' = J) D cy L ad G) := by
  refine pMet.ofV (cc := cX0_numberByKeys) (maxL := 4) (by decide +kernel) rfl (Nat.le_of_ble_eq_true rfl) ?_
  intro p e R s m args below meth c A Q C hml hR hg ret hW ls hl
  subst hR
  have C : Cx p s m args c cX0_numberByKeys RX0 wsX0_numberByKeys D cy A := C
  have hx := C.1
  have hb := C.2.1
  have lk11 := C.2.2.2.1 (.fieldLink RX0 11 "WaveWalk$Classes" "ofPlace" "[I") (by decide +kernel)
  have lk15 := C.2.2.2.1 (.fieldLink RX0 15 "WaveWalk$Classes" "keys" "[J") (by decide +kernel)
  have lk19 := C.2.2.2.1 (.fieldLink RX0 19 "WaveWalk$Classes" "number" "I") (by decide +kernel)
  have hinX0 : ∀ w ∈ wsX00, w ∈ wsX0_numberByKeys := by decide +kernel
  have hl : lv_has ls 4 [(0, .ref (ad cl)), (1, .int (nI pl))] := hl
  obtain ⟨hcl, kcl, gop, hop0, kop, lop, gke, hke, kke, lke⟩ := id hC
  have hco : cl ≠ op := fun h => by have := kcl; rw [h, kop] at this; exact absurd this (by decide)
  refine lv_aload_n hx hb dX0_numberByKeys_0 rfl (lv_at hl 0 rfl) ?_
  refine lv_iconst (v := nI 0) hx hb dX0_numberByKeys_1 (by decide) ?_
  refine s_X0_2 C hinX0 hW hcl kcl lk19 dX0_numberByKeys_2 (fun H locs hW => ?_)
  obtain ⟨I1, eI1⟩ : ∃ z, z = va_up I cl (upd (I cl) 2 (nI 0)) := ⟨_, rfl⟩
  rw [← eI1] at hW
  refine lv_iconst (v := nI 0) hx hb dX0_numberByKeys_5 (by decide) ?_
  refine lv_istore_n (lv' := [(2, .int (nI 0)), (0, .ref (ad cl)), (1, .int (nI pl))]) hx hb dX0_numberByKeys_6 rfl hl (by decide) rfl (fun ls hl => ?_)
  have lp7 : ∀ (nn : Nat) (a : Nat) (I7 : mI), (a ≤ pl) → (pl + 1 ≤ a + nn) → (∀ r, r ≠ op → r ≠ cl → I7 r = I r) → (∀ p, p < a → I7 op p = nI (numE (keyE (J ke)) (fsE (keyE (J ke)) p))) → (I7 cl 2 = nI (numE (keyE (J ke)) a)) → ∀ (H : Heap) (locs : List Loc), Wd D cy A s.heap H locs L ad G I7 J → ∀ (ls : Array Slot), lv_has ls 4 [(0, .ref (ad cl)), (1, .int (nI pl)), (2, .int (nI a))] → W p l e rmX0_numberByKeys s m args below meth c H locs 0 0 Q (F0 m 7 ls []) := by
    intro nn
    induction nn with
    | zero => intros; exfalso; omega
    | succ nn ih7 =>
      intro a I7 ha hf hfr hop hnm H locs hW ls hl
      refine lv_iload_n hx hb dX0_numberByKeys_7 rfl (lv_at hl 2 rfl) ?_
      refine lv_iload_n hx hb dX0_numberByKeys_8 rfl (lv_at hl 1 rfl) ?_
      refine n_icmp_ge (tgt := 87) hx hb (by omega) (by omega) dX0_numberByKeys_9 (by decide) (fun h2 => ?_) (fun h2 => ?_)
      · skip
        exact ret _ _ _ _ _ _ _ _ (Nat.le_of_ble_eq_true rfl) (Nat.le_of_ble_eq_true rfl) hW ⟨hfr, fun p hp => hop p (by omega), by rw [hnm, show a = pl by omega], rfl⟩ dX0_numberByKeys_87
      · skip
        refine lv_iconst (v := nI 0) hx hb dX0_numberByKeys_12 (by decide) ?_
        refine lv_istore_n (lv' := [(3, .int (nI 0)), (0, .ref (ad cl)), (1, .int (nI pl)), (2, .int (nI a))]) hx hb dX0_numberByKeys_13 rfl hl (by decide) rfl (fun ls hl => ?_)
        have lp14 : ∀ (nn : Nat) (b : Nat), (b ≤ a) → (a + 1 ≤ b + nn) → (∀ i, i < b → J ke i ≠ J ke a) → ∀ (H : Heap) (locs : List Loc), Wd D cy A s.heap H locs L ad G I7 J → ∀ (ls : Array Slot), lv_has ls 4 [(0, .ref (ad cl)), (1, .int (nI pl)), (2, .int (nI a)), (3, .int (nI b))] → W p l e rmX0_numberByKeys s m args below meth c H locs 0 0 Q (F0 m 14 ls []) := by
          intro nn
          induction nn with
          | zero => intros; exfalso; omega
          | succ nn ih14 =>
            intro b hba hf2 hne H locs hW ls hl
            refine lv_iload_n hx hb dX0_numberByKeys_14 rfl (lv_at hl 3 rfl) ?_
            refine lv_iload_n hx hb dX0_numberByKeys_15 rfl (lv_at hl 2 rfl) ?_
            refine n_icmp_ge (tgt := 41) hx hb (by omega) (by omega) dX0_numberByKeys_16 (by decide) (fun h3 => ?_) (fun h3 => ?_)
            · skip
              refine lv_iload_n hx hb dX0_numberByKeys_41 rfl (lv_at hl 3 rfl) ?_
              refine lv_iload_n hx hb dX0_numberByKeys_42 rfl (lv_at hl 2 rfl) ?_
              refine n_icmp_ge (tgt := 61) hx hb (by omega) (by omega) dX0_numberByKeys_43 (by decide) (fun h4 => ?_) (fun h4 => ?_)
              · skip
                refine lv_aload_n hx hb dX0_numberByKeys_61 rfl (lv_at hl 0 rfl) ?_
                refine g_X0_0 C hinX0 hW hcl kcl gop lk11 dX0_numberByKeys_62 ?_
                refine lv_iload_n hx hb dX0_numberByKeys_65 rfl (lv_at hl 2 rfl) ?_
                refine lv_aload_n hx hb dX0_numberByKeys_66 rfl (lv_at hl 0 rfl) ?_
                refine g_X0_2 C hinX0 hW hcl kcl lk19 dX0_numberByKeys_67 ?_
                refine w_top (y := .int (nI (numE (keyE (J ke)) a))) (by rw [hnm]) ?_
                refine p_iast C hW hop0 kop (k := a) rfl (by rw [lop]; omega) dX0_numberByKeys_70 (fun H locs hW => ?_)
                obtain ⟨I5, eI5⟩ : ∃ z, z = va_up I7 op (upd (I7 op) a (nI (numE (keyE (J ke)) a))) := ⟨_, rfl⟩
                rw [← eI5] at hW
                refine lv_aload_n hx hb dX0_numberByKeys_71 rfl (lv_at hl 0 rfl) ?_
                refine lv_dup hx hb dX0_numberByKeys_72 rfl ?_
                refine g_X0_2 C hinX0 hW hcl kcl lk19 dX0_numberByKeys_73 ?_
                refine w_top (y := .int (nI (numE (keyE (J ke)) a))) (by rw [eI5, va_up_ne _ _ (fun h => by have := kcl; rw [h, kop] at this; exact absurd this (by decide)), hnm]) ?_
                refine lv_iconst (v := nI 1) hx hb dX0_numberByKeys_76 (by decide) ?_
                refine n_iadd hx hb dX0_numberByKeys_77 ?_
                refine s_X0_2 C hinX0 hW hcl kcl lk19 dX0_numberByKeys_78 (fun H locs hW => ?_)
                obtain ⟨I6, eI6⟩ : ∃ z, z = va_up I5 cl (upd (I5 cl) 2 (nI ((numE (keyE (J ke)) a) + 1))) := ⟨_, rfl⟩
                rw [← eI6] at hW
                refine lv_iinc (v := nI (a + 1)) (lv' := [(2, .int (nI (a + 1))), (0, .ref (ad cl)), (1, .int (nI pl)), (3, .int (nI b))]) hx hb dX0_numberByKeys_81 hl (k := 2) rfl (nI_inc _) (by decide) rfl (fun ls hl => ?_)
                refine lv_goto (tgt := 7) hx hb dX0_numberByKeys_84 (by decide) ?_
                have f1 := fs_miss (κ := J ke) (a := a) (fun i hi => hne i (by omega))
                exact ih7 (a + 1) I6 (by omega) (by omega) (fun r h1 h2 => by rw [eI6, va_up_ne _ _ h2, eI5, va_up_ne _ _ h1]; exact hfr r h1 h2) (fun p hp => by rw [eI6, va_up_ne _ _ (Ne.symm hco), eI5, va_up_self]; unfold upd; by_cases hpa : p = a; (rw [if_pos hpa, hpa, f1]); rw [if_neg hpa]; exact hop p (by omega)) (by rw [eI6, va_up_self, numE, if_neg (by omega)]; rfl) _ _ hW ls (lv_sub hl [1, 2, 0] rfl)
              · skip
                exfalso; omega
            · skip
              refine lv_aload_n hx hb dX0_numberByKeys_19 rfl (lv_at hl 0 rfl) ?_
              refine g_X0_1 C hinX0 hW hcl kcl gke lk15 dX0_numberByKeys_20 ?_
              refine lv_iload_n hx hb dX0_numberByKeys_23 rfl (lv_at hl 3 rfl) ?_
              refine p_lald C hW hke kke (k := b) rfl (by rw [lke]; omega) dX0_numberByKeys_24 ?_
              refine lv_aload_n hx hb dX0_numberByKeys_25 rfl (lv_at hl 0 rfl) ?_
              refine g_X0_1 C hinX0 hW hcl kcl gke lk15 dX0_numberByKeys_26 ?_
              refine lv_iload_n hx hb dX0_numberByKeys_29 rfl (lv_at hl 2 rfl) ?_
              refine p_lald C hW hke kke (k := a) rfl (by rw [lke]; omega) dX0_numberByKeys_30 ?_
              refine l_eq (tgt := 41) hx hb dX0_numberByKeys_31 dX0_numberByKeys_32 (by decide) (fun h7 => ?_) (fun h7 => ?_)
              · skip
                refine lv_iload_n hx hb dX0_numberByKeys_41 rfl (lv_at hl 3 rfl) ?_
                refine lv_iload_n hx hb dX0_numberByKeys_42 rfl (lv_at hl 2 rfl) ?_
                refine n_icmp_ge (tgt := 61) hx hb (by omega) (by omega) dX0_numberByKeys_43 (by decide) (fun h8 => ?_) (fun h8 => ?_)
                · skip
                  exfalso; omega
                · skip
                  refine lv_aload_n hx hb dX0_numberByKeys_46 rfl (lv_at hl 0 rfl) ?_
                  refine g_X0_0 C hinX0 hW hcl kcl gop lk11 dX0_numberByKeys_47 ?_
                  refine lv_iload_n hx hb dX0_numberByKeys_50 rfl (lv_at hl 2 rfl) ?_
                  refine lv_aload_n hx hb dX0_numberByKeys_51 rfl (lv_at hl 0 rfl) ?_
                  refine g_X0_0 C hinX0 hW hcl kcl gop lk11 dX0_numberByKeys_52 ?_
                  refine lv_iload_n hx hb dX0_numberByKeys_55 rfl (lv_at hl 3 rfl) ?_
                  refine p_iald C hW hop0 kop (k := b) rfl (by rw [lop]; omega) dX0_numberByKeys_56 ?_
                  refine w_top (y := .int (nI (numE (keyE (J ke)) (fsE (keyE (J ke)) b)))) (by rw [hop b (by omega)]) ?_
                  refine p_iast C hW hop0 kop (k := a) rfl (by rw [lop]; omega) dX0_numberByKeys_57 (fun H locs hW => ?_)
                  obtain ⟨I9, eI9⟩ : ∃ z, z = va_up I7 op (upd (I7 op) a (nI (numE (keyE (J ke)) (fsE (keyE (J ke)) b)))) := ⟨_, rfl⟩
                  rw [← eI9] at hW
                  refine lv_goto (tgt := 81) hx hb dX0_numberByKeys_58 (by decide) ?_
                  refine lv_iinc (v := nI (a + 1)) (lv' := [(2, .int (nI (a + 1))), (0, .ref (ad cl)), (1, .int (nI pl)), (3, .int (nI b))]) hx hb dX0_numberByKeys_81 hl (k := 2) rfl (nI_inc _) (by decide) rfl (fun ls hl => ?_)
                  refine lv_goto (tgt := 7) hx hb dX0_numberByKeys_84 (by decide) ?_
                  obtain ⟨f1, f2⟩ := fs_hit (κ := J ke) (b := b) (a := a) (by omega) hne h7
                  exact ih7 (a + 1) I9 (by omega) (by omega) (fun r h1 h2 => by rw [eI9, va_up_ne _ _ h1]; exact hfr r h1 h2) (fun p hp => by rw [eI9, va_up_self]; unfold upd; by_cases hpa : p = a; (rw [if_pos hpa, hpa, f1, f2]); rw [if_neg hpa]; exact hop p (by omega)) (by rw [eI9, va_up_ne _ _ hco, hnm, numE, if_pos (by omega)]) _ _ hW ls (lv_sub hl [1, 2, 0] rfl)
              · skip
                refine lv_iinc (v := nI (b + 1)) (lv' := [(3, .int (nI (b + 1))), (0, .ref (ad cl)), (1, .int (nI pl)), (2, .int (nI a))]) hx hb dX0_numberByKeys_35 hl (k := 3) rfl (nI_inc _) (by decide) rfl (fun ls hl => ?_)
                refine lv_goto (tgt := 14) hx hb dX0_numberByKeys_38 (by decide) ?_
                exact ih14 (b + 1) (by omega) (by omega) (fun i hi => by rcases Nat.lt_or_ge i b with h | h; exact hne i h; rw [show i = b by omega]; exact h7) _ _ hW ls (lv_sub hl [1, 2, 3, 0] rfl)
        exact lp14 (a + 1) 0 (by omega) (by omega) (fun i hi => absurd hi (Nat.not_lt_zero i)) _ _ hW ls (lv_sub hl [1, 2, 3, 0] rfl)
  exact lp7 (pl + 1) 0 I1 (by omega) (by omega) (fun r h1 h2 => by rw [eI1]; exact va_up_ne _ _ h2) (fun p hp => absurd hp (Nat.not_lt_zero p)) (by rw [eI1, va_up_self]; rfl) _ _ hW ls (lv_sub hl [1, 2, 0] rfl)
abbrev rmX0_keyByDoors : Room := { frames := 0, cells := 0, slots := 0, locals := 0 }
set_option maxHeartbeats 4000000 in
set_option maxRecDepth 100000 in
theorem c_X0_keyByDoors (l : Launch) (D : va_G) (cy : Nat → ClassId) (L : List Nat) (ad : Nat → Nat) (G : mG) (I : mI) (J : mJ) (cl op ke : Nat) (hC : isC L G cl op ke) (n t k : Nat) (hN : isN L G n t k) (pl dr : Nat) (hpl : I n 0 = nI pl) (hdr : I n 1 = nI dr) (hp12 : pl ≤ 12) (hd4 : dr = 2 ∨ dr = 3 ∨ dr = 4) (to : Nat → Nat) (hto : ∀ c, c < 48 → I t c = nI (to c)) (ht48 : ∀ c, c < 48 → to c < 48) (cf : Nat → Nat) (hop : ∀ p, p < pl → I op p = nI (cf p)) (hcf : ∀ p, p < pl → cf p < 12) (hled : ∀ p d, p < pl → d < dr → led to p d < pl) : pMet l yX0_keyByDoors wsX0_keyByDoors rmX0_keyByDoors D cy L ad G I J [.ref (ad cl), .ref (ad n)] (qV (fun I' J' => I' = I ∧ J' = va_up J ke (fun p => if p < pl then lN (keyN dr to cf p) else J ke p)) D cy L ad G) := by
  refine pMet.ofV (cc := cX0_keyByDoors) (maxL := 7) (by decide +kernel) rfl (Nat.le_of_ble_eq_true rfl) ?_
  intro p e R s m args below meth c A Q C hml hR hg ret hW ls hl
  subst hR
  have C : Cx p s m args c cX0_keyByDoors RX0 wsX0_keyByDoors D cy A := C
  have hx := C.1
  have hb := C.2.1
  have lk11 := C.2.2.2.1 (.fieldLink RX0 11 "WaveWalk$Classes" "ofPlace" "[I") (by decide +kernel)
  have lk15 := C.2.2.2.1 (.fieldLink RX0 15 "WaveWalk$Classes" "keys" "[J") (by decide +kernel)
  have lk23 := C.2.2.2.1 (.fieldLink RX0 23 "WaveWalk$Net" "places" "I") (by decide +kernel)
  have lk40 := C.2.2.2.1 (.fieldLink RX0 40 "WaveWalk$Net" "doors" "I") (by decide +kernel)
  have lk43 := C.2.2.2.1 (.fieldLink RX0 43 "WaveWalk$Net" "ledTo" "[I") (by decide +kernel)
  have hinX0 : ∀ w ∈ wsX00, w ∈ wsX0_keyByDoors := by decide +kernel
  have hinX1 : ∀ w ∈ wsX10, w ∈ wsX0_keyByDoors := by decide +kernel
  have hl : lv_has ls 7 [(0, .ref (ad cl)), (1, .ref (ad n))] := hl
  obtain ⟨hcl, kcl, gop, hop0, kop, lop, gke, hke, kke, lke⟩ := id hC
  obtain ⟨hn, kn, gt, ht, kt, lt, gk, hk, kk, lk⟩ := id hN
  have hW : Wd D cy A s.heap s.heap [] L ad G I (va_up J ke (J ke)) := by rw [up_same]; exact hW
  refine lv_iconst (v := nI 0) hx hb dX0_keyByDoors_0 (by decide) ?_
  refine lv_istore_n (lv' := [(2, .int (nI 0)), (0, .ref (ad cl)), (1, .ref (ad n))]) hx hb dX0_keyByDoors_1 rfl hl (by decide) rfl (fun ls hl => ?_)
  have lp2 : ∀ (nn : Nat) (a : Nat), (a ≤ pl) → (pl + 1 ≤ a + nn) → ∀ (H : Heap) (locs : List Loc), Wd D cy A s.heap H locs L ad G I (va_up J ke (fun p => if p < a then lN (keyN dr to cf p) else J ke p)) → ∀ (ls : Array Slot), lv_has ls 7 [(0, .ref (ad cl)), (1, .ref (ad n)), (2, .int (nI a))] → W p l e rmX0_keyByDoors s m args below meth c H locs 0 0 Q (F0 m 2 ls []) := by
    intro nn
    induction nn with
    | zero => intros; exfalso; omega
    | succ nn ih2 =>
      intro a ha hf H locs hW ls hl
      refine lv_iload_n hx hb dX0_keyByDoors_2 rfl (lv_at hl 2 rfl) ?_
      refine lv_aload_n hx hb dX0_keyByDoors_3 rfl (lv_at hl 1 rfl) ?_
      refine g_X1_0 C hinX1 hW hn kn lk23 dX0_keyByDoors_4 ?_
      refine w_top (y := .int (nI pl)) (by rw [hpl]) ?_
      refine n_icmp_ge (tgt := 81) hx hb (by omega) (by omega) dX0_keyByDoors_7 (by decide) (fun h1 => ?_) (fun h1 => ?_)
      · skip
        have hW := Wd_setJ (g := (fun p => if p < pl then lN (keyN dr to cf p) else J ke p)) hW kke (by rw [lke]; exact (fun p hp => by rw [show a = pl by omega]))
        exact ret _ _ _ _ _ _ _ _ (Nat.le_of_ble_eq_true rfl) (Nat.le_of_ble_eq_true rfl) hW ⟨rfl, rfl⟩ dX0_keyByDoors_81
      · skip
        refine lv_aload_n hx hb dX0_keyByDoors_10 rfl (lv_at hl 0 rfl) ?_
        refine g_X0_0 C hinX0 hW hcl kcl gop lk11 dX0_keyByDoors_11 ?_
        refine lv_iload_n hx hb dX0_keyByDoors_14 rfl (lv_at hl 2 rfl) ?_
        refine p_iald C hW hop0 kop (k := a) rfl (by rw [lop]; omega) dX0_keyByDoors_15 ?_
        refine w_top (y := .int (nI (cf a))) (by rw [hop a (by omega)]) ?_
        refine lv_i2l (v := lN (cf a)) hx hb dX0_keyByDoors_16 (nI_l (by have := hcf a (by omega); omega)) ?_
        refine lv_bipush (v := nI 36) hx hb dX0_keyByDoors_17 (by decide) ?_
        refine lv_lshl (v := lN (cf a * 2 ^ 36)) hx hb dX0_keyByDoors_19 (wb_shl (cf a) (k := 36) (by decide)) ?_
        refine w_top (y := .long (lN (cf a * 2 ^ 36 + sm8 (fun d => cf (led to a d)) 0))) (by rw [sm8, Nat.add_zero]) ?_
        refine lv_lstore_n (lv' := [(3, .long (lN (cf a * 2 ^ 36 + sm8 (fun d => cf (led to a d)) 0))), (0, .ref (ad cl)), (1, .ref (ad n)), (2, .int (nI a))]) hx hb dX0_keyByDoors_20 rfl hl (by decide) rfl (fun ls hl => ?_)
        refine lv_iconst (v := nI 0) hx hb dX0_keyByDoors_21 (by decide) ?_
        refine lv_istore (lv' := [(5, .int (nI 0)), (3, .long (lN (cf a * 2 ^ 36 + sm8 (fun d => cf (led to a d)) 0))), (0, .ref (ad cl)), (1, .ref (ad n)), (2, .int (nI a))]) hx hb dX0_keyByDoors_22 hl (by decide) rfl (fun ls hl => ?_)
        have lp24 : ∀ (nn : Nat) (b : Nat), (b ≤ dr) → (dr + 1 ≤ b + nn) → ∀ (H : Heap) (locs : List Loc), Wd D cy A s.heap H locs L ad G I (va_up J ke (fun p => if p < a then lN (keyN dr to cf p) else J ke p)) → ∀ (ls : Array Slot), lv_has ls 7 [(0, .ref (ad cl)), (1, .ref (ad n)), (2, .int (nI a)), (3, .long (lN (cf a * 2 ^ 36 + sm8 (fun d => cf (led to a d)) b))), (5, .int (nI b))] → W p l e rmX0_keyByDoors s m args below meth c H locs 0 0 Q (F0 m 24 ls []) := by
          intro nn
          induction nn with
          | zero => intros; exfalso; omega
          | succ nn ih24 =>
            intro b hb4 hf2 H locs hW ls hl
            refine lv_iload hx hb dX0_keyByDoors_24 (lv_at hl 4 rfl) ?_
            refine lv_aload_n hx hb dX0_keyByDoors_26 rfl (lv_at hl 1 rfl) ?_
            refine g_X1_1 C hinX1 hW hn kn lk40 dX0_keyByDoors_27 ?_
            refine w_top (y := .int (nI dr)) (by rw [hdr]) ?_
            refine n_icmp_ge (tgt := 68) hx hb (by omega) (by omega) dX0_keyByDoors_30 (by decide) (fun h2 => ?_) (fun h2 => ?_)
            · skip
              refine lv_aload_n hx hb dX0_keyByDoors_68 rfl (lv_at hl 0 rfl) ?_
              refine g_X0_1 C hinX0 hW hcl kcl gke lk15 dX0_keyByDoors_69 ?_
              refine lv_iload_n hx hb dX0_keyByDoors_72 rfl (lv_at hl 2 rfl) ?_
              refine lv_lload_n hx hb dX0_keyByDoors_73 rfl (lv_at hl 3 rfl) ?_
              refine p_last C hW hke kke (k := a) rfl (by rw [lke]; omega) dX0_keyByDoors_74 (fun H locs hW => ?_)
              rw [va_up_self, up_up] at hW
              refine lv_iinc (v := nI (a + 1)) (lv' := [(2, .int (nI (a + 1))), (0, .ref (ad cl)), (1, .ref (ad n)), (3, .long (lN (cf a * 2 ^ 36 + sm8 (fun d => cf (led to a d)) b))), (5, .int (nI b))]) hx hb dX0_keyByDoors_75 hl (k := 2) rfl (nI_inc _) (by decide) rfl (fun ls hl => ?_)
              refine lv_goto (tgt := 2) hx hb dX0_keyByDoors_78 (by decide) ?_
              have hW := Wd_setJ (g := (fun p => if p < a + 1 then lN (keyN dr to cf p) else J ke p)) hW kke (by rw [lke]; exact (fun p hp => by dsimp only [vp_updL]; by_cases hpa : p = a; (rw [if_pos (by omega), if_pos hpa, hpa, show b = dr by omega]; rfl); rw [if_neg hpa]; by_cases hc : p < a; rw [if_pos (by omega), if_pos hc]; rw [if_neg (by omega), if_neg hc]))
              exact ih2 (a + 1) (by omega) (by omega) _ _ hW ls (lv_sub hl [1, 2, 0] rfl)
            · skip
              have h48 := ht48 (a * 4 + b) (by omega)
              have hld : to (a * 4 + b) / 4 < pl := hled a b (by omega) (by omega)
              have hc12 := hcf _ hld
              refine lv_aload_n hx hb dX0_keyByDoors_33 rfl (lv_at hl 1 rfl) ?_
              refine g_X1_4 C hinX1 hW hn kn gt lk43 dX0_keyByDoors_34 ?_
              refine lv_iload_n hx hb dX0_keyByDoors_37 rfl (lv_at hl 2 rfl) ?_
              refine lv_iconst (v := nI 4) hx hb dX0_keyByDoors_38 (by decide) ?_
              refine n_imul hx hb dX0_keyByDoors_39 ?_
              refine lv_iload hx hb dX0_keyByDoors_40 (lv_at hl 4 rfl) ?_
              refine n_iadd hx hb dX0_keyByDoors_42 ?_
              refine p_iald C hW ht kt (k := (a * 4) + b) rfl (by rw [lt]; omega) dX0_keyByDoors_43 ?_
              refine w_top (y := .int (nI (to (a * 4 + b)))) (by rw [hto _ (by omega)]) ?_
              refine lv_iconst (v := nI 4) hx hb dX0_keyByDoors_44 (by decide) ?_
              refine n_idiv hx hb (by omega) (by omega) (by omega) dX0_keyByDoors_45 ?_
              refine lv_istore (lv' := [(6, .int (nI ((to (a * 4 + b)) / 4))), (0, .ref (ad cl)), (1, .ref (ad n)), (2, .int (nI a)), (3, .long (lN (cf a * 2 ^ 36 + sm8 (fun d => cf (led to a d)) b))), (5, .int (nI b))]) hx hb dX0_keyByDoors_46 hl (by decide) rfl (fun ls hl => ?_)
              refine lv_lload_n hx hb dX0_keyByDoors_48 rfl (lv_at hl 4 rfl) ?_
              refine lv_lconst (v := 1) hx hb dX0_keyByDoors_49 (by decide) ?_
              refine lv_iconst (v := nI 3) hx hb dX0_keyByDoors_50 (by decide) ?_
              refine lv_aload_n hx hb dX0_keyByDoors_51 rfl (lv_at hl 1 rfl) ?_
              refine g_X0_0 C hinX0 hW hcl kcl gop lk11 dX0_keyByDoors_52 ?_
              refine lv_iload hx hb dX0_keyByDoors_55 (lv_at hl 0 rfl) ?_
              refine p_iald C hW hop0 kop (k := (to (a * 4 + b)) / 4) rfl (by rw [lop]; omega) dX0_keyByDoors_57 ?_
              refine w_top (y := .int (nI (cf (to (a * 4 + b) / 4)))) (by rw [hop _ hld]) ?_
              refine n_imul hx hb dX0_keyByDoors_58 ?_
              refine lv_lshl (v := lN (2 ^ (3 * cf (to (a * 4 + b) / 4)))) hx hb dX0_keyByDoors_59 (one_shl (by omega)) ?_
              refine lv_ladd hx hb dX0_keyByDoors_60 ?_
              refine w_top (y := .long (lN (cf a * 2 ^ 36 + sm8 (fun d => cf (led to a d)) (b + 1)))) (by rw [lN_add, sm8, Nat.add_assoc]; rfl) ?_
              refine lv_lstore_n (lv' := [(3, .long (lN (cf a * 2 ^ 36 + sm8 (fun d => cf (led to a d)) (b + 1)))), (6, .int (nI ((to (a * 4 + b)) / 4))), (0, .ref (ad cl)), (1, .ref (ad n)), (2, .int (nI a)), (5, .int (nI b))]) hx hb dX0_keyByDoors_61 rfl hl (by decide) rfl (fun ls hl => ?_)
              refine lv_iinc (v := nI (b + 1)) (lv' := [(5, .int (nI (b + 1))), (3, .long (lN (cf a * 2 ^ 36 + sm8 (fun d => cf (led to a d)) (b + 1)))), (6, .int (nI ((to (a * 4 + b)) / 4))), (0, .ref (ad cl)), (1, .ref (ad n)), (2, .int (nI a))]) hx hb dX0_keyByDoors_62 hl (k := 5) rfl (nI_inc _) (by decide) rfl (fun ls hl => ?_)
              refine lv_goto (tgt := 24) hx hb dX0_keyByDoors_65 (by decide) ?_
              exact ih24 (b + 1) (by omega) (by omega) _ _ hW ls (lv_sub hl [3, 4, 5, 1, 0] rfl)
        exact lp24 (dr + 1) 0 (by omega) (by omega) _ _ hW ls (lv_sub hl [2, 3, 4, 1, 0] rfl)
  have hW := Wd_setJ (g := (fun p => if p < 0 then lN (keyN dr to cf p) else J ke p)) hW kke (by rw [lke]; exact (fun p hp => by rw [if_neg (by omega)]))
  exact lp2 (pl + 1) 0 (by omega) (by omega) _ _ hW ls (lv_sub hl [1, 2, 0] rfl)
abbrev rmX0_partAll : Room := { frames := 1, cells := 0, slots := 0, locals := 27 }
set_option maxHeartbeats 4000000 in
set_option maxRecDepth 100000 in
theorem c_X0_partAll (l : Launch) (D : va_G) (cy : Nat → ClassId) (L : List Nat) (ad : Nat → Nat) (G : mG) (I : mI) (J : mJ) (cl op ke : Nat) (hC : isC L G cl op ke) (n t k : Nat) (hN : isN L G n t k) (pl dr : Nat) (hpl : I n 0 = nI pl) (hdr : I n 1 = nI dr) (hp12 : pl ≤ 12) (hd4 : dr = 2 ∨ dr = 3 ∨ dr = 4) (mk : Nat → Bool) (hmk : ∀ c, c < 12 → I k c = bI (mk c)) (to : Nat → Nat) (hto : ∀ c, c < 48 → I t c = nI (to c)) (ht48 : ∀ c, c < 48 → to c < 48) (hled : ∀ p d, p < pl → d < dr → led to p d < pl) (htop : t ≠ op) : pMet l yX0_partAll wsX0_partAll rmX0_partAll D cy L ad G I J [.ref (ad cl), .ref (ad n)] (qV (fun I' J' => (∀ r, r ≠ op → r ≠ cl → I' r = I r) ∧ (∀ p, p < pl → I' op p = nI (clsA pl dr to mk p)) ∧ I' cl 2 = nI (numA pl dr to mk) ∧ (∀ r, r ≠ ke → J' r = J r)) D cy L ad G) := by
  refine pMet.ofV (cc := cX0_partAll) (maxL := 4) (by decide +kernel) rfl (Nat.le_of_ble_eq_true rfl) ?_
  intro p e R s m args below meth c A Q C hml hR hg ret hW ls hl
  subst hR
  have C : Cx p s m args c cX0_partAll RX0 wsX0_partAll D cy A := C
  have hx := C.1
  have hb := C.2.1
  have lk15 := C.2.2.2.1 (.fieldLink RX0 15 "WaveWalk$Classes" "keys" "[J") (by decide +kernel)
  have lk19 := C.2.2.2.1 (.fieldLink RX0 19 "WaveWalk$Classes" "number" "I") (by decide +kernel)
  have lk23 := C.2.2.2.1 (.fieldLink RX0 23 "WaveWalk$Net" "places" "I") (by decide +kernel)
  have lk28 := C.2.2.2.1 (.fieldLink RX0 28 "WaveWalk$Net" "marked" "[Z") (by decide +kernel)
  have hinX0 : ∀ w ∈ wsX00, w ∈ wsX0_partAll := by decide +kernel
  have hinX1 : ∀ w ∈ wsX10, w ∈ wsX0_partAll := by decide +kernel
  have hl : lv_has ls 4 [(0, .ref (ad cl)), (1, .ref (ad n))] := hl
  obtain ⟨hcl, kcl, gop, hop0, kop, lop, gke, hke, kke, lke⟩ := id hC
  obtain ⟨hn, kn, gt, ht, kt, lt, gk, hk, kk, lk⟩ := id hN
  have hW : Wd D cy A s.heap s.heap [] L ad G I (va_up J ke (J ke)) := by rw [up_same]; exact hW
  have ncl : n ≠ cl := fun h => by have := kn; rw [h, kcl] at this; exact absurd this (by decide)
  have nop : n ≠ op := fun h => by have := kn; rw [h, kop] at this; exact absurd this (by decide)
  have tcl : t ≠ cl := fun h => by have := kt; rw [h, kcl] at this; exact absurd this (by decide)
  have top : t ≠ op := htop
  refine lv_iconst (v := nI 0) hx hb dX0_partAll_0 (by decide) ?_
  refine lv_istore_n (lv' := [(2, .int (nI 0)), (0, .ref (ad cl)), (1, .ref (ad n))]) hx hb dX0_partAll_1 rfl hl (by decide) rfl (fun ls hl => ?_)
  have lp2 : ∀ (nn : Nat) (a : Nat), (a ≤ pl) → (pl + 1 ≤ a + nn) → ∀ (H : Heap) (locs : List Loc), Wd D cy A s.heap H locs L ad G I (va_up J ke (fun p => if p < a then lN (if mk p = true then 1 else 0) else J ke p)) → ∀ (ls : Array Slot), lv_has ls 4 [(0, .ref (ad cl)), (1, .ref (ad n)), (2, .int (nI a))] → W p l e rmX0_partAll s m args below meth c H locs 0 0 Q (F0 m 2 ls []) := by
    intro nn
    induction nn with
    | zero => intros; exfalso; omega
    | succ nn ih2 =>
      intro a ha hf H locs hW ls hl
      refine lv_iload_n hx hb dX0_partAll_2 rfl (lv_at hl 2 rfl) ?_
      refine lv_aload_n hx hb dX0_partAll_3 rfl (lv_at hl 1 rfl) ?_
      refine g_X1_0 C hinX1 hW hn kn lk23 dX0_partAll_4 ?_
      refine w_top (y := .int (nI pl)) (by rw [hpl]) ?_
      refine n_icmp_ge (tgt := 36) hx hb (by omega) (by omega) dX0_partAll_7 (by decide) (fun h1 => ?_) (fun h1 => ?_)
      · skip
        refine lv_aload_n hx hb dX0_partAll_36 rfl (lv_at hl 0 rfl) ?_
        refine lv_aload_n hx hb dX0_partAll_37 rfl (lv_at hl 1 rfl) ?_
        refine g_X1_0 C hinX1 hW hn kn lk23 dX0_partAll_38 ?_
        refine w_top (y := .int (nI pl)) (by rw [hpl]) ?_
        refine p_cVv C hml hg hW (c_X0_numberByKeys l D cy L ad G I (va_up J ke (fun p => if p < a then lN (if mk p = true then 1 else 0) else J ke p)) cl op ke hC pl hp12) (cwV 1 C.2.2.2.1 gX0_partAll_X0_numberByKeys rfl rfl rfl (by decide +kernel) ⟨Nat.le_of_ble_eq_true rfl, Nat.le_of_ble_eq_true rfl⟩) (p_recv C hW hcl (pF_0 kcl) rfl) rfl hl.1 rfl (Nat.le_of_ble_eq_true rfl) dX0_partAll_41 (Nat.le_of_ble_eq_true rfl) (Nat.le_of_ble_eq_true rfl) (fun I2 J3 H locs hp hW => ?_)
        obtain ⟨fr, fo, fn, fJ⟩ := hp
        subst J3
        rw [va_up_self] at fo fn
        refine lv_iconst (v := nI 0) hx hb dX0_partAll_44 (by decide) ?_
        refine lv_istore_n (lv' := [(2, .int (nI 0)), (0, .ref (ad cl)), (1, .ref (ad n))]) hx hb dX0_partAll_45 rfl hl (by decide) rfl (fun ls hl => ?_)
        have ag : agr pl (keyE (fun p => if p < a then lN (if mk p = true then 1 else 0) else J ke p)) (itE pl dr to mk 0) := key0_agr (by omega)
        have lp46 : ∀ (nn : Nat) (k0 : Nat) (I1 : mI) (J1 : mJ), (k0 ≤ pl) → (pl + 1 ≤ k0 + nn) → (∀ r, r ≠ op → r ≠ cl → I1 r = I r) → (∀ p, p < pl → I1 op p = nI (numE (itE pl dr to mk k0) (fsE (itE pl dr to mk k0) p))) → (I1 cl 2 = nI (numE (itE pl dr to mk k0) pl)) → (∀ r, r ≠ ke → J1 r = J r) → ∀ (H : Heap) (locs : List Loc), Wd D cy A s.heap H locs L ad G I1 J1 → ∀ (ls : Array Slot), lv_has ls 4 [(0, .ref (ad cl)), (1, .ref (ad n)), (2, .int (nI k0))] → W p l e rmX0_partAll s m args below meth c H locs 0 0 Q (F0 m 46 ls []) := by
          intro nn
          induction nn with
          | zero => intros; exfalso; omega
          | succ nn ih46 =>
            intro k0 I1 J1 hk0 hf3 hfr hop hnm hfJ H locs hW ls hl
            refine lv_iload_n hx hb dX0_partAll_46 rfl (lv_at hl 2 rfl) ?_
            refine lv_aload_n hx hb dX0_partAll_47 rfl (lv_at hl 1 rfl) ?_
            refine g_X1_0 C hinX1 hW hn kn lk23 dX0_partAll_48 ?_
            refine w_top (y := .int (nI pl)) (by rw [hfr n nop ncl, hpl]) ?_
            refine n_icmp_ge (tgt := 87) hx hb (by omega) (by omega) dX0_partAll_51 (by decide) (fun h4 => ?_) (fun h4 => ?_)
            · skip
              exact ret _ _ _ _ _ _ _ _ (Nat.le_of_ble_eq_true rfl) (Nat.le_of_ble_eq_true rfl) hW ⟨hfr, fun p hp => by rw [hop p hp, show k0 = pl by omega]; rfl, by rw [hnm, show k0 = pl by omega]; rfl, hfJ⟩ dX0_partAll_87
            · skip
              refine lv_aload_n hx hb dX0_partAll_54 rfl (lv_at hl 0 rfl) ?_
              refine g_X0_2 C hinX0 hW hcl kcl lk19 dX0_partAll_55 ?_
              refine w_top (y := .int (nI (numE (itE pl dr to mk k0) pl))) (by rw [hnm]) ?_
              refine lv_istore_n (lv' := [(3, .int (nI (numE (itE pl dr to mk k0) pl))), (0, .ref (ad cl)), (1, .ref (ad n)), (2, .int (nI k0))]) hx hb dX0_partAll_58 rfl hl (by decide) rfl (fun ls hl => ?_)
              refine lv_aload_n hx hb dX0_partAll_59 rfl (lv_at hl 1 rfl) ?_
              refine lv_aload_n hx hb dX0_partAll_60 rfl (lv_at hl 2 rfl) ?_
              refine p_cVv C hml hg hW (c_X0_keyByDoors l D cy L ad G I1 J1 cl op ke hC n t k hN pl dr (by rw [hfr n nop ncl]; exact hpl) (by rw [hfr n nop ncl]; exact hdr) hp12 hd4 to (fun c hc => by rw [hfr t top tcl]; exact hto c hc) ht48 (fun a => numE (itE pl dr to mk k0) (fsE (itE pl dr to mk k0) a)) hop (fun p hp => num_small (itE_eqv k0) hp12 hp) hled) (cwV 1 C.2.2.2.1 gX0_partAll_X0_keyByDoors rfl rfl rfl (by decide +kernel) ⟨Nat.le_of_ble_eq_true rfl, Nat.le_of_ble_eq_true rfl⟩) (p_recv C hW hcl (pF_0 kcl) rfl) rfl hl.1 rfl (Nat.le_of_ble_eq_true rfl) dX0_partAll_61 (Nat.le_of_ble_eq_true rfl) (Nat.le_of_ble_eq_true rfl) (fun I5 J6 H locs hp hW => ?_)
              obtain ⟨hI, hJ⟩ := hp
              subst I5
              subst J6
              refine lv_aload_n hx hb dX0_partAll_64 rfl (lv_at hl 1 rfl) ?_
              refine lv_aload_n hx hb dX0_partAll_65 rfl (lv_at hl 2 rfl) ?_
              refine g_X1_0 C hinX1 hW hn kn lk23 dX0_partAll_66 ?_
              refine w_top (y := .int (nI pl)) (by rw [hfr n nop ncl, hpl]) ?_
              refine p_cVv C hml hg hW (c_X0_numberByKeys l D cy L ad G I1 (va_up J1 ke (fun p => if p < pl then lN (keyN dr to (fun a => numE (itE pl dr to mk k0) (fsE (itE pl dr to mk k0) a)) p) else J1 ke p)) cl op ke hC pl hp12) (cwV 1 C.2.2.2.1 gX0_partAll_X0_numberByKeys rfl rfl rfl (by decide +kernel) ⟨Nat.le_of_ble_eq_true rfl, Nat.le_of_ble_eq_true rfl⟩) (p_recv C hW hcl (pF_0 kcl) rfl) rfl hl.1 rfl (Nat.le_of_ble_eq_true rfl) dX0_partAll_69 (Nat.le_of_ble_eq_true rfl) (Nat.le_of_ble_eq_true rfl) (fun I7 J8 H locs hp hW => ?_)
              obtain ⟨fr, fo, fn, fJ⟩ := hp
              subst J8
              rw [va_up_self] at fo fn
              have ag2 : agr pl (keyE (fun p => if p < pl then lN (keyN dr to (fun a => numE (itE pl dr to mk k0) (fsE (itE pl dr to mk k0) a)) p) else J1 ke p)) (itE pl dr to mk (k0 + 1)) := key1_agr (itE_eqv k0) hp12 (by omega) hled
              have fo2 : ∀ p, p < pl → I7 op p = nI (numE (itE pl dr to mk (k0 + 1)) (fsE (itE pl dr to mk (k0 + 1)) p)) := fun p hp => by rw [fo p hp, fsE_congr ag2 hp, numE_congr ag2 _ (by have := fsE_le (itE pl dr to mk (k0 + 1)) p; omega)]
              have fn2 : I7 cl 2 = nI (numE (itE pl dr to mk (k0 + 1)) pl) := by rw [fn, numE_congr ag2 _ (Nat.le_refl _)]
              have b1 := numE_le (itE pl dr to mk k0) pl
              have b2 := numE_le (itE pl dr to mk (k0 + 1)) pl
              refine lv_aload_n hx hb dX0_partAll_72 rfl (lv_at hl 1 rfl) ?_
              refine g_X0_2 C hinX0 hW hcl kcl lk19 dX0_partAll_73 ?_
              refine w_top (y := .int (nI (numE (itE pl dr to mk (k0 + 1)) pl))) (by rw [fn2]) ?_
              refine lv_iload_n hx hb dX0_partAll_76 rfl (lv_at hl 0 rfl) ?_
              refine n_icmp_ne (tgt := 81) hx hb (by omega) (by omega) dX0_partAll_77 (by decide) (fun h9 => ?_) (fun h9 => ?_)
              · skip
                refine lv_iinc (v := nI (k0 + 1)) (lv' := [(2, .int (nI (k0 + 1))), (3, .int (nI (numE (itE pl dr to mk k0) pl))), (0, .ref (ad cl)), (1, .ref (ad n))]) hx hb dX0_partAll_81 hl (k := 3) rfl (nI_inc _) (by decide) rfl (fun ls hl => ?_)
                refine lv_goto (tgt := 46) hx hb dX0_partAll_84 (by decide) ?_
                exact ih46 (k0 + 1) I7 (va_up J1 ke (fun p => if p < pl then lN (keyN dr to (fun a => numE (itE pl dr to mk k0) (fsE (itE pl dr to mk k0) a)) p) else J1 ke p)) (by omega) (by omega) (fun r h1 h2 => (fr r h1 h2).trans (hfr r h1 h2)) fo2 fn2 (fun r h => (va_up_ne _ _ h).trans (hfJ r h)) _ _ hW ls (lv_sub hl [2, 3, 0] rfl)
              · skip
                have st := fine_eq (itE_eqv (pl := pl) (dr := dr) (to := to) (mk := mk) k0) (itE_eqv (k0 + 1)) nxE_fine h9
                have ag3 : agr pl (itE pl dr to mk (k0 + 1)) (itE pl dr to mk pl) := part_stop hled st (by omega)
                exact ret _ _ _ _ _ _ _ _ (Nat.le_of_ble_eq_true rfl) (Nat.le_of_ble_eq_true rfl) hW ⟨fun r h1 h2 => (fr r h1 h2).trans (hfr r h1 h2), fun p hp => by rw [fo2 p hp, fsE_congr ag3 hp, numE_congr ag3 _ (by have := fsE_le (itE pl dr to mk pl) p; omega)]; rfl, by rw [fn2, numE_congr ag3 _ (Nat.le_refl _)]; rfl, fun r h => (va_up_ne _ _ h).trans (hfJ r h)⟩ dX0_partAll_80
        exact lp46 (pl + 1) 0 I2 (va_up J ke (fun p => if p < a then lN (if mk p = true then 1 else 0) else J ke p)) (Nat.zero_le _) (by omega) (fun r h1 h2 => fr r h1 h2) (fun p hp => by rw [fo p hp, fsE_congr ag hp, numE_congr ag _ (by have := fsE_le (itE pl dr to mk 0) p; omega)]) (by rw [fn, numE_congr ag _ (Nat.le_refl _)]) (fun r h => va_up_ne _ _ h) _ _ hW ls (lv_sub hl [1, 2, 0] rfl)
      · skip
        refine lv_aload_n hx hb dX0_partAll_10 rfl (lv_at hl 0 rfl) ?_
        refine g_X0_1 C hinX0 hW hcl kcl gke lk15 dX0_partAll_11 ?_
        refine lv_iload_n hx hb dX0_partAll_14 rfl (lv_at hl 2 rfl) ?_
        refine lv_aload_n hx hb dX0_partAll_15 rfl (lv_at hl 1 rfl) ?_
        refine g_X1_5 C hinX1 hW hn kn gk lk28 dX0_partAll_16 ?_
        refine lv_iload_n hx hb dX0_partAll_19 rfl (lv_at hl 2 rfl) ?_
        refine p_zald C hW hk kk (k := a) rfl (by rw [lk]; omega) dX0_partAll_20 ?_
        refine w_top (y := .int (bI (mk a))) (by rw [hmk _ (by omega)]) ?_
        refine b_if_eq (tgt := 28) hx hb dX0_partAll_21 (by decide) (fun h10 => ?_) (fun h10 => ?_)
        · skip
          refine lv_lconst (v := 0) hx hb dX0_partAll_28 (by decide) ?_
          refine p_last C hW hke kke (k := a) rfl (by rw [lke]; omega) dX0_partAll_29 (fun H locs hW => ?_)
          rw [va_up_self, up_up] at hW
          refine lv_iinc (v := nI (a + 1)) (lv' := [(2, .int (nI (a + 1))), (0, .ref (ad cl)), (1, .ref (ad n))]) hx hb dX0_partAll_30 hl (k := 2) rfl (nI_inc _) (by decide) rfl (fun ls hl => ?_)
          refine lv_goto (tgt := 2) hx hb dX0_partAll_33 (by decide) ?_
          have hW := Wd_setJ (g := (fun p => if p < a + 1 then lN (if mk p = true then 1 else 0) else J ke p)) hW kke (by rw [lke]; exact (fun p hp => by dsimp only [vp_updL]; by_cases hpa : p = a; (rw [if_pos (by omega), if_pos hpa, hpa, h10]; rfl); rw [if_neg hpa]; by_cases hc : p < a; rw [if_pos (by omega), if_pos hc]; rw [if_neg (by omega), if_neg hc]))
          exact ih2 (a + 1) (by omega) (by omega) _ _ hW ls (lv_sub hl [1, 2, 0] rfl)
        · skip
          refine lv_lconst (v := 1) hx hb dX0_partAll_24 (by decide) ?_
          refine lv_goto (tgt := 29) hx hb dX0_partAll_25 (by decide) ?_
          refine p_last C hW hke kke (k := a) rfl (by rw [lke]; omega) dX0_partAll_29 (fun H locs hW => ?_)
          rw [va_up_self, up_up] at hW
          refine lv_iinc (v := nI (a + 1)) (lv' := [(2, .int (nI (a + 1))), (0, .ref (ad cl)), (1, .ref (ad n))]) hx hb dX0_partAll_30 hl (k := 2) rfl (nI_inc _) (by decide) rfl (fun ls hl => ?_)
          refine lv_goto (tgt := 2) hx hb dX0_partAll_33 (by decide) ?_
          have hW := Wd_setJ (g := (fun p => if p < a + 1 then lN (if mk p = true then 1 else 0) else J ke p)) hW kke (by rw [lke]; exact (fun p hp => by dsimp only [vp_updL]; by_cases hpa : p = a; (rw [if_pos (by omega), if_pos hpa, hpa, h10]; rfl); rw [if_neg hpa]; by_cases hc : p < a; rw [if_pos (by omega), if_pos hc]; rw [if_neg (by omega), if_neg hc]))
          exact ih2 (a + 1) (by omega) (by omega) _ _ hW ls (lv_sub hl [1, 2, 0] rfl)
  have hW := Wd_setJ (g := (fun p => if p < 0 then lN (if mk p = true then 1 else 0) else J ke p)) hW kke (by rw [lke]; exact (fun p hp => by rw [if_neg (by omega)]))
  exact lp2 (pl + 1) 0 (by omega) (by omega) _ _ hW ls (lv_sub hl [1, 2, 0] rfl)
