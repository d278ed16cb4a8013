theorem bI_inj {a b : Bool} : bI a = bI b ↔ a = b := by cases a <;> cases b <;> decide
theorem fh_hit {N : Nat} {E : Nat → Nat → Bool} {a b : Nat} (hb : b ≤ fsE E a) (h : E b a = true) : b = fsE E a := by
  rcases Nat.lt_or_ge b (fsE E a) with g | g
  · rw [fsE_min g] at h; cases h
  · omega
theorem fh_miss {N : Nat} {E : Nat → Nat → Bool} (hE : eqv N E) {a b : Nat} (ha : a < N) (hb : b ≤ fsE E a) (h : ¬ E b a = true) : b + 1 ≤ fsE E a := by
  rcases Nat.lt_or_ge b (fsE E a) with g | g
  · exact g
  · exact absurd (by rw [show b = fsE E a by omega]; exact fsE_rel hE ha) h
theorem alk_nx {pl dr : Nat} {to : Nat → Nat} {E : Nat → Nat → Bool} (hE : eqv pl E) {a b : Nat} (ha : a < pl) (hb : b < pl) : alkB pl dr to (fsE E) a b = nxE pl dr to E b a := by
  refine Bool.eq_iff_iff.mpr ?_
  unfold alkB
  rw [decide_eq_true_iff, nxE_iff]
  constructor
  · intro h; exact ⟨hE.2.1 _ _ ha hb ((fsE_eq hE ha hb).mp h.1), fun c hc => (h.2 c hc).symm⟩
  · intro h; exact ⟨(fsE_eq hE ha hb).mpr (hE.2.1 _ _ hb ha h.1), fun c hc => (h.2 c hc).symm⟩
theorem row_put {f : Nat → Int32} {g : Nat → Nat} {a v : Nat} (h : ∀ p, p < a → f p = nI (g p)) (hv : v = g a) : ∀ p, p < a + 1 → upd f a (nI v) p = nI (g p) := by
  intro p hp
  unfold upd
  split
  · next e => rw [e, hv]
  · next e => exact h p (by omega)
theorem row_hi {f : Nat → Int32} {g : Nat → Nat} {a N : Nat} {x : Int32} (h : ∀ p, a ≤ p → p < N → f p = nI (g p)) : ∀ p, a + 1 ≤ p → p < N → upd f a x p = nI (g p) := by
  intro p hp hN
  unfold upd
  rw [if_neg (by omega)]
  exact h p (by omega) hN
/-- how the next round is told by whether it parted anything -/
theorem it_more {pl dr : Nat} {to : Nat → Nat} {mk : Nat → Bool} {k : Nat} (hk : k + 1 ≤ numE (itE pl dr to mk k) pl) (h : ¬ ∀ p, p < pl → fsE (itE pl dr to mk (k + 1)) p = fsE (itE pl dr to mk k) p) : k + 1 + 1 ≤ numE (itE pl dr to mk (k + 1)) pl := by
  have h1 : numE (itE pl dr to mk k) pl ≤ numE (itE pl dr to mk (k + 1)) pl := fine_le (nxE_fine (dr := dr) (to := to) (E := itE pl dr to mk k))
  have h2 : numE (itE pl dr to mk (k + 1)) pl ≠ numE (itE pl dr to mk k) pl := fun e => h (fine_eq (itE_eqv k) (itE_eqv (k + 1)) (nxE_fine (dr := dr) (to := to) (E := itE pl dr to mk k)) e)
  omega
theorem it_less {pl dr : Nat} {to : Nat → Nat} {mk : Nat → Bool} (hled : ∀ p d, p < pl → d < dr → led to p d < pl) {k : Nat} (h : ∀ p, p < pl → fsE (itE pl dr to mk (k + 1)) p = fsE (itE pl dr to mk k) p) (j : Nat) : agr pl (itE pl dr to mk (k + 1 + j)) (itE pl dr to mk (k + 1)) := by
  have h1 := itE_stay hled h (1 + j)
  have h2 := itE_stay hled h 1
  intro p q hp hq
  rw [show k + 1 + j = k + (1 + j) by omega, h1 p q hp hq, h2 p q hp hq]
theorem num1 (E : Nat → Nat → Bool) {pl : Nat} (h : 1 ≤ pl) : 1 ≤ numE E pl := by
  have := numE_mono E 1 (pl - 1)
  rw [show 1 + (pl - 1) = pl by omega] at this
  have e : numE E 1 = 1 := by rw [numE, if_neg (by omega)]; rfl
  omega
theorem fs_lt (E : Nat → Nat → Bool) {a pl : Nat} (h : a < pl) : fsE E a < pl := Nat.lt_of_le_of_lt (fsE_le E a) h
theorem num_lt (E : Nat → Nat → Bool) {a pl : Nat} (h : a ≤ pl) : numE E a ≤ pl := Nat.le_trans (numE_le E a) h
theorem mo_more {mo : Bool} {f g : Nat → Nat} {a : Nat} (h : mo = false ↔ ∀ q, q < a → f q = g q) : (mo || decide (f a ≠ g a)) = false ↔ ∀ q, q < a + 1 → f q = g q := by
  rw [Bool.or_eq_false_iff, h, decide_eq_false_iff_not]
  constructor
  · intro ⟨h1, h2⟩ q hq
    rcases Nat.lt_or_ge q a with g | g
    · exact h1 q g
    · rw [show q = a by omega]; exact Decidable.not_not.mp h2
  · intro h1
    exact ⟨fun q hq => h1 q (by omega), fun z => z (h1 a (by omega))⟩
abbrev rmX5_finds : Room := { frames := 2, cells := 0, slots := 0, locals := 60 }
set_option maxHeartbeats 4000000 in
set_option maxRecDepth 100000 in
theorem c_X5_finds (l : Launch) (D : va_G) (cy : Nat → ClassId) (L : List Nat) (ad : Nat → Nat) (G : mG) (I : mI) (J : mJ) (hS : rSh L G) (n pl dr : Nat) (hn6 : n < 6) (hpl : I 65 n = nI pl) (hp1 : 1 ≤ pl) (hp12 : pl ≤ 12) (hdr : I 66 n = nI dr) (hd4 : dr ≤ 4) (to : Nat → Nat) (hto : ∀ c, c < 48 → I 67 (48 * n + c) = nI (to c)) (ht48 : ∀ c, c < 48 → to c < 48) (hled : ∀ p d, p < pl → d < dr → led to p d < pl) (mk : Nat → Bool) (hmk : ∀ c, c < 12 → I 68 (12 * n + c) = bI (mk c)) : pMet l yX5_finds wsX5_finds rmX5_finds D cy L ad G I J [.ref (ad 64), .int (nI n)] (qI (fun v I' J' => v = nI (numA pl dr to mk) ∧ (∀ r, r ≠ 74 → r ≠ 75 → I' r = I r) ∧ (∀ q, q < pl → I' 74 q = nI (clsA pl dr to mk q)) ∧ J' = J) D cy L ad G) := by
  refine pMet.ofI (cc := cX5_finds) (maxL := 6) (by decide +kernel) rfl (Nat.le_of_ble_eq_true rfl) ?_
  intro p e R s m args below meth c A Q C hml hR hg ret hW ls hl
  subst hR
  have C : Cx p s m args c cX5_finds RX5 wsX5_finds D cy A := C
  have hx := C.1
  have hb := C.2.1
  have lk7 := C.2.2.2.1 (.fieldLink RX5 7 "WaveWalkModel" "places" "[I") (by decide +kernel)
  have lk19 := C.2.2.2.1 (.fieldLink RX5 19 "WaveWalkModel" "isMarked" "[Z") (by decide +kernel)
  have lk39 := C.2.2.2.1 (.fieldLink RX5 39 "WaveWalkModel" "classes" "[I") (by decide +kernel)
  have lk42 := C.2.2.2.1 (.fieldLink RX5 42 "WaveWalkModel" "parted" "[I") (by decide +kernel)
  have hinX5 : ∀ w ∈ wsX50, w ∈ wsX5_finds := by decide +kernel
  have hl : lv_has ls 6 [(0, .ref (ad 64)), (1, .int (nI n))] := hl
  refine lv_iconst (v := nI 0) hx hb dX5_finds_0 (by decide) ?_
  refine lv_istore_n (lv' := [(2, .int (nI 0)), (0, .ref (ad 64)), (1, .int (nI n))]) hx hb dX5_finds_1 rfl hl (by decide) rfl (fun ls hl => ?_)
  have lp2 : ∀ (nn : Nat) (a : Nat) (Ia : mI), (a ≤ pl) → (pl + 1 ≤ a + nn) → (∀ r, r ≠ 74 → r ≠ 75 → Ia r = I r) → (∀ q, q < a → Ia 74 q = nI (fsE (itE pl dr to mk 0) q)) → ∀ (H : Heap) (locs : List Loc), Wd D cy A s.heap H locs L ad G Ia J → ∀ (ls : Array Slot), lv_has ls 6 [(0, .ref (ad 64)), (1, .int (nI n)), (2, .int (nI a))] → W p l e rmX5_finds s m args below meth c H locs 0 0 Q (F0 m 2 ls []) := by
    intro nn
    induction nn with
    | zero => intros; exfalso; omega
    | succ nn ih2 =>
      intro a Ia ha hfu hk hr H locs hW ls hl
      refine lv_iload_n hx hb dX5_finds_2 rfl (lv_at hl 2 rfl) ?_
      refine lv_aload_n hx hb dX5_finds_3 rfl (lv_at hl 0 rfl) ?_
      refine g_X5_3 C hinX5 hW (hS.1 64 (by omega) (by omega)) (by decide) (hS.2 3 (by omega) (by omega)) lk7 dX5_finds_4 ?_
      refine lv_iload_n hx hb dX5_finds_7 rfl (lv_at hl 1 rfl) ?_
      refine p_iald C hW (hS.1 65 (by omega) (by omega)) (by decide) (k := n) rfl (by rw [show ln 65 = 6 by decide]; omega) dX5_finds_8 ?_
      refine w_top (y := .int (nI pl)) (by rw [hk 65 (by decide) (by decide), hpl]) ?_
      refine n_icmp_ge (tgt := 58) hx hb (by omega) (by omega) dX5_finds_9 (by decide) (fun hc_1 => ?_) (fun hc_1 => ?_)
      · skip
        refine lv_iconst (v := nI 1) hx hb dX5_finds_58 (by decide) ?_
        refine w_top (y := .int (bI true)) rfl ?_
        refine lv_istore_n (lv' := [(2, .int (bI true)), (0, .ref (ad 64)), (1, .int (nI n))]) hx hb dX5_finds_59 rfl hl (by decide) rfl (fun ls hl => ?_)
        have lp60 : ∀ (nn : Nat) (k : Nat) (mo : Bool) (Ib : mI), (k ≤ pl) → (pl + 1 ≤ k + nn) → (∀ r, r ≠ 74 → r ≠ 75 → Ib r = I r) → (∀ q, q < pl → Ib 74 q = nI (fsE (itE pl dr to mk k) q)) → (mo = true → k + 1 ≤ numE (itE pl dr to mk k) pl) → (mo = false → ∀ j, agr pl (itE pl dr to mk (k + j)) (itE pl dr to mk k)) → ∀ (H : Heap) (locs : List Loc), Wd D cy A s.heap H locs L ad G Ib J → ∀ (ls : Array Slot), lv_has ls 6 [(0, .ref (ad 64)), (1, .int (nI n)), (2, .int (bI mo))] → W p l e rmX5_finds s m args below meth c H locs 0 0 Q (F0 m 60 ls []) := by
          intro nn
          induction nn with
          | zero => intros; exfalso; omega
          | succ nn ih60 =>
            intro k mo Ib hkl hfu3 hk hr hmo1 hmo0 H locs hW ls hl
            refine lv_iload_n hx hb dX5_finds_60 rfl (lv_at hl 2 rfl) ?_
            refine b_if_eq (tgt := 170) hx hb dX5_finds_61 (by decide) (fun hc_2 => ?_) (fun hc_2 => ?_)
            · skip
              have hL := hmo0 hc_2 (pl - k)
              rw [show k + (pl - k) = pl by omega] at hL
              have hr : ∀ q, q < pl → Ib 74 q = nI (fsE (lastE pl dr to mk) q) := fun q hq => by rw [hr q hq]; exact congrArg nI (fsE_congr hL hq).symm
              refine lv_iconst (v := nI 0) hx hb dX5_finds_170 (by decide) ?_
              refine lv_istore_n (lv' := [(3, .int (nI 0)), (0, .ref (ad 64)), (1, .int (nI n)), (2, .int (bI mo))]) hx hb dX5_finds_171 rfl hl (by decide) rfl (fun ls hl => ?_)
              refine lv_iconst (v := nI 0) hx hb dX5_finds_172 (by decide) ?_
              refine lv_istore (lv' := [(4, .int (nI 0)), (3, .int (nI 0)), (0, .ref (ad 64)), (1, .int (nI n)), (2, .int (bI mo))]) hx hb dX5_finds_173 hl (by decide) rfl (fun ls hl => ?_)
              have lp175 : ∀ (nn : Nat) (a : Nat) (Ie : mI), (a ≤ pl) → (pl + 1 ≤ a + nn) → (∀ r, r ≠ 74 → r ≠ 75 → Ie r = I r) → (∀ q, q < a → Ie 74 q = nI (clsA pl dr to mk q)) → (∀ q, a ≤ q → q < pl → Ie 74 q = nI (fsE (lastE pl dr to mk) q)) → ∀ (H : Heap) (locs : List Loc), Wd D cy A s.heap H locs L ad G Ie J → ∀ (ls : Array Slot), lv_has ls 6 [(0, .ref (ad 64)), (1, .int (nI n)), (3, .int (nI (numE (lastE pl dr to mk) a))), (4, .int (nI a))] → W p l e rmX5_finds s m args below meth c H locs 0 0 Q (F0 m 175 ls []) := by
                intro nn
                induction nn with
                | zero => intros; exfalso; omega
                | succ nn ih175 =>
                  intro a Ie ha hfu7 hk hr4 hr3 H locs hW ls hl
                  refine lv_iload hx hb dX5_finds_175 (lv_at hl 3 rfl) ?_
                  refine lv_aload_n hx hb dX5_finds_177 rfl (lv_at hl 0 rfl) ?_
                  refine g_X5_3 C hinX5 hW (hS.1 64 (by omega) (by omega)) (by decide) (hS.2 3 (by omega) (by omega)) lk7 dX5_finds_178 ?_
                  refine lv_iload_n hx hb dX5_finds_181 rfl (lv_at hl 1 rfl) ?_
                  refine p_iald C hW (hS.1 65 (by omega) (by omega)) (by decide) (k := n) rfl (by rw [show ln 65 = 6 by decide]; omega) dX5_finds_182 ?_
                  refine w_top (y := .int (nI pl)) (by rw [hk 65 (by decide) (by decide), hpl]) ?_
                  refine n_icmp_ge (tgt := 236) hx hb (by omega) (by omega) dX5_finds_183 (by decide) (fun hc_3 => ?_) (fun hc_3 => ?_)
                  · skip
                    refine lv_iload_n hx hb dX5_finds_236 rfl (lv_at hl 2 rfl) ?_
                    exact ret _ _ _ _ _ _ _ _ _ (Nat.le_of_ble_eq_true rfl) (Nat.le_of_ble_eq_true rfl) hW ⟨by rw [show a = pl by omega]; rfl, hk, fun q hq => hr4 q (by omega), rfl⟩ dX5_finds_237
                  · skip
                    have hf1 := fs_lt (lastE pl dr to mk) (show a < pl by omega)
                    have hfl := fsE_le (lastE pl dr to mk) a
                    have hnl := num_lt (lastE pl dr to mk) (show a ≤ pl by omega)
                    refine lv_aload_n hx hb dX5_finds_186 rfl (lv_at hl 0 rfl) ?_
                    refine g_X5_12 C hinX5 hW (hS.1 64 (by omega) (by omega)) (by decide) (hS.2 12 (by omega) (by omega)) lk39 dX5_finds_187 ?_
                    refine lv_iload hx hb dX5_finds_190 (lv_at hl 3 rfl) ?_
                    refine p_iald C hW (hS.1 74 (by omega) (by omega)) (by decide) (k := a) rfl (by rw [show ln 74 = 12 by decide]; omega) dX5_finds_192 ?_
                    refine w_top (y := .int (nI (fsE (lastE pl dr to mk) a))) (by rw [hr3 a (by omega) (by omega)]) ?_
                    refine lv_istore (lv' := [(5, .int (nI (fsE (lastE pl dr to mk) a))), (0, .ref (ad 64)), (1, .int (nI n)), (3, .int (nI (numE (lastE pl dr to mk) a))), (4, .int (nI a))]) hx hb dX5_finds_193 hl (by decide) rfl (fun ls hl => ?_)
                    refine lv_aload_n hx hb dX5_finds_195 rfl (lv_at hl 1 rfl) ?_
                    refine g_X5_12 C hinX5 hW (hS.1 64 (by omega) (by omega)) (by decide) (hS.2 12 (by omega) (by omega)) lk39 dX5_finds_196 ?_
                    refine lv_iload hx hb dX5_finds_199 (lv_at hl 4 rfl) ?_
                    refine lv_iload hx hb dX5_finds_201 (lv_at hl 0 rfl) ?_
                    refine lv_iload hx hb dX5_finds_203 (lv_at hl 4 rfl) ?_
                    refine n_icmp_ne (tgt := 212) hx hb (by omega) (by omega) dX5_finds_205 (by decide) (fun hc_4 => ?_) (fun hc_4 => ?_)
                    · skip
                      refine lv_aload_n hx hb dX5_finds_212 rfl (lv_at hl 1 rfl) ?_
                      refine g_X5_12 C hinX5 hW (hS.1 64 (by omega) (by omega)) (by decide) (hS.2 12 (by omega) (by omega)) lk39 dX5_finds_213 ?_
                      refine lv_iload hx hb dX5_finds_216 (lv_at hl 0 rfl) ?_
                      refine p_iald C hW (hS.1 74 (by omega) (by omega)) (by decide) (k := fsE (lastE pl dr to mk) a) rfl (by rw [show ln 74 = 12 by decide]; omega) dX5_finds_218 ?_
                      refine w_top (y := .int (nI (clsA pl dr to mk (fsE (lastE pl dr to mk) a)))) (by rw [hr4 _ (by omega)]) ?_
                      refine p_iast C hW (hS.1 74 (by omega) (by omega)) (by decide) (k := a) rfl (by rw [show ln 74 = 12 by decide]; omega) dX5_finds_219 (fun H locs hW => ?_)
                      obtain ⟨I5, eI5⟩ : ∃ z, z = va_up Ie 74 (upd (Ie 74) a (nI (clsA pl dr to mk (fsE (lastE pl dr to mk) a)))) := ⟨_, rfl⟩
                      rw [← eI5] at hW
                      refine lv_iload hx hb dX5_finds_220 (lv_at hl 0 rfl) ?_
                      refine lv_iload hx hb dX5_finds_222 (lv_at hl 4 rfl) ?_
                      refine n_icmp_ne (tgt := 230) hx hb (by omega) (by omega) dX5_finds_224 (by decide) (fun hc_6 => ?_) (fun hc_6 => ?_)
                      · skip
                        refine lv_iinc (v := nI (a + 1)) (lv' := [(4, .int (nI (a + 1))), (5, .int (nI (fsE (lastE pl dr to mk) a))), (0, .ref (ad 64)), (1, .int (nI n)), (3, .int (nI (numE (lastE pl dr to mk) a)))]) hx hb dX5_finds_230 hl (k := 4) rfl (nI_inc _) (by decide) rfl (fun ls hl => ?_)
                        refine lv_goto (tgt := 175) hx hb dX5_finds_233 (by decide) ?_
                        have e3 : numE (lastE pl dr to mk) (a + 1) = numE (lastE pl dr to mk) a := by rw [numE, if_pos (by omega)]
                        have hl : lv_has ls 6 [(4, .int (nI (a + 1))), (5, .int (nI (fsE (lastE pl dr to mk) a))), (0, .ref (ad 64)), (1, .int (nI n)), (3, .int (nI (numE (lastE pl dr to mk) (a + 1))))] := by rw [e3]; exact hl
                        have e74 : I5 74 = upd (Ie 74) a (nI (clsA pl dr to mk (fsE (lastE pl dr to mk) a))) := by rw [eI5, va_up_self]
                        exact ih175 (a + 1) I5 (by omega) (by omega) (fun r h1 h2 => by rw [eI5, va_up_ne _ _ h1]; exact hk r h1 h2) (by rw [e74]; exact row_put hr4 (by unfold clsA; rw [fsE_fs (E := lastE pl dr to mk) (itE_eqv pl) (show a < pl by omega)])) (by rw [e74]; exact row_hi hr3) _ _ hW ls (lv_sub hl [2, 3, 4, 0] rfl)
                      · skip
                        exact absurd hc_6 hc_4
                    · skip
                      refine lv_iload_n hx hb dX5_finds_208 rfl (lv_at hl 3 rfl) ?_
                      refine lv_goto (tgt := 219) hx hb dX5_finds_209 (by decide) ?_
                      refine p_iast C hW (hS.1 74 (by omega) (by omega)) (by decide) (k := a) rfl (by rw [show ln 74 = 12 by decide]; omega) dX5_finds_219 (fun H locs hW => ?_)
                      obtain ⟨I7, eI7⟩ : ∃ z, z = va_up Ie 74 (upd (Ie 74) a (nI (numE (lastE pl dr to mk) a))) := ⟨_, rfl⟩
                      rw [← eI7] at hW
                      refine lv_iload hx hb dX5_finds_220 (lv_at hl 0 rfl) ?_
                      refine lv_iload hx hb dX5_finds_222 (lv_at hl 4 rfl) ?_
                      refine n_icmp_ne (tgt := 230) hx hb (by omega) (by omega) dX5_finds_224 (by decide) (fun hc_8 => ?_) (fun hc_8 => ?_)
                      · skip
                        exact absurd hc_4 hc_8
                      · skip
                        refine lv_iinc (v := nI ((numE (lastE pl dr to mk) a) + 1)) (lv' := [(3, .int (nI ((numE (lastE pl dr to mk) a) + 1))), (5, .int (nI (fsE (lastE pl dr to mk) a))), (0, .ref (ad 64)), (1, .int (nI n)), (4, .int (nI a))]) hx hb dX5_finds_227 hl (k := 3) rfl (nI_inc _) (by decide) rfl (fun ls hl => ?_)
                        refine lv_iinc (v := nI (a + 1)) (lv' := [(4, .int (nI (a + 1))), (3, .int (nI ((numE (lastE pl dr to mk) a) + 1))), (5, .int (nI (fsE (lastE pl dr to mk) a))), (0, .ref (ad 64)), (1, .int (nI n))]) hx hb dX5_finds_230 hl (k := 4) rfl (nI_inc _) (by decide) rfl (fun ls hl => ?_)
                        refine lv_goto (tgt := 175) hx hb dX5_finds_233 (by decide) ?_
                        have e3 : numE (lastE pl dr to mk) (a + 1) = numE (lastE pl dr to mk) a + 1 := numE_rep hc_4
                        have hl : lv_has ls 6 [(4, .int (nI (a + 1))), (3, .int (nI (numE (lastE pl dr to mk) (a + 1)))), (5, .int (nI (fsE (lastE pl dr to mk) a))), (0, .ref (ad 64)), (1, .int (nI n))] := by rw [e3]; exact hl
                        have e74 : I7 74 = upd (Ie 74) a (nI (numE (lastE pl dr to mk) a)) := by rw [eI7, va_up_self]
                        exact ih175 (a + 1) I7 (by omega) (by omega) (fun r h1 h2 => by rw [eI7, va_up_ne _ _ h1]; exact hk r h1 h2) (by rw [e74]; exact row_put hr4 (by unfold clsA; rw [hc_4])) (by rw [e74]; exact row_hi hr3) _ _ hW ls (lv_sub hl [3, 4, 1, 0] rfl)
              exact lp175 (pl + 1) 0 Ib (by omega) (by omega) hk (fun q hq => absurd hq (Nat.not_lt_zero q)) (fun q _ hq => hr q hq) _ _ hW ls (lv_sub hl [2, 3, 1, 0] rfl)
            · skip
              refine lv_iconst (v := nI 0) hx hb dX5_finds_64 (by decide) ?_
              refine w_top (y := .int (bI false)) rfl ?_
              refine lv_istore_n (lv' := [(2, .int (bI false)), (0, .ref (ad 64)), (1, .int (nI n))]) hx hb dX5_finds_65 rfl hl (by decide) rfl (fun ls hl => ?_)
              refine lv_iconst (v := nI 0) hx hb dX5_finds_66 (by decide) ?_
              refine lv_istore_n (lv' := [(3, .int (nI 0)), (2, .int (bI false)), (0, .ref (ad 64)), (1, .int (nI n))]) hx hb dX5_finds_67 rfl hl (by decide) rfl (fun ls hl => ?_)
              have lp68 : ∀ (nn : Nat) (a : Nat) (Ic : mI), (a ≤ pl) → (pl + 1 ≤ a + nn) → (∀ r, r ≠ 74 → r ≠ 75 → Ic r = I r) → (∀ q, q < pl → Ic 74 q = nI (fsE (itE pl dr to mk k) q)) → (∀ q, q < a → Ic 75 q = nI (fsE (itE pl dr to mk (k + 1)) q)) → ∀ (H : Heap) (locs : List Loc), Wd D cy A s.heap H locs L ad G Ic J → ∀ (ls : Array Slot), lv_has ls 6 [(0, .ref (ad 64)), (1, .int (nI n)), (2, .int (bI false)), (3, .int (nI a))] → W p l e rmX5_finds s m args below meth c H locs 0 0 Q (F0 m 68 ls []) := by
                intro nn
                induction nn with
                | zero => intros; exfalso; omega
                | succ nn ih68 =>
                  intro a Ic ha hfu4 hk hr hr2 H locs hW ls hl
                  refine lv_iload_n hx hb dX5_finds_68 rfl (lv_at hl 3 rfl) ?_
                  refine lv_aload_n hx hb dX5_finds_69 rfl (lv_at hl 0 rfl) ?_
                  refine g_X5_3 C hinX5 hW (hS.1 64 (by omega) (by omega)) (by decide) (hS.2 3 (by omega) (by omega)) lk7 dX5_finds_70 ?_
                  refine lv_iload_n hx hb dX5_finds_73 rfl (lv_at hl 1 rfl) ?_
                  refine p_iald C hW (hS.1 65 (by omega) (by omega)) (by decide) (k := n) rfl (by rw [show ln 65 = 6 by decide]; omega) dX5_finds_74 ?_
                  refine w_top (y := .int (nI pl)) (by rw [hk 65 (by decide) (by decide), hpl]) ?_
                  refine n_icmp_ge (tgt := 112) hx hb (by omega) (by omega) dX5_finds_75 (by decide) (fun hc_9 => ?_) (fun hc_9 => ?_)
                  · skip
                    refine lv_iconst (v := nI 0) hx hb dX5_finds_112 (by decide) ?_
                    refine lv_istore_n (lv' := [(3, .int (nI 0)), (0, .ref (ad 64)), (1, .int (nI n)), (2, .int (bI false))]) hx hb dX5_finds_113 rfl hl (by decide) rfl (fun ls hl => ?_)
                    have lp114 : ∀ (nn : Nat) (a : Nat) (mo2 : Bool) (Id : mI), (a ≤ pl) → (pl + 1 ≤ a + nn) → (∀ r, r ≠ 74 → r ≠ 75 → Id r = I r) → (∀ q, q < a → Id 74 q = nI (fsE (itE pl dr to mk (k + 1)) q)) → (∀ q, a ≤ q → q < pl → Id 74 q = nI (fsE (itE pl dr to mk k) q)) → (∀ q, q < pl → Id 75 q = nI (fsE (itE pl dr to mk (k + 1)) q)) → (mo2 = false ↔ ∀ q, q < a → fsE (itE pl dr to mk (k + 1)) q = fsE (itE pl dr to mk k) q) → ∀ (H : Heap) (locs : List Loc), Wd D cy A s.heap H locs L ad G Id J → ∀ (ls : Array Slot), lv_has ls 6 [(0, .ref (ad 64)), (1, .int (nI n)), (2, .int (bI mo2)), (3, .int (nI a))] → W p l e rmX5_finds s m args below meth c H locs 0 0 Q (F0 m 114 ls []) := by
                      intro nn
                      induction nn with
                      | zero => intros; exfalso; omega
                      | succ nn ih114 =>
                        intro a mo2 Id ha hfu6 hk hr hr3 hr2 hmm H locs hW ls hl
                        refine lv_iload_n hx hb dX5_finds_114 rfl (lv_at hl 3 rfl) ?_
                        refine lv_aload_n hx hb dX5_finds_115 rfl (lv_at hl 0 rfl) ?_
                        refine g_X5_3 C hinX5 hW (hS.1 64 (by omega) (by omega)) (by decide) (hS.2 3 (by omega) (by omega)) lk7 dX5_finds_116 ?_
                        refine lv_iload_n hx hb dX5_finds_119 rfl (lv_at hl 1 rfl) ?_
                        refine p_iald C hW (hS.1 65 (by omega) (by omega)) (by decide) (k := n) rfl (by rw [show ln 65 = 6 by decide]; omega) dX5_finds_120 ?_
                        refine w_top (y := .int (nI pl)) (by rw [hk 65 (by decide) (by decide), hpl]) ?_
                        refine n_icmp_ge (tgt := 167) hx hb (by omega) (by omega) dX5_finds_121 (by decide) (fun hc_10 => ?_) (fun hc_10 => ?_)
                        · skip
                          refine lv_goto (tgt := 60) hx hb dX5_finds_167 (by decide) ?_
                          exact ih60 (k + 1) mo2 Id (by have := num_lt (itE pl dr to mk k) (Nat.le_refl pl); have := hmo1 hc_2; omega) (by omega) hk (fun q hq => hr q (by omega)) (fun z => it_more (hmo1 hc_2) (fun y => by rw [hmm.mpr (fun q hq => y q (by omega))] at z; cases z)) (fun z => it_less hled (fun q hq => hmm.mp z q (by omega))) _ _ hW ls (lv_sub hl [0, 1, 2] rfl)
                        · skip
                          have hf1 := fs_lt (itE pl dr to mk (k + 1)) (show a < pl by omega)
                          have hf2 := fs_lt (itE pl dr to mk k) (show a < pl by omega)
                          refine lv_iload_n hx hb dX5_finds_124 rfl (lv_at hl 2 rfl) ?_
                          refine b_if_ne (tgt := 143) hx hb dX5_finds_125 (by decide) (fun hc_11 => ?_) (fun hc_11 => ?_)
                          · skip
                            refine lv_iconst (v := nI 1) hx hb dX5_finds_143 (by decide) ?_
                            refine lv_goto (tgt := 148) hx hb dX5_finds_144 (by decide) ?_
                            refine w_top (y := .int (bI (mo2 || decide (fsE (itE pl dr to mk (k + 1)) a ≠ fsE (itE pl dr to mk k) a)))) (by rw [hc_11]; rfl) ?_
                            refine lv_istore_n (lv' := [(2, .int (bI (mo2 || decide (fsE (itE pl dr to mk (k + 1)) a ≠ fsE (itE pl dr to mk k) a)))), (0, .ref (ad 64)), (1, .int (nI n)), (3, .int (nI a))]) hx hb dX5_finds_148 rfl hl (by decide) rfl (fun ls hl => ?_)
                            refine lv_aload_n hx hb dX5_finds_149 rfl (lv_at hl 1 rfl) ?_
                            refine g_X5_12 C hinX5 hW (hS.1 64 (by omega) (by omega)) (by decide) (hS.2 12 (by omega) (by omega)) lk39 dX5_finds_150 ?_
                            refine lv_iload_n hx hb dX5_finds_153 rfl (lv_at hl 3 rfl) ?_
                            refine lv_aload_n hx hb dX5_finds_154 rfl (lv_at hl 1 rfl) ?_
                            refine g_X5_13 C hinX5 hW (hS.1 64 (by omega) (by omega)) (by decide) (hS.2 13 (by omega) (by omega)) lk42 dX5_finds_155 ?_
                            refine lv_iload_n hx hb dX5_finds_158 rfl (lv_at hl 3 rfl) ?_
                            refine p_iald C hW (hS.1 75 (by omega) (by omega)) (by decide) (k := a) rfl (by rw [show ln 75 = 12 by decide]; omega) dX5_finds_159 ?_
                            refine w_top (y := .int (nI (fsE (itE pl dr to mk (k + 1)) a))) (by rw [hr2 a (by omega)]) ?_
                            refine p_iast C hW (hS.1 74 (by omega) (by omega)) (by decide) (k := a) rfl (by rw [show ln 74 = 12 by decide]; omega) dX5_finds_160 (fun H locs hW => ?_)
                            obtain ⟨I12, eI12⟩ : ∃ z, z = va_up Id 74 (upd (Id 74) a (nI (fsE (itE pl dr to mk (k + 1)) a))) := ⟨_, rfl⟩
                            rw [← eI12] at hW
                            refine lv_iinc (v := nI (a + 1)) (lv' := [(3, .int (nI (a + 1))), (2, .int (bI (mo2 || decide (fsE (itE pl dr to mk (k + 1)) a ≠ fsE (itE pl dr to mk k) a)))), (0, .ref (ad 64)), (1, .int (nI n))]) hx hb dX5_finds_161 hl (k := 3) rfl (nI_inc _) (by decide) rfl (fun ls hl => ?_)
                            refine lv_goto (tgt := 114) hx hb dX5_finds_164 (by decide) ?_
                            have e74 : I12 74 = upd (Id 74) a (nI (fsE (itE pl dr to mk (k + 1)) a)) := by rw [eI12, va_up_self]
                            exact ih114 (a + 1) (mo2 || decide (fsE (itE pl dr to mk (k + 1)) a ≠ fsE (itE pl dr to mk k) a)) I12 (by omega) (by omega) (fun r h1 h2 => by rw [eI12, va_up_ne _ _ h1]; exact hk r h1 h2) (by rw [e74]; exact row_put hr rfl) (by rw [e74]; exact row_hi hr3) (by rw [eI12, va_up_ne _ _ (by decide)]; exact hr2) (mo_more hmm) _ _ hW ls (lv_sub hl [2, 3, 1, 0] rfl)
                          · skip
                            refine lv_aload_n hx hb dX5_finds_128 rfl (lv_at hl 0 rfl) ?_
                            refine g_X5_13 C hinX5 hW (hS.1 64 (by omega) (by omega)) (by decide) (hS.2 13 (by omega) (by omega)) lk42 dX5_finds_129 ?_
                            refine lv_iload_n hx hb dX5_finds_132 rfl (lv_at hl 3 rfl) ?_
                            refine p_iald C hW (hS.1 75 (by omega) (by omega)) (by decide) (k := a) rfl (by rw [show ln 75 = 12 by decide]; omega) dX5_finds_133 ?_
                            refine w_top (y := .int (nI (fsE (itE pl dr to mk (k + 1)) a))) (by rw [hr2 a (by omega)]) ?_
                            refine lv_aload_n hx hb dX5_finds_134 rfl (lv_at hl 0 rfl) ?_
                            refine g_X5_12 C hinX5 hW (hS.1 64 (by omega) (by omega)) (by decide) (hS.2 12 (by omega) (by omega)) lk39 dX5_finds_135 ?_
                            refine lv_iload_n hx hb dX5_finds_138 rfl (lv_at hl 3 rfl) ?_
                            refine p_iald C hW (hS.1 74 (by omega) (by omega)) (by decide) (k := a) rfl (by rw [show ln 74 = 12 by decide]; omega) dX5_finds_139 ?_
                            refine w_top (y := .int (nI (fsE (itE pl dr to mk k) a))) (by rw [hr3 a (by omega) (by omega)]) ?_
                            refine n_icmp_eq (tgt := 147) hx hb (by omega) (by omega) dX5_finds_140 (by decide) (fun hc_13 => ?_) (fun hc_13 => ?_)
                            · skip
                              refine lv_iconst (v := nI 0) hx hb dX5_finds_147 (by decide) ?_
                              refine w_top (y := .int (bI (mo2 || decide (fsE (itE pl dr to mk (k + 1)) a ≠ fsE (itE pl dr to mk k) a)))) (by rw [hc_11, decide_eq_false (fun z => z hc_13)]; rfl) ?_
                              refine lv_istore_n (lv' := [(2, .int (bI (mo2 || decide (fsE (itE pl dr to mk (k + 1)) a ≠ fsE (itE pl dr to mk k) a)))), (0, .ref (ad 64)), (1, .int (nI n)), (3, .int (nI a))]) hx hb dX5_finds_148 rfl hl (by decide) rfl (fun ls hl => ?_)
                              refine lv_aload_n hx hb dX5_finds_149 rfl (lv_at hl 1 rfl) ?_
                              refine g_X5_12 C hinX5 hW (hS.1 64 (by omega) (by omega)) (by decide) (hS.2 12 (by omega) (by omega)) lk39 dX5_finds_150 ?_
                              refine lv_iload_n hx hb dX5_finds_153 rfl (lv_at hl 3 rfl) ?_
                              refine lv_aload_n hx hb dX5_finds_154 rfl (lv_at hl 1 rfl) ?_
                              refine g_X5_13 C hinX5 hW (hS.1 64 (by omega) (by omega)) (by decide) (hS.2 13 (by omega) (by omega)) lk42 dX5_finds_155 ?_
                              refine lv_iload_n hx hb dX5_finds_158 rfl (lv_at hl 3 rfl) ?_
                              refine p_iald C hW (hS.1 75 (by omega) (by omega)) (by decide) (k := a) rfl (by rw [show ln 75 = 12 by decide]; omega) dX5_finds_159 ?_
                              refine w_top (y := .int (nI (fsE (itE pl dr to mk (k + 1)) a))) (by rw [hr2 a (by omega)]) ?_
                              refine p_iast C hW (hS.1 74 (by omega) (by omega)) (by decide) (k := a) rfl (by rw [show ln 74 = 12 by decide]; omega) dX5_finds_160 (fun H locs hW => ?_)
                              obtain ⟨I14, eI14⟩ : ∃ z, z = va_up Id 74 (upd (Id 74) a (nI (fsE (itE pl dr to mk (k + 1)) a))) := ⟨_, rfl⟩
                              rw [← eI14] at hW
                              refine lv_iinc (v := nI (a + 1)) (lv' := [(3, .int (nI (a + 1))), (2, .int (bI (mo2 || decide (fsE (itE pl dr to mk (k + 1)) a ≠ fsE (itE pl dr to mk k) a)))), (0, .ref (ad 64)), (1, .int (nI n))]) hx hb dX5_finds_161 hl (k := 3) rfl (nI_inc _) (by decide) rfl (fun ls hl => ?_)
                              refine lv_goto (tgt := 114) hx hb dX5_finds_164 (by decide) ?_
                              have e74 : I14 74 = upd (Id 74) a (nI (fsE (itE pl dr to mk (k + 1)) a)) := by rw [eI14, va_up_self]
                              exact ih114 (a + 1) (mo2 || decide (fsE (itE pl dr to mk (k + 1)) a ≠ fsE (itE pl dr to mk k) a)) I14 (by omega) (by omega) (fun r h1 h2 => by rw [eI14, va_up_ne _ _ h1]; exact hk r h1 h2) (by rw [e74]; exact row_put hr rfl) (by rw [e74]; exact row_hi hr3) (by rw [eI14, va_up_ne _ _ (by decide)]; exact hr2) (mo_more hmm) _ _ hW ls (lv_sub hl [2, 3, 1, 0] rfl)
                            · skip
                              refine lv_iconst (v := nI 1) hx hb dX5_finds_143 (by decide) ?_
                              refine lv_goto (tgt := 148) hx hb dX5_finds_144 (by decide) ?_
                              refine w_top (y := .int (bI (mo2 || decide (fsE (itE pl dr to mk (k + 1)) a ≠ fsE (itE pl dr to mk k) a)))) (by rw [hc_11, decide_eq_true hc_13]; rfl) ?_
                              refine lv_istore_n (lv' := [(2, .int (bI (mo2 || decide (fsE (itE pl dr to mk (k + 1)) a ≠ fsE (itE pl dr to mk k) a)))), (0, .ref (ad 64)), (1, .int (nI n)), (3, .int (nI a))]) hx hb dX5_finds_148 rfl hl (by decide) rfl (fun ls hl => ?_)
                              refine lv_aload_n hx hb dX5_finds_149 rfl (lv_at hl 1 rfl) ?_
                              refine g_X5_12 C hinX5 hW (hS.1 64 (by omega) (by omega)) (by decide) (hS.2 12 (by omega) (by omega)) lk39 dX5_finds_150 ?_
                              refine lv_iload_n hx hb dX5_finds_153 rfl (lv_at hl 3 rfl) ?_
                              refine lv_aload_n hx hb dX5_finds_154 rfl (lv_at hl 1 rfl) ?_
                              refine g_X5_13 C hinX5 hW (hS.1 64 (by omega) (by omega)) (by decide) (hS.2 13 (by omega) (by omega)) lk42 dX5_finds_155 ?_
                              refine lv_iload_n hx hb dX5_finds_158 rfl (lv_at hl 3 rfl) ?_
                              refine p_iald C hW (hS.1 75 (by omega) (by omega)) (by decide) (k := a) rfl (by rw [show ln 75 = 12 by decide]; omega) dX5_finds_159 ?_
                              refine w_top (y := .int (nI (fsE (itE pl dr to mk (k + 1)) a))) (by rw [hr2 a (by omega)]) ?_
                              refine p_iast C hW (hS.1 74 (by omega) (by omega)) (by decide) (k := a) rfl (by rw [show ln 74 = 12 by decide]; omega) dX5_finds_160 (fun H locs hW => ?_)
                              obtain ⟨I15, eI15⟩ : ∃ z, z = va_up Id 74 (upd (Id 74) a (nI (fsE (itE pl dr to mk (k + 1)) a))) := ⟨_, rfl⟩
                              rw [← eI15] at hW
                              refine lv_iinc (v := nI (a + 1)) (lv' := [(3, .int (nI (a + 1))), (2, .int (bI (mo2 || decide (fsE (itE pl dr to mk (k + 1)) a ≠ fsE (itE pl dr to mk k) a)))), (0, .ref (ad 64)), (1, .int (nI n))]) hx hb dX5_finds_161 hl (k := 3) rfl (nI_inc _) (by decide) rfl (fun ls hl => ?_)
                              refine lv_goto (tgt := 114) hx hb dX5_finds_164 (by decide) ?_
                              have e74 : I15 74 = upd (Id 74) a (nI (fsE (itE pl dr to mk (k + 1)) a)) := by rw [eI15, va_up_self]
                              exact ih114 (a + 1) (mo2 || decide (fsE (itE pl dr to mk (k + 1)) a ≠ fsE (itE pl dr to mk k) a)) I15 (by omega) (by omega) (fun r h1 h2 => by rw [eI15, va_up_ne _ _ h1]; exact hk r h1 h2) (by rw [e74]; exact row_put hr rfl) (by rw [e74]; exact row_hi hr3) (by rw [eI15, va_up_ne _ _ (by decide)]; exact hr2) (mo_more hmm) _ _ hW ls (lv_sub hl [2, 3, 1, 0] rfl)
                    exact lp114 (pl + 1) 0 false Ic (by omega) (by omega) hk (fun q hq => absurd hq (Nat.not_lt_zero q)) (fun q _ hq => hr q hq) (fun q hq => hr2 q (by omega)) ⟨fun _ q hq => absurd hq (Nat.not_lt_zero q), fun _ => rfl⟩ _ _ hW ls (lv_sub hl [1, 2, 3, 0] rfl)
                  · skip
                    refine lv_iconst (v := nI 0) hx hb dX5_finds_78 (by decide) ?_
                    refine lv_istore (lv' := [(4, .int (nI 0)), (0, .ref (ad 64)), (1, .int (nI n)), (2, .int (bI false)), (3, .int (nI a))]) hx hb dX5_finds_79 hl (by decide) rfl (fun ls hl => ?_)
                    have lp81 : ∀ (nn : Nat) (b : Nat), (b ≤ fsE (itE pl dr to mk (k + 1)) a) → (fsE (itE pl dr to mk (k + 1)) a + 1 ≤ b + nn) → ∀ (H : Heap) (locs : List Loc), Wd D cy A s.heap H locs L ad G Ic J → ∀ (ls : Array Slot), lv_has ls 6 [(0, .ref (ad 64)), (1, .int (nI n)), (2, .int (bI false)), (3, .int (nI a)), (4, .int (nI b))] → W p l e rmX5_finds s m args below meth c H locs 0 0 Q (F0 m 81 ls []) := by
                      intro nn
                      induction nn with
                      | zero => intros; exfalso; omega
                      | succ nn ih81 =>
                        intro b hb0 hfu5 H locs hW ls hl
                        have hfl := fsE_le (itE pl dr to mk (k + 1)) a
                        refine lv_aload_n hx hb dX5_finds_81 rfl (lv_at hl 0 rfl) ?_
                        refine lv_iload_n hx hb dX5_finds_82 rfl (lv_at hl 1 rfl) ?_
                        refine lv_iload_n hx hb dX5_finds_83 rfl (lv_at hl 3 rfl) ?_
                        refine lv_iload hx hb dX5_finds_84 (lv_at hl 4 rfl) ?_
                        refine p_cVi C hml hg hW (c_X5_areAlike l D cy L ad G Ic J hS n pl dr hn6 (by rw [hk 65 (by decide) (by decide)]; exact hpl) hp12 (by rw [hk 66 (by decide) (by decide)]; exact hdr) hd4 to (by rw [hk 67 (by decide) (by decide)]; exact hto) ht48 hled (fsE (itE pl dr to mk k)) hr (fun q hq => by have := fs_lt (itE pl dr to mk k) hq; omega) a b (by omega) (by omega)) (cwV 3 C.2.2.2.1 gX5_finds_X5_areAlike rfl rfl rfl (by decide +kernel) ⟨Nat.le_of_ble_eq_true rfl, Nat.le_of_ble_eq_true rfl⟩) (p_recv C hW (hS.1 64 (by omega) (by omega)) (pF_5 (by decide)) rfl) rfl hl.1 rfl (Nat.le_of_ble_eq_true rfl) dX5_finds_86 (Nat.le_of_ble_eq_true rfl) (Nat.le_of_ble_eq_true rfl) (fun v16 I17 J18 H locs hp hW => ?_)
                        obtain ⟨hv, hI, hJ⟩ := hp
                        subst v16
                        subst I17
                        subst J18
                        refine b_if_ne (tgt := 98) hx hb dX5_finds_89 (by decide) (fun hc_19 => ?_) (fun hc_19 => ?_)
                        · skip
                          refine lv_aload_n hx hb dX5_finds_98 rfl (lv_at hl 0 rfl) ?_
                          refine g_X5_13 C hinX5 hW (hS.1 64 (by omega) (by omega)) (by decide) (hS.2 13 (by omega) (by omega)) lk42 dX5_finds_99 ?_
                          refine lv_iload_n hx hb dX5_finds_102 rfl (lv_at hl 3 rfl) ?_
                          refine lv_iload hx hb dX5_finds_103 (lv_at hl 4 rfl) ?_
                          refine p_iast C hW (hS.1 75 (by omega) (by omega)) (by decide) (k := a) rfl (by rw [show ln 75 = 12 by decide]; omega) dX5_finds_105 (fun H locs hW => ?_)
                          obtain ⟨I20, eI20⟩ : ∃ z, z = va_up Ic 75 (upd (Ic 75) a (nI b)) := ⟨_, rfl⟩
                          rw [← eI20] at hW
                          refine lv_iinc (v := nI (a + 1)) (lv' := [(3, .int (nI (a + 1))), (0, .ref (ad 64)), (1, .int (nI n)), (2, .int (bI false)), (4, .int (nI b))]) hx hb dX5_finds_106 hl (k := 3) rfl (nI_inc _) (by decide) rfl (fun ls hl => ?_)
                          refine lv_goto (tgt := 68) hx hb dX5_finds_109 (by decide) ?_
                          have e75 : I20 75 = upd (Ic 75) a (nI b) := by rw [eI20, va_up_self]
                          exact ih68 (a + 1) I20 (by omega) (by omega) (fun r h1 h2 => by rw [eI20, va_up_ne _ _ h2]; exact hk r h1 h2) (by rw [eI20, va_up_ne _ _ (by decide)]; exact hr) (by rw [e75]; exact row_put hr2 (fh_hit (N := pl) hb0 (by have z := hc_19; rw [alk_nx (itE_eqv k) (show a < pl by omega) (show b < pl by omega)] at z; exact z))) _ _ hW ls (lv_sub hl [1, 2, 3, 0] rfl)
                        · skip
                          refine lv_iinc (v := nI (b + 1)) (lv' := [(4, .int (nI (b + 1))), (0, .ref (ad 64)), (1, .int (nI n)), (2, .int (bI false)), (3, .int (nI a))]) hx hb dX5_finds_92 hl (k := 4) rfl (nI_inc _) (by decide) rfl (fun ls hl => ?_)
                          refine lv_goto (tgt := 81) hx hb dX5_finds_95 (by decide) ?_
                          exact ih81 (b + 1) (fh_miss (itE_eqv (k + 1)) (show a < pl by omega) hb0 (fun z => by rw [alk_nx (itE_eqv k) (show a < pl by omega) (show b < pl by omega)] at hc_19; exact absurd (hc_19.symm.trans z) (by decide))) (by omega) _ _ hW ls (lv_sub hl [1, 2, 3, 4, 0] rfl)
                    exact lp81 (fsE (itE pl dr to mk (k + 1)) a + 1) 0 (by omega) (by omega) _ _ hW ls (lv_sub hl [1, 2, 3, 4, 0] rfl)
              exact lp68 (pl + 1) 0 Ib (by omega) (by omega) hk hr (fun q hq => absurd hq (Nat.not_lt_zero q)) _ _ hW ls (lv_sub hl [2, 3, 1, 0] rfl)
        exact lp60 (pl + 1) 0 true Ia (by omega) (by omega) hk (fun q hq => hr q (by omega)) (fun _ => num1 _ hp1) (fun z => absurd z (by decide)) _ _ hW ls (lv_sub hl [1, 2, 0] rfl)
      · skip
        refine lv_iconst (v := nI 0) hx hb dX5_finds_12 (by decide) ?_
        refine lv_istore_n (lv' := [(3, .int (nI 0)), (0, .ref (ad 64)), (1, .int (nI n)), (2, .int (nI a))]) hx hb dX5_finds_13 rfl hl (by decide) rfl (fun ls hl => ?_)
        have lp14 : ∀ (nn : Nat) (b : Nat), (b ≤ fsE (itE pl dr to mk 0) a) → (fsE (itE pl dr to mk 0) a + 1 ≤ b + nn) → ∀ (H : Heap) (locs : List Loc), Wd D cy A s.heap H locs L ad G Ia J → ∀ (ls : Array Slot), lv_has ls 6 [(0, .ref (ad 64)), (1, .int (nI n)), (2, .int (nI a)), (3, .int (nI b))] → W p l e rmX5_finds s m args below meth c H locs 0 0 Q (F0 m 14 ls []) := by
          intro nn
          induction nn with
          | zero => intros; exfalso; omega
          | succ nn ih14 =>
            intro b hb0 hfu2 H locs hW ls hl
            have hfl := fsE_le (itE pl dr to mk 0) a
            refine lv_aload_n hx hb dX5_finds_14 rfl (lv_at hl 0 rfl) ?_
            refine g_X5_6 C hinX5 hW (hS.1 64 (by omega) (by omega)) (by decide) (hS.2 6 (by omega) (by omega)) lk19 dX5_finds_15 ?_
            refine lv_bipush (v := nI 12) hx hb dX5_finds_18 (by decide) ?_
            refine lv_iload_n hx hb dX5_finds_20 rfl (lv_at hl 1 rfl) ?_
            refine n_imul hx hb dX5_finds_21 ?_
            refine lv_iload_n hx hb dX5_finds_22 rfl (lv_at hl 3 rfl) ?_
            refine n_iadd hx hb dX5_finds_23 ?_
            refine p_zald C hW (hS.1 68 (by omega) (by omega)) (by decide) (k := (12 * n) + b) rfl (by rw [show ln 68 = 72 by decide]; omega) dX5_finds_24 ?_
            refine w_top (y := .int (bI (mk b))) (by rw [hk 68 (by decide) (by decide), hmk _ (by omega)]) ?_
            refine lv_aload_n hx hb dX5_finds_25 rfl (lv_at hl 0 rfl) ?_
            refine g_X5_6 C hinX5 hW (hS.1 64 (by omega) (by omega)) (by decide) (hS.2 6 (by omega) (by omega)) lk19 dX5_finds_26 ?_
            refine lv_bipush (v := nI 12) hx hb dX5_finds_29 (by decide) ?_
            refine lv_iload_n hx hb dX5_finds_31 rfl (lv_at hl 1 rfl) ?_
            refine n_imul hx hb dX5_finds_32 ?_
            refine lv_iload_n hx hb dX5_finds_33 rfl (lv_at hl 2 rfl) ?_
            refine n_iadd hx hb dX5_finds_34 ?_
            refine p_zald C hW (hS.1 68 (by omega) (by omega)) (by decide) (k := (12 * n) + a) rfl (by rw [show ln 68 = 72 by decide]; omega) dX5_finds_35 ?_
            refine w_top (y := .int (bI (mk a))) (by rw [hk 68 (by decide) (by decide), hmk _ (by omega)]) ?_
            refine lv_icmp_eq (tgt := 45) hx hb dX5_finds_36 (by decide) (fun hc_21 => ?_) (fun hc_21 => ?_)
            · skip
              refine lv_aload_n hx hb dX5_finds_45 rfl (lv_at hl 0 rfl) ?_
              refine g_X5_12 C hinX5 hW (hS.1 64 (by omega) (by omega)) (by decide) (hS.2 12 (by omega) (by omega)) lk39 dX5_finds_46 ?_
              refine lv_iload_n hx hb dX5_finds_49 rfl (lv_at hl 2 rfl) ?_
              refine lv_iload_n hx hb dX5_finds_50 rfl (lv_at hl 3 rfl) ?_
              refine p_iast C hW (hS.1 74 (by omega) (by omega)) (by decide) (k := a) rfl (by rw [show ln 74 = 12 by decide]; omega) dX5_finds_51 (fun H locs hW => ?_)
              obtain ⟨I22, eI22⟩ : ∃ z, z = va_up Ia 74 (upd (Ia 74) a (nI b)) := ⟨_, rfl⟩
              rw [← eI22] at hW
              refine lv_iinc (v := nI (a + 1)) (lv' := [(2, .int (nI (a + 1))), (0, .ref (ad 64)), (1, .int (nI n)), (3, .int (nI b))]) hx hb dX5_finds_52 hl (k := 2) rfl (nI_inc _) (by decide) rfl (fun ls hl => ?_)
              refine lv_goto (tgt := 2) hx hb dX5_finds_55 (by decide) ?_
              have e74 : I22 74 = upd (Ia 74) a (nI b) := by rw [eI22, va_up_self]
              exact ih2 (a + 1) I22 (by omega) (by omega) (fun r h1 h2 => by rw [eI22, va_up_ne _ _ h1]; exact hk r h1 h2) (by rw [e74]; exact row_put hr (fh_hit (N := pl) hb0 (decide_eq_true (bI_inj.mp hc_21)))) _ _ hW ls (lv_sub hl [1, 2, 0] rfl)
            · skip
              refine lv_iinc (v := nI (b + 1)) (lv' := [(3, .int (nI (b + 1))), (0, .ref (ad 64)), (1, .int (nI n)), (2, .int (nI a))]) hx hb dX5_finds_39 hl (k := 3) rfl (nI_inc _) (by decide) rfl (fun ls hl => ?_)
              refine lv_goto (tgt := 14) hx hb dX5_finds_42 (by decide) ?_
              exact ih14 (b + 1) (fh_miss (itE_eqv 0) (show a < pl by omega) hb0 (fun z => hc_21 (bI_inj.mpr (of_decide_eq_true z)))) (by omega) _ _ hW ls (lv_sub hl [1, 2, 3, 0] rfl)
        exact lp14 (fsE (itE pl dr to mk 0) a + 1) 0 (by omega) (by omega) _ _ hW ls (lv_sub hl [1, 2, 3, 0] rfl)
  exact lp2 (pl + 1) 0 I (by omega) (by omega) (fun _ _ _ => rfl) (fun q hq => absurd hq (Nat.not_lt_zero q)) _ _ hW ls (lv_sub hl [1, 2, 0] rfl)
