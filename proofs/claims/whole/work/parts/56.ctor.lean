/-! THE CONSTRUCTORS -/
def nX3 (L : List Nat) (ad : Nat → Nat) (G : mG) (I : mI) (J : mJ) (w q : Nat) : nPost := fun L' ad' G' I' J' => L' = L ++ [q] ∧ clo L' G' ∧ (∀ r, r ∈ L → ad' r = ad r) ∧ (∀ r, r ≠ w → r ≠ q → G' r = G r ∧ I' r = I r ∧ J' r = J r) ∧ G' w = va_up (G w) 0 (some q) ∧ G' q = (fun _ => none) ∧ I' w 1 = nI 0 ∧ J' q = fun _ => 0
def nX0 (L : List Nat) (ad : Nat → Nat) (G : mG) (I : mI) (J : mJ) (w a b : Nat) : nPost := fun L' ad' G' I' J' => L' = L ++ [a] ++ [b] ∧ clo L' G' ∧ (∀ r, r ∈ L → ad' r = ad r) ∧ (∀ r, r ≠ w → r ≠ a → r ≠ b → G' r = G r ∧ I' r = I r ∧ J' r = J r) ∧ G' w = va_up (va_up (G w) 0 (some a)) 1 (some b) ∧ G' a = (fun _ => none) ∧ G' b = fun _ => none
def nX1 (L : List Nat) (ad : Nat → Nat) (G : mG) (I : mI) (J : mJ) (n t k pl dr : Nat) : nPost := fun L' ad' G' I' J' => L' = L ++ [t] ++ [k] ∧ clo L' G' ∧ (∀ r, r ∈ L → ad' r = ad r) ∧ (∀ r, r ≠ n → r ≠ t → r ≠ k → G' r = G r ∧ I' r = I r ∧ J' r = J r) ∧ G' n = va_up (va_up (G n) 4 (some t)) 5 (some k) ∧ I' n 0 = nI pl ∧ I' n 1 = nI dr ∧ I' n 2 = nI (scN dr) ∧ J' n 3 = hvOf dr ∧ I' n 6 = bI false ∧ (∀ c, c < 48 → I' t c = nI c) ∧ ∀ c, c < 12 → I' k c = bI false
def nX2 (L : List Nat) (ad : Nat → Nat) (G : mG) (I : mI) (J : mJ) (v w q n : Nat) (x : Int32) : nPost := fun L' ad' G' I' J' => L' = L ++ [w] ++ [q] ∧ clo L' G' ∧ (∀ r, r ∈ L → ad' r = ad r) ∧ (∀ r, r ≠ v → r ≠ w → r ≠ q → G' r = G r ∧ I' r = I r ∧ J' r = J r) ∧ G' v = va_up (va_up (G v) 2 (some w)) 1 (some n) ∧ G' w 0 = some q ∧ I' v 0 = x ∧ I' w 1 = nI 0 ∧ J' q = fun _ => 0
abbrev rmX3_init : Room := { frames := 1, cells := 1, slots := 48, locals := 20 }
set_option maxHeartbeats 400000 in
set_option maxRecDepth 100000 in
theorem c_X3_init (l : Launch) (D : va_G) (cy : Nat → ClassId) (L : List Nat) (ad : Nat → Nat) (G : mG) (I : mI) (J : mJ) (hcl : clo L G) (w q : Nat) (hw : w ∈ L) (kw : kd w = 3) (hq : q ∉ L) (kq : kd q = 7) (lq : ln q = 48) : pMet l yX3_init wsX3_init rmX3_init D cy L ad G I J [.ref (ad w)] (qN (nX3 L ad G I J w q) D cy) := by
  refine pMet.ofN (cc := cX3_init) (maxL := 1) (by decide +kernel) rfl (Nat.le_of_ble_eq_true rfl) ?_
  intro p e R s m args below meth c A Q C hml hR hnm hg ret hW ls hl
  subst hR
  have C : Cx p s m args c cX3_init RX3 wsX3_init D cy A := C
  have hx := C.1
  have hb := C.2.1
  have lk9 := C.2.2.2.1 (.fieldLink RX3 9 "WaveWalk$Wave" "numbers" "[J") (by decide +kernel)
  have lk15 := C.2.2.2.1 (.fieldLink RX3 15 "WaveWalk$Wave" "time" "I") (by decide +kernel)
  have hinX3 : ∀ w ∈ wsX30, w ∈ wsX3_init := by decide +kernel
  have hl : lv_has ls 1 [(0, .ref (ad w))] := hl
  have hwq : w ≠ q := fun e => hq (e ▸ hw)
  refine lv_aload_n hx hb dX3_init_0 rfl (lv_at hl 0 rfl) ?_
  refine W.objInit hx hb C.2.2.1 (C.2.2.2.1 (.methodLink RX3 3 objectInit) (by decide +kernel)) (C.2.2.2.1 (.instanceMethod objectInit) (by decide +kernel)) (C.2.2.2.1 (.code objectInit ⟨#[0xb1]⟩ 1 none) (List.mem_cons_of_mem _ (List.mem_append_left _ (List.mem_of_getElem? (i := 2) rfl)))) rfl (hl.1.trans hml.symm) rfl dX3_init_1 (Nat.le_of_ble_eq_true rfl) (Nat.le_of_ble_eq_true rfl) ?_
  show W p l e rmX3_init s m args below meth c s.heap [] 0 0 Q (F0 m 4 ls [])
  refine lv_aload_n hx hb dX3_init_4 rfl (lv_at hl 0 rfl) ?_
  refine lv_bipush (v := nI 48) hx hb dX3_init_5 (by decide) ?_
  refine p_newa C hW hcl hq (atype := .long) (C.2.2.2.1 (.arrayClass .long) (by decide +kernel)) (ty := .long) rfl (i := 1) (N := 48) rfl (by decide) (by decide) (a0 := (48, .inr (.inl (fun _ => 0)))) (fun _ => rfl) (fun a => by rw [da7 kq a, lq]) (Nat.le_of_ble_eq_true rfl) (Nat.le_of_ble_eq_true rfl) dX3_init_7 (fun ad1 H hag2 hW => ?_)
  rw [← hag2 w hw]
  have hl : lv_has ls 1 [(0, .ref (ad1 w))] := by rw [hag2 w hw]; exact hl
  obtain ⟨L3, eL3⟩ : ∃ z, z = L ++ [q] := ⟨_, rfl⟩
  rw [← eL3] at hW
  obtain ⟨G4, eG4⟩ : ∃ z, z = va_up G q (fun _ => (none : Option Nat)) := ⟨_, rfl⟩
  rw [← eG4] at hW
  obtain ⟨I5, eI5⟩ : ∃ z, z = va_up I q (fun _ => (0 : Int32)) := ⟨_, rfl⟩
  rw [← eI5] at hW
  obtain ⟨J6, eJ6⟩ : ∃ z, z = va_up J q (fun _ => (0 : Int64)) := ⟨_, rfl⟩
  rw [← eJ6] at hW
  have cl7 : clo L3 G4 := clo_new hcl hq eL3 eG4
  have mo8 : ∀ q, q ∈ L → q ∈ L3 := fun q h => mem_old eL3 h
  refine f_X3_0 C hnm hinX3 hW (mo8 _ hw) kw lk9 dX3_init_9 (fun H locs hW => ?_)
  obtain ⟨G9, eG9⟩ : ∃ z, z = va_up G4 w (va_up (G4 w) 0 (some q)) := ⟨_, rfl⟩
  rw [← eG9] at hW
  have cl10 : clo L3 G9 := clo_put cl7 (mo8 _ hw) (mem_new eL3) eG9
  refine lv_aload_n hx hb dX3_init_12 rfl (lv_at hl 0 rfl) ?_
  refine lv_iconst (v := nI 0) hx hb dX3_init_13 (by decide) ?_
  refine s_X3_1 C hinX3 hW (mo8 _ hw) kw lk15 dX3_init_14 (fun H locs hW => ?_)
  obtain ⟨I11, eI11⟩ : ∃ z, z = va_up I5 w (upd (I5 w) 1 (nI 0)) := ⟨_, rfl⟩
  rw [← eI11] at hW
  exact ret _ _ _ _ _ _ _ _ _ _ _ (Nat.le_of_ble_eq_true rfl) (Nat.le_of_ble_eq_true rfl) hW ⟨by rw [eL3], cl10, (fun q hq => hag2 q hq), fun r h1 h2 => ⟨by rw [eG9, va_up_ne _ _ h1, eG4, va_up_ne _ _ h2], by rw [eI11, va_up_ne _ _ h1, eI5, va_up_ne _ _ h2], by rw [eJ6, va_up_ne _ _ h2]⟩, by rw [eG9, va_up_self, eG4, va_up_ne _ _ hwq], by rw [eG9, va_up_ne _ _ (Ne.symm hwq), eG4, va_up_self], by rw [eI11, va_up_self, pk_us], by rw [eJ6, va_up_self]⟩ dX3_init_17
abbrev rmX0_init : Room := { frames := 1, cells := 2, slots := 24, locals := 20 }
set_option maxHeartbeats 400000 in
set_option maxRecDepth 100000 in
theorem c_X0_init (l : Launch) (D : va_G) (cy : Nat → ClassId) (L : List Nat) (ad : Nat → Nat) (G : mG) (I : mI) (J : mJ) (hcl : clo L G) (w a b : Nat) (hw : w ∈ L) (kw : kd w = 0) (ha : a ∉ L) (ka : kd a = 6) (la : ln a = 12) (hb0 : b ∉ L) (kb : kd b = 7) (lb : ln b = 12) (hab : a ≠ b) : pMet l yX0_init wsX0_init rmX0_init D cy L ad G I J [.ref (ad w)] (qN (nX0 L ad G I J w a b) D cy) := by
  refine pMet.ofN (cc := cX0_init) (maxL := 1) (by decide +kernel) rfl (Nat.le_of_ble_eq_true rfl) ?_
  intro p e R s m args below meth c A Q C hml hR hnm hg ret hW ls hl
  subst hR
  have C : Cx p s m args c cX0_init RX0 wsX0_init D cy A := C
  have hx := C.1
  have hb := C.2.1
  have lk11 := C.2.2.2.1 (.fieldLink RX0 11 "WaveWalk$Classes" "ofPlace" "[I") (by decide +kernel)
  have lk15 := C.2.2.2.1 (.fieldLink RX0 15 "WaveWalk$Classes" "keys" "[J") (by decide +kernel)
  have lk19 := C.2.2.2.1 (.fieldLink RX0 19 "WaveWalk$Classes" "number" "I") (by decide +kernel)
  have hinX0 : ∀ w ∈ wsX00, w ∈ wsX0_init := by decide +kernel
  have hl : lv_has ls 1 [(0, .ref (ad w))] := hl
  have hwa : w ≠ a := fun e => ha (e ▸ hw)
  have hwb : w ≠ b := fun e => hb0 (e ▸ hw)
  refine lv_aload_n hx hb dX0_init_0 rfl (lv_at hl 0 rfl) ?_
  refine W.objInit hx hb C.2.2.1 (C.2.2.2.1 (.methodLink RX0 5 objectInit) (by decide +kernel)) (C.2.2.2.1 (.instanceMethod objectInit) (by decide +kernel)) (C.2.2.2.1 (.code objectInit ⟨#[0xb1]⟩ 1 none) (List.mem_cons_of_mem _ (List.mem_append_left _ (List.mem_of_getElem? (i := 2) rfl)))) rfl (hl.1.trans hml.symm) rfl dX0_init_1 (Nat.le_of_ble_eq_true rfl) (Nat.le_of_ble_eq_true rfl) ?_
  show W p l e rmX0_init s m args below meth c s.heap [] 0 0 Q (F0 m 4 ls [])
  refine lv_aload_n hx hb dX0_init_4 rfl (lv_at hl 0 rfl) ?_
  refine lv_bipush (v := nI 12) hx hb dX0_init_5 (by decide) ?_
  refine p_newa C hW hcl ha (atype := .int) (C.2.2.2.1 (.arrayClass .int) (by decide +kernel)) (ty := .int) rfl (i := 0) (N := 12) rfl (by decide) (by decide) (a0 := (12, .inl (fun _ => 0))) (fun _ => rfl) (fun a => by rw [da6 ka a, la]) (Nat.le_of_ble_eq_true rfl) (Nat.le_of_ble_eq_true rfl) dX0_init_7 (fun ad1 H hag2 hW => ?_)
  rw [← hag2 w hw]
  have hl : lv_has ls 1 [(0, .ref (ad1 w))] := by rw [hag2 w hw]; exact hl
  obtain ⟨L3, eL3⟩ : ∃ z, z = L ++ [a] := ⟨_, rfl⟩
  rw [← eL3] at hW
  obtain ⟨G4, eG4⟩ : ∃ z, z = va_up G a (fun _ => (none : Option Nat)) := ⟨_, rfl⟩
  rw [← eG4] at hW
  obtain ⟨I5, eI5⟩ : ∃ z, z = va_up I a (fun _ => (0 : Int32)) := ⟨_, rfl⟩
  rw [← eI5] at hW
  obtain ⟨J6, eJ6⟩ : ∃ z, z = va_up J a (fun _ => (0 : Int64)) := ⟨_, rfl⟩
  rw [← eJ6] at hW
  have cl7 : clo L3 G4 := clo_new hcl ha eL3 eG4
  have mo8 : ∀ q, q ∈ L → q ∈ L3 := fun q h => mem_old eL3 h
  refine f_X0_0 C hnm hinX0 hW (mo8 _ hw) kw lk11 dX0_init_9 (fun H locs hW => ?_)
  obtain ⟨G9, eG9⟩ : ∃ z, z = va_up G4 w (va_up (G4 w) 0 (some a)) := ⟨_, rfl⟩
  rw [← eG9] at hW
  have cl10 : clo L3 G9 := clo_put cl7 (mo8 _ hw) (mem_new eL3) eG9
  refine lv_aload_n hx hb dX0_init_12 rfl (lv_at hl 0 rfl) ?_
  refine lv_bipush (v := nI 12) hx hb dX0_init_13 (by decide) ?_
  refine p_newa C hW cl10 (nin_push eL3 hb0 (Ne.symm hab)) (atype := .long) (C.2.2.2.1 (.arrayClass .long) (by decide +kernel)) (ty := .long) rfl (i := 1) (N := 12) rfl (by decide) (by decide) (a0 := (12, .inr (.inl (fun _ => 0)))) (fun _ => rfl) (fun a => by rw [da7 kb a, lb]) (Nat.le_of_ble_eq_true rfl) (Nat.le_of_ble_eq_true rfl) dX0_init_15 (fun ad11 H hag12 hW => ?_)
  rw [← hag12 w (mo8 _ hw)]
  have hl : lv_has ls 1 [(0, .ref (ad11 w))] := by rw [hag12 w (mo8 _ hw)]; exact hl
  obtain ⟨L13, eL13⟩ : ∃ z, z = L3 ++ [b] := ⟨_, rfl⟩
  rw [← eL13] at hW
  obtain ⟨G14, eG14⟩ : ∃ z, z = va_up G9 b (fun _ => (none : Option Nat)) := ⟨_, rfl⟩
  rw [← eG14] at hW
  obtain ⟨I15, eI15⟩ : ∃ z, z = va_up I5 b (fun _ => (0 : Int32)) := ⟨_, rfl⟩
  rw [← eI15] at hW
  obtain ⟨J16, eJ16⟩ : ∃ z, z = va_up J6 b (fun _ => (0 : Int64)) := ⟨_, rfl⟩
  rw [← eJ16] at hW
  have cl17 : clo L13 G14 := clo_new cl10 (nin_push eL3 hb0 (Ne.symm hab)) eL13 eG14
  have mo18 : ∀ q, q ∈ L3 → q ∈ L13 := fun q h => mem_old eL13 h
  refine f_X0_1 C hnm hinX0 hW (mo18 _ (mo8 _ hw)) kw lk15 dX0_init_17 (fun H locs hW => ?_)
  obtain ⟨G19, eG19⟩ : ∃ z, z = va_up G14 w (va_up (G14 w) 1 (some b)) := ⟨_, rfl⟩
  rw [← eG19] at hW
  have cl20 : clo L13 G19 := clo_put cl17 (mo18 _ (mo8 _ hw)) (mem_new eL13) eG19
  refine lv_aload_n hx hb dX0_init_20 rfl (lv_at hl 0 rfl) ?_
  refine lv_iconst (v := nI 0) hx hb dX0_init_21 (by decide) ?_
  refine s_X0_2 C hinX0 hW (mo18 _ (mo8 _ hw)) kw lk19 dX0_init_22 (fun H locs hW => ?_)
  obtain ⟨I21, eI21⟩ : ∃ z, z = va_up I15 w (upd (I15 w) 2 (nI 0)) := ⟨_, rfl⟩
  rw [← eI21] at hW
  exact ret _ _ _ _ _ _ _ _ _ _ _ (Nat.le_of_ble_eq_true rfl) (Nat.le_of_ble_eq_true rfl) hW ⟨by rw [eL13, eL3], cl20, (fun q hq => (hag12 q (mo8 q hq)).trans (hag2 q hq)), fun r h1 h2 h3 => ⟨by rw [eG19, va_up_ne _ _ h1, eG14, va_up_ne _ _ h3, eG9, va_up_ne _ _ h1, eG4, va_up_ne _ _ h2], by rw [eI21, va_up_ne _ _ h1, eI15, va_up_ne _ _ h3, eI5, va_up_ne _ _ h2], by rw [eJ16, va_up_ne _ _ h3, eJ6, va_up_ne _ _ h2]⟩, by rw [eG19, va_up_self, eG14, va_up_ne _ _ hwb, eG9, va_up_self, eG4, va_up_ne _ _ hwa], by rw [eG19, va_up_ne _ _ (Ne.symm hwa), eG14, va_up_ne _ _ hab, eG9, va_up_ne _ _ (Ne.symm hwa), eG4, va_up_self], by rw [eG19, va_up_ne _ _ (Ne.symm hwb), eG14, va_up_self]⟩ dX0_init_25
abbrev rmX1_init : Room := { frames := 1, cells := 2, slots := 60, locals := 20 }
set_option maxHeartbeats 400000 in
set_option maxRecDepth 100000 in
theorem c_X1_init (l : Launch) (D : va_G) (cy : Nat → ClassId) (L : List Nat) (ad : Nat → Nat) (G : mG) (I : mI) (J : mJ) (hcl : clo L G) (n t k : Nat) (hn : n ∈ L) (kn : kd n = 1) (ht : t ∉ L) (kt : kd t = 6) (lt : ln t = 48) (hk0 : k ∉ L) (kk0 : kd k = 8) (lk0 : ln k = 12) (htk : t ≠ k) (pl dr : Nat) (hd4 : dr = 2 ∨ dr = 3 ∨ dr = 4) : pMet l yX1_init wsX1_init rmX1_init D cy L ad G I J [.ref (ad n), .int (nI pl), .int (nI dr)] (qN (nX1 L ad G I J n t k pl dr) D cy) := by
  refine pMet.ofN (cc := cX1_init) (maxL := 4) (by decide +kernel) rfl (Nat.le_of_ble_eq_true rfl) ?_
  intro p e R s m args below meth c A Q C hml hR hnm hg ret hW ls hl
  subst hR
  have C : Cx p s m args c cX1_init RX1 wsX1_init D cy A := C
  have hx := C.1
  have hb := C.2.1
  have lk9 := C.2.2.2.1 (.fieldLink RX1 9 "WaveWalk$Net" "ledTo" "[I") (by decide +kernel)
  have lk15 := C.2.2.2.1 (.fieldLink RX1 15 "WaveWalk$Net" "marked" "[Z") (by decide +kernel)
  have lk19 := C.2.2.2.1 (.fieldLink RX1 19 "WaveWalk$Net" "hasWalks" "Z") (by decide +kernel)
  have lk23 := C.2.2.2.1 (.fieldLink RX1 23 "WaveWalk$Net" "places" "I") (by decide +kernel)
  have lk27 := C.2.2.2.1 (.fieldLink RX1 27 "WaveWalk$Net" "doors" "I") (by decide +kernel)
  have lk30 := C.2.2.2.1 (.fieldLink RX1 30 "WaveWalk$Net" "scale" "I") (by decide +kernel)
  have lk35 := C.2.2.2.1 (.fieldLink RX1 35 "WaveWalk$Net" "heaviestToStep" "J") (by decide +kernel)
  have hinX1 : ∀ w ∈ wsX10, w ∈ wsX1_init := by decide +kernel
  have ck33 := C.2.2.2.1 (.constantLong RX1 33 (2305843009213693952)) (by decide +kernel)
  have ck39 := C.2.2.2.1 (.constantLong RX1 39 (512409557603043100)) (by decide +kernel)
  have ck41 := C.2.2.2.1 (.constantLong RX1 41 (1152921504606846976)) (by decide +kernel)
  have hl : lv_has ls 4 [(0, .ref (ad n)), (1, .int (nI pl)), (2, .int (nI dr))] := hl
  have hnt : n ≠ t := fun e => ht (e ▸ hn)
  have hnk : n ≠ k := fun e => hk0 (e ▸ hn)
  refine lv_aload_n hx hb dX1_init_0 rfl (lv_at hl 0 rfl) ?_
  refine W.objInit hx hb C.2.2.1 (C.2.2.2.1 (.methodLink RX1 3 objectInit) (by decide +kernel)) (C.2.2.2.1 (.instanceMethod objectInit) (by decide +kernel)) (C.2.2.2.1 (.code objectInit ⟨#[0xb1]⟩ 1 none) (List.mem_cons_of_mem _ (List.mem_append_left _ (List.mem_of_getElem? (i := 2) rfl)))) rfl (hl.1.trans hml.symm) rfl dX1_init_1 (Nat.le_of_ble_eq_true rfl) (Nat.le_of_ble_eq_true rfl) ?_
  show W p l e rmX1_init s m args below meth c s.heap [] 0 0 Q (F0 m 4 ls [])
  refine lv_aload_n hx hb dX1_init_4 rfl (lv_at hl 0 rfl) ?_
  refine lv_bipush (v := nI 48) hx hb dX1_init_5 (by decide) ?_
  refine p_newa C hW hcl ht (atype := .int) (C.2.2.2.1 (.arrayClass .int) (by decide +kernel)) (ty := .int) rfl (i := 0) (N := 48) rfl (by decide) (by decide) (a0 := (48, .inl (fun _ => 0))) (fun _ => rfl) (fun a => by rw [da6 kt a, lt]) (Nat.le_of_ble_eq_true rfl) (Nat.le_of_ble_eq_true rfl) dX1_init_7 (fun ad1 H hag2 hW => ?_)
  rw [← hag2 n hn]
  have hl : lv_has ls 4 [(0, .ref (ad1 n)), (1, .int (nI pl)), (2, .int (nI dr))] := by rw [hag2 n hn]; exact hl
  obtain ⟨L3, eL3⟩ : ∃ z, z = L ++ [t] := ⟨_, rfl⟩
  rw [← eL3] at hW
  obtain ⟨G4, eG4⟩ : ∃ z, z = va_up G t (fun _ => (none : Option Nat)) := ⟨_, rfl⟩
  rw [← eG4] at hW
  obtain ⟨I5, eI5⟩ : ∃ z, z = va_up I t (fun _ => (0 : Int32)) := ⟨_, rfl⟩
  rw [← eI5] at hW
  obtain ⟨J6, eJ6⟩ : ∃ z, z = va_up J t (fun _ => (0 : Int64)) := ⟨_, rfl⟩
  rw [← eJ6] at hW
  have cl7 : clo L3 G4 := clo_new hcl ht eL3 eG4
  have mo8 : ∀ q, q ∈ L → q ∈ L3 := fun q h => mem_old eL3 h
  refine f_X1_4 C hnm hinX1 hW (mo8 _ hn) kn lk9 dX1_init_9 (fun H locs hW => ?_)
  obtain ⟨G9, eG9⟩ : ∃ z, z = va_up G4 n (va_up (G4 n) 4 (some t)) := ⟨_, rfl⟩
  rw [← eG9] at hW
  have cl10 : clo L3 G9 := clo_put cl7 (mo8 _ hn) (mem_new eL3) eG9
  refine lv_aload_n hx hb dX1_init_12 rfl (lv_at hl 0 rfl) ?_
  refine lv_bipush (v := nI 12) hx hb dX1_init_13 (by decide) ?_
  refine p_newa C hW cl10 (nin_push eL3 hk0 (Ne.symm htk)) (atype := .boolean) (C.2.2.2.1 (.arrayClass .boolean) (by decide +kernel)) (ty := .boolean) rfl (i := 2) (N := 12) rfl (by decide) (by decide) (a0 := (12, .inl (fun _ => 0))) (fun _ => rfl) (fun a => by rw [da8 kk0 a, lk0]) (Nat.le_of_ble_eq_true rfl) (Nat.le_of_ble_eq_true rfl) dX1_init_15 (fun ad11 H hag12 hW => ?_)
  rw [← hag12 n (mo8 _ hn)]
  have hl : lv_has ls 4 [(0, .ref (ad11 n)), (1, .int (nI pl)), (2, .int (nI dr))] := by rw [hag12 n (mo8 _ hn)]; exact hl
  obtain ⟨L13, eL13⟩ : ∃ z, z = L3 ++ [k] := ⟨_, rfl⟩
  rw [← eL13] at hW
  obtain ⟨G14, eG14⟩ : ∃ z, z = va_up G9 k (fun _ => (none : Option Nat)) := ⟨_, rfl⟩
  rw [← eG14] at hW
  obtain ⟨I15, eI15⟩ : ∃ z, z = va_up I5 k (fun _ => (0 : Int32)) := ⟨_, rfl⟩
  rw [← eI15] at hW
  obtain ⟨J16, eJ16⟩ : ∃ z, z = va_up J6 k (fun _ => (0 : Int64)) := ⟨_, rfl⟩
  rw [← eJ16] at hW
  have cl17 : clo L13 G14 := clo_new cl10 (nin_push eL3 hk0 (Ne.symm htk)) eL13 eG14
  have mo18 : ∀ q, q ∈ L3 → q ∈ L13 := fun q h => mem_old eL13 h
  refine f_X1_5 C hnm hinX1 hW (mo18 _ (mo8 _ hn)) kn lk15 dX1_init_17 (fun H locs hW => ?_)
  obtain ⟨G19, eG19⟩ : ∃ z, z = va_up G14 n (va_up (G14 n) 5 (some k)) := ⟨_, rfl⟩
  rw [← eG19] at hW
  have cl20 : clo L13 G19 := clo_put cl17 (mo18 _ (mo8 _ hn)) (mem_new eL13) eG19
  refine lv_aload_n hx hb dX1_init_20 rfl (lv_at hl 0 rfl) ?_
  refine lv_iconst (v := nI 0) hx hb dX1_init_21 (by decide) ?_
  refine s_X1_6 C hinX1 hW (mo18 _ (mo8 _ hn)) kn rfl rfl lk19 dX1_init_22 (fun H locs hW => ?_)
  obtain ⟨I21, eI21⟩ : ∃ z, z = va_up I15 n (upd (I15 n) 6 (nI 0)) := ⟨_, rfl⟩
  rw [← eI21] at hW
  refine lv_aload_n hx hb dX1_init_25 rfl (lv_at hl 0 rfl) ?_
  refine lv_iload_n hx hb dX1_init_26 rfl (lv_at hl 1 rfl) ?_
  refine f_X1_0 C hnm hinX1 hW (mo18 _ (mo8 _ hn)) kn lk23 dX1_init_27 (fun H locs hW => ?_)
  obtain ⟨I22, eI22⟩ : ∃ z, z = va_up I21 n (upd (I21 n) 0 (nI pl)) := ⟨_, rfl⟩
  rw [← eI22] at hW
  refine lv_aload_n hx hb dX1_init_30 rfl (lv_at hl 0 rfl) ?_
  refine lv_iload_n hx hb dX1_init_31 rfl (lv_at hl 2 rfl) ?_
  refine f_X1_1 C hnm hinX1 hW (mo18 _ (mo8 _ hn)) kn lk27 dX1_init_32 (fun H locs hW => ?_)
  obtain ⟨I23, eI23⟩ : ∃ z, z = va_up I22 n (upd (I22 n) 1 (nI dr)) := ⟨_, rfl⟩
  rw [← eI23] at hW
  refine lv_iload_n hx hb dX1_init_35 rfl (lv_at hl 2 rfl) ?_
  refine lv_iconst (v := nI 2) hx hb dX1_init_36 (by decide) ?_
  refine n_icmp_ne (tgt := 55) hx hb (by omega) (by omega) dX1_init_37 (by decide) (fun hc_24 => ?_) (fun hc_24 => ?_)
  · skip
    refine lv_iload_n hx hb dX1_init_55 rfl (lv_at hl 2 rfl) ?_
    refine lv_iconst (v := nI 3) hx hb dX1_init_56 (by decide) ?_
    refine n_icmp_ne (tgt := 76) hx hb (by omega) (by omega) dX1_init_57 (by decide) (fun hc_25 => ?_) (fun hc_25 => ?_)
    · skip
      refine lv_aload_n hx hb dX1_init_76 rfl (lv_at hl 0 rfl) ?_
      refine lv_iconst (v := nI 4) hx hb dX1_init_77 (by decide) ?_
      refine f_X1_2 C hnm hinX1 hW (mo18 _ (mo8 _ hn)) kn lk30 dX1_init_78 (fun H locs hW => ?_)
      obtain ⟨I26, eI26⟩ : ∃ z, z = va_up I23 n (upd (I23 n) 2 (nI 4)) := ⟨_, rfl⟩
      rw [← eI26] at hW
      refine lv_aload_n hx hb dX1_init_81 rfl (lv_at hl 0 rfl) ?_
      refine lv_ldc2 hx hb C.2.2.1 ck41 dX1_init_82 ?_
      refine f_X1_3 C hnm hinX1 hW (mo18 _ (mo8 _ hn)) kn lk35 dX1_init_85 (fun H locs hW => ?_)
      obtain ⟨J27, eJ27⟩ : ∃ z, z = va_up J16 n (vp_updL (J16 n) 3 1152921504606846976) := ⟨_, rfl⟩
      rw [← eJ27] at hW
      have hdr : dr = 4 := by omega
      have hf0 : I26 n 0 = nI pl := by rw [eI26, va_up_self, pk_un (by decide), eI23, va_up_self, pk_un (by decide), eI22, va_up_self, pk_us]
      have hf1 : I26 n 1 = nI dr := by rw [eI26, va_up_self, pk_un (by decide), eI23, va_up_self, pk_us]
      have hf2 : I26 n 2 = nI (scN dr) := by rw [eI26, va_up_self, pk_us]; rw [hdr]; rfl
      have hf6 : I26 n 6 = bI false := by rw [eI26, va_up_self, pk_un (by decide), eI23, va_up_self, pk_un (by decide), eI22, va_up_self, pk_un (by decide), eI21, va_up_self, pk_us]; rfl
      have hj3 : J27 n 3 = hvOf dr := by rw [eJ27, va_up_self, hdr]; rfl
      have hg4 : G19 n 4 = some t := by rw [eG19, va_up_self, eG14, va_up_ne _ _ hnk, eG9, va_up_self, eG4, va_up_ne _ _ hnt]; rfl
      have hot : ∀ r, r ≠ n → r ≠ t → r ≠ k → G19 r = G r ∧ I26 r = I r ∧ J27 r = J r := fun r h1 h2 h3 => ⟨by rw [eG19, va_up_ne _ _ h1, eG14, va_up_ne _ _ h3, eG9, va_up_ne _ _ h1, eG4, va_up_ne _ _ h2], by rw [eI26, va_up_ne _ _ h1, eI23, va_up_ne _ _ h1, eI22, va_up_ne _ _ h1, eI21, va_up_ne _ _ h1, eI15, va_up_ne _ _ h3, eI5, va_up_ne _ _ h2], by rw [eJ27, va_up_ne _ _ h1, eJ16, va_up_ne _ _ h3, eJ6, va_up_ne _ _ h2]⟩
      have hgn : G19 n = va_up (va_up (G n) 4 (some t)) 5 (some k) := by rw [eG19, va_up_self, eG14, va_up_ne _ _ hnk, eG9, va_up_self, eG4, va_up_ne _ _ hnt]
      have hik : ∀ c, c < 12 → I26 k c = bI false := fun c hc => by rw [eI26, va_up_ne _ _ (Ne.symm hnk), eI23, va_up_ne _ _ (Ne.symm hnk), eI22, va_up_ne _ _ (Ne.symm hnk), eI21, va_up_ne _ _ (Ne.symm hnk), eI15, va_up_self]; rfl
      refine lv_iconst (v := nI 0) hx hb dX1_init_88 (by decide) ?_
      refine lv_istore_n (lv' := [(3, .int (nI 0)), (0, .ref (ad11 n)), (1, .int (nI pl)), (2, .int (nI dr))]) hx hb dX1_init_89 rfl hl (by decide) rfl (fun ls hl => ?_)
      have lp90 : ∀ (nn : Nat) (d : Nat) (Ia : mI), (d ≤ 48) → (49 ≤ d + nn) → (∀ r, r ≠ t → Ia r = I26 r) → (∀ c, c < d → Ia t c = nI c) → ∀ (H : Heap) (locs : List Loc), Wd D cy A s.heap H locs L13 ad11 G19 Ia J27 → ∀ (ls : Array Slot), lv_has ls 4 [(0, .ref (ad11 n)), (3, .int (nI d))] → W p l e rmX1_init s m args below meth c H locs ((0 + 1) + 1) ((0 + 48) + 12) Q (F0 m 90 ls []) := by
        intro nn
        induction nn with
        | zero => intros; exfalso; omega
        | succ nn ih90 =>
          intro d Ia hd hfu hk9 hta H locs hW ls hl
          refine lv_iload_n hx hb dX1_init_90 rfl (lv_at hl 1 rfl) ?_
          refine lv_bipush (v := nI 48) hx hb dX1_init_91 (by decide) ?_
          refine n_icmp_ge (tgt := 109) hx hb (by omega) (by omega) dX1_init_93 (by decide) (fun hc_28 => ?_) (fun hc_28 => ?_)
          · skip
            exact ret _ _ _ _ _ _ _ _ _ _ _ (Nat.le_of_ble_eq_true rfl) (Nat.le_of_ble_eq_true rfl) hW ⟨by rw [eL13, eL3], cl20, (fun q hq => (hag12 q (mo8 q hq)).trans (hag2 q hq)), fun r h1 h2 h3 => ⟨(hot r h1 h2 h3).1, (hk9 r h2).trans (hot r h1 h2 h3).2.1, (hot r h1 h2 h3).2.2⟩, hgn, by rw [hk9 n hnt]; exact hf0, by rw [hk9 n hnt]; exact hf1, by rw [hk9 n hnt]; exact hf2, hj3, by rw [hk9 n hnt]; exact hf6, fun c hc => hta c (by omega), fun c hc => by rw [hk9 k (Ne.symm htk)]; exact hik c hc⟩ dX1_init_109
          · skip
            refine lv_aload_n hx hb dX1_init_96 rfl (lv_at hl 0 rfl) ?_
            refine g_X1_4 C hinX1 hW (mo18 _ (mo8 _ hn)) kn hg4 lk9 dX1_init_97 ?_
            refine lv_iload_n hx hb dX1_init_100 rfl (lv_at hl 1 rfl) ?_
            refine lv_iload_n hx hb dX1_init_101 rfl (lv_at hl 1 rfl) ?_
            refine p_iast C hW (mo18 _ (mem_new eL3)) kt (k := d) rfl (by rw [lt]; omega) dX1_init_102 (fun H locs hW => ?_)
            obtain ⟨I29, eI29⟩ : ∃ z, z = va_up Ia t (upd (Ia t) d (nI d)) := ⟨_, rfl⟩
            rw [← eI29] at hW
            refine lv_iinc (v := nI (d + 1)) (lv' := [(3, .int (nI (d + 1))), (0, .ref (ad11 n))]) hx hb dX1_init_103 hl (k := 1) rfl (nI_inc _) (by decide) rfl (fun ls hl => ?_)
            refine lv_goto (tgt := 90) hx hb dX1_init_106 (by decide) ?_
            exact ih90 (d + 1) I29 (by omega) (by omega) (fun r hr => by rw [eI29, va_up_ne _ _ hr]; exact hk9 r hr) (fun c hc => by rw [eI29, va_up_self]; by_cases e : c = d; (rw [e, pk_us]); rw [pk_un e]; exact hta c (by omega)) _ _ hW ls (lv_sub hl [1, 0] rfl)
      exact lp90 49 0 I26 (by omega) (by omega) (fun _ _ => rfl) (fun c hc => absurd hc (Nat.not_lt_zero c)) _ _ hW ls (lv_sub hl [1, 0] rfl)
    · skip
      refine lv_aload_n hx hb dX1_init_60 rfl (lv_at hl 0 rfl) ?_
      refine lv_bipush (v := nI 9) hx hb dX1_init_61 (by decide) ?_
      refine f_X1_2 C hnm hinX1 hW (mo18 _ (mo8 _ hn)) kn lk30 dX1_init_63 (fun H locs hW => ?_)
      obtain ⟨I30, eI30⟩ : ∃ z, z = va_up I23 n (upd (I23 n) 2 (nI 9)) := ⟨_, rfl⟩
      rw [← eI30] at hW
      refine lv_aload_n hx hb dX1_init_66 rfl (lv_at hl 0 rfl) ?_
      refine lv_ldc2 hx hb C.2.2.1 ck39 dX1_init_67 ?_
      refine f_X1_3 C hnm hinX1 hW (mo18 _ (mo8 _ hn)) kn lk35 dX1_init_70 (fun H locs hW => ?_)
      obtain ⟨J31, eJ31⟩ : ∃ z, z = va_up J16 n (vp_updL (J16 n) 3 512409557603043100) := ⟨_, rfl⟩
      rw [← eJ31] at hW
      refine lv_goto (tgt := 88) hx hb dX1_init_73 (by decide) ?_
      have hdr : dr = 3 := by omega
      have hf0 : I30 n 0 = nI pl := by rw [eI30, va_up_self, pk_un (by decide), eI23, va_up_self, pk_un (by decide), eI22, va_up_self, pk_us]
      have hf1 : I30 n 1 = nI dr := by rw [eI30, va_up_self, pk_un (by decide), eI23, va_up_self, pk_us]
      have hf2 : I30 n 2 = nI (scN dr) := by rw [eI30, va_up_self, pk_us]; rw [hdr]; rfl
      have hf6 : I30 n 6 = bI false := by rw [eI30, va_up_self, pk_un (by decide), eI23, va_up_self, pk_un (by decide), eI22, va_up_self, pk_un (by decide), eI21, va_up_self, pk_us]; rfl
      have hj3 : J31 n 3 = hvOf dr := by rw [eJ31, va_up_self, hdr]; rfl
      have hg4 : G19 n 4 = some t := by rw [eG19, va_up_self, eG14, va_up_ne _ _ hnk, eG9, va_up_self, eG4, va_up_ne _ _ hnt]; rfl
      have hot : ∀ r, r ≠ n → r ≠ t → r ≠ k → G19 r = G r ∧ I30 r = I r ∧ J31 r = J r := fun r h1 h2 h3 => ⟨by rw [eG19, va_up_ne _ _ h1, eG14, va_up_ne _ _ h3, eG9, va_up_ne _ _ h1, eG4, va_up_ne _ _ h2], by rw [eI30, va_up_ne _ _ h1, eI23, va_up_ne _ _ h1, eI22, va_up_ne _ _ h1, eI21, va_up_ne _ _ h1, eI15, va_up_ne _ _ h3, eI5, va_up_ne _ _ h2], by rw [eJ31, va_up_ne _ _ h1, eJ16, va_up_ne _ _ h3, eJ6, va_up_ne _ _ h2]⟩
      have hgn : G19 n = va_up (va_up (G n) 4 (some t)) 5 (some k) := by rw [eG19, va_up_self, eG14, va_up_ne _ _ hnk, eG9, va_up_self, eG4, va_up_ne _ _ hnt]
      have hik : ∀ c, c < 12 → I30 k c = bI false := fun c hc => by rw [eI30, va_up_ne _ _ (Ne.symm hnk), eI23, va_up_ne _ _ (Ne.symm hnk), eI22, va_up_ne _ _ (Ne.symm hnk), eI21, va_up_ne _ _ (Ne.symm hnk), eI15, va_up_self]; rfl
      refine lv_iconst (v := nI 0) hx hb dX1_init_88 (by decide) ?_
      refine lv_istore_n (lv' := [(3, .int (nI 0)), (0, .ref (ad11 n)), (1, .int (nI pl)), (2, .int (nI dr))]) hx hb dX1_init_89 rfl hl (by decide) rfl (fun ls hl => ?_)
      have lp90_1 : ∀ (nn : Nat) (d : Nat) (Ia : mI), (d ≤ 48) → (49 ≤ d + nn) → (∀ r, r ≠ t → Ia r = I30 r) → (∀ c, c < d → Ia t c = nI c) → ∀ (H : Heap) (locs : List Loc), Wd D cy A s.heap H locs L13 ad11 G19 Ia J31 → ∀ (ls : Array Slot), lv_has ls 4 [(0, .ref (ad11 n)), (3, .int (nI d))] → W p l e rmX1_init s m args below meth c H locs ((0 + 1) + 1) ((0 + 48) + 12) Q (F0 m 90 ls []) := by
        intro nn
        induction nn with
        | zero => intros; exfalso; omega
        | succ nn ih90 =>
          intro d Ia hd hfu hk9 hta H locs hW ls hl
          refine lv_iload_n hx hb dX1_init_90 rfl (lv_at hl 1 rfl) ?_
          refine lv_bipush (v := nI 48) hx hb dX1_init_91 (by decide) ?_
          refine n_icmp_ge (tgt := 109) hx hb (by omega) (by omega) dX1_init_93 (by decide) (fun hc_32 => ?_) (fun hc_32 => ?_)
          · skip
            exact ret _ _ _ _ _ _ _ _ _ _ _ (Nat.le_of_ble_eq_true rfl) (Nat.le_of_ble_eq_true rfl) hW ⟨by rw [eL13, eL3], cl20, (fun q hq => (hag12 q (mo8 q hq)).trans (hag2 q hq)), fun r h1 h2 h3 => ⟨(hot r h1 h2 h3).1, (hk9 r h2).trans (hot r h1 h2 h3).2.1, (hot r h1 h2 h3).2.2⟩, hgn, by rw [hk9 n hnt]; exact hf0, by rw [hk9 n hnt]; exact hf1, by rw [hk9 n hnt]; exact hf2, hj3, by rw [hk9 n hnt]; exact hf6, fun c hc => hta c (by omega), fun c hc => by rw [hk9 k (Ne.symm htk)]; exact hik c hc⟩ dX1_init_109
          · skip
            refine lv_aload_n hx hb dX1_init_96 rfl (lv_at hl 0 rfl) ?_
            refine g_X1_4 C hinX1 hW (mo18 _ (mo8 _ hn)) kn hg4 lk9 dX1_init_97 ?_
            refine lv_iload_n hx hb dX1_init_100 rfl (lv_at hl 1 rfl) ?_
            refine lv_iload_n hx hb dX1_init_101 rfl (lv_at hl 1 rfl) ?_
            refine p_iast C hW (mo18 _ (mem_new eL3)) kt (k := d) rfl (by rw [lt]; omega) dX1_init_102 (fun H locs hW => ?_)
            obtain ⟨I33, eI33⟩ : ∃ z, z = va_up Ia t (upd (Ia t) d (nI d)) := ⟨_, rfl⟩
            rw [← eI33] at hW
            refine lv_iinc (v := nI (d + 1)) (lv' := [(3, .int (nI (d + 1))), (0, .ref (ad11 n))]) hx hb dX1_init_103 hl (k := 1) rfl (nI_inc _) (by decide) rfl (fun ls hl => ?_)
            refine lv_goto (tgt := 90) hx hb dX1_init_106 (by decide) ?_
            exact ih90 (d + 1) I33 (by omega) (by omega) (fun r hr => by rw [eI33, va_up_ne _ _ hr]; exact hk9 r hr) (fun c hc => by rw [eI33, va_up_self]; by_cases e : c = d; (rw [e, pk_us]); rw [pk_un e]; exact hta c (by omega)) _ _ hW ls (lv_sub hl [1, 0] rfl)
      exact lp90_1 49 0 I30 (by omega) (by omega) (fun _ _ => rfl) (fun c hc => absurd hc (Nat.not_lt_zero c)) _ _ hW ls (lv_sub hl [1, 0] rfl)
  · skip
    refine lv_aload_n hx hb dX1_init_40 rfl (lv_at hl 0 rfl) ?_
    refine lv_iconst (v := nI 2) hx hb dX1_init_41 (by decide) ?_
    refine f_X1_2 C hnm hinX1 hW (mo18 _ (mo8 _ hn)) kn lk30 dX1_init_42 (fun H locs hW => ?_)
    obtain ⟨I34, eI34⟩ : ∃ z, z = va_up I23 n (upd (I23 n) 2 (nI 2)) := ⟨_, rfl⟩
    rw [← eI34] at hW
    refine lv_aload_n hx hb dX1_init_45 rfl (lv_at hl 0 rfl) ?_
    refine lv_ldc2 hx hb C.2.2.1 ck33 dX1_init_46 ?_
    refine f_X1_3 C hnm hinX1 hW (mo18 _ (mo8 _ hn)) kn lk35 dX1_init_49 (fun H locs hW => ?_)
    obtain ⟨J35, eJ35⟩ : ∃ z, z = va_up J16 n (vp_updL (J16 n) 3 2305843009213693952) := ⟨_, rfl⟩
    rw [← eJ35] at hW
    refine lv_goto (tgt := 88) hx hb dX1_init_52 (by decide) ?_
    have hdr : dr = 2 := by omega
    have hf0 : I34 n 0 = nI pl := by rw [eI34, va_up_self, pk_un (by decide), eI23, va_up_self, pk_un (by decide), eI22, va_up_self, pk_us]
    have hf1 : I34 n 1 = nI dr := by rw [eI34, va_up_self, pk_un (by decide), eI23, va_up_self, pk_us]
    have hf2 : I34 n 2 = nI (scN dr) := by rw [eI34, va_up_self, pk_us]; rw [hdr]; rfl
    have hf6 : I34 n 6 = bI false := by rw [eI34, va_up_self, pk_un (by decide), eI23, va_up_self, pk_un (by decide), eI22, va_up_self, pk_un (by decide), eI21, va_up_self, pk_us]; rfl
    have hj3 : J35 n 3 = hvOf dr := by rw [eJ35, va_up_self, hdr]; rfl
    have hg4 : G19 n 4 = some t := by rw [eG19, va_up_self, eG14, va_up_ne _ _ hnk, eG9, va_up_self, eG4, va_up_ne _ _ hnt]; rfl
    have hot : ∀ r, r ≠ n → r ≠ t → r ≠ k → G19 r = G r ∧ I34 r = I r ∧ J35 r = J r := fun r h1 h2 h3 => ⟨by rw [eG19, va_up_ne _ _ h1, eG14, va_up_ne _ _ h3, eG9, va_up_ne _ _ h1, eG4, va_up_ne _ _ h2], by rw [eI34, va_up_ne _ _ h1, eI23, va_up_ne _ _ h1, eI22, va_up_ne _ _ h1, eI21, va_up_ne _ _ h1, eI15, va_up_ne _ _ h3, eI5, va_up_ne _ _ h2], by rw [eJ35, va_up_ne _ _ h1, eJ16, va_up_ne _ _ h3, eJ6, va_up_ne _ _ h2]⟩
    have hgn : G19 n = va_up (va_up (G n) 4 (some t)) 5 (some k) := by rw [eG19, va_up_self, eG14, va_up_ne _ _ hnk, eG9, va_up_self, eG4, va_up_ne _ _ hnt]
    have hik : ∀ c, c < 12 → I34 k c = bI false := fun c hc => by rw [eI34, va_up_ne _ _ (Ne.symm hnk), eI23, va_up_ne _ _ (Ne.symm hnk), eI22, va_up_ne _ _ (Ne.symm hnk), eI21, va_up_ne _ _ (Ne.symm hnk), eI15, va_up_self]; rfl
    refine lv_iconst (v := nI 0) hx hb dX1_init_88 (by decide) ?_
    refine lv_istore_n (lv' := [(3, .int (nI 0)), (0, .ref (ad11 n)), (1, .int (nI pl)), (2, .int (nI dr))]) hx hb dX1_init_89 rfl hl (by decide) rfl (fun ls hl => ?_)
    have lp90_2 : ∀ (nn : Nat) (d : Nat) (Ia : mI), (d ≤ 48) → (49 ≤ d + nn) → (∀ r, r ≠ t → Ia r = I34 r) → (∀ c, c < d → Ia t c = nI c) → ∀ (H : Heap) (locs : List Loc), Wd D cy A s.heap H locs L13 ad11 G19 Ia J35 → ∀ (ls : Array Slot), lv_has ls 4 [(0, .ref (ad11 n)), (3, .int (nI d))] → W p l e rmX1_init s m args below meth c H locs ((0 + 1) + 1) ((0 + 48) + 12) Q (F0 m 90 ls []) := by
      intro nn
      induction nn with
      | zero => intros; exfalso; omega
      | succ nn ih90 =>
        intro d Ia hd hfu hk9 hta H locs hW ls hl
        refine lv_iload_n hx hb dX1_init_90 rfl (lv_at hl 1 rfl) ?_
        refine lv_bipush (v := nI 48) hx hb dX1_init_91 (by decide) ?_
        refine n_icmp_ge (tgt := 109) hx hb (by omega) (by omega) dX1_init_93 (by decide) (fun hc_36 => ?_) (fun hc_36 => ?_)
        · skip
          exact ret _ _ _ _ _ _ _ _ _ _ _ (Nat.le_of_ble_eq_true rfl) (Nat.le_of_ble_eq_true rfl) hW ⟨by rw [eL13, eL3], cl20, (fun q hq => (hag12 q (mo8 q hq)).trans (hag2 q hq)), fun r h1 h2 h3 => ⟨(hot r h1 h2 h3).1, (hk9 r h2).trans (hot r h1 h2 h3).2.1, (hot r h1 h2 h3).2.2⟩, hgn, by rw [hk9 n hnt]; exact hf0, by rw [hk9 n hnt]; exact hf1, by rw [hk9 n hnt]; exact hf2, hj3, by rw [hk9 n hnt]; exact hf6, fun c hc => hta c (by omega), fun c hc => by rw [hk9 k (Ne.symm htk)]; exact hik c hc⟩ dX1_init_109
        · skip
          refine lv_aload_n hx hb dX1_init_96 rfl (lv_at hl 0 rfl) ?_
          refine g_X1_4 C hinX1 hW (mo18 _ (mo8 _ hn)) kn hg4 lk9 dX1_init_97 ?_
          refine lv_iload_n hx hb dX1_init_100 rfl (lv_at hl 1 rfl) ?_
          refine lv_iload_n hx hb dX1_init_101 rfl (lv_at hl 1 rfl) ?_
          refine p_iast C hW (mo18 _ (mem_new eL3)) kt (k := d) rfl (by rw [lt]; omega) dX1_init_102 (fun H locs hW => ?_)
          obtain ⟨I37, eI37⟩ : ∃ z, z = va_up Ia t (upd (Ia t) d (nI d)) := ⟨_, rfl⟩
          rw [← eI37] at hW
          refine lv_iinc (v := nI (d + 1)) (lv' := [(3, .int (nI (d + 1))), (0, .ref (ad11 n))]) hx hb dX1_init_103 hl (k := 1) rfl (nI_inc _) (by decide) rfl (fun ls hl => ?_)
          refine lv_goto (tgt := 90) hx hb dX1_init_106 (by decide) ?_
          exact ih90 (d + 1) I37 (by omega) (by omega) (fun r hr => by rw [eI37, va_up_ne _ _ hr]; exact hk9 r hr) (fun c hc => by rw [eI37, va_up_self]; by_cases e : c = d; (rw [e, pk_us]); rw [pk_un e]; exact hta c (by omega)) _ _ hW ls (lv_sub hl [1, 0] rfl)
    exact lp90_2 49 0 I34 (by omega) (by omega) (fun _ _ => rfl) (fun c hc => absurd hc (Nat.not_lt_zero c)) _ _ hW ls (lv_sub hl [1, 0] rfl)
