theorem gX2_init_X3_init : GoodIn wsX2_init wsX3_init := goodIn_r _ [11, 12, 2, 3, 13, 14, 15, 16, 17] (by decide +kernel) (by decide +kernel)
theorem gX4_init_X3_init : GoodIn wsX4_init wsX3_init := goodIn_r _ [19, 20, 2, 3, 21, 22, 23, 37, 38] (by decide +kernel) (by decide +kernel)
theorem gX4_init_X0_init : GoodIn wsX4_init wsX0_init := goodIn_r _ [25, 26, 2, 3, 27, 28, 21, 29, 30, 39, 40, 41] (by decide +kernel) (by decide +kernel)
def nX4 (L : List Nat) (ad : Nat → Nat) (G : mG) (I : mI) (J : mJ) : nPost := fun L' ad' G' I' J' => L' = L ++ [1] ++ [2] ++ [3] ++ [4] ++ [5] ++ [6] ++ [7] ∧ clo L' G' ∧ (∀ r, r ∈ L → ad' r = ad r) ∧ (∀ r, 8 ≤ r → G' r = G r ∧ I' r = I r ∧ J' r = J r) ∧ G' 0 0 = some 1 ∧ G' 0 1 = some 2 ∧ G' 0 2 = some 3 ∧ G' 0 3 = some 5 ∧ G' 3 0 = some 4 ∧ G' 5 0 = some 6 ∧ G' 5 1 = some 7 ∧ G' 1 = (fun _ => none) ∧ G' 2 = (fun _ => none) ∧ I' 0 4 = nI 0 ∧ I' 0 5 = nI 0
def nX5 (L : List Nat) (ad : Nat → Nat) (G : mG) (I : mI) (J : mJ) : nPost := fun L' ad' G' I' J' => L' = L ++ [65] ++ [66] ++ [67] ++ [68] ++ [69] ++ [70] ++ [71] ++ [72] ++ [73] ++ [74] ++ [75] ∧ clo L' G' ∧ (∀ r, r ∈ L → ad' r = ad r) ∧ (∀ r, (r < 64 ∨ 75 < r) → G' r = G r ∧ I' r = I r ∧ J' r = J r) ∧ (∀ k, 3 ≤ k → k ≤ 13 → G' 64 k = some (62 + k)) ∧ I' 64 = I 64 ∧ I' 68 = (fun _ => 0) ∧ I' 69 = (fun _ => 0) ∧ I' 71 = (fun _ => 0) ∧ J' 72 = fun _ => 0
abbrev rmX2_init : Room := { frames := 3, cells := 2, slots := 50, locals := 60 }
set_option maxHeartbeats 400000 in
set_option maxRecDepth 100000 in
theorem c_X2_init (l : Launch) (D : va_G) (cy : Nat → ClassId) (L : List Nat) (ad : Nat → Nat) (G : mG) (I : mI) (J : mJ) (hcl : clo L G) (v w q n : Nat) (hv0 : v ∈ L) (kv : kd v = 2) (hn0 : n ∈ L) (kn : kd n = 1) (hw : w ∉ L) (kw : kd w = 3) (hq : q ∉ L) (kq : kd q = 7) (lq : ln q = 48) (hwq : w ≠ q) (xi : Int32) : pMet l yX2_init wsX2_init rmX2_init D cy L ad G I J [.ref (ad v), .int xi, .ref (ad n)] (qN (nX2 L ad G I J v w q n xi) D cy) := by
  refine pMet.ofN (cc := cX2_init) (maxL := 3) (by decide +kernel) rfl (Nat.le_of_ble_eq_true rfl) ?_
  intro p e R s m args below meth c A Q C hml hR hnm hg ret hW ls hl
  subst hR
  have C : Cx p s m args c cX2_init RX2 wsX2_init D cy A := C
  have hx := C.1
  have hb := C.2.1
  have lk10 := C.2.2.2.1 (.fieldLink RX2 10 "WaveWalk$Walk" "wave" "LWaveWalk$Wave;") (by decide +kernel)
  have lk16 := C.2.2.2.1 (.fieldLink RX2 16 "WaveWalk$Walk" "netNumber" "I") (by decide +kernel)
  have lk20 := C.2.2.2.1 (.fieldLink RX2 20 "WaveWalk$Walk" "net" "LWaveWalk$Net;") (by decide +kernel)
  have hinX2 : ∀ w ∈ wsX20, w ∈ wsX2_init := by decide +kernel
  have hl : lv_has ls 3 [(0, .ref (ad v)), (1, .int xi), (2, .ref (ad n))] := hl
  have hvw : v ≠ w := fun e => hw (e ▸ hv0)
  have hvq : v ≠ q := fun e => hq (e ▸ hv0)
  have hnw : n ≠ w := fun e => hw (e ▸ hn0)
  have hnq : n ≠ q := fun e => hq (e ▸ hn0)
  refine lv_aload_n hx hb dX2_init_0 rfl (lv_at hl 0 rfl) ?_
  refine W.objInit hx hb C.2.2.1 (C.2.2.2.1 (.methodLink RX2 1 objectInit) (by decide +kernel)) (C.2.2.2.1 (.instanceMethod objectInit) (by decide +kernel)) (C.2.2.2.1 (.code objectInit ⟨#[0xb1]⟩ 1 none) (List.mem_cons_of_mem _ (List.mem_append_left _ (List.mem_append_left _ (List.mem_of_getElem? (i := 2) rfl))))) rfl (hl.1.trans hml.symm) rfl dX2_init_1 (Nat.le_of_ble_eq_true rfl) (Nat.le_of_ble_eq_true rfl) ?_
  show W p l e rmX2_init s m args below meth c s.heap [] 0 0 Q (F0 m 4 ls [])
  refine lv_aload_n hx hb dX2_init_4 rfl (lv_at hl 0 rfl) ?_
  refine p_new C hW hcl hw (ci := 3) rfl (by decide +kernel) tyX3 tyX3_ok (C.2.2.2.1 (.classLink RX2 7 RX3) (by decide +kernel)) (C.2.2.2.1 (.instantiable RX3 2) (by decide +kernel)) (C.2.2.2.1 (.initialized RX3) (by decide +kernel)) dfX3 (fun a => dgX3 kw a) (Nat.le_of_ble_eq_true rfl) (Nat.le_of_ble_eq_true rfl) dX2_init_5 (fun ad1 H hag2 hW => ?_)
  rw [← hag2 v hv0]
  have hl : lv_has ls 3 [(0, .ref (ad1 v)), (1, .int xi), (2, .ref (ad1 n))] := by rw [hag2 n hn0, hag2 v hv0]; exact hl
  obtain ⟨L3, eL3⟩ : ∃ z, z = L ++ [w] := ⟨_, rfl⟩
  rw [← eL3] at hW
  obtain ⟨G4, eG4⟩ : ∃ z, z = va_up G w (fun _ => (none : Option Nat)) := ⟨_, rfl⟩
  rw [← eG4] at hW
  obtain ⟨I5, eI5⟩ : ∃ z, z = va_up I w (fun _ => (0 : Int32)) := ⟨_, rfl⟩
  rw [← eI5] at hW
  obtain ⟨J6, eJ6⟩ : ∃ z, z = va_up J w (fun _ => (0 : Int64)) := ⟨_, rfl⟩
  rw [← eJ6] at hW
  have cl7 : clo L3 G4 := clo_new hcl hw eL3 eG4
  have mo8 : ∀ q, q ∈ L → q ∈ L3 := fun q h => mem_old eL3 h
  refine lv_dup hx hb dX2_init_8 rfl ?_
  refine p_cIN C hml hg hW (c_X3_init l D cy L3 ad1 G4 I5 J6 cl7 w q (mem_new eL3) kw (nin_push eL3 hq (Ne.symm hwq)) kq (lq)) ⟨va_cnB 0 C.2.2.2.1 gX2_init_X3_init rfl rfl rfl hg.1.2.2.1 (C.2.2.2.1 (.initialized RX3) (by decide +kernel)) (by decide +kernel) ⟨Nat.le_of_ble_eq_true rfl, Nat.le_of_ble_eq_true rfl⟩, rfl, C.2.2.2.1 (.instanceMethod yX3_init) (by decide +kernel)⟩ rfl hl.1 rfl (Nat.le_of_ble_eq_true rfl) dX2_init_9 (Nat.le_of_ble_eq_true rfl) (Nat.le_of_ble_eq_true rfl) (fun L9 ad10 G11 I12 J13 H locs hp hW => ?_)
  obtain ⟨eL13, cl13, hag13, hot13, hgw13, hgq13, hiw13, hjq13⟩ := hp
  have mo14 : ∀ q, q ∈ L3 → q ∈ L9 := fun q h => mem_old eL13 h
  rw [← hag13 v (mo8 _ hv0)]
  rw [← hag13 w (mem_new eL3)]
  have hl : lv_has ls 3 [(0, .ref (ad10 v)), (1, .int xi), (2, .ref (ad10 n))] := by rw [hag13 n (mo8 _ hn0), hag13 v (mo8 _ hv0)]; exact hl
  refine f_X2_2 C hnm hinX2 hW (mo14 _ (mo8 _ hv0)) kv lk10 dX2_init_12 (fun H locs hW => ?_)
  obtain ⟨G15, eG15⟩ : ∃ z, z = va_up G11 v (va_up (G11 v) 2 (some w)) := ⟨_, rfl⟩
  rw [← eG15] at hW
  have cl16 : clo L9 G15 := clo_put cl13 (mo14 _ (mo8 _ hv0)) (mo14 _ (mem_new eL3)) eG15
  refine lv_aload_n hx hb dX2_init_15 rfl (lv_at hl 0 rfl) ?_
  refine lv_iload_n hx hb dX2_init_16 rfl (lv_at hl 1 rfl) ?_
  refine f_X2_0 C hnm hinX2 hW (mo14 _ (mo8 _ hv0)) kv lk16 dX2_init_17 (fun H locs hW => ?_)
  obtain ⟨I17, eI17⟩ : ∃ z, z = va_up I12 v (upd (I12 v) 0 xi) := ⟨_, rfl⟩
  rw [← eI17] at hW
  refine lv_aload_n hx hb dX2_init_20 rfl (lv_at hl 0 rfl) ?_
  refine lv_aload_n hx hb dX2_init_21 rfl (lv_at hl 2 rfl) ?_
  refine f_X2_1 C hnm hinX2 hW (mo14 _ (mo8 _ hv0)) kv lk20 dX2_init_22 (fun H locs hW => ?_)
  obtain ⟨G18, eG18⟩ : ∃ z, z = va_up G15 v (va_up (G15 v) 1 (some n)) := ⟨_, rfl⟩
  rw [← eG18] at hW
  have cl19 : clo L9 G18 := clo_put cl16 (mo14 _ (mo8 _ hv0)) (mo14 _ (mo8 _ hn0)) eG18
  exact ret _ _ _ _ _ _ _ _ _ _ _ (Nat.le_of_ble_eq_true rfl) (Nat.le_of_ble_eq_true rfl) hW ⟨by rw [eL13, eL3], cl19, (fun q hq => (hag13 q (mo8 q hq)).trans (hag2 q hq)), fun r h1 h2 h3 => ⟨by rw [eG18, va_up_ne _ _ h1, eG15, va_up_ne _ _ h1, (hot13 r h2 h3).1, eG4, va_up_ne _ _ h2], by rw [eI17, va_up_ne _ _ h1, (hot13 r h2 h3).2.1, eI5, va_up_ne _ _ h2], by rw [(hot13 r h2 h3).2.2, eJ6, va_up_ne _ _ h2]⟩, by rw [eG18, va_up_self, eG15, va_up_self, (hot13 v hvw hvq).1, eG4, va_up_ne _ _ hvw], by rw [eG18, va_up_ne _ _ (Ne.symm hvw), eG15, va_up_ne _ _ (Ne.symm hvw), hgw13, va_up_self], by rw [eI17, va_up_self, pk_us], by rw [eI17, va_up_ne _ _ (Ne.symm hvw), hiw13], hjq13⟩ dX2_init_25
abbrev rmX4_init : Room := { frames := 3, cells := 7, slots := 95, locals := 60 }
set_option maxHeartbeats 400000 in
set_option maxRecDepth 100000 in
theorem c_X4_init (l : Launch) (D : va_G) (cy : Nat → ClassId) (L : List Nat) (ad : Nat → Nat) (G : mG) (I : mI) (J : mJ) (hcl : clo L G) (h0 : 0 ∈ L) (hnin : ∀ r, 1 ≤ r → r ≤ 7 → r ∉ L) : pMet l yX4_init wsX4_init rmX4_init D cy L ad G I J [.ref (ad 0)] (qN (nX4 L ad G I J) D cy) := by
  refine pMet.ofN (cc := cX4_init) (maxL := 1) (by decide +kernel) rfl (Nat.le_of_ble_eq_true rfl) ?_
  intro p e R s m args below meth c A Q C hml hR hnm hg ret hW ls hl
  subst hR
  have C : Cx p s m args c cX4_init RX4 wsX4_init D cy A := C
  have hx := C.1
  have hb := C.2.1
  have lk11 := C.2.2.2.1 (.fieldLink RX4 11 "WaveWalk" "nets" "[LWaveWalk$Net;") (by decide +kernel)
  have lk17 := C.2.2.2.1 (.fieldLink RX4 17 "WaveWalk" "walks" "[LWaveWalk$Walk;") (by decide +kernel)
  have lk24 := C.2.2.2.1 (.fieldLink RX4 24 "WaveWalk" "trial" "LWaveWalk$Wave;") (by decide +kernel)
  have lk31 := C.2.2.2.1 (.fieldLink RX4 31 "WaveWalk" "classes" "LWaveWalk$Classes;") (by decide +kernel)
  have lk35 := C.2.2.2.1 (.fieldLink RX4 35 "WaveWalk" "netCount" "I") (by decide +kernel)
  have lk39 := C.2.2.2.1 (.fieldLink RX4 39 "WaveWalk" "walkCount" "I") (by decide +kernel)
  have hinX4 : ∀ w ∈ wsX40, w ∈ wsX4_init := by decide +kernel
  have hl : lv_has ls 1 [(0, .ref (ad 0))] := hl
  refine lv_aload_n hx hb dX4_init_0 rfl (lv_at hl 0 rfl) ?_
  refine W.objInit hx hb C.2.2.1 (C.2.2.2.1 (.methodLink RX4 3 objectInit) (by decide +kernel)) (C.2.2.2.1 (.instanceMethod objectInit) (by decide +kernel)) (C.2.2.2.1 (.code objectInit ⟨#[0xb1]⟩ 1 none) (List.mem_cons_of_mem _ (List.mem_append_left _ (List.mem_append_left _ (List.mem_append_left _ (List.mem_append_left _ (List.mem_of_getElem? (i := 2) rfl))))))) rfl (hl.1.trans hml.symm) rfl dX4_init_1 (Nat.le_of_ble_eq_true rfl) (Nat.le_of_ble_eq_true rfl) ?_
  show W p l e rmX4_init s m args below meth c s.heap [] 0 0 Q (F0 m 4 ls [])
  refine lv_aload_n hx hb dX4_init_4 rfl (lv_at hl 0 rfl) ?_
  refine lv_bipush (v := nI 6) hx hb dX4_init_5 (by decide) ?_
  refine p_newq C hW hcl (hnin 1 (by decide) (by decide)) (C.2.2.2.1 (.classLink RX4 9 RX1) (by decide +kernel)) hg.1.2.2.2.2.2.2.2.2.2.1 (i := 3) (N := 6) rfl (by decide) (fun a => by rw [da9 (by decide) a, show ln 1 = 6 by decide]) (Nat.le_of_ble_eq_true rfl) (Nat.le_of_ble_eq_true rfl) dX4_init_7 (fun ad1 H hag2 hW => ?_)
  rw [← hag2 0 h0]
  have hl : lv_has ls 1 [(0, .ref (ad1 0))] := by rw [hag2 0 h0]; exact hl
  obtain ⟨L3, eL3⟩ : ∃ z, z = L ++ [1] := ⟨_, rfl⟩
  rw [← eL3] at hW
  obtain ⟨G4, eG4⟩ : ∃ z, z = va_up G 1 (fun _ => (none : Option Nat)) := ⟨_, rfl⟩
  rw [← eG4] at hW
  obtain ⟨I5, eI5⟩ : ∃ z, z = va_up I 1 (fun _ => (0 : Int32)) := ⟨_, rfl⟩
  rw [← eI5] at hW
  obtain ⟨J6, eJ6⟩ : ∃ z, z = va_up J 1 (fun _ => (0 : Int64)) := ⟨_, rfl⟩
  rw [← eJ6] at hW
  have cl7 : clo L3 G4 := clo_new hcl (hnin 1 (by decide) (by decide)) eL3 eG4
  have mo8 : ∀ q, q ∈ L → q ∈ L3 := fun q h => mem_old eL3 h
  refine f_X4_0 C hnm hinX4 hW (mo8 _ h0) (by decide) lk11 dX4_init_10 (fun H locs hW => ?_)
  obtain ⟨G9, eG9⟩ : ∃ z, z = va_up G4 0 (va_up (G4 0) 0 (some 1)) := ⟨_, rfl⟩
  rw [← eG9] at hW
  have cl10 : clo L3 G9 := clo_put cl7 (mo8 _ h0) (mem_new eL3) eG9
  refine lv_aload_n hx hb dX4_init_13 rfl (lv_at hl 0 rfl) ?_
  refine lv_bipush (v := nI 12) hx hb dX4_init_14 (by decide) ?_
  refine p_newq C hW cl10 (nin_push eL3 (hnin 2 (by decide) (by decide)) (by decide)) (C.2.2.2.1 (.classLink RX4 15 RX2) (by decide +kernel)) hg.1.2.2.2.2.2.2.2.2.2.2.1 (i := 4) (N := 12) rfl (by decide) (fun a => by rw [da10 (by decide) a, show ln 2 = 12 by decide]) (Nat.le_of_ble_eq_true rfl) (Nat.le_of_ble_eq_true rfl) dX4_init_16 (fun ad11 H hag12 hW => ?_)
  rw [← hag12 0 (mo8 _ h0)]
  have hl : lv_has ls 1 [(0, .ref (ad11 0))] := by rw [hag12 0 (mo8 _ h0)]; exact hl
  obtain ⟨L13, eL13⟩ : ∃ z, z = L3 ++ [2] := ⟨_, rfl⟩
  rw [← eL13] at hW
  obtain ⟨G14, eG14⟩ : ∃ z, z = va_up G9 2 (fun _ => (none : Option Nat)) := ⟨_, rfl⟩
  rw [← eG14] at hW
  obtain ⟨I15, eI15⟩ : ∃ z, z = va_up I5 2 (fun _ => (0 : Int32)) := ⟨_, rfl⟩
  rw [← eI15] at hW
  obtain ⟨J16, eJ16⟩ : ∃ z, z = va_up J6 2 (fun _ => (0 : Int64)) := ⟨_, rfl⟩
  rw [← eJ16] at hW
  have cl17 : clo L13 G14 := clo_new cl10 (nin_push eL3 (hnin 2 (by decide) (by decide)) (by decide)) eL13 eG14
  have mo18 : ∀ q, q ∈ L3 → q ∈ L13 := fun q h => mem_old eL13 h
  refine f_X4_1 C hnm hinX4 hW (mo18 _ (mo8 _ h0)) (by decide) lk17 dX4_init_19 (fun H locs hW => ?_)
  obtain ⟨G19, eG19⟩ : ∃ z, z = va_up G14 0 (va_up (G14 0) 1 (some 2)) := ⟨_, rfl⟩
  rw [← eG19] at hW
  have cl20 : clo L13 G19 := clo_put cl17 (mo18 _ (mo8 _ h0)) (mem_new eL13) eG19
  refine lv_aload_n hx hb dX4_init_22 rfl (lv_at hl 0 rfl) ?_
  refine p_new C hW cl20 (nin_push eL13 (nin_push eL3 (hnin 3 (by decide) (by decide)) (by decide)) (by decide)) (ci := 3) rfl (by decide +kernel) tyX3 tyX3_ok (C.2.2.2.1 (.classLink RX4 21 RX3) (by decide +kernel)) (C.2.2.2.1 (.instantiable RX3 2) (by decide +kernel)) (C.2.2.2.1 (.initialized RX3) (by decide +kernel)) dfX3 (fun a => dgX3 (by decide) a) (Nat.le_of_ble_eq_true rfl) (Nat.le_of_ble_eq_true rfl) dX4_init_23 (fun ad21 H hag22 hW => ?_)
  rw [← hag22 0 (mo18 _ (mo8 _ h0))]
  have hl : lv_has ls 1 [(0, .ref (ad21 0))] := by rw [hag22 0 (mo18 _ (mo8 _ h0))]; exact hl
  obtain ⟨L23, eL23⟩ : ∃ z, z = L13 ++ [3] := ⟨_, rfl⟩
  rw [← eL23] at hW
  obtain ⟨G24, eG24⟩ : ∃ z, z = va_up G19 3 (fun _ => (none : Option Nat)) := ⟨_, rfl⟩
  rw [← eG24] at hW
  obtain ⟨I25, eI25⟩ : ∃ z, z = va_up I15 3 (fun _ => (0 : Int32)) := ⟨_, rfl⟩
  rw [← eI25] at hW
  obtain ⟨J26, eJ26⟩ : ∃ z, z = va_up J16 3 (fun _ => (0 : Int64)) := ⟨_, rfl⟩
  rw [← eJ26] at hW
  have cl27 : clo L23 G24 := clo_new cl20 (nin_push eL13 (nin_push eL3 (hnin 3 (by decide) (by decide)) (by decide)) (by decide)) eL23 eG24
  have mo28 : ∀ q, q ∈ L13 → q ∈ L23 := fun q h => mem_old eL23 h
  refine lv_dup hx hb dX4_init_26 rfl ?_
  refine p_cIN C hml hg hW (c_X3_init l D cy L23 ad21 G24 I25 J26 cl27 3 4 (mem_new eL23) (by decide) (nin_push eL23 (nin_push eL13 (nin_push eL3 (hnin 4 (by decide) (by decide)) (by decide)) (by decide)) (by decide)) (by decide) (by decide)) ⟨va_cnB 0 C.2.2.2.1 gX4_init_X3_init rfl rfl rfl hg.1.1 (C.2.2.2.1 (.initialized RX3) (by decide +kernel)) (by decide +kernel) ⟨Nat.le_of_ble_eq_true rfl, Nat.le_of_ble_eq_true rfl⟩, rfl, C.2.2.2.1 (.instanceMethod yX3_init) (by decide +kernel)⟩ rfl hl.1 rfl (Nat.le_of_ble_eq_true rfl) dX4_init_27 (Nat.le_of_ble_eq_true rfl) (Nat.le_of_ble_eq_true rfl) (fun L29 ad30 G31 I32 J33 H locs hp hW => ?_)
  obtain ⟨eL33, cl33, hag33, hot33, hgw33, hgq33, hiw33, hjq33⟩ := hp
  have mo34 : ∀ q, q ∈ L23 → q ∈ L29 := fun q h => mem_old eL33 h
  rw [← hag33 0 (mo28 _ (mo18 _ (mo8 _ h0)))]
  rw [← hag33 3 (mem_new eL23)]
  have hl : lv_has ls 1 [(0, .ref (ad30 0))] := by rw [hag33 0 (mo28 _ (mo18 _ (mo8 _ h0)))]; exact hl
  refine f_X4_2 C hnm hinX4 hW (mo34 _ (mo28 _ (mo18 _ (mo8 _ h0)))) (by decide) lk24 dX4_init_30 (fun H locs hW => ?_)
  obtain ⟨G35, eG35⟩ : ∃ z, z = va_up G31 0 (va_up (G31 0) 2 (some 3)) := ⟨_, rfl⟩
  rw [← eG35] at hW
  have cl36 : clo L29 G35 := clo_put cl33 (mo34 _ (mo28 _ (mo18 _ (mo8 _ h0)))) (mo34 _ (mem_new eL23)) eG35
  refine lv_aload_n hx hb dX4_init_33 rfl (lv_at hl 0 rfl) ?_
  refine p_new C hW cl36 (nin_push eL33 (nin_push eL23 (nin_push eL13 (nin_push eL3 (hnin 5 (by decide) (by decide)) (by decide)) (by decide)) (by decide)) (by decide)) (ci := 0) rfl (by decide +kernel) tyX0 tyX0_ok (C.2.2.2.1 (.classLink RX4 28 RX0) (by decide +kernel)) (C.2.2.2.1 (.instantiable RX0 3) (by decide +kernel)) (C.2.2.2.1 (.initialized RX0) (by decide +kernel)) dfX0 (fun a => dgX0 (by decide) a) (Nat.le_of_ble_eq_true rfl) (Nat.le_of_ble_eq_true rfl) dX4_init_34 (fun ad37 H hag38 hW => ?_)
  rw [← hag38 0 (mo34 _ (mo28 _ (mo18 _ (mo8 _ h0))))]
  have hl : lv_has ls 1 [(0, .ref (ad37 0))] := by rw [hag38 0 (mo34 _ (mo28 _ (mo18 _ (mo8 _ h0))))]; exact hl
  obtain ⟨L39, eL39⟩ : ∃ z, z = L29 ++ [5] := ⟨_, rfl⟩
  rw [← eL39] at hW
  obtain ⟨G40, eG40⟩ : ∃ z, z = va_up G35 5 (fun _ => (none : Option Nat)) := ⟨_, rfl⟩
  rw [← eG40] at hW
  obtain ⟨I41, eI41⟩ : ∃ z, z = va_up I32 5 (fun _ => (0 : Int32)) := ⟨_, rfl⟩
  rw [← eI41] at hW
  obtain ⟨J42, eJ42⟩ : ∃ z, z = va_up J33 5 (fun _ => (0 : Int64)) := ⟨_, rfl⟩
  rw [← eJ42] at hW
  have cl43 : clo L39 G40 := clo_new cl36 (nin_push eL33 (nin_push eL23 (nin_push eL13 (nin_push eL3 (hnin 5 (by decide) (by decide)) (by decide)) (by decide)) (by decide)) (by decide)) eL39 eG40
  have mo44 : ∀ q, q ∈ L29 → q ∈ L39 := fun q h => mem_old eL39 h
  refine lv_dup hx hb dX4_init_37 rfl ?_
  refine p_cIN C hml hg hW (c_X0_init l D cy L39 ad37 G40 I41 J42 cl43 5 6 7 (mem_new eL39) (by decide) (nin_push eL39 (nin_push eL33 (nin_push eL23 (nin_push eL13 (nin_push eL3 (hnin 6 (by decide) (by decide)) (by decide)) (by decide)) (by decide)) (by decide)) (by decide)) (by decide) (by decide) (nin_push eL39 (nin_push eL33 (nin_push eL23 (nin_push eL13 (nin_push eL3 (hnin 7 (by decide) (by decide)) (by decide)) (by decide)) (by decide)) (by decide)) (by decide)) (by decide) (by decide) (by decide)) ⟨va_cnB 0 C.2.2.2.1 gX4_init_X0_init rfl rfl rfl hg.1.2.1 (C.2.2.2.1 (.initialized RX0) (by decide +kernel)) (by decide +kernel) ⟨Nat.le_of_ble_eq_true rfl, Nat.le_of_ble_eq_true rfl⟩, rfl, C.2.2.2.1 (.instanceMethod yX0_init) (by decide +kernel)⟩ rfl hl.1 rfl (Nat.le_of_ble_eq_true rfl) dX4_init_38 (Nat.le_of_ble_eq_true rfl) (Nat.le_of_ble_eq_true rfl) (fun L45 ad46 G47 I48 J49 H locs hp hW => ?_)
  obtain ⟨eL49, cl49, hag49, hot49, hgw49, hga49, hgb49⟩ := hp
  have mo50 : ∀ q, q ∈ L39 → q ∈ L45 := fun q h => by rw [eL49]; exact List.mem_append_left _ (List.mem_append_left _ h)
  rw [← hag49 0 (mo44 _ (mo34 _ (mo28 _ (mo18 _ (mo8 _ h0)))))]
  rw [← hag49 5 (mem_new eL39)]
  have hl : lv_has ls 1 [(0, .ref (ad46 0))] := by rw [hag49 0 (mo44 _ (mo34 _ (mo28 _ (mo18 _ (mo8 _ h0)))))]; exact hl
  refine f_X4_3 C hnm hinX4 hW (mo50 _ (mo44 _ (mo34 _ (mo28 _ (mo18 _ (mo8 _ h0)))))) (by decide) lk31 dX4_init_41 (fun H locs hW => ?_)
  obtain ⟨G51, eG51⟩ : ∃ z, z = va_up G47 0 (va_up (G47 0) 3 (some 5)) := ⟨_, rfl⟩
  rw [← eG51] at hW
  have cl52 : clo L45 G51 := clo_put cl49 (mo50 _ (mo44 _ (mo34 _ (mo28 _ (mo18 _ (mo8 _ h0)))))) (mo50 _ (mem_new eL39)) eG51
  refine lv_aload_n hx hb dX4_init_44 rfl (lv_at hl 0 rfl) ?_
  refine lv_iconst (v := nI 0) hx hb dX4_init_45 (by decide) ?_
  refine s_X4_4 C hinX4 hW (mo50 _ (mo44 _ (mo34 _ (mo28 _ (mo18 _ (mo8 _ h0)))))) (by decide) lk35 dX4_init_46 (fun H locs hW => ?_)
  obtain ⟨I53, eI53⟩ : ∃ z, z = va_up I48 0 (upd (I48 0) 4 (nI 0)) := ⟨_, rfl⟩
  rw [← eI53] at hW
  refine lv_aload_n hx hb dX4_init_49 rfl (lv_at hl 0 rfl) ?_
  refine lv_iconst (v := nI 0) hx hb dX4_init_50 (by decide) ?_
  refine s_X4_5 C hinX4 hW (mo50 _ (mo44 _ (mo34 _ (mo28 _ (mo18 _ (mo8 _ h0)))))) (by decide) lk39 dX4_init_51 (fun H locs hW => ?_)
  obtain ⟨I54, eI54⟩ : ∃ z, z = va_up I53 0 (upd (I53 0) 5 (nI 0)) := ⟨_, rfl⟩
  rw [← eI54] at hW
  exact ret _ _ _ _ _ _ _ _ _ _ _ (Nat.le_of_ble_eq_true rfl) (Nat.le_of_ble_eq_true rfl) hW ⟨by rw [eL49, eL39, eL33, eL23, eL13, eL3], cl52, (fun q hq => (((((hag49 q (mo44 q (mo34 q (mo28 q (mo18 q (mo8 q hq)))))).trans (hag38 q (mo34 q (mo28 q (mo18 q (mo8 q hq)))))).trans (hag33 q (mo28 q (mo18 q (mo8 q hq))))).trans (hag22 q (mo18 q (mo8 q hq)))).trans (hag12 q (mo8 q hq))).trans (hag2 q hq)), fun r h1 => ⟨by rw [eG51, va_up_ne _ _ (by omega), (hot49 r (by omega) (by omega) (by omega)).1, eG40, va_up_ne _ _ (by omega), eG35, va_up_ne _ _ (by omega), (hot33 r (by omega) (by omega)).1, eG24, va_up_ne _ _ (by omega), eG19, va_up_ne _ _ (by omega), eG14, va_up_ne _ _ (by omega), eG9, va_up_ne _ _ (by omega), eG4, va_up_ne _ _ (by omega)], by rw [eI54, va_up_ne _ _ (by omega), eI53, va_up_ne _ _ (by omega), (hot49 r (by omega) (by omega) (by omega)).2.1, eI41, va_up_ne _ _ (by omega), (hot33 r (by omega) (by omega)).2.1, eI25, va_up_ne _ _ (by omega), eI15, va_up_ne _ _ (by omega), eI5, va_up_ne _ _ (by omega)], by rw [(hot49 r (by omega) (by omega) (by omega)).2.2, eJ42, va_up_ne _ _ (by omega), (hot33 r (by omega) (by omega)).2.2, eJ26, va_up_ne _ _ (by omega), eJ16, va_up_ne _ _ (by omega), eJ6, va_up_ne _ _ (by omega)]⟩, by rw [eG51, va_up_self, va_up_ne _ _ (by decide), (hot49 0 (by decide) (by decide) (by decide)).1, eG40, va_up_ne _ _ (by decide), eG35, va_up_self, va_up_ne _ _ (by decide), (hot33 0 (by decide) (by decide)).1, eG24, va_up_ne _ _ (by decide), eG19, va_up_self, va_up_ne _ _ (by decide), eG14, va_up_ne _ _ (by decide), eG9, va_up_self, va_up_self], by rw [eG51, va_up_self, va_up_ne _ _ (by decide), (hot49 0 (by decide) (by decide) (by decide)).1, eG40, va_up_ne _ _ (by decide), eG35, va_up_self, va_up_ne _ _ (by decide), (hot33 0 (by decide) (by decide)).1, eG24, va_up_ne _ _ (by decide), eG19, va_up_self, va_up_self], by rw [eG51, va_up_self, va_up_ne _ _ (by decide), (hot49 0 (by decide) (by decide) (by decide)).1, eG40, va_up_ne _ _ (by decide), eG35, va_up_self, va_up_self], by rw [eG51, va_up_self, va_up_self], by rw [eG51, va_up_ne _ _ (by decide), (hot49 3 (by decide) (by decide) (by decide)).1, eG40, va_up_ne _ _ (by decide), eG35, va_up_ne _ _ (by decide), hgw33, va_up_self], by rw [eG51, va_up_ne _ _ (by decide), hgw49, va_up_ne _ _ (by decide), va_up_self], by rw [eG51, va_up_ne _ _ (by decide), hgw49, va_up_self], by rw [eG51, va_up_ne _ _ (by decide), (hot49 1 (by decide) (by decide) (by decide)).1, eG40, va_up_ne _ _ (by decide), eG35, va_up_ne _ _ (by decide), (hot33 1 (by decide) (by decide)).1, eG24, va_up_ne _ _ (by decide), eG19, va_up_ne _ _ (by decide), eG14, va_up_ne _ _ (by decide), eG9, va_up_ne _ _ (by decide), eG4, va_up_self], by rw [eG51, va_up_ne _ _ (by decide), (hot49 2 (by decide) (by decide) (by decide)).1, eG40, va_up_ne _ _ (by decide), eG35, va_up_ne _ _ (by decide), (hot33 2 (by decide) (by decide)).1, eG24, va_up_ne _ _ (by decide), eG19, va_up_ne _ _ (by decide), eG14, va_up_self], by rw [eI54, va_up_self, pk_un (by decide), eI53, va_up_self, pk_us], by rw [eI54, va_up_self, pk_us]⟩ dX4_init_54
abbrev rmX5_init : Room := { frames := 1, cells := 11, slots := 1100, locals := 20 }
set_option maxHeartbeats 400000 in
set_option maxRecDepth 100000 in
theorem c_X5_init (l : Launch) (D : va_G) (cy : Nat → ClassId) (L : List Nat) (ad : Nat → Nat) (G : mG) (I : mI) (J : mJ) (hcl : clo L G) (h0 : 64 ∈ L) (hnin : ∀ r, 65 ≤ r → r ≤ 75 → r ∉ L) : pMet l yX5_init wsX5_init rmX5_init D cy L ad G I J [.ref (ad 64)] (qN (nX5 L ad G I J) D cy) := by
  refine pMet.ofN (cc := cX5_init) (maxL := 1) (by decide +kernel) rfl (Nat.le_of_ble_eq_true rfl) ?_
  intro p e R s m args below meth c A Q C hml hR hnm hg ret hW ls hl
  subst hR
  have C : Cx p s m args c cX5_init RX5 wsX5_init D cy A := C
  have hx := C.1
  have hb := C.2.1
  have lk7 := C.2.2.2.1 (.fieldLink RX5 7 "WaveWalkModel" "places" "[I") (by decide +kernel)
  have lk13 := C.2.2.2.1 (.fieldLink RX5 13 "WaveWalkModel" "doors" "[I") (by decide +kernel)
  have lk16 := C.2.2.2.1 (.fieldLink RX5 16 "WaveWalkModel" "to" "[I") (by decide +kernel)
  have lk19 := C.2.2.2.1 (.fieldLink RX5 19 "WaveWalkModel" "isMarked" "[Z") (by decide +kernel)
  have lk23 := C.2.2.2.1 (.fieldLink RX5 23 "WaveWalkModel" "isUsed" "[Z") (by decide +kernel)
  have lk26 := C.2.2.2.1 (.fieldLink RX5 26 "WaveWalkModel" "netOf" "[I") (by decide +kernel)
  have lk29 := C.2.2.2.1 (.fieldLink RX5 29 "WaveWalkModel" "time" "[I") (by decide +kernel)
  have lk32 := C.2.2.2.1 (.fieldLink RX5 32 "WaveWalkModel" "wave" "[J") (by decide +kernel)
  have lk36 := C.2.2.2.1 (.fieldLink RX5 36 "WaveWalkModel" "next" "[J") (by decide +kernel)
  have lk39 := C.2.2.2.1 (.fieldLink RX5 39 "WaveWalkModel" "classes" "[I") (by decide +kernel)
  have lk42 := C.2.2.2.1 (.fieldLink RX5 42 "WaveWalkModel" "parted" "[I") (by decide +kernel)
  have hinX5 : ∀ w ∈ wsX50, w ∈ wsX5_init := by decide +kernel
  have hl : lv_has ls 1 [(0, .ref (ad 64))] := hl
  refine lv_aload_n hx hb dX5_init_0 rfl (lv_at hl 0 rfl) ?_
  refine W.objInit hx hb C.2.2.1 (C.2.2.2.1 (.methodLink RX5 1 objectInit) (by decide +kernel)) (C.2.2.2.1 (.instanceMethod objectInit) (by decide +kernel)) (C.2.2.2.1 (.code objectInit ⟨#[0xb1]⟩ 1 none) (List.mem_cons_of_mem _ (List.mem_append_left _ (List.mem_of_getElem? (i := 2) rfl)))) rfl (hl.1.trans hml.symm) rfl dX5_init_1 (Nat.le_of_ble_eq_true rfl) (Nat.le_of_ble_eq_true rfl) ?_
  show W p l e rmX5_init s m args below meth c s.heap [] 0 0 Q (F0 m 4 ls [])
  refine lv_aload_n hx hb dX5_init_4 rfl (lv_at hl 0 rfl) ?_
  refine lv_bipush (v := nI 6) hx hb dX5_init_5 (by decide) ?_
  refine p_newa C hW hcl (hnin 65 (by decide) (by decide)) (atype := .int) (C.2.2.2.1 (.arrayClass .int) (by decide +kernel)) (ty := .int) rfl (i := 0) (N := 6) rfl (by decide) (by decide) (a0 := (6, .inl (fun _ => 0))) (fun _ => rfl) (fun a => by rw [da6 (by decide) a, show ln 65 = 6 by decide]) (Nat.le_of_ble_eq_true rfl) (Nat.le_of_ble_eq_true rfl) dX5_init_7 (fun ad1 H hag2 hW => ?_)
  rw [← hag2 64 h0]
  have hl : lv_has ls 1 [(0, .ref (ad1 64))] := by rw [hag2 64 h0]; exact hl
  obtain ⟨L3, eL3⟩ : ∃ z, z = L ++ [65] := ⟨_, rfl⟩
  rw [← eL3] at hW
  obtain ⟨G4, eG4⟩ : ∃ z, z = va_up G 65 (fun _ => (none : Option Nat)) := ⟨_, rfl⟩
  rw [← eG4] at hW
  obtain ⟨I5, eI5⟩ : ∃ z, z = va_up I 65 (fun _ => (0 : Int32)) := ⟨_, rfl⟩
  rw [← eI5] at hW
  obtain ⟨J6, eJ6⟩ : ∃ z, z = va_up J 65 (fun _ => (0 : Int64)) := ⟨_, rfl⟩
  rw [← eJ6] at hW
  have cl7 : clo L3 G4 := clo_new hcl (hnin 65 (by decide) (by decide)) eL3 eG4
  have mo8 : ∀ q, q ∈ L → q ∈ L3 := fun q h => mem_old eL3 h
  refine f_X5_3 C hnm hinX5 hW (mo8 _ h0) (by decide) lk7 dX5_init_9 (fun H locs hW => ?_)
  obtain ⟨G9, eG9⟩ : ∃ z, z = va_up G4 64 (va_up (G4 64) 3 (some 65)) := ⟨_, rfl⟩
  rw [← eG9] at hW
  have cl10 : clo L3 G9 := clo_put cl7 (mo8 _ h0) (mem_new eL3) eG9
  refine lv_aload_n hx hb dX5_init_12 rfl (lv_at hl 0 rfl) ?_
  refine lv_bipush (v := nI 6) hx hb dX5_init_13 (by decide) ?_
  refine p_newa C hW cl10 (nin_push eL3 (hnin 66 (by decide) (by decide)) (by decide)) (atype := .int) (C.2.2.2.1 (.arrayClass .int) (by decide +kernel)) (ty := .int) rfl (i := 0) (N := 6) rfl (by decide) (by decide) (a0 := (6, .inl (fun _ => 0))) (fun _ => rfl) (fun a => by rw [da6 (by decide) a, show ln 66 = 6 by decide]) (Nat.le_of_ble_eq_true rfl) (Nat.le_of_ble_eq_true rfl) dX5_init_15 (fun ad11 H hag12 hW => ?_)
  rw [← hag12 64 (mo8 _ h0)]
  have hl : lv_has ls 1 [(0, .ref (ad11 64))] := by rw [hag12 64 (mo8 _ h0)]; exact hl
  obtain ⟨L13, eL13⟩ : ∃ z, z = L3 ++ [66] := ⟨_, rfl⟩
  rw [← eL13] at hW
  obtain ⟨G14, eG14⟩ : ∃ z, z = va_up G9 66 (fun _ => (none : Option Nat)) := ⟨_, rfl⟩
  rw [← eG14] at hW
  obtain ⟨I15, eI15⟩ : ∃ z, z = va_up I5 66 (fun _ => (0 : Int32)) := ⟨_, rfl⟩
  rw [← eI15] at hW
  obtain ⟨J16, eJ16⟩ : ∃ z, z = va_up J6 66 (fun _ => (0 : Int64)) := ⟨_, rfl⟩
  rw [← eJ16] at hW
  have cl17 : clo L13 G14 := clo_new cl10 (nin_push eL3 (hnin 66 (by decide) (by decide)) (by decide)) eL13 eG14
  have mo18 : ∀ q, q ∈ L3 → q ∈ L13 := fun q h => mem_old eL13 h
  refine f_X5_4 C hnm hinX5 hW (mo18 _ (mo8 _ h0)) (by decide) lk13 dX5_init_17 (fun H locs hW => ?_)
  obtain ⟨G19, eG19⟩ : ∃ z, z = va_up G14 64 (va_up (G14 64) 4 (some 66)) := ⟨_, rfl⟩
  rw [← eG19] at hW
  have cl20 : clo L13 G19 := clo_put cl17 (mo18 _ (mo8 _ h0)) (mem_new eL13) eG19
  refine lv_aload_n hx hb dX5_init_20 rfl (lv_at hl 0 rfl) ?_
  refine lv_sipush (v := nI 288) hx hb dX5_init_21 (by decide) ?_
  refine p_newa C hW cl20 (nin_push eL13 (nin_push eL3 (hnin 67 (by decide) (by decide)) (by decide)) (by decide)) (atype := .int) (C.2.2.2.1 (.arrayClass .int) (by decide +kernel)) (ty := .int) rfl (i := 0) (N := 288) rfl (by decide) (by decide) (a0 := (288, .inl (fun _ => 0))) (fun _ => rfl) (fun a => by rw [da6 (by decide) a, show ln 67 = 288 by decide]) (Nat.le_of_ble_eq_true rfl) (Nat.le_of_ble_eq_true rfl) dX5_init_24 (fun ad21 H hag22 hW => ?_)
  rw [← hag22 64 (mo18 _ (mo8 _ h0))]
  have hl : lv_has ls 1 [(0, .ref (ad21 64))] := by rw [hag22 64 (mo18 _ (mo8 _ h0))]; exact hl
  obtain ⟨L23, eL23⟩ : ∃ z, z = L13 ++ [67] := ⟨_, rfl⟩
  rw [← eL23] at hW
  obtain ⟨G24, eG24⟩ : ∃ z, z = va_up G19 67 (fun _ => (none : Option Nat)) := ⟨_, rfl⟩
  rw [← eG24] at hW
  obtain ⟨I25, eI25⟩ : ∃ z, z = va_up I15 67 (fun _ => (0 : Int32)) := ⟨_, rfl⟩
  rw [← eI25] at hW
  obtain ⟨J26, eJ26⟩ : ∃ z, z = va_up J16 67 (fun _ => (0 : Int64)) := ⟨_, rfl⟩
  rw [← eJ26] at hW
  have cl27 : clo L23 G24 := clo_new cl20 (nin_push eL13 (nin_push eL3 (hnin 67 (by decide) (by decide)) (by decide)) (by decide)) eL23 eG24
  have mo28 : ∀ q, q ∈ L13 → q ∈ L23 := fun q h => mem_old eL23 h
  refine f_X5_5 C hnm hinX5 hW (mo28 _ (mo18 _ (mo8 _ h0))) (by decide) lk16 dX5_init_26 (fun H locs hW => ?_)
  obtain ⟨G29, eG29⟩ : ∃ z, z = va_up G24 64 (va_up (G24 64) 5 (some 67)) := ⟨_, rfl⟩
  rw [← eG29] at hW
  have cl30 : clo L23 G29 := clo_put cl27 (mo28 _ (mo18 _ (mo8 _ h0))) (mem_new eL23) eG29
  refine lv_aload_n hx hb dX5_init_29 rfl (lv_at hl 0 rfl) ?_
  refine lv_bipush (v := nI 72) hx hb dX5_init_30 (by decide) ?_
  refine p_newa C hW cl30 (nin_push eL23 (nin_push eL13 (nin_push eL3 (hnin 68 (by decide) (by decide)) (by decide)) (by decide)) (by decide)) (atype := .boolean) (C.2.2.2.1 (.arrayClass .boolean) (by decide +kernel)) (ty := .boolean) rfl (i := 2) (N := 72) rfl (by decide) (by decide) (a0 := (72, .inl (fun _ => 0))) (fun _ => rfl) (fun a => by rw [da8 (by decide) a, show ln 68 = 72 by decide]) (Nat.le_of_ble_eq_true rfl) (Nat.le_of_ble_eq_true rfl) dX5_init_32 (fun ad31 H hag32 hW => ?_)
  rw [← hag32 64 (mo28 _ (mo18 _ (mo8 _ h0)))]
  have hl : lv_has ls 1 [(0, .ref (ad31 64))] := by rw [hag32 64 (mo28 _ (mo18 _ (mo8 _ h0)))]; exact hl
  obtain ⟨L33, eL33⟩ : ∃ z, z = L23 ++ [68] := ⟨_, rfl⟩
  rw [← eL33] at hW
  obtain ⟨G34, eG34⟩ : ∃ z, z = va_up G29 68 (fun _ => (none : Option Nat)) := ⟨_, rfl⟩
  rw [← eG34] at hW
  obtain ⟨I35, eI35⟩ : ∃ z, z = va_up I25 68 (fun _ => (0 : Int32)) := ⟨_, rfl⟩
  rw [← eI35] at hW
  obtain ⟨J36, eJ36⟩ : ∃ z, z = va_up J26 68 (fun _ => (0 : Int64)) := ⟨_, rfl⟩
  rw [← eJ36] at hW
  have cl37 : clo L33 G34 := clo_new cl30 (nin_push eL23 (nin_push eL13 (nin_push eL3 (hnin 68 (by decide) (by decide)) (by decide)) (by decide)) (by decide)) eL33 eG34
  have mo38 : ∀ q, q ∈ L23 → q ∈ L33 := fun q h => mem_old eL33 h
  refine f_X5_6 C hnm hinX5 hW (mo38 _ (mo28 _ (mo18 _ (mo8 _ h0)))) (by decide) lk19 dX5_init_34 (fun H locs hW => ?_)
  obtain ⟨G39, eG39⟩ : ∃ z, z = va_up G34 64 (va_up (G34 64) 6 (some 68)) := ⟨_, rfl⟩
  rw [← eG39] at hW
  have cl40 : clo L33 G39 := clo_put cl37 (mo38 _ (mo28 _ (mo18 _ (mo8 _ h0)))) (mem_new eL33) eG39
  refine lv_aload_n hx hb dX5_init_37 rfl (lv_at hl 0 rfl) ?_
  refine lv_bipush (v := nI 6) hx hb dX5_init_38 (by decide) ?_
  refine p_newa C hW cl40 (nin_push eL33 (nin_push eL23 (nin_push eL13 (nin_push eL3 (hnin 69 (by decide) (by decide)) (by decide)) (by decide)) (by decide)) (by decide)) (atype := .boolean) (C.2.2.2.1 (.arrayClass .boolean) (by decide +kernel)) (ty := .boolean) rfl (i := 2) (N := 6) rfl (by decide) (by decide) (a0 := (6, .inl (fun _ => 0))) (fun _ => rfl) (fun a => by rw [da8 (by decide) a, show ln 69 = 6 by decide]) (Nat.le_of_ble_eq_true rfl) (Nat.le_of_ble_eq_true rfl) dX5_init_40 (fun ad41 H hag42 hW => ?_)
  rw [← hag42 64 (mo38 _ (mo28 _ (mo18 _ (mo8 _ h0))))]
  have hl : lv_has ls 1 [(0, .ref (ad41 64))] := by rw [hag42 64 (mo38 _ (mo28 _ (mo18 _ (mo8 _ h0))))]; exact hl
  obtain ⟨L43, eL43⟩ : ∃ z, z = L33 ++ [69] := ⟨_, rfl⟩
  rw [← eL43] at hW
  obtain ⟨G44, eG44⟩ : ∃ z, z = va_up G39 69 (fun _ => (none : Option Nat)) := ⟨_, rfl⟩
  rw [← eG44] at hW
  obtain ⟨I45, eI45⟩ : ∃ z, z = va_up I35 69 (fun _ => (0 : Int32)) := ⟨_, rfl⟩
  rw [← eI45] at hW
  obtain ⟨J46, eJ46⟩ : ∃ z, z = va_up J36 69 (fun _ => (0 : Int64)) := ⟨_, rfl⟩
  rw [← eJ46] at hW
  have cl47 : clo L43 G44 := clo_new cl40 (nin_push eL33 (nin_push eL23 (nin_push eL13 (nin_push eL3 (hnin 69 (by decide) (by decide)) (by decide)) (by decide)) (by decide)) (by decide)) eL43 eG44
  have mo48 : ∀ q, q ∈ L33 → q ∈ L43 := fun q h => mem_old eL43 h
  refine f_X5_7 C hnm hinX5 hW (mo48 _ (mo38 _ (mo28 _ (mo18 _ (mo8 _ h0))))) (by decide) lk23 dX5_init_42 (fun H locs hW => ?_)
  obtain ⟨G49, eG49⟩ : ∃ z, z = va_up G44 64 (va_up (G44 64) 7 (some 69)) := ⟨_, rfl⟩
  rw [← eG49] at hW
  have cl50 : clo L43 G49 := clo_put cl47 (mo48 _ (mo38 _ (mo28 _ (mo18 _ (mo8 _ h0))))) (mem_new eL43) eG49
  refine lv_aload_n hx hb dX5_init_45 rfl (lv_at hl 0 rfl) ?_
  refine lv_bipush (v := nI 13) hx hb dX5_init_46 (by decide) ?_
  refine p_newa C hW cl50 (nin_push eL43 (nin_push eL33 (nin_push eL23 (nin_push eL13 (nin_push eL3 (hnin 70 (by decide) (by decide)) (by decide)) (by decide)) (by decide)) (by decide)) (by decide)) (atype := .int) (C.2.2.2.1 (.arrayClass .int) (by decide +kernel)) (ty := .int) rfl (i := 0) (N := 13) rfl (by decide) (by decide) (a0 := (13, .inl (fun _ => 0))) (fun _ => rfl) (fun a => by rw [da6 (by decide) a, show ln 70 = 13 by decide]) (Nat.le_of_ble_eq_true rfl) (Nat.le_of_ble_eq_true rfl) dX5_init_48 (fun ad51 H hag52 hW => ?_)
  rw [← hag52 64 (mo48 _ (mo38 _ (mo28 _ (mo18 _ (mo8 _ h0)))))]
  have hl : lv_has ls 1 [(0, .ref (ad51 64))] := by rw [hag52 64 (mo48 _ (mo38 _ (mo28 _ (mo18 _ (mo8 _ h0)))))]; exact hl
  obtain ⟨L53, eL53⟩ : ∃ z, z = L43 ++ [70] := ⟨_, rfl⟩
  rw [← eL53] at hW
  obtain ⟨G54, eG54⟩ : ∃ z, z = va_up G49 70 (fun _ => (none : Option Nat)) := ⟨_, rfl⟩
  rw [← eG54] at hW
  obtain ⟨I55, eI55⟩ : ∃ z, z = va_up I45 70 (fun _ => (0 : Int32)) := ⟨_, rfl⟩
  rw [← eI55] at hW
  obtain ⟨J56, eJ56⟩ : ∃ z, z = va_up J46 70 (fun _ => (0 : Int64)) := ⟨_, rfl⟩
  rw [← eJ56] at hW
  have cl57 : clo L53 G54 := clo_new cl50 (nin_push eL43 (nin_push eL33 (nin_push eL23 (nin_push eL13 (nin_push eL3 (hnin 70 (by decide) (by decide)) (by decide)) (by decide)) (by decide)) (by decide)) (by decide)) eL53 eG54
  have mo58 : ∀ q, q ∈ L43 → q ∈ L53 := fun q h => mem_old eL53 h
  refine f_X5_8 C hnm hinX5 hW (mo58 _ (mo48 _ (mo38 _ (mo28 _ (mo18 _ (mo8 _ h0)))))) (by decide) lk26 dX5_init_50 (fun H locs hW => ?_)
  obtain ⟨G59, eG59⟩ : ∃ z, z = va_up G54 64 (va_up (G54 64) 8 (some 70)) := ⟨_, rfl⟩
  rw [← eG59] at hW
  have cl60 : clo L53 G59 := clo_put cl57 (mo58 _ (mo48 _ (mo38 _ (mo28 _ (mo18 _ (mo8 _ h0)))))) (mem_new eL53) eG59
  refine lv_aload_n hx hb dX5_init_53 rfl (lv_at hl 0 rfl) ?_
  refine lv_bipush (v := nI 13) hx hb dX5_init_54 (by decide) ?_
  refine p_newa C hW cl60 (nin_push eL53 (nin_push eL43 (nin_push eL33 (nin_push eL23 (nin_push eL13 (nin_push eL3 (hnin 71 (by decide) (by decide)) (by decide)) (by decide)) (by decide)) (by decide)) (by decide)) (by decide)) (atype := .int) (C.2.2.2.1 (.arrayClass .int) (by decide +kernel)) (ty := .int) rfl (i := 0) (N := 13) rfl (by decide) (by decide) (a0 := (13, .inl (fun _ => 0))) (fun _ => rfl) (fun a => by rw [da6 (by decide) a, show ln 71 = 13 by decide]) (Nat.le_of_ble_eq_true rfl) (Nat.le_of_ble_eq_true rfl) dX5_init_56 (fun ad61 H hag62 hW => ?_)
  rw [← hag62 64 (mo58 _ (mo48 _ (mo38 _ (mo28 _ (mo18 _ (mo8 _ h0))))))]
  have hl : lv_has ls 1 [(0, .ref (ad61 64))] := by rw [hag62 64 (mo58 _ (mo48 _ (mo38 _ (mo28 _ (mo18 _ (mo8 _ h0))))))]; exact hl
  obtain ⟨L63, eL63⟩ : ∃ z, z = L53 ++ [71] := ⟨_, rfl⟩
  rw [← eL63] at hW
  obtain ⟨G64, eG64⟩ : ∃ z, z = va_up G59 71 (fun _ => (none : Option Nat)) := ⟨_, rfl⟩
  rw [← eG64] at hW
  obtain ⟨I65, eI65⟩ : ∃ z, z = va_up I55 71 (fun _ => (0 : Int32)) := ⟨_, rfl⟩
  rw [← eI65] at hW
  obtain ⟨J66, eJ66⟩ : ∃ z, z = va_up J56 71 (fun _ => (0 : Int64)) := ⟨_, rfl⟩
  rw [← eJ66] at hW
  have cl67 : clo L63 G64 := clo_new cl60 (nin_push eL53 (nin_push eL43 (nin_push eL33 (nin_push eL23 (nin_push eL13 (nin_push eL3 (hnin 71 (by decide) (by decide)) (by decide)) (by decide)) (by decide)) (by decide)) (by decide)) (by decide)) eL63 eG64
  have mo68 : ∀ q, q ∈ L53 → q ∈ L63 := fun q h => mem_old eL63 h
  refine f_X5_9 C hnm hinX5 hW (mo68 _ (mo58 _ (mo48 _ (mo38 _ (mo28 _ (mo18 _ (mo8 _ h0))))))) (by decide) lk29 dX5_init_58 (fun H locs hW => ?_)
  obtain ⟨G69, eG69⟩ : ∃ z, z = va_up G64 64 (va_up (G64 64) 9 (some 71)) := ⟨_, rfl⟩
  rw [← eG69] at hW
  have cl70 : clo L63 G69 := clo_put cl67 (mo68 _ (mo58 _ (mo48 _ (mo38 _ (mo28 _ (mo18 _ (mo8 _ h0))))))) (mem_new eL63) eG69
  refine lv_aload_n hx hb dX5_init_61 rfl (lv_at hl 0 rfl) ?_
  refine lv_sipush (v := nI 624) hx hb dX5_init_62 (by decide) ?_
  refine p_newa C hW cl70 (nin_push eL63 (nin_push eL53 (nin_push eL43 (nin_push eL33 (nin_push eL23 (nin_push eL13 (nin_push eL3 (hnin 72 (by decide) (by decide)) (by decide)) (by decide)) (by decide)) (by decide)) (by decide)) (by decide)) (by decide)) (atype := .long) (C.2.2.2.1 (.arrayClass .long) (by decide +kernel)) (ty := .long) rfl (i := 1) (N := 624) rfl (by decide) (by decide) (a0 := (624, .inr (.inl (fun _ => 0)))) (fun _ => rfl) (fun a => by rw [da7 (by decide) a, show ln 72 = 624 by decide]) (Nat.le_of_ble_eq_true rfl) (Nat.le_of_ble_eq_true rfl) dX5_init_65 (fun ad71 H hag72 hW => ?_)
  rw [← hag72 64 (mo68 _ (mo58 _ (mo48 _ (mo38 _ (mo28 _ (mo18 _ (mo8 _ h0)))))))]
  have hl : lv_has ls 1 [(0, .ref (ad71 64))] := by rw [hag72 64 (mo68 _ (mo58 _ (mo48 _ (mo38 _ (mo28 _ (mo18 _ (mo8 _ h0)))))))]; exact hl
  obtain ⟨L73, eL73⟩ : ∃ z, z = L63 ++ [72] := ⟨_, rfl⟩
  rw [← eL73] at hW
  obtain ⟨G74, eG74⟩ : ∃ z, z = va_up G69 72 (fun _ => (none : Option Nat)) := ⟨_, rfl⟩
  rw [← eG74] at hW
  obtain ⟨I75, eI75⟩ : ∃ z, z = va_up I65 72 (fun _ => (0 : Int32)) := ⟨_, rfl⟩
  rw [← eI75] at hW
  obtain ⟨J76, eJ76⟩ : ∃ z, z = va_up J66 72 (fun _ => (0 : Int64)) := ⟨_, rfl⟩
  rw [← eJ76] at hW
  have cl77 : clo L73 G74 := clo_new cl70 (nin_push eL63 (nin_push eL53 (nin_push eL43 (nin_push eL33 (nin_push eL23 (nin_push eL13 (nin_push eL3 (hnin 72 (by decide) (by decide)) (by decide)) (by decide)) (by decide)) (by decide)) (by decide)) (by decide)) (by decide)) eL73 eG74
  have mo78 : ∀ q, q ∈ L63 → q ∈ L73 := fun q h => mem_old eL73 h
  refine f_X5_10 C hnm hinX5 hW (mo78 _ (mo68 _ (mo58 _ (mo48 _ (mo38 _ (mo28 _ (mo18 _ (mo8 _ h0)))))))) (by decide) lk32 dX5_init_67 (fun H locs hW => ?_)
  obtain ⟨G79, eG79⟩ : ∃ z, z = va_up G74 64 (va_up (G74 64) 10 (some 72)) := ⟨_, rfl⟩
  rw [← eG79] at hW
  have cl80 : clo L73 G79 := clo_put cl77 (mo78 _ (mo68 _ (mo58 _ (mo48 _ (mo38 _ (mo28 _ (mo18 _ (mo8 _ h0)))))))) (mem_new eL73) eG79
  refine lv_aload_n hx hb dX5_init_70 rfl (lv_at hl 0 rfl) ?_
  refine lv_bipush (v := nI 48) hx hb dX5_init_71 (by decide) ?_
  refine p_newa C hW cl80 (nin_push eL73 (nin_push eL63 (nin_push eL53 (nin_push eL43 (nin_push eL33 (nin_push eL23 (nin_push eL13 (nin_push eL3 (hnin 73 (by decide) (by decide)) (by decide)) (by decide)) (by decide)) (by decide)) (by decide)) (by decide)) (by decide)) (by decide)) (atype := .long) (C.2.2.2.1 (.arrayClass .long) (by decide +kernel)) (ty := .long) rfl (i := 1) (N := 48) rfl (by decide) (by decide) (a0 := (48, .inr (.inl (fun _ => 0)))) (fun _ => rfl) (fun a => by rw [da7 (by decide) a, show ln 73 = 48 by decide]) (Nat.le_of_ble_eq_true rfl) (Nat.le_of_ble_eq_true rfl) dX5_init_73 (fun ad81 H hag82 hW => ?_)
  rw [← hag82 64 (mo78 _ (mo68 _ (mo58 _ (mo48 _ (mo38 _ (mo28 _ (mo18 _ (mo8 _ h0))))))))]
  have hl : lv_has ls 1 [(0, .ref (ad81 64))] := by rw [hag82 64 (mo78 _ (mo68 _ (mo58 _ (mo48 _ (mo38 _ (mo28 _ (mo18 _ (mo8 _ h0))))))))]; exact hl
  obtain ⟨L83, eL83⟩ : ∃ z, z = L73 ++ [73] := ⟨_, rfl⟩
  rw [← eL83] at hW
  obtain ⟨G84, eG84⟩ : ∃ z, z = va_up G79 73 (fun _ => (none : Option Nat)) := ⟨_, rfl⟩
  rw [← eG84] at hW
  obtain ⟨I85, eI85⟩ : ∃ z, z = va_up I75 73 (fun _ => (0 : Int32)) := ⟨_, rfl⟩
  rw [← eI85] at hW
  obtain ⟨J86, eJ86⟩ : ∃ z, z = va_up J76 73 (fun _ => (0 : Int64)) := ⟨_, rfl⟩
  rw [← eJ86] at hW
  have cl87 : clo L83 G84 := clo_new cl80 (nin_push eL73 (nin_push eL63 (nin_push eL53 (nin_push eL43 (nin_push eL33 (nin_push eL23 (nin_push eL13 (nin_push eL3 (hnin 73 (by decide) (by decide)) (by decide)) (by decide)) (by decide)) (by decide)) (by decide)) (by decide)) (by decide)) (by decide)) eL83 eG84
  have mo88 : ∀ q, q ∈ L73 → q ∈ L83 := fun q h => mem_old eL83 h
  refine f_X5_11 C hnm hinX5 hW (mo88 _ (mo78 _ (mo68 _ (mo58 _ (mo48 _ (mo38 _ (mo28 _ (mo18 _ (mo8 _ h0))))))))) (by decide) lk36 dX5_init_75 (fun H locs hW => ?_)
  obtain ⟨G89, eG89⟩ : ∃ z, z = va_up G84 64 (va_up (G84 64) 11 (some 73)) := ⟨_, rfl⟩
  rw [← eG89] at hW
  have cl90 : clo L83 G89 := clo_put cl87 (mo88 _ (mo78 _ (mo68 _ (mo58 _ (mo48 _ (mo38 _ (mo28 _ (mo18 _ (mo8 _ h0))))))))) (mem_new eL83) eG89
  refine lv_aload_n hx hb dX5_init_78 rfl (lv_at hl 0 rfl) ?_
  refine lv_bipush (v := nI 12) hx hb dX5_init_79 (by decide) ?_
  refine p_newa C hW cl90 (nin_push eL83 (nin_push eL73 (nin_push eL63 (nin_push eL53 (nin_push eL43 (nin_push eL33 (nin_push eL23 (nin_push eL13 (nin_push eL3 (hnin 74 (by decide) (by decide)) (by decide)) (by decide)) (by decide)) (by decide)) (by decide)) (by decide)) (by decide)) (by decide)) (by decide)) (atype := .int) (C.2.2.2.1 (.arrayClass .int) (by decide +kernel)) (ty := .int) rfl (i := 0) (N := 12) rfl (by decide) (by decide) (a0 := (12, .inl (fun _ => 0))) (fun _ => rfl) (fun a => by rw [da6 (by decide) a, show ln 74 = 12 by decide]) (Nat.le_of_ble_eq_true rfl) (Nat.le_of_ble_eq_true rfl) dX5_init_81 (fun ad91 H hag92 hW => ?_)
  rw [← hag92 64 (mo88 _ (mo78 _ (mo68 _ (mo58 _ (mo48 _ (mo38 _ (mo28 _ (mo18 _ (mo8 _ h0)))))))))]
  have hl : lv_has ls 1 [(0, .ref (ad91 64))] := by rw [hag92 64 (mo88 _ (mo78 _ (mo68 _ (mo58 _ (mo48 _ (mo38 _ (mo28 _ (mo18 _ (mo8 _ h0)))))))))]; exact hl
  obtain ⟨L93, eL93⟩ : ∃ z, z = L83 ++ [74] := ⟨_, rfl⟩
  rw [← eL93] at hW
  obtain ⟨G94, eG94⟩ : ∃ z, z = va_up G89 74 (fun _ => (none : Option Nat)) := ⟨_, rfl⟩
  rw [← eG94] at hW
  obtain ⟨I95, eI95⟩ : ∃ z, z = va_up I85 74 (fun _ => (0 : Int32)) := ⟨_, rfl⟩
  rw [← eI95] at hW
  obtain ⟨J96, eJ96⟩ : ∃ z, z = va_up J86 74 (fun _ => (0 : Int64)) := ⟨_, rfl⟩
  rw [← eJ96] at hW
  have cl97 : clo L93 G94 := clo_new cl90 (nin_push eL83 (nin_push eL73 (nin_push eL63 (nin_push eL53 (nin_push eL43 (nin_push eL33 (nin_push eL23 (nin_push eL13 (nin_push eL3 (hnin 74 (by decide) (by decide)) (by decide)) (by decide)) (by decide)) (by decide)) (by decide)) (by decide)) (by decide)) (by decide)) (by decide)) eL93 eG94
  have mo98 : ∀ q, q ∈ L83 → q ∈ L93 := fun q h => mem_old eL93 h
  refine f_X5_12 C hnm hinX5 hW (mo98 _ (mo88 _ (mo78 _ (mo68 _ (mo58 _ (mo48 _ (mo38 _ (mo28 _ (mo18 _ (mo8 _ h0)))))))))) (by decide) lk39 dX5_init_83 (fun H locs hW => ?_)
  obtain ⟨G99, eG99⟩ : ∃ z, z = va_up G94 64 (va_up (G94 64) 12 (some 74)) := ⟨_, rfl⟩
  rw [← eG99] at hW
  have cl100 : clo L93 G99 := clo_put cl97 (mo98 _ (mo88 _ (mo78 _ (mo68 _ (mo58 _ (mo48 _ (mo38 _ (mo28 _ (mo18 _ (mo8 _ h0)))))))))) (mem_new eL93) eG99
  refine lv_aload_n hx hb dX5_init_86 rfl (lv_at hl 0 rfl) ?_
  refine lv_bipush (v := nI 12) hx hb dX5_init_87 (by decide) ?_
  refine p_newa C hW cl100 (nin_push eL93 (nin_push eL83 (nin_push eL73 (nin_push eL63 (nin_push eL53 (nin_push eL43 (nin_push eL33 (nin_push eL23 (nin_push eL13 (nin_push eL3 (hnin 75 (by decide) (by decide)) (by decide)) (by decide)) (by decide)) (by decide)) (by decide)) (by decide)) (by decide)) (by decide)) (by decide)) (by decide)) (atype := .int) (C.2.2.2.1 (.arrayClass .int) (by decide +kernel)) (ty := .int) rfl (i := 0) (N := 12) rfl (by decide) (by decide) (a0 := (12, .inl (fun _ => 0))) (fun _ => rfl) (fun a => by rw [da6 (by decide) a, show ln 75 = 12 by decide]) (Nat.le_of_ble_eq_true rfl) (Nat.le_of_ble_eq_true rfl) dX5_init_89 (fun ad101 H hag102 hW => ?_)
  rw [← hag102 64 (mo98 _ (mo88 _ (mo78 _ (mo68 _ (mo58 _ (mo48 _ (mo38 _ (mo28 _ (mo18 _ (mo8 _ h0))))))))))]
  have hl : lv_has ls 1 [(0, .ref (ad101 64))] := by rw [hag102 64 (mo98 _ (mo88 _ (mo78 _ (mo68 _ (mo58 _ (mo48 _ (mo38 _ (mo28 _ (mo18 _ (mo8 _ h0))))))))))]; exact hl
  obtain ⟨L103, eL103⟩ : ∃ z, z = L93 ++ [75] := ⟨_, rfl⟩
  rw [← eL103] at hW
  obtain ⟨G104, eG104⟩ : ∃ z, z = va_up G99 75 (fun _ => (none : Option Nat)) := ⟨_, rfl⟩
  rw [← eG104] at hW
  obtain ⟨I105, eI105⟩ : ∃ z, z = va_up I95 75 (fun _ => (0 : Int32)) := ⟨_, rfl⟩
  rw [← eI105] at hW
  obtain ⟨J106, eJ106⟩ : ∃ z, z = va_up J96 75 (fun _ => (0 : Int64)) := ⟨_, rfl⟩
  rw [← eJ106] at hW
  have cl107 : clo L103 G104 := clo_new cl100 (nin_push eL93 (nin_push eL83 (nin_push eL73 (nin_push eL63 (nin_push eL53 (nin_push eL43 (nin_push eL33 (nin_push eL23 (nin_push eL13 (nin_push eL3 (hnin 75 (by decide) (by decide)) (by decide)) (by decide)) (by decide)) (by decide)) (by decide)) (by decide)) (by decide)) (by decide)) (by decide)) (by decide)) eL103 eG104
  have mo108 : ∀ q, q ∈ L93 → q ∈ L103 := fun q h => mem_old eL103 h
  refine f_X5_13 C hnm hinX5 hW (mo108 _ (mo98 _ (mo88 _ (mo78 _ (mo68 _ (mo58 _ (mo48 _ (mo38 _ (mo28 _ (mo18 _ (mo8 _ h0))))))))))) (by decide) lk42 dX5_init_91 (fun H locs hW => ?_)
  obtain ⟨G109, eG109⟩ : ∃ z, z = va_up G104 64 (va_up (G104 64) 13 (some 75)) := ⟨_, rfl⟩
  rw [← eG109] at hW
  have cl110 : clo L103 G109 := clo_put cl107 (mo108 _ (mo98 _ (mo88 _ (mo78 _ (mo68 _ (mo58 _ (mo48 _ (mo38 _ (mo28 _ (mo18 _ (mo8 _ h0))))))))))) (mem_new eL103) eG109
  have g3 : G109 64 3 = some 65 := by rw [eG109, va_up_self, va_up_ne _ _ (by decide), eG104, va_up_ne _ _ (by decide), eG99, va_up_self, va_up_ne _ _ (by decide), eG94, va_up_ne _ _ (by decide), eG89, va_up_self, va_up_ne _ _ (by decide), eG84, va_up_ne _ _ (by decide), eG79, va_up_self, va_up_ne _ _ (by decide), eG74, va_up_ne _ _ (by decide), eG69, va_up_self, va_up_ne _ _ (by decide), eG64, va_up_ne _ _ (by decide), eG59, va_up_self, va_up_ne _ _ (by decide), eG54, va_up_ne _ _ (by decide), eG49, va_up_self, va_up_ne _ _ (by decide), eG44, va_up_ne _ _ (by decide), eG39, va_up_self, va_up_ne _ _ (by decide), eG34, va_up_ne _ _ (by decide), eG29, va_up_self, va_up_ne _ _ (by decide), eG24, va_up_ne _ _ (by decide), eG19, va_up_self, va_up_ne _ _ (by decide), eG14, va_up_ne _ _ (by decide), eG9, va_up_self, va_up_self]
  have g4 : G109 64 4 = some 66 := by rw [eG109, va_up_self, va_up_ne _ _ (by decide), eG104, va_up_ne _ _ (by decide), eG99, va_up_self, va_up_ne _ _ (by decide), eG94, va_up_ne _ _ (by decide), eG89, va_up_self, va_up_ne _ _ (by decide), eG84, va_up_ne _ _ (by decide), eG79, va_up_self, va_up_ne _ _ (by decide), eG74, va_up_ne _ _ (by decide), eG69, va_up_self, va_up_ne _ _ (by decide), eG64, va_up_ne _ _ (by decide), eG59, va_up_self, va_up_ne _ _ (by decide), eG54, va_up_ne _ _ (by decide), eG49, va_up_self, va_up_ne _ _ (by decide), eG44, va_up_ne _ _ (by decide), eG39, va_up_self, va_up_ne _ _ (by decide), eG34, va_up_ne _ _ (by decide), eG29, va_up_self, va_up_ne _ _ (by decide), eG24, va_up_ne _ _ (by decide), eG19, va_up_self, va_up_self]
  have g5 : G109 64 5 = some 67 := by rw [eG109, va_up_self, va_up_ne _ _ (by decide), eG104, va_up_ne _ _ (by decide), eG99, va_up_self, va_up_ne _ _ (by decide), eG94, va_up_ne _ _ (by decide), eG89, va_up_self, va_up_ne _ _ (by decide), eG84, va_up_ne _ _ (by decide), eG79, va_up_self, va_up_ne _ _ (by decide), eG74, va_up_ne _ _ (by decide), eG69, va_up_self, va_up_ne _ _ (by decide), eG64, va_up_ne _ _ (by decide), eG59, va_up_self, va_up_ne _ _ (by decide), eG54, va_up_ne _ _ (by decide), eG49, va_up_self, va_up_ne _ _ (by decide), eG44, va_up_ne _ _ (by decide), eG39, va_up_self, va_up_ne _ _ (by decide), eG34, va_up_ne _ _ (by decide), eG29, va_up_self, va_up_self]
  have g6 : G109 64 6 = some 68 := by rw [eG109, va_up_self, va_up_ne _ _ (by decide), eG104, va_up_ne _ _ (by decide), eG99, va_up_self, va_up_ne _ _ (by decide), eG94, va_up_ne _ _ (by decide), eG89, va_up_self, va_up_ne _ _ (by decide), eG84, va_up_ne _ _ (by decide), eG79, va_up_self, va_up_ne _ _ (by decide), eG74, va_up_ne _ _ (by decide), eG69, va_up_self, va_up_ne _ _ (by decide), eG64, va_up_ne _ _ (by decide), eG59, va_up_self, va_up_ne _ _ (by decide), eG54, va_up_ne _ _ (by decide), eG49, va_up_self, va_up_ne _ _ (by decide), eG44, va_up_ne _ _ (by decide), eG39, va_up_self, va_up_self]
  have g7 : G109 64 7 = some 69 := by rw [eG109, va_up_self, va_up_ne _ _ (by decide), eG104, va_up_ne _ _ (by decide), eG99, va_up_self, va_up_ne _ _ (by decide), eG94, va_up_ne _ _ (by decide), eG89, va_up_self, va_up_ne _ _ (by decide), eG84, va_up_ne _ _ (by decide), eG79, va_up_self, va_up_ne _ _ (by decide), eG74, va_up_ne _ _ (by decide), eG69, va_up_self, va_up_ne _ _ (by decide), eG64, va_up_ne _ _ (by decide), eG59, va_up_self, va_up_ne _ _ (by decide), eG54, va_up_ne _ _ (by decide), eG49, va_up_self, va_up_self]
  have g8 : G109 64 8 = some 70 := by rw [eG109, va_up_self, va_up_ne _ _ (by decide), eG104, va_up_ne _ _ (by decide), eG99, va_up_self, va_up_ne _ _ (by decide), eG94, va_up_ne _ _ (by decide), eG89, va_up_self, va_up_ne _ _ (by decide), eG84, va_up_ne _ _ (by decide), eG79, va_up_self, va_up_ne _ _ (by decide), eG74, va_up_ne _ _ (by decide), eG69, va_up_self, va_up_ne _ _ (by decide), eG64, va_up_ne _ _ (by decide), eG59, va_up_self, va_up_self]
  have g9 : G109 64 9 = some 71 := by rw [eG109, va_up_self, va_up_ne _ _ (by decide), eG104, va_up_ne _ _ (by decide), eG99, va_up_self, va_up_ne _ _ (by decide), eG94, va_up_ne _ _ (by decide), eG89, va_up_self, va_up_ne _ _ (by decide), eG84, va_up_ne _ _ (by decide), eG79, va_up_self, va_up_ne _ _ (by decide), eG74, va_up_ne _ _ (by decide), eG69, va_up_self, va_up_self]
  have g10 : G109 64 10 = some 72 := by rw [eG109, va_up_self, va_up_ne _ _ (by decide), eG104, va_up_ne _ _ (by decide), eG99, va_up_self, va_up_ne _ _ (by decide), eG94, va_up_ne _ _ (by decide), eG89, va_up_self, va_up_ne _ _ (by decide), eG84, va_up_ne _ _ (by decide), eG79, va_up_self, va_up_self]
  have g11 : G109 64 11 = some 73 := by rw [eG109, va_up_self, va_up_ne _ _ (by decide), eG104, va_up_ne _ _ (by decide), eG99, va_up_self, va_up_ne _ _ (by decide), eG94, va_up_ne _ _ (by decide), eG89, va_up_self, va_up_self]
  have g12 : G109 64 12 = some 74 := by rw [eG109, va_up_self, va_up_ne _ _ (by decide), eG104, va_up_ne _ _ (by decide), eG99, va_up_self, va_up_self]
  have g13 : G109 64 13 = some 75 := by rw [eG109, va_up_self, va_up_self]
  have gk : ∀ k, 3 ≤ k → k ≤ 13 → G109 64 k = some (62 + k) := by
    intro k h1 h2
    have h : k = 3 ∨ k = 4 ∨ k = 5 ∨ k = 6 ∨ k = 7 ∨ k = 8 ∨ k = 9 ∨ k = 10 ∨ k = 11 ∨ k = 12 ∨ k = 13 := by omega
    rcases h with rfl | rfl | rfl | rfl | rfl | rfl | rfl | rfl | rfl | rfl | rfl
    · exact g3
    · exact g4
    · exact g5
    · exact g6
    · exact g7
    · exact g8
    · exact g9
    · exact g10
    · exact g11
    · exact g12
    · exact g13
  exact ret _ _ _ _ _ _ _ _ _ _ _ (Nat.le_of_ble_eq_true rfl) (Nat.le_of_ble_eq_true rfl) hW ⟨by rw [eL103, eL93, eL83, eL73, eL63, eL53, eL43, eL33, eL23, eL13, eL3], cl110, (fun q hq => ((((((((((hag102 q (mo98 q (mo88 q (mo78 q (mo68 q (mo58 q (mo48 q (mo38 q (mo28 q (mo18 q (mo8 q hq))))))))))).trans (hag92 q (mo88 q (mo78 q (mo68 q (mo58 q (mo48 q (mo38 q (mo28 q (mo18 q (mo8 q hq))))))))))).trans (hag82 q (mo78 q (mo68 q (mo58 q (mo48 q (mo38 q (mo28 q (mo18 q (mo8 q hq)))))))))).trans (hag72 q (mo68 q (mo58 q (mo48 q (mo38 q (mo28 q (mo18 q (mo8 q hq))))))))).trans (hag62 q (mo58 q (mo48 q (mo38 q (mo28 q (mo18 q (mo8 q hq)))))))).trans (hag52 q (mo48 q (mo38 q (mo28 q (mo18 q (mo8 q hq))))))).trans (hag42 q (mo38 q (mo28 q (mo18 q (mo8 q hq)))))).trans (hag32 q (mo28 q (mo18 q (mo8 q hq))))).trans (hag22 q (mo18 q (mo8 q hq)))).trans (hag12 q (mo8 q hq))).trans (hag2 q hq)), fun r h1 => ⟨by rw [eG109, va_up_ne _ _ (by omega), eG104, va_up_ne _ _ (by omega), eG99, va_up_ne _ _ (by omega), eG94, va_up_ne _ _ (by omega), eG89, va_up_ne _ _ (by omega), eG84, va_up_ne _ _ (by omega), eG79, va_up_ne _ _ (by omega), eG74, va_up_ne _ _ (by omega), eG69, va_up_ne _ _ (by omega), eG64, va_up_ne _ _ (by omega), eG59, va_up_ne _ _ (by omega), eG54, va_up_ne _ _ (by omega), eG49, va_up_ne _ _ (by omega), eG44, va_up_ne _ _ (by omega), eG39, va_up_ne _ _ (by omega), eG34, va_up_ne _ _ (by omega), eG29, va_up_ne _ _ (by omega), eG24, va_up_ne _ _ (by omega), eG19, va_up_ne _ _ (by omega), eG14, va_up_ne _ _ (by omega), eG9, va_up_ne _ _ (by omega), eG4, va_up_ne _ _ (by omega)], by rw [eI105, va_up_ne _ _ (by omega), eI95, va_up_ne _ _ (by omega), eI85, va_up_ne _ _ (by omega), eI75, va_up_ne _ _ (by omega), eI65, va_up_ne _ _ (by omega), eI55, va_up_ne _ _ (by omega), eI45, va_up_ne _ _ (by omega), eI35, va_up_ne _ _ (by omega), eI25, va_up_ne _ _ (by omega), eI15, va_up_ne _ _ (by omega), eI5, va_up_ne _ _ (by omega)], by rw [eJ106, va_up_ne _ _ (by omega), eJ96, va_up_ne _ _ (by omega), eJ86, va_up_ne _ _ (by omega), eJ76, va_up_ne _ _ (by omega), eJ66, va_up_ne _ _ (by omega), eJ56, va_up_ne _ _ (by omega), eJ46, va_up_ne _ _ (by omega), eJ36, va_up_ne _ _ (by omega), eJ26, va_up_ne _ _ (by omega), eJ16, va_up_ne _ _ (by omega), eJ6, va_up_ne _ _ (by omega)]⟩, gk, by rw [eI105, va_up_ne _ _ (by decide), eI95, va_up_ne _ _ (by decide), eI85, va_up_ne _ _ (by decide), eI75, va_up_ne _ _ (by decide), eI65, va_up_ne _ _ (by decide), eI55, va_up_ne _ _ (by decide), eI45, va_up_ne _ _ (by decide), eI35, va_up_ne _ _ (by decide), eI25, va_up_ne _ _ (by decide), eI15, va_up_ne _ _ (by decide), eI5, va_up_ne _ _ (by decide)], by rw [eI105, va_up_ne _ _ (by decide), eI95, va_up_ne _ _ (by decide), eI85, va_up_ne _ _ (by decide), eI75, va_up_ne _ _ (by decide), eI65, va_up_ne _ _ (by decide), eI55, va_up_ne _ _ (by decide), eI45, va_up_ne _ _ (by decide), eI35, va_up_self], by rw [eI105, va_up_ne _ _ (by decide), eI95, va_up_ne _ _ (by decide), eI85, va_up_ne _ _ (by decide), eI75, va_up_ne _ _ (by decide), eI65, va_up_ne _ _ (by decide), eI55, va_up_ne _ _ (by decide), eI45, va_up_self], by rw [eI105, va_up_ne _ _ (by decide), eI95, va_up_ne _ _ (by decide), eI85, va_up_ne _ _ (by decide), eI75, va_up_ne _ _ (by decide), eI65, va_up_self], by rw [eJ106, va_up_ne _ _ (by decide), eJ96, va_up_ne _ _ (by decide), eJ86, va_up_ne _ _ (by decide), eJ76, va_up_self]⟩ dX5_init_94
