/-! THE LAW FROM ITS ENTRY -/
theorem st_arr {ty : FieldType} {args : Array Value} {s : State} (h : (Cond.arrayClass ty).before args s = true) (hn : ∀ C, ty ≠ .object C) : ∃ cA, ArrOfT s cA ty ∧ va_RA s cA ty := by
  obtain ⟨cA, k, comp, h1, h2, h3⟩ := Cond.arrayClass_spec h
  refine ⟨cA, fun n z => ⟨fun k h => (by cases h), k, h2, comp, h3⟩, ?_⟩
  cases ty with
  | object C => exact absurd rfl (hn C)
  | _ => exact h1
theorem st_over {C : String} {args : Array Value} {s : State} (h : (Cond.arrayOver (.object C)).before args s = true) : ∃ cA, ArrOfT s cA (.object C) ∧ va_RA s cA (.object C) := by
  obtain ⟨comp, cA, k, h0, -, h2, h3, h4⟩ := Cond.arrayOver_spec h
  exact ⟨cA, fun n z => ⟨fun k h => (by cases h), k, h2, comp, h3⟩, k, comp, h2, h3, h0, h4⟩
theorem st_txt {own tx : String} {k : Nat} {args : Array Value} {s : State} (h1 : (Cond.stringRef own k tx).before args s = true) (h2 : (Cond.exactly (.string own k) "java/lang/String").before args s = true) : ∃ a, vk_R own k tx a s := by
  obtain ⟨a, c, cA, kA, q1, -⟩ := Cond.exactly_spec (args := args) (first := s) (o := none) (s := s) (idx := []) h2
  exact ⟨a, vk_R.of h1 q1⟩
def σ0 : Ab := (fun _ => 0, fun _ => 0, fun _ _ => 0, fun _ _ => false, fun _ => false, fun _ => 0, fun _ => 0, fun _ _ => 0)
set_option maxRecDepth 100000 in
set_option maxHeartbeats 1000000 in
theorem st_g {s : State} {b : Nat} (hts : ∀ w ∈ lw_tbl, w.before #[Value.ref b] s = true) (hgv : (Jvm.Cond.and given_1 narrow_1).before #[Value.ref b] s = true) : gX (fun q => s.heap.size ≤ q) s := by
  have hs := flat_of_before _ hgv
  have nh : ∀ a : Nat, a < s.heap.size → ¬ (fun q => s.heap.size ≤ q) a := fun a h => Nat.not_le.mpr h
  refine ⟨⟨va_tabs rfl rfl (hts (.methodLinkNest RX4 23 yX3_init RX4) (by decide +kernel)), va_tabs rfl rfl (hts (.methodLinkNest RX4 30 yX0_init RX4) (by decide +kernel)), va_tabs rfl rfl (hts (.methodLinkNest RX2 9 yX3_init RX4) (by decide +kernel)), va_tabs rfl rfl (hts (.methodLinkNest RX3 33 yX4_isTold RX4) (by decide +kernel)), va_tabs rfl rfl (hts (.declares (Bundle.initS "java/lang/RuntimeException")) (by decide +kernel)), va_tabs rfl rfl (hts (.declares (Bundle.initS "java/lang/Exception")) (by decide +kernel)), va_tabs rfl rfl (hts (.declares (Bundle.initS Bundle.tN)) (by decide +kernel)), va_tabs rfl rfl (hts (.castable na_N na_N) (by decide +kernel)), va_tabs rfl rfl (hts (.castable "java/lang/IllegalArgumentException" "java/lang/IllegalArgumentException") (by decide +kernel)), va_AO.of (hts (.arrayOver (.object "WaveWalk$Net")) (by decide +kernel)), va_AO.of (hts (.arrayOver (.object "WaveWalk$Walk")) (by decide +kernel)), va_Nc.of (hs (.not (.castable "java/lang/IllegalArgumentException" na_N)) (by decide +kernel)), st_txt (hts (.stringRef RX4 184 "no such net") (by decide +kernel)) (hs (.exactly (.string RX4 184) "java/lang/String") (by decide +kernel)), st_txt (hts (.stringRef RX4 191 "no such place") (by decide +kernel)) (hs (.exactly (.string RX4 191) "java/lang/String") (by decide +kernel)), st_txt (hts (.stringRef RX4 196 "no such door") (by decide +kernel)) (hs (.exactly (.string RX4 196) "java/lang/String") (by decide +kernel)), st_txt (hts (.stringRef RX4 186 "no such walk") (by decide +kernel)) (hs (.exactly (.string RX4 186) "java/lang/String") (by decide +kernel)), st_txt (hts (.stringRef RX4 202 "a told number is -100 to 100") (by decide +kernel)) (hs (.exactly (.string RX4 202) "java/lang/String") (by decide +kernel)), st_txt (hts (.stringRef RX4 204 "a number of steps is 0 to 60") (by decide +kernel)) (hs (.exactly (.string RX4 204) "java/lang/String") (by decide +kernel)), st_txt (hts (.stringRef RX4 143 "what is 0, 1 or 2") (by decide +kernel)) (hs (.exactly (.string RX4 143) "java/lang/String") (by decide +kernel)), st_txt (hts (.stringRef RX4 179 "the walks are of two nets") (by decide +kernel)) (hs (.exactly (.string RX4 179) "java/lang/String") (by decide +kernel)), st_txt (hts (.stringRef RX4 182 "what is 0 or 1") (by decide +kernel)) (hs (.exactly (.string RX4 182) "java/lang/String") (by decide +kernel))⟩, ?_, ?_⟩
  · exact vx_Zqof (hts (.laysStatic Bundle.tN "UNASSIGNED_STACK" Bundle.steD) (by decide +kernel)) (hts (.initialized Bundle.tN) (by decide +kernel)) (hs (.isRef (.static Bundle.tN "UNASSIGNED_STACK" Bundle.steD)) (by decide +kernel)) nh
  · exact vx_Zqof (hts (.laysStatic Bundle.tN "SUPPRESSED_SENTINEL" Bundle.listD) (by decide +kernel)) (hts (.initialized Bundle.tN) (by decide +kernel)) (hs (.isRef (.static Bundle.tN "SUPPRESSED_SENTINEL" Bundle.listD)) (by decide +kernel)) nh
set_option maxRecDepth 100000 in
set_option maxHeartbeats 1000000 in
theorem st_pic {L : List Nat} {G2 G4 : mG} {I2 I3 I4 I5 : mI} {J2 J3 J4 J5 : mJ} {ad1 ad2 ad3 ad4 : Nat → Nat} {L1 L2 L3 L4 : List Nat} {I1 : mI} {J1 : mJ} {G1 G3 G5 : mG} (eL : L = [0, 1, 2, 3, 4, 5, 6, 7, 64, 65, 66, 67, 68, 69, 70, 71, 72, 73, 74, 75, 80]) (hcl : clo L G5) (h4 : nX4 L1 ad1 G1 I1 J1 L2 ad2 G2 I2 J2) (eG3 : G3 = va_up G2 64 (fun _ => none)) (eI3 : I3 = va_up I2 64 (fun _ => 0)) (eJ3 : J3 = va_up J2 64 (fun _ => 0)) (h5 : nX5 L3 ad3 G3 I3 J3 L4 ad4 G4 I4 J4) (eG5 : G5 = va_up G4 80 (fun _ => none)) (eI5 : I5 = va_up I4 80 (fun _ => 0)) (eJ5 : J5 = va_up J4 80 (fun _ => 0)) : pic 0 0 σ0 L G5 I5 J5 := by
  obtain ⟨-, -, -, -, a0, a1, a2, a3, a4, a5, a6, a7, a8, a9, a10⟩ := h4
  obtain ⟨-, -, -, b0, b1, b2, b3, b4, b5, b6⟩ := h5
  have low : ∀ r, r < 64 → G5 r = G2 r ∧ I5 r = I2 r ∧ J5 r = J2 r := fun r hr => by
    obtain ⟨x1, x2, x3⟩ := b0 r (Or.inl hr)
    refine ⟨?_, ?_, ?_⟩
    · rw [eG5, va_up_ne _ _ (by omega), x1, eG3, va_up_ne _ _ (by omega)]
    · rw [eI5, va_up_ne _ _ (by omega), x2, eI3, va_up_ne _ _ (by omega)]
    · rw [eJ5, va_up_ne _ _ (by omega), x3, eJ3, va_up_ne _ _ (by omega)]
  have hi : ∀ r, r ≠ 80 → G5 r = G4 r ∧ I5 r = I4 r ∧ J5 r = J4 r := fun r hr => ⟨by rw [eG5, va_up_ne _ _ hr], by rw [eI5, va_up_ne _ _ hr], by rw [eJ5, va_up_ne _ _ hr]⟩
  have mem : ∀ r, (r < 8 ∨ (64 ≤ r ∧ r ≤ 75) ∨ r = 80) → r ∈ L := fun r h => by
    rw [eL]
    simp only [List.mem_cons, List.not_mem_nil]
    omega
  have nmem : ∀ r, 8 ≤ r → r < 64 → r ∉ L := fun r h1 h2 => by
    rw [eL]
    intro h
    simp only [List.mem_cons, List.not_mem_nil, or_false] at h
    omega
  refine ⟨⟨fun r hr => mem r (Or.inl hr), ?_, ?_, ?_, ?_, ?_, ?_, ?_, fun i hi => ?_, fun j hj => ?_, fun i hi => absurd hi (Nat.not_lt_zero i), fun j hj => absurd hj (Nat.not_lt_zero j)⟩, ⟨fun i _ h => ⟨nmem _ (by omega) (by omega), nmem _ (by omega) (by omega), nmem _ (by omega) (by omega)⟩, fun j _ h => ⟨nmem _ (by omega) (by omega), nmem _ (by omega) (by omega), nmem _ (by omega) (by omega)⟩⟩, hcl, ⟨fun r h1 h2 => mem r (Or.inr (Or.inl ⟨h1, h2⟩)), fun k h1 h2 => by rw [(hi 64 (by omega)).1]; exact b1 k h1 h2⟩, mem 80 (Or.inr (Or.inr rfl)), ⟨by omega, by omega, fun i hi => absurd hi (Nat.not_lt_zero i), fun j hj => absurd hj (Nat.not_lt_zero j)⟩, ⟨?_, ?_, fun i hi => absurd hi (Nat.not_lt_zero i), fun j hj => absurd hj (Nat.not_lt_zero j)⟩, ⟨?_, ?_, fun i hi => absurd hi (Nat.not_lt_zero i), fun i _ h => ⟨?_, fun q _ => ?_⟩, fun j hj => absurd hj (Nat.not_lt_zero j), fun j _ h => ⟨?_, fun k _ => ?_⟩⟩⟩
  · rw [(low 0 (by omega)).1]; exact a0
  · rw [(low 0 (by omega)).1]; exact a1
  · rw [(low 0 (by omega)).1]; exact a2
  · rw [(low 0 (by omega)).1]; exact a3
  · rw [(low 3 (by omega)).1]; exact a4
  · rw [(low 5 (by omega)).1]; exact a5
  · rw [(low 5 (by omega)).1]; exact a6
  · rw [(low 1 (by omega)).1, a7, if_neg (by omega)]
  · rw [(low 2 (by omega)).1, a8, if_neg (by omega)]
  · rw [(low 0 (by omega)).2.1]; exact a9
  · rw [(low 0 (by omega)).2.1]; exact a10
  · rw [(hi 64 (by omega)).2.1, b2, eI3, va_up_self]; rfl
  · rw [(hi 64 (by omega)).2.1, b2, eI3, va_up_self]; rfl
  · rw [(hi 69 (by omega)).2.1, b4]; rfl
  · rw [(hi 68 (by omega)).2.1, b3]; rfl
  · rw [(hi 71 (by omega)).2.1, b5]; rfl
  · rw [(hi 72 (by omega)).2.2, b6]
set_option maxRecDepth 100000 in
set_option maxHeartbeats 1000000 in
theorem whole_start {p : Program} {e : Env} {s : State} {m : MethodId} {below : List Frame} {meth : Method} {c : Code} (l : Launch) (hst0 : l.stackTraces = false) {b Lx : Nat} {xs : Nat → Int32} (hL : Lx ≤ 3072) (C0 : lw_At p s m meth c b Lx xs) : W p l e room_1 s m #[Value.ref b] below meth c s.heap [] 0 0 (lw_Z below #[Value.ref b] s) (entryFrame m ([Value.ref b] : List Value).toArray 8) := by
  obtain ⟨hx, hb, hr, hml, hown, hts, hX, hbl, hlk, hgv⟩ := id C0
  have hbA : ¬ (fun q : Nat => s.heap.size ≤ q) b := Nat.not_le.mpr hbl
  obtain ⟨c0, i0, k0⟩ := u_known (C := RX0) (T := TX0) (N := 3) (n := 3) hts inX0 (hts (.instantiable RX0 3) (by decide +kernel))
  obtain ⟨c1, i1, k1⟩ := u_known (C := RX1) (T := TX1) (N := 7) (n := 7) hts inX1 (hts (.instantiable RX1 7) (by decide +kernel))
  obtain ⟨c2, i2, k2⟩ := u_known (C := RX2) (T := TX2) (N := 3) (n := 3) hts inX2 (hts (.instantiable RX2 3) (by decide +kernel))
  obtain ⟨c3, i3, k3⟩ := u_known (C := RX3) (T := TX3) (N := 2) (n := 2) hts inX3 (hts (.instantiable RX3 2) (by decide +kernel))
  obtain ⟨c4, i4, k4⟩ := u_known (C := RX4) (T := TX4) (N := 6) (n := 6) hts inX4 (hts (.instantiable RX4 6) (by decide +kernel))
  obtain ⟨c5, i5, k5⟩ := u_known (C := RX5) (T := TX5) (N := 14) (n := 14) hts inX5 (hts (.instantiable RX5 14) (by decide +kernel))
  obtain ⟨D, hKc⟩ : ∃ D : va_G, ∀ (k : Nat) (q : vw_C), vwCl[k]? = some q → u_Kn s q.1 q.2.1 q.2.2 (D.1 k) (D.2 k) := by
    refine ⟨(fun k => match k with | 0 => c0 | 1 => c1 | 2 => c2 | 3 => c3 | 4 => c4 | _ => c5, fun k => match k with | 0 => i0 | 1 => i1 | 2 => i2 | 3 => i3 | 4 => i4 | _ => i5), ?_⟩
    intro k q hq
    match k, hq with
    | 0, hq => cases hq; exact k0
    | 1, hq => cases hq; exact k1
    | 2, hq => cases hq; exact k2
    | 3, hq => cases hq; exact k3
    | 4, hq => cases hq; exact k4
    | 5, hq => cases hq; exact k5
    | k + 6, hq => simp [vwCl] at hq
  obtain ⟨y0, z0, w0⟩ := st_arr (hts (.arrayClass .int) (by decide +kernel)) (fun _ h => by cases h)
  obtain ⟨y1, z1, w1⟩ := st_arr (hts (.arrayClass .long) (by decide +kernel)) (fun _ h => by cases h)
  obtain ⟨y2, z2, w2⟩ := st_arr (hts (.arrayClass .boolean) (by decide +kernel)) (fun _ h => by cases h)
  obtain ⟨y3, z3, w3⟩ := st_over (hts (.arrayOver (.object "WaveWalk$Net")) (by decide +kernel))
  obtain ⟨y4, z4, w4⟩ := st_over (hts (.arrayOver (.object "WaveWalk$Walk")) (by decide +kernel))
  obtain ⟨cy, hKt⟩ : ∃ cy : Nat → ClassId, ∀ (k : Nat) (q : ClassId × FieldType), (tysC cy)[k]? = some q → ArrOfT s q.1 q.2 ∧ va_RA s q.1 q.2 := by
    refine ⟨fun k => match k with | 0 => y0 | 1 => y1 | 2 => y2 | 3 => y3 | _ => y4, ?_⟩
    intro k q hq
    match k, hq with
    | 0, hq => cases hq; exact ⟨z0, w0⟩
    | 1, hq => cases hq; exact ⟨z1, w1⟩
    | 2, hq => cases hq; exact ⟨z2, w2⟩
    | 3, hq => cases hq; exact ⟨z3, w3⟩
    | 4, hq => cases hq; exact ⟨z4, w4⟩
    | k + 5, hq => simp [tysC] at hq
  have hK : va_K D vwCl (tysC cy) s := ⟨hKc, hKt⟩
  have C : Cx p s m #[Value.ref b] c cL_law RL wsL_law D cy (fun q : Nat => s.heap.size ≤ q) := ⟨hx, hb, hown, fun w h => hts w (wsL_law_in w h), hK, fun _ h => h⟩
  have hg := st_g hts hgv
  have hXs : scr b Lx xs (fun q : Nat => s.heap.size ≤ q) s := ⟨hX, hbl, hbA, hL⟩
  have hl := lv_entry ([.ref b]) (n := 8) (Nat.le_of_ble_eq_true rfl)
  rw [lg_entry_eq]
  generalize (lg_sl ([.ref b]) ++ List.replicate (8 - (lg_sl ([.ref b])).length) Slot.unset).toArray = ls at hl ⊢
  have hl : lv_has ls 8 [(0, .ref b)] := hl
  have hW : Wd D cy (fun q : Nat => s.heap.size ≤ q) s.heap s.heap [] [] (fun _ => 0) (fun _ _ => none) (fun _ _ => 0) (fun _ _ => 0) := ⟨fun k q h => by simp [pW, pQ] at h, ⟨fun i j p q h => by simp [pW, pQ] at h, fun k q h => by simp [pW, pQ] at h⟩, va_S.rf⟩
  have hc0 : clo [] (fun _ _ => none) := fun r h => by cases h
  refine p_new C hW hc0 (r := 0) List.not_mem_nil (ci := 4) rfl inlX4 tyX4 tyX4_ok (C.2.2.2.1 (.classLink RL 8 RX4) (by decide +kernel)) (C.2.2.2.1 (.instantiable RX4 6) (by decide +kernel)) (C.2.2.2.1 (.initialized RX4) (by decide +kernel)) dfX4 (fun a => dgX4 (by decide) a) (Nat.le_of_ble_eq_true rfl) (Nat.le_of_ble_eq_true rfl) dL_law_0 (fun ad1 H hag1 hW => ?_)
  refine lv_dup hx hb dL_law_3 rfl ?_
  obtain ⟨L1, eL1⟩ : ∃ z, z = ([] : List Nat) ++ [0] := ⟨_, rfl⟩
  rw [← eL1] at hW
  obtain ⟨G1, eG1⟩ : ∃ z : mG, z = va_up (fun (_ _ : Nat) => (none : Option Nat)) 0 (fun _ => (none : Option Nat)) := ⟨_, rfl⟩
  rw [← eG1] at hW
  obtain ⟨I1, eI1⟩ : ∃ z : mI, z = va_up (fun (_ _ : Nat) => (0 : Int32)) 0 (fun _ => (0 : Int32)) := ⟨_, rfl⟩
  rw [← eI1] at hW
  obtain ⟨J1, eJ1⟩ : ∃ z : mJ, z = va_up (fun (_ _ : Nat) => (0 : Int64)) 0 (fun _ => (0 : Int64)) := ⟨_, rfl⟩
  rw [← eJ1] at hW
  have hc1 : clo L1 G1 := clo_new hc0 List.not_mem_nil eL1 eG1
  refine p_cI C hml hg hW (c_X4_init l D cy L1 ad1 G1 I1 J1 hc1 (mem_new eL1) (fun r h1 h2 => nin_push eL1 List.not_mem_nil (by omega))) (cwI 0 C.2.2.2.1 gL_law_X4_init rfl rfl rfl (C.2.2.2.1 (.initialized RX4) (by decide +kernel)) (C.2.2.2.1 (.methodLink RL 76 yX4_init) (by decide +kernel)) (C.2.2.2.1 (.instanceMethod yX4_init) (by decide +kernel)) rfl (by decide +kernel) ⟨Nat.le_of_ble_eq_true rfl, Nat.le_of_ble_eq_true rfl⟩) rfl hl.1 rfl (Nat.le_of_ble_eq_true rfl) dL_law_4 (Nat.le_of_ble_eq_true rfl) (Nat.le_of_ble_eq_true rfl) (fun L2 ad2 G2 I2 J2 H locs h4 hW => ?_)
  have hag2 := h4.2.2.1
  have hc2 := h4.2.1
  have eL2 := h4.1
  have m0 : 0 ∈ L2 := by rw [eL2, eL1]; decide
  rw [← hag2 0 (mem_new eL1)]
  refine lv_astore_n (lv' := [(1, .ref (ad2 0)), (0, .ref b)]) hx hb dL_law_7 rfl hl (by decide) rfl (fun ls hl => ?_)
  have n64 : 64 ∉ L2 := by rw [eL2, eL1]; decide
  refine p_new C hW hc2 (r := 64) n64 (ci := 5) rfl inlX5 tyX5 tyX5_ok (C.2.2.2.1 (.classLink RL 77 RX5) (by decide +kernel)) (C.2.2.2.1 (.instantiable RX5 14) (by decide +kernel)) (C.2.2.2.1 (.initialized RX5) (by decide +kernel)) dfX5 (fun a => dgX5 (by decide) a) (Nat.le_of_ble_eq_true rfl) (Nat.le_of_ble_eq_true rfl) dL_law_8 (fun ad3 H hag3 hW => ?_)
  refine lv_dup hx hb dL_law_11 rfl ?_
  obtain ⟨L3, eL3⟩ : ∃ z, z = L2 ++ [64] := ⟨_, rfl⟩
  rw [← eL3] at hW
  obtain ⟨G3, eG3⟩ : ∃ z, z = va_up G2 64 (fun _ => (none : Option Nat)) := ⟨_, rfl⟩
  rw [← eG3] at hW
  obtain ⟨I3, eI3⟩ : ∃ z, z = va_up I2 64 (fun _ => (0 : Int32)) := ⟨_, rfl⟩
  rw [← eI3] at hW
  obtain ⟨J3, eJ3⟩ : ∃ z, z = va_up J2 64 (fun _ => (0 : Int64)) := ⟨_, rfl⟩
  rw [← eJ3] at hW
  have hc3 : clo L3 G3 := clo_new hc2 n64 eL3 eG3
  have hl : lv_has ls 8 [(1, .ref (ad3 0)), (0, .ref b)] := by rw [hag3 0 m0]; exact hl
  refine p_cI C hml hg hW (c_X5_init l D cy L3 ad3 G3 I3 J3 hc3 (mem_new eL3) (fun r h1 h2 => by rw [eL3, eL2, eL1]; intro h; simp only [List.mem_append, List.mem_cons, List.not_mem_nil, or_false, false_or] at h; omega)) (cwI 0 C.2.2.2.1 gL_law_X5_init rfl rfl rfl (C.2.2.2.1 (.initialized RX5) (by decide +kernel)) (C.2.2.2.1 (.methodLink RL 79 yX5_init) (by decide +kernel)) (C.2.2.2.1 (.instanceMethod yX5_init) (by decide +kernel)) rfl (by decide +kernel) ⟨Nat.le_of_ble_eq_true rfl, Nat.le_of_ble_eq_true rfl⟩) rfl hl.1 rfl (Nat.le_of_ble_eq_true rfl) dL_law_12 (Nat.le_of_ble_eq_true rfl) (Nat.le_of_ble_eq_true rfl) (fun L4 ad4 G4 I4 J4 H locs h5 hW => ?_)
  have hag4 := h5.2.2.1
  have hc4 := h5.2.1
  have eL4 := h5.1
  have m03 : 0 ∈ L3 := mem_old eL3 m0
  rw [← hag4 64 (mem_new eL3)]
  have hl : lv_has ls 8 [(1, .ref (ad4 0)), (0, .ref b)] := by rw [hag4 0 m03]; exact hl
  refine lv_astore_n (lv' := [(2, .ref (ad4 64)), (1, .ref (ad4 0)), (0, .ref b)]) hx hb dL_law_15 rfl hl (by decide) rfl (fun ls hl => ?_)
  refine lv_iconst (v := nI 1) hx hb dL_law_16 (by decide) ?_
  have n80 : 80 ∉ L4 := by rw [eL4, eL3, eL2, eL1]; decide
  have m04 : 0 ∈ L4 := by rw [eL4, eL3, eL2, eL1]; decide
  have m64 : 64 ∈ L4 := by rw [eL4, eL3, eL2, eL1]; decide
  refine p_newa C hW hc4 (r := 80) n80 (atype := .long) (C.2.2.2.1 (.arrayClass .long) (by decide +kernel)) (ty := .long) rfl (i := 1) (N := 1) rfl (by decide) (by decide) (a0 := (1, .inr (.inl (fun _ => 0)))) (fun _ => rfl) (fun a => by rw [da7 (by decide) a, show ln 80 = 1 by decide]) (Nat.le_of_ble_eq_true rfl) (Nat.le_of_ble_eq_true rfl) dL_law_17 (fun ad5 H hag5 hW => ?_)
  obtain ⟨L5, eL5⟩ : ∃ z, z = L4 ++ [80] := ⟨_, rfl⟩
  rw [← eL5] at hW
  obtain ⟨G5, eG5⟩ : ∃ z, z = va_up G4 80 (fun _ => (none : Option Nat)) := ⟨_, rfl⟩
  rw [← eG5] at hW
  obtain ⟨I5, eI5⟩ : ∃ z, z = va_up I4 80 (fun _ => (0 : Int32)) := ⟨_, rfl⟩
  rw [← eI5] at hW
  obtain ⟨J5, eJ5⟩ : ∃ z, z = va_up J4 80 (fun _ => (0 : Int64)) := ⟨_, rfl⟩
  rw [← eJ5] at hW
  have hc5 : clo L5 G5 := clo_new hc4 n80 eL5 eG5
  have hl : lv_has ls 8 [(2, .ref (ad5 64)), (1, .ref (ad5 0)), (0, .ref b)] := by rw [hag5 0 m04, hag5 64 m64]; exact hl
  refine lv_astore_n (lv' := [(3, .ref (ad5 80)), (2, .ref (ad5 64)), (1, .ref (ad5 0)), (0, .ref b)]) hx hb dL_law_19 rfl hl (by decide) rfl (fun ls hl => ?_)
  refine lv_iconst (v := nI 0) hx hb dL_law_20 (by decide) ?_
  refine lv_istore (lv' := [(4, .int (nI 0)), (3, .ref (ad5 80)), (2, .ref (ad5 64)), (1, .ref (ad5 0)), (0, .ref b)]) hx hb dL_law_21 hl (by decide) rfl (fun ls hl => ?_)
  have hpic : pic 0 0 σ0 L5 G5 I5 J5 := st_pic (by rw [eL5, eL4, eL3, eL2, eL1]; rfl) hc5 h4 eG3 eI3 eJ3 h5 eG5 eI5 eJ5
  exact law_loop hst0 C hr hlk hml hg hXs (Lx + 7) 0 _ _ (by omega) (by omega) (Nat.le_of_ble_eq_true rfl) (Nat.le_of_ble_eq_true rfl) 0 0 σ0 L5 ad5 G5 I5 J5 hpic _ _ hW ls (lv_sub hl [4, 3, 2, 1, 0] rfl)
