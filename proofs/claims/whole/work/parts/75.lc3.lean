set_option maxHeartbeats 1000000 in
set_option maxRecDepth 100000 in
theorem law_13 {p : Program} {l : Launch} {e : Env} {s : State} {m : MethodId} {args : Array Value} {below : List Frame} {meth : Method} {c : Code} {Q : State → Prop} {D : va_G} {cy : Nat → ClassId} {A : Nat → Prop} (hst0 : l.stackTraces = false) (C : Cx p s m args c cL_law RL wsL_law D cy A) (hml : c.maxLocals = 8) (hg : gX A s) {b Lx : Nat} {xs : Nat → Int32} (hX : scr b Lx xs A s) (i : Nat) (hi : i + 6 ≤ Lx) (cn cw : Nat) (σ : Ab) (L : List Nat) (ad : Nat → Nat) (G : mG) (I : mI) (J : mJ) (hp : pic cn cw σ L G I J) (H : Heap) (locs : List Loc) (cells slots : Nat) (hcc : cells ≤ 20000) (hcs : slots ≤ 200000) (hW : Wd D cy A s.heap H locs L ad G I J) (ls : Array Slot) (hl : lv_has ls 8 [(0, .ref b), (1, .ref (ad 0)), (2, .ref (ad 64)), (3, .ref (ad 80)), (4, .int (nI i))]) (K : kon p l e s m args below meth c Q D cy A b i cells slots) : W p l e room_1 s m args below meth c H locs cells slots Q (F0 m 1084 ls []) := by
  have hx := C.1
  have hb := C.2.1
  obtain ⟨hS, hf, hcl, hR, h80, hA, hD, hDr⟩ := id hp
  have h12 := hA.2.1
  have hXl := hX.2.2.2
  refine lv_aload_n hx hb dL_law_1084 rfl (lv_at hl 1 rfl) ?_
  refine lv_aload_n hx hb dL_law_1085 rfl (lv_at hl 0 rfl) ?_
  refine lv_iload hx hb dL_law_1086 (lv_at hl 4 rfl) ?_
  refine lv_iconst (v := nI 1) hx hb dL_law_1088 (by decide) ?_
  refine n_iadd hx hb dL_law_1089 ?_
  refine l_sld C hX hW (k := i + 1) (by omega) dL_law_1090 ?_
  refine lv_aload_n hx hb dL_law_1091 rfl (lv_at hl 0 rfl) ?_
  refine lv_iload hx hb dL_law_1092 (lv_at hl 4 rfl) ?_
  refine lv_iconst (v := nI 2) hx hb dL_law_1094 (by decide) ?_
  refine n_iadd hx hb dL_law_1095 ?_
  refine l_sld C hX hW (k := i + 2) (by omega) dL_law_1096 ?_
  refine lv_aload_n hx hb dL_law_1097 rfl (lv_at hl 0 rfl) ?_
  refine lv_iload hx hb dL_law_1098 (lv_at hl 4 rfl) ?_
  refine lv_iconst (v := nI 3) hx hb dL_law_1100 (by decide) ?_
  refine n_iadd hx hb dL_law_1101 ?_
  refine l_sld C hX hW (k := i + 3) (by omega) dL_law_1102 ?_
  refine lv_aload_n hx hb dL_law_1103 rfl (lv_at hl 3 rfl) ?_
  refine p_cHi C hml hg hW (c_L_arrives l hst0 D cy L ad G I J cn cw σ hS hA hD h80 (xs (i + 1)) (xs (i + 2)) (xs (i + 3))) (vx_cwSW 5 C.2.2.2.1 gL_law_L_arrives rfl rfl rfl (by decide +kernel) ⟨Nat.le_of_ble_eq_true rfl, Nat.le_of_ble_eq_true rfl⟩) rfl hl.1 rfl (Nat.le_of_ble_eq_true rfl) dL_law_1104 (show cells + 3 ≤ 601024 by omega) (show slots + 18 ≤ 7293034 by omega) (fun v1 I1 J1 H locs h1 hW => ?_)
  refine lv_istore (lv' := [(5, .int v1), (0, .ref b), (1, .ref (ad 0)), (2, .ref (ad 64)), (3, .ref (ad 80)), (4, .int (nI i))]) hx hb dL_law_1107 hl (by decide) rfl (fun ls hl => ?_)
  refine lv_aload_n hx hb dL_law_1109 rfl (lv_at hl 3 rfl) ?_
  refine lv_aload_n hx hb dL_law_1110 rfl (lv_at hl 1 rfl) ?_
  refine lv_iload hx hb dL_law_1111 (lv_at hl 5 rfl) ?_
  refine lv_iconst (v := nI 1) hx hb dL_law_1113 (by decide) ?_
  refine n_iadd hx hb dL_law_1114 ?_
  refine l_sld C hX hW (k := i + 1) (by omega) dL_law_1115 ?_
  refine lv_aload_n hx hb dL_law_1116 rfl (lv_at hl 1 rfl) ?_
  refine lv_iload hx hb dL_law_1117 (lv_at hl 5 rfl) ?_
  refine lv_iconst (v := nI 2) hx hb dL_law_1119 (by decide) ?_
  refine n_iadd hx hb dL_law_1120 ?_
  refine l_sld C hX hW (k := i + 2) (by omega) dL_law_1121 ?_
  refine lv_aload_n hx hb dL_law_1122 rfl (lv_at hl 1 rfl) ?_
  refine lv_iload hx hb dL_law_1123 (lv_at hl 5 rfl) ?_
  refine lv_iconst (v := nI 3) hx hb dL_law_1125 (by decide) ?_
  refine n_iadd hx hb dL_law_1126 ?_
  refine l_sld C hX hW (k := i + 3) (by omega) dL_law_1127 ?_
  refine p_cVi C hml hg hW (c_X5_arrives l D cy L ad G I1 J1 hR cn cw σ hA (hp.mid h1) (xs (i + 1)) (xs (i + 2)) (xs (i + 3))) (cwV 3 C.2.2.2.1 gL_law_X5_arrives rfl rfl rfl (by decide +kernel) ⟨Nat.le_of_ble_eq_true rfl, Nat.le_of_ble_eq_true rfl⟩) (p_recv C hW (hR.1 64 (by omega) (by omega)) (pF_5 (by decide)) rfl) rfl hl.1 rfl (Nat.le_of_ble_eq_true rfl) dL_law_1128 (show cells + 3 + 0 ≤ 601024 by omega) (show slots + 18 + 0 ≤ 7293034 by omega) (fun v2 I2 J2 H locs h2 hW => ?_)
  refine lv_istore (lv' := [(6, .int v2), (5, .int v1), (0, .ref b), (1, .ref (ad 0)), (2, .ref (ad 64)), (3, .ref (ad 80)), (4, .int (nI i))]) hx hb dL_law_1131 hl (by decide) rfl (fun ls hl => ?_)
  refine lv_aload_n hx hb dL_law_1133 rfl (lv_at hl 4 rfl) ?_
  refine p_cVi C hml hg hW (c_X5_thrown l D cy L ad G I2 J2 hR) (cwV 0 C.2.2.2.1 gL_law_X5_thrown rfl rfl rfl (by decide +kernel) ⟨Nat.le_of_ble_eq_true rfl, Nat.le_of_ble_eq_true rfl⟩) (p_recv C hW (hR.1 64 (by omega) (by omega)) (pF_5 (by decide)) rfl) rfl hl.1 rfl (Nat.le_of_ble_eq_true rfl) dL_law_1134 (show cells + 3 + 0 + 0 ≤ 601024 by omega) (show slots + 18 + 0 + 0 ≤ 7293034 by omega) (fun v3 I3 J3 H locs h3 hW => ?_)
  obtain ⟨e3, eI, eJ⟩ := h3
  subst v3
  subst I3
  subst J3
  refine lv_iload hx hb dL_law_1137 (lv_at hl 1 rfl) ?_
  refine lv_icmp_eq (tgt := 1144) hx hb dL_law_1139 (by decide) (fun hc_1 => ?_) (fun hc_1 => ?_)
  · skip
    refine lv_iload hx hb dL_law_1144 (lv_at hl 1 rfl) ?_
    refine lv_if_ne (tgt := 1161) hx hb dL_law_1146 (by decide) (fun hc_2 => ?_) (fun hc_2 => ?_)
    · skip
      refine lv_goto (tgt := 1483) hx hb dL_law_1161 (by decide) ?_
      exact K cn cw _ L ad G I2 J2 _ _ ls _ _ (hp.next (k_arr hA (xs (i + 1)) (xs (i + 2)) (xs (i + 3))) h1 h2) hW (lv_sub hl [2, 3, 4, 5, 6] rfl) (show cells + 3 + 0 + 0 ≤ cells + 12 by omega) (show slots + 18 + 0 + 0 ≤ slots + 120 by omega)
    · skip
      have hz := z3 (c3_arrives (xs (i + 1)) (xs (i + 2)) (xs (i + 3))) (h1.1.symm.trans hc_2)
      have ho := ((congrFun (h2.2.2.2 80 (by omega)).2 0).trans (h1.2.1 hz))
      have ho := ho.trans (h2.2.1 hz)
      refine lv_aload_n hx hb dL_law_1149 rfl (lv_at hl 5 rfl) ?_
      refine lv_iconst (v := nI 0) hx hb dL_law_1150 (by decide) ?_
      refine p_lald C hW h80 (by decide) (k := 0) rfl (by rw [show ln 80 = 1 by decide]; omega) dL_law_1151 ?_
      refine lv_iload hx hb dL_law_1152 (lv_at hl 0 rfl) ?_
      refine lv_i2l (v := v2.toInt64) hx hb dL_law_1154 rfl ?_
      refine l_eq (tgt := 1161) hx hb dL_law_1155 dL_law_1156 (by decide) (fun hc_3 => ?_) (fun hc_3 => ?_)
      · skip
        refine lv_goto (tgt := 1483) hx hb dL_law_1161 (by decide) ?_
        exact K cn cw _ L ad G I2 J2 _ _ ls _ _ (hp.next (k_arr hA (xs (i + 1)) (xs (i + 2)) (xs (i + 3))) h1 h2) hW (lv_sub hl [2, 3, 4, 5, 6] rfl) (show cells + 3 + 0 + 0 ≤ cells + 12 by omega) (show slots + 18 + 0 + 0 ≤ slots + 120 by omega)
      · skip
        exact absurd ho hc_3
  · skip
    exact absurd (h2.1.trans h1.1.symm) hc_1
set_option maxHeartbeats 1000000 in
set_option maxRecDepth 100000 in
theorem law_14 {p : Program} {l : Launch} {e : Env} {s : State} {m : MethodId} {args : Array Value} {below : List Frame} {meth : Method} {c : Code} {Q : State → Prop} {D : va_G} {cy : Nat → ClassId} {A : Nat → Prop} (hst0 : l.stackTraces = false) (C : Cx p s m args c cL_law RL wsL_law D cy A) (hml : c.maxLocals = 8) (hg : gX A s) {b Lx : Nat} {xs : Nat → Int32} (hX : scr b Lx xs A s) (i : Nat) (hi : i + 6 ≤ Lx) (cn cw : Nat) (σ : Ab) (L : List Nat) (ad : Nat → Nat) (G : mG) (I : mI) (J : mJ) (hp : pic cn cw σ L G I J) (H : Heap) (locs : List Loc) (cells slots : Nat) (hcc : cells ≤ 20000) (hcs : slots ≤ 200000) (hW : Wd D cy A s.heap H locs L ad G I J) (ls : Array Slot) (hl : lv_has ls 8 [(0, .ref b), (1, .ref (ad 0)), (2, .ref (ad 64)), (3, .ref (ad 80)), (4, .int (nI i))]) (K : kon p l e s m args below meth c Q D cy A b i cells slots) : W p l e room_1 s m args below meth c H locs cells slots Q (F0 m 1164 ls []) := by
  have hx := C.1
  have hb := C.2.1
  obtain ⟨hS, hf, hcl, hR, h80, hA, hD, hDr⟩ := id hp
  have h12 := hA.2.1
  have hXl := hX.2.2.2
  refine lv_aload_n hx hb dL_law_1164 rfl (lv_at hl 1 rfl) ?_
  refine lv_aload_n hx hb dL_law_1165 rfl (lv_at hl 0 rfl) ?_
  refine lv_iload hx hb dL_law_1166 (lv_at hl 4 rfl) ?_
  refine lv_iconst (v := nI 1) hx hb dL_law_1168 (by decide) ?_
  refine n_iadd hx hb dL_law_1169 ?_
  refine l_sld C hX hW (k := i + 1) (by omega) dL_law_1170 ?_
  refine lv_aload_n hx hb dL_law_1171 rfl (lv_at hl 0 rfl) ?_
  refine lv_iload hx hb dL_law_1172 (lv_at hl 4 rfl) ?_
  refine lv_iconst (v := nI 2) hx hb dL_law_1174 (by decide) ?_
  refine n_iadd hx hb dL_law_1175 ?_
  refine l_sld C hX hW (k := i + 2) (by omega) dL_law_1176 ?_
  refine lv_aload_n hx hb dL_law_1177 rfl (lv_at hl 3 rfl) ?_
  refine p_cHi C hml hg hW (c_L_returns l hst0 D cy L ad G I J cn cw σ hS hA hD h80 (xs (i + 1)) (xs (i + 2))) (vx_cwSW 4 C.2.2.2.1 gL_law_L_returns rfl rfl rfl (by decide +kernel) ⟨Nat.le_of_ble_eq_true rfl, Nat.le_of_ble_eq_true rfl⟩) rfl hl.1 rfl (Nat.le_of_ble_eq_true rfl) dL_law_1178 (show cells + 2 ≤ 601024 by omega) (show slots + 12 ≤ 7293034 by omega) (fun v1 I1 J1 H locs h1 hW => ?_)
  refine lv_istore (lv' := [(5, .int v1), (0, .ref b), (1, .ref (ad 0)), (2, .ref (ad 64)), (3, .ref (ad 80)), (4, .int (nI i))]) hx hb dL_law_1181 hl (by decide) rfl (fun ls hl => ?_)
  refine lv_aload_n hx hb dL_law_1183 rfl (lv_at hl 3 rfl) ?_
  refine lv_aload_n hx hb dL_law_1184 rfl (lv_at hl 1 rfl) ?_
  refine lv_iload hx hb dL_law_1185 (lv_at hl 5 rfl) ?_
  refine lv_iconst (v := nI 1) hx hb dL_law_1187 (by decide) ?_
  refine n_iadd hx hb dL_law_1188 ?_
  refine l_sld C hX hW (k := i + 1) (by omega) dL_law_1189 ?_
  refine lv_aload_n hx hb dL_law_1190 rfl (lv_at hl 1 rfl) ?_
  refine lv_iload hx hb dL_law_1191 (lv_at hl 5 rfl) ?_
  refine lv_iconst (v := nI 2) hx hb dL_law_1193 (by decide) ?_
  refine n_iadd hx hb dL_law_1194 ?_
  refine l_sld C hX hW (k := i + 2) (by omega) dL_law_1195 ?_
  refine p_cVi C hml hg hW (c_X5_returns l D cy L ad G I1 J1 hR cn cw σ hA (hp.mid h1) (xs (i + 1)) (xs (i + 2))) (cwV 2 C.2.2.2.1 gL_law_X5_returns rfl rfl rfl (by decide +kernel) ⟨Nat.le_of_ble_eq_true rfl, Nat.le_of_ble_eq_true rfl⟩) (p_recv C hW (hR.1 64 (by omega) (by omega)) (pF_5 (by decide)) rfl) rfl hl.1 rfl (Nat.le_of_ble_eq_true rfl) dL_law_1196 (show cells + 2 + 0 ≤ 601024 by omega) (show slots + 12 + 0 ≤ 7293034 by omega) (fun v2 I2 J2 H locs h2 hW => ?_)
  refine lv_istore (lv' := [(6, .int v2), (5, .int v1), (0, .ref b), (1, .ref (ad 0)), (2, .ref (ad 64)), (3, .ref (ad 80)), (4, .int (nI i))]) hx hb dL_law_1199 hl (by decide) rfl (fun ls hl => ?_)
  refine lv_aload_n hx hb dL_law_1201 rfl (lv_at hl 4 rfl) ?_
  refine p_cVi C hml hg hW (c_X5_thrown l D cy L ad G I2 J2 hR) (cwV 0 C.2.2.2.1 gL_law_X5_thrown rfl rfl rfl (by decide +kernel) ⟨Nat.le_of_ble_eq_true rfl, Nat.le_of_ble_eq_true rfl⟩) (p_recv C hW (hR.1 64 (by omega) (by omega)) (pF_5 (by decide)) rfl) rfl hl.1 rfl (Nat.le_of_ble_eq_true rfl) dL_law_1202 (show cells + 2 + 0 + 0 ≤ 601024 by omega) (show slots + 12 + 0 + 0 ≤ 7293034 by omega) (fun v3 I3 J3 H locs h3 hW => ?_)
  obtain ⟨e3, eI, eJ⟩ := h3
  subst v3
  subst I3
  subst J3
  refine lv_iload hx hb dL_law_1205 (lv_at hl 1 rfl) ?_
  refine lv_icmp_eq (tgt := 1212) hx hb dL_law_1207 (by decide) (fun hc_1 => ?_) (fun hc_1 => ?_)
  · skip
    refine lv_iload hx hb dL_law_1212 (lv_at hl 1 rfl) ?_
    refine lv_if_ne (tgt := 1229) hx hb dL_law_1214 (by decide) (fun hc_2 => ?_) (fun hc_2 => ?_)
    · skip
      refine lv_goto (tgt := 1483) hx hb dL_law_1229 (by decide) ?_
      exact K cn cw _ L ad G I2 J2 _ _ ls _ _ (hp.next (k_ret hA (xs (i + 1)) (xs (i + 2))) h1 h2) hW (lv_sub hl [2, 3, 4, 5, 6] rfl) (show cells + 2 + 0 + 0 ≤ cells + 12 by omega) (show slots + 12 + 0 + 0 ≤ slots + 120 by omega)
    · skip
      have hz := z3 (c3_returns (xs (i + 1)) (xs (i + 2))) (h1.1.symm.trans hc_2)
      have ho := ((congrFun (h2.2.2.2 80 (by omega)).2 0).trans (h1.2.1 hz))
      have ho := ho.trans (h2.2.1 hz)
      refine lv_aload_n hx hb dL_law_1217 rfl (lv_at hl 5 rfl) ?_
      refine lv_iconst (v := nI 0) hx hb dL_law_1218 (by decide) ?_
      refine p_lald C hW h80 (by decide) (k := 0) rfl (by rw [show ln 80 = 1 by decide]; omega) dL_law_1219 ?_
      refine lv_iload hx hb dL_law_1220 (lv_at hl 0 rfl) ?_
      refine lv_i2l (v := v2.toInt64) hx hb dL_law_1222 rfl ?_
      refine l_eq (tgt := 1229) hx hb dL_law_1223 dL_law_1224 (by decide) (fun hc_3 => ?_) (fun hc_3 => ?_)
      · skip
        refine lv_goto (tgt := 1483) hx hb dL_law_1229 (by decide) ?_
        exact K cn cw _ L ad G I2 J2 _ _ ls _ _ (hp.next (k_ret hA (xs (i + 1)) (xs (i + 2))) h1 h2) hW (lv_sub hl [2, 3, 4, 5, 6] rfl) (show cells + 2 + 0 + 0 ≤ cells + 12 by omega) (show slots + 12 + 0 + 0 ≤ slots + 120 by omega)
      · skip
        exact absurd ho hc_3
  · skip
    exact absurd (h2.1.trans h1.1.symm) hc_1
set_option maxHeartbeats 1000000 in
set_option maxRecDepth 100000 in
theorem law_15 {p : Program} {l : Launch} {e : Env} {s : State} {m : MethodId} {args : Array Value} {below : List Frame} {meth : Method} {c : Code} {Q : State → Prop} {D : va_G} {cy : Nat → ClassId} {A : Nat → Prop} (hst0 : l.stackTraces = false) (C : Cx p s m args c cL_law RL wsL_law D cy A) (hml : c.maxLocals = 8) (hg : gX A s) {b Lx : Nat} {xs : Nat → Int32} (hX : scr b Lx xs A s) (i : Nat) (hi : i + 6 ≤ Lx) (cn cw : Nat) (σ : Ab) (L : List Nat) (ad : Nat → Nat) (G : mG) (I : mI) (J : mJ) (hp : pic cn cw σ L G I J) (H : Heap) (locs : List Loc) (cells slots : Nat) (hcc : cells ≤ 20000) (hcs : slots ≤ 200000) (hW : Wd D cy A s.heap H locs L ad G I J) (ls : Array Slot) (hl : lv_has ls 8 [(0, .ref b), (1, .ref (ad 0)), (2, .ref (ad 64)), (3, .ref (ad 80)), (4, .int (nI i))]) (K : kon p l e s m args below meth c Q D cy A b i cells slots) : W p l e room_1 s m args below meth c H locs cells slots Q (F0 m 1232 ls []) := by
  have hx := C.1
  have hb := C.2.1
  obtain ⟨hS, hf, hcl, hR, h80, hA, hD, hDr⟩ := id hp
  have h12 := hA.2.1
  have hXl := hX.2.2.2
  refine lv_aload_n hx hb dL_law_1232 rfl (lv_at hl 1 rfl) ?_
  refine lv_aload_n hx hb dL_law_1233 rfl (lv_at hl 0 rfl) ?_
  refine lv_iload hx hb dL_law_1234 (lv_at hl 4 rfl) ?_
  refine lv_iconst (v := nI 1) hx hb dL_law_1236 (by decide) ?_
  refine n_iadd hx hb dL_law_1237 ?_
  refine l_sld C hX hW (k := i + 1) (by omega) dL_law_1238 ?_
  refine lv_aload_n hx hb dL_law_1239 rfl (lv_at hl 0 rfl) ?_
  refine lv_iload hx hb dL_law_1240 (lv_at hl 4 rfl) ?_
  refine lv_iconst (v := nI 2) hx hb dL_law_1242 (by decide) ?_
  refine n_iadd hx hb dL_law_1243 ?_
  refine l_sld C hX hW (k := i + 2) (by omega) dL_law_1244 ?_
  refine lv_aload_n hx hb dL_law_1245 rfl (lv_at hl 3 rfl) ?_
  refine p_cHi C hml hg hW (c_L_best l hst0 D cy L ad G I J cn cw σ hS hA hD h80 (xs (i + 1)) (xs (i + 2))) (vx_cwSW 4 C.2.2.2.1 gL_law_L_best rfl rfl rfl (by decide +kernel) ⟨Nat.le_of_ble_eq_true rfl, Nat.le_of_ble_eq_true rfl⟩) rfl hl.1 rfl (Nat.le_of_ble_eq_true rfl) dL_law_1246 (show cells + 2 ≤ 601024 by omega) (show slots + 12 ≤ 7293034 by omega) (fun v1 I1 J1 H locs h1 hW => ?_)
  refine lv_istore (lv' := [(5, .int v1), (0, .ref b), (1, .ref (ad 0)), (2, .ref (ad 64)), (3, .ref (ad 80)), (4, .int (nI i))]) hx hb dL_law_1249 hl (by decide) rfl (fun ls hl => ?_)
  refine lv_aload_n hx hb dL_law_1251 rfl (lv_at hl 3 rfl) ?_
  refine lv_aload_n hx hb dL_law_1252 rfl (lv_at hl 1 rfl) ?_
  refine lv_iload hx hb dL_law_1253 (lv_at hl 5 rfl) ?_
  refine lv_iconst (v := nI 1) hx hb dL_law_1255 (by decide) ?_
  refine n_iadd hx hb dL_law_1256 ?_
  refine l_sld C hX hW (k := i + 1) (by omega) dL_law_1257 ?_
  refine lv_aload_n hx hb dL_law_1258 rfl (lv_at hl 1 rfl) ?_
  refine lv_iload hx hb dL_law_1259 (lv_at hl 5 rfl) ?_
  refine lv_iconst (v := nI 2) hx hb dL_law_1261 (by decide) ?_
  refine n_iadd hx hb dL_law_1262 ?_
  refine l_sld C hX hW (k := i + 2) (by omega) dL_law_1263 ?_
  refine p_cVi C hml hg hW (c_X5_best l D cy L ad G I1 J1 hR cn cw σ hA (hp.mid h1) (xs (i + 1)) (xs (i + 2))) (cwV 2 C.2.2.2.1 gL_law_X5_best rfl rfl rfl (by decide +kernel) ⟨Nat.le_of_ble_eq_true rfl, Nat.le_of_ble_eq_true rfl⟩) (p_recv C hW (hR.1 64 (by omega) (by omega)) (pF_5 (by decide)) rfl) rfl hl.1 rfl (Nat.le_of_ble_eq_true rfl) dL_law_1264 (show cells + 2 + 0 ≤ 601024 by omega) (show slots + 12 + 0 ≤ 7293034 by omega) (fun v2 I2 J2 H locs h2 hW => ?_)
  refine lv_istore (lv' := [(6, .int v2), (5, .int v1), (0, .ref b), (1, .ref (ad 0)), (2, .ref (ad 64)), (3, .ref (ad 80)), (4, .int (nI i))]) hx hb dL_law_1267 hl (by decide) rfl (fun ls hl => ?_)
  refine lv_aload_n hx hb dL_law_1269 rfl (lv_at hl 4 rfl) ?_
  refine p_cVi C hml hg hW (c_X5_thrown l D cy L ad G I2 J2 hR) (cwV 0 C.2.2.2.1 gL_law_X5_thrown rfl rfl rfl (by decide +kernel) ⟨Nat.le_of_ble_eq_true rfl, Nat.le_of_ble_eq_true rfl⟩) (p_recv C hW (hR.1 64 (by omega) (by omega)) (pF_5 (by decide)) rfl) rfl hl.1 rfl (Nat.le_of_ble_eq_true rfl) dL_law_1270 (show cells + 2 + 0 + 0 ≤ 601024 by omega) (show slots + 12 + 0 + 0 ≤ 7293034 by omega) (fun v3 I3 J3 H locs h3 hW => ?_)
  obtain ⟨e3, eI, eJ⟩ := h3
  subst v3
  subst I3
  subst J3
  refine lv_iload hx hb dL_law_1273 (lv_at hl 1 rfl) ?_
  refine lv_icmp_eq (tgt := 1280) hx hb dL_law_1275 (by decide) (fun hc_1 => ?_) (fun hc_1 => ?_)
  · skip
    refine lv_iload hx hb dL_law_1280 (lv_at hl 1 rfl) ?_
    refine lv_if_ne (tgt := 1297) hx hb dL_law_1282 (by decide) (fun hc_2 => ?_) (fun hc_2 => ?_)
    · skip
      refine lv_goto (tgt := 1483) hx hb dL_law_1297 (by decide) ?_
      exact K cn cw _ L ad G I2 J2 _ _ ls _ _ (hp.next (k_best hA (xs (i + 1)) (xs (i + 2))) h1 h2) hW (lv_sub hl [2, 3, 4, 5, 6] rfl) (show cells + 2 + 0 + 0 ≤ cells + 12 by omega) (show slots + 12 + 0 + 0 ≤ slots + 120 by omega)
    · skip
      have hz := z3 (c3_best (xs (i + 1)) (xs (i + 2))) (h1.1.symm.trans hc_2)
      have ho := ((congrFun (h2.2.2.2 80 (by omega)).2 0).trans (h1.2.1 hz))
      have ho := ho.trans (h2.2.1 hz)
      refine lv_aload_n hx hb dL_law_1285 rfl (lv_at hl 5 rfl) ?_
      refine lv_iconst (v := nI 0) hx hb dL_law_1286 (by decide) ?_
      refine p_lald C hW h80 (by decide) (k := 0) rfl (by rw [show ln 80 = 1 by decide]; omega) dL_law_1287 ?_
      refine lv_iload hx hb dL_law_1288 (lv_at hl 0 rfl) ?_
      refine lv_i2l (v := v2.toInt64) hx hb dL_law_1290 rfl ?_
      refine l_eq (tgt := 1297) hx hb dL_law_1291 dL_law_1292 (by decide) (fun hc_3 => ?_) (fun hc_3 => ?_)
      · skip
        refine lv_goto (tgt := 1483) hx hb dL_law_1297 (by decide) ?_
        exact K cn cw _ L ad G I2 J2 _ _ ls _ _ (hp.next (k_best hA (xs (i + 1)) (xs (i + 2))) h1 h2) hW (lv_sub hl [2, 3, 4, 5, 6] rfl) (show cells + 2 + 0 + 0 ≤ cells + 12 by omega) (show slots + 12 + 0 + 0 ≤ slots + 120 by omega)
      · skip
        exact absurd ho hc_3
  · skip
    exact absurd (h2.1.trans h1.1.symm) hc_1
set_option maxHeartbeats 1000000 in
set_option maxRecDepth 100000 in
theorem law_16 {p : Program} {l : Launch} {e : Env} {s : State} {m : MethodId} {args : Array Value} {below : List Frame} {meth : Method} {c : Code} {Q : State → Prop} {D : va_G} {cy : Nat → ClassId} {A : Nat → Prop} (hst0 : l.stackTraces = false) (C : Cx p s m args c cL_law RL wsL_law D cy A) (hml : c.maxLocals = 8) (hg : gX A s) {b Lx : Nat} {xs : Nat → Int32} (hX : scr b Lx xs A s) (i : Nat) (hi : i + 6 ≤ Lx) (cn cw : Nat) (σ : Ab) (L : List Nat) (ad : Nat → Nat) (G : mG) (I : mI) (J : mJ) (hp : pic cn cw σ L G I J) (H : Heap) (locs : List Loc) (cells slots : Nat) (hcc : cells ≤ 20000) (hcs : slots ≤ 200000) (hW : Wd D cy A s.heap H locs L ad G I J) (ls : Array Slot) (hl : lv_has ls 8 [(0, .ref b), (1, .ref (ad 0)), (2, .ref (ad 64)), (3, .ref (ad 80)), (4, .int (nI i))]) (K : kon p l e s m args below meth c Q D cy A b i cells slots) : W p l e room_1 s m args below meth c H locs cells slots Q (F0 m 1300 ls []) := by
  have hx := C.1
  have hb := C.2.1
  obtain ⟨hS, hf, hcl, hR, h80, hA, hD, hDr⟩ := id hp
  have h12 := hA.2.1
  have hXl := hX.2.2.2
  refine lv_aload_n hx hb dL_law_1300 rfl (lv_at hl 1 rfl) ?_
  refine lv_aload_n hx hb dL_law_1301 rfl (lv_at hl 0 rfl) ?_
  refine lv_iload hx hb dL_law_1302 (lv_at hl 4 rfl) ?_
  refine lv_iconst (v := nI 1) hx hb dL_law_1304 (by decide) ?_
  refine n_iadd hx hb dL_law_1305 ?_
  refine l_sld C hX hW (k := i + 1) (by omega) dL_law_1306 ?_
  refine lv_aload_n hx hb dL_law_1307 rfl (lv_at hl 0 rfl) ?_
  refine lv_iload hx hb dL_law_1308 (lv_at hl 4 rfl) ?_
  refine lv_iconst (v := nI 2) hx hb dL_law_1310 (by decide) ?_
  refine n_iadd hx hb dL_law_1311 ?_
  refine l_sld C hX hW (k := i + 2) (by omega) dL_law_1312 ?_
  refine lv_aload_n hx hb dL_law_1313 rfl (lv_at hl 0 rfl) ?_
  refine lv_iload hx hb dL_law_1314 (lv_at hl 4 rfl) ?_
  refine lv_iconst (v := nI 3) hx hb dL_law_1316 (by decide) ?_
  refine n_iadd hx hb dL_law_1317 ?_
  refine l_sld C hX hW (k := i + 3) (by omega) dL_law_1318 ?_
  refine lv_aload_n hx hb dL_law_1319 rfl (lv_at hl 3 rfl) ?_
  refine p_cHi C hml hg hW (c_L_mean l hst0 D cy L ad G I J cn cw σ hS hA hD h80 (xs (i + 1)) (xs (i + 2)) (xs (i + 3))) (vx_cwSW 5 C.2.2.2.1 gL_law_L_mean rfl rfl rfl (by decide +kernel) ⟨Nat.le_of_ble_eq_true rfl, Nat.le_of_ble_eq_true rfl⟩) rfl hl.1 rfl (Nat.le_of_ble_eq_true rfl) dL_law_1320 (show cells + 3 ≤ 601024 by omega) (show slots + 18 ≤ 7293034 by omega) (fun v1 I1 J1 H locs h1 hW => ?_)
  refine lv_istore (lv' := [(5, .int v1), (0, .ref b), (1, .ref (ad 0)), (2, .ref (ad 64)), (3, .ref (ad 80)), (4, .int (nI i))]) hx hb dL_law_1323 hl (by decide) rfl (fun ls hl => ?_)
  refine lv_aload_n hx hb dL_law_1325 rfl (lv_at hl 3 rfl) ?_
  refine lv_aload_n hx hb dL_law_1326 rfl (lv_at hl 1 rfl) ?_
  refine lv_iload hx hb dL_law_1327 (lv_at hl 5 rfl) ?_
  refine lv_iconst (v := nI 1) hx hb dL_law_1329 (by decide) ?_
  refine n_iadd hx hb dL_law_1330 ?_
  refine l_sld C hX hW (k := i + 1) (by omega) dL_law_1331 ?_
  refine lv_aload_n hx hb dL_law_1332 rfl (lv_at hl 1 rfl) ?_
  refine lv_iload hx hb dL_law_1333 (lv_at hl 5 rfl) ?_
  refine lv_iconst (v := nI 2) hx hb dL_law_1335 (by decide) ?_
  refine n_iadd hx hb dL_law_1336 ?_
  refine l_sld C hX hW (k := i + 2) (by omega) dL_law_1337 ?_
  refine lv_aload_n hx hb dL_law_1338 rfl (lv_at hl 1 rfl) ?_
  refine lv_iload hx hb dL_law_1339 (lv_at hl 5 rfl) ?_
  refine lv_iconst (v := nI 3) hx hb dL_law_1341 (by decide) ?_
  refine n_iadd hx hb dL_law_1342 ?_
  refine l_sld C hX hW (k := i + 3) (by omega) dL_law_1343 ?_
  refine p_cVl C hml hg hW (c_X5_mean l D cy L ad G I1 J1 hR cn cw σ hA (hp.mid h1) (xs (i + 1)) (xs (i + 2)) (xs (i + 3))) (cwV 3 C.2.2.2.1 gL_law_X5_mean rfl rfl rfl (by decide +kernel) ⟨Nat.le_of_ble_eq_true rfl, Nat.le_of_ble_eq_true rfl⟩) (p_recv C hW (hR.1 64 (by omega) (by omega)) (pF_5 (by decide)) rfl) rfl hl.1 rfl (Nat.le_of_ble_eq_true rfl) dL_law_1344 (show cells + 3 + 0 ≤ 601024 by omega) (show slots + 18 + 0 ≤ 7293034 by omega) (fun v2 I2 J2 H locs h2 hW => ?_)
  refine lv_lstore (lv' := [(6, .long v2), (5, .int v1), (0, .ref b), (1, .ref (ad 0)), (2, .ref (ad 64)), (3, .ref (ad 80)), (4, .int (nI i))]) hx hb dL_law_1347 hl (by decide) rfl (fun ls hl => ?_)
  refine lv_aload_n hx hb dL_law_1349 rfl (lv_at hl 4 rfl) ?_
  refine p_cVi C hml hg hW (c_X5_thrown l D cy L ad G I2 J2 hR) (cwV 0 C.2.2.2.1 gL_law_X5_thrown rfl rfl rfl (by decide +kernel) ⟨Nat.le_of_ble_eq_true rfl, Nat.le_of_ble_eq_true rfl⟩) (p_recv C hW (hR.1 64 (by omega) (by omega)) (pF_5 (by decide)) rfl) rfl hl.1 rfl (Nat.le_of_ble_eq_true rfl) dL_law_1350 (show cells + 3 + 0 + 0 ≤ 601024 by omega) (show slots + 18 + 0 + 0 ≤ 7293034 by omega) (fun v3 I3 J3 H locs h3 hW => ?_)
  obtain ⟨e3, eI, eJ⟩ := h3
  subst v3
  subst I3
  subst J3
  refine lv_iload hx hb dL_law_1353 (lv_at hl 1 rfl) ?_
  refine lv_icmp_eq (tgt := 1360) hx hb dL_law_1355 (by decide) (fun hc_1 => ?_) (fun hc_1 => ?_)
  · skip
    refine lv_iload hx hb dL_law_1360 (lv_at hl 1 rfl) ?_
    refine lv_if_ne (tgt := 1376) hx hb dL_law_1362 (by decide) (fun hc_2 => ?_) (fun hc_2 => ?_)
    · skip
      refine lv_goto (tgt := 1483) hx hb dL_law_1376 (by decide) ?_
      exact K cn cw _ L ad G I2 J2 _ _ ls _ _ (hp.next (k_mean hA (xs (i + 1)) (xs (i + 2)) (xs (i + 3))) h1 h2) hW (lv_sub hl [2, 3, 4, 5, 6] rfl) (show cells + 3 + 0 + 0 ≤ cells + 12 by omega) (show slots + 18 + 0 + 0 ≤ slots + 120 by omega)
    · skip
      have hz := z3 (c3_mean (xs (i + 1)) (xs (i + 2)) (xs (i + 3))) (h1.1.symm.trans hc_2)
      have ho := ((congrFun (h2.2.2.2 80 (by omega)).2 0).trans (h1.2.1 hz))
      have ho := ho.trans (h2.2.1 hz)
      refine lv_aload_n hx hb dL_law_1365 rfl (lv_at hl 5 rfl) ?_
      refine lv_iconst (v := nI 0) hx hb dL_law_1366 (by decide) ?_
      refine p_lald C hW h80 (by decide) (k := 0) rfl (by rw [show ln 80 = 1 by decide]; omega) dL_law_1367 ?_
      refine lv_lload hx hb dL_law_1368 (lv_at hl 0 rfl) ?_
      refine l_eq (tgt := 1376) hx hb dL_law_1370 dL_law_1371 (by decide) (fun hc_3 => ?_) (fun hc_3 => ?_)
      · skip
        refine lv_goto (tgt := 1483) hx hb dL_law_1376 (by decide) ?_
        exact K cn cw _ L ad G I2 J2 _ _ ls _ _ (hp.next (k_mean hA (xs (i + 1)) (xs (i + 2)) (xs (i + 3))) h1 h2) hW (lv_sub hl [2, 3, 4, 5, 6] rfl) (show cells + 3 + 0 + 0 ≤ cells + 12 by omega) (show slots + 18 + 0 + 0 ≤ slots + 120 by omega)
      · skip
        exact absurd ho hc_3
  · skip
    exact absurd (h2.1.trans h1.1.symm) hc_1
set_option maxHeartbeats 1000000 in
set_option maxRecDepth 100000 in
theorem law_17 {p : Program} {l : Launch} {e : Env} {s : State} {m : MethodId} {args : Array Value} {below : List Frame} {meth : Method} {c : Code} {Q : State → Prop} {D : va_G} {cy : Nat → ClassId} {A : Nat → Prop} (hst0 : l.stackTraces = false) (C : Cx p s m args c cL_law RL wsL_law D cy A) (hml : c.maxLocals = 8) (hg : gX A s) {b Lx : Nat} {xs : Nat → Int32} (hX : scr b Lx xs A s) (i : Nat) (hi : i + 6 ≤ Lx) (cn cw : Nat) (σ : Ab) (L : List Nat) (ad : Nat → Nat) (G : mG) (I : mI) (J : mJ) (hp : pic cn cw σ L G I J) (H : Heap) (locs : List Loc) (cells slots : Nat) (hcc : cells ≤ 20000) (hcs : slots ≤ 200000) (hW : Wd D cy A s.heap H locs L ad G I J) (ls : Array Slot) (hl : lv_has ls 8 [(0, .ref b), (1, .ref (ad 0)), (2, .ref (ad 64)), (3, .ref (ad 80)), (4, .int (nI i))]) (K : kon p l e s m args below meth c Q D cy A b i cells slots) : W p l e room_1 s m args below meth c H locs cells slots Q (F0 m 1379 ls []) := by
  have hx := C.1
  have hb := C.2.1
  obtain ⟨hS, hf, hcl, hR, h80, hA, hD, hDr⟩ := id hp
  have h12 := hA.2.1
  have hXl := hX.2.2.2
  refine lv_aload_n hx hb dL_law_1379 rfl (lv_at hl 1 rfl) ?_
  refine lv_aload_n hx hb dL_law_1380 rfl (lv_at hl 0 rfl) ?_
  refine lv_iload hx hb dL_law_1381 (lv_at hl 4 rfl) ?_
  refine lv_iconst (v := nI 1) hx hb dL_law_1383 (by decide) ?_
  refine n_iadd hx hb dL_law_1384 ?_
  refine l_sld C hX hW (k := i + 1) (by omega) dL_law_1385 ?_
  refine lv_aload_n hx hb dL_law_1386 rfl (lv_at hl 0 rfl) ?_
  refine lv_iload hx hb dL_law_1387 (lv_at hl 4 rfl) ?_
  refine lv_iconst (v := nI 2) hx hb dL_law_1389 (by decide) ?_
  refine n_iadd hx hb dL_law_1390 ?_
  refine l_sld C hX hW (k := i + 2) (by omega) dL_law_1391 ?_
  refine p_cHi C hml hg hW (c_L_copy l hst0 D cy L ad G I J cn cw σ hS hA hD h80 (xs (i + 1)) (xs (i + 2))) (vx_cwSW 3 C.2.2.2.1 gL_law_L_copy rfl rfl rfl (by decide +kernel) ⟨Nat.le_of_ble_eq_true rfl, Nat.le_of_ble_eq_true rfl⟩) rfl hl.1 rfl (Nat.le_of_ble_eq_true rfl) dL_law_1392 (show cells + 3 ≤ 601024 by omega) (show slots + 18 ≤ 7293034 by omega) (fun v1 I1 J1 H locs h1 hW => ?_)
  refine lv_istore (lv' := [(5, .int v1), (0, .ref b), (1, .ref (ad 0)), (2, .ref (ad 64)), (3, .ref (ad 80)), (4, .int (nI i))]) hx hb dL_law_1395 hl (by decide) rfl (fun ls hl => ?_)
  refine lv_aload_n hx hb dL_law_1397 rfl (lv_at hl 3 rfl) ?_
  refine lv_aload_n hx hb dL_law_1398 rfl (lv_at hl 1 rfl) ?_
  refine lv_iload hx hb dL_law_1399 (lv_at hl 5 rfl) ?_
  refine lv_iconst (v := nI 1) hx hb dL_law_1401 (by decide) ?_
  refine n_iadd hx hb dL_law_1402 ?_
  refine l_sld C hX hW (k := i + 1) (by omega) dL_law_1403 ?_
  refine lv_aload_n hx hb dL_law_1404 rfl (lv_at hl 1 rfl) ?_
  refine lv_iload hx hb dL_law_1405 (lv_at hl 5 rfl) ?_
  refine lv_iconst (v := nI 2) hx hb dL_law_1407 (by decide) ?_
  refine n_iadd hx hb dL_law_1408 ?_
  refine l_sld C hX hW (k := i + 2) (by omega) dL_law_1409 ?_
  refine p_cVv C hml hg hW (c_X5_copy l D cy L ad G I1 J1 hR cn cw σ hA (hp.midV (sp := spCopy cw σ (xs (i + 1)) (xs (i + 2))) h1.2.2) (xs (i + 1)) (xs (i + 2))) (cwV 2 C.2.2.2.1 gL_law_X5_copy rfl rfl rfl (by decide +kernel) ⟨Nat.le_of_ble_eq_true rfl, Nat.le_of_ble_eq_true rfl⟩) (p_recv C hW (hR.1 64 (by omega) (by omega)) (pF_5 (by decide)) rfl) rfl hl.1 rfl (Nat.le_of_ble_eq_true rfl) dL_law_1410 (show cells + 3 + 0 ≤ 601024 by omega) (show slots + 18 + 0 ≤ 7293034 by omega) (fun I2 J2 H locs h2 hW => ?_)
  refine lv_aload_n hx hb dL_law_1413 rfl (lv_at hl 3 rfl) ?_
  refine p_cVi C hml hg hW (c_X5_thrown l D cy L ad G I2 J2 hR) (cwV 0 C.2.2.2.1 gL_law_X5_thrown rfl rfl rfl (by decide +kernel) ⟨Nat.le_of_ble_eq_true rfl, Nat.le_of_ble_eq_true rfl⟩) (p_recv C hW (hR.1 64 (by omega) (by omega)) (pF_5 (by decide)) rfl) rfl hl.1 rfl (Nat.le_of_ble_eq_true rfl) dL_law_1414 (show cells + 3 + 0 + 0 ≤ 601024 by omega) (show slots + 18 + 0 + 0 ≤ 7293034 by omega) (fun v3 I3 J3 H locs h3 hW => ?_)
  obtain ⟨e3, eI, eJ⟩ := h3
  subst v3
  subst I3
  subst J3
  refine lv_iload hx hb dL_law_1417 (lv_at hl 0 rfl) ?_
  refine lv_icmp_eq (tgt := 1424) hx hb dL_law_1419 (by decide) (fun hc_1 => ?_) (fun hc_1 => ?_)
  · skip
    refine lv_goto (tgt := 1483) hx hb dL_law_1424 (by decide) ?_
    exact K cn cw _ L ad G I2 J2 _ _ ls _ _ (hp.nextV (k_copy hA (xs (i + 1)) (xs (i + 2))) h1.2.1 h2) hW (lv_sub hl [1, 2, 3, 4, 5] rfl) (show cells + 3 + 0 + 0 ≤ cells + 12 by omega) (show slots + 18 + 0 + 0 ≤ slots + 120 by omega)
  · skip
    exact absurd (h2.1.trans h1.1.symm) hc_1
set_option maxHeartbeats 1000000 in
set_option maxRecDepth 100000 in
theorem law_18 {p : Program} {l : Launch} {e : Env} {s : State} {m : MethodId} {args : Array Value} {below : List Frame} {meth : Method} {c : Code} {Q : State → Prop} {D : va_G} {cy : Nat → ClassId} {A : Nat → Prop} (hst0 : l.stackTraces = false) (C : Cx p s m args c cL_law RL wsL_law D cy A) (hml : c.maxLocals = 8) (hg : gX A s) {b Lx : Nat} {xs : Nat → Int32} (hX : scr b Lx xs A s) (i : Nat) (hi : i + 6 ≤ Lx) (cn cw : Nat) (σ : Ab) (L : List Nat) (ad : Nat → Nat) (G : mG) (I : mI) (J : mJ) (hp : pic cn cw σ L G I J) (H : Heap) (locs : List Loc) (cells slots : Nat) (hcc : cells ≤ 20000) (hcs : slots ≤ 200000) (hW : Wd D cy A s.heap H locs L ad G I J) (ls : Array Slot) (hl : lv_has ls 8 [(0, .ref b), (1, .ref (ad 0)), (2, .ref (ad 64)), (3, .ref (ad 80)), (4, .int (nI i))]) (K : kon p l e s m args below meth c Q D cy A b i cells slots) : W p l e room_1 s m args below meth c H locs cells slots Q (F0 m 1427 ls []) := by
  have hx := C.1
  have hb := C.2.1
  obtain ⟨hS, hf, hcl, hR, h80, hA, hD, hDr⟩ := id hp
  have h12 := hA.2.1
  have hXl := hX.2.2.2
  refine lv_aload_n hx hb dL_law_1427 rfl (lv_at hl 1 rfl) ?_
  refine lv_aload_n hx hb dL_law_1428 rfl (lv_at hl 0 rfl) ?_
  refine lv_iload hx hb dL_law_1429 (lv_at hl 4 rfl) ?_
  refine lv_iconst (v := nI 1) hx hb dL_law_1431 (by decide) ?_
  refine n_iadd hx hb dL_law_1432 ?_
  refine l_sld C hX hW (k := i + 1) (by omega) dL_law_1433 ?_
  refine lv_aload_n hx hb dL_law_1434 rfl (lv_at hl 3 rfl) ?_
  refine p_cHi C hml hg hW (c_L_count l hst0 D cy L ad G I J cn cw σ hS hA hD h80 (xs (i + 1))) (vx_cwSW 3 C.2.2.2.1 gL_law_L_count rfl rfl rfl (by decide +kernel) ⟨Nat.le_of_ble_eq_true rfl, Nat.le_of_ble_eq_true rfl⟩) rfl hl.1 rfl (Nat.le_of_ble_eq_true rfl) dL_law_1435 (show cells + 1 ≤ 601024 by omega) (show slots + 6 ≤ 7293034 by omega) (fun v1 I1 J1 H locs h1 hW => ?_)
  refine lv_istore (lv' := [(5, .int v1), (0, .ref b), (1, .ref (ad 0)), (2, .ref (ad 64)), (3, .ref (ad 80)), (4, .int (nI i))]) hx hb dL_law_1438 hl (by decide) rfl (fun ls hl => ?_)
  refine lv_aload_n hx hb dL_law_1440 rfl (lv_at hl 3 rfl) ?_
  refine lv_aload_n hx hb dL_law_1441 rfl (lv_at hl 1 rfl) ?_
  refine lv_iload hx hb dL_law_1442 (lv_at hl 5 rfl) ?_
  refine lv_iconst (v := nI 1) hx hb dL_law_1444 (by decide) ?_
  refine n_iadd hx hb dL_law_1445 ?_
  refine l_sld C hX hW (k := i + 1) (by omega) dL_law_1446 ?_
  refine p_cVi C hml hg hW (c_X5_count l D cy L ad G I1 J1 hR cn cw σ hA (hp.mid h1) (xs (i + 1))) (cwV 1 C.2.2.2.1 gL_law_X5_count rfl rfl rfl (by decide +kernel) ⟨Nat.le_of_ble_eq_true rfl, Nat.le_of_ble_eq_true rfl⟩) (p_recv C hW (hR.1 64 (by omega) (by omega)) (pF_5 (by decide)) rfl) rfl hl.1 rfl (Nat.le_of_ble_eq_true rfl) dL_law_1447 (show cells + 1 + 0 ≤ 601024 by omega) (show slots + 6 + 0 ≤ 7293034 by omega) (fun v2 I2 J2 H locs h2 hW => ?_)
  refine lv_istore (lv' := [(6, .int v2), (5, .int v1), (0, .ref b), (1, .ref (ad 0)), (2, .ref (ad 64)), (3, .ref (ad 80)), (4, .int (nI i))]) hx hb dL_law_1450 hl (by decide) rfl (fun ls hl => ?_)
  refine lv_aload_n hx hb dL_law_1452 rfl (lv_at hl 4 rfl) ?_
  refine p_cVi C hml hg hW (c_X5_thrown l D cy L ad G I2 J2 hR) (cwV 0 C.2.2.2.1 gL_law_X5_thrown rfl rfl rfl (by decide +kernel) ⟨Nat.le_of_ble_eq_true rfl, Nat.le_of_ble_eq_true rfl⟩) (p_recv C hW (hR.1 64 (by omega) (by omega)) (pF_5 (by decide)) rfl) rfl hl.1 rfl (Nat.le_of_ble_eq_true rfl) dL_law_1453 (show cells + 1 + 0 + 0 ≤ 601024 by omega) (show slots + 6 + 0 + 0 ≤ 7293034 by omega) (fun v3 I3 J3 H locs h3 hW => ?_)
  obtain ⟨e3, eI, eJ⟩ := h3
  subst v3
  subst I3
  subst J3
  refine lv_iload hx hb dL_law_1456 (lv_at hl 1 rfl) ?_
  refine lv_icmp_eq (tgt := 1463) hx hb dL_law_1458 (by decide) (fun hc_1 => ?_) (fun hc_1 => ?_)
  · skip
    refine lv_iload hx hb dL_law_1463 (lv_at hl 1 rfl) ?_
    refine lv_if_ne (tgt := 1480) hx hb dL_law_1465 (by decide) (fun hc_2 => ?_) (fun hc_2 => ?_)
    · skip
      refine lv_goto (tgt := 1483) hx hb dL_law_1480 (by decide) ?_
      exact K cn cw _ L ad G I2 J2 _ _ ls _ _ (hp.next (k_count hA (xs (i + 1))) h1 h2) hW (lv_sub hl [2, 3, 4, 5, 6] rfl) (show cells + 1 + 0 + 0 ≤ cells + 12 by omega) (show slots + 6 + 0 + 0 ≤ slots + 120 by omega)
    · skip
      have hz := z3 (c3_count (xs (i + 1))) (h1.1.symm.trans hc_2)
      have ho := ((congrFun (h2.2.2.2 80 (by omega)).2 0).trans (h1.2.1 hz))
      have ho := ho.trans (h2.2.1 hz)
      refine lv_aload_n hx hb dL_law_1468 rfl (lv_at hl 5 rfl) ?_
      refine lv_iconst (v := nI 0) hx hb dL_law_1469 (by decide) ?_
      refine p_lald C hW h80 (by decide) (k := 0) rfl (by rw [show ln 80 = 1 by decide]; omega) dL_law_1470 ?_
      refine lv_iload hx hb dL_law_1471 (lv_at hl 0 rfl) ?_
      refine lv_i2l (v := v2.toInt64) hx hb dL_law_1473 rfl ?_
      refine l_eq (tgt := 1480) hx hb dL_law_1474 dL_law_1475 (by decide) (fun hc_3 => ?_) (fun hc_3 => ?_)
      · skip
        refine lv_goto (tgt := 1483) hx hb dL_law_1480 (by decide) ?_
        exact K cn cw _ L ad G I2 J2 _ _ ls _ _ (hp.next (k_count hA (xs (i + 1))) h1 h2) hW (lv_sub hl [2, 3, 4, 5, 6] rfl) (show cells + 1 + 0 + 0 ≤ cells + 12 by omega) (show slots + 6 + 0 + 0 ≤ slots + 120 by omega)
      · skip
        exact absurd ho hc_3
  · skip
    exact absurd (h2.1.trans h1.1.symm) hc_1
