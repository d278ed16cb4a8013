/-- what is owed behind a call -/
def kon (p : Program) (l : Launch) (e : Env) (s : State) (m : MethodId) (args : Array Value) (below : List Frame) (meth : Method) (c : Code) (Q : State → Prop) (D : va_G) (cy : Nat → ClassId) (A : Nat → Prop) (b i cells slots : Nat) : Prop :=
  ∀ (cn cw : Nat) (σ : Ab) (L : List Nat) (ad : Nat → Nat) (G : mG) (I : mI) (J : mJ) (H : Heap) (locs : List Loc) (ls : Array Slot) (cells' slots' : Nat), pic cn cw σ L G I J → Wd D cy A s.heap H locs L ad G I J → lv_has ls 8 [(0, .ref b), (1, .ref (ad 0)), (2, .ref (ad 64)), (3, .ref (ad 80)), (4, .int (nI i))] → cells' ≤ cells + 12 → slots' ≤ slots + 120 → W p l e room_1 s m args below meth c H locs cells' slots' Q (F0 m 1483 ls [])
set_option maxHeartbeats 1000000 in
set_option maxRecDepth 100000 in
theorem law_0 {p : Program} {l : Launch} {e : Env} {s : State} {m : MethodId} {args : Array Value} {below : List Frame} {meth : Method} {c : Code} {Q : State → Prop} {D : va_G} {cy : Nat → ClassId} {A : Nat → Prop} (hst0 : l.stackTraces = false) (C : Cx p s m args c cL_law RL wsL_law D cy A) (hml : c.maxLocals = 8) (hg : gX A s) {b Lx : Nat} {xs : Nat → Int32} (hX : scr b Lx xs A s) (i : Nat) (hi : i + 6 ≤ Lx) (cn cw : Nat) (σ : Ab) (L : List Nat) (ad : Nat → Nat) (G : mG) (I : mI) (J : mJ) (hp : pic cn cw σ L G I J) (H : Heap) (locs : List Loc) (cells slots : Nat) (hcc : cells ≤ 20000) (hcs : slots ≤ 200000) (hW : Wd D cy A s.heap H locs L ad G I J) (ls : Array Slot) (hl : lv_has ls 8 [(0, .ref b), (1, .ref (ad 0)), (2, .ref (ad 64)), (3, .ref (ad 80)), (4, .int (nI i))]) (K : kon p l e s m args below meth c Q D cy A b i cells slots) : W p l e room_1 s m args below meth c H locs cells slots Q (F0 m 132 ls []) := by
  have hx := C.1
  have hb := C.2.1
  obtain ⟨hS, hf, hcl, hR, h80, hA, hD, hDr⟩ := id hp
  have h12 := hA.2.1
  have hXl := hX.2.2.2
  refine lv_aload_n hx hb dL_law_132 rfl (lv_at hl 1 rfl) ?_
  refine lv_aload_n hx hb dL_law_133 rfl (lv_at hl 0 rfl) ?_
  refine lv_iload hx hb dL_law_134 (lv_at hl 4 rfl) ?_
  refine lv_iconst (v := nI 1) hx hb dL_law_136 (by decide) ?_
  refine n_iadd hx hb dL_law_137 ?_
  refine l_sld C hX hW (k := i + 1) (by omega) dL_law_138 ?_
  refine lv_aload_n hx hb dL_law_139 rfl (lv_at hl 0 rfl) ?_
  refine lv_iload hx hb dL_law_140 (lv_at hl 4 rfl) ?_
  refine lv_iconst (v := nI 2) hx hb dL_law_142 (by decide) ?_
  refine n_iadd hx hb dL_law_143 ?_
  refine l_sld C hX hW (k := i + 2) (by omega) dL_law_144 ?_
  refine p_cVn C hml hg hW (c_X4_net l D cy L ad G I J hcl cn cw σ hS hf hA hD (xs (i + 1)) (xs (i + 2))) (cwV 2 C.2.2.2.1 gL_law_X4_net rfl rfl rfl (by decide +kernel) ⟨Nat.le_of_ble_eq_true rfl, Nat.le_of_ble_eq_true rfl⟩) (p_recv C hW (hS.1 0 (by omega)) (pF_4 (by decide)) rfl) rfl hl.1 rfl (Nat.le_of_ble_eq_true rfl) dL_law_145 (show cells + 3 ≤ 601024 by omega) (show slots + 67 ≤ 7293034 by omega) (fun v1 L1 ad1 G1 I1 J1 H locs h1 hW => ?_)
  obtain ⟨hR1, hD1⟩ := hp.midN h1
  have hl : lv_has ls 8 [(0, .ref b), (1, .ref (ad1 0)), (2, .ref (ad1 64)), (3, .ref (ad1 80)), (4, .int (nI i))] := by rw [h1.1 0 (hS.1 0 (by omega)), h1.1 64 (hR.1 64 (by omega) (by omega)), h1.1 80 h80]; exact hl
  refine lv_aload_n hx hb dL_law_148 rfl (lv_at hl 2 rfl) ?_
  refine lv_aload_n hx hb dL_law_149 rfl (lv_at hl 0 rfl) ?_
  refine lv_iload hx hb dL_law_150 (lv_at hl 4 rfl) ?_
  refine lv_iconst (v := nI 1) hx hb dL_law_152 (by decide) ?_
  refine n_iadd hx hb dL_law_153 ?_
  refine l_sld C hX hW (k := i + 1) (by omega) dL_law_154 ?_
  refine lv_aload_n hx hb dL_law_155 rfl (lv_at hl 0 rfl) ?_
  refine lv_iload hx hb dL_law_156 (lv_at hl 4 rfl) ?_
  refine lv_iconst (v := nI 2) hx hb dL_law_158 (by decide) ?_
  refine n_iadd hx hb dL_law_159 ?_
  refine l_sld C hX hW (k := i + 2) (by omega) dL_law_160 ?_
  refine p_cVi C hml hg hW (c_X5_net l D cy L1 ad1 G1 I1 J1 hR1 cn cw σ hA hD1 (xs (i + 1)) (xs (i + 2))) (cwV 2 C.2.2.2.1 gL_law_X5_net rfl rfl rfl (by decide +kernel) ⟨Nat.le_of_ble_eq_true rfl, Nat.le_of_ble_eq_true rfl⟩) (p_recv C hW (hR1.1 64 (by omega) (by omega)) (pF_5 (by decide)) rfl) rfl hl.1 rfl (Nat.le_of_ble_eq_true rfl) dL_law_161 (show cells + 3 + 0 ≤ 601024 by omega) (show slots + 67 + 0 ≤ 7293034 by omega) (fun v2 I2 J2 H locs h2 hW => ?_)
  obtain ⟨hvv, cn9, σ9, hp9⟩ := hp.net h1 h2
  refine lv_icmp_eq (tgt := 1483) hx hb dL_law_164 (by decide) (fun hc_1 => ?_) (fun hc_1 => ?_)
  · skip
    exact K cn9 cw σ9 L1 ad1 G1 I2 J2 _ _ ls _ _ hp9 hW (lv_sub hl [0, 1, 2, 3, 4] rfl) (show cells + 3 + 0 ≤ cells + 12 by omega) (show slots + 67 + 0 ≤ slots + 120 by omega)
  · skip
    exact absurd hvv hc_1
set_option maxHeartbeats 1000000 in
set_option maxRecDepth 100000 in
theorem law_1 {p : Program} {l : Launch} {e : Env} {s : State} {m : MethodId} {args : Array Value} {below : List Frame} {meth : Method} {c : Code} {Q : State → Prop} {D : va_G} {cy : Nat → ClassId} {A : Nat → Prop} (hst0 : l.stackTraces = false) (C : Cx p s m args c cL_law RL wsL_law D cy A) (hml : c.maxLocals = 8) (hg : gX A s) {b Lx : Nat} {xs : Nat → Int32} (hX : scr b Lx xs A s) (i : Nat) (hi : i + 6 ≤ Lx) (cn cw : Nat) (σ : Ab) (L : List Nat) (ad : Nat → Nat) (G : mG) (I : mI) (J : mJ) (hp : pic cn cw σ L G I J) (H : Heap) (locs : List Loc) (cells slots : Nat) (hcc : cells ≤ 20000) (hcs : slots ≤ 200000) (hW : Wd D cy A s.heap H locs L ad G I J) (ls : Array Slot) (hl : lv_has ls 8 [(0, .ref b), (1, .ref (ad 0)), (2, .ref (ad 64)), (3, .ref (ad 80)), (4, .int (nI i))]) (K : kon p l e s m args below meth c Q D cy A b i cells slots) : W p l e room_1 s m args below meth c H locs cells slots Q (F0 m 169 ls []) := by
  have hx := C.1
  have hb := C.2.1
  obtain ⟨hS, hf, hcl, hR, h80, hA, hD, hDr⟩ := id hp
  have h12 := hA.2.1
  have hXl := hX.2.2.2
  refine lv_aload_n hx hb dL_law_169 rfl (lv_at hl 1 rfl) ?_
  refine lv_aload_n hx hb dL_law_170 rfl (lv_at hl 0 rfl) ?_
  refine lv_iload hx hb dL_law_171 (lv_at hl 4 rfl) ?_
  refine lv_iconst (v := nI 1) hx hb dL_law_173 (by decide) ?_
  refine n_iadd hx hb dL_law_174 ?_
  refine l_sld C hX hW (k := i + 1) (by omega) dL_law_175 ?_
  refine lv_aload_n hx hb dL_law_176 rfl (lv_at hl 0 rfl) ?_
  refine lv_iload hx hb dL_law_177 (lv_at hl 4 rfl) ?_
  refine lv_iconst (v := nI 2) hx hb dL_law_179 (by decide) ?_
  refine n_iadd hx hb dL_law_180 ?_
  refine l_sld C hX hW (k := i + 2) (by omega) dL_law_181 ?_
  refine lv_aload_n hx hb dL_law_182 rfl (lv_at hl 0 rfl) ?_
  refine lv_iload hx hb dL_law_183 (lv_at hl 4 rfl) ?_
  refine lv_iconst (v := nI 3) hx hb dL_law_185 (by decide) ?_
  refine n_iadd hx hb dL_law_186 ?_
  refine l_sld C hX hW (k := i + 3) (by omega) dL_law_187 ?_
  refine lv_aload_n hx hb dL_law_188 rfl (lv_at hl 0 rfl) ?_
  refine lv_iload hx hb dL_law_189 (lv_at hl 4 rfl) ?_
  refine lv_iconst (v := nI 4) hx hb dL_law_191 (by decide) ?_
  refine n_iadd hx hb dL_law_192 ?_
  refine l_sld C hX hW (k := i + 4) (by omega) dL_law_193 ?_
  refine lv_aload_n hx hb dL_law_194 rfl (lv_at hl 0 rfl) ?_
  refine lv_iload hx hb dL_law_195 (lv_at hl 4 rfl) ?_
  refine lv_iconst (v := nI 5) hx hb dL_law_197 (by decide) ?_
  refine n_iadd hx hb dL_law_198 ?_
  refine l_sld C hX hW (k := i + 5) (by omega) dL_law_199 ?_
  refine lv_aload_n hx hb dL_law_200 rfl (lv_at hl 3 rfl) ?_
  refine p_cHi C hml hg hW (c_L_join l hst0 D cy L ad G I J cn cw σ hS hA hD h80 (xs (i + 1)) (xs (i + 2)) (xs (i + 3)) (xs (i + 4)) (xs (i + 5))) (vx_cwSW 7 C.2.2.2.1 gL_law_L_join rfl rfl rfl (by decide +kernel) ⟨Nat.le_of_ble_eq_true rfl, Nat.le_of_ble_eq_true rfl⟩) rfl hl.1 rfl (Nat.le_of_ble_eq_true rfl) dL_law_201 (show cells + 5 ≤ 601024 by omega) (show slots + 30 ≤ 7293034 by omega) (fun v1 I1 J1 H locs h1 hW => ?_)
  refine lv_istore (lv' := [(5, .int v1), (0, .ref b), (1, .ref (ad 0)), (2, .ref (ad 64)), (3, .ref (ad 80)), (4, .int (nI i))]) hx hb dL_law_204 hl (by decide) rfl (fun ls hl => ?_)
  refine lv_aload_n hx hb dL_law_206 rfl (lv_at hl 3 rfl) ?_
  refine lv_aload_n hx hb dL_law_207 rfl (lv_at hl 1 rfl) ?_
  refine lv_iload hx hb dL_law_208 (lv_at hl 5 rfl) ?_
  refine lv_iconst (v := nI 1) hx hb dL_law_210 (by decide) ?_
  refine n_iadd hx hb dL_law_211 ?_
  refine l_sld C hX hW (k := i + 1) (by omega) dL_law_212 ?_
  refine lv_aload_n hx hb dL_law_213 rfl (lv_at hl 1 rfl) ?_
  refine lv_iload hx hb dL_law_214 (lv_at hl 5 rfl) ?_
  refine lv_iconst (v := nI 2) hx hb dL_law_216 (by decide) ?_
  refine n_iadd hx hb dL_law_217 ?_
  refine l_sld C hX hW (k := i + 2) (by omega) dL_law_218 ?_
  refine lv_aload_n hx hb dL_law_219 rfl (lv_at hl 1 rfl) ?_
  refine lv_iload hx hb dL_law_220 (lv_at hl 5 rfl) ?_
  refine lv_iconst (v := nI 3) hx hb dL_law_222 (by decide) ?_
  refine n_iadd hx hb dL_law_223 ?_
  refine l_sld C hX hW (k := i + 3) (by omega) dL_law_224 ?_
  refine lv_aload_n hx hb dL_law_225 rfl (lv_at hl 1 rfl) ?_
  refine lv_iload hx hb dL_law_226 (lv_at hl 5 rfl) ?_
  refine lv_iconst (v := nI 4) hx hb dL_law_228 (by decide) ?_
  refine n_iadd hx hb dL_law_229 ?_
  refine l_sld C hX hW (k := i + 4) (by omega) dL_law_230 ?_
  refine lv_aload_n hx hb dL_law_231 rfl (lv_at hl 1 rfl) ?_
  refine lv_iload hx hb dL_law_232 (lv_at hl 5 rfl) ?_
  refine lv_iconst (v := nI 5) hx hb dL_law_234 (by decide) ?_
  refine n_iadd hx hb dL_law_235 ?_
  refine l_sld C hX hW (k := i + 5) (by omega) dL_law_236 ?_
  refine p_cVi C hml hg hW (c_X5_join l D cy L ad G I1 J1 hR cn cw σ hA (hp.mid h1) (xs (i + 1)) (xs (i + 2)) (xs (i + 3)) (xs (i + 4)) (xs (i + 5))) (cwV 5 C.2.2.2.1 gL_law_X5_join rfl rfl rfl (by decide +kernel) ⟨Nat.le_of_ble_eq_true rfl, Nat.le_of_ble_eq_true rfl⟩) (p_recv C hW (hR.1 64 (by omega) (by omega)) (pF_5 (by decide)) rfl) rfl hl.1 rfl (Nat.le_of_ble_eq_true rfl) dL_law_237 (show cells + 5 + 0 ≤ 601024 by omega) (show slots + 30 + 0 ≤ 7293034 by omega) (fun v2 I2 J2 H locs h2 hW => ?_)
  refine lv_istore (lv' := [(6, .int v2), (5, .int v1), (0, .ref b), (1, .ref (ad 0)), (2, .ref (ad 64)), (3, .ref (ad 80)), (4, .int (nI i))]) hx hb dL_law_240 hl (by decide) rfl (fun ls hl => ?_)
  refine lv_aload_n hx hb dL_law_242 rfl (lv_at hl 4 rfl) ?_
  refine p_cVi C hml hg hW (c_X5_thrown l D cy L ad G I2 J2 hR) (cwV 0 C.2.2.2.1 gL_law_X5_thrown rfl rfl rfl (by decide +kernel) ⟨Nat.le_of_ble_eq_true rfl, Nat.le_of_ble_eq_true rfl⟩) (p_recv C hW (hR.1 64 (by omega) (by omega)) (pF_5 (by decide)) rfl) rfl hl.1 rfl (Nat.le_of_ble_eq_true rfl) dL_law_243 (show cells + 5 + 0 + 0 ≤ 601024 by omega) (show slots + 30 + 0 + 0 ≤ 7293034 by omega) (fun v3 I3 J3 H locs h3 hW => ?_)
  obtain ⟨e3, eI, eJ⟩ := h3
  subst v3
  subst I3
  subst J3
  refine lv_iload hx hb dL_law_246 (lv_at hl 1 rfl) ?_
  refine lv_icmp_eq (tgt := 253) hx hb dL_law_248 (by decide) (fun hc_1 => ?_) (fun hc_1 => ?_)
  · skip
    refine lv_iload hx hb dL_law_253 (lv_at hl 1 rfl) ?_
    refine lv_if_ne (tgt := 277) hx hb dL_law_255 (by decide) (fun hc_2 => ?_) (fun hc_2 => ?_)
    · skip
      refine lv_goto (tgt := 1483) hx hb dL_law_277 (by decide) ?_
      exact K cn cw _ L ad G I2 J2 _ _ ls _ _ (hp.next (k_join hA (xs (i + 1)) (xs (i + 2)) (xs (i + 3)) (xs (i + 4)) (xs (i + 5))) h1 h2) hW (lv_sub hl [2, 3, 4, 5, 6] rfl) (show cells + 5 + 0 + 0 ≤ cells + 12 by omega) (show slots + 30 + 0 + 0 ≤ slots + 120 by omega)
    · skip
      have hz := z3 (c3_join (xs (i + 1)) (xs (i + 2)) (xs (i + 3)) (xs (i + 4)) (xs (i + 5))) (h1.1.symm.trans hc_2)
      have ho := ((congrFun (h2.2.2.2 80 (by omega)).2 0).trans (h1.2.1 hz))
      have hb01 := tb (h2.2.1 hz) (b_join (xs (i + 1)) (xs (i + 2)) (xs (i + 3)) (xs (i + 4)) (xs (i + 5)))
      refine lv_aload_n hx hb dL_law_258 rfl (lv_at hl 5 rfl) ?_
      refine lv_iconst (v := nI 0) hx hb dL_law_259 (by decide) ?_
      refine p_lald C hW h80 (by decide) (k := 0) rfl (by rw [show ln 80 = 1 by decide]; omega) dL_law_260 ?_
      refine lv_iload hx hb dL_law_261 (lv_at hl 0 rfl) ?_
      refine lv_if_eq (tgt := 270) hx hb dL_law_263 (by decide) (fun hc_3 => ?_) (fun hc_3 => ?_)
      · skip
        refine lv_lconst (v := 0) hx hb dL_law_270 (by decide) ?_
        refine l_eq (tgt := 277) hx hb dL_law_271 dL_law_272 (by decide) (fun hc_4 => ?_) (fun hc_4 => ?_)
        · skip
          refine lv_goto (tgt := 1483) hx hb dL_law_277 (by decide) ?_
          exact K cn cw _ L ad G I2 J2 _ _ ls _ _ (hp.next (k_join hA (xs (i + 1)) (xs (i + 2)) (xs (i + 3)) (xs (i + 4)) (xs (i + 5))) h1 h2) hW (lv_sub hl [2, 3, 4, 5, 6] rfl) (show cells + 5 + 0 + 0 ≤ cells + 12 by omega) (show slots + 30 + 0 + 0 ≤ slots + 120 by omega)
        · skip
          exact absurd (ho.trans (hb01.1 hc_3)) hc_4
      · skip
        refine lv_lconst (v := 1) hx hb dL_law_266 (by decide) ?_
        refine lv_goto (tgt := 271) hx hb dL_law_267 (by decide) ?_
        refine l_eq (tgt := 277) hx hb dL_law_271 dL_law_272 (by decide) (fun hc_5 => ?_) (fun hc_5 => ?_)
        · skip
          refine lv_goto (tgt := 1483) hx hb dL_law_277 (by decide) ?_
          exact K cn cw _ L ad G I2 J2 _ _ ls _ _ (hp.next (k_join hA (xs (i + 1)) (xs (i + 2)) (xs (i + 3)) (xs (i + 4)) (xs (i + 5))) h1 h2) hW (lv_sub hl [2, 3, 4, 5, 6] rfl) (show cells + 5 + 0 + 0 ≤ cells + 12 by omega) (show slots + 30 + 0 + 0 ≤ slots + 120 by omega)
        · skip
          exact absurd (ho.trans (hb01.2 hc_3)) hc_5
  · skip
    exact absurd (h2.1.trans h1.1.symm) hc_1
set_option maxHeartbeats 1000000 in
set_option maxRecDepth 100000 in
theorem law_2 {p : Program} {l : Launch} {e : Env} {s : State} {m : MethodId} {args : Array Value} {below : List Frame} {meth : Method} {c : Code} {Q : State → Prop} {D : va_G} {cy : Nat → ClassId} {A : Nat → Prop} (hst0 : l.stackTraces = false) (C : Cx p s m args c cL_law RL wsL_law D cy A) (hml : c.maxLocals = 8) (hg : gX A s) {b Lx : Nat} {xs : Nat → Int32} (hX : scr b Lx xs A s) (i : Nat) (hi : i + 6 ≤ Lx) (cn cw : Nat) (σ : Ab) (L : List Nat) (ad : Nat → Nat) (G : mG) (I : mI) (J : mJ) (hp : pic cn cw σ L G I J) (H : Heap) (locs : List Loc) (cells slots : Nat) (hcc : cells ≤ 20000) (hcs : slots ≤ 200000) (hW : Wd D cy A s.heap H locs L ad G I J) (ls : Array Slot) (hl : lv_has ls 8 [(0, .ref b), (1, .ref (ad 0)), (2, .ref (ad 64)), (3, .ref (ad 80)), (4, .int (nI i))]) (K : kon p l e s m args below meth c Q D cy A b i cells slots) : W p l e room_1 s m args below meth c H locs cells slots Q (F0 m 280 ls []) := by
  have hx := C.1
  have hb := C.2.1
  obtain ⟨hS, hf, hcl, hR, h80, hA, hD, hDr⟩ := id hp
  have h12 := hA.2.1
  have hXl := hX.2.2.2
  refine lv_aload_n hx hb dL_law_280 rfl (lv_at hl 1 rfl) ?_
  refine lv_aload_n hx hb dL_law_281 rfl (lv_at hl 0 rfl) ?_
  refine lv_iload hx hb dL_law_282 (lv_at hl 4 rfl) ?_
  refine lv_iconst (v := nI 1) hx hb dL_law_284 (by decide) ?_
  refine n_iadd hx hb dL_law_285 ?_
  refine l_sld C hX hW (k := i + 1) (by omega) dL_law_286 ?_
  refine lv_aload_n hx hb dL_law_287 rfl (lv_at hl 0 rfl) ?_
  refine lv_iload hx hb dL_law_288 (lv_at hl 4 rfl) ?_
  refine lv_iconst (v := nI 2) hx hb dL_law_290 (by decide) ?_
  refine n_iadd hx hb dL_law_291 ?_
  refine l_sld C hX hW (k := i + 2) (by omega) dL_law_292 ?_
  refine lv_aload_n hx hb dL_law_293 rfl (lv_at hl 0 rfl) ?_
  refine lv_iload hx hb dL_law_294 (lv_at hl 4 rfl) ?_
  refine lv_iconst (v := nI 3) hx hb dL_law_296 (by decide) ?_
  refine n_iadd hx hb dL_law_297 ?_
  refine l_sld C hX hW (k := i + 3) (by omega) dL_law_298 ?_
  refine lv_aload_n hx hb dL_law_299 rfl (lv_at hl 3 rfl) ?_
  refine p_cHi C hml hg hW (c_L_leads l hst0 D cy L ad G I J cn cw σ hS hA hD h80 (xs (i + 1)) (xs (i + 2)) (xs (i + 3))) (vx_cwSW 5 C.2.2.2.1 gL_law_L_leads rfl rfl rfl (by decide +kernel) ⟨Nat.le_of_ble_eq_true rfl, Nat.le_of_ble_eq_true rfl⟩) rfl hl.1 rfl (Nat.le_of_ble_eq_true rfl) dL_law_300 (show cells + 3 ≤ 601024 by omega) (show slots + 18 ≤ 7293034 by omega) (fun v1 I1 J1 H locs h1 hW => ?_)
  refine lv_istore (lv' := [(5, .int v1), (0, .ref b), (1, .ref (ad 0)), (2, .ref (ad 64)), (3, .ref (ad 80)), (4, .int (nI i))]) hx hb dL_law_303 hl (by decide) rfl (fun ls hl => ?_)
  refine lv_aload_n hx hb dL_law_305 rfl (lv_at hl 3 rfl) ?_
  refine lv_aload_n hx hb dL_law_306 rfl (lv_at hl 1 rfl) ?_
  refine lv_iload hx hb dL_law_307 (lv_at hl 5 rfl) ?_
  refine lv_iconst (v := nI 1) hx hb dL_law_309 (by decide) ?_
  refine n_iadd hx hb dL_law_310 ?_
  refine l_sld C hX hW (k := i + 1) (by omega) dL_law_311 ?_
  refine lv_aload_n hx hb dL_law_312 rfl (lv_at hl 1 rfl) ?_
  refine lv_iload hx hb dL_law_313 (lv_at hl 5 rfl) ?_
  refine lv_iconst (v := nI 2) hx hb dL_law_315 (by decide) ?_
  refine n_iadd hx hb dL_law_316 ?_
  refine l_sld C hX hW (k := i + 2) (by omega) dL_law_317 ?_
  refine lv_aload_n hx hb dL_law_318 rfl (lv_at hl 1 rfl) ?_
  refine lv_iload hx hb dL_law_319 (lv_at hl 5 rfl) ?_
  refine lv_iconst (v := nI 3) hx hb dL_law_321 (by decide) ?_
  refine n_iadd hx hb dL_law_322 ?_
  refine l_sld C hX hW (k := i + 3) (by omega) dL_law_323 ?_
  refine p_cVi C hml hg hW (c_X5_leads l D cy L ad G I1 J1 hR cn cw σ hA (hp.mid h1) (xs (i + 1)) (xs (i + 2)) (xs (i + 3))) (cwV 3 C.2.2.2.1 gL_law_X5_leads rfl rfl rfl (by decide +kernel) ⟨Nat.le_of_ble_eq_true rfl, Nat.le_of_ble_eq_true rfl⟩) (p_recv C hW (hR.1 64 (by omega) (by omega)) (pF_5 (by decide)) rfl) rfl hl.1 rfl (Nat.le_of_ble_eq_true rfl) dL_law_324 (show cells + 3 + 0 ≤ 601024 by omega) (show slots + 18 + 0 ≤ 7293034 by omega) (fun v2 I2 J2 H locs h2 hW => ?_)
  refine lv_istore (lv' := [(6, .int v2), (5, .int v1), (0, .ref b), (1, .ref (ad 0)), (2, .ref (ad 64)), (3, .ref (ad 80)), (4, .int (nI i))]) hx hb dL_law_327 hl (by decide) rfl (fun ls hl => ?_)
  refine lv_aload_n hx hb dL_law_329 rfl (lv_at hl 4 rfl) ?_
  refine p_cVi C hml hg hW (c_X5_thrown l D cy L ad G I2 J2 hR) (cwV 0 C.2.2.2.1 gL_law_X5_thrown rfl rfl rfl (by decide +kernel) ⟨Nat.le_of_ble_eq_true rfl, Nat.le_of_ble_eq_true rfl⟩) (p_recv C hW (hR.1 64 (by omega) (by omega)) (pF_5 (by decide)) rfl) rfl hl.1 rfl (Nat.le_of_ble_eq_true rfl) dL_law_330 (show cells + 3 + 0 + 0 ≤ 601024 by omega) (show slots + 18 + 0 + 0 ≤ 7293034 by omega) (fun v3 I3 J3 H locs h3 hW => ?_)
  obtain ⟨e3, eI, eJ⟩ := h3
  subst v3
  subst I3
  subst J3
  refine lv_iload hx hb dL_law_333 (lv_at hl 1 rfl) ?_
  refine lv_icmp_eq (tgt := 340) hx hb dL_law_335 (by decide) (fun hc_1 => ?_) (fun hc_1 => ?_)
  · skip
    refine lv_iload hx hb dL_law_340 (lv_at hl 1 rfl) ?_
    refine lv_if_ne (tgt := 357) hx hb dL_law_342 (by decide) (fun hc_2 => ?_) (fun hc_2 => ?_)
    · skip
      refine lv_goto (tgt := 1483) hx hb dL_law_357 (by decide) ?_
      exact K cn cw _ L ad G I2 J2 _ _ ls _ _ (hp.next (k_leads hA (xs (i + 1)) (xs (i + 2)) (xs (i + 3))) h1 h2) hW (lv_sub hl [2, 3, 4, 5, 6] rfl) (show cells + 3 + 0 + 0 ≤ cells + 12 by omega) (show slots + 18 + 0 + 0 ≤ slots + 120 by omega)
    · skip
      have hz := z3 (c3_leads (xs (i + 1)) (xs (i + 2)) (xs (i + 3))) (h1.1.symm.trans hc_2)
      have ho := ((congrFun (h2.2.2.2 80 (by omega)).2 0).trans (h1.2.1 hz))
      have ho := ho.trans (h2.2.1 hz)
      refine lv_aload_n hx hb dL_law_345 rfl (lv_at hl 5 rfl) ?_
      refine lv_iconst (v := nI 0) hx hb dL_law_346 (by decide) ?_
      refine p_lald C hW h80 (by decide) (k := 0) rfl (by rw [show ln 80 = 1 by decide]; omega) dL_law_347 ?_
      refine lv_iload hx hb dL_law_348 (lv_at hl 0 rfl) ?_
      refine lv_i2l (v := v2.toInt64) hx hb dL_law_350 rfl ?_
      refine l_eq (tgt := 357) hx hb dL_law_351 dL_law_352 (by decide) (fun hc_3 => ?_) (fun hc_3 => ?_)
      · skip
        refine lv_goto (tgt := 1483) hx hb dL_law_357 (by decide) ?_
        exact K cn cw _ L ad G I2 J2 _ _ ls _ _ (hp.next (k_leads hA (xs (i + 1)) (xs (i + 2)) (xs (i + 3))) h1 h2) hW (lv_sub hl [2, 3, 4, 5, 6] rfl) (show cells + 3 + 0 + 0 ≤ cells + 12 by omega) (show slots + 18 + 0 + 0 ≤ slots + 120 by omega)
      · skip
        exact absurd ho hc_3
  · skip
    exact absurd (h2.1.trans h1.1.symm) hc_1
set_option maxHeartbeats 1000000 in
set_option maxRecDepth 100000 in
theorem law_3 {p : Program} {l : Launch} {e : Env} {s : State} {m : MethodId} {args : Array Value} {below : List Frame} {meth : Method} {c : Code} {Q : State → Prop} {D : va_G} {cy : Nat → ClassId} {A : Nat → Prop} (hst0 : l.stackTraces = false) (C : Cx p s m args c cL_law RL wsL_law D cy A) (hml : c.maxLocals = 8) (hg : gX A s) {b Lx : Nat} {xs : Nat → Int32} (hX : scr b Lx xs A s) (i : Nat) (hi : i + 6 ≤ Lx) (cn cw : Nat) (σ : Ab) (L : List Nat) (ad : Nat → Nat) (G : mG) (I : mI) (J : mJ) (hp : pic cn cw σ L G I J) (H : Heap) (locs : List Loc) (cells slots : Nat) (hcc : cells ≤ 20000) (hcs : slots ≤ 200000) (hW : Wd D cy A s.heap H locs L ad G I J) (ls : Array Slot) (hl : lv_has ls 8 [(0, .ref b), (1, .ref (ad 0)), (2, .ref (ad 64)), (3, .ref (ad 80)), (4, .int (nI i))]) (K : kon p l e s m args below meth c Q D cy A b i cells slots) : W p l e room_1 s m args below meth c H locs cells slots Q (F0 m 360 ls []) := by
  have hx := C.1
  have hb := C.2.1
  obtain ⟨hS, hf, hcl, hR, h80, hA, hD, hDr⟩ := id hp
  have h12 := hA.2.1
  have hXl := hX.2.2.2
  refine lv_aload_n hx hb dL_law_360 rfl (lv_at hl 1 rfl) ?_
  refine lv_aload_n hx hb dL_law_361 rfl (lv_at hl 0 rfl) ?_
  refine lv_iload hx hb dL_law_362 (lv_at hl 4 rfl) ?_
  refine lv_iconst (v := nI 1) hx hb dL_law_364 (by decide) ?_
  refine n_iadd hx hb dL_law_365 ?_
  refine l_sld C hX hW (k := i + 1) (by omega) dL_law_366 ?_
  refine lv_aload_n hx hb dL_law_367 rfl (lv_at hl 0 rfl) ?_
  refine lv_iload hx hb dL_law_368 (lv_at hl 4 rfl) ?_
  refine lv_iconst (v := nI 2) hx hb dL_law_370 (by decide) ?_
  refine n_iadd hx hb dL_law_371 ?_
  refine l_sld C hX hW (k := i + 2) (by omega) dL_law_372 ?_
  refine lv_aload_n hx hb dL_law_373 rfl (lv_at hl 0 rfl) ?_
  refine lv_iload hx hb dL_law_374 (lv_at hl 4 rfl) ?_
  refine lv_iconst (v := nI 3) hx hb dL_law_376 (by decide) ?_
  refine n_iadd hx hb dL_law_377 ?_
  refine l_sld C hX hW (k := i + 3) (by omega) dL_law_378 ?_
  refine lv_if_eq (tgt := 386) hx hb dL_law_379 (by decide) (fun hc_1 => ?_) (fun hc_1 => ?_)
  · skip
    refine lv_iconst (v := nI 0) hx hb dL_law_386 (by decide) ?_
    refine w_top (y := .int (bI (decide (¬ xs (i + 3) = 0)))) (by rw [decide_eq_false (fun z => z hc_1)]; rfl) ?_
    refine lv_aload_n hx hb dL_law_387 rfl (lv_at hl 3 rfl) ?_
    refine p_cHi C hml hg hW (c_L_mark l hst0 D cy L ad G I J cn cw σ hS hA hD h80 (xs (i + 1)) (xs (i + 2)) (decide (¬ xs (i + 3) = 0))) (vx_cwSW 5 C.2.2.2.1 gL_law_L_mark rfl rfl rfl (by decide +kernel) ⟨Nat.le_of_ble_eq_true rfl, Nat.le_of_ble_eq_true rfl⟩) rfl hl.1 rfl (Nat.le_of_ble_eq_true rfl) dL_law_388 (show cells + 2 ≤ 601024 by omega) (show slots + 12 ≤ 7293034 by omega) (fun v1 I1 J1 H locs h1 hW => ?_)
    refine lv_istore (lv' := [(5, .int v1), (0, .ref b), (1, .ref (ad 0)), (2, .ref (ad 64)), (3, .ref (ad 80)), (4, .int (nI i))]) hx hb dL_law_391 hl (by decide) rfl (fun ls hl => ?_)
    refine lv_aload_n hx hb dL_law_393 rfl (lv_at hl 3 rfl) ?_
    refine lv_aload_n hx hb dL_law_394 rfl (lv_at hl 1 rfl) ?_
    refine lv_iload hx hb dL_law_395 (lv_at hl 5 rfl) ?_
    refine lv_iconst (v := nI 1) hx hb dL_law_397 (by decide) ?_
    refine n_iadd hx hb dL_law_398 ?_
    refine l_sld C hX hW (k := i + 1) (by omega) dL_law_399 ?_
    refine lv_aload_n hx hb dL_law_400 rfl (lv_at hl 1 rfl) ?_
    refine lv_iload hx hb dL_law_401 (lv_at hl 5 rfl) ?_
    refine lv_iconst (v := nI 2) hx hb dL_law_403 (by decide) ?_
    refine n_iadd hx hb dL_law_404 ?_
    refine l_sld C hX hW (k := i + 2) (by omega) dL_law_405 ?_
    refine lv_aload_n hx hb dL_law_406 rfl (lv_at hl 1 rfl) ?_
    refine lv_iload hx hb dL_law_407 (lv_at hl 5 rfl) ?_
    refine lv_iconst (v := nI 3) hx hb dL_law_409 (by decide) ?_
    refine n_iadd hx hb dL_law_410 ?_
    refine l_sld C hX hW (k := i + 3) (by omega) dL_law_411 ?_
    refine lv_if_eq (tgt := 419) hx hb dL_law_412 (by decide) (fun hc_2 => ?_) (fun hc_2 => ?_)
    · skip
      refine lv_iconst (v := nI 0) hx hb dL_law_419 (by decide) ?_
      refine w_top (y := .int (bI (decide (¬ xs (i + 3) = 0)))) (by rw [decide_eq_false (fun z => z hc_2)]; rfl) ?_
      refine p_cVi C hml hg hW (c_X5_mark l D cy L ad G I1 J1 hR cn cw σ hA (hp.mid h1) (xs (i + 1)) (xs (i + 2)) (decide (¬ xs (i + 3) = 0))) (cwV 3 C.2.2.2.1 gL_law_X5_mark rfl rfl rfl (by decide +kernel) ⟨Nat.le_of_ble_eq_true rfl, Nat.le_of_ble_eq_true rfl⟩) (p_recv C hW (hR.1 64 (by omega) (by omega)) (pF_5 (by decide)) rfl) rfl hl.1 rfl (Nat.le_of_ble_eq_true rfl) dL_law_420 (show cells + 2 + 0 ≤ 601024 by omega) (show slots + 12 + 0 ≤ 7293034 by omega) (fun v2 I2 J2 H locs h2 hW => ?_)
      refine lv_istore (lv' := [(6, .int v2), (5, .int v1), (0, .ref b), (1, .ref (ad 0)), (2, .ref (ad 64)), (3, .ref (ad 80)), (4, .int (nI i))]) hx hb dL_law_423 hl (by decide) rfl (fun ls hl => ?_)
      refine lv_aload_n hx hb dL_law_425 rfl (lv_at hl 4 rfl) ?_
      refine p_cVi C hml hg hW (c_X5_thrown l D cy L ad G I2 J2 hR) (cwV 0 C.2.2.2.1 gL_law_X5_thrown rfl rfl rfl (by decide +kernel) ⟨Nat.le_of_ble_eq_true rfl, Nat.le_of_ble_eq_true rfl⟩) (p_recv C hW (hR.1 64 (by omega) (by omega)) (pF_5 (by decide)) rfl) rfl hl.1 rfl (Nat.le_of_ble_eq_true rfl) dL_law_426 (show cells + 2 + 0 + 0 ≤ 601024 by omega) (show slots + 12 + 0 + 0 ≤ 7293034 by omega) (fun v3 I3 J3 H locs h3 hW => ?_)
      obtain ⟨e3, eI, eJ⟩ := h3
      subst v3
      subst I3
      subst J3
      refine lv_iload hx hb dL_law_429 (lv_at hl 1 rfl) ?_
      refine lv_icmp_eq (tgt := 436) hx hb dL_law_431 (by decide) (fun hc_3 => ?_) (fun hc_3 => ?_)
      · skip
        refine lv_iload hx hb dL_law_436 (lv_at hl 1 rfl) ?_
        refine lv_if_ne (tgt := 460) hx hb dL_law_438 (by decide) (fun hc_4 => ?_) (fun hc_4 => ?_)
        · skip
          refine lv_goto (tgt := 1483) hx hb dL_law_460 (by decide) ?_
          exact K cn cw _ L ad G I2 J2 _ _ ls _ _ (hp.next (k_mark hA (xs (i + 1)) (xs (i + 2)) (decide (¬ xs (i + 3) = 0))) h1 h2) hW (lv_sub hl [2, 3, 4, 5, 6] rfl) (show cells + 2 + 0 + 0 ≤ cells + 12 by omega) (show slots + 12 + 0 + 0 ≤ slots + 120 by omega)
        · skip
          have hz := z3 (c3_mark (xs (i + 1)) (xs (i + 2)) (decide (¬ xs (i + 3) = 0))) (h1.1.symm.trans hc_4)
          have ho := ((congrFun (h2.2.2.2 80 (by omega)).2 0).trans (h1.2.1 hz))
          have hb01 := tb (h2.2.1 hz) (b_mark (xs (i + 1)) (xs (i + 2)) (decide (¬ xs (i + 3) = 0)))
          refine lv_aload_n hx hb dL_law_441 rfl (lv_at hl 5 rfl) ?_
          refine lv_iconst (v := nI 0) hx hb dL_law_442 (by decide) ?_
          refine p_lald C hW h80 (by decide) (k := 0) rfl (by rw [show ln 80 = 1 by decide]; omega) dL_law_443 ?_
          refine lv_iload hx hb dL_law_444 (lv_at hl 0 rfl) ?_
          refine lv_if_eq (tgt := 453) hx hb dL_law_446 (by decide) (fun hc_5 => ?_) (fun hc_5 => ?_)
          · skip
            refine lv_lconst (v := 0) hx hb dL_law_453 (by decide) ?_
            refine l_eq (tgt := 460) hx hb dL_law_454 dL_law_455 (by decide) (fun hc_6 => ?_) (fun hc_6 => ?_)
            · skip
              refine lv_goto (tgt := 1483) hx hb dL_law_460 (by decide) ?_
              exact K cn cw _ L ad G I2 J2 _ _ ls _ _ (hp.next (k_mark hA (xs (i + 1)) (xs (i + 2)) (decide (¬ xs (i + 3) = 0))) h1 h2) hW (lv_sub hl [2, 3, 4, 5, 6] rfl) (show cells + 2 + 0 + 0 ≤ cells + 12 by omega) (show slots + 12 + 0 + 0 ≤ slots + 120 by omega)
            · skip
              exact absurd (ho.trans (hb01.1 hc_5)) hc_6
          · skip
            refine lv_lconst (v := 1) hx hb dL_law_449 (by decide) ?_
            refine lv_goto (tgt := 454) hx hb dL_law_450 (by decide) ?_
            refine l_eq (tgt := 460) hx hb dL_law_454 dL_law_455 (by decide) (fun hc_7 => ?_) (fun hc_7 => ?_)
            · skip
              refine lv_goto (tgt := 1483) hx hb dL_law_460 (by decide) ?_
              exact K cn cw _ L ad G I2 J2 _ _ ls _ _ (hp.next (k_mark hA (xs (i + 1)) (xs (i + 2)) (decide (¬ xs (i + 3) = 0))) h1 h2) hW (lv_sub hl [2, 3, 4, 5, 6] rfl) (show cells + 2 + 0 + 0 ≤ cells + 12 by omega) (show slots + 12 + 0 + 0 ≤ slots + 120 by omega)
            · skip
              exact absurd (ho.trans (hb01.2 hc_5)) hc_7
      · skip
        exact absurd (h2.1.trans h1.1.symm) hc_3
    · skip
      refine lv_iconst (v := nI 1) hx hb dL_law_415 (by decide) ?_
      refine lv_goto (tgt := 420) hx hb dL_law_416 (by decide) ?_
      refine w_top (y := .int (bI (decide (¬ xs (i + 3) = 0)))) (by rw [decide_eq_true hc_2]; rfl) ?_
      refine p_cVi C hml hg hW (c_X5_mark l D cy L ad G I1 J1 hR cn cw σ hA (hp.mid h1) (xs (i + 1)) (xs (i + 2)) (decide (¬ xs (i + 3) = 0))) (cwV 3 C.2.2.2.1 gL_law_X5_mark rfl rfl rfl (by decide +kernel) ⟨Nat.le_of_ble_eq_true rfl, Nat.le_of_ble_eq_true rfl⟩) (p_recv C hW (hR.1 64 (by omega) (by omega)) (pF_5 (by decide)) rfl) rfl hl.1 rfl (Nat.le_of_ble_eq_true rfl) dL_law_420 (show cells + 2 + 0 ≤ 601024 by omega) (show slots + 12 + 0 ≤ 7293034 by omega) (fun v2 I2 J2 H locs h2 hW => ?_)
      refine lv_istore (lv' := [(6, .int v2), (5, .int v1), (0, .ref b), (1, .ref (ad 0)), (2, .ref (ad 64)), (3, .ref (ad 80)), (4, .int (nI i))]) hx hb dL_law_423 hl (by decide) rfl (fun ls hl => ?_)
      refine lv_aload_n hx hb dL_law_425 rfl (lv_at hl 4 rfl) ?_
      refine p_cVi C hml hg hW (c_X5_thrown l D cy L ad G I2 J2 hR) (cwV 0 C.2.2.2.1 gL_law_X5_thrown rfl rfl rfl (by decide +kernel) ⟨Nat.le_of_ble_eq_true rfl, Nat.le_of_ble_eq_true rfl⟩) (p_recv C hW (hR.1 64 (by omega) (by omega)) (pF_5 (by decide)) rfl) rfl hl.1 rfl (Nat.le_of_ble_eq_true rfl) dL_law_426 (show cells + 2 + 0 + 0 ≤ 601024 by omega) (show slots + 12 + 0 + 0 ≤ 7293034 by omega) (fun v3 I3 J3 H locs h3 hW => ?_)
      obtain ⟨e3, eI, eJ⟩ := h3
      subst v3
      subst I3
      subst J3
      refine lv_iload hx hb dL_law_429 (lv_at hl 1 rfl) ?_
      refine lv_icmp_eq (tgt := 436) hx hb dL_law_431 (by decide) (fun hc_8 => ?_) (fun hc_8 => ?_)
      · skip
        refine lv_iload hx hb dL_law_436 (lv_at hl 1 rfl) ?_
        refine lv_if_ne (tgt := 460) hx hb dL_law_438 (by decide) (fun hc_9 => ?_) (fun hc_9 => ?_)
        · skip
          refine lv_goto (tgt := 1483) hx hb dL_law_460 (by decide) ?_
          exact K cn cw _ L ad G I2 J2 _ _ ls _ _ (hp.next (k_mark hA (xs (i + 1)) (xs (i + 2)) (decide (¬ xs (i + 3) = 0))) h1 h2) hW (lv_sub hl [2, 3, 4, 5, 6] rfl) (show cells + 2 + 0 + 0 ≤ cells + 12 by omega) (show slots + 12 + 0 + 0 ≤ slots + 120 by omega)
        · skip
          have hz := z3 (c3_mark (xs (i + 1)) (xs (i + 2)) (decide (¬ xs (i + 3) = 0))) (h1.1.symm.trans hc_9)
          have ho := ((congrFun (h2.2.2.2 80 (by omega)).2 0).trans (h1.2.1 hz))
          have hb01 := tb (h2.2.1 hz) (b_mark (xs (i + 1)) (xs (i + 2)) (decide (¬ xs (i + 3) = 0)))
          refine lv_aload_n hx hb dL_law_441 rfl (lv_at hl 5 rfl) ?_
          refine lv_iconst (v := nI 0) hx hb dL_law_442 (by decide) ?_
          refine p_lald C hW h80 (by decide) (k := 0) rfl (by rw [show ln 80 = 1 by decide]; omega) dL_law_443 ?_
          refine lv_iload hx hb dL_law_444 (lv_at hl 0 rfl) ?_
          refine lv_if_eq (tgt := 453) hx hb dL_law_446 (by decide) (fun hc_10 => ?_) (fun hc_10 => ?_)
          · skip
            refine lv_lconst (v := 0) hx hb dL_law_453 (by decide) ?_
            refine l_eq (tgt := 460) hx hb dL_law_454 dL_law_455 (by decide) (fun hc_11 => ?_) (fun hc_11 => ?_)
            · skip
              refine lv_goto (tgt := 1483) hx hb dL_law_460 (by decide) ?_
              exact K cn cw _ L ad G I2 J2 _ _ ls _ _ (hp.next (k_mark hA (xs (i + 1)) (xs (i + 2)) (decide (¬ xs (i + 3) = 0))) h1 h2) hW (lv_sub hl [2, 3, 4, 5, 6] rfl) (show cells + 2 + 0 + 0 ≤ cells + 12 by omega) (show slots + 12 + 0 + 0 ≤ slots + 120 by omega)
            · skip
              exact absurd (ho.trans (hb01.1 hc_10)) hc_11
          · skip
            refine lv_lconst (v := 1) hx hb dL_law_449 (by decide) ?_
            refine lv_goto (tgt := 454) hx hb dL_law_450 (by decide) ?_
            refine l_eq (tgt := 460) hx hb dL_law_454 dL_law_455 (by decide) (fun hc_12 => ?_) (fun hc_12 => ?_)
            · skip
              refine lv_goto (tgt := 1483) hx hb dL_law_460 (by decide) ?_
              exact K cn cw _ L ad G I2 J2 _ _ ls _ _ (hp.next (k_mark hA (xs (i + 1)) (xs (i + 2)) (decide (¬ xs (i + 3) = 0))) h1 h2) hW (lv_sub hl [2, 3, 4, 5, 6] rfl) (show cells + 2 + 0 + 0 ≤ cells + 12 by omega) (show slots + 12 + 0 + 0 ≤ slots + 120 by omega)
            · skip
              exact absurd (ho.trans (hb01.2 hc_10)) hc_12
      · skip
        exact absurd (h2.1.trans h1.1.symm) hc_8
  · skip
    refine lv_iconst (v := nI 1) hx hb dL_law_382 (by decide) ?_
    refine lv_goto (tgt := 387) hx hb dL_law_383 (by decide) ?_
    refine w_top (y := .int (bI (decide (¬ xs (i + 3) = 0)))) (by rw [decide_eq_true hc_1]; rfl) ?_
    refine lv_aload_n hx hb dL_law_387 rfl (lv_at hl 3 rfl) ?_
    refine p_cHi C hml hg hW (c_L_mark l hst0 D cy L ad G I J cn cw σ hS hA hD h80 (xs (i + 1)) (xs (i + 2)) (decide (¬ xs (i + 3) = 0))) (vx_cwSW 5 C.2.2.2.1 gL_law_L_mark rfl rfl rfl (by decide +kernel) ⟨Nat.le_of_ble_eq_true rfl, Nat.le_of_ble_eq_true rfl⟩) rfl hl.1 rfl (Nat.le_of_ble_eq_true rfl) dL_law_388 (show cells + 2 ≤ 601024 by omega) (show slots + 12 ≤ 7293034 by omega) (fun v1 I1 J1 H locs h1 hW => ?_)
    refine lv_istore (lv' := [(5, .int v1), (0, .ref b), (1, .ref (ad 0)), (2, .ref (ad 64)), (3, .ref (ad 80)), (4, .int (nI i))]) hx hb dL_law_391 hl (by decide) rfl (fun ls hl => ?_)
    refine lv_aload_n hx hb dL_law_393 rfl (lv_at hl 3 rfl) ?_
    refine lv_aload_n hx hb dL_law_394 rfl (lv_at hl 1 rfl) ?_
    refine lv_iload hx hb dL_law_395 (lv_at hl 5 rfl) ?_
    refine lv_iconst (v := nI 1) hx hb dL_law_397 (by decide) ?_
    refine n_iadd hx hb dL_law_398 ?_
    refine l_sld C hX hW (k := i + 1) (by omega) dL_law_399 ?_
    refine lv_aload_n hx hb dL_law_400 rfl (lv_at hl 1 rfl) ?_
    refine lv_iload hx hb dL_law_401 (lv_at hl 5 rfl) ?_
    refine lv_iconst (v := nI 2) hx hb dL_law_403 (by decide) ?_
    refine n_iadd hx hb dL_law_404 ?_
    refine l_sld C hX hW (k := i + 2) (by omega) dL_law_405 ?_
    refine lv_aload_n hx hb dL_law_406 rfl (lv_at hl 1 rfl) ?_
    refine lv_iload hx hb dL_law_407 (lv_at hl 5 rfl) ?_
    refine lv_iconst (v := nI 3) hx hb dL_law_409 (by decide) ?_
    refine n_iadd hx hb dL_law_410 ?_
    refine l_sld C hX hW (k := i + 3) (by omega) dL_law_411 ?_
    refine lv_if_eq (tgt := 419) hx hb dL_law_412 (by decide) (fun hc_13 => ?_) (fun hc_13 => ?_)
    · skip
      refine lv_iconst (v := nI 0) hx hb dL_law_419 (by decide) ?_
      refine w_top (y := .int (bI (decide (¬ xs (i + 3) = 0)))) (by rw [decide_eq_false (fun z => z hc_13)]; rfl) ?_
      refine p_cVi C hml hg hW (c_X5_mark l D cy L ad G I1 J1 hR cn cw σ hA (hp.mid h1) (xs (i + 1)) (xs (i + 2)) (decide (¬ xs (i + 3) = 0))) (cwV 3 C.2.2.2.1 gL_law_X5_mark rfl rfl rfl (by decide +kernel) ⟨Nat.le_of_ble_eq_true rfl, Nat.le_of_ble_eq_true rfl⟩) (p_recv C hW (hR.1 64 (by omega) (by omega)) (pF_5 (by decide)) rfl) rfl hl.1 rfl (Nat.le_of_ble_eq_true rfl) dL_law_420 (show cells + 2 + 0 ≤ 601024 by omega) (show slots + 12 + 0 ≤ 7293034 by omega) (fun v2 I2 J2 H locs h2 hW => ?_)
      refine lv_istore (lv' := [(6, .int v2), (5, .int v1), (0, .ref b), (1, .ref (ad 0)), (2, .ref (ad 64)), (3, .ref (ad 80)), (4, .int (nI i))]) hx hb dL_law_423 hl (by decide) rfl (fun ls hl => ?_)
      refine lv_aload_n hx hb dL_law_425 rfl (lv_at hl 4 rfl) ?_
      refine p_cVi C hml hg hW (c_X5_thrown l D cy L ad G I2 J2 hR) (cwV 0 C.2.2.2.1 gL_law_X5_thrown rfl rfl rfl (by decide +kernel) ⟨Nat.le_of_ble_eq_true rfl, Nat.le_of_ble_eq_true rfl⟩) (p_recv C hW (hR.1 64 (by omega) (by omega)) (pF_5 (by decide)) rfl) rfl hl.1 rfl (Nat.le_of_ble_eq_true rfl) dL_law_426 (show cells + 2 + 0 + 0 ≤ 601024 by omega) (show slots + 12 + 0 + 0 ≤ 7293034 by omega) (fun v3 I3 J3 H locs h3 hW => ?_)
      obtain ⟨e3, eI, eJ⟩ := h3
      subst v3
      subst I3
      subst J3
      refine lv_iload hx hb dL_law_429 (lv_at hl 1 rfl) ?_
      refine lv_icmp_eq (tgt := 436) hx hb dL_law_431 (by decide) (fun hc_14 => ?_) (fun hc_14 => ?_)
      · skip
        refine lv_iload hx hb dL_law_436 (lv_at hl 1 rfl) ?_
        refine lv_if_ne (tgt := 460) hx hb dL_law_438 (by decide) (fun hc_15 => ?_) (fun hc_15 => ?_)
        · skip
          refine lv_goto (tgt := 1483) hx hb dL_law_460 (by decide) ?_
          exact K cn cw _ L ad G I2 J2 _ _ ls _ _ (hp.next (k_mark hA (xs (i + 1)) (xs (i + 2)) (decide (¬ xs (i + 3) = 0))) h1 h2) hW (lv_sub hl [2, 3, 4, 5, 6] rfl) (show cells + 2 + 0 + 0 ≤ cells + 12 by omega) (show slots + 12 + 0 + 0 ≤ slots + 120 by omega)
        · skip
          have hz := z3 (c3_mark (xs (i + 1)) (xs (i + 2)) (decide (¬ xs (i + 3) = 0))) (h1.1.symm.trans hc_15)
          have ho := ((congrFun (h2.2.2.2 80 (by omega)).2 0).trans (h1.2.1 hz))
          have hb01 := tb (h2.2.1 hz) (b_mark (xs (i + 1)) (xs (i + 2)) (decide (¬ xs (i + 3) = 0)))
          refine lv_aload_n hx hb dL_law_441 rfl (lv_at hl 5 rfl) ?_
          refine lv_iconst (v := nI 0) hx hb dL_law_442 (by decide) ?_
          refine p_lald C hW h80 (by decide) (k := 0) rfl (by rw [show ln 80 = 1 by decide]; omega) dL_law_443 ?_
          refine lv_iload hx hb dL_law_444 (lv_at hl 0 rfl) ?_
          refine lv_if_eq (tgt := 453) hx hb dL_law_446 (by decide) (fun hc_16 => ?_) (fun hc_16 => ?_)
          · skip
            refine lv_lconst (v := 0) hx hb dL_law_453 (by decide) ?_
            refine l_eq (tgt := 460) hx hb dL_law_454 dL_law_455 (by decide) (fun hc_17 => ?_) (fun hc_17 => ?_)
            · skip
              refine lv_goto (tgt := 1483) hx hb dL_law_460 (by decide) ?_
              exact K cn cw _ L ad G I2 J2 _ _ ls _ _ (hp.next (k_mark hA (xs (i + 1)) (xs (i + 2)) (decide (¬ xs (i + 3) = 0))) h1 h2) hW (lv_sub hl [2, 3, 4, 5, 6] rfl) (show cells + 2 + 0 + 0 ≤ cells + 12 by omega) (show slots + 12 + 0 + 0 ≤ slots + 120 by omega)
            · skip
              exact absurd (ho.trans (hb01.1 hc_16)) hc_17
          · skip
            refine lv_lconst (v := 1) hx hb dL_law_449 (by decide) ?_
            refine lv_goto (tgt := 454) hx hb dL_law_450 (by decide) ?_
            refine l_eq (tgt := 460) hx hb dL_law_454 dL_law_455 (by decide) (fun hc_18 => ?_) (fun hc_18 => ?_)
            · skip
              refine lv_goto (tgt := 1483) hx hb dL_law_460 (by decide) ?_
              exact K cn cw _ L ad G I2 J2 _ _ ls _ _ (hp.next (k_mark hA (xs (i + 1)) (xs (i + 2)) (decide (¬ xs (i + 3) = 0))) h1 h2) hW (lv_sub hl [2, 3, 4, 5, 6] rfl) (show cells + 2 + 0 + 0 ≤ cells + 12 by omega) (show slots + 12 + 0 + 0 ≤ slots + 120 by omega)
            · skip
              exact absurd (ho.trans (hb01.2 hc_16)) hc_18
      · skip
        exact absurd (h2.1.trans h1.1.symm) hc_14
    · skip
      refine lv_iconst (v := nI 1) hx hb dL_law_415 (by decide) ?_
      refine lv_goto (tgt := 420) hx hb dL_law_416 (by decide) ?_
      refine w_top (y := .int (bI (decide (¬ xs (i + 3) = 0)))) (by rw [decide_eq_true hc_13]; rfl) ?_
      refine p_cVi C hml hg hW (c_X5_mark l D cy L ad G I1 J1 hR cn cw σ hA (hp.mid h1) (xs (i + 1)) (xs (i + 2)) (decide (¬ xs (i + 3) = 0))) (cwV 3 C.2.2.2.1 gL_law_X5_mark rfl rfl rfl (by decide +kernel) ⟨Nat.le_of_ble_eq_true rfl, Nat.le_of_ble_eq_true rfl⟩) (p_recv C hW (hR.1 64 (by omega) (by omega)) (pF_5 (by decide)) rfl) rfl hl.1 rfl (Nat.le_of_ble_eq_true rfl) dL_law_420 (show cells + 2 + 0 ≤ 601024 by omega) (show slots + 12 + 0 ≤ 7293034 by omega) (fun v2 I2 J2 H locs h2 hW => ?_)
      refine lv_istore (lv' := [(6, .int v2), (5, .int v1), (0, .ref b), (1, .ref (ad 0)), (2, .ref (ad 64)), (3, .ref (ad 80)), (4, .int (nI i))]) hx hb dL_law_423 hl (by decide) rfl (fun ls hl => ?_)
      refine lv_aload_n hx hb dL_law_425 rfl (lv_at hl 4 rfl) ?_
      refine p_cVi C hml hg hW (c_X5_thrown l D cy L ad G I2 J2 hR) (cwV 0 C.2.2.2.1 gL_law_X5_thrown rfl rfl rfl (by decide +kernel) ⟨Nat.le_of_ble_eq_true rfl, Nat.le_of_ble_eq_true rfl⟩) (p_recv C hW (hR.1 64 (by omega) (by omega)) (pF_5 (by decide)) rfl) rfl hl.1 rfl (Nat.le_of_ble_eq_true rfl) dL_law_426 (show cells + 2 + 0 + 0 ≤ 601024 by omega) (show slots + 12 + 0 + 0 ≤ 7293034 by omega) (fun v3 I3 J3 H locs h3 hW => ?_)
      obtain ⟨e3, eI, eJ⟩ := h3
      subst v3
      subst I3
      subst J3
      refine lv_iload hx hb dL_law_429 (lv_at hl 1 rfl) ?_
      refine lv_icmp_eq (tgt := 436) hx hb dL_law_431 (by decide) (fun hc_19 => ?_) (fun hc_19 => ?_)
      · skip
        refine lv_iload hx hb dL_law_436 (lv_at hl 1 rfl) ?_
        refine lv_if_ne (tgt := 460) hx hb dL_law_438 (by decide) (fun hc_20 => ?_) (fun hc_20 => ?_)
        · skip
          refine lv_goto (tgt := 1483) hx hb dL_law_460 (by decide) ?_
          exact K cn cw _ L ad G I2 J2 _ _ ls _ _ (hp.next (k_mark hA (xs (i + 1)) (xs (i + 2)) (decide (¬ xs (i + 3) = 0))) h1 h2) hW (lv_sub hl [2, 3, 4, 5, 6] rfl) (show cells + 2 + 0 + 0 ≤ cells + 12 by omega) (show slots + 12 + 0 + 0 ≤ slots + 120 by omega)
        · skip
          have hz := z3 (c3_mark (xs (i + 1)) (xs (i + 2)) (decide (¬ xs (i + 3) = 0))) (h1.1.symm.trans hc_20)
          have ho := ((congrFun (h2.2.2.2 80 (by omega)).2 0).trans (h1.2.1 hz))
          have hb01 := tb (h2.2.1 hz) (b_mark (xs (i + 1)) (xs (i + 2)) (decide (¬ xs (i + 3) = 0)))
          refine lv_aload_n hx hb dL_law_441 rfl (lv_at hl 5 rfl) ?_
          refine lv_iconst (v := nI 0) hx hb dL_law_442 (by decide) ?_
          refine p_lald C hW h80 (by decide) (k := 0) rfl (by rw [show ln 80 = 1 by decide]; omega) dL_law_443 ?_
          refine lv_iload hx hb dL_law_444 (lv_at hl 0 rfl) ?_
          refine lv_if_eq (tgt := 453) hx hb dL_law_446 (by decide) (fun hc_21 => ?_) (fun hc_21 => ?_)
          · skip
            refine lv_lconst (v := 0) hx hb dL_law_453 (by decide) ?_
            refine l_eq (tgt := 460) hx hb dL_law_454 dL_law_455 (by decide) (fun hc_22 => ?_) (fun hc_22 => ?_)
            · skip
              refine lv_goto (tgt := 1483) hx hb dL_law_460 (by decide) ?_
              exact K cn cw _ L ad G I2 J2 _ _ ls _ _ (hp.next (k_mark hA (xs (i + 1)) (xs (i + 2)) (decide (¬ xs (i + 3) = 0))) h1 h2) hW (lv_sub hl [2, 3, 4, 5, 6] rfl) (show cells + 2 + 0 + 0 ≤ cells + 12 by omega) (show slots + 12 + 0 + 0 ≤ slots + 120 by omega)
            · skip
              exact absurd (ho.trans (hb01.1 hc_21)) hc_22
          · skip
            refine lv_lconst (v := 1) hx hb dL_law_449 (by decide) ?_
            refine lv_goto (tgt := 454) hx hb dL_law_450 (by decide) ?_
            refine l_eq (tgt := 460) hx hb dL_law_454 dL_law_455 (by decide) (fun hc_23 => ?_) (fun hc_23 => ?_)
            · skip
              refine lv_goto (tgt := 1483) hx hb dL_law_460 (by decide) ?_
              exact K cn cw _ L ad G I2 J2 _ _ ls _ _ (hp.next (k_mark hA (xs (i + 1)) (xs (i + 2)) (decide (¬ xs (i + 3) = 0))) h1 h2) hW (lv_sub hl [2, 3, 4, 5, 6] rfl) (show cells + 2 + 0 + 0 ≤ cells + 12 by omega) (show slots + 12 + 0 + 0 ≤ slots + 120 by omega)
            · skip
              exact absurd (ho.trans (hb01.2 hc_21)) hc_23
      · skip
        exact absurd (h2.1.trans h1.1.symm) hc_19
set_option maxHeartbeats 1000000 in
set_option maxRecDepth 100000 in
theorem law_4 {p : Program} {l : Launch} {e : Env} {s : State} {m : MethodId} {args : Array Value} {below : List Frame} {meth : Method} {c : Code} {Q : State → Prop} {D : va_G} {cy : Nat → ClassId} {A : Nat → Prop} (hst0 : l.stackTraces = false) (C : Cx p s m args c cL_law RL wsL_law D cy A) (hml : c.maxLocals = 8) (hg : gX A s) {b Lx : Nat} {xs : Nat → Int32} (hX : scr b Lx xs A s) (i : Nat) (hi : i + 6 ≤ Lx) (cn cw : Nat) (σ : Ab) (L : List Nat) (ad : Nat → Nat) (G : mG) (I : mI) (J : mJ) (hp : pic cn cw σ L G I J) (H : Heap) (locs : List Loc) (cells slots : Nat) (hcc : cells ≤ 20000) (hcs : slots ≤ 200000) (hW : Wd D cy A s.heap H locs L ad G I J) (ls : Array Slot) (hl : lv_has ls 8 [(0, .ref b), (1, .ref (ad 0)), (2, .ref (ad 64)), (3, .ref (ad 80)), (4, .int (nI i))]) (K : kon p l e s m args below meth c Q D cy A b i cells slots) : W p l e room_1 s m args below meth c H locs cells slots Q (F0 m 463 ls []) := by
  have hx := C.1
  have hb := C.2.1
  obtain ⟨hS, hf, hcl, hR, h80, hA, hD, hDr⟩ := id hp
  have h12 := hA.2.1
  have hXl := hX.2.2.2
  refine lv_aload_n hx hb dL_law_463 rfl (lv_at hl 1 rfl) ?_
  refine lv_aload_n hx hb dL_law_464 rfl (lv_at hl 0 rfl) ?_
  refine lv_iload hx hb dL_law_465 (lv_at hl 4 rfl) ?_
  refine lv_iconst (v := nI 1) hx hb dL_law_467 (by decide) ?_
  refine n_iadd hx hb dL_law_468 ?_
  refine l_sld C hX hW (k := i + 1) (by omega) dL_law_469 ?_
  refine lv_aload_n hx hb dL_law_470 rfl (lv_at hl 0 rfl) ?_
  refine lv_iload hx hb dL_law_471 (lv_at hl 4 rfl) ?_
  refine lv_iconst (v := nI 2) hx hb dL_law_473 (by decide) ?_
  refine n_iadd hx hb dL_law_474 ?_
  refine l_sld C hX hW (k := i + 2) (by omega) dL_law_475 ?_
  refine lv_aload_n hx hb dL_law_476 rfl (lv_at hl 3 rfl) ?_
  refine p_cHi C hml hg hW (c_L_alike l hst0 D cy L ad G I J cn cw σ hS hA hD h80 (xs (i + 1)) (xs (i + 2))) (vx_cwSW 4 C.2.2.2.1 gL_law_L_alike rfl rfl rfl (by decide +kernel) ⟨Nat.le_of_ble_eq_true rfl, Nat.le_of_ble_eq_true rfl⟩) rfl hl.1 rfl (Nat.le_of_ble_eq_true rfl) dL_law_477 (show cells + 2 ≤ 601024 by omega) (show slots + 12 ≤ 7293034 by omega) (fun v1 I1 J1 H locs h1 hW => ?_)
  refine lv_istore (lv' := [(5, .int v1), (0, .ref b), (1, .ref (ad 0)), (2, .ref (ad 64)), (3, .ref (ad 80)), (4, .int (nI i))]) hx hb dL_law_480 hl (by decide) rfl (fun ls hl => ?_)
  refine lv_aload_n hx hb dL_law_482 rfl (lv_at hl 3 rfl) ?_
  refine lv_aload_n hx hb dL_law_483 rfl (lv_at hl 1 rfl) ?_
  refine lv_iload hx hb dL_law_484 (lv_at hl 5 rfl) ?_
  refine lv_iconst (v := nI 1) hx hb dL_law_486 (by decide) ?_
  refine n_iadd hx hb dL_law_487 ?_
  refine l_sld C hX hW (k := i + 1) (by omega) dL_law_488 ?_
  refine lv_aload_n hx hb dL_law_489 rfl (lv_at hl 1 rfl) ?_
  refine lv_iload hx hb dL_law_490 (lv_at hl 5 rfl) ?_
  refine lv_iconst (v := nI 2) hx hb dL_law_492 (by decide) ?_
  refine n_iadd hx hb dL_law_493 ?_
  refine l_sld C hX hW (k := i + 2) (by omega) dL_law_494 ?_
  refine p_cVi C hml hg hW (c_X5_alike l D cy L ad G I1 J1 hR cn cw σ hA (hp.mid h1) (xs (i + 1)) (xs (i + 2))) (cwV 2 C.2.2.2.1 gL_law_X5_alike rfl rfl rfl (by decide +kernel) ⟨Nat.le_of_ble_eq_true rfl, Nat.le_of_ble_eq_true rfl⟩) (p_recv C hW (hR.1 64 (by omega) (by omega)) (pF_5 (by decide)) rfl) rfl hl.1 rfl (Nat.le_of_ble_eq_true rfl) dL_law_495 (show cells + 2 + 0 ≤ 601024 by omega) (show slots + 12 + 0 ≤ 7293034 by omega) (fun v2 I2 J2 H locs h2 hW => ?_)
  refine lv_istore (lv' := [(6, .int v2), (5, .int v1), (0, .ref b), (1, .ref (ad 0)), (2, .ref (ad 64)), (3, .ref (ad 80)), (4, .int (nI i))]) hx hb dL_law_498 hl (by decide) rfl (fun ls hl => ?_)
  refine lv_aload_n hx hb dL_law_500 rfl (lv_at hl 4 rfl) ?_
  refine p_cVi C hml hg hW (c_X5_thrown l D cy L ad G I2 J2 hR) (cwV 0 C.2.2.2.1 gL_law_X5_thrown rfl rfl rfl (by decide +kernel) ⟨Nat.le_of_ble_eq_true rfl, Nat.le_of_ble_eq_true rfl⟩) (p_recv C hW (hR.1 64 (by omega) (by omega)) (pF_5 (by decide)) rfl) rfl hl.1 rfl (Nat.le_of_ble_eq_true rfl) dL_law_501 (show cells + 2 + 0 + 0 ≤ 601024 by omega) (show slots + 12 + 0 + 0 ≤ 7293034 by omega) (fun v3 I3 J3 H locs h3 hW => ?_)
  obtain ⟨e3, eI, eJ⟩ := h3
  subst v3
  subst I3
  subst J3
  refine lv_iload hx hb dL_law_504 (lv_at hl 1 rfl) ?_
  refine lv_icmp_eq (tgt := 511) hx hb dL_law_506 (by decide) (fun hc_1 => ?_) (fun hc_1 => ?_)
  · skip
    refine lv_iload hx hb dL_law_511 (lv_at hl 1 rfl) ?_
    refine lv_if_ne (tgt := 528) hx hb dL_law_513 (by decide) (fun hc_2 => ?_) (fun hc_2 => ?_)
    · skip
      refine lv_goto (tgt := 1483) hx hb dL_law_528 (by decide) ?_
      exact K cn cw _ L ad G I2 J2 _ _ ls _ _ (hp.next (k_alike hA (xs (i + 1)) (xs (i + 2))) h1 h2) hW (lv_sub hl [2, 3, 4, 5, 6] rfl) (show cells + 2 + 0 + 0 ≤ cells + 12 by omega) (show slots + 12 + 0 + 0 ≤ slots + 120 by omega)
    · skip
      have hz := z3 (c3_alike (xs (i + 1)) (xs (i + 2))) (h1.1.symm.trans hc_2)
      have ho := ((congrFun (h2.2.2.2 80 (by omega)).2 0).trans (h1.2.1 hz))
      have ho := ho.trans (h2.2.1 hz)
      refine lv_aload_n hx hb dL_law_516 rfl (lv_at hl 5 rfl) ?_
      refine lv_iconst (v := nI 0) hx hb dL_law_517 (by decide) ?_
      refine p_lald C hW h80 (by decide) (k := 0) rfl (by rw [show ln 80 = 1 by decide]; omega) dL_law_518 ?_
      refine lv_iload hx hb dL_law_519 (lv_at hl 0 rfl) ?_
      refine lv_i2l (v := v2.toInt64) hx hb dL_law_521 rfl ?_
      refine l_eq (tgt := 528) hx hb dL_law_522 dL_law_523 (by decide) (fun hc_3 => ?_) (fun hc_3 => ?_)
      · skip
        refine lv_goto (tgt := 1483) hx hb dL_law_528 (by decide) ?_
        exact K cn cw _ L ad G I2 J2 _ _ ls _ _ (hp.next (k_alike hA (xs (i + 1)) (xs (i + 2))) h1 h2) hW (lv_sub hl [2, 3, 4, 5, 6] rfl) (show cells + 2 + 0 + 0 ≤ cells + 12 by omega) (show slots + 12 + 0 + 0 ≤ slots + 120 by omega)
      · skip
        exact absurd ho hc_3
  · skip
    exact absurd (h2.1.trans h1.1.symm) hc_1
set_option maxHeartbeats 1000000 in
set_option maxRecDepth 100000 in
theorem law_5 {p : Program} {l : Launch} {e : Env} {s : State} {m : MethodId} {args : Array Value} {below : List Frame} {meth : Method} {c : Code} {Q : State → Prop} {D : va_G} {cy : Nat → ClassId} {A : Nat → Prop} (hst0 : l.stackTraces = false) (C : Cx p s m args c cL_law RL wsL_law D cy A) (hml : c.maxLocals = 8) (hg : gX A s) {b Lx : Nat} {xs : Nat → Int32} (hX : scr b Lx xs A s) (i : Nat) (hi : i + 6 ≤ Lx) (cn cw : Nat) (σ : Ab) (L : List Nat) (ad : Nat → Nat) (G : mG) (I : mI) (J : mJ) (hp : pic cn cw σ L G I J) (H : Heap) (locs : List Loc) (cells slots : Nat) (hcc : cells ≤ 20000) (hcs : slots ≤ 200000) (hW : Wd D cy A s.heap H locs L ad G I J) (ls : Array Slot) (hl : lv_has ls 8 [(0, .ref b), (1, .ref (ad 0)), (2, .ref (ad 64)), (3, .ref (ad 80)), (4, .int (nI i))]) (K : kon p l e s m args below meth c Q D cy A b i cells slots) : W p l e room_1 s m args below meth c H locs cells slots Q (F0 m 531 ls []) := by
  have hx := C.1
  have hb := C.2.1
  obtain ⟨hS, hf, hcl, hR, h80, hA, hD, hDr⟩ := id hp
  have h12 := hA.2.1
  have hXl := hX.2.2.2
  refine lv_aload_n hx hb dL_law_531 rfl (lv_at hl 1 rfl) ?_
  refine lv_aload_n hx hb dL_law_532 rfl (lv_at hl 0 rfl) ?_
  refine lv_iload hx hb dL_law_533 (lv_at hl 4 rfl) ?_
  refine lv_iconst (v := nI 1) hx hb dL_law_535 (by decide) ?_
  refine n_iadd hx hb dL_law_536 ?_
  refine l_sld C hX hW (k := i + 1) (by omega) dL_law_537 ?_
  refine lv_aload_n hx hb dL_law_538 rfl (lv_at hl 3 rfl) ?_
  refine p_cHn C hml hg hW (c_L_walk l hst0 D cy L ad G I J hcl cn cw σ hS hf hA hD h80 (xs (i + 1))) (vx_cwSW 3 C.2.2.2.1 gL_law_L_walk rfl rfl rfl (by decide +kernel) ⟨Nat.le_of_ble_eq_true rfl, Nat.le_of_ble_eq_true rfl⟩) rfl hl.1 rfl (Nat.le_of_ble_eq_true rfl) dL_law_539 (show cells + 6 ≤ 601024 by omega) (show slots + 90 ≤ 7293034 by omega) (fun v1 L1 ad1 G1 I1 J1 H locs h1 hW => ?_)
  obtain ⟨hR1, hD1⟩ := hp.midW h1
  have hl : lv_has ls 8 [(0, .ref b), (1, .ref (ad1 0)), (2, .ref (ad1 64)), (3, .ref (ad1 80)), (4, .int (nI i))] := by rw [h1.1 0 (hS.1 0 (by omega)), h1.1 64 (hR.1 64 (by omega) (by omega)), h1.1 80 h80]; exact hl
  refine lv_istore (lv' := [(5, .int v1), (0, .ref b), (1, .ref (ad1 0)), (2, .ref (ad1 64)), (3, .ref (ad1 80)), (4, .int (nI i))]) hx hb dL_law_542 hl (by decide) rfl (fun ls hl => ?_)
  refine lv_aload_n hx hb dL_law_544 rfl (lv_at hl 3 rfl) ?_
  refine lv_aload_n hx hb dL_law_545 rfl (lv_at hl 1 rfl) ?_
  refine lv_iload hx hb dL_law_546 (lv_at hl 5 rfl) ?_
  refine lv_iconst (v := nI 1) hx hb dL_law_548 (by decide) ?_
  refine n_iadd hx hb dL_law_549 ?_
  refine l_sld C hX hW (k := i + 1) (by omega) dL_law_550 ?_
  refine p_cVi C hml hg hW (c_X5_walk l D cy L1 ad1 G1 I1 J1 hR1 cn cw σ hA hD1 (xs (i + 1))) (cwV 1 C.2.2.2.1 gL_law_X5_walk rfl rfl rfl (by decide +kernel) ⟨Nat.le_of_ble_eq_true rfl, Nat.le_of_ble_eq_true rfl⟩) (p_recv C hW (hR1.1 64 (by omega) (by omega)) (pF_5 (by decide)) rfl) rfl hl.1 rfl (Nat.le_of_ble_eq_true rfl) dL_law_551 (show cells + 6 + 0 ≤ 601024 by omega) (show slots + 90 + 0 ≤ 7293034 by omega) (fun v2 I2 J2 H locs h2 hW => ?_)
  obtain ⟨hvv, hout, cw9, σ9, hp9⟩ := hp.walk h1 h2
  refine lv_istore (lv' := [(6, .int v2), (5, .int v1), (0, .ref b), (1, .ref (ad1 0)), (2, .ref (ad1 64)), (3, .ref (ad1 80)), (4, .int (nI i))]) hx hb dL_law_554 hl (by decide) rfl (fun ls hl => ?_)
  refine lv_aload_n hx hb dL_law_556 rfl (lv_at hl 4 rfl) ?_
  refine p_cVi C hml hg hW (c_X5_thrown l D cy L1 ad1 G1 I2 J2 hR1) (cwV 0 C.2.2.2.1 gL_law_X5_thrown rfl rfl rfl (by decide +kernel) ⟨Nat.le_of_ble_eq_true rfl, Nat.le_of_ble_eq_true rfl⟩) (p_recv C hW (hR1.1 64 (by omega) (by omega)) (pF_5 (by decide)) rfl) rfl hl.1 rfl (Nat.le_of_ble_eq_true rfl) dL_law_557 (show cells + 6 + 0 + 0 ≤ 601024 by omega) (show slots + 90 + 0 + 0 ≤ 7293034 by omega) (fun v3 I3 J3 H locs h3 hW => ?_)
  obtain ⟨e3, eI, eJ⟩ := h3
  subst v3
  subst I3
  subst J3
  refine lv_iload hx hb dL_law_560 (lv_at hl 1 rfl) ?_
  refine lv_icmp_eq (tgt := 567) hx hb dL_law_562 (by decide) (fun hc_1 => ?_) (fun hc_1 => ?_)
  · skip
    refine lv_iload hx hb dL_law_567 (lv_at hl 1 rfl) ?_
    refine lv_if_ne (tgt := 584) hx hb dL_law_569 (by decide) (fun hc_2 => ?_) (fun hc_2 => ?_)
    · skip
      refine lv_goto (tgt := 1483) hx hb dL_law_584 (by decide) ?_
      exact K cn cw9 σ9 L1 ad1 G1 I2 J2 _ _ ls _ _ hp9 hW (lv_sub hl [2, 3, 4, 5, 6] rfl) (show cells + 6 + 0 + 0 ≤ cells + 12 by omega) (show slots + 90 + 0 + 0 ≤ slots + 120 by omega)
    · skip
      have ho := hout hc_2
      refine lv_aload_n hx hb dL_law_572 rfl (lv_at hl 5 rfl) ?_
      refine lv_iconst (v := nI 0) hx hb dL_law_573 (by decide) ?_
      refine p_lald C hW (h1.2.1 80 h80) (by decide) (k := 0) rfl (by rw [show ln 80 = 1 by decide]; omega) dL_law_574 ?_
      refine lv_iload hx hb dL_law_575 (lv_at hl 0 rfl) ?_
      refine lv_i2l (v := v2.toInt64) hx hb dL_law_577 rfl ?_
      refine l_eq (tgt := 584) hx hb dL_law_578 dL_law_579 (by decide) (fun hc_3 => ?_) (fun hc_3 => ?_)
      · skip
        refine lv_goto (tgt := 1483) hx hb dL_law_584 (by decide) ?_
        exact K cn cw9 σ9 L1 ad1 G1 I2 J2 _ _ ls _ _ hp9 hW (lv_sub hl [2, 3, 4, 5, 6] rfl) (show cells + 6 + 0 + 0 ≤ cells + 12 by omega) (show slots + 90 + 0 + 0 ≤ slots + 120 by omega)
      · skip
        exact absurd ho hc_3
  · skip
    exact absurd (hvv) hc_1
