def R_law : String := "WaveWalkLaw"
def lw_P (b : Addr) (xs : List Int32) (args : Array Value) (s : State) : Prop := args = #[.ref b] ∧ s.IntsAt b xs ∧ xs.length ≤ 3072 ∧ (Jvm.Cond.and given_1 narrow_1).before args s = true
def lw_Q (_ : Array Value) (s : State) (o : Outcome) (t : State) : Prop := o = .returned (some (.int 1)) ∧ Framed s o t [] 601024 7293034
def lw_Z (below : List Frame) (a : Array Value) (s : State) : State → Prop := fun t => ∃ o, t.status = .running ∧ Ended t below o ∧ lw_Q a s o t
/-- the law's own end, with 1 on the stack, nothing written that was there before, its room as the claim has it -/
theorem lw_ret {p : Program} {l : Launch} {e : Env} {s : State} {m : MethodId} {below : List Frame} {meth : Method} {c : Code} {b : Nat} (hx : p.tables.exec = Jvm.exec) (hb : c.code = code) (hr : meth.sig.returnType = ret) (hlocks : meth.locks = false) {pc : Nat} {H : Heap} {ls : Array Slot} (hdg : decode code pc = .ok (.ireturn, 1)) : W p l e room_1 s m #[Value.ref b] below meth c H [] 601024 7293034 (lw_Z below #[Value.ref b] s) (F0 m pc ls [.int 1]) := by
  intro T hT X
  obtain ⟨fs, hret, hrun, hended, hW, hframe⟩ := X.leave (v := some (.int 1)) (hlocks := hlocks) (fun h => by rw [hr] at h; cases h)
  have hmeth' : T.vm.method? m = some meth := X.method'
  refine ⟨T.setFrames fs, ?_, .returned (some (.int 1)), hrun, hended, rfl, ⟨_, rfl⟩, hW, hframe⟩
  jvm_step X.here [X.here.top, hx, hb, hdg, hmeth', hr, ret, narrow_b1]
  (try refine ⟨rfl, ?_⟩); (try refine ⟨rfl, ?_⟩)
  first | (intro acts; rw [hret _ acts rfl rfl rfl]) | rw [hret _ _ rfl rfl rfl]
  exact Steps.refl _
/-- what holds at the law's entry: the machine, the code, the tables' words (any of lw_tbl by 'hts w (by decide +kernel)'), the script of L ints xs at the cell b, what the Statement gives of the start (any of its parts by flat_of_before) -/
def lw_At (p : Program) (s : State) (m : MethodId) (meth : Method) (c : Code) (b L : Nat) (xs : Nat → Int32) : Prop :=
  p.tables.exec = Jvm.exec ∧ c.code = code ∧ meth.sig.returnType = ret ∧ c.maxLocals = 8 ∧ s.vm.findClass R_law = some m.cls ∧ (∀ w ∈ lw_tbl, w.before #[Value.ref b] s = true) ∧ va_X b L xs s s.heap ∧ b < s.heap.size ∧ meth.locks = false ∧ (Jvm.Cond.and given_1 narrow_1).before #[Value.ref b] s = true
set_option maxHeartbeats 1000000 in
set_option maxRecDepth 100000 in
theorem law_loop {p : Program} {l : Launch} {e : Env} {s : State} {m : MethodId} {below : List Frame} {meth : Method} {c : Code} {D : va_G} {cy : Nat → ClassId} {b Lx : Nat} {xs : Nat → Int32} (hst0 : l.stackTraces = false) (C : Cx p s m #[.ref b] c cL_law RL wsL_law D cy (fun q => s.heap.size ≤ q)) (hr : meth.sig.returnType = ret) (hlk : meth.locks = false) (hml : c.maxLocals = 8) (hg : gX (fun q => s.heap.size ≤ q) s) (hX : scr b Lx xs (fun q => s.heap.size ≤ q) s) :
    ∀ (nn i cells slots : Nat), i ≤ Lx → Lx + 7 ≤ i + nn → cells ≤ 100 + 2 * i → slots ≤ 2000 + 20 * i → ∀ (cn cw : Nat) (σ : Ab) (L : List Nat) (ad : Nat → Nat) (G : mG) (I : mI) (J : mJ), pic cn cw σ L G I J → ∀ (H : Heap) (locs : List Loc), Wd D cy (fun q => s.heap.size ≤ q) s.heap H locs L ad G I J → ∀ (ls : Array Slot), lv_has ls 8 [(0, .ref b), (1, .ref (ad 0)), (2, .ref (ad 64)), (3, .ref (ad 80)), (4, .int (nI i))] → W p l e room_1 s m #[.ref b] below meth c H locs cells slots (lw_Z below #[.ref b] s) (F0 m 23 ls []) := by
  intro nn
  induction nn with
  | zero => intros; exfalso; omega
  | succ nn ih =>
    intro i cells slots hi0 hfu hcc hcs cn cw σ L ad G I J hp H locs hW ls hl
    have hx := C.1
    have hb := C.2.1
    have hXl := hX.2.2.2
    refine lv_iload hx hb dL_law_23 (lv_at hl 4 rfl) ?_
    refine lv_aload_n hx hb dL_law_25 rfl (lv_at hl 0 rfl) ?_
    refine l_slen C hX hW dL_law_26 ?_
    refine lv_bipush (v := nI 6) hx hb dL_law_27 (by decide) ?_
    refine lv_isub hx hb dL_law_29 ?_
    refine lv_icmp_gt (tgt := 1489) hx hb dL_law_30 (by decide) (fun hc => ?_) (fun hc => ?_)
    · refine lv_iconst (v := 1) hx hb dL_law_1489 (by decide) ?_
      refine va_forget (fun q hq => hW.2.2.2.2 q hq) ?_
      refine W.widen (k := 601024) (n := 7293034) (by omega) (by omega) ?_
      exact lw_ret hx hb hr hlk dL_law_1490
    · have hi : i + 6 ≤ Lx := by
        rcases Nat.lt_or_ge Lx (i + 6) with h | h
        · exact absurd ((gt6 (by omega) hXl).mpr h) hc
        · exact h
      have K : kon p l e s m #[.ref b] below meth c (lw_Z below #[.ref b] s) D cy (fun q => s.heap.size ≤ q) b i cells slots := by
        intro cn cw σ L ad G I J H locs ls cells' slots' hp hW hl h1 h2
        refine lv_iinc (v := nI (i + 6)) (lv' := [(4, .int (nI (i + 6))), (0, .ref b), (1, .ref (ad 0)), (2, .ref (ad 64)), (3, .ref (ad 80))]) hx hb dL_law_1483 hl (k := 4) rfl (nI_inc6 _) (by decide) rfl (fun ls hl => ?_)
        refine lv_goto (tgt := 23) hx hb dL_law_1486 (by decide) ?_
        exact ih (i + 6) _ _ hi (by omega) (by omega) (by omega) cn cw σ L ad G I J hp _ _ hW ls (lv_sub hl [1, 2, 3, 4, 0] rfl)
      refine lv_aload_n hx hb dL_law_33 rfl (lv_at hl 0 rfl) ?_
      refine lv_iload hx hb dL_law_34 (lv_at hl 4 rfl) ?_
      refine l_sld C hX hW (k := i) (by omega) dL_law_36 ?_
      refine lv_bipush (v := nI 31) hx hb dL_law_37 (by decide) ?_
      refine lv_iand hx hb dL_law_39 ?_
      obtain ⟨k, hk, ek⟩ := sw31 (xs i)
      refine w_top (y := .int (nI k)) (by rw [ek]) ?_
      rcases Nat.lt_or_ge k 19 with hk19 | hk19
      · have hkk : k = 0 ∨ k = 1 ∨ k = 2 ∨ k = 3 ∨ k = 4 ∨ k = 5 ∨ k = 6 ∨ k = 7 ∨ k = 8 ∨ k = 9 ∨ k = 10 ∨ k = 11 ∨ k = 12 ∨ k = 13 ∨ k = 14 ∨ k = 15 ∨ k = 16 ∨ k = 17 ∨ k = 18 := by omega
        rcases hkk with rfl | rfl | rfl | rfl | rfl | rfl | rfl | rfl | rfl | rfl | rfl | rfl | rfl | rfl | rfl | rfl | rfl | rfl | rfl
        · refine lv_tableIn (tgt := 132) (off := 92) hx hb dL_law_40 (by decide) (by decide) (by decide) (by decide) ?_
          exact law_0 hst0 C hml hg hX i hi cn cw σ L ad G I J hp _ _ _ _ (by omega) (by omega) hW ls hl K
        · refine lv_tableIn (tgt := 169) (off := 129) hx hb dL_law_40 (by decide) (by decide) (by decide) (by decide) ?_
          exact law_1 hst0 C hml hg hX i hi cn cw σ L ad G I J hp _ _ _ _ (by omega) (by omega) hW ls hl K
        · refine lv_tableIn (tgt := 280) (off := 240) hx hb dL_law_40 (by decide) (by decide) (by decide) (by decide) ?_
          exact law_2 hst0 C hml hg hX i hi cn cw σ L ad G I J hp _ _ _ _ (by omega) (by omega) hW ls hl K
        · refine lv_tableIn (tgt := 360) (off := 320) hx hb dL_law_40 (by decide) (by decide) (by decide) (by decide) ?_
          exact law_3 hst0 C hml hg hX i hi cn cw σ L ad G I J hp _ _ _ _ (by omega) (by omega) hW ls hl K
        · refine lv_tableIn (tgt := 463) (off := 423) hx hb dL_law_40 (by decide) (by decide) (by decide) (by decide) ?_
          exact law_4 hst0 C hml hg hX i hi cn cw σ L ad G I J hp _ _ _ _ (by omega) (by omega) hW ls hl K
        · refine lv_tableIn (tgt := 531) (off := 491) hx hb dL_law_40 (by decide) (by decide) (by decide) (by decide) ?_
          exact law_5 hst0 C hml hg hX i hi cn cw σ L ad G I J hp _ _ _ _ (by omega) (by omega) hW ls hl K
        · refine lv_tableIn (tgt := 587) (off := 547) hx hb dL_law_40 (by decide) (by decide) (by decide) (by decide) ?_
          exact law_6 hst0 C hml hg hX i hi cn cw σ L ad G I J hp _ _ _ _ (by omega) (by omega) hW ls hl K
        · refine lv_tableIn (tgt := 686) (off := 646) hx hb dL_law_40 (by decide) (by decide) (by decide) (by decide) ?_
          exact law_7 hst0 C hml hg hX i hi cn cw σ L ad G I J hp _ _ _ _ (by omega) (by omega) hW ls hl K
        · refine lv_tableIn (tgt := 734) (off := 694) hx hb dL_law_40 (by decide) (by decide) (by decide) (by decide) ?_
          exact law_8 hst0 C hml hg hX i hi cn cw σ L ad G I J hp _ _ _ _ (by omega) (by omega) hW ls hl K
        · refine lv_tableIn (tgt := 802) (off := 762) hx hb dL_law_40 (by decide) (by decide) (by decide) (by decide) ?_
          exact law_9 hst0 C hml hg hX i hi cn cw σ L ad G I J hp _ _ _ _ (by omega) (by omega) hW ls hl K
        · refine lv_tableIn (tgt := 870) (off := 830) hx hb dL_law_40 (by decide) (by decide) (by decide) (by decide) ?_
          exact law_10 hst0 C hml hg hX i hi cn cw σ L ad G I J hp _ _ _ _ (by omega) (by omega) hW ls hl K
        · refine lv_tableIn (tgt := 949) (off := 909) hx hb dL_law_40 (by decide) (by decide) (by decide) (by decide) ?_
          exact law_11 hst0 C hml hg hX i hi cn cw σ L ad G I J hp _ _ _ _ (by omega) (by omega) hW ls hl K
        · refine lv_tableIn (tgt := 1016) (off := 976) hx hb dL_law_40 (by decide) (by decide) (by decide) (by decide) ?_
          exact law_12 hst0 C hml hg hX i hi cn cw σ L ad G I J hp _ _ _ _ (by omega) (by omega) hW ls hl K
        · refine lv_tableIn (tgt := 1084) (off := 1044) hx hb dL_law_40 (by decide) (by decide) (by decide) (by decide) ?_
          exact law_13 hst0 C hml hg hX i hi cn cw σ L ad G I J hp _ _ _ _ (by omega) (by omega) hW ls hl K
        · refine lv_tableIn (tgt := 1164) (off := 1124) hx hb dL_law_40 (by decide) (by decide) (by decide) (by decide) ?_
          exact law_14 hst0 C hml hg hX i hi cn cw σ L ad G I J hp _ _ _ _ (by omega) (by omega) hW ls hl K
        · refine lv_tableIn (tgt := 1232) (off := 1192) hx hb dL_law_40 (by decide) (by decide) (by decide) (by decide) ?_
          exact law_15 hst0 C hml hg hX i hi cn cw σ L ad G I J hp _ _ _ _ (by omega) (by omega) hW ls hl K
        · refine lv_tableIn (tgt := 1300) (off := 1260) hx hb dL_law_40 (by decide) (by decide) (by decide) (by decide) ?_
          exact law_16 hst0 C hml hg hX i hi cn cw σ L ad G I J hp _ _ _ _ (by omega) (by omega) hW ls hl K
        · refine lv_tableIn (tgt := 1379) (off := 1339) hx hb dL_law_40 (by decide) (by decide) (by decide) (by decide) ?_
          exact law_17 hst0 C hml hg hX i hi cn cw σ L ad G I J hp _ _ _ _ (by omega) (by omega) hW ls hl K
        · refine lv_tableIn (tgt := 1427) (off := 1387) hx hb dL_law_40 (by decide) (by decide) (by decide) (by decide) ?_
          exact law_18 hst0 C hml hg hX i hi cn cw σ L ad G I J hp _ _ _ _ (by omega) (by omega) hW ls hl K
      · refine lv_tableOut (tgt := 1483) hx hb dL_law_40 (Or.inr (by rw [nI_toInt (by omega)]; omega)) (by decide) ?_
        exact K cn cw σ L ad G I J _ _ ls _ _ hp hW hl (by omega) (by omega)
