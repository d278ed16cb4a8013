/-! THE LAW'S HELPERS: methods with an exception table -/
theorem Met.ofWH {l : Launch} {y : MethodName} {ws ws' : List Cond} {rm : Room} {Pc : Array Value → State → Prop} {Qc : Array Value → State → Outcome → State → Prop} {mc ms : Nat} {free : Addr → Prop} {cc : ByteArray} {maxL : Nat} {ret : Option FieldType} {hh : List (Nat × Nat × Nat × Nat)}
    (hy : plainName y.cls = true) (hw : ws = Cond.codeWith y cc maxL ret hh :: ws')
    (body : ∀ p e s m args below meth c s₁, BodyLoose p l y (headSpec ws rm) cc maxL ret e s m args below meth c s₁ → c.maxLocals = maxL → Pc args s →
      W p l e (headSpec ws rm).room s m args below meth c s.heap [] 0 0 (MQ below Qc args s mc ms free) (entryFrame m args maxL)) : Met l y ws rm Pc Qc mc ms free := by
  refine MetFree.of_bodyS (code := cc) (maxLocals := maxL) (ret := ret) hy ?_ ?_
  · intro args s m h hn
    obtain ⟨m9, meth, c, hn9, h1, h2, h3, h4, -, h5, h6, -⟩ := Cond.codeWith_spec (atoms_spec (ws := ws) h _ (by rw [hw]; exact List.mem_cons_self))
    cases hn.symm.trans hn9
    exact ⟨meth, c, h1, h2, h3, h4, h5, h6⟩
  · intro p e s m args below meth c s₁ B hml hP _
    have hh0 : s₁.heap = s.heap := by rw [B.state]; rfl
    obtain ⟨t, a1, o, b1, b2, b3⟩ := body p e s m args below meth c s₁ B hml hP s₁ hh0 (Stand.of_body B)
    exact ⟨t, o, a1, b1, b2, ⟨b3.1, b3.2⟩⟩
section OH
variable {l : Launch} {y : MethodName} {ws ws' : List Cond} {rm : Room} {D : va_G} {cy : Nat → ClassId} {L : List Nat} {ad : Nat → Nat} {G : mG} {I : mI} {J : mJ} {av : List Value} {cc : ByteArray} {maxL : Nat} {hh : List (Nat × Nat × Nat × Nat)}
theorem pMet.ofH0 {Qc : (Nat → Prop) → Array Value → State → Outcome → State → Prop} (hy : plainName y.cls = true) (hw : ws = Cond.codeWith y cc maxL (some .int) hh :: ws') (hav : (lg_sl av).length ≤ maxL)
    (body : ∀ (p : Program) (e : Env) (s : State) (m : MethodId) (below : List Frame) (meth : Method) (c : Code) (A : Nat → Prop), Cx p s m av.toArray c cc y.cls ws D cy A → c.maxLocals = maxL → meth.sig.returnType = some .int → meth.locks = false → c.exceptionTable.toList = tableOf hh → gX A s → Wd D cy A s.heap s.heap [] L ad G I J →
      ∀ ls, lv_has ls maxL (lv_args 0 av) → W p l e rm s m av.toArray below meth c s.heap [] 0 0 (MQ below (Qc A) av.toArray s rm.cells rm.slots A) (F0 m 0 ls [])) : pMet l y ws rm D cy L ad G I J av Qc := by
  intro sz
  refine Met.ofWH (cc := cc) (maxL := maxL) (ret := some .int) hy hw ?_
  intro p e s m args below meth c s₁ B hml hv
  obtain ⟨rfl, hsz, hP, hK, hD0, hg⟩ := hv
  have hts := atoms_spec (ws := ws) B.pre
  have hown : s.vm.findClass y.cls = some m.cls := findClass_of_methodNamed B.named
  have htab := vx_table (x := y) B (hts _ (by rw [hw]; exact List.mem_cons_self))
  subst hsz
  have hD := pW_self (sz := s.heap.size) hD0
  have hl := lv_entry av (n := maxL) hav
  rw [lg_entry_eq]
  exact body p e s m below meth c _ ⟨B.exec, B.bytes, hown, hts, hK, fun q h => Or.inr h⟩ hml B.returns B.notSynchronized htab hg ⟨hP, hD, va_S.rf⟩ _ hl
theorem pMet.ofH {post : Int32 → mI → mJ → Prop} (hy : plainName y.cls = true) (hw : ws = Cond.codeWith y cc maxL (some .int) hh :: ws') (hav : (lg_sl av).length ≤ maxL)
    (body : ∀ (p : Program) (e : Env) (R : Room) (s : State) (m : MethodId) (args : Array Value) (below : List Frame) (meth : Method) (c : Code) (A : Nat → Prop) (Q : State → Prop), Cx p s m args c cc y.cls ws D cy A → c.maxLocals = maxL → rm = R → c.exceptionTable.toList = tableOf hh → gX A s → (∀ (v : Int32) (I' : mI) (J' : mJ) (H : Heap) (locs : List Loc) (cells slots : Nat) (ls : Array Slot) (pc : Nat), cells ≤ rm.cells → slots ≤ rm.slots → Wd D cy A s.heap H locs L ad G I' J' → post v I' J' → decode cc pc = .ok (.ireturn, 1) → W p l e R s m args below meth c H locs cells slots Q (F0 m pc ls [.int v])) → Wd D cy A s.heap s.heap [] L ad G I J →
      ∀ ls, lv_has ls maxL (lv_args 0 av) → W p l e R s m args below meth c s.heap [] 0 0 Q (F0 m 0 ls [])) : pMet l y ws rm D cy L ad G I J av (qI post D cy L ad G) := by
  refine pMet.ofH0 hy hw hav ?_
  intro p e s m below meth c A C hml hr hlk htab hg hW ls hl
  exact body p e _ s m _ below meth c A _ C hml rfl htab hg (fun v I' J' H locs cells slots ls pc hc hs hW hp hdg => p_iret C hr hlk hW hc hs hp hdg) hW ls hl
theorem pMet.ofHN {post : Int32 → nPost} (hy : plainName y.cls = true) (hw : ws = Cond.codeWith y cc maxL (some .int) hh :: ws') (hav : (lg_sl av).length ≤ maxL)
    (body : ∀ (p : Program) (e : Env) (R : Room) (s : State) (m : MethodId) (args : Array Value) (below : List Frame) (meth : Method) (c : Code) (A : Nat → Prop) (Q : State → Prop), Cx p s m args c cc y.cls ws D cy A → c.maxLocals = maxL → rm = R → c.exceptionTable.toList = tableOf hh → gX A s → (∀ (v : Int32) (L' : List Nat) (ad' : Nat → Nat) (G' : mG) (I' : mI) (J' : mJ) (H : Heap) (locs : List Loc) (cells slots : Nat) (ls : Array Slot) (pc : Nat), cells ≤ rm.cells → slots ≤ rm.slots → Wd D cy A s.heap H locs L' ad' G' I' J' → post v L' ad' G' I' J' → decode cc pc = .ok (.ireturn, 1) → W p l e R s m args below meth c H locs cells slots Q (F0 m pc ls [.int v])) → Wd D cy A s.heap s.heap [] L ad G I J →
      ∀ ls, lv_has ls maxL (lv_args 0 av) → W p l e R s m args below meth c s.heap [] 0 0 Q (F0 m 0 ls [])) : pMet l y ws rm D cy L ad G I J av (qNI post D cy) := by
  refine pMet.ofH0 hy hw hav ?_
  intro p e s m below meth c A C hml hr hlk htab hg hW ls hl
  exact body p e _ s m _ below meth c A _ C hml rfl htab hg (fun v L' ad' G' I' J' H locs cells slots ls pc hc hs hW hp hdg => p_iretN C hr hlk hW hc hs hp hdg) hW ls hl
end OH
section XN
variable {p : Program} {l : Launch} {e : Env} {R : Room} {s : State} {m : MethodId} {args : Array Value} {below : List Frame} {meth : Method} {c : Code} {H : Heap} {locs : List Loc} {cells slots mc ms nL : Nat} {Q : State → Prop}
variable {cc : ByteArray} {pc : Nat} {ls : Array Slot} {own : String} {Ts : List Cond} {D : va_G} {cy : Nat → ClassId} {A : Nat → Prop} {L : List Nat} {ad : Nat → Nat} {G : mG} {I I0 : mI} {J J0 : mJ}
variable {y : MethodName} {ws ws' : List Cond} {rm : Room} {bytes : ByteArray} {maxL n index : Nat} {ret : Option FieldType} {Cn : String} {As rest st0 : List Value} {r : Nat} {hh : List (Nat × Nat × Nat × Nat)}
theorem p_xVn {post : Int32 → nPost} {px : String → Prop} (C : Cx p s m args c cc own Ts D cy A) (hml : c.maxLocals = nL) (hg : gX A s) (hW : Wd D cy A s.heap H locs L ad G I J) (hM : pXet l y ws rm D cy L ad G I J (.ref (ad r) :: As) (qNI post D cy) px) (cw : CallW R s args own Cn index y bytes maxL ret ws rm rm.cells rm.slots n)
    (hrc : ∃ cell : Cell, H[ad r]? = some cell ∧ cell.vm.isStatics = false ∧ s.vm.findClass Cn = some cell.cls) (hn : As.length = n) (hsz : ls.size = nL) (hst : st0 = As.reverse ++ .ref (ad r) :: rest) (hroom : (rest.map fun v => v.category).sum ≤ 8) (hdg : decode cc pc = .ok (.invokevirtual index, 3)) (hcc : cells + rm.cells ≤ R.cells) (hcs : slots + rm.slots ≤ R.slots)
    (thr : ∀ (E : String) (ce : Cell) (q : Addr) (H : Heap) (locs : List Loc), Wd D cy A s.heap H locs L ad G I J → px E → H[q]? = some ce → ce.vm = .none → s.vm.findClass E = some ce.cls → vx_W p l e R s m args below meth c H locs (cells + rm.cells) (slots + rm.slots) Q (F0 m pc ls rest) q)
    (kk : ∀ (v : Int32) (L' : List Nat) (ad' : Nat → Nat) (G' : mG) (I' : mI) (J' : mJ) (H : Heap) (locs : List Loc), post v L' ad' G' I' J' → Wd D cy A s.heap H locs L' ad' G' I' J' → W p l e R s m args below meth c H locs (cells + rm.cells) (slots + rm.slots) Q (F0 m (pc + 3) ls (.int v :: rest))) : W p l e R s m args below meth c H locs cells slots Q (F0 m pc ls st0) :=
  vx_calli (vx_runV (g := F0 m pc ls st0) (rest := rest) (cFix C hml) (hM H.size) cw ⟨pPre.blind, hrc, p_pre C hg hW⟩ rfl hn hsz hst (lv_room (ls := ls) (pc := pc) (m := m) (rest := st0) hroom) hdg ⟨hcc, hcs⟩) hW.2.2 (fun q _ h => pW_A hW.2.1 hW.2.2 C.2.2.2.2.2 q h) (pW_A hW.2.1 hW.2.2 C.2.2.2.2.2) (fun q _ h => pW_A hW.2.1 hW.2.2 C.2.2.2.2.2 q h)
    (fun E ce q9 u t H1 locs1 ht hvm hpu hB hz hk1 hS h1 h2 h3 => by
      subst hpu
      exact thr E ce q9 H1 locs1 (p_back C hW ht hB.2 hS) hB.1 h1 h2 h3)
    (fun v u t H1 locs1 ht hvm hw hB hz1 hk1 hS => kk v u.1 u.2.1 u.2.2.1 u.2.2.2.1 u.2.2.2.2 H1 locs1 hw (p_backN C hW ht hB hS))
/-- calls of the helpers (a table of handlers), and of net -/
theorem p_cHi {post : Int32 → mI → mJ → Prop} (C : Cx p s m args c cc own Ts D cy A) (hml : c.maxLocals = nL) (hg : gX A s) (hW : Wd D cy A s.heap H locs L ad G I J) (hM : pMet l y ws rm D cy L ad G I J As (qI post D cy L ad G)) (cw : vx_CSW R s args own index y bytes maxL ret hh ws rm rm.cells rm.slots n)
    (hn : As.length = n) (hsz : ls.size = nL) (hst : st0 = As.reverse ++ rest) (hroom : (rest.map fun v => v.category).sum ≤ 8) (hdg : decode cc pc = .ok (.invokestatic index, 3)) (hcc : cells + rm.cells ≤ R.cells) (hcs : slots + rm.slots ≤ R.slots)
    (kk : ∀ (v : Int32) (I' : mI) (J' : mJ) (H : Heap) (locs : List Loc), post v I' J' → Wd D cy A s.heap H locs L ad G I' J' → W p l e R s m args below meth c H locs (cells + rm.cells) (slots + rm.slots) Q (F0 m (pc + 3) ls (.int v :: rest))) : W p l e R s m args below meth c H locs cells slots Q (F0 m pc ls st0) :=
  va_calli (vx_runSW (g := F0 m pc ls st0) (rest := rest) (cFix C hml) (hM H.size) cw ⟨pPre.blind, p_pre C hg hW⟩ rfl hn hsz hst (lv_room (ls := ls) (pc := pc) (m := m) (rest := st0) hroom) hdg ⟨hcc, hcs⟩) hW.2.2 (fun q _ h => pW_A hW.2.1 hW.2.2 C.2.2.2.2.2 q h) (pW_A hW.2.1 hW.2.2 C.2.2.2.2.2)
    (fun v u t H1 locs1 ht hvm hw hB hz1 hk1 hS => kk v u.1 u.2 H1 locs1 hw (p_back C hW ht hB hS))
theorem p_cHn {post : Int32 → nPost} (C : Cx p s m args c cc own Ts D cy A) (hml : c.maxLocals = nL) (hg : gX A s) (hW : Wd D cy A s.heap H locs L ad G I J) (hM : pMet l y ws rm D cy L ad G I J As (qNI post D cy)) (cw : vx_CSW R s args own index y bytes maxL ret hh ws rm rm.cells rm.slots n)
    (hn : As.length = n) (hsz : ls.size = nL) (hst : st0 = As.reverse ++ rest) (hroom : (rest.map fun v => v.category).sum ≤ 8) (hdg : decode cc pc = .ok (.invokestatic index, 3)) (hcc : cells + rm.cells ≤ R.cells) (hcs : slots + rm.slots ≤ R.slots)
    (kk : ∀ (v : Int32) (L' : List Nat) (ad' : Nat → Nat) (G' : mG) (I' : mI) (J' : mJ) (H : Heap) (locs : List Loc), post v L' ad' G' I' J' → Wd D cy A s.heap H locs L' ad' G' I' J' → W p l e R s m args below meth c H locs (cells + rm.cells) (slots + rm.slots) Q (F0 m (pc + 3) ls (.int v :: rest))) : W p l e R s m args below meth c H locs cells slots Q (F0 m pc ls st0) :=
  va_calli (vx_runSW (g := F0 m pc ls st0) (rest := rest) (cFix C hml) (hM H.size) cw ⟨pPre.blind, p_pre C hg hW⟩ rfl hn hsz hst (lv_room (ls := ls) (pc := pc) (m := m) (rest := st0) hroom) hdg ⟨hcc, hcs⟩) hW.2.2 (fun q _ h => pW_A hW.2.1 hW.2.2 C.2.2.2.2.2 q h) (pW_A hW.2.1 hW.2.2 C.2.2.2.2.2)
    (fun v u t H1 locs1 ht hvm hw hB hz1 hk1 hS => kk v u.1 u.2.1 u.2.2.1 u.2.2.2.1 u.2.2.2.2 H1 locs1 hw (p_backN C hW ht hB hS))
theorem p_cVn {post : Int32 → nPost} (C : Cx p s m args c cc own Ts D cy A) (hml : c.maxLocals = nL) (hg : gX A s) (hW : Wd D cy A s.heap H locs L ad G I J) (hM : pMet l y ws rm D cy L ad G I J (.ref (ad r) :: As) (qNI post D cy)) (cw : CallW R s args own Cn index y bytes maxL ret ws rm rm.cells rm.slots n)
    (hrc : ∃ cell : Cell, H[ad r]? = some cell ∧ cell.vm.isStatics = false ∧ s.vm.findClass Cn = some cell.cls) (hn : As.length = n) (hsz : ls.size = nL) (hst : st0 = As.reverse ++ .ref (ad r) :: rest) (hroom : (rest.map fun v => v.category).sum ≤ 8) (hdg : decode cc pc = .ok (.invokevirtual index, 3)) (hcc : cells + rm.cells ≤ R.cells) (hcs : slots + rm.slots ≤ R.slots)
    (kk : ∀ (v : Int32) (L' : List Nat) (ad' : Nat → Nat) (G' : mG) (I' : mI) (J' : mJ) (H : Heap) (locs : List Loc), post v L' ad' G' I' J' → Wd D cy A s.heap H locs L' ad' G' I' J' → W p l e R s m args below meth c H locs (cells + rm.cells) (slots + rm.slots) Q (F0 m (pc + 3) ls (.int v :: rest))) : W p l e R s m args below meth c H locs cells slots Q (F0 m pc ls st0) :=
  va_calli (va_runV (g := F0 m pc ls st0) (rest := rest) (cFix C hml) (hM H.size) cw ⟨pPre.blind, hrc, p_pre C hg hW⟩ rfl hn hsz hst (lv_room (ls := ls) (pc := pc) (m := m) (rest := st0) hroom) hdg ⟨hcc, hcs⟩) hW.2.2 (fun q _ h => pW_A hW.2.1 hW.2.2 C.2.2.2.2.2 q h) (pW_A hW.2.1 hW.2.2 C.2.2.2.2.2)
    (fun v u t H1 locs1 ht hvm hw hB hz1 hk1 hS => kk v u.1 u.2.1 u.2.2.1 u.2.2.2.1 u.2.2.2.2 H1 locs1 hw (p_backN C hW ht hB hS))
/-- what the helpers catch -/
theorem p_catN (C : Cx p s m args c cc RL Ts D cy A) (hg : gX A s) (htab : c.exceptionTable.toList = tableOf hh) {a z h : Nat} {suf : List (Nat × Nat × Nat × Nat)} (hhe : hh = (a, z, h, 13) :: suf) (hcl : (Cond.classLink RL 13 "java/util/NoSuchElementException").before args s = true) (hin : a ≤ pc ∧ pc < z) {ce : Cell} {q : Addr} (h1 : H[q]? = some ce) (h2 : ce.vm = .none) (h3 : s.vm.findClass na_N = some ce.cls)
    (kk : W p l e R s m args below meth c H locs cells slots Q (F0 m h ls [.ref q])) : vx_W p l e R s m args below meth c H locs cells slots Q (F0 m pc ls rest) q := by
  subst hhe
  refine vx_catch (name := "java/util/NoSuchElementException") C.2.2.1 [] ⟨a, z, h, 13⟩ (tableOf suf) (htab.trans rfl) (fun _ h => by cases h) ?_ (by show (13 : Nat) ≠ 0; decide) hcl (va_Nw.use rfl hg.1.2.2.2.2.2.2.2.1) h1 h2 h3 kk
  simp [covers, hin.1, hin.2]
theorem p_catI (C : Cx p s m args c cc RL Ts D cy A) (hg : gX A s) (htab : c.exceptionTable.toList = tableOf hh) {a z h a2 z2 h2' : Nat} {suf : List (Nat × Nat × Nat × Nat)} (hhe : hh = (a, z, h, 13) :: (a2, z2, h2', 35) :: suf) (hcl : (Cond.classLink RL 13 "java/util/NoSuchElementException").before args s = true) (hcl2 : (Cond.classLink RL 35 "java/lang/IllegalArgumentException").before args s = true) (hin : a2 ≤ pc ∧ pc < z2) {ce : Cell} {q : Addr} (h1 : H[q]? = some ce) (h2 : ce.vm = .none) (h3 : s.vm.findClass ia_N = some ce.cls)
    (kk : W p l e R s m args below meth c H locs cells slots Q (F0 m h2' ls [.ref q])) : vx_W p l e R s m args below meth c H locs cells slots Q (F0 m pc ls rest) q := by
  subst hhe
  refine vx_catch (name := "java/lang/IllegalArgumentException") C.2.2.1 [⟨a, z, h, 13⟩] ⟨a2, z2, h2', 35⟩ (tableOf suf) (htab.trans rfl) (fun x hx => ?_) ?_ (by show (35 : Nat) ≠ 0; decide) hcl2 (va_Nw.use rfl hg.1.2.2.2.2.2.2.2.2.1) h1 h2 h3 kk
  · rw [List.mem_singleton.mp hx]
    exact Or.inr ⟨by show (13 : Nat) ≠ 0; decide, _, hcl, hg.1.2.2.2.2.2.2.2.2.2.2.2.1⟩
  · simp [covers, hin.1, hin.2]
end XN
/-- behind a helper: the code, the answer in out[0], the state -/
def hst (sp : Sp) (v : Int32) (cn cw : Nat) (I I' : mI) (J J' : mJ) : Prop := v = nI sp.1 ∧ (sp.1 = 0 → J' 80 0 = sp.2.1) ∧ cDt cn cw sp.2.2 I' J' ∧ ∀ r, 62 ≤ r → I' r = I r ∧ (r ≠ 80 → J' r = J r)
theorem hst.bad {sp : Sp} {σ : Ab} {cn cw : Nat} {I : mI} {J : mJ} {k : Nat} (hk : sp.1 = k) (h0 : k ≠ 0) (hs : sp.1 ≠ 0 → sp.2.2 = σ) (hD : cDt cn cw σ I J) : hst sp (nI k) cn cw I I J J := by
  refine ⟨by rw [hk], fun z => absurd (hk.symm.trans z) h0, ?_, fun r _ => ⟨rfl, fun _ => rfl⟩⟩
  rw [hs (by rw [hk]; exact h0)]; exact hD
theorem hst.good {sp : Sp} {cn cw : Nat} {I I1 : mI} {J J1 : mJ} {v x : Int64} (h6 : cn ≤ 6) (h12 : cw ≤ 12) (h : pst sp v cn cw I I1 J J1) (hx : sp.2.1 = x) : hst sp (nI 0) cn cw I I1 J (va_up J1 80 (vp_updL (J1 80) 0 x)) := by
  obtain ⟨a, b, c, d⟩ := h
  refine ⟨by rw [a], fun _ => ?_, ?_, fun r hr => ⟨(d r hr).1, fun hne => ?_⟩⟩
  · rw [va_up_self, hx]; rfl
  · exact c.keep rfl (fun _ _ _ => rfl) (fun r h1 h2 => va_up_ne _ _ (by omega)) h6 h12
  · rw [va_up_ne _ _ hne]; exact (d r hr).2
theorem hst.void {sp : Sp} {cn cw : Nat} {I I1 : mI} {J J1 : mJ} (h : pst sp 0 cn cw I I1 J J1) (hv : sp.1 = 0 → J 80 0 = sp.2.1 ∨ True) : nI 0 = nI sp.1 ∧ cDt cn cw sp.2.2 I1 J1 ∧ ∀ r, 62 ≤ r → I1 r = I r ∧ J1 r = J r := ⟨by rw [h.1], h.2.2.1, h.2.2.2⟩
