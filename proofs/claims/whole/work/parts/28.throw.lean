/-! throws, and calls of methods that may throw -/
section VR
variable {p : Program} {l : Launch} {e : Env} {R : Room} {s : State} {m : MethodId} {args : Array Value} {below : List Frame} {meth : Method} {c : Code} {H : Heap} {locs : List Loc} {cells slots : Nat} {Q : State → Prop}
variable {mc ms : Nat} {free : Addr → Prop} {A0 A1 : Nat → Prop} {H0 : Heap} {a : Array Value} {pc : Nat} {ls : Array Slot} {st0 rest : List Value}
theorem vx_callr {S SX : Type} {post : S → Prop} {px : SX → Prop} {B : S → Nat → State → Prop} {BX : String → SX → State → Prop} {AX : Nat → Prop} (hr : vx_Run p l e R s m args below meth c H locs cells slots mc ms (F0 m pc ls st0) rest (va_Qr post B A1 a) (vx_X px BX AX) free) (hS : va_S A0 H0 H locs) (hA : ∀ q, q < H.size → A1 q → A0 q) (hf : ∀ q, free q → A0 q) (hAX : ∀ q, q < H.size → AX q → A0 q)
    (kx : ∀ (E : String) (ce : Cell) (q9 : Addr) (u : SX) (t : State) (H1 : Heap) (locs1 : List Loc), t.heap = H1 → s.vm.Alike t.vm → px u → BX E u t → H.size ≤ H1.size → (∀ q : Nat, q < H.size → ¬ AX q → H1[q]? = H[q]?) → va_S A0 H0 H1 locs1 → H1[q9]? = some ce → ce.vm = .none → s.vm.findClass E = some ce.cls → vx_W p l e R s m args below meth c H1 locs1 (cells + mc) (slots + ms) Q (F0 m pc ls rest) q9)
    (kk : ∀ (u : S) (ra : Nat) (t : State) (H1 : Heap) (locs1 : List Loc), t.heap = H1 → s.vm.Alike t.vm → post u → B u ra t → H.size ≤ H1.size → (∀ q : Nat, q < H.size → ¬ A1 q → H1[q]? = H[q]?) → va_S A0 H0 H1 locs1 → W p l e R s m args below meth c H1 locs1 (cells + mc) (slots + ms) Q (F0 m (pc + 3) ls (.ref ra :: rest))) : W p l e R s m args below meth c H locs cells slots Q (F0 m pc ls st0) := by
  intro T hT X
  rcases hr T hT X with ⟨v, st₀, t, T', L, h0, X', hL, e1, e2, ⟨⟨u, ra, hv, hp, hb⟩, hF⟩, st⟩ | ⟨q, st₀, t, T', L, E, ce, h0, X', hL, e1, e2, ⟨u, hp, hb, hF⟩, hce, hcv, hcl, st⟩
  · cases hv
    obtain ⟨k1, k2, k3⟩ := vx_keep h0 e1 hS hA hf hL hF
    obtain ⟨t2, a1, b1⟩ := kk u ra t T'.heap (locs ++ L) e1.symm (by rw [← e2]; exact X'.warmed.alike) hp hb k1 k2 k3 T' rfl X'
    exact ⟨t2, st t2 a1, b1⟩
  · obtain ⟨k1, k2, k3⟩ := vx_keep h0 e1 hS hAX hf hL hF
    obtain ⟨t2, a1, b1⟩ := kx E ce q u t T'.heap (locs ++ L) e1.symm (by rw [← e2]; exact X'.warmed.alike) hp hb k1 k2 k3 (by rw [e1]; exact hce) hcv hcl T' rfl X'
    exact ⟨t2, st.trans a1, b1⟩
end VR
section TH
variable {p : Program} {l : Launch} {e : Env} {R : Room} {s : State} {m : MethodId} {args : Array Value} {below : List Frame} {meth : Method} {c : Code} {H : Heap} {locs : List Loc} {cells slots mc ms nL : Nat} {Q : State → Prop}
variable {cc : ByteArray} {pc : Nat} {ls : Array Slot} {own : String} {Ts : List Cond} {D : va_G} {cy : Nat → ClassId} {A : Nat → Prop} {L : List Nat} {ad : Nat → Nat} {G : mG} {I : mI} {J : mJ}
variable {y : MethodName} {ws ws' : List Cond} {rm : Room} {bytes : ByteArray} {maxL n index : Nat} {ret : Option FieldType} {Cn : String} {As rest st0 : List Value} {r : Nat}
theorem p_alen (C : Cx p s m args c cc own Ts D cy A) (hW : Wd D cy A s.heap H locs L ad G I J) (hr : r ∈ L) (hk : kd r = 9 ∨ kd r = 10) (hdg : decode cc pc = .ok (.arraylength, 1))
    (kk : W p l e R s m args below meth c H locs cells slots Q (F0 m (pc + 1) ls (.int (nI (ln r)) :: rest))) : W p l e R s m args below meth c H locs cells slots Q (F0 m pc ls (.ref (ad r) :: rest)) := by
  obtain ⟨hx, hb, hown, hts, hK, hA⟩ := C
  obtain ⟨q, hq, hq2⟩ := pQ_get (ad := ad) (F := pF cy ad G I J) hr
  rcases hk with hk | hk
  · rw [pF_9 hk] at hq2
    exact va_alen hx hb hK hW.1 q 3 hq2 rfl rfl hdg kk
  · rw [pF_10 hk] at hq2
    exact va_alen hx hb hK hW.1 q 4 hq2 rfl rfl hdg kk
theorem na_good : ∀ w ∈ Cond.classLink RX4 141 na_N :: Cond.initialized na_N :: na_at RX4 145, vx_ot w = true := by decide +kernel
theorem na_bad : ∀ w ∈ (na_at RX4 145).filter (fun w => !goodWord w), w ∈ [Cond.declares (Bundle.initS "java/lang/RuntimeException"), Cond.declares (Bundle.initS "java/lang/Exception"), Cond.declares (Bundle.initS Bundle.tN), Cond.castable na_N na_N] := by decide +kernel
def ia_N : String := "java/lang/IllegalArgumentException"
abbrev ia_at : List Cond := vx_atS RX4 181 "java/lang/IllegalArgumentException" ["java/lang/RuntimeException", "java/lang/Exception"]
theorem ia_good : ∀ w ∈ Cond.classLink RX4 177 "java/lang/IllegalArgumentException" :: Cond.initialized "java/lang/IllegalArgumentException" :: ia_at, vx_ot w = true := by decide +kernel
theorem ia_bad : ∀ w ∈ ia_at.filter (fun w => !goodWord w), w ∈ [Cond.declares (Bundle.initS "java/lang/RuntimeException"), Cond.declares (Bundle.initS "java/lang/Exception"), Cond.declares (Bundle.initS Bundle.tN), Cond.castable "java/lang/IllegalArgumentException" "java/lang/IllegalArgumentException"] := by decide +kernel
theorem p_xB (C : Cx p s m args c cc own Ts D cy A) (hW : Wd D cy A s.heap H locs L ad G I J) {px : String → Prop} {E : String} (hpx : px E) {t : State} (hvm : s.vm.Alike t.vm) (hz : H.size ≤ t.heap.size) (hk : ∀ q : Nat, q < H.size → t.heap[q]? = H[q]?) : qX px D cy L ad G I J A E s t := by
  refine ⟨(I, J), rfl, ⟨hpx, hW.1.kept (fun k q h => hk q.1 (hW.1 k q h).lt), va_K.moved hvm C.2.2.2.2.1, hW.2.1⟩, Nat.le_trans hW.2.2.1 hz, fun q h1 h2 => ?_⟩
  rw [hk q (Nat.lt_of_lt_of_le h1 hW.2.2.1)]
  exact hW.2.2.2.1 q h1 h2
theorem p_thrN {Qc : Array Value → State → Outcome → State → Prop} {px : String → Prop} {text : String} {is : Nat} (C : Cx p s m args c cc RX4 Ts D cy A) (hst : l.stackTraces = false) (hg : gX A s) (hTs : ∀ w ∈ (na_at RX4 145).filter goodWord, w ∈ Ts) (hk : Cond.classLink RX4 141 na_N ∈ Ts) (hini : Cond.initialized na_N ∈ Ts) (hstr : ∃ a, vk_R RX4 is text a s) (hW : Wd D cy A s.heap H locs L ad G I J) (hsize : ls.size = c.maxLocals)
    (d0 : decode cc pc = .ok (.new 141, 3)) (d3 : decode cc (pc + 3) = .ok (.dup, 1)) (d4 : decode cc (pc + 4) = .ok (.ldc is, 2)) (d6 : decode cc (pc + 6) = .ok (.invokespecial 145, 3)) (d9 : decode cc (pc + 9) = .ok (.athrow, 1))
    (hnx : ∀ x ∈ c.exceptionTable.toList, False) (hRf : 5 < R.frames) (hRl : (rest.map fun v => v.category).sum + 82 ≤ R.locals) (hRc : cells + 1 ≤ R.cells) (hRs : slots + 6 ≤ R.slots) (hlk : meth.locks = false) (hpx : px na_N) (hc : cells + 1 ≤ mc) (hs : slots + 6 ≤ ms) :
    W p l e R s m args below meth c H locs cells slots (vx_MQ below Qc (qX px D cy L ad G I J A) args s mc ms A) (F0 m pc ls rest) := by
  obtain ⟨sa, hstr⟩ := hstr
  have hts := C.2.2.2.1
  exact na_throwS C.1 C.2.1 hst C.2.2.1 (hts _ hk) (hts _ hini) hstr
    (vx_hat (fun w hw => hts w (hTs w hw)) na_bad (vx_c (va_Nw.use rfl hg.1.2.2.2.2.1) (vx_c (va_Nw.use rfl hg.1.2.2.2.2.2.1) (vx_c (va_Nw.use rfl hg.1.2.2.2.2.2.2.1) (vx_c (va_Nw.use rfl hg.1.2.2.2.2.2.2.2.1) vx_n))))) na_good hg.2.1 hg.2.2 hW.2.2 hsize d0 d3 d4 d6 d9 (fun x h => (hnx x h).elim) hRf hRl hRc hRs hlk
    (fun t hvm hz hkk => p_xB C hW hpx hvm hz hkk) hW.2.2.2.2 hc hs
theorem p_thrI {Qc : Array Value → State → Outcome → State → Prop} {px : String → Prop} {text : String} {is : Nat} (C : Cx p s m args c cc RX4 Ts D cy A) (hst : l.stackTraces = false) (hg : gX A s) (hTs : ∀ w ∈ (ia_at).filter goodWord, w ∈ Ts) (hk : Cond.classLink RX4 177 "java/lang/IllegalArgumentException" ∈ Ts) (hini : Cond.initialized "java/lang/IllegalArgumentException" ∈ Ts) (hstr : ∃ a, vk_R RX4 is text a s) (hW : Wd D cy A s.heap H locs L ad G I J) (hsize : ls.size = c.maxLocals)
    (d0 : decode cc pc = .ok (.new 177, 3)) (d3 : decode cc (pc + 3) = .ok (.dup, 1)) (d4 : decode cc (pc + 4) = .ok (.ldc is, 2)) (d6 : decode cc (pc + 6) = .ok (.invokespecial 181, 3)) (d9 : decode cc (pc + 9) = .ok (.athrow, 1))
    (hnx : ∀ x ∈ c.exceptionTable.toList, False) (hRf : 5 < R.frames) (hRl : (rest.map fun v => v.category).sum + 82 ≤ R.locals) (hRc : cells + 1 ≤ R.cells) (hRs : slots + 6 ≤ R.slots) (hlk : meth.locks = false) (hpx : px "java/lang/IllegalArgumentException") (hc : cells + 1 ≤ mc) (hs : slots + 6 ≤ ms) :
    W p l e R s m args below meth c H locs cells slots (vx_MQ below Qc (qX px D cy L ad G I J A) args s mc ms A) (F0 m pc ls rest) := by
  obtain ⟨sa, hstr⟩ := hstr
  have hts := C.2.2.2.1
  exact vx_throwS C.1 C.2.1 hst (names := ["java/lang/RuntimeException", "java/lang/Exception"]) C.2.2.1 (by decide +kernel) (by decide +kernel) (hts _ hk) (hts _ hini) hstr
    (vx_hat (fun w hw => hts w (hTs w hw)) ia_bad (vx_c (va_Nw.use rfl hg.1.2.2.2.2.1) (vx_c (va_Nw.use rfl hg.1.2.2.2.2.2.1) (vx_c (va_Nw.use rfl hg.1.2.2.2.2.2.2.1) (vx_c (va_Nw.use rfl hg.1.2.2.2.2.2.2.2.2.1) vx_n))))) ia_good hg.2.1 hg.2.2 hW.2.2 hsize d0 d3 d4 d6 d9 (fun x h => (hnx x h).elim) hRf hRl hRc hRs hlk
    (fun t hvm hz hkk => p_xB C hW hpx hvm hz hkk) hW.2.2.2.2 hc hs
theorem p_xVi {post : Int32 → mI → mJ → Prop} {px : String → Prop} (C : Cx p s m args c cc own Ts D cy A) (hml : c.maxLocals = nL) (hg : gX A s) (hW : Wd D cy A s.heap H locs L ad G I J) (hM : pXet l y ws rm D cy L ad G I J (.ref (ad r) :: As) (qI post D cy L ad G) px) (cw : CallW R s args own Cn index y bytes maxL ret ws rm rm.cells rm.slots n)
    (hrc : ∃ cell : Cell, H[ad r]? = some cell ∧ cell.vm.isStatics = false ∧ s.vm.findClass Cn = some cell.cls) (hn : As.length = n) (hsz : ls.size = nL) (hst : st0 = As.reverse ++ .ref (ad r) :: rest) (hroom : (rest.map fun v => v.category).sum ≤ 8) (hdg : decode cc pc = .ok (.invokevirtual index, 3)) (hcc : cells + rm.cells ≤ R.cells) (hcs : slots + rm.slots ≤ R.slots)
    (thr : ∀ (E : String) (ce : Cell) (q : Addr) (H : Heap) (locs : List Loc), Wd D cy A s.heap H locs L ad G I J → px E → H[q]? = some ce → ce.vm = .none → s.vm.findClass E = some ce.cls → vx_W p l e R s m args below meth c H locs (cells + rm.cells) (slots + rm.slots) Q (F0 m pc ls rest) q)
    (kk : ∀ (v : Int32) (I' : mI) (J' : mJ) (H : Heap) (locs : List Loc), post v I' J' → Wd D cy A s.heap H locs L ad G I' J' → W p l e R s m args below meth c H locs (cells + rm.cells) (slots + rm.slots) Q (F0 m (pc + 3) ls (.int v :: rest))) : W p l e R s m args below meth c H locs cells slots Q (F0 m pc ls st0) :=
  vx_calli (vx_runV (g := F0 m pc ls st0) (rest := rest) (cFix C hml) (hM H.size) cw ⟨pPre.blind, hrc, p_pre C hg hW⟩ rfl hn hsz hst (lv_room (ls := ls) (pc := pc) (m := m) (rest := st0) hroom) hdg ⟨hcc, hcs⟩) hW.2.2 (fun q _ h => pW_A hW.2.1 hW.2.2 C.2.2.2.2.2 q h) (pW_A hW.2.1 hW.2.2 C.2.2.2.2.2) (fun q _ h => pW_A hW.2.1 hW.2.2 C.2.2.2.2.2 q h)
    (fun E ce q9 u t H1 locs1 ht hvm hpu hB hz hk1 hS h1 h2 h3 => by
      subst hpu
      exact thr E ce q9 H1 locs1 (p_back C hW ht hB.2 hS) hB.1 h1 h2 h3)
    (fun v u t H1 locs1 ht hvm hw hB hz1 hk1 hS => kk v u.1 u.2 H1 locs1 hw (p_back C hW ht hB hS))
theorem p_xVl {post : Int64 → mI → mJ → Prop} {px : String → Prop} (C : Cx p s m args c cc own Ts D cy A) (hml : c.maxLocals = nL) (hg : gX A s) (hW : Wd D cy A s.heap H locs L ad G I J) (hM : pXet l y ws rm D cy L ad G I J (.ref (ad r) :: As) (qL post D cy L ad G) px) (cw : CallW R s args own Cn index y bytes maxL ret ws rm rm.cells rm.slots n)
    (hrc : ∃ cell : Cell, H[ad r]? = some cell ∧ cell.vm.isStatics = false ∧ s.vm.findClass Cn = some cell.cls) (hn : As.length = n) (hsz : ls.size = nL) (hst : st0 = As.reverse ++ .ref (ad r) :: rest) (hroom : (rest.map fun v => v.category).sum ≤ 8) (hdg : decode cc pc = .ok (.invokevirtual index, 3)) (hcc : cells + rm.cells ≤ R.cells) (hcs : slots + rm.slots ≤ R.slots)
    (thr : ∀ (E : String) (ce : Cell) (q : Addr) (H : Heap) (locs : List Loc), Wd D cy A s.heap H locs L ad G I J → px E → H[q]? = some ce → ce.vm = .none → s.vm.findClass E = some ce.cls → vx_W p l e R s m args below meth c H locs (cells + rm.cells) (slots + rm.slots) Q (F0 m pc ls rest) q)
    (kk : ∀ (v : Int64) (I' : mI) (J' : mJ) (H : Heap) (locs : List Loc), post v I' J' → Wd D cy A s.heap H locs L ad G I' J' → W p l e R s m args below meth c H locs (cells + rm.cells) (slots + rm.slots) Q (F0 m (pc + 3) ls (.long v :: rest))) : W p l e R s m args below meth c H locs cells slots Q (F0 m pc ls st0) :=
  vx_calll (vx_runV (g := F0 m pc ls st0) (rest := rest) (cFix C hml) (hM H.size) cw ⟨pPre.blind, hrc, p_pre C hg hW⟩ rfl hn hsz hst (lv_room (ls := ls) (pc := pc) (m := m) (rest := st0) hroom) hdg ⟨hcc, hcs⟩) hW.2.2 (fun q _ h => pW_A hW.2.1 hW.2.2 C.2.2.2.2.2 q h) (pW_A hW.2.1 hW.2.2 C.2.2.2.2.2) (fun q _ h => pW_A hW.2.1 hW.2.2 C.2.2.2.2.2 q h)
    (fun E ce q9 u t H1 locs1 ht hvm hpu hB hz hk1 hS h1 h2 h3 => by
      subst hpu
      exact thr E ce q9 H1 locs1 (p_back C hW ht hB.2 hS) hB.1 h1 h2 h3)
    (fun v u t H1 locs1 ht hvm hw hB hz1 hk1 hS => kk v u.1 u.2 H1 locs1 hw (p_back C hW ht hB hS))
theorem p_xVv {post : mI → mJ → Prop} {px : String → Prop} (C : Cx p s m args c cc own Ts D cy A) (hml : c.maxLocals = nL) (hg : gX A s) (hW : Wd D cy A s.heap H locs L ad G I J) (hM : pXet l y ws rm D cy L ad G I J (.ref (ad r) :: As) (qV post D cy L ad G) px) (cw : CallW R s args own Cn index y bytes maxL ret ws rm rm.cells rm.slots n)
    (hrc : ∃ cell : Cell, H[ad r]? = some cell ∧ cell.vm.isStatics = false ∧ s.vm.findClass Cn = some cell.cls) (hn : As.length = n) (hsz : ls.size = nL) (hst : st0 = As.reverse ++ .ref (ad r) :: rest) (hroom : (rest.map fun v => v.category).sum ≤ 8) (hdg : decode cc pc = .ok (.invokevirtual index, 3)) (hcc : cells + rm.cells ≤ R.cells) (hcs : slots + rm.slots ≤ R.slots)
    (thr : ∀ (E : String) (ce : Cell) (q : Addr) (H : Heap) (locs : List Loc), Wd D cy A s.heap H locs L ad G I J → px E → H[q]? = some ce → ce.vm = .none → s.vm.findClass E = some ce.cls → vx_W p l e R s m args below meth c H locs (cells + rm.cells) (slots + rm.slots) Q (F0 m pc ls rest) q)
    (kk : ∀ (I' : mI) (J' : mJ) (H : Heap) (locs : List Loc), post I' J' → Wd D cy A s.heap H locs L ad G I' J' → W p l e R s m args below meth c H locs (cells + rm.cells) (slots + rm.slots) Q (F0 m (pc + 3) ls rest)) : W p l e R s m args below meth c H locs cells slots Q (F0 m pc ls st0) :=
  vx_callv (vx_runV (g := F0 m pc ls st0) (rest := rest) (cFix C hml) (hM H.size) cw ⟨pPre.blind, hrc, p_pre C hg hW⟩ rfl hn hsz hst (lv_room (ls := ls) (pc := pc) (m := m) (rest := st0) hroom) hdg ⟨hcc, hcs⟩) hW.2.2 (fun q _ h => pW_A hW.2.1 hW.2.2 C.2.2.2.2.2 q h) (pW_A hW.2.1 hW.2.2 C.2.2.2.2.2) (fun q _ h => pW_A hW.2.1 hW.2.2 C.2.2.2.2.2 q h)
    (fun E ce q9 u t H1 locs1 ht hvm hpu hB hz hk1 hS h1 h2 h3 => by
      subst hpu
      exact thr E ce q9 H1 locs1 (p_back C hW ht hB.2 hS) hB.1 h1 h2 h3)
    (fun u t H1 locs1 ht hvm hw hB hz1 hk1 hS => kk u.1 u.2 H1 locs1 hw (p_back C hW ht hB hS))
theorem p_xVr {post : Nat → mI → mJ → Prop} {px : String → Prop} (C : Cx p s m args c cc own Ts D cy A) (hml : c.maxLocals = nL) (hg : gX A s) (hW : Wd D cy A s.heap H locs L ad G I J) (hM : pXet l y ws rm D cy L ad G I J (.ref (ad r) :: As) (qR post D cy L ad G) px) (cw : CallW R s args own Cn index y bytes maxL ret ws rm rm.cells rm.slots n)
    (hrc : ∃ cell : Cell, H[ad r]? = some cell ∧ cell.vm.isStatics = false ∧ s.vm.findClass Cn = some cell.cls) (hn : As.length = n) (hsz : ls.size = nL) (hst : st0 = As.reverse ++ .ref (ad r) :: rest) (hroom : (rest.map fun v => v.category).sum ≤ 8) (hdg : decode cc pc = .ok (.invokevirtual index, 3)) (hcc : cells + rm.cells ≤ R.cells) (hcs : slots + rm.slots ≤ R.slots)
    (thr : ∀ (E : String) (ce : Cell) (q : Addr) (H : Heap) (locs : List Loc), Wd D cy A s.heap H locs L ad G I J → px E → H[q]? = some ce → ce.vm = .none → s.vm.findClass E = some ce.cls → vx_W p l e R s m args below meth c H locs (cells + rm.cells) (slots + rm.slots) Q (F0 m pc ls rest) q)
    (kk : ∀ (v : Nat) (I' : mI) (J' : mJ) (H : Heap) (locs : List Loc), post v I' J' → Wd D cy A s.heap H locs L ad G I' J' → W p l e R s m args below meth c H locs (cells + rm.cells) (slots + rm.slots) Q (F0 m (pc + 3) ls (.ref (ad v) :: rest))) : W p l e R s m args below meth c H locs cells slots Q (F0 m pc ls st0) :=
  vx_callr (vx_runV (g := F0 m pc ls st0) (rest := rest) (cFix C hml) (hM H.size) cw ⟨pPre.blind, hrc, p_pre C hg hW⟩ rfl hn hsz hst (lv_room (ls := ls) (pc := pc) (m := m) (rest := st0) hroom) hdg ⟨hcc, hcs⟩) hW.2.2 (fun q _ h => pW_A hW.2.1 hW.2.2 C.2.2.2.2.2 q h) (pW_A hW.2.1 hW.2.2 C.2.2.2.2.2) (fun q _ h => pW_A hW.2.1 hW.2.2 C.2.2.2.2.2 q h)
    (fun E ce q9 u t H1 locs1 ht hvm hpu hB hz hk1 hS h1 h2 h3 => by
      subst hpu
      exact thr E ce q9 H1 locs1 (p_back C hW ht hB.2 hS) hB.1 h1 h2 h3)
    (fun u ra t H1 locs1 ht hvm hw hB hz1 hk1 hS => by obtain ⟨v, u⟩ := u; obtain ⟨rfl, hB⟩ := hB; exact kk v u.1 u.2 H1 locs1 hw (p_back C hW ht hB hS))
theorem p_xSi {post : Int32 → mI → mJ → Prop} {px : String → Prop} (C : Cx p s m args c cc own Ts D cy A) (hml : c.maxLocals = nL) (hg : gX A s) (hW : Wd D cy A s.heap H locs L ad G I J) (hM : pXet l y ws rm D cy L ad G I J As (qI post D cy L ad G) px) (cw : CallB R s args own index y bytes maxL ret ws rm rm.cells rm.slots n ∧ (Cond.static y).before args s = true)
    (hn : As.length = n) (hsz : ls.size = nL) (hst : st0 = As.reverse ++ rest) (hroom : (rest.map fun v => v.category).sum ≤ 8) (hdg : decode cc pc = .ok (.invokestatic index, 3)) (hcc : cells + rm.cells ≤ R.cells) (hcs : slots + rm.slots ≤ R.slots)
    (thr : ∀ (E : String) (ce : Cell) (q : Addr) (H : Heap) (locs : List Loc), Wd D cy A s.heap H locs L ad G I J → px E → H[q]? = some ce → ce.vm = .none → s.vm.findClass E = some ce.cls → vx_W p l e R s m args below meth c H locs (cells + rm.cells) (slots + rm.slots) Q (F0 m pc ls rest) q)
    (kk : ∀ (v : Int32) (I' : mI) (J' : mJ) (H : Heap) (locs : List Loc), post v I' J' → Wd D cy A s.heap H locs L ad G I' J' → W p l e R s m args below meth c H locs (cells + rm.cells) (slots + rm.slots) Q (F0 m (pc + 3) ls (.int v :: rest))) : W p l e R s m args below meth c H locs cells slots Q (F0 m pc ls st0) :=
  vx_calli (vx_runS (g := F0 m pc ls st0) (rest := rest) (cFix C hml) (hM H.size) cw ⟨pPre.blind, p_pre C hg hW⟩ rfl hn hsz hst (lv_room (ls := ls) (pc := pc) (m := m) (rest := st0) hroom) hdg ⟨hcc, hcs⟩) hW.2.2 (fun q _ h => pW_A hW.2.1 hW.2.2 C.2.2.2.2.2 q h) (pW_A hW.2.1 hW.2.2 C.2.2.2.2.2) (fun q _ h => pW_A hW.2.1 hW.2.2 C.2.2.2.2.2 q h)
    (fun E ce q9 u t H1 locs1 ht hvm hpu hB hz hk1 hS h1 h2 h3 => by
      subst hpu
      exact thr E ce q9 H1 locs1 (p_back C hW ht hB.2 hS) hB.1 h1 h2 h3)
    (fun v u t H1 locs1 ht hvm hw hB hz1 hk1 hS => kk v u.1 u.2 H1 locs1 hw (p_back C hW ht hB hS))
theorem p_xSl {post : Int64 → mI → mJ → Prop} {px : String → Prop} (C : Cx p s m args c cc own Ts D cy A) (hml : c.maxLocals = nL) (hg : gX A s) (hW : Wd D cy A s.heap H locs L ad G I J) (hM : pXet l y ws rm D cy L ad G I J As (qL post D cy L ad G) px) (cw : CallB R s args own index y bytes maxL ret ws rm rm.cells rm.slots n ∧ (Cond.static y).before args s = true)
    (hn : As.length = n) (hsz : ls.size = nL) (hst : st0 = As.reverse ++ rest) (hroom : (rest.map fun v => v.category).sum ≤ 8) (hdg : decode cc pc = .ok (.invokestatic index, 3)) (hcc : cells + rm.cells ≤ R.cells) (hcs : slots + rm.slots ≤ R.slots)
    (thr : ∀ (E : String) (ce : Cell) (q : Addr) (H : Heap) (locs : List Loc), Wd D cy A s.heap H locs L ad G I J → px E → H[q]? = some ce → ce.vm = .none → s.vm.findClass E = some ce.cls → vx_W p l e R s m args below meth c H locs (cells + rm.cells) (slots + rm.slots) Q (F0 m pc ls rest) q)
    (kk : ∀ (v : Int64) (I' : mI) (J' : mJ) (H : Heap) (locs : List Loc), post v I' J' → Wd D cy A s.heap H locs L ad G I' J' → W p l e R s m args below meth c H locs (cells + rm.cells) (slots + rm.slots) Q (F0 m (pc + 3) ls (.long v :: rest))) : W p l e R s m args below meth c H locs cells slots Q (F0 m pc ls st0) :=
  vx_calll (vx_runS (g := F0 m pc ls st0) (rest := rest) (cFix C hml) (hM H.size) cw ⟨pPre.blind, p_pre C hg hW⟩ rfl hn hsz hst (lv_room (ls := ls) (pc := pc) (m := m) (rest := st0) hroom) hdg ⟨hcc, hcs⟩) hW.2.2 (fun q _ h => pW_A hW.2.1 hW.2.2 C.2.2.2.2.2 q h) (pW_A hW.2.1 hW.2.2 C.2.2.2.2.2) (fun q _ h => pW_A hW.2.1 hW.2.2 C.2.2.2.2.2 q h)
    (fun E ce q9 u t H1 locs1 ht hvm hpu hB hz hk1 hS h1 h2 h3 => by
      subst hpu
      exact thr E ce q9 H1 locs1 (p_back C hW ht hB.2 hS) hB.1 h1 h2 h3)
    (fun v u t H1 locs1 ht hvm hw hB hz1 hk1 hS => kk v u.1 u.2 H1 locs1 hw (p_back C hW ht hB hS))
theorem p_xSv {post : mI → mJ → Prop} {px : String → Prop} (C : Cx p s m args c cc own Ts D cy A) (hml : c.maxLocals = nL) (hg : gX A s) (hW : Wd D cy A s.heap H locs L ad G I J) (hM : pXet l y ws rm D cy L ad G I J As (qV post D cy L ad G) px) (cw : CallB R s args own index y bytes maxL ret ws rm rm.cells rm.slots n ∧ (Cond.static y).before args s = true)
    (hn : As.length = n) (hsz : ls.size = nL) (hst : st0 = As.reverse ++ rest) (hroom : (rest.map fun v => v.category).sum ≤ 8) (hdg : decode cc pc = .ok (.invokestatic index, 3)) (hcc : cells + rm.cells ≤ R.cells) (hcs : slots + rm.slots ≤ R.slots)
    (thr : ∀ (E : String) (ce : Cell) (q : Addr) (H : Heap) (locs : List Loc), Wd D cy A s.heap H locs L ad G I J → px E → H[q]? = some ce → ce.vm = .none → s.vm.findClass E = some ce.cls → vx_W p l e R s m args below meth c H locs (cells + rm.cells) (slots + rm.slots) Q (F0 m pc ls rest) q)
    (kk : ∀ (I' : mI) (J' : mJ) (H : Heap) (locs : List Loc), post I' J' → Wd D cy A s.heap H locs L ad G I' J' → W p l e R s m args below meth c H locs (cells + rm.cells) (slots + rm.slots) Q (F0 m (pc + 3) ls rest)) : W p l e R s m args below meth c H locs cells slots Q (F0 m pc ls st0) :=
  vx_callv (vx_runS (g := F0 m pc ls st0) (rest := rest) (cFix C hml) (hM H.size) cw ⟨pPre.blind, p_pre C hg hW⟩ rfl hn hsz hst (lv_room (ls := ls) (pc := pc) (m := m) (rest := st0) hroom) hdg ⟨hcc, hcs⟩) hW.2.2 (fun q _ h => pW_A hW.2.1 hW.2.2 C.2.2.2.2.2 q h) (pW_A hW.2.1 hW.2.2 C.2.2.2.2.2) (fun q _ h => pW_A hW.2.1 hW.2.2 C.2.2.2.2.2 q h)
    (fun E ce q9 u t H1 locs1 ht hvm hpu hB hz hk1 hS h1 h2 h3 => by
      subst hpu
      exact thr E ce q9 H1 locs1 (p_back C hW ht hB.2 hS) hB.1 h1 h2 h3)
    (fun u t H1 locs1 ht hvm hw hB hz1 hk1 hS => kk u.1 u.2 H1 locs1 hw (p_back C hW ht hB hS))
theorem p_xSr {post : Nat → mI → mJ → Prop} {px : String → Prop} (C : Cx p s m args c cc own Ts D cy A) (hml : c.maxLocals = nL) (hg : gX A s) (hW : Wd D cy A s.heap H locs L ad G I J) (hM : pXet l y ws rm D cy L ad G I J As (qR post D cy L ad G) px) (cw : CallB R s args own index y bytes maxL ret ws rm rm.cells rm.slots n ∧ (Cond.static y).before args s = true)
    (hn : As.length = n) (hsz : ls.size = nL) (hst : st0 = As.reverse ++ rest) (hroom : (rest.map fun v => v.category).sum ≤ 8) (hdg : decode cc pc = .ok (.invokestatic index, 3)) (hcc : cells + rm.cells ≤ R.cells) (hcs : slots + rm.slots ≤ R.slots)
    (thr : ∀ (E : String) (ce : Cell) (q : Addr) (H : Heap) (locs : List Loc), Wd D cy A s.heap H locs L ad G I J → px E → H[q]? = some ce → ce.vm = .none → s.vm.findClass E = some ce.cls → vx_W p l e R s m args below meth c H locs (cells + rm.cells) (slots + rm.slots) Q (F0 m pc ls rest) q)
    (kk : ∀ (v : Nat) (I' : mI) (J' : mJ) (H : Heap) (locs : List Loc), post v I' J' → Wd D cy A s.heap H locs L ad G I' J' → W p l e R s m args below meth c H locs (cells + rm.cells) (slots + rm.slots) Q (F0 m (pc + 3) ls (.ref (ad v) :: rest))) : W p l e R s m args below meth c H locs cells slots Q (F0 m pc ls st0) :=
  vx_callr (vx_runS (g := F0 m pc ls st0) (rest := rest) (cFix C hml) (hM H.size) cw ⟨pPre.blind, p_pre C hg hW⟩ rfl hn hsz hst (lv_room (ls := ls) (pc := pc) (m := m) (rest := st0) hroom) hdg ⟨hcc, hcs⟩) hW.2.2 (fun q _ h => pW_A hW.2.1 hW.2.2 C.2.2.2.2.2 q h) (pW_A hW.2.1 hW.2.2 C.2.2.2.2.2) (fun q _ h => pW_A hW.2.1 hW.2.2 C.2.2.2.2.2 q h)
    (fun E ce q9 u t H1 locs1 ht hvm hpu hB hz hk1 hS h1 h2 h3 => by
      subst hpu
      exact thr E ce q9 H1 locs1 (p_back C hW ht hB.2 hS) hB.1 h1 h2 h3)
    (fun u ra t H1 locs1 ht hvm hw hB hz1 hk1 hS => by obtain ⟨v, u⟩ := u; obtain ⟨rfl, hB⟩ := hB; exact kk v u.1 u.2 H1 locs1 hw (p_back C hW ht hB hS))
end TH
