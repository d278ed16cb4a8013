/-! CONTRACTS over the pool, and calls -/
/-- what stays true of the tables all along: links among nest mates, what a throw asks for, the texts -/
def gT (U : State) : Prop :=
  va_Nw (.methodLinkNest RX4 23 yX3_init RX4) U ∧ va_Nw (.methodLinkNest RX4 30 yX0_init RX4) U ∧ va_Nw (.methodLinkNest RX2 9 yX3_init RX4) U ∧ va_Nw (.methodLinkNest RX3 33 yX4_isTold RX4) U ∧
  va_Nw (.declares (Bundle.initS "java/lang/RuntimeException")) U ∧ va_Nw (.declares (Bundle.initS "java/lang/Exception")) U ∧ va_Nw (.declares (Bundle.initS Bundle.tN)) U ∧
  va_Nw (.castable na_N na_N) U ∧ va_Nw (.castable "java/lang/IllegalArgumentException" "java/lang/IllegalArgumentException") U ∧ va_AO "WaveWalk$Net" U ∧ va_AO "WaveWalk$Walk" U ∧
  va_Nc "java/lang/IllegalArgumentException" na_N U ∧
  (∃ a, vk_R RX4 184 "no such net" a U) ∧ (∃ a, vk_R RX4 191 "no such place" a U) ∧ (∃ a, vk_R RX4 196 "no such door" a U) ∧ (∃ a, vk_R RX4 186 "no such walk" a U) ∧ (∃ a, vk_R RX4 202 "a told number is -100 to 100" a U) ∧
  (∃ a, vk_R RX4 204 "a number of steps is 0 to 60" a U) ∧ (∃ a, vk_R RX4 143 "what is 0, 1 or 2" a U) ∧ (∃ a, vk_R RX4 179 "the walks are of two nets" a U) ∧ (∃ a, vk_R RX4 182 "what is 0 or 1" a U)
theorem gT.warm {s U : State} (hW : s.WarmedH U.vm) (h : gT s) : gT U := by
  obtain ⟨h1, h2, h3, h4, h5, h6, h7, h8, h9, h10, h11, h12, ⟨a1, t1⟩, ⟨a2, t2⟩, ⟨a3, t3⟩, ⟨a4, t4⟩, ⟨a5, t5⟩, ⟨a6, t6⟩, ⟨a7, t7⟩, ⟨a8, t8⟩, ⟨a9, t9⟩⟩ := h
  exact ⟨va_Nw.warmM hW h1, va_Nw.warmM hW h2, va_Nw.warmM hW h3, va_Nw.warmM hW h4, va_Nw.warmD hW h5, va_Nw.warmD hW h6, va_Nw.warmD hW h7, va_Nw.warmC hW h8, va_Nw.warmC hW h9, va_AO.moved hW.alike h10, va_AO.moved hW.alike h11, va_Nc.moved hW.alike h12,
    ⟨a1, vk_R.warm hW t1⟩, ⟨a2, vk_R.warm hW t2⟩, ⟨a3, vk_R.warm hW t3⟩, ⟨a4, vk_R.warm hW t4⟩, ⟨a5, vk_R.warm hW t5⟩, ⟨a6, vk_R.warm hW t6⟩, ⟨a7, vk_R.warm hW t7⟩, ⟨a8, vk_R.warm hW t8⟩, ⟨a9, vk_R.warm hW t9⟩⟩
def gX (A : Nat → Prop) (U : State) : Prop := gT U ∧ vx_Zq Bundle.tN "UNASSIGNED_STACK" Bundle.steD A U U.heap ∧ vx_Zq Bundle.tN "SUPPRESSED_SENTINEL" Bundle.listD A U U.heap
theorem gX.call {A B : Nat → Prop} {s U : State} {H : Heap} {locs : List Loc} (h : gX A s) (hS : va_S A s.heap H locs) (hU : U.heap = H) (hW : s.WarmedH U.vm) (hAB : ∀ q, B q → A q) : gX B U := by
  obtain ⟨h1, h2, h3⟩ := h
  refine ⟨h1.warm hW, ?_, ?_⟩
  · rw [hU]; exact vx_Zq.moved hW.alike ((h2.kept hS.2.1).narrow hAB)
  · rw [hU]; exact vx_Zq.moved hW.alike ((h3.kept hS.2.1).narrow hAB)
theorem gX.calling {A : Nat → Prop} {U : State} (g : JFrame) (mk : MethodId) (a : Array Value) (h : gX A U) : gX A (U.calling g mk a) :=
  ⟨h.1.warm (State.WarmedH.refl U), vx_Zq.moved (u := U) (Vm.Alike.refl U.vm) h.2.1, vx_Zq.moved (u := U) (Vm.Alike.refl U.vm) h.2.2⟩
/-- the cells that a method may change: the pool's, and new ones -/
def pA (ad : Nat → Nat) (L : List Nat) (sz : Nat) : Nat → Prop := fun q => (∃ r, r ∈ L ∧ ad r = q) ∨ sz ≤ q
abbrev mI : Type := Nat → Nat → Int32
abbrev mJ : Type := Nat → Nat → Int64
abbrev mG : Type := Nat → Nat → Option Nat
def pPre (D : va_G) (cy : Nat → ClassId) (sz : Nat) (L : List Nat) (ad : Nat → Nat) (G : mG) (I : mI) (J : mJ) (U : State) : Prop :=
  U.heap.size = sz ∧ va_P D vwCl (pW cy ad G I J L) U.heap ∧ va_K D vwCl (tysC cy) U ∧ va_D (fun _ => True) (pW cy ad G I J L) ∧ gX (pA ad L sz) U
def pB (D : va_G) (cy : Nat → ClassId) (L : List Nat) (ad : Nat → Nat) (G : mG) (A : Nat → Prop) (u : mI × mJ) (t : State) : Prop :=
  va_P D vwCl (pW cy ad G u.1 u.2 L) t.heap ∧ va_K D vwCl (tysC cy) t ∧ va_D A (pW cy ad G u.1 u.2 L)
theorem pW_D {A : Nat → Prop} {cy : Nat → ClassId} {L : List Nat} {ad : Nat → Nat} {G : mG} {I I' : mI} {J J' : mJ} (h : va_D A (pW cy ad G I J L)) : va_D A (pW cy ad G I' J' L) := by
  refine ⟨fun i j p q hi hj hpq => ?_, fun k q hk => ?_⟩
  · obtain ⟨a, h1, rfl⟩ := pQ_of hi
    obtain ⟨b, h2, rfl⟩ := pQ_of hj
    exact h.1 i j (ad a, pF cy ad G I J a) (ad b, pF cy ad G I J b) (by unfold pW pQ; rw [List.getElem?_map, h1]; rfl) (by unfold pW pQ; rw [List.getElem?_map, h2]; rfl) hpq
  · obtain ⟨a, h1, rfl⟩ := pQ_of hk
    exact h.2 k (ad a, pF cy ad G I J a) (by unfold pW pQ; rw [List.getElem?_map, h1]; rfl)
theorem pW_A {A : Nat → Prop} {cy : Nat → ClassId} {L : List Nat} {ad : Nat → Nat} {G : mG} {I : mI} {J : mJ} {H0 H : Heap} {locs : List Loc} (hD : va_D A (pW cy ad G I J L)) (hS : va_S A H0 H locs) (hA : ∀ q, H0.size ≤ q → A q) : ∀ q, pA ad L H.size q → A q := by
  intro q h
  rcases h with ⟨r, hr, rfl⟩ | h
  · obtain ⟨k, -, h2⟩ := pQ_get (ad := ad) (F := pF cy ad G I J) hr
    exact hD.2 k _ h2
  · exact hA q (Nat.le_trans hS.1 h)
theorem pW_self {A : Nat → Prop} {cy : Nat → ClassId} {L : List Nat} {ad : Nat → Nat} {G : mG} {I : mI} {J : mJ} {sz : Nat} (h : va_D A (pW cy ad G I J L)) : va_D (pA ad L sz) (pW cy ad G I J L) := by
  refine ⟨h.1, fun k q hk => ?_⟩
  obtain ⟨a, h1, rfl⟩ := pQ_of hk
  exact Or.inl ⟨a, List.mem_of_getElem? h1, rfl⟩
abbrev qI (post : Int32 → mI → mJ → Prop) (D : va_G) (cy : Nat → ClassId) (L : List Nat) (ad : Nat → Nat) (G : mG) (A : Nat → Prop) := va_Qi (fun r (u : mI × mJ) => post r u.1 u.2) (pB D cy L ad G A) A
abbrev qL (post : Int64 → mI → mJ → Prop) (D : va_G) (cy : Nat → ClassId) (L : List Nat) (ad : Nat → Nat) (G : mG) (A : Nat → Prop) := va_Ql (fun r (u : mI × mJ) => post r u.1 u.2) (pB D cy L ad G A) A
abbrev qV (post : mI → mJ → Prop) (D : va_G) (cy : Nat → ClassId) (L : List Nat) (ad : Nat → Nat) (G : mG) (A : Nat → Prop) := va_Qv (fun (u : mI × mJ) => post u.1 u.2) (pB D cy L ad G A) A
abbrev qR (post : Nat → mI → mJ → Prop) (D : va_G) (cy : Nat → ClassId) (L : List Nat) (ad : Nat → Nat) (G : mG) (A : Nat → Prop) := va_Qr (fun (u : Nat × mI × mJ) => post u.1 u.2.1 u.2.2) (fun u a t => a = ad u.1 ∧ pB D cy L ad G A u.2 t) A
/-- what is thrown: the class by its name; nothing of the pool has changed -/
abbrev qX (px : String → Prop) (D : va_G) (cy : Nat → ClassId) (L : List Nat) (ad : Nat → Nat) (G : mG) (I : mI) (J : mJ) (A : Nat → Prop) := vx_X (fun (u : mI × mJ) => u = (I, J)) (fun E u t => px E ∧ pB D cy L ad G A u t) A
def pMet (l : Launch) (y : MethodName) (ws : List Cond) (rm : Room) (D : va_G) (cy : Nat → ClassId) (L : List Nat) (ad : Nat → Nat) (G : mG) (I : mI) (J : mJ) (av : List Value) (Qc : (Nat → Prop) → Array Value → State → Outcome → State → Prop) : Prop :=
  ∀ sz, Met l y ws rm (va_Pc av (pPre D cy sz L ad G I J)) (Qc (pA ad L sz)) rm.cells rm.slots (pA ad L sz)
def pXet (l : Launch) (y : MethodName) (ws : List Cond) (rm : Room) (D : va_G) (cy : Nat → ClassId) (L : List Nat) (ad : Nat → Nat) (G : mG) (I : mI) (J : mJ) (av : List Value) (Qc : (Nat → Prop) → Array Value → State → Outcome → State → Prop) (px : String → Prop) : Prop :=
  ∀ sz, vx_Met l y ws rm (va_Pc av (pPre D cy sz L ad G I J)) (Qc (pA ad L sz)) (qX px D cy L ad G I J (pA ad L sz)) rm.cells rm.slots (pA ad L sz)
theorem pPre.blind {D : va_G} {cy : Nat → ClassId} {sz : Nat} {L : List Nat} {ad : Nat → Nat} {G : mG} {I : mI} {J : mJ} {av : List Value} : FrameBlind (va_Pc av (pPre D cy sz L ad G I J)) := by
  intro a U g mk h
  obtain ⟨h0, h1, h2, h3, h4, h5⟩ := h
  exact ⟨h0, h1, h2, va_K.moved (u := U) (U := U.calling g mk a) (Vm.Alike.refl U.vm) h3, h4, h5.calling g mk a⟩
section ST
variable {l : Launch} {y : MethodName} {ws ws' : List Cond} {rm : Room} {D : va_G} {cy : Nat → ClassId} {L : List Nat} {ad : Nat → Nat} {G : mG} {I : mI} {J : mJ} {av : List Value} {cc : ByteArray} {maxL : Nat} {ret : Option FieldType}
/-- a method's body, from its entry -/
theorem pMet.of {Qc : (Nat → Prop) → Array Value → State → Outcome → State → Prop} (hy : plainName y.cls = true) (hw : ws = Cond.code y cc maxL ret :: ws') (hav : (lg_sl av).length ≤ maxL)
    (body : ∀ (p : Program) (e : Env) (s : State) (m : MethodId) (below : List Frame) (meth : Method) (c : Code) (A : Nat → Prop), Cx p s m av.toArray c cc y.cls ws D cy A → c.maxLocals = maxL → meth.sig.returnType = ret → meth.locks = false → meth.name = y.name → gX A s → Wd D cy A s.heap s.heap [] L ad G I J →
      ∀ ls, lv_has ls maxL (lv_args 0 av) → W p l e rm s m av.toArray below meth c s.heap [] 0 0 (MQ below (Qc A) av.toArray s rm.cells rm.slots A) (F0 m 0 ls [])) : pMet l y ws rm D cy L ad G I J av Qc := by
  intro sz
  refine Met.ofW (cc := cc) (maxL := maxL) (ret := ret) hy hw ?_
  intro p e s m args below meth c s₁ B hml hv
  obtain ⟨rfl, hsz, hP, hK, hD0, hg⟩ := hv
  have hts := atoms_spec (ws := ws) B.pre
  have hown : s.vm.findClass y.cls = some m.cls := findClass_of_methodNamed B.named
  have hin : meth.name = y.name := (name_of_methodNamed B.named B.method).1
  subst hsz
  have hD := pW_self (sz := s.heap.size) hD0
  have hl := lv_entry av (n := maxL) hav
  rw [lg_entry_eq]
  exact body p e s m below meth c _ ⟨B.exec, B.bytes, hown, hts, hK, fun q h => Or.inr h⟩ hml B.returns B.notSynchronized hin hg ⟨hP, hD, va_S.rf⟩ _ hl
theorem pXet.of {Qc : (Nat → Prop) → Array Value → State → Outcome → State → Prop} {px : String → Prop} (hy : plainName y.cls = true) (hw : ws = Cond.code y cc maxL ret :: ws') (hav : (lg_sl av).length ≤ maxL)
    (body : ∀ (p : Program) (e : Env) (s : State) (m : MethodId) (below : List Frame) (meth : Method) (c : Code) (A : Nat → Prop), Cx p s m av.toArray c cc y.cls ws D cy A → c.maxLocals = maxL → meth.sig.returnType = ret → meth.locks = false → (∀ x ∈ c.exceptionTable.toList, False) → gX A s → Wd D cy A s.heap s.heap [] L ad G I J →
      ∀ ls, lv_has ls maxL (lv_args 0 av) → W p l e rm s m av.toArray below meth c s.heap [] 0 0 (vx_MQ below (Qc A) (qX px D cy L ad G I J A) av.toArray s rm.cells rm.slots A) (F0 m 0 ls [])) : pXet l y ws rm D cy L ad G I J av Qc px := by
  intro sz
  refine vx_ofW (cc := cc) (maxL := maxL) (ret := ret) hy hw ?_
  intro p e s m args below meth c s₁ B hml hx hv
  obtain ⟨rfl, hsz, hP, hK, hD0, hg⟩ := hv
  have hts := atoms_spec (ws := ws) B.pre
  have hown : s.vm.findClass y.cls = some m.cls := findClass_of_methodNamed B.named
  subst hsz
  have hD := pW_self (sz := s.heap.size) hD0
  have hl := lv_entry av (n := maxL) hav
  rw [lg_entry_eq]
  exact body p e s m below meth c _ ⟨B.exec, B.bytes, hown, hts, hK, fun q h => Or.inr h⟩ hml B.returns B.notSynchronized hx hg ⟨hP, hD, va_S.rf⟩ _ hl
end ST
section EN
variable {p : Program} {l : Launch} {e : Env} {R : Room} {s : State} {m : MethodId} {args : Array Value} {below : List Frame} {meth : Method} {c : Code} {H : Heap} {locs : List Loc} {cells slots mc ms : Nat}
variable {cc : ByteArray} {pc : Nat} {ls : Array Slot} {own : String} {Ts : List Cond} {D : va_G} {cy : Nat → ClassId} {A : Nat → Prop} {L : List Nat} {ad : Nat → Nat} {G : mG} {I I0 : mI} {J J0 : mJ}
theorem p_B (C : Cx p s m args c cc own Ts D cy A) (hW : Wd D cy A s.heap H locs L ad G I J) {t : State} (ht : t.heap = H) (hWm : s.WarmedH t.vm) : pB D cy L ad G A (I, J) t :=
  ⟨by rw [ht]; exact hW.1, va_K.moved hWm.alike C.2.2.2.2.1, hW.2.1⟩
theorem p_iret {post : Int32 → mI → mJ → Prop} {v : Int32} (C : Cx p s m args c cc own Ts D cy A) (hr : meth.sig.returnType = some .int) (hlk : meth.locks = false) (hW : Wd D cy A s.heap H locs L ad G I J) (hc : cells ≤ mc) (hs : slots ≤ ms) (hp : post v I J) (hdg : decode cc pc = .ok (.ireturn, 1)) :
    W p l e R s m args below meth c H locs cells slots (MQ below (qI post D cy L ad G A) args s mc ms A) (F0 m pc ls [.int v]) :=
  W.widen hc hs (W.iret C.1 C.2.1 hr (fun t ht hWm => ⟨⟨v, (I, J), rfl, hp, p_B C hW ht hWm⟩, hW.2.2.F ht⟩) hW.2.2.2.2 hdg hlk)
theorem p_zret {post : Int32 → mI → mJ → Prop} {v : Int32} (C : Cx p s m args c cc own Ts D cy A) (hr : meth.sig.returnType = some .boolean) (hlk : meth.locks = false) (hn : narrow .boolean (.int v) = .int v) (hW : Wd D cy A s.heap H locs L ad G I J) (hc : cells ≤ mc) (hs : slots ≤ ms) (hp : post v I J) (hdg : decode cc pc = .ok (.ireturn, 1)) :
    W p l e R s m args below meth c H locs cells slots (MQ below (qI post D cy L ad G A) args s mc ms A) (F0 m pc ls [.int v]) :=
  W.widen hc hs (W.zret C.1 C.2.1 hr hn (fun t ht hWm => ⟨⟨v, (I, J), rfl, hp, p_B C hW ht hWm⟩, hW.2.2.F ht⟩) hW.2.2.2.2 hdg hlk)
theorem p_lret {post : Int64 → mI → mJ → Prop} {v : Int64} (C : Cx p s m args c cc own Ts D cy A) (hr : meth.sig.returnType = some .long) (hlk : meth.locks = false) (hW : Wd D cy A s.heap H locs L ad G I J) (hc : cells ≤ mc) (hs : slots ≤ ms) (hp : post v I J) (hdg : decode cc pc = .ok (.lreturn, 1)) :
    W p l e R s m args below meth c H locs cells slots (MQ below (qL post D cy L ad G A) args s mc ms A) (F0 m pc ls [.long v]) :=
  W.widen hc hs (W.lret C.1 C.2.1 hr (fun t ht hWm => ⟨⟨v, (I, J), rfl, hp, p_B C hW ht hWm⟩, hW.2.2.F ht⟩) hW.2.2.2.2 hdg hlk)
theorem p_vret {post : mI → mJ → Prop} (C : Cx p s m args c cc own Ts D cy A) (hr : meth.sig.returnType = none) (hlk : meth.locks = false) (hW : Wd D cy A s.heap H locs L ad G I J) (hc : cells ≤ mc) (hs : slots ≤ ms) (hp : post I J) (hdg : decode cc pc = .ok (.return_, 1)) :
    W p l e R s m args below meth c H locs cells slots (MQ below (qV post D cy L ad G A) args s mc ms A) (F0 m pc ls []) :=
  W.widen hc hs (W.vret C.1 C.2.1 hr (fun t ht hWm => ⟨⟨(I, J), rfl, hp, p_B C hW ht hWm⟩, hW.2.2.F ht⟩) hW.2.2.2.2 hdg hlk)
theorem p_aret {post : Nat → mI → mJ → Prop} {q : Nat} {Cn : String} (C : Cx p s m args c cc own Ts D cy A) (hr : meth.sig.returnType = some (.object Cn)) (hlk : meth.locks = false) (hW : Wd D cy A s.heap H locs L ad G I J) (hc : cells ≤ mc) (hs : slots ≤ ms) (hp : post q I J) (hdg : decode cc pc = .ok (.areturn, 1)) :
    W p l e R s m args below meth c H locs cells slots (MQ below (qR post D cy L ad G A) args s mc ms A) (F0 m pc ls [.ref (ad q)]) :=
  W.widen hc hs (W.aret C.1 C.2.1 hr (Or.inl ⟨Cn, rfl⟩) (Or.inr ⟨_, rfl⟩) (fun t ht hWm => ⟨⟨(q, I, J), ad q, rfl, hp, rfl, p_B C hW ht hWm⟩, hW.2.2.F ht⟩) hW.2.2.2.2 hdg hlk)
end EN
section CA
variable {p : Program} {l : Launch} {e : Env} {R : Room} {s : State} {m : MethodId} {args : Array Value} {below : List Frame} {meth : Method} {c : Code} {H : Heap} {locs : List Loc} {cells slots mc ms nL : Nat} {Q : State → Prop}
variable {cc : ByteArray} {pc : Nat} {ls : Array Slot} {own : String} {Ts : List Cond} {D : va_G} {cy : Nat → ClassId} {A : Nat → Prop} {L : List Nat} {ad : Nat → Nat} {G : mG} {I I0 : mI} {J J0 : mJ}
variable {y : MethodName} {ws ws' : List Cond} {rm : Room} {bytes : ByteArray} {maxL n index : Nat} {ret : Option FieldType} {Cn : String} {As rest st0 : List Value} {r : Nat}
/-- the callee's pool is the caller's -/
theorem p_pre (C : Cx p s m args c cc own Ts D cy A) (hg : gX A s) (hW : Wd D cy A s.heap H locs L ad G I J) {av : List Value} : ∀ U : State, U.heap = H → s.WarmedH U.vm → va_Pc av (pPre D cy H.size L ad G I J) av.toArray U := fun U hU hWm =>
  ⟨rfl, by rw [hU], by rw [hU]; exact hW.1, va_K.moved hWm.alike C.2.2.2.2.1, hW.2.1.weaken (fun _ _ _ _ => trivial), hg.call hW.2.2 hU hWm (pW_A hW.2.1 hW.2.2 C.2.2.2.2.2)⟩
theorem p_recv (C : Cx p s m args c cc own Ts D cy A) (hW : Wd D cy A s.heap H locs L ad G I J) (hr : r ∈ L) {ci : Nat} {fs : List Value} {q : vw_C} (hF : pF cy ad G I J r = .inr (ci, fs)) (hc : vwCl[ci]? = some q) : ∃ cell : Cell, H[ad r]? = some cell ∧ cell.vm.isStatics = false ∧ s.vm.findClass q.1 = some cell.cls := by
  obtain ⟨k, -, h2⟩ := pQ_get (ad := ad) (F := pF cy ad G I J) hr
  rw [hF] at h2
  exact va_recv C.2.2.2.2.1 hW.1 hc h2
/-- a call's end: the pool as the callee leaves it -/
theorem p_back (C : Cx p s m args c cc own Ts D cy A) (hW : Wd D cy A s.heap H locs L ad G I J) {u : mI × mJ} {t : State} {H1 : Heap} {locs1 : List Loc} (ht : t.heap = H1) (hB : pB D cy L ad G (pA ad L H.size) u t) (hS : va_S A s.heap H1 locs1) : Wd D cy A s.heap H1 locs1 L ad G u.1 u.2 :=
  ⟨by rw [← ht]; exact hB.1, pW_D hW.2.1, hS⟩
abbrev cFix (C : Cx p s m args c cc own Ts D cy A) (hml : c.maxLocals = nL) : CallFix p m c cc nL s args Ts own := ⟨C.1, C.2.1, hml, C.2.2.1, C.2.2.2.1⟩
theorem p_cVi {post : Int32 → mI → mJ → Prop} (C : Cx p s m args c cc own Ts D cy A) (hml : c.maxLocals = nL) (hg : gX A s) (hW : Wd D cy A s.heap H locs L ad G I J) (hM : pMet l y ws rm D cy L ad G I J (.ref (ad r) :: As) (qI post D cy L ad G)) (cw : CallW R s args own Cn index y bytes maxL ret ws rm rm.cells rm.slots n)
    (hrc : ∃ cell : Cell, H[ad r]? = some cell ∧ cell.vm.isStatics = false ∧ s.vm.findClass Cn = some cell.cls) (hn : As.length = n) (hsz : ls.size = nL) (hst : st0 = As.reverse ++ .ref (ad r) :: rest) (hroom : (rest.map fun v => v.category).sum ≤ 8) (hdg : decode cc pc = .ok (.invokevirtual index, 3)) (hcc : cells + rm.cells ≤ R.cells) (hcs : slots + rm.slots ≤ R.slots)
    (kk : ∀ (v : Int32) (I' : mI) (J' : mJ) (H : Heap) (locs : List Loc), post v I' J' → Wd D cy A s.heap H locs L ad G I' J' → W p l e R s m args below meth c H locs (cells + rm.cells) (slots + rm.slots) Q (F0 m (pc + 3) ls (.int v :: rest))) : W p l e R s m args below meth c H locs cells slots Q (F0 m pc ls st0) :=
  va_calli (va_runV (g := F0 m pc ls st0) (rest := rest) (cFix C hml) (hM H.size) cw ⟨pPre.blind, hrc, p_pre C hg hW⟩ rfl hn hsz hst (lv_room (ls := ls) (pc := pc) (m := m) (rest := st0) hroom) hdg ⟨hcc, hcs⟩) hW.2.2 (fun q _ h => pW_A hW.2.1 hW.2.2 C.2.2.2.2.2 q h) (pW_A hW.2.1 hW.2.2 C.2.2.2.2.2)
    (fun v u t H1 locs1 ht hvm hw hB hz1 hk1 hS => kk v u.1 u.2 H1 locs1 hw (p_back C hW ht hB hS))
theorem p_cVl {post : Int64 → mI → mJ → Prop} (C : Cx p s m args c cc own Ts D cy A) (hml : c.maxLocals = nL) (hg : gX A s) (hW : Wd D cy A s.heap H locs L ad G I J) (hM : pMet l y ws rm D cy L ad G I J (.ref (ad r) :: As) (qL post D cy L ad G)) (cw : CallW R s args own Cn index y bytes maxL ret ws rm rm.cells rm.slots n)
    (hrc : ∃ cell : Cell, H[ad r]? = some cell ∧ cell.vm.isStatics = false ∧ s.vm.findClass Cn = some cell.cls) (hn : As.length = n) (hsz : ls.size = nL) (hst : st0 = As.reverse ++ .ref (ad r) :: rest) (hroom : (rest.map fun v => v.category).sum ≤ 8) (hdg : decode cc pc = .ok (.invokevirtual index, 3)) (hcc : cells + rm.cells ≤ R.cells) (hcs : slots + rm.slots ≤ R.slots)
    (kk : ∀ (v : Int64) (I' : mI) (J' : mJ) (H : Heap) (locs : List Loc), post v I' J' → Wd D cy A s.heap H locs L ad G I' J' → W p l e R s m args below meth c H locs (cells + rm.cells) (slots + rm.slots) Q (F0 m (pc + 3) ls (.long v :: rest))) : W p l e R s m args below meth c H locs cells slots Q (F0 m pc ls st0) :=
  va_calll (va_runV (g := F0 m pc ls st0) (rest := rest) (cFix C hml) (hM H.size) cw ⟨pPre.blind, hrc, p_pre C hg hW⟩ rfl hn hsz hst (lv_room (ls := ls) (pc := pc) (m := m) (rest := st0) hroom) hdg ⟨hcc, hcs⟩) hW.2.2 (fun q _ h => pW_A hW.2.1 hW.2.2 C.2.2.2.2.2 q h) (pW_A hW.2.1 hW.2.2 C.2.2.2.2.2)
    (fun v u t H1 locs1 ht hvm hw hB hz1 hk1 hS => kk v u.1 u.2 H1 locs1 hw (p_back C hW ht hB hS))
theorem p_cVv {post : mI → mJ → Prop} (C : Cx p s m args c cc own Ts D cy A) (hml : c.maxLocals = nL) (hg : gX A s) (hW : Wd D cy A s.heap H locs L ad G I J) (hM : pMet l y ws rm D cy L ad G I J (.ref (ad r) :: As) (qV post D cy L ad G)) (cw : CallW R s args own Cn index y bytes maxL ret ws rm rm.cells rm.slots n)
    (hrc : ∃ cell : Cell, H[ad r]? = some cell ∧ cell.vm.isStatics = false ∧ s.vm.findClass Cn = some cell.cls) (hn : As.length = n) (hsz : ls.size = nL) (hst : st0 = As.reverse ++ .ref (ad r) :: rest) (hroom : (rest.map fun v => v.category).sum ≤ 8) (hdg : decode cc pc = .ok (.invokevirtual index, 3)) (hcc : cells + rm.cells ≤ R.cells) (hcs : slots + rm.slots ≤ R.slots)
    (kk : ∀ (I' : mI) (J' : mJ) (H : Heap) (locs : List Loc), post I' J' → Wd D cy A s.heap H locs L ad G I' J' → W p l e R s m args below meth c H locs (cells + rm.cells) (slots + rm.slots) Q (F0 m (pc + 3) ls rest)) : W p l e R s m args below meth c H locs cells slots Q (F0 m pc ls st0) :=
  va_callv (va_runV (g := F0 m pc ls st0) (rest := rest) (cFix C hml) (hM H.size) cw ⟨pPre.blind, hrc, p_pre C hg hW⟩ rfl hn hsz hst (lv_room (ls := ls) (pc := pc) (m := m) (rest := st0) hroom) hdg ⟨hcc, hcs⟩) hW.2.2 (fun q _ h => pW_A hW.2.1 hW.2.2 C.2.2.2.2.2 q h) (pW_A hW.2.1 hW.2.2 C.2.2.2.2.2)
    (fun u t H1 locs1 ht hvm hw hB hz1 hk1 hS => kk u.1 u.2 H1 locs1 hw (p_back C hW ht hB hS))
theorem p_cSi {post : Int32 → mI → mJ → Prop} (C : Cx p s m args c cc own Ts D cy A) (hml : c.maxLocals = nL) (hg : gX A s) (hW : Wd D cy A s.heap H locs L ad G I J) (hM : pMet l y ws rm D cy L ad G I J As (qI post D cy L ad G)) (cw : CallB R s args own index y bytes maxL ret ws rm rm.cells rm.slots n ∧ (Cond.static y).before args s = true)
    (hn : As.length = n) (hsz : ls.size = nL) (hst : st0 = As.reverse ++ rest) (hroom : (rest.map fun v => v.category).sum ≤ 8) (hdg : decode cc pc = .ok (.invokestatic index, 3)) (hcc : cells + rm.cells ≤ R.cells) (hcs : slots + rm.slots ≤ R.slots)
    (kk : ∀ (v : Int32) (I' : mI) (J' : mJ) (H : Heap) (locs : List Loc), post v I' J' → Wd D cy A s.heap H locs L ad G I' J' → W p l e R s m args below meth c H locs (cells + rm.cells) (slots + rm.slots) Q (F0 m (pc + 3) ls (.int v :: rest))) : W p l e R s m args below meth c H locs cells slots Q (F0 m pc ls st0) :=
  va_calli (va_runS (g := F0 m pc ls st0) (rest := rest) (cFix C hml) (hM H.size) cw ⟨pPre.blind, p_pre C hg hW⟩ rfl hn hsz hst (lv_room (ls := ls) (pc := pc) (m := m) (rest := st0) hroom) hdg ⟨hcc, hcs⟩) hW.2.2 (fun q _ h => pW_A hW.2.1 hW.2.2 C.2.2.2.2.2 q h) (pW_A hW.2.1 hW.2.2 C.2.2.2.2.2)
    (fun v u t H1 locs1 ht hvm hw hB hz1 hk1 hS => kk v u.1 u.2 H1 locs1 hw (p_back C hW ht hB hS))
theorem p_cNi {post : Int32 → mI → mJ → Prop} {host : String} (C : Cx p s m args c cc own Ts D cy A) (hml : c.maxLocals = nL) (hg : gX A s) (hW : Wd D cy A s.heap H locs L ad G I J) (hM : pMet l y ws rm D cy L ad G I J As (qI post D cy L ad G)) (cw : va_CN R s args own index y host bytes maxL ret ws rm rm.cells rm.slots n ∧ (Cond.static y).before args s = true ∧ True)
    (hn : As.length = n) (hsz : ls.size = nL) (hst : st0 = As.reverse ++ rest) (hroom : (rest.map fun v => v.category).sum ≤ 8) (hdg : decode cc pc = .ok (.invokestatic index, 3)) (hcc : cells + rm.cells ≤ R.cells) (hcs : slots + rm.slots ≤ R.slots)
    (kk : ∀ (v : Int32) (I' : mI) (J' : mJ) (H : Heap) (locs : List Loc), post v I' J' → Wd D cy A s.heap H locs L ad G I' J' → W p l e R s m args below meth c H locs (cells + rm.cells) (slots + rm.slots) Q (F0 m (pc + 3) ls (.int v :: rest))) : W p l e R s m args below meth c H locs cells slots Q (F0 m pc ls st0) :=
  va_calli (va_runSN (g := F0 m pc ls st0) (rest := rest) (cFix C hml) (hM H.size) cw ⟨pPre.blind, p_pre C hg hW⟩ rfl hn hsz hst (lv_room (ls := ls) (pc := pc) (m := m) (rest := st0) hroom) hdg ⟨hcc, hcs⟩) hW.2.2 (fun q _ h => pW_A hW.2.1 hW.2.2 C.2.2.2.2.2 q h) (pW_A hW.2.1 hW.2.2 C.2.2.2.2.2)
    (fun v u t H1 locs1 ht hvm hw hB hz1 hk1 hS => kk v u.1 u.2 H1 locs1 hw (p_back C hW ht hB hS))
end CA
