section
-- ===== PART A: goes FIRST, ahead of the names: the tables' words, and 'selects' of the private methods out of them =====
/-- a private method of a class that the tables say can be made, by its rows of tables_1 -/
def lw_okq (q : MethodName × Nat) : Prop := (q.1.cls ≠ "java/lang/invoke/MethodHandle" ∧ q.1.cls ≠ "java/lang/invoke/VarHandle") ∧ Cond.instantiable q.1.cls q.2 ∈ tables_1 ∧ Cond.privateMethod q.1 ∈ tables_1 ∧ Cond.instanceMethod q.1 ∈ tables_1
theorem lw_p0 : lw_okq (⟨"WaveWalk", "netOf", "(I)LWaveWalk$Net;"⟩, 6) := ⟨⟨by decide +kernel, by decide +kernel⟩, List.mem_of_getElem? (i := 15) (by decide +kernel), List.mem_of_getElem? (i := 141) (by decide +kernel), List.mem_of_getElem? (i := 142) (by decide +kernel)⟩
theorem lw_p1 : lw_okq (⟨"java/lang/Throwable", "fillInStackTrace", "(I)Ljava/lang/Throwable;"⟩, 6) := ⟨⟨by decide +kernel, by decide +kernel⟩, List.mem_of_getElem? (i := 182) (by decide +kernel), List.mem_of_getElem? (i := 180) (by decide +kernel), List.mem_of_getElem? (i := 181) (by decide +kernel)⟩
theorem lw_p2 : lw_okq (⟨"WaveWalk", "walkOf", "(I)LWaveWalk$Walk;"⟩, 6) := ⟨⟨by decide +kernel, by decide +kernel⟩, List.mem_of_getElem? (i := 15) (by decide +kernel), List.mem_of_getElem? (i := 292) (by decide +kernel), List.mem_of_getElem? (i := 293) (by decide +kernel)⟩
theorem lw_p3 : lw_okq (⟨"WaveWalkModel", "isNet", "(I)Z"⟩, 14) := ⟨⟨by decide +kernel, by decide +kernel⟩, List.mem_of_getElem? (i := 487) (by decide +kernel), List.mem_of_getElem? (i := 548) (by decide +kernel), List.mem_of_getElem? (i := 549) (by decide +kernel)⟩
theorem lw_p4 : lw_okq (⟨"WaveWalkModel", "right", "(ZI)Z"⟩, 14) := ⟨⟨by decide +kernel, by decide +kernel⟩, List.mem_of_getElem? (i := 487) (by decide +kernel), List.mem_of_getElem? (i := 552) (by decide +kernel), List.mem_of_getElem? (i := 553) (by decide +kernel)⟩
theorem lw_p5 : lw_okq (⟨"WaveWalkModel", "isDoor", "(III)Z"⟩, 14) := ⟨⟨by decide +kernel, by decide +kernel⟩, List.mem_of_getElem? (i := 487) (by decide +kernel), List.mem_of_getElem? (i := 556) (by decide +kernel), List.mem_of_getElem? (i := 557) (by decide +kernel)⟩
theorem lw_p6 : lw_okq (⟨"WaveWalkModel", "finds", "(I)I"⟩, 14) := ⟨⟨by decide +kernel, by decide +kernel⟩, List.mem_of_getElem? (i := 487) (by decide +kernel), List.mem_of_getElem? (i := 572) (by decide +kernel), List.mem_of_getElem? (i := 573) (by decide +kernel)⟩
theorem lw_p7 : lw_okq (⟨"WaveWalkModel", "areAlike", "(III)Z"⟩, 14) := ⟨⟨by decide +kernel, by decide +kernel⟩, List.mem_of_getElem? (i := 487) (by decide +kernel), List.mem_of_getElem? (i := 576) (by decide +kernel), List.mem_of_getElem? (i := 577) (by decide +kernel)⟩
theorem lw_p8 : lw_okq (⟨"WaveWalkModel", "many", "(III)I"⟩, 14) := ⟨⟨by decide +kernel, by decide +kernel⟩, List.mem_of_getElem? (i := 487) (by decide +kernel), List.mem_of_getElem? (i := 580) (by decide +kernel), List.mem_of_getElem? (i := 581) (by decide +kernel)⟩
theorem lw_p9 : lw_okq (⟨"WaveWalkModel", "isWalk", "(I)Z"⟩, 14) := ⟨⟨by decide +kernel, by decide +kernel⟩, List.mem_of_getElem? (i := 487) (by decide +kernel), List.mem_of_getElem? (i := 592) (by decide +kernel), List.mem_of_getElem? (i := 593) (by decide +kernel)⟩
theorem lw_p10 : lw_okq (⟨"WaveWalkModel", "weight", "(I)J"⟩, 14) := ⟨⟨by decide +kernel, by decide +kernel⟩, List.mem_of_getElem? (i := 487) (by decide +kernel), List.mem_of_getElem? (i := 612) (by decide +kernel), List.mem_of_getElem? (i := 613) (by decide +kernel)⟩
theorem lw_p11 : lw_okq (⟨"WaveWalkModel", "shareOf", "(II)J"⟩, 14) := ⟨⟨by decide +kernel, by decide +kernel⟩, List.mem_of_getElem? (i := 487) (by decide +kernel), List.mem_of_getElem? (i := 616) (by decide +kernel), List.mem_of_getElem? (i := 617) (by decide +kernel)⟩
theorem lw_p12 : lw_okq (⟨"WaveWalkModel", "copies", "(II)V"⟩, 14) := ⟨⟨by decide +kernel, by decide +kernel⟩, List.mem_of_getElem? (i := 487) (by decide +kernel), List.mem_of_getElem? (i := 620) (by decide +kernel), List.mem_of_getElem? (i := 621) (by decide +kernel)⟩
theorem lw_p13 : lw_okq (⟨"WaveWalkModel", "goesOn", "(I)Z"⟩, 14) := ⟨⟨by decide +kernel, by decide +kernel⟩, List.mem_of_getElem? (i := 487) (by decide +kernel), List.mem_of_getElem? (i := 624) (by decide +kernel), List.mem_of_getElem? (i := 625) (by decide +kernel)⟩
theorem lw_p14 : lw_okq (⟨"WaveWalkModel", "scale", "(I)I"⟩, 14) := ⟨⟨by decide +kernel, by decide +kernel⟩, List.mem_of_getElem? (i := 487) (by decide +kernel), List.mem_of_getElem? (i := 629) (by decide +kernel), List.mem_of_getElem? (i := 630) (by decide +kernel)⟩
theorem lw_p15 : lw_okq (⟨"WaveWalkModel", "steps", "(I)V"⟩, 14) := ⟨⟨by decide +kernel, by decide +kernel⟩, List.mem_of_getElem? (i := 487) (by decide +kernel), List.mem_of_getElem? (i := 633) (by decide +kernel), List.mem_of_getElem? (i := 634) (by decide +kernel)⟩
def lw_privs_1 : List (MethodName × Nat) := [(⟨"WaveWalk", "netOf", "(I)LWaveWalk$Net;"⟩, 6), (⟨"java/lang/Throwable", "fillInStackTrace", "(I)Ljava/lang/Throwable;"⟩, 6), (⟨"WaveWalk", "walkOf", "(I)LWaveWalk$Walk;"⟩, 6), (⟨"WaveWalkModel", "isNet", "(I)Z"⟩, 14), (⟨"WaveWalkModel", "right", "(ZI)Z"⟩, 14), (⟨"WaveWalkModel", "isDoor", "(III)Z"⟩, 14), (⟨"WaveWalkModel", "finds", "(I)I"⟩, 14), (⟨"WaveWalkModel", "areAlike", "(III)Z"⟩, 14), (⟨"WaveWalkModel", "many", "(III)I"⟩, 14), (⟨"WaveWalkModel", "isWalk", "(I)Z"⟩, 14), (⟨"WaveWalkModel", "weight", "(I)J"⟩, 14), (⟨"WaveWalkModel", "shareOf", "(II)J"⟩, 14), (⟨"WaveWalkModel", "copies", "(II)V"⟩, 14), (⟨"WaveWalkModel", "goesOn", "(I)Z"⟩, 14), (⟨"WaveWalkModel", "scale", "(I)I"⟩, 14), (⟨"WaveWalkModel", "steps", "(I)V"⟩, 14)]
theorem lw_r1 : ∀ q ∈ lw_privs_1, lw_okq q := List.forall_mem_cons.mpr ⟨lw_p0, List.forall_mem_cons.mpr ⟨lw_p1, List.forall_mem_cons.mpr ⟨lw_p2, List.forall_mem_cons.mpr ⟨lw_p3, List.forall_mem_cons.mpr ⟨lw_p4, List.forall_mem_cons.mpr ⟨lw_p5, List.forall_mem_cons.mpr ⟨lw_p6, List.forall_mem_cons.mpr ⟨lw_p7, List.forall_mem_cons.mpr ⟨lw_p8, List.forall_mem_cons.mpr ⟨lw_p9, List.forall_mem_cons.mpr ⟨lw_p10, List.forall_mem_cons.mpr ⟨lw_p11, List.forall_mem_cons.mpr ⟨lw_p12, List.forall_mem_cons.mpr ⟨lw_p13, List.forall_mem_cons.mpr ⟨lw_p14, List.forall_mem_cons.mpr ⟨lw_p15, fun _ h => absurd h List.not_mem_nil⟩⟩⟩⟩⟩⟩⟩⟩⟩⟩⟩⟩⟩⟩⟩⟩
theorem lw_p16 : lw_okq (⟨"WaveWalkModel", "signs", "(I)V"⟩, 14) := ⟨⟨by decide +kernel, by decide +kernel⟩, List.mem_of_getElem? (i := 487) (by decide +kernel), List.mem_of_getElem? (i := 637) (by decide +kernel), List.mem_of_getElem? (i := 638) (by decide +kernel)⟩
theorem lw_p17 : lw_okq (⟨"WaveWalkModel", "turns", "(I)V"⟩, 14) := ⟨⟨by decide +kernel, by decide +kernel⟩, List.mem_of_getElem? (i := 487) (by decide +kernel), List.mem_of_getElem? (i := 641) (by decide +kernel), List.mem_of_getElem? (i := 642) (by decide +kernel)⟩
theorem lw_p18 : lw_okq (⟨"WaveWalkModel", "goes", "(I)V"⟩, 14) := ⟨⟨by decide +kernel, by decide +kernel⟩, List.mem_of_getElem? (i := 487) (by decide +kernel), List.mem_of_getElem? (i := 647) (by decide +kernel), List.mem_of_getElem? (i := 648) (by decide +kernel)⟩
theorem lw_p19 : lw_okq (⟨"WaveWalkModel", "isIn", "(II)Z"⟩, 14) := ⟨⟨by decide +kernel, by decide +kernel⟩, List.mem_of_getElem? (i := 487) (by decide +kernel), List.mem_of_getElem? (i := 663) (by decide +kernel), List.mem_of_getElem? (i := 664) (by decide +kernel)⟩
theorem lw_p20 : lw_okq (⟨"WaveWalkModel", "isMultiple", "(II)Z"⟩, 14) := ⟨⟨by decide +kernel, by decide +kernel⟩, List.mem_of_getElem? (i := 487) (by decide +kernel), List.mem_of_getElem? (i := 679) (by decide +kernel), List.mem_of_getElem? (i := 680) (by decide +kernel)⟩
theorem lw_p21 : lw_okq (⟨"WaveWalkModel", "marked", "(I)J"⟩, 14) := ⟨⟨by decide +kernel, by decide +kernel⟩, List.mem_of_getElem? (i := 487) (by decide +kernel), List.mem_of_getElem? (i := 687) (by decide +kernel), List.mem_of_getElem? (i := 688) (by decide +kernel)⟩
def lw_privs_2 : List (MethodName × Nat) := [(⟨"WaveWalkModel", "signs", "(I)V"⟩, 14), (⟨"WaveWalkModel", "turns", "(I)V"⟩, 14), (⟨"WaveWalkModel", "goes", "(I)V"⟩, 14), (⟨"WaveWalkModel", "isIn", "(II)Z"⟩, 14), (⟨"WaveWalkModel", "isMultiple", "(II)Z"⟩, 14), (⟨"WaveWalkModel", "marked", "(I)J"⟩, 14)]
theorem lw_r2 : ∀ q ∈ lw_privs_2, lw_okq q := List.forall_mem_cons.mpr ⟨lw_p16, List.forall_mem_cons.mpr ⟨lw_p17, List.forall_mem_cons.mpr ⟨lw_p18, List.forall_mem_cons.mpr ⟨lw_p19, List.forall_mem_cons.mpr ⟨lw_p20, List.forall_mem_cons.mpr ⟨lw_p21, fun _ h => absurd h List.not_mem_nil⟩⟩⟩⟩⟩⟩
def lw_privs : List (MethodName × Nat) := lw_privs_1 ++ (lw_privs_2)
def lw_tbl : List Cond := k2_sels lw_privs ++ tables_1
theorem lw_privs_ok : ∀ q ∈ lw_privs, lw_okq q := by
  show ∀ q ∈ lw_privs_1 ++ (lw_privs_2), lw_okq q
  exact List.forall_mem_append.mpr ⟨lw_r1, lw_r2⟩
end
section
/-! ===== BEGIN words of one list among another's, by their places ===== -/
theorem goodIn_r {big : List Cond} (ws : List Cond) (ps : List Nat) (hp : ws = ps.filterMap (fun i => big[i]?)) (h : ws.all goodWord = true) : GoodIn big ws := by
  intro w hw
  have h1 := List.all_eq_true.mp h w hw
  rw [hp] at hw
  obtain ⟨i, -, hi⟩ := List.mem_filterMap.mp hw
  have hm : w ∈ big := by first | exact List.mem_of_getElem? hi | exact List.getElem?_mem hi
  exact ⟨hm, good_of_word h1⟩
theorem goodIn_app {big a b : List Cond} (ha : GoodIn big a) (hb : GoodIn big b) : GoodIn big (a ++ b) := fun w h => (List.mem_append.mp h).elim (ha w) (hb w)
theorem goodIn_ca {big a b : List Cond} {c : Cond} (ha : GoodIn big (c :: a)) (hb : GoodIn big b) : GoodIn big (c :: (a ++ b)) := fun w h => (List.mem_cons.mp h).elim (fun e => ha w (List.mem_cons.mpr (Or.inl e))) (fun h => (List.mem_append.mp h).elim (fun h => ha w (List.mem_cons.mpr (Or.inr h))) (hb w))
theorem goodIn_sub {big ws : List Cond} (hm : ∀ w ∈ ws, w ∈ big) (h : ws.all goodWord = true) : GoodIn big ws := fun w hw => ⟨hm w hw, good_of_word (List.all_eq_true.mp h w hw)⟩
/-! ===== END ===== -/

/-! ===== BEGIN exceptions that leave a method, and their catching by the caller (launches without stack traces) ===== -/
section VXA
/-! The laws vx_back, vx_callV, vx_callS, vx_callSW, vx_throw0, vx_throwS follow proofs of the library, with one case more: JvmDerived/Free/Laws.lean (Back.of_free), Shelf42/LK1.lean (callV, callS), Shelf/KitTraced.lean (throwNew0V, throwNewS). -/
/-- where a method has thrown q: the class by its name, the cell, what was written, the world -/
def vx_T (XC : String → State → State → Prop) (st : State) (q : Addr) (t : State) (mc ms : Nat) (free : Addr → Prop) : Prop :=
  ∃ (E : String) (ce : Cell) (L : List Loc), XC E st t ∧ t.heap[q]? = some ce ∧ ce.vm = .none ∧ st.vm.findClass E = some ce.cls ∧ st.WarmedH t.vm ∧ st.sameButNew ({ t with vm := st.vm } : State) L mc ms ∧ ∀ z ∈ L, free z.base
def vx_Q (Qc : Array Value → State → Outcome → State → Prop) (XC : String → State → State → Prop) (mc ms : Nat) (free : Addr → Prop) : Array Value → State → Outcome → State → Prop := fun a st o t =>
  (Qc a st o t ∧ ∃ L, FrameEnd st o t L mc ms ∧ ∀ q ∈ L, free q.base) ∨ ∃ q, o = .threw q ∧ vx_T XC st q t mc ms free
/-- a callee that returns or throws -/
def vx_Met (l : Launch) (y : MethodName) (ws : List Cond) (rm : Room) (Pc : Array Value → State → Prop) (Qc : Array Value → State → Outcome → State → Prop) (XC : String → State → State → Prop) (mc ms : Nat) (free : Addr → Prop) : Prop :=
  MetFree l y (headSpec ws rm) Pc (fun _ _ _ _ _ => True) (vx_Q Qc XC mc ms free)
def vx_Post (XC : String → State → State → Prop) (mc ms : Nat) (free : Addr → Prop) : Pt → Array Value → Addr → Pt → Prop := fun A a q B =>
  ∃ (g : JFrame) (mk : MethodId) (t : State) (L : List Loc) (E : String) (ce : Cell), B.U.heap = t.heap ∧ B.U.vm = t.vm ∧ XC E (A.U.calling g mk a) t ∧ t.heap[q]? = some ce ∧ ce.vm = .none ∧ A.U.vm.findClass E = some ce.cls ∧ B.locs = A.locs ++ L ∧ (∀ z ∈ L, free z.base) ∧ B.cells = A.cells + mc ∧ B.slots = A.slots + ms
def vx_Back (l : Launch) (R : Room) (p : Program) (e : Env) (below : List Frame) (s : State) (sargs : Array Value) (y : MethodName) (len W9 : Nat)
    (Pre : Pt → Array Value → Prop) (Post : Pt → Array Value → Option Value → Pt → Prop) (PostX : Pt → Array Value → Addr → Pt → Prop) : Prop :=
  ∀ (m : MethodId) (meth : Method) (c : Code) (A : Pt) (g : JFrame) (ig : Instr) (mk : MethodId) (a : Array Value),
    Stand p l e R s m sargs below meth c A.U A.locs A.cells A.slots → g.method = m → g.locals.size = c.maxLocals → decode c.code g.pc = .ok (ig, len) →
    2 * g.monitorRoom + (g.stack.map fun v => v.category).sum ≤ W9 → A.U.methodNamed? y = some mk → Pre A a →
    (∃ (v : Option Value) (B : Pt), Stand p l e R s m sargs below meth c B.U B.locs B.cells B.slots ∧ Post A a v B ∧
      Steps p.tables e below (doInvoke e (A.U.setTop g) [] mk a).1 (B.U.setTop { g with pc := g.pc + len, stack := v.toList ++ g.stack })) ∨
    (∃ (q : Addr) (B : Pt), Stand p l e R s m sargs below meth c B.U B.locs B.cells B.slots ∧ PostX A a q B ∧
      Steps p.tables e below (doInvoke e (A.U.setTop g) [] mk a).1 ((B.U.setTop g).pushFrame (.throwing q)))
section Payer
variable {l : Launch} {R : Room} {p : Program} {e : Env} {below : List Frame} {s : State} {sargs : Array Value} {y : MethodName} {len W9 : Nat}
theorem vx_back {ws : List Cond} {rm : Room} {Pc : Array Value → State → Prop} {Qc : Array Value → State → Outcome → State → Prop} {XC : String → State → State → Prop} {mc ms : Nat} {free : Addr → Prop} {bytes : ByteArray} {maxL : Nat} {ret : Option FieldType}
    (hM : vx_Met l y ws rm Pc Qc XC mc ms free) (hblind : FrameBlind Pc) (hrc : rm.cells = mc) (hrs : rm.slots = ms)
    (hframes : rm.frames + 1 ≤ R.frames) (hlocals : W9 + (maxL + 11) + rm.locals ≤ R.locals)
    (hws : ∀ w ∈ ws, ∀ a' U, s.WarmedH U.vm → w.before a' U = true) (hcode : Cond.code y bytes maxL ret ∈ ws) (hinit : ∀ a' U, s.WarmedH U.vm → (Cond.initialized y.cls).before a' U = true) :
    vx_Back l R p e below s sargs y len W9 (PreOf R mc ms Pc) (PostOf Qc mc ms free) (vx_Post XC mc ms free) := by
  intro m meth c A g ig mk a X hg hsize hdg hW hn hp
  have h1 : (headSpec ws rm).pre.before a A.U = true := atoms_intro fun w hw => hws w hw _ _ X.warmed
  have h2 : (Cond.code y bytes maxL ret).before a A.U = true := hws _ hcode _ _ X.warmed
  have h3 : (Cond.initialized y.cls).before a A.U = true := hinit _ _ X.warmed
  have h4 : A.cells + (headSpec ws rm).room.cells ≤ R.cells := by rw [show (headSpec ws rm).room.cells = mc from hrc]; exact hp.1
  have h5 : A.slots + (headSpec ws rm).room.slots ≤ R.slots := by rw [show (headSpec ws rm).room.slots = ms from hrs]; exact hp.2.1
  have hPc : Pc a (A.U.calling g mk a) := hblind _ _ _ _ hp.2.2
  obtain ⟨U, Ls, c0, s0⟩ := A
  dsimp only [Pt.U, Pt.locs, Pt.cells, Pt.slots] at h1 h2 h3 h4 h5 X hn hPc ⊢
  obtain ⟨methY, cY, hmY, hcY, -, hlY, -, -, -, -⟩ := Cond.code_spec hn h2
  obtain ⟨kY, hkY, -⟩ := className_of_methodNamed hn
  have hinitY : kY.init = .initialized := Cond.initialized_spec (findClass_of_methodNamed hn) hkY h3
  have h : At U g.method c below := by rw [hg]; exact X.here
  have hlocals9 : W9 + (maxL + 11) + (headSpec ws rm).room.locals ≤ R.locals := hlocals
  have happ : (headSpec ws rm).appliesLoose y e.platform (U.calling g mk a) = true :=
    Spec.appliesLoose_calling (g := g) h hdg hn hkY hinitY
      (X.room_calling (g := g) (R' := (headSpec ws rm).room) hsize hmY hcY hframes (by rw [hlY]; omega) h4 h5) h1
  obtain ⟨mid, hmid⟩ := h.above
  have hfr : (U.setTop g).frames = (.java g :: mid) ++ below := by rw [State.frames_setTop' g h.top, hmid]; rfl
  obtain ⟨o, s₂, hsteps, -, hend, hq⟩ := Steps.callFree hM p X.admits X.cas X.clock (acts := []) hfr happ hPc trivial
  have hq' : vx_Q Qc XC mc ms free a (U.calling g mk a) o s₂ := hq
  rw [State.frames_setTop' g h.top] at hend
  obtain ⟨g₀, hg0⟩ := Option.isSome_iff_exists.mp h.top
  obtain ⟨r, hr⟩ := State.topJava?_eq_some.mp hg0
  have hr' : (({ U with heap := s₂.heap, slotsUsed := s₂.slotsUsed } : State).setVm s₂.vm).frames = .java g₀ :: r := hr
  rcases hq' with ⟨hqc, L, hfe, hL⟩ | ⟨q, rfl, E, ce, L, hx, hce, hcv, hcl, hW₂, hsm, hL⟩
  · obtain ⟨⟨v, rfl⟩, hW₂, e2, q2, q3, q4, q5, q6⟩ := id hfe
    have e3 : s₂ = ({ (U.calling g mk a).setFrames s₂.frames with heap := s₂.heap, slotsUsed := s₂.slotsUsed } : State).setVm s₂.vm := by
      have : s₂ = ({ s₂ with vm := (U.calling g mk a).vm } : State).setVm s₂.vm := rfl
      rw [e2] at this
      exact this
    obtain ⟨c₂, i₂, len₂, hc₂, hd₂, hf₂⟩ := hend
    have hW' : U.WarmedH s₂.vm := hW₂
    have hcc : c₂ = c := by
      have h1 : s₂.code? g.method = U.code? g.method := by
        rw [State.code?_eq, State.code?_eq, hW'.alike.method?]
      exact Option.some.inj (hc₂.symm.trans (h1.trans h.code))
    subst hcc
    have hlen : len₂ = len := by rw [hdg] at hd₂; cases hd₂; rfl
    subst hlen
    have hs₂ : s₂ = (({ U with heap := s₂.heap, slotsUsed := s₂.slotsUsed } : State).setVm s₂.vm).setTop { g with pc := g.pc + len₂, stack := v.toList ++ g.stack } := by
      refine e3.trans ?_
      rw [hf₂, State.calling_eq h.top, State.setFrames_setFrames, State.setTop_of_frames _ hr', hr]
      rfl
    have hsame : U.sameButNew ({ U with heap := s₂.heap, slotsUsed := s₂.slotsUsed } : State) L mc ms := by
      refine ⟨?_, q2, q3, q4, q5, q6⟩
      obtain ⟨t, ht, -⟩ := State.frames_cons hr
      show ({ U with heap := s₂.heap, slotsUsed := s₂.slotsUsed } : State) = { U.setFrames U.frames with heap := s₂.heap, slotsUsed := s₂.slotsUsed }
      rw [State.setFrames_self ht]
    subst hg
    refine Or.inl ⟨v, ⟨(({ U with heap := s₂.heap, slotsUsed := s₂.slotsUsed } : State).setVm s₂.vm), Ls ++ L, c0 + mc, s0 + ms⟩,
      ⟨X.admits, X.cas, X.clock, X.frames, X.room, X.hears, X.method, X.code, (X.here.setHeapUsed s₂.heap s₂.slotsUsed).setVm hW'.alike, X.tail, State.WarmedH.trans X.warmed hW', X.limits, X.bytes, X.same.trans (hsame.setVm s.vm)⟩,
      ⟨g, mk, s₂, L, rfl, rfl, hqc, rfl, hL, rfl, rfl⟩, ?_⟩
    show Steps p.tables e below _ ((({ U with heap := s₂.heap, slotsUsed := s₂.slotsUsed } : State).setVm s₂.vm).setTop { g with pc := g.pc + len₂, stack := v.toList ++ g.stack })
    rw [← hs₂]
    exact hsteps
  · obtain ⟨e2, q2, q3, q4, q5, q6⟩ := id hsm
    have e3 : s₂ = ({ (U.calling g mk a).setFrames s₂.frames with heap := s₂.heap, slotsUsed := s₂.slotsUsed } : State).setVm s₂.vm := by
      have : s₂ = ({ s₂ with vm := (U.calling g mk a).vm } : State).setVm s₂.vm := rfl
      rw [e2] at this
      exact this
    have hf₂ : s₂.frames = .throwing q :: .java g :: U.frames.tail := hend
    have hW' : U.WarmedH s₂.vm := hW₂
    have hs₂ : s₂ = ((({ U with heap := s₂.heap, slotsUsed := s₂.slotsUsed } : State).setVm s₂.vm).setTop g).pushFrame (.throwing q) := by
      refine e3.trans ?_
      rw [hf₂, State.calling_eq h.top, State.setFrames_setFrames, State.pushFrame, State.frames_setTop _ hr', State.setTop_of_frames _ hr', State.setFrames_setFrames, hr]
      rfl
    have hsame : U.sameButNew ({ U with heap := s₂.heap, slotsUsed := s₂.slotsUsed } : State) L mc ms := by
      refine ⟨?_, q2, q3, q4, q5, q6⟩
      obtain ⟨t, ht, -⟩ := State.frames_cons hr
      show ({ U with heap := s₂.heap, slotsUsed := s₂.slotsUsed } : State) = { U.setFrames U.frames with heap := s₂.heap, slotsUsed := s₂.slotsUsed }
      rw [State.setFrames_self ht]
    subst hg
    refine Or.inr ⟨q, ⟨(({ U with heap := s₂.heap, slotsUsed := s₂.slotsUsed } : State).setVm s₂.vm), Ls ++ L, c0 + mc, s0 + ms⟩,
      ⟨X.admits, X.cas, X.clock, X.frames, X.room, X.hears, X.method, X.code, (X.here.setHeapUsed s₂.heap s₂.slotsUsed).setVm hW'.alike, X.tail, State.WarmedH.trans X.warmed hW', X.limits, X.bytes, X.same.trans (hsame.setVm s.vm)⟩,
      ⟨g, mk, s₂, L, E, ce, rfl, rfl, hx, hce, hcv, hcl, rfl, hL, rfl, rfl⟩, ?_⟩
    show Steps p.tables e below _ (((({ U with heap := s₂.heap, slotsUsed := s₂.slotsUsed } : State).setVm s₂.vm).setTop g).pushFrame (.throwing q))
    rw [← hs₂]
    exact hsteps
end Payer
section Calls
variable {p : Program} {l : Launch} {e : Env} {R : Room} {s : State} {m : MethodId} {args : Array Value} {below : List Frame} {meth : Method} {c : Code} {T : State} {locs : List Loc} {cells slots : Nat}
theorem vx_callV (X : Stand p l e R s m args below meth c T locs cells slots) (hexec : p.tables.exec = Jvm.exec) {own C : String} {index : Nat} {y : MethodName} {bytes : ByteArray} {maxL : Nat} {ret : Option FieldType}
    (hown : s.vm.findClass own = some m.cls) (hlink : (Cond.methodLink own index y).before args s = true) (hinst : (Cond.instanceMethod y).before args s = true) (hsel : (Cond.selects C y y).before args s = true)
    (hcode : (Cond.code y bytes maxL ret).before args s = true) (hy : y.cls ≠ "java/lang/invoke/MethodHandle" ∧ y.cls ≠ "java/lang/invoke/VarHandle")
    {W9 : Nat} {Pre : Pt → Array Value → Prop} {Post : Pt → Array Value → Option Value → Pt → Prop} {PostX : Pt → Array Value → Addr → Pt → Prop} (hK : vx_Back l R p e below s args y 3 W9 Pre Post PostX)
    {b : Addr} {cellB : Cell} (hcell : T.heap[b]? = some cellB) (hobj : cellB.vm.isStatics = false) (hcls : s.vm.findClass C = some cellB.cls)
    {g : JFrame} (hg : g.method = m) (hsize : g.locals.size = c.maxLocals) {argsL rest : List Value} (hlen : ∀ sig, parseMethodDescriptor y.desc = some sig → argsL.length = sig.parameters.length)
    (hstack : g.stack = argsL.reverse ++ .ref b :: rest) (hW : 2 * g.monitorRoom + (rest.map fun v => v.category).sum ≤ W9) (hdg : decode c.code g.pc = .ok (.invokevirtual index, 3))
    (hpre : ∀ vm₁, s.WarmedH vm₁ → Pre ⟨T.setVm vm₁, locs, cells, slots⟩ (Value.ref b :: argsL).toArray) :
    (∃ (v : Option Value) (vm₁ : Vm) (B : Pt), s.WarmedH vm₁ ∧ Stand p l e R s m args below meth c B.U B.locs B.cells B.slots ∧ Post ⟨T.setVm vm₁, locs, cells, slots⟩ (Value.ref b :: argsL).toArray v B ∧
      ∀ target, Steps p.tables e below (B.U.setTop { g with pc := g.pc + 3, stack := v.toList ++ rest }) target → Steps p.tables e below (T.setTop g) target) ∨
    (∃ (q : Addr) (vm₁ : Vm) (B : Pt), s.WarmedH vm₁ ∧ Stand p l e R s m args below meth c B.U B.locs B.cells B.slots ∧ PostX ⟨T.setVm vm₁, locs, cells, slots⟩ (Value.ref b :: argsL).toArray q B ∧
      Steps p.tables e below (T.setTop g) ((B.U.setTop { g with stack := rest }).pushFrame (.throwing q))) := by
  obtain ⟨mk, methM, hnamed, hmethM, hstM, habM⟩ := Cond.instanceMethod_spec hinst
  obtain ⟨methM', cM, hmethM', -, -, -, -, -, -, hsigM⟩ := Cond.code_spec hnamed hcode
  cases hmethM.symm.trans hmethM'
  obtain ⟨c2, r2, m2, q1, q2, q3, q4, kP, hkP, hkPi⟩ := Cond.selects_spec hsel
  cases hcls.symm.trans q1
  cases (State.methodFound?_of_named hnamed hy).symm.trans q2
  cases hnamed.symm.trans q3
  have hselP : selectMethod e.platform s.vm cellB.cls mk = .method mk := by rw [Launch.admits_selectMethod X.admits]; exact q4
  obtain ⟨vm₁, X₁, hstep₁⟩ := X.invokevirtual hexec hown hlink hnamed hmethM hstM hkP hkPi hy (a := b) (cell := cellB) hcell
    (fun z h => by rw [h] at hobj; cases hobj) hselP hmethM habM hkP hkPi (g := g) hg (argsL := argsL) (rest := rest) (hlen _ hsigM) hstack hdg
  rcases hK m meth c ⟨T.setVm vm₁, locs, cells, slots⟩ { g with stack := rest } (.invokevirtual index) mk (Value.ref b :: argsL).toArray X₁ hg hsize hdg hW (X₁.named hnamed) (hpre vm₁ X₁.warmed) with ⟨v, B, X', hpost, hsteps⟩ | ⟨q, B, X', hpost, hsteps⟩
  · exact Or.inl ⟨v, vm₁, B, X₁.warmed, X', hpost, fun target h => hstep₁ _ fun acts => by rw [doInvoke_state]; exact hsteps.trans h⟩
  · exact Or.inr ⟨q, vm₁, B, X₁.warmed, X', hpost, hstep₁ _ fun acts => by rw [doInvoke_state]; exact hsteps⟩
theorem vx_callS (X : Stand p l e R s m args below meth c T locs cells slots) (hexec : p.tables.exec = Jvm.exec) {own : String} {index : Nat} {y : MethodName} {bytes : ByteArray} {maxL : Nat} {ret : Option FieldType}
    (hown : s.vm.findClass own = some m.cls) (hlink : (Cond.methodLink own index y).before args s = true) (hstat : (Cond.static y).before args s = true) (hinit : (Cond.initialized y.cls).before args s = true)
    (hcode : (Cond.code y bytes maxL ret).before args s = true) (hy : y.cls ≠ "java/lang/invoke/MethodHandle" ∧ y.cls ≠ "java/lang/invoke/VarHandle")
    {W9 : Nat} {Pre : Pt → Array Value → Prop} {Post : Pt → Array Value → Option Value → Pt → Prop} {PostX : Pt → Array Value → Addr → Pt → Prop} (hK : vx_Back l R p e below s args y 3 W9 Pre Post PostX)
    {g : JFrame} (hg : g.method = m) (hsize : g.locals.size = c.maxLocals) {argsL rest : List Value} (hlen : ∀ sig, parseMethodDescriptor y.desc = some sig → argsL.length = sig.parameters.length)
    (hstack : g.stack = argsL.reverse ++ rest) (hW : 2 * g.monitorRoom + (rest.map fun v => v.category).sum ≤ W9) (hdg : decode c.code g.pc = .ok (.invokestatic index, 3))
    (hpre : ∀ vm₁, s.WarmedH vm₁ → Pre ⟨T.setVm vm₁, locs, cells, slots⟩ argsL.toArray) :
    (∃ (v : Option Value) (vm₁ : Vm) (B : Pt), s.WarmedH vm₁ ∧ Stand p l e R s m args below meth c B.U B.locs B.cells B.slots ∧ Post ⟨T.setVm vm₁, locs, cells, slots⟩ argsL.toArray v B ∧
      ∀ target, Steps p.tables e below (B.U.setTop { g with pc := g.pc + 3, stack := v.toList ++ rest }) target → Steps p.tables e below (T.setTop g) target) ∨
    (∃ (q : Addr) (vm₁ : Vm) (B : Pt), s.WarmedH vm₁ ∧ Stand p l e R s m args below meth c B.U B.locs B.cells B.slots ∧ PostX ⟨T.setVm vm₁, locs, cells, slots⟩ argsL.toArray q B ∧
      Steps p.tables e below (T.setTop g) ((B.U.setTop { g with stack := rest }).pushFrame (.throwing q))) := by
  obtain ⟨mk, hnamed⟩ := Cond.code_named hcode
  obtain ⟨methM, cM, hmethM, -, -, -, -, -, -, hsigM⟩ := Cond.code_spec hnamed hcode
  have hstatic : methM.isStatic = true := Cond.static_spec hnamed hmethM hstat
  obtain ⟨kP, hkP, -⟩ := className_of_methodNamed hnamed
  have hinitP : kP.init = .initialized := Cond.initialized_spec (findClass_of_methodNamed hnamed) hkP hinit
  obtain ⟨vm₁, X₁, hstep₁⟩ := X.invokestatic hexec hown hlink hnamed hmethM hstatic hkP hinitP hy (g := g) hg (argsL := argsL) (rest := rest) (hlen _ hsigM) hstack hdg
  rcases hK m meth c ⟨T.setVm vm₁, locs, cells, slots⟩ { g with stack := rest } (.invokestatic index) mk argsL.toArray X₁ hg hsize hdg hW (X₁.named hnamed) (hpre vm₁ X₁.warmed) with ⟨v, B, X', hpost, hsteps⟩ | ⟨q, B, X', hpost, hsteps⟩
  · exact Or.inl ⟨v, vm₁, B, X₁.warmed, X', hpost, fun target h => hstep₁ _ fun acts => by rw [doInvoke_state]; exact hsteps.trans h⟩
  · exact Or.inr ⟨q, vm₁, B, X₁.warmed, X', hpost, hstep₁ _ fun acts => by rw [doInvoke_state]; exact hsteps⟩
end Calls
theorem vx_cls {s : State} {T : State} {vm₁ : Vm} {E : String} {k : ClassId} (hW : s.WarmedH vm₁) (h : (T.setVm vm₁).vm.findClass E = some k) : s.vm.findClass E = some k := by
  have h1 : vm₁.findClass E = some k := h
  rw [hW.alike.findClass] at h1
  exact h1
/-- the method's frame g, with q thrown over it -/
def vx_W (p : Program) (l : Launch) (e : Env) (R : Room) (s : State) (m : MethodId) (args : Array Value) (below : List Frame) (meth : Method) (c : Code) (H : Heap) (locs : List Loc) (cells slots : Nat) (Q : State → Prop) (g : JFrame) (q : Addr) : Prop :=
  ∀ T : State, T.heap = H → Stand p l e R s m args below meth c T locs cells slots → ∃ t, Steps p.tables e below ((T.setTop g).pushFrame (.throwing q)) t ∧ Q t
def vx_Run (p : Program) (l : Launch) (e : Env) (R : Room) (s : State) (m : MethodId) (args : Array Value) (below : List Frame) (meth : Method) (c : Code) (H : Heap) (locs : List Loc) (cells slots mc ms : Nat) (g : JFrame) (rest : List Value) (Qa : State → Outcome → State → Prop) (XC : String → State → State → Prop) (free : Addr → Prop) : Prop :=
  ∀ T : State, T.heap = H → Stand p l e R s m args below meth c T locs cells slots →
    (∃ (v : Option Value) (st₀ t T' : State) (L : List Loc), st₀.heap = H ∧ Stand p l e R s m args below meth c T' (locs ++ L) (cells + mc) (slots + ms) ∧ (∀ q ∈ L, free q.base) ∧ T'.heap = t.heap ∧ T'.vm = t.vm ∧ Qa st₀ (.returned v) t ∧
      Goes p e below T g T' { g with pc := g.pc + 3, stack := v.toList ++ rest }) ∨
    (∃ (q : Addr) (st₀ t T' : State) (L : List Loc) (E : String) (ce : Cell), st₀.heap = H ∧ Stand p l e R s m args below meth c T' (locs ++ L) (cells + mc) (slots + ms) ∧ (∀ z ∈ L, free z.base) ∧ T'.heap = t.heap ∧ T'.vm = t.vm ∧ XC E st₀ t ∧ t.heap[q]? = some ce ∧ ce.vm = .none ∧ s.vm.findClass E = some ce.cls ∧
      Steps p.tables e below (T.setTop g) ((T'.setTop { g with stack := rest }).pushFrame (.throwing q)))
def vx_X {S : Type} (px : S → Prop) (B : String → S → State → Prop) (A : Nat → Prop) : String → State → State → Prop := fun E st t => ∃ u : S, px u ∧ B E u t ∧ va_F A st t
section Runs
variable {p : Program} {l : Launch} {e : Env} {R : Room} {s : State} {m : MethodId} {args : Array Value} {below : List Frame} {meth : Method} {c : Code} {H : Heap} {locs : List Loc} {cells slots : Nat}
variable {y : MethodName} {bytes cc : ByteArray} {maxL nL mc ms n index : Nat} {ret : Option FieldType} {ws : List Cond} {rm : Room} {Pc : Array Value → State → Prop} {Qc : Array Value → State → Outcome → State → Prop} {XC : String → State → State → Prop} {free : Addr → Prop} {Ts : List Cond} {own C : String} {b : Addr} {As rest : List Value} {g : JFrame}
theorem vx_callBack (cb : CallB R s args own index y bytes maxL ret ws rm mc ms n) (hM : vx_Met l y ws rm Pc Qc XC mc ms free) (hbl : FrameBlind Pc) : vx_Back l R p e below s args y 3 8 (PreOf R mc ms Pc) (PostOf Qc mc ms free) (vx_Post XC mc ms free) := by
  obtain ⟨hrc, hrs, hfr, hlo, hws, hcw, -, hini, -⟩ := cb
  exact vx_back (bytes := bytes) (maxL := maxL) (ret := ret) hM hbl hrc hrs hfr hlo hws hcw (fun a' U hW => word_at hW (Or.inl (by first | rfl | simp [Cond.onTables, Cond.keeps, Cond.steady])) hini)
theorem vx_runV (S : CallFix p m c cc nL s args Ts own) (hM : vx_Met l y ws rm Pc Qc XC mc ms free) (cw : CallW R s args own C index y bytes maxL ret ws rm mc ms n) (hp : PreV s H C b Pc As)
    (hg : g.method = m) (hn : As.length = n) (hsize : g.locals.size = nL) (hstack : g.stack = As.reverse ++ .ref b :: rest) (hW : 2 * g.monitorRoom + (rest.map fun v => v.category).sum ≤ 8) (hdg : decode cc g.pc = .ok (.invokevirtual index, 3)) (hf : cells + mc ≤ R.cells ∧ slots + ms ≤ R.slots) :
    vx_Run p l e R s m args below meth c H locs cells slots mc ms g rest (Qc (Value.ref b :: As).toArray) XC free := by
  have hK : vx_Back l R p e below s args y 3 8 (PreOf R mc ms Pc) (PostOf Qc mc ms free) (vx_Post XC mc ms free) := vx_callBack cw.1 hM hp.1
  obtain ⟨⟨-, -, -, -, -, -, hcode, -, hy, hlen, hl⟩, hin, hse⟩ := cw
  obtain ⟨hx, hb, hml, ho, -⟩ := S
  obtain ⟨-, ⟨cellB, hcB, hoB, hclB⟩, hPc⟩ := hp
  intro T hT X
  rcases vx_callV X hx (C := C) (bytes := bytes) (maxL := maxL) (ret := ret) ho hl hin hse hcode hy hK (by rw [hT]; exact hcB) hoB hclB hg (hsize.trans hml.symm) (argsL := As) (rest := rest) (fun sig h => hn.trans (hlen sig h)) hstack hW (by rw [hb]; exact hdg)
    (fun vm₁ hW₁ => ⟨hf.1, hf.2, hPc (T.setVm vm₁) hT hW₁⟩) with ⟨v, vm₁, ⟨U', l2, c2, s2⟩, hW₁, X', ⟨g', mk, t, L, e1, e2, hq, h1, hL, h2, h3⟩, st⟩ | ⟨q, vm₁, ⟨U', l2, c2, s2⟩, hW₁, X', ⟨g', mk, t, L, E, ce, e1, e2, hq, hce, hcv, hcl, h1, hL, h2, h3⟩, st⟩
  · dsimp only [Pt.U, Pt.locs, Pt.cells, Pt.slots] at X' e1 e2 h1 h2 h3 st
    subst h1; subst h2; subst h3
    exact Or.inl ⟨v, (T.setVm vm₁).calling g' mk (Value.ref b :: As).toArray, t, U', L, hT, X', hL, e1, e2, hq, st⟩
  · dsimp only [Pt.U, Pt.locs, Pt.cells, Pt.slots] at X' e1 e2 h1 h2 h3 st hcl
    subst h1; subst h2; subst h3
    exact Or.inr ⟨q, (T.setVm vm₁).calling g' mk (Value.ref b :: As).toArray, t, U', L, E, ce, hT, X', hL, e1, e2, hq, hce, hcv, vx_cls hW₁ hcl, st⟩
theorem vx_runS (S : CallFix p m c cc nL s args Ts own) (hM : vx_Met l y ws rm Pc Qc XC mc ms free) (cw : CallB R s args own index y bytes maxL ret ws rm mc ms n ∧ (Cond.static y).before args s = true) (hp : PreS s H Pc As)
    (hg : g.method = m) (hn : As.length = n) (hsize : g.locals.size = nL) (hstack : g.stack = As.reverse ++ rest) (hW : 2 * g.monitorRoom + (rest.map fun v => v.category).sum ≤ 8) (hdg : decode cc g.pc = .ok (.invokestatic index, 3)) (hf : cells + mc ≤ R.cells ∧ slots + ms ≤ R.slots) :
    vx_Run p l e R s m args below meth c H locs cells slots mc ms g rest (Qc As.toArray) XC free := by
  have hK : vx_Back l R p e below s args y 3 8 (PreOf R mc ms Pc) (PostOf Qc mc ms free) (vx_Post XC mc ms free) := vx_callBack cw.1 hM hp.1
  obtain ⟨⟨-, -, -, -, -, -, hcode, hini, hy, hlen, hl⟩, hstt⟩ := cw
  obtain ⟨hx, hb, hml, ho, -⟩ := S
  intro T hT X
  rcases vx_callS X hx (bytes := bytes) (maxL := maxL) (ret := ret) ho hl hstt hini hcode hy hK hg (hsize.trans hml.symm) (argsL := As) (rest := rest) (fun sig h => hn.trans (hlen sig h)) hstack hW (by rw [hb]; exact hdg)
    (fun vm₁ hW₁ => ⟨hf.1, hf.2, hp.2 (T.setVm vm₁) hT hW₁⟩) with ⟨v, vm₁, ⟨U', l2, c2, s2⟩, hW₁, X', ⟨g', mk, t, L, e1, e2, hq, h1, hL, h2, h3⟩, st⟩ | ⟨q, vm₁, ⟨U', l2, c2, s2⟩, hW₁, X', ⟨g', mk, t, L, E, ce, e1, e2, hq, hce, hcv, hcl, h1, hL, h2, h3⟩, st⟩
  · dsimp only [Pt.U, Pt.locs, Pt.cells, Pt.slots] at X' e1 e2 h1 h2 h3 st
    subst h1; subst h2; subst h3
    exact Or.inl ⟨v, (T.setVm vm₁).calling g' mk As.toArray, t, U', L, hT, X', hL, e1, e2, hq, st⟩
  · dsimp only [Pt.U, Pt.locs, Pt.cells, Pt.slots] at X' e1 e2 h1 h2 h3 st hcl
    subst h1; subst h2; subst h3
    exact Or.inr ⟨q, (T.setVm vm₁).calling g' mk As.toArray, t, U', L, E, ce, hT, X', hL, e1, e2, hq, hce, hcv, vx_cls hW₁ hcl, st⟩
end Runs
section Rows
variable {p : Program} {l : Launch} {e : Env} {R : Room} {s : State} {m : MethodId} {args : Array Value} {below : List Frame} {meth : Method} {c : Code} {H : Heap} {locs : List Loc} {cells slots : Nat} {Q : State → Prop}
variable {mc ms : Nat} {free : Addr → Prop} {A0 A1 : Nat → Prop} {H0 : Heap} {a : Array Value} {pc : Nat} {ls : Array Slot} {st0 rest : List Value}
theorem vx_keep {st₀ t T' : State} {L : List Loc} (h0 : st₀.heap = H) (e1 : T'.heap = t.heap) (hS : va_S A0 H0 H locs) (hA : ∀ q, q < H.size → A1 q → A0 q) (hf : ∀ q, free q → A0 q) (hL : ∀ q ∈ L, free q.base) (hF : va_F A1 st₀ t) :
    H.size ≤ T'.heap.size ∧ (∀ q : Nat, q < H.size → ¬ A1 q → T'.heap[q]? = H[q]?) ∧ va_S A0 H0 T'.heap (locs ++ L) := by
  obtain ⟨hz, hk⟩ := hF
  rw [h0] at hz hk
  exact ⟨by rw [e1]; exact hz, fun q h1 h2 => by rw [e1]; exact hk q h1 h2,
    ⟨Nat.le_trans hS.1 (by rw [e1]; exact hz), fun q h1 h2 => by rw [e1, hk q (Nat.lt_of_lt_of_le h1 hS.1) (fun z => h2 (hA q (Nat.lt_of_lt_of_le h1 hS.1) z))]; exact hS.2.1 q h1 h2, fun q hq => by
      rcases List.mem_append.mp hq with h | h
      · exact hS.2.2 q h
      · exact hf _ (hL q h)⟩⟩
theorem vx_calli {S SX : Type} {post : Int32 → S → Prop} {px : SX → Prop} {B : S → State → Prop} {BX : String → SX → State → Prop} {AX : Nat → Prop} (hr : vx_Run p l e R s m args below meth c H locs cells slots mc ms (F0 m pc ls st0) rest (va_Qi post B A1 a) (vx_X px BX AX) free) (hS : va_S A0 H0 H locs) (hA : ∀ q, q < H.size → A1 q → A0 q) (hf : ∀ q, free q → A0 q) (hAX : ∀ q, q < H.size → AX q → A0 q)
    (kx : ∀ (E : String) (ce : Cell) (q9 : Addr) (u : SX) (t : State) (H1 : Heap) (locs1 : List Loc), t.heap = H1 → s.vm.Alike t.vm → px u → BX E u t → H.size ≤ H1.size → (∀ q : Nat, q < H.size → ¬ AX q → H1[q]? = H[q]?) → va_S A0 H0 H1 locs1 → H1[q9]? = some ce → ce.vm = .none → s.vm.findClass E = some ce.cls → vx_W p l e R s m args below meth c H1 locs1 (cells + mc) (slots + ms) Q (F0 m pc ls rest) q9)
    (kk : ∀ (r : Int32) (u : S) (t : State) (H1 : Heap) (locs1 : List Loc), t.heap = H1 → s.vm.Alike t.vm → post r u → B u t → H.size ≤ H1.size → (∀ q : Nat, q < H.size → ¬ A1 q → H1[q]? = H[q]?) → va_S A0 H0 H1 locs1 → W p l e R s m args below meth c H1 locs1 (cells + mc) (slots + ms) Q (F0 m (pc + 3) ls (.int r :: rest))) : W p l e R s m args below meth c H locs cells slots Q (F0 m pc ls st0) := by
  intro T hT X
  rcases hr T hT X with ⟨v, st₀, t, T', L, h0, X', hL, e1, e2, ⟨⟨r, u, hv, hp, hb⟩, hF⟩, st⟩ | ⟨q, st₀, t, T', L, E, ce, h0, X', hL, e1, e2, ⟨u, hp, hb, hF⟩, hce, hcv, hcl, st⟩
  · cases hv
    obtain ⟨k1, k2, k3⟩ := vx_keep h0 e1 hS hA hf hL hF
    obtain ⟨t2, a1, b1⟩ := kk r u t T'.heap (locs ++ L) e1.symm (by rw [← e2]; exact X'.warmed.alike) hp hb k1 k2 k3 T' rfl X'
    exact ⟨t2, st t2 a1, b1⟩
  · obtain ⟨k1, k2, k3⟩ := vx_keep h0 e1 hS hAX hf hL hF
    obtain ⟨t2, a1, b1⟩ := kx E ce q u t T'.heap (locs ++ L) e1.symm (by rw [← e2]; exact X'.warmed.alike) hp hb k1 k2 k3 (by rw [e1]; exact hce) hcv hcl T' rfl X'
    exact ⟨t2, st.trans a1, b1⟩
theorem vx_calll {S SX : Type} {post : Int64 → S → Prop} {px : SX → Prop} {B : S → State → Prop} {BX : String → SX → State → Prop} {AX : Nat → Prop} (hr : vx_Run p l e R s m args below meth c H locs cells slots mc ms (F0 m pc ls st0) rest (va_Ql post B A1 a) (vx_X px BX AX) free) (hS : va_S A0 H0 H locs) (hA : ∀ q, q < H.size → A1 q → A0 q) (hf : ∀ q, free q → A0 q) (hAX : ∀ q, q < H.size → AX q → A0 q)
    (kx : ∀ (E : String) (ce : Cell) (q9 : Addr) (u : SX) (t : State) (H1 : Heap) (locs1 : List Loc), t.heap = H1 → s.vm.Alike t.vm → px u → BX E u t → H.size ≤ H1.size → (∀ q : Nat, q < H.size → ¬ AX q → H1[q]? = H[q]?) → va_S A0 H0 H1 locs1 → H1[q9]? = some ce → ce.vm = .none → s.vm.findClass E = some ce.cls → vx_W p l e R s m args below meth c H1 locs1 (cells + mc) (slots + ms) Q (F0 m pc ls rest) q9)
    (kk : ∀ (r : Int64) (u : S) (t : State) (H1 : Heap) (locs1 : List Loc), t.heap = H1 → s.vm.Alike t.vm → post r u → B u t → H.size ≤ H1.size → (∀ q : Nat, q < H.size → ¬ A1 q → H1[q]? = H[q]?) → va_S A0 H0 H1 locs1 → W p l e R s m args below meth c H1 locs1 (cells + mc) (slots + ms) Q (F0 m (pc + 3) ls (.long r :: rest))) : W p l e R s m args below meth c H locs cells slots Q (F0 m pc ls st0) := by
  intro T hT X
  rcases hr T hT X with ⟨v, st₀, t, T', L, h0, X', hL, e1, e2, ⟨⟨r, u, hv, hp, hb⟩, hF⟩, st⟩ | ⟨q, st₀, t, T', L, E, ce, h0, X', hL, e1, e2, ⟨u, hp, hb, hF⟩, hce, hcv, hcl, st⟩
  · cases hv
    obtain ⟨k1, k2, k3⟩ := vx_keep h0 e1 hS hA hf hL hF
    obtain ⟨t2, a1, b1⟩ := kk r u t T'.heap (locs ++ L) e1.symm (by rw [← e2]; exact X'.warmed.alike) hp hb k1 k2 k3 T' rfl X'
    exact ⟨t2, st t2 a1, b1⟩
  · obtain ⟨k1, k2, k3⟩ := vx_keep h0 e1 hS hAX hf hL hF
    obtain ⟨t2, a1, b1⟩ := kx E ce q u t T'.heap (locs ++ L) e1.symm (by rw [← e2]; exact X'.warmed.alike) hp hb k1 k2 k3 (by rw [e1]; exact hce) hcv hcl T' rfl X'
    exact ⟨t2, st.trans a1, b1⟩
theorem vx_callf {S SX : Type} {post : UInt32 → S → Prop} {px : SX → Prop} {B : S → State → Prop} {BX : String → SX → State → Prop} {AX : Nat → Prop} (hr : vx_Run p l e R s m args below meth c H locs cells slots mc ms (F0 m pc ls st0) rest (va_Qf post B A1 a) (vx_X px BX AX) free) (hS : va_S A0 H0 H locs) (hA : ∀ q, q < H.size → A1 q → A0 q) (hf : ∀ q, free q → A0 q) (hAX : ∀ q, q < H.size → AX q → A0 q)
    (kx : ∀ (E : String) (ce : Cell) (q9 : Addr) (u : SX) (t : State) (H1 : Heap) (locs1 : List Loc), t.heap = H1 → s.vm.Alike t.vm → px u → BX E u t → H.size ≤ H1.size → (∀ q : Nat, q < H.size → ¬ AX q → H1[q]? = H[q]?) → va_S A0 H0 H1 locs1 → H1[q9]? = some ce → ce.vm = .none → s.vm.findClass E = some ce.cls → vx_W p l e R s m args below meth c H1 locs1 (cells + mc) (slots + ms) Q (F0 m pc ls rest) q9)
    (kk : ∀ (r : UInt32) (u : S) (t : State) (H1 : Heap) (locs1 : List Loc), t.heap = H1 → s.vm.Alike t.vm → post r u → B u t → H.size ≤ H1.size → (∀ q : Nat, q < H.size → ¬ A1 q → H1[q]? = H[q]?) → va_S A0 H0 H1 locs1 → W p l e R s m args below meth c H1 locs1 (cells + mc) (slots + ms) Q (F0 m (pc + 3) ls (.float r :: rest))) : W p l e R s m args below meth c H locs cells slots Q (F0 m pc ls st0) := by
  intro T hT X
  rcases hr T hT X with ⟨v, st₀, t, T', L, h0, X', hL, e1, e2, ⟨⟨r, u, hv, hp, hb⟩, hF⟩, st⟩ | ⟨q, st₀, t, T', L, E, ce, h0, X', hL, e1, e2, ⟨u, hp, hb, hF⟩, hce, hcv, hcl, st⟩
  · cases hv
    obtain ⟨k1, k2, k3⟩ := vx_keep h0 e1 hS hA hf hL hF
    obtain ⟨t2, a1, b1⟩ := kk r u t T'.heap (locs ++ L) e1.symm (by rw [← e2]; exact X'.warmed.alike) hp hb k1 k2 k3 T' rfl X'
    exact ⟨t2, st t2 a1, b1⟩
  · obtain ⟨k1, k2, k3⟩ := vx_keep h0 e1 hS hAX hf hL hF
    obtain ⟨t2, a1, b1⟩ := kx E ce q u t T'.heap (locs ++ L) e1.symm (by rw [← e2]; exact X'.warmed.alike) hp hb k1 k2 k3 (by rw [e1]; exact hce) hcv hcl T' rfl X'
    exact ⟨t2, st.trans a1, b1⟩
theorem vx_calld {S SX : Type} {post : UInt64 → S → Prop} {px : SX → Prop} {B : S → State → Prop} {BX : String → SX → State → Prop} {AX : Nat → Prop} (hr : vx_Run p l e R s m args below meth c H locs cells slots mc ms (F0 m pc ls st0) rest (va_Qd post B A1 a) (vx_X px BX AX) free) (hS : va_S A0 H0 H locs) (hA : ∀ q, q < H.size → A1 q → A0 q) (hf : ∀ q, free q → A0 q) (hAX : ∀ q, q < H.size → AX q → A0 q)
    (kx : ∀ (E : String) (ce : Cell) (q9 : Addr) (u : SX) (t : State) (H1 : Heap) (locs1 : List Loc), t.heap = H1 → s.vm.Alike t.vm → px u → BX E u t → H.size ≤ H1.size → (∀ q : Nat, q < H.size → ¬ AX q → H1[q]? = H[q]?) → va_S A0 H0 H1 locs1 → H1[q9]? = some ce → ce.vm = .none → s.vm.findClass E = some ce.cls → vx_W p l e R s m args below meth c H1 locs1 (cells + mc) (slots + ms) Q (F0 m pc ls rest) q9)
    (kk : ∀ (r : UInt64) (u : S) (t : State) (H1 : Heap) (locs1 : List Loc), t.heap = H1 → s.vm.Alike t.vm → post r u → B u t → H.size ≤ H1.size → (∀ q : Nat, q < H.size → ¬ A1 q → H1[q]? = H[q]?) → va_S A0 H0 H1 locs1 → W p l e R s m args below meth c H1 locs1 (cells + mc) (slots + ms) Q (F0 m (pc + 3) ls (.double r :: rest))) : W p l e R s m args below meth c H locs cells slots Q (F0 m pc ls st0) := by
  intro T hT X
  rcases hr T hT X with ⟨v, st₀, t, T', L, h0, X', hL, e1, e2, ⟨⟨r, u, hv, hp, hb⟩, hF⟩, st⟩ | ⟨q, st₀, t, T', L, E, ce, h0, X', hL, e1, e2, ⟨u, hp, hb, hF⟩, hce, hcv, hcl, st⟩
  · cases hv
    obtain ⟨k1, k2, k3⟩ := vx_keep h0 e1 hS hA hf hL hF
    obtain ⟨t2, a1, b1⟩ := kk r u t T'.heap (locs ++ L) e1.symm (by rw [← e2]; exact X'.warmed.alike) hp hb k1 k2 k3 T' rfl X'
    exact ⟨t2, st t2 a1, b1⟩
  · obtain ⟨k1, k2, k3⟩ := vx_keep h0 e1 hS hAX hf hL hF
    obtain ⟨t2, a1, b1⟩ := kx E ce q u t T'.heap (locs ++ L) e1.symm (by rw [← e2]; exact X'.warmed.alike) hp hb k1 k2 k3 (by rw [e1]; exact hce) hcv hcl T' rfl X'
    exact ⟨t2, st.trans a1, b1⟩
theorem vx_callv {S SX : Type} {post : S → Prop} {px : SX → Prop} {B : S → State → Prop} {BX : String → SX → State → Prop} {AX : Nat → Prop} (hr : vx_Run p l e R s m args below meth c H locs cells slots mc ms (F0 m pc ls st0) rest (va_Qv post B A1 a) (vx_X px BX AX) free) (hS : va_S A0 H0 H locs) (hA : ∀ q, q < H.size → A1 q → A0 q) (hf : ∀ q, free q → A0 q) (hAX : ∀ q, q < H.size → AX q → A0 q)
    (kx : ∀ (E : String) (ce : Cell) (q9 : Addr) (u : SX) (t : State) (H1 : Heap) (locs1 : List Loc), t.heap = H1 → s.vm.Alike t.vm → px u → BX E u t → H.size ≤ H1.size → (∀ q : Nat, q < H.size → ¬ AX q → H1[q]? = H[q]?) → va_S A0 H0 H1 locs1 → H1[q9]? = some ce → ce.vm = .none → s.vm.findClass E = some ce.cls → vx_W p l e R s m args below meth c H1 locs1 (cells + mc) (slots + ms) Q (F0 m pc ls rest) q9)
    (kk : ∀ (u : S) (t : State) (H1 : Heap) (locs1 : List Loc), t.heap = H1 → s.vm.Alike t.vm → post u → B u t → H.size ≤ H1.size → (∀ q : Nat, q < H.size → ¬ A1 q → H1[q]? = H[q]?) → va_S A0 H0 H1 locs1 → W p l e R s m args below meth c H1 locs1 (cells + mc) (slots + ms) Q (F0 m (pc + 3) ls (rest))) : W p l e R s m args below meth c H locs cells slots Q (F0 m pc ls st0) := by
  intro T hT X
  rcases hr T hT X with ⟨v, st₀, t, T', L, h0, X', hL, e1, e2, ⟨⟨u, hv, hp, hb⟩, hF⟩, st⟩ | ⟨q, st₀, t, T', L, E, ce, h0, X', hL, e1, e2, ⟨u, hp, hb, hF⟩, hce, hcv, hcl, st⟩
  · cases hv
    obtain ⟨k1, k2, k3⟩ := vx_keep h0 e1 hS hA hf hL hF
    obtain ⟨t2, a1, b1⟩ := kk u t T'.heap (locs ++ L) e1.symm (by rw [← e2]; exact X'.warmed.alike) hp hb k1 k2 k3 T' rfl X'
    exact ⟨t2, st t2 a1, b1⟩
  · obtain ⟨k1, k2, k3⟩ := vx_keep h0 e1 hS hAX hf hL hF
    obtain ⟨t2, a1, b1⟩ := kx E ce q u t T'.heap (locs ++ L) e1.symm (by rw [← e2]; exact X'.warmed.alike) hp hb k1 k2 k3 (by rw [e1]; exact hce) hcv hcl T' rfl X'
    exact ⟨t2, st.trans a1, b1⟩
/-- caught by the row x of this method's table; the rows ahead don't take it -/
theorem vx_catch {own name : String} {E : String} {ce : Cell} {q : Addr} (hown : s.vm.findClass own = some m.cls) (pre : List ExceptionTableEntry) (x : ExceptionTableEntry) (suf : List ExceptionTableEntry) (hsplit : c.exceptionTable.toList = pre ++ x :: suf)
    (hpass : ∀ z ∈ pre, covers z pc = false ∨ (z.catchType ≠ 0 ∧ ∃ nm : String, (Cond.classLink own z.catchType nm).before args s = true ∧ va_Nc E nm s)) (hx : covers x pc = true) (h0 : x.catchType ≠ 0)
    (hlink : (Cond.classLink own x.catchType name).before args s = true) (hcast : (Cond.castable E name).before args s = true) (hcell : H[q]? = some ce) (hv : ce.vm = .none) (hcl : s.vm.findClass E = some ce.cls)
    (kk : W p l e R s m args below meth c H locs cells slots Q (F0 m x.handlerPc ls [.ref q])) : vx_W p l e R s m args below meth c H locs cells slots Q (F0 m pc ls rest) q := by
  intro T hT X
  have hpl : e.platform.magicAccessors = ({} : Platform).magicAccessors := by rw [X.admits.platform]
  obtain ⟨c3, c4, hc3, hc4, hasg⟩ := Cond.castable_spec hcast
  cases Option.some.inj (hc3.symm.trans hcl)
  obtain ⟨c5, hc5, hcl5⟩ := Cond.classLink_spec hown hlink e.platform hpl
  cases Option.some.inj (hc4.symm.trans hc5)
  obtain ⟨vm', X', st⟩ := Stand.thenCaughtThrough X q (g := F0 m pc ls rest) rfl (Steps.refl _) (by rw [hT]; exact hcell) (by rw [hv]; rfl) (by obtain ⟨k9, h9, -⟩ := Vm.findClass_spec hcl; exact ⟨k9, h9⟩) pre x suf hsplit
    (fun z hz => by
      rcases hpass z hz with h | ⟨hz0, nm, hl1, hn1⟩
      · exact Or.inl h
      · obtain ⟨c6, hc6, hcl6⟩ := Cond.classLink_spec hown hl1 e.platform hpl
        obtain ⟨a8, b8, h1, h2, h3⟩ := hn1
        cases Option.some.inj (h1.symm.trans hcl)
        cases Option.some.inj (h2.symm.trans hc6)
        exact Or.inr ⟨hz0, _, hcl6, h3⟩) hx (Or.inr ⟨h0, c4, hcl5, hasg⟩)
  obtain ⟨t, a1, b1⟩ := kk (T.setVm vm') hT X'
  exact ⟨t, st.trans a1, b1⟩
end Rows
section Ends
variable {p : Program} {l : Launch} {e : Env} {R : Room} {s : State} {m : MethodId} {args : Array Value} {below : List Frame} {meth : Method} {c : Code} {H : Heap} {locs : List Loc} {cells slots : Nat} {Q : State → Prop}
variable {mc ms : Nat} {free : Addr → Prop} {A0 A1 : Nat → Prop} {H0 : Heap} {a : Array Value} {ls : Array Slot} {st0 rest : List Value}
variable {Qc : Array Value → State → Outcome → State → Prop} {XC : String → State → State → Prop}
/-- what a body that may throw owes at its end -/
def vx_MQ (below : List Frame) (Qc : Array Value → State → Outcome → State → Prop) (XC : String → State → State → Prop) (a : Array Value) (s : State) (mc ms : Nat) (free : Addr → Prop) : State → Prop := fun t =>
  ∃ o, t.status = .running ∧ Ended t below o ∧ vx_Q Qc XC mc ms free a s o t
theorem vx_ret {g : JFrame} {mc ms : Nat} (k : W p l e R s m args below meth c H locs cells slots (MQ below Qc args s mc ms free) g) : W p l e R s m args below meth c H locs cells slots (vx_MQ below Qc XC args s mc ms free) g := by
  intro T hT X
  obtain ⟨t, a1, o, b1, b2, b3, b4⟩ := k T hT X
  exact ⟨t, a1, o, b1, b2, Or.inl ⟨b3, b4⟩⟩
/-- not caught here: it goes on to the caller -/
theorem vx_widen {g : JFrame} {q : Addr} {k n : Nat} (h1 : cells ≤ k) (h2 : slots ≤ n) (kk : vx_W p l e R s m args below meth c H locs k n Q g q) : vx_W p l e R s m args below meth c H locs cells slots Q g q := fun T hT X => kk T hT (stand_widen X h1 h2)
theorem vx_out {pc : Nat} {E : String} {ce : Cell} {q : Addr} {mc ms : Nat} (hout : ∀ x ∈ c.exceptionTable.toList, covers x pc = false) (hlocks : meth.locks = false) (hcell : H[q]? = some ce) (hv : ce.vm = .none) (hcl : s.vm.findClass E = some ce.cls)
    (hx : ∀ t : State, t.heap = H → s.vm.Alike t.vm → XC E s t) (hf : ∀ z ∈ locs, free z.base) (hc : cells ≤ mc) (hs : slots ≤ ms) :
    vx_W p l e R s m args below meth c H locs cells slots (vx_MQ below Qc XC args s mc ms free) (F0 m pc ls rest) q := by
  intro T hT X
  obtain ⟨st1, hrun, hend, hW, hsm⟩ := X.leaveThrown q (g := F0 m pc ls rest) rfl rfl rfl hout hlocks
  have hcell9 : (T.setFrames (.throwing q :: below)).heap[q]? = some ce := by
    show T.heap[q]? = some ce
    rw [hT]; exact hcell
  exact ⟨_, st1, .threw q, hrun, hend, Or.inr ⟨q, rfl, E, ce, locs, hx _ hT hW.alike, hcell9, hv, hcl, hW, hsm.mono hc hs, hf⟩⟩
theorem vx_frame {U : State} {k n : Nat} (h : s.sameButNew ({ U with vm := s.vm } : State) locs k n) : s.heap.size ≤ U.heap.size ∧ ∀ q : Nat, q < s.heap.size → (∀ z ∈ locs, z.base ≠ q) → U.heap[q]? = s.heap[q]? := by
  obtain ⟨-, h2, -, -, -, h6⟩ := h
  refine ⟨h2, fun q hq hz => ?_⟩
  obtain ⟨c9, e1, e2, e3, e4⟩ := h6 q _ (Array.getElem?_eq_getElem hq)
  have hs : c9.slots = (s.heap[q]).slots := Array.ext_getElem? fun i => e4 i fun hm => hz _ hm rfl
  have h9 : c9 = s.heap[q] := by
    rw [hs] at e2
    exact e2
  have e5 : U.heap[q]? = some c9 := e1
  rw [e5, h9, Array.getElem?_eq_getElem hq]
/-- the words of a throw but the four that speak of the heap -/
def vx_no (w : Cond) : Bool := decide (w ≠ .isRef (.static Bundle.tN "UNASSIGNED_STACK" Bundle.steD)) && decide (w ≠ .isRef (.static Bundle.tN "SUPPRESSED_SENTINEL" Bundle.listD)) && decide (w ≠ .laysStatic Bundle.tN "UNASSIGNED_STACK" Bundle.steD) && decide (w ≠ .laysStatic Bundle.tN "SUPPRESSED_SENTINEL" Bundle.listD)
def vx_at0 (own : String) (ic : Nat) (X : String) (names : List String) : List Cond := (Bundle.ownAtoms0 own ic X names).filter vx_no
def vx_atS (own : String) (ic : Nat) (X : String) (names : List String) : List Cond := (Bundle.ownAtoms own ic X names).filter vx_no
/-- a word that the tables alone decide, or a good one -/
def vx_ot (w : Cond) : Bool := w.onTables || goodWord w
theorem vx_ot_at {args a' : Array Value} {s U : State} {w : Cond} (hW : s.WarmedH U.vm) (hvm : s.vm = U.vm) (hg : vx_ot w = true) (h : w.before args s = true) : w.before a' U = true := by
  simp only [vx_ot, Bool.or_eq_true] at hg
  rcases hg with hg | hg
  · exact va_tabs hg hvm h
  · exact word_at hW (good_of_word hg) h
/-- a list's words: the good ones out of the method's own list, the others by premises of their own -/
theorem vx_hat {args : Array Value} {s : State} {L B : List Cond} (h1 : ∀ w ∈ L.filter goodWord, w.before args s = true) (h2 : ∀ w ∈ L.filter (fun w => !goodWord w), w ∈ B) (h3 : ∀ w ∈ B, w.before args s = true) : ∀ w ∈ L, w.before args s = true := by
  intro w hw
  by_cases g : goodWord w = true
  · exact h1 w (List.mem_filter.mpr ⟨hw, g⟩)
  · refine h3 w (h2 w (List.mem_filter.mpr ⟨hw, ?_⟩))
    show (!goodWord w) = true
    cases hgw : goodWord w
    · rfl
    · exact absurd hgw g
theorem vx_c {args : Array Value} {s : State} {w : Cond} {B : List Cond} (h : w.before args s = true) (t : ∀ w ∈ B, w.before args s = true) : ∀ w' ∈ w :: B, w'.before args s = true := fun w' h' => (List.mem_cons.mp h').elim (fun e => by rw [e]; exact h) (t w')
theorem vx_n {args : Array Value} {s : State} : ∀ w ∈ ([] : List Cond), w.before args s = true := fun _ h => nomatch h
theorem vx_own {args : Array Value} {s : State} {L : List Cond} (h1 : ∀ w ∈ L.filter vx_no, w.before args s = true)
    (hU : (Cond.isRef (.static Bundle.tN "UNASSIGNED_STACK" Bundle.steD)).before args s = true) (hN : (Cond.isRef (.static Bundle.tN "SUPPRESSED_SENTINEL" Bundle.listD)).before args s = true)
    (lU : (Cond.laysStatic Bundle.tN "UNASSIGNED_STACK" Bundle.steD).before args s = true) (lN : (Cond.laysStatic Bundle.tN "SUPPRESSED_SENTINEL" Bundle.listD).before args s = true) : ∀ w ∈ L, w.before args s = true := by
  intro w hw
  by_cases e1 : w = .isRef (.static Bundle.tN "UNASSIGNED_STACK" Bundle.steD)
  · rw [e1]; exact hU
  · by_cases e2 : w = .isRef (.static Bundle.tN "SUPPRESSED_SENTINEL" Bundle.listD)
    · rw [e2]; exact hN
    · by_cases e3 : w = .laysStatic Bundle.tN "UNASSIGNED_STACK" Bundle.steD
      · rw [e3]; exact lU
      · by_cases e4 : w = .laysStatic Bundle.tN "SUPPRESSED_SENTINEL" Bundle.listD
        · rw [e4]; exact lN
        · exact h1 w (List.mem_filter.mpr ⟨hw, by unfold vx_no; rw [decide_eq_true e1, decide_eq_true e2, decide_eq_true e3, decide_eq_true e4]; rfl⟩)
/-- where a static field lies, its class's statics cell in H -/
def vx_L (C n d : String) (A : Nat → Prop) (U : State) (H : Heap) : Prop := ∃ (c : ClassId) (k : Class) (i : Nat) (f : Field) (a : Nat) (cell : Cell), U.vm.findClass C = some c ∧ U.fieldFound? C n d = some (c, k, i, f) ∧ f.isStatic = true ∧ k.statics = some a ∧ H[a]? = some cell ∧ cell.vm.isStatics = true ∧ cell.cls = c ∧ f.slot < cell.slots.size ∧ k.staticTypes[f.slot]? = some f.type ∧ ¬ A a
theorem vx_L.moved {C n d : String} {A : Nat → Prop} {u U : State} {H : Heap} (hvm : u.vm.Alike U.vm) (h : vx_L C n d A u H) : vx_L C n d A U H := by
  obtain ⟨c, k, i, f, a, cell, h1, h2, h3, h4, h5, h6, h7, h8, h9, h10⟩ := h
  obtain ⟨k', hi', he⟩ := State.fieldFound?_setVm hvm h2
  exact ⟨c, k', i, f, a, cell, by rw [hvm.findClass]; exact h1, hi', h3, by rw [he]; exact h4, h5, h6, h7, h8, by rw [he]; exact h9, h10⟩
theorem vx_L.kept {C n d : String} {A : Nat → Prop} {U : State} {H H1 : Heap} (h : vx_L C n d A U H) (hq : ∀ a : Nat, a < H.size → ¬ A a → H1[a]? = H[a]?) : vx_L C n d A U H1 := by
  obtain ⟨c, k, i, f, a, cell, h1, h2, h3, h4, h5, h6, h7, h8, h9, h10⟩ := h
  exact ⟨c, k, i, f, a, cell, h1, h2, h3, h4, by rw [hq a (Array.getElem?_eq_some_iff.mp h5).1 h10]; exact h5, h6, h7, h8, h9, h10⟩
theorem vx_L.narrow {C n d : String} {A B : Nat → Prop} {U : State} {H : Heap} (h : vx_L C n d A U H) (hAB : ∀ q, B q → A q) : vx_L C n d B U H := by
  obtain ⟨c, k, i, f, a, cell, h1, h2, h3, h4, h5, h6, h7, h8, h9, h10⟩ := h
  exact ⟨c, k, i, f, a, cell, h1, h2, h3, h4, h5, h6, h7, h8, h9, fun z => h10 (hAB _ z)⟩
theorem vx_L.word {C n d : String} {A : Nat → Prop} {s : State} {args : Array Value} (h : vx_L C n d A s s.heap) : (Cond.laysStatic C n d).before args s = true := by
  obtain ⟨c, k, i, f, a, cell, h1, h2, h3, h4, h5, h6, h7, h8, h9, -⟩ := h
  show (Cond.laysStatic C n d).holds args s none s [] = true
  exact Cond.laysStatic_of h1 h2 h3 h4 h5 h6 h7 h8 h9
/-- .. and what it holds: null or some reference -/
def vx_Zq (C n d : String) (A : Nat → Prop) (U : State) (H : Heap) : Prop := va_Zq C n d A U H ∧ vx_L C n d A U H
theorem vx_Zq.moved {C n d : String} {A : Nat → Prop} {u U : State} {H : Heap} (hvm : u.vm.Alike U.vm) (h : vx_Zq C n d A u H) : vx_Zq C n d A U H := ⟨va_Zq.moved hvm h.1, vx_L.moved hvm h.2⟩
theorem vx_Zq.kept {C n d : String} {A : Nat → Prop} {U : State} {H H1 : Heap} (h : vx_Zq C n d A U H) (hq : ∀ a : Nat, a < H.size → ¬ A a → H1[a]? = H[a]?) : vx_Zq C n d A U H1 := ⟨va_Zq.kept h.1 hq, vx_L.kept h.2 hq⟩
theorem vx_Zq.narrow {C n d : String} {A B : Nat → Prop} {U : State} {H : Heap} (h : vx_Zq C n d A U H) (hAB : ∀ q, B q → A q) : vx_Zq C n d B U H := ⟨va_Zq.narrow h.1 hAB, vx_L.narrow h.2 hAB⟩
theorem vx_Zqof {args : Array Value} {s : State} {C n d : String} {A : Nat → Prop} (hl : (Cond.laysStatic C n d).before args s = true) (hini : (Cond.initialized C).before args s = true) (h : (Cond.isRef (.static C n d)).before args s = true) (hA : ∀ a : Nat, a < s.heap.size → ¬ A a) : vx_Zq C n d A s s.heap := by
  refine ⟨va_Zqof hl hini h hA, ?_⟩
  obtain ⟨c, k, i, f, a, cell, h1, h2, h3, h4, h5, h6, h7, h8, h9⟩ := Cond.laysStatic_spec hl
  exact ⟨c, k, i, f, a, cell, h1, h2, h3, h4, h5, h6, h7, h8, h9, hA a (Array.getElem?_eq_some_iff.mp h5).1⟩
theorem vx_isRef {C n d : String} {v : Value} {A : Nat → Prop} {s : State} {args : Array Value} (h : va_Z C n d v A s s.heap) (hv : v.isRef = true) : (Cond.isRef (.static C n d)).before args s = true := by
  obtain ⟨cf, kf, fi, f, a, cell, h1, h2, h3, h4, h5, h6, h7, -⟩ := h
  have he : (Term.static C n d).eval args s none [] s = some v := by
    simp [Term.eval, State.fieldNamed?, h1, h2, h4, h5, h6, h7]
  simp only [Cond.before, Cond.holds, Cond.value, he]
  cases v <;> simp_all [Value.isRef]
theorem vx_isRefq {C n d : String} {A : Nat → Prop} {s : State} {args : Array Value} (h : va_Zq C n d A s s.heap) : (Cond.isRef (.static C n d)).before args s = true := by
  rcases h with h | ⟨t, h⟩
  · exact vx_isRef h rfl
  · exact vx_isRef h rfl
/-- the same frame, seen from here: as if the method were called anew in this heap -/
theorem vx_rebase {T : State} (X : Stand p l e R s m args below meth c T locs cells slots) {R' : Room} (hf : R'.frames ≤ R.frames) (hl : R'.locals ≤ R.locals) (hc : cells + R'.cells ≤ R.cells) (hs : slots + R'.slots ≤ R.slots) :
    Stand p l e R' ((T.setVm s.vm).setFrames (.invoking m args :: below)) m args below meth c T [] 0 0 := by
  have htop : (T.setVm s.vm).topJava?.isSome := X.here.top
  have hF : ((T.setVm s.vm).setFrames (.invoking m args :: below)).frames = .invoking m args :: below := State.frames_setFrames _ (State.cur_lt_of_top htop)
  obtain ⟨g₀, hg0⟩ := Option.isSome_iff_exists.mp htop
  obtain ⟨r, hr⟩ := State.topJava?_eq_some.mp hg0
  have hl9 : e.platform.stackLimits (T.setVm s.vm).me = e.platform.stackLimits s.me := X.limits
  have hb9 : (T.setVm s.vm).me.stackBytes = s.me.stackBytes := X.bytes
  refine ⟨X.admits, X.cas, X.clock, hF, ?_, X.hears, X.method, X.code, X.here, X.tail, X.warmed, ?_, ?_, ?_⟩
  · have h := X.room
    have hU : ((T.setVm s.vm).setFrames (.invoking m args :: below)).localsInUse = s.localsInUse := by
      rw [State.localsInUse_invoking hF (meth := meth) (c := c) X.method X.code, State.localsInUse_invoking X.frames X.method X.code]
    simp only [State.hasRoom, Bool.and_eq_true, decide_eq_true_eq] at h ⊢
    obtain ⟨⟨⟨⟨h1, h2, h3, h4, h5, h6⟩, h7⟩, h8⟩, h9⟩ := h
    rw [X.frames, List.length_cons] at h2 h3
    have q1 := X.heapSize
    have q2 := X.used
    simp only [hF, hU, List.length_cons, State.stackLimits_setFrames, State.stackBytes_setFrames, hl9, hb9]
    refine ⟨⟨⟨⟨by omega, by omega, by omega, by omega, by omega, h6⟩, ?_⟩, ?_⟩, X.book⟩
    · show T.heap.size + R'.cells ≤ e.platform.maxCells
      omega
    · show T.slotsUsed + R'.slots ≤ e.platform.maxSlots
      omega
  · rw [State.stackLimits_setFrames]; rfl
  · rw [State.stackBytes_setFrames]; rfl
  · refine ⟨?_, Nat.le_refl _, Nat.le_refl _, ?_, ?_, fun a c9 h9 => ⟨c9, h9, rfl, rfl, fun _ _ => rfl⟩⟩
    · obtain ⟨t, ht, -⟩ := State.frames_cons hr
      show T.setVm s.vm = { ((T.setVm s.vm).setFrames (.invoking m args :: below)).setFrames (T.setVm s.vm).frames with heap := T.heap, slotsUsed := T.slotsUsed }
      rw [State.setFrames_setFrames, State.setFrames_self ht]
      rfl
    · show T.slotsUsed = T.slotsUsed + ((T.heap.toList.drop T.heap.size).map (·.slots.size)).sum
      rw [List.drop_eq_nil_of_le (Nat.le_of_eq Array.length_toList)]
      rfl
    · show ((T.heap.toList.drop T.heap.size).map (·.slots.size)).sum ≤ 0
      rw [List.drop_eq_nil_of_le (Nat.le_of_eq Array.length_toList)]
      exact Nat.le_refl _
/-- 'throw new E()': new; dup; invokespecial; athrow -/
theorem vx_throw0 {cc : ByteArray} {pc : Nat} (hexec : p.tables.exec = Jvm.exec) (hb : c.code = cc) (hl : l.stackTraces = false) {own cls : String} {names : List String} {ik ic mc ms : Nat} {A : Nat → Prop}
    (hown : s.vm.findClass own = some m.cls) (hcls : Bundle.fit cls = true) (hnames : ∀ n ∈ names, Bundle.fit n = true)
    (hk : (Cond.classLink own ik cls).before args s = true) (hini : (Cond.initialized cls).before args s = true) (hat : ∀ w ∈ vx_at0 own ic cls names, w.before args s = true)
    (hgood : ∀ w ∈ Cond.classLink own ik cls :: Cond.initialized cls :: vx_at0 own ic cls names, vx_ot w = true)
    (hU : vx_Zq Bundle.tN "UNASSIGNED_STACK" Bundle.steD A s s.heap) (hN : vx_Zq Bundle.tN "SUPPRESSED_SENTINEL" Bundle.listD A s s.heap) (hS : va_S A s.heap H locs) (hsize : ls.size = c.maxLocals)
    (d0 : decode cc pc = .ok (.new ik, 3)) (d3 : decode cc (pc + 3) = .ok (.dup, 1)) (d4 : decode cc (pc + 4) = .ok (.invokespecial ic, 3)) (d7 : decode cc (pc + 7) = .ok (.athrow, 1))
    (hout : ∀ x ∈ c.exceptionTable.toList, covers x (pc + 7) = false)
    (hRframes : names.length + 3 < R.frames) (hRlocals : (rest.map fun v => v.category).sum + (13 * (names.length + 1) + 42) ≤ R.locals) (hRcells : cells + 1 ≤ R.cells) (hRslots : slots + 6 ≤ R.slots) (hlocks : meth.locks = false)
    (hx : ∀ t : State, s.vm.Alike t.vm → H.size ≤ t.heap.size → (∀ q : Nat, q < H.size → t.heap[q]? = H[q]?) → XC cls s t)
    (hf : ∀ z ∈ locs, free z.base) (hc : cells + 1 ≤ mc) (hs : slots + 6 ≤ ms) :
    W p l e R s m args below meth c H locs cells slots (vx_MQ below Qc XC args s mc ms free) (F0 m pc ls rest) := by
  intro T hT X
  have htr : e.platform.stackTraces = false := (show e.platform.stackTraces = l.stackTraces by rw [X.admits.platform]).trans hl
  have Y := vx_rebase X (R' := { frames := R.frames, locals := R.locals, cells := 1, slots := 6 }) (Nat.le_refl _) (Nat.le_refl _) hRcells hRslots
  obtain ⟨s', hA⟩ : ∃ z, z = (T.setVm s.vm).setFrames (.invoking m args :: below) := ⟨_, rfl⟩
  rw [← hA] at Y
  have hvm : s'.vm = s.vm := by rw [hA]; rfl
  have hhp : s'.heap = H := by rw [hA]; exact hT
  have hW0 : s.WarmedH s'.vm := by rw [hvm]; exact State.WarmedH.refl s
  have hat' : ∀ w ∈ vx_at0 own ic cls names, w.before args s' = true := fun w hw => vx_ot_at hW0 hvm.symm (hgood w (List.mem_cons_of_mem _ (List.mem_cons_of_mem _ hw))) (hat w hw)
  have hk' : (Cond.classLink own ik cls).before args s' = true := vx_ot_at hW0 hvm.symm (hgood _ List.mem_cons_self) hk
  have hini' : (Cond.initialized cls).before args s' = true := vx_ot_at hW0 hvm.symm (hgood _ (List.mem_cons_of_mem _ List.mem_cons_self)) hini
  have hU' : vx_Zq Bundle.tN "UNASSIGNED_STACK" Bundle.steD A s' s'.heap := by rw [hhp]; exact vx_Zq.moved hW0.alike (hU.kept hS.2.1)
  have hN' : vx_Zq Bundle.tN "SUPPRESSED_SENTINEL" Bundle.listD A s' s'.heap := by rw [hhp]; exact vx_Zq.moved hW0.alike (hN.kept hS.2.1)
  have h : ∀ w ∈ Bundle.ownAtoms0 own ic cls names, w.before args s' = true := vx_own hat' (vx_isRefq hU'.1) (vx_isRefq hN'.1) hU'.2.word hN'.2.word
  have hown' : s'.vm.findClass own = some m.cls := by rw [hvm]; exact hown
  have hins : (Cond.instantiable cls 6).before args s' = true := h _ (by simp [Bundle.ownAtoms0])
  obtain ⟨vm₁, cX, kX, hfX, hkX, -, -, X₁, st1⟩ := Y.newCold hexec (own := own) (C := cls) (index := ik) (n := 6) hown' hk' hins hini'
    (g := F0 m pc ls rest) rfl (by rw [hb]; exact d0) (Nat.le_refl _) (Nat.le_refl _)
  generalize hT1 : (T.setVm vm₁).pushCell { cls := cX, slots := kX.instanceTypes.map defaultValue, vm := .none } = T1 at X₁ st1
  have hcat : (Value.ref T.heap.size).category = 1 := rfl
  have hcellA : T1.heap[T.heap.size]? = some (freshCell cX kX) := by rw [← hT1]; exact State.heap_pushCell_size _ _
  have d3' : decode c.code (pc + 3) = .ok (.dup, 1) := by rw [hb]; exact d3
  obtain ⟨U, hsteps, hrun, hend, hW, hsame, ce, hce, hO⟩ := X₁.ctorThrow0 hexec htr (own := own) (cls := cls) (names := names) (ic := ic) hown' hcls hnames h (fun x hx => nomatch hx) hfX hkX hcellA (by rw [hhp, hT]; exact Nat.le_refl _)
    (g := { method := m, pc := pc + 4, locals := ls, stack := .ref T.heap.size :: .ref T.heap.size :: rest, locked := none }) rfl hsize rfl rfl (rest := rest) rfl
    (by rw [hb]; exact d4) (by rw [hb]; exact d7) hout hRframes (by simp only [List.map_cons, List.sum_cons, hcat]; omega) hlocks
  obtain ⟨f1, f2⟩ := vx_frame hsame
  rw [hhp] at f1 f2
  have hWs : s.WarmedH U.vm := State.WarmedH.trans hW0 hW
  have hcl : s.vm.findClass cls = some ce.cls := by
    have h9 := hO.cls
    rw [hvm] at h9
    exact h9
  have hall : s.sameButNew ({ U with vm := s.vm } : State) locs mc ms := by
    subst hA
    obtain ⟨e1, e2⟩ := hsame
    rw [State.setFrames_setFrames] at e1
    have h2 : (T.setVm s.vm).sameButNew ({ U with vm := s.vm } : State) [] (0 + 1) (0 + 6) := ⟨e1, e2⟩
    have h3 := X.same.trans h2
    rw [List.append_nil] at h3
    exact h3.mono hc hs
  refine ⟨U, ?_, .threw T.heap.size, hrun, hend, Or.inr ⟨T.heap.size, rfl, cls, ce, locs, hx U hWs.alike f1 (fun q hq => f2 q hq (fun z hz => nomatch hz)), hce, hO.vm, hcl, hWs, hall, hf⟩⟩
  refine st1 _ ?_
  show Steps p.tables e below (T1.setTop { method := m, pc := pc + 3, locals := ls, stack := .ref T.heap.size :: rest, locked := none }) _
  jvm_step X₁.here [X₁.here.top, hexec, d3', Value.category]
  exact hsteps
/-- 'throw new E("text")': new; dup; ldc; invokespecial; athrow -/
theorem vx_throwS {cc : ByteArray} {pc : Nat} (hexec : p.tables.exec = Jvm.exec) (hb : c.code = cc) (hl : l.stackTraces = false) {own cls text : String} {names : List String} {ik is ic mc ms sa : Nat} {A : Nat → Prop}
    (hown : s.vm.findClass own = some m.cls) (hcls : Bundle.fit cls = true) (hnames : ∀ n ∈ names, Bundle.fit n = true)
    (hk : (Cond.classLink own ik cls).before args s = true) (hini : (Cond.initialized cls).before args s = true) (hstr : vk_R own is text sa s) (hat : ∀ w ∈ vx_atS own ic cls names, w.before args s = true)
    (hgood : ∀ w ∈ Cond.classLink own ik cls :: Cond.initialized cls :: vx_atS own ic cls names, vx_ot w = true)
    (hU : vx_Zq Bundle.tN "UNASSIGNED_STACK" Bundle.steD A s s.heap) (hN : vx_Zq Bundle.tN "SUPPRESSED_SENTINEL" Bundle.listD A s s.heap) (hS : va_S A s.heap H locs) (hsize : ls.size = c.maxLocals)
    (d0 : decode cc pc = .ok (.new ik, 3)) (d3 : decode cc (pc + 3) = .ok (.dup, 1)) (d4 : decode cc (pc + 4) = .ok (.ldc is, 2)) (d6 : decode cc (pc + 6) = .ok (.invokespecial ic, 3)) (d9 : decode cc (pc + 9) = .ok (.athrow, 1))
    (hout : ∀ x ∈ c.exceptionTable.toList, covers x (pc + 9) = false)
    (hRframes : names.length + 3 < R.frames) (hRlocals : (rest.map fun v => v.category).sum + (13 * (names.length + 1) + 43) ≤ R.locals) (hRcells : cells + 1 ≤ R.cells) (hRslots : slots + 6 ≤ R.slots) (hlocks : meth.locks = false)
    (hx : ∀ t : State, s.vm.Alike t.vm → H.size ≤ t.heap.size → (∀ q : Nat, q < H.size → t.heap[q]? = H[q]?) → XC cls s t)
    (hf : ∀ z ∈ locs, free z.base) (hc : cells + 1 ≤ mc) (hs : slots + 6 ≤ ms) :
    W p l e R s m args below meth c H locs cells slots (vx_MQ below Qc XC args s mc ms free) (F0 m pc ls rest) := by
  intro T hT X
  have htr : e.platform.stackTraces = false := (show e.platform.stackTraces = l.stackTraces by rw [X.admits.platform]).trans hl
  have Y := vx_rebase X (R' := { frames := R.frames, locals := R.locals, cells := 1, slots := 6 }) (Nat.le_refl _) (Nat.le_refl _) hRcells hRslots
  obtain ⟨s', hA⟩ : ∃ z, z = (T.setVm s.vm).setFrames (.invoking m args :: below) := ⟨_, rfl⟩
  rw [← hA] at Y
  have hvm : s'.vm = s.vm := by rw [hA]; rfl
  have hhp : s'.heap = H := by rw [hA]; exact hT
  have hW0 : s.WarmedH s'.vm := by rw [hvm]; exact State.WarmedH.refl s
  have hat' : ∀ w ∈ vx_atS own ic cls names, w.before args s' = true := fun w hw => vx_ot_at hW0 hvm.symm (hgood w (List.mem_cons_of_mem _ (List.mem_cons_of_mem _ hw))) (hat w hw)
  have hk' : (Cond.classLink own ik cls).before args s' = true := vx_ot_at hW0 hvm.symm (hgood _ List.mem_cons_self) hk
  have hini' : (Cond.initialized cls).before args s' = true := vx_ot_at hW0 hvm.symm (hgood _ (List.mem_cons_of_mem _ List.mem_cons_self)) hini
  have hU' : vx_Zq Bundle.tN "UNASSIGNED_STACK" Bundle.steD A s' s'.heap := by rw [hhp]; exact vx_Zq.moved hW0.alike (hU.kept hS.2.1)
  have hN' : vx_Zq Bundle.tN "SUPPRESSED_SENTINEL" Bundle.listD A s' s'.heap := by rw [hhp]; exact vx_Zq.moved hW0.alike (hN.kept hS.2.1)
  have h : ∀ w ∈ Bundle.ownAtoms own ic cls names, w.before args s' = true := vx_own hat' (vx_isRefq hU'.1) (vx_isRefq hN'.1) hU'.2.word hN'.2.word
  have hown' : s'.vm.findClass own = some m.cls := by rw [hvm]; exact hown
  have hins : (Cond.instantiable cls 6).before args s' = true := h _ (by simp [Bundle.ownAtoms])
  obtain ⟨vm₁, cX, kX, hfX, hkX, -, -, X₁, st1⟩ := Y.newCold hexec (own := own) (C := cls) (index := ik) (n := 6) hown' hk' hins hini'
    (g := F0 m pc ls rest) rfl (by rw [hb]; exact d0) (Nat.le_refl _) (Nat.le_refl _)
  generalize hT1 : (T.setVm vm₁).pushCell { cls := cX, slots := kX.instanceTypes.map defaultValue, vm := .none } = T1 at X₁ st1
  have hcat : (Value.ref T.heap.size).category = 1 := rfl
  have hcellA : T1.heap[T.heap.size]? = some (freshCell cX kX) := by rw [← hT1]; exact State.heap_pushCell_size _ _
  have d3' : decode c.code (pc + 3) = .ok (.dup, 1) := by rw [hb]; exact d3
  have d4' : decode c.code (pc + 4) = .ok (.ldc is, 2) := by rw [hb]; exact d4
  have hstr' : vk_R own is text sa s' := vk_R.warm hW0 hstr
  obtain ⟨U, hsteps, hrun, hend, hW, hsame, ce, hce, hO⟩ := X₁.ctorThrowS hexec htr (own := own) (cls := cls) (names := names) (ic := ic) hown' hcls hnames h (fun x hx => nomatch hx) hfX hkX hcellA (by rw [hhp, hT]; exact Nat.le_refl _) (msg := .ref sa) rfl
    (g := { method := m, pc := pc + 6, locals := ls, stack := .ref sa :: .ref T.heap.size :: .ref T.heap.size :: rest, locked := none }) rfl hsize rfl rfl (rest := rest) rfl
    (by rw [hb]; exact d6) (by rw [hb]; exact d9) hout hRframes (by simp only [List.map_cons, List.sum_cons, hcat]; omega) hlocks
  obtain ⟨f1, f2⟩ := vx_frame hsame
  rw [hhp] at f1 f2
  have hWs : s.WarmedH U.vm := State.WarmedH.trans hW0 hW
  have hcl : s.vm.findClass cls = some ce.cls := by
    have h9 := hO.cls
    rw [hvm] at h9
    exact h9
  have hall : s.sameButNew ({ U with vm := s.vm } : State) locs mc ms := by
    subst hA
    obtain ⟨e1, e2⟩ := hsame
    rw [State.setFrames_setFrames] at e1
    have h2 : (T.setVm s.vm).sameButNew ({ U with vm := s.vm } : State) [] (0 + 1) (0 + 6) := ⟨e1, e2⟩
    have h3 := X.same.trans h2
    rw [List.append_nil] at h3
    exact h3.mono hc hs
  refine ⟨U, ?_, .threw T.heap.size, hrun, hend, Or.inr ⟨T.heap.size, rfl, cls, ce, locs, hx U hWs.alike f1 (fun q hq => f2 q hq (fun z hz => nomatch hz)), hce, hO.vm, hcl, hWs, hall, hf⟩⟩
  refine st1 _ ?_
  show Steps p.tables e below (T1.setTop { method := m, pc := pc + 3, locals := ls, stack := .ref T.heap.size :: rest, locked := none }) _
  jvm_step X₁.here [X₁.here.top, hexec, d3', Value.category]
  exact X₁.ldcString hexec (own := own) (text := text) (index := is) (a := sa) hown' hstr'.1 hstr'.2
    (g := { method := m, pc := pc + 4, locals := ls, stack := .ref T.heap.size :: .ref T.heap.size :: rest, locked := none }) rfl d4' _ hsteps
/-- 'throw new E("text")', the text by a wide index -/
theorem vx_throwSW {cc : ByteArray} {pc : Nat} (hexec : p.tables.exec = Jvm.exec) (hb : c.code = cc) (hl : l.stackTraces = false) {own cls text : String} {names : List String} {ik is ic mc ms sa : Nat} {A : Nat → Prop}
    (hown : s.vm.findClass own = some m.cls) (hcls : Bundle.fit cls = true) (hnames : ∀ n ∈ names, Bundle.fit n = true)
    (hk : (Cond.classLink own ik cls).before args s = true) (hini : (Cond.initialized cls).before args s = true) (hstr : vk_R own is text sa s) (hat : ∀ w ∈ vx_atS own ic cls names, w.before args s = true)
    (hgood : ∀ w ∈ Cond.classLink own ik cls :: Cond.initialized cls :: vx_atS own ic cls names, vx_ot w = true)
    (hU : vx_Zq Bundle.tN "UNASSIGNED_STACK" Bundle.steD A s s.heap) (hN : vx_Zq Bundle.tN "SUPPRESSED_SENTINEL" Bundle.listD A s s.heap) (hS : va_S A s.heap H locs) (hsize : ls.size = c.maxLocals)
    (d0 : decode cc pc = .ok (.new ik, 3)) (d3 : decode cc (pc + 3) = .ok (.dup, 1)) (d4 : decode cc (pc + 4) = .ok (.ldc_w is, 3)) (d7 : decode cc (pc + 7) = .ok (.invokespecial ic, 3)) (d10 : decode cc (pc + 10) = .ok (.athrow, 1))
    (hout : ∀ x ∈ c.exceptionTable.toList, covers x (pc + 10) = false)
    (hRframes : names.length + 3 < R.frames) (hRlocals : (rest.map fun v => v.category).sum + (13 * (names.length + 1) + 43) ≤ R.locals) (hRcells : cells + 1 ≤ R.cells) (hRslots : slots + 6 ≤ R.slots) (hlocks : meth.locks = false)
    (hx : ∀ t : State, s.vm.Alike t.vm → H.size ≤ t.heap.size → (∀ q : Nat, q < H.size → t.heap[q]? = H[q]?) → XC cls s t)
    (hf : ∀ z ∈ locs, free z.base) (hc : cells + 1 ≤ mc) (hs : slots + 6 ≤ ms) :
    W p l e R s m args below meth c H locs cells slots (vx_MQ below Qc XC args s mc ms free) (F0 m pc ls rest) := by
  intro T hT X
  have htr : e.platform.stackTraces = false := (show e.platform.stackTraces = l.stackTraces by rw [X.admits.platform]).trans hl
  have Y := vx_rebase X (R' := { frames := R.frames, locals := R.locals, cells := 1, slots := 6 }) (Nat.le_refl _) (Nat.le_refl _) hRcells hRslots
  obtain ⟨s', hA⟩ : ∃ z, z = (T.setVm s.vm).setFrames (.invoking m args :: below) := ⟨_, rfl⟩
  rw [← hA] at Y
  have hvm : s'.vm = s.vm := by rw [hA]; rfl
  have hhp : s'.heap = H := by rw [hA]; exact hT
  have hW0 : s.WarmedH s'.vm := by rw [hvm]; exact State.WarmedH.refl s
  have hat' : ∀ w ∈ vx_atS own ic cls names, w.before args s' = true := fun w hw => vx_ot_at hW0 hvm.symm (hgood w (List.mem_cons_of_mem _ (List.mem_cons_of_mem _ hw))) (hat w hw)
  have hk' : (Cond.classLink own ik cls).before args s' = true := vx_ot_at hW0 hvm.symm (hgood _ List.mem_cons_self) hk
  have hini' : (Cond.initialized cls).before args s' = true := vx_ot_at hW0 hvm.symm (hgood _ (List.mem_cons_of_mem _ List.mem_cons_self)) hini
  have hU' : vx_Zq Bundle.tN "UNASSIGNED_STACK" Bundle.steD A s' s'.heap := by rw [hhp]; exact vx_Zq.moved hW0.alike (hU.kept hS.2.1)
  have hN' : vx_Zq Bundle.tN "SUPPRESSED_SENTINEL" Bundle.listD A s' s'.heap := by rw [hhp]; exact vx_Zq.moved hW0.alike (hN.kept hS.2.1)
  have h : ∀ w ∈ Bundle.ownAtoms own ic cls names, w.before args s' = true := vx_own hat' (vx_isRefq hU'.1) (vx_isRefq hN'.1) hU'.2.word hN'.2.word
  have hown' : s'.vm.findClass own = some m.cls := by rw [hvm]; exact hown
  have hins : (Cond.instantiable cls 6).before args s' = true := h _ (by simp [Bundle.ownAtoms])
  obtain ⟨vm₁, cX, kX, hfX, hkX, -, -, X₁, st1⟩ := Y.newCold hexec (own := own) (C := cls) (index := ik) (n := 6) hown' hk' hins hini'
    (g := F0 m pc ls rest) rfl (by rw [hb]; exact d0) (Nat.le_refl _) (Nat.le_refl _)
  generalize hT1 : (T.setVm vm₁).pushCell { cls := cX, slots := kX.instanceTypes.map defaultValue, vm := .none } = T1 at X₁ st1
  have hcat : (Value.ref T.heap.size).category = 1 := rfl
  have hcellA : T1.heap[T.heap.size]? = some (freshCell cX kX) := by rw [← hT1]; exact State.heap_pushCell_size _ _
  have d3' : decode c.code (pc + 3) = .ok (.dup, 1) := by rw [hb]; exact d3
  have d4' : decode c.code (pc + 4) = .ok (.ldc_w is, 3) := by rw [hb]; exact d4
  have hstr' : vk_R own is text sa s' := vk_R.warm hW0 hstr
  obtain ⟨U, hsteps, hrun, hend, hW, hsame, ce, hce, hO⟩ := X₁.ctorThrowS hexec htr (own := own) (cls := cls) (names := names) (ic := ic) hown' hcls hnames h (fun x hx => nomatch hx) hfX hkX hcellA (by rw [hhp, hT]; exact Nat.le_refl _) (msg := .ref sa) rfl
    (g := { method := m, pc := pc + 7, locals := ls, stack := .ref sa :: .ref T.heap.size :: .ref T.heap.size :: rest, locked := none }) rfl hsize rfl rfl (rest := rest) rfl
    (by rw [hb]; exact d7) (by rw [hb]; exact d10) hout hRframes (by simp only [List.map_cons, List.sum_cons, hcat]; omega) hlocks
  obtain ⟨f1, f2⟩ := vx_frame hsame
  rw [hhp] at f1 f2
  have hWs : s.WarmedH U.vm := State.WarmedH.trans hW0 hW
  have hcl : s.vm.findClass cls = some ce.cls := by
    have h9 := hO.cls
    rw [hvm] at h9
    exact h9
  have hall : s.sameButNew ({ U with vm := s.vm } : State) locs mc ms := by
    subst hA
    obtain ⟨e1, e2⟩ := hsame
    rw [State.setFrames_setFrames] at e1
    have h2 : (T.setVm s.vm).sameButNew ({ U with vm := s.vm } : State) [] (0 + 1) (0 + 6) := ⟨e1, e2⟩
    have h3 := X.same.trans h2
    rw [List.append_nil] at h3
    exact h3.mono hc hs
  refine ⟨U, ?_, .threw T.heap.size, hrun, hend, Or.inr ⟨T.heap.size, rfl, cls, ce, locs, hx U hWs.alike f1 (fun q hq => f2 q hq (fun z hz => nomatch hz)), hce, hO.vm, hcl, hWs, hall, hf⟩⟩
  refine st1 _ ?_
  show Steps p.tables e below (T1.setTop { method := m, pc := pc + 3, locals := ls, stack := .ref T.heap.size :: rest, locked := none }) _
  jvm_step X₁.here [X₁.here.top, hexec, d3', Value.category]
  exact X₁.ldcStringW hexec (own := own) (text := text) (index := is) (a := sa) hown' hstr'.1 hstr'.2
    (g := { method := m, pc := pc + 4, locals := ls, stack := .ref T.heap.size :: .ref T.heap.size :: rest, locked := none }) rfl d4' _ hsteps
end Ends
section Bodies
variable {l : Launch}
theorem vx_ofW {y : MethodName} {ws ws' : List Cond} {rm : Room} {Pc : Array Value → State → Prop} {Qc : Array Value → State → Outcome → State → Prop} {XC : String → State → State → Prop} {mc ms : Nat} {free : Addr → Prop} {cc : ByteArray} {maxL : Nat} {ret : Option FieldType}
    (hy : plainName y.cls = true) (hw : ws = Cond.code y cc maxL ret :: ws')
    (body : ∀ p e s m args below meth c s₁, BodyLoose p l y (headSpec ws rm) cc maxL ret e s m args below meth c s₁ → c.maxLocals = maxL → (∀ x ∈ c.exceptionTable.toList, False) → Pc args s →
      W p l e (headSpec ws rm).room s m args below meth c s.heap [] 0 0 (vx_MQ below Qc XC args s mc ms free) (entryFrame m args maxL)) : vx_Met l y ws rm Pc Qc XC mc ms free := by
  refine MetFree.of_bodyS (code := cc) (maxLocals := maxL) (ret := ret) hy ?_ ?_
  · intro args s m h hn
    obtain ⟨meth, c, h1, h2, h3, h4, h5, h6, -, -⟩ := Cond.code_spec hn (atoms_spec (ws := ws) h _ (by rw [hw]; exact List.mem_cons_self))
    exact ⟨meth, c, h1, h2, h3, h4, h5, h6⟩
  · intro p e s m args below meth c s₁ B hml hP _
    have hh0 : s₁.heap = s.heap := by rw [B.state]; rfl
    have ht : ∀ x ∈ c.exceptionTable.toList, False := by
      obtain ⟨meth9, c9, h1, h2, -, -, -, -, h7, -⟩ := Cond.code_spec B.named (atoms_spec (ws := ws) B.pre _ (by rw [hw]; exact List.mem_cons_self))
      cases Option.some.inj (h1.symm.trans B.method)
      cases Option.some.inj (h2.symm.trans (Stand.of_body B).code)
      intro x hx
      rw [Array.isEmpty_iff.mp h7] at hx
      cases hx
    obtain ⟨t, a1, o, b1, b2, b3⟩ := body p e s m args below meth c s₁ B hml ht hP s₁ hh0 (Stand.of_body B)
    exact ⟨t, o, a1, b1, b2, b3⟩
/-- the table of a body with handlers -/
theorem vx_table {p : Program} {x y : MethodName} {S : Spec} {cc bytes : ByteArray} {maxL maxL' : Nat} {ret ret' : Option FieldType} {e : Env} {s s₁ : State} {m : MethodId} {args : Array Value} {below : List Frame} {meth : Method} {c : Code} {hh : List (Nat × Nat × Nat × Nat)}
    (B : BodyLoose p l y S cc maxL ret e s m args below meth c s₁) (h : (Cond.codeWith y bytes maxL' ret' hh).before args s = true) : c.exceptionTable.toList = tableOf hh := by
  obtain ⟨m9, meth9, c9, hn9, h1, h2, -, -, h6, -⟩ := Cond.codeWith_spec h
  cases Option.some.inj (hn9.symm.trans B.named)
  cases Option.some.inj (h1.symm.trans B.method)
  cases Option.some.inj (h2.symm.trans (Stand.of_body B).code)
  rw [← h6, table_eq]
end Bodies
end VXA
/-! ===== END ===== -/
/-! ===== BEGIN a static call of a method with an exception table ===== -/
section VXS
variable {p : Program} {l : Launch} {e : Env} {R : Room} {s : State} {m : MethodId} {args : Array Value} {below : List Frame} {meth : Method} {c : Code} {T : State} {H : Heap} {locs : List Loc} {cells slots : Nat}
abbrev vx_CSW (R : Room) (s : State) (args : Array Value) (own : String) (index : Nat) (y : MethodName) (bytes : ByteArray) (maxL : Nat) (ret : Option FieldType) (hh : List (Nat × Nat × Nat × Nat)) (ws : List Cond) (rm : Room) (mc ms n : Nat) : Prop :=
  (rm.cells = mc ∧ rm.slots = ms ∧ rm.frames + 1 ≤ R.frames ∧ 8 + (maxL + 11) + rm.locals ≤ R.locals ∧ (∀ w ∈ ws, ∀ (a' : Array Value) (U : State), s.WarmedH U.vm → w.before a' U = true) ∧ Cond.codeWith y bytes maxL ret hh ∈ ws) ∧
  (Cond.codeWith y bytes maxL ret hh).before args s = true ∧ (Cond.initialized y.cls).before args s = true ∧ (y.cls ≠ "java/lang/invoke/MethodHandle" ∧ y.cls ≠ "java/lang/invoke/VarHandle") ∧
  (∀ sig, parseMethodDescriptor y.desc = some sig → n = sig.parameters.length) ∧ (Cond.methodLink own index y).before args s = true ∧ (Cond.static y).before args s = true
theorem vx_cwSW {own : String} {index maxL mc ms : Nat} {y : MethodName} {bytes : ByteArray} {ret : Option FieldType} {hh : List (Nat × Nat × Nat × Nat)} {Ts ws ws' : List Cond} {rm : Room} (n : Nat) (ht : ∀ w ∈ Ts, w.before args s = true) (hT : GoodIn Ts (va_wsS own index y ws)) (hw : ws = Cond.codeWith y bytes maxL ret hh :: ws') (hrc : rm.cells = mc) (hrs : rm.slots = ms)
    (hd : y.cls ≠ "java/lang/invoke/MethodHandle" ∧ y.cls ≠ "java/lang/invoke/VarHandle" ∧ (parseMethodDescriptor y.desc).map (fun d => d.parameters.length) = some n) (hR : rm.frames + 1 ≤ R.frames ∧ 8 + (maxL + 11) + rm.locals ≤ R.locals) :
    vx_CSW R s args own index y bytes maxL ret hh ws rm mc ms n := by
  have ok : ∀ w ∈ va_wsS own index y ws, w.before args s = true := fun w h => ht w (hT w h).1
  have hG : GoodIn Ts ws := fun w h => hT w (by unfold va_wsS; exact List.mem_append_right _ h)
  have hc : Cond.codeWith y bytes maxL ret hh ∈ ws := by rw [hw]; exact List.mem_cons_self
  refine ⟨⟨hrc, hrs, hR.1, hR.2, pay_in ht hG, hc⟩, ht _ (hG _ hc).1, ok _ (by simp [va_wsS]), ⟨hd.1, hd.2.1⟩, fun sig h => ?_, ok _ (by simp [va_wsS]), ok _ (by simp [va_wsS])⟩
  have h2 := hd.2.2
  rw [h] at h2
  exact (Option.some.inj h2).symm
theorem vx_callSW (X : Stand p l e R s m args below meth c T locs cells slots) (hexec : p.tables.exec = Jvm.exec) {own : String} {index : Nat} {y : MethodName} {bytes : ByteArray} {maxL : Nat} {ret : Option FieldType} {hh : List (Nat × Nat × Nat × Nat)}
    (hown : s.vm.findClass own = some m.cls) (hlink : (Cond.methodLink own index y).before args s = true) (hstat : (Cond.static y).before args s = true) (hinit : (Cond.initialized y.cls).before args s = true)
    (hcode : (Cond.codeWith y bytes maxL ret hh).before args s = true) (hy : y.cls ≠ "java/lang/invoke/MethodHandle" ∧ y.cls ≠ "java/lang/invoke/VarHandle")
    {W9 : Nat} {Pre : Pt → Array Value → Prop} {Post : Pt → Array Value → Option Value → Pt → Prop} (hK : Back l R p e below s args y 3 W9 Pre Post)
    {g : JFrame} (hg : g.method = m) (hsize : g.locals.size = c.maxLocals) {argsL rest : List Value} (hlen : ∀ sig, parseMethodDescriptor y.desc = some sig → argsL.length = sig.parameters.length)
    (hstack : g.stack = argsL.reverse ++ rest) (hW : 2 * g.monitorRoom + (rest.map fun v => v.category).sum ≤ W9) (hdg : decode c.code g.pc = .ok (.invokestatic index, 3))
    (hpre : ∀ vm₁, s.WarmedH vm₁ → Pre ⟨T.setVm vm₁, locs, cells, slots⟩ argsL.toArray) :
    ∃ (v : Option Value) (vm₁ : Vm) (B : Pt), s.WarmedH vm₁ ∧ Stand p l e R s m args below meth c B.U B.locs B.cells B.slots ∧ Post ⟨T.setVm vm₁, locs, cells, slots⟩ argsL.toArray v B ∧
      ∀ target, Steps p.tables e below (B.U.setTop { g with pc := g.pc + 3, stack := v.toList ++ rest }) target → Steps p.tables e below (T.setTop g) target := by
  obtain ⟨mk, methM, cM, hnamed, hmethM, -, -, -, -, -, -, hsigM⟩ := Cond.codeWith_spec hcode
  have hstatic : methM.isStatic = true := Cond.static_spec hnamed hmethM hstat
  obtain ⟨kP, hkP, -⟩ := className_of_methodNamed hnamed
  have hinitP : kP.init = .initialized := Cond.initialized_spec (findClass_of_methodNamed hnamed) hkP hinit
  obtain ⟨vm₁, X₁, hstep₁⟩ := X.invokestatic hexec hown hlink hnamed hmethM hstatic hkP hinitP hy (g := g) hg (argsL := argsL) (rest := rest) (hlen _ hsigM) hstack hdg
  obtain ⟨v, B, X', hpost, hsteps⟩ := hK m meth c ⟨T.setVm vm₁, locs, cells, slots⟩ { g with stack := rest } (.invokestatic index) mk argsL.toArray X₁ hg hsize hdg hW (X₁.named hnamed) (hpre vm₁ X₁.warmed)
  exact ⟨v, vm₁, B, X₁.warmed, X', hpost, fun target h => hstep₁ _ fun acts => by rw [doInvoke_state]; exact hsteps.trans h⟩
theorem vx_runSW {y : MethodName} {bytes cc : ByteArray} {maxL nL mc ms n index : Nat} {ret : Option FieldType} {hh : List (Nat × Nat × Nat × Nat)} {ws : List Cond} {rm : Room} {Pc : Array Value → State → Prop} {Qc : Array Value → State → Outcome → State → Prop} {free : Addr → Prop} {Ts : List Cond} {own : String} {As rest : List Value} {g : JFrame}
    (S : CallFix p m c cc nL s args Ts own) (hM : Met l y ws rm Pc Qc mc ms free) (cw : vx_CSW R s args own index y bytes maxL ret hh ws rm mc ms n) (hp : PreS s H Pc As)
    (hg : g.method = m) (hn : As.length = n) (hsize : g.locals.size = nL) (hstack : g.stack = As.reverse ++ rest) (hW : 2 * g.monitorRoom + (rest.map fun v => v.category).sum ≤ 8) (hdg : decode cc g.pc = .ok (.invokestatic index, 3)) (hf : cells + mc ≤ R.cells ∧ slots + ms ≤ R.slots) :
    va_Run p l e R s m args below meth c H locs cells slots mc ms g rest (Qc As.toArray) (free) := by
  obtain ⟨⟨hrc, hrs, hfr, hlo, hws, hcw⟩, hcode, hini, hy, hlen, hl, hstt⟩ := cw
  have hK : Back l R p e below s args y 3 8 (PreOf R mc ms Pc) (PostOf Qc mc ms free) := va_backW (hh := hh) (bytes := bytes) (maxL := maxL) (ret := ret) hM hp.1 hrc hrs hfr hlo hws hcw (fun a' U hW => word_at hW (Or.inl (by first | rfl | simp [Cond.onTables, Cond.keeps, Cond.steady])) hini)
  obtain ⟨hx, hb, hml, ho, -⟩ := S
  intro T hT X
  obtain ⟨v, vm₁, ⟨U', l2, c2, s2⟩, hW₁, X', ⟨g', mk, t, L, e1, e2, hq, h1, hL, h2, h3⟩, st⟩ := vx_callSW X hx (hh := hh) (bytes := bytes) (maxL := maxL) (ret := ret) ho hl hstt hini hcode hy hK hg (hsize.trans hml.symm) (argsL := As) (rest := rest) (fun sig h => hn.trans (hlen sig h)) hstack hW (by rw [hb]; exact hdg)
    (fun vm₁ hW₁ => ⟨hf.1, hf.2, hp.2 (T.setVm vm₁) hT hW₁⟩)
  dsimp only [Pt.U, Pt.locs, Pt.cells, Pt.slots] at X' e1 e2 h1 h2 h3 st
  subst h1; subst h2; subst h3
  exact ⟨v, (T.setVm vm₁).calling g' mk As.toArray, t, U', L, hT, X', hL, e1, e2, hq, st⟩
/-- not caught here, past rows that name other classes: it goes on to the caller -/
theorem vx_outP {p : Program} {l : Launch} {e : Env} {R : Room} {s : State} {m : MethodId} {args : Array Value} {below : List Frame} {meth : Method} {c : Code} {H : Heap} {locs : List Loc} {cells slots : Nat} {free : Addr → Prop} {ls : Array Slot} {rest : List Value} {Qc : Array Value → State → Outcome → State → Prop} {XC : String → State → State → Prop}
    {pc : Nat} {own E : String} {ce : Cell} {q : Addr} {mc ms : Nat} (hown : s.vm.findClass own = some m.cls) (hlocks : meth.locks = false)
    (hpass : ∀ z ∈ c.exceptionTable.toList, covers z pc = false ∨ (z.catchType ≠ 0 ∧ ∃ nm : String, (Cond.classLink own z.catchType nm).before args s = true ∧ va_Nc E nm s)) (hcell : H[q]? = some ce) (hv : ce.vm = .none) (hcl : s.vm.findClass E = some ce.cls)
    (hx : ∀ t : State, t.heap = H → s.vm.Alike t.vm → XC E s t) (hf : ∀ z ∈ locs, free z.base) (hc : cells ≤ mc) (hs : slots ≤ ms) :
    vx_W p l e R s m args below meth c H locs cells slots (vx_MQ below Qc XC args s mc ms free) (F0 m pc ls rest) q := by
  intro T hT X
  have hpl : e.platform.magicAccessors = ({} : Platform).magicAccessors := by rw [X.admits.platform]
  obtain ⟨vm', hW', X', st⟩ := Stand.outThrough X hlocks q (g := F0 m pc ls rest) rfl rfl rfl (cell := ce) (by rw [hT]; exact hcell) (by rw [hv]; rfl)
    (by obtain ⟨k9, h9, -⟩ := Vm.findClass_spec hcl; exact ⟨k9, h9⟩) (fun z hz => by
      rcases hpass z hz with h | ⟨hz0, nm, hl1, hn1⟩
      · exact Or.inl h
      · obtain ⟨c6, hc6, hcl6⟩ := Cond.classLink_spec hown hl1 e.platform hpl
        obtain ⟨a8, b8, h1, h2, h3⟩ := hn1
        cases Option.some.inj (h1.symm.trans hcl)
        cases Option.some.inj (h2.symm.trans hc6)
        exact Or.inr ⟨hz0, _, hcl6, h3⟩)
  obtain ⟨g₀, hfr⟩ := X'.frames_eq
  have hcell9 : ((T.setVm vm').setFrames (.throwing q :: below)).heap[q]? = some ce := by
    show T.heap[q]? = some ce
    rw [hT]; exact hcell
  have hend : Ended ((T.setVm vm').setFrames (.throwing q :: below)) below (.threw q) := State.frames_setFrames _ (State.cur_lt_of_frames hfr)
  refine ⟨(T.setVm vm').setFrames (.throwing q :: below), ?_, .threw q, X'.here.running, hend, Or.inr ⟨q, rfl, E, ce, locs, hx _ hT (X'.ends _).1.alike, hcell9, hv, hcl, (X'.ends _).1, (X'.ends _).2.mono hc hs, hf⟩⟩
  rw [X.pushThrowing_eq]
  exact st
/-- a thing of a world lies in the heap -/
theorem vx_lt {D : va_G} {cl : List vw_C} {ws : va_W} {H1 : Heap} (h : va_P D cl ws H1) {k : Nat} {q : Nat × va_E} (hk : ws[k]? = some q) : q.1 < H1.size := (h k q hk).lt
end VXS
/-! ===== END ===== -/
/-! ===== BEGIN methods with a table of their own: called by a name, returning or throwing ===== -/
section VXH
/-! vx_backW, vx_callVX, vx_callSX, vx_callVW, vx_runVW, vx_runVX, vx_runSX, vx_ofWH follow the same proofs as their sisters above (Free/Laws.lean, Shelf42/LK1.lean); vx_outP calls Shelf42/NT130.lean (outThrough). -/
section
variable {l : Launch} {R : Room} {p : Program} {e : Env} {below : List Frame} {s : State} {sargs : Array Value} {y : MethodName} {len W9 : Nat}
theorem vx_backW {ws : List Cond} {rm : Room} {Pc : Array Value → State → Prop} {Qc : Array Value → State → Outcome → State → Prop} {XC : String → State → State → Prop} {mc ms : Nat} {free : Addr → Prop} {bytes : ByteArray} {maxL : Nat} {ret : Option FieldType} {hh : List (Nat × Nat × Nat × Nat)}
    (hM : vx_Met l y ws rm Pc Qc XC mc ms free) (hblind : FrameBlind Pc) (hrc : rm.cells = mc) (hrs : rm.slots = ms)
    (hframes : rm.frames + 1 ≤ R.frames) (hlocals : W9 + (maxL + 11) + rm.locals ≤ R.locals)
    (hws : ∀ w ∈ ws, ∀ a' U, s.WarmedH U.vm → w.before a' U = true) (hcode : Cond.codeWith y bytes maxL ret hh ∈ ws) (hinit : ∀ a' U, s.WarmedH U.vm → (Cond.initialized y.cls).before a' U = true) :
    vx_Back l R p e below s sargs y len W9 (PreOf R mc ms Pc) (PostOf Qc mc ms free) (vx_Post XC mc ms free) := by
  intro m meth c A g ig mk a X hg hsize hdg hW hn hp
  have h1 : (headSpec ws rm).pre.before a A.U = true := atoms_intro fun w hw => hws w hw _ _ X.warmed
  have h2 : (Cond.codeWith y bytes maxL ret hh).before a A.U = true := hws _ hcode _ _ X.warmed
  have h3 : (Cond.initialized y.cls).before a A.U = true := hinit _ _ X.warmed
  have h4 : A.cells + (headSpec ws rm).room.cells ≤ R.cells := by rw [show (headSpec ws rm).room.cells = mc from hrc]; exact hp.1
  have h5 : A.slots + (headSpec ws rm).room.slots ≤ R.slots := by rw [show (headSpec ws rm).room.slots = ms from hrs]; exact hp.2.1
  have hPc : Pc a (A.U.calling g mk a) := hblind _ _ _ _ hp.2.2
  obtain ⟨U, Ls, c0, s0⟩ := A
  dsimp only [Pt.U, Pt.locs, Pt.cells, Pt.slots] at h1 h2 h3 h4 h5 X hn hPc ⊢
  obtain ⟨m9, methY, cY, hn9, hmY, hcY, -, hlY, -⟩ := Cond.codeWith_spec h2
  cases Option.some.inj (hn9.symm.trans hn)
  obtain ⟨kY, hkY, -⟩ := className_of_methodNamed hn
  have hinitY : kY.init = .initialized := Cond.initialized_spec (findClass_of_methodNamed hn) hkY h3
  have h : At U g.method c below := by rw [hg]; exact X.here
  have hlocals9 : W9 + (maxL + 11) + (headSpec ws rm).room.locals ≤ R.locals := hlocals
  have happ : (headSpec ws rm).appliesLoose y e.platform (U.calling g mk a) = true :=
    Spec.appliesLoose_calling (g := g) h hdg hn hkY hinitY
      (X.room_calling (g := g) (R' := (headSpec ws rm).room) hsize hmY hcY hframes (by rw [hlY]; omega) h4 h5) h1
  obtain ⟨mid, hmid⟩ := h.above
  have hfr : (U.setTop g).frames = (.java g :: mid) ++ below := by rw [State.frames_setTop' g h.top, hmid]; rfl
  obtain ⟨o, s₂, hsteps, -, hend, hq⟩ := Steps.callFree hM p X.admits X.cas X.clock (acts := []) hfr happ hPc trivial
  have hq' : vx_Q Qc XC mc ms free a (U.calling g mk a) o s₂ := hq
  rw [State.frames_setTop' g h.top] at hend
  obtain ⟨g₀, hg0⟩ := Option.isSome_iff_exists.mp h.top
  obtain ⟨r, hr⟩ := State.topJava?_eq_some.mp hg0
  have hr' : (({ U with heap := s₂.heap, slotsUsed := s₂.slotsUsed } : State).setVm s₂.vm).frames = .java g₀ :: r := hr
  rcases hq' with ⟨hqc, L, hfe, hL⟩ | ⟨q, rfl, E, ce, L, hx, hce, hcv, hcl, hW₂, hsm, hL⟩
  · obtain ⟨⟨v, rfl⟩, hW₂, e2, q2, q3, q4, q5, q6⟩ := id hfe
    have e3 : s₂ = ({ (U.calling g mk a).setFrames s₂.frames with heap := s₂.heap, slotsUsed := s₂.slotsUsed } : State).setVm s₂.vm := by
      have : s₂ = ({ s₂ with vm := (U.calling g mk a).vm } : State).setVm s₂.vm := rfl
      rw [e2] at this
      exact this
    obtain ⟨c₂, i₂, len₂, hc₂, hd₂, hf₂⟩ := hend
    have hW' : U.WarmedH s₂.vm := hW₂
    have hcc : c₂ = c := by
      have h1 : s₂.code? g.method = U.code? g.method := by
        rw [State.code?_eq, State.code?_eq, hW'.alike.method?]
      exact Option.some.inj (hc₂.symm.trans (h1.trans h.code))
    subst hcc
    have hlen : len₂ = len := by rw [hdg] at hd₂; cases hd₂; rfl
    subst hlen
    have hs₂ : s₂ = (({ U with heap := s₂.heap, slotsUsed := s₂.slotsUsed } : State).setVm s₂.vm).setTop { g with pc := g.pc + len₂, stack := v.toList ++ g.stack } := by
      refine e3.trans ?_
      rw [hf₂, State.calling_eq h.top, State.setFrames_setFrames, State.setTop_of_frames _ hr', hr]
      rfl
    have hsame : U.sameButNew ({ U with heap := s₂.heap, slotsUsed := s₂.slotsUsed } : State) L mc ms := by
      refine ⟨?_, q2, q3, q4, q5, q6⟩
      obtain ⟨t, ht, -⟩ := State.frames_cons hr
      show ({ U with heap := s₂.heap, slotsUsed := s₂.slotsUsed } : State) = { U.setFrames U.frames with heap := s₂.heap, slotsUsed := s₂.slotsUsed }
      rw [State.setFrames_self ht]
    subst hg
    refine Or.inl ⟨v, ⟨(({ U with heap := s₂.heap, slotsUsed := s₂.slotsUsed } : State).setVm s₂.vm), Ls ++ L, c0 + mc, s0 + ms⟩,
      ⟨X.admits, X.cas, X.clock, X.frames, X.room, X.hears, X.method, X.code, (X.here.setHeapUsed s₂.heap s₂.slotsUsed).setVm hW'.alike, X.tail, State.WarmedH.trans X.warmed hW', X.limits, X.bytes, X.same.trans (hsame.setVm s.vm)⟩,
      ⟨g, mk, s₂, L, rfl, rfl, hqc, rfl, hL, rfl, rfl⟩, ?_⟩
    show Steps p.tables e below _ ((({ U with heap := s₂.heap, slotsUsed := s₂.slotsUsed } : State).setVm s₂.vm).setTop { g with pc := g.pc + len₂, stack := v.toList ++ g.stack })
    rw [← hs₂]
    exact hsteps
  · obtain ⟨e2, q2, q3, q4, q5, q6⟩ := id hsm
    have e3 : s₂ = ({ (U.calling g mk a).setFrames s₂.frames with heap := s₂.heap, slotsUsed := s₂.slotsUsed } : State).setVm s₂.vm := by
      have : s₂ = ({ s₂ with vm := (U.calling g mk a).vm } : State).setVm s₂.vm := rfl
      rw [e2] at this
      exact this
    have hf₂ : s₂.frames = .throwing q :: .java g :: U.frames.tail := hend
    have hW' : U.WarmedH s₂.vm := hW₂
    have hs₂ : s₂ = ((({ U with heap := s₂.heap, slotsUsed := s₂.slotsUsed } : State).setVm s₂.vm).setTop g).pushFrame (.throwing q) := by
      refine e3.trans ?_
      rw [hf₂, State.calling_eq h.top, State.setFrames_setFrames, State.pushFrame, State.frames_setTop _ hr', State.setTop_of_frames _ hr', State.setFrames_setFrames, hr]
      rfl
    have hsame : U.sameButNew ({ U with heap := s₂.heap, slotsUsed := s₂.slotsUsed } : State) L mc ms := by
      refine ⟨?_, q2, q3, q4, q5, q6⟩
      obtain ⟨t, ht, -⟩ := State.frames_cons hr
      show ({ U with heap := s₂.heap, slotsUsed := s₂.slotsUsed } : State) = { U.setFrames U.frames with heap := s₂.heap, slotsUsed := s₂.slotsUsed }
      rw [State.setFrames_self ht]
    subst hg
    refine Or.inr ⟨q, ⟨(({ U with heap := s₂.heap, slotsUsed := s₂.slotsUsed } : State).setVm s₂.vm), Ls ++ L, c0 + mc, s0 + ms⟩,
      ⟨X.admits, X.cas, X.clock, X.frames, X.room, X.hears, X.method, X.code, (X.here.setHeapUsed s₂.heap s₂.slotsUsed).setVm hW'.alike, X.tail, State.WarmedH.trans X.warmed hW', X.limits, X.bytes, X.same.trans (hsame.setVm s.vm)⟩,
      ⟨g, mk, s₂, L, E, ce, rfl, rfl, hx, hce, hcv, hcl, rfl, hL, rfl, rfl⟩, ?_⟩
    show Steps p.tables e below _ (((({ U with heap := s₂.heap, slotsUsed := s₂.slotsUsed } : State).setVm s₂.vm).setTop g).pushFrame (.throwing q))
    rw [← hs₂]
    exact hsteps
end
variable {p : Program} {l : Launch} {e : Env} {R : Room} {s : State} {m : MethodId} {args : Array Value} {below : List Frame} {meth : Method} {c : Code} {T : State} {H : Heap} {locs : List Loc} {cells slots : Nat}
theorem vx_callVX (X : Stand p l e R s m args below meth c T locs cells slots) (hexec : p.tables.exec = Jvm.exec) {own C : String} {index : Nat} {y : MethodName} {bytes : ByteArray} {maxL : Nat} {ret : Option FieldType} {hh : List (Nat × Nat × Nat × Nat)}
    (hown : s.vm.findClass own = some m.cls) (hlink : (Cond.methodLink own index y).before args s = true) (hinst : (Cond.instanceMethod y).before args s = true) (hsel : (Cond.selects C y y).before args s = true)
    (hcode : (Cond.codeWith y bytes maxL ret hh).before args s = true) (hy : y.cls ≠ "java/lang/invoke/MethodHandle" ∧ y.cls ≠ "java/lang/invoke/VarHandle")
    {W9 : Nat} {Pre : Pt → Array Value → Prop} {Post : Pt → Array Value → Option Value → Pt → Prop} {PostX : Pt → Array Value → Addr → Pt → Prop} (hK : vx_Back l R p e below s args y 3 W9 Pre Post PostX)
    {b : Addr} {cellB : Cell} (hcell : T.heap[b]? = some cellB) (hobj : cellB.vm.isStatics = false) (hcls : s.vm.findClass C = some cellB.cls)
    {g : JFrame} (hg : g.method = m) (hsize : g.locals.size = c.maxLocals) {argsL rest : List Value} (hlen : ∀ sig, parseMethodDescriptor y.desc = some sig → argsL.length = sig.parameters.length)
    (hstack : g.stack = argsL.reverse ++ .ref b :: rest) (hW : 2 * g.monitorRoom + (rest.map fun v => v.category).sum ≤ W9) (hdg : decode c.code g.pc = .ok (.invokevirtual index, 3))
    (hpre : ∀ vm₁, s.WarmedH vm₁ → Pre ⟨T.setVm vm₁, locs, cells, slots⟩ (Value.ref b :: argsL).toArray) :
    (∃ (v : Option Value) (vm₁ : Vm) (B : Pt), s.WarmedH vm₁ ∧ Stand p l e R s m args below meth c B.U B.locs B.cells B.slots ∧ Post ⟨T.setVm vm₁, locs, cells, slots⟩ (Value.ref b :: argsL).toArray v B ∧
      ∀ target, Steps p.tables e below (B.U.setTop { g with pc := g.pc + 3, stack := v.toList ++ rest }) target → Steps p.tables e below (T.setTop g) target) ∨
    (∃ (q : Addr) (vm₁ : Vm) (B : Pt), s.WarmedH vm₁ ∧ Stand p l e R s m args below meth c B.U B.locs B.cells B.slots ∧ PostX ⟨T.setVm vm₁, locs, cells, slots⟩ (Value.ref b :: argsL).toArray q B ∧
      Steps p.tables e below (T.setTop g) ((B.U.setTop { g with stack := rest }).pushFrame (.throwing q))) := by
  obtain ⟨mk, methM, hnamed, hmethM, hstM, habM⟩ := Cond.instanceMethod_spec hinst
  obtain ⟨m8, methM', cM, hn8, hmethM', -, -, -, -, -, -, hsigM⟩ := Cond.codeWith_spec hcode
  cases Option.some.inj (hn8.symm.trans hnamed)
  cases hmethM.symm.trans hmethM'
  obtain ⟨c2, r2, m2, q1, q2, q3, q4, kP, hkP, hkPi⟩ := Cond.selects_spec hsel
  cases hcls.symm.trans q1
  cases (State.methodFound?_of_named hnamed hy).symm.trans q2
  cases hnamed.symm.trans q3
  have hselP : selectMethod e.platform s.vm cellB.cls mk = .method mk := by rw [Launch.admits_selectMethod X.admits]; exact q4
  obtain ⟨vm₁, X₁, hstep₁⟩ := X.invokevirtual hexec hown hlink hnamed hmethM hstM hkP hkPi hy (a := b) (cell := cellB) hcell
    (fun z h => by rw [h] at hobj; cases hobj) hselP hmethM habM hkP hkPi (g := g) hg (argsL := argsL) (rest := rest) (hlen _ hsigM) hstack hdg
  rcases hK m meth c ⟨T.setVm vm₁, locs, cells, slots⟩ { g with stack := rest } (.invokevirtual index) mk (Value.ref b :: argsL).toArray X₁ hg hsize hdg hW (X₁.named hnamed) (hpre vm₁ X₁.warmed) with ⟨v, B, X', hpost, hsteps⟩ | ⟨q, B, X', hpost, hsteps⟩
  · exact Or.inl ⟨v, vm₁, B, X₁.warmed, X', hpost, fun target h => hstep₁ _ fun acts => by rw [doInvoke_state]; exact hsteps.trans h⟩
  · exact Or.inr ⟨q, vm₁, B, X₁.warmed, X', hpost, hstep₁ _ fun acts => by rw [doInvoke_state]; exact hsteps⟩
theorem vx_callSX (X : Stand p l e R s m args below meth c T locs cells slots) (hexec : p.tables.exec = Jvm.exec) {own : String} {index : Nat} {y : MethodName} {bytes : ByteArray} {maxL : Nat} {ret : Option FieldType} {hh : List (Nat × Nat × Nat × Nat)}
    (hown : s.vm.findClass own = some m.cls) (hlink : (Cond.methodLink own index y).before args s = true) (hstat : (Cond.static y).before args s = true) (hinit : (Cond.initialized y.cls).before args s = true)
    (hcode : (Cond.codeWith y bytes maxL ret hh).before args s = true) (hy : y.cls ≠ "java/lang/invoke/MethodHandle" ∧ y.cls ≠ "java/lang/invoke/VarHandle")
    {W9 : Nat} {Pre : Pt → Array Value → Prop} {Post : Pt → Array Value → Option Value → Pt → Prop} {PostX : Pt → Array Value → Addr → Pt → Prop} (hK : vx_Back l R p e below s args y 3 W9 Pre Post PostX)
    {g : JFrame} (hg : g.method = m) (hsize : g.locals.size = c.maxLocals) {argsL rest : List Value} (hlen : ∀ sig, parseMethodDescriptor y.desc = some sig → argsL.length = sig.parameters.length)
    (hstack : g.stack = argsL.reverse ++ rest) (hW : 2 * g.monitorRoom + (rest.map fun v => v.category).sum ≤ W9) (hdg : decode c.code g.pc = .ok (.invokestatic index, 3))
    (hpre : ∀ vm₁, s.WarmedH vm₁ → Pre ⟨T.setVm vm₁, locs, cells, slots⟩ argsL.toArray) :
    (∃ (v : Option Value) (vm₁ : Vm) (B : Pt), s.WarmedH vm₁ ∧ Stand p l e R s m args below meth c B.U B.locs B.cells B.slots ∧ Post ⟨T.setVm vm₁, locs, cells, slots⟩ argsL.toArray v B ∧
      ∀ target, Steps p.tables e below (B.U.setTop { g with pc := g.pc + 3, stack := v.toList ++ rest }) target → Steps p.tables e below (T.setTop g) target) ∨
    (∃ (q : Addr) (vm₁ : Vm) (B : Pt), s.WarmedH vm₁ ∧ Stand p l e R s m args below meth c B.U B.locs B.cells B.slots ∧ PostX ⟨T.setVm vm₁, locs, cells, slots⟩ argsL.toArray q B ∧
      Steps p.tables e below (T.setTop g) ((B.U.setTop { g with stack := rest }).pushFrame (.throwing q))) := by
  obtain ⟨mk, methM, cM, hnamed, hmethM, -, -, -, -, -, -, hsigM⟩ := Cond.codeWith_spec hcode
  have hstatic : methM.isStatic = true := Cond.static_spec hnamed hmethM hstat
  obtain ⟨kP, hkP, -⟩ := className_of_methodNamed hnamed
  have hinitP : kP.init = .initialized := Cond.initialized_spec (findClass_of_methodNamed hnamed) hkP hinit
  obtain ⟨vm₁, X₁, hstep₁⟩ := X.invokestatic hexec hown hlink hnamed hmethM hstatic hkP hinitP hy (g := g) hg (argsL := argsL) (rest := rest) (hlen _ hsigM) hstack hdg
  rcases hK m meth c ⟨T.setVm vm₁, locs, cells, slots⟩ { g with stack := rest } (.invokestatic index) mk argsL.toArray X₁ hg hsize hdg hW (X₁.named hnamed) (hpre vm₁ X₁.warmed) with ⟨v, B, X', hpost, hsteps⟩ | ⟨q, B, X', hpost, hsteps⟩
  · exact Or.inl ⟨v, vm₁, B, X₁.warmed, X', hpost, fun target h => hstep₁ _ fun acts => by rw [doInvoke_state]; exact hsteps.trans h⟩
  · exact Or.inr ⟨q, vm₁, B, X₁.warmed, X', hpost, hstep₁ _ fun acts => by rw [doInvoke_state]; exact hsteps⟩
theorem vx_callVW (X : Stand p l e R s m args below meth c T locs cells slots) (hexec : p.tables.exec = Jvm.exec) {own C : String} {index : Nat} {y : MethodName} {bytes : ByteArray} {maxL : Nat} {ret : Option FieldType} {hh : List (Nat × Nat × Nat × Nat)}
    (hown : s.vm.findClass own = some m.cls) (hlink : (Cond.methodLink own index y).before args s = true) (hinst : (Cond.instanceMethod y).before args s = true) (hsel : (Cond.selects C y y).before args s = true)
    (hcode : (Cond.codeWith y bytes maxL ret hh).before args s = true) (hy : y.cls ≠ "java/lang/invoke/MethodHandle" ∧ y.cls ≠ "java/lang/invoke/VarHandle")
    {W9 : Nat} {Pre : Pt → Array Value → Prop} {Post : Pt → Array Value → Option Value → Pt → Prop} (hK : Back l R p e below s args y 3 W9 Pre Post)
    {b : Addr} {cellB : Cell} (hcell : T.heap[b]? = some cellB) (hobj : cellB.vm.isStatics = false) (hcls : s.vm.findClass C = some cellB.cls)
    {g : JFrame} (hg : g.method = m) (hsize : g.locals.size = c.maxLocals) {argsL rest : List Value} (hlen : ∀ sig, parseMethodDescriptor y.desc = some sig → argsL.length = sig.parameters.length)
    (hstack : g.stack = argsL.reverse ++ .ref b :: rest) (hW : 2 * g.monitorRoom + (rest.map fun v => v.category).sum ≤ W9) (hdg : decode c.code g.pc = .ok (.invokevirtual index, 3))
    (hpre : ∀ vm₁, s.WarmedH vm₁ → Pre ⟨T.setVm vm₁, locs, cells, slots⟩ (Value.ref b :: argsL).toArray) :
    ∃ (v : Option Value) (vm₁ : Vm) (B : Pt), s.WarmedH vm₁ ∧ Stand p l e R s m args below meth c B.U B.locs B.cells B.slots ∧ Post ⟨T.setVm vm₁, locs, cells, slots⟩ (Value.ref b :: argsL).toArray v B ∧
      ∀ target, Steps p.tables e below (B.U.setTop { g with pc := g.pc + 3, stack := v.toList ++ rest }) target → Steps p.tables e below (T.setTop g) target := by
  obtain ⟨mk, methM, hnamed, hmethM, hstM, habM⟩ := Cond.instanceMethod_spec hinst
  obtain ⟨m8, methM', cM, hn8, hmethM', -, -, -, -, -, -, hsigM⟩ := Cond.codeWith_spec hcode
  cases Option.some.inj (hn8.symm.trans hnamed)
  cases hmethM.symm.trans hmethM'
  obtain ⟨c2, r2, m2, q1, q2, q3, q4, kP, hkP, hkPi⟩ := Cond.selects_spec hsel
  cases hcls.symm.trans q1
  cases (State.methodFound?_of_named hnamed hy).symm.trans q2
  cases hnamed.symm.trans q3
  have hselP : selectMethod e.platform s.vm cellB.cls mk = .method mk := by rw [Launch.admits_selectMethod X.admits]; exact q4
  obtain ⟨vm₁, X₁, hstep₁⟩ := X.invokevirtual hexec hown hlink hnamed hmethM hstM hkP hkPi hy (a := b) (cell := cellB) hcell
    (fun z h => by rw [h] at hobj; cases hobj) hselP hmethM habM hkP hkPi (g := g) hg (argsL := argsL) (rest := rest) (hlen _ hsigM) hstack hdg
  obtain ⟨v, B, X', hpost, hsteps⟩ := hK m meth c ⟨T.setVm vm₁, locs, cells, slots⟩ { g with stack := rest } (.invokevirtual index) mk (Value.ref b :: argsL).toArray X₁ hg hsize hdg hW (X₁.named hnamed) (hpre vm₁ X₁.warmed)
  exact ⟨v, vm₁, B, X₁.warmed, X', hpost, fun target h => hstep₁ _ fun acts => by rw [doInvoke_state]; exact hsteps.trans h⟩
abbrev vx_CVW (R : Room) (s : State) (args : Array Value) (own C : String) (index : Nat) (y : MethodName) (bytes : ByteArray) (maxL : Nat) (ret : Option FieldType) (hh : List (Nat × Nat × Nat × Nat)) (ws : List Cond) (rm : Room) (mc ms n : Nat) : Prop :=
  (rm.cells = mc ∧ rm.slots = ms ∧ rm.frames + 1 ≤ R.frames ∧ 8 + (maxL + 11) + rm.locals ≤ R.locals ∧ (∀ w ∈ ws, ∀ (a' : Array Value) (U : State), s.WarmedH U.vm → w.before a' U = true) ∧ Cond.codeWith y bytes maxL ret hh ∈ ws) ∧
  (Cond.codeWith y bytes maxL ret hh).before args s = true ∧ (Cond.initialized y.cls).before args s = true ∧ (y.cls ≠ "java/lang/invoke/MethodHandle" ∧ y.cls ≠ "java/lang/invoke/VarHandle") ∧
  (∀ sig, parseMethodDescriptor y.desc = some sig → n = sig.parameters.length) ∧ (Cond.methodLink own index y).before args s = true ∧ (Cond.instanceMethod y).before args s = true ∧ (Cond.selects C y y).before args s = true
theorem vx_cwVW {own C : String} {index maxL mc ms : Nat} {y : MethodName} {bytes : ByteArray} {ret : Option FieldType} {hh : List (Nat × Nat × Nat × Nat)} {Ts ws ws' : List Cond} {rm : Room} (n : Nat) (ht : ∀ w ∈ Ts, w.before args s = true) (hT : GoodIn Ts (wsV own index C y ws)) (hw : ws = Cond.codeWith y bytes maxL ret hh :: ws') (hrc : rm.cells = mc) (hrs : rm.slots = ms)
    (hd : y.cls = C ∧ y.cls ≠ "java/lang/invoke/MethodHandle" ∧ y.cls ≠ "java/lang/invoke/VarHandle" ∧ (parseMethodDescriptor y.desc).map (fun d => d.parameters.length) = some n) (hR : rm.frames + 1 ≤ R.frames ∧ 8 + (maxL + 11) + rm.locals ≤ R.locals) :
    vx_CVW R s args own C index y bytes maxL ret hh ws rm mc ms n := by
  obtain ⟨hC, hd⟩ := hd
  subst hC
  have ok : ∀ w ∈ wsV own index y.cls y ws, w.before args s = true := fun w h => ht w (hT w h).1
  have hG : GoodIn Ts ws := fun w h => hT w (by unfold wsV; exact List.mem_append_right _ h)
  have hc : Cond.codeWith y bytes maxL ret hh ∈ ws := by rw [hw]; exact List.mem_cons_self
  refine ⟨⟨hrc, hrs, hR.1, hR.2, pay_in ht hG, hc⟩, ht _ (hG _ hc).1, ok _ (by simp [wsV]), ⟨hd.1, hd.2.1⟩, fun sig h => ?_, ok _ (by simp [wsV]), ok _ (by simp [wsV]), ok _ (by simp [wsV])⟩
  have h2 := hd.2.2
  rw [h] at h2
  exact (Option.some.inj h2).symm
theorem vx_runVW {y : MethodName} {bytes cc : ByteArray} {maxL nL mc ms n index : Nat} {ret : Option FieldType} {hh : List (Nat × Nat × Nat × Nat)} {ws : List Cond} {rm : Room} {Pc : Array Value → State → Prop} {Qc : Array Value → State → Outcome → State → Prop} {free : Addr → Prop} {Ts : List Cond} {own C : String} {b : Addr} {As rest : List Value} {g : JFrame}
    (S : CallFix p m c cc nL s args Ts own) (hM : Met l y ws rm Pc Qc mc ms free) (cw : vx_CVW R s args own C index y bytes maxL ret hh ws rm mc ms n) (hp : PreV s H C b Pc As)
    (hg : g.method = m) (hn : As.length = n) (hsize : g.locals.size = nL) (hstack : g.stack = As.reverse ++ .ref b :: rest) (hW : 2 * g.monitorRoom + (rest.map fun v => v.category).sum ≤ 8) (hdg : decode cc g.pc = .ok (.invokevirtual index, 3)) (hf : cells + mc ≤ R.cells ∧ slots + ms ≤ R.slots) :
    va_Run p l e R s m args below meth c H locs cells slots mc ms g rest (Qc (Value.ref b :: As).toArray) free := by
  obtain ⟨⟨hrc, hrs, hfr, hlo, hws, hcw⟩, hcode, hini, hy, hlen, hl, hin, hse⟩ := cw
  have hK : Back l R p e below s args y 3 8 (PreOf R mc ms Pc) (PostOf Qc mc ms free) := va_backW (hh := hh) (bytes := bytes) (maxL := maxL) (ret := ret) hM hp.1 hrc hrs hfr hlo hws hcw (fun a' U hW => word_at hW (Or.inl (by first | rfl | simp [Cond.onTables, Cond.keeps, Cond.steady])) hini)
  obtain ⟨hx, hb, hml, ho, -⟩ := S
  obtain ⟨-, ⟨cellB, hcB, hoB, hclB⟩, hPc⟩ := hp
  intro T hT X
  obtain ⟨v, vm₁, ⟨U', l2, c2, s2⟩, hW₁, X', ⟨g', mk, t, L, e1, e2, hq, h1, hL, h2, h3⟩, st⟩ := vx_callVW X hx (C := C) (hh := hh) (bytes := bytes) (maxL := maxL) (ret := ret) ho hl hin hse hcode hy hK (by rw [hT]; exact hcB) hoB hclB hg (hsize.trans hml.symm) (argsL := As) (rest := rest) (fun sig h => hn.trans (hlen sig h)) hstack hW (by rw [hb]; exact hdg)
    (fun vm₁ hW₁ => ⟨hf.1, hf.2, hPc (T.setVm vm₁) hT hW₁⟩)
  dsimp only [Pt.U, Pt.locs, Pt.cells, Pt.slots] at X' e1 e2 h1 h2 h3 st
  subst h1; subst h2; subst h3
  exact ⟨v, (T.setVm vm₁).calling g' mk (Value.ref b :: As).toArray, t, U', L, hT, X', hL, e1, e2, hq, st⟩
section
variable {y : MethodName} {bytes cc : ByteArray} {maxL nL mc ms n index : Nat} {ret : Option FieldType} {ws : List Cond} {rm : Room} {Pc : Array Value → State → Prop} {Qc : Array Value → State → Outcome → State → Prop} {XC : String → State → State → Prop} {free : Addr → Prop} {Ts : List Cond} {own C : String} {b : Addr} {As rest : List Value} {g : JFrame}
theorem vx_runVX {hh : List (Nat × Nat × Nat × Nat)} (S : CallFix p m c cc nL s args Ts own) (hM : vx_Met l y ws rm Pc Qc XC mc ms free) (cw : vx_CVW R s args own C index y bytes maxL ret hh ws rm mc ms n) (hp : PreV s H C b Pc As)
    (hg : g.method = m) (hn : As.length = n) (hsize : g.locals.size = nL) (hstack : g.stack = As.reverse ++ .ref b :: rest) (hW : 2 * g.monitorRoom + (rest.map fun v => v.category).sum ≤ 8) (hdg : decode cc g.pc = .ok (.invokevirtual index, 3)) (hf : cells + mc ≤ R.cells ∧ slots + ms ≤ R.slots) :
    vx_Run p l e R s m args below meth c H locs cells slots mc ms g rest (Qc (Value.ref b :: As).toArray) XC free := by
  obtain ⟨⟨hrc, hrs, hfr, hlo, hws, hcw⟩, hcode, hini, hy, hlen, hl, hin, hse⟩ := cw
  have hK : vx_Back l R p e below s args y 3 8 (PreOf R mc ms Pc) (PostOf Qc mc ms free) (vx_Post XC mc ms free) := vx_backW (hh := hh) (bytes := bytes) (maxL := maxL) (ret := ret) hM hp.1 hrc hrs hfr hlo hws hcw (fun a' U hW => word_at hW (Or.inl (by first | rfl | simp [Cond.onTables, Cond.keeps, Cond.steady])) hini)
  obtain ⟨hx, hb, hml, ho, -⟩ := S
  obtain ⟨-, ⟨cellB, hcB, hoB, hclB⟩, hPc⟩ := hp
  intro T hT X
  rcases vx_callVX X hx (C := C) (hh := hh) (bytes := bytes) (maxL := maxL) (ret := ret) ho hl hin hse hcode hy hK (by rw [hT]; exact hcB) hoB hclB hg (hsize.trans hml.symm) (argsL := As) (rest := rest) (fun sig h => hn.trans (hlen sig h)) hstack hW (by rw [hb]; exact hdg)
    (fun vm₁ hW₁ => ⟨hf.1, hf.2, hPc (T.setVm vm₁) hT hW₁⟩) with ⟨v, vm₁, ⟨U', l2, c2, s2⟩, hW₁, X', ⟨g', mk, t, L, e1, e2, hq, h1, hL, h2, h3⟩, st⟩ | ⟨q, vm₁, ⟨U', l2, c2, s2⟩, hW₁, X', ⟨g', mk, t, L, E, ce, e1, e2, hq, hce, hcv, hcl, h1, hL, h2, h3⟩, st⟩
  · dsimp only [Pt.U, Pt.locs, Pt.cells, Pt.slots] at X' e1 e2 h1 h2 h3 st
    subst h1; subst h2; subst h3
    exact Or.inl ⟨v, (T.setVm vm₁).calling g' mk (Value.ref b :: As).toArray, t, U', L, hT, X', hL, e1, e2, hq, st⟩
  · dsimp only [Pt.U, Pt.locs, Pt.cells, Pt.slots] at X' e1 e2 h1 h2 h3 st hcl
    subst h1; subst h2; subst h3
    exact Or.inr ⟨q, (T.setVm vm₁).calling g' mk (Value.ref b :: As).toArray, t, U', L, E, ce, hT, X', hL, e1, e2, hq, hce, hcv, vx_cls hW₁ hcl, st⟩
theorem vx_runSX {hh : List (Nat × Nat × Nat × Nat)} (S : CallFix p m c cc nL s args Ts own) (hM : vx_Met l y ws rm Pc Qc XC mc ms free) (cw : vx_CSW R s args own index y bytes maxL ret hh ws rm mc ms n) (hp : PreS s H Pc As)
    (hg : g.method = m) (hn : As.length = n) (hsize : g.locals.size = nL) (hstack : g.stack = As.reverse ++ rest) (hW : 2 * g.monitorRoom + (rest.map fun v => v.category).sum ≤ 8) (hdg : decode cc g.pc = .ok (.invokestatic index, 3)) (hf : cells + mc ≤ R.cells ∧ slots + ms ≤ R.slots) :
    vx_Run p l e R s m args below meth c H locs cells slots mc ms g rest (Qc As.toArray) XC free := by
  obtain ⟨⟨hrc, hrs, hfr, hlo, hws, hcw⟩, hcode, hini, hy, hlen, hl, hstt⟩ := cw
  have hK : vx_Back l R p e below s args y 3 8 (PreOf R mc ms Pc) (PostOf Qc mc ms free) (vx_Post XC mc ms free) := vx_backW (hh := hh) (bytes := bytes) (maxL := maxL) (ret := ret) hM hp.1 hrc hrs hfr hlo hws hcw (fun a' U hW => word_at hW (Or.inl (by first | rfl | simp [Cond.onTables, Cond.keeps, Cond.steady])) hini)
  obtain ⟨hx, hb, hml, ho, -⟩ := S
  intro T hT X
  rcases vx_callSX X hx (hh := hh) (bytes := bytes) (maxL := maxL) (ret := ret) ho hl hstt hini hcode hy hK hg (hsize.trans hml.symm) (argsL := As) (rest := rest) (fun sig h => hn.trans (hlen sig h)) hstack hW (by rw [hb]; exact hdg)
    (fun vm₁ hW₁ => ⟨hf.1, hf.2, hp.2 (T.setVm vm₁) hT hW₁⟩) with ⟨v, vm₁, ⟨U', l2, c2, s2⟩, hW₁, X', ⟨g', mk, t, L, e1, e2, hq, h1, hL, h2, h3⟩, st⟩ | ⟨q, vm₁, ⟨U', l2, c2, s2⟩, hW₁, X', ⟨g', mk, t, L, E, ce, e1, e2, hq, hce, hcv, hcl, h1, hL, h2, h3⟩, st⟩
  · dsimp only [Pt.U, Pt.locs, Pt.cells, Pt.slots] at X' e1 e2 h1 h2 h3 st
    subst h1; subst h2; subst h3
    exact Or.inl ⟨v, (T.setVm vm₁).calling g' mk As.toArray, t, U', L, hT, X', hL, e1, e2, hq, st⟩
  · dsimp only [Pt.U, Pt.locs, Pt.cells, Pt.slots] at X' e1 e2 h1 h2 h3 st hcl
    subst h1; subst h2; subst h3
    exact Or.inr ⟨q, (T.setVm vm₁).calling g' mk As.toArray, t, U', L, E, ce, hT, X', hL, e1, e2, hq, hce, hcv, vx_cls hW₁ hcl, st⟩
end
end VXH
theorem vx_ofWH {l : Launch} {y : MethodName} {ws ws' : List Cond} {rm : Room} {Pc : Array Value → State → Prop} {Qc : Array Value → State → Outcome → State → Prop} {XC : String → State → State → Prop} {mc ms : Nat} {free : Addr → Prop} {cc : ByteArray} {maxL : Nat} {ret : Option FieldType} {hh : List (Nat × Nat × Nat × Nat)}
    (hy : plainName y.cls = true) (hw : ws = Cond.codeWith y cc maxL ret hh :: ws')
    (body : ∀ p e s m args below meth c s₁, BodyLoose p l y (headSpec ws rm) cc maxL ret e s m args below meth c s₁ → c.maxLocals = maxL → Pc args s →
      W p l e (headSpec ws rm).room s m args below meth c s.heap [] 0 0 (vx_MQ below Qc XC args s mc ms free) (entryFrame m args maxL)) : vx_Met l y ws rm Pc Qc XC mc ms free := by
  refine MetFree.of_bodyS (code := cc) (maxLocals := maxL) (ret := ret) hy ?_ ?_
  · intro args s m h hn
    obtain ⟨m9, meth, c, hn9, h1, h2, h3, h4, -, h5, h6, -⟩ := Cond.codeWith_spec (atoms_spec (ws := ws) h _ (by rw [hw]; exact List.mem_cons_self))
    cases hn.symm.trans hn9
    exact ⟨meth, c, h1, h2, h3, h4, h5, h6⟩
  · intro p e s m args below meth c s₁ B hml hP _
    have hh0 : s₁.heap = s.heap := by rw [B.state]; rfl
    obtain ⟨t, a1, o, b1, b2, b3⟩ := body p e s m args below meth c s₁ B hml hP s₁ hh0 (Stand.of_body B)
    exact ⟨t, o, a1, b1, b2, b3⟩
/-! ===== END ===== -/
end
section
/-! 'throw new NoSuchElementException("text")': its constructor of this build hands on by entry 13 of its own file (the printed chain has 7 alone) -/
def na_N : String := "java/util/NoSuchElementException"
def na_all (own : String) (ic : Nat) : List Cond :=
  Bundle.throwableAtoms ++ Bundle.throwableSAtoms ++ (Bundle.passSAtoms na_N "java/lang/RuntimeException" 13 prog_15_method_4_code ++ Bundle.chainSAtoms "java/lang/RuntimeException" ["java/lang/Exception"]) ++
  [.methodLink own ic (Bundle.initS na_N), .instantiable na_N 6, .castable na_N na_N, .selects na_N Bundle.tFill0 Bundle.tFill0, .selects na_N Bundle.tFill Bundle.tFill,
   .lays na_N Bundle.tN "cause" "Ljava/lang/Throwable;", .lays na_N Bundle.tN "stackTrace" Bundle.steD, .lays na_N Bundle.tN "suppressedExceptions" Bundle.listD, .lays na_N Bundle.tN "detailMessage" "Ljava/lang/String;",
   .isRef (.static Bundle.tN "UNASSIGNED_STACK" Bundle.steD), .isRef (.static Bundle.tN "SUPPRESSED_SENTINEL" Bundle.listD),
   .fieldLink Bundle.tN 198 Bundle.tN "backtrace" "Ljava/lang/Object;", .lays Bundle.tN Bundle.tN "backtrace" "Ljava/lang/Object;", .lays na_N Bundle.tN "backtrace" "Ljava/lang/Object;"]
def na_at (own : String) (ic : Nat) : List Cond := (na_all own ic).filter vx_no
theorem na_0 : decode prog_15_method_4_code 0 = .ok (.aload_n 0, 1) := by decide +kernel
theorem na_1 : decode prog_15_method_4_code 1 = .ok (.aload_n 1, 1) := by decide +kernel
theorem na_2 : decode prog_15_method_4_code 2 = .ok (.invokespecial 13, 3) := by decide +kernel
theorem na_5 : decode prog_15_method_4_code 5 = .ok (.return_, 1) := by decide +kernel
section NAC
variable {p : Program} {l : Launch} {e : Env} {R : Room} {s : State} {m₀ : MethodId} {args : Array Value} {below : List Frame} {meth : Method} {c : Code} {W : State} {locs : List Loc} {cells slots : Nat}
set_option maxHeartbeats 4000000 in
theorem na_ctor (X : Stand p l e R s m₀ args below meth c W locs cells slots) (hexec : p.tables.exec = Jvm.exec) (htr : e.platform.stackTraces = false) {own : String} {ic : Nat}
    (hown : s.vm.findClass own = some m₀.cls)
    (h : ∀ a ∈ na_all own ic, a.before args s = true)
    (hlocs : ∀ x ∈ locs, ∀ cell, s.heap[x.base]? = some cell → cell.vm.isStatics = false)
    {a : Addr} {cX : ClassId} {kX : Class} (hfoundX : s.vm.findClass na_N = some cX) (hkX : s.vm.classes[cX]? = some kX) (hcell : W.heap[a]? = some (freshCell cX kX)) (hnew : s.heap.size ≤ a)
    {msg : Value} (hmsg : msg.isRef = true)
    {g : JFrame} (hg : g.method = m₀) (hsize : g.locals.size = c.maxLocals) (hlocked : g.locked = none) (hentered : g.entered = []) {rest : List Value} (hstack : g.stack = msg :: .ref a :: .ref a :: rest)
    (hd6 : decode c.code g.pc = .ok (.invokespecial ic, 3)) (hd9 : decode c.code (g.pc + 3) = .ok (.athrow, 1)) (hout : ∀ x ∈ c.exceptionTable.toList, covers x (g.pc + 3) = false)
    (hRframes : 5 < R.frames) (hRlocals : 2 * g.monitorRoom + ((Value.ref a :: rest).map fun v => v.category).sum + 81 ≤ R.locals) (hlocks : meth.locks = false) :
    ∃ U : State, Steps p.tables e below (W.setTop g) U ∧ U.status = .running ∧ Ended U below (.threw a) ∧ s.WarmedH U.vm ∧ s.sameButNew ({ U with vm := s.vm } : State) locs cells slots ∧
      ∃ ce, U.heap[a]? = some ce ∧ ce.vm = .none ∧ s.vm.findClass na_N = some ce.cls := by
  have howns : e.platform.frameOwnsMonitors = true := by rw [X.admits.platform]
  have hfin : e.platform.finalization = false := by rw [X.admits.platform]
  have hpl : e.platform.magicAccessors = ({} : Platform).magicAccessors := by rw [X.admits.platform]
  have a' : ∀ x, x ∈ na_all own ic → x.holds args s none s [] = true := fun x hx => h x hx
  obtain ⟨T, Z0, L, -, Y⟩ := ThrowableC.of_atoms (args := args) howns hfin hpl (fun x hx => h x (by simp [na_all, hx]))
  obtain ⟨Z, M, LZ, LM, hnZ⟩ := Init0T.ofS_atoms (args := args) hpl L Y (fun x hx => h x (by simp [na_all, hx]))
  obtain ⟨PR, Ps', hlen', LR, hL', hPRm, hlinkR, hlink'⟩ := Bundle.chainS (args := args) hpl hnZ ["java/lang/Exception"] "java/lang/RuntimeException" (by decide +kernel) (by decide +kernel) (fun x hx => h x (by simp [na_all, hx]))
  obtain ⟨P1, L1, hP1m, hs1⟩ := PassC.ofS_atoms (args := args) (s := s) hpl (X := na_N) (Y := "java/lang/RuntimeException") (by decide +kernel) (by decide +kernel) na_0 na_1 na_2 na_5 (fun x hx => h x (by simp [na_all, hx]))
  have hlink1 : P1.sup = PR.m := Option.some.inj (hs1.symm.trans hPRm)
  have hfound : s.vm.findClass na_N = some P1.m.cls := findClass_of_methodNamed hP1m
  cases Option.some.inj (hfoundX.symm.trans hfound)
  obtain ⟨c1, kX', hc1, hk, hord, -, -, hn6⟩ := Cond.instantiable_spec (a' (.instantiable na_N 6) (by simp [na_all]))
  cases Option.some.inj (hc1.symm.trans hfound)
  cases Option.some.inj (hkX.symm.trans hk)
  have hsel0 : selectMethod e.platform s.vm P1.m.cls T.fill0 = .method T.fill0 := by
    obtain ⟨c2, r2, m2, q1, q2, q3, q4, -⟩ := Cond.selects_spec (a' (.selects na_N Bundle.tFill0 Bundle.tFill0) (by simp [na_all]))
    cases Option.some.inj (q1.symm.trans hfound)
    cases Option.some.inj (q2.symm.trans (State.methodFound?_of_named Y.fill0 (by decide)))
    cases Option.some.inj (q3.symm.trans Y.fill0)
    rw [Launch.admits_selectMethod X.admits]; exact q4
  have hselF : selectMethod e.platform s.vm P1.m.cls T.fill = .method T.fill := by
    obtain ⟨c2, r2, m2, q1, q2, q3, q4, -⟩ := Cond.selects_spec (a' (.selects na_N Bundle.tFill Bundle.tFill) (by simp [na_all]))
    cases Option.some.inj (q1.symm.trans hfound)
    cases Option.some.inj (q2.symm.trans (State.methodFound?_of_named Y.fill (by decide)))
    cases Option.some.inj (q3.symm.trans Y.fill)
    rw [Launch.admits_selectMethod X.admits]; exact q4
  obtain ⟨cellS0, hcS0, hiss⟩ := Y.statics
  obtain ⟨u0, hu0⟩ := Cond.staticRefV Y.unassigned L.unassignedStatic L.statics hcS0 hiss (a' (.isRef (.static Bundle.tN "UNASSIGNED_STACK" Bundle.steD)) (by simp [na_all]))
  obtain ⟨sen, hsen⟩ := Cond.staticRefV Y.sentinel L.sentinelStatic L.statics hcS0 hiss (a' (.isRef (.static Bundle.tN "SUPPRESSED_SENTINEL" Bundle.listD)) (by simp [na_all]))
  obtain ⟨ci198, i198, fB, hk198, hg198, ha198, hsB, -, hnB, htB, hffB⟩ := Cond.ownField (t := .object "java/lang/Object") Y.found L.cls (by decide +kernel) (a' (.fieldLink Bundle.tN 198 Bundle.tN "backtrace" "Ljava/lang/Object;") (by simp [na_all])) (a' (.lays Bundle.tN Bundle.tN "backtrace" "Ljava/lang/Object;") (by simp [na_all])) e.platform hpl
  obtain ⟨cellS, hcS', heS, -, hkeep⟩ := X.same.2.2.2.2.2 T.aS cellS0 hcS0
  have hcellS : W.heap[T.aS]? = some cellS := hcS'
  have hout' : ∀ i, (⟨T.aS, i⟩ : Loc) ∉ locs := fun i hmem => by
    have := hlocs _ hmem cellS0 hcS0
    rw [hiss] at this; cases this
  have hknownS : cellS.vm ≠ .unknown := by
    rw [heS]; intro hu
    rw [show cellS0.vm = .unknown from hu] at hiss
    cases hiss
  have hneS : T.aS ≠ a := Nat.ne_of_lt (Nat.lt_of_lt_of_le (Array.getElem?_eq_some_iff.mp hcS0).1 hnew)
  obtain ⟨iM, hffM⟩ := Y.msg
  obtain ⟨tyC, dC, hdC, hdnC⟩ := Cond.laysAt hfound hk Y.cause (a' (.lays na_N Bundle.tN "cause" "Ljava/lang/Throwable;") (by simp [na_all]))
  obtain ⟨tyS, dS, hdS, hdnS⟩ := Cond.laysAt hfound hk Y.stack (a' (.lays na_N Bundle.tN "stackTrace" Bundle.steD) (by simp [na_all]))
  obtain ⟨tyP, dP, hdP, hdnP⟩ := Cond.laysAt hfound hk Y.supp (a' (.lays na_N Bundle.tN "suppressedExceptions" Bundle.listD) (by simp [na_all]))
  obtain ⟨tyM, dM, hdM, hdnM⟩ := Cond.laysAt hfound hk hffM (a' (.lays na_N Bundle.tN "detailMessage" "Ljava/lang/String;") (by simp [na_all]))
  obtain ⟨tyB, dB, hdB, hdnB⟩ := Cond.laysAt hfound hk hffB (a' (.lays na_N Bundle.tN "backtrace" "Ljava/lang/Object;") (by simp [na_all]))
  have bC := Cond.laysApart hdB hdC hdnB hdnC (by rw [hnB, Y.causeName]; decide)
  have bS := Cond.laysApart hdB hdS hdnB hdnS (by rw [hnB, Y.stackName]; decide)
  have bP := Cond.laysApart hdB hdP hdnB hdnP (by rw [hnB, Y.suppName]; decide)
  have hskip : SkipFacts T e.platform s (fun u => u) u0 ((preparedCellV T.toThrowableT (freshCell P1.m.cls kX) a u0 sen).withEntry W.cur) :=
    ⟨{ ci198 := ci198, i198 := i198, fBack := fB }, ⟨hk198, hg198, ha198, hsB⟩, by
      have := fresh_default (c := P1.m.cls) tyB
      rw [htB] at this
      simpa [preparedCellV, Cell.setSlot, Cell.withEntry, Array.getElem?_setIfInBounds, bC, bS, bP, bC.symm, bS.symm, bP.symm, defaultValue] using this, fun _ _ => rfl⟩
  obtain ⟨tm, methC, cdC, kC, vm₁, hnC, -, -, -, -, -, -, -, hW₁, st1⟩ := Steps.initColdS (tb := p.tables) (e := e) (below := below) (s := s) (U := W) X.here hexec X.warmed hpl hown (t := Bundle.initS na_N) rfl rfl (by decide +kernel)
    (a' (.methodLink own ic (Bundle.initS na_N)) (by simp [na_all])) (h (.instanceMethod (Bundle.initS na_N)) (by simp [na_all, Bundle.passSAtoms])) (bytes := prog_15_method_4_code) (maxL := 2) (h (.code (Bundle.initS na_N) prog_15_method_4_code 2 none) (by simp [na_all, Bundle.passSAtoms]))
    (f := g) hg (a := a) (msg := msg) (rest := .ref a :: rest) hstack hd6
  cases Option.some.inj (hnC.symm.trans hP1m)
  have X₁ := X.noted hW₁
  obtain ⟨vm₂, X₂, st2⟩ := X₁.ctorMessageOffV hexec (g := { g with stack := .ref a :: rest }) hg hsize T L Z LZ M LM (P1 :: PR :: Ps')
    (fun P hP => by
      rcases List.mem_cons.mp hP with rfl | hP
      · exact L1
      · rcases List.mem_cons.mp hP with rfl | hP
        · exact LR
        · exact hL' P hP) ⟨hlink1, hlinkR, hlink'⟩ (u0 := u0) (sen := sen) (self := a) hmsg (cell := freshCell P1.m.cls kX) (cellS := cellS)
    hcell (fun _ => by simp) (by simp) rfl rfl hsel0 hselF hcellS hneS hknownS (by rw [hkeep _ (hout' _)]; exact hu0) (by rw [hkeep _ (hout' _)]; exact hsen)
    (Takes.of_laid hk hord tyC (by rw [Y.causeType]; rfl)) (Takes.of_laid hk hord tyS (by rw [Y.stackType]; exact fits_refV_array _ u0)) (Takes.of_laid hk hord tyP (by rw [Y.suppType]; exact fits_refV_object _ sen))
    (Takes.of_laid hk hord tyM (by rw [Y.msgType]; exact fits_refV_object _ ⟨msg, hmsg⟩)) Y.objLocals hskip htr [] hd6
    (by simp only [List.length_cons, hlen']; simp; omega) (by simp only [List.length_cons, hlen']; exact hRlocals)
  obtain ⟨hwalk, hrun, hended, hWU, hsame⟩ := X₂.athrowLeaves hexec (g := { g with stack := .ref a :: rest, pc := g.pc + 3 }) hg hlocked hentered hout (a := a) (rest := rest) rfl hd9
  obtain ⟨c3, c4, hc3, hc4, hasg⟩ := Cond.castable_spec (a' (.castable na_N na_N) (by simp [na_all]))
  cases Option.some.inj (hc3.symm.trans hfound)
  cases Option.some.inj (hc4.symm.trans hfound)
  have hlt : a < ((W.setVm vm₁).setVm vm₂).heap.size := (Array.getElem?_eq_some_iff.mp hcell).1
  have hU := heapAt_setCell_self (s := (W.setVm vm₁).setVm vm₂) (plainBareV T.toThrowableT (freshCell P1.m.cls kX) a u0 sen msg) hlt
  refine ⟨_, st1 _ (fun acts => ?_), hrun, hended, hWU, hsame.weaken (fun y hy hlt' => ?_) (Nat.le_refl _) (Nat.le_refl _), _, hU, rfl, hfound⟩
  · rw [doInvoke_state]
    exact st2 _ hwalk
  · rcases List.mem_append.mp hy with h1 | h1
    · exact h1
    · exfalso
      have hb : y.base = a := by
        simp only [List.mem_cons, List.not_mem_nil, or_false] at h1
        rcases h1 with rfl | rfl | rfl | rfl | rfl <;> rfl
      rw [hb] at hlt'
      exact Nat.not_lt.mpr hnew hlt'
end NAC
section NAT
variable {p : Program} {l : Launch} {e : Env} {R : Room} {s : State} {m : MethodId} {args : Array Value} {below : List Frame} {meth : Method} {c : Code} {H : Heap} {locs : List Loc} {cells slots : Nat} {Q : State → Prop}
variable {mc ms : Nat} {free : Addr → Prop} {A0 A1 : Nat → Prop} {H0 : Heap} {a : Array Value} {ls : Array Slot} {st0 rest : List Value}
variable {Qc : Array Value → State → Outcome → State → Prop} {XC : String → State → State → Prop}
theorem na_throwS {cc : ByteArray} {pc : Nat} (hexec : p.tables.exec = Jvm.exec) (hb : c.code = cc) (hl : l.stackTraces = false) {own text : String} {ik is ic mc ms sa : Nat} {A : Nat → Prop}
    (hown : s.vm.findClass own = some m.cls) 
    (hk : (Cond.classLink own ik na_N).before args s = true) (hini : (Cond.initialized na_N).before args s = true) (hstr : vk_R own is text sa s) (hat : ∀ w ∈ na_at own ic, w.before args s = true)
    (hgood : ∀ w ∈ Cond.classLink own ik na_N :: Cond.initialized na_N :: na_at own ic, vx_ot w = true)
    (hU : vx_Zq Bundle.tN "UNASSIGNED_STACK" Bundle.steD A s s.heap) (hN : vx_Zq Bundle.tN "SUPPRESSED_SENTINEL" Bundle.listD A s s.heap) (hS : va_S A s.heap H locs) (hsize : ls.size = c.maxLocals)
    (d0 : decode cc pc = .ok (.new ik, 3)) (d3 : decode cc (pc + 3) = .ok (.dup, 1)) (d4 : decode cc (pc + 4) = .ok (.ldc is, 2)) (d6 : decode cc (pc + 6) = .ok (.invokespecial ic, 3)) (d9 : decode cc (pc + 9) = .ok (.athrow, 1))
    (hout : ∀ x ∈ c.exceptionTable.toList, covers x (pc + 9) = false)
    (hRframes : 5 < R.frames) (hRlocals : (rest.map fun v => v.category).sum + 82 ≤ R.locals) (hRcells : cells + 1 ≤ R.cells) (hRslots : slots + 6 ≤ R.slots) (hlocks : meth.locks = false)
    (hx : ∀ t : State, s.vm.Alike t.vm → H.size ≤ t.heap.size → (∀ q : Nat, q < H.size → t.heap[q]? = H[q]?) → XC na_N s t)
    (hf : ∀ z ∈ locs, free z.base) (hc : cells + 1 ≤ mc) (hs : slots + 6 ≤ ms) :
    W p l e R s m args below meth c H locs cells slots (vx_MQ below Qc XC args s mc ms free) (F0 m pc ls rest) := by
  intro T hT X
  have htr : e.platform.stackTraces = false := (show e.platform.stackTraces = l.stackTraces by rw [X.admits.platform]).trans hl
  have Y := vx_rebase X (R' := { frames := R.frames, locals := R.locals, cells := 1, slots := 6 }) (Nat.le_refl _) (Nat.le_refl _) hRcells hRslots
  obtain ⟨s', hA⟩ : ∃ z, z = (T.setVm s.vm).setFrames (.invoking m args :: below) := ⟨_, rfl⟩
  rw [← hA] at Y
  have hvm : s'.vm = s.vm := by rw [hA]; rfl
  have hhp : s'.heap = H := by rw [hA]; exact hT
  have hW0 : s.WarmedH s'.vm := by rw [hvm]; exact State.WarmedH.refl s
  have hat' : ∀ w ∈ na_at own ic, w.before args s' = true := fun w hw => vx_ot_at hW0 hvm.symm (hgood w (List.mem_cons_of_mem _ (List.mem_cons_of_mem _ hw))) (hat w hw)
  have hk' : (Cond.classLink own ik na_N).before args s' = true := vx_ot_at hW0 hvm.symm (hgood _ List.mem_cons_self) hk
  have hini' : (Cond.initialized na_N).before args s' = true := vx_ot_at hW0 hvm.symm (hgood _ (List.mem_cons_of_mem _ List.mem_cons_self)) hini
  have hU' : vx_Zq Bundle.tN "UNASSIGNED_STACK" Bundle.steD A s' s'.heap := by rw [hhp]; exact vx_Zq.moved hW0.alike (hU.kept hS.2.1)
  have hN' : vx_Zq Bundle.tN "SUPPRESSED_SENTINEL" Bundle.listD A s' s'.heap := by rw [hhp]; exact vx_Zq.moved hW0.alike (hN.kept hS.2.1)
  have h : ∀ w ∈ na_all own ic, w.before args s' = true := vx_own hat' (vx_isRefq hU'.1) (vx_isRefq hN'.1) hU'.2.word hN'.2.word
  have hown' : s'.vm.findClass own = some m.cls := by rw [hvm]; exact hown
  have hins : (Cond.instantiable na_N 6).before args s' = true := h _ (by simp [na_all])
  obtain ⟨vm₁, cX, kX, hfX, hkX, -, -, X₁, st1⟩ := Y.newCold hexec (own := own) (C := na_N) (index := ik) (n := 6) hown' hk' hins hini'
    (g := F0 m pc ls rest) rfl (by rw [hb]; exact d0) (Nat.le_refl _) (Nat.le_refl _)
  generalize hT1 : (T.setVm vm₁).pushCell { cls := cX, slots := kX.instanceTypes.map defaultValue, vm := .none } = T1 at X₁ st1
  have hcat : (Value.ref T.heap.size).category = 1 := rfl
  have hcellA : T1.heap[T.heap.size]? = some (freshCell cX kX) := by rw [← hT1]; exact State.heap_pushCell_size _ _
  have d3' : decode c.code (pc + 3) = .ok (.dup, 1) := by rw [hb]; exact d3
  have d4' : decode c.code (pc + 4) = .ok (.ldc is, 2) := by rw [hb]; exact d4
  have hstr' : vk_R own is text sa s' := vk_R.warm hW0 hstr
  obtain ⟨U, hsteps, hrun, hend, hW, hsame, ce, hce, hO, hOc⟩ := na_ctor X₁ hexec htr (own := own) (ic := ic) hown' h (fun x hx => nomatch hx) hfX hkX hcellA (by rw [hhp, hT]; exact Nat.le_refl _) (msg := .ref sa) rfl
    (g := { method := m, pc := pc + 6, locals := ls, stack := .ref sa :: .ref T.heap.size :: .ref T.heap.size :: rest, locked := none }) rfl hsize rfl rfl (rest := rest) rfl
    (by rw [hb]; exact d6) (by rw [hb]; exact d9) hout hRframes (by simp only [List.map_cons, List.sum_cons, hcat]; omega) hlocks
  obtain ⟨f1, f2⟩ := vx_frame hsame
  rw [hhp] at f1 f2
  have hWs : s.WarmedH U.vm := State.WarmedH.trans hW0 hW
  have hcl : s.vm.findClass na_N = some ce.cls := by
    have h9 := hOc
    rw [hvm] at h9
    exact h9
  have hall : s.sameButNew ({ U with vm := s.vm } : State) locs mc ms := by
    subst hA
    obtain ⟨e1, e2⟩ := hsame
    rw [State.setFrames_setFrames] at e1
    have h2 : (T.setVm s.vm).sameButNew ({ U with vm := s.vm } : State) [] (0 + 1) (0 + 6) := ⟨e1, e2⟩
    have h3 := X.same.trans h2
    rw [List.append_nil] at h3
    exact h3.mono hc hs
  refine ⟨U, ?_, .threw T.heap.size, hrun, hend, Or.inr ⟨T.heap.size, rfl, na_N, ce, locs, hx U hWs.alike f1 (fun q hq => f2 q hq (fun z hz => nomatch hz)), hce, hO, hcl, hWs, hall, hf⟩⟩
  refine st1 _ ?_
  show Steps p.tables e below (T1.setTop { method := m, pc := pc + 3, locals := ls, stack := .ref T.heap.size :: rest, locked := none }) _
  jvm_step X₁.here [X₁.here.top, hexec, d3', Value.category]
  exact X₁.ldcString hexec (own := own) (text := text) (index := is) (a := sa) hown' hstr'.1 hstr'.2
    (g := { method := m, pc := pc + 4, locals := ls, stack := .ref T.heap.size :: .ref T.heap.size :: rest, locked := none }) rfl d4' _ hsteps
end NAT
end
section
/-! ===== BEGIN printed: names, fields, word lists, decode rows ===== -/
def RX0 : String := "WaveWalk$Classes"
def TX0 : u_T := fun k => match k with
  | 0 => ("WaveWalk$Classes", "ofPlace", "[I", true)
  | 1 => ("WaveWalk$Classes", "keys", "[J", true)
  | _ => ("WaveWalk$Classes", "number", "I", false)
def tyX0 : Nat → FieldType := fun k => match k with
  | 0 => .array .int
  | 1 => .array .long
  | _ => .int
abbrev wsX00 : List Cond := u_ws RX0 TX0 3
theorem nmX0 : ∀ a, a < 3 → ∀ b, b < 3 → a ≠ b → (TX0 a).2.1 ≠ (TX0 b).2.1 := by decide +kernel
theorem tyX0_ok : ∀ k, k < 3 → parseFieldDescriptor (TX0 k).2.2.1 = some (tyX0 k) := by decide +kernel
abbrev cX0_init : ByteArray := prog_2_method_1_code
def yX0_init : MethodName := ⟨RX0, "<init>", "()V"⟩
abbrev cX0_partAll : ByteArray := prog_2_method_2_code
def yX0_partAll : MethodName := ⟨RX0, "partAll", "(LWaveWalk$Net;)V"⟩
abbrev cX0_keyByDoors : ByteArray := prog_2_method_3_code
def yX0_keyByDoors : MethodName := ⟨RX0, "keyByDoors", "(LWaveWalk$Net;)V"⟩
abbrev cX0_numberByKeys : ByteArray := prog_2_method_4_code
def yX0_numberByKeys : MethodName := ⟨RX0, "numberByKeys", "(I)V"⟩
def RX1 : String := "WaveWalk$Net"
def TX1 : u_T := fun k => match k with
  | 0 => ("WaveWalk$Net", "places", "I", true)
  | 1 => ("WaveWalk$Net", "doors", "I", true)
  | 2 => ("WaveWalk$Net", "scale", "I", true)
  | 3 => ("WaveWalk$Net", "heaviestToStep", "J", true)
  | 4 => ("WaveWalk$Net", "ledTo", "[I", true)
  | 5 => ("WaveWalk$Net", "marked", "[Z", true)
  | _ => ("WaveWalk$Net", "hasWalks", "Z", false)
def tyX1 : Nat → FieldType := fun k => match k with
  | 0 => .int
  | 1 => .int
  | 2 => .int
  | 3 => .long
  | 4 => .array .int
  | 5 => .array .boolean
  | _ => .boolean
abbrev wsX10 : List Cond := u_ws RX1 TX1 7
theorem nmX1 : ∀ a, a < 7 → ∀ b, b < 7 → a ≠ b → (TX1 a).2.1 ≠ (TX1 b).2.1 := by decide +kernel
theorem tyX1_ok : ∀ k, k < 7 → parseFieldDescriptor (TX1 k).2.2.1 = some (tyX1 k) := by decide +kernel
abbrev cX1_init : ByteArray := prog_3_method_1_code
def yX1_init : MethodName := ⟨RX1, "<init>", "(II)V"⟩
abbrev cX1_joinCells : ByteArray := prog_3_method_2_code
def yX1_joinCells : MethodName := ⟨RX1, "joinCells", "(II)V"⟩
def RX2 : String := "WaveWalk$Walk"
def TX2 : u_T := fun k => match k with
  | 0 => ("WaveWalk$Walk", "netNumber", "I", true)
  | 1 => ("WaveWalk$Walk", "net", "LWaveWalk$Net;", true)
  | _ => ("WaveWalk$Walk", "wave", "LWaveWalk$Wave;", true)
def tyX2 : Nat → FieldType := fun k => match k with
  | 0 => .int
  | 1 => .object "WaveWalk$Net"
  | _ => .object "WaveWalk$Wave"
abbrev wsX20 : List Cond := u_ws RX2 TX2 3
theorem nmX2 : ∀ a, a < 3 → ∀ b, b < 3 → a ≠ b → (TX2 a).2.1 ≠ (TX2 b).2.1 := by decide +kernel
theorem tyX2_ok : ∀ k, k < 3 → parseFieldDescriptor (TX2 k).2.2.1 = some (tyX2 k) := by decide +kernel
abbrev cX2_init : ByteArray := prog_4_method_1_code
def yX2_init : MethodName := ⟨RX2, "<init>", "(ILWaveWalk$Net;)V"⟩
def RX3 : String := "WaveWalk$Wave"
def TX3 : u_T := fun k => match k with
  | 0 => ("WaveWalk$Wave", "numbers", "[J", true)
  | _ => ("WaveWalk$Wave", "time", "I", false)
def tyX3 : Nat → FieldType := fun k => match k with
  | 0 => .array .long
  | _ => .int
abbrev wsX30 : List Cond := u_ws RX3 TX3 2
theorem nmX3 : ∀ a, a < 2 → ∀ b, b < 2 → a ≠ b → (TX3 a).2.1 ≠ (TX3 b).2.1 := by decide +kernel
theorem tyX3_ok : ∀ k, k < 2 → parseFieldDescriptor (TX3 k).2.2.1 = some (tyX3 k) := by decide +kernel
abbrev cX3_init : ByteArray := prog_5_method_1_code
def yX3_init : MethodName := ⟨RX3, "<init>", "()V"⟩
abbrev cX3_becomeLike : ByteArray := prog_5_method_2_code
def yX3_becomeLike : MethodName := ⟨RX3, "becomeLike", "(LWaveWalk$Wave;)V"⟩
abbrev cX3_fillAll : ByteArray := prog_5_method_3_code
def yX3_fillAll : MethodName := ⟨RX3, "fillAll", "(LWaveWalk$Net;I)V"⟩
abbrev cX3_isToldBut : ByteArray := prog_5_method_4_code
def yX3_isToldBut : MethodName := ⟨RX3, "isToldBut", "(I)Z"⟩
abbrev cX3_squaresAt : ByteArray := prog_5_method_5_code
def yX3_squaresAt : MethodName := ⟨RX3, "squaresAt", "(I)J"⟩
abbrev cX3_squares : ByteArray := prog_5_method_6_code
def yX3_squares : MethodName := ⟨RX3, "squares", "()J"⟩
abbrev cX3_squaresAtMarked : ByteArray := prog_5_method_7_code
def yX3_squaresAtMarked : MethodName := ⟨RX3, "squaresAtMarked", "(LWaveWalk$Net;)J"⟩
abbrev cX3_isAllAt : ByteArray := prog_5_method_8_code
def yX3_isAllAt : MethodName := ⟨RX3, "isAllAt", "(I)Z"⟩
abbrev cX3_isMultipleOf : ByteArray := prog_5_method_9_code
def yX3_isMultipleOf : MethodName := ⟨RX3, "isMultipleOf", "(LWaveWalk$Wave;)Z"⟩
abbrev cX3_stepsLeft : ByteArray := prog_5_method_10_code
def yX3_stepsLeft : MethodName := ⟨RX3, "stepsLeft", "(LWaveWalk$Net;)I"⟩
abbrev cX3_doStep : ByteArray := prog_5_method_11_code
def yX3_doStep : MethodName := ⟨RX3, "doStep", "(LWaveWalk$Net;)V"⟩
abbrev cX3_undoStep : ByteArray := prog_5_method_12_code
def yX3_undoStep : MethodName := ⟨RX3, "undoStep", "(LWaveWalk$Net;)V"⟩
abbrev cX3_changeSigns : ByteArray := prog_5_method_13_code
def yX3_changeSigns : MethodName := ⟨RX3, "changeSigns", "(LWaveWalk$Net;)V"⟩
abbrev cX3_turnAt : ByteArray := prog_5_method_14_code
def yX3_turnAt : MethodName := ⟨RX3, "turnAt", "(II)V"⟩
abbrev cX3_lessenAt : ByteArray := prog_5_method_15_code
def yX3_lessenAt : MethodName := ⟨RX3, "lessenAt", "(II)V"⟩
abbrev cX3_goThroughDoors : ByteArray := prog_5_method_16_code
def yX3_goThroughDoors : MethodName := ⟨RX3, "goThroughDoors", "(LWaveWalk$Net;)V"⟩
def RX4 : String := "WaveWalk"
def TX4 : u_T := fun k => match k with
  | 0 => ("WaveWalk", "nets", "[LWaveWalk$Net;", true)
  | 1 => ("WaveWalk", "walks", "[LWaveWalk$Walk;", true)
  | 2 => ("WaveWalk", "trial", "LWaveWalk$Wave;", true)
  | 3 => ("WaveWalk", "classes", "LWaveWalk$Classes;", true)
  | 4 => ("WaveWalk", "netCount", "I", false)
  | _ => ("WaveWalk", "walkCount", "I", false)
def tyX4 : Nat → FieldType := fun k => match k with
  | 0 => .array (.object "WaveWalk$Net")
  | 1 => .array (.object "WaveWalk$Walk")
  | 2 => .object "WaveWalk$Wave"
  | 3 => .object "WaveWalk$Classes"
  | 4 => .int
  | _ => .int
abbrev wsX40 : List Cond := u_ws RX4 TX4 6
theorem nmX4 : ∀ a, a < 6 → ∀ b, b < 6 → a ≠ b → (TX4 a).2.1 ≠ (TX4 b).2.1 := by decide +kernel
theorem tyX4_ok : ∀ k, k < 6 → parseFieldDescriptor (TX4 k).2.2.1 = some (tyX4 k) := by decide +kernel
abbrev cX4_init : ByteArray := prog_1_method_1_code
def yX4_init : MethodName := ⟨RX4, "<init>", "()V"⟩
abbrev cX4_net : ByteArray := prog_1_method_2_code
def yX4_net : MethodName := ⟨RX4, "net", "(II)I"⟩
abbrev cX4_join : ByteArray := prog_1_method_3_code
def yX4_join : MethodName := ⟨RX4, "join", "(IIIII)Z"⟩
abbrev cX4_leads : ByteArray := prog_1_method_4_code
def yX4_leads : MethodName := ⟨RX4, "leads", "(III)I"⟩
abbrev cX4_mark : ByteArray := prog_1_method_5_code
def yX4_mark : MethodName := ⟨RX4, "mark", "(IIZ)Z"⟩
abbrev cX4_alike : ByteArray := prog_1_method_6_code
def yX4_alike : MethodName := ⟨RX4, "alike", "(II)I"⟩
abbrev cX4_walk : ByteArray := prog_1_method_7_code
def yX4_walk : MethodName := ⟨RX4, "walk", "(I)I"⟩
abbrev cX4_set : ByteArray := prog_1_method_8_code
def yX4_set : MethodName := ⟨RX4, "set", "(IIII)Z"⟩
abbrev cX4_spread : ByteArray := prog_1_method_9_code
def yX4_spread : MethodName := ⟨RX4, "spread", "(II)V"⟩
abbrev cX4_step : ByteArray := prog_1_method_10_code
def yX4_step : MethodName := ⟨RX4, "step", "(II)I"⟩
abbrev cX4_back : ByteArray := prog_1_method_11_code
def yX4_back : MethodName := ⟨RX4, "back", "(II)I"⟩
abbrev cX4_at : ByteArray := prog_1_method_12_code
def yX4_at : MethodName := ⟨RX4, "at", "(III)J"⟩
abbrev cX4_share : ByteArray := prog_1_method_13_code
def yX4_share : MethodName := ⟨RX4, "share", "(II)J"⟩
abbrev cX4_of : ByteArray := prog_1_method_14_code
def yX4_of : MethodName := ⟨RX4, "of", "(II)I"⟩
abbrev cX4_arrives : ByteArray := prog_1_method_15_code
def yX4_arrives : MethodName := ⟨RX4, "arrives", "(III)I"⟩
abbrev cX4_returns : ByteArray := prog_1_method_16_code
def yX4_returns : MethodName := ⟨RX4, "returns", "(II)I"⟩
abbrev cX4_best : ByteArray := prog_1_method_17_code
def yX4_best : MethodName := ⟨RX4, "best", "(II)I"⟩
abbrev cX4_mean : ByteArray := prog_1_method_18_code
def yX4_mean : MethodName := ⟨RX4, "mean", "(III)J"⟩
abbrev cX4_copy : ByteArray := prog_1_method_19_code
def yX4_copy : MethodName := ⟨RX4, "copy", "(II)V"⟩
abbrev cX4_count : ByteArray := prog_1_method_20_code
def yX4_count : MethodName := ⟨RX4, "count", "(I)I"⟩
abbrev cX4_netOf : ByteArray := prog_1_method_21_code
def yX4_netOf : MethodName := ⟨RX4, "netOf", "(I)LWaveWalk$Net;"⟩
abbrev cX4_walkOf : ByteArray := prog_1_method_22_code
def yX4_walkOf : MethodName := ⟨RX4, "walkOf", "(I)LWaveWalk$Walk;"⟩
abbrev cX4_needPlace : ByteArray := prog_1_method_23_code
def yX4_needPlace : MethodName := ⟨RX4, "needPlace", "(LWaveWalk$Net;I)V"⟩
abbrev cX4_cellOf : ByteArray := prog_1_method_24_code
def yX4_cellOf : MethodName := ⟨RX4, "cellOf", "(LWaveWalk$Net;II)I"⟩
abbrev cX4_needTold : ByteArray := prog_1_method_25_code
def yX4_needTold : MethodName := ⟨RX4, "needTold", "(I)V"⟩
abbrev cX4_needSteps : ByteArray := prog_1_method_26_code
def yX4_needSteps : MethodName := ⟨RX4, "needSteps", "(I)V"⟩
abbrev cX4_isTold : ByteArray := prog_1_method_27_code
def yX4_isTold : MethodName := ⟨RX4, "isTold", "(J)Z"⟩
def RX5 : String := "WaveWalkModel"
def TX5 : u_T := fun k => match k with
  | 0 => ("WaveWalkModel", "thrown", "I", false)
  | 1 => ("WaveWalkModel", "nets", "I", false)
  | 2 => ("WaveWalkModel", "walks", "I", false)
  | 3 => ("WaveWalkModel", "places", "[I", true)
  | 4 => ("WaveWalkModel", "doors", "[I", true)
  | 5 => ("WaveWalkModel", "to", "[I", true)
  | 6 => ("WaveWalkModel", "isMarked", "[Z", true)
  | 7 => ("WaveWalkModel", "isUsed", "[Z", true)
  | 8 => ("WaveWalkModel", "netOf", "[I", true)
  | 9 => ("WaveWalkModel", "time", "[I", true)
  | 10 => ("WaveWalkModel", "wave", "[J", true)
  | 11 => ("WaveWalkModel", "next", "[J", true)
  | 12 => ("WaveWalkModel", "classes", "[I", true)
  | _ => ("WaveWalkModel", "parted", "[I", true)
def tyX5 : Nat → FieldType := fun k => match k with
  | 0 => .int
  | 1 => .int
  | 2 => .int
  | 3 => .array .int
  | 4 => .array .int
  | 5 => .array .int
  | 6 => .array .boolean
  | 7 => .array .boolean
  | 8 => .array .int
  | 9 => .array .int
  | 10 => .array .long
  | 11 => .array .long
  | 12 => .array .int
  | _ => .array .int
abbrev wsX50 : List Cond := u_ws RX5 TX5 14
theorem nmX5 : ∀ a, a < 14 → ∀ b, b < 14 → a ≠ b → (TX5 a).2.1 ≠ (TX5 b).2.1 := by decide +kernel
theorem tyX5_ok : ∀ k, k < 14 → parseFieldDescriptor (TX5 k).2.2.1 = some (tyX5 k) := by decide +kernel
abbrev cX5_init : ByteArray := prog_7_method_1_code
def yX5_init : MethodName := ⟨RX5, "<init>", "()V"⟩
abbrev cX5_thrown : ByteArray := prog_7_method_2_code
def yX5_thrown : MethodName := ⟨RX5, "thrown", "()I"⟩
abbrev cX5_right : ByteArray := prog_7_method_3_code
def yX5_right : MethodName := ⟨RX5, "right", "(ZI)Z"⟩
abbrev cX5_isNet : ByteArray := prog_7_method_4_code
def yX5_isNet : MethodName := ⟨RX5, "isNet", "(I)Z"⟩
abbrev cX5_isDoor : ByteArray := prog_7_method_5_code
def yX5_isDoor : MethodName := ⟨RX5, "isDoor", "(III)Z"⟩
abbrev cX5_net : ByteArray := prog_7_method_6_code
def yX5_net : MethodName := ⟨RX5, "net", "(II)I"⟩
abbrev cX5_join : ByteArray := prog_7_method_7_code
def yX5_join : MethodName := ⟨RX5, "join", "(IIIII)Z"⟩
abbrev cX5_leads : ByteArray := prog_7_method_8_code
def yX5_leads : MethodName := ⟨RX5, "leads", "(III)I"⟩
abbrev cX5_mark : ByteArray := prog_7_method_9_code
def yX5_mark : MethodName := ⟨RX5, "mark", "(IIZ)Z"⟩
abbrev cX5_many : ByteArray := prog_7_method_10_code
def yX5_many : MethodName := ⟨RX5, "many", "(III)I"⟩
abbrev cX5_areAlike : ByteArray := prog_7_method_11_code
def yX5_areAlike : MethodName := ⟨RX5, "areAlike", "(III)Z"⟩
abbrev cX5_finds : ByteArray := prog_7_method_12_code
def yX5_finds : MethodName := ⟨RX5, "finds", "(I)I"⟩
abbrev cX5_alike : ByteArray := prog_7_method_13_code
def yX5_alike : MethodName := ⟨RX5, "alike", "(II)I"⟩
abbrev cX5_isWalk : ByteArray := prog_7_method_14_code
def yX5_isWalk : MethodName := ⟨RX5, "isWalk", "(I)Z"⟩
abbrev cX5_isIn : ByteArray := prog_7_method_15_code
def yX5_isIn : MethodName := ⟨RX5, "isIn", "(II)Z"⟩
abbrev cX5_walk : ByteArray := prog_7_method_16_code
def yX5_walk : MethodName := ⟨RX5, "walk", "(I)I"⟩
abbrev cX5_scale : ByteArray := prog_7_method_17_code
def yX5_scale : MethodName := ⟨RX5, "scale", "(I)I"⟩
abbrev cX5_isSmall : ByteArray := prog_7_method_18_code
def yX5_isSmall : MethodName := ⟨RX5, "isSmall", "(J)Z"⟩
abbrev cX5_set : ByteArray := prog_7_method_19_code
def yX5_set : MethodName := ⟨RX5, "set", "(IIII)Z"⟩
abbrev cX5_spread : ByteArray := prog_7_method_20_code
def yX5_spread : MethodName := ⟨RX5, "spread", "(II)V"⟩
abbrev cX5_shareOf : ByteArray := prog_7_method_21_code
def yX5_shareOf : MethodName := ⟨RX5, "shareOf", "(II)J"⟩
abbrev cX5_weight : ByteArray := prog_7_method_22_code
def yX5_weight : MethodName := ⟨RX5, "weight", "(I)J"⟩
abbrev cX5_goesOn : ByteArray := prog_7_method_23_code
def yX5_goesOn : MethodName := ⟨RX5, "goesOn", "(I)Z"⟩
abbrev cX5_turns : ByteArray := prog_7_method_24_code
def yX5_turns : MethodName := ⟨RX5, "turns", "(I)V"⟩
abbrev cX5_signs : ByteArray := prog_7_method_25_code
def yX5_signs : MethodName := ⟨RX5, "signs", "(I)V"⟩
abbrev cX5_goes : ByteArray := prog_7_method_26_code
def yX5_goes : MethodName := ⟨RX5, "goes", "(I)V"⟩
abbrev cX5_steps : ByteArray := prog_7_method_27_code
def yX5_steps : MethodName := ⟨RX5, "steps", "(I)V"⟩
abbrev cX5_copies : ByteArray := prog_7_method_28_code
def yX5_copies : MethodName := ⟨RX5, "copies", "(II)V"⟩
abbrev cX5_isMany : ByteArray := prog_7_method_29_code
def yX5_isMany : MethodName := ⟨RX5, "isMany", "(I)Z"⟩
abbrev cX5_step : ByteArray := prog_7_method_30_code
def yX5_step : MethodName := ⟨RX5, "step", "(II)I"⟩
abbrev cX5_back : ByteArray := prog_7_method_31_code
def yX5_back : MethodName := ⟨RX5, "back", "(II)I"⟩
abbrev cX5_at : ByteArray := prog_7_method_32_code
def yX5_at : MethodName := ⟨RX5, "at", "(III)J"⟩
abbrev cX5_share : ByteArray := prog_7_method_33_code
def yX5_share : MethodName := ⟨RX5, "share", "(II)J"⟩
abbrev cX5_of : ByteArray := prog_7_method_34_code
def yX5_of : MethodName := ⟨RX5, "of", "(II)I"⟩
abbrev cX5_arrives : ByteArray := prog_7_method_35_code
def yX5_arrives : MethodName := ⟨RX5, "arrives", "(III)I"⟩
abbrev cX5_isMultiple : ByteArray := prog_7_method_36_code
def yX5_isMultiple : MethodName := ⟨RX5, "isMultiple", "(II)Z"⟩
abbrev cX5_returns : ByteArray := prog_7_method_37_code
def yX5_returns : MethodName := ⟨RX5, "returns", "(II)I"⟩
abbrev cX5_marked : ByteArray := prog_7_method_38_code
def yX5_marked : MethodName := ⟨RX5, "marked", "(I)J"⟩
abbrev cX5_best : ByteArray := prog_7_method_39_code
def yX5_best : MethodName := ⟨RX5, "best", "(II)I"⟩
abbrev cX5_mean : ByteArray := prog_7_method_40_code
def yX5_mean : MethodName := ⟨RX5, "mean", "(III)J"⟩
abbrev cX5_copy : ByteArray := prog_7_method_41_code
def yX5_copy : MethodName := ⟨RX5, "copy", "(II)V"⟩
abbrev cX5_count : ByteArray := prog_7_method_42_code
def yX5_count : MethodName := ⟨RX5, "count", "(I)I"⟩
def RJ9 : String := "java/lang/Math"
def TJ9 : u_T := fun k => match k with
  | _ => ("", "", "", false)
def tyJ9 : Nat → FieldType := fun k => match k with
  | _ => .int
abbrev wsJ90 : List Cond := u_ws RJ9 TJ9 0
theorem nmJ9 : ∀ a, a < 0 → ∀ b, b < 0 → a ≠ b → (TJ9 a).2.1 ≠ (TJ9 b).2.1 := by decide +kernel
theorem tyJ9_ok : ∀ k, k < 0 → parseFieldDescriptor (TJ9 k).2.2.1 = some (tyJ9 k) := by decide +kernel
abbrev cJ9_min_7cf53 : ByteArray := prog_10_method_69_code
def yJ9_min_7cf53 : MethodName := ⟨RJ9, "min", "(II)I"⟩
def RJ0 : String := "java/lang/String"
def TJ0 : u_T := fun k => match k with
  | _ => ("", "", "", false)
def tyJ0 : Nat → FieldType := fun k => match k with
  | _ => .int
abbrev wsJ00 : List Cond := u_ws RJ0 TJ0 0
theorem nmJ0 : ∀ a, a < 0 → ∀ b, b < 0 → a ≠ b → (TJ0 a).2.1 ≠ (TJ0 b).2.1 := by decide +kernel
theorem tyJ0_ok : ∀ k, k < 0 → parseFieldDescriptor (TJ0 k).2.2.1 = some (tyJ0 k) := by decide +kernel
def RJ10 : String := "java/lang/System"
def TJ10 : u_T := fun k => match k with
  | _ => ("", "", "", false)
def tyJ10 : Nat → FieldType := fun k => match k with
  | _ => .int
abbrev wsJ100 : List Cond := u_ws RJ10 TJ10 0
theorem nmJ10 : ∀ a, a < 0 → ∀ b, b < 0 → a ≠ b → (TJ10 a).2.1 ≠ (TJ10 b).2.1 := by decide +kernel
theorem tyJ10_ok : ∀ k, k < 0 → parseFieldDescriptor (TJ10 k).2.2.1 = some (tyJ10 k) := by decide +kernel
def RL : String := "WaveWalkLaw"
abbrev cL_join : ByteArray := method_3_code
def yL_join : MethodName := ⟨RL, "join", "(LWaveWalk;IIIII[J)I"⟩
abbrev cL_leads : ByteArray := method_4_code
def yL_leads : MethodName := ⟨RL, "leads", "(LWaveWalk;III[J)I"⟩
abbrev cL_mark : ByteArray := method_5_code
def yL_mark : MethodName := ⟨RL, "mark", "(LWaveWalk;IIZ[J)I"⟩
abbrev cL_alike : ByteArray := method_6_code
def yL_alike : MethodName := ⟨RL, "alike", "(LWaveWalk;II[J)I"⟩
abbrev cL_walk : ByteArray := method_7_code
def yL_walk : MethodName := ⟨RL, "walk", "(LWaveWalk;I[J)I"⟩
abbrev cL_set : ByteArray := method_8_code
def yL_set : MethodName := ⟨RL, "set", "(LWaveWalk;IIII[J)I"⟩
abbrev cL_spread : ByteArray := method_9_code
def yL_spread : MethodName := ⟨RL, "spread", "(LWaveWalk;II)I"⟩
abbrev cL_step : ByteArray := method_10_code
def yL_step : MethodName := ⟨RL, "step", "(LWaveWalk;II[J)I"⟩
abbrev cL_back : ByteArray := method_11_code
def yL_back : MethodName := ⟨RL, "back", "(LWaveWalk;II[J)I"⟩
abbrev cL_at : ByteArray := method_12_code
def yL_at : MethodName := ⟨RL, "at", "(LWaveWalk;III[J)I"⟩
abbrev cL_share : ByteArray := method_13_code
def yL_share : MethodName := ⟨RL, "share", "(LWaveWalk;II[J)I"⟩
abbrev cL_of : ByteArray := method_14_code
def yL_of : MethodName := ⟨RL, "of", "(LWaveWalk;II[J)I"⟩
abbrev cL_arrives : ByteArray := method_15_code
def yL_arrives : MethodName := ⟨RL, "arrives", "(LWaveWalk;III[J)I"⟩
abbrev cL_returns : ByteArray := method_16_code
def yL_returns : MethodName := ⟨RL, "returns", "(LWaveWalk;II[J)I"⟩
abbrev cL_best : ByteArray := method_17_code
def yL_best : MethodName := ⟨RL, "best", "(LWaveWalk;II[J)I"⟩
abbrev cL_mean : ByteArray := method_18_code
def yL_mean : MethodName := ⟨RL, "mean", "(LWaveWalk;III[J)I"⟩
abbrev cL_copy : ByteArray := method_19_code
def yL_copy : MethodName := ⟨RL, "copy", "(LWaveWalk;II)I"⟩
abbrev cL_count : ByteArray := method_20_code
def yL_count : MethodName := ⟨RL, "count", "(LWaveWalk;I[J)I"⟩
abbrev cL_law : ByteArray := code
def yL_law : MethodName := ⟨RL, "law", "([I)Z"⟩
def wsX0_init : List Cond := .code yX0_init cX0_init 1 none :: ([.methodLink RX0 5 objectInit, .instanceMethod objectInit, .code objectInit ⟨#[0xb1]⟩ 1 none, .arrayClass .int, .fieldLink RX0 11 "WaveWalk$Classes" "ofPlace" "[I", .arrayClass .long, .fieldLink RX0 15 "WaveWalk$Classes" "keys" "[J", .fieldLink RX0 19 "WaveWalk$Classes" "number" "I"] ++ wsX00)
def wsX0_numberByKeys : List Cond := .code yX0_numberByKeys cX0_numberByKeys 4 none :: ([.fieldLink RX0 19 "WaveWalk$Classes" "number" "I", .fieldLink RX0 15 "WaveWalk$Classes" "keys" "[J", .fieldLink RX0 11 "WaveWalk$Classes" "ofPlace" "[I"] ++ wsX00)
def wsX0_keyByDoors : List Cond := .code yX0_keyByDoors cX0_keyByDoors 7 none :: ([.fieldLink RX0 23 "WaveWalk$Net" "places" "I", .fieldLink RX0 11 "WaveWalk$Classes" "ofPlace" "[I", .fieldLink RX0 40 "WaveWalk$Net" "doors" "I", .fieldLink RX0 43 "WaveWalk$Net" "ledTo" "[I", .fieldLink RX0 15 "WaveWalk$Classes" "keys" "[J"] ++ wsX10 ++ wsX00)
def wsX0_partAll : List Cond := .code yX0_partAll cX0_partAll 4 none :: ([.fieldLink RX0 23 "WaveWalk$Net" "places" "I", .fieldLink RX0 15 "WaveWalk$Classes" "keys" "[J", .fieldLink RX0 28 "WaveWalk$Net" "marked" "[Z", .fieldLink RX0 19 "WaveWalk$Classes" "number" "I", .methodLink RX0 32 yX0_numberByKeys, .instanceMethod yX0_numberByKeys, .selects RX0 yX0_numberByKeys yX0_numberByKeys, .initialized RX0, .code yX0_numberByKeys cX0_numberByKeys 4 none, .fieldLink RX0 11 "WaveWalk$Classes" "ofPlace" "[I", .methodLink RX0 36 yX0_keyByDoors, .instanceMethod yX0_keyByDoors, .selects RX0 yX0_keyByDoors yX0_keyByDoors, .code yX0_keyByDoors cX0_keyByDoors 7 none, .fieldLink RX0 40 "WaveWalk$Net" "doors" "I", .fieldLink RX0 43 "WaveWalk$Net" "ledTo" "[I"] ++ wsX10 ++ wsX00)
def wsX1_init : List Cond := .code yX1_init cX1_init 4 none :: ([.methodLink RX1 3 objectInit, .instanceMethod objectInit, .code objectInit ⟨#[0xb1]⟩ 1 none, .arrayClass .int, .fieldLink RX1 9 "WaveWalk$Net" "ledTo" "[I", .arrayClass .boolean, .fieldLink RX1 15 "WaveWalk$Net" "marked" "[Z", .fieldLink RX1 19 "WaveWalk$Net" "hasWalks" "Z", .fieldLink RX1 23 "WaveWalk$Net" "places" "I", .fieldLink RX1 27 "WaveWalk$Net" "doors" "I", .fieldLink RX1 30 "WaveWalk$Net" "scale" "I", .constantLong RX1 33 (2305843009213693952), .fieldLink RX1 35 "WaveWalk$Net" "heaviestToStep" "J", .constantLong RX1 39 (512409557603043100), .constantLong RX1 41 (1152921504606846976)] ++ wsX10)
def wsX1_joinCells : List Cond := .code yX1_joinCells cX1_joinCells 5 none :: ([.fieldLink RX1 9 "WaveWalk$Net" "ledTo" "[I"] ++ wsX10)
def wsX3_init : List Cond := .code yX3_init cX3_init 1 none :: ([.methodLink RX3 3 objectInit, .instanceMethod objectInit, .code objectInit ⟨#[0xb1]⟩ 1 none, .arrayClass .long, .fieldLink RX3 9 "WaveWalk$Wave" "numbers" "[J", .fieldLink RX3 15 "WaveWalk$Wave" "time" "I"] ++ wsX30)
def wsX2_init : List Cond := .code yX2_init cX2_init 3 none :: ([.methodLink RX2 1 objectInit, .instanceMethod objectInit, .code objectInit ⟨#[0xb1]⟩ 1 none, .classLink RX2 7 RX3, .instantiable RX3 2, .initialized RX3, .fieldLink RX2 10 "WaveWalk$Walk" "wave" "LWaveWalk$Wave;", .fieldLink RX2 16 "WaveWalk$Walk" "netNumber" "I", .fieldLink RX2 20 "WaveWalk$Walk" "net" "LWaveWalk$Net;", .instanceMethod yX3_init, .code yX3_init cX3_init 1 none, .methodLink RX3 3 objectInit, .arrayClass .long, .fieldLink RX3 9 "WaveWalk$Wave" "numbers" "[J", .fieldLink RX3 15 "WaveWalk$Wave" "time" "I"] ++ wsX30 ++ wsX20)
def wsX3_becomeLike : List Cond := .code yX3_becomeLike cX3_becomeLike 2 none :: ([.fieldLink RX3 9 "WaveWalk$Wave" "numbers" "[J", .methodLink RX3 19 arraycopyName, .native arraycopyName, .static arraycopyName, .initialized "java/lang/System", .fieldLink RX3 15 "WaveWalk$Wave" "time" "I"] ++ wsX30)
def wsX3_fillAll : List Cond := .code yX3_fillAll cX3_fillAll 5 none :: ([.fieldLink RX3 25 "WaveWalk$Net" "places" "I", .fieldLink RX3 30 "WaveWalk$Net" "doors" "I", .fieldLink RX3 9 "WaveWalk$Wave" "numbers" "[J", .fieldLink RX3 15 "WaveWalk$Wave" "time" "I"] ++ wsX10 ++ wsX30)
def wsX4_isTold : List Cond := .code yX4_isTold cX4_isTold 2 (some .boolean) :: ([.constantLong RX4 206 (-100), .constantLong RX4 208 (100)])
def wsX3_isToldBut : List Cond := .code yX3_isToldBut cX3_isToldBut 3 (some .boolean) :: ([.fieldLink RX3 9 "WaveWalk$Wave" "numbers" "[J", .static yX4_isTold, .initialized RX4, .code yX4_isTold cX4_isTold 2 (some .boolean), .constantLong RX4 206 (-100), .constantLong RX4 208 (100)] ++ wsX30)
def wsX3_squaresAt : List Cond := .code yX3_squaresAt cX3_squaresAt 6 (some .long) :: ([.fieldLink RX3 9 "WaveWalk$Wave" "numbers" "[J"] ++ wsX30)
def wsX3_squares : List Cond := .code yX3_squares cX3_squares 4 (some .long) :: ([.methodLink RX3 37 yX3_squaresAt, .instanceMethod yX3_squaresAt, .selects RX3 yX3_squaresAt yX3_squaresAt, .initialized RX3, .code yX3_squaresAt cX3_squaresAt 6 (some .long), .fieldLink RX3 9 "WaveWalk$Wave" "numbers" "[J"] ++ wsX30)
def wsX3_squaresAtMarked : List Cond := .code yX3_squaresAtMarked cX3_squaresAtMarked 5 (some .long) :: ([.fieldLink RX3 25 "WaveWalk$Net" "places" "I", .fieldLink RX3 41 "WaveWalk$Net" "marked" "[Z", .methodLink RX3 37 yX3_squaresAt, .instanceMethod yX3_squaresAt, .selects RX3 yX3_squaresAt yX3_squaresAt, .initialized RX3, .code yX3_squaresAt cX3_squaresAt 6 (some .long), .fieldLink RX3 9 "WaveWalk$Wave" "numbers" "[J"] ++ wsX10 ++ wsX30)
def wsX3_isAllAt : List Cond := .code yX3_isAllAt cX3_isAllAt 4 (some .boolean) :: ([.methodLink RX3 37 yX3_squaresAt, .instanceMethod yX3_squaresAt, .selects RX3 yX3_squaresAt yX3_squaresAt, .initialized RX3, .code yX3_squaresAt cX3_squaresAt 6 (some .long), .fieldLink RX3 9 "WaveWalk$Wave" "numbers" "[J", .methodLink RX3 45 yX3_squares, .instanceMethod yX3_squares, .selects RX3 yX3_squares yX3_squares, .code yX3_squares cX3_squares 4 (some .long)] ++ wsX30)
def wsX3_isMultipleOf : List Cond := .code yX3_isMultipleOf cX3_isMultipleOf 4 (some .boolean) :: ([.fieldLink RX3 9 "WaveWalk$Wave" "numbers" "[J"] ++ wsX30)
def wsX3_stepsLeft : List Cond := .code yX3_stepsLeft cX3_stepsLeft 5 (some .int) :: ([.fieldLink RX3 15 "WaveWalk$Wave" "time" "I", .fieldLink RX3 49 "WaveWalk$Net" "heaviestToStep" "J", .fieldLink RX3 53 "WaveWalk$Net" "scale" "I", .methodLink RX3 45 yX3_squares, .instanceMethod yX3_squares, .selects RX3 yX3_squares yX3_squares, .initialized RX3, .code yX3_squares cX3_squares 4 (some .long), .methodLink RX3 37 yX3_squaresAt, .instanceMethod yX3_squaresAt, .selects RX3 yX3_squaresAt yX3_squaresAt, .code yX3_squaresAt cX3_squaresAt 6 (some .long), .fieldLink RX3 9 "WaveWalk$Wave" "numbers" "[J"] ++ wsX30 ++ wsX10)
def wsX3_changeSigns : List Cond := .code yX3_changeSigns cX3_changeSigns 5 none :: ([.fieldLink RX3 25 "WaveWalk$Net" "places" "I", .fieldLink RX3 41 "WaveWalk$Net" "marked" "[Z", .fieldLink RX3 30 "WaveWalk$Net" "doors" "I", .fieldLink RX3 9 "WaveWalk$Wave" "numbers" "[J"] ++ wsX10 ++ wsX30)
def wsX3_turnAt : List Cond := .code yX3_turnAt cX3_turnAt 8 none :: ([.fieldLink RX3 9 "WaveWalk$Wave" "numbers" "[J", .constantLong RX3 70 (2), .constantLong RX3 72 (3)] ++ wsX30)
def wsX3_goThroughDoors : List Cond := .code yX3_goThroughDoors cX3_goThroughDoors 6 none :: ([.fieldLink RX3 25 "WaveWalk$Net" "places" "I", .fieldLink RX3 78 "WaveWalk$Net" "ledTo" "[I", .fieldLink RX3 9 "WaveWalk$Wave" "numbers" "[J"] ++ wsX10 ++ wsX30)
def wsX3_doStep : List Cond := .code yX3_doStep cX3_doStep 3 none :: ([.fieldLink RX3 25 "WaveWalk$Net" "places" "I", .fieldLink RX3 30 "WaveWalk$Net" "doors" "I", .fieldLink RX3 15 "WaveWalk$Wave" "time" "I", .methodLink RX3 56 yX3_changeSigns, .instanceMethod yX3_changeSigns, .selects RX3 yX3_changeSigns yX3_changeSigns, .initialized RX3, .code yX3_changeSigns cX3_changeSigns 5 none, .fieldLink RX3 41 "WaveWalk$Net" "marked" "[Z", .fieldLink RX3 9 "WaveWalk$Wave" "numbers" "[J", .methodLink RX3 60 yX3_turnAt, .instanceMethod yX3_turnAt, .selects RX3 yX3_turnAt yX3_turnAt, .code yX3_turnAt cX3_turnAt 8 none, .constantLong RX3 70 (2), .constantLong RX3 72 (3), .methodLink RX3 64 yX3_goThroughDoors, .instanceMethod yX3_goThroughDoors, .selects RX3 yX3_goThroughDoors yX3_goThroughDoors, .code yX3_goThroughDoors cX3_goThroughDoors 6 none, .fieldLink RX3 78 "WaveWalk$Net" "ledTo" "[I"] ++ wsX10 ++ wsX30)
def wsX3_lessenAt : List Cond := .code yX3_lessenAt cX3_lessenAt 5 none :: ([.fieldLink RX3 9 "WaveWalk$Wave" "numbers" "[J", .constantLong RX3 70 (2), .constantLong RX3 74 (9), .constantLong RX3 76 (4)] ++ wsX30)
def wsX3_undoStep_r1 : List Cond := [Cond.fieldLink RX3 25 "WaveWalk$Net" "places" "I", Cond.fieldLink RX3 30 "WaveWalk$Net" "doors" "I", Cond.fieldLink RX3 15 "WaveWalk$Wave" "time" "I", Cond.methodLink RX3 64 yX3_goThroughDoors, Cond.instanceMethod yX3_goThroughDoors, Cond.selects RX3 yX3_goThroughDoors yX3_goThroughDoors, Cond.initialized RX3, Cond.code yX3_goThroughDoors cX3_goThroughDoors 6 none, Cond.fieldLink RX3 78 "WaveWalk$Net" "ledTo" "[I", Cond.fieldLink RX3 9 "WaveWalk$Wave" "numbers" "[J", Cond.methodLink RX3 60 yX3_turnAt, Cond.instanceMethod yX3_turnAt, Cond.selects RX3 yX3_turnAt yX3_turnAt, Cond.code yX3_turnAt cX3_turnAt 8 none, Cond.constantLong RX3 70 (2), Cond.constantLong RX3 72 (3), Cond.methodLink RX3 67 yX3_lessenAt, Cond.instanceMethod yX3_lessenAt, Cond.selects RX3 yX3_lessenAt yX3_lessenAt, Cond.code yX3_lessenAt cX3_lessenAt 5 none, Cond.constantLong RX3 74 (9), Cond.constantLong RX3 76 (4), Cond.methodLink RX3 56 yX3_changeSigns, Cond.instanceMethod yX3_changeSigns]
def wsX3_undoStep_r2 : List Cond := [Cond.selects RX3 yX3_changeSigns yX3_changeSigns, Cond.code yX3_changeSigns cX3_changeSigns 5 none, Cond.fieldLink RX3 41 "WaveWalk$Net" "marked" "[Z"]
def wsX3_undoStep : List Cond := .code yX3_undoStep cX3_undoStep 3 none :: ((wsX3_undoStep_r1 ++ wsX3_undoStep_r2) ++ wsX10 ++ wsX30)
def wsX4_init_r1 : List Cond := [Cond.methodLink RX4 3 objectInit, Cond.instanceMethod objectInit, Cond.code objectInit ⟨#[0xb1]⟩ 1 none, Cond.classLink RX4 9 RX1, Cond.fieldLink RX4 11 "WaveWalk" "nets" "[LWaveWalk$Net;", Cond.classLink RX4 15 RX2, Cond.fieldLink RX4 17 "WaveWalk" "walks" "[LWaveWalk$Walk;", Cond.classLink RX4 21 RX3, Cond.instantiable RX3 2, Cond.initialized RX3, Cond.fieldLink RX4 24 "WaveWalk" "trial" "LWaveWalk$Wave;", Cond.classLink RX4 28 RX0, Cond.instantiable RX0 3, Cond.initialized RX0, Cond.fieldLink RX4 31 "WaveWalk" "classes" "LWaveWalk$Classes;", Cond.fieldLink RX4 35 "WaveWalk" "netCount" "I", Cond.fieldLink RX4 39 "WaveWalk" "walkCount" "I", Cond.instanceMethod yX3_init, Cond.code yX3_init cX3_init 1 none, Cond.methodLink RX3 3 objectInit, Cond.arrayClass .long, Cond.fieldLink RX3 9 "WaveWalk$Wave" "numbers" "[J", Cond.fieldLink RX3 15 "WaveWalk$Wave" "time" "I", Cond.instanceMethod yX0_init]
def wsX4_init_r2 : List Cond := [Cond.code yX0_init cX0_init 1 none, Cond.methodLink RX0 5 objectInit, Cond.arrayClass .int, Cond.fieldLink RX0 11 "WaveWalk$Classes" "ofPlace" "[I", Cond.fieldLink RX0 15 "WaveWalk$Classes" "keys" "[J", Cond.fieldLink RX0 19 "WaveWalk$Classes" "number" "I"]
def wsX4_init : List Cond := .code yX4_init cX4_init 1 none :: ((wsX4_init_r1 ++ wsX4_init_r2) ++ wsX40 ++ wsX30 ++ wsX00)
def wsX4_net : List Cond := .code yX4_net cX4_net 4 (some .int) :: ([.fieldLink RX4 35 "WaveWalk" "netCount" "I", .fieldLink RX4 11 "WaveWalk" "nets" "[LWaveWalk$Net;", .classLink RX4 9 RX1, .instantiable RX1 7, .initialized RX1, .methodLink RX4 42 yX1_init, .instanceMethod yX1_init, .code yX1_init cX1_init 4 none, .methodLink RX1 3 objectInit, .instanceMethod objectInit, .code objectInit ⟨#[0xb1]⟩ 1 none, .arrayClass .int, .fieldLink RX1 9 "WaveWalk$Net" "ledTo" "[I", .arrayClass .boolean, .fieldLink RX1 15 "WaveWalk$Net" "marked" "[Z", .fieldLink RX1 19 "WaveWalk$Net" "hasWalks" "Z", .fieldLink RX1 23 "WaveWalk$Net" "places" "I", .fieldLink RX1 27 "WaveWalk$Net" "doors" "I", .fieldLink RX1 30 "WaveWalk$Net" "scale" "I", .constantLong RX1 33 (2305843009213693952), .fieldLink RX1 35 "WaveWalk$Net" "heaviestToStep" "J", .constantLong RX1 39 (512409557603043100), .constantLong RX1 41 (1152921504606846976)] ++ wsX40 ++ wsX10)
def wsX4_netOf : List Cond := .code yX4_netOf cX4_netOf 3 (some (.object "WaveWalk$Net")) :: ([.classLink RX4 141 "java/util/NoSuchElementException", .initialized "java/util/NoSuchElementException", .fieldLink RX4 11 "WaveWalk" "nets" "[LWaveWalk$Net;"] ++ wsX40 ++ (na_at RX4 145).filter goodWord)
def wsX4_needPlace : List Cond := .code yX4_needPlace cX4_needPlace 2 none :: ([.classLink RX4 141 "java/util/NoSuchElementException", .initialized "java/util/NoSuchElementException", .fieldLink RX4 188 "WaveWalk$Net" "places" "I"] ++ wsX10 ++ (na_at RX4 145).filter goodWord)
def wsX4_cellOf : List Cond := .code yX4_cellOf cX4_cellOf 3 (some .int) :: ([.classLink RX4 141 "java/util/NoSuchElementException", .initialized "java/util/NoSuchElementException", .fieldLink RX4 193 "WaveWalk$Net" "doors" "I", .methodLink RX4 64 yX4_needPlace, .static yX4_needPlace, .initialized RX4, .code yX4_needPlace cX4_needPlace 2 none, .fieldLink RX4 188 "WaveWalk$Net" "places" "I"] ++ wsX10 ++ (na_at RX4 145).filter goodWord)
def wsX4_join : List Cond := .code yX4_join cX4_join 9 (some .boolean) :: ([.fieldLink RX4 53 "WaveWalk$Net" "hasWalks" "Z", .methodLink RX4 45 yX4_netOf, .instanceMethod yX4_netOf, .selects RX4 yX4_netOf yX4_netOf, .initialized RX4, .code yX4_netOf cX4_netOf 3 (some (.object "WaveWalk$Net")), .classLink RX4 141 "java/util/NoSuchElementException", .initialized "java/util/NoSuchElementException", .fieldLink RX4 11 "WaveWalk" "nets" "[LWaveWalk$Net;", .methodLink RX4 49 yX4_cellOf, .static yX4_cellOf, .code yX4_cellOf cX4_cellOf 3 (some .int), .fieldLink RX4 193 "WaveWalk$Net" "doors" "I", .methodLink RX4 64 yX4_needPlace, .static yX4_needPlace, .code yX4_needPlace cX4_needPlace 2 none, .fieldLink RX4 188 "WaveWalk$Net" "places" "I", .methodLink RX4 57 yX1_joinCells, .instanceMethod yX1_joinCells, .selects RX1 yX1_joinCells yX1_joinCells, .initialized RX1, .code yX1_joinCells cX1_joinCells 5 none, .fieldLink RX1 9 "WaveWalk$Net" "ledTo" "[I"] ++ wsX10 ++ wsX40 ++ (na_at RX4 145).filter goodWord)
def wsX4_leads : List Cond := .code yX4_leads cX4_leads 5 (some .int) :: ([.fieldLink RX4 60 "WaveWalk$Net" "ledTo" "[I", .methodLink RX4 45 yX4_netOf, .instanceMethod yX4_netOf, .selects RX4 yX4_netOf yX4_netOf, .initialized RX4, .code yX4_netOf cX4_netOf 3 (some (.object "WaveWalk$Net")), .classLink RX4 141 "java/util/NoSuchElementException", .initialized "java/util/NoSuchElementException", .fieldLink RX4 11 "WaveWalk" "nets" "[LWaveWalk$Net;", .methodLink RX4 49 yX4_cellOf, .static yX4_cellOf, .code yX4_cellOf cX4_cellOf 3 (some .int), .fieldLink RX4 193 "WaveWalk$Net" "doors" "I", .methodLink RX4 64 yX4_needPlace, .static yX4_needPlace, .code yX4_needPlace cX4_needPlace 2 none, .fieldLink RX4 188 "WaveWalk$Net" "places" "I"] ++ wsX10 ++ wsX40 ++ (na_at RX4 145).filter goodWord)
def wsX4_mark : List Cond := .code yX4_mark cX4_mark 5 (some .boolean) :: ([.fieldLink RX4 53 "WaveWalk$Net" "hasWalks" "Z", .fieldLink RX4 68 "WaveWalk$Net" "marked" "[Z", .methodLink RX4 45 yX4_netOf, .instanceMethod yX4_netOf, .selects RX4 yX4_netOf yX4_netOf, .initialized RX4, .code yX4_netOf cX4_netOf 3 (some (.object "WaveWalk$Net")), .classLink RX4 141 "java/util/NoSuchElementException", .initialized "java/util/NoSuchElementException", .fieldLink RX4 11 "WaveWalk" "nets" "[LWaveWalk$Net;", .methodLink RX4 64 yX4_needPlace, .static yX4_needPlace, .code yX4_needPlace cX4_needPlace 2 none, .fieldLink RX4 188 "WaveWalk$Net" "places" "I"] ++ wsX10 ++ wsX40 ++ (na_at RX4 145).filter goodWord)
def wsX4_alike_r1 : List Cond := [Cond.fieldLink RX4 31 "WaveWalk" "classes" "LWaveWalk$Classes;", Cond.fieldLink RX4 76 "WaveWalk$Classes" "number" "I", Cond.fieldLink RX4 79 "WaveWalk$Classes" "ofPlace" "[I", Cond.methodLink RX4 45 yX4_netOf, Cond.instanceMethod yX4_netOf, Cond.selects RX4 yX4_netOf yX4_netOf, Cond.initialized RX4, Cond.code yX4_netOf cX4_netOf 3 (some (.object "WaveWalk$Net")), Cond.classLink RX4 141 "java/util/NoSuchElementException", Cond.initialized "java/util/NoSuchElementException", Cond.fieldLink RX4 11 "WaveWalk" "nets" "[LWaveWalk$Net;", Cond.methodLink RX4 64 yX4_needPlace, Cond.static yX4_needPlace, Cond.code yX4_needPlace cX4_needPlace 2 none, Cond.fieldLink RX4 188 "WaveWalk$Net" "places" "I", Cond.methodLink RX4 72 yX0_partAll, Cond.instanceMethod yX0_partAll, Cond.selects RX0 yX0_partAll yX0_partAll, Cond.initialized RX0, Cond.code yX0_partAll cX0_partAll 4 none, Cond.fieldLink RX0 23 "WaveWalk$Net" "places" "I", Cond.fieldLink RX0 15 "WaveWalk$Classes" "keys" "[J", Cond.fieldLink RX0 28 "WaveWalk$Net" "marked" "[Z", Cond.fieldLink RX0 19 "WaveWalk$Classes" "number" "I"]
def wsX4_alike_r2 : List Cond := [Cond.methodLink RX0 32 yX0_numberByKeys, Cond.instanceMethod yX0_numberByKeys, Cond.selects RX0 yX0_numberByKeys yX0_numberByKeys, Cond.code yX0_numberByKeys cX0_numberByKeys 4 none, Cond.fieldLink RX0 11 "WaveWalk$Classes" "ofPlace" "[I", Cond.methodLink RX0 36 yX0_keyByDoors, Cond.instanceMethod yX0_keyByDoors, Cond.selects RX0 yX0_keyByDoors yX0_keyByDoors, Cond.code yX0_keyByDoors cX0_keyByDoors 7 none, Cond.fieldLink RX0 40 "WaveWalk$Net" "doors" "I", Cond.fieldLink RX0 43 "WaveWalk$Net" "ledTo" "[I"]
def wsX4_alike : List Cond := .code yX4_alike cX4_alike 4 (some .int) :: ((wsX4_alike_r1 ++ wsX4_alike_r2) ++ wsX40 ++ wsX00 ++ wsX10 ++ (na_at RX4 145).filter goodWord)
def wsX4_walk_r1 : List Cond := [Cond.fieldLink RX4 39 "WaveWalk" "walkCount" "I", Cond.fieldLink RX4 53 "WaveWalk$Net" "hasWalks" "Z", Cond.fieldLink RX4 17 "WaveWalk" "walks" "[LWaveWalk$Walk;", Cond.classLink RX4 15 RX2, Cond.instantiable RX2 3, Cond.initialized RX2, Cond.methodLink RX4 45 yX4_netOf, Cond.instanceMethod yX4_netOf, Cond.selects RX4 yX4_netOf yX4_netOf, Cond.initialized RX4, Cond.code yX4_netOf cX4_netOf 3 (some (.object "WaveWalk$Net")), Cond.classLink RX4 141 "java/util/NoSuchElementException", Cond.initialized "java/util/NoSuchElementException", Cond.fieldLink RX4 11 "WaveWalk" "nets" "[LWaveWalk$Net;", Cond.methodLink RX4 82 yX2_init, Cond.instanceMethod yX2_init, Cond.code yX2_init cX2_init 3 none, Cond.methodLink RX2 1 objectInit, Cond.instanceMethod objectInit, Cond.code objectInit ⟨#[0xb1]⟩ 1 none, Cond.classLink RX2 7 RX3, Cond.instantiable RX3 2, Cond.initialized RX3, Cond.fieldLink RX2 10 "WaveWalk$Walk" "wave" "LWaveWalk$Wave;"]
def wsX4_walk_r2 : List Cond := [Cond.fieldLink RX2 16 "WaveWalk$Walk" "netNumber" "I", Cond.fieldLink RX2 20 "WaveWalk$Walk" "net" "LWaveWalk$Net;", Cond.instanceMethod yX3_init, Cond.code yX3_init cX3_init 1 none, Cond.methodLink RX3 3 objectInit, Cond.arrayClass .long, Cond.fieldLink RX3 9 "WaveWalk$Wave" "numbers" "[J", Cond.fieldLink RX3 15 "WaveWalk$Wave" "time" "I"]
def wsX4_walk : List Cond := .code yX4_walk cX4_walk 3 (some .int) :: ((wsX4_walk_r1 ++ wsX4_walk_r2) ++ wsX40 ++ wsX10 ++ wsX20 ++ wsX30 ++ (na_at RX4 145).filter goodWord)
def wsX4_walkOf : List Cond := .code yX4_walkOf cX4_walkOf 3 (some (.object "WaveWalk$Walk")) :: ([.classLink RX4 141 "java/util/NoSuchElementException", .initialized "java/util/NoSuchElementException", .fieldLink RX4 17 "WaveWalk" "walks" "[LWaveWalk$Walk;"] ++ wsX40 ++ (na_at RX4 145).filter goodWord)
def wsX4_needTold : List Cond := .code yX4_needTold cX4_needTold 1 none :: ([.classLink RX4 177 "java/lang/IllegalArgumentException", .initialized "java/lang/IllegalArgumentException", .methodLink RX4 198 yX4_isTold, .static yX4_isTold, .initialized RX4, .code yX4_isTold cX4_isTold 2 (some .boolean), .constantLong RX4 206 (-100), .constantLong RX4 208 (100)] ++ (vx_atS RX4 181 "java/lang/IllegalArgumentException" ["java/lang/RuntimeException", "java/lang/Exception"]).filter goodWord)
def wsX4_set_r1 : List Cond := [Cond.fieldLink RX4 89 "WaveWalk$Walk" "net" "LWaveWalk$Net;", Cond.fieldLink RX4 97 "WaveWalk$Walk" "wave" "LWaveWalk$Wave;", Cond.fieldLink RX4 104 "WaveWalk$Wave" "numbers" "[J", Cond.fieldLink RX4 108 "WaveWalk$Wave" "time" "I", Cond.methodLink RX4 85 yX4_walkOf, Cond.instanceMethod yX4_walkOf, Cond.selects RX4 yX4_walkOf yX4_walkOf, Cond.initialized RX4, Cond.code yX4_walkOf cX4_walkOf 3 (some (.object "WaveWalk$Walk")), Cond.classLink RX4 141 "java/util/NoSuchElementException", Cond.initialized "java/util/NoSuchElementException", Cond.fieldLink RX4 17 "WaveWalk" "walks" "[LWaveWalk$Walk;", Cond.methodLink RX4 49 yX4_cellOf, Cond.static yX4_cellOf, Cond.code yX4_cellOf cX4_cellOf 3 (some .int), Cond.fieldLink RX4 193 "WaveWalk$Net" "doors" "I", Cond.methodLink RX4 64 yX4_needPlace, Cond.static yX4_needPlace, Cond.code yX4_needPlace cX4_needPlace 2 none, Cond.fieldLink RX4 188 "WaveWalk$Net" "places" "I", Cond.methodLink RX4 93 yX4_needTold, Cond.static yX4_needTold, Cond.code yX4_needTold cX4_needTold 1 none, Cond.classLink RX4 177 "java/lang/IllegalArgumentException"]
def wsX4_set_r2 : List Cond := [Cond.initialized "java/lang/IllegalArgumentException", Cond.methodLink RX4 198 yX4_isTold, Cond.static yX4_isTold, Cond.code yX4_isTold cX4_isTold 2 (some .boolean), Cond.constantLong RX4 206 (-100), Cond.constantLong RX4 208 (100), Cond.methodLink RX4 100 yX3_isToldBut, Cond.instanceMethod yX3_isToldBut, Cond.selects RX3 yX3_isToldBut yX3_isToldBut, Cond.initialized RX3, Cond.code yX3_isToldBut cX3_isToldBut 3 (some .boolean), Cond.fieldLink RX3 9 "WaveWalk$Wave" "numbers" "[J"]
def wsX4_set : List Cond := .code yX4_set cX4_set 7 (some .boolean) :: ((wsX4_set_r1 ++ wsX4_set_r2) ++ wsX20 ++ wsX30 ++ wsX40 ++ wsX10 ++ (na_at RX4 145).filter goodWord ++ (vx_atS RX4 181 "java/lang/IllegalArgumentException" ["java/lang/RuntimeException", "java/lang/Exception"]).filter goodWord)
def wsX4_spread_r1 : List Cond := [Cond.fieldLink RX4 97 "WaveWalk$Walk" "wave" "LWaveWalk$Wave;", Cond.fieldLink RX4 89 "WaveWalk$Walk" "net" "LWaveWalk$Net;", Cond.methodLink RX4 85 yX4_walkOf, Cond.instanceMethod yX4_walkOf, Cond.selects RX4 yX4_walkOf yX4_walkOf, Cond.initialized RX4, Cond.code yX4_walkOf cX4_walkOf 3 (some (.object "WaveWalk$Walk")), Cond.classLink RX4 141 "java/util/NoSuchElementException", Cond.initialized "java/util/NoSuchElementException", Cond.fieldLink RX4 17 "WaveWalk" "walks" "[LWaveWalk$Walk;", Cond.methodLink RX4 93 yX4_needTold, Cond.static yX4_needTold, Cond.code yX4_needTold cX4_needTold 1 none, Cond.classLink RX4 177 "java/lang/IllegalArgumentException", Cond.initialized "java/lang/IllegalArgumentException", Cond.methodLink RX4 198 yX4_isTold, Cond.static yX4_isTold, Cond.code yX4_isTold cX4_isTold 2 (some .boolean), Cond.constantLong RX4 206 (-100), Cond.constantLong RX4 208 (100), Cond.methodLink RX4 111 yX3_fillAll, Cond.instanceMethod yX3_fillAll, Cond.selects RX3 yX3_fillAll yX3_fillAll, Cond.initialized RX3]
def wsX4_spread_r2 : List Cond := [Cond.code yX3_fillAll cX3_fillAll 5 none, Cond.fieldLink RX3 25 "WaveWalk$Net" "places" "I", Cond.fieldLink RX3 30 "WaveWalk$Net" "doors" "I", Cond.fieldLink RX3 9 "WaveWalk$Wave" "numbers" "[J", Cond.fieldLink RX3 15 "WaveWalk$Wave" "time" "I"]
def wsX4_spread : List Cond := .code yX4_spread cX4_spread 4 none :: ((wsX4_spread_r1 ++ wsX4_spread_r2) ++ wsX20 ++ wsX40 ++ wsX10 ++ wsX30 ++ (na_at RX4 145).filter goodWord ++ (vx_atS RX4 181 "java/lang/IllegalArgumentException" ["java/lang/RuntimeException", "java/lang/Exception"]).filter goodWord)
def wsX4_needSteps : List Cond := .code yX4_needSteps cX4_needSteps 1 none :: ([.classLink RX4 177 "java/lang/IllegalArgumentException", .initialized "java/lang/IllegalArgumentException"] ++ (vx_atS RX4 181 "java/lang/IllegalArgumentException" ["java/lang/RuntimeException", "java/lang/Exception"]).filter goodWord)
def wsX4_step_r1 : List Cond := [Cond.fieldLink RX4 97 "WaveWalk$Walk" "wave" "LWaveWalk$Wave;", Cond.fieldLink RX4 89 "WaveWalk$Walk" "net" "LWaveWalk$Net;", Cond.fieldLink RX4 108 "WaveWalk$Wave" "time" "I", Cond.methodLink RX4 85 yX4_walkOf, Cond.instanceMethod yX4_walkOf, Cond.selects RX4 yX4_walkOf yX4_walkOf, Cond.initialized RX4, Cond.code yX4_walkOf cX4_walkOf 3 (some (.object "WaveWalk$Walk")), Cond.classLink RX4 141 "java/util/NoSuchElementException", Cond.initialized "java/util/NoSuchElementException", Cond.fieldLink RX4 17 "WaveWalk" "walks" "[LWaveWalk$Walk;", Cond.methodLink RX4 114 yX4_needSteps, Cond.static yX4_needSteps, Cond.code yX4_needSteps cX4_needSteps 1 none, Cond.classLink RX4 177 "java/lang/IllegalArgumentException", Cond.initialized "java/lang/IllegalArgumentException", Cond.methodLink RX4 117 yX3_squares, Cond.instanceMethod yX3_squares, Cond.selects RX3 yX3_squares yX3_squares, Cond.initialized RX3, Cond.code yX3_squares cX3_squares 4 (some .long), Cond.methodLink RX3 37 yX3_squaresAt, Cond.instanceMethod yX3_squaresAt, Cond.selects RX3 yX3_squaresAt yX3_squaresAt]
def wsX4_step_r2 : List Cond := [Cond.code yX3_squaresAt cX3_squaresAt 6 (some .long), Cond.fieldLink RX3 9 "WaveWalk$Wave" "numbers" "[J", Cond.methodLink RX4 121 yX3_stepsLeft, Cond.instanceMethod yX3_stepsLeft, Cond.selects RX3 yX3_stepsLeft yX3_stepsLeft, Cond.code yX3_stepsLeft cX3_stepsLeft 5 (some .int), Cond.fieldLink RX3 15 "WaveWalk$Wave" "time" "I", Cond.fieldLink RX3 49 "WaveWalk$Net" "heaviestToStep" "J", Cond.fieldLink RX3 53 "WaveWalk$Net" "scale" "I", Cond.methodLink RX3 45 yX3_squares, Cond.methodLink RX4 125 yX3_doStep, Cond.instanceMethod yX3_doStep, Cond.selects RX3 yX3_doStep yX3_doStep, Cond.code yX3_doStep cX3_doStep 3 none, Cond.fieldLink RX3 25 "WaveWalk$Net" "places" "I", Cond.fieldLink RX3 30 "WaveWalk$Net" "doors" "I", Cond.methodLink RX3 56 yX3_changeSigns, Cond.instanceMethod yX3_changeSigns, Cond.selects RX3 yX3_changeSigns yX3_changeSigns, Cond.code yX3_changeSigns cX3_changeSigns 5 none, Cond.fieldLink RX3 41 "WaveWalk$Net" "marked" "[Z", Cond.methodLink RX3 60 yX3_turnAt, Cond.instanceMethod yX3_turnAt, Cond.selects RX3 yX3_turnAt yX3_turnAt]
def wsX4_step_r3 : List Cond := [Cond.code yX3_turnAt cX3_turnAt 8 none, Cond.constantLong RX3 70 (2), Cond.constantLong RX3 72 (3), Cond.methodLink RX3 64 yX3_goThroughDoors, Cond.instanceMethod yX3_goThroughDoors, Cond.selects RX3 yX3_goThroughDoors yX3_goThroughDoors, Cond.code yX3_goThroughDoors cX3_goThroughDoors 6 none, Cond.fieldLink RX3 78 "WaveWalk$Net" "ledTo" "[I"]
def wsX4_step : List Cond := .code yX4_step cX4_step 6 (some .int) :: ((wsX4_step_r1 ++ (wsX4_step_r2 ++ wsX4_step_r3)) ++ wsX20 ++ wsX30 ++ wsX40 ++ wsX10 ++ (na_at RX4 145).filter goodWord ++ (vx_atS RX4 181 "java/lang/IllegalArgumentException" ["java/lang/RuntimeException", "java/lang/Exception"]).filter goodWord)
def wsX4_back_r1 : List Cond := [Cond.fieldLink RX4 97 "WaveWalk$Walk" "wave" "LWaveWalk$Wave;", Cond.fieldLink RX4 108 "WaveWalk$Wave" "time" "I", Cond.fieldLink RX4 89 "WaveWalk$Walk" "net" "LWaveWalk$Net;", Cond.methodLink RX4 85 yX4_walkOf, Cond.instanceMethod yX4_walkOf, Cond.selects RX4 yX4_walkOf yX4_walkOf, Cond.initialized RX4, Cond.code yX4_walkOf cX4_walkOf 3 (some (.object "WaveWalk$Walk")), Cond.classLink RX4 141 "java/util/NoSuchElementException", Cond.initialized "java/util/NoSuchElementException", Cond.fieldLink RX4 17 "WaveWalk" "walks" "[LWaveWalk$Walk;", Cond.methodLink RX4 114 yX4_needSteps, Cond.static yX4_needSteps, Cond.code yX4_needSteps cX4_needSteps 1 none, Cond.classLink RX4 177 "java/lang/IllegalArgumentException", Cond.initialized "java/lang/IllegalArgumentException", Cond.methodLink RX4 128 yX3_undoStep, Cond.instanceMethod yX3_undoStep, Cond.selects RX3 yX3_undoStep yX3_undoStep, Cond.initialized RX3, Cond.code yX3_undoStep cX3_undoStep 3 none, Cond.fieldLink RX3 25 "WaveWalk$Net" "places" "I", Cond.fieldLink RX3 30 "WaveWalk$Net" "doors" "I", Cond.fieldLink RX3 15 "WaveWalk$Wave" "time" "I"]
def wsX4_back_r2 : List Cond := [Cond.methodLink RX3 64 yX3_goThroughDoors, Cond.instanceMethod yX3_goThroughDoors, Cond.selects RX3 yX3_goThroughDoors yX3_goThroughDoors, Cond.code yX3_goThroughDoors cX3_goThroughDoors 6 none, Cond.fieldLink RX3 78 "WaveWalk$Net" "ledTo" "[I", Cond.fieldLink RX3 9 "WaveWalk$Wave" "numbers" "[J", Cond.methodLink RX3 60 yX3_turnAt, Cond.instanceMethod yX3_turnAt, Cond.selects RX3 yX3_turnAt yX3_turnAt, Cond.code yX3_turnAt cX3_turnAt 8 none, Cond.constantLong RX3 70 (2), Cond.constantLong RX3 72 (3), Cond.methodLink RX3 67 yX3_lessenAt, Cond.instanceMethod yX3_lessenAt, Cond.selects RX3 yX3_lessenAt yX3_lessenAt, Cond.code yX3_lessenAt cX3_lessenAt 5 none, Cond.constantLong RX3 74 (9), Cond.constantLong RX3 76 (4), Cond.methodLink RX3 56 yX3_changeSigns, Cond.instanceMethod yX3_changeSigns, Cond.selects RX3 yX3_changeSigns yX3_changeSigns, Cond.code yX3_changeSigns cX3_changeSigns 5 none, Cond.fieldLink RX3 41 "WaveWalk$Net" "marked" "[Z"]
def wsX4_back : List Cond := .code yX4_back cX4_back 6 (some .int) :: ((wsX4_back_r1 ++ wsX4_back_r2) ++ wsX20 ++ wsX30 ++ wsX40 ++ wsX10 ++ (na_at RX4 145).filter goodWord ++ (vx_atS RX4 181 "java/lang/IllegalArgumentException" ["java/lang/RuntimeException", "java/lang/Exception"]).filter goodWord)
def wsX4_at : List Cond := .code yX4_at cX4_at 5 (some .long) :: ([.fieldLink RX4 97 "WaveWalk$Walk" "wave" "LWaveWalk$Wave;", .fieldLink RX4 104 "WaveWalk$Wave" "numbers" "[J", .fieldLink RX4 89 "WaveWalk$Walk" "net" "LWaveWalk$Net;", .methodLink RX4 85 yX4_walkOf, .instanceMethod yX4_walkOf, .selects RX4 yX4_walkOf yX4_walkOf, .initialized RX4, .code yX4_walkOf cX4_walkOf 3 (some (.object "WaveWalk$Walk")), .classLink RX4 141 "java/util/NoSuchElementException", .initialized "java/util/NoSuchElementException", .fieldLink RX4 17 "WaveWalk" "walks" "[LWaveWalk$Walk;", .methodLink RX4 49 yX4_cellOf, .static yX4_cellOf, .code yX4_cellOf cX4_cellOf 3 (some .int), .fieldLink RX4 193 "WaveWalk$Net" "doors" "I", .methodLink RX4 64 yX4_needPlace, .static yX4_needPlace, .code yX4_needPlace cX4_needPlace 2 none, .fieldLink RX4 188 "WaveWalk$Net" "places" "I"] ++ wsX20 ++ wsX30 ++ wsX40 ++ wsX10 ++ (na_at RX4 145).filter goodWord)
def wsX4_share_r1 : List Cond := [Cond.fieldLink RX4 97 "WaveWalk$Walk" "wave" "LWaveWalk$Wave;", Cond.fieldLink RX4 89 "WaveWalk$Walk" "net" "LWaveWalk$Net;", Cond.methodLink RX4 85 yX4_walkOf, Cond.instanceMethod yX4_walkOf, Cond.selects RX4 yX4_walkOf yX4_walkOf, Cond.initialized RX4, Cond.code yX4_walkOf cX4_walkOf 3 (some (.object "WaveWalk$Walk")), Cond.classLink RX4 141 "java/util/NoSuchElementException", Cond.initialized "java/util/NoSuchElementException", Cond.fieldLink RX4 17 "WaveWalk" "walks" "[LWaveWalk$Walk;", Cond.methodLink RX4 117 yX3_squares, Cond.instanceMethod yX3_squares, Cond.selects RX3 yX3_squares yX3_squares, Cond.initialized RX3, Cond.code yX3_squares cX3_squares 4 (some .long), Cond.methodLink RX3 37 yX3_squaresAt, Cond.instanceMethod yX3_squaresAt, Cond.selects RX3 yX3_squaresAt yX3_squaresAt, Cond.code yX3_squaresAt cX3_squaresAt 6 (some .long), Cond.fieldLink RX3 9 "WaveWalk$Wave" "numbers" "[J", Cond.methodLink RX4 64 yX4_needPlace, Cond.static yX4_needPlace, Cond.code yX4_needPlace cX4_needPlace 2 none, Cond.fieldLink RX4 188 "WaveWalk$Net" "places" "I"]
def wsX4_share_r2 : List Cond := [Cond.methodLink RX4 131 yX3_squaresAt]
def wsX4_share : List Cond := .code yX4_share cX4_share 4 (some .long) :: ((wsX4_share_r1 ++ wsX4_share_r2) ++ wsX20 ++ wsX40 ++ wsX30 ++ wsX10 ++ (na_at RX4 145).filter goodWord)
def wsX4_of : List Cond := .code yX4_of cX4_of 4 (some .int) :: ([.classLink RX4 141 "java/util/NoSuchElementException", .initialized "java/util/NoSuchElementException", .fieldLink RX4 135 "WaveWalk$Walk" "netNumber" "I", .fieldLink RX4 97 "WaveWalk$Walk" "wave" "LWaveWalk$Wave;", .fieldLink RX4 108 "WaveWalk$Wave" "time" "I", .fieldLink RX4 89 "WaveWalk$Walk" "net" "LWaveWalk$Net;", .fieldLink RX4 138 "WaveWalk$Net" "scale" "I", .methodLink RX4 85 yX4_walkOf, .instanceMethod yX4_walkOf, .selects RX4 yX4_walkOf yX4_walkOf, .initialized RX4, .code yX4_walkOf cX4_walkOf 3 (some (.object "WaveWalk$Walk")), .fieldLink RX4 17 "WaveWalk" "walks" "[LWaveWalk$Walk;"] ++ wsX20 ++ wsX30 ++ wsX10 ++ wsX40 ++ (na_at RX4 145).filter goodWord)
def wsX4_arrives_r1 : List Cond := [Cond.fieldLink RX4 89 "WaveWalk$Walk" "net" "LWaveWalk$Net;", Cond.fieldLink RX4 97 "WaveWalk$Walk" "wave" "LWaveWalk$Wave;", Cond.methodLink RX4 148 Lib.Math.min.name, Cond.static Lib.Math.min.name, Cond.initialized "java/lang/Math", Cond.code Lib.Math.min.name Lib.Math.min.code 2 (some .int), Cond.fieldLink RX4 24 "WaveWalk" "trial" "LWaveWalk$Wave;", Cond.methodLink RX4 85 yX4_walkOf, Cond.instanceMethod yX4_walkOf, Cond.selects RX4 yX4_walkOf yX4_walkOf, Cond.initialized RX4, Cond.code yX4_walkOf cX4_walkOf 3 (some (.object "WaveWalk$Walk")), Cond.classLink RX4 141 "java/util/NoSuchElementException", Cond.initialized "java/util/NoSuchElementException", Cond.fieldLink RX4 17 "WaveWalk" "walks" "[LWaveWalk$Walk;", Cond.methodLink RX4 64 yX4_needPlace, Cond.static yX4_needPlace, Cond.code yX4_needPlace cX4_needPlace 2 none, Cond.fieldLink RX4 188 "WaveWalk$Net" "places" "I", Cond.methodLink RX4 114 yX4_needSteps, Cond.static yX4_needSteps, Cond.code yX4_needSteps cX4_needSteps 1 none, Cond.classLink RX4 177 "java/lang/IllegalArgumentException", Cond.initialized "java/lang/IllegalArgumentException"]
def wsX4_arrives_r2 : List Cond := [Cond.methodLink RX4 121 yX3_stepsLeft, Cond.instanceMethod yX3_stepsLeft, Cond.selects RX3 yX3_stepsLeft yX3_stepsLeft, Cond.initialized RX3, Cond.code yX3_stepsLeft cX3_stepsLeft 5 (some .int), Cond.fieldLink RX3 15 "WaveWalk$Wave" "time" "I", Cond.fieldLink RX3 49 "WaveWalk$Net" "heaviestToStep" "J", Cond.fieldLink RX3 53 "WaveWalk$Net" "scale" "I", Cond.methodLink RX3 45 yX3_squares, Cond.instanceMethod yX3_squares, Cond.selects RX3 yX3_squares yX3_squares, Cond.code yX3_squares cX3_squares 4 (some .long), Cond.methodLink RX3 37 yX3_squaresAt, Cond.instanceMethod yX3_squaresAt, Cond.selects RX3 yX3_squaresAt yX3_squaresAt, Cond.code yX3_squaresAt cX3_squaresAt 6 (some .long), Cond.fieldLink RX3 9 "WaveWalk$Wave" "numbers" "[J", Cond.methodLink RX4 154 yX3_becomeLike, Cond.instanceMethod yX3_becomeLike, Cond.selects RX3 yX3_becomeLike yX3_becomeLike, Cond.code yX3_becomeLike cX3_becomeLike 2 none, Cond.methodLink RX3 19 arraycopyName, Cond.native arraycopyName, Cond.static arraycopyName]
def wsX4_arrives_r3 : List Cond := [Cond.initialized "java/lang/System", Cond.methodLink RX4 125 yX3_doStep, Cond.instanceMethod yX3_doStep, Cond.selects RX3 yX3_doStep yX3_doStep, Cond.code yX3_doStep cX3_doStep 3 none, Cond.fieldLink RX3 25 "WaveWalk$Net" "places" "I", Cond.fieldLink RX3 30 "WaveWalk$Net" "doors" "I", Cond.methodLink RX3 56 yX3_changeSigns, Cond.instanceMethod yX3_changeSigns, Cond.selects RX3 yX3_changeSigns yX3_changeSigns, Cond.code yX3_changeSigns cX3_changeSigns 5 none, Cond.fieldLink RX3 41 "WaveWalk$Net" "marked" "[Z", Cond.methodLink RX3 60 yX3_turnAt, Cond.instanceMethod yX3_turnAt, Cond.selects RX3 yX3_turnAt yX3_turnAt, Cond.code yX3_turnAt cX3_turnAt 8 none, Cond.constantLong RX3 70 (2), Cond.constantLong RX3 72 (3), Cond.methodLink RX3 64 yX3_goThroughDoors, Cond.instanceMethod yX3_goThroughDoors, Cond.selects RX3 yX3_goThroughDoors yX3_goThroughDoors, Cond.code yX3_goThroughDoors cX3_goThroughDoors 6 none, Cond.fieldLink RX3 78 "WaveWalk$Net" "ledTo" "[I", Cond.methodLink RX4 158 yX3_isAllAt]
def wsX4_arrives_r4 : List Cond := [Cond.instanceMethod yX3_isAllAt, Cond.selects RX3 yX3_isAllAt yX3_isAllAt, Cond.code yX3_isAllAt cX3_isAllAt 4 (some .boolean)]
def wsX4_arrives : List Cond := .code yX4_arrives cX4_arrives 7 (some .int) :: ((wsX4_arrives_r1 ++ (wsX4_arrives_r2 ++ (wsX4_arrives_r3 ++ wsX4_arrives_r4))) ++ wsX20 ++ wsX40 ++ wsX10 ++ wsX30 ++ (na_at RX4 145).filter goodWord ++ (vx_atS RX4 181 "java/lang/IllegalArgumentException" ["java/lang/RuntimeException", "java/lang/Exception"]).filter goodWord)
def wsX4_returns_r1 : List Cond := [Cond.fieldLink RX4 97 "WaveWalk$Walk" "wave" "LWaveWalk$Wave;", Cond.fieldLink RX4 89 "WaveWalk$Walk" "net" "LWaveWalk$Net;", Cond.methodLink RX4 148 Lib.Math.min.name, Cond.static Lib.Math.min.name, Cond.initialized "java/lang/Math", Cond.code Lib.Math.min.name Lib.Math.min.code 2 (some .int), Cond.fieldLink RX4 24 "WaveWalk" "trial" "LWaveWalk$Wave;", Cond.methodLink RX4 85 yX4_walkOf, Cond.instanceMethod yX4_walkOf, Cond.selects RX4 yX4_walkOf yX4_walkOf, Cond.initialized RX4, Cond.code yX4_walkOf cX4_walkOf 3 (some (.object "WaveWalk$Walk")), Cond.classLink RX4 141 "java/util/NoSuchElementException", Cond.initialized "java/util/NoSuchElementException", Cond.fieldLink RX4 17 "WaveWalk" "walks" "[LWaveWalk$Walk;", Cond.methodLink RX4 114 yX4_needSteps, Cond.static yX4_needSteps, Cond.code yX4_needSteps cX4_needSteps 1 none, Cond.classLink RX4 177 "java/lang/IllegalArgumentException", Cond.initialized "java/lang/IllegalArgumentException", Cond.methodLink RX4 121 yX3_stepsLeft, Cond.instanceMethod yX3_stepsLeft, Cond.selects RX3 yX3_stepsLeft yX3_stepsLeft, Cond.initialized RX3]
def wsX4_returns_r2 : List Cond := [Cond.code yX3_stepsLeft cX3_stepsLeft 5 (some .int), Cond.fieldLink RX3 15 "WaveWalk$Wave" "time" "I", Cond.fieldLink RX3 49 "WaveWalk$Net" "heaviestToStep" "J", Cond.fieldLink RX3 53 "WaveWalk$Net" "scale" "I", Cond.methodLink RX3 45 yX3_squares, Cond.instanceMethod yX3_squares, Cond.selects RX3 yX3_squares yX3_squares, Cond.code yX3_squares cX3_squares 4 (some .long), Cond.methodLink RX3 37 yX3_squaresAt, Cond.instanceMethod yX3_squaresAt, Cond.selects RX3 yX3_squaresAt yX3_squaresAt, Cond.code yX3_squaresAt cX3_squaresAt 6 (some .long), Cond.fieldLink RX3 9 "WaveWalk$Wave" "numbers" "[J", Cond.methodLink RX4 154 yX3_becomeLike, Cond.instanceMethod yX3_becomeLike, Cond.selects RX3 yX3_becomeLike yX3_becomeLike, Cond.code yX3_becomeLike cX3_becomeLike 2 none, Cond.methodLink RX3 19 arraycopyName, Cond.native arraycopyName, Cond.static arraycopyName, Cond.initialized "java/lang/System", Cond.methodLink RX4 125 yX3_doStep, Cond.instanceMethod yX3_doStep, Cond.selects RX3 yX3_doStep yX3_doStep]
def wsX4_returns_r3 : List Cond := [Cond.code yX3_doStep cX3_doStep 3 none, Cond.fieldLink RX3 25 "WaveWalk$Net" "places" "I", Cond.fieldLink RX3 30 "WaveWalk$Net" "doors" "I", Cond.methodLink RX3 56 yX3_changeSigns, Cond.instanceMethod yX3_changeSigns, Cond.selects RX3 yX3_changeSigns yX3_changeSigns, Cond.code yX3_changeSigns cX3_changeSigns 5 none, Cond.fieldLink RX3 41 "WaveWalk$Net" "marked" "[Z", Cond.methodLink RX3 60 yX3_turnAt, Cond.instanceMethod yX3_turnAt, Cond.selects RX3 yX3_turnAt yX3_turnAt, Cond.code yX3_turnAt cX3_turnAt 8 none, Cond.constantLong RX3 70 (2), Cond.constantLong RX3 72 (3), Cond.methodLink RX3 64 yX3_goThroughDoors, Cond.instanceMethod yX3_goThroughDoors, Cond.selects RX3 yX3_goThroughDoors yX3_goThroughDoors, Cond.code yX3_goThroughDoors cX3_goThroughDoors 6 none, Cond.fieldLink RX3 78 "WaveWalk$Net" "ledTo" "[I", Cond.methodLink RX4 161 yX3_isMultipleOf, Cond.instanceMethod yX3_isMultipleOf, Cond.selects RX3 yX3_isMultipleOf yX3_isMultipleOf, Cond.code yX3_isMultipleOf cX3_isMultipleOf 4 (some .boolean)]
def wsX4_returns : List Cond := .code yX4_returns cX4_returns 6 (some .int) :: ((wsX4_returns_r1 ++ (wsX4_returns_r2 ++ wsX4_returns_r3)) ++ wsX20 ++ wsX40 ++ wsX30 ++ wsX10 ++ (na_at RX4 145).filter goodWord ++ (vx_atS RX4 181 "java/lang/IllegalArgumentException" ["java/lang/RuntimeException", "java/lang/Exception"]).filter goodWord)
def wsX4_best_r1 : List Cond := [Cond.fieldLink RX4 97 "WaveWalk$Walk" "wave" "LWaveWalk$Wave;", Cond.fieldLink RX4 89 "WaveWalk$Walk" "net" "LWaveWalk$Net;", Cond.methodLink RX4 148 Lib.Math.min.name, Cond.static Lib.Math.min.name, Cond.initialized "java/lang/Math", Cond.code Lib.Math.min.name Lib.Math.min.code 2 (some .int), Cond.fieldLink RX4 24 "WaveWalk" "trial" "LWaveWalk$Wave;", Cond.fieldLink RX4 138 "WaveWalk$Net" "scale" "I", Cond.methodLink RX4 85 yX4_walkOf, Cond.instanceMethod yX4_walkOf, Cond.selects RX4 yX4_walkOf yX4_walkOf, Cond.initialized RX4, Cond.code yX4_walkOf cX4_walkOf 3 (some (.object "WaveWalk$Walk")), Cond.classLink RX4 141 "java/util/NoSuchElementException", Cond.initialized "java/util/NoSuchElementException", Cond.fieldLink RX4 17 "WaveWalk" "walks" "[LWaveWalk$Walk;", Cond.methodLink RX4 114 yX4_needSteps, Cond.static yX4_needSteps, Cond.code yX4_needSteps cX4_needSteps 1 none, Cond.classLink RX4 177 "java/lang/IllegalArgumentException", Cond.initialized "java/lang/IllegalArgumentException", Cond.methodLink RX4 117 yX3_squares, Cond.instanceMethod yX3_squares, Cond.selects RX3 yX3_squares yX3_squares]
def wsX4_best_r2 : List Cond := [Cond.initialized RX3, Cond.code yX3_squares cX3_squares 4 (some .long), Cond.methodLink RX3 37 yX3_squaresAt, Cond.instanceMethod yX3_squaresAt, Cond.selects RX3 yX3_squaresAt yX3_squaresAt, Cond.code yX3_squaresAt cX3_squaresAt 6 (some .long), Cond.fieldLink RX3 9 "WaveWalk$Wave" "numbers" "[J", Cond.methodLink RX4 121 yX3_stepsLeft, Cond.instanceMethod yX3_stepsLeft, Cond.selects RX3 yX3_stepsLeft yX3_stepsLeft, Cond.code yX3_stepsLeft cX3_stepsLeft 5 (some .int), Cond.fieldLink RX3 15 "WaveWalk$Wave" "time" "I", Cond.fieldLink RX3 49 "WaveWalk$Net" "heaviestToStep" "J", Cond.fieldLink RX3 53 "WaveWalk$Net" "scale" "I", Cond.methodLink RX3 45 yX3_squares, Cond.methodLink RX4 154 yX3_becomeLike, Cond.instanceMethod yX3_becomeLike, Cond.selects RX3 yX3_becomeLike yX3_becomeLike, Cond.code yX3_becomeLike cX3_becomeLike 2 none, Cond.methodLink RX3 19 arraycopyName, Cond.native arraycopyName, Cond.static arraycopyName, Cond.initialized "java/lang/System", Cond.methodLink RX4 165 yX3_squaresAtMarked]
def wsX4_best_r3 : List Cond := [Cond.instanceMethod yX3_squaresAtMarked, Cond.selects RX3 yX3_squaresAtMarked yX3_squaresAtMarked, Cond.code yX3_squaresAtMarked cX3_squaresAtMarked 5 (some .long), Cond.fieldLink RX3 25 "WaveWalk$Net" "places" "I", Cond.fieldLink RX3 41 "WaveWalk$Net" "marked" "[Z", Cond.methodLink RX4 125 yX3_doStep, Cond.instanceMethod yX3_doStep, Cond.selects RX3 yX3_doStep yX3_doStep, Cond.code yX3_doStep cX3_doStep 3 none, Cond.fieldLink RX3 30 "WaveWalk$Net" "doors" "I", Cond.methodLink RX3 56 yX3_changeSigns, Cond.instanceMethod yX3_changeSigns, Cond.selects RX3 yX3_changeSigns yX3_changeSigns, Cond.code yX3_changeSigns cX3_changeSigns 5 none, Cond.methodLink RX3 60 yX3_turnAt, Cond.instanceMethod yX3_turnAt, Cond.selects RX3 yX3_turnAt yX3_turnAt, Cond.code yX3_turnAt cX3_turnAt 8 none, Cond.constantLong RX3 70 (2), Cond.constantLong RX3 72 (3), Cond.methodLink RX3 64 yX3_goThroughDoors, Cond.instanceMethod yX3_goThroughDoors, Cond.selects RX3 yX3_goThroughDoors yX3_goThroughDoors, Cond.code yX3_goThroughDoors cX3_goThroughDoors 6 none]
def wsX4_best_r4 : List Cond := [Cond.fieldLink RX3 78 "WaveWalk$Net" "ledTo" "[I"]
def wsX4_best : List Cond := .code yX4_best cX4_best 11 (some .int) :: ((wsX4_best_r1 ++ (wsX4_best_r2 ++ (wsX4_best_r3 ++ wsX4_best_r4))) ++ wsX20 ++ wsX40 ++ wsX10 ++ wsX30 ++ (na_at RX4 145).filter goodWord ++ (vx_atS RX4 181 "java/lang/IllegalArgumentException" ["java/lang/RuntimeException", "java/lang/Exception"]).filter goodWord)
def wsX4_mean_r1 : List Cond := [Cond.fieldLink RX4 89 "WaveWalk$Walk" "net" "LWaveWalk$Net;", Cond.fieldLink RX4 97 "WaveWalk$Walk" "wave" "LWaveWalk$Wave;", Cond.constantLong RX4 169 (-1), Cond.fieldLink RX4 24 "WaveWalk" "trial" "LWaveWalk$Wave;", Cond.fieldLink RX4 171 "WaveWalk$Net" "heaviestToStep" "J", Cond.fieldLink RX4 138 "WaveWalk$Net" "scale" "I", Cond.constantLong RX4 175 (4611686018427387904), Cond.methodLink RX4 85 yX4_walkOf, Cond.instanceMethod yX4_walkOf, Cond.selects RX4 yX4_walkOf yX4_walkOf, Cond.initialized RX4, Cond.code yX4_walkOf cX4_walkOf 3 (some (.object "WaveWalk$Walk")), Cond.classLink RX4 141 "java/util/NoSuchElementException", Cond.initialized "java/util/NoSuchElementException", Cond.fieldLink RX4 17 "WaveWalk" "walks" "[LWaveWalk$Walk;", Cond.methodLink RX4 64 yX4_needPlace, Cond.static yX4_needPlace, Cond.code yX4_needPlace cX4_needPlace 2 none, Cond.fieldLink RX4 188 "WaveWalk$Net" "places" "I", Cond.methodLink RX4 114 yX4_needSteps, Cond.static yX4_needSteps, Cond.code yX4_needSteps cX4_needSteps 1 none, Cond.classLink RX4 177 "java/lang/IllegalArgumentException", Cond.initialized "java/lang/IllegalArgumentException"]
def wsX4_mean_r2 : List Cond := [Cond.methodLink RX4 121 yX3_stepsLeft, Cond.instanceMethod yX3_stepsLeft, Cond.selects RX3 yX3_stepsLeft yX3_stepsLeft, Cond.initialized RX3, Cond.code yX3_stepsLeft cX3_stepsLeft 5 (some .int), Cond.fieldLink RX3 15 "WaveWalk$Wave" "time" "I", Cond.fieldLink RX3 49 "WaveWalk$Net" "heaviestToStep" "J", Cond.fieldLink RX3 53 "WaveWalk$Net" "scale" "I", Cond.methodLink RX3 45 yX3_squares, Cond.instanceMethod yX3_squares, Cond.selects RX3 yX3_squares yX3_squares, Cond.code yX3_squares cX3_squares 4 (some .long), Cond.methodLink RX3 37 yX3_squaresAt, Cond.instanceMethod yX3_squaresAt, Cond.selects RX3 yX3_squaresAt yX3_squaresAt, Cond.code yX3_squaresAt cX3_squaresAt 6 (some .long), Cond.fieldLink RX3 9 "WaveWalk$Wave" "numbers" "[J", Cond.methodLink RX4 154 yX3_becomeLike, Cond.instanceMethod yX3_becomeLike, Cond.selects RX3 yX3_becomeLike yX3_becomeLike, Cond.code yX3_becomeLike cX3_becomeLike 2 none, Cond.methodLink RX3 19 arraycopyName, Cond.native arraycopyName, Cond.static arraycopyName]
def wsX4_mean_r3 : List Cond := [Cond.initialized "java/lang/System", Cond.methodLink RX4 131 yX3_squaresAt, Cond.methodLink RX4 125 yX3_doStep, Cond.instanceMethod yX3_doStep, Cond.selects RX3 yX3_doStep yX3_doStep, Cond.code yX3_doStep cX3_doStep 3 none, Cond.fieldLink RX3 25 "WaveWalk$Net" "places" "I", Cond.fieldLink RX3 30 "WaveWalk$Net" "doors" "I", Cond.methodLink RX3 56 yX3_changeSigns, Cond.instanceMethod yX3_changeSigns, Cond.selects RX3 yX3_changeSigns yX3_changeSigns, Cond.code yX3_changeSigns cX3_changeSigns 5 none, Cond.fieldLink RX3 41 "WaveWalk$Net" "marked" "[Z", Cond.methodLink RX3 60 yX3_turnAt, Cond.instanceMethod yX3_turnAt, Cond.selects RX3 yX3_turnAt yX3_turnAt, Cond.code yX3_turnAt cX3_turnAt 8 none, Cond.constantLong RX3 70 (2), Cond.constantLong RX3 72 (3), Cond.methodLink RX3 64 yX3_goThroughDoors, Cond.instanceMethod yX3_goThroughDoors, Cond.selects RX3 yX3_goThroughDoors yX3_goThroughDoors, Cond.code yX3_goThroughDoors cX3_goThroughDoors 6 none, Cond.fieldLink RX3 78 "WaveWalk$Net" "ledTo" "[I"]
def wsX4_mean : List Cond := .code yX4_mean cX4_mean 10 (some .long) :: ((wsX4_mean_r1 ++ (wsX4_mean_r2 ++ wsX4_mean_r3)) ++ wsX20 ++ wsX40 ++ wsX10 ++ wsX30 ++ (na_at RX4 145).filter goodWord ++ (vx_atS RX4 181 "java/lang/IllegalArgumentException" ["java/lang/RuntimeException", "java/lang/Exception"]).filter goodWord)
def wsX4_copy : List Cond := .code yX4_copy cX4_copy 5 none :: ([.classLink RX4 177 "java/lang/IllegalArgumentException", .initialized "java/lang/IllegalArgumentException", .fieldLink RX4 135 "WaveWalk$Walk" "netNumber" "I", .fieldLink RX4 97 "WaveWalk$Walk" "wave" "LWaveWalk$Wave;", .methodLink RX4 85 yX4_walkOf, .instanceMethod yX4_walkOf, .selects RX4 yX4_walkOf yX4_walkOf, .initialized RX4, .code yX4_walkOf cX4_walkOf 3 (some (.object "WaveWalk$Walk")), .classLink RX4 141 "java/util/NoSuchElementException", .initialized "java/util/NoSuchElementException", .fieldLink RX4 17 "WaveWalk" "walks" "[LWaveWalk$Walk;", .methodLink RX4 154 yX3_becomeLike, .instanceMethod yX3_becomeLike, .selects RX3 yX3_becomeLike yX3_becomeLike, .initialized RX3, .code yX3_becomeLike cX3_becomeLike 2 none, .fieldLink RX3 9 "WaveWalk$Wave" "numbers" "[J", .methodLink RX3 19 arraycopyName, .native arraycopyName, .static arraycopyName, .initialized "java/lang/System", .fieldLink RX3 15 "WaveWalk$Wave" "time" "I"] ++ wsX20 ++ wsX40 ++ wsX30 ++ (vx_atS RX4 181 "java/lang/IllegalArgumentException" ["java/lang/RuntimeException", "java/lang/Exception"]).filter goodWord ++ (na_at RX4 145).filter goodWord)
def wsX4_count : List Cond := .code yX4_count cX4_count 2 (some .int) :: ([.classLink RX4 141 "java/util/NoSuchElementException", .initialized "java/util/NoSuchElementException", .fieldLink RX4 35 "WaveWalk" "netCount" "I", .fieldLink RX4 39 "WaveWalk" "walkCount" "I"] ++ wsX40 ++ (na_at RX4 145).filter goodWord)
def wsX5_init : List Cond := .code yX5_init cX5_init 1 none :: ([.methodLink RX5 1 objectInit, .instanceMethod objectInit, .code objectInit ⟨#[0xb1]⟩ 1 none, .arrayClass .int, .fieldLink RX5 7 "WaveWalkModel" "places" "[I", .fieldLink RX5 13 "WaveWalkModel" "doors" "[I", .fieldLink RX5 16 "WaveWalkModel" "to" "[I", .arrayClass .boolean, .fieldLink RX5 19 "WaveWalkModel" "isMarked" "[Z", .fieldLink RX5 23 "WaveWalkModel" "isUsed" "[Z", .fieldLink RX5 26 "WaveWalkModel" "netOf" "[I", .fieldLink RX5 29 "WaveWalkModel" "time" "[I", .arrayClass .long, .fieldLink RX5 32 "WaveWalkModel" "wave" "[J", .fieldLink RX5 36 "WaveWalkModel" "next" "[J", .fieldLink RX5 39 "WaveWalkModel" "classes" "[I", .fieldLink RX5 42 "WaveWalkModel" "parted" "[I"] ++ wsX50)
def wsX5_thrown : List Cond := .code yX5_thrown cX5_thrown 1 (some .int) :: ([.fieldLink RX5 45 "WaveWalkModel" "thrown" "I"] ++ wsX50)
def wsX5_right : List Cond := .code yX5_right cX5_right 3 (some .boolean) :: ([.fieldLink RX5 45 "WaveWalkModel" "thrown" "I"] ++ wsX50)
def wsX5_isNet : List Cond := .code yX5_isNet cX5_isNet 2 (some .boolean) :: ([.fieldLink RX5 45 "WaveWalkModel" "thrown" "I", .fieldLink RX5 49 "WaveWalkModel" "nets" "I", .methodLink RX5 52 yX5_right, .instanceMethod yX5_right, .selects RX5 yX5_right yX5_right, .initialized RX5, .code yX5_right cX5_right 3 (some .boolean)] ++ wsX50)
def wsX5_isDoor : List Cond := .code yX5_isDoor cX5_isDoor 4 (some .boolean) :: ([.fieldLink RX5 7 "WaveWalkModel" "places" "[I", .fieldLink RX5 13 "WaveWalkModel" "doors" "[I", .methodLink RX5 52 yX5_right, .instanceMethod yX5_right, .selects RX5 yX5_right yX5_right, .initialized RX5, .code yX5_right cX5_right 3 (some .boolean), .fieldLink RX5 45 "WaveWalkModel" "thrown" "I"] ++ wsX50)
def wsX5_net : List Cond := .code yX5_net cX5_net 4 (some .int) :: ([.fieldLink RX5 45 "WaveWalkModel" "thrown" "I", .fieldLink RX5 49 "WaveWalkModel" "nets" "I", .fieldLink RX5 7 "WaveWalkModel" "places" "[I", .fieldLink RX5 13 "WaveWalkModel" "doors" "[I", .fieldLink RX5 16 "WaveWalkModel" "to" "[I"] ++ wsX50)
def wsX5_join : List Cond := .code yX5_join cX5_join 10 (some .boolean) :: ([.fieldLink RX5 23 "WaveWalkModel" "isUsed" "[Z", .fieldLink RX5 16 "WaveWalkModel" "to" "[I", .methodLink RX5 56 yX5_isNet, .instanceMethod yX5_isNet, .selects RX5 yX5_isNet yX5_isNet, .initialized RX5, .code yX5_isNet cX5_isNet 2 (some .boolean), .fieldLink RX5 45 "WaveWalkModel" "thrown" "I", .fieldLink RX5 49 "WaveWalkModel" "nets" "I", .methodLink RX5 52 yX5_right, .instanceMethod yX5_right, .selects RX5 yX5_right yX5_right, .code yX5_right cX5_right 3 (some .boolean), .methodLink RX5 60 yX5_isDoor, .instanceMethod yX5_isDoor, .selects RX5 yX5_isDoor yX5_isDoor, .code yX5_isDoor cX5_isDoor 4 (some .boolean), .fieldLink RX5 7 "WaveWalkModel" "places" "[I", .fieldLink RX5 13 "WaveWalkModel" "doors" "[I"] ++ wsX50)
def wsX5_leads : List Cond := .code yX5_leads cX5_leads 4 (some .int) :: ([.fieldLink RX5 16 "WaveWalkModel" "to" "[I", .methodLink RX5 56 yX5_isNet, .instanceMethod yX5_isNet, .selects RX5 yX5_isNet yX5_isNet, .initialized RX5, .code yX5_isNet cX5_isNet 2 (some .boolean), .fieldLink RX5 45 "WaveWalkModel" "thrown" "I", .fieldLink RX5 49 "WaveWalkModel" "nets" "I", .methodLink RX5 52 yX5_right, .instanceMethod yX5_right, .selects RX5 yX5_right yX5_right, .code yX5_right cX5_right 3 (some .boolean), .methodLink RX5 60 yX5_isDoor, .instanceMethod yX5_isDoor, .selects RX5 yX5_isDoor yX5_isDoor, .code yX5_isDoor cX5_isDoor 4 (some .boolean), .fieldLink RX5 7 "WaveWalkModel" "places" "[I", .fieldLink RX5 13 "WaveWalkModel" "doors" "[I"] ++ wsX50)
def wsX5_mark : List Cond := .code yX5_mark cX5_mark 4 (some .boolean) :: ([.fieldLink RX5 7 "WaveWalkModel" "places" "[I", .fieldLink RX5 23 "WaveWalkModel" "isUsed" "[Z", .fieldLink RX5 19 "WaveWalkModel" "isMarked" "[Z", .methodLink RX5 56 yX5_isNet, .instanceMethod yX5_isNet, .selects RX5 yX5_isNet yX5_isNet, .initialized RX5, .code yX5_isNet cX5_isNet 2 (some .boolean), .fieldLink RX5 45 "WaveWalkModel" "thrown" "I", .fieldLink RX5 49 "WaveWalkModel" "nets" "I", .methodLink RX5 52 yX5_right, .instanceMethod yX5_right, .selects RX5 yX5_right yX5_right, .code yX5_right cX5_right 3 (some .boolean)] ++ wsX50)
def wsX5_many : List Cond := .code yX5_many cX5_many 6 (some .int) :: ([.fieldLink RX5 13 "WaveWalkModel" "doors" "[I", .fieldLink RX5 39 "WaveWalkModel" "classes" "[I", .fieldLink RX5 16 "WaveWalkModel" "to" "[I"] ++ wsX50)
def wsX5_areAlike : List Cond := .code yX5_areAlike cX5_areAlike 5 (some .boolean) :: ([.fieldLink RX5 39 "WaveWalkModel" "classes" "[I", .fieldLink RX5 7 "WaveWalkModel" "places" "[I", .methodLink RX5 64 yX5_many, .instanceMethod yX5_many, .selects RX5 yX5_many yX5_many, .initialized RX5, .code yX5_many cX5_many 6 (some .int), .fieldLink RX5 13 "WaveWalkModel" "doors" "[I", .fieldLink RX5 16 "WaveWalkModel" "to" "[I"] ++ wsX50)
def wsX5_finds : List Cond := .code yX5_finds cX5_finds 6 (some .int) :: ([.fieldLink RX5 7 "WaveWalkModel" "places" "[I", .fieldLink RX5 19 "WaveWalkModel" "isMarked" "[Z", .fieldLink RX5 39 "WaveWalkModel" "classes" "[I", .fieldLink RX5 42 "WaveWalkModel" "parted" "[I", .methodLink RX5 68 yX5_areAlike, .instanceMethod yX5_areAlike, .selects RX5 yX5_areAlike yX5_areAlike, .initialized RX5, .code yX5_areAlike cX5_areAlike 5 (some .boolean), .methodLink RX5 64 yX5_many, .instanceMethod yX5_many, .selects RX5 yX5_many yX5_many, .code yX5_many cX5_many 6 (some .int), .fieldLink RX5 13 "WaveWalkModel" "doors" "[I", .fieldLink RX5 16 "WaveWalkModel" "to" "[I"] ++ wsX50)
def wsX5_alike_r1 : List Cond := [Cond.fieldLink RX5 7 "WaveWalkModel" "places" "[I", Cond.fieldLink RX5 39 "WaveWalkModel" "classes" "[I", Cond.methodLink RX5 56 yX5_isNet, Cond.instanceMethod yX5_isNet, Cond.selects RX5 yX5_isNet yX5_isNet, Cond.initialized RX5, Cond.code yX5_isNet cX5_isNet 2 (some .boolean), Cond.fieldLink RX5 45 "WaveWalkModel" "thrown" "I", Cond.fieldLink RX5 49 "WaveWalkModel" "nets" "I", Cond.methodLink RX5 52 yX5_right, Cond.instanceMethod yX5_right, Cond.selects RX5 yX5_right yX5_right, Cond.code yX5_right cX5_right 3 (some .boolean), Cond.methodLink RX5 71 yX5_finds, Cond.instanceMethod yX5_finds, Cond.selects RX5 yX5_finds yX5_finds, Cond.code yX5_finds cX5_finds 6 (some .int), Cond.fieldLink RX5 19 "WaveWalkModel" "isMarked" "[Z", Cond.fieldLink RX5 42 "WaveWalkModel" "parted" "[I", Cond.methodLink RX5 68 yX5_areAlike, Cond.instanceMethod yX5_areAlike, Cond.selects RX5 yX5_areAlike yX5_areAlike, Cond.code yX5_areAlike cX5_areAlike 5 (some .boolean), Cond.methodLink RX5 64 yX5_many]
def wsX5_alike_r2 : List Cond := [Cond.instanceMethod yX5_many, Cond.selects RX5 yX5_many yX5_many, Cond.code yX5_many cX5_many 6 (some .int), Cond.fieldLink RX5 13 "WaveWalkModel" "doors" "[I", Cond.fieldLink RX5 16 "WaveWalkModel" "to" "[I"]
def wsX5_alike : List Cond := .code yX5_alike cX5_alike 4 (some .int) :: ((wsX5_alike_r1 ++ wsX5_alike_r2) ++ wsX50)
def wsX5_isWalk : List Cond := .code yX5_isWalk cX5_isWalk 2 (some .boolean) :: ([.fieldLink RX5 45 "WaveWalkModel" "thrown" "I", .fieldLink RX5 75 "WaveWalkModel" "walks" "I", .methodLink RX5 52 yX5_right, .instanceMethod yX5_right, .selects RX5 yX5_right yX5_right, .initialized RX5, .code yX5_right cX5_right 3 (some .boolean)] ++ wsX50)
def wsX5_isIn : List Cond := .code yX5_isIn cX5_isIn 3 (some .boolean) :: ([.fieldLink RX5 7 "WaveWalkModel" "places" "[I", .fieldLink RX5 26 "WaveWalkModel" "netOf" "[I", .methodLink RX5 52 yX5_right, .instanceMethod yX5_right, .selects RX5 yX5_right yX5_right, .initialized RX5, .code yX5_right cX5_right 3 (some .boolean), .fieldLink RX5 45 "WaveWalkModel" "thrown" "I"] ++ wsX50)
def wsX5_walk : List Cond := .code yX5_walk cX5_walk 2 (some .int) :: ([.fieldLink RX5 75 "WaveWalkModel" "walks" "I", .fieldLink RX5 26 "WaveWalkModel" "netOf" "[I", .fieldLink RX5 23 "WaveWalkModel" "isUsed" "[Z", .methodLink RX5 56 yX5_isNet, .instanceMethod yX5_isNet, .selects RX5 yX5_isNet yX5_isNet, .initialized RX5, .code yX5_isNet cX5_isNet 2 (some .boolean), .fieldLink RX5 45 "WaveWalkModel" "thrown" "I", .fieldLink RX5 49 "WaveWalkModel" "nets" "I", .methodLink RX5 52 yX5_right, .instanceMethod yX5_right, .selects RX5 yX5_right yX5_right, .code yX5_right cX5_right 3 (some .boolean)] ++ wsX50)
def wsX5_scale : List Cond := .code yX5_scale cX5_scale 3 (some .int) :: ([.fieldLink RX5 13 "WaveWalkModel" "doors" "[I", .fieldLink RX5 26 "WaveWalkModel" "netOf" "[I"] ++ wsX50)
def wsX5_isSmall : List Cond := .code yX5_isSmall cX5_isSmall 2 (some .boolean) :: ([.constantLong RX5 78 (-100), .constantLong RX5 80 (100)])
def wsX5_set_r1 : List Cond := [Cond.fieldLink RX5 26 "WaveWalkModel" "netOf" "[I", Cond.fieldLink RX5 32 "WaveWalkModel" "wave" "[J", Cond.fieldLink RX5 29 "WaveWalkModel" "time" "[I", Cond.methodLink RX5 82 yX5_isWalk, Cond.instanceMethod yX5_isWalk, Cond.selects RX5 yX5_isWalk yX5_isWalk, Cond.initialized RX5, Cond.code yX5_isWalk cX5_isWalk 2 (some .boolean), Cond.fieldLink RX5 45 "WaveWalkModel" "thrown" "I", Cond.fieldLink RX5 75 "WaveWalkModel" "walks" "I", Cond.methodLink RX5 52 yX5_right, Cond.instanceMethod yX5_right, Cond.selects RX5 yX5_right yX5_right, Cond.code yX5_right cX5_right 3 (some .boolean), Cond.methodLink RX5 60 yX5_isDoor, Cond.instanceMethod yX5_isDoor, Cond.selects RX5 yX5_isDoor yX5_isDoor, Cond.code yX5_isDoor cX5_isDoor 4 (some .boolean), Cond.fieldLink RX5 7 "WaveWalkModel" "places" "[I", Cond.fieldLink RX5 13 "WaveWalkModel" "doors" "[I", Cond.methodLink RX5 85 yX5_isSmall, Cond.static yX5_isSmall, Cond.code yX5_isSmall cX5_isSmall 2 (some .boolean), Cond.constantLong RX5 78 (-100)]
def wsX5_set_r2 : List Cond := [Cond.constantLong RX5 80 (100)]
def wsX5_set : List Cond := .code yX5_set cX5_set 6 (some .boolean) :: ((wsX5_set_r1 ++ wsX5_set_r2) ++ wsX50)
def wsX5_spread : List Cond := .code yX5_spread cX5_spread 5 none :: ([.fieldLink RX5 7 "WaveWalkModel" "places" "[I", .fieldLink RX5 26 "WaveWalkModel" "netOf" "[I", .fieldLink RX5 13 "WaveWalkModel" "doors" "[I", .fieldLink RX5 32 "WaveWalkModel" "wave" "[J", .fieldLink RX5 29 "WaveWalkModel" "time" "[I", .methodLink RX5 82 yX5_isWalk, .instanceMethod yX5_isWalk, .selects RX5 yX5_isWalk yX5_isWalk, .initialized RX5, .code yX5_isWalk cX5_isWalk 2 (some .boolean), .fieldLink RX5 45 "WaveWalkModel" "thrown" "I", .fieldLink RX5 75 "WaveWalkModel" "walks" "I", .methodLink RX5 52 yX5_right, .instanceMethod yX5_right, .selects RX5 yX5_right yX5_right, .code yX5_right cX5_right 3 (some .boolean), .methodLink RX5 85 yX5_isSmall, .static yX5_isSmall, .code yX5_isSmall cX5_isSmall 2 (some .boolean), .constantLong RX5 78 (-100), .constantLong RX5 80 (100)] ++ wsX50)
def wsX5_shareOf : List Cond := .code yX5_shareOf cX5_shareOf 6 (some .long) :: ([.fieldLink RX5 32 "WaveWalkModel" "wave" "[J"] ++ wsX50)
def wsX5_weight : List Cond := .code yX5_weight cX5_weight 5 (some .long) :: ([.methodLink RX5 89 yX5_shareOf, .instanceMethod yX5_shareOf, .selects RX5 yX5_shareOf yX5_shareOf, .initialized RX5, .code yX5_shareOf cX5_shareOf 6 (some .long), .fieldLink RX5 32 "WaveWalkModel" "wave" "[J"] ++ wsX50)
def wsX5_goesOn : List Cond := .code yX5_goesOn cX5_goesOn 2 (some .boolean) :: ([.fieldLink RX5 29 "WaveWalkModel" "time" "[I", .constantLong RX5 97 (4611686018427387904), .methodLink RX5 93 yX5_weight, .instanceMethod yX5_weight, .selects RX5 yX5_weight yX5_weight, .initialized RX5, .code yX5_weight cX5_weight 5 (some .long), .methodLink RX5 89 yX5_shareOf, .instanceMethod yX5_shareOf, .selects RX5 yX5_shareOf yX5_shareOf, .code yX5_shareOf cX5_shareOf 6 (some .long), .fieldLink RX5 32 "WaveWalkModel" "wave" "[J", .methodLink RX5 99 yX5_scale, .instanceMethod yX5_scale, .selects RX5 yX5_scale yX5_scale, .code yX5_scale cX5_scale 3 (some .int), .fieldLink RX5 13 "WaveWalkModel" "doors" "[I", .fieldLink RX5 26 "WaveWalkModel" "netOf" "[I"] ++ wsX50)
def wsX5_turns : List Cond := .code yX5_turns cX5_turns 10 none :: ([.fieldLink RX5 26 "WaveWalkModel" "netOf" "[I", .fieldLink RX5 13 "WaveWalkModel" "doors" "[I", .fieldLink RX5 7 "WaveWalkModel" "places" "[I", .fieldLink RX5 32 "WaveWalkModel" "wave" "[J", .constantLong RX5 102 (2), .constantLong RX5 104 (3)] ++ wsX50)
def wsX5_signs : List Cond := .code yX5_signs cX5_signs 4 none :: ([.fieldLink RX5 7 "WaveWalkModel" "places" "[I", .fieldLink RX5 26 "WaveWalkModel" "netOf" "[I", .fieldLink RX5 19 "WaveWalkModel" "isMarked" "[Z", .fieldLink RX5 32 "WaveWalkModel" "wave" "[J"] ++ wsX50)
def wsX5_goes : List Cond := .code yX5_goes cX5_goes 3 none :: ([.fieldLink RX5 36 "WaveWalkModel" "next" "[J", .fieldLink RX5 32 "WaveWalkModel" "wave" "[J", .fieldLink RX5 16 "WaveWalkModel" "to" "[I", .fieldLink RX5 26 "WaveWalkModel" "netOf" "[I"] ++ wsX50)
def wsX5_steps : List Cond := .code yX5_steps cX5_steps 2 none :: ([.fieldLink RX5 29 "WaveWalkModel" "time" "[I", .methodLink RX5 106 yX5_signs, .instanceMethod yX5_signs, .selects RX5 yX5_signs yX5_signs, .initialized RX5, .code yX5_signs cX5_signs 4 none, .fieldLink RX5 7 "WaveWalkModel" "places" "[I", .fieldLink RX5 26 "WaveWalkModel" "netOf" "[I", .fieldLink RX5 19 "WaveWalkModel" "isMarked" "[Z", .fieldLink RX5 32 "WaveWalkModel" "wave" "[J", .methodLink RX5 110 yX5_turns, .instanceMethod yX5_turns, .selects RX5 yX5_turns yX5_turns, .code yX5_turns cX5_turns 10 none, .fieldLink RX5 13 "WaveWalkModel" "doors" "[I", .constantLong RX5 102 (2), .constantLong RX5 104 (3), .methodLink RX5 113 yX5_goes, .instanceMethod yX5_goes, .selects RX5 yX5_goes yX5_goes, .code yX5_goes cX5_goes 3 none, .fieldLink RX5 36 "WaveWalkModel" "next" "[J", .fieldLink RX5 16 "WaveWalkModel" "to" "[I"] ++ wsX50)
def wsX5_copies : List Cond := .code yX5_copies cX5_copies 4 none :: ([.fieldLink RX5 26 "WaveWalkModel" "netOf" "[I", .fieldLink RX5 29 "WaveWalkModel" "time" "[I", .fieldLink RX5 32 "WaveWalkModel" "wave" "[J"] ++ wsX50)
def wsX5_isMany : List Cond := .code yX5_isMany cX5_isMany 1 (some .boolean) :: ([])
def wsX5_step_r1 : List Cond := [Cond.fieldLink RX5 29 "WaveWalkModel" "time" "[I", Cond.methodLink RX5 82 yX5_isWalk, Cond.instanceMethod yX5_isWalk, Cond.selects RX5 yX5_isWalk yX5_isWalk, Cond.initialized RX5, Cond.code yX5_isWalk cX5_isWalk 2 (some .boolean), Cond.fieldLink RX5 45 "WaveWalkModel" "thrown" "I", Cond.fieldLink RX5 75 "WaveWalkModel" "walks" "I", Cond.methodLink RX5 52 yX5_right, Cond.instanceMethod yX5_right, Cond.selects RX5 yX5_right yX5_right, Cond.code yX5_right cX5_right 3 (some .boolean), Cond.methodLink RX5 116 yX5_isMany, Cond.static yX5_isMany, Cond.code yX5_isMany cX5_isMany 1 (some .boolean), Cond.methodLink RX5 93 yX5_weight, Cond.instanceMethod yX5_weight, Cond.selects RX5 yX5_weight yX5_weight, Cond.code yX5_weight cX5_weight 5 (some .long), Cond.methodLink RX5 89 yX5_shareOf, Cond.instanceMethod yX5_shareOf, Cond.selects RX5 yX5_shareOf yX5_shareOf, Cond.code yX5_shareOf cX5_shareOf 6 (some .long), Cond.fieldLink RX5 32 "WaveWalkModel" "wave" "[J"]
def wsX5_step_r2 : List Cond := [Cond.methodLink RX5 119 yX5_copies, Cond.instanceMethod yX5_copies, Cond.selects RX5 yX5_copies yX5_copies, Cond.code yX5_copies cX5_copies 4 none, Cond.fieldLink RX5 26 "WaveWalkModel" "netOf" "[I", Cond.methodLink RX5 123 yX5_goesOn, Cond.instanceMethod yX5_goesOn, Cond.selects RX5 yX5_goesOn yX5_goesOn, Cond.code yX5_goesOn cX5_goesOn 2 (some .boolean), Cond.constantLong RX5 97 (4611686018427387904), Cond.methodLink RX5 99 yX5_scale, Cond.instanceMethod yX5_scale, Cond.selects RX5 yX5_scale yX5_scale, Cond.code yX5_scale cX5_scale 3 (some .int), Cond.fieldLink RX5 13 "WaveWalkModel" "doors" "[I", Cond.methodLink RX5 126 yX5_steps, Cond.instanceMethod yX5_steps, Cond.selects RX5 yX5_steps yX5_steps, Cond.code yX5_steps cX5_steps 2 none, Cond.methodLink RX5 106 yX5_signs, Cond.instanceMethod yX5_signs, Cond.selects RX5 yX5_signs yX5_signs, Cond.code yX5_signs cX5_signs 4 none, Cond.fieldLink RX5 7 "WaveWalkModel" "places" "[I"]
def wsX5_step_r3 : List Cond := [Cond.fieldLink RX5 19 "WaveWalkModel" "isMarked" "[Z", Cond.methodLink RX5 110 yX5_turns, Cond.instanceMethod yX5_turns, Cond.selects RX5 yX5_turns yX5_turns, Cond.code yX5_turns cX5_turns 10 none, Cond.constantLong RX5 102 (2), Cond.constantLong RX5 104 (3), Cond.methodLink RX5 113 yX5_goes, Cond.instanceMethod yX5_goes, Cond.selects RX5 yX5_goes yX5_goes, Cond.code yX5_goes cX5_goes 3 none, Cond.fieldLink RX5 36 "WaveWalkModel" "next" "[J", Cond.fieldLink RX5 16 "WaveWalkModel" "to" "[I"]
def wsX5_step : List Cond := .code yX5_step cX5_step 4 (some .int) :: ((wsX5_step_r1 ++ (wsX5_step_r2 ++ wsX5_step_r3)) ++ wsX50)
def wsX5_back_r1 : List Cond := [Cond.fieldLink RX5 29 "WaveWalkModel" "time" "[I", Cond.fieldLink RX5 32 "WaveWalkModel" "wave" "[J", Cond.methodLink RX5 82 yX5_isWalk, Cond.instanceMethod yX5_isWalk, Cond.selects RX5 yX5_isWalk yX5_isWalk, Cond.initialized RX5, Cond.code yX5_isWalk cX5_isWalk 2 (some .boolean), Cond.fieldLink RX5 45 "WaveWalkModel" "thrown" "I", Cond.fieldLink RX5 75 "WaveWalkModel" "walks" "I", Cond.methodLink RX5 52 yX5_right, Cond.instanceMethod yX5_right, Cond.selects RX5 yX5_right yX5_right, Cond.code yX5_right cX5_right 3 (some .boolean), Cond.methodLink RX5 116 yX5_isMany, Cond.static yX5_isMany, Cond.code yX5_isMany cX5_isMany 1 (some .boolean), Cond.methodLink RX5 113 yX5_goes, Cond.instanceMethod yX5_goes, Cond.selects RX5 yX5_goes yX5_goes, Cond.code yX5_goes cX5_goes 3 none, Cond.fieldLink RX5 36 "WaveWalkModel" "next" "[J", Cond.fieldLink RX5 16 "WaveWalkModel" "to" "[I", Cond.fieldLink RX5 26 "WaveWalkModel" "netOf" "[I", Cond.methodLink RX5 110 yX5_turns]
def wsX5_back_r2 : List Cond := [Cond.instanceMethod yX5_turns, Cond.selects RX5 yX5_turns yX5_turns, Cond.code yX5_turns cX5_turns 10 none, Cond.fieldLink RX5 13 "WaveWalkModel" "doors" "[I", Cond.fieldLink RX5 7 "WaveWalkModel" "places" "[I", Cond.constantLong RX5 102 (2), Cond.constantLong RX5 104 (3), Cond.methodLink RX5 99 yX5_scale, Cond.instanceMethod yX5_scale, Cond.selects RX5 yX5_scale yX5_scale, Cond.code yX5_scale cX5_scale 3 (some .int), Cond.methodLink RX5 106 yX5_signs, Cond.instanceMethod yX5_signs, Cond.selects RX5 yX5_signs yX5_signs, Cond.code yX5_signs cX5_signs 4 none, Cond.fieldLink RX5 19 "WaveWalkModel" "isMarked" "[Z"]
def wsX5_back : List Cond := .code yX5_back cX5_back 5 (some .int) :: ((wsX5_back_r1 ++ wsX5_back_r2) ++ wsX50)
def wsX5_at : List Cond := .code yX5_at cX5_at 4 (some .long) :: ([.fieldLink RX5 26 "WaveWalkModel" "netOf" "[I", .fieldLink RX5 32 "WaveWalkModel" "wave" "[J", .methodLink RX5 82 yX5_isWalk, .instanceMethod yX5_isWalk, .selects RX5 yX5_isWalk yX5_isWalk, .initialized RX5, .code yX5_isWalk cX5_isWalk 2 (some .boolean), .fieldLink RX5 45 "WaveWalkModel" "thrown" "I", .fieldLink RX5 75 "WaveWalkModel" "walks" "I", .methodLink RX5 52 yX5_right, .instanceMethod yX5_right, .selects RX5 yX5_right yX5_right, .code yX5_right cX5_right 3 (some .boolean), .methodLink RX5 60 yX5_isDoor, .instanceMethod yX5_isDoor, .selects RX5 yX5_isDoor yX5_isDoor, .code yX5_isDoor cX5_isDoor 4 (some .boolean), .fieldLink RX5 7 "WaveWalkModel" "places" "[I", .fieldLink RX5 13 "WaveWalkModel" "doors" "[I"] ++ wsX50)
def wsX5_share_r1 : List Cond := [Cond.methodLink RX5 82 yX5_isWalk, Cond.instanceMethod yX5_isWalk, Cond.selects RX5 yX5_isWalk yX5_isWalk, Cond.initialized RX5, Cond.code yX5_isWalk cX5_isWalk 2 (some .boolean), Cond.fieldLink RX5 45 "WaveWalkModel" "thrown" "I", Cond.fieldLink RX5 75 "WaveWalkModel" "walks" "I", Cond.methodLink RX5 52 yX5_right, Cond.instanceMethod yX5_right, Cond.selects RX5 yX5_right yX5_right, Cond.code yX5_right cX5_right 3 (some .boolean), Cond.methodLink RX5 93 yX5_weight, Cond.instanceMethod yX5_weight, Cond.selects RX5 yX5_weight yX5_weight, Cond.code yX5_weight cX5_weight 5 (some .long), Cond.methodLink RX5 89 yX5_shareOf, Cond.instanceMethod yX5_shareOf, Cond.selects RX5 yX5_shareOf yX5_shareOf, Cond.code yX5_shareOf cX5_shareOf 6 (some .long), Cond.fieldLink RX5 32 "WaveWalkModel" "wave" "[J", Cond.methodLink RX5 129 yX5_isIn, Cond.instanceMethod yX5_isIn, Cond.selects RX5 yX5_isIn yX5_isIn, Cond.code yX5_isIn cX5_isIn 3 (some .boolean)]
def wsX5_share_r2 : List Cond := [Cond.fieldLink RX5 7 "WaveWalkModel" "places" "[I", Cond.fieldLink RX5 26 "WaveWalkModel" "netOf" "[I"]
def wsX5_share : List Cond := .code yX5_share cX5_share 3 (some .long) :: ((wsX5_share_r1 ++ wsX5_share_r2) ++ wsX50)
def wsX5_of : List Cond := .code yX5_of cX5_of 3 (some .int) :: ([.fieldLink RX5 26 "WaveWalkModel" "netOf" "[I", .fieldLink RX5 29 "WaveWalkModel" "time" "[I", .methodLink RX5 82 yX5_isWalk, .instanceMethod yX5_isWalk, .selects RX5 yX5_isWalk yX5_isWalk, .initialized RX5, .code yX5_isWalk cX5_isWalk 2 (some .boolean), .fieldLink RX5 45 "WaveWalkModel" "thrown" "I", .fieldLink RX5 75 "WaveWalkModel" "walks" "I", .methodLink RX5 52 yX5_right, .instanceMethod yX5_right, .selects RX5 yX5_right yX5_right, .code yX5_right cX5_right 3 (some .boolean), .methodLink RX5 99 yX5_scale, .instanceMethod yX5_scale, .selects RX5 yX5_scale yX5_scale, .code yX5_scale cX5_scale 3 (some .int), .fieldLink RX5 13 "WaveWalkModel" "doors" "[I"] ++ wsX50)
def wsX5_arrives_r1 : List Cond := [Cond.methodLink RX5 82 yX5_isWalk, Cond.instanceMethod yX5_isWalk, Cond.selects RX5 yX5_isWalk yX5_isWalk, Cond.initialized RX5, Cond.code yX5_isWalk cX5_isWalk 2 (some .boolean), Cond.fieldLink RX5 45 "WaveWalkModel" "thrown" "I", Cond.fieldLink RX5 75 "WaveWalkModel" "walks" "I", Cond.methodLink RX5 52 yX5_right, Cond.instanceMethod yX5_right, Cond.selects RX5 yX5_right yX5_right, Cond.code yX5_right cX5_right 3 (some .boolean), Cond.methodLink RX5 129 yX5_isIn, Cond.instanceMethod yX5_isIn, Cond.selects RX5 yX5_isIn yX5_isIn, Cond.code yX5_isIn cX5_isIn 3 (some .boolean), Cond.fieldLink RX5 7 "WaveWalkModel" "places" "[I", Cond.fieldLink RX5 26 "WaveWalkModel" "netOf" "[I", Cond.methodLink RX5 116 yX5_isMany, Cond.static yX5_isMany, Cond.code yX5_isMany cX5_isMany 1 (some .boolean), Cond.methodLink RX5 119 yX5_copies, Cond.instanceMethod yX5_copies, Cond.selects RX5 yX5_copies yX5_copies, Cond.code yX5_copies cX5_copies 4 none]
def wsX5_arrives_r2 : List Cond := [Cond.fieldLink RX5 29 "WaveWalkModel" "time" "[I", Cond.fieldLink RX5 32 "WaveWalkModel" "wave" "[J", Cond.methodLink RX5 89 yX5_shareOf, Cond.instanceMethod yX5_shareOf, Cond.selects RX5 yX5_shareOf yX5_shareOf, Cond.code yX5_shareOf cX5_shareOf 6 (some .long), Cond.methodLink RX5 93 yX5_weight, Cond.instanceMethod yX5_weight, Cond.selects RX5 yX5_weight yX5_weight, Cond.code yX5_weight cX5_weight 5 (some .long), Cond.methodLink RX5 123 yX5_goesOn, Cond.instanceMethod yX5_goesOn, Cond.selects RX5 yX5_goesOn yX5_goesOn, Cond.code yX5_goesOn cX5_goesOn 2 (some .boolean), Cond.constantLong RX5 97 (4611686018427387904), Cond.methodLink RX5 99 yX5_scale, Cond.instanceMethod yX5_scale, Cond.selects RX5 yX5_scale yX5_scale, Cond.code yX5_scale cX5_scale 3 (some .int), Cond.fieldLink RX5 13 "WaveWalkModel" "doors" "[I", Cond.methodLink RX5 126 yX5_steps, Cond.instanceMethod yX5_steps, Cond.selects RX5 yX5_steps yX5_steps, Cond.code yX5_steps cX5_steps 2 none]
def wsX5_arrives_r3 : List Cond := [Cond.methodLink RX5 106 yX5_signs, Cond.instanceMethod yX5_signs, Cond.selects RX5 yX5_signs yX5_signs, Cond.code yX5_signs cX5_signs 4 none, Cond.fieldLink RX5 19 "WaveWalkModel" "isMarked" "[Z", Cond.methodLink RX5 110 yX5_turns, Cond.instanceMethod yX5_turns, Cond.selects RX5 yX5_turns yX5_turns, Cond.code yX5_turns cX5_turns 10 none, Cond.constantLong RX5 102 (2), Cond.constantLong RX5 104 (3), Cond.methodLink RX5 113 yX5_goes, Cond.instanceMethod yX5_goes, Cond.selects RX5 yX5_goes yX5_goes, Cond.code yX5_goes cX5_goes 3 none, Cond.fieldLink RX5 36 "WaveWalkModel" "next" "[J", Cond.fieldLink RX5 16 "WaveWalkModel" "to" "[I"]
def wsX5_arrives : List Cond := .code yX5_arrives cX5_arrives 7 (some .int) :: ((wsX5_arrives_r1 ++ (wsX5_arrives_r2 ++ wsX5_arrives_r3)) ++ wsX50)
def wsX5_isMultiple : List Cond := .code yX5_isMultiple cX5_isMultiple 6 (some .boolean) :: ([.fieldLink RX5 32 "WaveWalkModel" "wave" "[J"] ++ wsX50)
def wsX5_returns_r1 : List Cond := [Cond.methodLink RX5 82 yX5_isWalk, Cond.instanceMethod yX5_isWalk, Cond.selects RX5 yX5_isWalk yX5_isWalk, Cond.initialized RX5, Cond.code yX5_isWalk cX5_isWalk 2 (some .boolean), Cond.fieldLink RX5 45 "WaveWalkModel" "thrown" "I", Cond.fieldLink RX5 75 "WaveWalkModel" "walks" "I", Cond.methodLink RX5 52 yX5_right, Cond.instanceMethod yX5_right, Cond.selects RX5 yX5_right yX5_right, Cond.code yX5_right cX5_right 3 (some .boolean), Cond.methodLink RX5 116 yX5_isMany, Cond.static yX5_isMany, Cond.code yX5_isMany cX5_isMany 1 (some .boolean), Cond.methodLink RX5 93 yX5_weight, Cond.instanceMethod yX5_weight, Cond.selects RX5 yX5_weight yX5_weight, Cond.code yX5_weight cX5_weight 5 (some .long), Cond.methodLink RX5 89 yX5_shareOf, Cond.instanceMethod yX5_shareOf, Cond.selects RX5 yX5_shareOf yX5_shareOf, Cond.code yX5_shareOf cX5_shareOf 6 (some .long), Cond.fieldLink RX5 32 "WaveWalkModel" "wave" "[J", Cond.methodLink RX5 119 yX5_copies]
def wsX5_returns_r2 : List Cond := [Cond.instanceMethod yX5_copies, Cond.selects RX5 yX5_copies yX5_copies, Cond.code yX5_copies cX5_copies 4 none, Cond.fieldLink RX5 26 "WaveWalkModel" "netOf" "[I", Cond.fieldLink RX5 29 "WaveWalkModel" "time" "[I", Cond.methodLink RX5 123 yX5_goesOn, Cond.instanceMethod yX5_goesOn, Cond.selects RX5 yX5_goesOn yX5_goesOn, Cond.code yX5_goesOn cX5_goesOn 2 (some .boolean), Cond.constantLong RX5 97 (4611686018427387904), Cond.methodLink RX5 99 yX5_scale, Cond.instanceMethod yX5_scale, Cond.selects RX5 yX5_scale yX5_scale, Cond.code yX5_scale cX5_scale 3 (some .int), Cond.fieldLink RX5 13 "WaveWalkModel" "doors" "[I", Cond.methodLink RX5 126 yX5_steps, Cond.instanceMethod yX5_steps, Cond.selects RX5 yX5_steps yX5_steps, Cond.code yX5_steps cX5_steps 2 none, Cond.methodLink RX5 106 yX5_signs, Cond.instanceMethod yX5_signs, Cond.selects RX5 yX5_signs yX5_signs, Cond.code yX5_signs cX5_signs 4 none, Cond.fieldLink RX5 7 "WaveWalkModel" "places" "[I"]
def wsX5_returns_r3 : List Cond := [Cond.fieldLink RX5 19 "WaveWalkModel" "isMarked" "[Z", Cond.methodLink RX5 110 yX5_turns, Cond.instanceMethod yX5_turns, Cond.selects RX5 yX5_turns yX5_turns, Cond.code yX5_turns cX5_turns 10 none, Cond.constantLong RX5 102 (2), Cond.constantLong RX5 104 (3), Cond.methodLink RX5 113 yX5_goes, Cond.instanceMethod yX5_goes, Cond.selects RX5 yX5_goes yX5_goes, Cond.code yX5_goes cX5_goes 3 none, Cond.fieldLink RX5 36 "WaveWalkModel" "next" "[J", Cond.fieldLink RX5 16 "WaveWalkModel" "to" "[I", Cond.methodLink RX5 133 yX5_isMultiple, Cond.instanceMethod yX5_isMultiple, Cond.selects RX5 yX5_isMultiple yX5_isMultiple, Cond.code yX5_isMultiple cX5_isMultiple 6 (some .boolean)]
def wsX5_returns : List Cond := .code yX5_returns cX5_returns 4 (some .int) :: ((wsX5_returns_r1 ++ (wsX5_returns_r2 ++ wsX5_returns_r3)) ++ wsX50)
def wsX5_marked : List Cond := .code yX5_marked cX5_marked 5 (some .long) :: ([.fieldLink RX5 7 "WaveWalkModel" "places" "[I", .fieldLink RX5 26 "WaveWalkModel" "netOf" "[I", .fieldLink RX5 19 "WaveWalkModel" "isMarked" "[Z", .methodLink RX5 89 yX5_shareOf, .instanceMethod yX5_shareOf, .selects RX5 yX5_shareOf yX5_shareOf, .initialized RX5, .code yX5_shareOf cX5_shareOf 6 (some .long), .fieldLink RX5 32 "WaveWalkModel" "wave" "[J"] ++ wsX50)
def wsX5_best_r1 : List Cond := [Cond.methodLink RX5 82 yX5_isWalk, Cond.instanceMethod yX5_isWalk, Cond.selects RX5 yX5_isWalk yX5_isWalk, Cond.initialized RX5, Cond.code yX5_isWalk cX5_isWalk 2 (some .boolean), Cond.fieldLink RX5 45 "WaveWalkModel" "thrown" "I", Cond.fieldLink RX5 75 "WaveWalkModel" "walks" "I", Cond.methodLink RX5 52 yX5_right, Cond.instanceMethod yX5_right, Cond.selects RX5 yX5_right yX5_right, Cond.code yX5_right cX5_right 3 (some .boolean), Cond.methodLink RX5 116 yX5_isMany, Cond.static yX5_isMany, Cond.code yX5_isMany cX5_isMany 1 (some .boolean), Cond.methodLink RX5 93 yX5_weight, Cond.instanceMethod yX5_weight, Cond.selects RX5 yX5_weight yX5_weight, Cond.code yX5_weight cX5_weight 5 (some .long), Cond.methodLink RX5 89 yX5_shareOf, Cond.instanceMethod yX5_shareOf, Cond.selects RX5 yX5_shareOf yX5_shareOf, Cond.code yX5_shareOf cX5_shareOf 6 (some .long), Cond.fieldLink RX5 32 "WaveWalkModel" "wave" "[J", Cond.methodLink RX5 119 yX5_copies]
def wsX5_best_r2 : List Cond := [Cond.instanceMethod yX5_copies, Cond.selects RX5 yX5_copies yX5_copies, Cond.code yX5_copies cX5_copies 4 none, Cond.fieldLink RX5 26 "WaveWalkModel" "netOf" "[I", Cond.fieldLink RX5 29 "WaveWalkModel" "time" "[I", Cond.methodLink RX5 136 yX5_marked, Cond.instanceMethod yX5_marked, Cond.selects RX5 yX5_marked yX5_marked, Cond.code yX5_marked cX5_marked 5 (some .long), Cond.fieldLink RX5 7 "WaveWalkModel" "places" "[I", Cond.fieldLink RX5 19 "WaveWalkModel" "isMarked" "[Z", Cond.methodLink RX5 123 yX5_goesOn, Cond.instanceMethod yX5_goesOn, Cond.selects RX5 yX5_goesOn yX5_goesOn, Cond.code yX5_goesOn cX5_goesOn 2 (some .boolean), Cond.constantLong RX5 97 (4611686018427387904), Cond.methodLink RX5 99 yX5_scale, Cond.instanceMethod yX5_scale, Cond.selects RX5 yX5_scale yX5_scale, Cond.code yX5_scale cX5_scale 3 (some .int), Cond.fieldLink RX5 13 "WaveWalkModel" "doors" "[I", Cond.methodLink RX5 126 yX5_steps, Cond.instanceMethod yX5_steps, Cond.selects RX5 yX5_steps yX5_steps]
def wsX5_best_r3 : List Cond := [Cond.code yX5_steps cX5_steps 2 none, Cond.methodLink RX5 106 yX5_signs, Cond.instanceMethod yX5_signs, Cond.selects RX5 yX5_signs yX5_signs, Cond.code yX5_signs cX5_signs 4 none, Cond.methodLink RX5 110 yX5_turns, Cond.instanceMethod yX5_turns, Cond.selects RX5 yX5_turns yX5_turns, Cond.code yX5_turns cX5_turns 10 none, Cond.constantLong RX5 102 (2), Cond.constantLong RX5 104 (3), Cond.methodLink RX5 113 yX5_goes, Cond.instanceMethod yX5_goes, Cond.selects RX5 yX5_goes yX5_goes, Cond.code yX5_goes cX5_goes 3 none, Cond.fieldLink RX5 36 "WaveWalkModel" "next" "[J", Cond.fieldLink RX5 16 "WaveWalkModel" "to" "[I"]
def wsX5_best : List Cond := .code yX5_best cX5_best 7 (some .int) :: ((wsX5_best_r1 ++ (wsX5_best_r2 ++ wsX5_best_r3)) ++ wsX50)
def wsX5_mean_r1 : List Cond := [Cond.constantLong RX5 139 (-1), Cond.constantLong RX5 97 (4611686018427387904), Cond.methodLink RX5 82 yX5_isWalk, Cond.instanceMethod yX5_isWalk, Cond.selects RX5 yX5_isWalk yX5_isWalk, Cond.initialized RX5, Cond.code yX5_isWalk cX5_isWalk 2 (some .boolean), Cond.fieldLink RX5 45 "WaveWalkModel" "thrown" "I", Cond.fieldLink RX5 75 "WaveWalkModel" "walks" "I", Cond.methodLink RX5 52 yX5_right, Cond.instanceMethod yX5_right, Cond.selects RX5 yX5_right yX5_right, Cond.code yX5_right cX5_right 3 (some .boolean), Cond.methodLink RX5 129 yX5_isIn, Cond.instanceMethod yX5_isIn, Cond.selects RX5 yX5_isIn yX5_isIn, Cond.code yX5_isIn cX5_isIn 3 (some .boolean), Cond.fieldLink RX5 7 "WaveWalkModel" "places" "[I", Cond.fieldLink RX5 26 "WaveWalkModel" "netOf" "[I", Cond.methodLink RX5 116 yX5_isMany, Cond.static yX5_isMany, Cond.code yX5_isMany cX5_isMany 1 (some .boolean), Cond.methodLink RX5 119 yX5_copies, Cond.instanceMethod yX5_copies]
def wsX5_mean_r2 : List Cond := [Cond.selects RX5 yX5_copies yX5_copies, Cond.code yX5_copies cX5_copies 4 none, Cond.fieldLink RX5 29 "WaveWalkModel" "time" "[I", Cond.fieldLink RX5 32 "WaveWalkModel" "wave" "[J", Cond.methodLink RX5 89 yX5_shareOf, Cond.instanceMethod yX5_shareOf, Cond.selects RX5 yX5_shareOf yX5_shareOf, Cond.code yX5_shareOf cX5_shareOf 6 (some .long), Cond.methodLink RX5 123 yX5_goesOn, Cond.instanceMethod yX5_goesOn, Cond.selects RX5 yX5_goesOn yX5_goesOn, Cond.code yX5_goesOn cX5_goesOn 2 (some .boolean), Cond.methodLink RX5 93 yX5_weight, Cond.instanceMethod yX5_weight, Cond.selects RX5 yX5_weight yX5_weight, Cond.code yX5_weight cX5_weight 5 (some .long), Cond.methodLink RX5 99 yX5_scale, Cond.instanceMethod yX5_scale, Cond.selects RX5 yX5_scale yX5_scale, Cond.code yX5_scale cX5_scale 3 (some .int), Cond.fieldLink RX5 13 "WaveWalkModel" "doors" "[I", Cond.methodLink RX5 126 yX5_steps, Cond.instanceMethod yX5_steps, Cond.selects RX5 yX5_steps yX5_steps]
def wsX5_mean_r3 : List Cond := [Cond.code yX5_steps cX5_steps 2 none, Cond.methodLink RX5 106 yX5_signs, Cond.instanceMethod yX5_signs, Cond.selects RX5 yX5_signs yX5_signs, Cond.code yX5_signs cX5_signs 4 none, Cond.fieldLink RX5 19 "WaveWalkModel" "isMarked" "[Z", Cond.methodLink RX5 110 yX5_turns, Cond.instanceMethod yX5_turns, Cond.selects RX5 yX5_turns yX5_turns, Cond.code yX5_turns cX5_turns 10 none, Cond.constantLong RX5 102 (2), Cond.constantLong RX5 104 (3), Cond.methodLink RX5 113 yX5_goes, Cond.instanceMethod yX5_goes, Cond.selects RX5 yX5_goes yX5_goes, Cond.code yX5_goes cX5_goes 3 none, Cond.fieldLink RX5 36 "WaveWalkModel" "next" "[J", Cond.fieldLink RX5 16 "WaveWalkModel" "to" "[I"]
def wsX5_mean : List Cond := .code yX5_mean cX5_mean 10 (some .long) :: ((wsX5_mean_r1 ++ (wsX5_mean_r2 ++ wsX5_mean_r3)) ++ wsX50)
def wsX5_copy : List Cond := .code yX5_copy cX5_copy 3 none :: ([.fieldLink RX5 75 "WaveWalkModel" "walks" "I", .fieldLink RX5 26 "WaveWalkModel" "netOf" "[I", .methodLink RX5 82 yX5_isWalk, .instanceMethod yX5_isWalk, .selects RX5 yX5_isWalk yX5_isWalk, .initialized RX5, .code yX5_isWalk cX5_isWalk 2 (some .boolean), .fieldLink RX5 45 "WaveWalkModel" "thrown" "I", .methodLink RX5 52 yX5_right, .instanceMethod yX5_right, .selects RX5 yX5_right yX5_right, .code yX5_right cX5_right 3 (some .boolean), .methodLink RX5 119 yX5_copies, .instanceMethod yX5_copies, .selects RX5 yX5_copies yX5_copies, .code yX5_copies cX5_copies 4 none, .fieldLink RX5 29 "WaveWalkModel" "time" "[I", .fieldLink RX5 32 "WaveWalkModel" "wave" "[J"] ++ wsX50)
def wsX5_count : List Cond := .code yX5_count cX5_count 2 (some .int) :: ([.fieldLink RX5 45 "WaveWalkModel" "thrown" "I", .fieldLink RX5 49 "WaveWalkModel" "nets" "I", .fieldLink RX5 75 "WaveWalkModel" "walks" "I", .methodLink RX5 52 yX5_right, .instanceMethod yX5_right, .selects RX5 yX5_right yX5_right, .initialized RX5, .code yX5_right cX5_right 3 (some .boolean)] ++ wsX50)
def wsJ9_min_7cf53 : List Cond := .code yJ9_min_7cf53 cJ9_min_7cf53 2 (some .int) :: ([])
def wsL_join_r1 : List Cond := [Cond.classLink RL 13 "java/util/NoSuchElementException", Cond.methodLink RL 7 yX4_join, Cond.instanceMethod yX4_join, Cond.selects RX4 yX4_join yX4_join, Cond.initialized RX4, Cond.code yX4_join cX4_join 9 (some .boolean), Cond.fieldLink RX4 53 "WaveWalk$Net" "hasWalks" "Z", Cond.methodLink RX4 45 yX4_netOf, Cond.instanceMethod yX4_netOf, Cond.selects RX4 yX4_netOf yX4_netOf, Cond.code yX4_netOf cX4_netOf 3 (some (.object "WaveWalk$Net")), Cond.classLink RX4 141 "java/util/NoSuchElementException", Cond.initialized "java/util/NoSuchElementException", Cond.fieldLink RX4 11 "WaveWalk" "nets" "[LWaveWalk$Net;", Cond.methodLink RX4 49 yX4_cellOf, Cond.static yX4_cellOf, Cond.code yX4_cellOf cX4_cellOf 3 (some .int), Cond.fieldLink RX4 193 "WaveWalk$Net" "doors" "I", Cond.methodLink RX4 64 yX4_needPlace, Cond.static yX4_needPlace, Cond.code yX4_needPlace cX4_needPlace 2 none, Cond.fieldLink RX4 188 "WaveWalk$Net" "places" "I", Cond.methodLink RX4 57 yX1_joinCells, Cond.instanceMethod yX1_joinCells]
def wsL_join_r2 : List Cond := [Cond.selects RX1 yX1_joinCells yX1_joinCells, Cond.initialized RX1, Cond.code yX1_joinCells cX1_joinCells 5 none, Cond.fieldLink RX1 9 "WaveWalk$Net" "ledTo" "[I"]
def wsL_join : List Cond := .codeWith yL_join cL_join 8 (some .int) [(0, 23, 26, 13)] :: ((wsL_join_r1 ++ wsL_join_r2) ++ wsX10 ++ wsX40 ++ (na_at RX4 145).filter goodWord)
def wsL_leads : List Cond := .codeWith yL_leads cL_leads 6 (some .int) [(0, 12, 15, 13)] :: ([.classLink RL 13 "java/util/NoSuchElementException", .methodLink RL 15 yX4_leads, .instanceMethod yX4_leads, .selects RX4 yX4_leads yX4_leads, .initialized RX4, .code yX4_leads cX4_leads 5 (some .int), .fieldLink RX4 60 "WaveWalk$Net" "ledTo" "[I", .methodLink RX4 45 yX4_netOf, .instanceMethod yX4_netOf, .selects RX4 yX4_netOf yX4_netOf, .code yX4_netOf cX4_netOf 3 (some (.object "WaveWalk$Net")), .classLink RX4 141 "java/util/NoSuchElementException", .initialized "java/util/NoSuchElementException", .fieldLink RX4 11 "WaveWalk" "nets" "[LWaveWalk$Net;", .methodLink RX4 49 yX4_cellOf, .static yX4_cellOf, .code yX4_cellOf cX4_cellOf 3 (some .int), .fieldLink RX4 193 "WaveWalk$Net" "doors" "I", .methodLink RX4 64 yX4_needPlace, .static yX4_needPlace, .code yX4_needPlace cX4_needPlace 2 none, .fieldLink RX4 188 "WaveWalk$Net" "places" "I"] ++ wsX10 ++ wsX40 ++ (na_at RX4 145).filter goodWord)
def wsL_mark : List Cond := .codeWith yL_mark cL_mark 6 (some .int) [(0, 19, 22, 13)] :: ([.classLink RL 13 "java/util/NoSuchElementException", .methodLink RL 19 yX4_mark, .instanceMethod yX4_mark, .selects RX4 yX4_mark yX4_mark, .initialized RX4, .code yX4_mark cX4_mark 5 (some .boolean), .fieldLink RX4 53 "WaveWalk$Net" "hasWalks" "Z", .fieldLink RX4 68 "WaveWalk$Net" "marked" "[Z", .methodLink RX4 45 yX4_netOf, .instanceMethod yX4_netOf, .selects RX4 yX4_netOf yX4_netOf, .code yX4_netOf cX4_netOf 3 (some (.object "WaveWalk$Net")), .classLink RX4 141 "java/util/NoSuchElementException", .initialized "java/util/NoSuchElementException", .fieldLink RX4 11 "WaveWalk" "nets" "[LWaveWalk$Net;", .methodLink RX4 64 yX4_needPlace, .static yX4_needPlace, .code yX4_needPlace cX4_needPlace 2 none, .fieldLink RX4 188 "WaveWalk$Net" "places" "I"] ++ wsX10 ++ wsX40 ++ (na_at RX4 145).filter goodWord)
def wsL_alike_r1 : List Cond := [Cond.classLink RL 13 "java/util/NoSuchElementException", Cond.methodLink RL 23 yX4_alike, Cond.instanceMethod yX4_alike, Cond.selects RX4 yX4_alike yX4_alike, Cond.initialized RX4, Cond.code yX4_alike cX4_alike 4 (some .int), Cond.fieldLink RX4 31 "WaveWalk" "classes" "LWaveWalk$Classes;", Cond.fieldLink RX4 76 "WaveWalk$Classes" "number" "I", Cond.fieldLink RX4 79 "WaveWalk$Classes" "ofPlace" "[I", Cond.methodLink RX4 45 yX4_netOf, Cond.instanceMethod yX4_netOf, Cond.selects RX4 yX4_netOf yX4_netOf, Cond.code yX4_netOf cX4_netOf 3 (some (.object "WaveWalk$Net")), Cond.classLink RX4 141 "java/util/NoSuchElementException", Cond.initialized "java/util/NoSuchElementException", Cond.fieldLink RX4 11 "WaveWalk" "nets" "[LWaveWalk$Net;", Cond.methodLink RX4 64 yX4_needPlace, Cond.static yX4_needPlace, Cond.code yX4_needPlace cX4_needPlace 2 none, Cond.fieldLink RX4 188 "WaveWalk$Net" "places" "I", Cond.methodLink RX4 72 yX0_partAll, Cond.instanceMethod yX0_partAll, Cond.selects RX0 yX0_partAll yX0_partAll, Cond.initialized RX0]
def wsL_alike_r2 : List Cond := [Cond.code yX0_partAll cX0_partAll 4 none, Cond.fieldLink RX0 23 "WaveWalk$Net" "places" "I", Cond.fieldLink RX0 15 "WaveWalk$Classes" "keys" "[J", Cond.fieldLink RX0 28 "WaveWalk$Net" "marked" "[Z", Cond.fieldLink RX0 19 "WaveWalk$Classes" "number" "I", Cond.methodLink RX0 32 yX0_numberByKeys, Cond.instanceMethod yX0_numberByKeys, Cond.selects RX0 yX0_numberByKeys yX0_numberByKeys, Cond.code yX0_numberByKeys cX0_numberByKeys 4 none, Cond.fieldLink RX0 11 "WaveWalk$Classes" "ofPlace" "[I", Cond.methodLink RX0 36 yX0_keyByDoors, Cond.instanceMethod yX0_keyByDoors, Cond.selects RX0 yX0_keyByDoors yX0_keyByDoors, Cond.code yX0_keyByDoors cX0_keyByDoors 7 none, Cond.fieldLink RX0 40 "WaveWalk$Net" "doors" "I", Cond.fieldLink RX0 43 "WaveWalk$Net" "ledTo" "[I"]
def wsL_alike : List Cond := .codeWith yL_alike cL_alike 5 (some .int) [(0, 10, 13, 13)] :: ((wsL_alike_r1 ++ wsL_alike_r2) ++ wsX40 ++ wsX00 ++ wsX10 ++ (na_at RX4 145).filter goodWord)
def wsL_walk_r1 : List Cond := [Cond.classLink RL 13 "java/util/NoSuchElementException", Cond.methodLink RL 27 yX4_walk, Cond.instanceMethod yX4_walk, Cond.selects RX4 yX4_walk yX4_walk, Cond.initialized RX4, Cond.code yX4_walk cX4_walk 3 (some .int), Cond.fieldLink RX4 39 "WaveWalk" "walkCount" "I", Cond.fieldLink RX4 53 "WaveWalk$Net" "hasWalks" "Z", Cond.fieldLink RX4 17 "WaveWalk" "walks" "[LWaveWalk$Walk;", Cond.classLink RX4 15 RX2, Cond.instantiable RX2 3, Cond.initialized RX2, Cond.methodLink RX4 45 yX4_netOf, Cond.instanceMethod yX4_netOf, Cond.selects RX4 yX4_netOf yX4_netOf, Cond.code yX4_netOf cX4_netOf 3 (some (.object "WaveWalk$Net")), Cond.classLink RX4 141 "java/util/NoSuchElementException", Cond.initialized "java/util/NoSuchElementException", Cond.fieldLink RX4 11 "WaveWalk" "nets" "[LWaveWalk$Net;", Cond.methodLink RX4 82 yX2_init, Cond.instanceMethod yX2_init, Cond.code yX2_init cX2_init 3 none, Cond.methodLink RX2 1 objectInit, Cond.instanceMethod objectInit]
def wsL_walk_r2 : List Cond := [Cond.code objectInit ⟨#[0xb1]⟩ 1 none, Cond.classLink RX2 7 RX3, Cond.instantiable RX3 2, Cond.initialized RX3, Cond.fieldLink RX2 10 "WaveWalk$Walk" "wave" "LWaveWalk$Wave;", Cond.fieldLink RX2 16 "WaveWalk$Walk" "netNumber" "I", Cond.fieldLink RX2 20 "WaveWalk$Walk" "net" "LWaveWalk$Net;", Cond.instanceMethod yX3_init, Cond.code yX3_init cX3_init 1 none, Cond.methodLink RX3 3 objectInit, Cond.arrayClass .long, Cond.fieldLink RX3 9 "WaveWalk$Wave" "numbers" "[J", Cond.fieldLink RX3 15 "WaveWalk$Wave" "time" "I"]
def wsL_walk : List Cond := .codeWith yL_walk cL_walk 4 (some .int) [(0, 9, 12, 13)] :: ((wsL_walk_r1 ++ wsL_walk_r2) ++ wsX40 ++ wsX10 ++ wsX20 ++ wsX30 ++ (na_at RX4 145).filter goodWord)
def wsL_set_r1 : List Cond := [Cond.classLink RL 13 "java/util/NoSuchElementException", Cond.classLink RL 35 "java/lang/IllegalArgumentException", Cond.methodLink RL 31 yX4_set, Cond.instanceMethod yX4_set, Cond.selects RX4 yX4_set yX4_set, Cond.initialized RX4, Cond.code yX4_set cX4_set 7 (some .boolean), Cond.fieldLink RX4 89 "WaveWalk$Walk" "net" "LWaveWalk$Net;", Cond.fieldLink RX4 97 "WaveWalk$Walk" "wave" "LWaveWalk$Wave;", Cond.fieldLink RX4 104 "WaveWalk$Wave" "numbers" "[J", Cond.fieldLink RX4 108 "WaveWalk$Wave" "time" "I", Cond.methodLink RX4 85 yX4_walkOf, Cond.instanceMethod yX4_walkOf, Cond.selects RX4 yX4_walkOf yX4_walkOf, Cond.code yX4_walkOf cX4_walkOf 3 (some (.object "WaveWalk$Walk")), Cond.classLink RX4 141 "java/util/NoSuchElementException", Cond.initialized "java/util/NoSuchElementException", Cond.fieldLink RX4 17 "WaveWalk" "walks" "[LWaveWalk$Walk;", Cond.methodLink RX4 49 yX4_cellOf, Cond.static yX4_cellOf, Cond.code yX4_cellOf cX4_cellOf 3 (some .int), Cond.fieldLink RX4 193 "WaveWalk$Net" "doors" "I", Cond.methodLink RX4 64 yX4_needPlace, Cond.static yX4_needPlace]
def wsL_set_r2 : List Cond := [Cond.code yX4_needPlace cX4_needPlace 2 none, Cond.fieldLink RX4 188 "WaveWalk$Net" "places" "I", Cond.methodLink RX4 93 yX4_needTold, Cond.static yX4_needTold, Cond.code yX4_needTold cX4_needTold 1 none, Cond.classLink RX4 177 "java/lang/IllegalArgumentException", Cond.initialized "java/lang/IllegalArgumentException", Cond.methodLink RX4 198 yX4_isTold, Cond.static yX4_isTold, Cond.code yX4_isTold cX4_isTold 2 (some .boolean), Cond.constantLong RX4 206 (-100), Cond.constantLong RX4 208 (100), Cond.methodLink RX4 100 yX3_isToldBut, Cond.instanceMethod yX3_isToldBut, Cond.selects RX3 yX3_isToldBut yX3_isToldBut, Cond.initialized RX3, Cond.code yX3_isToldBut cX3_isToldBut 3 (some .boolean), Cond.fieldLink RX3 9 "WaveWalk$Wave" "numbers" "[J"]
def wsL_set : List Cond := .codeWith yL_set cL_set 7 (some .int) [(0, 21, 24, 13), (0, 21, 28, 35)] :: ((wsL_set_r1 ++ wsL_set_r2) ++ wsX20 ++ wsX30 ++ wsX40 ++ wsX10 ++ (na_at RX4 145).filter goodWord ++ (vx_atS RX4 181 "java/lang/IllegalArgumentException" ["java/lang/RuntimeException", "java/lang/Exception"]).filter goodWord)
def wsL_spread_r1 : List Cond := [Cond.classLink RL 13 "java/util/NoSuchElementException", Cond.classLink RL 35 "java/lang/IllegalArgumentException", Cond.methodLink RL 37 yX4_spread, Cond.instanceMethod yX4_spread, Cond.selects RX4 yX4_spread yX4_spread, Cond.initialized RX4, Cond.code yX4_spread cX4_spread 4 none, Cond.fieldLink RX4 97 "WaveWalk$Walk" "wave" "LWaveWalk$Wave;", Cond.fieldLink RX4 89 "WaveWalk$Walk" "net" "LWaveWalk$Net;", Cond.methodLink RX4 85 yX4_walkOf, Cond.instanceMethod yX4_walkOf, Cond.selects RX4 yX4_walkOf yX4_walkOf, Cond.code yX4_walkOf cX4_walkOf 3 (some (.object "WaveWalk$Walk")), Cond.classLink RX4 141 "java/util/NoSuchElementException", Cond.initialized "java/util/NoSuchElementException", Cond.fieldLink RX4 17 "WaveWalk" "walks" "[LWaveWalk$Walk;", Cond.methodLink RX4 93 yX4_needTold, Cond.static yX4_needTold, Cond.code yX4_needTold cX4_needTold 1 none, Cond.classLink RX4 177 "java/lang/IllegalArgumentException", Cond.initialized "java/lang/IllegalArgumentException", Cond.methodLink RX4 198 yX4_isTold, Cond.static yX4_isTold, Cond.code yX4_isTold cX4_isTold 2 (some .boolean)]
def wsL_spread_r2 : List Cond := [Cond.constantLong RX4 206 (-100), Cond.constantLong RX4 208 (100), Cond.methodLink RX4 111 yX3_fillAll, Cond.instanceMethod yX3_fillAll, Cond.selects RX3 yX3_fillAll yX3_fillAll, Cond.initialized RX3, Cond.code yX3_fillAll cX3_fillAll 5 none, Cond.fieldLink RX3 25 "WaveWalk$Net" "places" "I", Cond.fieldLink RX3 30 "WaveWalk$Net" "doors" "I", Cond.fieldLink RX3 9 "WaveWalk$Wave" "numbers" "[J", Cond.fieldLink RX3 15 "WaveWalk$Wave" "time" "I"]
def wsL_spread : List Cond := .codeWith yL_spread cL_spread 4 (some .int) [(0, 6, 9, 13), (0, 6, 12, 35)] :: ((wsL_spread_r1 ++ wsL_spread_r2) ++ wsX20 ++ wsX40 ++ wsX10 ++ wsX30 ++ (na_at RX4 145).filter goodWord ++ (vx_atS RX4 181 "java/lang/IllegalArgumentException" ["java/lang/RuntimeException", "java/lang/Exception"]).filter goodWord)
def wsL_step_r1 : List Cond := [Cond.classLink RL 13 "java/util/NoSuchElementException", Cond.classLink RL 35 "java/lang/IllegalArgumentException", Cond.methodLink RL 41 yX4_step, Cond.instanceMethod yX4_step, Cond.selects RX4 yX4_step yX4_step, Cond.initialized RX4, Cond.code yX4_step cX4_step 6 (some .int), Cond.fieldLink RX4 97 "WaveWalk$Walk" "wave" "LWaveWalk$Wave;", Cond.fieldLink RX4 89 "WaveWalk$Walk" "net" "LWaveWalk$Net;", Cond.fieldLink RX4 108 "WaveWalk$Wave" "time" "I", Cond.methodLink RX4 85 yX4_walkOf, Cond.instanceMethod yX4_walkOf, Cond.selects RX4 yX4_walkOf yX4_walkOf, Cond.code yX4_walkOf cX4_walkOf 3 (some (.object "WaveWalk$Walk")), Cond.classLink RX4 141 "java/util/NoSuchElementException", Cond.initialized "java/util/NoSuchElementException", Cond.fieldLink RX4 17 "WaveWalk" "walks" "[LWaveWalk$Walk;", Cond.methodLink RX4 114 yX4_needSteps, Cond.static yX4_needSteps, Cond.code yX4_needSteps cX4_needSteps 1 none, Cond.classLink RX4 177 "java/lang/IllegalArgumentException", Cond.initialized "java/lang/IllegalArgumentException", Cond.methodLink RX4 117 yX3_squares, Cond.instanceMethod yX3_squares]
def wsL_step_r2 : List Cond := [Cond.selects RX3 yX3_squares yX3_squares, Cond.initialized RX3, Cond.code yX3_squares cX3_squares 4 (some .long), Cond.methodLink RX3 37 yX3_squaresAt, Cond.instanceMethod yX3_squaresAt, Cond.selects RX3 yX3_squaresAt yX3_squaresAt, Cond.code yX3_squaresAt cX3_squaresAt 6 (some .long), Cond.fieldLink RX3 9 "WaveWalk$Wave" "numbers" "[J", Cond.methodLink RX4 121 yX3_stepsLeft, Cond.instanceMethod yX3_stepsLeft, Cond.selects RX3 yX3_stepsLeft yX3_stepsLeft, Cond.code yX3_stepsLeft cX3_stepsLeft 5 (some .int), Cond.fieldLink RX3 15 "WaveWalk$Wave" "time" "I", Cond.fieldLink RX3 49 "WaveWalk$Net" "heaviestToStep" "J", Cond.fieldLink RX3 53 "WaveWalk$Net" "scale" "I", Cond.methodLink RX3 45 yX3_squares, Cond.methodLink RX4 125 yX3_doStep, Cond.instanceMethod yX3_doStep, Cond.selects RX3 yX3_doStep yX3_doStep, Cond.code yX3_doStep cX3_doStep 3 none, Cond.fieldLink RX3 25 "WaveWalk$Net" "places" "I", Cond.fieldLink RX3 30 "WaveWalk$Net" "doors" "I", Cond.methodLink RX3 56 yX3_changeSigns, Cond.instanceMethod yX3_changeSigns]
def wsL_step_r3 : List Cond := [Cond.selects RX3 yX3_changeSigns yX3_changeSigns, Cond.code yX3_changeSigns cX3_changeSigns 5 none, Cond.fieldLink RX3 41 "WaveWalk$Net" "marked" "[Z", Cond.methodLink RX3 60 yX3_turnAt, Cond.instanceMethod yX3_turnAt, Cond.selects RX3 yX3_turnAt yX3_turnAt, Cond.code yX3_turnAt cX3_turnAt 8 none, Cond.constantLong RX3 70 (2), Cond.constantLong RX3 72 (3), Cond.methodLink RX3 64 yX3_goThroughDoors, Cond.instanceMethod yX3_goThroughDoors, Cond.selects RX3 yX3_goThroughDoors yX3_goThroughDoors, Cond.code yX3_goThroughDoors cX3_goThroughDoors 6 none, Cond.fieldLink RX3 78 "WaveWalk$Net" "ledTo" "[I"]
def wsL_step : List Cond := .codeWith yL_step cL_step 5 (some .int) [(0, 10, 13, 13), (0, 10, 17, 35)] :: ((wsL_step_r1 ++ (wsL_step_r2 ++ wsL_step_r3)) ++ wsX20 ++ wsX30 ++ wsX40 ++ wsX10 ++ (na_at RX4 145).filter goodWord ++ (vx_atS RX4 181 "java/lang/IllegalArgumentException" ["java/lang/RuntimeException", "java/lang/Exception"]).filter goodWord)
def wsL_back_r1 : List Cond := [Cond.classLink RL 13 "java/util/NoSuchElementException", Cond.classLink RL 35 "java/lang/IllegalArgumentException", Cond.methodLink RL 44 yX4_back, Cond.instanceMethod yX4_back, Cond.selects RX4 yX4_back yX4_back, Cond.initialized RX4, Cond.code yX4_back cX4_back 6 (some .int), Cond.fieldLink RX4 97 "WaveWalk$Walk" "wave" "LWaveWalk$Wave;", Cond.fieldLink RX4 108 "WaveWalk$Wave" "time" "I", Cond.fieldLink RX4 89 "WaveWalk$Walk" "net" "LWaveWalk$Net;", Cond.methodLink RX4 85 yX4_walkOf, Cond.instanceMethod yX4_walkOf, Cond.selects RX4 yX4_walkOf yX4_walkOf, Cond.code yX4_walkOf cX4_walkOf 3 (some (.object "WaveWalk$Walk")), Cond.classLink RX4 141 "java/util/NoSuchElementException", Cond.initialized "java/util/NoSuchElementException", Cond.fieldLink RX4 17 "WaveWalk" "walks" "[LWaveWalk$Walk;", Cond.methodLink RX4 114 yX4_needSteps, Cond.static yX4_needSteps, Cond.code yX4_needSteps cX4_needSteps 1 none, Cond.classLink RX4 177 "java/lang/IllegalArgumentException", Cond.initialized "java/lang/IllegalArgumentException", Cond.methodLink RX4 128 yX3_undoStep, Cond.instanceMethod yX3_undoStep]
def wsL_back_r2 : List Cond := [Cond.selects RX3 yX3_undoStep yX3_undoStep, Cond.initialized RX3, Cond.code yX3_undoStep cX3_undoStep 3 none, Cond.fieldLink RX3 25 "WaveWalk$Net" "places" "I", Cond.fieldLink RX3 30 "WaveWalk$Net" "doors" "I", Cond.fieldLink RX3 15 "WaveWalk$Wave" "time" "I", Cond.methodLink RX3 64 yX3_goThroughDoors, Cond.instanceMethod yX3_goThroughDoors, Cond.selects RX3 yX3_goThroughDoors yX3_goThroughDoors, Cond.code yX3_goThroughDoors cX3_goThroughDoors 6 none, Cond.fieldLink RX3 78 "WaveWalk$Net" "ledTo" "[I", Cond.fieldLink RX3 9 "WaveWalk$Wave" "numbers" "[J", Cond.methodLink RX3 60 yX3_turnAt, Cond.instanceMethod yX3_turnAt, Cond.selects RX3 yX3_turnAt yX3_turnAt, Cond.code yX3_turnAt cX3_turnAt 8 none, Cond.constantLong RX3 70 (2), Cond.constantLong RX3 72 (3), Cond.methodLink RX3 67 yX3_lessenAt, Cond.instanceMethod yX3_lessenAt, Cond.selects RX3 yX3_lessenAt yX3_lessenAt, Cond.code yX3_lessenAt cX3_lessenAt 5 none, Cond.constantLong RX3 74 (9), Cond.constantLong RX3 76 (4)]
def wsL_back_r3 : List Cond := [Cond.methodLink RX3 56 yX3_changeSigns, Cond.instanceMethod yX3_changeSigns, Cond.selects RX3 yX3_changeSigns yX3_changeSigns, Cond.code yX3_changeSigns cX3_changeSigns 5 none, Cond.fieldLink RX3 41 "WaveWalk$Net" "marked" "[Z"]
def wsL_back : List Cond := .codeWith yL_back cL_back 5 (some .int) [(0, 10, 13, 13), (0, 10, 17, 35)] :: ((wsL_back_r1 ++ (wsL_back_r2 ++ wsL_back_r3)) ++ wsX20 ++ wsX30 ++ wsX40 ++ wsX10 ++ (na_at RX4 145).filter goodWord ++ (vx_atS RX4 181 "java/lang/IllegalArgumentException" ["java/lang/RuntimeException", "java/lang/Exception"]).filter goodWord)
def wsL_at : List Cond := .codeWith yL_at cL_at 6 (some .int) [(0, 11, 14, 13)] :: ([.classLink RL 13 "java/util/NoSuchElementException", .methodLink RL 47 yX4_at, .instanceMethod yX4_at, .selects RX4 yX4_at yX4_at, .initialized RX4, .code yX4_at cX4_at 5 (some .long), .fieldLink RX4 97 "WaveWalk$Walk" "wave" "LWaveWalk$Wave;", .fieldLink RX4 104 "WaveWalk$Wave" "numbers" "[J", .fieldLink RX4 89 "WaveWalk$Walk" "net" "LWaveWalk$Net;", .methodLink RX4 85 yX4_walkOf, .instanceMethod yX4_walkOf, .selects RX4 yX4_walkOf yX4_walkOf, .code yX4_walkOf cX4_walkOf 3 (some (.object "WaveWalk$Walk")), .classLink RX4 141 "java/util/NoSuchElementException", .initialized "java/util/NoSuchElementException", .fieldLink RX4 17 "WaveWalk" "walks" "[LWaveWalk$Walk;", .methodLink RX4 49 yX4_cellOf, .static yX4_cellOf, .code yX4_cellOf cX4_cellOf 3 (some .int), .fieldLink RX4 193 "WaveWalk$Net" "doors" "I", .methodLink RX4 64 yX4_needPlace, .static yX4_needPlace, .code yX4_needPlace cX4_needPlace 2 none, .fieldLink RX4 188 "WaveWalk$Net" "places" "I"] ++ wsX20 ++ wsX30 ++ wsX40 ++ wsX10 ++ (na_at RX4 145).filter goodWord)
def wsL_share_r1 : List Cond := [Cond.classLink RL 13 "java/util/NoSuchElementException", Cond.methodLink RL 51 yX4_share, Cond.instanceMethod yX4_share, Cond.selects RX4 yX4_share yX4_share, Cond.initialized RX4, Cond.code yX4_share cX4_share 4 (some .long), Cond.fieldLink RX4 97 "WaveWalk$Walk" "wave" "LWaveWalk$Wave;", Cond.fieldLink RX4 89 "WaveWalk$Walk" "net" "LWaveWalk$Net;", Cond.methodLink RX4 85 yX4_walkOf, Cond.instanceMethod yX4_walkOf, Cond.selects RX4 yX4_walkOf yX4_walkOf, Cond.code yX4_walkOf cX4_walkOf 3 (some (.object "WaveWalk$Walk")), Cond.classLink RX4 141 "java/util/NoSuchElementException", Cond.initialized "java/util/NoSuchElementException", Cond.fieldLink RX4 17 "WaveWalk" "walks" "[LWaveWalk$Walk;", Cond.methodLink RX4 117 yX3_squares, Cond.instanceMethod yX3_squares, Cond.selects RX3 yX3_squares yX3_squares, Cond.initialized RX3, Cond.code yX3_squares cX3_squares 4 (some .long), Cond.methodLink RX3 37 yX3_squaresAt, Cond.instanceMethod yX3_squaresAt, Cond.selects RX3 yX3_squaresAt yX3_squaresAt, Cond.code yX3_squaresAt cX3_squaresAt 6 (some .long)]
def wsL_share_r2 : List Cond := [Cond.fieldLink RX3 9 "WaveWalk$Wave" "numbers" "[J", Cond.methodLink RX4 64 yX4_needPlace, Cond.static yX4_needPlace, Cond.code yX4_needPlace cX4_needPlace 2 none, Cond.fieldLink RX4 188 "WaveWalk$Net" "places" "I", Cond.methodLink RX4 131 yX3_squaresAt]
def wsL_share : List Cond := .codeWith yL_share cL_share 5 (some .int) [(0, 9, 12, 13)] :: ((wsL_share_r1 ++ wsL_share_r2) ++ wsX20 ++ wsX40 ++ wsX30 ++ wsX10 ++ (na_at RX4 145).filter goodWord)
def wsL_of : List Cond := .codeWith yL_of cL_of 5 (some .int) [(0, 10, 13, 13)] :: ([.classLink RL 13 "java/util/NoSuchElementException", .methodLink RL 55 yX4_of, .instanceMethod yX4_of, .selects RX4 yX4_of yX4_of, .initialized RX4, .code yX4_of cX4_of 4 (some .int), .classLink RX4 141 "java/util/NoSuchElementException", .initialized "java/util/NoSuchElementException", .fieldLink RX4 135 "WaveWalk$Walk" "netNumber" "I", .fieldLink RX4 97 "WaveWalk$Walk" "wave" "LWaveWalk$Wave;", .fieldLink RX4 108 "WaveWalk$Wave" "time" "I", .fieldLink RX4 89 "WaveWalk$Walk" "net" "LWaveWalk$Net;", .fieldLink RX4 138 "WaveWalk$Net" "scale" "I", .methodLink RX4 85 yX4_walkOf, .instanceMethod yX4_walkOf, .selects RX4 yX4_walkOf yX4_walkOf, .code yX4_walkOf cX4_walkOf 3 (some (.object "WaveWalk$Walk")), .fieldLink RX4 17 "WaveWalk" "walks" "[LWaveWalk$Walk;"] ++ wsX20 ++ wsX30 ++ wsX10 ++ wsX40 ++ (na_at RX4 145).filter goodWord)
def wsL_arrives_r1 : List Cond := [Cond.classLink RL 13 "java/util/NoSuchElementException", Cond.classLink RL 35 "java/lang/IllegalArgumentException", Cond.methodLink RL 58 yX4_arrives, Cond.instanceMethod yX4_arrives, Cond.selects RX4 yX4_arrives yX4_arrives, Cond.initialized RX4, Cond.code yX4_arrives cX4_arrives 7 (some .int), Cond.fieldLink RX4 89 "WaveWalk$Walk" "net" "LWaveWalk$Net;", Cond.fieldLink RX4 97 "WaveWalk$Walk" "wave" "LWaveWalk$Wave;", Cond.methodLink RX4 148 Lib.Math.min.name, Cond.static Lib.Math.min.name, Cond.initialized "java/lang/Math", Cond.code Lib.Math.min.name Lib.Math.min.code 2 (some .int), Cond.fieldLink RX4 24 "WaveWalk" "trial" "LWaveWalk$Wave;", Cond.methodLink RX4 85 yX4_walkOf, Cond.instanceMethod yX4_walkOf, Cond.selects RX4 yX4_walkOf yX4_walkOf, Cond.code yX4_walkOf cX4_walkOf 3 (some (.object "WaveWalk$Walk")), Cond.classLink RX4 141 "java/util/NoSuchElementException", Cond.initialized "java/util/NoSuchElementException", Cond.fieldLink RX4 17 "WaveWalk" "walks" "[LWaveWalk$Walk;", Cond.methodLink RX4 64 yX4_needPlace, Cond.static yX4_needPlace, Cond.code yX4_needPlace cX4_needPlace 2 none]
def wsL_arrives_r2 : List Cond := [Cond.fieldLink RX4 188 "WaveWalk$Net" "places" "I", Cond.methodLink RX4 114 yX4_needSteps, Cond.static yX4_needSteps, Cond.code yX4_needSteps cX4_needSteps 1 none, Cond.classLink RX4 177 "java/lang/IllegalArgumentException", Cond.initialized "java/lang/IllegalArgumentException", Cond.methodLink RX4 121 yX3_stepsLeft, Cond.instanceMethod yX3_stepsLeft, Cond.selects RX3 yX3_stepsLeft yX3_stepsLeft, Cond.initialized RX3, Cond.code yX3_stepsLeft cX3_stepsLeft 5 (some .int), Cond.fieldLink RX3 15 "WaveWalk$Wave" "time" "I", Cond.fieldLink RX3 49 "WaveWalk$Net" "heaviestToStep" "J", Cond.fieldLink RX3 53 "WaveWalk$Net" "scale" "I", Cond.methodLink RX3 45 yX3_squares, Cond.instanceMethod yX3_squares, Cond.selects RX3 yX3_squares yX3_squares, Cond.code yX3_squares cX3_squares 4 (some .long), Cond.methodLink RX3 37 yX3_squaresAt, Cond.instanceMethod yX3_squaresAt, Cond.selects RX3 yX3_squaresAt yX3_squaresAt, Cond.code yX3_squaresAt cX3_squaresAt 6 (some .long), Cond.fieldLink RX3 9 "WaveWalk$Wave" "numbers" "[J", Cond.methodLink RX4 154 yX3_becomeLike]
def wsL_arrives_r3 : List Cond := [Cond.instanceMethod yX3_becomeLike, Cond.selects RX3 yX3_becomeLike yX3_becomeLike, Cond.code yX3_becomeLike cX3_becomeLike 2 none, Cond.methodLink RX3 19 arraycopyName, Cond.native arraycopyName, Cond.static arraycopyName, Cond.initialized "java/lang/System", Cond.methodLink RX4 125 yX3_doStep, Cond.instanceMethod yX3_doStep, Cond.selects RX3 yX3_doStep yX3_doStep, Cond.code yX3_doStep cX3_doStep 3 none, Cond.fieldLink RX3 25 "WaveWalk$Net" "places" "I", Cond.fieldLink RX3 30 "WaveWalk$Net" "doors" "I", Cond.methodLink RX3 56 yX3_changeSigns, Cond.instanceMethod yX3_changeSigns, Cond.selects RX3 yX3_changeSigns yX3_changeSigns, Cond.code yX3_changeSigns cX3_changeSigns 5 none, Cond.fieldLink RX3 41 "WaveWalk$Net" "marked" "[Z", Cond.methodLink RX3 60 yX3_turnAt, Cond.instanceMethod yX3_turnAt, Cond.selects RX3 yX3_turnAt yX3_turnAt, Cond.code yX3_turnAt cX3_turnAt 8 none, Cond.constantLong RX3 70 (2), Cond.constantLong RX3 72 (3)]
def wsL_arrives_r4 : List Cond := [Cond.methodLink RX3 64 yX3_goThroughDoors, Cond.instanceMethod yX3_goThroughDoors, Cond.selects RX3 yX3_goThroughDoors yX3_goThroughDoors, Cond.code yX3_goThroughDoors cX3_goThroughDoors 6 none, Cond.fieldLink RX3 78 "WaveWalk$Net" "ledTo" "[I", Cond.methodLink RX4 158 yX3_isAllAt, Cond.instanceMethod yX3_isAllAt, Cond.selects RX3 yX3_isAllAt yX3_isAllAt, Cond.code yX3_isAllAt cX3_isAllAt 4 (some .boolean)]
def wsL_arrives : List Cond := .codeWith yL_arrives cL_arrives 6 (some .int) [(0, 12, 15, 13), (0, 12, 19, 35)] :: ((wsL_arrives_r1 ++ (wsL_arrives_r2 ++ (wsL_arrives_r3 ++ wsL_arrives_r4))) ++ wsX20 ++ wsX40 ++ wsX10 ++ wsX30 ++ (na_at RX4 145).filter goodWord ++ (vx_atS RX4 181 "java/lang/IllegalArgumentException" ["java/lang/RuntimeException", "java/lang/Exception"]).filter goodWord)
def wsL_returns_r1 : List Cond := [Cond.classLink RL 13 "java/util/NoSuchElementException", Cond.classLink RL 35 "java/lang/IllegalArgumentException", Cond.methodLink RL 61 yX4_returns, Cond.instanceMethod yX4_returns, Cond.selects RX4 yX4_returns yX4_returns, Cond.initialized RX4, Cond.code yX4_returns cX4_returns 6 (some .int), Cond.fieldLink RX4 97 "WaveWalk$Walk" "wave" "LWaveWalk$Wave;", Cond.fieldLink RX4 89 "WaveWalk$Walk" "net" "LWaveWalk$Net;", Cond.methodLink RX4 148 Lib.Math.min.name, Cond.static Lib.Math.min.name, Cond.initialized "java/lang/Math", Cond.code Lib.Math.min.name Lib.Math.min.code 2 (some .int), Cond.fieldLink RX4 24 "WaveWalk" "trial" "LWaveWalk$Wave;", Cond.methodLink RX4 85 yX4_walkOf, Cond.instanceMethod yX4_walkOf, Cond.selects RX4 yX4_walkOf yX4_walkOf, Cond.code yX4_walkOf cX4_walkOf 3 (some (.object "WaveWalk$Walk")), Cond.classLink RX4 141 "java/util/NoSuchElementException", Cond.initialized "java/util/NoSuchElementException", Cond.fieldLink RX4 17 "WaveWalk" "walks" "[LWaveWalk$Walk;", Cond.methodLink RX4 114 yX4_needSteps, Cond.static yX4_needSteps, Cond.code yX4_needSteps cX4_needSteps 1 none]
def wsL_returns_r2 : List Cond := [Cond.classLink RX4 177 "java/lang/IllegalArgumentException", Cond.initialized "java/lang/IllegalArgumentException", Cond.methodLink RX4 121 yX3_stepsLeft, Cond.instanceMethod yX3_stepsLeft, Cond.selects RX3 yX3_stepsLeft yX3_stepsLeft, Cond.initialized RX3, Cond.code yX3_stepsLeft cX3_stepsLeft 5 (some .int), Cond.fieldLink RX3 15 "WaveWalk$Wave" "time" "I", Cond.fieldLink RX3 49 "WaveWalk$Net" "heaviestToStep" "J", Cond.fieldLink RX3 53 "WaveWalk$Net" "scale" "I", Cond.methodLink RX3 45 yX3_squares, Cond.instanceMethod yX3_squares, Cond.selects RX3 yX3_squares yX3_squares, Cond.code yX3_squares cX3_squares 4 (some .long), Cond.methodLink RX3 37 yX3_squaresAt, Cond.instanceMethod yX3_squaresAt, Cond.selects RX3 yX3_squaresAt yX3_squaresAt, Cond.code yX3_squaresAt cX3_squaresAt 6 (some .long), Cond.fieldLink RX3 9 "WaveWalk$Wave" "numbers" "[J", Cond.methodLink RX4 154 yX3_becomeLike, Cond.instanceMethod yX3_becomeLike, Cond.selects RX3 yX3_becomeLike yX3_becomeLike, Cond.code yX3_becomeLike cX3_becomeLike 2 none, Cond.methodLink RX3 19 arraycopyName]
def wsL_returns_r3 : List Cond := [Cond.native arraycopyName, Cond.static arraycopyName, Cond.initialized "java/lang/System", Cond.methodLink RX4 125 yX3_doStep, Cond.instanceMethod yX3_doStep, Cond.selects RX3 yX3_doStep yX3_doStep, Cond.code yX3_doStep cX3_doStep 3 none, Cond.fieldLink RX3 25 "WaveWalk$Net" "places" "I", Cond.fieldLink RX3 30 "WaveWalk$Net" "doors" "I", Cond.methodLink RX3 56 yX3_changeSigns, Cond.instanceMethod yX3_changeSigns, Cond.selects RX3 yX3_changeSigns yX3_changeSigns, Cond.code yX3_changeSigns cX3_changeSigns 5 none, Cond.fieldLink RX3 41 "WaveWalk$Net" "marked" "[Z", Cond.methodLink RX3 60 yX3_turnAt, Cond.instanceMethod yX3_turnAt, Cond.selects RX3 yX3_turnAt yX3_turnAt, Cond.code yX3_turnAt cX3_turnAt 8 none, Cond.constantLong RX3 70 (2), Cond.constantLong RX3 72 (3), Cond.methodLink RX3 64 yX3_goThroughDoors, Cond.instanceMethod yX3_goThroughDoors, Cond.selects RX3 yX3_goThroughDoors yX3_goThroughDoors, Cond.code yX3_goThroughDoors cX3_goThroughDoors 6 none]
def wsL_returns_r4 : List Cond := [Cond.fieldLink RX3 78 "WaveWalk$Net" "ledTo" "[I", Cond.methodLink RX4 161 yX3_isMultipleOf, Cond.instanceMethod yX3_isMultipleOf, Cond.selects RX3 yX3_isMultipleOf yX3_isMultipleOf, Cond.code yX3_isMultipleOf cX3_isMultipleOf 4 (some .boolean)]
def wsL_returns : List Cond := .codeWith yL_returns cL_returns 5 (some .int) [(0, 10, 13, 13), (0, 10, 17, 35)] :: ((wsL_returns_r1 ++ (wsL_returns_r2 ++ (wsL_returns_r3 ++ wsL_returns_r4))) ++ wsX20 ++ wsX40 ++ wsX30 ++ wsX10 ++ (na_at RX4 145).filter goodWord ++ (vx_atS RX4 181 "java/lang/IllegalArgumentException" ["java/lang/RuntimeException", "java/lang/Exception"]).filter goodWord)
def wsL_best_r1 : List Cond := [Cond.classLink RL 13 "java/util/NoSuchElementException", Cond.classLink RL 35 "java/lang/IllegalArgumentException", Cond.methodLink RL 64 yX4_best, Cond.instanceMethod yX4_best, Cond.selects RX4 yX4_best yX4_best, Cond.initialized RX4, Cond.code yX4_best cX4_best 11 (some .int), Cond.fieldLink RX4 97 "WaveWalk$Walk" "wave" "LWaveWalk$Wave;", Cond.fieldLink RX4 89 "WaveWalk$Walk" "net" "LWaveWalk$Net;", Cond.methodLink RX4 148 Lib.Math.min.name, Cond.static Lib.Math.min.name, Cond.initialized "java/lang/Math", Cond.code Lib.Math.min.name Lib.Math.min.code 2 (some .int), Cond.fieldLink RX4 24 "WaveWalk" "trial" "LWaveWalk$Wave;", Cond.fieldLink RX4 138 "WaveWalk$Net" "scale" "I", Cond.methodLink RX4 85 yX4_walkOf, Cond.instanceMethod yX4_walkOf, Cond.selects RX4 yX4_walkOf yX4_walkOf, Cond.code yX4_walkOf cX4_walkOf 3 (some (.object "WaveWalk$Walk")), Cond.classLink RX4 141 "java/util/NoSuchElementException", Cond.initialized "java/util/NoSuchElementException", Cond.fieldLink RX4 17 "WaveWalk" "walks" "[LWaveWalk$Walk;", Cond.methodLink RX4 114 yX4_needSteps, Cond.static yX4_needSteps]
def wsL_best_r2 : List Cond := [Cond.code yX4_needSteps cX4_needSteps 1 none, Cond.classLink RX4 177 "java/lang/IllegalArgumentException", Cond.initialized "java/lang/IllegalArgumentException", Cond.methodLink RX4 117 yX3_squares, Cond.instanceMethod yX3_squares, Cond.selects RX3 yX3_squares yX3_squares, Cond.initialized RX3, Cond.code yX3_squares cX3_squares 4 (some .long), Cond.methodLink RX3 37 yX3_squaresAt, Cond.instanceMethod yX3_squaresAt, Cond.selects RX3 yX3_squaresAt yX3_squaresAt, Cond.code yX3_squaresAt cX3_squaresAt 6 (some .long), Cond.fieldLink RX3 9 "WaveWalk$Wave" "numbers" "[J", Cond.methodLink RX4 121 yX3_stepsLeft, Cond.instanceMethod yX3_stepsLeft, Cond.selects RX3 yX3_stepsLeft yX3_stepsLeft, Cond.code yX3_stepsLeft cX3_stepsLeft 5 (some .int), Cond.fieldLink RX3 15 "WaveWalk$Wave" "time" "I", Cond.fieldLink RX3 49 "WaveWalk$Net" "heaviestToStep" "J", Cond.fieldLink RX3 53 "WaveWalk$Net" "scale" "I", Cond.methodLink RX3 45 yX3_squares, Cond.methodLink RX4 154 yX3_becomeLike, Cond.instanceMethod yX3_becomeLike, Cond.selects RX3 yX3_becomeLike yX3_becomeLike]
def wsL_best_r3 : List Cond := [Cond.code yX3_becomeLike cX3_becomeLike 2 none, Cond.methodLink RX3 19 arraycopyName, Cond.native arraycopyName, Cond.static arraycopyName, Cond.initialized "java/lang/System", Cond.methodLink RX4 165 yX3_squaresAtMarked, Cond.instanceMethod yX3_squaresAtMarked, Cond.selects RX3 yX3_squaresAtMarked yX3_squaresAtMarked, Cond.code yX3_squaresAtMarked cX3_squaresAtMarked 5 (some .long), Cond.fieldLink RX3 25 "WaveWalk$Net" "places" "I", Cond.fieldLink RX3 41 "WaveWalk$Net" "marked" "[Z", Cond.methodLink RX4 125 yX3_doStep, Cond.instanceMethod yX3_doStep, Cond.selects RX3 yX3_doStep yX3_doStep, Cond.code yX3_doStep cX3_doStep 3 none, Cond.fieldLink RX3 30 "WaveWalk$Net" "doors" "I", Cond.methodLink RX3 56 yX3_changeSigns, Cond.instanceMethod yX3_changeSigns, Cond.selects RX3 yX3_changeSigns yX3_changeSigns, Cond.code yX3_changeSigns cX3_changeSigns 5 none, Cond.methodLink RX3 60 yX3_turnAt, Cond.instanceMethod yX3_turnAt, Cond.selects RX3 yX3_turnAt yX3_turnAt, Cond.code yX3_turnAt cX3_turnAt 8 none]
def wsL_best_r4 : List Cond := [Cond.constantLong RX3 70 (2), Cond.constantLong RX3 72 (3), Cond.methodLink RX3 64 yX3_goThroughDoors, Cond.instanceMethod yX3_goThroughDoors, Cond.selects RX3 yX3_goThroughDoors yX3_goThroughDoors, Cond.code yX3_goThroughDoors cX3_goThroughDoors 6 none, Cond.fieldLink RX3 78 "WaveWalk$Net" "ledTo" "[I"]
def wsL_best : List Cond := .codeWith yL_best cL_best 5 (some .int) [(0, 10, 13, 13), (0, 10, 17, 35)] :: ((wsL_best_r1 ++ (wsL_best_r2 ++ (wsL_best_r3 ++ wsL_best_r4))) ++ wsX20 ++ wsX40 ++ wsX10 ++ wsX30 ++ (na_at RX4 145).filter goodWord ++ (vx_atS RX4 181 "java/lang/IllegalArgumentException" ["java/lang/RuntimeException", "java/lang/Exception"]).filter goodWord)
def wsL_mean_r1 : List Cond := [Cond.classLink RL 13 "java/util/NoSuchElementException", Cond.classLink RL 35 "java/lang/IllegalArgumentException", Cond.methodLink RL 67 yX4_mean, Cond.instanceMethod yX4_mean, Cond.selects RX4 yX4_mean yX4_mean, Cond.initialized RX4, Cond.code yX4_mean cX4_mean 10 (some .long), Cond.fieldLink RX4 89 "WaveWalk$Walk" "net" "LWaveWalk$Net;", Cond.fieldLink RX4 97 "WaveWalk$Walk" "wave" "LWaveWalk$Wave;", Cond.constantLong RX4 169 (-1), Cond.fieldLink RX4 24 "WaveWalk" "trial" "LWaveWalk$Wave;", Cond.fieldLink RX4 171 "WaveWalk$Net" "heaviestToStep" "J", Cond.fieldLink RX4 138 "WaveWalk$Net" "scale" "I", Cond.constantLong RX4 175 (4611686018427387904), Cond.methodLink RX4 85 yX4_walkOf, Cond.instanceMethod yX4_walkOf, Cond.selects RX4 yX4_walkOf yX4_walkOf, Cond.code yX4_walkOf cX4_walkOf 3 (some (.object "WaveWalk$Walk")), Cond.classLink RX4 141 "java/util/NoSuchElementException", Cond.initialized "java/util/NoSuchElementException", Cond.fieldLink RX4 17 "WaveWalk" "walks" "[LWaveWalk$Walk;", Cond.methodLink RX4 64 yX4_needPlace, Cond.static yX4_needPlace, Cond.code yX4_needPlace cX4_needPlace 2 none]
def wsL_mean_r2 : List Cond := [Cond.fieldLink RX4 188 "WaveWalk$Net" "places" "I", Cond.methodLink RX4 114 yX4_needSteps, Cond.static yX4_needSteps, Cond.code yX4_needSteps cX4_needSteps 1 none, Cond.classLink RX4 177 "java/lang/IllegalArgumentException", Cond.initialized "java/lang/IllegalArgumentException", Cond.methodLink RX4 121 yX3_stepsLeft, Cond.instanceMethod yX3_stepsLeft, Cond.selects RX3 yX3_stepsLeft yX3_stepsLeft, Cond.initialized RX3, Cond.code yX3_stepsLeft cX3_stepsLeft 5 (some .int), Cond.fieldLink RX3 15 "WaveWalk$Wave" "time" "I", Cond.fieldLink RX3 49 "WaveWalk$Net" "heaviestToStep" "J", Cond.fieldLink RX3 53 "WaveWalk$Net" "scale" "I", Cond.methodLink RX3 45 yX3_squares, Cond.instanceMethod yX3_squares, Cond.selects RX3 yX3_squares yX3_squares, Cond.code yX3_squares cX3_squares 4 (some .long), Cond.methodLink RX3 37 yX3_squaresAt, Cond.instanceMethod yX3_squaresAt, Cond.selects RX3 yX3_squaresAt yX3_squaresAt, Cond.code yX3_squaresAt cX3_squaresAt 6 (some .long), Cond.fieldLink RX3 9 "WaveWalk$Wave" "numbers" "[J", Cond.methodLink RX4 154 yX3_becomeLike]
def wsL_mean_r3 : List Cond := [Cond.instanceMethod yX3_becomeLike, Cond.selects RX3 yX3_becomeLike yX3_becomeLike, Cond.code yX3_becomeLike cX3_becomeLike 2 none, Cond.methodLink RX3 19 arraycopyName, Cond.native arraycopyName, Cond.static arraycopyName, Cond.initialized "java/lang/System", Cond.methodLink RX4 131 yX3_squaresAt, Cond.methodLink RX4 125 yX3_doStep, Cond.instanceMethod yX3_doStep, Cond.selects RX3 yX3_doStep yX3_doStep, Cond.code yX3_doStep cX3_doStep 3 none, Cond.fieldLink RX3 25 "WaveWalk$Net" "places" "I", Cond.fieldLink RX3 30 "WaveWalk$Net" "doors" "I", Cond.methodLink RX3 56 yX3_changeSigns, Cond.instanceMethod yX3_changeSigns, Cond.selects RX3 yX3_changeSigns yX3_changeSigns, Cond.code yX3_changeSigns cX3_changeSigns 5 none, Cond.fieldLink RX3 41 "WaveWalk$Net" "marked" "[Z", Cond.methodLink RX3 60 yX3_turnAt, Cond.instanceMethod yX3_turnAt, Cond.selects RX3 yX3_turnAt yX3_turnAt, Cond.code yX3_turnAt cX3_turnAt 8 none, Cond.constantLong RX3 70 (2)]
def wsL_mean_r4 : List Cond := [Cond.constantLong RX3 72 (3), Cond.methodLink RX3 64 yX3_goThroughDoors, Cond.instanceMethod yX3_goThroughDoors, Cond.selects RX3 yX3_goThroughDoors yX3_goThroughDoors, Cond.code yX3_goThroughDoors cX3_goThroughDoors 6 none, Cond.fieldLink RX3 78 "WaveWalk$Net" "ledTo" "[I"]
def wsL_mean : List Cond := .codeWith yL_mean cL_mean 6 (some .int) [(0, 11, 14, 13), (0, 11, 18, 35)] :: ((wsL_mean_r1 ++ (wsL_mean_r2 ++ (wsL_mean_r3 ++ wsL_mean_r4))) ++ wsX20 ++ wsX40 ++ wsX10 ++ wsX30 ++ (na_at RX4 145).filter goodWord ++ (vx_atS RX4 181 "java/lang/IllegalArgumentException" ["java/lang/RuntimeException", "java/lang/Exception"]).filter goodWord)
def wsL_copy_r1 : List Cond := [Cond.classLink RL 13 "java/util/NoSuchElementException", Cond.classLink RL 35 "java/lang/IllegalArgumentException", Cond.methodLink RL 70 yX4_copy, Cond.instanceMethod yX4_copy, Cond.selects RX4 yX4_copy yX4_copy, Cond.initialized RX4, Cond.code yX4_copy cX4_copy 5 none, Cond.classLink RX4 177 "java/lang/IllegalArgumentException", Cond.initialized "java/lang/IllegalArgumentException", Cond.fieldLink RX4 135 "WaveWalk$Walk" "netNumber" "I", Cond.fieldLink RX4 97 "WaveWalk$Walk" "wave" "LWaveWalk$Wave;", Cond.methodLink RX4 85 yX4_walkOf, Cond.instanceMethod yX4_walkOf, Cond.selects RX4 yX4_walkOf yX4_walkOf, Cond.code yX4_walkOf cX4_walkOf 3 (some (.object "WaveWalk$Walk")), Cond.classLink RX4 141 "java/util/NoSuchElementException", Cond.initialized "java/util/NoSuchElementException", Cond.fieldLink RX4 17 "WaveWalk" "walks" "[LWaveWalk$Walk;", Cond.methodLink RX4 154 yX3_becomeLike, Cond.instanceMethod yX3_becomeLike, Cond.selects RX3 yX3_becomeLike yX3_becomeLike, Cond.initialized RX3, Cond.code yX3_becomeLike cX3_becomeLike 2 none, Cond.fieldLink RX3 9 "WaveWalk$Wave" "numbers" "[J"]
def wsL_copy_r2 : List Cond := [Cond.methodLink RX3 19 arraycopyName, Cond.native arraycopyName, Cond.static arraycopyName, Cond.initialized "java/lang/System", Cond.fieldLink RX3 15 "WaveWalk$Wave" "time" "I"]
def wsL_copy : List Cond := .codeWith yL_copy cL_copy 4 (some .int) [(0, 6, 9, 13), (0, 6, 12, 35)] :: ((wsL_copy_r1 ++ wsL_copy_r2) ++ wsX20 ++ wsX40 ++ wsX30 ++ (vx_atS RX4 181 "java/lang/IllegalArgumentException" ["java/lang/RuntimeException", "java/lang/Exception"]).filter goodWord ++ (na_at RX4 145).filter goodWord)
def wsL_count : List Cond := .codeWith yL_count cL_count 4 (some .int) [(0, 9, 12, 13)] :: ([.classLink RL 13 "java/util/NoSuchElementException", .methodLink RL 73 yX4_count, .instanceMethod yX4_count, .selects RX4 yX4_count yX4_count, .initialized RX4, .code yX4_count cX4_count 2 (some .int), .classLink RX4 141 "java/util/NoSuchElementException", .initialized "java/util/NoSuchElementException", .fieldLink RX4 35 "WaveWalk" "netCount" "I", .fieldLink RX4 39 "WaveWalk" "walkCount" "I"] ++ wsX40 ++ (na_at RX4 145).filter goodWord)
def wsL_law0_r1 : List Cond := [Cond.classLink RL 8 RX4, Cond.instantiable RX4 6, Cond.initialized RX4, Cond.classLink RL 77 RX5, Cond.instantiable RX5 14, Cond.initialized RX5, Cond.arrayClass .long, Cond.methodLink RL 76 yX4_init, Cond.instanceMethod yX4_init, Cond.code yX4_init cX4_init 1 none, Cond.methodLink RX4 3 objectInit, Cond.instanceMethod objectInit, Cond.code objectInit ⟨#[0xb1]⟩ 1 none, Cond.classLink RX4 9 RX1, Cond.fieldLink RX4 11 "WaveWalk" "nets" "[LWaveWalk$Net;", Cond.classLink RX4 15 RX2, Cond.fieldLink RX4 17 "WaveWalk" "walks" "[LWaveWalk$Walk;", Cond.classLink RX4 21 RX3, Cond.instantiable RX3 2, Cond.initialized RX3, Cond.fieldLink RX4 24 "WaveWalk" "trial" "LWaveWalk$Wave;", Cond.classLink RX4 28 RX0, Cond.instantiable RX0 3, Cond.initialized RX0]
def wsL_law0_r2 : List Cond := [Cond.fieldLink RX4 31 "WaveWalk" "classes" "LWaveWalk$Classes;", Cond.fieldLink RX4 35 "WaveWalk" "netCount" "I", Cond.fieldLink RX4 39 "WaveWalk" "walkCount" "I", Cond.instanceMethod yX3_init, Cond.code yX3_init cX3_init 1 none, Cond.methodLink RX3 3 objectInit, Cond.fieldLink RX3 9 "WaveWalk$Wave" "numbers" "[J", Cond.fieldLink RX3 15 "WaveWalk$Wave" "time" "I", Cond.instanceMethod yX0_init, Cond.code yX0_init cX0_init 1 none, Cond.methodLink RX0 5 objectInit, Cond.arrayClass .int, Cond.fieldLink RX0 11 "WaveWalk$Classes" "ofPlace" "[I", Cond.fieldLink RX0 15 "WaveWalk$Classes" "keys" "[J", Cond.fieldLink RX0 19 "WaveWalk$Classes" "number" "I", Cond.methodLink RL 79 yX5_init, Cond.instanceMethod yX5_init, Cond.code yX5_init cX5_init 1 none, Cond.methodLink RX5 1 objectInit, Cond.fieldLink RX5 7 "WaveWalkModel" "places" "[I", Cond.fieldLink RX5 13 "WaveWalkModel" "doors" "[I", Cond.fieldLink RX5 16 "WaveWalkModel" "to" "[I", Cond.arrayClass .boolean, Cond.fieldLink RX5 19 "WaveWalkModel" "isMarked" "[Z"]
def wsL_law0_r3 : List Cond := [Cond.fieldLink RX5 23 "WaveWalkModel" "isUsed" "[Z", Cond.fieldLink RX5 26 "WaveWalkModel" "netOf" "[I", Cond.fieldLink RX5 29 "WaveWalkModel" "time" "[I", Cond.fieldLink RX5 32 "WaveWalkModel" "wave" "[J", Cond.fieldLink RX5 36 "WaveWalkModel" "next" "[J", Cond.fieldLink RX5 39 "WaveWalkModel" "classes" "[I", Cond.fieldLink RX5 42 "WaveWalkModel" "parted" "[I", Cond.methodLink RL 80 yX4_net, Cond.instanceMethod yX4_net, Cond.selects RX4 yX4_net yX4_net, Cond.code yX4_net cX4_net 4 (some .int), Cond.instantiable RX1 7, Cond.initialized RX1, Cond.methodLink RX4 42 yX1_init, Cond.instanceMethod yX1_init, Cond.code yX1_init cX1_init 4 none, Cond.methodLink RX1 3 objectInit, Cond.fieldLink RX1 9 "WaveWalk$Net" "ledTo" "[I", Cond.fieldLink RX1 15 "WaveWalk$Net" "marked" "[Z", Cond.fieldLink RX1 19 "WaveWalk$Net" "hasWalks" "Z", Cond.fieldLink RX1 23 "WaveWalk$Net" "places" "I", Cond.fieldLink RX1 27 "WaveWalk$Net" "doors" "I", Cond.fieldLink RX1 30 "WaveWalk$Net" "scale" "I", Cond.constantLong RX1 33 (2305843009213693952)]
def wsL_law0_r4 : List Cond := [Cond.fieldLink RX1 35 "WaveWalk$Net" "heaviestToStep" "J", Cond.constantLong RX1 39 (512409557603043100), Cond.constantLong RX1 41 (1152921504606846976), Cond.methodLink RL 83 yX5_net, Cond.instanceMethod yX5_net, Cond.selects RX5 yX5_net yX5_net, Cond.code yX5_net cX5_net 4 (some .int), Cond.fieldLink RX5 45 "WaveWalkModel" "thrown" "I", Cond.fieldLink RX5 49 "WaveWalkModel" "nets" "I", Cond.methodLink RL 84 yL_join, Cond.static yL_join, Cond.initialized RL, Cond.codeWith yL_join cL_join 8 (some .int) [(0, 23, 26, 13)], Cond.classLink RL 13 "java/util/NoSuchElementException", Cond.methodLink RL 7 yX4_join, Cond.instanceMethod yX4_join, Cond.selects RX4 yX4_join yX4_join, Cond.code yX4_join cX4_join 9 (some .boolean), Cond.fieldLink RX4 53 "WaveWalk$Net" "hasWalks" "Z", Cond.methodLink RX4 45 yX4_netOf, Cond.instanceMethod yX4_netOf, Cond.selects RX4 yX4_netOf yX4_netOf, Cond.code yX4_netOf cX4_netOf 3 (some (.object "WaveWalk$Net")), Cond.classLink RX4 141 "java/util/NoSuchElementException"]
def wsL_law0_r5 : List Cond := [Cond.initialized "java/util/NoSuchElementException", Cond.methodLink RX4 49 yX4_cellOf, Cond.static yX4_cellOf, Cond.code yX4_cellOf cX4_cellOf 3 (some .int), Cond.fieldLink RX4 193 "WaveWalk$Net" "doors" "I", Cond.methodLink RX4 64 yX4_needPlace, Cond.static yX4_needPlace, Cond.code yX4_needPlace cX4_needPlace 2 none, Cond.fieldLink RX4 188 "WaveWalk$Net" "places" "I", Cond.methodLink RX4 57 yX1_joinCells, Cond.instanceMethod yX1_joinCells, Cond.selects RX1 yX1_joinCells yX1_joinCells, Cond.code yX1_joinCells cX1_joinCells 5 none, Cond.methodLink RL 89 yX5_join, Cond.instanceMethod yX5_join, Cond.selects RX5 yX5_join yX5_join, Cond.code yX5_join cX5_join 10 (some .boolean), Cond.methodLink RX5 56 yX5_isNet, Cond.instanceMethod yX5_isNet, Cond.selects RX5 yX5_isNet yX5_isNet, Cond.code yX5_isNet cX5_isNet 2 (some .boolean), Cond.methodLink RX5 52 yX5_right, Cond.instanceMethod yX5_right, Cond.selects RX5 yX5_right yX5_right]
def wsL_law0_r6 : List Cond := [Cond.code yX5_right cX5_right 3 (some .boolean), Cond.methodLink RX5 60 yX5_isDoor, Cond.instanceMethod yX5_isDoor, Cond.selects RX5 yX5_isDoor yX5_isDoor, Cond.code yX5_isDoor cX5_isDoor 4 (some .boolean), Cond.methodLink RL 90 yX5_thrown, Cond.instanceMethod yX5_thrown, Cond.selects RX5 yX5_thrown yX5_thrown, Cond.code yX5_thrown cX5_thrown 1 (some .int), Cond.methodLink RL 94 yL_leads, Cond.static yL_leads, Cond.codeWith yL_leads cL_leads 6 (some .int) [(0, 12, 15, 13)], Cond.methodLink RL 15 yX4_leads, Cond.instanceMethod yX4_leads, Cond.selects RX4 yX4_leads yX4_leads, Cond.code yX4_leads cX4_leads 5 (some .int), Cond.fieldLink RX4 60 "WaveWalk$Net" "ledTo" "[I", Cond.methodLink RL 97 yX5_leads, Cond.instanceMethod yX5_leads, Cond.selects RX5 yX5_leads yX5_leads, Cond.code yX5_leads cX5_leads 4 (some .int), Cond.methodLink RL 98 yL_mark, Cond.static yL_mark, Cond.codeWith yL_mark cL_mark 6 (some .int) [(0, 19, 22, 13)]]
def wsL_law0_r7 : List Cond := [Cond.methodLink RL 19 yX4_mark, Cond.instanceMethod yX4_mark, Cond.selects RX4 yX4_mark yX4_mark, Cond.code yX4_mark cX4_mark 5 (some .boolean), Cond.fieldLink RX4 68 "WaveWalk$Net" "marked" "[Z", Cond.methodLink RL 101 yX5_mark, Cond.instanceMethod yX5_mark, Cond.selects RX5 yX5_mark yX5_mark, Cond.code yX5_mark cX5_mark 4 (some .boolean), Cond.methodLink RL 102 yL_alike, Cond.static yL_alike, Cond.codeWith yL_alike cL_alike 5 (some .int) [(0, 10, 13, 13)], Cond.methodLink RL 23 yX4_alike, Cond.instanceMethod yX4_alike, Cond.selects RX4 yX4_alike yX4_alike, Cond.code yX4_alike cX4_alike 4 (some .int), Cond.fieldLink RX4 76 "WaveWalk$Classes" "number" "I", Cond.fieldLink RX4 79 "WaveWalk$Classes" "ofPlace" "[I", Cond.methodLink RX4 72 yX0_partAll, Cond.instanceMethod yX0_partAll, Cond.selects RX0 yX0_partAll yX0_partAll, Cond.code yX0_partAll cX0_partAll 4 none, Cond.fieldLink RX0 23 "WaveWalk$Net" "places" "I", Cond.fieldLink RX0 28 "WaveWalk$Net" "marked" "[Z"]
def wsL_law0_r8 : List Cond := [Cond.methodLink RX0 32 yX0_numberByKeys, Cond.instanceMethod yX0_numberByKeys, Cond.selects RX0 yX0_numberByKeys yX0_numberByKeys, Cond.code yX0_numberByKeys cX0_numberByKeys 4 none, Cond.methodLink RX0 36 yX0_keyByDoors, Cond.instanceMethod yX0_keyByDoors, Cond.selects RX0 yX0_keyByDoors yX0_keyByDoors, Cond.code yX0_keyByDoors cX0_keyByDoors 7 none, Cond.fieldLink RX0 40 "WaveWalk$Net" "doors" "I", Cond.fieldLink RX0 43 "WaveWalk$Net" "ledTo" "[I", Cond.methodLink RL 105 yX5_alike, Cond.instanceMethod yX5_alike, Cond.selects RX5 yX5_alike yX5_alike, Cond.code yX5_alike cX5_alike 4 (some .int), Cond.methodLink RX5 71 yX5_finds, Cond.instanceMethod yX5_finds, Cond.selects RX5 yX5_finds yX5_finds, Cond.code yX5_finds cX5_finds 6 (some .int), Cond.methodLink RX5 68 yX5_areAlike, Cond.instanceMethod yX5_areAlike, Cond.selects RX5 yX5_areAlike yX5_areAlike, Cond.code yX5_areAlike cX5_areAlike 5 (some .boolean), Cond.methodLink RX5 64 yX5_many, Cond.instanceMethod yX5_many]
def wsL_law0_r9 : List Cond := [Cond.selects RX5 yX5_many yX5_many, Cond.code yX5_many cX5_many 6 (some .int), Cond.methodLink RL 106 yL_walk, Cond.static yL_walk, Cond.codeWith yL_walk cL_walk 4 (some .int) [(0, 9, 12, 13)], Cond.methodLink RL 27 yX4_walk, Cond.instanceMethod yX4_walk, Cond.selects RX4 yX4_walk yX4_walk, Cond.code yX4_walk cX4_walk 3 (some .int), Cond.instantiable RX2 3, Cond.initialized RX2, Cond.methodLink RX4 82 yX2_init, Cond.instanceMethod yX2_init, Cond.code yX2_init cX2_init 3 none, Cond.methodLink RX2 1 objectInit, Cond.classLink RX2 7 RX3, Cond.fieldLink RX2 10 "WaveWalk$Walk" "wave" "LWaveWalk$Wave;", Cond.fieldLink RX2 16 "WaveWalk$Walk" "netNumber" "I", Cond.fieldLink RX2 20 "WaveWalk$Walk" "net" "LWaveWalk$Net;", Cond.methodLink RL 109 yX5_walk, Cond.instanceMethod yX5_walk, Cond.selects RX5 yX5_walk yX5_walk, Cond.code yX5_walk cX5_walk 2 (some .int), Cond.fieldLink RX5 75 "WaveWalkModel" "walks" "I"]
def wsL_law0_r10 : List Cond := [Cond.methodLink RL 110 yL_set, Cond.static yL_set, Cond.codeWith yL_set cL_set 7 (some .int) [(0, 21, 24, 13), (0, 21, 28, 35)], Cond.classLink RL 35 "java/lang/IllegalArgumentException", Cond.methodLink RL 31 yX4_set, Cond.instanceMethod yX4_set, Cond.selects RX4 yX4_set yX4_set, Cond.code yX4_set cX4_set 7 (some .boolean), Cond.fieldLink RX4 89 "WaveWalk$Walk" "net" "LWaveWalk$Net;", Cond.fieldLink RX4 97 "WaveWalk$Walk" "wave" "LWaveWalk$Wave;", Cond.fieldLink RX4 104 "WaveWalk$Wave" "numbers" "[J", Cond.fieldLink RX4 108 "WaveWalk$Wave" "time" "I", Cond.methodLink RX4 85 yX4_walkOf, Cond.instanceMethod yX4_walkOf, Cond.selects RX4 yX4_walkOf yX4_walkOf, Cond.code yX4_walkOf cX4_walkOf 3 (some (.object "WaveWalk$Walk")), Cond.methodLink RX4 93 yX4_needTold, Cond.static yX4_needTold, Cond.code yX4_needTold cX4_needTold 1 none, Cond.classLink RX4 177 "java/lang/IllegalArgumentException", Cond.initialized "java/lang/IllegalArgumentException", Cond.methodLink RX4 198 yX4_isTold, Cond.static yX4_isTold, Cond.code yX4_isTold cX4_isTold 2 (some .boolean)]
def wsL_law0_r11 : List Cond := [Cond.constantLong RX4 206 (-100), Cond.constantLong RX4 208 (100), Cond.methodLink RX4 100 yX3_isToldBut, Cond.instanceMethod yX3_isToldBut, Cond.selects RX3 yX3_isToldBut yX3_isToldBut, Cond.code yX3_isToldBut cX3_isToldBut 3 (some .boolean), Cond.methodLink RL 113 yX5_set, Cond.instanceMethod yX5_set, Cond.selects RX5 yX5_set yX5_set, Cond.code yX5_set cX5_set 6 (some .boolean), Cond.methodLink RX5 82 yX5_isWalk, Cond.instanceMethod yX5_isWalk, Cond.selects RX5 yX5_isWalk yX5_isWalk, Cond.code yX5_isWalk cX5_isWalk 2 (some .boolean), Cond.methodLink RX5 85 yX5_isSmall, Cond.static yX5_isSmall, Cond.code yX5_isSmall cX5_isSmall 2 (some .boolean), Cond.constantLong RX5 78 (-100), Cond.constantLong RX5 80 (100), Cond.methodLink RL 114 yL_spread, Cond.static yL_spread, Cond.codeWith yL_spread cL_spread 4 (some .int) [(0, 6, 9, 13), (0, 6, 12, 35)], Cond.methodLink RL 37 yX4_spread, Cond.instanceMethod yX4_spread]
def wsL_law0_r12 : List Cond := [Cond.selects RX4 yX4_spread yX4_spread, Cond.code yX4_spread cX4_spread 4 none, Cond.methodLink RX4 111 yX3_fillAll, Cond.instanceMethod yX3_fillAll, Cond.selects RX3 yX3_fillAll yX3_fillAll, Cond.code yX3_fillAll cX3_fillAll 5 none, Cond.fieldLink RX3 25 "WaveWalk$Net" "places" "I", Cond.fieldLink RX3 30 "WaveWalk$Net" "doors" "I", Cond.methodLink RL 117 yX5_spread, Cond.instanceMethod yX5_spread, Cond.selects RX5 yX5_spread yX5_spread, Cond.code yX5_spread cX5_spread 5 none, Cond.methodLink RL 118 yL_step, Cond.static yL_step, Cond.codeWith yL_step cL_step 5 (some .int) [(0, 10, 13, 13), (0, 10, 17, 35)], Cond.methodLink RL 41 yX4_step, Cond.instanceMethod yX4_step, Cond.selects RX4 yX4_step yX4_step, Cond.code yX4_step cX4_step 6 (some .int), Cond.methodLink RX4 114 yX4_needSteps, Cond.static yX4_needSteps, Cond.code yX4_needSteps cX4_needSteps 1 none, Cond.methodLink RX4 117 yX3_squares, Cond.instanceMethod yX3_squares]
def wsL_law0_r13 : List Cond := [Cond.selects RX3 yX3_squares yX3_squares, Cond.code yX3_squares cX3_squares 4 (some .long), Cond.methodLink RX3 37 yX3_squaresAt, Cond.instanceMethod yX3_squaresAt, Cond.selects RX3 yX3_squaresAt yX3_squaresAt, Cond.code yX3_squaresAt cX3_squaresAt 6 (some .long), Cond.methodLink RX4 121 yX3_stepsLeft, Cond.instanceMethod yX3_stepsLeft, Cond.selects RX3 yX3_stepsLeft yX3_stepsLeft, Cond.code yX3_stepsLeft cX3_stepsLeft 5 (some .int), Cond.fieldLink RX3 49 "WaveWalk$Net" "heaviestToStep" "J", Cond.fieldLink RX3 53 "WaveWalk$Net" "scale" "I", Cond.methodLink RX3 45 yX3_squares, Cond.methodLink RX4 125 yX3_doStep, Cond.instanceMethod yX3_doStep, Cond.selects RX3 yX3_doStep yX3_doStep, Cond.code yX3_doStep cX3_doStep 3 none, Cond.methodLink RX3 56 yX3_changeSigns, Cond.instanceMethod yX3_changeSigns, Cond.selects RX3 yX3_changeSigns yX3_changeSigns, Cond.code yX3_changeSigns cX3_changeSigns 5 none, Cond.fieldLink RX3 41 "WaveWalk$Net" "marked" "[Z", Cond.methodLink RX3 60 yX3_turnAt, Cond.instanceMethod yX3_turnAt]
def wsL_law0_r14 : List Cond := [Cond.selects RX3 yX3_turnAt yX3_turnAt, Cond.code yX3_turnAt cX3_turnAt 8 none, Cond.constantLong RX3 70 (2), Cond.constantLong RX3 72 (3), Cond.methodLink RX3 64 yX3_goThroughDoors, Cond.instanceMethod yX3_goThroughDoors, Cond.selects RX3 yX3_goThroughDoors yX3_goThroughDoors, Cond.code yX3_goThroughDoors cX3_goThroughDoors 6 none, Cond.fieldLink RX3 78 "WaveWalk$Net" "ledTo" "[I", Cond.methodLink RL 120 yX5_step, Cond.instanceMethod yX5_step, Cond.selects RX5 yX5_step yX5_step, Cond.code yX5_step cX5_step 4 (some .int), Cond.methodLink RX5 116 yX5_isMany, Cond.static yX5_isMany, Cond.code yX5_isMany cX5_isMany 1 (some .boolean), Cond.methodLink RX5 93 yX5_weight, Cond.instanceMethod yX5_weight, Cond.selects RX5 yX5_weight yX5_weight, Cond.code yX5_weight cX5_weight 5 (some .long), Cond.methodLink RX5 89 yX5_shareOf, Cond.instanceMethod yX5_shareOf, Cond.selects RX5 yX5_shareOf yX5_shareOf, Cond.code yX5_shareOf cX5_shareOf 6 (some .long)]
def wsL_law0_r15 : List Cond := [Cond.methodLink RX5 119 yX5_copies, Cond.instanceMethod yX5_copies, Cond.selects RX5 yX5_copies yX5_copies, Cond.code yX5_copies cX5_copies 4 none, Cond.methodLink RX5 123 yX5_goesOn, Cond.instanceMethod yX5_goesOn, Cond.selects RX5 yX5_goesOn yX5_goesOn, Cond.code yX5_goesOn cX5_goesOn 2 (some .boolean), Cond.constantLong RX5 97 (4611686018427387904), Cond.methodLink RX5 99 yX5_scale, Cond.instanceMethod yX5_scale, Cond.selects RX5 yX5_scale yX5_scale, Cond.code yX5_scale cX5_scale 3 (some .int), Cond.methodLink RX5 126 yX5_steps, Cond.instanceMethod yX5_steps, Cond.selects RX5 yX5_steps yX5_steps, Cond.code yX5_steps cX5_steps 2 none, Cond.methodLink RX5 106 yX5_signs, Cond.instanceMethod yX5_signs, Cond.selects RX5 yX5_signs yX5_signs, Cond.code yX5_signs cX5_signs 4 none, Cond.methodLink RX5 110 yX5_turns, Cond.instanceMethod yX5_turns, Cond.selects RX5 yX5_turns yX5_turns]
def wsL_law0_r16 : List Cond := [Cond.code yX5_turns cX5_turns 10 none, Cond.constantLong RX5 102 (2), Cond.constantLong RX5 104 (3), Cond.methodLink RX5 113 yX5_goes, Cond.instanceMethod yX5_goes, Cond.selects RX5 yX5_goes yX5_goes, Cond.code yX5_goes cX5_goes 3 none, Cond.methodLink RL 121 yL_back, Cond.static yL_back, Cond.codeWith yL_back cL_back 5 (some .int) [(0, 10, 13, 13), (0, 10, 17, 35)], Cond.methodLink RL 44 yX4_back, Cond.instanceMethod yX4_back, Cond.selects RX4 yX4_back yX4_back, Cond.code yX4_back cX4_back 6 (some .int), Cond.methodLink RX4 128 yX3_undoStep, Cond.instanceMethod yX3_undoStep, Cond.selects RX3 yX3_undoStep yX3_undoStep, Cond.code yX3_undoStep cX3_undoStep 3 none, Cond.methodLink RX3 67 yX3_lessenAt, Cond.instanceMethod yX3_lessenAt, Cond.selects RX3 yX3_lessenAt yX3_lessenAt, Cond.code yX3_lessenAt cX3_lessenAt 5 none, Cond.constantLong RX3 74 (9), Cond.constantLong RX3 76 (4)]
def wsL_law0_r17 : List Cond := [Cond.methodLink RL 123 yX5_back, Cond.instanceMethod yX5_back, Cond.selects RX5 yX5_back yX5_back, Cond.code yX5_back cX5_back 5 (some .int), Cond.methodLink RL 124 yL_at, Cond.static yL_at, Cond.codeWith yL_at cL_at 6 (some .int) [(0, 11, 14, 13)], Cond.methodLink RL 47 yX4_at, Cond.instanceMethod yX4_at, Cond.selects RX4 yX4_at yX4_at, Cond.code yX4_at cX4_at 5 (some .long), Cond.methodLink RL 126 yX5_at, Cond.instanceMethod yX5_at, Cond.selects RX5 yX5_at yX5_at, Cond.code yX5_at cX5_at 4 (some .long), Cond.methodLink RL 127 yL_share, Cond.static yL_share, Cond.codeWith yL_share cL_share 5 (some .int) [(0, 9, 12, 13)], Cond.methodLink RL 51 yX4_share, Cond.instanceMethod yX4_share, Cond.selects RX4 yX4_share yX4_share, Cond.code yX4_share cX4_share 4 (some .long), Cond.methodLink RX4 131 yX3_squaresAt, Cond.methodLink RL 129 yX5_share]
def wsL_law0_r18 : List Cond := [Cond.instanceMethod yX5_share, Cond.selects RX5 yX5_share yX5_share, Cond.code yX5_share cX5_share 3 (some .long), Cond.methodLink RX5 129 yX5_isIn, Cond.instanceMethod yX5_isIn, Cond.selects RX5 yX5_isIn yX5_isIn, Cond.code yX5_isIn cX5_isIn 3 (some .boolean), Cond.methodLink RL 130 yL_of, Cond.static yL_of, Cond.codeWith yL_of cL_of 5 (some .int) [(0, 10, 13, 13)], Cond.methodLink RL 55 yX4_of, Cond.instanceMethod yX4_of, Cond.selects RX4 yX4_of yX4_of, Cond.code yX4_of cX4_of 4 (some .int), Cond.fieldLink RX4 135 "WaveWalk$Walk" "netNumber" "I", Cond.fieldLink RX4 138 "WaveWalk$Net" "scale" "I", Cond.methodLink RL 132 yX5_of, Cond.instanceMethod yX5_of, Cond.selects RX5 yX5_of yX5_of, Cond.code yX5_of cX5_of 3 (some .int), Cond.methodLink RL 133 yL_arrives, Cond.static yL_arrives, Cond.codeWith yL_arrives cL_arrives 6 (some .int) [(0, 12, 15, 13), (0, 12, 19, 35)], Cond.methodLink RL 58 yX4_arrives]
def wsL_law0_r19 : List Cond := [Cond.instanceMethod yX4_arrives, Cond.selects RX4 yX4_arrives yX4_arrives, Cond.code yX4_arrives cX4_arrives 7 (some .int), Cond.methodLink RX4 148 Lib.Math.min.name, Cond.static Lib.Math.min.name, Cond.initialized "java/lang/Math", Cond.code Lib.Math.min.name Lib.Math.min.code 2 (some .int), Cond.methodLink RX4 154 yX3_becomeLike, Cond.instanceMethod yX3_becomeLike, Cond.selects RX3 yX3_becomeLike yX3_becomeLike, Cond.code yX3_becomeLike cX3_becomeLike 2 none, Cond.methodLink RX3 19 arraycopyName, Cond.native arraycopyName, Cond.static arraycopyName, Cond.initialized "java/lang/System", Cond.methodLink RX4 158 yX3_isAllAt, Cond.instanceMethod yX3_isAllAt, Cond.selects RX3 yX3_isAllAt yX3_isAllAt, Cond.code yX3_isAllAt cX3_isAllAt 4 (some .boolean), Cond.methodLink RL 135 yX5_arrives, Cond.instanceMethod yX5_arrives, Cond.selects RX5 yX5_arrives yX5_arrives, Cond.code yX5_arrives cX5_arrives 7 (some .int), Cond.methodLink RL 136 yL_returns]
def wsL_law0_r20 : List Cond := [Cond.static yL_returns, Cond.codeWith yL_returns cL_returns 5 (some .int) [(0, 10, 13, 13), (0, 10, 17, 35)], Cond.methodLink RL 61 yX4_returns, Cond.instanceMethod yX4_returns, Cond.selects RX4 yX4_returns yX4_returns, Cond.code yX4_returns cX4_returns 6 (some .int), Cond.methodLink RX4 161 yX3_isMultipleOf, Cond.instanceMethod yX3_isMultipleOf, Cond.selects RX3 yX3_isMultipleOf yX3_isMultipleOf, Cond.code yX3_isMultipleOf cX3_isMultipleOf 4 (some .boolean), Cond.methodLink RL 138 yX5_returns, Cond.instanceMethod yX5_returns, Cond.selects RX5 yX5_returns yX5_returns, Cond.code yX5_returns cX5_returns 4 (some .int), Cond.methodLink RX5 133 yX5_isMultiple, Cond.instanceMethod yX5_isMultiple, Cond.selects RX5 yX5_isMultiple yX5_isMultiple, Cond.code yX5_isMultiple cX5_isMultiple 6 (some .boolean), Cond.methodLink RL 139 yL_best, Cond.static yL_best, Cond.codeWith yL_best cL_best 5 (some .int) [(0, 10, 13, 13), (0, 10, 17, 35)], Cond.methodLink RL 64 yX4_best, Cond.instanceMethod yX4_best, Cond.selects RX4 yX4_best yX4_best]
def wsL_law0_r21 : List Cond := [Cond.code yX4_best cX4_best 11 (some .int), Cond.methodLink RX4 165 yX3_squaresAtMarked, Cond.instanceMethod yX3_squaresAtMarked, Cond.selects RX3 yX3_squaresAtMarked yX3_squaresAtMarked, Cond.code yX3_squaresAtMarked cX3_squaresAtMarked 5 (some .long), Cond.methodLink RL 141 yX5_best, Cond.instanceMethod yX5_best, Cond.selects RX5 yX5_best yX5_best, Cond.code yX5_best cX5_best 7 (some .int), Cond.methodLink RX5 136 yX5_marked, Cond.instanceMethod yX5_marked, Cond.selects RX5 yX5_marked yX5_marked, Cond.code yX5_marked cX5_marked 5 (some .long), Cond.methodLink RL 142 yL_mean, Cond.static yL_mean, Cond.codeWith yL_mean cL_mean 6 (some .int) [(0, 11, 14, 13), (0, 11, 18, 35)], Cond.methodLink RL 67 yX4_mean, Cond.instanceMethod yX4_mean, Cond.selects RX4 yX4_mean yX4_mean, Cond.code yX4_mean cX4_mean 10 (some .long), Cond.constantLong RX4 169 (-1), Cond.fieldLink RX4 171 "WaveWalk$Net" "heaviestToStep" "J", Cond.constantLong RX4 175 (4611686018427387904), Cond.methodLink RL 144 yX5_mean]
def wsL_law0_r22 : List Cond := [Cond.instanceMethod yX5_mean, Cond.selects RX5 yX5_mean yX5_mean, Cond.code yX5_mean cX5_mean 10 (some .long), Cond.constantLong RX5 139 (-1), Cond.methodLink RL 145 yL_copy, Cond.static yL_copy, Cond.codeWith yL_copy cL_copy 4 (some .int) [(0, 6, 9, 13), (0, 6, 12, 35)], Cond.methodLink RL 70 yX4_copy, Cond.instanceMethod yX4_copy, Cond.selects RX4 yX4_copy yX4_copy, Cond.code yX4_copy cX4_copy 5 none, Cond.methodLink RL 147 yX5_copy, Cond.instanceMethod yX5_copy, Cond.selects RX5 yX5_copy yX5_copy, Cond.code yX5_copy cX5_copy 3 none, Cond.methodLink RL 148 yL_count, Cond.static yL_count, Cond.codeWith yL_count cL_count 4 (some .int) [(0, 9, 12, 13)], Cond.methodLink RL 73 yX4_count, Cond.instanceMethod yX4_count, Cond.selects RX4 yX4_count yX4_count, Cond.code yX4_count cX4_count 2 (some .int), Cond.methodLink RL 150 yX5_count, Cond.instanceMethod yX5_count]
def wsL_law0_r23 : List Cond := [Cond.selects RX5 yX5_count yX5_count, Cond.code yX5_count cX5_count 2 (some .int)]
def wsL_law0 : List Cond := (wsL_law0_r1 ++ (wsL_law0_r2 ++ (wsL_law0_r3 ++ (wsL_law0_r4 ++ (wsL_law0_r5 ++ (wsL_law0_r6 ++ (wsL_law0_r7 ++ (wsL_law0_r8 ++ (wsL_law0_r9 ++ (wsL_law0_r10 ++ (wsL_law0_r11 ++ (wsL_law0_r12 ++ (wsL_law0_r13 ++ (wsL_law0_r14 ++ (wsL_law0_r15 ++ (wsL_law0_r16 ++ (wsL_law0_r17 ++ (wsL_law0_r18 ++ (wsL_law0_r19 ++ (wsL_law0_r20 ++ (wsL_law0_r21 ++ (wsL_law0_r22 ++ wsL_law0_r23)))))))))))))))))))))) ++ wsX40 ++ wsX50 ++ wsX30 ++ wsX00 ++ wsX10 ++ wsX20 ++ ([] : List Cond)
def wsL_law : List Cond := wsL_law0 ++ (na_at RX4 145).filter goodWord ++ (vx_atS RX4 181 "java/lang/IllegalArgumentException" ["java/lang/RuntimeException", "java/lang/Exception"]).filter goodWord
abbrev vwCl : List vw_C := [(RX0, TX0, 3), (RX1, TX1, 7), (RX2, TX2, 3), (RX3, TX3, 2), (RX4, TX4, 6), (RX5, TX5, 14)]
end
section
set_option maxRecDepth 20000 in
theorem wsL_law_i1 : ∀ w ∈ wsL_law0_r1, w ∈ lw_tbl := fun w h => (goodIn_p wsL_law0_r1 [40, 43] (by decide +kernel) (by decide +kernel) w h).1
set_option maxRecDepth 20000 in
theorem wsL_law_i2 : ∀ w ∈ wsL_law0_r2, w ∈ lw_tbl := fun w h => (goodIn_p wsL_law0_r2 [52, 68, 512] (by decide +kernel) (by decide +kernel) w h).1
set_option maxRecDepth 20000 in
theorem wsL_law_i3 : ∀ w ∈ wsL_law0_r3, w ∈ lw_tbl := fun w h => (goodIn_p wsL_law0_r3 [105, 109] (by decide +kernel) (by decide +kernel) w h).1
set_option maxRecDepth 20000 in
theorem wsL_law_i4 : ∀ w ∈ wsL_law0_r4, w ∈ lw_tbl := fun w h => (goodIn_p wsL_law0_r4 [564, 161, 165] (by decide +kernel) (by decide +kernel) w h).1
set_option maxRecDepth 20000 in
theorem wsL_law_i5 : ∀ w ∈ wsL_law0_r5, w ∈ lw_tbl := fun w h => (goodIn_p wsL_law0_r5 [235, 238, 244, 568, 572] (by decide +kernel) (by decide +kernel) w h).1
set_option maxRecDepth 20000 in
theorem wsL_law_i6 : ∀ w ∈ wsL_law0_r6, w ∈ lw_tbl := fun w h => (goodIn_p wsL_law0_r6 [576, 580, 560, 251, 584] (by decide +kernel) (by decide +kernel) w h).1
set_option maxRecDepth 20000 in
theorem wsL_law_i7 : ∀ w ∈ wsL_law0_r7, w ∈ lw_tbl := fun w h => (goodIn_p wsL_law0_r7 [258, 588, 265, 269] (by decide +kernel) (by decide +kernel) w h).1
set_option maxRecDepth 20000 in
theorem wsL_law_i8 : ∀ w ∈ wsL_law0_r8, w ∈ lw_tbl := fun w h => (goodIn_p wsL_law0_r8 [273, 277, 592, 596, 600] (by decide +kernel) (by decide +kernel) w h).1
set_option maxRecDepth 20000 in
theorem wsL_law_i9 : ∀ w ∈ wsL_law0_r9, w ∈ lw_tbl := fun w h => (goodIn_p wsL_law0_r9 [604, 284, 288, 608] (by decide +kernel) (by decide +kernel) w h).1
set_option maxRecDepth 20000 in
theorem wsL_law_i10 : ∀ w ∈ wsL_law0_r10, w ∈ lw_tbl := fun w h => (goodIn_p wsL_law0_r10 [312, 316, 320, 323] (by decide +kernel) (by decide +kernel) w h).1
set_option maxRecDepth 20000 in
theorem wsL_law_i11 : ∀ w ∈ wsL_law0_r11, w ∈ lw_tbl := fun w h => (goodIn_p wsL_law0_r11 [345, 612, 616, 619] (by decide +kernel) (by decide +kernel) w h).1
set_option maxRecDepth 20000 in
theorem wsL_law_i12 : ∀ w ∈ wsL_law0_r12, w ∈ lw_tbl := fun w h => (goodIn_p wsL_law0_r12 [353, 357, 625, 364, 367] (by decide +kernel) (by decide +kernel) w h).1
set_option maxRecDepth 20000 in
theorem wsL_law_i13 : ∀ w ∈ wsL_law0_r13, w ∈ lw_tbl := fun w h => (goodIn_p wsL_law0_r13 [372, 376, 380, 385, 389] (by decide +kernel) (by decide +kernel) w h).1
set_option maxRecDepth 20000 in
theorem wsL_law_i14 : ∀ w ∈ wsL_law0_r14, w ∈ lw_tbl := fun w h => (goodIn_p wsL_law0_r14 [393, 399, 629, 632, 636, 640] (by decide +kernel) (by decide +kernel) w h).1
set_option maxRecDepth 20000 in
theorem wsL_law_i15 : ∀ w ∈ wsL_law0_r15, w ∈ lw_tbl := fun w h => (goodIn_p wsL_law0_r15 [644, 648, 653, 657, 661] (by decide +kernel) (by decide +kernel) w h).1
set_option maxRecDepth 20000 in
theorem wsL_law_i16 : ∀ w ∈ wsL_law0_r16, w ∈ lw_tbl := fun w h => (goodIn_p wsL_law0_r16 [665, 671, 406, 410, 414] (by decide +kernel) (by decide +kernel) w h).1
set_option maxRecDepth 20000 in
theorem wsL_law_i17 : ∀ w ∈ wsL_law0_r17, w ∈ lw_tbl := fun w h => (goodIn_p wsL_law0_r17 [675, 423, 679, 430] (by decide +kernel) (by decide +kernel) w h).1
set_option maxRecDepth 20000 in
theorem wsL_law_i18 : ∀ w ∈ wsL_law0_r18, w ∈ lw_tbl := fun w h => (goodIn_p wsL_law0_r18 [683, 687, 438, 691] (by decide +kernel) (by decide +kernel) w h).1
set_option maxRecDepth 20000 in
theorem wsL_law_i19 : ∀ w ∈ wsL_law0_r19, w ∈ lw_tbl := fun w h => (goodIn_p wsL_law0_r19 [446, 449, 453, 460, 695] (by decide +kernel) (by decide +kernel) w h).1
set_option maxRecDepth 20000 in
theorem wsL_law_i20 : ∀ w ∈ wsL_law0_r20, w ∈ lw_tbl := fun w h => (goodIn_p wsL_law0_r20 [467, 471, 699, 703] (by decide +kernel) (by decide +kernel) w h).1
set_option maxRecDepth 20000 in
theorem wsL_law_i21 : ∀ w ∈ wsL_law0_r21, w ∈ lw_tbl := fun w h => (goodIn_p wsL_law0_r21 [478, 482, 707, 711, 489] (by decide +kernel) (by decide +kernel) w h).1
set_option maxRecDepth 20000 in
theorem wsL_law_i22 : ∀ w ∈ wsL_law0_r22, w ∈ lw_tbl := fun w h => (goodIn_p wsL_law0_r22 [715, 498, 720, 506] (by decide +kernel) (by decide +kernel) w h).1
set_option maxRecDepth 20000 in
theorem wsL_law_i23 : ∀ w ∈ wsL_law0_r23, w ∈ lw_tbl := fun w h => (goodIn_p wsL_law0_r23 [724] (by decide +kernel) (by decide +kernel) w h).1
set_option maxRecDepth 20000 in
theorem wsL_law_j4 : ∀ w ∈ wsX40, w ∈ lw_tbl := fun w h => (goodIn_p wsX40 [] (by decide +kernel) (by decide +kernel) w h).1
set_option maxRecDepth 20000 in
theorem wsL_law_j5 : ∀ w ∈ wsX50, w ∈ lw_tbl := fun w h => (goodIn_p wsX50 [] (by decide +kernel) (by decide +kernel) w h).1
set_option maxRecDepth 20000 in
theorem wsL_law_j3 : ∀ w ∈ wsX30, w ∈ lw_tbl := fun w h => (goodIn_p wsX30 [] (by decide +kernel) (by decide +kernel) w h).1
set_option maxRecDepth 20000 in
theorem wsL_law_j0 : ∀ w ∈ wsX00, w ∈ lw_tbl := fun w h => (goodIn_p wsX00 [] (by decide +kernel) (by decide +kernel) w h).1
set_option maxRecDepth 20000 in
theorem wsL_law_j1 : ∀ w ∈ wsX10, w ∈ lw_tbl := fun w h => (goodIn_p wsX10 [] (by decide +kernel) (by decide +kernel) w h).1
set_option maxRecDepth 20000 in
theorem wsL_law_j2 : ∀ w ∈ wsX20, w ∈ lw_tbl := fun w h => (goodIn_p wsX20 [] (by decide +kernel) (by decide +kernel) w h).1
theorem wsL_law_jn : ∀ w ∈ ([] : List Cond), w ∈ lw_tbl := fun _ h => nomatch h
theorem wsL_or {a b t : List Cond} (h1 : ∀ w ∈ a, w ∈ t) (h2 : ∀ w ∈ b, w ∈ t) : ∀ w ∈ a ++ b, w ∈ t := fun w h => (List.mem_append.mp h).elim (h1 w) (h2 w)
theorem wsL_law_in0 : ∀ w ∈ wsL_law0, w ∈ lw_tbl := wsL_or (wsL_or (wsL_or (wsL_or (wsL_or (wsL_or (wsL_or (wsL_or wsL_law_i1 (wsL_or wsL_law_i2 (wsL_or wsL_law_i3 (wsL_or wsL_law_i4 (wsL_or wsL_law_i5 (wsL_or wsL_law_i6 (wsL_or wsL_law_i7 (wsL_or wsL_law_i8 (wsL_or wsL_law_i9 (wsL_or wsL_law_i10 (wsL_or wsL_law_i11 (wsL_or wsL_law_i12 (wsL_or wsL_law_i13 (wsL_or wsL_law_i14 (wsL_or wsL_law_i15 (wsL_or wsL_law_i16 (wsL_or wsL_law_i17 (wsL_or wsL_law_i18 (wsL_or wsL_law_i19 (wsL_or wsL_law_i20 (wsL_or wsL_law_i21 (wsL_or wsL_law_i22 wsL_law_i23)))))))))))))))))))))) wsL_law_j4) wsL_law_j5) wsL_law_j3) wsL_law_j0) wsL_law_j1) wsL_law_j2) wsL_law_jn
end
section
set_option maxRecDepth 20000 in
theorem wsL_law_x0 : ∀ w ∈ (na_at RX4 145).filter goodWord, w ∈ lw_tbl := by decide +kernel
set_option maxRecDepth 20000 in
theorem wsL_law_x1 : ∀ w ∈ (vx_atS RX4 181 "java/lang/IllegalArgumentException" ["java/lang/RuntimeException", "java/lang/Exception"]).filter goodWord, w ∈ lw_tbl := by decide +kernel
theorem wsL_law_in : ∀ w ∈ wsL_law, w ∈ lw_tbl := fun w h => (List.mem_append.mp h).elim (fun h => (List.mem_append.mp h).elim (fun h => wsL_law_in0 w h) (fun h => wsL_law_x0 w h)) (fun h => wsL_law_x1 w h)
theorem inlX0 : ∀ w ∈ wsX00, w ∈ wsL_law := fun _ h => List.mem_append_left _ (List.mem_append_left _ (List.mem_append_left _ (List.mem_append_left _ (List.mem_append_left _ (List.mem_append_right _ h)))))
theorem inX0 : ∀ w ∈ wsX00, w ∈ lw_tbl := fun w h => wsL_law_in w (inlX0 w h)
theorem inlX1 : ∀ w ∈ wsX10, w ∈ wsL_law := fun _ h => List.mem_append_left _ (List.mem_append_left _ (List.mem_append_left _ (List.mem_append_left _ (List.mem_append_right _ h))))
theorem inX1 : ∀ w ∈ wsX10, w ∈ lw_tbl := fun w h => wsL_law_in w (inlX1 w h)
theorem inlX2 : ∀ w ∈ wsX20, w ∈ wsL_law := fun _ h => List.mem_append_left _ (List.mem_append_left _ (List.mem_append_left _ (List.mem_append_right _ h)))
theorem inX2 : ∀ w ∈ wsX20, w ∈ lw_tbl := fun w h => wsL_law_in w (inlX2 w h)
theorem inlX3 : ∀ w ∈ wsX30, w ∈ wsL_law := fun _ h => List.mem_append_left _ (List.mem_append_left _ (List.mem_append_left _ (List.mem_append_left _ (List.mem_append_left _ (List.mem_append_left _ (List.mem_append_right _ h))))))
theorem inX3 : ∀ w ∈ wsX30, w ∈ lw_tbl := fun w h => wsL_law_in w (inlX3 w h)
theorem inlX4 : ∀ w ∈ wsX40, w ∈ wsL_law := fun _ h => List.mem_append_left _ (List.mem_append_left _ (List.mem_append_left _ (List.mem_append_left _ (List.mem_append_left _ (List.mem_append_left _ (List.mem_append_left _ (List.mem_append_left _ (List.mem_append_right _ h))))))))
theorem inX4 : ∀ w ∈ wsX40, w ∈ lw_tbl := fun w h => wsL_law_in w (inlX4 w h)
theorem inlX5 : ∀ w ∈ wsX50, w ∈ wsL_law := fun _ h => List.mem_append_left _ (List.mem_append_left _ (List.mem_append_left _ (List.mem_append_left _ (List.mem_append_left _ (List.mem_append_left _ (List.mem_append_left _ (List.mem_append_right _ h)))))))
theorem inX5 : ∀ w ∈ wsX50, w ∈ lw_tbl := fun w h => wsL_law_in w (inlX5 w h)
theorem inJ9 : ∀ w ∈ wsJ90, w ∈ lw_tbl := by decide +kernel
theorem inJ0 : ∀ w ∈ wsJ00, w ∈ lw_tbl := by decide +kernel
theorem inJ10 : ∀ w ∈ wsJ100, w ∈ lw_tbl := by decide +kernel
end
section
theorem dX0_init_0 : decode cX0_init 0 = .ok (.aload_n 0, 1) := by decide +kernel
theorem dX0_init_1 : decode cX0_init 1 = .ok (.invokespecial 5, 3) := by decide +kernel
theorem dX0_init_4 : decode cX0_init 4 = .ok (.aload_n 0, 1) := by decide +kernel
theorem dX0_init_5 : decode cX0_init 5 = .ok (.bipush 12, 2) := by decide +kernel
theorem dX0_init_7 : decode cX0_init 7 = .ok (.newarray .int, 2) := by decide +kernel
theorem dX0_init_9 : decode cX0_init 9 = .ok (.putfield 11, 3) := by decide +kernel
theorem dX0_init_12 : decode cX0_init 12 = .ok (.aload_n 0, 1) := by decide +kernel
theorem dX0_init_13 : decode cX0_init 13 = .ok (.bipush 12, 2) := by decide +kernel
theorem dX0_init_15 : decode cX0_init 15 = .ok (.newarray .long, 2) := by decide +kernel
theorem dX0_init_17 : decode cX0_init 17 = .ok (.putfield 15, 3) := by decide +kernel
theorem dX0_init_20 : decode cX0_init 20 = .ok (.aload_n 0, 1) := by decide +kernel
theorem dX0_init_21 : decode cX0_init 21 = .ok (.iconst 0, 1) := by decide +kernel
theorem dX0_init_22 : decode cX0_init 22 = .ok (.putfield 19, 3) := by decide +kernel
theorem dX0_init_25 : decode cX0_init 25 = .ok (.return_, 1) := by decide +kernel
set_option maxRecDepth 20000 in
theorem ggX0_partAll_X0_numberByKeys : GoodIn wsX0_partAll wsX0_numberByKeys := goodIn_r _ [9, 4, 2, 10, 24, 25, 26] (by decide +kernel) (by decide +kernel)
set_option maxRecDepth 20000 in
theorem gX0_partAll_X0_numberByKeys : GoodIn wsX0_partAll (wsV RX0 32 RX0 yX0_numberByKeys wsX0_numberByKeys) := goodIn_app (goodIn_of _ (by decide +kernel)) ggX0_partAll_X0_numberByKeys
set_option maxRecDepth 20000 in
theorem ggX0_partAll_X0_keyByDoors : GoodIn wsX0_partAll wsX0_keyByDoors := goodIn_r _ [14, 1, 10, 15, 16, 2, 17, 18, 19, 20, 21, 22, 23, 24, 25, 26] (by decide +kernel) (by decide +kernel)
set_option maxRecDepth 20000 in
theorem gX0_partAll_X0_keyByDoors : GoodIn wsX0_partAll (wsV RX0 36 RX0 yX0_keyByDoors wsX0_keyByDoors) := goodIn_app (goodIn_of _ (by decide +kernel)) ggX0_partAll_X0_keyByDoors
theorem dX0_partAll_0 : decode cX0_partAll 0 = .ok (.iconst 0, 1) := by decide +kernel
theorem dX0_partAll_1 : decode cX0_partAll 1 = .ok (.istore_n 2, 1) := by decide +kernel
theorem dX0_partAll_2 : decode cX0_partAll 2 = .ok (.iload_n 2, 1) := by decide +kernel
theorem dX0_partAll_3 : decode cX0_partAll 3 = .ok (.aload_n 1, 1) := by decide +kernel
theorem dX0_partAll_4 : decode cX0_partAll 4 = .ok (.getfield 23, 3) := by decide +kernel
theorem dX0_partAll_7 : decode cX0_partAll 7 = .ok (.if_icmp .ge 29, 3) := by decide +kernel
theorem dX0_partAll_10 : decode cX0_partAll 10 = .ok (.aload_n 0, 1) := by decide +kernel
theorem dX0_partAll_11 : decode cX0_partAll 11 = .ok (.getfield 15, 3) := by decide +kernel
theorem dX0_partAll_14 : decode cX0_partAll 14 = .ok (.iload_n 2, 1) := by decide +kernel
theorem dX0_partAll_15 : decode cX0_partAll 15 = .ok (.aload_n 1, 1) := by decide +kernel
theorem dX0_partAll_16 : decode cX0_partAll 16 = .ok (.getfield 28, 3) := by decide +kernel
theorem dX0_partAll_19 : decode cX0_partAll 19 = .ok (.iload_n 2, 1) := by decide +kernel
theorem dX0_partAll_20 : decode cX0_partAll 20 = .ok (.baload, 1) := by decide +kernel
theorem dX0_partAll_21 : decode cX0_partAll 21 = .ok (.ifCond .eq 7, 3) := by decide +kernel
theorem dX0_partAll_24 : decode cX0_partAll 24 = .ok (.lconst 1, 1) := by decide +kernel
theorem dX0_partAll_25 : decode cX0_partAll 25 = .ok (.goto 4, 3) := by decide +kernel
theorem dX0_partAll_28 : decode cX0_partAll 28 = .ok (.lconst 0, 1) := by decide +kernel
theorem dX0_partAll_29 : decode cX0_partAll 29 = .ok (.lastore, 1) := by decide +kernel
theorem dX0_partAll_30 : decode cX0_partAll 30 = .ok (.iinc 2 1, 3) := by decide +kernel
theorem dX0_partAll_33 : decode cX0_partAll 33 = .ok (.goto (-31), 3) := by decide +kernel
theorem dX0_partAll_36 : decode cX0_partAll 36 = .ok (.aload_n 0, 1) := by decide +kernel
theorem dX0_partAll_37 : decode cX0_partAll 37 = .ok (.aload_n 1, 1) := by decide +kernel
theorem dX0_partAll_38 : decode cX0_partAll 38 = .ok (.getfield 23, 3) := by decide +kernel
theorem dX0_partAll_41 : decode cX0_partAll 41 = .ok (.invokevirtual 32, 3) := by decide +kernel
theorem dX0_partAll_44 : decode cX0_partAll 44 = .ok (.iconst 0, 1) := by decide +kernel
theorem dX0_partAll_45 : decode cX0_partAll 45 = .ok (.istore_n 2, 1) := by decide +kernel
theorem dX0_partAll_46 : decode cX0_partAll 46 = .ok (.iload_n 2, 1) := by decide +kernel
theorem dX0_partAll_47 : decode cX0_partAll 47 = .ok (.aload_n 1, 1) := by decide +kernel
theorem dX0_partAll_48 : decode cX0_partAll 48 = .ok (.getfield 23, 3) := by decide +kernel
theorem dX0_partAll_51 : decode cX0_partAll 51 = .ok (.if_icmp .ge 36, 3) := by decide +kernel
theorem dX0_partAll_54 : decode cX0_partAll 54 = .ok (.aload_n 0, 1) := by decide +kernel
theorem dX0_partAll_55 : decode cX0_partAll 55 = .ok (.getfield 19, 3) := by decide +kernel
theorem dX0_partAll_58 : decode cX0_partAll 58 = .ok (.istore_n 3, 1) := by decide +kernel
theorem dX0_partAll_59 : decode cX0_partAll 59 = .ok (.aload_n 0, 1) := by decide +kernel
theorem dX0_partAll_60 : decode cX0_partAll 60 = .ok (.aload_n 1, 1) := by decide +kernel
theorem dX0_partAll_61 : decode cX0_partAll 61 = .ok (.invokevirtual 36, 3) := by decide +kernel
theorem dX0_partAll_64 : decode cX0_partAll 64 = .ok (.aload_n 0, 1) := by decide +kernel
theorem dX0_partAll_65 : decode cX0_partAll 65 = .ok (.aload_n 1, 1) := by decide +kernel
theorem dX0_partAll_66 : decode cX0_partAll 66 = .ok (.getfield 23, 3) := by decide +kernel
theorem dX0_partAll_69 : decode cX0_partAll 69 = .ok (.invokevirtual 32, 3) := by decide +kernel
theorem dX0_partAll_72 : decode cX0_partAll 72 = .ok (.aload_n 0, 1) := by decide +kernel
theorem dX0_partAll_73 : decode cX0_partAll 73 = .ok (.getfield 19, 3) := by decide +kernel
theorem dX0_partAll_76 : decode cX0_partAll 76 = .ok (.iload_n 3, 1) := by decide +kernel
theorem dX0_partAll_77 : decode cX0_partAll 77 = .ok (.if_icmp .ne 4, 3) := by decide +kernel
theorem dX0_partAll_80 : decode cX0_partAll 80 = .ok (.return_, 1) := by decide +kernel
theorem dX0_partAll_81 : decode cX0_partAll 81 = .ok (.iinc 2 1, 3) := by decide +kernel
theorem dX0_partAll_84 : decode cX0_partAll 84 = .ok (.goto (-38), 3) := by decide +kernel
theorem dX0_partAll_87 : decode cX0_partAll 87 = .ok (.return_, 1) := by decide +kernel
theorem dX0_keyByDoors_0 : decode cX0_keyByDoors 0 = .ok (.iconst 0, 1) := by decide +kernel
theorem dX0_keyByDoors_1 : decode cX0_keyByDoors 1 = .ok (.istore_n 2, 1) := by decide +kernel
theorem dX0_keyByDoors_2 : decode cX0_keyByDoors 2 = .ok (.iload_n 2, 1) := by decide +kernel
theorem dX0_keyByDoors_3 : decode cX0_keyByDoors 3 = .ok (.aload_n 1, 1) := by decide +kernel
theorem dX0_keyByDoors_4 : decode cX0_keyByDoors 4 = .ok (.getfield 23, 3) := by decide +kernel
theorem dX0_keyByDoors_7 : decode cX0_keyByDoors 7 = .ok (.if_icmp .ge 74, 3) := by decide +kernel
theorem dX0_keyByDoors_10 : decode cX0_keyByDoors 10 = .ok (.aload_n 0, 1) := by decide +kernel
theorem dX0_keyByDoors_11 : decode cX0_keyByDoors 11 = .ok (.getfield 11, 3) := by decide +kernel
theorem dX0_keyByDoors_14 : decode cX0_keyByDoors 14 = .ok (.iload_n 2, 1) := by decide +kernel
theorem dX0_keyByDoors_15 : decode cX0_keyByDoors 15 = .ok (.iaload, 1) := by decide +kernel
theorem dX0_keyByDoors_16 : decode cX0_keyByDoors 16 = .ok (.i2l, 1) := by decide +kernel
theorem dX0_keyByDoors_17 : decode cX0_keyByDoors 17 = .ok (.bipush 36, 2) := by decide +kernel
theorem dX0_keyByDoors_19 : decode cX0_keyByDoors 19 = .ok (.lshl, 1) := by decide +kernel
theorem dX0_keyByDoors_20 : decode cX0_keyByDoors 20 = .ok (.lstore_n 3, 1) := by decide +kernel
theorem dX0_keyByDoors_21 : decode cX0_keyByDoors 21 = .ok (.iconst 0, 1) := by decide +kernel
theorem dX0_keyByDoors_22 : decode cX0_keyByDoors 22 = .ok (.istore 5, 2) := by decide +kernel
theorem dX0_keyByDoors_24 : decode cX0_keyByDoors 24 = .ok (.iload 5, 2) := by decide +kernel
theorem dX0_keyByDoors_26 : decode cX0_keyByDoors 26 = .ok (.aload_n 1, 1) := by decide +kernel
theorem dX0_keyByDoors_27 : decode cX0_keyByDoors 27 = .ok (.getfield 40, 3) := by decide +kernel
theorem dX0_keyByDoors_30 : decode cX0_keyByDoors 30 = .ok (.if_icmp .ge 38, 3) := by decide +kernel
theorem dX0_keyByDoors_33 : decode cX0_keyByDoors 33 = .ok (.aload_n 1, 1) := by decide +kernel
theorem dX0_keyByDoors_34 : decode cX0_keyByDoors 34 = .ok (.getfield 43, 3) := by decide +kernel
theorem dX0_keyByDoors_37 : decode cX0_keyByDoors 37 = .ok (.iload_n 2, 1) := by decide +kernel
theorem dX0_keyByDoors_38 : decode cX0_keyByDoors 38 = .ok (.iconst 4, 1) := by decide +kernel
theorem dX0_keyByDoors_39 : decode cX0_keyByDoors 39 = .ok (.imul, 1) := by decide +kernel
theorem dX0_keyByDoors_40 : decode cX0_keyByDoors 40 = .ok (.iload 5, 2) := by decide +kernel
theorem dX0_keyByDoors_42 : decode cX0_keyByDoors 42 = .ok (.iadd, 1) := by decide +kernel
theorem dX0_keyByDoors_43 : decode cX0_keyByDoors 43 = .ok (.iaload, 1) := by decide +kernel
theorem dX0_keyByDoors_44 : decode cX0_keyByDoors 44 = .ok (.iconst 4, 1) := by decide +kernel
theorem dX0_keyByDoors_45 : decode cX0_keyByDoors 45 = .ok (.idiv, 1) := by decide +kernel
theorem dX0_keyByDoors_46 : decode cX0_keyByDoors 46 = .ok (.istore 6, 2) := by decide +kernel
theorem dX0_keyByDoors_48 : decode cX0_keyByDoors 48 = .ok (.lload_n 3, 1) := by decide +kernel
theorem dX0_keyByDoors_49 : decode cX0_keyByDoors 49 = .ok (.lconst 1, 1) := by decide +kernel
theorem dX0_keyByDoors_50 : decode cX0_keyByDoors 50 = .ok (.iconst 3, 1) := by decide +kernel
theorem dX0_keyByDoors_51 : decode cX0_keyByDoors 51 = .ok (.aload_n 0, 1) := by decide +kernel
theorem dX0_keyByDoors_52 : decode cX0_keyByDoors 52 = .ok (.getfield 11, 3) := by decide +kernel
theorem dX0_keyByDoors_55 : decode cX0_keyByDoors 55 = .ok (.iload 6, 2) := by decide +kernel
theorem dX0_keyByDoors_57 : decode cX0_keyByDoors 57 = .ok (.iaload, 1) := by decide +kernel
theorem dX0_keyByDoors_58 : decode cX0_keyByDoors 58 = .ok (.imul, 1) := by decide +kernel
theorem dX0_keyByDoors_59 : decode cX0_keyByDoors 59 = .ok (.lshl, 1) := by decide +kernel
theorem dX0_keyByDoors_60 : decode cX0_keyByDoors 60 = .ok (.ladd, 1) := by decide +kernel
theorem dX0_keyByDoors_61 : decode cX0_keyByDoors 61 = .ok (.lstore_n 3, 1) := by decide +kernel
theorem dX0_keyByDoors_62 : decode cX0_keyByDoors 62 = .ok (.iinc 5 1, 3) := by decide +kernel
theorem dX0_keyByDoors_65 : decode cX0_keyByDoors 65 = .ok (.goto (-41), 3) := by decide +kernel
theorem dX0_keyByDoors_68 : decode cX0_keyByDoors 68 = .ok (.aload_n 0, 1) := by decide +kernel
theorem dX0_keyByDoors_69 : decode cX0_keyByDoors 69 = .ok (.getfield 15, 3) := by decide +kernel
theorem dX0_keyByDoors_72 : decode cX0_keyByDoors 72 = .ok (.iload_n 2, 1) := by decide +kernel
theorem dX0_keyByDoors_73 : decode cX0_keyByDoors 73 = .ok (.lload_n 3, 1) := by decide +kernel
theorem dX0_keyByDoors_74 : decode cX0_keyByDoors 74 = .ok (.lastore, 1) := by decide +kernel
theorem dX0_keyByDoors_75 : decode cX0_keyByDoors 75 = .ok (.iinc 2 1, 3) := by decide +kernel
theorem dX0_keyByDoors_78 : decode cX0_keyByDoors 78 = .ok (.goto (-76), 3) := by decide +kernel
theorem dX0_keyByDoors_81 : decode cX0_keyByDoors 81 = .ok (.return_, 1) := by decide +kernel
theorem dX0_numberByKeys_0 : decode cX0_numberByKeys 0 = .ok (.aload_n 0, 1) := by decide +kernel
theorem dX0_numberByKeys_1 : decode cX0_numberByKeys 1 = .ok (.iconst 0, 1) := by decide +kernel
theorem dX0_numberByKeys_2 : decode cX0_numberByKeys 2 = .ok (.putfield 19, 3) := by decide +kernel
theorem dX0_numberByKeys_5 : decode cX0_numberByKeys 5 = .ok (.iconst 0, 1) := by decide +kernel
theorem dX0_numberByKeys_6 : decode cX0_numberByKeys 6 = .ok (.istore_n 2, 1) := by decide +kernel
theorem dX0_numberByKeys_7 : decode cX0_numberByKeys 7 = .ok (.iload_n 2, 1) := by decide +kernel
theorem dX0_numberByKeys_8 : decode cX0_numberByKeys 8 = .ok (.iload_n 1, 1) := by decide +kernel
theorem dX0_numberByKeys_9 : decode cX0_numberByKeys 9 = .ok (.if_icmp .ge 78, 3) := by decide +kernel
theorem dX0_numberByKeys_12 : decode cX0_numberByKeys 12 = .ok (.iconst 0, 1) := by decide +kernel
theorem dX0_numberByKeys_13 : decode cX0_numberByKeys 13 = .ok (.istore_n 3, 1) := by decide +kernel
theorem dX0_numberByKeys_14 : decode cX0_numberByKeys 14 = .ok (.iload_n 3, 1) := by decide +kernel
theorem dX0_numberByKeys_15 : decode cX0_numberByKeys 15 = .ok (.iload_n 2, 1) := by decide +kernel
theorem dX0_numberByKeys_16 : decode cX0_numberByKeys 16 = .ok (.if_icmp .ge 25, 3) := by decide +kernel
theorem dX0_numberByKeys_19 : decode cX0_numberByKeys 19 = .ok (.aload_n 0, 1) := by decide +kernel
theorem dX0_numberByKeys_20 : decode cX0_numberByKeys 20 = .ok (.getfield 15, 3) := by decide +kernel
theorem dX0_numberByKeys_23 : decode cX0_numberByKeys 23 = .ok (.iload_n 3, 1) := by decide +kernel
theorem dX0_numberByKeys_24 : decode cX0_numberByKeys 24 = .ok (.laload, 1) := by decide +kernel
theorem dX0_numberByKeys_25 : decode cX0_numberByKeys 25 = .ok (.aload_n 0, 1) := by decide +kernel
theorem dX0_numberByKeys_26 : decode cX0_numberByKeys 26 = .ok (.getfield 15, 3) := by decide +kernel
theorem dX0_numberByKeys_29 : decode cX0_numberByKeys 29 = .ok (.iload_n 2, 1) := by decide +kernel
theorem dX0_numberByKeys_30 : decode cX0_numberByKeys 30 = .ok (.laload, 1) := by decide +kernel
theorem dX0_numberByKeys_31 : decode cX0_numberByKeys 31 = .ok (.lcmp, 1) := by decide +kernel
theorem dX0_numberByKeys_32 : decode cX0_numberByKeys 32 = .ok (.ifCond .eq 9, 3) := by decide +kernel
theorem dX0_numberByKeys_35 : decode cX0_numberByKeys 35 = .ok (.iinc 3 1, 3) := by decide +kernel
theorem dX0_numberByKeys_38 : decode cX0_numberByKeys 38 = .ok (.goto (-24), 3) := by decide +kernel
theorem dX0_numberByKeys_41 : decode cX0_numberByKeys 41 = .ok (.iload_n 3, 1) := by decide +kernel
theorem dX0_numberByKeys_42 : decode cX0_numberByKeys 42 = .ok (.iload_n 2, 1) := by decide +kernel
theorem dX0_numberByKeys_43 : decode cX0_numberByKeys 43 = .ok (.if_icmp .ge 18, 3) := by decide +kernel
theorem dX0_numberByKeys_46 : decode cX0_numberByKeys 46 = .ok (.aload_n 0, 1) := by decide +kernel
theorem dX0_numberByKeys_47 : decode cX0_numberByKeys 47 = .ok (.getfield 11, 3) := by decide +kernel
theorem dX0_numberByKeys_50 : decode cX0_numberByKeys 50 = .ok (.iload_n 2, 1) := by decide +kernel
theorem dX0_numberByKeys_51 : decode cX0_numberByKeys 51 = .ok (.aload_n 0, 1) := by decide +kernel
theorem dX0_numberByKeys_52 : decode cX0_numberByKeys 52 = .ok (.getfield 11, 3) := by decide +kernel
theorem dX0_numberByKeys_55 : decode cX0_numberByKeys 55 = .ok (.iload_n 3, 1) := by decide +kernel
theorem dX0_numberByKeys_56 : decode cX0_numberByKeys 56 = .ok (.iaload, 1) := by decide +kernel
theorem dX0_numberByKeys_57 : decode cX0_numberByKeys 57 = .ok (.iastore, 1) := by decide +kernel
theorem dX0_numberByKeys_58 : decode cX0_numberByKeys 58 = .ok (.goto 23, 3) := by decide +kernel
theorem dX0_numberByKeys_61 : decode cX0_numberByKeys 61 = .ok (.aload_n 0, 1) := by decide +kernel
theorem dX0_numberByKeys_62 : decode cX0_numberByKeys 62 = .ok (.getfield 11, 3) := by decide +kernel
theorem dX0_numberByKeys_65 : decode cX0_numberByKeys 65 = .ok (.iload_n 2, 1) := by decide +kernel
theorem dX0_numberByKeys_66 : decode cX0_numberByKeys 66 = .ok (.aload_n 0, 1) := by decide +kernel
theorem dX0_numberByKeys_67 : decode cX0_numberByKeys 67 = .ok (.getfield 19, 3) := by decide +kernel
theorem dX0_numberByKeys_70 : decode cX0_numberByKeys 70 = .ok (.iastore, 1) := by decide +kernel
theorem dX0_numberByKeys_71 : decode cX0_numberByKeys 71 = .ok (.aload_n 0, 1) := by decide +kernel
theorem dX0_numberByKeys_72 : decode cX0_numberByKeys 72 = .ok (.dup, 1) := by decide +kernel
theorem dX0_numberByKeys_73 : decode cX0_numberByKeys 73 = .ok (.getfield 19, 3) := by decide +kernel
theorem dX0_numberByKeys_76 : decode cX0_numberByKeys 76 = .ok (.iconst 1, 1) := by decide +kernel
theorem dX0_numberByKeys_77 : decode cX0_numberByKeys 77 = .ok (.iadd, 1) := by decide +kernel
theorem dX0_numberByKeys_78 : decode cX0_numberByKeys 78 = .ok (.putfield 19, 3) := by decide +kernel
theorem dX0_numberByKeys_81 : decode cX0_numberByKeys 81 = .ok (.iinc 2 1, 3) := by decide +kernel
theorem dX0_numberByKeys_84 : decode cX0_numberByKeys 84 = .ok (.goto (-77), 3) := by decide +kernel
theorem dX0_numberByKeys_87 : decode cX0_numberByKeys 87 = .ok (.return_, 1) := by decide +kernel
theorem dX1_init_0 : decode cX1_init 0 = .ok (.aload_n 0, 1) := by decide +kernel
theorem dX1_init_1 : decode cX1_init 1 = .ok (.invokespecial 3, 3) := by decide +kernel
theorem dX1_init_4 : decode cX1_init 4 = .ok (.aload_n 0, 1) := by decide +kernel
theorem dX1_init_5 : decode cX1_init 5 = .ok (.bipush 48, 2) := by decide +kernel
theorem dX1_init_7 : decode cX1_init 7 = .ok (.newarray .int, 2) := by decide +kernel
theorem dX1_init_9 : decode cX1_init 9 = .ok (.putfield 9, 3) := by decide +kernel
theorem dX1_init_12 : decode cX1_init 12 = .ok (.aload_n 0, 1) := by decide +kernel
theorem dX1_init_13 : decode cX1_init 13 = .ok (.bipush 12, 2) := by decide +kernel
theorem dX1_init_15 : decode cX1_init 15 = .ok (.newarray .boolean, 2) := by decide +kernel
theorem dX1_init_17 : decode cX1_init 17 = .ok (.putfield 15, 3) := by decide +kernel
theorem dX1_init_20 : decode cX1_init 20 = .ok (.aload_n 0, 1) := by decide +kernel
theorem dX1_init_21 : decode cX1_init 21 = .ok (.iconst 0, 1) := by decide +kernel
theorem dX1_init_22 : decode cX1_init 22 = .ok (.putfield 19, 3) := by decide +kernel
theorem dX1_init_25 : decode cX1_init 25 = .ok (.aload_n 0, 1) := by decide +kernel
theorem dX1_init_26 : decode cX1_init 26 = .ok (.iload_n 1, 1) := by decide +kernel
theorem dX1_init_27 : decode cX1_init 27 = .ok (.putfield 23, 3) := by decide +kernel
theorem dX1_init_30 : decode cX1_init 30 = .ok (.aload_n 0, 1) := by decide +kernel
theorem dX1_init_31 : decode cX1_init 31 = .ok (.iload_n 2, 1) := by decide +kernel
theorem dX1_init_32 : decode cX1_init 32 = .ok (.putfield 27, 3) := by decide +kernel
theorem dX1_init_35 : decode cX1_init 35 = .ok (.iload_n 2, 1) := by decide +kernel
theorem dX1_init_36 : decode cX1_init 36 = .ok (.iconst 2, 1) := by decide +kernel
theorem dX1_init_37 : decode cX1_init 37 = .ok (.if_icmp .ne 18, 3) := by decide +kernel
theorem dX1_init_40 : decode cX1_init 40 = .ok (.aload_n 0, 1) := by decide +kernel
theorem dX1_init_41 : decode cX1_init 41 = .ok (.iconst 2, 1) := by decide +kernel
theorem dX1_init_42 : decode cX1_init 42 = .ok (.putfield 30, 3) := by decide +kernel
theorem dX1_init_45 : decode cX1_init 45 = .ok (.aload_n 0, 1) := by decide +kernel
theorem dX1_init_46 : decode cX1_init 46 = .ok (.ldc2_w 33, 3) := by decide +kernel
theorem dX1_init_49 : decode cX1_init 49 = .ok (.putfield 35, 3) := by decide +kernel
theorem dX1_init_52 : decode cX1_init 52 = .ok (.goto 36, 3) := by decide +kernel
theorem dX1_init_55 : decode cX1_init 55 = .ok (.iload_n 2, 1) := by decide +kernel
theorem dX1_init_56 : decode cX1_init 56 = .ok (.iconst 3, 1) := by decide +kernel
theorem dX1_init_57 : decode cX1_init 57 = .ok (.if_icmp .ne 19, 3) := by decide +kernel
theorem dX1_init_60 : decode cX1_init 60 = .ok (.aload_n 0, 1) := by decide +kernel
theorem dX1_init_61 : decode cX1_init 61 = .ok (.bipush 9, 2) := by decide +kernel
theorem dX1_init_63 : decode cX1_init 63 = .ok (.putfield 30, 3) := by decide +kernel
theorem dX1_init_66 : decode cX1_init 66 = .ok (.aload_n 0, 1) := by decide +kernel
theorem dX1_init_67 : decode cX1_init 67 = .ok (.ldc2_w 39, 3) := by decide +kernel
theorem dX1_init_70 : decode cX1_init 70 = .ok (.putfield 35, 3) := by decide +kernel
theorem dX1_init_73 : decode cX1_init 73 = .ok (.goto 15, 3) := by decide +kernel
theorem dX1_init_76 : decode cX1_init 76 = .ok (.aload_n 0, 1) := by decide +kernel
theorem dX1_init_77 : decode cX1_init 77 = .ok (.iconst 4, 1) := by decide +kernel
theorem dX1_init_78 : decode cX1_init 78 = .ok (.putfield 30, 3) := by decide +kernel
theorem dX1_init_81 : decode cX1_init 81 = .ok (.aload_n 0, 1) := by decide +kernel
theorem dX1_init_82 : decode cX1_init 82 = .ok (.ldc2_w 41, 3) := by decide +kernel
theorem dX1_init_85 : decode cX1_init 85 = .ok (.putfield 35, 3) := by decide +kernel
theorem dX1_init_88 : decode cX1_init 88 = .ok (.iconst 0, 1) := by decide +kernel
theorem dX1_init_89 : decode cX1_init 89 = .ok (.istore_n 3, 1) := by decide +kernel
theorem dX1_init_90 : decode cX1_init 90 = .ok (.iload_n 3, 1) := by decide +kernel
theorem dX1_init_91 : decode cX1_init 91 = .ok (.bipush 48, 2) := by decide +kernel
theorem dX1_init_93 : decode cX1_init 93 = .ok (.if_icmp .ge 16, 3) := by decide +kernel
theorem dX1_init_96 : decode cX1_init 96 = .ok (.aload_n 0, 1) := by decide +kernel
theorem dX1_init_97 : decode cX1_init 97 = .ok (.getfield 9, 3) := by decide +kernel
theorem dX1_init_100 : decode cX1_init 100 = .ok (.iload_n 3, 1) := by decide +kernel
theorem dX1_init_101 : decode cX1_init 101 = .ok (.iload_n 3, 1) := by decide +kernel
theorem dX1_init_102 : decode cX1_init 102 = .ok (.iastore, 1) := by decide +kernel
theorem dX1_init_103 : decode cX1_init 103 = .ok (.iinc 3 1, 3) := by decide +kernel
theorem dX1_init_106 : decode cX1_init 106 = .ok (.goto (-16), 3) := by decide +kernel
theorem dX1_init_109 : decode cX1_init 109 = .ok (.return_, 1) := by decide +kernel
theorem dX1_joinCells_0 : decode cX1_joinCells 0 = .ok (.aload_n 0, 1) := by decide +kernel
theorem dX1_joinCells_1 : decode cX1_joinCells 1 = .ok (.getfield 9, 3) := by decide +kernel
theorem dX1_joinCells_4 : decode cX1_joinCells 4 = .ok (.iload_n 1, 1) := by decide +kernel
theorem dX1_joinCells_5 : decode cX1_joinCells 5 = .ok (.iaload, 1) := by decide +kernel
theorem dX1_joinCells_6 : decode cX1_joinCells 6 = .ok (.istore_n 3, 1) := by decide +kernel
theorem dX1_joinCells_7 : decode cX1_joinCells 7 = .ok (.aload_n 0, 1) := by decide +kernel
theorem dX1_joinCells_8 : decode cX1_joinCells 8 = .ok (.getfield 9, 3) := by decide +kernel
theorem dX1_joinCells_11 : decode cX1_joinCells 11 = .ok (.iload_n 2, 1) := by decide +kernel
theorem dX1_joinCells_12 : decode cX1_joinCells 12 = .ok (.iaload, 1) := by decide +kernel
theorem dX1_joinCells_13 : decode cX1_joinCells 13 = .ok (.istore 4, 2) := by decide +kernel
theorem dX1_joinCells_15 : decode cX1_joinCells 15 = .ok (.aload_n 0, 1) := by decide +kernel
theorem dX1_joinCells_16 : decode cX1_joinCells 16 = .ok (.getfield 9, 3) := by decide +kernel
theorem dX1_joinCells_19 : decode cX1_joinCells 19 = .ok (.iload_n 3, 1) := by decide +kernel
theorem dX1_joinCells_20 : decode cX1_joinCells 20 = .ok (.iload_n 3, 1) := by decide +kernel
theorem dX1_joinCells_21 : decode cX1_joinCells 21 = .ok (.iastore, 1) := by decide +kernel
theorem dX1_joinCells_22 : decode cX1_joinCells 22 = .ok (.aload_n 0, 1) := by decide +kernel
theorem dX1_joinCells_23 : decode cX1_joinCells 23 = .ok (.getfield 9, 3) := by decide +kernel
theorem dX1_joinCells_26 : decode cX1_joinCells 26 = .ok (.iload 4, 2) := by decide +kernel
theorem dX1_joinCells_28 : decode cX1_joinCells 28 = .ok (.iload 4, 2) := by decide +kernel
theorem dX1_joinCells_30 : decode cX1_joinCells 30 = .ok (.iastore, 1) := by decide +kernel
theorem dX1_joinCells_31 : decode cX1_joinCells 31 = .ok (.aload_n 0, 1) := by decide +kernel
theorem dX1_joinCells_32 : decode cX1_joinCells 32 = .ok (.getfield 9, 3) := by decide +kernel
theorem dX1_joinCells_35 : decode cX1_joinCells 35 = .ok (.iload_n 1, 1) := by decide +kernel
theorem dX1_joinCells_36 : decode cX1_joinCells 36 = .ok (.iload_n 2, 1) := by decide +kernel
theorem dX1_joinCells_37 : decode cX1_joinCells 37 = .ok (.iastore, 1) := by decide +kernel
theorem dX1_joinCells_38 : decode cX1_joinCells 38 = .ok (.aload_n 0, 1) := by decide +kernel
theorem dX1_joinCells_39 : decode cX1_joinCells 39 = .ok (.getfield 9, 3) := by decide +kernel
theorem dX1_joinCells_42 : decode cX1_joinCells 42 = .ok (.iload_n 2, 1) := by decide +kernel
theorem dX1_joinCells_43 : decode cX1_joinCells 43 = .ok (.iload_n 1, 1) := by decide +kernel
theorem dX1_joinCells_44 : decode cX1_joinCells 44 = .ok (.iastore, 1) := by decide +kernel
theorem dX1_joinCells_45 : decode cX1_joinCells 45 = .ok (.return_, 1) := by decide +kernel
set_option maxRecDepth 20000 in
theorem ggX2_init_X3_init : GoodIn wsX2_init wsX3_init := goodIn_r _ [11, 12, 2, 3, 13, 14, 15, 16, 17] (by decide +kernel) (by decide +kernel)
set_option maxRecDepth 20000 in
theorem gX2_init_X3_init_n9 : GoodIn wsX2_init (wsX3_init) := ggX2_init_X3_init
theorem dX2_init_0 : decode cX2_init 0 = .ok (.aload_n 0, 1) := by decide +kernel
theorem dX2_init_1 : decode cX2_init 1 = .ok (.invokespecial 1, 3) := by decide +kernel
theorem dX2_init_4 : decode cX2_init 4 = .ok (.aload_n 0, 1) := by decide +kernel
theorem dX2_init_5 : decode cX2_init 5 = .ok (.new 7, 3) := by decide +kernel
theorem dX2_init_8 : decode cX2_init 8 = .ok (.dup, 1) := by decide +kernel
theorem dX2_init_9 : decode cX2_init 9 = .ok (.invokespecial 9, 3) := by decide +kernel
theorem dX2_init_12 : decode cX2_init 12 = .ok (.putfield 10, 3) := by decide +kernel
theorem dX2_init_15 : decode cX2_init 15 = .ok (.aload_n 0, 1) := by decide +kernel
theorem dX2_init_16 : decode cX2_init 16 = .ok (.iload_n 1, 1) := by decide +kernel
theorem dX2_init_17 : decode cX2_init 17 = .ok (.putfield 16, 3) := by decide +kernel
theorem dX2_init_20 : decode cX2_init 20 = .ok (.aload_n 0, 1) := by decide +kernel
theorem dX2_init_21 : decode cX2_init 21 = .ok (.aload_n 2, 1) := by decide +kernel
theorem dX2_init_22 : decode cX2_init 22 = .ok (.putfield 20, 3) := by decide +kernel
theorem dX2_init_25 : decode cX2_init 25 = .ok (.return_, 1) := by decide +kernel
theorem dX3_init_0 : decode cX3_init 0 = .ok (.aload_n 0, 1) := by decide +kernel
theorem dX3_init_1 : decode cX3_init 1 = .ok (.invokespecial 3, 3) := by decide +kernel
theorem dX3_init_4 : decode cX3_init 4 = .ok (.aload_n 0, 1) := by decide +kernel
theorem dX3_init_5 : decode cX3_init 5 = .ok (.bipush 48, 2) := by decide +kernel
theorem dX3_init_7 : decode cX3_init 7 = .ok (.newarray .long, 2) := by decide +kernel
theorem dX3_init_9 : decode cX3_init 9 = .ok (.putfield 9, 3) := by decide +kernel
theorem dX3_init_12 : decode cX3_init 12 = .ok (.aload_n 0, 1) := by decide +kernel
theorem dX3_init_13 : decode cX3_init 13 = .ok (.iconst 0, 1) := by decide +kernel
theorem dX3_init_14 : decode cX3_init 14 = .ok (.putfield 15, 3) := by decide +kernel
theorem dX3_init_17 : decode cX3_init 17 = .ok (.return_, 1) := by decide +kernel
theorem dX3_becomeLike_0 : decode cX3_becomeLike 0 = .ok (.aload_n 1, 1) := by decide +kernel
theorem dX3_becomeLike_1 : decode cX3_becomeLike 1 = .ok (.getfield 9, 3) := by decide +kernel
theorem dX3_becomeLike_4 : decode cX3_becomeLike 4 = .ok (.iconst 0, 1) := by decide +kernel
theorem dX3_becomeLike_5 : decode cX3_becomeLike 5 = .ok (.aload_n 0, 1) := by decide +kernel
theorem dX3_becomeLike_6 : decode cX3_becomeLike 6 = .ok (.getfield 9, 3) := by decide +kernel
theorem dX3_becomeLike_9 : decode cX3_becomeLike 9 = .ok (.iconst 0, 1) := by decide +kernel
theorem dX3_becomeLike_10 : decode cX3_becomeLike 10 = .ok (.bipush 48, 2) := by decide +kernel
theorem dX3_becomeLike_12 : decode cX3_becomeLike 12 = .ok (.invokestatic 19, 3) := by decide +kernel
theorem dX3_becomeLike_15 : decode cX3_becomeLike 15 = .ok (.aload_n 0, 1) := by decide +kernel
theorem dX3_becomeLike_16 : decode cX3_becomeLike 16 = .ok (.aload_n 1, 1) := by decide +kernel
theorem dX3_becomeLike_17 : decode cX3_becomeLike 17 = .ok (.getfield 15, 3) := by decide +kernel
theorem dX3_becomeLike_20 : decode cX3_becomeLike 20 = .ok (.putfield 15, 3) := by decide +kernel
theorem dX3_becomeLike_23 : decode cX3_becomeLike 23 = .ok (.return_, 1) := by decide +kernel
theorem dX3_fillAll_0 : decode cX3_fillAll 0 = .ok (.iconst 0, 1) := by decide +kernel
theorem dX3_fillAll_1 : decode cX3_fillAll 1 = .ok (.istore_n 3, 1) := by decide +kernel
theorem dX3_fillAll_2 : decode cX3_fillAll 2 = .ok (.iload_n 3, 1) := by decide +kernel
theorem dX3_fillAll_3 : decode cX3_fillAll 3 = .ok (.aload_n 1, 1) := by decide +kernel
theorem dX3_fillAll_4 : decode cX3_fillAll 4 = .ok (.getfield 25, 3) := by decide +kernel
theorem dX3_fillAll_7 : decode cX3_fillAll 7 = .ok (.if_icmp .ge 40, 3) := by decide +kernel
theorem dX3_fillAll_10 : decode cX3_fillAll 10 = .ok (.iconst 0, 1) := by decide +kernel
theorem dX3_fillAll_11 : decode cX3_fillAll 11 = .ok (.istore 4, 2) := by decide +kernel
theorem dX3_fillAll_13 : decode cX3_fillAll 13 = .ok (.iload 4, 2) := by decide +kernel
theorem dX3_fillAll_15 : decode cX3_fillAll 15 = .ok (.aload_n 1, 1) := by decide +kernel
theorem dX3_fillAll_16 : decode cX3_fillAll 16 = .ok (.getfield 30, 3) := by decide +kernel
theorem dX3_fillAll_19 : decode cX3_fillAll 19 = .ok (.if_icmp .ge 22, 3) := by decide +kernel
theorem dX3_fillAll_22 : decode cX3_fillAll 22 = .ok (.aload_n 0, 1) := by decide +kernel
theorem dX3_fillAll_23 : decode cX3_fillAll 23 = .ok (.getfield 9, 3) := by decide +kernel
theorem dX3_fillAll_26 : decode cX3_fillAll 26 = .ok (.iload_n 3, 1) := by decide +kernel
theorem dX3_fillAll_27 : decode cX3_fillAll 27 = .ok (.iconst 4, 1) := by decide +kernel
theorem dX3_fillAll_28 : decode cX3_fillAll 28 = .ok (.imul, 1) := by decide +kernel
theorem dX3_fillAll_29 : decode cX3_fillAll 29 = .ok (.iload 4, 2) := by decide +kernel
theorem dX3_fillAll_31 : decode cX3_fillAll 31 = .ok (.iadd, 1) := by decide +kernel
theorem dX3_fillAll_32 : decode cX3_fillAll 32 = .ok (.iload_n 2, 1) := by decide +kernel
theorem dX3_fillAll_33 : decode cX3_fillAll 33 = .ok (.i2l, 1) := by decide +kernel
theorem dX3_fillAll_34 : decode cX3_fillAll 34 = .ok (.lastore, 1) := by decide +kernel
theorem dX3_fillAll_35 : decode cX3_fillAll 35 = .ok (.iinc 4 1, 3) := by decide +kernel
theorem dX3_fillAll_38 : decode cX3_fillAll 38 = .ok (.goto (-25), 3) := by decide +kernel
theorem dX3_fillAll_41 : decode cX3_fillAll 41 = .ok (.iinc 3 1, 3) := by decide +kernel
theorem dX3_fillAll_44 : decode cX3_fillAll 44 = .ok (.goto (-42), 3) := by decide +kernel
theorem dX3_fillAll_47 : decode cX3_fillAll 47 = .ok (.aload_n 0, 1) := by decide +kernel
theorem dX3_fillAll_48 : decode cX3_fillAll 48 = .ok (.iconst 0, 1) := by decide +kernel
theorem dX3_fillAll_49 : decode cX3_fillAll 49 = .ok (.putfield 15, 3) := by decide +kernel
theorem dX3_fillAll_52 : decode cX3_fillAll 52 = .ok (.return_, 1) := by decide +kernel
set_option maxRecDepth 20000 in
theorem ggX3_isToldBut_X4_isTold : GoodIn wsX3_isToldBut wsX4_isTold := goodIn_r _ [4, 5, 6] (by decide +kernel) (by decide +kernel)
set_option maxRecDepth 20000 in
theorem gX3_isToldBut_X4_isTold_n33 : GoodIn wsX3_isToldBut (wsX4_isTold) := ggX3_isToldBut_X4_isTold
theorem dX3_isToldBut_0 : decode cX3_isToldBut 0 = .ok (.iconst 0, 1) := by decide +kernel
theorem dX3_isToldBut_1 : decode cX3_isToldBut 1 = .ok (.istore_n 2, 1) := by decide +kernel
theorem dX3_isToldBut_2 : decode cX3_isToldBut 2 = .ok (.iload_n 2, 1) := by decide +kernel
theorem dX3_isToldBut_3 : decode cX3_isToldBut 3 = .ok (.bipush 48, 2) := by decide +kernel
theorem dX3_isToldBut_5 : decode cX3_isToldBut 5 = .ok (.if_icmp .ge 28, 3) := by decide +kernel
theorem dX3_isToldBut_8 : decode cX3_isToldBut 8 = .ok (.iload_n 2, 1) := by decide +kernel
theorem dX3_isToldBut_9 : decode cX3_isToldBut 9 = .ok (.iload_n 1, 1) := by decide +kernel
theorem dX3_isToldBut_10 : decode cX3_isToldBut 10 = .ok (.if_icmp .eq 17, 3) := by decide +kernel
theorem dX3_isToldBut_13 : decode cX3_isToldBut 13 = .ok (.aload_n 0, 1) := by decide +kernel
theorem dX3_isToldBut_14 : decode cX3_isToldBut 14 = .ok (.getfield 9, 3) := by decide +kernel
theorem dX3_isToldBut_17 : decode cX3_isToldBut 17 = .ok (.iload_n 2, 1) := by decide +kernel
theorem dX3_isToldBut_18 : decode cX3_isToldBut 18 = .ok (.laload, 1) := by decide +kernel
theorem dX3_isToldBut_19 : decode cX3_isToldBut 19 = .ok (.invokestatic 33, 3) := by decide +kernel
theorem dX3_isToldBut_22 : decode cX3_isToldBut 22 = .ok (.ifCond .ne 5, 3) := by decide +kernel
theorem dX3_isToldBut_25 : decode cX3_isToldBut 25 = .ok (.iconst 0, 1) := by decide +kernel
theorem dX3_isToldBut_26 : decode cX3_isToldBut 26 = .ok (.ireturn, 1) := by decide +kernel
theorem dX3_isToldBut_27 : decode cX3_isToldBut 27 = .ok (.iinc 2 1, 3) := by decide +kernel
theorem dX3_isToldBut_30 : decode cX3_isToldBut 30 = .ok (.goto (-28), 3) := by decide +kernel
theorem dX3_isToldBut_33 : decode cX3_isToldBut 33 = .ok (.iconst 1, 1) := by decide +kernel
theorem dX3_isToldBut_34 : decode cX3_isToldBut 34 = .ok (.ireturn, 1) := by decide +kernel
theorem dX3_squaresAt_0 : decode cX3_squaresAt 0 = .ok (.iload_n 1, 1) := by decide +kernel
theorem dX3_squaresAt_1 : decode cX3_squaresAt 1 = .ok (.iconst 4, 1) := by decide +kernel
theorem dX3_squaresAt_2 : decode cX3_squaresAt 2 = .ok (.imul, 1) := by decide +kernel
theorem dX3_squaresAt_3 : decode cX3_squaresAt 3 = .ok (.istore_n 2, 1) := by decide +kernel
theorem dX3_squaresAt_4 : decode cX3_squaresAt 4 = .ok (.lconst 0, 1) := by decide +kernel
theorem dX3_squaresAt_5 : decode cX3_squaresAt 5 = .ok (.lstore_n 3, 1) := by decide +kernel
theorem dX3_squaresAt_6 : decode cX3_squaresAt 6 = .ok (.iload_n 2, 1) := by decide +kernel
theorem dX3_squaresAt_7 : decode cX3_squaresAt 7 = .ok (.istore 5, 2) := by decide +kernel
theorem dX3_squaresAt_9 : decode cX3_squaresAt 9 = .ok (.iload 5, 2) := by decide +kernel
theorem dX3_squaresAt_11 : decode cX3_squaresAt 11 = .ok (.iload_n 2, 1) := by decide +kernel
theorem dX3_squaresAt_12 : decode cX3_squaresAt 12 = .ok (.iconst 4, 1) := by decide +kernel
theorem dX3_squaresAt_13 : decode cX3_squaresAt 13 = .ok (.iadd, 1) := by decide +kernel
theorem dX3_squaresAt_14 : decode cX3_squaresAt 14 = .ok (.if_icmp .ge 27, 3) := by decide +kernel
theorem dX3_squaresAt_17 : decode cX3_squaresAt 17 = .ok (.lload_n 3, 1) := by decide +kernel
theorem dX3_squaresAt_18 : decode cX3_squaresAt 18 = .ok (.aload_n 0, 1) := by decide +kernel
theorem dX3_squaresAt_19 : decode cX3_squaresAt 19 = .ok (.getfield 9, 3) := by decide +kernel
theorem dX3_squaresAt_22 : decode cX3_squaresAt 22 = .ok (.iload 5, 2) := by decide +kernel
theorem dX3_squaresAt_24 : decode cX3_squaresAt 24 = .ok (.laload, 1) := by decide +kernel
theorem dX3_squaresAt_25 : decode cX3_squaresAt 25 = .ok (.aload_n 0, 1) := by decide +kernel
theorem dX3_squaresAt_26 : decode cX3_squaresAt 26 = .ok (.getfield 9, 3) := by decide +kernel
theorem dX3_squaresAt_29 : decode cX3_squaresAt 29 = .ok (.iload 5, 2) := by decide +kernel
theorem dX3_squaresAt_31 : decode cX3_squaresAt 31 = .ok (.laload, 1) := by decide +kernel
theorem dX3_squaresAt_32 : decode cX3_squaresAt 32 = .ok (.lmul, 1) := by decide +kernel
theorem dX3_squaresAt_33 : decode cX3_squaresAt 33 = .ok (.ladd, 1) := by decide +kernel
theorem dX3_squaresAt_34 : decode cX3_squaresAt 34 = .ok (.lstore_n 3, 1) := by decide +kernel
theorem dX3_squaresAt_35 : decode cX3_squaresAt 35 = .ok (.iinc 5 1, 3) := by decide +kernel
theorem dX3_squaresAt_38 : decode cX3_squaresAt 38 = .ok (.goto (-29), 3) := by decide +kernel
theorem dX3_squaresAt_41 : decode cX3_squaresAt 41 = .ok (.lload_n 3, 1) := by decide +kernel
theorem dX3_squaresAt_42 : decode cX3_squaresAt 42 = .ok (.lreturn, 1) := by decide +kernel
set_option maxRecDepth 20000 in
theorem ggX3_squares_X3_squaresAt : GoodIn wsX3_squares wsX3_squaresAt := goodIn_r _ [5, 6, 7, 8] (by decide +kernel) (by decide +kernel)
set_option maxRecDepth 20000 in
theorem gX3_squares_X3_squaresAt : GoodIn wsX3_squares (wsV RX3 37 RX3 yX3_squaresAt wsX3_squaresAt) := goodIn_app (goodIn_of _ (by decide +kernel)) ggX3_squares_X3_squaresAt
theorem dX3_squares_0 : decode cX3_squares 0 = .ok (.lconst 0, 1) := by decide +kernel
theorem dX3_squares_1 : decode cX3_squares 1 = .ok (.lstore_n 1, 1) := by decide +kernel
theorem dX3_squares_2 : decode cX3_squares 2 = .ok (.iconst 0, 1) := by decide +kernel
theorem dX3_squares_3 : decode cX3_squares 3 = .ok (.istore_n 3, 1) := by decide +kernel
theorem dX3_squares_4 : decode cX3_squares 4 = .ok (.iload_n 3, 1) := by decide +kernel
theorem dX3_squares_5 : decode cX3_squares 5 = .ok (.bipush 12, 2) := by decide +kernel
theorem dX3_squares_7 : decode cX3_squares 7 = .ok (.if_icmp .ge 17, 3) := by decide +kernel
theorem dX3_squares_10 : decode cX3_squares 10 = .ok (.lload_n 1, 1) := by decide +kernel
theorem dX3_squares_11 : decode cX3_squares 11 = .ok (.aload_n 0, 1) := by decide +kernel
theorem dX3_squares_12 : decode cX3_squares 12 = .ok (.iload_n 3, 1) := by decide +kernel
theorem dX3_squares_13 : decode cX3_squares 13 = .ok (.invokevirtual 37, 3) := by decide +kernel
theorem dX3_squares_16 : decode cX3_squares 16 = .ok (.ladd, 1) := by decide +kernel
theorem dX3_squares_17 : decode cX3_squares 17 = .ok (.lstore_n 1, 1) := by decide +kernel
theorem dX3_squares_18 : decode cX3_squares 18 = .ok (.iinc 3 1, 3) := by decide +kernel
theorem dX3_squares_21 : decode cX3_squares 21 = .ok (.goto (-17), 3) := by decide +kernel
theorem dX3_squares_24 : decode cX3_squares 24 = .ok (.lload_n 1, 1) := by decide +kernel
theorem dX3_squares_25 : decode cX3_squares 25 = .ok (.lreturn, 1) := by decide +kernel
set_option maxRecDepth 20000 in
theorem ggX3_squaresAtMarked_X3_squaresAt : GoodIn wsX3_squaresAtMarked wsX3_squaresAt := goodIn_r _ [7, 8, 16, 17] (by decide +kernel) (by decide +kernel)
set_option maxRecDepth 20000 in
theorem gX3_squaresAtMarked_X3_squaresAt : GoodIn wsX3_squaresAtMarked (wsV RX3 37 RX3 yX3_squaresAt wsX3_squaresAt) := goodIn_app (goodIn_of _ (by decide +kernel)) ggX3_squaresAtMarked_X3_squaresAt
theorem dX3_squaresAtMarked_0 : decode cX3_squaresAtMarked 0 = .ok (.lconst 0, 1) := by decide +kernel
theorem dX3_squaresAtMarked_1 : decode cX3_squaresAtMarked 1 = .ok (.lstore_n 2, 1) := by decide +kernel
theorem dX3_squaresAtMarked_2 : decode cX3_squaresAtMarked 2 = .ok (.iconst 0, 1) := by decide +kernel
theorem dX3_squaresAtMarked_3 : decode cX3_squaresAtMarked 3 = .ok (.istore 4, 2) := by decide +kernel
theorem dX3_squaresAtMarked_5 : decode cX3_squaresAtMarked 5 = .ok (.iload 4, 2) := by decide +kernel
theorem dX3_squaresAtMarked_7 : decode cX3_squaresAtMarked 7 = .ok (.aload_n 1, 1) := by decide +kernel
theorem dX3_squaresAtMarked_8 : decode cX3_squaresAtMarked 8 = .ok (.getfield 25, 3) := by decide +kernel
theorem dX3_squaresAtMarked_11 : decode cX3_squaresAtMarked 11 = .ok (.if_icmp .ge 28, 3) := by decide +kernel
theorem dX3_squaresAtMarked_14 : decode cX3_squaresAtMarked 14 = .ok (.aload_n 1, 1) := by decide +kernel
theorem dX3_squaresAtMarked_15 : decode cX3_squaresAtMarked 15 = .ok (.getfield 41, 3) := by decide +kernel
theorem dX3_squaresAtMarked_18 : decode cX3_squaresAtMarked 18 = .ok (.iload 4, 2) := by decide +kernel
theorem dX3_squaresAtMarked_20 : decode cX3_squaresAtMarked 20 = .ok (.baload, 1) := by decide +kernel
theorem dX3_squaresAtMarked_21 : decode cX3_squaresAtMarked 21 = .ok (.ifCond .eq 12, 3) := by decide +kernel
theorem dX3_squaresAtMarked_24 : decode cX3_squaresAtMarked 24 = .ok (.lload_n 2, 1) := by decide +kernel
theorem dX3_squaresAtMarked_25 : decode cX3_squaresAtMarked 25 = .ok (.aload_n 0, 1) := by decide +kernel
theorem dX3_squaresAtMarked_26 : decode cX3_squaresAtMarked 26 = .ok (.iload 4, 2) := by decide +kernel
theorem dX3_squaresAtMarked_28 : decode cX3_squaresAtMarked 28 = .ok (.invokevirtual 37, 3) := by decide +kernel
theorem dX3_squaresAtMarked_31 : decode cX3_squaresAtMarked 31 = .ok (.ladd, 1) := by decide +kernel
theorem dX3_squaresAtMarked_32 : decode cX3_squaresAtMarked 32 = .ok (.lstore_n 2, 1) := by decide +kernel
theorem dX3_squaresAtMarked_33 : decode cX3_squaresAtMarked 33 = .ok (.iinc 4 1, 3) := by decide +kernel
theorem dX3_squaresAtMarked_36 : decode cX3_squaresAtMarked 36 = .ok (.goto (-31), 3) := by decide +kernel
theorem dX3_squaresAtMarked_39 : decode cX3_squaresAtMarked 39 = .ok (.lload_n 2, 1) := by decide +kernel
theorem dX3_squaresAtMarked_40 : decode cX3_squaresAtMarked 40 = .ok (.lreturn, 1) := by decide +kernel
set_option maxRecDepth 20000 in
theorem ggX3_isAllAt_X3_squaresAt : GoodIn wsX3_isAllAt wsX3_squaresAt := goodIn_r _ [5, 6, 11, 12] (by decide +kernel) (by decide +kernel)
set_option maxRecDepth 20000 in
theorem gX3_isAllAt_X3_squaresAt : GoodIn wsX3_isAllAt (wsV RX3 37 RX3 yX3_squaresAt wsX3_squaresAt) := goodIn_app (goodIn_of _ (by decide +kernel)) ggX3_isAllAt_X3_squaresAt
set_option maxRecDepth 20000 in
theorem ggX3_isAllAt_X3_squares : GoodIn wsX3_isAllAt wsX3_squares := goodIn_r _ [10, 1, 2, 3, 4, 5, 6, 11, 12] (by decide +kernel) (by decide +kernel)
set_option maxRecDepth 20000 in
theorem gX3_isAllAt_X3_squares : GoodIn wsX3_isAllAt (wsV RX3 45 RX3 yX3_squares wsX3_squares) := goodIn_app (goodIn_of _ (by decide +kernel)) ggX3_isAllAt_X3_squares
theorem dX3_isAllAt_0 : decode cX3_isAllAt 0 = .ok (.aload_n 0, 1) := by decide +kernel
theorem dX3_isAllAt_1 : decode cX3_isAllAt 1 = .ok (.iload_n 1, 1) := by decide +kernel
theorem dX3_isAllAt_2 : decode cX3_isAllAt 2 = .ok (.invokevirtual 37, 3) := by decide +kernel
theorem dX3_isAllAt_5 : decode cX3_isAllAt 5 = .ok (.lstore_n 2, 1) := by decide +kernel
theorem dX3_isAllAt_6 : decode cX3_isAllAt 6 = .ok (.lload_n 2, 1) := by decide +kernel
theorem dX3_isAllAt_7 : decode cX3_isAllAt 7 = .ok (.lconst 0, 1) := by decide +kernel
theorem dX3_isAllAt_8 : decode cX3_isAllAt 8 = .ok (.lcmp, 1) := by decide +kernel
theorem dX3_isAllAt_9 : decode cX3_isAllAt 9 = .ok (.ifCond .le 16, 3) := by decide +kernel
theorem dX3_isAllAt_12 : decode cX3_isAllAt 12 = .ok (.lload_n 2, 1) := by decide +kernel
theorem dX3_isAllAt_13 : decode cX3_isAllAt 13 = .ok (.aload_n 0, 1) := by decide +kernel
theorem dX3_isAllAt_14 : decode cX3_isAllAt 14 = .ok (.invokevirtual 45, 3) := by decide +kernel
theorem dX3_isAllAt_17 : decode cX3_isAllAt 17 = .ok (.lcmp, 1) := by decide +kernel
theorem dX3_isAllAt_18 : decode cX3_isAllAt 18 = .ok (.ifCond .ne 7, 3) := by decide +kernel
theorem dX3_isAllAt_21 : decode cX3_isAllAt 21 = .ok (.iconst 1, 1) := by decide +kernel
theorem dX3_isAllAt_22 : decode cX3_isAllAt 22 = .ok (.goto 4, 3) := by decide +kernel
theorem dX3_isAllAt_25 : decode cX3_isAllAt 25 = .ok (.iconst 0, 1) := by decide +kernel
theorem dX3_isAllAt_26 : decode cX3_isAllAt 26 = .ok (.ireturn, 1) := by decide +kernel
theorem dX3_isMultipleOf_0 : decode cX3_isMultipleOf 0 = .ok (.iconst 0, 1) := by decide +kernel
theorem dX3_isMultipleOf_1 : decode cX3_isMultipleOf 1 = .ok (.istore_n 2, 1) := by decide +kernel
theorem dX3_isMultipleOf_2 : decode cX3_isMultipleOf 2 = .ok (.iload_n 2, 1) := by decide +kernel
theorem dX3_isMultipleOf_3 : decode cX3_isMultipleOf 3 = .ok (.bipush 48, 2) := by decide +kernel
theorem dX3_isMultipleOf_5 : decode cX3_isMultipleOf 5 = .ok (.if_icmp .ge 20, 3) := by decide +kernel
theorem dX3_isMultipleOf_8 : decode cX3_isMultipleOf 8 = .ok (.aload_n 1, 1) := by decide +kernel
theorem dX3_isMultipleOf_9 : decode cX3_isMultipleOf 9 = .ok (.getfield 9, 3) := by decide +kernel
theorem dX3_isMultipleOf_12 : decode cX3_isMultipleOf 12 = .ok (.iload_n 2, 1) := by decide +kernel
theorem dX3_isMultipleOf_13 : decode cX3_isMultipleOf 13 = .ok (.laload, 1) := by decide +kernel
theorem dX3_isMultipleOf_14 : decode cX3_isMultipleOf 14 = .ok (.lconst 0, 1) := by decide +kernel
theorem dX3_isMultipleOf_15 : decode cX3_isMultipleOf 15 = .ok (.lcmp, 1) := by decide +kernel
theorem dX3_isMultipleOf_16 : decode cX3_isMultipleOf 16 = .ok (.ifCond .ne 9, 3) := by decide +kernel
theorem dX3_isMultipleOf_19 : decode cX3_isMultipleOf 19 = .ok (.iinc 2 1, 3) := by decide +kernel
theorem dX3_isMultipleOf_22 : decode cX3_isMultipleOf 22 = .ok (.goto (-20), 3) := by decide +kernel
theorem dX3_isMultipleOf_25 : decode cX3_isMultipleOf 25 = .ok (.iload_n 2, 1) := by decide +kernel
theorem dX3_isMultipleOf_26 : decode cX3_isMultipleOf 26 = .ok (.bipush 48, 2) := by decide +kernel
theorem dX3_isMultipleOf_28 : decode cX3_isMultipleOf 28 = .ok (.if_icmp .lt 5, 3) := by decide +kernel
theorem dX3_isMultipleOf_31 : decode cX3_isMultipleOf 31 = .ok (.iconst 0, 1) := by decide +kernel
theorem dX3_isMultipleOf_32 : decode cX3_isMultipleOf 32 = .ok (.ireturn, 1) := by decide +kernel
theorem dX3_isMultipleOf_33 : decode cX3_isMultipleOf 33 = .ok (.iconst 0, 1) := by decide +kernel
theorem dX3_isMultipleOf_34 : decode cX3_isMultipleOf 34 = .ok (.istore_n 3, 1) := by decide +kernel
theorem dX3_isMultipleOf_35 : decode cX3_isMultipleOf 35 = .ok (.iload_n 3, 1) := by decide +kernel
theorem dX3_isMultipleOf_36 : decode cX3_isMultipleOf 36 = .ok (.bipush 48, 2) := by decide +kernel
theorem dX3_isMultipleOf_38 : decode cX3_isMultipleOf 38 = .ok (.if_icmp .ge 41, 3) := by decide +kernel
theorem dX3_isMultipleOf_41 : decode cX3_isMultipleOf 41 = .ok (.aload_n 0, 1) := by decide +kernel
theorem dX3_isMultipleOf_42 : decode cX3_isMultipleOf 42 = .ok (.getfield 9, 3) := by decide +kernel
theorem dX3_isMultipleOf_45 : decode cX3_isMultipleOf 45 = .ok (.iload_n 3, 1) := by decide +kernel
theorem dX3_isMultipleOf_46 : decode cX3_isMultipleOf 46 = .ok (.laload, 1) := by decide +kernel
theorem dX3_isMultipleOf_47 : decode cX3_isMultipleOf 47 = .ok (.aload_n 1, 1) := by decide +kernel
theorem dX3_isMultipleOf_48 : decode cX3_isMultipleOf 48 = .ok (.getfield 9, 3) := by decide +kernel
theorem dX3_isMultipleOf_51 : decode cX3_isMultipleOf 51 = .ok (.iload_n 2, 1) := by decide +kernel
theorem dX3_isMultipleOf_52 : decode cX3_isMultipleOf 52 = .ok (.laload, 1) := by decide +kernel
theorem dX3_isMultipleOf_53 : decode cX3_isMultipleOf 53 = .ok (.lmul, 1) := by decide +kernel
theorem dX3_isMultipleOf_54 : decode cX3_isMultipleOf 54 = .ok (.aload_n 1, 1) := by decide +kernel
theorem dX3_isMultipleOf_55 : decode cX3_isMultipleOf 55 = .ok (.getfield 9, 3) := by decide +kernel
theorem dX3_isMultipleOf_58 : decode cX3_isMultipleOf 58 = .ok (.iload_n 3, 1) := by decide +kernel
theorem dX3_isMultipleOf_59 : decode cX3_isMultipleOf 59 = .ok (.laload, 1) := by decide +kernel
theorem dX3_isMultipleOf_60 : decode cX3_isMultipleOf 60 = .ok (.aload_n 0, 1) := by decide +kernel
theorem dX3_isMultipleOf_61 : decode cX3_isMultipleOf 61 = .ok (.getfield 9, 3) := by decide +kernel
theorem dX3_isMultipleOf_64 : decode cX3_isMultipleOf 64 = .ok (.iload_n 2, 1) := by decide +kernel
theorem dX3_isMultipleOf_65 : decode cX3_isMultipleOf 65 = .ok (.laload, 1) := by decide +kernel
theorem dX3_isMultipleOf_66 : decode cX3_isMultipleOf 66 = .ok (.lmul, 1) := by decide +kernel
theorem dX3_isMultipleOf_67 : decode cX3_isMultipleOf 67 = .ok (.lcmp, 1) := by decide +kernel
theorem dX3_isMultipleOf_68 : decode cX3_isMultipleOf 68 = .ok (.ifCond .eq 5, 3) := by decide +kernel
theorem dX3_isMultipleOf_71 : decode cX3_isMultipleOf 71 = .ok (.iconst 0, 1) := by decide +kernel
theorem dX3_isMultipleOf_72 : decode cX3_isMultipleOf 72 = .ok (.ireturn, 1) := by decide +kernel
theorem dX3_isMultipleOf_73 : decode cX3_isMultipleOf 73 = .ok (.iinc 3 1, 3) := by decide +kernel
theorem dX3_isMultipleOf_76 : decode cX3_isMultipleOf 76 = .ok (.goto (-41), 3) := by decide +kernel
theorem dX3_isMultipleOf_79 : decode cX3_isMultipleOf 79 = .ok (.iconst 1, 1) := by decide +kernel
theorem dX3_isMultipleOf_80 : decode cX3_isMultipleOf 80 = .ok (.ireturn, 1) := by decide +kernel
set_option maxRecDepth 20000 in
theorem ggX3_stepsLeft_X3_squares : GoodIn wsX3_stepsLeft wsX3_squares := goodIn_r _ [8, 9, 10, 11, 7, 12, 13, 14, 15] (by decide +kernel) (by decide +kernel)
set_option maxRecDepth 20000 in
theorem gX3_stepsLeft_X3_squares : GoodIn wsX3_stepsLeft (wsV RX3 45 RX3 yX3_squares wsX3_squares) := goodIn_app (goodIn_of _ (by decide +kernel)) ggX3_stepsLeft_X3_squares
theorem dX3_stepsLeft_0 : decode cX3_stepsLeft 0 = .ok (.aload_n 0, 1) := by decide +kernel
theorem dX3_stepsLeft_1 : decode cX3_stepsLeft 1 = .ok (.invokevirtual 45, 3) := by decide +kernel
theorem dX3_stepsLeft_4 : decode cX3_stepsLeft 4 = .ok (.lstore_n 2, 1) := by decide +kernel
theorem dX3_stepsLeft_5 : decode cX3_stepsLeft 5 = .ok (.iconst 0, 1) := by decide +kernel
theorem dX3_stepsLeft_6 : decode cX3_stepsLeft 6 = .ok (.istore 4, 2) := by decide +kernel
theorem dX3_stepsLeft_8 : decode cX3_stepsLeft 8 = .ok (.iload 4, 2) := by decide +kernel
theorem dX3_stepsLeft_10 : decode cX3_stepsLeft 10 = .ok (.bipush 60, 2) := by decide +kernel
theorem dX3_stepsLeft_12 : decode cX3_stepsLeft 12 = .ok (.aload_n 0, 1) := by decide +kernel
theorem dX3_stepsLeft_13 : decode cX3_stepsLeft 13 = .ok (.getfield 15, 3) := by decide +kernel
theorem dX3_stepsLeft_16 : decode cX3_stepsLeft 16 = .ok (.isub, 1) := by decide +kernel
theorem dX3_stepsLeft_17 : decode cX3_stepsLeft 17 = .ok (.if_icmp .ge 26, 3) := by decide +kernel
theorem dX3_stepsLeft_20 : decode cX3_stepsLeft 20 = .ok (.lload_n 2, 1) := by decide +kernel
theorem dX3_stepsLeft_21 : decode cX3_stepsLeft 21 = .ok (.aload_n 1, 1) := by decide +kernel
theorem dX3_stepsLeft_22 : decode cX3_stepsLeft 22 = .ok (.getfield 49, 3) := by decide +kernel
theorem dX3_stepsLeft_25 : decode cX3_stepsLeft 25 = .ok (.lcmp, 1) := by decide +kernel
theorem dX3_stepsLeft_26 : decode cX3_stepsLeft 26 = .ok (.ifCond .gt 17, 3) := by decide +kernel
theorem dX3_stepsLeft_29 : decode cX3_stepsLeft 29 = .ok (.lload_n 2, 1) := by decide +kernel
theorem dX3_stepsLeft_30 : decode cX3_stepsLeft 30 = .ok (.aload_n 1, 1) := by decide +kernel
theorem dX3_stepsLeft_31 : decode cX3_stepsLeft 31 = .ok (.getfield 53, 3) := by decide +kernel
theorem dX3_stepsLeft_34 : decode cX3_stepsLeft 34 = .ok (.i2l, 1) := by decide +kernel
theorem dX3_stepsLeft_35 : decode cX3_stepsLeft 35 = .ok (.lmul, 1) := by decide +kernel
theorem dX3_stepsLeft_36 : decode cX3_stepsLeft 36 = .ok (.lstore_n 2, 1) := by decide +kernel
theorem dX3_stepsLeft_37 : decode cX3_stepsLeft 37 = .ok (.iinc 4 1, 3) := by decide +kernel
theorem dX3_stepsLeft_40 : decode cX3_stepsLeft 40 = .ok (.goto (-32), 3) := by decide +kernel
theorem dX3_stepsLeft_43 : decode cX3_stepsLeft 43 = .ok (.iload 4, 2) := by decide +kernel
theorem dX3_stepsLeft_45 : decode cX3_stepsLeft 45 = .ok (.ireturn, 1) := by decide +kernel
set_option maxRecDepth 20000 in
theorem ggX3_doStep_X3_changeSigns : GoodIn wsX3_doStep wsX3_changeSigns := goodIn_r _ [8, 1, 9, 2, 10, 22, 23, 24, 25, 26, 27, 28, 29, 30] (by decide +kernel) (by decide +kernel)
set_option maxRecDepth 20000 in
theorem gX3_doStep_X3_changeSigns : GoodIn wsX3_doStep (wsV RX3 56 RX3 yX3_changeSigns wsX3_changeSigns) := goodIn_app (goodIn_of _ (by decide +kernel)) ggX3_doStep_X3_changeSigns
set_option maxRecDepth 20000 in
theorem ggX3_doStep_X3_turnAt : GoodIn wsX3_doStep wsX3_turnAt := goodIn_r _ [14, 10, 15, 16, 29, 30] (by decide +kernel) (by decide +kernel)
set_option maxRecDepth 20000 in
theorem gX3_doStep_X3_turnAt : GoodIn wsX3_doStep (wsV RX3 60 RX3 yX3_turnAt wsX3_turnAt) := goodIn_app (goodIn_of _ (by decide +kernel)) ggX3_doStep_X3_turnAt
set_option maxRecDepth 20000 in
theorem ggX3_doStep_X3_goThroughDoors : GoodIn wsX3_doStep wsX3_goThroughDoors := goodIn_r _ [20, 1, 21, 10, 22, 23, 24, 25, 26, 27, 28, 29, 30] (by decide +kernel) (by decide +kernel)
set_option maxRecDepth 20000 in
theorem gX3_doStep_X3_goThroughDoors : GoodIn wsX3_doStep (wsV RX3 64 RX3 yX3_goThroughDoors wsX3_goThroughDoors) := goodIn_app (goodIn_of _ (by decide +kernel)) ggX3_doStep_X3_goThroughDoors
theorem dX3_doStep_0 : decode cX3_doStep 0 = .ok (.aload_n 0, 1) := by decide +kernel
theorem dX3_doStep_1 : decode cX3_doStep 1 = .ok (.aload_n 1, 1) := by decide +kernel
theorem dX3_doStep_2 : decode cX3_doStep 2 = .ok (.invokevirtual 56, 3) := by decide +kernel
theorem dX3_doStep_5 : decode cX3_doStep 5 = .ok (.iconst 0, 1) := by decide +kernel
theorem dX3_doStep_6 : decode cX3_doStep 6 = .ok (.istore_n 2, 1) := by decide +kernel
theorem dX3_doStep_7 : decode cX3_doStep 7 = .ok (.iload_n 2, 1) := by decide +kernel
theorem dX3_doStep_8 : decode cX3_doStep 8 = .ok (.aload_n 1, 1) := by decide +kernel
theorem dX3_doStep_9 : decode cX3_doStep 9 = .ok (.getfield 25, 3) := by decide +kernel
theorem dX3_doStep_12 : decode cX3_doStep 12 = .ok (.if_icmp .ge 18, 3) := by decide +kernel
theorem dX3_doStep_15 : decode cX3_doStep 15 = .ok (.aload_n 0, 1) := by decide +kernel
theorem dX3_doStep_16 : decode cX3_doStep 16 = .ok (.iload_n 2, 1) := by decide +kernel
theorem dX3_doStep_17 : decode cX3_doStep 17 = .ok (.aload_n 1, 1) := by decide +kernel
theorem dX3_doStep_18 : decode cX3_doStep 18 = .ok (.getfield 30, 3) := by decide +kernel
theorem dX3_doStep_21 : decode cX3_doStep 21 = .ok (.invokevirtual 60, 3) := by decide +kernel
theorem dX3_doStep_24 : decode cX3_doStep 24 = .ok (.iinc 2 1, 3) := by decide +kernel
theorem dX3_doStep_27 : decode cX3_doStep 27 = .ok (.goto (-20), 3) := by decide +kernel
theorem dX3_doStep_30 : decode cX3_doStep 30 = .ok (.aload_n 0, 1) := by decide +kernel
theorem dX3_doStep_31 : decode cX3_doStep 31 = .ok (.aload_n 1, 1) := by decide +kernel
theorem dX3_doStep_32 : decode cX3_doStep 32 = .ok (.invokevirtual 64, 3) := by decide +kernel
theorem dX3_doStep_35 : decode cX3_doStep 35 = .ok (.aload_n 0, 1) := by decide +kernel
theorem dX3_doStep_36 : decode cX3_doStep 36 = .ok (.dup, 1) := by decide +kernel
theorem dX3_doStep_37 : decode cX3_doStep 37 = .ok (.getfield 15, 3) := by decide +kernel
theorem dX3_doStep_40 : decode cX3_doStep 40 = .ok (.iconst 1, 1) := by decide +kernel
theorem dX3_doStep_41 : decode cX3_doStep 41 = .ok (.iadd, 1) := by decide +kernel
theorem dX3_doStep_42 : decode cX3_doStep 42 = .ok (.putfield 15, 3) := by decide +kernel
theorem dX3_doStep_45 : decode cX3_doStep 45 = .ok (.return_, 1) := by decide +kernel
set_option maxRecDepth 20000 in
theorem ggX3_undoStep_X3_goThroughDoors : GoodIn wsX3_undoStep wsX3_goThroughDoors := goodIn_r _ [8, 1, 9, 10, 28, 29, 30, 31, 32, 33, 34, 35, 36] (by decide +kernel) (by decide +kernel)
set_option maxRecDepth 20000 in
theorem gX3_undoStep_X3_goThroughDoors : GoodIn wsX3_undoStep (wsV RX3 64 RX3 yX3_goThroughDoors wsX3_goThroughDoors) := goodIn_app (goodIn_of _ (by decide +kernel)) ggX3_undoStep_X3_goThroughDoors
set_option maxRecDepth 20000 in
theorem ggX3_undoStep_X3_turnAt : GoodIn wsX3_undoStep wsX3_turnAt := goodIn_r _ [14, 10, 15, 16, 35, 36] (by decide +kernel) (by decide +kernel)
set_option maxRecDepth 20000 in
theorem gX3_undoStep_X3_turnAt : GoodIn wsX3_undoStep (wsV RX3 60 RX3 yX3_turnAt wsX3_turnAt) := goodIn_app (goodIn_of _ (by decide +kernel)) ggX3_undoStep_X3_turnAt
set_option maxRecDepth 20000 in
theorem ggX3_undoStep_X3_lessenAt : GoodIn wsX3_undoStep wsX3_lessenAt := goodIn_r _ [20, 10, 15, 21, 22, 35, 36] (by decide +kernel) (by decide +kernel)
set_option maxRecDepth 20000 in
theorem gX3_undoStep_X3_lessenAt : GoodIn wsX3_undoStep (wsV RX3 67 RX3 yX3_lessenAt wsX3_lessenAt) := goodIn_app (goodIn_of _ (by decide +kernel)) ggX3_undoStep_X3_lessenAt
set_option maxRecDepth 20000 in
theorem ggX3_undoStep_X3_changeSigns : GoodIn wsX3_undoStep wsX3_changeSigns := goodIn_r _ [26, 1, 27, 2, 10, 28, 29, 30, 31, 32, 33, 34, 35, 36] (by decide +kernel) (by decide +kernel)
set_option maxRecDepth 20000 in
theorem gX3_undoStep_X3_changeSigns : GoodIn wsX3_undoStep (wsV RX3 56 RX3 yX3_changeSigns wsX3_changeSigns) := goodIn_app (goodIn_of _ (by decide +kernel)) ggX3_undoStep_X3_changeSigns
theorem dX3_undoStep_0 : decode cX3_undoStep 0 = .ok (.aload_n 0, 1) := by decide +kernel
theorem dX3_undoStep_1 : decode cX3_undoStep 1 = .ok (.aload_n 1, 1) := by decide +kernel
theorem dX3_undoStep_2 : decode cX3_undoStep 2 = .ok (.invokevirtual 64, 3) := by decide +kernel
theorem dX3_undoStep_5 : decode cX3_undoStep 5 = .ok (.iconst 0, 1) := by decide +kernel
theorem dX3_undoStep_6 : decode cX3_undoStep 6 = .ok (.istore_n 2, 1) := by decide +kernel
theorem dX3_undoStep_7 : decode cX3_undoStep 7 = .ok (.iload_n 2, 1) := by decide +kernel
theorem dX3_undoStep_8 : decode cX3_undoStep 8 = .ok (.aload_n 1, 1) := by decide +kernel
theorem dX3_undoStep_9 : decode cX3_undoStep 9 = .ok (.getfield 25, 3) := by decide +kernel
theorem dX3_undoStep_12 : decode cX3_undoStep 12 = .ok (.if_icmp .ge 27, 3) := by decide +kernel
theorem dX3_undoStep_15 : decode cX3_undoStep 15 = .ok (.aload_n 0, 1) := by decide +kernel
theorem dX3_undoStep_16 : decode cX3_undoStep 16 = .ok (.iload_n 2, 1) := by decide +kernel
theorem dX3_undoStep_17 : decode cX3_undoStep 17 = .ok (.aload_n 1, 1) := by decide +kernel
theorem dX3_undoStep_18 : decode cX3_undoStep 18 = .ok (.getfield 30, 3) := by decide +kernel
theorem dX3_undoStep_21 : decode cX3_undoStep 21 = .ok (.invokevirtual 60, 3) := by decide +kernel
theorem dX3_undoStep_24 : decode cX3_undoStep 24 = .ok (.aload_n 0, 1) := by decide +kernel
theorem dX3_undoStep_25 : decode cX3_undoStep 25 = .ok (.iload_n 2, 1) := by decide +kernel
theorem dX3_undoStep_26 : decode cX3_undoStep 26 = .ok (.aload_n 1, 1) := by decide +kernel
theorem dX3_undoStep_27 : decode cX3_undoStep 27 = .ok (.getfield 30, 3) := by decide +kernel
theorem dX3_undoStep_30 : decode cX3_undoStep 30 = .ok (.invokevirtual 67, 3) := by decide +kernel
theorem dX3_undoStep_33 : decode cX3_undoStep 33 = .ok (.iinc 2 1, 3) := by decide +kernel
theorem dX3_undoStep_36 : decode cX3_undoStep 36 = .ok (.goto (-29), 3) := by decide +kernel
theorem dX3_undoStep_39 : decode cX3_undoStep 39 = .ok (.aload_n 0, 1) := by decide +kernel
theorem dX3_undoStep_40 : decode cX3_undoStep 40 = .ok (.aload_n 1, 1) := by decide +kernel
theorem dX3_undoStep_41 : decode cX3_undoStep 41 = .ok (.invokevirtual 56, 3) := by decide +kernel
theorem dX3_undoStep_44 : decode cX3_undoStep 44 = .ok (.aload_n 0, 1) := by decide +kernel
theorem dX3_undoStep_45 : decode cX3_undoStep 45 = .ok (.dup, 1) := by decide +kernel
theorem dX3_undoStep_46 : decode cX3_undoStep 46 = .ok (.getfield 15, 3) := by decide +kernel
theorem dX3_undoStep_49 : decode cX3_undoStep 49 = .ok (.iconst 1, 1) := by decide +kernel
theorem dX3_undoStep_50 : decode cX3_undoStep 50 = .ok (.isub, 1) := by decide +kernel
theorem dX3_undoStep_51 : decode cX3_undoStep 51 = .ok (.putfield 15, 3) := by decide +kernel
theorem dX3_undoStep_54 : decode cX3_undoStep 54 = .ok (.return_, 1) := by decide +kernel
theorem dX3_changeSigns_0 : decode cX3_changeSigns 0 = .ok (.iconst 0, 1) := by decide +kernel
theorem dX3_changeSigns_1 : decode cX3_changeSigns 1 = .ok (.istore_n 2, 1) := by decide +kernel
theorem dX3_changeSigns_2 : decode cX3_changeSigns 2 = .ok (.iload_n 2, 1) := by decide +kernel
theorem dX3_changeSigns_3 : decode cX3_changeSigns 3 = .ok (.aload_n 1, 1) := by decide +kernel
theorem dX3_changeSigns_4 : decode cX3_changeSigns 4 = .ok (.getfield 25, 3) := by decide +kernel
theorem dX3_changeSigns_7 : decode cX3_changeSigns 7 = .ok (.if_icmp .ge 56, 3) := by decide +kernel
theorem dX3_changeSigns_10 : decode cX3_changeSigns 10 = .ok (.aload_n 1, 1) := by decide +kernel
theorem dX3_changeSigns_11 : decode cX3_changeSigns 11 = .ok (.getfield 41, 3) := by decide +kernel
theorem dX3_changeSigns_14 : decode cX3_changeSigns 14 = .ok (.iload_n 2, 1) := by decide +kernel
theorem dX3_changeSigns_15 : decode cX3_changeSigns 15 = .ok (.baload, 1) := by decide +kernel
theorem dX3_changeSigns_16 : decode cX3_changeSigns 16 = .ok (.ifCond .eq 41, 3) := by decide +kernel
theorem dX3_changeSigns_19 : decode cX3_changeSigns 19 = .ok (.iconst 0, 1) := by decide +kernel
theorem dX3_changeSigns_20 : decode cX3_changeSigns 20 = .ok (.istore_n 3, 1) := by decide +kernel
theorem dX3_changeSigns_21 : decode cX3_changeSigns 21 = .ok (.iload_n 3, 1) := by decide +kernel
theorem dX3_changeSigns_22 : decode cX3_changeSigns 22 = .ok (.aload_n 1, 1) := by decide +kernel
theorem dX3_changeSigns_23 : decode cX3_changeSigns 23 = .ok (.getfield 30, 3) := by decide +kernel
theorem dX3_changeSigns_26 : decode cX3_changeSigns 26 = .ok (.if_icmp .ge 31, 3) := by decide +kernel
theorem dX3_changeSigns_29 : decode cX3_changeSigns 29 = .ok (.iload_n 2, 1) := by decide +kernel
theorem dX3_changeSigns_30 : decode cX3_changeSigns 30 = .ok (.iconst 4, 1) := by decide +kernel
theorem dX3_changeSigns_31 : decode cX3_changeSigns 31 = .ok (.imul, 1) := by decide +kernel
theorem dX3_changeSigns_32 : decode cX3_changeSigns 32 = .ok (.iload_n 3, 1) := by decide +kernel
theorem dX3_changeSigns_33 : decode cX3_changeSigns 33 = .ok (.iadd, 1) := by decide +kernel
theorem dX3_changeSigns_34 : decode cX3_changeSigns 34 = .ok (.istore 4, 2) := by decide +kernel
theorem dX3_changeSigns_36 : decode cX3_changeSigns 36 = .ok (.aload_n 0, 1) := by decide +kernel
theorem dX3_changeSigns_37 : decode cX3_changeSigns 37 = .ok (.getfield 9, 3) := by decide +kernel
theorem dX3_changeSigns_40 : decode cX3_changeSigns 40 = .ok (.iload 4, 2) := by decide +kernel
theorem dX3_changeSigns_42 : decode cX3_changeSigns 42 = .ok (.aload_n 0, 1) := by decide +kernel
theorem dX3_changeSigns_43 : decode cX3_changeSigns 43 = .ok (.getfield 9, 3) := by decide +kernel
theorem dX3_changeSigns_46 : decode cX3_changeSigns 46 = .ok (.iload 4, 2) := by decide +kernel
theorem dX3_changeSigns_48 : decode cX3_changeSigns 48 = .ok (.laload, 1) := by decide +kernel
theorem dX3_changeSigns_49 : decode cX3_changeSigns 49 = .ok (.lneg, 1) := by decide +kernel
theorem dX3_changeSigns_50 : decode cX3_changeSigns 50 = .ok (.lastore, 1) := by decide +kernel
theorem dX3_changeSigns_51 : decode cX3_changeSigns 51 = .ok (.iinc 3 1, 3) := by decide +kernel
theorem dX3_changeSigns_54 : decode cX3_changeSigns 54 = .ok (.goto (-33), 3) := by decide +kernel
theorem dX3_changeSigns_57 : decode cX3_changeSigns 57 = .ok (.iinc 2 1, 3) := by decide +kernel
theorem dX3_changeSigns_60 : decode cX3_changeSigns 60 = .ok (.goto (-58), 3) := by decide +kernel
theorem dX3_changeSigns_63 : decode cX3_changeSigns 63 = .ok (.return_, 1) := by decide +kernel
theorem dX3_turnAt_0 : decode cX3_turnAt 0 = .ok (.iload_n 1, 1) := by decide +kernel
theorem dX3_turnAt_1 : decode cX3_turnAt 1 = .ok (.iconst 4, 1) := by decide +kernel
theorem dX3_turnAt_2 : decode cX3_turnAt 2 = .ok (.imul, 1) := by decide +kernel
theorem dX3_turnAt_3 : decode cX3_turnAt 3 = .ok (.istore_n 3, 1) := by decide +kernel
theorem dX3_turnAt_4 : decode cX3_turnAt 4 = .ok (.iload_n 2, 1) := by decide +kernel
theorem dX3_turnAt_5 : decode cX3_turnAt 5 = .ok (.iconst 2, 1) := by decide +kernel
theorem dX3_turnAt_6 : decode cX3_turnAt 6 = .ok (.if_icmp .ne 46, 3) := by decide +kernel
theorem dX3_turnAt_9 : decode cX3_turnAt 9 = .ok (.aload_n 0, 1) := by decide +kernel
theorem dX3_turnAt_10 : decode cX3_turnAt 10 = .ok (.getfield 9, 3) := by decide +kernel
theorem dX3_turnAt_13 : decode cX3_turnAt 13 = .ok (.iload_n 3, 1) := by decide +kernel
theorem dX3_turnAt_14 : decode cX3_turnAt 14 = .ok (.laload, 1) := by decide +kernel
theorem dX3_turnAt_15 : decode cX3_turnAt 15 = .ok (.lstore 4, 2) := by decide +kernel
theorem dX3_turnAt_17 : decode cX3_turnAt 17 = .ok (.aload_n 0, 1) := by decide +kernel
theorem dX3_turnAt_18 : decode cX3_turnAt 18 = .ok (.getfield 9, 3) := by decide +kernel
theorem dX3_turnAt_21 : decode cX3_turnAt 21 = .ok (.iload_n 3, 1) := by decide +kernel
theorem dX3_turnAt_22 : decode cX3_turnAt 22 = .ok (.iconst 1, 1) := by decide +kernel
theorem dX3_turnAt_23 : decode cX3_turnAt 23 = .ok (.iadd, 1) := by decide +kernel
theorem dX3_turnAt_24 : decode cX3_turnAt 24 = .ok (.laload, 1) := by decide +kernel
theorem dX3_turnAt_25 : decode cX3_turnAt 25 = .ok (.lstore 6, 2) := by decide +kernel
theorem dX3_turnAt_27 : decode cX3_turnAt 27 = .ok (.aload_n 0, 1) := by decide +kernel
theorem dX3_turnAt_28 : decode cX3_turnAt 28 = .ok (.getfield 9, 3) := by decide +kernel
theorem dX3_turnAt_31 : decode cX3_turnAt 31 = .ok (.iload_n 3, 1) := by decide +kernel
theorem dX3_turnAt_32 : decode cX3_turnAt 32 = .ok (.lload 4, 2) := by decide +kernel
theorem dX3_turnAt_34 : decode cX3_turnAt 34 = .ok (.lload 6, 2) := by decide +kernel
theorem dX3_turnAt_36 : decode cX3_turnAt 36 = .ok (.ladd, 1) := by decide +kernel
theorem dX3_turnAt_37 : decode cX3_turnAt 37 = .ok (.lastore, 1) := by decide +kernel
theorem dX3_turnAt_38 : decode cX3_turnAt 38 = .ok (.aload_n 0, 1) := by decide +kernel
theorem dX3_turnAt_39 : decode cX3_turnAt 39 = .ok (.getfield 9, 3) := by decide +kernel
theorem dX3_turnAt_42 : decode cX3_turnAt 42 = .ok (.iload_n 3, 1) := by decide +kernel
theorem dX3_turnAt_43 : decode cX3_turnAt 43 = .ok (.iconst 1, 1) := by decide +kernel
theorem dX3_turnAt_44 : decode cX3_turnAt 44 = .ok (.iadd, 1) := by decide +kernel
theorem dX3_turnAt_45 : decode cX3_turnAt 45 = .ok (.lload 4, 2) := by decide +kernel
theorem dX3_turnAt_47 : decode cX3_turnAt 47 = .ok (.lload 6, 2) := by decide +kernel
theorem dX3_turnAt_49 : decode cX3_turnAt 49 = .ok (.lsub, 1) := by decide +kernel
theorem dX3_turnAt_50 : decode cX3_turnAt 50 = .ok (.lastore, 1) := by decide +kernel
theorem dX3_turnAt_51 : decode cX3_turnAt 51 = .ok (.return_, 1) := by decide +kernel
theorem dX3_turnAt_52 : decode cX3_turnAt 52 = .ok (.lconst 0, 1) := by decide +kernel
theorem dX3_turnAt_53 : decode cX3_turnAt 53 = .ok (.lstore 4, 2) := by decide +kernel
theorem dX3_turnAt_55 : decode cX3_turnAt 55 = .ok (.iload_n 3, 1) := by decide +kernel
theorem dX3_turnAt_56 : decode cX3_turnAt 56 = .ok (.istore 6, 2) := by decide +kernel
theorem dX3_turnAt_58 : decode cX3_turnAt 58 = .ok (.iload 6, 2) := by decide +kernel
theorem dX3_turnAt_60 : decode cX3_turnAt 60 = .ok (.iload_n 3, 1) := by decide +kernel
theorem dX3_turnAt_61 : decode cX3_turnAt 61 = .ok (.iload_n 2, 1) := by decide +kernel
theorem dX3_turnAt_62 : decode cX3_turnAt 62 = .ok (.iadd, 1) := by decide +kernel
theorem dX3_turnAt_63 : decode cX3_turnAt 63 = .ok (.if_icmp .ge 21, 3) := by decide +kernel
theorem dX3_turnAt_66 : decode cX3_turnAt 66 = .ok (.lload 4, 2) := by decide +kernel
theorem dX3_turnAt_68 : decode cX3_turnAt 68 = .ok (.aload_n 0, 1) := by decide +kernel
theorem dX3_turnAt_69 : decode cX3_turnAt 69 = .ok (.getfield 9, 3) := by decide +kernel
theorem dX3_turnAt_72 : decode cX3_turnAt 72 = .ok (.iload 6, 2) := by decide +kernel
theorem dX3_turnAt_74 : decode cX3_turnAt 74 = .ok (.laload, 1) := by decide +kernel
theorem dX3_turnAt_75 : decode cX3_turnAt 75 = .ok (.ladd, 1) := by decide +kernel
theorem dX3_turnAt_76 : decode cX3_turnAt 76 = .ok (.lstore 4, 2) := by decide +kernel
theorem dX3_turnAt_78 : decode cX3_turnAt 78 = .ok (.iinc 6 1, 3) := by decide +kernel
theorem dX3_turnAt_81 : decode cX3_turnAt 81 = .ok (.goto (-23), 3) := by decide +kernel
theorem dX3_turnAt_84 : decode cX3_turnAt 84 = .ok (.iload_n 3, 1) := by decide +kernel
theorem dX3_turnAt_85 : decode cX3_turnAt 85 = .ok (.istore 6, 2) := by decide +kernel
theorem dX3_turnAt_87 : decode cX3_turnAt 87 = .ok (.iload 6, 2) := by decide +kernel
theorem dX3_turnAt_89 : decode cX3_turnAt 89 = .ok (.iload_n 3, 1) := by decide +kernel
theorem dX3_turnAt_90 : decode cX3_turnAt 90 = .ok (.iload_n 2, 1) := by decide +kernel
theorem dX3_turnAt_91 : decode cX3_turnAt 91 = .ok (.iadd, 1) := by decide +kernel
theorem dX3_turnAt_92 : decode cX3_turnAt 92 = .ok (.if_icmp .ge 56, 3) := by decide +kernel
theorem dX3_turnAt_95 : decode cX3_turnAt 95 = .ok (.aload_n 0, 1) := by decide +kernel
theorem dX3_turnAt_96 : decode cX3_turnAt 96 = .ok (.getfield 9, 3) := by decide +kernel
theorem dX3_turnAt_99 : decode cX3_turnAt 99 = .ok (.iload 6, 2) := by decide +kernel
theorem dX3_turnAt_101 : decode cX3_turnAt 101 = .ok (.iload_n 2, 1) := by decide +kernel
theorem dX3_turnAt_102 : decode cX3_turnAt 102 = .ok (.iconst 3, 1) := by decide +kernel
theorem dX3_turnAt_103 : decode cX3_turnAt 103 = .ok (.if_icmp .ne 24, 3) := by decide +kernel
theorem dX3_turnAt_106 : decode cX3_turnAt 106 = .ok (.ldc2_w 70, 3) := by decide +kernel
theorem dX3_turnAt_109 : decode cX3_turnAt 109 = .ok (.lload 4, 2) := by decide +kernel
theorem dX3_turnAt_111 : decode cX3_turnAt 111 = .ok (.lmul, 1) := by decide +kernel
theorem dX3_turnAt_112 : decode cX3_turnAt 112 = .ok (.ldc2_w 72, 3) := by decide +kernel
theorem dX3_turnAt_115 : decode cX3_turnAt 115 = .ok (.aload_n 0, 1) := by decide +kernel
theorem dX3_turnAt_116 : decode cX3_turnAt 116 = .ok (.getfield 9, 3) := by decide +kernel
theorem dX3_turnAt_119 : decode cX3_turnAt 119 = .ok (.iload 6, 2) := by decide +kernel
theorem dX3_turnAt_121 : decode cX3_turnAt 121 = .ok (.laload, 1) := by decide +kernel
theorem dX3_turnAt_122 : decode cX3_turnAt 122 = .ok (.lmul, 1) := by decide +kernel
theorem dX3_turnAt_123 : decode cX3_turnAt 123 = .ok (.lsub, 1) := by decide +kernel
theorem dX3_turnAt_124 : decode cX3_turnAt 124 = .ok (.goto 17, 3) := by decide +kernel
theorem dX3_turnAt_127 : decode cX3_turnAt 127 = .ok (.lload 4, 2) := by decide +kernel
theorem dX3_turnAt_129 : decode cX3_turnAt 129 = .ok (.ldc2_w 70, 3) := by decide +kernel
theorem dX3_turnAt_132 : decode cX3_turnAt 132 = .ok (.aload_n 0, 1) := by decide +kernel
theorem dX3_turnAt_133 : decode cX3_turnAt 133 = .ok (.getfield 9, 3) := by decide +kernel
theorem dX3_turnAt_136 : decode cX3_turnAt 136 = .ok (.iload 6, 2) := by decide +kernel
theorem dX3_turnAt_138 : decode cX3_turnAt 138 = .ok (.laload, 1) := by decide +kernel
theorem dX3_turnAt_139 : decode cX3_turnAt 139 = .ok (.lmul, 1) := by decide +kernel
theorem dX3_turnAt_140 : decode cX3_turnAt 140 = .ok (.lsub, 1) := by decide +kernel
theorem dX3_turnAt_141 : decode cX3_turnAt 141 = .ok (.lastore, 1) := by decide +kernel
theorem dX3_turnAt_142 : decode cX3_turnAt 142 = .ok (.iinc 6 1, 3) := by decide +kernel
theorem dX3_turnAt_145 : decode cX3_turnAt 145 = .ok (.goto (-58), 3) := by decide +kernel
theorem dX3_turnAt_148 : decode cX3_turnAt 148 = .ok (.return_, 1) := by decide +kernel
theorem dX3_lessenAt_0 : decode cX3_lessenAt 0 = .ok (.iload_n 1, 1) := by decide +kernel
theorem dX3_lessenAt_1 : decode cX3_lessenAt 1 = .ok (.iconst 4, 1) := by decide +kernel
theorem dX3_lessenAt_2 : decode cX3_lessenAt 2 = .ok (.imul, 1) := by decide +kernel
theorem dX3_lessenAt_3 : decode cX3_lessenAt 3 = .ok (.istore_n 3, 1) := by decide +kernel
theorem dX3_lessenAt_4 : decode cX3_lessenAt 4 = .ok (.iload_n 3, 1) := by decide +kernel
theorem dX3_lessenAt_5 : decode cX3_lessenAt 5 = .ok (.istore 4, 2) := by decide +kernel
theorem dX3_lessenAt_7 : decode cX3_lessenAt 7 = .ok (.iload 4, 2) := by decide +kernel
theorem dX3_lessenAt_9 : decode cX3_lessenAt 9 = .ok (.iload_n 3, 1) := by decide +kernel
theorem dX3_lessenAt_10 : decode cX3_lessenAt 10 = .ok (.iload_n 2, 1) := by decide +kernel
theorem dX3_lessenAt_11 : decode cX3_lessenAt 11 = .ok (.iadd, 1) := by decide +kernel
theorem dX3_lessenAt_12 : decode cX3_lessenAt 12 = .ok (.if_icmp .ge 65, 3) := by decide +kernel
theorem dX3_lessenAt_15 : decode cX3_lessenAt 15 = .ok (.aload_n 0, 1) := by decide +kernel
theorem dX3_lessenAt_16 : decode cX3_lessenAt 16 = .ok (.getfield 9, 3) := by decide +kernel
theorem dX3_lessenAt_19 : decode cX3_lessenAt 19 = .ok (.iload 4, 2) := by decide +kernel
theorem dX3_lessenAt_21 : decode cX3_lessenAt 21 = .ok (.iload_n 2, 1) := by decide +kernel
theorem dX3_lessenAt_22 : decode cX3_lessenAt 22 = .ok (.iconst 2, 1) := by decide +kernel
theorem dX3_lessenAt_23 : decode cX3_lessenAt 23 = .ok (.if_icmp .ne 17, 3) := by decide +kernel
theorem dX3_lessenAt_26 : decode cX3_lessenAt 26 = .ok (.aload_n 0, 1) := by decide +kernel
theorem dX3_lessenAt_27 : decode cX3_lessenAt 27 = .ok (.getfield 9, 3) := by decide +kernel
theorem dX3_lessenAt_30 : decode cX3_lessenAt 30 = .ok (.iload 4, 2) := by decide +kernel
theorem dX3_lessenAt_32 : decode cX3_lessenAt 32 = .ok (.laload, 1) := by decide +kernel
theorem dX3_lessenAt_33 : decode cX3_lessenAt 33 = .ok (.ldc2_w 70, 3) := by decide +kernel
theorem dX3_lessenAt_36 : decode cX3_lessenAt 36 = .ok (.ldiv, 1) := by decide +kernel
theorem dX3_lessenAt_37 : decode cX3_lessenAt 37 = .ok (.goto 33, 3) := by decide +kernel
theorem dX3_lessenAt_40 : decode cX3_lessenAt 40 = .ok (.iload_n 2, 1) := by decide +kernel
theorem dX3_lessenAt_41 : decode cX3_lessenAt 41 = .ok (.iconst 3, 1) := by decide +kernel
theorem dX3_lessenAt_42 : decode cX3_lessenAt 42 = .ok (.if_icmp .ne 17, 3) := by decide +kernel
theorem dX3_lessenAt_45 : decode cX3_lessenAt 45 = .ok (.aload_n 0, 1) := by decide +kernel
theorem dX3_lessenAt_46 : decode cX3_lessenAt 46 = .ok (.getfield 9, 3) := by decide +kernel
theorem dX3_lessenAt_49 : decode cX3_lessenAt 49 = .ok (.iload 4, 2) := by decide +kernel
theorem dX3_lessenAt_51 : decode cX3_lessenAt 51 = .ok (.laload, 1) := by decide +kernel
theorem dX3_lessenAt_52 : decode cX3_lessenAt 52 = .ok (.ldc2_w 74, 3) := by decide +kernel
theorem dX3_lessenAt_55 : decode cX3_lessenAt 55 = .ok (.ldiv, 1) := by decide +kernel
theorem dX3_lessenAt_56 : decode cX3_lessenAt 56 = .ok (.goto 14, 3) := by decide +kernel
theorem dX3_lessenAt_59 : decode cX3_lessenAt 59 = .ok (.aload_n 0, 1) := by decide +kernel
theorem dX3_lessenAt_60 : decode cX3_lessenAt 60 = .ok (.getfield 9, 3) := by decide +kernel
theorem dX3_lessenAt_63 : decode cX3_lessenAt 63 = .ok (.iload 4, 2) := by decide +kernel
theorem dX3_lessenAt_65 : decode cX3_lessenAt 65 = .ok (.laload, 1) := by decide +kernel
theorem dX3_lessenAt_66 : decode cX3_lessenAt 66 = .ok (.ldc2_w 76, 3) := by decide +kernel
theorem dX3_lessenAt_69 : decode cX3_lessenAt 69 = .ok (.ldiv, 1) := by decide +kernel
theorem dX3_lessenAt_70 : decode cX3_lessenAt 70 = .ok (.lastore, 1) := by decide +kernel
theorem dX3_lessenAt_71 : decode cX3_lessenAt 71 = .ok (.iinc 4 1, 3) := by decide +kernel
theorem dX3_lessenAt_74 : decode cX3_lessenAt 74 = .ok (.goto (-67), 3) := by decide +kernel
theorem dX3_lessenAt_77 : decode cX3_lessenAt 77 = .ok (.return_, 1) := by decide +kernel
theorem dX3_goThroughDoors_0 : decode cX3_goThroughDoors 0 = .ok (.iconst 0, 1) := by decide +kernel
theorem dX3_goThroughDoors_1 : decode cX3_goThroughDoors 1 = .ok (.istore_n 2, 1) := by decide +kernel
theorem dX3_goThroughDoors_2 : decode cX3_goThroughDoors 2 = .ok (.iload_n 2, 1) := by decide +kernel
theorem dX3_goThroughDoors_3 : decode cX3_goThroughDoors 3 = .ok (.aload_n 1, 1) := by decide +kernel
theorem dX3_goThroughDoors_4 : decode cX3_goThroughDoors 4 = .ok (.getfield 25, 3) := by decide +kernel
theorem dX3_goThroughDoors_7 : decode cX3_goThroughDoors 7 = .ok (.iconst 4, 1) := by decide +kernel
theorem dX3_goThroughDoors_8 : decode cX3_goThroughDoors 8 = .ok (.imul, 1) := by decide +kernel
theorem dX3_goThroughDoors_9 : decode cX3_goThroughDoors 9 = .ok (.if_icmp .ge 49, 3) := by decide +kernel
theorem dX3_goThroughDoors_12 : decode cX3_goThroughDoors 12 = .ok (.aload_n 1, 1) := by decide +kernel
theorem dX3_goThroughDoors_13 : decode cX3_goThroughDoors 13 = .ok (.getfield 78, 3) := by decide +kernel
theorem dX3_goThroughDoors_16 : decode cX3_goThroughDoors 16 = .ok (.iload_n 2, 1) := by decide +kernel
theorem dX3_goThroughDoors_17 : decode cX3_goThroughDoors 17 = .ok (.iaload, 1) := by decide +kernel
theorem dX3_goThroughDoors_18 : decode cX3_goThroughDoors 18 = .ok (.istore_n 3, 1) := by decide +kernel
theorem dX3_goThroughDoors_19 : decode cX3_goThroughDoors 19 = .ok (.iload_n 2, 1) := by decide +kernel
theorem dX3_goThroughDoors_20 : decode cX3_goThroughDoors 20 = .ok (.iload_n 3, 1) := by decide +kernel
theorem dX3_goThroughDoors_21 : decode cX3_goThroughDoors 21 = .ok (.if_icmp .ge 31, 3) := by decide +kernel
theorem dX3_goThroughDoors_24 : decode cX3_goThroughDoors 24 = .ok (.aload_n 0, 1) := by decide +kernel
theorem dX3_goThroughDoors_25 : decode cX3_goThroughDoors 25 = .ok (.getfield 9, 3) := by decide +kernel
theorem dX3_goThroughDoors_28 : decode cX3_goThroughDoors 28 = .ok (.iload_n 2, 1) := by decide +kernel
theorem dX3_goThroughDoors_29 : decode cX3_goThroughDoors 29 = .ok (.laload, 1) := by decide +kernel
theorem dX3_goThroughDoors_30 : decode cX3_goThroughDoors 30 = .ok (.lstore 4, 2) := by decide +kernel
theorem dX3_goThroughDoors_32 : decode cX3_goThroughDoors 32 = .ok (.aload_n 0, 1) := by decide +kernel
theorem dX3_goThroughDoors_33 : decode cX3_goThroughDoors 33 = .ok (.getfield 9, 3) := by decide +kernel
theorem dX3_goThroughDoors_36 : decode cX3_goThroughDoors 36 = .ok (.iload_n 2, 1) := by decide +kernel
theorem dX3_goThroughDoors_37 : decode cX3_goThroughDoors 37 = .ok (.aload_n 0, 1) := by decide +kernel
theorem dX3_goThroughDoors_38 : decode cX3_goThroughDoors 38 = .ok (.getfield 9, 3) := by decide +kernel
theorem dX3_goThroughDoors_41 : decode cX3_goThroughDoors 41 = .ok (.iload_n 3, 1) := by decide +kernel
theorem dX3_goThroughDoors_42 : decode cX3_goThroughDoors 42 = .ok (.laload, 1) := by decide +kernel
theorem dX3_goThroughDoors_43 : decode cX3_goThroughDoors 43 = .ok (.lastore, 1) := by decide +kernel
theorem dX3_goThroughDoors_44 : decode cX3_goThroughDoors 44 = .ok (.aload_n 0, 1) := by decide +kernel
theorem dX3_goThroughDoors_45 : decode cX3_goThroughDoors 45 = .ok (.getfield 9, 3) := by decide +kernel
theorem dX3_goThroughDoors_48 : decode cX3_goThroughDoors 48 = .ok (.iload_n 3, 1) := by decide +kernel
theorem dX3_goThroughDoors_49 : decode cX3_goThroughDoors 49 = .ok (.lload 4, 2) := by decide +kernel
theorem dX3_goThroughDoors_51 : decode cX3_goThroughDoors 51 = .ok (.lastore, 1) := by decide +kernel
theorem dX3_goThroughDoors_52 : decode cX3_goThroughDoors 52 = .ok (.iinc 2 1, 3) := by decide +kernel
theorem dX3_goThroughDoors_55 : decode cX3_goThroughDoors 55 = .ok (.goto (-53), 3) := by decide +kernel
theorem dX3_goThroughDoors_58 : decode cX3_goThroughDoors 58 = .ok (.return_, 1) := by decide +kernel
set_option maxRecDepth 20000 in
theorem ggX4_init_X3_init : GoodIn wsX4_init wsX3_init := goodIn_r _ [19, 20, 2, 3, 21, 22, 23, 37, 38] (by decide +kernel) (by decide +kernel)
set_option maxRecDepth 20000 in
theorem gX4_init_X3_init_n23 : GoodIn wsX4_init (wsX3_init) := ggX4_init_X3_init
set_option maxRecDepth 20000 in
theorem ggX4_init_X0_init : GoodIn wsX4_init wsX0_init := goodIn_r _ [25, 26, 2, 3, 27, 28, 21, 29, 30, 39, 40, 41] (by decide +kernel) (by decide +kernel)
set_option maxRecDepth 20000 in
theorem gX4_init_X0_init_n30 : GoodIn wsX4_init (wsX0_init) := ggX4_init_X0_init
theorem dX4_init_0 : decode cX4_init 0 = .ok (.aload_n 0, 1) := by decide +kernel
theorem dX4_init_1 : decode cX4_init 1 = .ok (.invokespecial 3, 3) := by decide +kernel
theorem dX4_init_4 : decode cX4_init 4 = .ok (.aload_n 0, 1) := by decide +kernel
theorem dX4_init_5 : decode cX4_init 5 = .ok (.bipush 6, 2) := by decide +kernel
theorem dX4_init_7 : decode cX4_init 7 = .ok (.anewarray 9, 3) := by decide +kernel
theorem dX4_init_10 : decode cX4_init 10 = .ok (.putfield 11, 3) := by decide +kernel
theorem dX4_init_13 : decode cX4_init 13 = .ok (.aload_n 0, 1) := by decide +kernel
theorem dX4_init_14 : decode cX4_init 14 = .ok (.bipush 12, 2) := by decide +kernel
theorem dX4_init_16 : decode cX4_init 16 = .ok (.anewarray 15, 3) := by decide +kernel
theorem dX4_init_19 : decode cX4_init 19 = .ok (.putfield 17, 3) := by decide +kernel
theorem dX4_init_22 : decode cX4_init 22 = .ok (.aload_n 0, 1) := by decide +kernel
theorem dX4_init_23 : decode cX4_init 23 = .ok (.new 21, 3) := by decide +kernel
theorem dX4_init_26 : decode cX4_init 26 = .ok (.dup, 1) := by decide +kernel
theorem dX4_init_27 : decode cX4_init 27 = .ok (.invokespecial 23, 3) := by decide +kernel
theorem dX4_init_30 : decode cX4_init 30 = .ok (.putfield 24, 3) := by decide +kernel
theorem dX4_init_33 : decode cX4_init 33 = .ok (.aload_n 0, 1) := by decide +kernel
theorem dX4_init_34 : decode cX4_init 34 = .ok (.new 28, 3) := by decide +kernel
theorem dX4_init_37 : decode cX4_init 37 = .ok (.dup, 1) := by decide +kernel
theorem dX4_init_38 : decode cX4_init 38 = .ok (.invokespecial 30, 3) := by decide +kernel
theorem dX4_init_41 : decode cX4_init 41 = .ok (.putfield 31, 3) := by decide +kernel
theorem dX4_init_44 : decode cX4_init 44 = .ok (.aload_n 0, 1) := by decide +kernel
theorem dX4_init_45 : decode cX4_init 45 = .ok (.iconst 0, 1) := by decide +kernel
theorem dX4_init_46 : decode cX4_init 46 = .ok (.putfield 35, 3) := by decide +kernel
theorem dX4_init_49 : decode cX4_init 49 = .ok (.aload_n 0, 1) := by decide +kernel
theorem dX4_init_50 : decode cX4_init 50 = .ok (.iconst 0, 1) := by decide +kernel
theorem dX4_init_51 : decode cX4_init 51 = .ok (.putfield 39, 3) := by decide +kernel
theorem dX4_init_54 : decode cX4_init 54 = .ok (.return_, 1) := by decide +kernel
set_option maxRecDepth 20000 in
theorem ggX4_net_X1_init : GoodIn wsX4_net wsX1_init := goodIn_r _ [8, 9, 10, 11, 12, 13, 14, 15, 16, 17, 18, 19, 20, 21, 22, 23, 30, 31, 32, 33, 34, 35, 36] (by decide +kernel) (by decide +kernel)
set_option maxRecDepth 20000 in
theorem gX4_net_X1_init : GoodIn wsX4_net (wsX1_init) := ggX4_net_X1_init
theorem dX4_net_0 : decode cX4_net 0 = .ok (.iload_n 1, 1) := by decide +kernel
theorem dX4_net_1 : decode cX4_net 1 = .ok (.iconst 1, 1) := by decide +kernel
theorem dX4_net_2 : decode cX4_net 2 = .ok (.if_icmp .lt 23, 3) := by decide +kernel
theorem dX4_net_5 : decode cX4_net 5 = .ok (.iload_n 1, 1) := by decide +kernel
theorem dX4_net_6 : decode cX4_net 6 = .ok (.bipush 12, 2) := by decide +kernel
theorem dX4_net_8 : decode cX4_net 8 = .ok (.if_icmp .gt 17, 3) := by decide +kernel
theorem dX4_net_11 : decode cX4_net 11 = .ok (.iload_n 2, 1) := by decide +kernel
theorem dX4_net_12 : decode cX4_net 12 = .ok (.iconst 2, 1) := by decide +kernel
theorem dX4_net_13 : decode cX4_net 13 = .ok (.if_icmp .lt 12, 3) := by decide +kernel
theorem dX4_net_16 : decode cX4_net 16 = .ok (.iload_n 2, 1) := by decide +kernel
theorem dX4_net_17 : decode cX4_net 17 = .ok (.iconst 4, 1) := by decide +kernel
theorem dX4_net_18 : decode cX4_net 18 = .ok (.if_icmp .gt 7, 3) := by decide +kernel
theorem dX4_net_21 : decode cX4_net 21 = .ok (.iconst 1, 1) := by decide +kernel
theorem dX4_net_22 : decode cX4_net 22 = .ok (.goto 4, 3) := by decide +kernel
theorem dX4_net_25 : decode cX4_net 25 = .ok (.iconst 0, 1) := by decide +kernel
theorem dX4_net_26 : decode cX4_net 26 = .ok (.istore_n 3, 1) := by decide +kernel
theorem dX4_net_27 : decode cX4_net 27 = .ok (.iload_n 3, 1) := by decide +kernel
theorem dX4_net_28 : decode cX4_net 28 = .ok (.ifCond .eq 12, 3) := by decide +kernel
theorem dX4_net_31 : decode cX4_net 31 = .ok (.aload_n 0, 1) := by decide +kernel
theorem dX4_net_32 : decode cX4_net 32 = .ok (.getfield 35, 3) := by decide +kernel
theorem dX4_net_35 : decode cX4_net 35 = .ok (.bipush 6, 2) := by decide +kernel
theorem dX4_net_37 : decode cX4_net 37 = .ok (.if_icmp .lt 5, 3) := by decide +kernel
theorem dX4_net_40 : decode cX4_net 40 = .ok (.iconst (-1), 1) := by decide +kernel
theorem dX4_net_41 : decode cX4_net 41 = .ok (.ireturn, 1) := by decide +kernel
theorem dX4_net_42 : decode cX4_net 42 = .ok (.aload_n 0, 1) := by decide +kernel
theorem dX4_net_43 : decode cX4_net 43 = .ok (.getfield 11, 3) := by decide +kernel
theorem dX4_net_46 : decode cX4_net 46 = .ok (.aload_n 0, 1) := by decide +kernel
theorem dX4_net_47 : decode cX4_net 47 = .ok (.getfield 35, 3) := by decide +kernel
theorem dX4_net_50 : decode cX4_net 50 = .ok (.new 9, 3) := by decide +kernel
theorem dX4_net_53 : decode cX4_net 53 = .ok (.dup, 1) := by decide +kernel
theorem dX4_net_54 : decode cX4_net 54 = .ok (.iload_n 1, 1) := by decide +kernel
theorem dX4_net_55 : decode cX4_net 55 = .ok (.iload_n 2, 1) := by decide +kernel
theorem dX4_net_56 : decode cX4_net 56 = .ok (.invokespecial 42, 3) := by decide +kernel
theorem dX4_net_59 : decode cX4_net 59 = .ok (.aastore, 1) := by decide +kernel
theorem dX4_net_60 : decode cX4_net 60 = .ok (.aload_n 0, 1) := by decide +kernel
theorem dX4_net_61 : decode cX4_net 61 = .ok (.dup, 1) := by decide +kernel
theorem dX4_net_62 : decode cX4_net 62 = .ok (.getfield 35, 3) := by decide +kernel
theorem dX4_net_65 : decode cX4_net 65 = .ok (.iconst 1, 1) := by decide +kernel
theorem dX4_net_66 : decode cX4_net 66 = .ok (.iadd, 1) := by decide +kernel
theorem dX4_net_67 : decode cX4_net 67 = .ok (.putfield 35, 3) := by decide +kernel
theorem dX4_net_70 : decode cX4_net 70 = .ok (.aload_n 0, 1) := by decide +kernel
theorem dX4_net_71 : decode cX4_net 71 = .ok (.getfield 35, 3) := by decide +kernel
theorem dX4_net_74 : decode cX4_net 74 = .ok (.iconst 1, 1) := by decide +kernel
theorem dX4_net_75 : decode cX4_net 75 = .ok (.isub, 1) := by decide +kernel
theorem dX4_net_76 : decode cX4_net 76 = .ok (.ireturn, 1) := by decide +kernel
set_option maxRecDepth 20000 in
theorem ggX4_join_X4_netOf : GoodIn wsX4_join wsX4_netOf := goodIn_ca (goodIn_r _ [6, 7, 8, 9, 31, 32, 33, 34, 35, 36] (by decide +kernel) (by decide +kernel)) (goodIn_sub (fun _ h => List.mem_cons_of_mem _ (List.mem_append_right _ h)) (by decide +kernel))
set_option maxRecDepth 20000 in
theorem gX4_join_X4_netOf : GoodIn wsX4_join (wsV RX4 45 RX4 yX4_netOf wsX4_netOf) := goodIn_app (goodIn_of _ (by decide +kernel)) ggX4_join_X4_netOf
set_option maxRecDepth 20000 in
theorem ggX4_join_X4_cellOf : GoodIn wsX4_join wsX4_cellOf := goodIn_ca (goodIn_r _ [12, 7, 8, 13, 14, 15, 5, 16, 17, 24, 25, 26, 27, 28, 29, 30] (by decide +kernel) (by decide +kernel)) (goodIn_sub (fun _ h => List.mem_cons_of_mem _ (List.mem_append_right _ h)) (by decide +kernel))
set_option maxRecDepth 20000 in
theorem gX4_join_X4_cellOf : GoodIn wsX4_join (va_wsS RX4 49 yX4_cellOf wsX4_cellOf) := goodIn_app (goodIn_of _ (by decide +kernel)) ggX4_join_X4_cellOf
set_option maxRecDepth 20000 in
theorem ggX4_join_X1_joinCells : GoodIn wsX4_join wsX1_joinCells := goodIn_r _ [22, 23, 24, 25, 26, 27, 28, 29, 30] (by decide +kernel) (by decide +kernel)
set_option maxRecDepth 20000 in
theorem gX4_join_X1_joinCells : GoodIn wsX4_join (wsV RX4 57 RX1 yX1_joinCells wsX1_joinCells) := goodIn_app (goodIn_of _ (by decide +kernel)) ggX4_join_X1_joinCells
theorem dX4_join_0 : decode cX4_join 0 = .ok (.aload_n 0, 1) := by decide +kernel
theorem dX4_join_1 : decode cX4_join 1 = .ok (.iload_n 1, 1) := by decide +kernel
theorem dX4_join_2 : decode cX4_join 2 = .ok (.invokevirtual 45, 3) := by decide +kernel
theorem dX4_join_5 : decode cX4_join 5 = .ok (.astore 6, 2) := by decide +kernel
theorem dX4_join_7 : decode cX4_join 7 = .ok (.aload 6, 2) := by decide +kernel
theorem dX4_join_9 : decode cX4_join 9 = .ok (.iload_n 2, 1) := by decide +kernel
theorem dX4_join_10 : decode cX4_join 10 = .ok (.iload_n 3, 1) := by decide +kernel
theorem dX4_join_11 : decode cX4_join 11 = .ok (.invokestatic 49, 3) := by decide +kernel
theorem dX4_join_14 : decode cX4_join 14 = .ok (.istore 7, 2) := by decide +kernel
theorem dX4_join_16 : decode cX4_join 16 = .ok (.aload 6, 2) := by decide +kernel
theorem dX4_join_18 : decode cX4_join 18 = .ok (.iload 4, 2) := by decide +kernel
theorem dX4_join_20 : decode cX4_join 20 = .ok (.iload 5, 2) := by decide +kernel
theorem dX4_join_22 : decode cX4_join 22 = .ok (.invokestatic 49, 3) := by decide +kernel
theorem dX4_join_25 : decode cX4_join 25 = .ok (.istore 8, 2) := by decide +kernel
theorem dX4_join_27 : decode cX4_join 27 = .ok (.aload 6, 2) := by decide +kernel
theorem dX4_join_29 : decode cX4_join 29 = .ok (.getfield 53, 3) := by decide +kernel
theorem dX4_join_32 : decode cX4_join 32 = .ok (.ifCond .eq 5, 3) := by decide +kernel
theorem dX4_join_35 : decode cX4_join 35 = .ok (.iconst 0, 1) := by decide +kernel
theorem dX4_join_36 : decode cX4_join 36 = .ok (.ireturn, 1) := by decide +kernel
theorem dX4_join_37 : decode cX4_join 37 = .ok (.aload 6, 2) := by decide +kernel
theorem dX4_join_39 : decode cX4_join 39 = .ok (.iload 7, 2) := by decide +kernel
theorem dX4_join_41 : decode cX4_join 41 = .ok (.iload 8, 2) := by decide +kernel
theorem dX4_join_43 : decode cX4_join 43 = .ok (.invokevirtual 57, 3) := by decide +kernel
theorem dX4_join_46 : decode cX4_join 46 = .ok (.iconst 1, 1) := by decide +kernel
theorem dX4_join_47 : decode cX4_join 47 = .ok (.ireturn, 1) := by decide +kernel
set_option maxRecDepth 20000 in
theorem ggX4_leads_X4_netOf : GoodIn wsX4_leads wsX4_netOf := goodIn_ca (goodIn_r _ [6, 7, 8, 9, 25, 26, 27, 28, 29, 30] (by decide +kernel) (by decide +kernel)) (goodIn_sub (fun _ h => List.mem_cons_of_mem _ (List.mem_append_right _ h)) (by decide +kernel))
set_option maxRecDepth 20000 in
theorem gX4_leads_X4_netOf : GoodIn wsX4_leads (wsV RX4 45 RX4 yX4_netOf wsX4_netOf) := goodIn_app (goodIn_of _ (by decide +kernel)) ggX4_leads_X4_netOf
set_option maxRecDepth 20000 in
theorem ggX4_leads_X4_cellOf : GoodIn wsX4_leads wsX4_cellOf := goodIn_ca (goodIn_r _ [12, 7, 8, 13, 14, 15, 5, 16, 17, 18, 19, 20, 21, 22, 23, 24] (by decide +kernel) (by decide +kernel)) (goodIn_sub (fun _ h => List.mem_cons_of_mem _ (List.mem_append_right _ h)) (by decide +kernel))
set_option maxRecDepth 20000 in
theorem gX4_leads_X4_cellOf : GoodIn wsX4_leads (va_wsS RX4 49 yX4_cellOf wsX4_cellOf) := goodIn_app (goodIn_of _ (by decide +kernel)) ggX4_leads_X4_cellOf
theorem dX4_leads_0 : decode cX4_leads 0 = .ok (.aload_n 0, 1) := by decide +kernel
theorem dX4_leads_1 : decode cX4_leads 1 = .ok (.iload_n 1, 1) := by decide +kernel
theorem dX4_leads_2 : decode cX4_leads 2 = .ok (.invokevirtual 45, 3) := by decide +kernel
theorem dX4_leads_5 : decode cX4_leads 5 = .ok (.astore 4, 2) := by decide +kernel
theorem dX4_leads_7 : decode cX4_leads 7 = .ok (.aload 4, 2) := by decide +kernel
theorem dX4_leads_9 : decode cX4_leads 9 = .ok (.getfield 60, 3) := by decide +kernel
theorem dX4_leads_12 : decode cX4_leads 12 = .ok (.aload 4, 2) := by decide +kernel
theorem dX4_leads_14 : decode cX4_leads 14 = .ok (.iload_n 2, 1) := by decide +kernel
theorem dX4_leads_15 : decode cX4_leads 15 = .ok (.iload_n 3, 1) := by decide +kernel
theorem dX4_leads_16 : decode cX4_leads 16 = .ok (.invokestatic 49, 3) := by decide +kernel
theorem dX4_leads_19 : decode cX4_leads 19 = .ok (.iaload, 1) := by decide +kernel
theorem dX4_leads_20 : decode cX4_leads 20 = .ok (.ireturn, 1) := by decide +kernel
set_option maxRecDepth 20000 in
theorem ggX4_mark_X4_netOf : GoodIn wsX4_mark wsX4_netOf := goodIn_ca (goodIn_r _ [7, 8, 9, 10, 22, 23, 24, 25, 26, 27] (by decide +kernel) (by decide +kernel)) (goodIn_sub (fun _ h => List.mem_cons_of_mem _ (List.mem_append_right _ h)) (by decide +kernel))
set_option maxRecDepth 20000 in
theorem gX4_mark_X4_netOf : GoodIn wsX4_mark (wsV RX4 45 RX4 yX4_netOf wsX4_netOf) := goodIn_app (goodIn_of _ (by decide +kernel)) ggX4_mark_X4_netOf
set_option maxRecDepth 20000 in
theorem ggX4_mark_X4_needPlace : GoodIn wsX4_mark wsX4_needPlace := goodIn_ca (goodIn_r _ [13, 8, 9, 14, 15, 16, 17, 18, 19, 20, 21] (by decide +kernel) (by decide +kernel)) (goodIn_sub (fun _ h => List.mem_cons_of_mem _ (List.mem_append_right _ h)) (by decide +kernel))
set_option maxRecDepth 20000 in
theorem gX4_mark_X4_needPlace : GoodIn wsX4_mark (va_wsS RX4 64 yX4_needPlace wsX4_needPlace) := goodIn_app (goodIn_of _ (by decide +kernel)) ggX4_mark_X4_needPlace
theorem dX4_mark_0 : decode cX4_mark 0 = .ok (.aload_n 0, 1) := by decide +kernel
theorem dX4_mark_1 : decode cX4_mark 1 = .ok (.iload_n 1, 1) := by decide +kernel
theorem dX4_mark_2 : decode cX4_mark 2 = .ok (.invokevirtual 45, 3) := by decide +kernel
theorem dX4_mark_5 : decode cX4_mark 5 = .ok (.astore 4, 2) := by decide +kernel
theorem dX4_mark_7 : decode cX4_mark 7 = .ok (.aload 4, 2) := by decide +kernel
theorem dX4_mark_9 : decode cX4_mark 9 = .ok (.iload_n 2, 1) := by decide +kernel
theorem dX4_mark_10 : decode cX4_mark 10 = .ok (.invokestatic 64, 3) := by decide +kernel
theorem dX4_mark_13 : decode cX4_mark 13 = .ok (.aload 4, 2) := by decide +kernel
theorem dX4_mark_15 : decode cX4_mark 15 = .ok (.getfield 53, 3) := by decide +kernel
theorem dX4_mark_18 : decode cX4_mark 18 = .ok (.ifCond .eq 5, 3) := by decide +kernel
theorem dX4_mark_21 : decode cX4_mark 21 = .ok (.iconst 0, 1) := by decide +kernel
theorem dX4_mark_22 : decode cX4_mark 22 = .ok (.ireturn, 1) := by decide +kernel
theorem dX4_mark_23 : decode cX4_mark 23 = .ok (.aload 4, 2) := by decide +kernel
theorem dX4_mark_25 : decode cX4_mark 25 = .ok (.getfield 68, 3) := by decide +kernel
theorem dX4_mark_28 : decode cX4_mark 28 = .ok (.iload_n 2, 1) := by decide +kernel
theorem dX4_mark_29 : decode cX4_mark 29 = .ok (.iload_n 3, 1) := by decide +kernel
theorem dX4_mark_30 : decode cX4_mark 30 = .ok (.bastore, 1) := by decide +kernel
theorem dX4_mark_31 : decode cX4_mark 31 = .ok (.iconst 1, 1) := by decide +kernel
theorem dX4_mark_32 : decode cX4_mark 32 = .ok (.ireturn, 1) := by decide +kernel
set_option maxRecDepth 20000 in
theorem ggX4_alike_X4_netOf : GoodIn wsX4_alike wsX4_netOf := goodIn_ca (goodIn_r _ [8, 9, 10, 11, 36, 37, 38, 39, 40, 41] (by decide +kernel) (by decide +kernel)) (goodIn_sub (fun _ h => List.mem_cons_of_mem _ (List.mem_append_right _ h)) (by decide +kernel))
set_option maxRecDepth 20000 in
theorem gX4_alike_X4_netOf : GoodIn wsX4_alike (wsV RX4 45 RX4 yX4_netOf wsX4_netOf) := goodIn_app (goodIn_of _ (by decide +kernel)) ggX4_alike_X4_netOf
set_option maxRecDepth 20000 in
theorem ggX4_alike_X4_needPlace : GoodIn wsX4_alike wsX4_needPlace := goodIn_ca (goodIn_r _ [14, 9, 10, 15, 45, 46, 47, 48, 49, 50, 51] (by decide +kernel) (by decide +kernel)) (goodIn_sub (fun _ h => List.mem_cons_of_mem _ (List.mem_append_right _ h)) (by decide +kernel))
set_option maxRecDepth 20000 in
theorem gX4_alike_X4_needPlace : GoodIn wsX4_alike (va_wsS RX4 64 yX4_needPlace wsX4_needPlace) := goodIn_app (goodIn_of _ (by decide +kernel)) ggX4_alike_X4_needPlace
set_option maxRecDepth 20000 in
theorem ggX4_alike_X0_partAll : GoodIn wsX4_alike wsX0_partAll := goodIn_r _ [20, 21, 22, 23, 24, 25, 26, 27, 19, 28, 29, 30, 31, 32, 33, 34, 35, 45, 46, 47, 48, 49, 50, 51, 42, 43, 44] (by decide +kernel) (by decide +kernel)
set_option maxRecDepth 20000 in
theorem gX4_alike_X0_partAll : GoodIn wsX4_alike (wsV RX4 72 RX0 yX0_partAll wsX0_partAll) := goodIn_app (goodIn_of _ (by decide +kernel)) ggX4_alike_X0_partAll
theorem dX4_alike_0 : decode cX4_alike 0 = .ok (.aload_n 0, 1) := by decide +kernel
theorem dX4_alike_1 : decode cX4_alike 1 = .ok (.iload_n 1, 1) := by decide +kernel
theorem dX4_alike_2 : decode cX4_alike 2 = .ok (.invokevirtual 45, 3) := by decide +kernel
theorem dX4_alike_5 : decode cX4_alike 5 = .ok (.astore_n 3, 1) := by decide +kernel
theorem dX4_alike_6 : decode cX4_alike 6 = .ok (.iload_n 2, 1) := by decide +kernel
theorem dX4_alike_7 : decode cX4_alike 7 = .ok (.iconst (-1), 1) := by decide +kernel
theorem dX4_alike_8 : decode cX4_alike 8 = .ok (.if_icmp .eq 8, 3) := by decide +kernel
theorem dX4_alike_11 : decode cX4_alike 11 = .ok (.aload_n 3, 1) := by decide +kernel
theorem dX4_alike_12 : decode cX4_alike 12 = .ok (.iload_n 2, 1) := by decide +kernel
theorem dX4_alike_13 : decode cX4_alike 13 = .ok (.invokestatic 64, 3) := by decide +kernel
theorem dX4_alike_16 : decode cX4_alike 16 = .ok (.aload_n 0, 1) := by decide +kernel
theorem dX4_alike_17 : decode cX4_alike 17 = .ok (.getfield 31, 3) := by decide +kernel
theorem dX4_alike_20 : decode cX4_alike 20 = .ok (.aload_n 3, 1) := by decide +kernel
theorem dX4_alike_21 : decode cX4_alike 21 = .ok (.invokevirtual 72, 3) := by decide +kernel
theorem dX4_alike_24 : decode cX4_alike 24 = .ok (.iload_n 2, 1) := by decide +kernel
theorem dX4_alike_25 : decode cX4_alike 25 = .ok (.iconst (-1), 1) := by decide +kernel
theorem dX4_alike_26 : decode cX4_alike 26 = .ok (.if_icmp .ne 13, 3) := by decide +kernel
theorem dX4_alike_29 : decode cX4_alike 29 = .ok (.aload_n 0, 1) := by decide +kernel
theorem dX4_alike_30 : decode cX4_alike 30 = .ok (.getfield 31, 3) := by decide +kernel
theorem dX4_alike_33 : decode cX4_alike 33 = .ok (.getfield 76, 3) := by decide +kernel
theorem dX4_alike_36 : decode cX4_alike 36 = .ok (.goto 12, 3) := by decide +kernel
theorem dX4_alike_39 : decode cX4_alike 39 = .ok (.aload_n 0, 1) := by decide +kernel
theorem dX4_alike_40 : decode cX4_alike 40 = .ok (.getfield 31, 3) := by decide +kernel
theorem dX4_alike_43 : decode cX4_alike 43 = .ok (.getfield 79, 3) := by decide +kernel
theorem dX4_alike_46 : decode cX4_alike 46 = .ok (.iload_n 2, 1) := by decide +kernel
theorem dX4_alike_47 : decode cX4_alike 47 = .ok (.iaload, 1) := by decide +kernel
theorem dX4_alike_48 : decode cX4_alike 48 = .ok (.ireturn, 1) := by decide +kernel
set_option maxRecDepth 20000 in
theorem ggX4_walk_X4_netOf : GoodIn wsX4_walk wsX4_netOf := goodIn_ca (goodIn_r _ [11, 12, 13, 14, 33, 34, 35, 36, 37, 38] (by decide +kernel) (by decide +kernel)) (goodIn_sub (fun _ h => List.mem_cons_of_mem _ (List.mem_append_right _ h)) (by decide +kernel))
set_option maxRecDepth 20000 in
theorem gX4_walk_X4_netOf : GoodIn wsX4_walk (wsV RX4 45 RX4 yX4_netOf wsX4_netOf) := goodIn_app (goodIn_of _ (by decide +kernel)) ggX4_walk_X4_netOf
set_option maxRecDepth 20000 in
theorem ggX4_walk_X2_init : GoodIn wsX4_walk wsX2_init := goodIn_r _ [17, 18, 19, 20, 21, 22, 23, 24, 25, 26, 27, 28, 29, 30, 31, 32, 49, 50, 46, 47, 48] (by decide +kernel) (by decide +kernel)
set_option maxRecDepth 20000 in
theorem gX4_walk_X2_init : GoodIn wsX4_walk (wsX2_init) := ggX4_walk_X2_init
theorem dX4_walk_0 : decode cX4_walk 0 = .ok (.aload_n 0, 1) := by decide +kernel
theorem dX4_walk_1 : decode cX4_walk 1 = .ok (.iload_n 1, 1) := by decide +kernel
theorem dX4_walk_2 : decode cX4_walk 2 = .ok (.invokevirtual 45, 3) := by decide +kernel
theorem dX4_walk_5 : decode cX4_walk 5 = .ok (.astore_n 2, 1) := by decide +kernel
theorem dX4_walk_6 : decode cX4_walk 6 = .ok (.aload_n 0, 1) := by decide +kernel
theorem dX4_walk_7 : decode cX4_walk 7 = .ok (.getfield 39, 3) := by decide +kernel
theorem dX4_walk_10 : decode cX4_walk 10 = .ok (.bipush 12, 2) := by decide +kernel
theorem dX4_walk_12 : decode cX4_walk 12 = .ok (.if_icmp .lt 5, 3) := by decide +kernel
theorem dX4_walk_15 : decode cX4_walk 15 = .ok (.iconst (-1), 1) := by decide +kernel
theorem dX4_walk_16 : decode cX4_walk 16 = .ok (.ireturn, 1) := by decide +kernel
theorem dX4_walk_17 : decode cX4_walk 17 = .ok (.aload_n 2, 1) := by decide +kernel
theorem dX4_walk_18 : decode cX4_walk 18 = .ok (.iconst 1, 1) := by decide +kernel
theorem dX4_walk_19 : decode cX4_walk 19 = .ok (.putfield 53, 3) := by decide +kernel
theorem dX4_walk_22 : decode cX4_walk 22 = .ok (.aload_n 0, 1) := by decide +kernel
theorem dX4_walk_23 : decode cX4_walk 23 = .ok (.getfield 17, 3) := by decide +kernel
theorem dX4_walk_26 : decode cX4_walk 26 = .ok (.aload_n 0, 1) := by decide +kernel
theorem dX4_walk_27 : decode cX4_walk 27 = .ok (.getfield 39, 3) := by decide +kernel
theorem dX4_walk_30 : decode cX4_walk 30 = .ok (.new 15, 3) := by decide +kernel
theorem dX4_walk_33 : decode cX4_walk 33 = .ok (.dup, 1) := by decide +kernel
theorem dX4_walk_34 : decode cX4_walk 34 = .ok (.iload_n 1, 1) := by decide +kernel
theorem dX4_walk_35 : decode cX4_walk 35 = .ok (.aload_n 2, 1) := by decide +kernel
theorem dX4_walk_36 : decode cX4_walk 36 = .ok (.invokespecial 82, 3) := by decide +kernel
theorem dX4_walk_39 : decode cX4_walk 39 = .ok (.aastore, 1) := by decide +kernel
theorem dX4_walk_40 : decode cX4_walk 40 = .ok (.aload_n 0, 1) := by decide +kernel
theorem dX4_walk_41 : decode cX4_walk 41 = .ok (.dup, 1) := by decide +kernel
theorem dX4_walk_42 : decode cX4_walk 42 = .ok (.getfield 39, 3) := by decide +kernel
theorem dX4_walk_45 : decode cX4_walk 45 = .ok (.iconst 1, 1) := by decide +kernel
theorem dX4_walk_46 : decode cX4_walk 46 = .ok (.iadd, 1) := by decide +kernel
theorem dX4_walk_47 : decode cX4_walk 47 = .ok (.putfield 39, 3) := by decide +kernel
theorem dX4_walk_50 : decode cX4_walk 50 = .ok (.aload_n 0, 1) := by decide +kernel
theorem dX4_walk_51 : decode cX4_walk 51 = .ok (.getfield 39, 3) := by decide +kernel
theorem dX4_walk_54 : decode cX4_walk 54 = .ok (.iconst 1, 1) := by decide +kernel
theorem dX4_walk_55 : decode cX4_walk 55 = .ok (.isub, 1) := by decide +kernel
theorem dX4_walk_56 : decode cX4_walk 56 = .ok (.ireturn, 1) := by decide +kernel
set_option maxRecDepth 20000 in
theorem ggX4_set_X4_walkOf : GoodIn wsX4_set wsX4_walkOf := goodIn_ca (goodIn_r _ [9, 10, 11, 12, 42, 43, 44, 45, 46, 47] (by decide +kernel) (by decide +kernel)) (goodIn_sub (fun _ h => List.mem_cons_of_mem _ (List.mem_append_left _ (List.mem_append_right _ h))) (by decide +kernel))
set_option maxRecDepth 20000 in
theorem gX4_set_X4_walkOf : GoodIn wsX4_set (wsV RX4 85 RX4 yX4_walkOf wsX4_walkOf) := goodIn_app (goodIn_of _ (by decide +kernel)) ggX4_set_X4_walkOf
set_option maxRecDepth 20000 in
theorem ggX4_set_X4_cellOf : GoodIn wsX4_set wsX4_cellOf := goodIn_ca (goodIn_r _ [15, 10, 11, 16, 17, 18, 8, 19, 20, 48, 49, 50, 51, 52, 53, 54] (by decide +kernel) (by decide +kernel)) (goodIn_sub (fun _ h => List.mem_cons_of_mem _ (List.mem_append_left _ (List.mem_append_right _ h))) (by decide +kernel))
set_option maxRecDepth 20000 in
theorem gX4_set_X4_cellOf : GoodIn wsX4_set (va_wsS RX4 49 yX4_cellOf wsX4_cellOf) := goodIn_app (goodIn_of _ (by decide +kernel)) ggX4_set_X4_cellOf
set_option maxRecDepth 20000 in
theorem ggX4_set_X4_needTold : GoodIn wsX4_set wsX4_needTold := goodIn_ca (goodIn_r _ [23, 24, 25, 26, 27, 8, 28, 29, 30] (by decide +kernel) (by decide +kernel)) (goodIn_sub (fun _ h => List.mem_cons_of_mem _ (List.mem_append_right _ h)) (by decide +kernel))
set_option maxRecDepth 20000 in
theorem gX4_set_X4_needTold : GoodIn wsX4_set (va_wsS RX4 93 yX4_needTold wsX4_needTold) := goodIn_app (goodIn_of _ (by decide +kernel)) ggX4_set_X4_needTold
set_option maxRecDepth 20000 in
theorem ggX4_set_X3_isToldBut : GoodIn wsX4_set wsX3_isToldBut := goodIn_r _ [35, 36, 27, 8, 28, 29, 30, 40, 41] (by decide +kernel) (by decide +kernel)
set_option maxRecDepth 20000 in
theorem gX4_set_X3_isToldBut : GoodIn wsX4_set (wsV RX4 100 RX3 yX3_isToldBut wsX3_isToldBut) := goodIn_app (goodIn_of _ (by decide +kernel)) ggX4_set_X3_isToldBut
theorem dX4_set_0 : decode cX4_set 0 = .ok (.aload_n 0, 1) := by decide +kernel
theorem dX4_set_1 : decode cX4_set 1 = .ok (.iload_n 1, 1) := by decide +kernel
theorem dX4_set_2 : decode cX4_set 2 = .ok (.invokevirtual 85, 3) := by decide +kernel
theorem dX4_set_5 : decode cX4_set 5 = .ok (.astore 5, 2) := by decide +kernel
theorem dX4_set_7 : decode cX4_set 7 = .ok (.aload 5, 2) := by decide +kernel
theorem dX4_set_9 : decode cX4_set 9 = .ok (.getfield 89, 3) := by decide +kernel
theorem dX4_set_12 : decode cX4_set 12 = .ok (.iload_n 2, 1) := by decide +kernel
theorem dX4_set_13 : decode cX4_set 13 = .ok (.iload_n 3, 1) := by decide +kernel
theorem dX4_set_14 : decode cX4_set 14 = .ok (.invokestatic 49, 3) := by decide +kernel
theorem dX4_set_17 : decode cX4_set 17 = .ok (.istore 6, 2) := by decide +kernel
theorem dX4_set_19 : decode cX4_set 19 = .ok (.iload 4, 2) := by decide +kernel
theorem dX4_set_21 : decode cX4_set 21 = .ok (.invokestatic 93, 3) := by decide +kernel
theorem dX4_set_24 : decode cX4_set 24 = .ok (.aload 5, 2) := by decide +kernel
theorem dX4_set_26 : decode cX4_set 26 = .ok (.getfield 97, 3) := by decide +kernel
theorem dX4_set_29 : decode cX4_set 29 = .ok (.iload 6, 2) := by decide +kernel
theorem dX4_set_31 : decode cX4_set 31 = .ok (.invokevirtual 100, 3) := by decide +kernel
theorem dX4_set_34 : decode cX4_set 34 = .ok (.ifCond .ne 5, 3) := by decide +kernel
theorem dX4_set_37 : decode cX4_set 37 = .ok (.iconst 0, 1) := by decide +kernel
theorem dX4_set_38 : decode cX4_set 38 = .ok (.ireturn, 1) := by decide +kernel
theorem dX4_set_39 : decode cX4_set 39 = .ok (.aload 5, 2) := by decide +kernel
theorem dX4_set_41 : decode cX4_set 41 = .ok (.getfield 97, 3) := by decide +kernel
theorem dX4_set_44 : decode cX4_set 44 = .ok (.getfield 104, 3) := by decide +kernel
theorem dX4_set_47 : decode cX4_set 47 = .ok (.iload 6, 2) := by decide +kernel
theorem dX4_set_49 : decode cX4_set 49 = .ok (.iload 4, 2) := by decide +kernel
theorem dX4_set_51 : decode cX4_set 51 = .ok (.i2l, 1) := by decide +kernel
theorem dX4_set_52 : decode cX4_set 52 = .ok (.lastore, 1) := by decide +kernel
theorem dX4_set_53 : decode cX4_set 53 = .ok (.aload 5, 2) := by decide +kernel
theorem dX4_set_55 : decode cX4_set 55 = .ok (.getfield 97, 3) := by decide +kernel
theorem dX4_set_58 : decode cX4_set 58 = .ok (.iconst 0, 1) := by decide +kernel
theorem dX4_set_59 : decode cX4_set 59 = .ok (.putfield 108, 3) := by decide +kernel
theorem dX4_set_62 : decode cX4_set 62 = .ok (.iconst 1, 1) := by decide +kernel
theorem dX4_set_63 : decode cX4_set 63 = .ok (.ireturn, 1) := by decide +kernel
set_option maxRecDepth 20000 in
theorem ggX4_spread_X4_walkOf : GoodIn wsX4_spread wsX4_walkOf := goodIn_ca (goodIn_r _ [7, 8, 9, 10, 33, 34, 35, 36, 37, 38] (by decide +kernel) (by decide +kernel)) (goodIn_sub (fun _ h => List.mem_cons_of_mem _ (List.mem_append_left _ (List.mem_append_right _ h))) (by decide +kernel))
set_option maxRecDepth 20000 in
theorem gX4_spread_X4_walkOf : GoodIn wsX4_spread (wsV RX4 85 RX4 yX4_walkOf wsX4_walkOf) := goodIn_app (goodIn_of _ (by decide +kernel)) ggX4_spread_X4_walkOf
set_option maxRecDepth 20000 in
theorem ggX4_spread_X4_needTold : GoodIn wsX4_spread wsX4_needTold := goodIn_ca (goodIn_r _ [13, 14, 15, 16, 17, 6, 18, 19, 20] (by decide +kernel) (by decide +kernel)) (goodIn_sub (fun _ h => List.mem_cons_of_mem _ (List.mem_append_right _ h)) (by decide +kernel))
set_option maxRecDepth 20000 in
theorem gX4_spread_X4_needTold : GoodIn wsX4_spread (va_wsS RX4 93 yX4_needTold wsX4_needTold) := goodIn_app (goodIn_of _ (by decide +kernel)) ggX4_spread_X4_needTold
set_option maxRecDepth 20000 in
theorem ggX4_spread_X3_fillAll : GoodIn wsX4_spread wsX3_fillAll := goodIn_r _ [25, 26, 27, 28, 29, 39, 40, 41, 42, 43, 44, 45, 46, 47] (by decide +kernel) (by decide +kernel)
set_option maxRecDepth 20000 in
theorem gX4_spread_X3_fillAll : GoodIn wsX4_spread (wsV RX4 111 RX3 yX3_fillAll wsX3_fillAll) := goodIn_app (goodIn_of _ (by decide +kernel)) ggX4_spread_X3_fillAll
theorem dX4_spread_0 : decode cX4_spread 0 = .ok (.aload_n 0, 1) := by decide +kernel
theorem dX4_spread_1 : decode cX4_spread 1 = .ok (.iload_n 1, 1) := by decide +kernel
theorem dX4_spread_2 : decode cX4_spread 2 = .ok (.invokevirtual 85, 3) := by decide +kernel
theorem dX4_spread_5 : decode cX4_spread 5 = .ok (.astore_n 3, 1) := by decide +kernel
theorem dX4_spread_6 : decode cX4_spread 6 = .ok (.iload_n 2, 1) := by decide +kernel
theorem dX4_spread_7 : decode cX4_spread 7 = .ok (.invokestatic 93, 3) := by decide +kernel
theorem dX4_spread_10 : decode cX4_spread 10 = .ok (.aload_n 3, 1) := by decide +kernel
theorem dX4_spread_11 : decode cX4_spread 11 = .ok (.getfield 97, 3) := by decide +kernel
theorem dX4_spread_14 : decode cX4_spread 14 = .ok (.aload_n 3, 1) := by decide +kernel
theorem dX4_spread_15 : decode cX4_spread 15 = .ok (.getfield 89, 3) := by decide +kernel
theorem dX4_spread_18 : decode cX4_spread 18 = .ok (.iload_n 2, 1) := by decide +kernel
theorem dX4_spread_19 : decode cX4_spread 19 = .ok (.invokevirtual 111, 3) := by decide +kernel
theorem dX4_spread_22 : decode cX4_spread 22 = .ok (.return_, 1) := by decide +kernel
set_option maxRecDepth 20000 in
theorem ggX4_step_X4_walkOf : GoodIn wsX4_step wsX4_walkOf := goodIn_ca (goodIn_r _ [8, 9, 10, 11, 62, 63, 64, 65, 66, 67] (by decide +kernel) (by decide +kernel)) (goodIn_sub (fun _ h => List.mem_cons_of_mem _ (List.mem_append_left _ (List.mem_append_right _ h))) (by decide +kernel))
set_option maxRecDepth 20000 in
theorem gX4_step_X4_walkOf : GoodIn wsX4_step (wsV RX4 85 RX4 yX4_walkOf wsX4_walkOf) := goodIn_app (goodIn_of _ (by decide +kernel)) ggX4_step_X4_walkOf
set_option maxRecDepth 20000 in
theorem ggX4_step_X4_needSteps : GoodIn wsX4_step wsX4_needSteps := goodIn_ca (goodIn_r _ [14, 15, 16] (by decide +kernel) (by decide +kernel)) (goodIn_sub (fun _ h => List.mem_cons_of_mem _ (List.mem_append_right _ h)) (by decide +kernel))
set_option maxRecDepth 20000 in
theorem gX4_step_X4_needSteps : GoodIn wsX4_step (va_wsS RX4 114 yX4_needSteps wsX4_needSteps) := goodIn_app (goodIn_of _ (by decide +kernel)) ggX4_step_X4_needSteps
set_option maxRecDepth 20000 in
theorem ggX4_step_X3_squares : GoodIn wsX4_step wsX3_squares := goodIn_r _ [21, 22, 23, 24, 20, 25, 26, 60, 61] (by decide +kernel) (by decide +kernel)
set_option maxRecDepth 20000 in
theorem gX4_step_X3_squares : GoodIn wsX4_step (wsV RX4 117 RX3 yX3_squares wsX3_squares) := goodIn_app (goodIn_of _ (by decide +kernel)) ggX4_step_X3_squares
set_option maxRecDepth 20000 in
theorem ggX4_step_X3_stepsLeft : GoodIn wsX4_step wsX3_stepsLeft := goodIn_r _ [30, 31, 32, 33, 34, 18, 19, 20, 21, 22, 23, 24, 25, 26, 60, 61, 68, 69, 70, 71, 72, 73, 74] (by decide +kernel) (by decide +kernel)
set_option maxRecDepth 20000 in
theorem gX4_step_X3_stepsLeft : GoodIn wsX4_step (wsV RX4 121 RX3 yX3_stepsLeft wsX3_stepsLeft) := goodIn_app (goodIn_of _ (by decide +kernel)) ggX4_step_X3_stepsLeft
set_option maxRecDepth 20000 in
theorem ggX4_step_X3_doStep : GoodIn wsX4_step wsX3_doStep := goodIn_r _ [38, 39, 40, 31, 41, 42, 43, 20, 44, 45, 26, 46, 47, 48, 49, 50, 51, 52, 53, 54, 55, 56, 68, 69, 70, 71, 72, 73, 74, 60, 61] (by decide +kernel) (by decide +kernel)
set_option maxRecDepth 20000 in
theorem gX4_step_X3_doStep : GoodIn wsX4_step (wsV RX4 125 RX3 yX3_doStep wsX3_doStep) := goodIn_app (goodIn_of _ (by decide +kernel)) ggX4_step_X3_doStep
theorem dX4_step_0 : decode cX4_step 0 = .ok (.aload_n 0, 1) := by decide +kernel
theorem dX4_step_1 : decode cX4_step 1 = .ok (.iload_n 1, 1) := by decide +kernel
theorem dX4_step_2 : decode cX4_step 2 = .ok (.invokevirtual 85, 3) := by decide +kernel
theorem dX4_step_5 : decode cX4_step 5 = .ok (.astore_n 3, 1) := by decide +kernel
theorem dX4_step_6 : decode cX4_step 6 = .ok (.iload_n 2, 1) := by decide +kernel
theorem dX4_step_7 : decode cX4_step 7 = .ok (.invokestatic 114, 3) := by decide +kernel
theorem dX4_step_10 : decode cX4_step 10 = .ok (.aload_n 3, 1) := by decide +kernel
theorem dX4_step_11 : decode cX4_step 11 = .ok (.getfield 97, 3) := by decide +kernel
theorem dX4_step_14 : decode cX4_step 14 = .ok (.astore 4, 2) := by decide +kernel
theorem dX4_step_16 : decode cX4_step 16 = .ok (.aload 4, 2) := by decide +kernel
theorem dX4_step_18 : decode cX4_step 18 = .ok (.invokevirtual 117, 3) := by decide +kernel
theorem dX4_step_21 : decode cX4_step 21 = .ok (.lconst 0, 1) := by decide +kernel
theorem dX4_step_22 : decode cX4_step 22 = .ok (.lcmp, 1) := by decide +kernel
theorem dX4_step_23 : decode cX4_step 23 = .ok (.ifCond .eq 16, 3) := by decide +kernel
theorem dX4_step_26 : decode cX4_step 26 = .ok (.iload_n 2, 1) := by decide +kernel
theorem dX4_step_27 : decode cX4_step 27 = .ok (.aload 4, 2) := by decide +kernel
theorem dX4_step_29 : decode cX4_step 29 = .ok (.aload_n 3, 1) := by decide +kernel
theorem dX4_step_30 : decode cX4_step 30 = .ok (.getfield 89, 3) := by decide +kernel
theorem dX4_step_33 : decode cX4_step 33 = .ok (.invokevirtual 121, 3) := by decide +kernel
theorem dX4_step_36 : decode cX4_step 36 = .ok (.if_icmp .le 5, 3) := by decide +kernel
theorem dX4_step_39 : decode cX4_step 39 = .ok (.iconst (-1), 1) := by decide +kernel
theorem dX4_step_40 : decode cX4_step 40 = .ok (.ireturn, 1) := by decide +kernel
theorem dX4_step_41 : decode cX4_step 41 = .ok (.iconst 0, 1) := by decide +kernel
theorem dX4_step_42 : decode cX4_step 42 = .ok (.istore 5, 2) := by decide +kernel
theorem dX4_step_44 : decode cX4_step 44 = .ok (.iload 5, 2) := by decide +kernel
theorem dX4_step_46 : decode cX4_step 46 = .ok (.iload_n 2, 1) := by decide +kernel
theorem dX4_step_47 : decode cX4_step 47 = .ok (.if_icmp .ge 18, 3) := by decide +kernel
theorem dX4_step_50 : decode cX4_step 50 = .ok (.aload 4, 2) := by decide +kernel
theorem dX4_step_52 : decode cX4_step 52 = .ok (.aload_n 3, 1) := by decide +kernel
theorem dX4_step_53 : decode cX4_step 53 = .ok (.getfield 89, 3) := by decide +kernel
theorem dX4_step_56 : decode cX4_step 56 = .ok (.invokevirtual 125, 3) := by decide +kernel
theorem dX4_step_59 : decode cX4_step 59 = .ok (.iinc 5 1, 3) := by decide +kernel
theorem dX4_step_62 : decode cX4_step 62 = .ok (.goto (-18), 3) := by decide +kernel
theorem dX4_step_65 : decode cX4_step 65 = .ok (.aload 4, 2) := by decide +kernel
theorem dX4_step_67 : decode cX4_step 67 = .ok (.getfield 108, 3) := by decide +kernel
theorem dX4_step_70 : decode cX4_step 70 = .ok (.ireturn, 1) := by decide +kernel
set_option maxRecDepth 20000 in
theorem ggX4_back_X4_walkOf : GoodIn wsX4_back wsX4_walkOf := goodIn_ca (goodIn_r _ [8, 9, 10, 11, 53, 54, 55, 56, 57, 58] (by decide +kernel) (by decide +kernel)) (goodIn_sub (fun _ h => List.mem_cons_of_mem _ (List.mem_append_left _ (List.mem_append_right _ h))) (by decide +kernel))
set_option maxRecDepth 20000 in
theorem gX4_back_X4_walkOf : GoodIn wsX4_back (wsV RX4 85 RX4 yX4_walkOf wsX4_walkOf) := goodIn_app (goodIn_of _ (by decide +kernel)) ggX4_back_X4_walkOf
set_option maxRecDepth 20000 in
theorem ggX4_back_X4_needSteps : GoodIn wsX4_back wsX4_needSteps := goodIn_ca (goodIn_r _ [14, 15, 16] (by decide +kernel) (by decide +kernel)) (goodIn_sub (fun _ h => List.mem_cons_of_mem _ (List.mem_append_right _ h)) (by decide +kernel))
set_option maxRecDepth 20000 in
theorem gX4_back_X4_needSteps : GoodIn wsX4_back (va_wsS RX4 114 yX4_needSteps wsX4_needSteps) := goodIn_app (goodIn_of _ (by decide +kernel)) ggX4_back_X4_needSteps
set_option maxRecDepth 20000 in
theorem ggX4_back_X3_undoStep : GoodIn wsX4_back wsX3_undoStep := goodIn_r _ [21, 22, 23, 24, 25, 26, 27, 20, 28, 29, 30, 31, 32, 33, 34, 35, 36, 37, 38, 39, 40, 41, 42, 43, 44, 45, 46, 47, 59, 60, 61, 62, 63, 64, 65, 51, 52] (by decide +kernel) (by decide +kernel)
set_option maxRecDepth 20000 in
theorem gX4_back_X3_undoStep : GoodIn wsX4_back (wsV RX4 128 RX3 yX3_undoStep wsX3_undoStep) := goodIn_app (goodIn_of _ (by decide +kernel)) ggX4_back_X3_undoStep
theorem dX4_back_0 : decode cX4_back 0 = .ok (.aload_n 0, 1) := by decide +kernel
theorem dX4_back_1 : decode cX4_back 1 = .ok (.iload_n 1, 1) := by decide +kernel
theorem dX4_back_2 : decode cX4_back 2 = .ok (.invokevirtual 85, 3) := by decide +kernel
theorem dX4_back_5 : decode cX4_back 5 = .ok (.astore_n 3, 1) := by decide +kernel
theorem dX4_back_6 : decode cX4_back 6 = .ok (.iload_n 2, 1) := by decide +kernel
theorem dX4_back_7 : decode cX4_back 7 = .ok (.invokestatic 114, 3) := by decide +kernel
theorem dX4_back_10 : decode cX4_back 10 = .ok (.aload_n 3, 1) := by decide +kernel
theorem dX4_back_11 : decode cX4_back 11 = .ok (.getfield 97, 3) := by decide +kernel
theorem dX4_back_14 : decode cX4_back 14 = .ok (.astore 4, 2) := by decide +kernel
theorem dX4_back_16 : decode cX4_back 16 = .ok (.aload 4, 2) := by decide +kernel
theorem dX4_back_18 : decode cX4_back 18 = .ok (.getfield 108, 3) := by decide +kernel
theorem dX4_back_21 : decode cX4_back 21 = .ok (.iload_n 2, 1) := by decide +kernel
theorem dX4_back_22 : decode cX4_back 22 = .ok (.if_icmp .ge 5, 3) := by decide +kernel
theorem dX4_back_25 : decode cX4_back 25 = .ok (.iconst (-1), 1) := by decide +kernel
theorem dX4_back_26 : decode cX4_back 26 = .ok (.ireturn, 1) := by decide +kernel
theorem dX4_back_27 : decode cX4_back 27 = .ok (.iconst 0, 1) := by decide +kernel
theorem dX4_back_28 : decode cX4_back 28 = .ok (.istore 5, 2) := by decide +kernel
theorem dX4_back_30 : decode cX4_back 30 = .ok (.iload 5, 2) := by decide +kernel
theorem dX4_back_32 : decode cX4_back 32 = .ok (.iload_n 2, 1) := by decide +kernel
theorem dX4_back_33 : decode cX4_back 33 = .ok (.if_icmp .ge 18, 3) := by decide +kernel
theorem dX4_back_36 : decode cX4_back 36 = .ok (.aload 4, 2) := by decide +kernel
theorem dX4_back_38 : decode cX4_back 38 = .ok (.aload_n 3, 1) := by decide +kernel
theorem dX4_back_39 : decode cX4_back 39 = .ok (.getfield 89, 3) := by decide +kernel
theorem dX4_back_42 : decode cX4_back 42 = .ok (.invokevirtual 128, 3) := by decide +kernel
theorem dX4_back_45 : decode cX4_back 45 = .ok (.iinc 5 1, 3) := by decide +kernel
theorem dX4_back_48 : decode cX4_back 48 = .ok (.goto (-18), 3) := by decide +kernel
theorem dX4_back_51 : decode cX4_back 51 = .ok (.aload 4, 2) := by decide +kernel
theorem dX4_back_53 : decode cX4_back 53 = .ok (.getfield 108, 3) := by decide +kernel
theorem dX4_back_56 : decode cX4_back 56 = .ok (.ireturn, 1) := by decide +kernel
set_option maxRecDepth 20000 in
theorem ggX4_at_X4_walkOf : GoodIn wsX4_at wsX4_walkOf := goodIn_ca (goodIn_r _ [8, 9, 10, 11, 25, 26, 27, 28, 29, 30] (by decide +kernel) (by decide +kernel)) (goodIn_sub (fun _ h => List.mem_cons_of_mem _ (List.mem_append_right _ h)) (by decide +kernel))
set_option maxRecDepth 20000 in
theorem gX4_at_X4_walkOf : GoodIn wsX4_at (wsV RX4 85 RX4 yX4_walkOf wsX4_walkOf) := goodIn_app (goodIn_of _ (by decide +kernel)) ggX4_at_X4_walkOf
set_option maxRecDepth 20000 in
theorem ggX4_at_X4_cellOf : GoodIn wsX4_at wsX4_cellOf := goodIn_ca (goodIn_r _ [14, 9, 10, 15, 16, 17, 7, 18, 19, 31, 32, 33, 34, 35, 36, 37] (by decide +kernel) (by decide +kernel)) (goodIn_sub (fun _ h => List.mem_cons_of_mem _ (List.mem_append_right _ h)) (by decide +kernel))
set_option maxRecDepth 20000 in
theorem gX4_at_X4_cellOf : GoodIn wsX4_at (va_wsS RX4 49 yX4_cellOf wsX4_cellOf) := goodIn_app (goodIn_of _ (by decide +kernel)) ggX4_at_X4_cellOf
theorem dX4_at_0 : decode cX4_at 0 = .ok (.aload_n 0, 1) := by decide +kernel
theorem dX4_at_1 : decode cX4_at 1 = .ok (.iload_n 1, 1) := by decide +kernel
theorem dX4_at_2 : decode cX4_at 2 = .ok (.invokevirtual 85, 3) := by decide +kernel
theorem dX4_at_5 : decode cX4_at 5 = .ok (.astore 4, 2) := by decide +kernel
theorem dX4_at_7 : decode cX4_at 7 = .ok (.aload 4, 2) := by decide +kernel
theorem dX4_at_9 : decode cX4_at 9 = .ok (.getfield 97, 3) := by decide +kernel
theorem dX4_at_12 : decode cX4_at 12 = .ok (.getfield 104, 3) := by decide +kernel
theorem dX4_at_15 : decode cX4_at 15 = .ok (.aload 4, 2) := by decide +kernel
theorem dX4_at_17 : decode cX4_at 17 = .ok (.getfield 89, 3) := by decide +kernel
theorem dX4_at_20 : decode cX4_at 20 = .ok (.iload_n 2, 1) := by decide +kernel
theorem dX4_at_21 : decode cX4_at 21 = .ok (.iload_n 3, 1) := by decide +kernel
theorem dX4_at_22 : decode cX4_at 22 = .ok (.invokestatic 49, 3) := by decide +kernel
theorem dX4_at_25 : decode cX4_at 25 = .ok (.laload, 1) := by decide +kernel
theorem dX4_at_26 : decode cX4_at 26 = .ok (.lreturn, 1) := by decide +kernel
set_option maxRecDepth 20000 in
theorem ggX4_share_X4_walkOf : GoodIn wsX4_share wsX4_walkOf := goodIn_ca (goodIn_r _ [7, 8, 9, 10, 29, 30, 31, 32, 33, 34] (by decide +kernel) (by decide +kernel)) (goodIn_sub (fun _ h => List.mem_cons_of_mem _ (List.mem_append_right _ h)) (by decide +kernel))
set_option maxRecDepth 20000 in
theorem gX4_share_X4_walkOf : GoodIn wsX4_share (wsV RX4 85 RX4 yX4_walkOf wsX4_walkOf) := goodIn_app (goodIn_of _ (by decide +kernel)) ggX4_share_X4_walkOf
set_option maxRecDepth 20000 in
theorem ggX4_share_X3_squares : GoodIn wsX4_share wsX3_squares := goodIn_r _ [15, 16, 17, 18, 14, 19, 20, 35, 36] (by decide +kernel) (by decide +kernel)
set_option maxRecDepth 20000 in
theorem gX4_share_X3_squares : GoodIn wsX4_share (wsV RX4 117 RX3 yX3_squares wsX3_squares) := goodIn_app (goodIn_of _ (by decide +kernel)) ggX4_share_X3_squares
set_option maxRecDepth 20000 in
theorem ggX4_share_X4_needPlace : GoodIn wsX4_share wsX4_needPlace := goodIn_ca (goodIn_r _ [23, 8, 9, 24, 37, 38, 39, 40, 41, 42, 43] (by decide +kernel) (by decide +kernel)) (goodIn_sub (fun _ h => List.mem_cons_of_mem _ (List.mem_append_right _ h)) (by decide +kernel))
set_option maxRecDepth 20000 in
theorem gX4_share_X4_needPlace : GoodIn wsX4_share (va_wsS RX4 64 yX4_needPlace wsX4_needPlace) := goodIn_app (goodIn_of _ (by decide +kernel)) ggX4_share_X4_needPlace
set_option maxRecDepth 20000 in
theorem ggX4_share_X3_squaresAt : GoodIn wsX4_share wsX3_squaresAt := goodIn_r _ [19, 20, 35, 36] (by decide +kernel) (by decide +kernel)
set_option maxRecDepth 20000 in
theorem gX4_share_X3_squaresAt : GoodIn wsX4_share (wsV RX4 131 RX3 yX3_squaresAt wsX3_squaresAt) := goodIn_app (goodIn_of _ (by decide +kernel)) ggX4_share_X3_squaresAt
theorem dX4_share_0 : decode cX4_share 0 = .ok (.aload_n 0, 1) := by decide +kernel
theorem dX4_share_1 : decode cX4_share 1 = .ok (.iload_n 1, 1) := by decide +kernel
theorem dX4_share_2 : decode cX4_share 2 = .ok (.invokevirtual 85, 3) := by decide +kernel
theorem dX4_share_5 : decode cX4_share 5 = .ok (.astore_n 3, 1) := by decide +kernel
theorem dX4_share_6 : decode cX4_share 6 = .ok (.iload_n 2, 1) := by decide +kernel
theorem dX4_share_7 : decode cX4_share 7 = .ok (.iconst (-1), 1) := by decide +kernel
theorem dX4_share_8 : decode cX4_share 8 = .ok (.if_icmp .ne 11, 3) := by decide +kernel
theorem dX4_share_11 : decode cX4_share 11 = .ok (.aload_n 3, 1) := by decide +kernel
theorem dX4_share_12 : decode cX4_share 12 = .ok (.getfield 97, 3) := by decide +kernel
theorem dX4_share_15 : decode cX4_share 15 = .ok (.invokevirtual 117, 3) := by decide +kernel
theorem dX4_share_18 : decode cX4_share 18 = .ok (.lreturn, 1) := by decide +kernel
theorem dX4_share_19 : decode cX4_share 19 = .ok (.aload_n 3, 1) := by decide +kernel
theorem dX4_share_20 : decode cX4_share 20 = .ok (.getfield 89, 3) := by decide +kernel
theorem dX4_share_23 : decode cX4_share 23 = .ok (.iload_n 2, 1) := by decide +kernel
theorem dX4_share_24 : decode cX4_share 24 = .ok (.invokestatic 64, 3) := by decide +kernel
theorem dX4_share_27 : decode cX4_share 27 = .ok (.aload_n 3, 1) := by decide +kernel
theorem dX4_share_28 : decode cX4_share 28 = .ok (.getfield 97, 3) := by decide +kernel
theorem dX4_share_31 : decode cX4_share 31 = .ok (.iload_n 2, 1) := by decide +kernel
theorem dX4_share_32 : decode cX4_share 32 = .ok (.invokevirtual 131, 3) := by decide +kernel
theorem dX4_share_35 : decode cX4_share 35 = .ok (.lreturn, 1) := by decide +kernel
set_option maxRecDepth 20000 in
theorem ggX4_of_X4_walkOf : GoodIn wsX4_of wsX4_walkOf := goodIn_ca (goodIn_r _ [12, 1, 2, 13, 26, 27, 28, 29, 30, 31] (by decide +kernel) (by decide +kernel)) (goodIn_sub (fun _ h => List.mem_cons_of_mem _ (List.mem_append_right _ h)) (by decide +kernel))
set_option maxRecDepth 20000 in
theorem gX4_of_X4_walkOf : GoodIn wsX4_of (wsV RX4 85 RX4 yX4_walkOf wsX4_walkOf) := goodIn_app (goodIn_of _ (by decide +kernel)) ggX4_of_X4_walkOf
theorem dX4_of_0 : decode cX4_of 0 = .ok (.aload_n 0, 1) := by decide +kernel
theorem dX4_of_1 : decode cX4_of 1 = .ok (.iload_n 1, 1) := by decide +kernel
theorem dX4_of_2 : decode cX4_of 2 = .ok (.invokevirtual 85, 3) := by decide +kernel
theorem dX4_of_5 : decode cX4_of 5 = .ok (.astore_n 3, 1) := by decide +kernel
theorem dX4_of_6 : decode cX4_of 6 = .ok (.iload_n 2, 1) := by decide +kernel
theorem dX4_of_7 : decode cX4_of 7 = .ok (.tableswitch 46 0 2 #[25, 30, 38], 25) := by decide +kernel
theorem dX4_of_32 : decode cX4_of 32 = .ok (.aload_n 3, 1) := by decide +kernel
theorem dX4_of_33 : decode cX4_of 33 = .ok (.getfield 135, 3) := by decide +kernel
theorem dX4_of_36 : decode cX4_of 36 = .ok (.ireturn, 1) := by decide +kernel
theorem dX4_of_37 : decode cX4_of 37 = .ok (.aload_n 3, 1) := by decide +kernel
theorem dX4_of_38 : decode cX4_of 38 = .ok (.getfield 97, 3) := by decide +kernel
theorem dX4_of_41 : decode cX4_of 41 = .ok (.getfield 108, 3) := by decide +kernel
theorem dX4_of_44 : decode cX4_of 44 = .ok (.ireturn, 1) := by decide +kernel
theorem dX4_of_45 : decode cX4_of 45 = .ok (.aload_n 3, 1) := by decide +kernel
theorem dX4_of_46 : decode cX4_of 46 = .ok (.getfield 89, 3) := by decide +kernel
theorem dX4_of_49 : decode cX4_of 49 = .ok (.getfield 138, 3) := by decide +kernel
theorem dX4_of_52 : decode cX4_of 52 = .ok (.ireturn, 1) := by decide +kernel
theorem dX4_of_53 : decode cX4_of 53 = .ok (.new 141, 3) := by decide +kernel
theorem dX4_of_56 : decode cX4_of 56 = .ok (.dup, 1) := by decide +kernel
theorem dX4_of_57 : decode cX4_of 57 = .ok (.ldc 143, 2) := by decide +kernel
theorem dX4_of_59 : decode cX4_of 59 = .ok (.invokespecial 145, 3) := by decide +kernel
theorem dX4_of_62 : decode cX4_of 62 = .ok (.athrow, 1) := by decide +kernel
set_option maxRecDepth 20000 in
theorem ggX4_arrives_X4_walkOf : GoodIn wsX4_arrives wsX4_walkOf := goodIn_ca (goodIn_r _ [12, 13, 14, 15, 79, 80, 81, 82, 83, 84] (by decide +kernel) (by decide +kernel)) (goodIn_sub (fun _ h => List.mem_cons_of_mem _ (List.mem_append_left _ (List.mem_append_right _ h))) (by decide +kernel))
set_option maxRecDepth 20000 in
theorem gX4_arrives_X4_walkOf : GoodIn wsX4_arrives (wsV RX4 85 RX4 yX4_walkOf wsX4_walkOf) := goodIn_app (goodIn_of _ (by decide +kernel)) ggX4_arrives_X4_walkOf
set_option maxRecDepth 20000 in
theorem ggX4_arrives_X4_needPlace : GoodIn wsX4_arrives wsX4_needPlace := goodIn_ca (goodIn_r _ [18, 13, 14, 19, 85, 86, 87, 88, 89, 90, 91] (by decide +kernel) (by decide +kernel)) (goodIn_sub (fun _ h => List.mem_cons_of_mem _ (List.mem_append_left _ (List.mem_append_right _ h))) (by decide +kernel))
set_option maxRecDepth 20000 in
theorem gX4_arrives_X4_needPlace : GoodIn wsX4_arrives (va_wsS RX4 64 yX4_needPlace wsX4_needPlace) := goodIn_app (goodIn_of _ (by decide +kernel)) ggX4_arrives_X4_needPlace
set_option maxRecDepth 20000 in
theorem ggX4_arrives_X4_needSteps : GoodIn wsX4_arrives wsX4_needSteps := goodIn_ca (goodIn_r _ [22, 23, 24] (by decide +kernel) (by decide +kernel)) (goodIn_sub (fun _ h => List.mem_cons_of_mem _ (List.mem_append_right _ h)) (by decide +kernel))
set_option maxRecDepth 20000 in
theorem gX4_arrives_X4_needSteps : GoodIn wsX4_arrives (va_wsS RX4 114 yX4_needSteps wsX4_needSteps) := goodIn_app (goodIn_of _ (by decide +kernel)) ggX4_arrives_X4_needSteps
set_option maxRecDepth 20000 in
theorem ggX4_arrives_X3_stepsLeft : GoodIn wsX4_arrives wsX3_stepsLeft := goodIn_r _ [29, 30, 31, 32, 33, 34, 35, 28, 36, 37, 38, 39, 40, 41, 92, 93, 85, 86, 87, 88, 89, 90, 91] (by decide +kernel) (by decide +kernel)
set_option maxRecDepth 20000 in
theorem gX4_arrives_X3_stepsLeft : GoodIn wsX4_arrives (wsV RX4 121 RX3 yX3_stepsLeft wsX3_stepsLeft) := goodIn_app (goodIn_of _ (by decide +kernel)) ggX4_arrives_X3_stepsLeft
set_option maxRecDepth 20000 in
theorem ggX4_arrives_X3_becomeLike : GoodIn wsX4_arrives wsX3_becomeLike := goodIn_r _ [45, 41, 46, 47, 48, 49, 30, 92, 93] (by decide +kernel) (by decide +kernel)
set_option maxRecDepth 20000 in
theorem gX4_arrives_X3_becomeLike : GoodIn wsX4_arrives (wsV RX4 154 RX3 yX3_becomeLike wsX3_becomeLike) := goodIn_app (goodIn_of _ (by decide +kernel)) ggX4_arrives_X3_becomeLike
set_option maxRecDepth 20000 in
theorem ggX4_arrives_X3_doStep : GoodIn wsX4_arrives wsX3_doStep := goodIn_r _ [53, 54, 55, 30, 56, 57, 58, 28, 59, 60, 41, 61, 62, 63, 64, 65, 66, 67, 68, 69, 70, 71, 85, 86, 87, 88, 89, 90, 91, 92, 93] (by decide +kernel) (by decide +kernel)
set_option maxRecDepth 20000 in
theorem gX4_arrives_X3_doStep : GoodIn wsX4_arrives (wsV RX4 125 RX3 yX3_doStep wsX3_doStep) := goodIn_app (goodIn_of _ (by decide +kernel)) ggX4_arrives_X3_doStep
set_option maxRecDepth 20000 in
theorem ggX4_arrives_X3_isAllAt : GoodIn wsX4_arrives wsX3_isAllAt := goodIn_r _ [75, 37, 38, 39, 28, 40, 41, 33, 34, 35, 36, 92, 93] (by decide +kernel) (by decide +kernel)
set_option maxRecDepth 20000 in
theorem gX4_arrives_X3_isAllAt : GoodIn wsX4_arrives (wsV RX4 158 RX3 yX3_isAllAt wsX3_isAllAt) := goodIn_app (goodIn_of _ (by decide +kernel)) ggX4_arrives_X3_isAllAt
theorem dX4_arrives_0 : decode cX4_arrives 0 = .ok (.aload_n 0, 1) := by decide +kernel
theorem dX4_arrives_1 : decode cX4_arrives 1 = .ok (.iload_n 1, 1) := by decide +kernel
theorem dX4_arrives_2 : decode cX4_arrives 2 = .ok (.invokevirtual 85, 3) := by decide +kernel
theorem dX4_arrives_5 : decode cX4_arrives 5 = .ok (.astore 4, 2) := by decide +kernel
theorem dX4_arrives_7 : decode cX4_arrives 7 = .ok (.aload 4, 2) := by decide +kernel
theorem dX4_arrives_9 : decode cX4_arrives 9 = .ok (.getfield 89, 3) := by decide +kernel
theorem dX4_arrives_12 : decode cX4_arrives 12 = .ok (.iload_n 2, 1) := by decide +kernel
theorem dX4_arrives_13 : decode cX4_arrives 13 = .ok (.invokestatic 64, 3) := by decide +kernel
theorem dX4_arrives_16 : decode cX4_arrives 16 = .ok (.iload_n 3, 1) := by decide +kernel
theorem dX4_arrives_17 : decode cX4_arrives 17 = .ok (.invokestatic 114, 3) := by decide +kernel
theorem dX4_arrives_20 : decode cX4_arrives 20 = .ok (.iload_n 3, 1) := by decide +kernel
theorem dX4_arrives_21 : decode cX4_arrives 21 = .ok (.aload 4, 2) := by decide +kernel
theorem dX4_arrives_23 : decode cX4_arrives 23 = .ok (.getfield 97, 3) := by decide +kernel
theorem dX4_arrives_26 : decode cX4_arrives 26 = .ok (.aload 4, 2) := by decide +kernel
theorem dX4_arrives_28 : decode cX4_arrives 28 = .ok (.getfield 89, 3) := by decide +kernel
theorem dX4_arrives_31 : decode cX4_arrives 31 = .ok (.invokevirtual 121, 3) := by decide +kernel
theorem dX4_arrives_34 : decode cX4_arrives 34 = .ok (.invokestatic 148, 3) := by decide +kernel
theorem dX4_arrives_37 : decode cX4_arrives 37 = .ok (.istore 5, 2) := by decide +kernel
theorem dX4_arrives_39 : decode cX4_arrives 39 = .ok (.aload_n 0, 1) := by decide +kernel
theorem dX4_arrives_40 : decode cX4_arrives 40 = .ok (.getfield 24, 3) := by decide +kernel
theorem dX4_arrives_43 : decode cX4_arrives 43 = .ok (.aload 4, 2) := by decide +kernel
theorem dX4_arrives_45 : decode cX4_arrives 45 = .ok (.getfield 97, 3) := by decide +kernel
theorem dX4_arrives_48 : decode cX4_arrives 48 = .ok (.invokevirtual 154, 3) := by decide +kernel
theorem dX4_arrives_51 : decode cX4_arrives 51 = .ok (.iconst 0, 1) := by decide +kernel
theorem dX4_arrives_52 : decode cX4_arrives 52 = .ok (.istore 6, 2) := by decide +kernel
theorem dX4_arrives_54 : decode cX4_arrives 54 = .ok (.iload 6, 2) := by decide +kernel
theorem dX4_arrives_56 : decode cX4_arrives 56 = .ok (.iload 5, 2) := by decide +kernel
theorem dX4_arrives_58 : decode cX4_arrives 58 = .ok (.if_icmp .gt 40, 3) := by decide +kernel
theorem dX4_arrives_61 : decode cX4_arrives 61 = .ok (.iload 6, 2) := by decide +kernel
theorem dX4_arrives_63 : decode cX4_arrives 63 = .ok (.ifCond .le 15, 3) := by decide +kernel
theorem dX4_arrives_66 : decode cX4_arrives 66 = .ok (.aload_n 0, 1) := by decide +kernel
theorem dX4_arrives_67 : decode cX4_arrives 67 = .ok (.getfield 24, 3) := by decide +kernel
theorem dX4_arrives_70 : decode cX4_arrives 70 = .ok (.aload 4, 2) := by decide +kernel
theorem dX4_arrives_72 : decode cX4_arrives 72 = .ok (.getfield 89, 3) := by decide +kernel
theorem dX4_arrives_75 : decode cX4_arrives 75 = .ok (.invokevirtual 125, 3) := by decide +kernel
theorem dX4_arrives_78 : decode cX4_arrives 78 = .ok (.aload_n 0, 1) := by decide +kernel
theorem dX4_arrives_79 : decode cX4_arrives 79 = .ok (.getfield 24, 3) := by decide +kernel
theorem dX4_arrives_82 : decode cX4_arrives 82 = .ok (.iload_n 2, 1) := by decide +kernel
theorem dX4_arrives_83 : decode cX4_arrives 83 = .ok (.invokevirtual 158, 3) := by decide +kernel
theorem dX4_arrives_86 : decode cX4_arrives 86 = .ok (.ifCond .eq 6, 3) := by decide +kernel
theorem dX4_arrives_89 : decode cX4_arrives 89 = .ok (.iload 6, 2) := by decide +kernel
theorem dX4_arrives_91 : decode cX4_arrives 91 = .ok (.ireturn, 1) := by decide +kernel
theorem dX4_arrives_92 : decode cX4_arrives 92 = .ok (.iinc 6 1, 3) := by decide +kernel
theorem dX4_arrives_95 : decode cX4_arrives 95 = .ok (.goto (-41), 3) := by decide +kernel
theorem dX4_arrives_98 : decode cX4_arrives 98 = .ok (.iconst (-1), 1) := by decide +kernel
theorem dX4_arrives_99 : decode cX4_arrives 99 = .ok (.ireturn, 1) := by decide +kernel
set_option maxRecDepth 20000 in
theorem ggX4_returns_X4_walkOf : GoodIn wsX4_returns wsX4_walkOf := goodIn_ca (goodIn_r _ [12, 13, 14, 15, 75, 76, 77, 78, 79, 80] (by decide +kernel) (by decide +kernel)) (goodIn_sub (fun _ h => List.mem_cons_of_mem _ (List.mem_append_left _ (List.mem_append_right _ h))) (by decide +kernel))
set_option maxRecDepth 20000 in
theorem gX4_returns_X4_walkOf : GoodIn wsX4_returns (wsV RX4 85 RX4 yX4_walkOf wsX4_walkOf) := goodIn_app (goodIn_of _ (by decide +kernel)) ggX4_returns_X4_walkOf
set_option maxRecDepth 20000 in
theorem ggX4_returns_X4_needSteps : GoodIn wsX4_returns wsX4_needSteps := goodIn_ca (goodIn_r _ [18, 19, 20] (by decide +kernel) (by decide +kernel)) (goodIn_sub (fun _ h => List.mem_cons_of_mem _ (List.mem_append_right _ h)) (by decide +kernel))
set_option maxRecDepth 20000 in
theorem gX4_returns_X4_needSteps : GoodIn wsX4_returns (va_wsS RX4 114 yX4_needSteps wsX4_needSteps) := goodIn_app (goodIn_of _ (by decide +kernel)) ggX4_returns_X4_needSteps
set_option maxRecDepth 20000 in
theorem ggX4_returns_X3_stepsLeft : GoodIn wsX4_returns wsX3_stepsLeft := goodIn_r _ [25, 26, 27, 28, 29, 30, 31, 24, 32, 33, 34, 35, 36, 37, 81, 82, 83, 84, 85, 86, 87, 88, 89] (by decide +kernel) (by decide +kernel)
set_option maxRecDepth 20000 in
theorem gX4_returns_X3_stepsLeft : GoodIn wsX4_returns (wsV RX4 121 RX3 yX3_stepsLeft wsX3_stepsLeft) := goodIn_app (goodIn_of _ (by decide +kernel)) ggX4_returns_X3_stepsLeft
set_option maxRecDepth 20000 in
theorem ggX4_returns_X3_becomeLike : GoodIn wsX4_returns wsX3_becomeLike := goodIn_r _ [41, 37, 42, 43, 44, 45, 26, 81, 82] (by decide +kernel) (by decide +kernel)
set_option maxRecDepth 20000 in
theorem gX4_returns_X3_becomeLike : GoodIn wsX4_returns (wsV RX4 154 RX3 yX3_becomeLike wsX3_becomeLike) := goodIn_app (goodIn_of _ (by decide +kernel)) ggX4_returns_X3_becomeLike
set_option maxRecDepth 20000 in
theorem ggX4_returns_X3_doStep : GoodIn wsX4_returns wsX3_doStep := goodIn_r _ [49, 50, 51, 26, 52, 53, 54, 24, 55, 56, 37, 57, 58, 59, 60, 61, 62, 63, 64, 65, 66, 67, 83, 84, 85, 86, 87, 88, 89, 81, 82] (by decide +kernel) (by decide +kernel)
set_option maxRecDepth 20000 in
theorem gX4_returns_X3_doStep : GoodIn wsX4_returns (wsV RX4 125 RX3 yX3_doStep wsX3_doStep) := goodIn_app (goodIn_of _ (by decide +kernel)) ggX4_returns_X3_doStep
set_option maxRecDepth 20000 in
theorem ggX4_returns_X3_isMultipleOf : GoodIn wsX4_returns wsX3_isMultipleOf := goodIn_r _ [71, 37, 81, 82] (by decide +kernel) (by decide +kernel)
set_option maxRecDepth 20000 in
theorem gX4_returns_X3_isMultipleOf : GoodIn wsX4_returns (wsV RX4 161 RX3 yX3_isMultipleOf wsX3_isMultipleOf) := goodIn_app (goodIn_of _ (by decide +kernel)) ggX4_returns_X3_isMultipleOf
theorem dX4_returns_0 : decode cX4_returns 0 = .ok (.aload_n 0, 1) := by decide +kernel
theorem dX4_returns_1 : decode cX4_returns 1 = .ok (.iload_n 1, 1) := by decide +kernel
theorem dX4_returns_2 : decode cX4_returns 2 = .ok (.invokevirtual 85, 3) := by decide +kernel
theorem dX4_returns_5 : decode cX4_returns 5 = .ok (.astore_n 3, 1) := by decide +kernel
theorem dX4_returns_6 : decode cX4_returns 6 = .ok (.iload_n 2, 1) := by decide +kernel
theorem dX4_returns_7 : decode cX4_returns 7 = .ok (.invokestatic 114, 3) := by decide +kernel
theorem dX4_returns_10 : decode cX4_returns 10 = .ok (.iload_n 2, 1) := by decide +kernel
theorem dX4_returns_11 : decode cX4_returns 11 = .ok (.aload_n 3, 1) := by decide +kernel
theorem dX4_returns_12 : decode cX4_returns 12 = .ok (.getfield 97, 3) := by decide +kernel
theorem dX4_returns_15 : decode cX4_returns 15 = .ok (.aload_n 3, 1) := by decide +kernel
theorem dX4_returns_16 : decode cX4_returns 16 = .ok (.getfield 89, 3) := by decide +kernel
theorem dX4_returns_19 : decode cX4_returns 19 = .ok (.invokevirtual 121, 3) := by decide +kernel
theorem dX4_returns_22 : decode cX4_returns 22 = .ok (.invokestatic 148, 3) := by decide +kernel
theorem dX4_returns_25 : decode cX4_returns 25 = .ok (.istore 4, 2) := by decide +kernel
theorem dX4_returns_27 : decode cX4_returns 27 = .ok (.aload_n 0, 1) := by decide +kernel
theorem dX4_returns_28 : decode cX4_returns 28 = .ok (.getfield 24, 3) := by decide +kernel
theorem dX4_returns_31 : decode cX4_returns 31 = .ok (.aload_n 3, 1) := by decide +kernel
theorem dX4_returns_32 : decode cX4_returns 32 = .ok (.getfield 97, 3) := by decide +kernel
theorem dX4_returns_35 : decode cX4_returns 35 = .ok (.invokevirtual 154, 3) := by decide +kernel
theorem dX4_returns_38 : decode cX4_returns 38 = .ok (.iconst 1, 1) := by decide +kernel
theorem dX4_returns_39 : decode cX4_returns 39 = .ok (.istore 5, 2) := by decide +kernel
theorem dX4_returns_41 : decode cX4_returns 41 = .ok (.iload 5, 2) := by decide +kernel
theorem dX4_returns_43 : decode cX4_returns 43 = .ok (.iload 4, 2) := by decide +kernel
theorem dX4_returns_45 : decode cX4_returns 45 = .ok (.if_icmp .gt 37, 3) := by decide +kernel
theorem dX4_returns_48 : decode cX4_returns 48 = .ok (.aload_n 0, 1) := by decide +kernel
theorem dX4_returns_49 : decode cX4_returns 49 = .ok (.getfield 24, 3) := by decide +kernel
theorem dX4_returns_52 : decode cX4_returns 52 = .ok (.aload_n 3, 1) := by decide +kernel
theorem dX4_returns_53 : decode cX4_returns 53 = .ok (.getfield 89, 3) := by decide +kernel
theorem dX4_returns_56 : decode cX4_returns 56 = .ok (.invokevirtual 125, 3) := by decide +kernel
theorem dX4_returns_59 : decode cX4_returns 59 = .ok (.aload_n 0, 1) := by decide +kernel
theorem dX4_returns_60 : decode cX4_returns 60 = .ok (.getfield 24, 3) := by decide +kernel
theorem dX4_returns_63 : decode cX4_returns 63 = .ok (.aload_n 3, 1) := by decide +kernel
theorem dX4_returns_64 : decode cX4_returns 64 = .ok (.getfield 97, 3) := by decide +kernel
theorem dX4_returns_67 : decode cX4_returns 67 = .ok (.invokevirtual 161, 3) := by decide +kernel
theorem dX4_returns_70 : decode cX4_returns 70 = .ok (.ifCond .eq 6, 3) := by decide +kernel
theorem dX4_returns_73 : decode cX4_returns 73 = .ok (.iload 5, 2) := by decide +kernel
theorem dX4_returns_75 : decode cX4_returns 75 = .ok (.ireturn, 1) := by decide +kernel
theorem dX4_returns_76 : decode cX4_returns 76 = .ok (.iinc 5 1, 3) := by decide +kernel
theorem dX4_returns_79 : decode cX4_returns 79 = .ok (.goto (-38), 3) := by decide +kernel
theorem dX4_returns_82 : decode cX4_returns 82 = .ok (.iconst (-1), 1) := by decide +kernel
theorem dX4_returns_83 : decode cX4_returns 83 = .ok (.ireturn, 1) := by decide +kernel
set_option maxRecDepth 20000 in
theorem ggX4_best_X4_walkOf : GoodIn wsX4_best wsX4_walkOf := goodIn_ca (goodIn_r _ [13, 14, 15, 16, 77, 78, 79, 80, 81, 82] (by decide +kernel) (by decide +kernel)) (goodIn_sub (fun _ h => List.mem_cons_of_mem _ (List.mem_append_left _ (List.mem_append_right _ h))) (by decide +kernel))
set_option maxRecDepth 20000 in
theorem gX4_best_X4_walkOf : GoodIn wsX4_best (wsV RX4 85 RX4 yX4_walkOf wsX4_walkOf) := goodIn_app (goodIn_of _ (by decide +kernel)) ggX4_best_X4_walkOf
set_option maxRecDepth 20000 in
theorem ggX4_best_X4_needSteps : GoodIn wsX4_best wsX4_needSteps := goodIn_ca (goodIn_r _ [19, 20, 21] (by decide +kernel) (by decide +kernel)) (goodIn_sub (fun _ h => List.mem_cons_of_mem _ (List.mem_append_right _ h)) (by decide +kernel))
set_option maxRecDepth 20000 in
theorem gX4_best_X4_needSteps : GoodIn wsX4_best (va_wsS RX4 114 yX4_needSteps wsX4_needSteps) := goodIn_app (goodIn_of _ (by decide +kernel)) ggX4_best_X4_needSteps
set_option maxRecDepth 20000 in
theorem ggX4_best_X3_squares : GoodIn wsX4_best wsX3_squares := goodIn_r _ [26, 27, 28, 29, 25, 30, 31, 90, 91] (by decide +kernel) (by decide +kernel)
set_option maxRecDepth 20000 in
theorem gX4_best_X3_squares : GoodIn wsX4_best (wsV RX4 117 RX3 yX3_squares wsX3_squares) := goodIn_app (goodIn_of _ (by decide +kernel)) ggX4_best_X3_squares
set_option maxRecDepth 20000 in
theorem ggX4_best_X3_stepsLeft : GoodIn wsX4_best wsX3_stepsLeft := goodIn_r _ [35, 36, 37, 38, 39, 23, 24, 25, 26, 27, 28, 29, 30, 31, 90, 91, 83, 84, 85, 86, 87, 88, 89] (by decide +kernel) (by decide +kernel)
set_option maxRecDepth 20000 in
theorem gX4_best_X3_stepsLeft : GoodIn wsX4_best (wsV RX4 121 RX3 yX3_stepsLeft wsX3_stepsLeft) := goodIn_app (goodIn_of _ (by decide +kernel)) ggX4_best_X3_stepsLeft
set_option maxRecDepth 20000 in
theorem ggX4_best_X3_becomeLike : GoodIn wsX4_best wsX3_becomeLike := goodIn_r _ [43, 31, 44, 45, 46, 47, 36, 90, 91] (by decide +kernel) (by decide +kernel)
set_option maxRecDepth 20000 in
theorem gX4_best_X3_becomeLike : GoodIn wsX4_best (wsV RX4 154 RX3 yX3_becomeLike wsX3_becomeLike) := goodIn_app (goodIn_of _ (by decide +kernel)) ggX4_best_X3_becomeLike
set_option maxRecDepth 20000 in
theorem ggX4_best_X3_squaresAtMarked : GoodIn wsX4_best wsX3_squaresAtMarked := goodIn_r _ [51, 52, 53, 27, 28, 29, 25, 30, 31, 83, 84, 85, 86, 87, 88, 89, 90, 91] (by decide +kernel) (by decide +kernel)
set_option maxRecDepth 20000 in
theorem gX4_best_X3_squaresAtMarked : GoodIn wsX4_best (wsV RX4 165 RX3 yX3_squaresAtMarked wsX3_squaresAtMarked) := goodIn_app (goodIn_of _ (by decide +kernel)) ggX4_best_X3_squaresAtMarked
set_option maxRecDepth 20000 in
theorem ggX4_best_X3_doStep : GoodIn wsX4_best wsX3_doStep := goodIn_r _ [57, 52, 58, 36, 59, 60, 61, 25, 62, 53, 31, 63, 64, 65, 66, 67, 68, 69, 70, 71, 72, 73, 83, 84, 85, 86, 87, 88, 89, 90, 91] (by decide +kernel) (by decide +kernel)
set_option maxRecDepth 20000 in
theorem gX4_best_X3_doStep : GoodIn wsX4_best (wsV RX4 125 RX3 yX3_doStep wsX3_doStep) := goodIn_app (goodIn_of _ (by decide +kernel)) ggX4_best_X3_doStep
theorem dX4_best_0 : decode cX4_best 0 = .ok (.aload_n 0, 1) := by decide +kernel
theorem dX4_best_1 : decode cX4_best 1 = .ok (.iload_n 1, 1) := by decide +kernel
theorem dX4_best_2 : decode cX4_best 2 = .ok (.invokevirtual 85, 3) := by decide +kernel
theorem dX4_best_5 : decode cX4_best 5 = .ok (.astore_n 3, 1) := by decide +kernel
theorem dX4_best_6 : decode cX4_best 6 = .ok (.iload_n 2, 1) := by decide +kernel
theorem dX4_best_7 : decode cX4_best 7 = .ok (.invokestatic 114, 3) := by decide +kernel
theorem dX4_best_10 : decode cX4_best 10 = .ok (.aload_n 3, 1) := by decide +kernel
theorem dX4_best_11 : decode cX4_best 11 = .ok (.getfield 97, 3) := by decide +kernel
theorem dX4_best_14 : decode cX4_best 14 = .ok (.invokevirtual 117, 3) := by decide +kernel
theorem dX4_best_17 : decode cX4_best 17 = .ok (.lconst 0, 1) := by decide +kernel
theorem dX4_best_18 : decode cX4_best 18 = .ok (.lcmp, 1) := by decide +kernel
theorem dX4_best_19 : decode cX4_best 19 = .ok (.ifCond .ne 5, 3) := by decide +kernel
theorem dX4_best_22 : decode cX4_best 22 = .ok (.iconst (-1), 1) := by decide +kernel
theorem dX4_best_23 : decode cX4_best 23 = .ok (.ireturn, 1) := by decide +kernel
theorem dX4_best_24 : decode cX4_best 24 = .ok (.iload_n 2, 1) := by decide +kernel
theorem dX4_best_25 : decode cX4_best 25 = .ok (.aload_n 3, 1) := by decide +kernel
theorem dX4_best_26 : decode cX4_best 26 = .ok (.getfield 97, 3) := by decide +kernel
theorem dX4_best_29 : decode cX4_best 29 = .ok (.aload_n 3, 1) := by decide +kernel
theorem dX4_best_30 : decode cX4_best 30 = .ok (.getfield 89, 3) := by decide +kernel
theorem dX4_best_33 : decode cX4_best 33 = .ok (.invokevirtual 121, 3) := by decide +kernel
theorem dX4_best_36 : decode cX4_best 36 = .ok (.invokestatic 148, 3) := by decide +kernel
theorem dX4_best_39 : decode cX4_best 39 = .ok (.istore 4, 2) := by decide +kernel
theorem dX4_best_41 : decode cX4_best 41 = .ok (.aload_n 0, 1) := by decide +kernel
theorem dX4_best_42 : decode cX4_best 42 = .ok (.getfield 24, 3) := by decide +kernel
theorem dX4_best_45 : decode cX4_best 45 = .ok (.aload_n 3, 1) := by decide +kernel
theorem dX4_best_46 : decode cX4_best 46 = .ok (.getfield 97, 3) := by decide +kernel
theorem dX4_best_49 : decode cX4_best 49 = .ok (.invokevirtual 154, 3) := by decide +kernel
theorem dX4_best_52 : decode cX4_best 52 = .ok (.iconst 0, 1) := by decide +kernel
theorem dX4_best_53 : decode cX4_best 53 = .ok (.istore 5, 2) := by decide +kernel
theorem dX4_best_55 : decode cX4_best 55 = .ok (.aload_n 0, 1) := by decide +kernel
theorem dX4_best_56 : decode cX4_best 56 = .ok (.getfield 24, 3) := by decide +kernel
theorem dX4_best_59 : decode cX4_best 59 = .ok (.aload_n 3, 1) := by decide +kernel
theorem dX4_best_60 : decode cX4_best 60 = .ok (.getfield 89, 3) := by decide +kernel
theorem dX4_best_63 : decode cX4_best 63 = .ok (.invokevirtual 165, 3) := by decide +kernel
theorem dX4_best_66 : decode cX4_best 66 = .ok (.lstore 6, 2) := by decide +kernel
theorem dX4_best_68 : decode cX4_best 68 = .ok (.iconst 1, 1) := by decide +kernel
theorem dX4_best_69 : decode cX4_best 69 = .ok (.istore 8, 2) := by decide +kernel
theorem dX4_best_71 : decode cX4_best 71 = .ok (.iload 8, 2) := by decide +kernel
theorem dX4_best_73 : decode cX4_best 73 = .ok (.iload 4, 2) := by decide +kernel
theorem dX4_best_75 : decode cX4_best 75 = .ok (.if_icmp .gt 62, 3) := by decide +kernel
theorem dX4_best_78 : decode cX4_best 78 = .ok (.aload_n 0, 1) := by decide +kernel
theorem dX4_best_79 : decode cX4_best 79 = .ok (.getfield 24, 3) := by decide +kernel
theorem dX4_best_82 : decode cX4_best 82 = .ok (.aload_n 3, 1) := by decide +kernel
theorem dX4_best_83 : decode cX4_best 83 = .ok (.getfield 89, 3) := by decide +kernel
theorem dX4_best_86 : decode cX4_best 86 = .ok (.invokevirtual 125, 3) := by decide +kernel
theorem dX4_best_89 : decode cX4_best 89 = .ok (.lload 6, 2) := by decide +kernel
theorem dX4_best_91 : decode cX4_best 91 = .ok (.aload_n 3, 1) := by decide +kernel
theorem dX4_best_92 : decode cX4_best 92 = .ok (.getfield 89, 3) := by decide +kernel
theorem dX4_best_95 : decode cX4_best 95 = .ok (.getfield 138, 3) := by decide +kernel
theorem dX4_best_98 : decode cX4_best 98 = .ok (.i2l, 1) := by decide +kernel
theorem dX4_best_99 : decode cX4_best 99 = .ok (.lmul, 1) := by decide +kernel
theorem dX4_best_100 : decode cX4_best 100 = .ok (.lstore 6, 2) := by decide +kernel
theorem dX4_best_102 : decode cX4_best 102 = .ok (.aload_n 0, 1) := by decide +kernel
theorem dX4_best_103 : decode cX4_best 103 = .ok (.getfield 24, 3) := by decide +kernel
theorem dX4_best_106 : decode cX4_best 106 = .ok (.aload_n 3, 1) := by decide +kernel
theorem dX4_best_107 : decode cX4_best 107 = .ok (.getfield 89, 3) := by decide +kernel
theorem dX4_best_110 : decode cX4_best 110 = .ok (.invokevirtual 165, 3) := by decide +kernel
theorem dX4_best_113 : decode cX4_best 113 = .ok (.lstore 9, 2) := by decide +kernel
theorem dX4_best_115 : decode cX4_best 115 = .ok (.lload 9, 2) := by decide +kernel
theorem dX4_best_117 : decode cX4_best 117 = .ok (.lload 6, 2) := by decide +kernel
theorem dX4_best_119 : decode cX4_best 119 = .ok (.lcmp, 1) := by decide +kernel
theorem dX4_best_120 : decode cX4_best 120 = .ok (.ifCond .le 11, 3) := by decide +kernel
theorem dX4_best_123 : decode cX4_best 123 = .ok (.lload 9, 2) := by decide +kernel
theorem dX4_best_125 : decode cX4_best 125 = .ok (.lstore 6, 2) := by decide +kernel
theorem dX4_best_127 : decode cX4_best 127 = .ok (.iload 8, 2) := by decide +kernel
theorem dX4_best_129 : decode cX4_best 129 = .ok (.istore 5, 2) := by decide +kernel
theorem dX4_best_131 : decode cX4_best 131 = .ok (.iinc 8 1, 3) := by decide +kernel
theorem dX4_best_134 : decode cX4_best 134 = .ok (.goto (-63), 3) := by decide +kernel
theorem dX4_best_137 : decode cX4_best 137 = .ok (.iload 5, 2) := by decide +kernel
theorem dX4_best_139 : decode cX4_best 139 = .ok (.ireturn, 1) := by decide +kernel
set_option maxRecDepth 20000 in
theorem ggX4_mean_X4_walkOf : GoodIn wsX4_mean wsX4_walkOf := goodIn_ca (goodIn_r _ [12, 13, 14, 15, 76, 77, 78, 79, 80, 81] (by decide +kernel) (by decide +kernel)) (goodIn_sub (fun _ h => List.mem_cons_of_mem _ (List.mem_append_left _ (List.mem_append_right _ h))) (by decide +kernel))
set_option maxRecDepth 20000 in
theorem gX4_mean_X4_walkOf : GoodIn wsX4_mean (wsV RX4 85 RX4 yX4_walkOf wsX4_walkOf) := goodIn_app (goodIn_of _ (by decide +kernel)) ggX4_mean_X4_walkOf
set_option maxRecDepth 20000 in
theorem ggX4_mean_X4_needPlace : GoodIn wsX4_mean wsX4_needPlace := goodIn_ca (goodIn_r _ [18, 13, 14, 19, 82, 83, 84, 85, 86, 87, 88] (by decide +kernel) (by decide +kernel)) (goodIn_sub (fun _ h => List.mem_cons_of_mem _ (List.mem_append_left _ (List.mem_append_right _ h))) (by decide +kernel))
set_option maxRecDepth 20000 in
theorem gX4_mean_X4_needPlace : GoodIn wsX4_mean (va_wsS RX4 64 yX4_needPlace wsX4_needPlace) := goodIn_app (goodIn_of _ (by decide +kernel)) ggX4_mean_X4_needPlace
set_option maxRecDepth 20000 in
theorem ggX4_mean_X4_needSteps : GoodIn wsX4_mean wsX4_needSteps := goodIn_ca (goodIn_r _ [22, 23, 24] (by decide +kernel) (by decide +kernel)) (goodIn_sub (fun _ h => List.mem_cons_of_mem _ (List.mem_append_right _ h)) (by decide +kernel))
set_option maxRecDepth 20000 in
theorem gX4_mean_X4_needSteps : GoodIn wsX4_mean (va_wsS RX4 114 yX4_needSteps wsX4_needSteps) := goodIn_app (goodIn_of _ (by decide +kernel)) ggX4_mean_X4_needSteps
set_option maxRecDepth 20000 in
theorem ggX4_mean_X3_stepsLeft : GoodIn wsX4_mean wsX3_stepsLeft := goodIn_r _ [29, 30, 31, 32, 33, 34, 35, 28, 36, 37, 38, 39, 40, 41, 89, 90, 82, 83, 84, 85, 86, 87, 88] (by decide +kernel) (by decide +kernel)
set_option maxRecDepth 20000 in
theorem gX4_mean_X3_stepsLeft : GoodIn wsX4_mean (wsV RX4 121 RX3 yX3_stepsLeft wsX3_stepsLeft) := goodIn_app (goodIn_of _ (by decide +kernel)) ggX4_mean_X3_stepsLeft
set_option maxRecDepth 20000 in
theorem ggX4_mean_X3_becomeLike : GoodIn wsX4_mean wsX3_becomeLike := goodIn_r _ [45, 41, 46, 47, 48, 49, 30, 89, 90] (by decide +kernel) (by decide +kernel)
set_option maxRecDepth 20000 in
theorem gX4_mean_X3_becomeLike : GoodIn wsX4_mean (wsV RX4 154 RX3 yX3_becomeLike wsX3_becomeLike) := goodIn_app (goodIn_of _ (by decide +kernel)) ggX4_mean_X3_becomeLike
set_option maxRecDepth 20000 in
theorem ggX4_mean_X3_squaresAt : GoodIn wsX4_mean wsX3_squaresAt := goodIn_r _ [40, 41, 89, 90] (by decide +kernel) (by decide +kernel)
set_option maxRecDepth 20000 in
theorem gX4_mean_X3_squaresAt : GoodIn wsX4_mean (wsV RX4 131 RX3 yX3_squaresAt wsX3_squaresAt) := goodIn_app (goodIn_of _ (by decide +kernel)) ggX4_mean_X3_squaresAt
set_option maxRecDepth 20000 in
theorem ggX4_mean_X3_doStep : GoodIn wsX4_mean wsX3_doStep := goodIn_r _ [54, 55, 56, 30, 57, 58, 59, 28, 60, 61, 41, 62, 63, 64, 65, 66, 67, 68, 69, 70, 71, 72, 82, 83, 84, 85, 86, 87, 88, 89, 90] (by decide +kernel) (by decide +kernel)
set_option maxRecDepth 20000 in
theorem gX4_mean_X3_doStep : GoodIn wsX4_mean (wsV RX4 125 RX3 yX3_doStep wsX3_doStep) := goodIn_app (goodIn_of _ (by decide +kernel)) ggX4_mean_X3_doStep
theorem dX4_mean_0 : decode cX4_mean 0 = .ok (.aload_n 0, 1) := by decide +kernel
theorem dX4_mean_1 : decode cX4_mean 1 = .ok (.iload_n 1, 1) := by decide +kernel
theorem dX4_mean_2 : decode cX4_mean 2 = .ok (.invokevirtual 85, 3) := by decide +kernel
theorem dX4_mean_5 : decode cX4_mean 5 = .ok (.astore 4, 2) := by decide +kernel
theorem dX4_mean_7 : decode cX4_mean 7 = .ok (.aload 4, 2) := by decide +kernel
theorem dX4_mean_9 : decode cX4_mean 9 = .ok (.getfield 89, 3) := by decide +kernel
theorem dX4_mean_12 : decode cX4_mean 12 = .ok (.iload_n 2, 1) := by decide +kernel
theorem dX4_mean_13 : decode cX4_mean 13 = .ok (.invokestatic 64, 3) := by decide +kernel
theorem dX4_mean_16 : decode cX4_mean 16 = .ok (.iload_n 3, 1) := by decide +kernel
theorem dX4_mean_17 : decode cX4_mean 17 = .ok (.invokestatic 114, 3) := by decide +kernel
theorem dX4_mean_20 : decode cX4_mean 20 = .ok (.iload_n 3, 1) := by decide +kernel
theorem dX4_mean_21 : decode cX4_mean 21 = .ok (.aload 4, 2) := by decide +kernel
theorem dX4_mean_23 : decode cX4_mean 23 = .ok (.getfield 97, 3) := by decide +kernel
theorem dX4_mean_26 : decode cX4_mean 26 = .ok (.aload 4, 2) := by decide +kernel
theorem dX4_mean_28 : decode cX4_mean 28 = .ok (.getfield 89, 3) := by decide +kernel
theorem dX4_mean_31 : decode cX4_mean 31 = .ok (.invokevirtual 121, 3) := by decide +kernel
theorem dX4_mean_34 : decode cX4_mean 34 = .ok (.if_icmp .le 7, 3) := by decide +kernel
theorem dX4_mean_37 : decode cX4_mean 37 = .ok (.ldc2_w 169, 3) := by decide +kernel
theorem dX4_mean_40 : decode cX4_mean 40 = .ok (.lreturn, 1) := by decide +kernel
theorem dX4_mean_41 : decode cX4_mean 41 = .ok (.aload_n 0, 1) := by decide +kernel
theorem dX4_mean_42 : decode cX4_mean 42 = .ok (.getfield 24, 3) := by decide +kernel
theorem dX4_mean_45 : decode cX4_mean 45 = .ok (.aload 4, 2) := by decide +kernel
theorem dX4_mean_47 : decode cX4_mean 47 = .ok (.getfield 97, 3) := by decide +kernel
theorem dX4_mean_50 : decode cX4_mean 50 = .ok (.invokevirtual 154, 3) := by decide +kernel
theorem dX4_mean_53 : decode cX4_mean 53 = .ok (.aload_n 0, 1) := by decide +kernel
theorem dX4_mean_54 : decode cX4_mean 54 = .ok (.getfield 24, 3) := by decide +kernel
theorem dX4_mean_57 : decode cX4_mean 57 = .ok (.iload_n 2, 1) := by decide +kernel
theorem dX4_mean_58 : decode cX4_mean 58 = .ok (.invokevirtual 131, 3) := by decide +kernel
theorem dX4_mean_61 : decode cX4_mean 61 = .ok (.lstore 5, 2) := by decide +kernel
theorem dX4_mean_63 : decode cX4_mean 63 = .ok (.iconst 1, 1) := by decide +kernel
theorem dX4_mean_64 : decode cX4_mean 64 = .ok (.istore 7, 2) := by decide +kernel
theorem dX4_mean_66 : decode cX4_mean 66 = .ok (.iload 7, 2) := by decide +kernel
theorem dX4_mean_68 : decode cX4_mean 68 = .ok (.iload_n 3, 1) := by decide +kernel
theorem dX4_mean_69 : decode cX4_mean 69 = .ok (.if_icmp .gt 88, 3) := by decide +kernel
theorem dX4_mean_72 : decode cX4_mean 72 = .ok (.aload_n 0, 1) := by decide +kernel
theorem dX4_mean_73 : decode cX4_mean 73 = .ok (.getfield 24, 3) := by decide +kernel
theorem dX4_mean_76 : decode cX4_mean 76 = .ok (.aload 4, 2) := by decide +kernel
theorem dX4_mean_78 : decode cX4_mean 78 = .ok (.getfield 89, 3) := by decide +kernel
theorem dX4_mean_81 : decode cX4_mean 81 = .ok (.invokevirtual 125, 3) := by decide +kernel
theorem dX4_mean_84 : decode cX4_mean 84 = .ok (.aload_n 0, 1) := by decide +kernel
theorem dX4_mean_85 : decode cX4_mean 85 = .ok (.getfield 24, 3) := by decide +kernel
theorem dX4_mean_88 : decode cX4_mean 88 = .ok (.iload_n 2, 1) := by decide +kernel
theorem dX4_mean_89 : decode cX4_mean 89 = .ok (.invokevirtual 131, 3) := by decide +kernel
theorem dX4_mean_92 : decode cX4_mean 92 = .ok (.lstore 8, 2) := by decide +kernel
theorem dX4_mean_94 : decode cX4_mean 94 = .ok (.lload 5, 2) := by decide +kernel
theorem dX4_mean_96 : decode cX4_mean 96 = .ok (.aload 4, 2) := by decide +kernel
theorem dX4_mean_98 : decode cX4_mean 98 = .ok (.getfield 89, 3) := by decide +kernel
theorem dX4_mean_101 : decode cX4_mean 101 = .ok (.getfield 171, 3) := by decide +kernel
theorem dX4_mean_104 : decode cX4_mean 104 = .ok (.lcmp, 1) := by decide +kernel
theorem dX4_mean_105 : decode cX4_mean 105 = .ok (.ifCond .gt 25, 3) := by decide +kernel
theorem dX4_mean_108 : decode cX4_mean 108 = .ok (.lload 5, 2) := by decide +kernel
theorem dX4_mean_110 : decode cX4_mean 110 = .ok (.aload 4, 2) := by decide +kernel
theorem dX4_mean_112 : decode cX4_mean 112 = .ok (.getfield 89, 3) := by decide +kernel
theorem dX4_mean_115 : decode cX4_mean 115 = .ok (.getfield 138, 3) := by decide +kernel
theorem dX4_mean_118 : decode cX4_mean 118 = .ok (.i2l, 1) := by decide +kernel
theorem dX4_mean_119 : decode cX4_mean 119 = .ok (.lmul, 1) := by decide +kernel
theorem dX4_mean_120 : decode cX4_mean 120 = .ok (.ldc2_w 175, 3) := by decide +kernel
theorem dX4_mean_123 : decode cX4_mean 123 = .ok (.lload 8, 2) := by decide +kernel
theorem dX4_mean_125 : decode cX4_mean 125 = .ok (.lsub, 1) := by decide +kernel
theorem dX4_mean_126 : decode cX4_mean 126 = .ok (.lcmp, 1) := by decide +kernel
theorem dX4_mean_127 : decode cX4_mean 127 = .ok (.ifCond .le 7, 3) := by decide +kernel
theorem dX4_mean_130 : decode cX4_mean 130 = .ok (.ldc2_w 169, 3) := by decide +kernel
theorem dX4_mean_133 : decode cX4_mean 133 = .ok (.lreturn, 1) := by decide +kernel
theorem dX4_mean_134 : decode cX4_mean 134 = .ok (.lload 5, 2) := by decide +kernel
theorem dX4_mean_136 : decode cX4_mean 136 = .ok (.aload 4, 2) := by decide +kernel
theorem dX4_mean_138 : decode cX4_mean 138 = .ok (.getfield 89, 3) := by decide +kernel
theorem dX4_mean_141 : decode cX4_mean 141 = .ok (.getfield 138, 3) := by decide +kernel
theorem dX4_mean_144 : decode cX4_mean 144 = .ok (.i2l, 1) := by decide +kernel
theorem dX4_mean_145 : decode cX4_mean 145 = .ok (.lmul, 1) := by decide +kernel
theorem dX4_mean_146 : decode cX4_mean 146 = .ok (.lload 8, 2) := by decide +kernel
theorem dX4_mean_148 : decode cX4_mean 148 = .ok (.ladd, 1) := by decide +kernel
theorem dX4_mean_149 : decode cX4_mean 149 = .ok (.lstore 5, 2) := by decide +kernel
theorem dX4_mean_151 : decode cX4_mean 151 = .ok (.iinc 7 1, 3) := by decide +kernel
theorem dX4_mean_154 : decode cX4_mean 154 = .ok (.goto (-88), 3) := by decide +kernel
theorem dX4_mean_157 : decode cX4_mean 157 = .ok (.lload 5, 2) := by decide +kernel
theorem dX4_mean_159 : decode cX4_mean 159 = .ok (.lreturn, 1) := by decide +kernel
set_option maxRecDepth 20000 in
theorem ggX4_copy_X4_walkOf : GoodIn wsX4_copy wsX4_walkOf := goodIn_ca (goodIn_r _ [9, 10, 11, 12, 27, 28, 29, 30, 31, 32] (by decide +kernel) (by decide +kernel)) (goodIn_sub (fun _ h => List.mem_cons_of_mem _ (List.mem_append_right _ h)) (by decide +kernel))
set_option maxRecDepth 20000 in
theorem gX4_copy_X4_walkOf : GoodIn wsX4_copy (wsV RX4 85 RX4 yX4_walkOf wsX4_walkOf) := goodIn_app (goodIn_of _ (by decide +kernel)) ggX4_copy_X4_walkOf
set_option maxRecDepth 20000 in
theorem ggX4_copy_X3_becomeLike : GoodIn wsX4_copy wsX3_becomeLike := goodIn_r _ [17, 18, 19, 20, 21, 22, 23, 33, 34] (by decide +kernel) (by decide +kernel)
set_option maxRecDepth 20000 in
theorem gX4_copy_X3_becomeLike : GoodIn wsX4_copy (wsV RX4 154 RX3 yX3_becomeLike wsX3_becomeLike) := goodIn_app (goodIn_of _ (by decide +kernel)) ggX4_copy_X3_becomeLike
theorem dX4_copy_0 : decode cX4_copy 0 = .ok (.aload_n 0, 1) := by decide +kernel
theorem dX4_copy_1 : decode cX4_copy 1 = .ok (.iload_n 1, 1) := by decide +kernel
theorem dX4_copy_2 : decode cX4_copy 2 = .ok (.invokevirtual 85, 3) := by decide +kernel
theorem dX4_copy_5 : decode cX4_copy 5 = .ok (.astore_n 3, 1) := by decide +kernel
theorem dX4_copy_6 : decode cX4_copy 6 = .ok (.aload_n 0, 1) := by decide +kernel
theorem dX4_copy_7 : decode cX4_copy 7 = .ok (.iload_n 2, 1) := by decide +kernel
theorem dX4_copy_8 : decode cX4_copy 8 = .ok (.invokevirtual 85, 3) := by decide +kernel
theorem dX4_copy_11 : decode cX4_copy 11 = .ok (.astore 4, 2) := by decide +kernel
theorem dX4_copy_13 : decode cX4_copy 13 = .ok (.aload_n 3, 1) := by decide +kernel
theorem dX4_copy_14 : decode cX4_copy 14 = .ok (.getfield 135, 3) := by decide +kernel
theorem dX4_copy_17 : decode cX4_copy 17 = .ok (.aload 4, 2) := by decide +kernel
theorem dX4_copy_19 : decode cX4_copy 19 = .ok (.getfield 135, 3) := by decide +kernel
theorem dX4_copy_22 : decode cX4_copy 22 = .ok (.if_icmp .eq 13, 3) := by decide +kernel
theorem dX4_copy_25 : decode cX4_copy 25 = .ok (.new 177, 3) := by decide +kernel
theorem dX4_copy_28 : decode cX4_copy 28 = .ok (.dup, 1) := by decide +kernel
theorem dX4_copy_29 : decode cX4_copy 29 = .ok (.ldc 179, 2) := by decide +kernel
theorem dX4_copy_31 : decode cX4_copy 31 = .ok (.invokespecial 181, 3) := by decide +kernel
theorem dX4_copy_34 : decode cX4_copy 34 = .ok (.athrow, 1) := by decide +kernel
theorem dX4_copy_35 : decode cX4_copy 35 = .ok (.aload_n 3, 1) := by decide +kernel
theorem dX4_copy_36 : decode cX4_copy 36 = .ok (.getfield 97, 3) := by decide +kernel
theorem dX4_copy_39 : decode cX4_copy 39 = .ok (.aload 4, 2) := by decide +kernel
theorem dX4_copy_41 : decode cX4_copy 41 = .ok (.getfield 97, 3) := by decide +kernel
theorem dX4_copy_44 : decode cX4_copy 44 = .ok (.invokevirtual 154, 3) := by decide +kernel
theorem dX4_copy_47 : decode cX4_copy 47 = .ok (.return_, 1) := by decide +kernel
theorem dX4_count_0 : decode cX4_count 0 = .ok (.iload_n 1, 1) := by decide +kernel
theorem dX4_count_1 : decode cX4_count 1 = .ok (.lookupswitch 37 #[(0, 27), (1, 32)], 27) := by decide +kernel
theorem dX4_count_28 : decode cX4_count 28 = .ok (.aload_n 0, 1) := by decide +kernel
theorem dX4_count_29 : decode cX4_count 29 = .ok (.getfield 35, 3) := by decide +kernel
theorem dX4_count_32 : decode cX4_count 32 = .ok (.ireturn, 1) := by decide +kernel
theorem dX4_count_33 : decode cX4_count 33 = .ok (.aload_n 0, 1) := by decide +kernel
theorem dX4_count_34 : decode cX4_count 34 = .ok (.getfield 39, 3) := by decide +kernel
theorem dX4_count_37 : decode cX4_count 37 = .ok (.ireturn, 1) := by decide +kernel
theorem dX4_count_38 : decode cX4_count 38 = .ok (.new 141, 3) := by decide +kernel
theorem dX4_count_41 : decode cX4_count 41 = .ok (.dup, 1) := by decide +kernel
theorem dX4_count_42 : decode cX4_count 42 = .ok (.ldc 182, 2) := by decide +kernel
theorem dX4_count_44 : decode cX4_count 44 = .ok (.invokespecial 145, 3) := by decide +kernel
theorem dX4_count_47 : decode cX4_count 47 = .ok (.athrow, 1) := by decide +kernel
theorem dX4_netOf_0 : decode cX4_netOf 0 = .ok (.iload_n 1, 1) := by decide +kernel
theorem dX4_netOf_1 : decode cX4_netOf 1 = .ok (.ifCond .lt 21, 3) := by decide +kernel
theorem dX4_netOf_4 : decode cX4_netOf 4 = .ok (.iload_n 1, 1) := by decide +kernel
theorem dX4_netOf_5 : decode cX4_netOf 5 = .ok (.aload_n 0, 1) := by decide +kernel
theorem dX4_netOf_6 : decode cX4_netOf 6 = .ok (.getfield 11, 3) := by decide +kernel
theorem dX4_netOf_9 : decode cX4_netOf 9 = .ok (.arraylength, 1) := by decide +kernel
theorem dX4_netOf_10 : decode cX4_netOf 10 = .ok (.if_icmp .ge 12, 3) := by decide +kernel
theorem dX4_netOf_13 : decode cX4_netOf 13 = .ok (.aload_n 0, 1) := by decide +kernel
theorem dX4_netOf_14 : decode cX4_netOf 14 = .ok (.getfield 11, 3) := by decide +kernel
theorem dX4_netOf_17 : decode cX4_netOf 17 = .ok (.iload_n 1, 1) := by decide +kernel
theorem dX4_netOf_18 : decode cX4_netOf 18 = .ok (.aaload, 1) := by decide +kernel
theorem dX4_netOf_19 : decode cX4_netOf 19 = .ok (.goto 4, 3) := by decide +kernel
theorem dX4_netOf_22 : decode cX4_netOf 22 = .ok (.aconst_null, 1) := by decide +kernel
theorem dX4_netOf_23 : decode cX4_netOf 23 = .ok (.astore_n 2, 1) := by decide +kernel
theorem dX4_netOf_24 : decode cX4_netOf 24 = .ok (.aload_n 2, 1) := by decide +kernel
theorem dX4_netOf_25 : decode cX4_netOf 25 = .ok (.ifnonnull 13, 3) := by decide +kernel
theorem dX4_netOf_28 : decode cX4_netOf 28 = .ok (.new 141, 3) := by decide +kernel
theorem dX4_netOf_31 : decode cX4_netOf 31 = .ok (.dup, 1) := by decide +kernel
theorem dX4_netOf_32 : decode cX4_netOf 32 = .ok (.ldc 184, 2) := by decide +kernel
theorem dX4_netOf_34 : decode cX4_netOf 34 = .ok (.invokespecial 145, 3) := by decide +kernel
theorem dX4_netOf_37 : decode cX4_netOf 37 = .ok (.athrow, 1) := by decide +kernel
theorem dX4_netOf_38 : decode cX4_netOf 38 = .ok (.aload_n 2, 1) := by decide +kernel
theorem dX4_netOf_39 : decode cX4_netOf 39 = .ok (.areturn, 1) := by decide +kernel
theorem dX4_walkOf_0 : decode cX4_walkOf 0 = .ok (.iload_n 1, 1) := by decide +kernel
theorem dX4_walkOf_1 : decode cX4_walkOf 1 = .ok (.ifCond .lt 21, 3) := by decide +kernel
theorem dX4_walkOf_4 : decode cX4_walkOf 4 = .ok (.iload_n 1, 1) := by decide +kernel
theorem dX4_walkOf_5 : decode cX4_walkOf 5 = .ok (.aload_n 0, 1) := by decide +kernel
theorem dX4_walkOf_6 : decode cX4_walkOf 6 = .ok (.getfield 17, 3) := by decide +kernel
theorem dX4_walkOf_9 : decode cX4_walkOf 9 = .ok (.arraylength, 1) := by decide +kernel
theorem dX4_walkOf_10 : decode cX4_walkOf 10 = .ok (.if_icmp .ge 12, 3) := by decide +kernel
theorem dX4_walkOf_13 : decode cX4_walkOf 13 = .ok (.aload_n 0, 1) := by decide +kernel
theorem dX4_walkOf_14 : decode cX4_walkOf 14 = .ok (.getfield 17, 3) := by decide +kernel
theorem dX4_walkOf_17 : decode cX4_walkOf 17 = .ok (.iload_n 1, 1) := by decide +kernel
theorem dX4_walkOf_18 : decode cX4_walkOf 18 = .ok (.aaload, 1) := by decide +kernel
theorem dX4_walkOf_19 : decode cX4_walkOf 19 = .ok (.goto 4, 3) := by decide +kernel
theorem dX4_walkOf_22 : decode cX4_walkOf 22 = .ok (.aconst_null, 1) := by decide +kernel
theorem dX4_walkOf_23 : decode cX4_walkOf 23 = .ok (.astore_n 2, 1) := by decide +kernel
theorem dX4_walkOf_24 : decode cX4_walkOf 24 = .ok (.aload_n 2, 1) := by decide +kernel
theorem dX4_walkOf_25 : decode cX4_walkOf 25 = .ok (.ifnonnull 13, 3) := by decide +kernel
theorem dX4_walkOf_28 : decode cX4_walkOf 28 = .ok (.new 141, 3) := by decide +kernel
theorem dX4_walkOf_31 : decode cX4_walkOf 31 = .ok (.dup, 1) := by decide +kernel
theorem dX4_walkOf_32 : decode cX4_walkOf 32 = .ok (.ldc 186, 2) := by decide +kernel
theorem dX4_walkOf_34 : decode cX4_walkOf 34 = .ok (.invokespecial 145, 3) := by decide +kernel
theorem dX4_walkOf_37 : decode cX4_walkOf 37 = .ok (.athrow, 1) := by decide +kernel
theorem dX4_walkOf_38 : decode cX4_walkOf 38 = .ok (.aload_n 2, 1) := by decide +kernel
theorem dX4_walkOf_39 : decode cX4_walkOf 39 = .ok (.areturn, 1) := by decide +kernel
theorem dX4_needPlace_0 : decode cX4_needPlace 0 = .ok (.iload_n 1, 1) := by decide +kernel
theorem dX4_needPlace_1 : decode cX4_needPlace 1 = .ok (.ifCond .lt 11, 3) := by decide +kernel
theorem dX4_needPlace_4 : decode cX4_needPlace 4 = .ok (.iload_n 1, 1) := by decide +kernel
theorem dX4_needPlace_5 : decode cX4_needPlace 5 = .ok (.aload_n 0, 1) := by decide +kernel
theorem dX4_needPlace_6 : decode cX4_needPlace 6 = .ok (.getfield 188, 3) := by decide +kernel
theorem dX4_needPlace_9 : decode cX4_needPlace 9 = .ok (.if_icmp .lt 13, 3) := by decide +kernel
theorem dX4_needPlace_12 : decode cX4_needPlace 12 = .ok (.new 141, 3) := by decide +kernel
theorem dX4_needPlace_15 : decode cX4_needPlace 15 = .ok (.dup, 1) := by decide +kernel
theorem dX4_needPlace_16 : decode cX4_needPlace 16 = .ok (.ldc 191, 2) := by decide +kernel
theorem dX4_needPlace_18 : decode cX4_needPlace 18 = .ok (.invokespecial 145, 3) := by decide +kernel
theorem dX4_needPlace_21 : decode cX4_needPlace 21 = .ok (.athrow, 1) := by decide +kernel
theorem dX4_needPlace_22 : decode cX4_needPlace 22 = .ok (.return_, 1) := by decide +kernel
set_option maxRecDepth 20000 in
theorem ggX4_cellOf_X4_needPlace : GoodIn wsX4_cellOf wsX4_needPlace := goodIn_ca (goodIn_r _ [7, 1, 2, 8, 9, 10, 11, 12, 13, 14, 15] (by decide +kernel) (by decide +kernel)) (goodIn_sub (fun _ h => List.mem_cons_of_mem _ (List.mem_append_right _ h)) (by decide +kernel))
set_option maxRecDepth 20000 in
theorem gX4_cellOf_X4_needPlace : GoodIn wsX4_cellOf (va_wsS RX4 64 yX4_needPlace wsX4_needPlace) := goodIn_app (goodIn_of _ (by decide +kernel)) ggX4_cellOf_X4_needPlace
theorem dX4_cellOf_0 : decode cX4_cellOf 0 = .ok (.aload_n 0, 1) := by decide +kernel
theorem dX4_cellOf_1 : decode cX4_cellOf 1 = .ok (.iload_n 1, 1) := by decide +kernel
theorem dX4_cellOf_2 : decode cX4_cellOf 2 = .ok (.invokestatic 64, 3) := by decide +kernel
theorem dX4_cellOf_5 : decode cX4_cellOf 5 = .ok (.iload_n 2, 1) := by decide +kernel
theorem dX4_cellOf_6 : decode cX4_cellOf 6 = .ok (.ifCond .lt 11, 3) := by decide +kernel
theorem dX4_cellOf_9 : decode cX4_cellOf 9 = .ok (.iload_n 2, 1) := by decide +kernel
theorem dX4_cellOf_10 : decode cX4_cellOf 10 = .ok (.aload_n 0, 1) := by decide +kernel
theorem dX4_cellOf_11 : decode cX4_cellOf 11 = .ok (.getfield 193, 3) := by decide +kernel
theorem dX4_cellOf_14 : decode cX4_cellOf 14 = .ok (.if_icmp .lt 13, 3) := by decide +kernel
theorem dX4_cellOf_17 : decode cX4_cellOf 17 = .ok (.new 141, 3) := by decide +kernel
theorem dX4_cellOf_20 : decode cX4_cellOf 20 = .ok (.dup, 1) := by decide +kernel
theorem dX4_cellOf_21 : decode cX4_cellOf 21 = .ok (.ldc 196, 2) := by decide +kernel
theorem dX4_cellOf_23 : decode cX4_cellOf 23 = .ok (.invokespecial 145, 3) := by decide +kernel
theorem dX4_cellOf_26 : decode cX4_cellOf 26 = .ok (.athrow, 1) := by decide +kernel
theorem dX4_cellOf_27 : decode cX4_cellOf 27 = .ok (.iload_n 1, 1) := by decide +kernel
theorem dX4_cellOf_28 : decode cX4_cellOf 28 = .ok (.iconst 4, 1) := by decide +kernel
theorem dX4_cellOf_29 : decode cX4_cellOf 29 = .ok (.imul, 1) := by decide +kernel
theorem dX4_cellOf_30 : decode cX4_cellOf 30 = .ok (.iload_n 2, 1) := by decide +kernel
theorem dX4_cellOf_31 : decode cX4_cellOf 31 = .ok (.iadd, 1) := by decide +kernel
theorem dX4_cellOf_32 : decode cX4_cellOf 32 = .ok (.ireturn, 1) := by decide +kernel
set_option maxRecDepth 20000 in
theorem ggX4_needTold_X4_isTold : GoodIn wsX4_needTold wsX4_isTold := goodIn_r _ [6, 7, 8] (by decide +kernel) (by decide +kernel)
set_option maxRecDepth 20000 in
theorem gX4_needTold_X4_isTold : GoodIn wsX4_needTold (va_wsS RX4 198 yX4_isTold wsX4_isTold) := goodIn_app (goodIn_of _ (by decide +kernel)) ggX4_needTold_X4_isTold
theorem dX4_needTold_0 : decode cX4_needTold 0 = .ok (.iload_n 0, 1) := by decide +kernel
theorem dX4_needTold_1 : decode cX4_needTold 1 = .ok (.i2l, 1) := by decide +kernel
theorem dX4_needTold_2 : decode cX4_needTold 2 = .ok (.invokestatic 198, 3) := by decide +kernel
theorem dX4_needTold_5 : decode cX4_needTold 5 = .ok (.ifCond .ne 13, 3) := by decide +kernel
theorem dX4_needTold_8 : decode cX4_needTold 8 = .ok (.new 177, 3) := by decide +kernel
theorem dX4_needTold_11 : decode cX4_needTold 11 = .ok (.dup, 1) := by decide +kernel
theorem dX4_needTold_12 : decode cX4_needTold 12 = .ok (.ldc 202, 2) := by decide +kernel
theorem dX4_needTold_14 : decode cX4_needTold 14 = .ok (.invokespecial 181, 3) := by decide +kernel
theorem dX4_needTold_17 : decode cX4_needTold 17 = .ok (.athrow, 1) := by decide +kernel
theorem dX4_needTold_18 : decode cX4_needTold 18 = .ok (.return_, 1) := by decide +kernel
theorem dX4_needSteps_0 : decode cX4_needSteps 0 = .ok (.iload_n 0, 1) := by decide +kernel
theorem dX4_needSteps_1 : decode cX4_needSteps 1 = .ok (.ifCond .lt 9, 3) := by decide +kernel
theorem dX4_needSteps_4 : decode cX4_needSteps 4 = .ok (.iload_n 0, 1) := by decide +kernel
theorem dX4_needSteps_5 : decode cX4_needSteps 5 = .ok (.bipush 60, 2) := by decide +kernel
theorem dX4_needSteps_7 : decode cX4_needSteps 7 = .ok (.if_icmp .le 13, 3) := by decide +kernel
theorem dX4_needSteps_10 : decode cX4_needSteps 10 = .ok (.new 177, 3) := by decide +kernel
theorem dX4_needSteps_13 : decode cX4_needSteps 13 = .ok (.dup, 1) := by decide +kernel
theorem dX4_needSteps_14 : decode cX4_needSteps 14 = .ok (.ldc 204, 2) := by decide +kernel
theorem dX4_needSteps_16 : decode cX4_needSteps 16 = .ok (.invokespecial 181, 3) := by decide +kernel
theorem dX4_needSteps_19 : decode cX4_needSteps 19 = .ok (.athrow, 1) := by decide +kernel
theorem dX4_needSteps_20 : decode cX4_needSteps 20 = .ok (.return_, 1) := by decide +kernel
theorem dX4_isTold_0 : decode cX4_isTold 0 = .ok (.lload_n 0, 1) := by decide +kernel
theorem dX4_isTold_1 : decode cX4_isTold 1 = .ok (.ldc2_w 206, 3) := by decide +kernel
theorem dX4_isTold_4 : decode cX4_isTold 4 = .ok (.lcmp, 1) := by decide +kernel
theorem dX4_isTold_5 : decode cX4_isTold 5 = .ok (.ifCond .lt 15, 3) := by decide +kernel
theorem dX4_isTold_8 : decode cX4_isTold 8 = .ok (.lload_n 0, 1) := by decide +kernel
theorem dX4_isTold_9 : decode cX4_isTold 9 = .ok (.ldc2_w 208, 3) := by decide +kernel
theorem dX4_isTold_12 : decode cX4_isTold 12 = .ok (.lcmp, 1) := by decide +kernel
theorem dX4_isTold_13 : decode cX4_isTold 13 = .ok (.ifCond .gt 7, 3) := by decide +kernel
theorem dX4_isTold_16 : decode cX4_isTold 16 = .ok (.iconst 1, 1) := by decide +kernel
theorem dX4_isTold_17 : decode cX4_isTold 17 = .ok (.goto 4, 3) := by decide +kernel
theorem dX4_isTold_20 : decode cX4_isTold 20 = .ok (.iconst 0, 1) := by decide +kernel
theorem dX4_isTold_21 : decode cX4_isTold 21 = .ok (.ireturn, 1) := by decide +kernel
end
section
theorem dX5_init_0 : decode cX5_init 0 = .ok (.aload_n 0, 1) := by decide +kernel
theorem dX5_init_1 : decode cX5_init 1 = .ok (.invokespecial 1, 3) := by decide +kernel
theorem dX5_init_4 : decode cX5_init 4 = .ok (.aload_n 0, 1) := by decide +kernel
theorem dX5_init_5 : decode cX5_init 5 = .ok (.bipush 6, 2) := by decide +kernel
theorem dX5_init_7 : decode cX5_init 7 = .ok (.newarray .int, 2) := by decide +kernel
theorem dX5_init_9 : decode cX5_init 9 = .ok (.putfield 7, 3) := by decide +kernel
theorem dX5_init_12 : decode cX5_init 12 = .ok (.aload_n 0, 1) := by decide +kernel
theorem dX5_init_13 : decode cX5_init 13 = .ok (.bipush 6, 2) := by decide +kernel
theorem dX5_init_15 : decode cX5_init 15 = .ok (.newarray .int, 2) := by decide +kernel
theorem dX5_init_17 : decode cX5_init 17 = .ok (.putfield 13, 3) := by decide +kernel
theorem dX5_init_20 : decode cX5_init 20 = .ok (.aload_n 0, 1) := by decide +kernel
theorem dX5_init_21 : decode cX5_init 21 = .ok (.sipush 288, 3) := by decide +kernel
theorem dX5_init_24 : decode cX5_init 24 = .ok (.newarray .int, 2) := by decide +kernel
theorem dX5_init_26 : decode cX5_init 26 = .ok (.putfield 16, 3) := by decide +kernel
theorem dX5_init_29 : decode cX5_init 29 = .ok (.aload_n 0, 1) := by decide +kernel
theorem dX5_init_30 : decode cX5_init 30 = .ok (.bipush 72, 2) := by decide +kernel
theorem dX5_init_32 : decode cX5_init 32 = .ok (.newarray .boolean, 2) := by decide +kernel
theorem dX5_init_34 : decode cX5_init 34 = .ok (.putfield 19, 3) := by decide +kernel
theorem dX5_init_37 : decode cX5_init 37 = .ok (.aload_n 0, 1) := by decide +kernel
theorem dX5_init_38 : decode cX5_init 38 = .ok (.bipush 6, 2) := by decide +kernel
theorem dX5_init_40 : decode cX5_init 40 = .ok (.newarray .boolean, 2) := by decide +kernel
theorem dX5_init_42 : decode cX5_init 42 = .ok (.putfield 23, 3) := by decide +kernel
theorem dX5_init_45 : decode cX5_init 45 = .ok (.aload_n 0, 1) := by decide +kernel
theorem dX5_init_46 : decode cX5_init 46 = .ok (.bipush 13, 2) := by decide +kernel
theorem dX5_init_48 : decode cX5_init 48 = .ok (.newarray .int, 2) := by decide +kernel
theorem dX5_init_50 : decode cX5_init 50 = .ok (.putfield 26, 3) := by decide +kernel
theorem dX5_init_53 : decode cX5_init 53 = .ok (.aload_n 0, 1) := by decide +kernel
theorem dX5_init_54 : decode cX5_init 54 = .ok (.bipush 13, 2) := by decide +kernel
theorem dX5_init_56 : decode cX5_init 56 = .ok (.newarray .int, 2) := by decide +kernel
theorem dX5_init_58 : decode cX5_init 58 = .ok (.putfield 29, 3) := by decide +kernel
theorem dX5_init_61 : decode cX5_init 61 = .ok (.aload_n 0, 1) := by decide +kernel
theorem dX5_init_62 : decode cX5_init 62 = .ok (.sipush 624, 3) := by decide +kernel
theorem dX5_init_65 : decode cX5_init 65 = .ok (.newarray .long, 2) := by decide +kernel
theorem dX5_init_67 : decode cX5_init 67 = .ok (.putfield 32, 3) := by decide +kernel
theorem dX5_init_70 : decode cX5_init 70 = .ok (.aload_n 0, 1) := by decide +kernel
theorem dX5_init_71 : decode cX5_init 71 = .ok (.bipush 48, 2) := by decide +kernel
theorem dX5_init_73 : decode cX5_init 73 = .ok (.newarray .long, 2) := by decide +kernel
theorem dX5_init_75 : decode cX5_init 75 = .ok (.putfield 36, 3) := by decide +kernel
theorem dX5_init_78 : decode cX5_init 78 = .ok (.aload_n 0, 1) := by decide +kernel
theorem dX5_init_79 : decode cX5_init 79 = .ok (.bipush 12, 2) := by decide +kernel
theorem dX5_init_81 : decode cX5_init 81 = .ok (.newarray .int, 2) := by decide +kernel
theorem dX5_init_83 : decode cX5_init 83 = .ok (.putfield 39, 3) := by decide +kernel
theorem dX5_init_86 : decode cX5_init 86 = .ok (.aload_n 0, 1) := by decide +kernel
theorem dX5_init_87 : decode cX5_init 87 = .ok (.bipush 12, 2) := by decide +kernel
theorem dX5_init_89 : decode cX5_init 89 = .ok (.newarray .int, 2) := by decide +kernel
theorem dX5_init_91 : decode cX5_init 91 = .ok (.putfield 42, 3) := by decide +kernel
theorem dX5_init_94 : decode cX5_init 94 = .ok (.return_, 1) := by decide +kernel
theorem dX5_thrown_0 : decode cX5_thrown 0 = .ok (.aload_n 0, 1) := by decide +kernel
theorem dX5_thrown_1 : decode cX5_thrown 1 = .ok (.getfield 45, 3) := by decide +kernel
theorem dX5_thrown_4 : decode cX5_thrown 4 = .ok (.ireturn, 1) := by decide +kernel
theorem dX5_right_0 : decode cX5_right 0 = .ok (.aload_n 0, 1) := by decide +kernel
theorem dX5_right_1 : decode cX5_right 1 = .ok (.getfield 45, 3) := by decide +kernel
theorem dX5_right_4 : decode cX5_right 4 = .ok (.ifCond .ne 12, 3) := by decide +kernel
theorem dX5_right_7 : decode cX5_right 7 = .ok (.iload_n 1, 1) := by decide +kernel
theorem dX5_right_8 : decode cX5_right 8 = .ok (.ifCond .ne 8, 3) := by decide +kernel
theorem dX5_right_11 : decode cX5_right 11 = .ok (.aload_n 0, 1) := by decide +kernel
theorem dX5_right_12 : decode cX5_right 12 = .ok (.iload_n 2, 1) := by decide +kernel
theorem dX5_right_13 : decode cX5_right 13 = .ok (.putfield 45, 3) := by decide +kernel
theorem dX5_right_16 : decode cX5_right 16 = .ok (.aload_n 0, 1) := by decide +kernel
theorem dX5_right_17 : decode cX5_right 17 = .ok (.getfield 45, 3) := by decide +kernel
theorem dX5_right_20 : decode cX5_right 20 = .ok (.ifCond .ne 7, 3) := by decide +kernel
theorem dX5_right_23 : decode cX5_right 23 = .ok (.iconst 1, 1) := by decide +kernel
theorem dX5_right_24 : decode cX5_right 24 = .ok (.goto 4, 3) := by decide +kernel
theorem dX5_right_27 : decode cX5_right 27 = .ok (.iconst 0, 1) := by decide +kernel
theorem dX5_right_28 : decode cX5_right 28 = .ok (.ireturn, 1) := by decide +kernel
set_option maxRecDepth 20000 in
theorem ggX5_isNet_X5_right : GoodIn wsX5_isNet wsX5_right := goodIn_r _ [7, 1, 8, 9, 10, 11, 12, 13, 14, 15, 16, 17, 18, 19, 20, 21] (by decide +kernel) (by decide +kernel)
set_option maxRecDepth 20000 in
theorem gX5_isNet_X5_right : GoodIn wsX5_isNet (wsV RX5 52 RX5 yX5_right wsX5_right) := goodIn_app (goodIn_of _ (by decide +kernel)) ggX5_isNet_X5_right
theorem dX5_isNet_0 : decode cX5_isNet 0 = .ok (.aload_n 0, 1) := by decide +kernel
theorem dX5_isNet_1 : decode cX5_isNet 1 = .ok (.iconst 0, 1) := by decide +kernel
theorem dX5_isNet_2 : decode cX5_isNet 2 = .ok (.putfield 45, 3) := by decide +kernel
theorem dX5_isNet_5 : decode cX5_isNet 5 = .ok (.aload_n 0, 1) := by decide +kernel
theorem dX5_isNet_6 : decode cX5_isNet 6 = .ok (.iload_n 1, 1) := by decide +kernel
theorem dX5_isNet_7 : decode cX5_isNet 7 = .ok (.ifCond .lt 15, 3) := by decide +kernel
theorem dX5_isNet_10 : decode cX5_isNet 10 = .ok (.iload_n 1, 1) := by decide +kernel
theorem dX5_isNet_11 : decode cX5_isNet 11 = .ok (.aload_n 0, 1) := by decide +kernel
theorem dX5_isNet_12 : decode cX5_isNet 12 = .ok (.getfield 49, 3) := by decide +kernel
theorem dX5_isNet_15 : decode cX5_isNet 15 = .ok (.if_icmp .ge 7, 3) := by decide +kernel
theorem dX5_isNet_18 : decode cX5_isNet 18 = .ok (.iconst 1, 1) := by decide +kernel
theorem dX5_isNet_19 : decode cX5_isNet 19 = .ok (.goto 4, 3) := by decide +kernel
theorem dX5_isNet_22 : decode cX5_isNet 22 = .ok (.iconst 0, 1) := by decide +kernel
theorem dX5_isNet_23 : decode cX5_isNet 23 = .ok (.iconst 1, 1) := by decide +kernel
theorem dX5_isNet_24 : decode cX5_isNet 24 = .ok (.invokevirtual 52, 3) := by decide +kernel
theorem dX5_isNet_27 : decode cX5_isNet 27 = .ok (.ireturn, 1) := by decide +kernel
set_option maxRecDepth 20000 in
theorem ggX5_isDoor_X5_right : GoodIn wsX5_isDoor wsX5_right := goodIn_r _ [7, 8, 9, 10, 11, 12, 13, 14, 15, 16, 17, 18, 19, 20, 21, 22] (by decide +kernel) (by decide +kernel)
set_option maxRecDepth 20000 in
theorem gX5_isDoor_X5_right : GoodIn wsX5_isDoor (wsV RX5 52 RX5 yX5_right wsX5_right) := goodIn_app (goodIn_of _ (by decide +kernel)) ggX5_isDoor_X5_right
theorem dX5_isDoor_0 : decode cX5_isDoor 0 = .ok (.aload_n 0, 1) := by decide +kernel
theorem dX5_isDoor_1 : decode cX5_isDoor 1 = .ok (.iload_n 2, 1) := by decide +kernel
theorem dX5_isDoor_2 : decode cX5_isDoor 2 = .ok (.ifCond .lt 31, 3) := by decide +kernel
theorem dX5_isDoor_5 : decode cX5_isDoor 5 = .ok (.iload_n 2, 1) := by decide +kernel
theorem dX5_isDoor_6 : decode cX5_isDoor 6 = .ok (.aload_n 0, 1) := by decide +kernel
theorem dX5_isDoor_7 : decode cX5_isDoor 7 = .ok (.getfield 7, 3) := by decide +kernel
theorem dX5_isDoor_10 : decode cX5_isDoor 10 = .ok (.iload_n 1, 1) := by decide +kernel
theorem dX5_isDoor_11 : decode cX5_isDoor 11 = .ok (.iaload, 1) := by decide +kernel
theorem dX5_isDoor_12 : decode cX5_isDoor 12 = .ok (.if_icmp .ge 21, 3) := by decide +kernel
theorem dX5_isDoor_15 : decode cX5_isDoor 15 = .ok (.iload_n 3, 1) := by decide +kernel
theorem dX5_isDoor_16 : decode cX5_isDoor 16 = .ok (.ifCond .lt 17, 3) := by decide +kernel
theorem dX5_isDoor_19 : decode cX5_isDoor 19 = .ok (.iload_n 3, 1) := by decide +kernel
theorem dX5_isDoor_20 : decode cX5_isDoor 20 = .ok (.aload_n 0, 1) := by decide +kernel
theorem dX5_isDoor_21 : decode cX5_isDoor 21 = .ok (.getfield 13, 3) := by decide +kernel
theorem dX5_isDoor_24 : decode cX5_isDoor 24 = .ok (.iload_n 1, 1) := by decide +kernel
theorem dX5_isDoor_25 : decode cX5_isDoor 25 = .ok (.iaload, 1) := by decide +kernel
theorem dX5_isDoor_26 : decode cX5_isDoor 26 = .ok (.if_icmp .ge 7, 3) := by decide +kernel
theorem dX5_isDoor_29 : decode cX5_isDoor 29 = .ok (.iconst 1, 1) := by decide +kernel
theorem dX5_isDoor_30 : decode cX5_isDoor 30 = .ok (.goto 4, 3) := by decide +kernel
theorem dX5_isDoor_33 : decode cX5_isDoor 33 = .ok (.iconst 0, 1) := by decide +kernel
theorem dX5_isDoor_34 : decode cX5_isDoor 34 = .ok (.iconst 1, 1) := by decide +kernel
theorem dX5_isDoor_35 : decode cX5_isDoor 35 = .ok (.invokevirtual 52, 3) := by decide +kernel
theorem dX5_isDoor_38 : decode cX5_isDoor 38 = .ok (.ireturn, 1) := by decide +kernel
theorem dX5_net_0 : decode cX5_net 0 = .ok (.aload_n 0, 1) := by decide +kernel
theorem dX5_net_1 : decode cX5_net 1 = .ok (.iconst 0, 1) := by decide +kernel
theorem dX5_net_2 : decode cX5_net 2 = .ok (.putfield 45, 3) := by decide +kernel
theorem dX5_net_5 : decode cX5_net 5 = .ok (.aload_n 0, 1) := by decide +kernel
theorem dX5_net_6 : decode cX5_net 6 = .ok (.getfield 49, 3) := by decide +kernel
theorem dX5_net_9 : decode cX5_net 9 = .ok (.bipush 6, 2) := by decide +kernel
theorem dX5_net_11 : decode cX5_net 11 = .ok (.if_icmp .eq 24, 3) := by decide +kernel
theorem dX5_net_14 : decode cX5_net 14 = .ok (.iload_n 1, 1) := by decide +kernel
theorem dX5_net_15 : decode cX5_net 15 = .ok (.iconst 1, 1) := by decide +kernel
theorem dX5_net_16 : decode cX5_net 16 = .ok (.if_icmp .lt 19, 3) := by decide +kernel
theorem dX5_net_19 : decode cX5_net 19 = .ok (.iload_n 1, 1) := by decide +kernel
theorem dX5_net_20 : decode cX5_net 20 = .ok (.bipush 12, 2) := by decide +kernel
theorem dX5_net_22 : decode cX5_net 22 = .ok (.if_icmp .gt 13, 3) := by decide +kernel
theorem dX5_net_25 : decode cX5_net 25 = .ok (.iload_n 2, 1) := by decide +kernel
theorem dX5_net_26 : decode cX5_net 26 = .ok (.iconst 2, 1) := by decide +kernel
theorem dX5_net_27 : decode cX5_net 27 = .ok (.if_icmp .lt 8, 3) := by decide +kernel
theorem dX5_net_30 : decode cX5_net 30 = .ok (.iload_n 2, 1) := by decide +kernel
theorem dX5_net_31 : decode cX5_net 31 = .ok (.iconst 4, 1) := by decide +kernel
theorem dX5_net_32 : decode cX5_net 32 = .ok (.if_icmp .le 5, 3) := by decide +kernel
theorem dX5_net_35 : decode cX5_net 35 = .ok (.iconst (-1), 1) := by decide +kernel
theorem dX5_net_36 : decode cX5_net 36 = .ok (.ireturn, 1) := by decide +kernel
theorem dX5_net_37 : decode cX5_net 37 = .ok (.aload_n 0, 1) := by decide +kernel
theorem dX5_net_38 : decode cX5_net 38 = .ok (.getfield 7, 3) := by decide +kernel
theorem dX5_net_41 : decode cX5_net 41 = .ok (.aload_n 0, 1) := by decide +kernel
theorem dX5_net_42 : decode cX5_net 42 = .ok (.getfield 49, 3) := by decide +kernel
theorem dX5_net_45 : decode cX5_net 45 = .ok (.iload_n 1, 1) := by decide +kernel
theorem dX5_net_46 : decode cX5_net 46 = .ok (.iastore, 1) := by decide +kernel
theorem dX5_net_47 : decode cX5_net 47 = .ok (.aload_n 0, 1) := by decide +kernel
theorem dX5_net_48 : decode cX5_net 48 = .ok (.getfield 13, 3) := by decide +kernel
theorem dX5_net_51 : decode cX5_net 51 = .ok (.aload_n 0, 1) := by decide +kernel
theorem dX5_net_52 : decode cX5_net 52 = .ok (.getfield 49, 3) := by decide +kernel
theorem dX5_net_55 : decode cX5_net 55 = .ok (.iload_n 2, 1) := by decide +kernel
theorem dX5_net_56 : decode cX5_net 56 = .ok (.iastore, 1) := by decide +kernel
theorem dX5_net_57 : decode cX5_net 57 = .ok (.iconst 0, 1) := by decide +kernel
theorem dX5_net_58 : decode cX5_net 58 = .ok (.istore_n 3, 1) := by decide +kernel
theorem dX5_net_59 : decode cX5_net 59 = .ok (.iload_n 3, 1) := by decide +kernel
theorem dX5_net_60 : decode cX5_net 60 = .ok (.bipush 48, 2) := by decide +kernel
theorem dX5_net_62 : decode cX5_net 62 = .ok (.if_icmp .ge 24, 3) := by decide +kernel
theorem dX5_net_65 : decode cX5_net 65 = .ok (.aload_n 0, 1) := by decide +kernel
theorem dX5_net_66 : decode cX5_net 66 = .ok (.getfield 16, 3) := by decide +kernel
theorem dX5_net_69 : decode cX5_net 69 = .ok (.bipush 48, 2) := by decide +kernel
theorem dX5_net_71 : decode cX5_net 71 = .ok (.aload_n 0, 1) := by decide +kernel
theorem dX5_net_72 : decode cX5_net 72 = .ok (.getfield 49, 3) := by decide +kernel
theorem dX5_net_75 : decode cX5_net 75 = .ok (.imul, 1) := by decide +kernel
theorem dX5_net_76 : decode cX5_net 76 = .ok (.iload_n 3, 1) := by decide +kernel
theorem dX5_net_77 : decode cX5_net 77 = .ok (.iadd, 1) := by decide +kernel
theorem dX5_net_78 : decode cX5_net 78 = .ok (.iload_n 3, 1) := by decide +kernel
theorem dX5_net_79 : decode cX5_net 79 = .ok (.iastore, 1) := by decide +kernel
theorem dX5_net_80 : decode cX5_net 80 = .ok (.iinc 3 1, 3) := by decide +kernel
theorem dX5_net_83 : decode cX5_net 83 = .ok (.goto (-24), 3) := by decide +kernel
theorem dX5_net_86 : decode cX5_net 86 = .ok (.aload_n 0, 1) := by decide +kernel
theorem dX5_net_87 : decode cX5_net 87 = .ok (.dup, 1) := by decide +kernel
theorem dX5_net_88 : decode cX5_net 88 = .ok (.getfield 49, 3) := by decide +kernel
theorem dX5_net_91 : decode cX5_net 91 = .ok (.iconst 1, 1) := by decide +kernel
theorem dX5_net_92 : decode cX5_net 92 = .ok (.iadd, 1) := by decide +kernel
theorem dX5_net_93 : decode cX5_net 93 = .ok (.putfield 49, 3) := by decide +kernel
theorem dX5_net_96 : decode cX5_net 96 = .ok (.aload_n 0, 1) := by decide +kernel
theorem dX5_net_97 : decode cX5_net 97 = .ok (.getfield 49, 3) := by decide +kernel
theorem dX5_net_100 : decode cX5_net 100 = .ok (.iconst 1, 1) := by decide +kernel
theorem dX5_net_101 : decode cX5_net 101 = .ok (.isub, 1) := by decide +kernel
theorem dX5_net_102 : decode cX5_net 102 = .ok (.ireturn, 1) := by decide +kernel
set_option maxRecDepth 20000 in
theorem ggX5_join_X5_isNet : GoodIn wsX5_join wsX5_isNet := goodIn_r _ [7, 8, 9, 10, 11, 12, 6, 13, 20, 21, 22, 23, 24, 25, 26, 27, 28, 29, 30, 31, 32, 33] (by decide +kernel) (by decide +kernel)
set_option maxRecDepth 20000 in
theorem gX5_join_X5_isNet : GoodIn wsX5_join (wsV RX5 56 RX5 yX5_isNet wsX5_isNet) := goodIn_app (goodIn_of _ (by decide +kernel)) ggX5_join_X5_isNet
set_option maxRecDepth 20000 in
theorem ggX5_join_X5_isDoor : GoodIn wsX5_join wsX5_isDoor := goodIn_r _ [17, 18, 19, 10, 11, 12, 6, 13, 8, 20, 21, 22, 23, 24, 25, 26, 27, 28, 29, 30, 31, 32, 33] (by decide +kernel) (by decide +kernel)
set_option maxRecDepth 20000 in
theorem gX5_join_X5_isDoor : GoodIn wsX5_join (wsV RX5 60 RX5 yX5_isDoor wsX5_isDoor) := goodIn_app (goodIn_of _ (by decide +kernel)) ggX5_join_X5_isDoor
theorem dX5_join_0 : decode cX5_join 0 = .ok (.aload_n 0, 1) := by decide +kernel
theorem dX5_join_1 : decode cX5_join 1 = .ok (.iload_n 1, 1) := by decide +kernel
theorem dX5_join_2 : decode cX5_join 2 = .ok (.invokevirtual 56, 3) := by decide +kernel
theorem dX5_join_5 : decode cX5_join 5 = .ok (.ifCond .eq 34, 3) := by decide +kernel
theorem dX5_join_8 : decode cX5_join 8 = .ok (.aload_n 0, 1) := by decide +kernel
theorem dX5_join_9 : decode cX5_join 9 = .ok (.iload_n 1, 1) := by decide +kernel
theorem dX5_join_10 : decode cX5_join 10 = .ok (.iload_n 2, 1) := by decide +kernel
theorem dX5_join_11 : decode cX5_join 11 = .ok (.iload_n 3, 1) := by decide +kernel
theorem dX5_join_12 : decode cX5_join 12 = .ok (.invokevirtual 60, 3) := by decide +kernel
theorem dX5_join_15 : decode cX5_join 15 = .ok (.ifCond .eq 24, 3) := by decide +kernel
theorem dX5_join_18 : decode cX5_join 18 = .ok (.aload_n 0, 1) := by decide +kernel
theorem dX5_join_19 : decode cX5_join 19 = .ok (.iload_n 1, 1) := by decide +kernel
theorem dX5_join_20 : decode cX5_join 20 = .ok (.iload 4, 2) := by decide +kernel
theorem dX5_join_22 : decode cX5_join 22 = .ok (.iload 5, 2) := by decide +kernel
theorem dX5_join_24 : decode cX5_join 24 = .ok (.invokevirtual 60, 3) := by decide +kernel
theorem dX5_join_27 : decode cX5_join 27 = .ok (.ifCond .eq 12, 3) := by decide +kernel
theorem dX5_join_30 : decode cX5_join 30 = .ok (.aload_n 0, 1) := by decide +kernel
theorem dX5_join_31 : decode cX5_join 31 = .ok (.getfield 23, 3) := by decide +kernel
theorem dX5_join_34 : decode cX5_join 34 = .ok (.iload_n 1, 1) := by decide +kernel
theorem dX5_join_35 : decode cX5_join 35 = .ok (.baload, 1) := by decide +kernel
theorem dX5_join_36 : decode cX5_join 36 = .ok (.ifCond .eq 5, 3) := by decide +kernel
theorem dX5_join_39 : decode cX5_join 39 = .ok (.iconst 0, 1) := by decide +kernel
theorem dX5_join_40 : decode cX5_join 40 = .ok (.ireturn, 1) := by decide +kernel
theorem dX5_join_41 : decode cX5_join 41 = .ok (.iconst 4, 1) := by decide +kernel
theorem dX5_join_42 : decode cX5_join 42 = .ok (.iload_n 2, 1) := by decide +kernel
theorem dX5_join_43 : decode cX5_join 43 = .ok (.imul, 1) := by decide +kernel
theorem dX5_join_44 : decode cX5_join 44 = .ok (.iload_n 3, 1) := by decide +kernel
theorem dX5_join_45 : decode cX5_join 45 = .ok (.iadd, 1) := by decide +kernel
theorem dX5_join_46 : decode cX5_join 46 = .ok (.istore 6, 2) := by decide +kernel
theorem dX5_join_48 : decode cX5_join 48 = .ok (.iconst 4, 1) := by decide +kernel
theorem dX5_join_49 : decode cX5_join 49 = .ok (.iload 4, 2) := by decide +kernel
theorem dX5_join_51 : decode cX5_join 51 = .ok (.imul, 1) := by decide +kernel
theorem dX5_join_52 : decode cX5_join 52 = .ok (.iload 5, 2) := by decide +kernel
theorem dX5_join_54 : decode cX5_join 54 = .ok (.iadd, 1) := by decide +kernel
theorem dX5_join_55 : decode cX5_join 55 = .ok (.istore 7, 2) := by decide +kernel
theorem dX5_join_57 : decode cX5_join 57 = .ok (.aload_n 0, 1) := by decide +kernel
theorem dX5_join_58 : decode cX5_join 58 = .ok (.getfield 16, 3) := by decide +kernel
theorem dX5_join_61 : decode cX5_join 61 = .ok (.bipush 48, 2) := by decide +kernel
theorem dX5_join_63 : decode cX5_join 63 = .ok (.iload_n 1, 1) := by decide +kernel
theorem dX5_join_64 : decode cX5_join 64 = .ok (.imul, 1) := by decide +kernel
theorem dX5_join_65 : decode cX5_join 65 = .ok (.iload 6, 2) := by decide +kernel
theorem dX5_join_67 : decode cX5_join 67 = .ok (.iadd, 1) := by decide +kernel
theorem dX5_join_68 : decode cX5_join 68 = .ok (.iaload, 1) := by decide +kernel
theorem dX5_join_69 : decode cX5_join 69 = .ok (.istore 8, 2) := by decide +kernel
theorem dX5_join_71 : decode cX5_join 71 = .ok (.aload_n 0, 1) := by decide +kernel
theorem dX5_join_72 : decode cX5_join 72 = .ok (.getfield 16, 3) := by decide +kernel
theorem dX5_join_75 : decode cX5_join 75 = .ok (.bipush 48, 2) := by decide +kernel
theorem dX5_join_77 : decode cX5_join 77 = .ok (.iload_n 1, 1) := by decide +kernel
theorem dX5_join_78 : decode cX5_join 78 = .ok (.imul, 1) := by decide +kernel
theorem dX5_join_79 : decode cX5_join 79 = .ok (.iload 7, 2) := by decide +kernel
theorem dX5_join_81 : decode cX5_join 81 = .ok (.iadd, 1) := by decide +kernel
theorem dX5_join_82 : decode cX5_join 82 = .ok (.iaload, 1) := by decide +kernel
theorem dX5_join_83 : decode cX5_join 83 = .ok (.istore 9, 2) := by decide +kernel
theorem dX5_join_85 : decode cX5_join 85 = .ok (.aload_n 0, 1) := by decide +kernel
theorem dX5_join_86 : decode cX5_join 86 = .ok (.getfield 16, 3) := by decide +kernel
theorem dX5_join_89 : decode cX5_join 89 = .ok (.bipush 48, 2) := by decide +kernel
theorem dX5_join_91 : decode cX5_join 91 = .ok (.iload_n 1, 1) := by decide +kernel
theorem dX5_join_92 : decode cX5_join 92 = .ok (.imul, 1) := by decide +kernel
theorem dX5_join_93 : decode cX5_join 93 = .ok (.iload 8, 2) := by decide +kernel
theorem dX5_join_95 : decode cX5_join 95 = .ok (.iadd, 1) := by decide +kernel
theorem dX5_join_96 : decode cX5_join 96 = .ok (.iload 8, 2) := by decide +kernel
theorem dX5_join_98 : decode cX5_join 98 = .ok (.iastore, 1) := by decide +kernel
theorem dX5_join_99 : decode cX5_join 99 = .ok (.aload_n 0, 1) := by decide +kernel
theorem dX5_join_100 : decode cX5_join 100 = .ok (.getfield 16, 3) := by decide +kernel
theorem dX5_join_103 : decode cX5_join 103 = .ok (.bipush 48, 2) := by decide +kernel
theorem dX5_join_105 : decode cX5_join 105 = .ok (.iload_n 1, 1) := by decide +kernel
theorem dX5_join_106 : decode cX5_join 106 = .ok (.imul, 1) := by decide +kernel
theorem dX5_join_107 : decode cX5_join 107 = .ok (.iload 9, 2) := by decide +kernel
theorem dX5_join_109 : decode cX5_join 109 = .ok (.iadd, 1) := by decide +kernel
theorem dX5_join_110 : decode cX5_join 110 = .ok (.iload 9, 2) := by decide +kernel
theorem dX5_join_112 : decode cX5_join 112 = .ok (.iastore, 1) := by decide +kernel
theorem dX5_join_113 : decode cX5_join 113 = .ok (.aload_n 0, 1) := by decide +kernel
theorem dX5_join_114 : decode cX5_join 114 = .ok (.getfield 16, 3) := by decide +kernel
theorem dX5_join_117 : decode cX5_join 117 = .ok (.bipush 48, 2) := by decide +kernel
theorem dX5_join_119 : decode cX5_join 119 = .ok (.iload_n 1, 1) := by decide +kernel
theorem dX5_join_120 : decode cX5_join 120 = .ok (.imul, 1) := by decide +kernel
theorem dX5_join_121 : decode cX5_join 121 = .ok (.iload 6, 2) := by decide +kernel
theorem dX5_join_123 : decode cX5_join 123 = .ok (.iadd, 1) := by decide +kernel
theorem dX5_join_124 : decode cX5_join 124 = .ok (.iload 7, 2) := by decide +kernel
theorem dX5_join_126 : decode cX5_join 126 = .ok (.iastore, 1) := by decide +kernel
theorem dX5_join_127 : decode cX5_join 127 = .ok (.aload_n 0, 1) := by decide +kernel
theorem dX5_join_128 : decode cX5_join 128 = .ok (.getfield 16, 3) := by decide +kernel
theorem dX5_join_131 : decode cX5_join 131 = .ok (.bipush 48, 2) := by decide +kernel
theorem dX5_join_133 : decode cX5_join 133 = .ok (.iload_n 1, 1) := by decide +kernel
theorem dX5_join_134 : decode cX5_join 134 = .ok (.imul, 1) := by decide +kernel
theorem dX5_join_135 : decode cX5_join 135 = .ok (.iload 7, 2) := by decide +kernel
theorem dX5_join_137 : decode cX5_join 137 = .ok (.iadd, 1) := by decide +kernel
theorem dX5_join_138 : decode cX5_join 138 = .ok (.iload 6, 2) := by decide +kernel
theorem dX5_join_140 : decode cX5_join 140 = .ok (.iastore, 1) := by decide +kernel
theorem dX5_join_141 : decode cX5_join 141 = .ok (.iconst 1, 1) := by decide +kernel
theorem dX5_join_142 : decode cX5_join 142 = .ok (.ireturn, 1) := by decide +kernel
set_option maxRecDepth 20000 in
theorem ggX5_leads_X5_isNet : GoodIn wsX5_leads wsX5_isNet := goodIn_r _ [6, 7, 8, 9, 10, 11, 5, 12, 19, 20, 21, 22, 23, 24, 25, 26, 27, 28, 29, 30, 31, 32] (by decide +kernel) (by decide +kernel)
set_option maxRecDepth 20000 in
theorem gX5_leads_X5_isNet : GoodIn wsX5_leads (wsV RX5 56 RX5 yX5_isNet wsX5_isNet) := goodIn_app (goodIn_of _ (by decide +kernel)) ggX5_leads_X5_isNet
set_option maxRecDepth 20000 in
theorem ggX5_leads_X5_isDoor : GoodIn wsX5_leads wsX5_isDoor := goodIn_r _ [16, 17, 18, 9, 10, 11, 5, 12, 7, 19, 20, 21, 22, 23, 24, 25, 26, 27, 28, 29, 30, 31, 32] (by decide +kernel) (by decide +kernel)
set_option maxRecDepth 20000 in
theorem gX5_leads_X5_isDoor : GoodIn wsX5_leads (wsV RX5 60 RX5 yX5_isDoor wsX5_isDoor) := goodIn_app (goodIn_of _ (by decide +kernel)) ggX5_leads_X5_isDoor
theorem dX5_leads_0 : decode cX5_leads 0 = .ok (.aload_n 0, 1) := by decide +kernel
theorem dX5_leads_1 : decode cX5_leads 1 = .ok (.iload_n 1, 1) := by decide +kernel
theorem dX5_leads_2 : decode cX5_leads 2 = .ok (.invokevirtual 56, 3) := by decide +kernel
theorem dX5_leads_5 : decode cX5_leads 5 = .ok (.ifCond .eq 31, 3) := by decide +kernel
theorem dX5_leads_8 : decode cX5_leads 8 = .ok (.aload_n 0, 1) := by decide +kernel
theorem dX5_leads_9 : decode cX5_leads 9 = .ok (.iload_n 1, 1) := by decide +kernel
theorem dX5_leads_10 : decode cX5_leads 10 = .ok (.iload_n 2, 1) := by decide +kernel
theorem dX5_leads_11 : decode cX5_leads 11 = .ok (.iload_n 3, 1) := by decide +kernel
theorem dX5_leads_12 : decode cX5_leads 12 = .ok (.invokevirtual 60, 3) := by decide +kernel
theorem dX5_leads_15 : decode cX5_leads 15 = .ok (.ifCond .eq 21, 3) := by decide +kernel
theorem dX5_leads_18 : decode cX5_leads 18 = .ok (.aload_n 0, 1) := by decide +kernel
theorem dX5_leads_19 : decode cX5_leads 19 = .ok (.getfield 16, 3) := by decide +kernel
theorem dX5_leads_22 : decode cX5_leads 22 = .ok (.bipush 48, 2) := by decide +kernel
theorem dX5_leads_24 : decode cX5_leads 24 = .ok (.iload_n 1, 1) := by decide +kernel
theorem dX5_leads_25 : decode cX5_leads 25 = .ok (.imul, 1) := by decide +kernel
theorem dX5_leads_26 : decode cX5_leads 26 = .ok (.iconst 4, 1) := by decide +kernel
theorem dX5_leads_27 : decode cX5_leads 27 = .ok (.iload_n 2, 1) := by decide +kernel
theorem dX5_leads_28 : decode cX5_leads 28 = .ok (.imul, 1) := by decide +kernel
theorem dX5_leads_29 : decode cX5_leads 29 = .ok (.iadd, 1) := by decide +kernel
theorem dX5_leads_30 : decode cX5_leads 30 = .ok (.iload_n 3, 1) := by decide +kernel
theorem dX5_leads_31 : decode cX5_leads 31 = .ok (.iadd, 1) := by decide +kernel
theorem dX5_leads_32 : decode cX5_leads 32 = .ok (.iaload, 1) := by decide +kernel
theorem dX5_leads_33 : decode cX5_leads 33 = .ok (.goto 4, 3) := by decide +kernel
theorem dX5_leads_36 : decode cX5_leads 36 = .ok (.iconst 0, 1) := by decide +kernel
theorem dX5_leads_37 : decode cX5_leads 37 = .ok (.ireturn, 1) := by decide +kernel
set_option maxRecDepth 20000 in
theorem ggX5_mark_X5_isNet : GoodIn wsX5_mark wsX5_isNet := goodIn_r _ [8, 9, 10, 11, 12, 13, 7, 14, 15, 16, 17, 18, 19, 20, 21, 22, 23, 24, 25, 26, 27, 28] (by decide +kernel) (by decide +kernel)
set_option maxRecDepth 20000 in
theorem gX5_mark_X5_isNet : GoodIn wsX5_mark (wsV RX5 56 RX5 yX5_isNet wsX5_isNet) := goodIn_app (goodIn_of _ (by decide +kernel)) ggX5_mark_X5_isNet
set_option maxRecDepth 20000 in
theorem ggX5_mark_X5_right : GoodIn wsX5_mark wsX5_right := goodIn_r _ [14, 9, 15, 16, 17, 18, 19, 20, 21, 22, 23, 24, 25, 26, 27, 28] (by decide +kernel) (by decide +kernel)
set_option maxRecDepth 20000 in
theorem gX5_mark_X5_right : GoodIn wsX5_mark (wsV RX5 52 RX5 yX5_right wsX5_right) := goodIn_app (goodIn_of _ (by decide +kernel)) ggX5_mark_X5_right
theorem dX5_mark_0 : decode cX5_mark 0 = .ok (.aload_n 0, 1) := by decide +kernel
theorem dX5_mark_1 : decode cX5_mark 1 = .ok (.iload_n 1, 1) := by decide +kernel
theorem dX5_mark_2 : decode cX5_mark 2 = .ok (.invokevirtual 56, 3) := by decide +kernel
theorem dX5_mark_5 : decode cX5_mark 5 = .ok (.ifCond .eq 39, 3) := by decide +kernel
theorem dX5_mark_8 : decode cX5_mark 8 = .ok (.aload_n 0, 1) := by decide +kernel
theorem dX5_mark_9 : decode cX5_mark 9 = .ok (.iload_n 2, 1) := by decide +kernel
theorem dX5_mark_10 : decode cX5_mark 10 = .ok (.ifCond .lt 17, 3) := by decide +kernel
theorem dX5_mark_13 : decode cX5_mark 13 = .ok (.iload_n 2, 1) := by decide +kernel
theorem dX5_mark_14 : decode cX5_mark 14 = .ok (.aload_n 0, 1) := by decide +kernel
theorem dX5_mark_15 : decode cX5_mark 15 = .ok (.getfield 7, 3) := by decide +kernel
theorem dX5_mark_18 : decode cX5_mark 18 = .ok (.iload_n 1, 1) := by decide +kernel
theorem dX5_mark_19 : decode cX5_mark 19 = .ok (.iaload, 1) := by decide +kernel
theorem dX5_mark_20 : decode cX5_mark 20 = .ok (.if_icmp .ge 7, 3) := by decide +kernel
theorem dX5_mark_23 : decode cX5_mark 23 = .ok (.iconst 1, 1) := by decide +kernel
theorem dX5_mark_24 : decode cX5_mark 24 = .ok (.goto 4, 3) := by decide +kernel
theorem dX5_mark_27 : decode cX5_mark 27 = .ok (.iconst 0, 1) := by decide +kernel
theorem dX5_mark_28 : decode cX5_mark 28 = .ok (.iconst 1, 1) := by decide +kernel
theorem dX5_mark_29 : decode cX5_mark 29 = .ok (.invokevirtual 52, 3) := by decide +kernel
theorem dX5_mark_32 : decode cX5_mark 32 = .ok (.ifCond .eq 12, 3) := by decide +kernel
theorem dX5_mark_35 : decode cX5_mark 35 = .ok (.aload_n 0, 1) := by decide +kernel
theorem dX5_mark_36 : decode cX5_mark 36 = .ok (.getfield 23, 3) := by decide +kernel
theorem dX5_mark_39 : decode cX5_mark 39 = .ok (.iload_n 1, 1) := by decide +kernel
theorem dX5_mark_40 : decode cX5_mark 40 = .ok (.baload, 1) := by decide +kernel
theorem dX5_mark_41 : decode cX5_mark 41 = .ok (.ifCond .eq 5, 3) := by decide +kernel
theorem dX5_mark_44 : decode cX5_mark 44 = .ok (.iconst 0, 1) := by decide +kernel
theorem dX5_mark_45 : decode cX5_mark 45 = .ok (.ireturn, 1) := by decide +kernel
theorem dX5_mark_46 : decode cX5_mark 46 = .ok (.aload_n 0, 1) := by decide +kernel
theorem dX5_mark_47 : decode cX5_mark 47 = .ok (.getfield 19, 3) := by decide +kernel
theorem dX5_mark_50 : decode cX5_mark 50 = .ok (.bipush 12, 2) := by decide +kernel
theorem dX5_mark_52 : decode cX5_mark 52 = .ok (.iload_n 1, 1) := by decide +kernel
theorem dX5_mark_53 : decode cX5_mark 53 = .ok (.imul, 1) := by decide +kernel
theorem dX5_mark_54 : decode cX5_mark 54 = .ok (.iload_n 2, 1) := by decide +kernel
theorem dX5_mark_55 : decode cX5_mark 55 = .ok (.iadd, 1) := by decide +kernel
theorem dX5_mark_56 : decode cX5_mark 56 = .ok (.iload_n 3, 1) := by decide +kernel
theorem dX5_mark_57 : decode cX5_mark 57 = .ok (.bastore, 1) := by decide +kernel
theorem dX5_mark_58 : decode cX5_mark 58 = .ok (.iconst 1, 1) := by decide +kernel
theorem dX5_mark_59 : decode cX5_mark 59 = .ok (.ireturn, 1) := by decide +kernel
theorem dX5_many_0 : decode cX5_many 0 = .ok (.iconst 0, 1) := by decide +kernel
theorem dX5_many_1 : decode cX5_many 1 = .ok (.istore 4, 2) := by decide +kernel
theorem dX5_many_3 : decode cX5_many 3 = .ok (.iconst 0, 1) := by decide +kernel
theorem dX5_many_4 : decode cX5_many 4 = .ok (.istore 5, 2) := by decide +kernel
theorem dX5_many_6 : decode cX5_many 6 = .ok (.iload 5, 2) := by decide +kernel
theorem dX5_many_8 : decode cX5_many 8 = .ok (.aload_n 0, 1) := by decide +kernel
theorem dX5_many_9 : decode cX5_many 9 = .ok (.getfield 13, 3) := by decide +kernel
theorem dX5_many_12 : decode cX5_many 12 = .ok (.iload_n 1, 1) := by decide +kernel
theorem dX5_many_13 : decode cX5_many 13 = .ok (.iaload, 1) := by decide +kernel
theorem dX5_many_14 : decode cX5_many 14 = .ok (.if_icmp .ge 39, 3) := by decide +kernel
theorem dX5_many_17 : decode cX5_many 17 = .ok (.aload_n 0, 1) := by decide +kernel
theorem dX5_many_18 : decode cX5_many 18 = .ok (.getfield 39, 3) := by decide +kernel
theorem dX5_many_21 : decode cX5_many 21 = .ok (.aload_n 0, 1) := by decide +kernel
theorem dX5_many_22 : decode cX5_many 22 = .ok (.getfield 16, 3) := by decide +kernel
theorem dX5_many_25 : decode cX5_many 25 = .ok (.bipush 48, 2) := by decide +kernel
theorem dX5_many_27 : decode cX5_many 27 = .ok (.iload_n 1, 1) := by decide +kernel
theorem dX5_many_28 : decode cX5_many 28 = .ok (.imul, 1) := by decide +kernel
theorem dX5_many_29 : decode cX5_many 29 = .ok (.iconst 4, 1) := by decide +kernel
theorem dX5_many_30 : decode cX5_many 30 = .ok (.iload_n 2, 1) := by decide +kernel
theorem dX5_many_31 : decode cX5_many 31 = .ok (.imul, 1) := by decide +kernel
theorem dX5_many_32 : decode cX5_many 32 = .ok (.iadd, 1) := by decide +kernel
theorem dX5_many_33 : decode cX5_many 33 = .ok (.iload 5, 2) := by decide +kernel
theorem dX5_many_35 : decode cX5_many 35 = .ok (.iadd, 1) := by decide +kernel
theorem dX5_many_36 : decode cX5_many 36 = .ok (.iaload, 1) := by decide +kernel
theorem dX5_many_37 : decode cX5_many 37 = .ok (.iconst 4, 1) := by decide +kernel
theorem dX5_many_38 : decode cX5_many 38 = .ok (.idiv, 1) := by decide +kernel
theorem dX5_many_39 : decode cX5_many 39 = .ok (.iaload, 1) := by decide +kernel
theorem dX5_many_40 : decode cX5_many 40 = .ok (.iload_n 3, 1) := by decide +kernel
theorem dX5_many_41 : decode cX5_many 41 = .ok (.if_icmp .ne 6, 3) := by decide +kernel
theorem dX5_many_44 : decode cX5_many 44 = .ok (.iinc 4 1, 3) := by decide +kernel
theorem dX5_many_47 : decode cX5_many 47 = .ok (.iinc 5 1, 3) := by decide +kernel
theorem dX5_many_50 : decode cX5_many 50 = .ok (.goto (-44), 3) := by decide +kernel
theorem dX5_many_53 : decode cX5_many 53 = .ok (.iload 4, 2) := by decide +kernel
theorem dX5_many_55 : decode cX5_many 55 = .ok (.ireturn, 1) := by decide +kernel
set_option maxRecDepth 20000 in
theorem ggX5_areAlike_X5_many : GoodIn wsX5_areAlike wsX5_many := goodIn_r _ [7, 8, 1, 9, 10, 11, 12, 13, 14, 15, 16, 17, 18, 19, 20, 21, 22, 23] (by decide +kernel) (by decide +kernel)
set_option maxRecDepth 20000 in
theorem gX5_areAlike_X5_many : GoodIn wsX5_areAlike (wsV RX5 64 RX5 yX5_many wsX5_many) := goodIn_app (goodIn_of _ (by decide +kernel)) ggX5_areAlike_X5_many
theorem dX5_areAlike_0 : decode cX5_areAlike 0 = .ok (.aload_n 0, 1) := by decide +kernel
theorem dX5_areAlike_1 : decode cX5_areAlike 1 = .ok (.getfield 39, 3) := by decide +kernel
theorem dX5_areAlike_4 : decode cX5_areAlike 4 = .ok (.iload_n 2, 1) := by decide +kernel
theorem dX5_areAlike_5 : decode cX5_areAlike 5 = .ok (.iaload, 1) := by decide +kernel
theorem dX5_areAlike_6 : decode cX5_areAlike 6 = .ok (.aload_n 0, 1) := by decide +kernel
theorem dX5_areAlike_7 : decode cX5_areAlike 7 = .ok (.getfield 39, 3) := by decide +kernel
theorem dX5_areAlike_10 : decode cX5_areAlike 10 = .ok (.iload_n 3, 1) := by decide +kernel
theorem dX5_areAlike_11 : decode cX5_areAlike 11 = .ok (.iaload, 1) := by decide +kernel
theorem dX5_areAlike_12 : decode cX5_areAlike 12 = .ok (.if_icmp .eq 5, 3) := by decide +kernel
theorem dX5_areAlike_15 : decode cX5_areAlike 15 = .ok (.iconst 0, 1) := by decide +kernel
theorem dX5_areAlike_16 : decode cX5_areAlike 16 = .ok (.ireturn, 1) := by decide +kernel
theorem dX5_areAlike_17 : decode cX5_areAlike 17 = .ok (.iconst 0, 1) := by decide +kernel
theorem dX5_areAlike_18 : decode cX5_areAlike 18 = .ok (.istore 4, 2) := by decide +kernel
theorem dX5_areAlike_20 : decode cX5_areAlike 20 = .ok (.iload 4, 2) := by decide +kernel
theorem dX5_areAlike_22 : decode cX5_areAlike 22 = .ok (.aload_n 0, 1) := by decide +kernel
theorem dX5_areAlike_23 : decode cX5_areAlike 23 = .ok (.getfield 7, 3) := by decide +kernel
theorem dX5_areAlike_26 : decode cX5_areAlike 26 = .ok (.iload_n 1, 1) := by decide +kernel
theorem dX5_areAlike_27 : decode cX5_areAlike 27 = .ok (.iaload, 1) := by decide +kernel
theorem dX5_areAlike_28 : decode cX5_areAlike 28 = .ok (.if_icmp .ge 30, 3) := by decide +kernel
theorem dX5_areAlike_31 : decode cX5_areAlike 31 = .ok (.aload_n 0, 1) := by decide +kernel
theorem dX5_areAlike_32 : decode cX5_areAlike 32 = .ok (.iload_n 1, 1) := by decide +kernel
theorem dX5_areAlike_33 : decode cX5_areAlike 33 = .ok (.iload_n 2, 1) := by decide +kernel
theorem dX5_areAlike_34 : decode cX5_areAlike 34 = .ok (.iload 4, 2) := by decide +kernel
theorem dX5_areAlike_36 : decode cX5_areAlike 36 = .ok (.invokevirtual 64, 3) := by decide +kernel
theorem dX5_areAlike_39 : decode cX5_areAlike 39 = .ok (.aload_n 0, 1) := by decide +kernel
theorem dX5_areAlike_40 : decode cX5_areAlike 40 = .ok (.iload_n 1, 1) := by decide +kernel
theorem dX5_areAlike_41 : decode cX5_areAlike 41 = .ok (.iload_n 3, 1) := by decide +kernel
theorem dX5_areAlike_42 : decode cX5_areAlike 42 = .ok (.iload 4, 2) := by decide +kernel
theorem dX5_areAlike_44 : decode cX5_areAlike 44 = .ok (.invokevirtual 64, 3) := by decide +kernel
theorem dX5_areAlike_47 : decode cX5_areAlike 47 = .ok (.if_icmp .eq 5, 3) := by decide +kernel
theorem dX5_areAlike_50 : decode cX5_areAlike 50 = .ok (.iconst 0, 1) := by decide +kernel
theorem dX5_areAlike_51 : decode cX5_areAlike 51 = .ok (.ireturn, 1) := by decide +kernel
theorem dX5_areAlike_52 : decode cX5_areAlike 52 = .ok (.iinc 4 1, 3) := by decide +kernel
theorem dX5_areAlike_55 : decode cX5_areAlike 55 = .ok (.goto (-35), 3) := by decide +kernel
theorem dX5_areAlike_58 : decode cX5_areAlike 58 = .ok (.iconst 1, 1) := by decide +kernel
theorem dX5_areAlike_59 : decode cX5_areAlike 59 = .ok (.ireturn, 1) := by decide +kernel
set_option maxRecDepth 20000 in
theorem ggX5_finds_X5_areAlike : GoodIn wsX5_finds wsX5_areAlike := goodIn_r _ [9, 3, 1, 10, 11, 12, 8, 13, 14, 15, 16, 17, 18, 19, 20, 21, 22, 23, 24, 25, 26, 27, 28, 29] (by decide +kernel) (by decide +kernel)
set_option maxRecDepth 20000 in
theorem gX5_finds_X5_areAlike : GoodIn wsX5_finds (wsV RX5 68 RX5 yX5_areAlike wsX5_areAlike) := goodIn_app (goodIn_of _ (by decide +kernel)) ggX5_finds_X5_areAlike
theorem dX5_finds_0 : decode cX5_finds 0 = .ok (.iconst 0, 1) := by decide +kernel
theorem dX5_finds_1 : decode cX5_finds 1 = .ok (.istore_n 2, 1) := by decide +kernel
theorem dX5_finds_2 : decode cX5_finds 2 = .ok (.iload_n 2, 1) := by decide +kernel
theorem dX5_finds_3 : decode cX5_finds 3 = .ok (.aload_n 0, 1) := by decide +kernel
theorem dX5_finds_4 : decode cX5_finds 4 = .ok (.getfield 7, 3) := by decide +kernel
theorem dX5_finds_7 : decode cX5_finds 7 = .ok (.iload_n 1, 1) := by decide +kernel
theorem dX5_finds_8 : decode cX5_finds 8 = .ok (.iaload, 1) := by decide +kernel
theorem dX5_finds_9 : decode cX5_finds 9 = .ok (.if_icmp .ge 49, 3) := by decide +kernel
theorem dX5_finds_12 : decode cX5_finds 12 = .ok (.iconst 0, 1) := by decide +kernel
theorem dX5_finds_13 : decode cX5_finds 13 = .ok (.istore_n 3, 1) := by decide +kernel
theorem dX5_finds_14 : decode cX5_finds 14 = .ok (.aload_n 0, 1) := by decide +kernel
theorem dX5_finds_15 : decode cX5_finds 15 = .ok (.getfield 19, 3) := by decide +kernel
theorem dX5_finds_18 : decode cX5_finds 18 = .ok (.bipush 12, 2) := by decide +kernel
theorem dX5_finds_20 : decode cX5_finds 20 = .ok (.iload_n 1, 1) := by decide +kernel
theorem dX5_finds_21 : decode cX5_finds 21 = .ok (.imul, 1) := by decide +kernel
theorem dX5_finds_22 : decode cX5_finds 22 = .ok (.iload_n 3, 1) := by decide +kernel
theorem dX5_finds_23 : decode cX5_finds 23 = .ok (.iadd, 1) := by decide +kernel
theorem dX5_finds_24 : decode cX5_finds 24 = .ok (.baload, 1) := by decide +kernel
theorem dX5_finds_25 : decode cX5_finds 25 = .ok (.aload_n 0, 1) := by decide +kernel
theorem dX5_finds_26 : decode cX5_finds 26 = .ok (.getfield 19, 3) := by decide +kernel
theorem dX5_finds_29 : decode cX5_finds 29 = .ok (.bipush 12, 2) := by decide +kernel
theorem dX5_finds_31 : decode cX5_finds 31 = .ok (.iload_n 1, 1) := by decide +kernel
theorem dX5_finds_32 : decode cX5_finds 32 = .ok (.imul, 1) := by decide +kernel
theorem dX5_finds_33 : decode cX5_finds 33 = .ok (.iload_n 2, 1) := by decide +kernel
theorem dX5_finds_34 : decode cX5_finds 34 = .ok (.iadd, 1) := by decide +kernel
theorem dX5_finds_35 : decode cX5_finds 35 = .ok (.baload, 1) := by decide +kernel
theorem dX5_finds_36 : decode cX5_finds 36 = .ok (.if_icmp .eq 9, 3) := by decide +kernel
theorem dX5_finds_39 : decode cX5_finds 39 = .ok (.iinc 3 1, 3) := by decide +kernel
theorem dX5_finds_42 : decode cX5_finds 42 = .ok (.goto (-28), 3) := by decide +kernel
theorem dX5_finds_45 : decode cX5_finds 45 = .ok (.aload_n 0, 1) := by decide +kernel
theorem dX5_finds_46 : decode cX5_finds 46 = .ok (.getfield 39, 3) := by decide +kernel
theorem dX5_finds_49 : decode cX5_finds 49 = .ok (.iload_n 2, 1) := by decide +kernel
theorem dX5_finds_50 : decode cX5_finds 50 = .ok (.iload_n 3, 1) := by decide +kernel
theorem dX5_finds_51 : decode cX5_finds 51 = .ok (.iastore, 1) := by decide +kernel
theorem dX5_finds_52 : decode cX5_finds 52 = .ok (.iinc 2 1, 3) := by decide +kernel
theorem dX5_finds_55 : decode cX5_finds 55 = .ok (.goto (-53), 3) := by decide +kernel
theorem dX5_finds_58 : decode cX5_finds 58 = .ok (.iconst 1, 1) := by decide +kernel
theorem dX5_finds_59 : decode cX5_finds 59 = .ok (.istore_n 2, 1) := by decide +kernel
theorem dX5_finds_60 : decode cX5_finds 60 = .ok (.iload_n 2, 1) := by decide +kernel
theorem dX5_finds_61 : decode cX5_finds 61 = .ok (.ifCond .eq 109, 3) := by decide +kernel
theorem dX5_finds_64 : decode cX5_finds 64 = .ok (.iconst 0, 1) := by decide +kernel
theorem dX5_finds_65 : decode cX5_finds 65 = .ok (.istore_n 2, 1) := by decide +kernel
theorem dX5_finds_66 : decode cX5_finds 66 = .ok (.iconst 0, 1) := by decide +kernel
theorem dX5_finds_67 : decode cX5_finds 67 = .ok (.istore_n 3, 1) := by decide +kernel
theorem dX5_finds_68 : decode cX5_finds 68 = .ok (.iload_n 3, 1) := by decide +kernel
theorem dX5_finds_69 : decode cX5_finds 69 = .ok (.aload_n 0, 1) := by decide +kernel
theorem dX5_finds_70 : decode cX5_finds 70 = .ok (.getfield 7, 3) := by decide +kernel
theorem dX5_finds_73 : decode cX5_finds 73 = .ok (.iload_n 1, 1) := by decide +kernel
theorem dX5_finds_74 : decode cX5_finds 74 = .ok (.iaload, 1) := by decide +kernel
theorem dX5_finds_75 : decode cX5_finds 75 = .ok (.if_icmp .ge 37, 3) := by decide +kernel
theorem dX5_finds_78 : decode cX5_finds 78 = .ok (.iconst 0, 1) := by decide +kernel
theorem dX5_finds_79 : decode cX5_finds 79 = .ok (.istore 4, 2) := by decide +kernel
theorem dX5_finds_81 : decode cX5_finds 81 = .ok (.aload_n 0, 1) := by decide +kernel
theorem dX5_finds_82 : decode cX5_finds 82 = .ok (.iload_n 1, 1) := by decide +kernel
theorem dX5_finds_83 : decode cX5_finds 83 = .ok (.iload_n 3, 1) := by decide +kernel
theorem dX5_finds_84 : decode cX5_finds 84 = .ok (.iload 4, 2) := by decide +kernel
theorem dX5_finds_86 : decode cX5_finds 86 = .ok (.invokevirtual 68, 3) := by decide +kernel
theorem dX5_finds_89 : decode cX5_finds 89 = .ok (.ifCond .ne 9, 3) := by decide +kernel
theorem dX5_finds_92 : decode cX5_finds 92 = .ok (.iinc 4 1, 3) := by decide +kernel
theorem dX5_finds_95 : decode cX5_finds 95 = .ok (.goto (-14), 3) := by decide +kernel
theorem dX5_finds_98 : decode cX5_finds 98 = .ok (.aload_n 0, 1) := by decide +kernel
theorem dX5_finds_99 : decode cX5_finds 99 = .ok (.getfield 42, 3) := by decide +kernel
theorem dX5_finds_102 : decode cX5_finds 102 = .ok (.iload_n 3, 1) := by decide +kernel
theorem dX5_finds_103 : decode cX5_finds 103 = .ok (.iload 4, 2) := by decide +kernel
theorem dX5_finds_105 : decode cX5_finds 105 = .ok (.iastore, 1) := by decide +kernel
theorem dX5_finds_106 : decode cX5_finds 106 = .ok (.iinc 3 1, 3) := by decide +kernel
theorem dX5_finds_109 : decode cX5_finds 109 = .ok (.goto (-41), 3) := by decide +kernel
theorem dX5_finds_112 : decode cX5_finds 112 = .ok (.iconst 0, 1) := by decide +kernel
theorem dX5_finds_113 : decode cX5_finds 113 = .ok (.istore_n 3, 1) := by decide +kernel
theorem dX5_finds_114 : decode cX5_finds 114 = .ok (.iload_n 3, 1) := by decide +kernel
theorem dX5_finds_115 : decode cX5_finds 115 = .ok (.aload_n 0, 1) := by decide +kernel
theorem dX5_finds_116 : decode cX5_finds 116 = .ok (.getfield 7, 3) := by decide +kernel
theorem dX5_finds_119 : decode cX5_finds 119 = .ok (.iload_n 1, 1) := by decide +kernel
theorem dX5_finds_120 : decode cX5_finds 120 = .ok (.iaload, 1) := by decide +kernel
theorem dX5_finds_121 : decode cX5_finds 121 = .ok (.if_icmp .ge 46, 3) := by decide +kernel
theorem dX5_finds_124 : decode cX5_finds 124 = .ok (.iload_n 2, 1) := by decide +kernel
theorem dX5_finds_125 : decode cX5_finds 125 = .ok (.ifCond .ne 18, 3) := by decide +kernel
theorem dX5_finds_128 : decode cX5_finds 128 = .ok (.aload_n 0, 1) := by decide +kernel
theorem dX5_finds_129 : decode cX5_finds 129 = .ok (.getfield 42, 3) := by decide +kernel
theorem dX5_finds_132 : decode cX5_finds 132 = .ok (.iload_n 3, 1) := by decide +kernel
theorem dX5_finds_133 : decode cX5_finds 133 = .ok (.iaload, 1) := by decide +kernel
theorem dX5_finds_134 : decode cX5_finds 134 = .ok (.aload_n 0, 1) := by decide +kernel
theorem dX5_finds_135 : decode cX5_finds 135 = .ok (.getfield 39, 3) := by decide +kernel
theorem dX5_finds_138 : decode cX5_finds 138 = .ok (.iload_n 3, 1) := by decide +kernel
theorem dX5_finds_139 : decode cX5_finds 139 = .ok (.iaload, 1) := by decide +kernel
theorem dX5_finds_140 : decode cX5_finds 140 = .ok (.if_icmp .eq 7, 3) := by decide +kernel
theorem dX5_finds_143 : decode cX5_finds 143 = .ok (.iconst 1, 1) := by decide +kernel
theorem dX5_finds_144 : decode cX5_finds 144 = .ok (.goto 4, 3) := by decide +kernel
theorem dX5_finds_147 : decode cX5_finds 147 = .ok (.iconst 0, 1) := by decide +kernel
theorem dX5_finds_148 : decode cX5_finds 148 = .ok (.istore_n 2, 1) := by decide +kernel
theorem dX5_finds_149 : decode cX5_finds 149 = .ok (.aload_n 0, 1) := by decide +kernel
theorem dX5_finds_150 : decode cX5_finds 150 = .ok (.getfield 39, 3) := by decide +kernel
theorem dX5_finds_153 : decode cX5_finds 153 = .ok (.iload_n 3, 1) := by decide +kernel
theorem dX5_finds_154 : decode cX5_finds 154 = .ok (.aload_n 0, 1) := by decide +kernel
theorem dX5_finds_155 : decode cX5_finds 155 = .ok (.getfield 42, 3) := by decide +kernel
theorem dX5_finds_158 : decode cX5_finds 158 = .ok (.iload_n 3, 1) := by decide +kernel
theorem dX5_finds_159 : decode cX5_finds 159 = .ok (.iaload, 1) := by decide +kernel
theorem dX5_finds_160 : decode cX5_finds 160 = .ok (.iastore, 1) := by decide +kernel
theorem dX5_finds_161 : decode cX5_finds 161 = .ok (.iinc 3 1, 3) := by decide +kernel
theorem dX5_finds_164 : decode cX5_finds 164 = .ok (.goto (-50), 3) := by decide +kernel
theorem dX5_finds_167 : decode cX5_finds 167 = .ok (.goto (-107), 3) := by decide +kernel
theorem dX5_finds_170 : decode cX5_finds 170 = .ok (.iconst 0, 1) := by decide +kernel
theorem dX5_finds_171 : decode cX5_finds 171 = .ok (.istore_n 3, 1) := by decide +kernel
theorem dX5_finds_172 : decode cX5_finds 172 = .ok (.iconst 0, 1) := by decide +kernel
theorem dX5_finds_173 : decode cX5_finds 173 = .ok (.istore 4, 2) := by decide +kernel
theorem dX5_finds_175 : decode cX5_finds 175 = .ok (.iload 4, 2) := by decide +kernel
theorem dX5_finds_177 : decode cX5_finds 177 = .ok (.aload_n 0, 1) := by decide +kernel
theorem dX5_finds_178 : decode cX5_finds 178 = .ok (.getfield 7, 3) := by decide +kernel
theorem dX5_finds_181 : decode cX5_finds 181 = .ok (.iload_n 1, 1) := by decide +kernel
theorem dX5_finds_182 : decode cX5_finds 182 = .ok (.iaload, 1) := by decide +kernel
theorem dX5_finds_183 : decode cX5_finds 183 = .ok (.if_icmp .ge 53, 3) := by decide +kernel
theorem dX5_finds_186 : decode cX5_finds 186 = .ok (.aload_n 0, 1) := by decide +kernel
theorem dX5_finds_187 : decode cX5_finds 187 = .ok (.getfield 39, 3) := by decide +kernel
theorem dX5_finds_190 : decode cX5_finds 190 = .ok (.iload 4, 2) := by decide +kernel
theorem dX5_finds_192 : decode cX5_finds 192 = .ok (.iaload, 1) := by decide +kernel
theorem dX5_finds_193 : decode cX5_finds 193 = .ok (.istore 5, 2) := by decide +kernel
theorem dX5_finds_195 : decode cX5_finds 195 = .ok (.aload_n 0, 1) := by decide +kernel
theorem dX5_finds_196 : decode cX5_finds 196 = .ok (.getfield 39, 3) := by decide +kernel
theorem dX5_finds_199 : decode cX5_finds 199 = .ok (.iload 4, 2) := by decide +kernel
theorem dX5_finds_201 : decode cX5_finds 201 = .ok (.iload 5, 2) := by decide +kernel
theorem dX5_finds_203 : decode cX5_finds 203 = .ok (.iload 4, 2) := by decide +kernel
theorem dX5_finds_205 : decode cX5_finds 205 = .ok (.if_icmp .ne 7, 3) := by decide +kernel
theorem dX5_finds_208 : decode cX5_finds 208 = .ok (.iload_n 3, 1) := by decide +kernel
theorem dX5_finds_209 : decode cX5_finds 209 = .ok (.goto 10, 3) := by decide +kernel
theorem dX5_finds_212 : decode cX5_finds 212 = .ok (.aload_n 0, 1) := by decide +kernel
theorem dX5_finds_213 : decode cX5_finds 213 = .ok (.getfield 39, 3) := by decide +kernel
theorem dX5_finds_216 : decode cX5_finds 216 = .ok (.iload 5, 2) := by decide +kernel
theorem dX5_finds_218 : decode cX5_finds 218 = .ok (.iaload, 1) := by decide +kernel
theorem dX5_finds_219 : decode cX5_finds 219 = .ok (.iastore, 1) := by decide +kernel
theorem dX5_finds_220 : decode cX5_finds 220 = .ok (.iload 5, 2) := by decide +kernel
theorem dX5_finds_222 : decode cX5_finds 222 = .ok (.iload 4, 2) := by decide +kernel
theorem dX5_finds_224 : decode cX5_finds 224 = .ok (.if_icmp .ne 6, 3) := by decide +kernel
theorem dX5_finds_227 : decode cX5_finds 227 = .ok (.iinc 3 1, 3) := by decide +kernel
theorem dX5_finds_230 : decode cX5_finds 230 = .ok (.iinc 4 1, 3) := by decide +kernel
theorem dX5_finds_233 : decode cX5_finds 233 = .ok (.goto (-58), 3) := by decide +kernel
theorem dX5_finds_236 : decode cX5_finds 236 = .ok (.iload_n 3, 1) := by decide +kernel
theorem dX5_finds_237 : decode cX5_finds 237 = .ok (.ireturn, 1) := by decide +kernel
set_option maxRecDepth 20000 in
theorem ggX5_alike_X5_isNet : GoodIn wsX5_alike wsX5_isNet := goodIn_r _ [7, 8, 9, 10, 11, 12, 6, 13, 30, 31, 32, 33, 34, 35, 36, 37, 38, 39, 40, 41, 42, 43] (by decide +kernel) (by decide +kernel)
set_option maxRecDepth 20000 in
theorem gX5_alike_X5_isNet : GoodIn wsX5_alike (wsV RX5 56 RX5 yX5_isNet wsX5_isNet) := goodIn_app (goodIn_of _ (by decide +kernel)) ggX5_alike_X5_isNet
set_option maxRecDepth 20000 in
theorem ggX5_alike_X5_right : GoodIn wsX5_alike wsX5_right := goodIn_r _ [13, 8, 30, 31, 32, 33, 34, 35, 36, 37, 38, 39, 40, 41, 42, 43] (by decide +kernel) (by decide +kernel)
set_option maxRecDepth 20000 in
theorem gX5_alike_X5_right : GoodIn wsX5_alike (wsV RX5 52 RX5 yX5_right wsX5_right) := goodIn_app (goodIn_of _ (by decide +kernel)) ggX5_alike_X5_right
set_option maxRecDepth 20000 in
theorem ggX5_alike_X5_finds : GoodIn wsX5_alike wsX5_finds := goodIn_r _ [17, 1, 18, 2, 19, 20, 21, 22, 6, 23, 24, 25, 26, 27, 28, 29, 30, 31, 32, 33, 34, 35, 36, 37, 38, 39, 40, 41, 42, 43] (by decide +kernel) (by decide +kernel)
set_option maxRecDepth 20000 in
theorem gX5_alike_X5_finds : GoodIn wsX5_alike (wsV RX5 71 RX5 yX5_finds wsX5_finds) := goodIn_app (goodIn_of _ (by decide +kernel)) ggX5_alike_X5_finds
theorem dX5_alike_0 : decode cX5_alike 0 = .ok (.aload_n 0, 1) := by decide +kernel
theorem dX5_alike_1 : decode cX5_alike 1 = .ok (.iload_n 1, 1) := by decide +kernel
theorem dX5_alike_2 : decode cX5_alike 2 = .ok (.invokevirtual 56, 3) := by decide +kernel
theorem dX5_alike_5 : decode cX5_alike 5 = .ok (.ifCond .eq 31, 3) := by decide +kernel
theorem dX5_alike_8 : decode cX5_alike 8 = .ok (.aload_n 0, 1) := by decide +kernel
theorem dX5_alike_9 : decode cX5_alike 9 = .ok (.iload_n 2, 1) := by decide +kernel
theorem dX5_alike_10 : decode cX5_alike 10 = .ok (.iconst (-1), 1) := by decide +kernel
theorem dX5_alike_11 : decode cX5_alike 11 = .ok (.if_icmp .lt 17, 3) := by decide +kernel
theorem dX5_alike_14 : decode cX5_alike 14 = .ok (.iload_n 2, 1) := by decide +kernel
theorem dX5_alike_15 : decode cX5_alike 15 = .ok (.aload_n 0, 1) := by decide +kernel
theorem dX5_alike_16 : decode cX5_alike 16 = .ok (.getfield 7, 3) := by decide +kernel
theorem dX5_alike_19 : decode cX5_alike 19 = .ok (.iload_n 1, 1) := by decide +kernel
theorem dX5_alike_20 : decode cX5_alike 20 = .ok (.iaload, 1) := by decide +kernel
theorem dX5_alike_21 : decode cX5_alike 21 = .ok (.if_icmp .ge 7, 3) := by decide +kernel
theorem dX5_alike_24 : decode cX5_alike 24 = .ok (.iconst 1, 1) := by decide +kernel
theorem dX5_alike_25 : decode cX5_alike 25 = .ok (.goto 4, 3) := by decide +kernel
theorem dX5_alike_28 : decode cX5_alike 28 = .ok (.iconst 0, 1) := by decide +kernel
theorem dX5_alike_29 : decode cX5_alike 29 = .ok (.iconst 1, 1) := by decide +kernel
theorem dX5_alike_30 : decode cX5_alike 30 = .ok (.invokevirtual 52, 3) := by decide +kernel
theorem dX5_alike_33 : decode cX5_alike 33 = .ok (.ifCond .ne 5, 3) := by decide +kernel
theorem dX5_alike_36 : decode cX5_alike 36 = .ok (.iconst 0, 1) := by decide +kernel
theorem dX5_alike_37 : decode cX5_alike 37 = .ok (.ireturn, 1) := by decide +kernel
theorem dX5_alike_38 : decode cX5_alike 38 = .ok (.aload_n 0, 1) := by decide +kernel
theorem dX5_alike_39 : decode cX5_alike 39 = .ok (.iload_n 1, 1) := by decide +kernel
theorem dX5_alike_40 : decode cX5_alike 40 = .ok (.invokevirtual 71, 3) := by decide +kernel
theorem dX5_alike_43 : decode cX5_alike 43 = .ok (.istore_n 3, 1) := by decide +kernel
theorem dX5_alike_44 : decode cX5_alike 44 = .ok (.iload_n 2, 1) := by decide +kernel
theorem dX5_alike_45 : decode cX5_alike 45 = .ok (.iconst (-1), 1) := by decide +kernel
theorem dX5_alike_46 : decode cX5_alike 46 = .ok (.if_icmp .ne 7, 3) := by decide +kernel
theorem dX5_alike_49 : decode cX5_alike 49 = .ok (.iload_n 3, 1) := by decide +kernel
theorem dX5_alike_50 : decode cX5_alike 50 = .ok (.goto 9, 3) := by decide +kernel
theorem dX5_alike_53 : decode cX5_alike 53 = .ok (.aload_n 0, 1) := by decide +kernel
theorem dX5_alike_54 : decode cX5_alike 54 = .ok (.getfield 39, 3) := by decide +kernel
theorem dX5_alike_57 : decode cX5_alike 57 = .ok (.iload_n 2, 1) := by decide +kernel
theorem dX5_alike_58 : decode cX5_alike 58 = .ok (.iaload, 1) := by decide +kernel
theorem dX5_alike_59 : decode cX5_alike 59 = .ok (.ireturn, 1) := by decide +kernel
set_option maxRecDepth 20000 in
theorem ggX5_isWalk_X5_right : GoodIn wsX5_isWalk wsX5_right := goodIn_r _ [7, 1, 8, 9, 10, 11, 12, 13, 14, 15, 16, 17, 18, 19, 20, 21] (by decide +kernel) (by decide +kernel)
set_option maxRecDepth 20000 in
theorem gX5_isWalk_X5_right : GoodIn wsX5_isWalk (wsV RX5 52 RX5 yX5_right wsX5_right) := goodIn_app (goodIn_of _ (by decide +kernel)) ggX5_isWalk_X5_right
theorem dX5_isWalk_0 : decode cX5_isWalk 0 = .ok (.aload_n 0, 1) := by decide +kernel
theorem dX5_isWalk_1 : decode cX5_isWalk 1 = .ok (.iconst 0, 1) := by decide +kernel
theorem dX5_isWalk_2 : decode cX5_isWalk 2 = .ok (.putfield 45, 3) := by decide +kernel
theorem dX5_isWalk_5 : decode cX5_isWalk 5 = .ok (.aload_n 0, 1) := by decide +kernel
theorem dX5_isWalk_6 : decode cX5_isWalk 6 = .ok (.iload_n 1, 1) := by decide +kernel
theorem dX5_isWalk_7 : decode cX5_isWalk 7 = .ok (.ifCond .lt 15, 3) := by decide +kernel
theorem dX5_isWalk_10 : decode cX5_isWalk 10 = .ok (.iload_n 1, 1) := by decide +kernel
theorem dX5_isWalk_11 : decode cX5_isWalk 11 = .ok (.aload_n 0, 1) := by decide +kernel
theorem dX5_isWalk_12 : decode cX5_isWalk 12 = .ok (.getfield 75, 3) := by decide +kernel
theorem dX5_isWalk_15 : decode cX5_isWalk 15 = .ok (.if_icmp .ge 7, 3) := by decide +kernel
theorem dX5_isWalk_18 : decode cX5_isWalk 18 = .ok (.iconst 1, 1) := by decide +kernel
theorem dX5_isWalk_19 : decode cX5_isWalk 19 = .ok (.goto 4, 3) := by decide +kernel
theorem dX5_isWalk_22 : decode cX5_isWalk 22 = .ok (.iconst 0, 1) := by decide +kernel
theorem dX5_isWalk_23 : decode cX5_isWalk 23 = .ok (.iconst 1, 1) := by decide +kernel
theorem dX5_isWalk_24 : decode cX5_isWalk 24 = .ok (.invokevirtual 52, 3) := by decide +kernel
theorem dX5_isWalk_27 : decode cX5_isWalk 27 = .ok (.ireturn, 1) := by decide +kernel
set_option maxRecDepth 20000 in
theorem ggX5_isIn_X5_right : GoodIn wsX5_isIn wsX5_right := goodIn_r _ [7, 8, 9, 10, 11, 12, 13, 14, 15, 16, 17, 18, 19, 20, 21, 22] (by decide +kernel) (by decide +kernel)
set_option maxRecDepth 20000 in
theorem gX5_isIn_X5_right : GoodIn wsX5_isIn (wsV RX5 52 RX5 yX5_right wsX5_right) := goodIn_app (goodIn_of _ (by decide +kernel)) ggX5_isIn_X5_right
theorem dX5_isIn_0 : decode cX5_isIn 0 = .ok (.aload_n 0, 1) := by decide +kernel
theorem dX5_isIn_1 : decode cX5_isIn 1 = .ok (.iload_n 2, 1) := by decide +kernel
theorem dX5_isIn_2 : decode cX5_isIn 2 = .ok (.ifCond .lt 22, 3) := by decide +kernel
theorem dX5_isIn_5 : decode cX5_isIn 5 = .ok (.iload_n 2, 1) := by decide +kernel
theorem dX5_isIn_6 : decode cX5_isIn 6 = .ok (.aload_n 0, 1) := by decide +kernel
theorem dX5_isIn_7 : decode cX5_isIn 7 = .ok (.getfield 7, 3) := by decide +kernel
theorem dX5_isIn_10 : decode cX5_isIn 10 = .ok (.aload_n 0, 1) := by decide +kernel
theorem dX5_isIn_11 : decode cX5_isIn 11 = .ok (.getfield 26, 3) := by decide +kernel
theorem dX5_isIn_14 : decode cX5_isIn 14 = .ok (.iload_n 1, 1) := by decide +kernel
theorem dX5_isIn_15 : decode cX5_isIn 15 = .ok (.iaload, 1) := by decide +kernel
theorem dX5_isIn_16 : decode cX5_isIn 16 = .ok (.iaload, 1) := by decide +kernel
theorem dX5_isIn_17 : decode cX5_isIn 17 = .ok (.if_icmp .ge 7, 3) := by decide +kernel
theorem dX5_isIn_20 : decode cX5_isIn 20 = .ok (.iconst 1, 1) := by decide +kernel
theorem dX5_isIn_21 : decode cX5_isIn 21 = .ok (.goto 4, 3) := by decide +kernel
theorem dX5_isIn_24 : decode cX5_isIn 24 = .ok (.iconst 0, 1) := by decide +kernel
theorem dX5_isIn_25 : decode cX5_isIn 25 = .ok (.iconst 1, 1) := by decide +kernel
theorem dX5_isIn_26 : decode cX5_isIn 26 = .ok (.invokevirtual 52, 3) := by decide +kernel
theorem dX5_isIn_29 : decode cX5_isIn 29 = .ok (.ireturn, 1) := by decide +kernel
set_option maxRecDepth 20000 in
theorem ggX5_walk_X5_isNet : GoodIn wsX5_walk wsX5_isNet := goodIn_r _ [8, 9, 10, 11, 12, 13, 7, 14, 15, 16, 17, 18, 19, 20, 21, 22, 23, 24, 25, 26, 27, 28] (by decide +kernel) (by decide +kernel)
set_option maxRecDepth 20000 in
theorem gX5_walk_X5_isNet : GoodIn wsX5_walk (wsV RX5 56 RX5 yX5_isNet wsX5_isNet) := goodIn_app (goodIn_of _ (by decide +kernel)) ggX5_walk_X5_isNet
theorem dX5_walk_0 : decode cX5_walk 0 = .ok (.aload_n 0, 1) := by decide +kernel
theorem dX5_walk_1 : decode cX5_walk 1 = .ok (.iload_n 1, 1) := by decide +kernel
theorem dX5_walk_2 : decode cX5_walk 2 = .ok (.invokevirtual 56, 3) := by decide +kernel
theorem dX5_walk_5 : decode cX5_walk 5 = .ok (.ifCond .ne 5, 3) := by decide +kernel
theorem dX5_walk_8 : decode cX5_walk 8 = .ok (.iconst 0, 1) := by decide +kernel
theorem dX5_walk_9 : decode cX5_walk 9 = .ok (.ireturn, 1) := by decide +kernel
theorem dX5_walk_10 : decode cX5_walk 10 = .ok (.aload_n 0, 1) := by decide +kernel
theorem dX5_walk_11 : decode cX5_walk 11 = .ok (.getfield 75, 3) := by decide +kernel
theorem dX5_walk_14 : decode cX5_walk 14 = .ok (.bipush 12, 2) := by decide +kernel
theorem dX5_walk_16 : decode cX5_walk 16 = .ok (.if_icmp .ne 5, 3) := by decide +kernel
theorem dX5_walk_19 : decode cX5_walk 19 = .ok (.iconst (-1), 1) := by decide +kernel
theorem dX5_walk_20 : decode cX5_walk 20 = .ok (.ireturn, 1) := by decide +kernel
theorem dX5_walk_21 : decode cX5_walk 21 = .ok (.aload_n 0, 1) := by decide +kernel
theorem dX5_walk_22 : decode cX5_walk 22 = .ok (.getfield 26, 3) := by decide +kernel
theorem dX5_walk_25 : decode cX5_walk 25 = .ok (.aload_n 0, 1) := by decide +kernel
theorem dX5_walk_26 : decode cX5_walk 26 = .ok (.getfield 75, 3) := by decide +kernel
theorem dX5_walk_29 : decode cX5_walk 29 = .ok (.iload_n 1, 1) := by decide +kernel
theorem dX5_walk_30 : decode cX5_walk 30 = .ok (.iastore, 1) := by decide +kernel
theorem dX5_walk_31 : decode cX5_walk 31 = .ok (.aload_n 0, 1) := by decide +kernel
theorem dX5_walk_32 : decode cX5_walk 32 = .ok (.getfield 23, 3) := by decide +kernel
theorem dX5_walk_35 : decode cX5_walk 35 = .ok (.iload_n 1, 1) := by decide +kernel
theorem dX5_walk_36 : decode cX5_walk 36 = .ok (.iconst 1, 1) := by decide +kernel
theorem dX5_walk_37 : decode cX5_walk 37 = .ok (.bastore, 1) := by decide +kernel
theorem dX5_walk_38 : decode cX5_walk 38 = .ok (.aload_n 0, 1) := by decide +kernel
theorem dX5_walk_39 : decode cX5_walk 39 = .ok (.dup, 1) := by decide +kernel
theorem dX5_walk_40 : decode cX5_walk 40 = .ok (.getfield 75, 3) := by decide +kernel
theorem dX5_walk_43 : decode cX5_walk 43 = .ok (.iconst 1, 1) := by decide +kernel
theorem dX5_walk_44 : decode cX5_walk 44 = .ok (.iadd, 1) := by decide +kernel
theorem dX5_walk_45 : decode cX5_walk 45 = .ok (.putfield 75, 3) := by decide +kernel
theorem dX5_walk_48 : decode cX5_walk 48 = .ok (.aload_n 0, 1) := by decide +kernel
theorem dX5_walk_49 : decode cX5_walk 49 = .ok (.getfield 75, 3) := by decide +kernel
theorem dX5_walk_52 : decode cX5_walk 52 = .ok (.iconst 1, 1) := by decide +kernel
theorem dX5_walk_53 : decode cX5_walk 53 = .ok (.isub, 1) := by decide +kernel
theorem dX5_walk_54 : decode cX5_walk 54 = .ok (.ireturn, 1) := by decide +kernel
theorem dX5_scale_0 : decode cX5_scale 0 = .ok (.aload_n 0, 1) := by decide +kernel
theorem dX5_scale_1 : decode cX5_scale 1 = .ok (.getfield 13, 3) := by decide +kernel
theorem dX5_scale_4 : decode cX5_scale 4 = .ok (.aload_n 0, 1) := by decide +kernel
theorem dX5_scale_5 : decode cX5_scale 5 = .ok (.getfield 26, 3) := by decide +kernel
theorem dX5_scale_8 : decode cX5_scale 8 = .ok (.iload_n 1, 1) := by decide +kernel
theorem dX5_scale_9 : decode cX5_scale 9 = .ok (.iaload, 1) := by decide +kernel
theorem dX5_scale_10 : decode cX5_scale 10 = .ok (.iaload, 1) := by decide +kernel
theorem dX5_scale_11 : decode cX5_scale 11 = .ok (.istore_n 2, 1) := by decide +kernel
theorem dX5_scale_12 : decode cX5_scale 12 = .ok (.iload_n 2, 1) := by decide +kernel
theorem dX5_scale_13 : decode cX5_scale 13 = .ok (.iconst 2, 1) := by decide +kernel
theorem dX5_scale_14 : decode cX5_scale 14 = .ok (.if_icmp .ne 7, 3) := by decide +kernel
theorem dX5_scale_17 : decode cX5_scale 17 = .ok (.iconst 2, 1) := by decide +kernel
theorem dX5_scale_18 : decode cX5_scale 18 = .ok (.goto 14, 3) := by decide +kernel
theorem dX5_scale_21 : decode cX5_scale 21 = .ok (.iload_n 2, 1) := by decide +kernel
theorem dX5_scale_22 : decode cX5_scale 22 = .ok (.iconst 3, 1) := by decide +kernel
theorem dX5_scale_23 : decode cX5_scale 23 = .ok (.if_icmp .ne 8, 3) := by decide +kernel
theorem dX5_scale_26 : decode cX5_scale 26 = .ok (.bipush 9, 2) := by decide +kernel
theorem dX5_scale_28 : decode cX5_scale 28 = .ok (.goto 4, 3) := by decide +kernel
theorem dX5_scale_31 : decode cX5_scale 31 = .ok (.iconst 4, 1) := by decide +kernel
theorem dX5_scale_32 : decode cX5_scale 32 = .ok (.ireturn, 1) := by decide +kernel
theorem dX5_isSmall_0 : decode cX5_isSmall 0 = .ok (.lload_n 0, 1) := by decide +kernel
theorem dX5_isSmall_1 : decode cX5_isSmall 1 = .ok (.ldc2_w 78, 3) := by decide +kernel
theorem dX5_isSmall_4 : decode cX5_isSmall 4 = .ok (.lcmp, 1) := by decide +kernel
theorem dX5_isSmall_5 : decode cX5_isSmall 5 = .ok (.ifCond .lt 15, 3) := by decide +kernel
theorem dX5_isSmall_8 : decode cX5_isSmall 8 = .ok (.lload_n 0, 1) := by decide +kernel
theorem dX5_isSmall_9 : decode cX5_isSmall 9 = .ok (.ldc2_w 80, 3) := by decide +kernel
theorem dX5_isSmall_12 : decode cX5_isSmall 12 = .ok (.lcmp, 1) := by decide +kernel
theorem dX5_isSmall_13 : decode cX5_isSmall 13 = .ok (.ifCond .gt 7, 3) := by decide +kernel
theorem dX5_isSmall_16 : decode cX5_isSmall 16 = .ok (.iconst 1, 1) := by decide +kernel
theorem dX5_isSmall_17 : decode cX5_isSmall 17 = .ok (.goto 4, 3) := by decide +kernel
theorem dX5_isSmall_20 : decode cX5_isSmall 20 = .ok (.iconst 0, 1) := by decide +kernel
theorem dX5_isSmall_21 : decode cX5_isSmall 21 = .ok (.ireturn, 1) := by decide +kernel
set_option maxRecDepth 20000 in
theorem ggX5_set_X5_isWalk : GoodIn wsX5_set wsX5_isWalk := goodIn_r _ [8, 9, 10, 11, 12, 13, 7, 14, 26, 27, 28, 29, 30, 31, 32, 33, 34, 35, 36, 37, 38, 39] (by decide +kernel) (by decide +kernel)
set_option maxRecDepth 20000 in
theorem gX5_set_X5_isWalk : GoodIn wsX5_set (wsV RX5 82 RX5 yX5_isWalk wsX5_isWalk) := goodIn_app (goodIn_of _ (by decide +kernel)) ggX5_set_X5_isWalk
set_option maxRecDepth 20000 in
theorem ggX5_set_X5_isDoor : GoodIn wsX5_set wsX5_isDoor := goodIn_r _ [18, 19, 20, 11, 12, 13, 7, 14, 9, 26, 27, 28, 29, 30, 31, 32, 33, 34, 35, 36, 37, 38, 39] (by decide +kernel) (by decide +kernel)
set_option maxRecDepth 20000 in
theorem gX5_set_X5_isDoor : GoodIn wsX5_set (wsV RX5 60 RX5 yX5_isDoor wsX5_isDoor) := goodIn_app (goodIn_of _ (by decide +kernel)) ggX5_set_X5_isDoor
set_option maxRecDepth 20000 in
theorem ggX5_set_X5_isSmall : GoodIn wsX5_set wsX5_isSmall := goodIn_r _ [23, 24, 25] (by decide +kernel) (by decide +kernel)
set_option maxRecDepth 20000 in
theorem gX5_set_X5_isSmall : GoodIn wsX5_set (va_wsS RX5 85 yX5_isSmall wsX5_isSmall) := goodIn_app (goodIn_of _ (by decide +kernel)) ggX5_set_X5_isSmall
set_option maxRecDepth 20000 in
theorem ggX5_set_X5_right : GoodIn wsX5_set wsX5_right := goodIn_r _ [14, 9, 26, 27, 28, 29, 30, 31, 32, 33, 34, 35, 36, 37, 38, 39] (by decide +kernel) (by decide +kernel)
set_option maxRecDepth 20000 in
theorem gX5_set_X5_right : GoodIn wsX5_set (wsV RX5 52 RX5 yX5_right wsX5_right) := goodIn_app (goodIn_of _ (by decide +kernel)) ggX5_set_X5_right
theorem dX5_set_0 : decode cX5_set 0 = .ok (.aload_n 0, 1) := by decide +kernel
theorem dX5_set_1 : decode cX5_set 1 = .ok (.iload_n 1, 1) := by decide +kernel
theorem dX5_set_2 : decode cX5_set 2 = .ok (.invokevirtual 82, 3) := by decide +kernel
theorem dX5_set_5 : decode cX5_set 5 = .ok (.ifCond .eq 32, 3) := by decide +kernel
theorem dX5_set_8 : decode cX5_set 8 = .ok (.aload_n 0, 1) := by decide +kernel
theorem dX5_set_9 : decode cX5_set 9 = .ok (.aload_n 0, 1) := by decide +kernel
theorem dX5_set_10 : decode cX5_set 10 = .ok (.getfield 26, 3) := by decide +kernel
theorem dX5_set_13 : decode cX5_set 13 = .ok (.iload_n 1, 1) := by decide +kernel
theorem dX5_set_14 : decode cX5_set 14 = .ok (.iaload, 1) := by decide +kernel
theorem dX5_set_15 : decode cX5_set 15 = .ok (.iload_n 2, 1) := by decide +kernel
theorem dX5_set_16 : decode cX5_set 16 = .ok (.iload_n 3, 1) := by decide +kernel
theorem dX5_set_17 : decode cX5_set 17 = .ok (.invokevirtual 60, 3) := by decide +kernel
theorem dX5_set_20 : decode cX5_set 20 = .ok (.ifCond .eq 17, 3) := by decide +kernel
theorem dX5_set_23 : decode cX5_set 23 = .ok (.aload_n 0, 1) := by decide +kernel
theorem dX5_set_24 : decode cX5_set 24 = .ok (.iload 4, 2) := by decide +kernel
theorem dX5_set_26 : decode cX5_set 26 = .ok (.i2l, 1) := by decide +kernel
theorem dX5_set_27 : decode cX5_set 27 = .ok (.invokestatic 85, 3) := by decide +kernel
theorem dX5_set_30 : decode cX5_set 30 = .ok (.iconst 2, 1) := by decide +kernel
theorem dX5_set_31 : decode cX5_set 31 = .ok (.invokevirtual 52, 3) := by decide +kernel
theorem dX5_set_34 : decode cX5_set 34 = .ok (.ifCond .ne 5, 3) := by decide +kernel
theorem dX5_set_37 : decode cX5_set 37 = .ok (.iconst 0, 1) := by decide +kernel
theorem dX5_set_38 : decode cX5_set 38 = .ok (.ireturn, 1) := by decide +kernel
theorem dX5_set_39 : decode cX5_set 39 = .ok (.iconst 0, 1) := by decide +kernel
theorem dX5_set_40 : decode cX5_set 40 = .ok (.istore 5, 2) := by decide +kernel
theorem dX5_set_42 : decode cX5_set 42 = .ok (.iload 5, 2) := by decide +kernel
theorem dX5_set_44 : decode cX5_set 44 = .ok (.bipush 48, 2) := by decide +kernel
theorem dX5_set_46 : decode cX5_set 46 = .ok (.if_icmp .ge 39, 3) := by decide +kernel
theorem dX5_set_49 : decode cX5_set 49 = .ok (.iload 5, 2) := by decide +kernel
theorem dX5_set_51 : decode cX5_set 51 = .ok (.iconst 4, 1) := by decide +kernel
theorem dX5_set_52 : decode cX5_set 52 = .ok (.iload_n 2, 1) := by decide +kernel
theorem dX5_set_53 : decode cX5_set 53 = .ok (.imul, 1) := by decide +kernel
theorem dX5_set_54 : decode cX5_set 54 = .ok (.iload_n 3, 1) := by decide +kernel
theorem dX5_set_55 : decode cX5_set 55 = .ok (.iadd, 1) := by decide +kernel
theorem dX5_set_56 : decode cX5_set 56 = .ok (.if_icmp .eq 23, 3) := by decide +kernel
theorem dX5_set_59 : decode cX5_set 59 = .ok (.aload_n 0, 1) := by decide +kernel
theorem dX5_set_60 : decode cX5_set 60 = .ok (.getfield 32, 3) := by decide +kernel
theorem dX5_set_63 : decode cX5_set 63 = .ok (.bipush 48, 2) := by decide +kernel
theorem dX5_set_65 : decode cX5_set 65 = .ok (.iload_n 1, 1) := by decide +kernel
theorem dX5_set_66 : decode cX5_set 66 = .ok (.imul, 1) := by decide +kernel
theorem dX5_set_67 : decode cX5_set 67 = .ok (.iload 5, 2) := by decide +kernel
theorem dX5_set_69 : decode cX5_set 69 = .ok (.iadd, 1) := by decide +kernel
theorem dX5_set_70 : decode cX5_set 70 = .ok (.laload, 1) := by decide +kernel
theorem dX5_set_71 : decode cX5_set 71 = .ok (.invokestatic 85, 3) := by decide +kernel
theorem dX5_set_74 : decode cX5_set 74 = .ok (.ifCond .ne 5, 3) := by decide +kernel
theorem dX5_set_77 : decode cX5_set 77 = .ok (.iconst 0, 1) := by decide +kernel
theorem dX5_set_78 : decode cX5_set 78 = .ok (.ireturn, 1) := by decide +kernel
theorem dX5_set_79 : decode cX5_set 79 = .ok (.iinc 5 1, 3) := by decide +kernel
theorem dX5_set_82 : decode cX5_set 82 = .ok (.goto (-40), 3) := by decide +kernel
theorem dX5_set_85 : decode cX5_set 85 = .ok (.aload_n 0, 1) := by decide +kernel
theorem dX5_set_86 : decode cX5_set 86 = .ok (.getfield 32, 3) := by decide +kernel
theorem dX5_set_89 : decode cX5_set 89 = .ok (.bipush 48, 2) := by decide +kernel
theorem dX5_set_91 : decode cX5_set 91 = .ok (.iload_n 1, 1) := by decide +kernel
theorem dX5_set_92 : decode cX5_set 92 = .ok (.imul, 1) := by decide +kernel
theorem dX5_set_93 : decode cX5_set 93 = .ok (.iconst 4, 1) := by decide +kernel
theorem dX5_set_94 : decode cX5_set 94 = .ok (.iload_n 2, 1) := by decide +kernel
theorem dX5_set_95 : decode cX5_set 95 = .ok (.imul, 1) := by decide +kernel
theorem dX5_set_96 : decode cX5_set 96 = .ok (.iadd, 1) := by decide +kernel
theorem dX5_set_97 : decode cX5_set 97 = .ok (.iload_n 3, 1) := by decide +kernel
theorem dX5_set_98 : decode cX5_set 98 = .ok (.iadd, 1) := by decide +kernel
theorem dX5_set_99 : decode cX5_set 99 = .ok (.iload 4, 2) := by decide +kernel
theorem dX5_set_101 : decode cX5_set 101 = .ok (.i2l, 1) := by decide +kernel
theorem dX5_set_102 : decode cX5_set 102 = .ok (.lastore, 1) := by decide +kernel
theorem dX5_set_103 : decode cX5_set 103 = .ok (.aload_n 0, 1) := by decide +kernel
theorem dX5_set_104 : decode cX5_set 104 = .ok (.getfield 29, 3) := by decide +kernel
theorem dX5_set_107 : decode cX5_set 107 = .ok (.iload_n 1, 1) := by decide +kernel
theorem dX5_set_108 : decode cX5_set 108 = .ok (.iconst 0, 1) := by decide +kernel
theorem dX5_set_109 : decode cX5_set 109 = .ok (.iastore, 1) := by decide +kernel
theorem dX5_set_110 : decode cX5_set 110 = .ok (.iconst 1, 1) := by decide +kernel
theorem dX5_set_111 : decode cX5_set 111 = .ok (.ireturn, 1) := by decide +kernel
set_option maxRecDepth 20000 in
theorem ggX5_spread_X5_isWalk : GoodIn wsX5_spread wsX5_isWalk := goodIn_r _ [10, 11, 12, 13, 14, 15, 9, 16, 22, 23, 24, 25, 26, 27, 28, 29, 30, 31, 32, 33, 34, 35] (by decide +kernel) (by decide +kernel)
set_option maxRecDepth 20000 in
theorem gX5_spread_X5_isWalk : GoodIn wsX5_spread (wsV RX5 82 RX5 yX5_isWalk wsX5_isWalk) := goodIn_app (goodIn_of _ (by decide +kernel)) ggX5_spread_X5_isWalk
set_option maxRecDepth 20000 in
theorem ggX5_spread_X5_isSmall : GoodIn wsX5_spread wsX5_isSmall := goodIn_r _ [19, 20, 21] (by decide +kernel) (by decide +kernel)
set_option maxRecDepth 20000 in
theorem gX5_spread_X5_isSmall : GoodIn wsX5_spread (va_wsS RX5 85 yX5_isSmall wsX5_isSmall) := goodIn_app (goodIn_of _ (by decide +kernel)) ggX5_spread_X5_isSmall
set_option maxRecDepth 20000 in
theorem ggX5_spread_X5_right : GoodIn wsX5_spread wsX5_right := goodIn_r _ [16, 11, 22, 23, 24, 25, 26, 27, 28, 29, 30, 31, 32, 33, 34, 35] (by decide +kernel) (by decide +kernel)
set_option maxRecDepth 20000 in
theorem gX5_spread_X5_right : GoodIn wsX5_spread (wsV RX5 52 RX5 yX5_right wsX5_right) := goodIn_app (goodIn_of _ (by decide +kernel)) ggX5_spread_X5_right
theorem dX5_spread_0 : decode cX5_spread 0 = .ok (.aload_n 0, 1) := by decide +kernel
theorem dX5_spread_1 : decode cX5_spread 1 = .ok (.iload_n 1, 1) := by decide +kernel
theorem dX5_spread_2 : decode cX5_spread 2 = .ok (.invokevirtual 82, 3) := by decide +kernel
theorem dX5_spread_5 : decode cX5_spread 5 = .ok (.ifCond .eq 16, 3) := by decide +kernel
theorem dX5_spread_8 : decode cX5_spread 8 = .ok (.aload_n 0, 1) := by decide +kernel
theorem dX5_spread_9 : decode cX5_spread 9 = .ok (.iload_n 2, 1) := by decide +kernel
theorem dX5_spread_10 : decode cX5_spread 10 = .ok (.i2l, 1) := by decide +kernel
theorem dX5_spread_11 : decode cX5_spread 11 = .ok (.invokestatic 85, 3) := by decide +kernel
theorem dX5_spread_14 : decode cX5_spread 14 = .ok (.iconst 2, 1) := by decide +kernel
theorem dX5_spread_15 : decode cX5_spread 15 = .ok (.invokevirtual 52, 3) := by decide +kernel
theorem dX5_spread_18 : decode cX5_spread 18 = .ok (.ifCond .ne 4, 3) := by decide +kernel
theorem dX5_spread_21 : decode cX5_spread 21 = .ok (.return_, 1) := by decide +kernel
theorem dX5_spread_22 : decode cX5_spread 22 = .ok (.iconst 0, 1) := by decide +kernel
theorem dX5_spread_23 : decode cX5_spread 23 = .ok (.istore_n 3, 1) := by decide +kernel
theorem dX5_spread_24 : decode cX5_spread 24 = .ok (.iload_n 3, 1) := by decide +kernel
theorem dX5_spread_25 : decode cX5_spread 25 = .ok (.aload_n 0, 1) := by decide +kernel
theorem dX5_spread_26 : decode cX5_spread 26 = .ok (.getfield 7, 3) := by decide +kernel
theorem dX5_spread_29 : decode cX5_spread 29 = .ok (.aload_n 0, 1) := by decide +kernel
theorem dX5_spread_30 : decode cX5_spread 30 = .ok (.getfield 26, 3) := by decide +kernel
theorem dX5_spread_33 : decode cX5_spread 33 = .ok (.iload_n 1, 1) := by decide +kernel
theorem dX5_spread_34 : decode cX5_spread 34 = .ok (.iaload, 1) := by decide +kernel
theorem dX5_spread_35 : decode cX5_spread 35 = .ok (.iaload, 1) := by decide +kernel
theorem dX5_spread_36 : decode cX5_spread 36 = .ok (.if_icmp .ge 52, 3) := by decide +kernel
theorem dX5_spread_39 : decode cX5_spread 39 = .ok (.iconst 0, 1) := by decide +kernel
theorem dX5_spread_40 : decode cX5_spread 40 = .ok (.istore 4, 2) := by decide +kernel
theorem dX5_spread_42 : decode cX5_spread 42 = .ok (.iload 4, 2) := by decide +kernel
theorem dX5_spread_44 : decode cX5_spread 44 = .ok (.aload_n 0, 1) := by decide +kernel
theorem dX5_spread_45 : decode cX5_spread 45 = .ok (.getfield 13, 3) := by decide +kernel
theorem dX5_spread_48 : decode cX5_spread 48 = .ok (.aload_n 0, 1) := by decide +kernel
theorem dX5_spread_49 : decode cX5_spread 49 = .ok (.getfield 26, 3) := by decide +kernel
theorem dX5_spread_52 : decode cX5_spread 52 = .ok (.iload_n 1, 1) := by decide +kernel
theorem dX5_spread_53 : decode cX5_spread 53 = .ok (.iaload, 1) := by decide +kernel
theorem dX5_spread_54 : decode cX5_spread 54 = .ok (.iaload, 1) := by decide +kernel
theorem dX5_spread_55 : decode cX5_spread 55 = .ok (.if_icmp .ge 27, 3) := by decide +kernel
theorem dX5_spread_58 : decode cX5_spread 58 = .ok (.aload_n 0, 1) := by decide +kernel
theorem dX5_spread_59 : decode cX5_spread 59 = .ok (.getfield 32, 3) := by decide +kernel
theorem dX5_spread_62 : decode cX5_spread 62 = .ok (.bipush 48, 2) := by decide +kernel
theorem dX5_spread_64 : decode cX5_spread 64 = .ok (.iload_n 1, 1) := by decide +kernel
theorem dX5_spread_65 : decode cX5_spread 65 = .ok (.imul, 1) := by decide +kernel
theorem dX5_spread_66 : decode cX5_spread 66 = .ok (.iconst 4, 1) := by decide +kernel
theorem dX5_spread_67 : decode cX5_spread 67 = .ok (.iload_n 3, 1) := by decide +kernel
theorem dX5_spread_68 : decode cX5_spread 68 = .ok (.imul, 1) := by decide +kernel
theorem dX5_spread_69 : decode cX5_spread 69 = .ok (.iadd, 1) := by decide +kernel
theorem dX5_spread_70 : decode cX5_spread 70 = .ok (.iload 4, 2) := by decide +kernel
theorem dX5_spread_72 : decode cX5_spread 72 = .ok (.iadd, 1) := by decide +kernel
theorem dX5_spread_73 : decode cX5_spread 73 = .ok (.iload_n 2, 1) := by decide +kernel
theorem dX5_spread_74 : decode cX5_spread 74 = .ok (.i2l, 1) := by decide +kernel
theorem dX5_spread_75 : decode cX5_spread 75 = .ok (.lastore, 1) := by decide +kernel
theorem dX5_spread_76 : decode cX5_spread 76 = .ok (.iinc 4 1, 3) := by decide +kernel
theorem dX5_spread_79 : decode cX5_spread 79 = .ok (.goto (-37), 3) := by decide +kernel
theorem dX5_spread_82 : decode cX5_spread 82 = .ok (.iinc 3 1, 3) := by decide +kernel
theorem dX5_spread_85 : decode cX5_spread 85 = .ok (.goto (-61), 3) := by decide +kernel
theorem dX5_spread_88 : decode cX5_spread 88 = .ok (.aload_n 0, 1) := by decide +kernel
theorem dX5_spread_89 : decode cX5_spread 89 = .ok (.getfield 29, 3) := by decide +kernel
theorem dX5_spread_92 : decode cX5_spread 92 = .ok (.iload_n 1, 1) := by decide +kernel
theorem dX5_spread_93 : decode cX5_spread 93 = .ok (.iconst 0, 1) := by decide +kernel
theorem dX5_spread_94 : decode cX5_spread 94 = .ok (.iastore, 1) := by decide +kernel
theorem dX5_spread_95 : decode cX5_spread 95 = .ok (.return_, 1) := by decide +kernel
theorem dX5_shareOf_0 : decode cX5_shareOf 0 = .ok (.lconst 0, 1) := by decide +kernel
theorem dX5_shareOf_1 : decode cX5_shareOf 1 = .ok (.lstore_n 3, 1) := by decide +kernel
theorem dX5_shareOf_2 : decode cX5_shareOf 2 = .ok (.iconst 0, 1) := by decide +kernel
theorem dX5_shareOf_3 : decode cX5_shareOf 3 = .ok (.istore 5, 2) := by decide +kernel
theorem dX5_shareOf_5 : decode cX5_shareOf 5 = .ok (.iload 5, 2) := by decide +kernel
theorem dX5_shareOf_7 : decode cX5_shareOf 7 = .ok (.iconst 4, 1) := by decide +kernel
theorem dX5_shareOf_8 : decode cX5_shareOf 8 = .ok (.if_icmp .ge 45, 3) := by decide +kernel
theorem dX5_shareOf_11 : decode cX5_shareOf 11 = .ok (.lload_n 3, 1) := by decide +kernel
theorem dX5_shareOf_12 : decode cX5_shareOf 12 = .ok (.aload_n 0, 1) := by decide +kernel
theorem dX5_shareOf_13 : decode cX5_shareOf 13 = .ok (.getfield 32, 3) := by decide +kernel
theorem dX5_shareOf_16 : decode cX5_shareOf 16 = .ok (.bipush 48, 2) := by decide +kernel
theorem dX5_shareOf_18 : decode cX5_shareOf 18 = .ok (.iload_n 1, 1) := by decide +kernel
theorem dX5_shareOf_19 : decode cX5_shareOf 19 = .ok (.imul, 1) := by decide +kernel
theorem dX5_shareOf_20 : decode cX5_shareOf 20 = .ok (.iconst 4, 1) := by decide +kernel
theorem dX5_shareOf_21 : decode cX5_shareOf 21 = .ok (.iload_n 2, 1) := by decide +kernel
theorem dX5_shareOf_22 : decode cX5_shareOf 22 = .ok (.imul, 1) := by decide +kernel
theorem dX5_shareOf_23 : decode cX5_shareOf 23 = .ok (.iadd, 1) := by decide +kernel
theorem dX5_shareOf_24 : decode cX5_shareOf 24 = .ok (.iload 5, 2) := by decide +kernel
theorem dX5_shareOf_26 : decode cX5_shareOf 26 = .ok (.iadd, 1) := by decide +kernel
theorem dX5_shareOf_27 : decode cX5_shareOf 27 = .ok (.laload, 1) := by decide +kernel
theorem dX5_shareOf_28 : decode cX5_shareOf 28 = .ok (.aload_n 0, 1) := by decide +kernel
theorem dX5_shareOf_29 : decode cX5_shareOf 29 = .ok (.getfield 32, 3) := by decide +kernel
theorem dX5_shareOf_32 : decode cX5_shareOf 32 = .ok (.bipush 48, 2) := by decide +kernel
theorem dX5_shareOf_34 : decode cX5_shareOf 34 = .ok (.iload_n 1, 1) := by decide +kernel
theorem dX5_shareOf_35 : decode cX5_shareOf 35 = .ok (.imul, 1) := by decide +kernel
theorem dX5_shareOf_36 : decode cX5_shareOf 36 = .ok (.iconst 4, 1) := by decide +kernel
theorem dX5_shareOf_37 : decode cX5_shareOf 37 = .ok (.iload_n 2, 1) := by decide +kernel
theorem dX5_shareOf_38 : decode cX5_shareOf 38 = .ok (.imul, 1) := by decide +kernel
theorem dX5_shareOf_39 : decode cX5_shareOf 39 = .ok (.iadd, 1) := by decide +kernel
theorem dX5_shareOf_40 : decode cX5_shareOf 40 = .ok (.iload 5, 2) := by decide +kernel
theorem dX5_shareOf_42 : decode cX5_shareOf 42 = .ok (.iadd, 1) := by decide +kernel
theorem dX5_shareOf_43 : decode cX5_shareOf 43 = .ok (.laload, 1) := by decide +kernel
theorem dX5_shareOf_44 : decode cX5_shareOf 44 = .ok (.lmul, 1) := by decide +kernel
theorem dX5_shareOf_45 : decode cX5_shareOf 45 = .ok (.ladd, 1) := by decide +kernel
theorem dX5_shareOf_46 : decode cX5_shareOf 46 = .ok (.lstore_n 3, 1) := by decide +kernel
theorem dX5_shareOf_47 : decode cX5_shareOf 47 = .ok (.iinc 5 1, 3) := by decide +kernel
theorem dX5_shareOf_50 : decode cX5_shareOf 50 = .ok (.goto (-45), 3) := by decide +kernel
theorem dX5_shareOf_53 : decode cX5_shareOf 53 = .ok (.lload_n 3, 1) := by decide +kernel
theorem dX5_shareOf_54 : decode cX5_shareOf 54 = .ok (.lreturn, 1) := by decide +kernel
set_option maxRecDepth 20000 in
theorem ggX5_weight_X5_shareOf : GoodIn wsX5_weight wsX5_shareOf := goodIn_r _ [5, 6, 7, 8, 9, 10, 11, 12, 13, 14, 15, 16, 17, 18, 19, 20] (by decide +kernel) (by decide +kernel)
set_option maxRecDepth 20000 in
theorem gX5_weight_X5_shareOf : GoodIn wsX5_weight (wsV RX5 89 RX5 yX5_shareOf wsX5_shareOf) := goodIn_app (goodIn_of _ (by decide +kernel)) ggX5_weight_X5_shareOf
theorem dX5_weight_0 : decode cX5_weight 0 = .ok (.lconst 0, 1) := by decide +kernel
theorem dX5_weight_1 : decode cX5_weight 1 = .ok (.lstore_n 2, 1) := by decide +kernel
theorem dX5_weight_2 : decode cX5_weight 2 = .ok (.iconst 0, 1) := by decide +kernel
theorem dX5_weight_3 : decode cX5_weight 3 = .ok (.istore 4, 2) := by decide +kernel
theorem dX5_weight_5 : decode cX5_weight 5 = .ok (.iload 4, 2) := by decide +kernel
theorem dX5_weight_7 : decode cX5_weight 7 = .ok (.bipush 12, 2) := by decide +kernel
theorem dX5_weight_9 : decode cX5_weight 9 = .ok (.if_icmp .ge 19, 3) := by decide +kernel
theorem dX5_weight_12 : decode cX5_weight 12 = .ok (.lload_n 2, 1) := by decide +kernel
theorem dX5_weight_13 : decode cX5_weight 13 = .ok (.aload_n 0, 1) := by decide +kernel
theorem dX5_weight_14 : decode cX5_weight 14 = .ok (.iload_n 1, 1) := by decide +kernel
theorem dX5_weight_15 : decode cX5_weight 15 = .ok (.iload 4, 2) := by decide +kernel
theorem dX5_weight_17 : decode cX5_weight 17 = .ok (.invokevirtual 89, 3) := by decide +kernel
theorem dX5_weight_20 : decode cX5_weight 20 = .ok (.ladd, 1) := by decide +kernel
theorem dX5_weight_21 : decode cX5_weight 21 = .ok (.lstore_n 2, 1) := by decide +kernel
theorem dX5_weight_22 : decode cX5_weight 22 = .ok (.iinc 4 1, 3) := by decide +kernel
theorem dX5_weight_25 : decode cX5_weight 25 = .ok (.goto (-20), 3) := by decide +kernel
theorem dX5_weight_28 : decode cX5_weight 28 = .ok (.lload_n 2, 1) := by decide +kernel
theorem dX5_weight_29 : decode cX5_weight 29 = .ok (.lreturn, 1) := by decide +kernel
set_option maxRecDepth 20000 in
theorem ggX5_goesOn_X5_weight : GoodIn wsX5_goesOn wsX5_weight := goodIn_r _ [7, 8, 9, 10, 6, 11, 12, 19, 20, 21, 22, 23, 24, 25, 26, 27, 28, 29, 30, 31, 32] (by decide +kernel) (by decide +kernel)
set_option maxRecDepth 20000 in
theorem gX5_goesOn_X5_weight : GoodIn wsX5_goesOn (wsV RX5 93 RX5 yX5_weight wsX5_weight) := goodIn_app (goodIn_of _ (by decide +kernel)) ggX5_goesOn_X5_weight
set_option maxRecDepth 20000 in
theorem ggX5_goesOn_X5_scale : GoodIn wsX5_goesOn wsX5_scale := goodIn_r _ [16, 17, 18, 19, 20, 21, 22, 23, 24, 25, 26, 27, 28, 29, 30, 31, 32] (by decide +kernel) (by decide +kernel)
set_option maxRecDepth 20000 in
theorem gX5_goesOn_X5_scale : GoodIn wsX5_goesOn (wsV RX5 99 RX5 yX5_scale wsX5_scale) := goodIn_app (goodIn_of _ (by decide +kernel)) ggX5_goesOn_X5_scale
theorem dX5_goesOn_0 : decode cX5_goesOn 0 = .ok (.aload_n 0, 1) := by decide +kernel
theorem dX5_goesOn_1 : decode cX5_goesOn 1 = .ok (.getfield 29, 3) := by decide +kernel
theorem dX5_goesOn_4 : decode cX5_goesOn 4 = .ok (.iload_n 1, 1) := by decide +kernel
theorem dX5_goesOn_5 : decode cX5_goesOn 5 = .ok (.iaload, 1) := by decide +kernel
theorem dX5_goesOn_6 : decode cX5_goesOn 6 = .ok (.bipush 60, 2) := by decide +kernel
theorem dX5_goesOn_8 : decode cX5_goesOn 8 = .ok (.if_icmp .ge 26, 3) := by decide +kernel
theorem dX5_goesOn_11 : decode cX5_goesOn 11 = .ok (.aload_n 0, 1) := by decide +kernel
theorem dX5_goesOn_12 : decode cX5_goesOn 12 = .ok (.iload_n 1, 1) := by decide +kernel
theorem dX5_goesOn_13 : decode cX5_goesOn 13 = .ok (.invokevirtual 93, 3) := by decide +kernel
theorem dX5_goesOn_16 : decode cX5_goesOn 16 = .ok (.ldc2_w 97, 3) := by decide +kernel
theorem dX5_goesOn_19 : decode cX5_goesOn 19 = .ok (.aload_n 0, 1) := by decide +kernel
theorem dX5_goesOn_20 : decode cX5_goesOn 20 = .ok (.iload_n 1, 1) := by decide +kernel
theorem dX5_goesOn_21 : decode cX5_goesOn 21 = .ok (.invokevirtual 99, 3) := by decide +kernel
theorem dX5_goesOn_24 : decode cX5_goesOn 24 = .ok (.i2l, 1) := by decide +kernel
theorem dX5_goesOn_25 : decode cX5_goesOn 25 = .ok (.ldiv, 1) := by decide +kernel
theorem dX5_goesOn_26 : decode cX5_goesOn 26 = .ok (.lcmp, 1) := by decide +kernel
theorem dX5_goesOn_27 : decode cX5_goesOn 27 = .ok (.ifCond .gt 7, 3) := by decide +kernel
theorem dX5_goesOn_30 : decode cX5_goesOn 30 = .ok (.iconst 1, 1) := by decide +kernel
theorem dX5_goesOn_31 : decode cX5_goesOn 31 = .ok (.goto 4, 3) := by decide +kernel
theorem dX5_goesOn_34 : decode cX5_goesOn 34 = .ok (.iconst 0, 1) := by decide +kernel
theorem dX5_goesOn_35 : decode cX5_goesOn 35 = .ok (.ireturn, 1) := by decide +kernel
theorem dX5_turns_0 : decode cX5_turns 0 = .ok (.aload_n 0, 1) := by decide +kernel
theorem dX5_turns_1 : decode cX5_turns 1 = .ok (.getfield 26, 3) := by decide +kernel
theorem dX5_turns_4 : decode cX5_turns 4 = .ok (.iload_n 1, 1) := by decide +kernel
theorem dX5_turns_5 : decode cX5_turns 5 = .ok (.iaload, 1) := by decide +kernel
theorem dX5_turns_6 : decode cX5_turns 6 = .ok (.istore_n 2, 1) := by decide +kernel
theorem dX5_turns_7 : decode cX5_turns 7 = .ok (.aload_n 0, 1) := by decide +kernel
theorem dX5_turns_8 : decode cX5_turns 8 = .ok (.getfield 13, 3) := by decide +kernel
theorem dX5_turns_11 : decode cX5_turns 11 = .ok (.iload_n 2, 1) := by decide +kernel
theorem dX5_turns_12 : decode cX5_turns 12 = .ok (.iaload, 1) := by decide +kernel
theorem dX5_turns_13 : decode cX5_turns 13 = .ok (.istore_n 3, 1) := by decide +kernel
theorem dX5_turns_14 : decode cX5_turns 14 = .ok (.iconst 0, 1) := by decide +kernel
theorem dX5_turns_15 : decode cX5_turns 15 = .ok (.istore 4, 2) := by decide +kernel
theorem dX5_turns_17 : decode cX5_turns 17 = .ok (.iload 4, 2) := by decide +kernel
theorem dX5_turns_19 : decode cX5_turns 19 = .ok (.aload_n 0, 1) := by decide +kernel
theorem dX5_turns_20 : decode cX5_turns 20 = .ok (.getfield 7, 3) := by decide +kernel
theorem dX5_turns_23 : decode cX5_turns 23 = .ok (.iload_n 2, 1) := by decide +kernel
theorem dX5_turns_24 : decode cX5_turns 24 = .ok (.iaload, 1) := by decide +kernel
theorem dX5_turns_25 : decode cX5_turns 25 = .ok (.if_icmp .ge 171, 3) := by decide +kernel
theorem dX5_turns_28 : decode cX5_turns 28 = .ok (.bipush 48, 2) := by decide +kernel
theorem dX5_turns_30 : decode cX5_turns 30 = .ok (.iload_n 1, 1) := by decide +kernel
theorem dX5_turns_31 : decode cX5_turns 31 = .ok (.imul, 1) := by decide +kernel
theorem dX5_turns_32 : decode cX5_turns 32 = .ok (.iconst 4, 1) := by decide +kernel
theorem dX5_turns_33 : decode cX5_turns 33 = .ok (.iload 4, 2) := by decide +kernel
theorem dX5_turns_35 : decode cX5_turns 35 = .ok (.imul, 1) := by decide +kernel
theorem dX5_turns_36 : decode cX5_turns 36 = .ok (.iadd, 1) := by decide +kernel
theorem dX5_turns_37 : decode cX5_turns 37 = .ok (.istore 5, 2) := by decide +kernel
theorem dX5_turns_39 : decode cX5_turns 39 = .ok (.lconst 0, 1) := by decide +kernel
theorem dX5_turns_40 : decode cX5_turns 40 = .ok (.lstore 6, 2) := by decide +kernel
theorem dX5_turns_42 : decode cX5_turns 42 = .ok (.iconst 0, 1) := by decide +kernel
theorem dX5_turns_43 : decode cX5_turns 43 = .ok (.istore 8, 2) := by decide +kernel
theorem dX5_turns_45 : decode cX5_turns 45 = .ok (.iload 8, 2) := by decide +kernel
theorem dX5_turns_47 : decode cX5_turns 47 = .ok (.iload_n 3, 1) := by decide +kernel
theorem dX5_turns_48 : decode cX5_turns 48 = .ok (.if_icmp .ge 24, 3) := by decide +kernel
theorem dX5_turns_51 : decode cX5_turns 51 = .ok (.lload 6, 2) := by decide +kernel
theorem dX5_turns_53 : decode cX5_turns 53 = .ok (.aload_n 0, 1) := by decide +kernel
theorem dX5_turns_54 : decode cX5_turns 54 = .ok (.getfield 32, 3) := by decide +kernel
theorem dX5_turns_57 : decode cX5_turns 57 = .ok (.iload 5, 2) := by decide +kernel
theorem dX5_turns_59 : decode cX5_turns 59 = .ok (.iload 8, 2) := by decide +kernel
theorem dX5_turns_61 : decode cX5_turns 61 = .ok (.iadd, 1) := by decide +kernel
theorem dX5_turns_62 : decode cX5_turns 62 = .ok (.laload, 1) := by decide +kernel
theorem dX5_turns_63 : decode cX5_turns 63 = .ok (.ladd, 1) := by decide +kernel
theorem dX5_turns_64 : decode cX5_turns 64 = .ok (.lstore 6, 2) := by decide +kernel
theorem dX5_turns_66 : decode cX5_turns 66 = .ok (.iinc 8 1, 3) := by decide +kernel
theorem dX5_turns_69 : decode cX5_turns 69 = .ok (.goto (-24), 3) := by decide +kernel
theorem dX5_turns_72 : decode cX5_turns 72 = .ok (.iload_n 3, 1) := by decide +kernel
theorem dX5_turns_73 : decode cX5_turns 73 = .ok (.iconst 2, 1) := by decide +kernel
theorem dX5_turns_74 : decode cX5_turns 74 = .ok (.if_icmp .ne 45, 3) := by decide +kernel
theorem dX5_turns_77 : decode cX5_turns 77 = .ok (.aload_n 0, 1) := by decide +kernel
theorem dX5_turns_78 : decode cX5_turns 78 = .ok (.getfield 32, 3) := by decide +kernel
theorem dX5_turns_81 : decode cX5_turns 81 = .ok (.iload 5, 2) := by decide +kernel
theorem dX5_turns_83 : decode cX5_turns 83 = .ok (.laload, 1) := by decide +kernel
theorem dX5_turns_84 : decode cX5_turns 84 = .ok (.aload_n 0, 1) := by decide +kernel
theorem dX5_turns_85 : decode cX5_turns 85 = .ok (.getfield 32, 3) := by decide +kernel
theorem dX5_turns_88 : decode cX5_turns 88 = .ok (.iload 5, 2) := by decide +kernel
theorem dX5_turns_90 : decode cX5_turns 90 = .ok (.iconst 1, 1) := by decide +kernel
theorem dX5_turns_91 : decode cX5_turns 91 = .ok (.iadd, 1) := by decide +kernel
theorem dX5_turns_92 : decode cX5_turns 92 = .ok (.laload, 1) := by decide +kernel
theorem dX5_turns_93 : decode cX5_turns 93 = .ok (.lsub, 1) := by decide +kernel
theorem dX5_turns_94 : decode cX5_turns 94 = .ok (.lstore 8, 2) := by decide +kernel
theorem dX5_turns_96 : decode cX5_turns 96 = .ok (.aload_n 0, 1) := by decide +kernel
theorem dX5_turns_97 : decode cX5_turns 97 = .ok (.getfield 32, 3) := by decide +kernel
theorem dX5_turns_100 : decode cX5_turns 100 = .ok (.iload 5, 2) := by decide +kernel
theorem dX5_turns_102 : decode cX5_turns 102 = .ok (.lload 6, 2) := by decide +kernel
theorem dX5_turns_104 : decode cX5_turns 104 = .ok (.lastore, 1) := by decide +kernel
theorem dX5_turns_105 : decode cX5_turns 105 = .ok (.aload_n 0, 1) := by decide +kernel
theorem dX5_turns_106 : decode cX5_turns 106 = .ok (.getfield 32, 3) := by decide +kernel
theorem dX5_turns_109 : decode cX5_turns 109 = .ok (.iload 5, 2) := by decide +kernel
theorem dX5_turns_111 : decode cX5_turns 111 = .ok (.iconst 1, 1) := by decide +kernel
theorem dX5_turns_112 : decode cX5_turns 112 = .ok (.iadd, 1) := by decide +kernel
theorem dX5_turns_113 : decode cX5_turns 113 = .ok (.lload 8, 2) := by decide +kernel
theorem dX5_turns_115 : decode cX5_turns 115 = .ok (.lastore, 1) := by decide +kernel
theorem dX5_turns_116 : decode cX5_turns 116 = .ok (.goto 74, 3) := by decide +kernel
theorem dX5_turns_119 : decode cX5_turns 119 = .ok (.iconst 0, 1) := by decide +kernel
theorem dX5_turns_120 : decode cX5_turns 120 = .ok (.istore 8, 2) := by decide +kernel
theorem dX5_turns_122 : decode cX5_turns 122 = .ok (.iload 8, 2) := by decide +kernel
theorem dX5_turns_124 : decode cX5_turns 124 = .ok (.iload_n 3, 1) := by decide +kernel
theorem dX5_turns_125 : decode cX5_turns 125 = .ok (.if_icmp .ge 65, 3) := by decide +kernel
theorem dX5_turns_128 : decode cX5_turns 128 = .ok (.aload_n 0, 1) := by decide +kernel
theorem dX5_turns_129 : decode cX5_turns 129 = .ok (.getfield 32, 3) := by decide +kernel
theorem dX5_turns_132 : decode cX5_turns 132 = .ok (.iload 5, 2) := by decide +kernel
theorem dX5_turns_134 : decode cX5_turns 134 = .ok (.iload 8, 2) := by decide +kernel
theorem dX5_turns_136 : decode cX5_turns 136 = .ok (.iadd, 1) := by decide +kernel
theorem dX5_turns_137 : decode cX5_turns 137 = .ok (.iload_n 3, 1) := by decide +kernel
theorem dX5_turns_138 : decode cX5_turns 138 = .ok (.iconst 3, 1) := by decide +kernel
theorem dX5_turns_139 : decode cX5_turns 139 = .ok (.if_icmp .ne 27, 3) := by decide +kernel
theorem dX5_turns_142 : decode cX5_turns 142 = .ok (.ldc2_w 102, 3) := by decide +kernel
theorem dX5_turns_145 : decode cX5_turns 145 = .ok (.lload 6, 2) := by decide +kernel
theorem dX5_turns_147 : decode cX5_turns 147 = .ok (.lmul, 1) := by decide +kernel
theorem dX5_turns_148 : decode cX5_turns 148 = .ok (.ldc2_w 104, 3) := by decide +kernel
theorem dX5_turns_151 : decode cX5_turns 151 = .ok (.aload_n 0, 1) := by decide +kernel
theorem dX5_turns_152 : decode cX5_turns 152 = .ok (.getfield 32, 3) := by decide +kernel
theorem dX5_turns_155 : decode cX5_turns 155 = .ok (.iload 5, 2) := by decide +kernel
theorem dX5_turns_157 : decode cX5_turns 157 = .ok (.iload 8, 2) := by decide +kernel
theorem dX5_turns_159 : decode cX5_turns 159 = .ok (.iadd, 1) := by decide +kernel
theorem dX5_turns_160 : decode cX5_turns 160 = .ok (.laload, 1) := by decide +kernel
theorem dX5_turns_161 : decode cX5_turns 161 = .ok (.lmul, 1) := by decide +kernel
theorem dX5_turns_162 : decode cX5_turns 162 = .ok (.lsub, 1) := by decide +kernel
theorem dX5_turns_163 : decode cX5_turns 163 = .ok (.goto 20, 3) := by decide +kernel
theorem dX5_turns_166 : decode cX5_turns 166 = .ok (.lload 6, 2) := by decide +kernel
theorem dX5_turns_168 : decode cX5_turns 168 = .ok (.ldc2_w 102, 3) := by decide +kernel
theorem dX5_turns_171 : decode cX5_turns 171 = .ok (.aload_n 0, 1) := by decide +kernel
theorem dX5_turns_172 : decode cX5_turns 172 = .ok (.getfield 32, 3) := by decide +kernel
theorem dX5_turns_175 : decode cX5_turns 175 = .ok (.iload 5, 2) := by decide +kernel
theorem dX5_turns_177 : decode cX5_turns 177 = .ok (.iload 8, 2) := by decide +kernel
theorem dX5_turns_179 : decode cX5_turns 179 = .ok (.iadd, 1) := by decide +kernel
theorem dX5_turns_180 : decode cX5_turns 180 = .ok (.laload, 1) := by decide +kernel
theorem dX5_turns_181 : decode cX5_turns 181 = .ok (.lmul, 1) := by decide +kernel
theorem dX5_turns_182 : decode cX5_turns 182 = .ok (.lsub, 1) := by decide +kernel
theorem dX5_turns_183 : decode cX5_turns 183 = .ok (.lastore, 1) := by decide +kernel
theorem dX5_turns_184 : decode cX5_turns 184 = .ok (.iinc 8 1, 3) := by decide +kernel
theorem dX5_turns_187 : decode cX5_turns 187 = .ok (.goto (-65), 3) := by decide +kernel
theorem dX5_turns_190 : decode cX5_turns 190 = .ok (.iinc 4 1, 3) := by decide +kernel
theorem dX5_turns_193 : decode cX5_turns 193 = .ok (.goto (-176), 3) := by decide +kernel
theorem dX5_turns_196 : decode cX5_turns 196 = .ok (.return_, 1) := by decide +kernel
theorem dX5_signs_0 : decode cX5_signs 0 = .ok (.iconst 0, 1) := by decide +kernel
theorem dX5_signs_1 : decode cX5_signs 1 = .ok (.istore_n 2, 1) := by decide +kernel
theorem dX5_signs_2 : decode cX5_signs 2 = .ok (.iload_n 2, 1) := by decide +kernel
theorem dX5_signs_3 : decode cX5_signs 3 = .ok (.aload_n 0, 1) := by decide +kernel
theorem dX5_signs_4 : decode cX5_signs 4 = .ok (.getfield 7, 3) := by decide +kernel
theorem dX5_signs_7 : decode cX5_signs 7 = .ok (.aload_n 0, 1) := by decide +kernel
theorem dX5_signs_8 : decode cX5_signs 8 = .ok (.getfield 26, 3) := by decide +kernel
theorem dX5_signs_11 : decode cX5_signs 11 = .ok (.iload_n 1, 1) := by decide +kernel
theorem dX5_signs_12 : decode cX5_signs 12 = .ok (.iaload, 1) := by decide +kernel
theorem dX5_signs_13 : decode cX5_signs 13 = .ok (.iaload, 1) := by decide +kernel
theorem dX5_signs_14 : decode cX5_signs 14 = .ok (.if_icmp .ge 72, 3) := by decide +kernel
theorem dX5_signs_17 : decode cX5_signs 17 = .ok (.iconst 0, 1) := by decide +kernel
theorem dX5_signs_18 : decode cX5_signs 18 = .ok (.istore_n 3, 1) := by decide +kernel
theorem dX5_signs_19 : decode cX5_signs 19 = .ok (.iload_n 3, 1) := by decide +kernel
theorem dX5_signs_20 : decode cX5_signs 20 = .ok (.iconst 4, 1) := by decide +kernel
theorem dX5_signs_21 : decode cX5_signs 21 = .ok (.if_icmp .ge 59, 3) := by decide +kernel
theorem dX5_signs_24 : decode cX5_signs 24 = .ok (.aload_n 0, 1) := by decide +kernel
theorem dX5_signs_25 : decode cX5_signs 25 = .ok (.getfield 19, 3) := by decide +kernel
theorem dX5_signs_28 : decode cX5_signs 28 = .ok (.bipush 12, 2) := by decide +kernel
theorem dX5_signs_30 : decode cX5_signs 30 = .ok (.aload_n 0, 1) := by decide +kernel
theorem dX5_signs_31 : decode cX5_signs 31 = .ok (.getfield 26, 3) := by decide +kernel
theorem dX5_signs_34 : decode cX5_signs 34 = .ok (.iload_n 1, 1) := by decide +kernel
theorem dX5_signs_35 : decode cX5_signs 35 = .ok (.iaload, 1) := by decide +kernel
theorem dX5_signs_36 : decode cX5_signs 36 = .ok (.imul, 1) := by decide +kernel
theorem dX5_signs_37 : decode cX5_signs 37 = .ok (.iload_n 2, 1) := by decide +kernel
theorem dX5_signs_38 : decode cX5_signs 38 = .ok (.iadd, 1) := by decide +kernel
theorem dX5_signs_39 : decode cX5_signs 39 = .ok (.baload, 1) := by decide +kernel
theorem dX5_signs_40 : decode cX5_signs 40 = .ok (.ifCond .eq 34, 3) := by decide +kernel
theorem dX5_signs_43 : decode cX5_signs 43 = .ok (.aload_n 0, 1) := by decide +kernel
theorem dX5_signs_44 : decode cX5_signs 44 = .ok (.getfield 32, 3) := by decide +kernel
theorem dX5_signs_47 : decode cX5_signs 47 = .ok (.bipush 48, 2) := by decide +kernel
theorem dX5_signs_49 : decode cX5_signs 49 = .ok (.iload_n 1, 1) := by decide +kernel
theorem dX5_signs_50 : decode cX5_signs 50 = .ok (.imul, 1) := by decide +kernel
theorem dX5_signs_51 : decode cX5_signs 51 = .ok (.iconst 4, 1) := by decide +kernel
theorem dX5_signs_52 : decode cX5_signs 52 = .ok (.iload_n 2, 1) := by decide +kernel
theorem dX5_signs_53 : decode cX5_signs 53 = .ok (.imul, 1) := by decide +kernel
theorem dX5_signs_54 : decode cX5_signs 54 = .ok (.iadd, 1) := by decide +kernel
theorem dX5_signs_55 : decode cX5_signs 55 = .ok (.iload_n 3, 1) := by decide +kernel
theorem dX5_signs_56 : decode cX5_signs 56 = .ok (.iadd, 1) := by decide +kernel
theorem dX5_signs_57 : decode cX5_signs 57 = .ok (.aload_n 0, 1) := by decide +kernel
theorem dX5_signs_58 : decode cX5_signs 58 = .ok (.getfield 32, 3) := by decide +kernel
theorem dX5_signs_61 : decode cX5_signs 61 = .ok (.bipush 48, 2) := by decide +kernel
theorem dX5_signs_63 : decode cX5_signs 63 = .ok (.iload_n 1, 1) := by decide +kernel
theorem dX5_signs_64 : decode cX5_signs 64 = .ok (.imul, 1) := by decide +kernel
theorem dX5_signs_65 : decode cX5_signs 65 = .ok (.iconst 4, 1) := by decide +kernel
theorem dX5_signs_66 : decode cX5_signs 66 = .ok (.iload_n 2, 1) := by decide +kernel
theorem dX5_signs_67 : decode cX5_signs 67 = .ok (.imul, 1) := by decide +kernel
theorem dX5_signs_68 : decode cX5_signs 68 = .ok (.iadd, 1) := by decide +kernel
theorem dX5_signs_69 : decode cX5_signs 69 = .ok (.iload_n 3, 1) := by decide +kernel
theorem dX5_signs_70 : decode cX5_signs 70 = .ok (.iadd, 1) := by decide +kernel
theorem dX5_signs_71 : decode cX5_signs 71 = .ok (.laload, 1) := by decide +kernel
theorem dX5_signs_72 : decode cX5_signs 72 = .ok (.lneg, 1) := by decide +kernel
theorem dX5_signs_73 : decode cX5_signs 73 = .ok (.lastore, 1) := by decide +kernel
theorem dX5_signs_74 : decode cX5_signs 74 = .ok (.iinc 3 1, 3) := by decide +kernel
theorem dX5_signs_77 : decode cX5_signs 77 = .ok (.goto (-58), 3) := by decide +kernel
theorem dX5_signs_80 : decode cX5_signs 80 = .ok (.iinc 2 1, 3) := by decide +kernel
theorem dX5_signs_83 : decode cX5_signs 83 = .ok (.goto (-81), 3) := by decide +kernel
theorem dX5_signs_86 : decode cX5_signs 86 = .ok (.return_, 1) := by decide +kernel
theorem dX5_goes_0 : decode cX5_goes 0 = .ok (.iconst 0, 1) := by decide +kernel
theorem dX5_goes_1 : decode cX5_goes 1 = .ok (.istore_n 2, 1) := by decide +kernel
theorem dX5_goes_2 : decode cX5_goes 2 = .ok (.iload_n 2, 1) := by decide +kernel
theorem dX5_goes_3 : decode cX5_goes 3 = .ok (.bipush 48, 2) := by decide +kernel
theorem dX5_goes_5 : decode cX5_goes 5 = .ok (.if_icmp .ge 41, 3) := by decide +kernel
theorem dX5_goes_8 : decode cX5_goes 8 = .ok (.aload_n 0, 1) := by decide +kernel
theorem dX5_goes_9 : decode cX5_goes 9 = .ok (.getfield 36, 3) := by decide +kernel
theorem dX5_goes_12 : decode cX5_goes 12 = .ok (.iload_n 2, 1) := by decide +kernel
theorem dX5_goes_13 : decode cX5_goes 13 = .ok (.aload_n 0, 1) := by decide +kernel
theorem dX5_goes_14 : decode cX5_goes 14 = .ok (.getfield 32, 3) := by decide +kernel
theorem dX5_goes_17 : decode cX5_goes 17 = .ok (.bipush 48, 2) := by decide +kernel
theorem dX5_goes_19 : decode cX5_goes 19 = .ok (.iload_n 1, 1) := by decide +kernel
theorem dX5_goes_20 : decode cX5_goes 20 = .ok (.imul, 1) := by decide +kernel
theorem dX5_goes_21 : decode cX5_goes 21 = .ok (.aload_n 0, 1) := by decide +kernel
theorem dX5_goes_22 : decode cX5_goes 22 = .ok (.getfield 16, 3) := by decide +kernel
theorem dX5_goes_25 : decode cX5_goes 25 = .ok (.bipush 48, 2) := by decide +kernel
theorem dX5_goes_27 : decode cX5_goes 27 = .ok (.aload_n 0, 1) := by decide +kernel
theorem dX5_goes_28 : decode cX5_goes 28 = .ok (.getfield 26, 3) := by decide +kernel
theorem dX5_goes_31 : decode cX5_goes 31 = .ok (.iload_n 1, 1) := by decide +kernel
theorem dX5_goes_32 : decode cX5_goes 32 = .ok (.iaload, 1) := by decide +kernel
theorem dX5_goes_33 : decode cX5_goes 33 = .ok (.imul, 1) := by decide +kernel
theorem dX5_goes_34 : decode cX5_goes 34 = .ok (.iload_n 2, 1) := by decide +kernel
theorem dX5_goes_35 : decode cX5_goes 35 = .ok (.iadd, 1) := by decide +kernel
theorem dX5_goes_36 : decode cX5_goes 36 = .ok (.iaload, 1) := by decide +kernel
theorem dX5_goes_37 : decode cX5_goes 37 = .ok (.iadd, 1) := by decide +kernel
theorem dX5_goes_38 : decode cX5_goes 38 = .ok (.laload, 1) := by decide +kernel
theorem dX5_goes_39 : decode cX5_goes 39 = .ok (.lastore, 1) := by decide +kernel
theorem dX5_goes_40 : decode cX5_goes 40 = .ok (.iinc 2 1, 3) := by decide +kernel
theorem dX5_goes_43 : decode cX5_goes 43 = .ok (.goto (-41), 3) := by decide +kernel
theorem dX5_goes_46 : decode cX5_goes 46 = .ok (.iconst 0, 1) := by decide +kernel
theorem dX5_goes_47 : decode cX5_goes 47 = .ok (.istore_n 2, 1) := by decide +kernel
theorem dX5_goes_48 : decode cX5_goes 48 = .ok (.iload_n 2, 1) := by decide +kernel
theorem dX5_goes_49 : decode cX5_goes 49 = .ok (.bipush 48, 2) := by decide +kernel
theorem dX5_goes_51 : decode cX5_goes 51 = .ok (.if_icmp .ge 26, 3) := by decide +kernel
theorem dX5_goes_54 : decode cX5_goes 54 = .ok (.aload_n 0, 1) := by decide +kernel
theorem dX5_goes_55 : decode cX5_goes 55 = .ok (.getfield 32, 3) := by decide +kernel
theorem dX5_goes_58 : decode cX5_goes 58 = .ok (.bipush 48, 2) := by decide +kernel
theorem dX5_goes_60 : decode cX5_goes 60 = .ok (.iload_n 1, 1) := by decide +kernel
theorem dX5_goes_61 : decode cX5_goes 61 = .ok (.imul, 1) := by decide +kernel
theorem dX5_goes_62 : decode cX5_goes 62 = .ok (.iload_n 2, 1) := by decide +kernel
theorem dX5_goes_63 : decode cX5_goes 63 = .ok (.iadd, 1) := by decide +kernel
theorem dX5_goes_64 : decode cX5_goes 64 = .ok (.aload_n 0, 1) := by decide +kernel
theorem dX5_goes_65 : decode cX5_goes 65 = .ok (.getfield 36, 3) := by decide +kernel
theorem dX5_goes_68 : decode cX5_goes 68 = .ok (.iload_n 2, 1) := by decide +kernel
theorem dX5_goes_69 : decode cX5_goes 69 = .ok (.laload, 1) := by decide +kernel
theorem dX5_goes_70 : decode cX5_goes 70 = .ok (.lastore, 1) := by decide +kernel
theorem dX5_goes_71 : decode cX5_goes 71 = .ok (.iinc 2 1, 3) := by decide +kernel
theorem dX5_goes_74 : decode cX5_goes 74 = .ok (.goto (-26), 3) := by decide +kernel
theorem dX5_goes_77 : decode cX5_goes 77 = .ok (.return_, 1) := by decide +kernel
set_option maxRecDepth 20000 in
theorem ggX5_steps_X5_signs : GoodIn wsX5_steps wsX5_signs := goodIn_r _ [6, 7, 8, 9, 10, 24, 25, 26, 27, 28, 29, 30, 31, 32, 33, 34, 35, 36, 37] (by decide +kernel) (by decide +kernel)
set_option maxRecDepth 20000 in
theorem gX5_steps_X5_signs : GoodIn wsX5_steps (wsV RX5 106 RX5 yX5_signs wsX5_signs) := goodIn_app (goodIn_of _ (by decide +kernel)) ggX5_steps_X5_signs
set_option maxRecDepth 20000 in
theorem ggX5_steps_X5_turns : GoodIn wsX5_steps wsX5_turns := goodIn_r _ [14, 8, 15, 7, 10, 16, 17, 24, 25, 26, 27, 28, 29, 30, 31, 32, 33, 34, 35, 36, 37] (by decide +kernel) (by decide +kernel)
set_option maxRecDepth 20000 in
theorem gX5_steps_X5_turns : GoodIn wsX5_steps (wsV RX5 110 RX5 yX5_turns wsX5_turns) := goodIn_app (goodIn_of _ (by decide +kernel)) ggX5_steps_X5_turns
set_option maxRecDepth 20000 in
theorem ggX5_steps_X5_goes : GoodIn wsX5_steps wsX5_goes := goodIn_r _ [21, 22, 10, 23, 8, 24, 25, 26, 27, 28, 29, 30, 31, 32, 33, 34, 35, 36, 37] (by decide +kernel) (by decide +kernel)
set_option maxRecDepth 20000 in
theorem gX5_steps_X5_goes : GoodIn wsX5_steps (wsV RX5 113 RX5 yX5_goes wsX5_goes) := goodIn_app (goodIn_of _ (by decide +kernel)) ggX5_steps_X5_goes
theorem dX5_steps_0 : decode cX5_steps 0 = .ok (.aload_n 0, 1) := by decide +kernel
theorem dX5_steps_1 : decode cX5_steps 1 = .ok (.iload_n 1, 1) := by decide +kernel
theorem dX5_steps_2 : decode cX5_steps 2 = .ok (.invokevirtual 106, 3) := by decide +kernel
theorem dX5_steps_5 : decode cX5_steps 5 = .ok (.aload_n 0, 1) := by decide +kernel
theorem dX5_steps_6 : decode cX5_steps 6 = .ok (.iload_n 1, 1) := by decide +kernel
theorem dX5_steps_7 : decode cX5_steps 7 = .ok (.invokevirtual 110, 3) := by decide +kernel
theorem dX5_steps_10 : decode cX5_steps 10 = .ok (.aload_n 0, 1) := by decide +kernel
theorem dX5_steps_11 : decode cX5_steps 11 = .ok (.iload_n 1, 1) := by decide +kernel
theorem dX5_steps_12 : decode cX5_steps 12 = .ok (.invokevirtual 113, 3) := by decide +kernel
theorem dX5_steps_15 : decode cX5_steps 15 = .ok (.aload_n 0, 1) := by decide +kernel
theorem dX5_steps_16 : decode cX5_steps 16 = .ok (.getfield 29, 3) := by decide +kernel
theorem dX5_steps_19 : decode cX5_steps 19 = .ok (.iload_n 1, 1) := by decide +kernel
theorem dX5_steps_20 : decode cX5_steps 20 = .ok (.dup2, 1) := by decide +kernel
theorem dX5_steps_21 : decode cX5_steps 21 = .ok (.iaload, 1) := by decide +kernel
theorem dX5_steps_22 : decode cX5_steps 22 = .ok (.iconst 1, 1) := by decide +kernel
theorem dX5_steps_23 : decode cX5_steps 23 = .ok (.iadd, 1) := by decide +kernel
theorem dX5_steps_24 : decode cX5_steps 24 = .ok (.iastore, 1) := by decide +kernel
theorem dX5_steps_25 : decode cX5_steps 25 = .ok (.return_, 1) := by decide +kernel
theorem dX5_copies_0 : decode cX5_copies 0 = .ok (.aload_n 0, 1) := by decide +kernel
theorem dX5_copies_1 : decode cX5_copies 1 = .ok (.getfield 26, 3) := by decide +kernel
theorem dX5_copies_4 : decode cX5_copies 4 = .ok (.iload_n 2, 1) := by decide +kernel
theorem dX5_copies_5 : decode cX5_copies 5 = .ok (.aload_n 0, 1) := by decide +kernel
theorem dX5_copies_6 : decode cX5_copies 6 = .ok (.getfield 26, 3) := by decide +kernel
theorem dX5_copies_9 : decode cX5_copies 9 = .ok (.iload_n 1, 1) := by decide +kernel
theorem dX5_copies_10 : decode cX5_copies 10 = .ok (.iaload, 1) := by decide +kernel
theorem dX5_copies_11 : decode cX5_copies 11 = .ok (.iastore, 1) := by decide +kernel
theorem dX5_copies_12 : decode cX5_copies 12 = .ok (.aload_n 0, 1) := by decide +kernel
theorem dX5_copies_13 : decode cX5_copies 13 = .ok (.getfield 29, 3) := by decide +kernel
theorem dX5_copies_16 : decode cX5_copies 16 = .ok (.iload_n 2, 1) := by decide +kernel
theorem dX5_copies_17 : decode cX5_copies 17 = .ok (.aload_n 0, 1) := by decide +kernel
theorem dX5_copies_18 : decode cX5_copies 18 = .ok (.getfield 29, 3) := by decide +kernel
theorem dX5_copies_21 : decode cX5_copies 21 = .ok (.iload_n 1, 1) := by decide +kernel
theorem dX5_copies_22 : decode cX5_copies 22 = .ok (.iaload, 1) := by decide +kernel
theorem dX5_copies_23 : decode cX5_copies 23 = .ok (.iastore, 1) := by decide +kernel
theorem dX5_copies_24 : decode cX5_copies 24 = .ok (.iconst 0, 1) := by decide +kernel
theorem dX5_copies_25 : decode cX5_copies 25 = .ok (.istore_n 3, 1) := by decide +kernel
theorem dX5_copies_26 : decode cX5_copies 26 = .ok (.iload_n 3, 1) := by decide +kernel
theorem dX5_copies_27 : decode cX5_copies 27 = .ok (.bipush 48, 2) := by decide +kernel
theorem dX5_copies_29 : decode cX5_copies 29 = .ok (.if_icmp .ge 31, 3) := by decide +kernel
theorem dX5_copies_32 : decode cX5_copies 32 = .ok (.aload_n 0, 1) := by decide +kernel
theorem dX5_copies_33 : decode cX5_copies 33 = .ok (.getfield 32, 3) := by decide +kernel
theorem dX5_copies_36 : decode cX5_copies 36 = .ok (.bipush 48, 2) := by decide +kernel
theorem dX5_copies_38 : decode cX5_copies 38 = .ok (.iload_n 2, 1) := by decide +kernel
theorem dX5_copies_39 : decode cX5_copies 39 = .ok (.imul, 1) := by decide +kernel
theorem dX5_copies_40 : decode cX5_copies 40 = .ok (.iload_n 3, 1) := by decide +kernel
theorem dX5_copies_41 : decode cX5_copies 41 = .ok (.iadd, 1) := by decide +kernel
theorem dX5_copies_42 : decode cX5_copies 42 = .ok (.aload_n 0, 1) := by decide +kernel
theorem dX5_copies_43 : decode cX5_copies 43 = .ok (.getfield 32, 3) := by decide +kernel
theorem dX5_copies_46 : decode cX5_copies 46 = .ok (.bipush 48, 2) := by decide +kernel
theorem dX5_copies_48 : decode cX5_copies 48 = .ok (.iload_n 1, 1) := by decide +kernel
theorem dX5_copies_49 : decode cX5_copies 49 = .ok (.imul, 1) := by decide +kernel
theorem dX5_copies_50 : decode cX5_copies 50 = .ok (.iload_n 3, 1) := by decide +kernel
theorem dX5_copies_51 : decode cX5_copies 51 = .ok (.iadd, 1) := by decide +kernel
theorem dX5_copies_52 : decode cX5_copies 52 = .ok (.laload, 1) := by decide +kernel
theorem dX5_copies_53 : decode cX5_copies 53 = .ok (.lastore, 1) := by decide +kernel
theorem dX5_copies_54 : decode cX5_copies 54 = .ok (.iinc 3 1, 3) := by decide +kernel
theorem dX5_copies_57 : decode cX5_copies 57 = .ok (.goto (-31), 3) := by decide +kernel
theorem dX5_copies_60 : decode cX5_copies 60 = .ok (.return_, 1) := by decide +kernel
theorem dX5_isMany_0 : decode cX5_isMany 0 = .ok (.iload_n 0, 1) := by decide +kernel
theorem dX5_isMany_1 : decode cX5_isMany 1 = .ok (.ifCond .lt 13, 3) := by decide +kernel
theorem dX5_isMany_4 : decode cX5_isMany 4 = .ok (.iload_n 0, 1) := by decide +kernel
theorem dX5_isMany_5 : decode cX5_isMany 5 = .ok (.bipush 60, 2) := by decide +kernel
theorem dX5_isMany_7 : decode cX5_isMany 7 = .ok (.if_icmp .gt 7, 3) := by decide +kernel
theorem dX5_isMany_10 : decode cX5_isMany 10 = .ok (.iconst 1, 1) := by decide +kernel
theorem dX5_isMany_11 : decode cX5_isMany 11 = .ok (.goto 4, 3) := by decide +kernel
theorem dX5_isMany_14 : decode cX5_isMany 14 = .ok (.iconst 0, 1) := by decide +kernel
theorem dX5_isMany_15 : decode cX5_isMany 15 = .ok (.ireturn, 1) := by decide +kernel
set_option maxRecDepth 20000 in
theorem ggX5_step_X5_isWalk : GoodIn wsX5_step wsX5_isWalk := goodIn_r _ [6, 7, 8, 9, 10, 11, 5, 12, 62, 63, 64, 65, 66, 67, 68, 69, 70, 71, 72, 73, 74, 75] (by decide +kernel) (by decide +kernel)
set_option maxRecDepth 20000 in
theorem gX5_step_X5_isWalk : GoodIn wsX5_step (wsV RX5 82 RX5 yX5_isWalk wsX5_isWalk) := goodIn_app (goodIn_of _ (by decide +kernel)) ggX5_step_X5_isWalk
set_option maxRecDepth 20000 in
theorem ggX5_step_X5_isMany : GoodIn wsX5_step wsX5_isMany := goodIn_r _ [15] (by decide +kernel) (by decide +kernel)
set_option maxRecDepth 20000 in
theorem gX5_step_X5_isMany : GoodIn wsX5_step (va_wsS RX5 116 yX5_isMany wsX5_isMany) := goodIn_app (goodIn_of _ (by decide +kernel)) ggX5_step_X5_isMany
set_option maxRecDepth 20000 in
theorem ggX5_step_X5_right : GoodIn wsX5_step wsX5_right := goodIn_r _ [12, 7, 62, 63, 64, 65, 66, 67, 68, 69, 70, 71, 72, 73, 74, 75] (by decide +kernel) (by decide +kernel)
set_option maxRecDepth 20000 in
theorem gX5_step_X5_right : GoodIn wsX5_step (wsV RX5 52 RX5 yX5_right wsX5_right) := goodIn_app (goodIn_of _ (by decide +kernel)) ggX5_step_X5_right
set_option maxRecDepth 20000 in
theorem ggX5_step_X5_weight : GoodIn wsX5_step wsX5_weight := goodIn_r _ [19, 20, 21, 22, 5, 23, 24, 62, 63, 64, 65, 66, 67, 68, 69, 70, 71, 72, 73, 74, 75] (by decide +kernel) (by decide +kernel)
set_option maxRecDepth 20000 in
theorem gX5_step_X5_weight : GoodIn wsX5_step (wsV RX5 93 RX5 yX5_weight wsX5_weight) := goodIn_app (goodIn_of _ (by decide +kernel)) ggX5_step_X5_weight
set_option maxRecDepth 20000 in
theorem ggX5_step_X5_copies : GoodIn wsX5_step wsX5_copies := goodIn_r _ [28, 29, 1, 24, 62, 63, 64, 65, 66, 67, 68, 69, 70, 71, 72, 73, 74, 75] (by decide +kernel) (by decide +kernel)
set_option maxRecDepth 20000 in
theorem gX5_step_X5_copies : GoodIn wsX5_step (wsV RX5 119 RX5 yX5_copies wsX5_copies) := goodIn_app (goodIn_of _ (by decide +kernel)) ggX5_step_X5_copies
set_option maxRecDepth 20000 in
theorem ggX5_step_X5_goesOn : GoodIn wsX5_step wsX5_goesOn := goodIn_r _ [33, 1, 34, 16, 17, 18, 5, 19, 20, 21, 22, 23, 24, 35, 36, 37, 38, 39, 29, 62, 63, 64, 65, 66, 67, 68, 69, 70, 71, 72, 73, 74, 75] (by decide +kernel) (by decide +kernel)
set_option maxRecDepth 20000 in
theorem gX5_step_X5_goesOn : GoodIn wsX5_step (wsV RX5 123 RX5 yX5_goesOn wsX5_goesOn) := goodIn_app (goodIn_of _ (by decide +kernel)) ggX5_step_X5_goesOn
set_option maxRecDepth 20000 in
theorem ggX5_step_X5_steps : GoodIn wsX5_step wsX5_steps := goodIn_r _ [43, 1, 44, 45, 46, 5, 47, 48, 29, 49, 24, 50, 51, 52, 53, 39, 54, 55, 56, 57, 58, 59, 60, 61, 62, 63, 64, 65, 66, 67, 68, 69, 70, 71, 72, 73, 74, 75] (by decide +kernel) (by decide +kernel)
set_option maxRecDepth 20000 in
theorem gX5_step_X5_steps : GoodIn wsX5_step (wsV RX5 126 RX5 yX5_steps wsX5_steps) := goodIn_app (goodIn_of _ (by decide +kernel)) ggX5_step_X5_steps
theorem dX5_step_0 : decode cX5_step 0 = .ok (.aload_n 0, 1) := by decide +kernel
theorem dX5_step_1 : decode cX5_step 1 = .ok (.iload_n 1, 1) := by decide +kernel
theorem dX5_step_2 : decode cX5_step 2 = .ok (.invokevirtual 82, 3) := by decide +kernel
theorem dX5_step_5 : decode cX5_step 5 = .ok (.ifCond .eq 15, 3) := by decide +kernel
theorem dX5_step_8 : decode cX5_step 8 = .ok (.aload_n 0, 1) := by decide +kernel
theorem dX5_step_9 : decode cX5_step 9 = .ok (.iload_n 2, 1) := by decide +kernel
theorem dX5_step_10 : decode cX5_step 10 = .ok (.invokestatic 116, 3) := by decide +kernel
theorem dX5_step_13 : decode cX5_step 13 = .ok (.iconst 2, 1) := by decide +kernel
theorem dX5_step_14 : decode cX5_step 14 = .ok (.invokevirtual 52, 3) := by decide +kernel
theorem dX5_step_17 : decode cX5_step 17 = .ok (.ifCond .ne 5, 3) := by decide +kernel
theorem dX5_step_20 : decode cX5_step 20 = .ok (.iconst 0, 1) := by decide +kernel
theorem dX5_step_21 : decode cX5_step 21 = .ok (.ireturn, 1) := by decide +kernel
theorem dX5_step_22 : decode cX5_step 22 = .ok (.aload_n 0, 1) := by decide +kernel
theorem dX5_step_23 : decode cX5_step 23 = .ok (.iload_n 1, 1) := by decide +kernel
theorem dX5_step_24 : decode cX5_step 24 = .ok (.invokevirtual 93, 3) := by decide +kernel
theorem dX5_step_27 : decode cX5_step 27 = .ok (.lconst 0, 1) := by decide +kernel
theorem dX5_step_28 : decode cX5_step 28 = .ok (.lcmp, 1) := by decide +kernel
theorem dX5_step_29 : decode cX5_step 29 = .ok (.ifCond .ne 5, 3) := by decide +kernel
theorem dX5_step_32 : decode cX5_step 32 = .ok (.iconst (-1), 1) := by decide +kernel
theorem dX5_step_33 : decode cX5_step 33 = .ok (.ireturn, 1) := by decide +kernel
theorem dX5_step_34 : decode cX5_step 34 = .ok (.aload_n 0, 1) := by decide +kernel
theorem dX5_step_35 : decode cX5_step 35 = .ok (.iload_n 1, 1) := by decide +kernel
theorem dX5_step_36 : decode cX5_step 36 = .ok (.bipush 12, 2) := by decide +kernel
theorem dX5_step_38 : decode cX5_step 38 = .ok (.invokevirtual 119, 3) := by decide +kernel
theorem dX5_step_41 : decode cX5_step 41 = .ok (.iconst 0, 1) := by decide +kernel
theorem dX5_step_42 : decode cX5_step 42 = .ok (.istore_n 3, 1) := by decide +kernel
theorem dX5_step_43 : decode cX5_step 43 = .ok (.iload_n 3, 1) := by decide +kernel
theorem dX5_step_44 : decode cX5_step 44 = .ok (.iload_n 2, 1) := by decide +kernel
theorem dX5_step_45 : decode cX5_step 45 = .ok (.if_icmp .ge 26, 3) := by decide +kernel
theorem dX5_step_48 : decode cX5_step 48 = .ok (.aload_n 0, 1) := by decide +kernel
theorem dX5_step_49 : decode cX5_step 49 = .ok (.bipush 12, 2) := by decide +kernel
theorem dX5_step_51 : decode cX5_step 51 = .ok (.invokevirtual 123, 3) := by decide +kernel
theorem dX5_step_54 : decode cX5_step 54 = .ok (.ifCond .ne 5, 3) := by decide +kernel
theorem dX5_step_57 : decode cX5_step 57 = .ok (.iconst (-1), 1) := by decide +kernel
theorem dX5_step_58 : decode cX5_step 58 = .ok (.ireturn, 1) := by decide +kernel
theorem dX5_step_59 : decode cX5_step 59 = .ok (.aload_n 0, 1) := by decide +kernel
theorem dX5_step_60 : decode cX5_step 60 = .ok (.bipush 12, 2) := by decide +kernel
theorem dX5_step_62 : decode cX5_step 62 = .ok (.invokevirtual 126, 3) := by decide +kernel
theorem dX5_step_65 : decode cX5_step 65 = .ok (.iinc 3 1, 3) := by decide +kernel
theorem dX5_step_68 : decode cX5_step 68 = .ok (.goto (-25), 3) := by decide +kernel
theorem dX5_step_71 : decode cX5_step 71 = .ok (.aload_n 0, 1) := by decide +kernel
theorem dX5_step_72 : decode cX5_step 72 = .ok (.bipush 12, 2) := by decide +kernel
theorem dX5_step_74 : decode cX5_step 74 = .ok (.iload_n 1, 1) := by decide +kernel
theorem dX5_step_75 : decode cX5_step 75 = .ok (.invokevirtual 119, 3) := by decide +kernel
theorem dX5_step_78 : decode cX5_step 78 = .ok (.aload_n 0, 1) := by decide +kernel
theorem dX5_step_79 : decode cX5_step 79 = .ok (.getfield 29, 3) := by decide +kernel
theorem dX5_step_82 : decode cX5_step 82 = .ok (.iload_n 1, 1) := by decide +kernel
theorem dX5_step_83 : decode cX5_step 83 = .ok (.iaload, 1) := by decide +kernel
theorem dX5_step_84 : decode cX5_step 84 = .ok (.ireturn, 1) := by decide +kernel
set_option maxRecDepth 20000 in
theorem ggX5_back_X5_isWalk : GoodIn wsX5_back wsX5_isWalk := goodIn_r _ [7, 8, 9, 10, 11, 12, 6, 13, 41, 42, 43, 44, 45, 46, 47, 48, 49, 50, 51, 52, 53, 54] (by decide +kernel) (by decide +kernel)
set_option maxRecDepth 20000 in
theorem gX5_back_X5_isWalk : GoodIn wsX5_back (wsV RX5 82 RX5 yX5_isWalk wsX5_isWalk) := goodIn_app (goodIn_of _ (by decide +kernel)) ggX5_back_X5_isWalk
set_option maxRecDepth 20000 in
theorem ggX5_back_X5_isMany : GoodIn wsX5_back wsX5_isMany := goodIn_r _ [16] (by decide +kernel) (by decide +kernel)
set_option maxRecDepth 20000 in
theorem gX5_back_X5_isMany : GoodIn wsX5_back (va_wsS RX5 116 yX5_isMany wsX5_isMany) := goodIn_app (goodIn_of _ (by decide +kernel)) ggX5_back_X5_isMany
set_option maxRecDepth 20000 in
theorem ggX5_back_X5_right : GoodIn wsX5_back wsX5_right := goodIn_r _ [13, 8, 41, 42, 43, 44, 45, 46, 47, 48, 49, 50, 51, 52, 53, 54] (by decide +kernel) (by decide +kernel)
set_option maxRecDepth 20000 in
theorem gX5_back_X5_right : GoodIn wsX5_back (wsV RX5 52 RX5 yX5_right wsX5_right) := goodIn_app (goodIn_of _ (by decide +kernel)) ggX5_back_X5_right
set_option maxRecDepth 20000 in
theorem ggX5_back_X5_goes : GoodIn wsX5_back wsX5_goes := goodIn_r _ [20, 21, 2, 22, 23, 41, 42, 43, 44, 45, 46, 47, 48, 49, 50, 51, 52, 53, 54] (by decide +kernel) (by decide +kernel)
set_option maxRecDepth 20000 in
theorem gX5_back_X5_goes : GoodIn wsX5_back (wsV RX5 113 RX5 yX5_goes wsX5_goes) := goodIn_app (goodIn_of _ (by decide +kernel)) ggX5_back_X5_goes
set_option maxRecDepth 20000 in
theorem ggX5_back_X5_turns : GoodIn wsX5_back wsX5_turns := goodIn_r _ [27, 23, 28, 29, 2, 30, 31, 41, 42, 43, 44, 45, 46, 47, 48, 49, 50, 51, 52, 53, 54] (by decide +kernel) (by decide +kernel)
set_option maxRecDepth 20000 in
theorem gX5_back_X5_turns : GoodIn wsX5_back (wsV RX5 110 RX5 yX5_turns wsX5_turns) := goodIn_app (goodIn_of _ (by decide +kernel)) ggX5_back_X5_turns
set_option maxRecDepth 20000 in
theorem ggX5_back_X5_scale : GoodIn wsX5_back wsX5_scale := goodIn_r _ [35, 28, 23, 41, 42, 43, 44, 45, 46, 47, 48, 49, 50, 51, 52, 53, 54] (by decide +kernel) (by decide +kernel)
set_option maxRecDepth 20000 in
theorem gX5_back_X5_scale : GoodIn wsX5_back (wsV RX5 99 RX5 yX5_scale wsX5_scale) := goodIn_app (goodIn_of _ (by decide +kernel)) ggX5_back_X5_scale
set_option maxRecDepth 20000 in
theorem ggX5_back_X5_signs : GoodIn wsX5_back wsX5_signs := goodIn_r _ [39, 29, 23, 40, 2, 41, 42, 43, 44, 45, 46, 47, 48, 49, 50, 51, 52, 53, 54] (by decide +kernel) (by decide +kernel)
set_option maxRecDepth 20000 in
theorem gX5_back_X5_signs : GoodIn wsX5_back (wsV RX5 106 RX5 yX5_signs wsX5_signs) := goodIn_app (goodIn_of _ (by decide +kernel)) ggX5_back_X5_signs
theorem dX5_back_0 : decode cX5_back 0 = .ok (.aload_n 0, 1) := by decide +kernel
theorem dX5_back_1 : decode cX5_back 1 = .ok (.iload_n 1, 1) := by decide +kernel
theorem dX5_back_2 : decode cX5_back 2 = .ok (.invokevirtual 82, 3) := by decide +kernel
theorem dX5_back_5 : decode cX5_back 5 = .ok (.ifCond .eq 15, 3) := by decide +kernel
theorem dX5_back_8 : decode cX5_back 8 = .ok (.aload_n 0, 1) := by decide +kernel
theorem dX5_back_9 : decode cX5_back 9 = .ok (.iload_n 2, 1) := by decide +kernel
theorem dX5_back_10 : decode cX5_back 10 = .ok (.invokestatic 116, 3) := by decide +kernel
theorem dX5_back_13 : decode cX5_back 13 = .ok (.iconst 2, 1) := by decide +kernel
theorem dX5_back_14 : decode cX5_back 14 = .ok (.invokevirtual 52, 3) := by decide +kernel
theorem dX5_back_17 : decode cX5_back 17 = .ok (.ifCond .ne 5, 3) := by decide +kernel
theorem dX5_back_20 : decode cX5_back 20 = .ok (.iconst 0, 1) := by decide +kernel
theorem dX5_back_21 : decode cX5_back 21 = .ok (.ireturn, 1) := by decide +kernel
theorem dX5_back_22 : decode cX5_back 22 = .ok (.aload_n 0, 1) := by decide +kernel
theorem dX5_back_23 : decode cX5_back 23 = .ok (.getfield 29, 3) := by decide +kernel
theorem dX5_back_26 : decode cX5_back 26 = .ok (.iload_n 1, 1) := by decide +kernel
theorem dX5_back_27 : decode cX5_back 27 = .ok (.iaload, 1) := by decide +kernel
theorem dX5_back_28 : decode cX5_back 28 = .ok (.iload_n 2, 1) := by decide +kernel
theorem dX5_back_29 : decode cX5_back 29 = .ok (.if_icmp .ge 5, 3) := by decide +kernel
theorem dX5_back_32 : decode cX5_back 32 = .ok (.iconst (-1), 1) := by decide +kernel
theorem dX5_back_33 : decode cX5_back 33 = .ok (.ireturn, 1) := by decide +kernel
theorem dX5_back_34 : decode cX5_back 34 = .ok (.iconst 0, 1) := by decide +kernel
theorem dX5_back_35 : decode cX5_back 35 = .ok (.istore_n 3, 1) := by decide +kernel
theorem dX5_back_36 : decode cX5_back 36 = .ok (.iload_n 3, 1) := by decide +kernel
theorem dX5_back_37 : decode cX5_back 37 = .ok (.iload_n 2, 1) := by decide +kernel
theorem dX5_back_38 : decode cX5_back 38 = .ok (.if_icmp .ge 71, 3) := by decide +kernel
theorem dX5_back_41 : decode cX5_back 41 = .ok (.aload_n 0, 1) := by decide +kernel
theorem dX5_back_42 : decode cX5_back 42 = .ok (.iload_n 1, 1) := by decide +kernel
theorem dX5_back_43 : decode cX5_back 43 = .ok (.invokevirtual 113, 3) := by decide +kernel
theorem dX5_back_46 : decode cX5_back 46 = .ok (.aload_n 0, 1) := by decide +kernel
theorem dX5_back_47 : decode cX5_back 47 = .ok (.iload_n 1, 1) := by decide +kernel
theorem dX5_back_48 : decode cX5_back 48 = .ok (.invokevirtual 110, 3) := by decide +kernel
theorem dX5_back_51 : decode cX5_back 51 = .ok (.iconst 0, 1) := by decide +kernel
theorem dX5_back_52 : decode cX5_back 52 = .ok (.istore 4, 2) := by decide +kernel
theorem dX5_back_54 : decode cX5_back 54 = .ok (.iload 4, 2) := by decide +kernel
theorem dX5_back_56 : decode cX5_back 56 = .ok (.bipush 48, 2) := by decide +kernel
theorem dX5_back_58 : decode cX5_back 58 = .ok (.if_icmp .ge 30, 3) := by decide +kernel
theorem dX5_back_61 : decode cX5_back 61 = .ok (.aload_n 0, 1) := by decide +kernel
theorem dX5_back_62 : decode cX5_back 62 = .ok (.getfield 32, 3) := by decide +kernel
theorem dX5_back_65 : decode cX5_back 65 = .ok (.bipush 48, 2) := by decide +kernel
theorem dX5_back_67 : decode cX5_back 67 = .ok (.iload_n 1, 1) := by decide +kernel
theorem dX5_back_68 : decode cX5_back 68 = .ok (.imul, 1) := by decide +kernel
theorem dX5_back_69 : decode cX5_back 69 = .ok (.iload 4, 2) := by decide +kernel
theorem dX5_back_71 : decode cX5_back 71 = .ok (.iadd, 1) := by decide +kernel
theorem dX5_back_72 : decode cX5_back 72 = .ok (.dup2, 1) := by decide +kernel
theorem dX5_back_73 : decode cX5_back 73 = .ok (.laload, 1) := by decide +kernel
theorem dX5_back_74 : decode cX5_back 74 = .ok (.aload_n 0, 1) := by decide +kernel
theorem dX5_back_75 : decode cX5_back 75 = .ok (.iload_n 1, 1) := by decide +kernel
theorem dX5_back_76 : decode cX5_back 76 = .ok (.invokevirtual 99, 3) := by decide +kernel
theorem dX5_back_79 : decode cX5_back 79 = .ok (.i2l, 1) := by decide +kernel
theorem dX5_back_80 : decode cX5_back 80 = .ok (.ldiv, 1) := by decide +kernel
theorem dX5_back_81 : decode cX5_back 81 = .ok (.lastore, 1) := by decide +kernel
theorem dX5_back_82 : decode cX5_back 82 = .ok (.iinc 4 1, 3) := by decide +kernel
theorem dX5_back_85 : decode cX5_back 85 = .ok (.goto (-31), 3) := by decide +kernel
theorem dX5_back_88 : decode cX5_back 88 = .ok (.aload_n 0, 1) := by decide +kernel
theorem dX5_back_89 : decode cX5_back 89 = .ok (.iload_n 1, 1) := by decide +kernel
theorem dX5_back_90 : decode cX5_back 90 = .ok (.invokevirtual 106, 3) := by decide +kernel
theorem dX5_back_93 : decode cX5_back 93 = .ok (.aload_n 0, 1) := by decide +kernel
theorem dX5_back_94 : decode cX5_back 94 = .ok (.getfield 29, 3) := by decide +kernel
theorem dX5_back_97 : decode cX5_back 97 = .ok (.iload_n 1, 1) := by decide +kernel
theorem dX5_back_98 : decode cX5_back 98 = .ok (.dup2, 1) := by decide +kernel
theorem dX5_back_99 : decode cX5_back 99 = .ok (.iaload, 1) := by decide +kernel
theorem dX5_back_100 : decode cX5_back 100 = .ok (.iconst 1, 1) := by decide +kernel
theorem dX5_back_101 : decode cX5_back 101 = .ok (.isub, 1) := by decide +kernel
theorem dX5_back_102 : decode cX5_back 102 = .ok (.iastore, 1) := by decide +kernel
theorem dX5_back_103 : decode cX5_back 103 = .ok (.iinc 3 1, 3) := by decide +kernel
theorem dX5_back_106 : decode cX5_back 106 = .ok (.goto (-70), 3) := by decide +kernel
theorem dX5_back_109 : decode cX5_back 109 = .ok (.aload_n 0, 1) := by decide +kernel
theorem dX5_back_110 : decode cX5_back 110 = .ok (.getfield 29, 3) := by decide +kernel
theorem dX5_back_113 : decode cX5_back 113 = .ok (.iload_n 1, 1) := by decide +kernel
theorem dX5_back_114 : decode cX5_back 114 = .ok (.iaload, 1) := by decide +kernel
theorem dX5_back_115 : decode cX5_back 115 = .ok (.ireturn, 1) := by decide +kernel
set_option maxRecDepth 20000 in
theorem ggX5_at_X5_isWalk : GoodIn wsX5_at wsX5_isWalk := goodIn_r _ [7, 8, 9, 10, 11, 12, 6, 13, 20, 21, 22, 23, 24, 25, 26, 27, 28, 29, 30, 31, 32, 33] (by decide +kernel) (by decide +kernel)
set_option maxRecDepth 20000 in
theorem gX5_at_X5_isWalk : GoodIn wsX5_at (wsV RX5 82 RX5 yX5_isWalk wsX5_isWalk) := goodIn_app (goodIn_of _ (by decide +kernel)) ggX5_at_X5_isWalk
set_option maxRecDepth 20000 in
theorem ggX5_at_X5_isDoor : GoodIn wsX5_at wsX5_isDoor := goodIn_r _ [17, 18, 19, 10, 11, 12, 6, 13, 8, 20, 21, 22, 23, 24, 25, 26, 27, 28, 29, 30, 31, 32, 33] (by decide +kernel) (by decide +kernel)
set_option maxRecDepth 20000 in
theorem gX5_at_X5_isDoor : GoodIn wsX5_at (wsV RX5 60 RX5 yX5_isDoor wsX5_isDoor) := goodIn_app (goodIn_of _ (by decide +kernel)) ggX5_at_X5_isDoor
theorem dX5_at_0 : decode cX5_at 0 = .ok (.aload_n 0, 1) := by decide +kernel
theorem dX5_at_1 : decode cX5_at 1 = .ok (.iload_n 1, 1) := by decide +kernel
theorem dX5_at_2 : decode cX5_at 2 = .ok (.invokevirtual 82, 3) := by decide +kernel
theorem dX5_at_5 : decode cX5_at 5 = .ok (.ifCond .eq 36, 3) := by decide +kernel
theorem dX5_at_8 : decode cX5_at 8 = .ok (.aload_n 0, 1) := by decide +kernel
theorem dX5_at_9 : decode cX5_at 9 = .ok (.aload_n 0, 1) := by decide +kernel
theorem dX5_at_10 : decode cX5_at 10 = .ok (.getfield 26, 3) := by decide +kernel
theorem dX5_at_13 : decode cX5_at 13 = .ok (.iload_n 1, 1) := by decide +kernel
theorem dX5_at_14 : decode cX5_at 14 = .ok (.iaload, 1) := by decide +kernel
theorem dX5_at_15 : decode cX5_at 15 = .ok (.iload_n 2, 1) := by decide +kernel
theorem dX5_at_16 : decode cX5_at 16 = .ok (.iload_n 3, 1) := by decide +kernel
theorem dX5_at_17 : decode cX5_at 17 = .ok (.invokevirtual 60, 3) := by decide +kernel
theorem dX5_at_20 : decode cX5_at 20 = .ok (.ifCond .eq 21, 3) := by decide +kernel
theorem dX5_at_23 : decode cX5_at 23 = .ok (.aload_n 0, 1) := by decide +kernel
theorem dX5_at_24 : decode cX5_at 24 = .ok (.getfield 32, 3) := by decide +kernel
theorem dX5_at_27 : decode cX5_at 27 = .ok (.bipush 48, 2) := by decide +kernel
theorem dX5_at_29 : decode cX5_at 29 = .ok (.iload_n 1, 1) := by decide +kernel
theorem dX5_at_30 : decode cX5_at 30 = .ok (.imul, 1) := by decide +kernel
theorem dX5_at_31 : decode cX5_at 31 = .ok (.iconst 4, 1) := by decide +kernel
theorem dX5_at_32 : decode cX5_at 32 = .ok (.iload_n 2, 1) := by decide +kernel
theorem dX5_at_33 : decode cX5_at 33 = .ok (.imul, 1) := by decide +kernel
theorem dX5_at_34 : decode cX5_at 34 = .ok (.iadd, 1) := by decide +kernel
theorem dX5_at_35 : decode cX5_at 35 = .ok (.iload_n 3, 1) := by decide +kernel
theorem dX5_at_36 : decode cX5_at 36 = .ok (.iadd, 1) := by decide +kernel
theorem dX5_at_37 : decode cX5_at 37 = .ok (.laload, 1) := by decide +kernel
theorem dX5_at_38 : decode cX5_at 38 = .ok (.goto 4, 3) := by decide +kernel
theorem dX5_at_41 : decode cX5_at 41 = .ok (.lconst 0, 1) := by decide +kernel
theorem dX5_at_42 : decode cX5_at 42 = .ok (.lreturn, 1) := by decide +kernel
set_option maxRecDepth 20000 in
theorem ggX5_share_X5_isWalk : GoodIn wsX5_share wsX5_isWalk := goodIn_r _ [5, 6, 7, 8, 9, 10, 4, 11, 27, 28, 29, 30, 31, 32, 33, 34, 35, 36, 37, 38, 39, 40] (by decide +kernel) (by decide +kernel)
set_option maxRecDepth 20000 in
theorem gX5_share_X5_isWalk : GoodIn wsX5_share (wsV RX5 82 RX5 yX5_isWalk wsX5_isWalk) := goodIn_app (goodIn_of _ (by decide +kernel)) ggX5_share_X5_isWalk
set_option maxRecDepth 20000 in
theorem ggX5_share_X5_weight : GoodIn wsX5_share wsX5_weight := goodIn_r _ [15, 16, 17, 18, 4, 19, 20, 27, 28, 29, 30, 31, 32, 33, 34, 35, 36, 37, 38, 39, 40] (by decide +kernel) (by decide +kernel)
set_option maxRecDepth 20000 in
theorem gX5_share_X5_weight : GoodIn wsX5_share (wsV RX5 93 RX5 yX5_weight wsX5_weight) := goodIn_app (goodIn_of _ (by decide +kernel)) ggX5_share_X5_weight
set_option maxRecDepth 20000 in
theorem ggX5_share_X5_isIn : GoodIn wsX5_share wsX5_isIn := goodIn_r _ [24, 25, 26, 8, 9, 10, 4, 11, 6, 27, 28, 29, 30, 31, 32, 33, 34, 35, 36, 37, 38, 39, 40] (by decide +kernel) (by decide +kernel)
set_option maxRecDepth 20000 in
theorem gX5_share_X5_isIn : GoodIn wsX5_share (wsV RX5 129 RX5 yX5_isIn wsX5_isIn) := goodIn_app (goodIn_of _ (by decide +kernel)) ggX5_share_X5_isIn
set_option maxRecDepth 20000 in
theorem ggX5_share_X5_shareOf : GoodIn wsX5_share wsX5_shareOf := goodIn_r _ [19, 20, 27, 28, 29, 30, 31, 32, 33, 34, 35, 36, 37, 38, 39, 40] (by decide +kernel) (by decide +kernel)
set_option maxRecDepth 20000 in
theorem gX5_share_X5_shareOf : GoodIn wsX5_share (wsV RX5 89 RX5 yX5_shareOf wsX5_shareOf) := goodIn_app (goodIn_of _ (by decide +kernel)) ggX5_share_X5_shareOf
theorem dX5_share_0 : decode cX5_share 0 = .ok (.aload_n 0, 1) := by decide +kernel
theorem dX5_share_1 : decode cX5_share 1 = .ok (.iload_n 1, 1) := by decide +kernel
theorem dX5_share_2 : decode cX5_share 2 = .ok (.invokevirtual 82, 3) := by decide +kernel
theorem dX5_share_5 : decode cX5_share 5 = .ok (.ifCond .ne 5, 3) := by decide +kernel
theorem dX5_share_8 : decode cX5_share 8 = .ok (.lconst 0, 1) := by decide +kernel
theorem dX5_share_9 : decode cX5_share 9 = .ok (.lreturn, 1) := by decide +kernel
theorem dX5_share_10 : decode cX5_share 10 = .ok (.iload_n 2, 1) := by decide +kernel
theorem dX5_share_11 : decode cX5_share 11 = .ok (.iconst (-1), 1) := by decide +kernel
theorem dX5_share_12 : decode cX5_share 12 = .ok (.if_icmp .ne 9, 3) := by decide +kernel
theorem dX5_share_15 : decode cX5_share 15 = .ok (.aload_n 0, 1) := by decide +kernel
theorem dX5_share_16 : decode cX5_share 16 = .ok (.iload_n 1, 1) := by decide +kernel
theorem dX5_share_17 : decode cX5_share 17 = .ok (.invokevirtual 93, 3) := by decide +kernel
theorem dX5_share_20 : decode cX5_share 20 = .ok (.lreturn, 1) := by decide +kernel
theorem dX5_share_21 : decode cX5_share 21 = .ok (.aload_n 0, 1) := by decide +kernel
theorem dX5_share_22 : decode cX5_share 22 = .ok (.iload_n 1, 1) := by decide +kernel
theorem dX5_share_23 : decode cX5_share 23 = .ok (.iload_n 2, 1) := by decide +kernel
theorem dX5_share_24 : decode cX5_share 24 = .ok (.invokevirtual 129, 3) := by decide +kernel
theorem dX5_share_27 : decode cX5_share 27 = .ok (.ifCond .eq 12, 3) := by decide +kernel
theorem dX5_share_30 : decode cX5_share 30 = .ok (.aload_n 0, 1) := by decide +kernel
theorem dX5_share_31 : decode cX5_share 31 = .ok (.iload_n 1, 1) := by decide +kernel
theorem dX5_share_32 : decode cX5_share 32 = .ok (.iload_n 2, 1) := by decide +kernel
theorem dX5_share_33 : decode cX5_share 33 = .ok (.invokevirtual 89, 3) := by decide +kernel
theorem dX5_share_36 : decode cX5_share 36 = .ok (.goto 4, 3) := by decide +kernel
theorem dX5_share_39 : decode cX5_share 39 = .ok (.lconst 0, 1) := by decide +kernel
theorem dX5_share_40 : decode cX5_share 40 = .ok (.lreturn, 1) := by decide +kernel
set_option maxRecDepth 20000 in
theorem ggX5_of_X5_isWalk : GoodIn wsX5_of wsX5_isWalk := goodIn_r _ [7, 8, 9, 10, 11, 12, 6, 13, 19, 20, 21, 22, 23, 24, 25, 26, 27, 28, 29, 30, 31, 32] (by decide +kernel) (by decide +kernel)
set_option maxRecDepth 20000 in
theorem gX5_of_X5_isWalk : GoodIn wsX5_of (wsV RX5 82 RX5 yX5_isWalk wsX5_isWalk) := goodIn_app (goodIn_of _ (by decide +kernel)) ggX5_of_X5_isWalk
set_option maxRecDepth 20000 in
theorem ggX5_of_X5_right : GoodIn wsX5_of wsX5_right := goodIn_r _ [13, 8, 19, 20, 21, 22, 23, 24, 25, 26, 27, 28, 29, 30, 31, 32] (by decide +kernel) (by decide +kernel)
set_option maxRecDepth 20000 in
theorem gX5_of_X5_right : GoodIn wsX5_of (wsV RX5 52 RX5 yX5_right wsX5_right) := goodIn_app (goodIn_of _ (by decide +kernel)) ggX5_of_X5_right
set_option maxRecDepth 20000 in
theorem ggX5_of_X5_scale : GoodIn wsX5_of wsX5_scale := goodIn_r _ [17, 18, 1, 19, 20, 21, 22, 23, 24, 25, 26, 27, 28, 29, 30, 31, 32] (by decide +kernel) (by decide +kernel)
set_option maxRecDepth 20000 in
theorem gX5_of_X5_scale : GoodIn wsX5_of (wsV RX5 99 RX5 yX5_scale wsX5_scale) := goodIn_app (goodIn_of _ (by decide +kernel)) ggX5_of_X5_scale
theorem dX5_of_0 : decode cX5_of 0 = .ok (.aload_n 0, 1) := by decide +kernel
theorem dX5_of_1 : decode cX5_of 1 = .ok (.iload_n 1, 1) := by decide +kernel
theorem dX5_of_2 : decode cX5_of 2 = .ok (.invokevirtual 82, 3) := by decide +kernel
theorem dX5_of_5 : decode cX5_of 5 = .ok (.ifCond .eq 25, 3) := by decide +kernel
theorem dX5_of_8 : decode cX5_of 8 = .ok (.aload_n 0, 1) := by decide +kernel
theorem dX5_of_9 : decode cX5_of 9 = .ok (.iload_n 2, 1) := by decide +kernel
theorem dX5_of_10 : decode cX5_of 10 = .ok (.ifCond .lt 12, 3) := by decide +kernel
theorem dX5_of_13 : decode cX5_of 13 = .ok (.iload_n 2, 1) := by decide +kernel
theorem dX5_of_14 : decode cX5_of 14 = .ok (.iconst 2, 1) := by decide +kernel
theorem dX5_of_15 : decode cX5_of 15 = .ok (.if_icmp .gt 7, 3) := by decide +kernel
theorem dX5_of_18 : decode cX5_of 18 = .ok (.iconst 1, 1) := by decide +kernel
theorem dX5_of_19 : decode cX5_of 19 = .ok (.goto 4, 3) := by decide +kernel
theorem dX5_of_22 : decode cX5_of 22 = .ok (.iconst 0, 1) := by decide +kernel
theorem dX5_of_23 : decode cX5_of 23 = .ok (.iconst 1, 1) := by decide +kernel
theorem dX5_of_24 : decode cX5_of 24 = .ok (.invokevirtual 52, 3) := by decide +kernel
theorem dX5_of_27 : decode cX5_of 27 = .ok (.ifCond .ne 5, 3) := by decide +kernel
theorem dX5_of_30 : decode cX5_of 30 = .ok (.iconst 0, 1) := by decide +kernel
theorem dX5_of_31 : decode cX5_of 31 = .ok (.ireturn, 1) := by decide +kernel
theorem dX5_of_32 : decode cX5_of 32 = .ok (.iload_n 2, 1) := by decide +kernel
theorem dX5_of_33 : decode cX5_of 33 = .ok (.ifCond .ne 12, 3) := by decide +kernel
theorem dX5_of_36 : decode cX5_of 36 = .ok (.aload_n 0, 1) := by decide +kernel
theorem dX5_of_37 : decode cX5_of 37 = .ok (.getfield 26, 3) := by decide +kernel
theorem dX5_of_40 : decode cX5_of 40 = .ok (.iload_n 1, 1) := by decide +kernel
theorem dX5_of_41 : decode cX5_of 41 = .ok (.iaload, 1) := by decide +kernel
theorem dX5_of_42 : decode cX5_of 42 = .ok (.goto 22, 3) := by decide +kernel
theorem dX5_of_45 : decode cX5_of 45 = .ok (.iload_n 2, 1) := by decide +kernel
theorem dX5_of_46 : decode cX5_of 46 = .ok (.iconst 1, 1) := by decide +kernel
theorem dX5_of_47 : decode cX5_of 47 = .ok (.if_icmp .ne 12, 3) := by decide +kernel
theorem dX5_of_50 : decode cX5_of 50 = .ok (.aload_n 0, 1) := by decide +kernel
theorem dX5_of_51 : decode cX5_of 51 = .ok (.getfield 29, 3) := by decide +kernel
theorem dX5_of_54 : decode cX5_of 54 = .ok (.iload_n 1, 1) := by decide +kernel
theorem dX5_of_55 : decode cX5_of 55 = .ok (.iaload, 1) := by decide +kernel
theorem dX5_of_56 : decode cX5_of 56 = .ok (.goto 8, 3) := by decide +kernel
theorem dX5_of_59 : decode cX5_of 59 = .ok (.aload_n 0, 1) := by decide +kernel
theorem dX5_of_60 : decode cX5_of 60 = .ok (.iload_n 1, 1) := by decide +kernel
theorem dX5_of_61 : decode cX5_of 61 = .ok (.invokevirtual 99, 3) := by decide +kernel
theorem dX5_of_64 : decode cX5_of 64 = .ok (.ireturn, 1) := by decide +kernel
set_option maxRecDepth 20000 in
theorem ggX5_arrives_X5_isWalk : GoodIn wsX5_arrives wsX5_isWalk := goodIn_r _ [5, 6, 7, 8, 9, 10, 4, 11, 66, 67, 68, 69, 70, 71, 72, 73, 74, 75, 76, 77, 78, 79] (by decide +kernel) (by decide +kernel)
set_option maxRecDepth 20000 in
theorem gX5_arrives_X5_isWalk : GoodIn wsX5_arrives (wsV RX5 82 RX5 yX5_isWalk wsX5_isWalk) := goodIn_app (goodIn_of _ (by decide +kernel)) ggX5_arrives_X5_isWalk
set_option maxRecDepth 20000 in
theorem ggX5_arrives_X5_isIn : GoodIn wsX5_arrives wsX5_isIn := goodIn_r _ [15, 16, 17, 8, 9, 10, 4, 11, 6, 66, 67, 68, 69, 70, 71, 72, 73, 74, 75, 76, 77, 78, 79] (by decide +kernel) (by decide +kernel)
set_option maxRecDepth 20000 in
theorem gX5_arrives_X5_isIn : GoodIn wsX5_arrives (wsV RX5 129 RX5 yX5_isIn wsX5_isIn) := goodIn_app (goodIn_of _ (by decide +kernel)) ggX5_arrives_X5_isIn
set_option maxRecDepth 20000 in
theorem ggX5_arrives_X5_isMany : GoodIn wsX5_arrives wsX5_isMany := goodIn_r _ [20] (by decide +kernel) (by decide +kernel)
set_option maxRecDepth 20000 in
theorem gX5_arrives_X5_isMany : GoodIn wsX5_arrives (va_wsS RX5 116 yX5_isMany wsX5_isMany) := goodIn_app (goodIn_of _ (by decide +kernel)) ggX5_arrives_X5_isMany
set_option maxRecDepth 20000 in
theorem ggX5_arrives_X5_right : GoodIn wsX5_arrives wsX5_right := goodIn_r _ [11, 6, 66, 67, 68, 69, 70, 71, 72, 73, 74, 75, 76, 77, 78, 79] (by decide +kernel) (by decide +kernel)
set_option maxRecDepth 20000 in
theorem gX5_arrives_X5_right : GoodIn wsX5_arrives (wsV RX5 52 RX5 yX5_right wsX5_right) := goodIn_app (goodIn_of _ (by decide +kernel)) ggX5_arrives_X5_right
set_option maxRecDepth 20000 in
theorem ggX5_arrives_X5_copies : GoodIn wsX5_arrives wsX5_copies := goodIn_r _ [24, 17, 25, 26, 66, 67, 68, 69, 70, 71, 72, 73, 74, 75, 76, 77, 78, 79] (by decide +kernel) (by decide +kernel)
set_option maxRecDepth 20000 in
theorem gX5_arrives_X5_copies : GoodIn wsX5_arrives (wsV RX5 119 RX5 yX5_copies wsX5_copies) := goodIn_app (goodIn_of _ (by decide +kernel)) ggX5_arrives_X5_copies
set_option maxRecDepth 20000 in
theorem ggX5_arrives_X5_shareOf : GoodIn wsX5_arrives wsX5_shareOf := goodIn_r _ [30, 26, 66, 67, 68, 69, 70, 71, 72, 73, 74, 75, 76, 77, 78, 79] (by decide +kernel) (by decide +kernel)
set_option maxRecDepth 20000 in
theorem gX5_arrives_X5_shareOf : GoodIn wsX5_arrives (wsV RX5 89 RX5 yX5_shareOf wsX5_shareOf) := goodIn_app (goodIn_of _ (by decide +kernel)) ggX5_arrives_X5_shareOf
set_option maxRecDepth 20000 in
theorem ggX5_arrives_X5_weight : GoodIn wsX5_arrives wsX5_weight := goodIn_r _ [34, 27, 28, 29, 4, 30, 26, 66, 67, 68, 69, 70, 71, 72, 73, 74, 75, 76, 77, 78, 79] (by decide +kernel) (by decide +kernel)
set_option maxRecDepth 20000 in
theorem gX5_arrives_X5_weight : GoodIn wsX5_arrives (wsV RX5 93 RX5 yX5_weight wsX5_weight) := goodIn_app (goodIn_of _ (by decide +kernel)) ggX5_arrives_X5_weight
set_option maxRecDepth 20000 in
theorem ggX5_arrives_X5_goesOn : GoodIn wsX5_arrives wsX5_goesOn := goodIn_r _ [38, 25, 39, 31, 32, 33, 4, 34, 27, 28, 29, 30, 26, 40, 41, 42, 43, 44, 17, 66, 67, 68, 69, 70, 71, 72, 73, 74, 75, 76, 77, 78, 79] (by decide +kernel) (by decide +kernel)
set_option maxRecDepth 20000 in
theorem gX5_arrives_X5_goesOn : GoodIn wsX5_arrives (wsV RX5 123 RX5 yX5_goesOn wsX5_goesOn) := goodIn_app (goodIn_of _ (by decide +kernel)) ggX5_arrives_X5_goesOn
set_option maxRecDepth 20000 in
theorem ggX5_arrives_X5_steps : GoodIn wsX5_arrives wsX5_steps := goodIn_r _ [48, 25, 49, 50, 51, 4, 52, 16, 17, 53, 26, 54, 55, 56, 57, 44, 58, 59, 60, 61, 62, 63, 64, 65, 66, 67, 68, 69, 70, 71, 72, 73, 74, 75, 76, 77, 78, 79] (by decide +kernel) (by decide +kernel)
set_option maxRecDepth 20000 in
theorem gX5_arrives_X5_steps : GoodIn wsX5_arrives (wsV RX5 126 RX5 yX5_steps wsX5_steps) := goodIn_app (goodIn_of _ (by decide +kernel)) ggX5_arrives_X5_steps
theorem dX5_arrives_0 : decode cX5_arrives 0 = .ok (.aload_n 0, 1) := by decide +kernel
theorem dX5_arrives_1 : decode cX5_arrives 1 = .ok (.iload_n 1, 1) := by decide +kernel
theorem dX5_arrives_2 : decode cX5_arrives 2 = .ok (.invokevirtual 82, 3) := by decide +kernel
theorem dX5_arrives_5 : decode cX5_arrives 5 = .ok (.ifCond .eq 24, 3) := by decide +kernel
theorem dX5_arrives_8 : decode cX5_arrives 8 = .ok (.aload_n 0, 1) := by decide +kernel
theorem dX5_arrives_9 : decode cX5_arrives 9 = .ok (.iload_n 1, 1) := by decide +kernel
theorem dX5_arrives_10 : decode cX5_arrives 10 = .ok (.iload_n 2, 1) := by decide +kernel
theorem dX5_arrives_11 : decode cX5_arrives 11 = .ok (.invokevirtual 129, 3) := by decide +kernel
theorem dX5_arrives_14 : decode cX5_arrives 14 = .ok (.ifCond .eq 15, 3) := by decide +kernel
theorem dX5_arrives_17 : decode cX5_arrives 17 = .ok (.aload_n 0, 1) := by decide +kernel
theorem dX5_arrives_18 : decode cX5_arrives 18 = .ok (.iload_n 3, 1) := by decide +kernel
theorem dX5_arrives_19 : decode cX5_arrives 19 = .ok (.invokestatic 116, 3) := by decide +kernel
theorem dX5_arrives_22 : decode cX5_arrives 22 = .ok (.iconst 2, 1) := by decide +kernel
theorem dX5_arrives_23 : decode cX5_arrives 23 = .ok (.invokevirtual 52, 3) := by decide +kernel
theorem dX5_arrives_26 : decode cX5_arrives 26 = .ok (.ifCond .ne 5, 3) := by decide +kernel
theorem dX5_arrives_29 : decode cX5_arrives 29 = .ok (.iconst 0, 1) := by decide +kernel
theorem dX5_arrives_30 : decode cX5_arrives 30 = .ok (.ireturn, 1) := by decide +kernel
theorem dX5_arrives_31 : decode cX5_arrives 31 = .ok (.aload_n 0, 1) := by decide +kernel
theorem dX5_arrives_32 : decode cX5_arrives 32 = .ok (.iload_n 1, 1) := by decide +kernel
theorem dX5_arrives_33 : decode cX5_arrives 33 = .ok (.bipush 12, 2) := by decide +kernel
theorem dX5_arrives_35 : decode cX5_arrives 35 = .ok (.invokevirtual 119, 3) := by decide +kernel
theorem dX5_arrives_38 : decode cX5_arrives 38 = .ok (.iconst 0, 1) := by decide +kernel
theorem dX5_arrives_39 : decode cX5_arrives 39 = .ok (.istore 4, 2) := by decide +kernel
theorem dX5_arrives_41 : decode cX5_arrives 41 = .ok (.iload 4, 2) := by decide +kernel
theorem dX5_arrives_43 : decode cX5_arrives 43 = .ok (.iload_n 3, 1) := by decide +kernel
theorem dX5_arrives_44 : decode cX5_arrives 44 = .ok (.if_icmp .gt 57, 3) := by decide +kernel
theorem dX5_arrives_47 : decode cX5_arrives 47 = .ok (.aload_n 0, 1) := by decide +kernel
theorem dX5_arrives_48 : decode cX5_arrives 48 = .ok (.bipush 12, 2) := by decide +kernel
theorem dX5_arrives_50 : decode cX5_arrives 50 = .ok (.iload_n 2, 1) := by decide +kernel
theorem dX5_arrives_51 : decode cX5_arrives 51 = .ok (.invokevirtual 89, 3) := by decide +kernel
theorem dX5_arrives_54 : decode cX5_arrives 54 = .ok (.lstore 5, 2) := by decide +kernel
theorem dX5_arrives_56 : decode cX5_arrives 56 = .ok (.lload 5, 2) := by decide +kernel
theorem dX5_arrives_58 : decode cX5_arrives 58 = .ok (.lconst 0, 1) := by decide +kernel
theorem dX5_arrives_59 : decode cX5_arrives 59 = .ok (.lcmp, 1) := by decide +kernel
theorem dX5_arrives_60 : decode cX5_arrives 60 = .ok (.ifCond .le 18, 3) := by decide +kernel
theorem dX5_arrives_63 : decode cX5_arrives 63 = .ok (.lload 5, 2) := by decide +kernel
theorem dX5_arrives_65 : decode cX5_arrives 65 = .ok (.aload_n 0, 1) := by decide +kernel
theorem dX5_arrives_66 : decode cX5_arrives 66 = .ok (.bipush 12, 2) := by decide +kernel
theorem dX5_arrives_68 : decode cX5_arrives 68 = .ok (.invokevirtual 93, 3) := by decide +kernel
theorem dX5_arrives_71 : decode cX5_arrives 71 = .ok (.lcmp, 1) := by decide +kernel
theorem dX5_arrives_72 : decode cX5_arrives 72 = .ok (.ifCond .ne 6, 3) := by decide +kernel
theorem dX5_arrives_75 : decode cX5_arrives 75 = .ok (.iload 4, 2) := by decide +kernel
theorem dX5_arrives_77 : decode cX5_arrives 77 = .ok (.ireturn, 1) := by decide +kernel
theorem dX5_arrives_78 : decode cX5_arrives 78 = .ok (.aload_n 0, 1) := by decide +kernel
theorem dX5_arrives_79 : decode cX5_arrives 79 = .ok (.bipush 12, 2) := by decide +kernel
theorem dX5_arrives_81 : decode cX5_arrives 81 = .ok (.invokevirtual 123, 3) := by decide +kernel
theorem dX5_arrives_84 : decode cX5_arrives 84 = .ok (.ifCond .ne 5, 3) := by decide +kernel
theorem dX5_arrives_87 : decode cX5_arrives 87 = .ok (.iconst (-1), 1) := by decide +kernel
theorem dX5_arrives_88 : decode cX5_arrives 88 = .ok (.ireturn, 1) := by decide +kernel
theorem dX5_arrives_89 : decode cX5_arrives 89 = .ok (.aload_n 0, 1) := by decide +kernel
theorem dX5_arrives_90 : decode cX5_arrives 90 = .ok (.bipush 12, 2) := by decide +kernel
theorem dX5_arrives_92 : decode cX5_arrives 92 = .ok (.invokevirtual 126, 3) := by decide +kernel
theorem dX5_arrives_95 : decode cX5_arrives 95 = .ok (.iinc 4 1, 3) := by decide +kernel
theorem dX5_arrives_98 : decode cX5_arrives 98 = .ok (.goto (-57), 3) := by decide +kernel
theorem dX5_arrives_101 : decode cX5_arrives 101 = .ok (.iconst (-1), 1) := by decide +kernel
theorem dX5_arrives_102 : decode cX5_arrives 102 = .ok (.ireturn, 1) := by decide +kernel
theorem dX5_isMultiple_0 : decode cX5_isMultiple 0 = .ok (.iconst 0, 1) := by decide +kernel
theorem dX5_isMultiple_1 : decode cX5_isMultiple 1 = .ok (.istore_n 3, 1) := by decide +kernel
theorem dX5_isMultiple_2 : decode cX5_isMultiple 2 = .ok (.aload_n 0, 1) := by decide +kernel
theorem dX5_isMultiple_3 : decode cX5_isMultiple 3 = .ok (.getfield 32, 3) := by decide +kernel
theorem dX5_isMultiple_6 : decode cX5_isMultiple 6 = .ok (.bipush 48, 2) := by decide +kernel
theorem dX5_isMultiple_8 : decode cX5_isMultiple 8 = .ok (.iload_n 2, 1) := by decide +kernel
theorem dX5_isMultiple_9 : decode cX5_isMultiple 9 = .ok (.imul, 1) := by decide +kernel
theorem dX5_isMultiple_10 : decode cX5_isMultiple 10 = .ok (.iload_n 3, 1) := by decide +kernel
theorem dX5_isMultiple_11 : decode cX5_isMultiple 11 = .ok (.iadd, 1) := by decide +kernel
theorem dX5_isMultiple_12 : decode cX5_isMultiple 12 = .ok (.laload, 1) := by decide +kernel
theorem dX5_isMultiple_13 : decode cX5_isMultiple 13 = .ok (.lconst 0, 1) := by decide +kernel
theorem dX5_isMultiple_14 : decode cX5_isMultiple 14 = .ok (.lcmp, 1) := by decide +kernel
theorem dX5_isMultiple_15 : decode cX5_isMultiple 15 = .ok (.ifCond .ne 9, 3) := by decide +kernel
theorem dX5_isMultiple_18 : decode cX5_isMultiple 18 = .ok (.iinc 3 1, 3) := by decide +kernel
theorem dX5_isMultiple_21 : decode cX5_isMultiple 21 = .ok (.goto (-19), 3) := by decide +kernel
theorem dX5_isMultiple_24 : decode cX5_isMultiple 24 = .ok (.aload_n 0, 1) := by decide +kernel
theorem dX5_isMultiple_25 : decode cX5_isMultiple 25 = .ok (.getfield 32, 3) := by decide +kernel
theorem dX5_isMultiple_28 : decode cX5_isMultiple 28 = .ok (.bipush 48, 2) := by decide +kernel
theorem dX5_isMultiple_30 : decode cX5_isMultiple 30 = .ok (.iload_n 1, 1) := by decide +kernel
theorem dX5_isMultiple_31 : decode cX5_isMultiple 31 = .ok (.imul, 1) := by decide +kernel
theorem dX5_isMultiple_32 : decode cX5_isMultiple 32 = .ok (.iload_n 3, 1) := by decide +kernel
theorem dX5_isMultiple_33 : decode cX5_isMultiple 33 = .ok (.iadd, 1) := by decide +kernel
theorem dX5_isMultiple_34 : decode cX5_isMultiple 34 = .ok (.laload, 1) := by decide +kernel
theorem dX5_isMultiple_35 : decode cX5_isMultiple 35 = .ok (.lconst 0, 1) := by decide +kernel
theorem dX5_isMultiple_36 : decode cX5_isMultiple 36 = .ok (.lcmp, 1) := by decide +kernel
theorem dX5_isMultiple_37 : decode cX5_isMultiple 37 = .ok (.ifCond .eq 7, 3) := by decide +kernel
theorem dX5_isMultiple_40 : decode cX5_isMultiple 40 = .ok (.iconst 1, 1) := by decide +kernel
theorem dX5_isMultiple_41 : decode cX5_isMultiple 41 = .ok (.goto 4, 3) := by decide +kernel
theorem dX5_isMultiple_44 : decode cX5_isMultiple 44 = .ok (.iconst 0, 1) := by decide +kernel
theorem dX5_isMultiple_45 : decode cX5_isMultiple 45 = .ok (.istore 4, 2) := by decide +kernel
theorem dX5_isMultiple_47 : decode cX5_isMultiple 47 = .ok (.iconst 0, 1) := by decide +kernel
theorem dX5_isMultiple_48 : decode cX5_isMultiple 48 = .ok (.istore 5, 2) := by decide +kernel
theorem dX5_isMultiple_50 : decode cX5_isMultiple 50 = .ok (.iload 5, 2) := by decide +kernel
theorem dX5_isMultiple_52 : decode cX5_isMultiple 52 = .ok (.bipush 48, 2) := by decide +kernel
theorem dX5_isMultiple_54 : decode cX5_isMultiple 54 = .ok (.if_icmp .ge 73, 3) := by decide +kernel
theorem dX5_isMultiple_57 : decode cX5_isMultiple 57 = .ok (.iload 4, 2) := by decide +kernel
theorem dX5_isMultiple_59 : decode cX5_isMultiple 59 = .ok (.ifCond .eq 59, 3) := by decide +kernel
theorem dX5_isMultiple_62 : decode cX5_isMultiple 62 = .ok (.aload_n 0, 1) := by decide +kernel
theorem dX5_isMultiple_63 : decode cX5_isMultiple 63 = .ok (.getfield 32, 3) := by decide +kernel
theorem dX5_isMultiple_66 : decode cX5_isMultiple 66 = .ok (.bipush 48, 2) := by decide +kernel
theorem dX5_isMultiple_68 : decode cX5_isMultiple 68 = .ok (.iload_n 1, 1) := by decide +kernel
theorem dX5_isMultiple_69 : decode cX5_isMultiple 69 = .ok (.imul, 1) := by decide +kernel
theorem dX5_isMultiple_70 : decode cX5_isMultiple 70 = .ok (.iload 5, 2) := by decide +kernel
theorem dX5_isMultiple_72 : decode cX5_isMultiple 72 = .ok (.iadd, 1) := by decide +kernel
theorem dX5_isMultiple_73 : decode cX5_isMultiple 73 = .ok (.laload, 1) := by decide +kernel
theorem dX5_isMultiple_74 : decode cX5_isMultiple 74 = .ok (.aload_n 0, 1) := by decide +kernel
theorem dX5_isMultiple_75 : decode cX5_isMultiple 75 = .ok (.getfield 32, 3) := by decide +kernel
theorem dX5_isMultiple_78 : decode cX5_isMultiple 78 = .ok (.bipush 48, 2) := by decide +kernel
theorem dX5_isMultiple_80 : decode cX5_isMultiple 80 = .ok (.iload_n 2, 1) := by decide +kernel
theorem dX5_isMultiple_81 : decode cX5_isMultiple 81 = .ok (.imul, 1) := by decide +kernel
theorem dX5_isMultiple_82 : decode cX5_isMultiple 82 = .ok (.iload_n 3, 1) := by decide +kernel
theorem dX5_isMultiple_83 : decode cX5_isMultiple 83 = .ok (.iadd, 1) := by decide +kernel
theorem dX5_isMultiple_84 : decode cX5_isMultiple 84 = .ok (.laload, 1) := by decide +kernel
theorem dX5_isMultiple_85 : decode cX5_isMultiple 85 = .ok (.lmul, 1) := by decide +kernel
theorem dX5_isMultiple_86 : decode cX5_isMultiple 86 = .ok (.aload_n 0, 1) := by decide +kernel
theorem dX5_isMultiple_87 : decode cX5_isMultiple 87 = .ok (.getfield 32, 3) := by decide +kernel
theorem dX5_isMultiple_90 : decode cX5_isMultiple 90 = .ok (.bipush 48, 2) := by decide +kernel
theorem dX5_isMultiple_92 : decode cX5_isMultiple 92 = .ok (.iload_n 2, 1) := by decide +kernel
theorem dX5_isMultiple_93 : decode cX5_isMultiple 93 = .ok (.imul, 1) := by decide +kernel
theorem dX5_isMultiple_94 : decode cX5_isMultiple 94 = .ok (.iload 5, 2) := by decide +kernel
theorem dX5_isMultiple_96 : decode cX5_isMultiple 96 = .ok (.iadd, 1) := by decide +kernel
theorem dX5_isMultiple_97 : decode cX5_isMultiple 97 = .ok (.laload, 1) := by decide +kernel
theorem dX5_isMultiple_98 : decode cX5_isMultiple 98 = .ok (.aload_n 0, 1) := by decide +kernel
theorem dX5_isMultiple_99 : decode cX5_isMultiple 99 = .ok (.getfield 32, 3) := by decide +kernel
theorem dX5_isMultiple_102 : decode cX5_isMultiple 102 = .ok (.bipush 48, 2) := by decide +kernel
theorem dX5_isMultiple_104 : decode cX5_isMultiple 104 = .ok (.iload_n 1, 1) := by decide +kernel
theorem dX5_isMultiple_105 : decode cX5_isMultiple 105 = .ok (.imul, 1) := by decide +kernel
theorem dX5_isMultiple_106 : decode cX5_isMultiple 106 = .ok (.iload_n 3, 1) := by decide +kernel
theorem dX5_isMultiple_107 : decode cX5_isMultiple 107 = .ok (.iadd, 1) := by decide +kernel
theorem dX5_isMultiple_108 : decode cX5_isMultiple 108 = .ok (.laload, 1) := by decide +kernel
theorem dX5_isMultiple_109 : decode cX5_isMultiple 109 = .ok (.lmul, 1) := by decide +kernel
theorem dX5_isMultiple_110 : decode cX5_isMultiple 110 = .ok (.lcmp, 1) := by decide +kernel
theorem dX5_isMultiple_111 : decode cX5_isMultiple 111 = .ok (.ifCond .ne 7, 3) := by decide +kernel
theorem dX5_isMultiple_114 : decode cX5_isMultiple 114 = .ok (.iconst 1, 1) := by decide +kernel
theorem dX5_isMultiple_115 : decode cX5_isMultiple 115 = .ok (.goto 4, 3) := by decide +kernel
theorem dX5_isMultiple_118 : decode cX5_isMultiple 118 = .ok (.iconst 0, 1) := by decide +kernel
theorem dX5_isMultiple_119 : decode cX5_isMultiple 119 = .ok (.istore 4, 2) := by decide +kernel
theorem dX5_isMultiple_121 : decode cX5_isMultiple 121 = .ok (.iinc 5 1, 3) := by decide +kernel
theorem dX5_isMultiple_124 : decode cX5_isMultiple 124 = .ok (.goto (-74), 3) := by decide +kernel
theorem dX5_isMultiple_127 : decode cX5_isMultiple 127 = .ok (.iload 4, 2) := by decide +kernel
theorem dX5_isMultiple_129 : decode cX5_isMultiple 129 = .ok (.ireturn, 1) := by decide +kernel
set_option maxRecDepth 20000 in
theorem ggX5_returns_X5_isWalk : GoodIn wsX5_returns wsX5_isWalk := goodIn_r _ [5, 6, 7, 8, 9, 10, 4, 11, 66, 67, 68, 69, 70, 71, 72, 73, 74, 75, 76, 77, 78, 79] (by decide +kernel) (by decide +kernel)
set_option maxRecDepth 20000 in
theorem gX5_returns_X5_isWalk : GoodIn wsX5_returns (wsV RX5 82 RX5 yX5_isWalk wsX5_isWalk) := goodIn_app (goodIn_of _ (by decide +kernel)) ggX5_returns_X5_isWalk
set_option maxRecDepth 20000 in
theorem ggX5_returns_X5_isMany : GoodIn wsX5_returns wsX5_isMany := goodIn_r _ [14] (by decide +kernel) (by decide +kernel)
set_option maxRecDepth 20000 in
theorem gX5_returns_X5_isMany : GoodIn wsX5_returns (va_wsS RX5 116 yX5_isMany wsX5_isMany) := goodIn_app (goodIn_of _ (by decide +kernel)) ggX5_returns_X5_isMany
set_option maxRecDepth 20000 in
theorem ggX5_returns_X5_right : GoodIn wsX5_returns wsX5_right := goodIn_r _ [11, 6, 66, 67, 68, 69, 70, 71, 72, 73, 74, 75, 76, 77, 78, 79] (by decide +kernel) (by decide +kernel)
set_option maxRecDepth 20000 in
theorem gX5_returns_X5_right : GoodIn wsX5_returns (wsV RX5 52 RX5 yX5_right wsX5_right) := goodIn_app (goodIn_of _ (by decide +kernel)) ggX5_returns_X5_right
set_option maxRecDepth 20000 in
theorem ggX5_returns_X5_weight : GoodIn wsX5_returns wsX5_weight := goodIn_r _ [18, 19, 20, 21, 4, 22, 23, 66, 67, 68, 69, 70, 71, 72, 73, 74, 75, 76, 77, 78, 79] (by decide +kernel) (by decide +kernel)
set_option maxRecDepth 20000 in
theorem gX5_returns_X5_weight : GoodIn wsX5_returns (wsV RX5 93 RX5 yX5_weight wsX5_weight) := goodIn_app (goodIn_of _ (by decide +kernel)) ggX5_returns_X5_weight
set_option maxRecDepth 20000 in
theorem ggX5_returns_X5_copies : GoodIn wsX5_returns wsX5_copies := goodIn_r _ [27, 28, 29, 23, 66, 67, 68, 69, 70, 71, 72, 73, 74, 75, 76, 77, 78, 79] (by decide +kernel) (by decide +kernel)
set_option maxRecDepth 20000 in
theorem gX5_returns_X5_copies : GoodIn wsX5_returns (wsV RX5 119 RX5 yX5_copies wsX5_copies) := goodIn_app (goodIn_of _ (by decide +kernel)) ggX5_returns_X5_copies
set_option maxRecDepth 20000 in
theorem ggX5_returns_X5_goesOn : GoodIn wsX5_returns wsX5_goesOn := goodIn_r _ [33, 29, 34, 15, 16, 17, 4, 18, 19, 20, 21, 22, 23, 35, 36, 37, 38, 39, 28, 66, 67, 68, 69, 70, 71, 72, 73, 74, 75, 76, 77, 78, 79] (by decide +kernel) (by decide +kernel)
set_option maxRecDepth 20000 in
theorem gX5_returns_X5_goesOn : GoodIn wsX5_returns (wsV RX5 123 RX5 yX5_goesOn wsX5_goesOn) := goodIn_app (goodIn_of _ (by decide +kernel)) ggX5_returns_X5_goesOn
set_option maxRecDepth 20000 in
theorem ggX5_returns_X5_steps : GoodIn wsX5_returns wsX5_steps := goodIn_r _ [43, 29, 44, 45, 46, 4, 47, 48, 28, 49, 23, 50, 51, 52, 53, 39, 54, 55, 56, 57, 58, 59, 60, 61, 66, 67, 68, 69, 70, 71, 72, 73, 74, 75, 76, 77, 78, 79] (by decide +kernel) (by decide +kernel)
set_option maxRecDepth 20000 in
theorem gX5_returns_X5_steps : GoodIn wsX5_returns (wsV RX5 126 RX5 yX5_steps wsX5_steps) := goodIn_app (goodIn_of _ (by decide +kernel)) ggX5_returns_X5_steps
set_option maxRecDepth 20000 in
theorem ggX5_returns_X5_isMultiple : GoodIn wsX5_returns wsX5_isMultiple := goodIn_r _ [65, 23, 66, 67, 68, 69, 70, 71, 72, 73, 74, 75, 76, 77, 78, 79] (by decide +kernel) (by decide +kernel)
set_option maxRecDepth 20000 in
theorem gX5_returns_X5_isMultiple : GoodIn wsX5_returns (wsV RX5 133 RX5 yX5_isMultiple wsX5_isMultiple) := goodIn_app (goodIn_of _ (by decide +kernel)) ggX5_returns_X5_isMultiple
theorem dX5_returns_0 : decode cX5_returns 0 = .ok (.aload_n 0, 1) := by decide +kernel
theorem dX5_returns_1 : decode cX5_returns 1 = .ok (.iload_n 1, 1) := by decide +kernel
theorem dX5_returns_2 : decode cX5_returns 2 = .ok (.invokevirtual 82, 3) := by decide +kernel
theorem dX5_returns_5 : decode cX5_returns 5 = .ok (.ifCond .eq 15, 3) := by decide +kernel
theorem dX5_returns_8 : decode cX5_returns 8 = .ok (.aload_n 0, 1) := by decide +kernel
theorem dX5_returns_9 : decode cX5_returns 9 = .ok (.iload_n 2, 1) := by decide +kernel
theorem dX5_returns_10 : decode cX5_returns 10 = .ok (.invokestatic 116, 3) := by decide +kernel
theorem dX5_returns_13 : decode cX5_returns 13 = .ok (.iconst 2, 1) := by decide +kernel
theorem dX5_returns_14 : decode cX5_returns 14 = .ok (.invokevirtual 52, 3) := by decide +kernel
theorem dX5_returns_17 : decode cX5_returns 17 = .ok (.ifCond .ne 5, 3) := by decide +kernel
theorem dX5_returns_20 : decode cX5_returns 20 = .ok (.iconst 0, 1) := by decide +kernel
theorem dX5_returns_21 : decode cX5_returns 21 = .ok (.ireturn, 1) := by decide +kernel
theorem dX5_returns_22 : decode cX5_returns 22 = .ok (.aload_n 0, 1) := by decide +kernel
theorem dX5_returns_23 : decode cX5_returns 23 = .ok (.iload_n 1, 1) := by decide +kernel
theorem dX5_returns_24 : decode cX5_returns 24 = .ok (.invokevirtual 93, 3) := by decide +kernel
theorem dX5_returns_27 : decode cX5_returns 27 = .ok (.lconst 0, 1) := by decide +kernel
theorem dX5_returns_28 : decode cX5_returns 28 = .ok (.lcmp, 1) := by decide +kernel
theorem dX5_returns_29 : decode cX5_returns 29 = .ok (.ifCond .ne 5, 3) := by decide +kernel
theorem dX5_returns_32 : decode cX5_returns 32 = .ok (.iconst (-1), 1) := by decide +kernel
theorem dX5_returns_33 : decode cX5_returns 33 = .ok (.ireturn, 1) := by decide +kernel
theorem dX5_returns_34 : decode cX5_returns 34 = .ok (.aload_n 0, 1) := by decide +kernel
theorem dX5_returns_35 : decode cX5_returns 35 = .ok (.iload_n 1, 1) := by decide +kernel
theorem dX5_returns_36 : decode cX5_returns 36 = .ok (.bipush 12, 2) := by decide +kernel
theorem dX5_returns_38 : decode cX5_returns 38 = .ok (.invokevirtual 119, 3) := by decide +kernel
theorem dX5_returns_41 : decode cX5_returns 41 = .ok (.iconst 1, 1) := by decide +kernel
theorem dX5_returns_42 : decode cX5_returns 42 = .ok (.istore_n 3, 1) := by decide +kernel
theorem dX5_returns_43 : decode cX5_returns 43 = .ok (.iload_n 3, 1) := by decide +kernel
theorem dX5_returns_44 : decode cX5_returns 44 = .ok (.iload_n 2, 1) := by decide +kernel
theorem dX5_returns_45 : decode cX5_returns 45 = .ok (.if_icmp .gt 38, 3) := by decide +kernel
theorem dX5_returns_48 : decode cX5_returns 48 = .ok (.aload_n 0, 1) := by decide +kernel
theorem dX5_returns_49 : decode cX5_returns 49 = .ok (.bipush 12, 2) := by decide +kernel
theorem dX5_returns_51 : decode cX5_returns 51 = .ok (.invokevirtual 123, 3) := by decide +kernel
theorem dX5_returns_54 : decode cX5_returns 54 = .ok (.ifCond .ne 5, 3) := by decide +kernel
theorem dX5_returns_57 : decode cX5_returns 57 = .ok (.iconst (-1), 1) := by decide +kernel
theorem dX5_returns_58 : decode cX5_returns 58 = .ok (.ireturn, 1) := by decide +kernel
theorem dX5_returns_59 : decode cX5_returns 59 = .ok (.aload_n 0, 1) := by decide +kernel
theorem dX5_returns_60 : decode cX5_returns 60 = .ok (.bipush 12, 2) := by decide +kernel
theorem dX5_returns_62 : decode cX5_returns 62 = .ok (.invokevirtual 126, 3) := by decide +kernel
theorem dX5_returns_65 : decode cX5_returns 65 = .ok (.aload_n 0, 1) := by decide +kernel
theorem dX5_returns_66 : decode cX5_returns 66 = .ok (.bipush 12, 2) := by decide +kernel
theorem dX5_returns_68 : decode cX5_returns 68 = .ok (.iload_n 1, 1) := by decide +kernel
theorem dX5_returns_69 : decode cX5_returns 69 = .ok (.invokevirtual 133, 3) := by decide +kernel
theorem dX5_returns_72 : decode cX5_returns 72 = .ok (.ifCond .eq 5, 3) := by decide +kernel
theorem dX5_returns_75 : decode cX5_returns 75 = .ok (.iload_n 3, 1) := by decide +kernel
theorem dX5_returns_76 : decode cX5_returns 76 = .ok (.ireturn, 1) := by decide +kernel
theorem dX5_returns_77 : decode cX5_returns 77 = .ok (.iinc 3 1, 3) := by decide +kernel
theorem dX5_returns_80 : decode cX5_returns 80 = .ok (.goto (-37), 3) := by decide +kernel
theorem dX5_returns_83 : decode cX5_returns 83 = .ok (.iconst (-1), 1) := by decide +kernel
theorem dX5_returns_84 : decode cX5_returns 84 = .ok (.ireturn, 1) := by decide +kernel
set_option maxRecDepth 20000 in
theorem ggX5_marked_X5_shareOf : GoodIn wsX5_marked wsX5_shareOf := goodIn_r _ [8, 9, 10, 11, 12, 13, 14, 15, 16, 17, 18, 19, 20, 21, 22, 23] (by decide +kernel) (by decide +kernel)
set_option maxRecDepth 20000 in
theorem gX5_marked_X5_shareOf : GoodIn wsX5_marked (wsV RX5 89 RX5 yX5_shareOf wsX5_shareOf) := goodIn_app (goodIn_of _ (by decide +kernel)) ggX5_marked_X5_shareOf
theorem dX5_marked_0 : decode cX5_marked 0 = .ok (.lconst 0, 1) := by decide +kernel
theorem dX5_marked_1 : decode cX5_marked 1 = .ok (.lstore_n 2, 1) := by decide +kernel
theorem dX5_marked_2 : decode cX5_marked 2 = .ok (.iconst 0, 1) := by decide +kernel
theorem dX5_marked_3 : decode cX5_marked 3 = .ok (.istore 4, 2) := by decide +kernel
theorem dX5_marked_5 : decode cX5_marked 5 = .ok (.iload 4, 2) := by decide +kernel
theorem dX5_marked_7 : decode cX5_marked 7 = .ok (.aload_n 0, 1) := by decide +kernel
theorem dX5_marked_8 : decode cX5_marked 8 = .ok (.getfield 7, 3) := by decide +kernel
theorem dX5_marked_11 : decode cX5_marked 11 = .ok (.aload_n 0, 1) := by decide +kernel
theorem dX5_marked_12 : decode cX5_marked 12 = .ok (.getfield 26, 3) := by decide +kernel
theorem dX5_marked_15 : decode cX5_marked 15 = .ok (.iload_n 1, 1) := by decide +kernel
theorem dX5_marked_16 : decode cX5_marked 16 = .ok (.iaload, 1) := by decide +kernel
theorem dX5_marked_17 : decode cX5_marked 17 = .ok (.iaload, 1) := by decide +kernel
theorem dX5_marked_18 : decode cX5_marked 18 = .ok (.if_icmp .ge 39, 3) := by decide +kernel
theorem dX5_marked_21 : decode cX5_marked 21 = .ok (.aload_n 0, 1) := by decide +kernel
theorem dX5_marked_22 : decode cX5_marked 22 = .ok (.getfield 19, 3) := by decide +kernel
theorem dX5_marked_25 : decode cX5_marked 25 = .ok (.bipush 12, 2) := by decide +kernel
theorem dX5_marked_27 : decode cX5_marked 27 = .ok (.aload_n 0, 1) := by decide +kernel
theorem dX5_marked_28 : decode cX5_marked 28 = .ok (.getfield 26, 3) := by decide +kernel
theorem dX5_marked_31 : decode cX5_marked 31 = .ok (.iload_n 1, 1) := by decide +kernel
theorem dX5_marked_32 : decode cX5_marked 32 = .ok (.iaload, 1) := by decide +kernel
theorem dX5_marked_33 : decode cX5_marked 33 = .ok (.imul, 1) := by decide +kernel
theorem dX5_marked_34 : decode cX5_marked 34 = .ok (.iload 4, 2) := by decide +kernel
theorem dX5_marked_36 : decode cX5_marked 36 = .ok (.iadd, 1) := by decide +kernel
theorem dX5_marked_37 : decode cX5_marked 37 = .ok (.baload, 1) := by decide +kernel
theorem dX5_marked_38 : decode cX5_marked 38 = .ok (.ifCond .eq 13, 3) := by decide +kernel
theorem dX5_marked_41 : decode cX5_marked 41 = .ok (.lload_n 2, 1) := by decide +kernel
theorem dX5_marked_42 : decode cX5_marked 42 = .ok (.aload_n 0, 1) := by decide +kernel
theorem dX5_marked_43 : decode cX5_marked 43 = .ok (.iload_n 1, 1) := by decide +kernel
theorem dX5_marked_44 : decode cX5_marked 44 = .ok (.iload 4, 2) := by decide +kernel
theorem dX5_marked_46 : decode cX5_marked 46 = .ok (.invokevirtual 89, 3) := by decide +kernel
theorem dX5_marked_49 : decode cX5_marked 49 = .ok (.ladd, 1) := by decide +kernel
theorem dX5_marked_50 : decode cX5_marked 50 = .ok (.lstore_n 2, 1) := by decide +kernel
theorem dX5_marked_51 : decode cX5_marked 51 = .ok (.iinc 4 1, 3) := by decide +kernel
theorem dX5_marked_54 : decode cX5_marked 54 = .ok (.goto (-49), 3) := by decide +kernel
theorem dX5_marked_57 : decode cX5_marked 57 = .ok (.lload_n 2, 1) := by decide +kernel
theorem dX5_marked_58 : decode cX5_marked 58 = .ok (.lreturn, 1) := by decide +kernel
set_option maxRecDepth 20000 in
theorem ggX5_best_X5_isWalk : GoodIn wsX5_best wsX5_isWalk := goodIn_r _ [5, 6, 7, 8, 9, 10, 4, 11, 66, 67, 68, 69, 70, 71, 72, 73, 74, 75, 76, 77, 78, 79] (by decide +kernel) (by decide +kernel)
set_option maxRecDepth 20000 in
theorem gX5_best_X5_isWalk : GoodIn wsX5_best (wsV RX5 82 RX5 yX5_isWalk wsX5_isWalk) := goodIn_app (goodIn_of _ (by decide +kernel)) ggX5_best_X5_isWalk
set_option maxRecDepth 20000 in
theorem ggX5_best_X5_isMany : GoodIn wsX5_best wsX5_isMany := goodIn_r _ [14] (by decide +kernel) (by decide +kernel)
set_option maxRecDepth 20000 in
theorem gX5_best_X5_isMany : GoodIn wsX5_best (va_wsS RX5 116 yX5_isMany wsX5_isMany) := goodIn_app (goodIn_of _ (by decide +kernel)) ggX5_best_X5_isMany
set_option maxRecDepth 20000 in
theorem ggX5_best_X5_right : GoodIn wsX5_best wsX5_right := goodIn_r _ [11, 6, 66, 67, 68, 69, 70, 71, 72, 73, 74, 75, 76, 77, 78, 79] (by decide +kernel) (by decide +kernel)
set_option maxRecDepth 20000 in
theorem gX5_best_X5_right : GoodIn wsX5_best (wsV RX5 52 RX5 yX5_right wsX5_right) := goodIn_app (goodIn_of _ (by decide +kernel)) ggX5_best_X5_right
set_option maxRecDepth 20000 in
theorem ggX5_best_X5_weight : GoodIn wsX5_best wsX5_weight := goodIn_r _ [18, 19, 20, 21, 4, 22, 23, 66, 67, 68, 69, 70, 71, 72, 73, 74, 75, 76, 77, 78, 79] (by decide +kernel) (by decide +kernel)
set_option maxRecDepth 20000 in
theorem gX5_best_X5_weight : GoodIn wsX5_best (wsV RX5 93 RX5 yX5_weight wsX5_weight) := goodIn_app (goodIn_of _ (by decide +kernel)) ggX5_best_X5_weight
set_option maxRecDepth 20000 in
theorem ggX5_best_X5_copies : GoodIn wsX5_best wsX5_copies := goodIn_r _ [27, 28, 29, 23, 66, 67, 68, 69, 70, 71, 72, 73, 74, 75, 76, 77, 78, 79] (by decide +kernel) (by decide +kernel)
set_option maxRecDepth 20000 in
theorem gX5_best_X5_copies : GoodIn wsX5_best (wsV RX5 119 RX5 yX5_copies wsX5_copies) := goodIn_app (goodIn_of _ (by decide +kernel)) ggX5_best_X5_copies
set_option maxRecDepth 20000 in
theorem ggX5_best_X5_marked : GoodIn wsX5_best wsX5_marked := goodIn_r _ [33, 34, 28, 35, 19, 20, 21, 4, 22, 23, 66, 67, 68, 69, 70, 71, 72, 73, 74, 75, 76, 77, 78, 79] (by decide +kernel) (by decide +kernel)
set_option maxRecDepth 20000 in
theorem gX5_best_X5_marked : GoodIn wsX5_best (wsV RX5 136 RX5 yX5_marked wsX5_marked) := goodIn_app (goodIn_of _ (by decide +kernel)) ggX5_best_X5_marked
set_option maxRecDepth 20000 in
theorem ggX5_best_X5_goesOn : GoodIn wsX5_best wsX5_goesOn := goodIn_r _ [39, 29, 40, 15, 16, 17, 4, 18, 19, 20, 21, 22, 23, 41, 42, 43, 44, 45, 28, 66, 67, 68, 69, 70, 71, 72, 73, 74, 75, 76, 77, 78, 79] (by decide +kernel) (by decide +kernel)
set_option maxRecDepth 20000 in
theorem gX5_best_X5_goesOn : GoodIn wsX5_best (wsV RX5 123 RX5 yX5_goesOn wsX5_goesOn) := goodIn_app (goodIn_of _ (by decide +kernel)) ggX5_best_X5_goesOn
set_option maxRecDepth 20000 in
theorem ggX5_best_X5_steps : GoodIn wsX5_best wsX5_steps := goodIn_r _ [49, 29, 50, 51, 52, 4, 53, 34, 28, 35, 23, 54, 55, 56, 57, 45, 58, 59, 60, 61, 62, 63, 64, 65, 66, 67, 68, 69, 70, 71, 72, 73, 74, 75, 76, 77, 78, 79] (by decide +kernel) (by decide +kernel)
set_option maxRecDepth 20000 in
theorem gX5_best_X5_steps : GoodIn wsX5_best (wsV RX5 126 RX5 yX5_steps wsX5_steps) := goodIn_app (goodIn_of _ (by decide +kernel)) ggX5_best_X5_steps
set_option maxRecDepth 20000 in
theorem ggX5_best_X5_scale : GoodIn wsX5_best wsX5_scale := goodIn_r _ [44, 45, 28, 66, 67, 68, 69, 70, 71, 72, 73, 74, 75, 76, 77, 78, 79] (by decide +kernel) (by decide +kernel)
set_option maxRecDepth 20000 in
theorem gX5_best_X5_scale : GoodIn wsX5_best (wsV RX5 99 RX5 yX5_scale wsX5_scale) := goodIn_app (goodIn_of _ (by decide +kernel)) ggX5_best_X5_scale
theorem dX5_best_0 : decode cX5_best 0 = .ok (.aload_n 0, 1) := by decide +kernel
theorem dX5_best_1 : decode cX5_best 1 = .ok (.iload_n 1, 1) := by decide +kernel
theorem dX5_best_2 : decode cX5_best 2 = .ok (.invokevirtual 82, 3) := by decide +kernel
theorem dX5_best_5 : decode cX5_best 5 = .ok (.ifCond .eq 15, 3) := by decide +kernel
theorem dX5_best_8 : decode cX5_best 8 = .ok (.aload_n 0, 1) := by decide +kernel
theorem dX5_best_9 : decode cX5_best 9 = .ok (.iload_n 2, 1) := by decide +kernel
theorem dX5_best_10 : decode cX5_best 10 = .ok (.invokestatic 116, 3) := by decide +kernel
theorem dX5_best_13 : decode cX5_best 13 = .ok (.iconst 2, 1) := by decide +kernel
theorem dX5_best_14 : decode cX5_best 14 = .ok (.invokevirtual 52, 3) := by decide +kernel
theorem dX5_best_17 : decode cX5_best 17 = .ok (.ifCond .ne 5, 3) := by decide +kernel
theorem dX5_best_20 : decode cX5_best 20 = .ok (.iconst 0, 1) := by decide +kernel
theorem dX5_best_21 : decode cX5_best 21 = .ok (.ireturn, 1) := by decide +kernel
theorem dX5_best_22 : decode cX5_best 22 = .ok (.aload_n 0, 1) := by decide +kernel
theorem dX5_best_23 : decode cX5_best 23 = .ok (.iload_n 1, 1) := by decide +kernel
theorem dX5_best_24 : decode cX5_best 24 = .ok (.invokevirtual 93, 3) := by decide +kernel
theorem dX5_best_27 : decode cX5_best 27 = .ok (.lconst 0, 1) := by decide +kernel
theorem dX5_best_28 : decode cX5_best 28 = .ok (.lcmp, 1) := by decide +kernel
theorem dX5_best_29 : decode cX5_best 29 = .ok (.ifCond .ne 5, 3) := by decide +kernel
theorem dX5_best_32 : decode cX5_best 32 = .ok (.iconst (-1), 1) := by decide +kernel
theorem dX5_best_33 : decode cX5_best 33 = .ok (.ireturn, 1) := by decide +kernel
theorem dX5_best_34 : decode cX5_best 34 = .ok (.aload_n 0, 1) := by decide +kernel
theorem dX5_best_35 : decode cX5_best 35 = .ok (.iload_n 1, 1) := by decide +kernel
theorem dX5_best_36 : decode cX5_best 36 = .ok (.bipush 12, 2) := by decide +kernel
theorem dX5_best_38 : decode cX5_best 38 = .ok (.invokevirtual 119, 3) := by decide +kernel
theorem dX5_best_41 : decode cX5_best 41 = .ok (.iconst 0, 1) := by decide +kernel
theorem dX5_best_42 : decode cX5_best 42 = .ok (.istore_n 3, 1) := by decide +kernel
theorem dX5_best_43 : decode cX5_best 43 = .ok (.aload_n 0, 1) := by decide +kernel
theorem dX5_best_44 : decode cX5_best 44 = .ok (.bipush 12, 2) := by decide +kernel
theorem dX5_best_46 : decode cX5_best 46 = .ok (.invokevirtual 136, 3) := by decide +kernel
theorem dX5_best_49 : decode cX5_best 49 = .ok (.lstore 4, 2) := by decide +kernel
theorem dX5_best_51 : decode cX5_best 51 = .ok (.iconst 1, 1) := by decide +kernel
theorem dX5_best_52 : decode cX5_best 52 = .ok (.istore 6, 2) := by decide +kernel
theorem dX5_best_54 : decode cX5_best 54 = .ok (.iload 6, 2) := by decide +kernel
theorem dX5_best_56 : decode cX5_best 56 = .ok (.iload_n 2, 1) := by decide +kernel
theorem dX5_best_57 : decode cX5_best 57 = .ok (.if_icmp .gt 61, 3) := by decide +kernel
theorem dX5_best_60 : decode cX5_best 60 = .ok (.aload_n 0, 1) := by decide +kernel
theorem dX5_best_61 : decode cX5_best 61 = .ok (.bipush 12, 2) := by decide +kernel
theorem dX5_best_63 : decode cX5_best 63 = .ok (.invokevirtual 123, 3) := by decide +kernel
theorem dX5_best_66 : decode cX5_best 66 = .ok (.ifCond .eq 52, 3) := by decide +kernel
theorem dX5_best_69 : decode cX5_best 69 = .ok (.aload_n 0, 1) := by decide +kernel
theorem dX5_best_70 : decode cX5_best 70 = .ok (.bipush 12, 2) := by decide +kernel
theorem dX5_best_72 : decode cX5_best 72 = .ok (.invokevirtual 126, 3) := by decide +kernel
theorem dX5_best_75 : decode cX5_best 75 = .ok (.lload 4, 2) := by decide +kernel
theorem dX5_best_77 : decode cX5_best 77 = .ok (.aload_n 0, 1) := by decide +kernel
theorem dX5_best_78 : decode cX5_best 78 = .ok (.iload_n 1, 1) := by decide +kernel
theorem dX5_best_79 : decode cX5_best 79 = .ok (.invokevirtual 99, 3) := by decide +kernel
theorem dX5_best_82 : decode cX5_best 82 = .ok (.i2l, 1) := by decide +kernel
theorem dX5_best_83 : decode cX5_best 83 = .ok (.lmul, 1) := by decide +kernel
theorem dX5_best_84 : decode cX5_best 84 = .ok (.lstore 4, 2) := by decide +kernel
theorem dX5_best_86 : decode cX5_best 86 = .ok (.aload_n 0, 1) := by decide +kernel
theorem dX5_best_87 : decode cX5_best 87 = .ok (.bipush 12, 2) := by decide +kernel
theorem dX5_best_89 : decode cX5_best 89 = .ok (.invokevirtual 136, 3) := by decide +kernel
theorem dX5_best_92 : decode cX5_best 92 = .ok (.lload 4, 2) := by decide +kernel
theorem dX5_best_94 : decode cX5_best 94 = .ok (.lcmp, 1) := by decide +kernel
theorem dX5_best_95 : decode cX5_best 95 = .ok (.ifCond .gt 6, 3) := by decide +kernel
theorem dX5_best_98 : decode cX5_best 98 = .ok (.goto 14, 3) := by decide +kernel
theorem dX5_best_101 : decode cX5_best 101 = .ok (.aload_n 0, 1) := by decide +kernel
theorem dX5_best_102 : decode cX5_best 102 = .ok (.bipush 12, 2) := by decide +kernel
theorem dX5_best_104 : decode cX5_best 104 = .ok (.invokevirtual 136, 3) := by decide +kernel
theorem dX5_best_107 : decode cX5_best 107 = .ok (.lstore 4, 2) := by decide +kernel
theorem dX5_best_109 : decode cX5_best 109 = .ok (.iload 6, 2) := by decide +kernel
theorem dX5_best_111 : decode cX5_best 111 = .ok (.istore_n 3, 1) := by decide +kernel
theorem dX5_best_112 : decode cX5_best 112 = .ok (.iinc 6 1, 3) := by decide +kernel
theorem dX5_best_115 : decode cX5_best 115 = .ok (.goto (-61), 3) := by decide +kernel
theorem dX5_best_118 : decode cX5_best 118 = .ok (.iload_n 3, 1) := by decide +kernel
theorem dX5_best_119 : decode cX5_best 119 = .ok (.ireturn, 1) := by decide +kernel
set_option maxRecDepth 20000 in
theorem ggX5_mean_X5_isWalk : GoodIn wsX5_mean wsX5_isWalk := goodIn_r _ [7, 8, 9, 10, 11, 12, 6, 13, 67, 68, 69, 70, 71, 72, 73, 74, 75, 76, 77, 78, 79, 80] (by decide +kernel) (by decide +kernel)
set_option maxRecDepth 20000 in
theorem gX5_mean_X5_isWalk : GoodIn wsX5_mean (wsV RX5 82 RX5 yX5_isWalk wsX5_isWalk) := goodIn_app (goodIn_of _ (by decide +kernel)) ggX5_mean_X5_isWalk
set_option maxRecDepth 20000 in
theorem ggX5_mean_X5_isIn : GoodIn wsX5_mean wsX5_isIn := goodIn_r _ [17, 18, 19, 10, 11, 12, 6, 13, 8, 67, 68, 69, 70, 71, 72, 73, 74, 75, 76, 77, 78, 79, 80] (by decide +kernel) (by decide +kernel)
set_option maxRecDepth 20000 in
theorem gX5_mean_X5_isIn : GoodIn wsX5_mean (wsV RX5 129 RX5 yX5_isIn wsX5_isIn) := goodIn_app (goodIn_of _ (by decide +kernel)) ggX5_mean_X5_isIn
set_option maxRecDepth 20000 in
theorem ggX5_mean_X5_isMany : GoodIn wsX5_mean wsX5_isMany := goodIn_r _ [22] (by decide +kernel) (by decide +kernel)
set_option maxRecDepth 20000 in
theorem gX5_mean_X5_isMany : GoodIn wsX5_mean (va_wsS RX5 116 yX5_isMany wsX5_isMany) := goodIn_app (goodIn_of _ (by decide +kernel)) ggX5_mean_X5_isMany
set_option maxRecDepth 20000 in
theorem ggX5_mean_X5_right : GoodIn wsX5_mean wsX5_right := goodIn_r _ [13, 8, 67, 68, 69, 70, 71, 72, 73, 74, 75, 76, 77, 78, 79, 80] (by decide +kernel) (by decide +kernel)
set_option maxRecDepth 20000 in
theorem gX5_mean_X5_right : GoodIn wsX5_mean (wsV RX5 52 RX5 yX5_right wsX5_right) := goodIn_app (goodIn_of _ (by decide +kernel)) ggX5_mean_X5_right
set_option maxRecDepth 20000 in
theorem ggX5_mean_X5_copies : GoodIn wsX5_mean wsX5_copies := goodIn_r _ [26, 19, 27, 28, 67, 68, 69, 70, 71, 72, 73, 74, 75, 76, 77, 78, 79, 80] (by decide +kernel) (by decide +kernel)
set_option maxRecDepth 20000 in
theorem gX5_mean_X5_copies : GoodIn wsX5_mean (wsV RX5 119 RX5 yX5_copies wsX5_copies) := goodIn_app (goodIn_of _ (by decide +kernel)) ggX5_mean_X5_copies
set_option maxRecDepth 20000 in
theorem ggX5_mean_X5_shareOf : GoodIn wsX5_mean wsX5_shareOf := goodIn_r _ [32, 28, 67, 68, 69, 70, 71, 72, 73, 74, 75, 76, 77, 78, 79, 80] (by decide +kernel) (by decide +kernel)
set_option maxRecDepth 20000 in
theorem gX5_mean_X5_shareOf : GoodIn wsX5_mean (wsV RX5 89 RX5 yX5_shareOf wsX5_shareOf) := goodIn_app (goodIn_of _ (by decide +kernel)) ggX5_mean_X5_shareOf
set_option maxRecDepth 20000 in
theorem ggX5_mean_X5_goesOn : GoodIn wsX5_mean wsX5_goesOn := goodIn_r _ [36, 27, 2, 37, 38, 39, 6, 40, 29, 30, 31, 32, 28, 41, 42, 43, 44, 45, 19, 67, 68, 69, 70, 71, 72, 73, 74, 75, 76, 77, 78, 79, 80] (by decide +kernel) (by decide +kernel)
set_option maxRecDepth 20000 in
theorem gX5_mean_X5_goesOn : GoodIn wsX5_mean (wsV RX5 123 RX5 yX5_goesOn wsX5_goesOn) := goodIn_app (goodIn_of _ (by decide +kernel)) ggX5_mean_X5_goesOn
set_option maxRecDepth 20000 in
theorem ggX5_mean_X5_steps : GoodIn wsX5_mean wsX5_steps := goodIn_r _ [49, 27, 50, 51, 52, 6, 53, 18, 19, 54, 28, 55, 56, 57, 58, 45, 59, 60, 61, 62, 63, 64, 65, 66, 67, 68, 69, 70, 71, 72, 73, 74, 75, 76, 77, 78, 79, 80] (by decide +kernel) (by decide +kernel)
set_option maxRecDepth 20000 in
theorem gX5_mean_X5_steps : GoodIn wsX5_mean (wsV RX5 126 RX5 yX5_steps wsX5_steps) := goodIn_app (goodIn_of _ (by decide +kernel)) ggX5_mean_X5_steps
set_option maxRecDepth 20000 in
theorem ggX5_mean_X5_scale : GoodIn wsX5_mean wsX5_scale := goodIn_r _ [44, 45, 19, 67, 68, 69, 70, 71, 72, 73, 74, 75, 76, 77, 78, 79, 80] (by decide +kernel) (by decide +kernel)
set_option maxRecDepth 20000 in
theorem gX5_mean_X5_scale : GoodIn wsX5_mean (wsV RX5 99 RX5 yX5_scale wsX5_scale) := goodIn_app (goodIn_of _ (by decide +kernel)) ggX5_mean_X5_scale
theorem dX5_mean_0 : decode cX5_mean 0 = .ok (.aload_n 0, 1) := by decide +kernel
theorem dX5_mean_1 : decode cX5_mean 1 = .ok (.iload_n 1, 1) := by decide +kernel
theorem dX5_mean_2 : decode cX5_mean 2 = .ok (.invokevirtual 82, 3) := by decide +kernel
theorem dX5_mean_5 : decode cX5_mean 5 = .ok (.ifCond .eq 24, 3) := by decide +kernel
theorem dX5_mean_8 : decode cX5_mean 8 = .ok (.aload_n 0, 1) := by decide +kernel
theorem dX5_mean_9 : decode cX5_mean 9 = .ok (.iload_n 1, 1) := by decide +kernel
theorem dX5_mean_10 : decode cX5_mean 10 = .ok (.iload_n 2, 1) := by decide +kernel
theorem dX5_mean_11 : decode cX5_mean 11 = .ok (.invokevirtual 129, 3) := by decide +kernel
theorem dX5_mean_14 : decode cX5_mean 14 = .ok (.ifCond .eq 15, 3) := by decide +kernel
theorem dX5_mean_17 : decode cX5_mean 17 = .ok (.aload_n 0, 1) := by decide +kernel
theorem dX5_mean_18 : decode cX5_mean 18 = .ok (.iload_n 3, 1) := by decide +kernel
theorem dX5_mean_19 : decode cX5_mean 19 = .ok (.invokestatic 116, 3) := by decide +kernel
theorem dX5_mean_22 : decode cX5_mean 22 = .ok (.iconst 2, 1) := by decide +kernel
theorem dX5_mean_23 : decode cX5_mean 23 = .ok (.invokevirtual 52, 3) := by decide +kernel
theorem dX5_mean_26 : decode cX5_mean 26 = .ok (.ifCond .ne 5, 3) := by decide +kernel
theorem dX5_mean_29 : decode cX5_mean 29 = .ok (.lconst 0, 1) := by decide +kernel
theorem dX5_mean_30 : decode cX5_mean 30 = .ok (.lreturn, 1) := by decide +kernel
theorem dX5_mean_31 : decode cX5_mean 31 = .ok (.aload_n 0, 1) := by decide +kernel
theorem dX5_mean_32 : decode cX5_mean 32 = .ok (.iload_n 1, 1) := by decide +kernel
theorem dX5_mean_33 : decode cX5_mean 33 = .ok (.bipush 12, 2) := by decide +kernel
theorem dX5_mean_35 : decode cX5_mean 35 = .ok (.invokevirtual 119, 3) := by decide +kernel
theorem dX5_mean_38 : decode cX5_mean 38 = .ok (.aload_n 0, 1) := by decide +kernel
theorem dX5_mean_39 : decode cX5_mean 39 = .ok (.bipush 12, 2) := by decide +kernel
theorem dX5_mean_41 : decode cX5_mean 41 = .ok (.iload_n 2, 1) := by decide +kernel
theorem dX5_mean_42 : decode cX5_mean 42 = .ok (.invokevirtual 89, 3) := by decide +kernel
theorem dX5_mean_45 : decode cX5_mean 45 = .ok (.lstore 4, 2) := by decide +kernel
theorem dX5_mean_47 : decode cX5_mean 47 = .ok (.iconst 0, 1) := by decide +kernel
theorem dX5_mean_48 : decode cX5_mean 48 = .ok (.istore 6, 2) := by decide +kernel
theorem dX5_mean_50 : decode cX5_mean 50 = .ok (.iconst 1, 1) := by decide +kernel
theorem dX5_mean_51 : decode cX5_mean 51 = .ok (.istore 7, 2) := by decide +kernel
theorem dX5_mean_53 : decode cX5_mean 53 = .ok (.iload 7, 2) := by decide +kernel
theorem dX5_mean_55 : decode cX5_mean 55 = .ok (.iload_n 3, 1) := by decide +kernel
theorem dX5_mean_56 : decode cX5_mean 56 = .ok (.if_icmp .gt 109, 3) := by decide +kernel
theorem dX5_mean_59 : decode cX5_mean 59 = .ok (.aload_n 0, 1) := by decide +kernel
theorem dX5_mean_60 : decode cX5_mean 60 = .ok (.bipush 12, 2) := by decide +kernel
theorem dX5_mean_62 : decode cX5_mean 62 = .ok (.invokevirtual 123, 3) := by decide +kernel
theorem dX5_mean_65 : decode cX5_mean 65 = .ok (.ifCond .ne 7, 3) := by decide +kernel
theorem dX5_mean_68 : decode cX5_mean 68 = .ok (.ldc2_w 139, 3) := by decide +kernel
theorem dX5_mean_71 : decode cX5_mean 71 = .ok (.lreturn, 1) := by decide +kernel
theorem dX5_mean_72 : decode cX5_mean 72 = .ok (.aload_n 0, 1) := by decide +kernel
theorem dX5_mean_73 : decode cX5_mean 73 = .ok (.bipush 12, 2) := by decide +kernel
theorem dX5_mean_75 : decode cX5_mean 75 = .ok (.invokevirtual 126, 3) := by decide +kernel
theorem dX5_mean_78 : decode cX5_mean 78 = .ok (.iload 6, 2) := by decide +kernel
theorem dX5_mean_80 : decode cX5_mean 80 = .ok (.ifCond .ne 19, 3) := by decide +kernel
theorem dX5_mean_83 : decode cX5_mean 83 = .ok (.lload 4, 2) := by decide +kernel
theorem dX5_mean_85 : decode cX5_mean 85 = .ok (.ldc2_w 97, 3) := by decide +kernel
theorem dX5_mean_88 : decode cX5_mean 88 = .ok (.aload_n 0, 1) := by decide +kernel
theorem dX5_mean_89 : decode cX5_mean 89 = .ok (.iload_n 1, 1) := by decide +kernel
theorem dX5_mean_90 : decode cX5_mean 90 = .ok (.invokevirtual 99, 3) := by decide +kernel
theorem dX5_mean_93 : decode cX5_mean 93 = .ok (.i2l, 1) := by decide +kernel
theorem dX5_mean_94 : decode cX5_mean 94 = .ok (.ldiv, 1) := by decide +kernel
theorem dX5_mean_95 : decode cX5_mean 95 = .ok (.lcmp, 1) := by decide +kernel
theorem dX5_mean_96 : decode cX5_mean 96 = .ok (.ifCond .le 7, 3) := by decide +kernel
theorem dX5_mean_99 : decode cX5_mean 99 = .ok (.iconst 1, 1) := by decide +kernel
theorem dX5_mean_100 : decode cX5_mean 100 = .ok (.goto 4, 3) := by decide +kernel
theorem dX5_mean_103 : decode cX5_mean 103 = .ok (.iconst 0, 1) := by decide +kernel
theorem dX5_mean_104 : decode cX5_mean 104 = .ok (.istore 6, 2) := by decide +kernel
theorem dX5_mean_106 : decode cX5_mean 106 = .ok (.iload 6, 2) := by decide +kernel
theorem dX5_mean_108 : decode cX5_mean 108 = .ok (.ifCond .eq 6, 3) := by decide +kernel
theorem dX5_mean_111 : decode cX5_mean 111 = .ok (.goto 48, 3) := by decide +kernel
theorem dX5_mean_114 : decode cX5_mean 114 = .ok (.lload 4, 2) := by decide +kernel
theorem dX5_mean_116 : decode cX5_mean 116 = .ok (.aload_n 0, 1) := by decide +kernel
theorem dX5_mean_117 : decode cX5_mean 117 = .ok (.iload_n 1, 1) := by decide +kernel
theorem dX5_mean_118 : decode cX5_mean 118 = .ok (.invokevirtual 99, 3) := by decide +kernel
theorem dX5_mean_121 : decode cX5_mean 121 = .ok (.i2l, 1) := by decide +kernel
theorem dX5_mean_122 : decode cX5_mean 122 = .ok (.lmul, 1) := by decide +kernel
theorem dX5_mean_123 : decode cX5_mean 123 = .ok (.lstore 4, 2) := by decide +kernel
theorem dX5_mean_125 : decode cX5_mean 125 = .ok (.aload_n 0, 1) := by decide +kernel
theorem dX5_mean_126 : decode cX5_mean 126 = .ok (.bipush 12, 2) := by decide +kernel
theorem dX5_mean_128 : decode cX5_mean 128 = .ok (.iload_n 2, 1) := by decide +kernel
theorem dX5_mean_129 : decode cX5_mean 129 = .ok (.invokevirtual 89, 3) := by decide +kernel
theorem dX5_mean_132 : decode cX5_mean 132 = .ok (.lstore 8, 2) := by decide +kernel
theorem dX5_mean_134 : decode cX5_mean 134 = .ok (.lload 8, 2) := by decide +kernel
theorem dX5_mean_136 : decode cX5_mean 136 = .ok (.ldc2_w 97, 3) := by decide +kernel
theorem dX5_mean_139 : decode cX5_mean 139 = .ok (.lload 4, 2) := by decide +kernel
theorem dX5_mean_141 : decode cX5_mean 141 = .ok (.lsub, 1) := by decide +kernel
theorem dX5_mean_142 : decode cX5_mean 142 = .ok (.lcmp, 1) := by decide +kernel
theorem dX5_mean_143 : decode cX5_mean 143 = .ok (.ifCond .le 9, 3) := by decide +kernel
theorem dX5_mean_146 : decode cX5_mean 146 = .ok (.iconst 1, 1) := by decide +kernel
theorem dX5_mean_147 : decode cX5_mean 147 = .ok (.istore 6, 2) := by decide +kernel
theorem dX5_mean_149 : decode cX5_mean 149 = .ok (.goto 10, 3) := by decide +kernel
theorem dX5_mean_152 : decode cX5_mean 152 = .ok (.lload 4, 2) := by decide +kernel
theorem dX5_mean_154 : decode cX5_mean 154 = .ok (.lload 8, 2) := by decide +kernel
theorem dX5_mean_156 : decode cX5_mean 156 = .ok (.ladd, 1) := by decide +kernel
theorem dX5_mean_157 : decode cX5_mean 157 = .ok (.lstore 4, 2) := by decide +kernel
theorem dX5_mean_159 : decode cX5_mean 159 = .ok (.iinc 7 1, 3) := by decide +kernel
theorem dX5_mean_162 : decode cX5_mean 162 = .ok (.goto (-109), 3) := by decide +kernel
theorem dX5_mean_165 : decode cX5_mean 165 = .ok (.iload 6, 2) := by decide +kernel
theorem dX5_mean_167 : decode cX5_mean 167 = .ok (.ifCond .eq 9, 3) := by decide +kernel
theorem dX5_mean_170 : decode cX5_mean 170 = .ok (.ldc2_w 139, 3) := by decide +kernel
theorem dX5_mean_173 : decode cX5_mean 173 = .ok (.goto 5, 3) := by decide +kernel
theorem dX5_mean_176 : decode cX5_mean 176 = .ok (.lload 4, 2) := by decide +kernel
theorem dX5_mean_178 : decode cX5_mean 178 = .ok (.lreturn, 1) := by decide +kernel
set_option maxRecDepth 20000 in
theorem ggX5_copy_X5_isWalk : GoodIn wsX5_copy wsX5_isWalk := goodIn_r _ [7, 8, 1, 9, 10, 11, 6, 12, 19, 20, 21, 22, 23, 24, 25, 26, 27, 28, 29, 30, 31, 32] (by decide +kernel) (by decide +kernel)
set_option maxRecDepth 20000 in
theorem gX5_copy_X5_isWalk : GoodIn wsX5_copy (wsV RX5 82 RX5 yX5_isWalk wsX5_isWalk) := goodIn_app (goodIn_of _ (by decide +kernel)) ggX5_copy_X5_isWalk
set_option maxRecDepth 20000 in
theorem ggX5_copy_X5_right : GoodIn wsX5_copy wsX5_right := goodIn_r _ [12, 8, 19, 20, 21, 22, 23, 24, 25, 26, 27, 28, 29, 30, 31, 32] (by decide +kernel) (by decide +kernel)
set_option maxRecDepth 20000 in
theorem gX5_copy_X5_right : GoodIn wsX5_copy (wsV RX5 52 RX5 yX5_right wsX5_right) := goodIn_app (goodIn_of _ (by decide +kernel)) ggX5_copy_X5_right
set_option maxRecDepth 20000 in
theorem ggX5_copy_X5_copies : GoodIn wsX5_copy wsX5_copies := goodIn_r _ [16, 2, 17, 18, 19, 20, 21, 22, 23, 24, 25, 26, 27, 28, 29, 30, 31, 32] (by decide +kernel) (by decide +kernel)
set_option maxRecDepth 20000 in
theorem gX5_copy_X5_copies : GoodIn wsX5_copy (wsV RX5 119 RX5 yX5_copies wsX5_copies) := goodIn_app (goodIn_of _ (by decide +kernel)) ggX5_copy_X5_copies
theorem dX5_copy_0 : decode cX5_copy 0 = .ok (.aload_n 0, 1) := by decide +kernel
theorem dX5_copy_1 : decode cX5_copy 1 = .ok (.iload_n 1, 1) := by decide +kernel
theorem dX5_copy_2 : decode cX5_copy 2 = .ok (.invokevirtual 82, 3) := by decide +kernel
theorem dX5_copy_5 : decode cX5_copy 5 = .ok (.ifCond .eq 56, 3) := by decide +kernel
theorem dX5_copy_8 : decode cX5_copy 8 = .ok (.aload_n 0, 1) := by decide +kernel
theorem dX5_copy_9 : decode cX5_copy 9 = .ok (.iload_n 2, 1) := by decide +kernel
theorem dX5_copy_10 : decode cX5_copy 10 = .ok (.ifCond .lt 15, 3) := by decide +kernel
theorem dX5_copy_13 : decode cX5_copy 13 = .ok (.iload_n 2, 1) := by decide +kernel
theorem dX5_copy_14 : decode cX5_copy 14 = .ok (.aload_n 0, 1) := by decide +kernel
theorem dX5_copy_15 : decode cX5_copy 15 = .ok (.getfield 75, 3) := by decide +kernel
theorem dX5_copy_18 : decode cX5_copy 18 = .ok (.if_icmp .ge 7, 3) := by decide +kernel
theorem dX5_copy_21 : decode cX5_copy 21 = .ok (.iconst 1, 1) := by decide +kernel
theorem dX5_copy_22 : decode cX5_copy 22 = .ok (.goto 4, 3) := by decide +kernel
theorem dX5_copy_25 : decode cX5_copy 25 = .ok (.iconst 0, 1) := by decide +kernel
theorem dX5_copy_26 : decode cX5_copy 26 = .ok (.iconst 1, 1) := by decide +kernel
theorem dX5_copy_27 : decode cX5_copy 27 = .ok (.invokevirtual 52, 3) := by decide +kernel
theorem dX5_copy_30 : decode cX5_copy 30 = .ok (.ifCond .eq 31, 3) := by decide +kernel
theorem dX5_copy_33 : decode cX5_copy 33 = .ok (.aload_n 0, 1) := by decide +kernel
theorem dX5_copy_34 : decode cX5_copy 34 = .ok (.aload_n 0, 1) := by decide +kernel
theorem dX5_copy_35 : decode cX5_copy 35 = .ok (.getfield 26, 3) := by decide +kernel
theorem dX5_copy_38 : decode cX5_copy 38 = .ok (.iload_n 1, 1) := by decide +kernel
theorem dX5_copy_39 : decode cX5_copy 39 = .ok (.iaload, 1) := by decide +kernel
theorem dX5_copy_40 : decode cX5_copy 40 = .ok (.aload_n 0, 1) := by decide +kernel
theorem dX5_copy_41 : decode cX5_copy 41 = .ok (.getfield 26, 3) := by decide +kernel
theorem dX5_copy_44 : decode cX5_copy 44 = .ok (.iload_n 2, 1) := by decide +kernel
theorem dX5_copy_45 : decode cX5_copy 45 = .ok (.iaload, 1) := by decide +kernel
theorem dX5_copy_46 : decode cX5_copy 46 = .ok (.if_icmp .ne 7, 3) := by decide +kernel
theorem dX5_copy_49 : decode cX5_copy 49 = .ok (.iconst 1, 1) := by decide +kernel
theorem dX5_copy_50 : decode cX5_copy 50 = .ok (.goto 4, 3) := by decide +kernel
theorem dX5_copy_53 : decode cX5_copy 53 = .ok (.iconst 0, 1) := by decide +kernel
theorem dX5_copy_54 : decode cX5_copy 54 = .ok (.iconst 2, 1) := by decide +kernel
theorem dX5_copy_55 : decode cX5_copy 55 = .ok (.invokevirtual 52, 3) := by decide +kernel
theorem dX5_copy_58 : decode cX5_copy 58 = .ok (.ifCond .ne 4, 3) := by decide +kernel
theorem dX5_copy_61 : decode cX5_copy 61 = .ok (.return_, 1) := by decide +kernel
theorem dX5_copy_62 : decode cX5_copy 62 = .ok (.aload_n 0, 1) := by decide +kernel
theorem dX5_copy_63 : decode cX5_copy 63 = .ok (.iload_n 2, 1) := by decide +kernel
theorem dX5_copy_64 : decode cX5_copy 64 = .ok (.iload_n 1, 1) := by decide +kernel
theorem dX5_copy_65 : decode cX5_copy 65 = .ok (.invokevirtual 119, 3) := by decide +kernel
theorem dX5_copy_68 : decode cX5_copy 68 = .ok (.return_, 1) := by decide +kernel
set_option maxRecDepth 20000 in
theorem ggX5_count_X5_right : GoodIn wsX5_count wsX5_right := goodIn_r _ [8, 1, 9, 10, 11, 12, 13, 14, 15, 16, 17, 18, 19, 20, 21, 22] (by decide +kernel) (by decide +kernel)
set_option maxRecDepth 20000 in
theorem gX5_count_X5_right : GoodIn wsX5_count (wsV RX5 52 RX5 yX5_right wsX5_right) := goodIn_app (goodIn_of _ (by decide +kernel)) ggX5_count_X5_right
theorem dX5_count_0 : decode cX5_count 0 = .ok (.aload_n 0, 1) := by decide +kernel
theorem dX5_count_1 : decode cX5_count 1 = .ok (.iconst 0, 1) := by decide +kernel
theorem dX5_count_2 : decode cX5_count 2 = .ok (.putfield 45, 3) := by decide +kernel
theorem dX5_count_5 : decode cX5_count 5 = .ok (.aload_n 0, 1) := by decide +kernel
theorem dX5_count_6 : decode cX5_count 6 = .ok (.iload_n 1, 1) := by decide +kernel
theorem dX5_count_7 : decode cX5_count 7 = .ok (.ifCond .eq 8, 3) := by decide +kernel
theorem dX5_count_10 : decode cX5_count 10 = .ok (.iload_n 1, 1) := by decide +kernel
theorem dX5_count_11 : decode cX5_count 11 = .ok (.iconst 1, 1) := by decide +kernel
theorem dX5_count_12 : decode cX5_count 12 = .ok (.if_icmp .ne 7, 3) := by decide +kernel
theorem dX5_count_15 : decode cX5_count 15 = .ok (.iconst 1, 1) := by decide +kernel
theorem dX5_count_16 : decode cX5_count 16 = .ok (.goto 4, 3) := by decide +kernel
theorem dX5_count_19 : decode cX5_count 19 = .ok (.iconst 0, 1) := by decide +kernel
theorem dX5_count_20 : decode cX5_count 20 = .ok (.iconst 1, 1) := by decide +kernel
theorem dX5_count_21 : decode cX5_count 21 = .ok (.invokevirtual 52, 3) := by decide +kernel
theorem dX5_count_24 : decode cX5_count 24 = .ok (.ifCond .ne 5, 3) := by decide +kernel
theorem dX5_count_27 : decode cX5_count 27 = .ok (.iconst 0, 1) := by decide +kernel
theorem dX5_count_28 : decode cX5_count 28 = .ok (.ireturn, 1) := by decide +kernel
theorem dX5_count_29 : decode cX5_count 29 = .ok (.iload_n 1, 1) := by decide +kernel
theorem dX5_count_30 : decode cX5_count 30 = .ok (.ifCond .ne 10, 3) := by decide +kernel
theorem dX5_count_33 : decode cX5_count 33 = .ok (.aload_n 0, 1) := by decide +kernel
theorem dX5_count_34 : decode cX5_count 34 = .ok (.getfield 49, 3) := by decide +kernel
theorem dX5_count_37 : decode cX5_count 37 = .ok (.goto 7, 3) := by decide +kernel
theorem dX5_count_40 : decode cX5_count 40 = .ok (.aload_n 0, 1) := by decide +kernel
theorem dX5_count_41 : decode cX5_count 41 = .ok (.getfield 75, 3) := by decide +kernel
theorem dX5_count_44 : decode cX5_count 44 = .ok (.ireturn, 1) := by decide +kernel
theorem dJ9_min_7cf53_0 : decode cJ9_min_7cf53 0 = .ok (.iload_n 0, 1) := by decide +kernel
theorem dJ9_min_7cf53_1 : decode cJ9_min_7cf53 1 = .ok (.iload_n 1, 1) := by decide +kernel
theorem dJ9_min_7cf53_2 : decode cJ9_min_7cf53 2 = .ok (.if_icmp .gt 7, 3) := by decide +kernel
theorem dJ9_min_7cf53_5 : decode cJ9_min_7cf53 5 = .ok (.iload_n 0, 1) := by decide +kernel
theorem dJ9_min_7cf53_6 : decode cJ9_min_7cf53 6 = .ok (.goto 4, 3) := by decide +kernel
theorem dJ9_min_7cf53_9 : decode cJ9_min_7cf53 9 = .ok (.iload_n 1, 1) := by decide +kernel
theorem dJ9_min_7cf53_10 : decode cJ9_min_7cf53 10 = .ok (.ireturn, 1) := by decide +kernel
end
section
/-! THE POOL: every cell of the system has a role, a number; what it holds stands in maps by roles: I (ints, booleans), J (longs), G (references, as roles); ad: where a role lies -/
def kd (r : Nat) : Nat :=
  if r < 8 then (if r = 0 then 4 else if r = 1 then 9 else if r = 2 then 10 else if r = 3 then 3 else if r = 4 then 7 else if r = 5 then 0 else if r = 6 then 6 else 7)
  else if r < 26 then (if (r - 8) % 3 = 0 then 1 else if (r - 8) % 3 = 1 then 6 else 8)
  else if r < 62 then (if (r - 26) % 3 = 0 then 2 else if (r - 26) % 3 = 1 then 3 else 7)
  else if r = 64 then 5 else if r = 68 ∨ r = 69 then 8 else if r = 72 ∨ r = 73 ∨ r = 80 then 7 else 6
def ln (r : Nat) : Nat :=
  if r = 1 then 6 else if r = 2 then 12 else if r = 4 then 48 else if r = 6 ∨ r = 7 then 12
  else if r < 26 then (if (r - 8) % 3 = 1 then 48 else 12)
  else if r < 62 then 48
  else if r = 65 ∨ r = 66 ∨ r = 69 then 6 else if r = 67 then 288 else if r = 68 then 72 else if r = 70 ∨ r = 71 then 13 else if r = 72 then 624 else if r = 73 then 48 else if r = 80 then 1 else 12
theorem ln_lt (r : Nat) : ln r < 2 ^ 31 := by
  unfold ln
  repeat' split
  all_goals omega
def pR (ad : Nat → Nat) (x : Option Nat) : Value := va_rf (x.map ad)
theorem pR_some (ad : Nat → Nat) {x : Option Nat} {q : Nat} (h : x = some q) : pR ad x = .ref (ad q) := by rw [h]; rfl
def pF (cy : Nat → ClassId) (ad : Nat → Nat) (G : Nat → Nat → Option Nat) (I : Nat → Nat → Int32) (J : Nat → Nat → Int64) (r : Nat) : va_E := match kd r with
  | 0 => .inr (0, [pR ad (G r 0), pR ad (G r 1), .int (I r 2)])
  | 1 => .inr (1, [.int (I r 0), .int (I r 1), .int (I r 2), .long (J r 3), pR ad (G r 4), pR ad (G r 5), .int (I r 6)])
  | 2 => .inr (2, [.int (I r 0), pR ad (G r 1), pR ad (G r 2)])
  | 3 => .inr (3, [pR ad (G r 0), .int (I r 1)])
  | 4 => .inr (4, [pR ad (G r 0), pR ad (G r 1), pR ad (G r 2), pR ad (G r 3), .int (I r 4), .int (I r 5)])
  | 5 => .inr (5, [.int (I r 0), .int (I r 1), .int (I r 2), pR ad (G r 3), pR ad (G r 4), pR ad (G r 5), pR ad (G r 6), pR ad (G r 7), pR ad (G r 8), pR ad (G r 9), pR ad (G r 10), pR ad (G r 11), pR ad (G r 12), pR ad (G r 13)])
  | 6 => .inl (cy 0, ln r, .inl (I r))
  | 7 => .inl (cy 1, ln r, .inr (.inl (J r)))
  | 8 => .inl (cy 2, ln r, .inl (I r))
  | 9 => .inl (cy 3, ln r, .inr (.inr (.inr (.inr (fun k => (G r k).map ad)))))
  | _ => .inl (cy 4, ln r, .inr (.inr (.inr (.inr (fun k => (G r k).map ad)))))
theorem pF_0 {cy : Nat → ClassId} {ad : Nat → Nat} {G : Nat → Nat → Option Nat} {I : Nat → Nat → Int32} {J : Nat → Nat → Int64} {r : Nat} (h : kd r = 0) : pF cy ad G I J r = .inr (0, [pR ad (G r 0), pR ad (G r 1), .int (I r 2)]) := by simp only [pF, h]
theorem pF_1 {cy : Nat → ClassId} {ad : Nat → Nat} {G : Nat → Nat → Option Nat} {I : Nat → Nat → Int32} {J : Nat → Nat → Int64} {r : Nat} (h : kd r = 1) : pF cy ad G I J r = .inr (1, [.int (I r 0), .int (I r 1), .int (I r 2), .long (J r 3), pR ad (G r 4), pR ad (G r 5), .int (I r 6)]) := by simp only [pF, h]
theorem pF_2 {cy : Nat → ClassId} {ad : Nat → Nat} {G : Nat → Nat → Option Nat} {I : Nat → Nat → Int32} {J : Nat → Nat → Int64} {r : Nat} (h : kd r = 2) : pF cy ad G I J r = .inr (2, [.int (I r 0), pR ad (G r 1), pR ad (G r 2)]) := by simp only [pF, h]
theorem pF_3 {cy : Nat → ClassId} {ad : Nat → Nat} {G : Nat → Nat → Option Nat} {I : Nat → Nat → Int32} {J : Nat → Nat → Int64} {r : Nat} (h : kd r = 3) : pF cy ad G I J r = .inr (3, [pR ad (G r 0), .int (I r 1)]) := by simp only [pF, h]
theorem pF_4 {cy : Nat → ClassId} {ad : Nat → Nat} {G : Nat → Nat → Option Nat} {I : Nat → Nat → Int32} {J : Nat → Nat → Int64} {r : Nat} (h : kd r = 4) : pF cy ad G I J r = .inr (4, [pR ad (G r 0), pR ad (G r 1), pR ad (G r 2), pR ad (G r 3), .int (I r 4), .int (I r 5)]) := by simp only [pF, h]
theorem pF_5 {cy : Nat → ClassId} {ad : Nat → Nat} {G : Nat → Nat → Option Nat} {I : Nat → Nat → Int32} {J : Nat → Nat → Int64} {r : Nat} (h : kd r = 5) : pF cy ad G I J r = .inr (5, [.int (I r 0), .int (I r 1), .int (I r 2), pR ad (G r 3), pR ad (G r 4), pR ad (G r 5), pR ad (G r 6), pR ad (G r 7), pR ad (G r 8), pR ad (G r 9), pR ad (G r 10), pR ad (G r 11), pR ad (G r 12), pR ad (G r 13)]) := by simp only [pF, h]
theorem pF_6 {cy : Nat → ClassId} {ad : Nat → Nat} {G : Nat → Nat → Option Nat} {I : Nat → Nat → Int32} {J : Nat → Nat → Int64} {r : Nat} (h : kd r = 6) : pF cy ad G I J r = .inl (cy 0, ln r, .inl (I r)) := by simp only [pF, h]
theorem pF_7 {cy : Nat → ClassId} {ad : Nat → Nat} {G : Nat → Nat → Option Nat} {I : Nat → Nat → Int32} {J : Nat → Nat → Int64} {r : Nat} (h : kd r = 7) : pF cy ad G I J r = .inl (cy 1, ln r, .inr (.inl (J r))) := by simp only [pF, h]
theorem pF_8 {cy : Nat → ClassId} {ad : Nat → Nat} {G : Nat → Nat → Option Nat} {I : Nat → Nat → Int32} {J : Nat → Nat → Int64} {r : Nat} (h : kd r = 8) : pF cy ad G I J r = .inl (cy 2, ln r, .inl (I r)) := by simp only [pF, h]
theorem pF_9 {cy : Nat → ClassId} {ad : Nat → Nat} {G : Nat → Nat → Option Nat} {I : Nat → Nat → Int32} {J : Nat → Nat → Int64} {r : Nat} (h : kd r = 9) : pF cy ad G I J r = .inl (cy 3, ln r, .inr (.inr (.inr (.inr (fun k => (G r k).map ad))))) := by simp only [pF, h]
theorem pF_10 {cy : Nat → ClassId} {ad : Nat → Nat} {G : Nat → Nat → Option Nat} {I : Nat → Nat → Int32} {J : Nat → Nat → Int64} {r : Nat} (h : kd r = 10) : pF cy ad G I J r = .inl (cy 4, ln r, .inr (.inr (.inr (.inr (fun k => (G r k).map ad))))) := by simp only [pF, h]
def pQ (ad : Nat → Nat) (F : Nat → va_E) (L : List Nat) : va_W := L.map (fun r => (ad r, F r))
abbrev pW (cy : Nat → ClassId) (ad : Nat → Nat) (G : Nat → Nat → Option Nat) (I : Nat → Nat → Int32) (J : Nat → Nat → Int64) (L : List Nat) : va_W := pQ ad (pF cy ad G I J) L
theorem pQ_get {ad : Nat → Nat} {F : Nat → va_E} {L : List Nat} {r : Nat} (h : r ∈ L) : ∃ k : Nat, L[k]? = some r ∧ (pQ ad F L)[k]? = some (ad r, F r) := by
  obtain ⟨k, hk⟩ := List.getElem?_of_mem h
  exact ⟨k, hk, by unfold pQ; rw [List.getElem?_map, hk]; rfl⟩
theorem pQ_of {ad : Nat → Nat} {F : Nat → va_E} {L : List Nat} {k : Nat} {q : Nat × va_E} (h : (pQ ad F L)[k]? = some q) : ∃ r, L[k]? = some r ∧ q = (ad r, F r) := by
  unfold pQ at h
  rw [List.getElem?_map] at h
  cases hr : L[k]? with
  | none => rw [hr] at h; cases h
  | some r => rw [hr] at h; exact ⟨r, rfl, (Option.some.inj h).symm⟩
theorem pQ_set {A : Nat → Prop} {ad : Nat → Nat} {F F' : Nat → va_E} {L : List Nat} {r k : Nat} {e : va_E} (hD : va_D A (pQ ad F L)) (hk : L[k]? = some r) (he : F' r = e) (ho : ∀ b, b ≠ r → F' b = F b) : (pQ ad F L).set k (ad r, e) = pQ ad F' L := by
  apply List.ext_getElem?
  intro j
  have hlen : k < (pQ ad F L).length := by unfold pQ; rw [List.length_map]; exact (List.getElem?_eq_some_iff.mp hk).1
  by_cases hjk : j = k
  · subst hjk
    rw [List.getElem?_set_self hlen]
    unfold pQ
    rw [List.getElem?_map, hk]
    show some (ad r, e) = some (ad r, F' r)
    rw [he]
  · rw [List.getElem?_set_ne (Ne.symm hjk)]
    unfold pQ
    rw [List.getElem?_map, List.getElem?_map]
    cases hb : L[j]? with
    | none => rfl
    | some b =>
      have hne : b ≠ r := fun h => hjk (hD.1 j k (ad b, F b) (ad r, F r) (by unfold pQ; rw [List.getElem?_map, hb]; rfl) (by unfold pQ; rw [List.getElem?_map, hk]; rfl) (by rw [h]))
      show some (ad b, F b) = some (ad b, F' b)
      rw [ho b hne]
theorem pF_I {cy : Nat → ClassId} {ad : Nat → Nat} {G : Nat → Nat → Option Nat} {I : Nat → Nat → Int32} {J : Nat → Nat → Int64} {r : Nat} {g : Nat → Int32} (b : Nat) (hb : b ≠ r) : pF cy ad G (va_up I r g) J b = pF cy ad G I J b := by
  simp only [pF, va_up_ne _ _ hb]
theorem pF_J {cy : Nat → ClassId} {ad : Nat → Nat} {G : Nat → Nat → Option Nat} {I : Nat → Nat → Int32} {J : Nat → Nat → Int64} {r : Nat} {g : Nat → Int64} (b : Nat) (hb : b ≠ r) : pF cy ad G I (va_up J r g) b = pF cy ad G I J b := by
  simp only [pF, va_up_ne _ _ hb]
theorem pF_G {cy : Nat → ClassId} {ad : Nat → Nat} {G : Nat → Nat → Option Nat} {I : Nat → Nat → Int32} {J : Nat → Nat → Int64} {r : Nat} {g : Nat → Option Nat} (b : Nat) (hb : b ≠ r) : pF cy ad (va_up G r g) I J b = pF cy ad G I J b := by
  simp only [pF, va_up_ne _ _ hb]
abbrev tysC (cy : Nat → ClassId) : List (ClassId × FieldType) := [(cy 0, .int), (cy 1, .long), (cy 2, .boolean), (cy 3, .object "WaveWalk$Net"), (cy 4, .object "WaveWalk$Walk")]
def Wd (D : va_G) (cy : Nat → ClassId) (A : Nat → Prop) (H0 H : Heap) (locs : List Loc) (L : List Nat) (ad : Nat → Nat) (G : Nat → Nat → Option Nat) (I : Nat → Nat → Int32) (J : Nat → Nat → Int64) : Prop :=
  va_P D vwCl (pW cy ad G I J L) H ∧ va_D A (pW cy ad G I J L) ∧ va_S A H0 H locs
/-- what a method's walk has at hand all along -/
def Cx (p : Program) (s : State) (m : MethodId) (args : Array Value) (c : Code) (cc : ByteArray) (own : String) (Ts : List Cond) (D : va_G) (cy : Nat → ClassId) (A : Nat → Prop) : Prop :=
  p.tables.exec = Jvm.exec ∧ c.code = cc ∧ s.vm.findClass own = some m.cls ∧ (∀ w ∈ Ts, w.before args s = true) ∧ va_K D vwCl (tysC cy) s ∧ (∀ q, s.heap.size ≤ q → A q)
section PR
variable {p : Program} {l : Launch} {e : Env} {R : Room} {s : State} {m : MethodId} {args : Array Value} {below : List Frame} {meth : Method} {c : Code} {H : Heap} {locs : List Loc} {cells slots : Nat} {Q : State → Prop}
variable {cc : ByteArray} {pc : Nat} {ls : Array Slot} {rest : List Value} {own : String} {Ts : List Cond} {D : va_G} {cy : Nat → ClassId} {A : Nat → Prop} {L : List Nat} {ad : Nat → Nat} {G : Nat → Nat → Option Nat} {I : Nat → Nat → Int32} {J : Nat → Nat → Int64} {r : Nat}
theorem p_get (C : Cx p s m args c cc own Ts D cy A) (hW : Wd D cy A s.heap H locs L ad G I J) (hr : r ∈ L) {ci N index k : Nat} {fs : List Value} {Cn : String} {T : u_T} {v : Value} (hF : pF cy ad G I J r = .inr (ci, fs)) (hc : vwCl[ci]? = some (Cn, T, N)) (hin : ∀ w ∈ u_ws Cn T N, w ∈ Ts) (hk : k < N)
    (hlink : (Cond.fieldLink own index (T k).1 (T k).2.1 (T k).2.2.1).before args s = true) (hv : fs[k]? = some v) (hdg : decode cc pc = .ok (.getfield index, 3))
    (kk : W p l e R s m args below meth c H locs cells slots Q (F0 m (pc + 3) ls (v :: rest))) : W p l e R s m args below meth c H locs cells slots Q (F0 m pc ls (.ref (ad r) :: rest)) := by
  obtain ⟨hx, hb, hown, hts, hK, hA⟩ := C
  obtain ⟨hP, hD, hS⟩ := hW
  obtain ⟨q, hq, hq2⟩ := pQ_get (ad := ad) (F := pF cy ad G I J) hr
  rw [hF] at hq2
  exact va_get hx hb hts hin hown hK hP q hq2 hc k hk hlink (fun _ h => h) hv hdg kk
theorem p_put (C : Cx p s m args c cc own Ts D cy A) (hW : Wd D cy A s.heap H locs L ad G I J) (hr : r ∈ L) {ci N index k : Nat} {fs : List Value} {Cn : String} {T : u_T} {v : Value} {g : Nat → Int32} (hF : pF cy ad G I J r = .inr (ci, fs)) (hc : vwCl[ci]? = some (Cn, T, N)) (hin : ∀ w ∈ u_ws Cn T N, w ∈ Ts)
    (ty0 : Nat → FieldType) (hty : ∀ k, k < N → parseFieldDescriptor (T k).2.2.1 = some (ty0 k)) (hnm : ∀ a, a < N → ∀ b, b < N → a ≠ b → (T a).2.1 ≠ (T b).2.1) (hk : k < N)
    (hlink : (Cond.fieldLink own index (T k).1 (T k).2.1 (T k).2.2.1).before args s = true) (hfin : (T k).2.2.2 = false) {ty : FieldType} (hd : parseFieldDescriptor (T k).2.2.1 = some ty) (hn : narrow ty v = v) (hfit : fits ty v = true) (hl : k < fs.length)
    (hF' : pF cy ad G (va_up I r g) J r = .inr (ci, fs.set k v)) (hdg : decode cc pc = .ok (.putfield index, 3))
    (kk : ∀ (H : Heap) (locs : List Loc), Wd D cy A s.heap H locs L ad G (va_up I r g) J → W p l e R s m args below meth c H locs cells slots Q (F0 m (pc + 3) ls rest)) : W p l e R s m args below meth c H locs cells slots Q (F0 m pc ls (v :: .ref (ad r) :: rest)) := by
  obtain ⟨hx, hb, hown, hts, hK, hA⟩ := C
  obtain ⟨hP, hD, hS⟩ := hW
  obtain ⟨q, hq, hq2⟩ := pQ_get (ad := ad) (F := pF cy ad G I J) hr
  have hq3 := hq2
  rw [hF] at hq3
  refine va_put hx hb hts hin ty0 hty hnm hown hK hP hD hS q hq3 hc k hk hlink (fun _ h => h) hfin hd hn hfit hl hdg (fun H1 locs1 hP1 hD1 hS1 => ?_)
  rw [pQ_set hD hq hF' pF_I] at hP1 hD1
  exact kk H1 locs1 ⟨hP1, hD1, hS1⟩
theorem p_iald (C : Cx p s m args c cc own Ts D cy A) (hW : Wd D cy A s.heap H locs L ad G I J) (hr : r ∈ L) (hk : kd r = 6) {i : Int32} {k : Nat} (hi : i = nI k) (hl : k < ln r) (hdg : decode cc pc = .ok (.iaload, 1))
    (kk : W p l e R s m args below meth c H locs cells slots Q (F0 m (pc + 1) ls (.int (I r k) :: rest))) : W p l e R s m args below meth c H locs cells slots Q (F0 m pc ls (.int i :: .ref (ad r) :: rest)) := by
  obtain ⟨hx, hb, hown, hts, hK, hA⟩ := C
  obtain ⟨hP, hD, hS⟩ := hW
  obtain ⟨q, hq, hq2⟩ := pQ_get (ad := ad) (F := pF cy ad G I J) hr
  rw [pF_6 hk] at hq2
  have hn := ln_lt r
  subst hi
  refine va_iald hx hb hK hP q 0 hq2 rfl (vp_in_nI hl hn) hdg ?_
  rw [nI_clamp (Nat.lt_trans hl hn)]
  exact kk
theorem p_zald (C : Cx p s m args c cc own Ts D cy A) (hW : Wd D cy A s.heap H locs L ad G I J) (hr : r ∈ L) (hk : kd r = 8) {i : Int32} {k : Nat} (hi : i = nI k) (hl : k < ln r) (hdg : decode cc pc = .ok (.baload, 1))
    (kk : W p l e R s m args below meth c H locs cells slots Q (F0 m (pc + 1) ls (.int (I r k) :: rest))) : W p l e R s m args below meth c H locs cells slots Q (F0 m pc ls (.int i :: .ref (ad r) :: rest)) := by
  obtain ⟨hx, hb, hown, hts, hK, hA⟩ := C
  obtain ⟨hP, hD, hS⟩ := hW
  obtain ⟨q, hq, hq2⟩ := pQ_get (ad := ad) (F := pF cy ad G I J) hr
  rw [pF_8 hk] at hq2
  have hn := ln_lt r
  subst hi
  refine va_zald hx hb hK hP q 2 hq2 rfl (vp_in_nI hl hn) hdg ?_
  rw [nI_clamp (Nat.lt_trans hl hn)]
  exact kk
theorem p_lald (C : Cx p s m args c cc own Ts D cy A) (hW : Wd D cy A s.heap H locs L ad G I J) (hr : r ∈ L) (hk : kd r = 7) {i : Int32} {k : Nat} (hi : i = nI k) (hl : k < ln r) (hdg : decode cc pc = .ok (.laload, 1))
    (kk : W p l e R s m args below meth c H locs cells slots Q (F0 m (pc + 1) ls (.long (J r k) :: rest))) : W p l e R s m args below meth c H locs cells slots Q (F0 m pc ls (.int i :: .ref (ad r) :: rest)) := by
  obtain ⟨hx, hb, hown, hts, hK, hA⟩ := C
  obtain ⟨hP, hD, hS⟩ := hW
  obtain ⟨q, hq, hq2⟩ := pQ_get (ad := ad) (F := pF cy ad G I J) hr
  rw [pF_7 hk] at hq2
  have hn := ln_lt r
  subst hi
  refine va_lald hx hb hK hP q 1 hq2 rfl (vp_in_nI hl hn) hdg ?_
  rw [nI_clamp (Nat.lt_trans hl hn)]
  exact kk
theorem p_aald (C : Cx p s m args c cc own Ts D cy A) (hW : Wd D cy A s.heap H locs L ad G I J) (hr : r ∈ L) (hk : kd r = 9 ∨ kd r = 10) {i : Int32} {k : Nat} (hi : i = nI k) (hl : k < ln r) (hdg : decode cc pc = .ok (.aaload, 1))
    (kk : W p l e R s m args below meth c H locs cells slots Q (F0 m (pc + 1) ls (pR ad (G r k) :: rest))) : W p l e R s m args below meth c H locs cells slots Q (F0 m pc ls (.int i :: .ref (ad r) :: rest)) := by
  obtain ⟨hx, hb, hown, hts, hK, hA⟩ := C
  obtain ⟨hP, hD, hS⟩ := hW
  obtain ⟨q, hq, hq2⟩ := pQ_get (ad := ad) (F := pF cy ad G I J) hr
  have hn := ln_lt r
  subst hi
  rcases hk with hk | hk
  · rw [pF_9 hk] at hq2
    refine va_aldq hx hb hK hP q 3 hq2 rfl (vp_in_nI hl hn) hdg ?_
    rw [nI_clamp (Nat.lt_trans hl hn)]
    exact kk
  · rw [pF_10 hk] at hq2
    refine va_aldq hx hb hK hP q 4 hq2 rfl (vp_in_nI hl hn) hdg ?_
    rw [nI_clamp (Nat.lt_trans hl hn)]
    exact kk
theorem p_iast (C : Cx p s m args c cc own Ts D cy A) (hW : Wd D cy A s.heap H locs L ad G I J) (hr : r ∈ L) (hk : kd r = 6) {i x : Int32} {k : Nat} (hi : i = nI k) (hl : k < ln r) (hdg : decode cc pc = .ok (.iastore, 1))
    (kk : ∀ (H : Heap) (locs : List Loc), Wd D cy A s.heap H locs L ad G (va_up I r (upd (I r) k x)) J → W p l e R s m args below meth c H locs cells slots Q (F0 m (pc + 1) ls rest)) : W p l e R s m args below meth c H locs cells slots Q (F0 m pc ls (.int x :: .int i :: .ref (ad r) :: rest)) := by
  obtain ⟨hx, hb, hown, hts, hK, hA⟩ := C
  obtain ⟨hP, hD, hS⟩ := hW
  obtain ⟨q, hq, hq2⟩ := pQ_get (ad := ad) (F := pF cy ad G I J) hr
  rw [pF_6 hk] at hq2
  have hn := ln_lt r
  subst hi
  refine va_iast hx hb hK hP hD hS q 0 hq2 rfl (vp_in_nI hl hn) hdg (fun H1 locs1 hP1 hD1 hS1 => ?_)
  rw [nI_clamp (Nat.lt_trans hl hn)] at hP1 hD1
  rw [pQ_set (F' := pF cy ad G (va_up I r (upd (I r) k x)) J) hD hq (by rw [pF_6 hk, va_up_self]) pF_I] at hP1 hD1
  exact kk H1 locs1 ⟨hP1, hD1, hS1⟩
theorem p_zast (C : Cx p s m args c cc own Ts D cy A) (hW : Wd D cy A s.heap H locs L ad G I J) (hr : r ∈ L) (hk : kd r = 8) {i x : Int32} {k : Nat} (hi : i = nI k) (hl : k < ln r) (h01 : vp_nar .boolean x = x) (hdg : decode cc pc = .ok (.bastore, 1))
    (kk : ∀ (H : Heap) (locs : List Loc), Wd D cy A s.heap H locs L ad G (va_up I r (upd (I r) k x)) J → W p l e R s m args below meth c H locs cells slots Q (F0 m (pc + 1) ls rest)) : W p l e R s m args below meth c H locs cells slots Q (F0 m pc ls (.int x :: .int i :: .ref (ad r) :: rest)) := by
  obtain ⟨hx, hb, hown, hts, hK, hA⟩ := C
  obtain ⟨hP, hD, hS⟩ := hW
  obtain ⟨q, hq, hq2⟩ := pQ_get (ad := ad) (F := pF cy ad G I J) hr
  rw [pF_8 hk] at hq2
  have hn := ln_lt r
  subst hi
  refine va_zast hx hb hK hP hD hS q 2 hq2 rfl (vp_in_nI hl hn) hdg (fun H1 locs1 hP1 hD1 hS1 => ?_)
  rw [nI_clamp (Nat.lt_trans hl hn), h01] at hP1 hD1
  rw [pQ_set (F' := pF cy ad G (va_up I r (upd (I r) k x)) J) hD hq (by rw [pF_8 hk, va_up_self]) pF_I] at hP1 hD1
  exact kk H1 locs1 ⟨hP1, hD1, hS1⟩
theorem p_last (C : Cx p s m args c cc own Ts D cy A) (hW : Wd D cy A s.heap H locs L ad G I J) (hr : r ∈ L) (hk : kd r = 7) {i : Int32} {x : Int64} {k : Nat} (hi : i = nI k) (hl : k < ln r) (hdg : decode cc pc = .ok (.lastore, 1))
    (kk : ∀ (H : Heap) (locs : List Loc), Wd D cy A s.heap H locs L ad G I (va_up J r (vp_updL (J r) k x)) → W p l e R s m args below meth c H locs cells slots Q (F0 m (pc + 1) ls rest)) : W p l e R s m args below meth c H locs cells slots Q (F0 m pc ls (.long x :: .int i :: .ref (ad r) :: rest)) := by
  obtain ⟨hx, hb, hown, hts, hK, hA⟩ := C
  obtain ⟨hP, hD, hS⟩ := hW
  obtain ⟨q, hq, hq2⟩ := pQ_get (ad := ad) (F := pF cy ad G I J) hr
  rw [pF_7 hk] at hq2
  have hn := ln_lt r
  subst hi
  refine va_last hx hb hK hP hD hS q 1 hq2 rfl (vp_in_nI hl hn) hdg (fun H1 locs1 hP1 hD1 hS1 => ?_)
  rw [nI_clamp (Nat.lt_trans hl hn)] at hP1 hD1
  rw [pQ_set (F' := pF cy ad G I (va_up J r (vp_updL (J r) k x))) hD hq (by rw [pF_7 hk, va_up_self]) pF_J] at hP1 hD1
  exact kk H1 locs1 ⟨hP1, hD1, hS1⟩
theorem g_X0_0 (C : Cx p s m args c cc own Ts D cy A) (hin : ∀ w ∈ wsX00, w ∈ Ts) (hW : Wd D cy A s.heap H locs L ad G I J) (hr : r ∈ L) (hk : kd r = 0) {q index : Nat} (hq : G r 0 = some q) (hlink : (Cond.fieldLink own index "WaveWalk$Classes" "ofPlace" "[I").before args s = true) (hdg : decode cc pc = .ok (.getfield index, 3))
    (kk : W p l e R s m args below meth c H locs cells slots Q (F0 m (pc + 3) ls (.ref (ad q) :: rest))) : W p l e R s m args below meth c H locs cells slots Q (F0 m pc ls (.ref (ad r) :: rest)) :=
  p_get C hW hr (pF_0 hk) rfl hin (by decide : 0 < 3) hlink rfl hdg (by rw [pR_some ad hq]; exact kk)
theorem g_X0_1 (C : Cx p s m args c cc own Ts D cy A) (hin : ∀ w ∈ wsX00, w ∈ Ts) (hW : Wd D cy A s.heap H locs L ad G I J) (hr : r ∈ L) (hk : kd r = 0) {q index : Nat} (hq : G r 1 = some q) (hlink : (Cond.fieldLink own index "WaveWalk$Classes" "keys" "[J").before args s = true) (hdg : decode cc pc = .ok (.getfield index, 3))
    (kk : W p l e R s m args below meth c H locs cells slots Q (F0 m (pc + 3) ls (.ref (ad q) :: rest))) : W p l e R s m args below meth c H locs cells slots Q (F0 m pc ls (.ref (ad r) :: rest)) :=
  p_get C hW hr (pF_0 hk) rfl hin (by decide : 1 < 3) hlink rfl hdg (by rw [pR_some ad hq]; exact kk)
theorem g_X0_2 (C : Cx p s m args c cc own Ts D cy A) (hin : ∀ w ∈ wsX00, w ∈ Ts) (hW : Wd D cy A s.heap H locs L ad G I J) (hr : r ∈ L) (hk : kd r = 0) {index : Nat} (hlink : (Cond.fieldLink own index "WaveWalk$Classes" "number" "I").before args s = true) (hdg : decode cc pc = .ok (.getfield index, 3))
    (kk : W p l e R s m args below meth c H locs cells slots Q (F0 m (pc + 3) ls (.int (I r 2) :: rest))) : W p l e R s m args below meth c H locs cells slots Q (F0 m pc ls (.ref (ad r) :: rest)) :=
  p_get C hW hr (pF_0 hk) rfl hin (by decide : 2 < 3) hlink rfl hdg kk
theorem g_X1_0 (C : Cx p s m args c cc own Ts D cy A) (hin : ∀ w ∈ wsX10, w ∈ Ts) (hW : Wd D cy A s.heap H locs L ad G I J) (hr : r ∈ L) (hk : kd r = 1) {index : Nat} (hlink : (Cond.fieldLink own index "WaveWalk$Net" "places" "I").before args s = true) (hdg : decode cc pc = .ok (.getfield index, 3))
    (kk : W p l e R s m args below meth c H locs cells slots Q (F0 m (pc + 3) ls (.int (I r 0) :: rest))) : W p l e R s m args below meth c H locs cells slots Q (F0 m pc ls (.ref (ad r) :: rest)) :=
  p_get C hW hr (pF_1 hk) rfl hin (by decide : 0 < 7) hlink rfl hdg kk
theorem g_X1_1 (C : Cx p s m args c cc own Ts D cy A) (hin : ∀ w ∈ wsX10, w ∈ Ts) (hW : Wd D cy A s.heap H locs L ad G I J) (hr : r ∈ L) (hk : kd r = 1) {index : Nat} (hlink : (Cond.fieldLink own index "WaveWalk$Net" "doors" "I").before args s = true) (hdg : decode cc pc = .ok (.getfield index, 3))
    (kk : W p l e R s m args below meth c H locs cells slots Q (F0 m (pc + 3) ls (.int (I r 1) :: rest))) : W p l e R s m args below meth c H locs cells slots Q (F0 m pc ls (.ref (ad r) :: rest)) :=
  p_get C hW hr (pF_1 hk) rfl hin (by decide : 1 < 7) hlink rfl hdg kk
theorem g_X1_2 (C : Cx p s m args c cc own Ts D cy A) (hin : ∀ w ∈ wsX10, w ∈ Ts) (hW : Wd D cy A s.heap H locs L ad G I J) (hr : r ∈ L) (hk : kd r = 1) {index : Nat} (hlink : (Cond.fieldLink own index "WaveWalk$Net" "scale" "I").before args s = true) (hdg : decode cc pc = .ok (.getfield index, 3))
    (kk : W p l e R s m args below meth c H locs cells slots Q (F0 m (pc + 3) ls (.int (I r 2) :: rest))) : W p l e R s m args below meth c H locs cells slots Q (F0 m pc ls (.ref (ad r) :: rest)) :=
  p_get C hW hr (pF_1 hk) rfl hin (by decide : 2 < 7) hlink rfl hdg kk
theorem g_X1_3 (C : Cx p s m args c cc own Ts D cy A) (hin : ∀ w ∈ wsX10, w ∈ Ts) (hW : Wd D cy A s.heap H locs L ad G I J) (hr : r ∈ L) (hk : kd r = 1) {index : Nat} (hlink : (Cond.fieldLink own index "WaveWalk$Net" "heaviestToStep" "J").before args s = true) (hdg : decode cc pc = .ok (.getfield index, 3))
    (kk : W p l e R s m args below meth c H locs cells slots Q (F0 m (pc + 3) ls (.long (J r 3) :: rest))) : W p l e R s m args below meth c H locs cells slots Q (F0 m pc ls (.ref (ad r) :: rest)) :=
  p_get C hW hr (pF_1 hk) rfl hin (by decide : 3 < 7) hlink rfl hdg kk
theorem g_X1_4 (C : Cx p s m args c cc own Ts D cy A) (hin : ∀ w ∈ wsX10, w ∈ Ts) (hW : Wd D cy A s.heap H locs L ad G I J) (hr : r ∈ L) (hk : kd r = 1) {q index : Nat} (hq : G r 4 = some q) (hlink : (Cond.fieldLink own index "WaveWalk$Net" "ledTo" "[I").before args s = true) (hdg : decode cc pc = .ok (.getfield index, 3))
    (kk : W p l e R s m args below meth c H locs cells slots Q (F0 m (pc + 3) ls (.ref (ad q) :: rest))) : W p l e R s m args below meth c H locs cells slots Q (F0 m pc ls (.ref (ad r) :: rest)) :=
  p_get C hW hr (pF_1 hk) rfl hin (by decide : 4 < 7) hlink rfl hdg (by rw [pR_some ad hq]; exact kk)
theorem g_X1_5 (C : Cx p s m args c cc own Ts D cy A) (hin : ∀ w ∈ wsX10, w ∈ Ts) (hW : Wd D cy A s.heap H locs L ad G I J) (hr : r ∈ L) (hk : kd r = 1) {q index : Nat} (hq : G r 5 = some q) (hlink : (Cond.fieldLink own index "WaveWalk$Net" "marked" "[Z").before args s = true) (hdg : decode cc pc = .ok (.getfield index, 3))
    (kk : W p l e R s m args below meth c H locs cells slots Q (F0 m (pc + 3) ls (.ref (ad q) :: rest))) : W p l e R s m args below meth c H locs cells slots Q (F0 m pc ls (.ref (ad r) :: rest)) :=
  p_get C hW hr (pF_1 hk) rfl hin (by decide : 5 < 7) hlink rfl hdg (by rw [pR_some ad hq]; exact kk)
theorem g_X1_6 (C : Cx p s m args c cc own Ts D cy A) (hin : ∀ w ∈ wsX10, w ∈ Ts) (hW : Wd D cy A s.heap H locs L ad G I J) (hr : r ∈ L) (hk : kd r = 1) {index : Nat} (hlink : (Cond.fieldLink own index "WaveWalk$Net" "hasWalks" "Z").before args s = true) (hdg : decode cc pc = .ok (.getfield index, 3))
    (kk : W p l e R s m args below meth c H locs cells slots Q (F0 m (pc + 3) ls (.int (I r 6) :: rest))) : W p l e R s m args below meth c H locs cells slots Q (F0 m pc ls (.ref (ad r) :: rest)) :=
  p_get C hW hr (pF_1 hk) rfl hin (by decide : 6 < 7) hlink rfl hdg kk
theorem g_X2_0 (C : Cx p s m args c cc own Ts D cy A) (hin : ∀ w ∈ wsX20, w ∈ Ts) (hW : Wd D cy A s.heap H locs L ad G I J) (hr : r ∈ L) (hk : kd r = 2) {index : Nat} (hlink : (Cond.fieldLink own index "WaveWalk$Walk" "netNumber" "I").before args s = true) (hdg : decode cc pc = .ok (.getfield index, 3))
    (kk : W p l e R s m args below meth c H locs cells slots Q (F0 m (pc + 3) ls (.int (I r 0) :: rest))) : W p l e R s m args below meth c H locs cells slots Q (F0 m pc ls (.ref (ad r) :: rest)) :=
  p_get C hW hr (pF_2 hk) rfl hin (by decide : 0 < 3) hlink rfl hdg kk
theorem g_X2_1 (C : Cx p s m args c cc own Ts D cy A) (hin : ∀ w ∈ wsX20, w ∈ Ts) (hW : Wd D cy A s.heap H locs L ad G I J) (hr : r ∈ L) (hk : kd r = 2) {q index : Nat} (hq : G r 1 = some q) (hlink : (Cond.fieldLink own index "WaveWalk$Walk" "net" "LWaveWalk$Net;").before args s = true) (hdg : decode cc pc = .ok (.getfield index, 3))
    (kk : W p l e R s m args below meth c H locs cells slots Q (F0 m (pc + 3) ls (.ref (ad q) :: rest))) : W p l e R s m args below meth c H locs cells slots Q (F0 m pc ls (.ref (ad r) :: rest)) :=
  p_get C hW hr (pF_2 hk) rfl hin (by decide : 1 < 3) hlink rfl hdg (by rw [pR_some ad hq]; exact kk)
theorem g_X2_2 (C : Cx p s m args c cc own Ts D cy A) (hin : ∀ w ∈ wsX20, w ∈ Ts) (hW : Wd D cy A s.heap H locs L ad G I J) (hr : r ∈ L) (hk : kd r = 2) {q index : Nat} (hq : G r 2 = some q) (hlink : (Cond.fieldLink own index "WaveWalk$Walk" "wave" "LWaveWalk$Wave;").before args s = true) (hdg : decode cc pc = .ok (.getfield index, 3))
    (kk : W p l e R s m args below meth c H locs cells slots Q (F0 m (pc + 3) ls (.ref (ad q) :: rest))) : W p l e R s m args below meth c H locs cells slots Q (F0 m pc ls (.ref (ad r) :: rest)) :=
  p_get C hW hr (pF_2 hk) rfl hin (by decide : 2 < 3) hlink rfl hdg (by rw [pR_some ad hq]; exact kk)
theorem g_X3_0 (C : Cx p s m args c cc own Ts D cy A) (hin : ∀ w ∈ wsX30, w ∈ Ts) (hW : Wd D cy A s.heap H locs L ad G I J) (hr : r ∈ L) (hk : kd r = 3) {q index : Nat} (hq : G r 0 = some q) (hlink : (Cond.fieldLink own index "WaveWalk$Wave" "numbers" "[J").before args s = true) (hdg : decode cc pc = .ok (.getfield index, 3))
    (kk : W p l e R s m args below meth c H locs cells slots Q (F0 m (pc + 3) ls (.ref (ad q) :: rest))) : W p l e R s m args below meth c H locs cells slots Q (F0 m pc ls (.ref (ad r) :: rest)) :=
  p_get C hW hr (pF_3 hk) rfl hin (by decide : 0 < 2) hlink rfl hdg (by rw [pR_some ad hq]; exact kk)
theorem g_X3_1 (C : Cx p s m args c cc own Ts D cy A) (hin : ∀ w ∈ wsX30, w ∈ Ts) (hW : Wd D cy A s.heap H locs L ad G I J) (hr : r ∈ L) (hk : kd r = 3) {index : Nat} (hlink : (Cond.fieldLink own index "WaveWalk$Wave" "time" "I").before args s = true) (hdg : decode cc pc = .ok (.getfield index, 3))
    (kk : W p l e R s m args below meth c H locs cells slots Q (F0 m (pc + 3) ls (.int (I r 1) :: rest))) : W p l e R s m args below meth c H locs cells slots Q (F0 m pc ls (.ref (ad r) :: rest)) :=
  p_get C hW hr (pF_3 hk) rfl hin (by decide : 1 < 2) hlink rfl hdg kk
theorem g_X4_0 (C : Cx p s m args c cc own Ts D cy A) (hin : ∀ w ∈ wsX40, w ∈ Ts) (hW : Wd D cy A s.heap H locs L ad G I J) (hr : r ∈ L) (hk : kd r = 4) {q index : Nat} (hq : G r 0 = some q) (hlink : (Cond.fieldLink own index "WaveWalk" "nets" "[LWaveWalk$Net;").before args s = true) (hdg : decode cc pc = .ok (.getfield index, 3))
    (kk : W p l e R s m args below meth c H locs cells slots Q (F0 m (pc + 3) ls (.ref (ad q) :: rest))) : W p l e R s m args below meth c H locs cells slots Q (F0 m pc ls (.ref (ad r) :: rest)) :=
  p_get C hW hr (pF_4 hk) rfl hin (by decide : 0 < 6) hlink rfl hdg (by rw [pR_some ad hq]; exact kk)
theorem g_X4_1 (C : Cx p s m args c cc own Ts D cy A) (hin : ∀ w ∈ wsX40, w ∈ Ts) (hW : Wd D cy A s.heap H locs L ad G I J) (hr : r ∈ L) (hk : kd r = 4) {q index : Nat} (hq : G r 1 = some q) (hlink : (Cond.fieldLink own index "WaveWalk" "walks" "[LWaveWalk$Walk;").before args s = true) (hdg : decode cc pc = .ok (.getfield index, 3))
    (kk : W p l e R s m args below meth c H locs cells slots Q (F0 m (pc + 3) ls (.ref (ad q) :: rest))) : W p l e R s m args below meth c H locs cells slots Q (F0 m pc ls (.ref (ad r) :: rest)) :=
  p_get C hW hr (pF_4 hk) rfl hin (by decide : 1 < 6) hlink rfl hdg (by rw [pR_some ad hq]; exact kk)
theorem g_X4_2 (C : Cx p s m args c cc own Ts D cy A) (hin : ∀ w ∈ wsX40, w ∈ Ts) (hW : Wd D cy A s.heap H locs L ad G I J) (hr : r ∈ L) (hk : kd r = 4) {q index : Nat} (hq : G r 2 = some q) (hlink : (Cond.fieldLink own index "WaveWalk" "trial" "LWaveWalk$Wave;").before args s = true) (hdg : decode cc pc = .ok (.getfield index, 3))
    (kk : W p l e R s m args below meth c H locs cells slots Q (F0 m (pc + 3) ls (.ref (ad q) :: rest))) : W p l e R s m args below meth c H locs cells slots Q (F0 m pc ls (.ref (ad r) :: rest)) :=
  p_get C hW hr (pF_4 hk) rfl hin (by decide : 2 < 6) hlink rfl hdg (by rw [pR_some ad hq]; exact kk)
theorem g_X4_3 (C : Cx p s m args c cc own Ts D cy A) (hin : ∀ w ∈ wsX40, w ∈ Ts) (hW : Wd D cy A s.heap H locs L ad G I J) (hr : r ∈ L) (hk : kd r = 4) {q index : Nat} (hq : G r 3 = some q) (hlink : (Cond.fieldLink own index "WaveWalk" "classes" "LWaveWalk$Classes;").before args s = true) (hdg : decode cc pc = .ok (.getfield index, 3))
    (kk : W p l e R s m args below meth c H locs cells slots Q (F0 m (pc + 3) ls (.ref (ad q) :: rest))) : W p l e R s m args below meth c H locs cells slots Q (F0 m pc ls (.ref (ad r) :: rest)) :=
  p_get C hW hr (pF_4 hk) rfl hin (by decide : 3 < 6) hlink rfl hdg (by rw [pR_some ad hq]; exact kk)
theorem g_X4_4 (C : Cx p s m args c cc own Ts D cy A) (hin : ∀ w ∈ wsX40, w ∈ Ts) (hW : Wd D cy A s.heap H locs L ad G I J) (hr : r ∈ L) (hk : kd r = 4) {index : Nat} (hlink : (Cond.fieldLink own index "WaveWalk" "netCount" "I").before args s = true) (hdg : decode cc pc = .ok (.getfield index, 3))
    (kk : W p l e R s m args below meth c H locs cells slots Q (F0 m (pc + 3) ls (.int (I r 4) :: rest))) : W p l e R s m args below meth c H locs cells slots Q (F0 m pc ls (.ref (ad r) :: rest)) :=
  p_get C hW hr (pF_4 hk) rfl hin (by decide : 4 < 6) hlink rfl hdg kk
theorem g_X4_5 (C : Cx p s m args c cc own Ts D cy A) (hin : ∀ w ∈ wsX40, w ∈ Ts) (hW : Wd D cy A s.heap H locs L ad G I J) (hr : r ∈ L) (hk : kd r = 4) {index : Nat} (hlink : (Cond.fieldLink own index "WaveWalk" "walkCount" "I").before args s = true) (hdg : decode cc pc = .ok (.getfield index, 3))
    (kk : W p l e R s m args below meth c H locs cells slots Q (F0 m (pc + 3) ls (.int (I r 5) :: rest))) : W p l e R s m args below meth c H locs cells slots Q (F0 m pc ls (.ref (ad r) :: rest)) :=
  p_get C hW hr (pF_4 hk) rfl hin (by decide : 5 < 6) hlink rfl hdg kk
theorem g_X5_0 (C : Cx p s m args c cc own Ts D cy A) (hin : ∀ w ∈ wsX50, w ∈ Ts) (hW : Wd D cy A s.heap H locs L ad G I J) (hr : r ∈ L) (hk : kd r = 5) {index : Nat} (hlink : (Cond.fieldLink own index "WaveWalkModel" "thrown" "I").before args s = true) (hdg : decode cc pc = .ok (.getfield index, 3))
    (kk : W p l e R s m args below meth c H locs cells slots Q (F0 m (pc + 3) ls (.int (I r 0) :: rest))) : W p l e R s m args below meth c H locs cells slots Q (F0 m pc ls (.ref (ad r) :: rest)) :=
  p_get C hW hr (pF_5 hk) rfl hin (by decide : 0 < 14) hlink rfl hdg kk
theorem g_X5_1 (C : Cx p s m args c cc own Ts D cy A) (hin : ∀ w ∈ wsX50, w ∈ Ts) (hW : Wd D cy A s.heap H locs L ad G I J) (hr : r ∈ L) (hk : kd r = 5) {index : Nat} (hlink : (Cond.fieldLink own index "WaveWalkModel" "nets" "I").before args s = true) (hdg : decode cc pc = .ok (.getfield index, 3))
    (kk : W p l e R s m args below meth c H locs cells slots Q (F0 m (pc + 3) ls (.int (I r 1) :: rest))) : W p l e R s m args below meth c H locs cells slots Q (F0 m pc ls (.ref (ad r) :: rest)) :=
  p_get C hW hr (pF_5 hk) rfl hin (by decide : 1 < 14) hlink rfl hdg kk
theorem g_X5_2 (C : Cx p s m args c cc own Ts D cy A) (hin : ∀ w ∈ wsX50, w ∈ Ts) (hW : Wd D cy A s.heap H locs L ad G I J) (hr : r ∈ L) (hk : kd r = 5) {index : Nat} (hlink : (Cond.fieldLink own index "WaveWalkModel" "walks" "I").before args s = true) (hdg : decode cc pc = .ok (.getfield index, 3))
    (kk : W p l e R s m args below meth c H locs cells slots Q (F0 m (pc + 3) ls (.int (I r 2) :: rest))) : W p l e R s m args below meth c H locs cells slots Q (F0 m pc ls (.ref (ad r) :: rest)) :=
  p_get C hW hr (pF_5 hk) rfl hin (by decide : 2 < 14) hlink rfl hdg kk
theorem g_X5_3 (C : Cx p s m args c cc own Ts D cy A) (hin : ∀ w ∈ wsX50, w ∈ Ts) (hW : Wd D cy A s.heap H locs L ad G I J) (hr : r ∈ L) (hk : kd r = 5) {q index : Nat} (hq : G r 3 = some q) (hlink : (Cond.fieldLink own index "WaveWalkModel" "places" "[I").before args s = true) (hdg : decode cc pc = .ok (.getfield index, 3))
    (kk : W p l e R s m args below meth c H locs cells slots Q (F0 m (pc + 3) ls (.ref (ad q) :: rest))) : W p l e R s m args below meth c H locs cells slots Q (F0 m pc ls (.ref (ad r) :: rest)) :=
  p_get C hW hr (pF_5 hk) rfl hin (by decide : 3 < 14) hlink rfl hdg (by rw [pR_some ad hq]; exact kk)
theorem g_X5_4 (C : Cx p s m args c cc own Ts D cy A) (hin : ∀ w ∈ wsX50, w ∈ Ts) (hW : Wd D cy A s.heap H locs L ad G I J) (hr : r ∈ L) (hk : kd r = 5) {q index : Nat} (hq : G r 4 = some q) (hlink : (Cond.fieldLink own index "WaveWalkModel" "doors" "[I").before args s = true) (hdg : decode cc pc = .ok (.getfield index, 3))
    (kk : W p l e R s m args below meth c H locs cells slots Q (F0 m (pc + 3) ls (.ref (ad q) :: rest))) : W p l e R s m args below meth c H locs cells slots Q (F0 m pc ls (.ref (ad r) :: rest)) :=
  p_get C hW hr (pF_5 hk) rfl hin (by decide : 4 < 14) hlink rfl hdg (by rw [pR_some ad hq]; exact kk)
theorem g_X5_5 (C : Cx p s m args c cc own Ts D cy A) (hin : ∀ w ∈ wsX50, w ∈ Ts) (hW : Wd D cy A s.heap H locs L ad G I J) (hr : r ∈ L) (hk : kd r = 5) {q index : Nat} (hq : G r 5 = some q) (hlink : (Cond.fieldLink own index "WaveWalkModel" "to" "[I").before args s = true) (hdg : decode cc pc = .ok (.getfield index, 3))
    (kk : W p l e R s m args below meth c H locs cells slots Q (F0 m (pc + 3) ls (.ref (ad q) :: rest))) : W p l e R s m args below meth c H locs cells slots Q (F0 m pc ls (.ref (ad r) :: rest)) :=
  p_get C hW hr (pF_5 hk) rfl hin (by decide : 5 < 14) hlink rfl hdg (by rw [pR_some ad hq]; exact kk)
theorem g_X5_6 (C : Cx p s m args c cc own Ts D cy A) (hin : ∀ w ∈ wsX50, w ∈ Ts) (hW : Wd D cy A s.heap H locs L ad G I J) (hr : r ∈ L) (hk : kd r = 5) {q index : Nat} (hq : G r 6 = some q) (hlink : (Cond.fieldLink own index "WaveWalkModel" "isMarked" "[Z").before args s = true) (hdg : decode cc pc = .ok (.getfield index, 3))
    (kk : W p l e R s m args below meth c H locs cells slots Q (F0 m (pc + 3) ls (.ref (ad q) :: rest))) : W p l e R s m args below meth c H locs cells slots Q (F0 m pc ls (.ref (ad r) :: rest)) :=
  p_get C hW hr (pF_5 hk) rfl hin (by decide : 6 < 14) hlink rfl hdg (by rw [pR_some ad hq]; exact kk)
theorem g_X5_7 (C : Cx p s m args c cc own Ts D cy A) (hin : ∀ w ∈ wsX50, w ∈ Ts) (hW : Wd D cy A s.heap H locs L ad G I J) (hr : r ∈ L) (hk : kd r = 5) {q index : Nat} (hq : G r 7 = some q) (hlink : (Cond.fieldLink own index "WaveWalkModel" "isUsed" "[Z").before args s = true) (hdg : decode cc pc = .ok (.getfield index, 3))
    (kk : W p l e R s m args below meth c H locs cells slots Q (F0 m (pc + 3) ls (.ref (ad q) :: rest))) : W p l e R s m args below meth c H locs cells slots Q (F0 m pc ls (.ref (ad r) :: rest)) :=
  p_get C hW hr (pF_5 hk) rfl hin (by decide : 7 < 14) hlink rfl hdg (by rw [pR_some ad hq]; exact kk)
theorem g_X5_8 (C : Cx p s m args c cc own Ts D cy A) (hin : ∀ w ∈ wsX50, w ∈ Ts) (hW : Wd D cy A s.heap H locs L ad G I J) (hr : r ∈ L) (hk : kd r = 5) {q index : Nat} (hq : G r 8 = some q) (hlink : (Cond.fieldLink own index "WaveWalkModel" "netOf" "[I").before args s = true) (hdg : decode cc pc = .ok (.getfield index, 3))
    (kk : W p l e R s m args below meth c H locs cells slots Q (F0 m (pc + 3) ls (.ref (ad q) :: rest))) : W p l e R s m args below meth c H locs cells slots Q (F0 m pc ls (.ref (ad r) :: rest)) :=
  p_get C hW hr (pF_5 hk) rfl hin (by decide : 8 < 14) hlink rfl hdg (by rw [pR_some ad hq]; exact kk)
theorem g_X5_9 (C : Cx p s m args c cc own Ts D cy A) (hin : ∀ w ∈ wsX50, w ∈ Ts) (hW : Wd D cy A s.heap H locs L ad G I J) (hr : r ∈ L) (hk : kd r = 5) {q index : Nat} (hq : G r 9 = some q) (hlink : (Cond.fieldLink own index "WaveWalkModel" "time" "[I").before args s = true) (hdg : decode cc pc = .ok (.getfield index, 3))
    (kk : W p l e R s m args below meth c H locs cells slots Q (F0 m (pc + 3) ls (.ref (ad q) :: rest))) : W p l e R s m args below meth c H locs cells slots Q (F0 m pc ls (.ref (ad r) :: rest)) :=
  p_get C hW hr (pF_5 hk) rfl hin (by decide : 9 < 14) hlink rfl hdg (by rw [pR_some ad hq]; exact kk)
theorem g_X5_10 (C : Cx p s m args c cc own Ts D cy A) (hin : ∀ w ∈ wsX50, w ∈ Ts) (hW : Wd D cy A s.heap H locs L ad G I J) (hr : r ∈ L) (hk : kd r = 5) {q index : Nat} (hq : G r 10 = some q) (hlink : (Cond.fieldLink own index "WaveWalkModel" "wave" "[J").before args s = true) (hdg : decode cc pc = .ok (.getfield index, 3))
    (kk : W p l e R s m args below meth c H locs cells slots Q (F0 m (pc + 3) ls (.ref (ad q) :: rest))) : W p l e R s m args below meth c H locs cells slots Q (F0 m pc ls (.ref (ad r) :: rest)) :=
  p_get C hW hr (pF_5 hk) rfl hin (by decide : 10 < 14) hlink rfl hdg (by rw [pR_some ad hq]; exact kk)
theorem g_X5_11 (C : Cx p s m args c cc own Ts D cy A) (hin : ∀ w ∈ wsX50, w ∈ Ts) (hW : Wd D cy A s.heap H locs L ad G I J) (hr : r ∈ L) (hk : kd r = 5) {q index : Nat} (hq : G r 11 = some q) (hlink : (Cond.fieldLink own index "WaveWalkModel" "next" "[J").before args s = true) (hdg : decode cc pc = .ok (.getfield index, 3))
    (kk : W p l e R s m args below meth c H locs cells slots Q (F0 m (pc + 3) ls (.ref (ad q) :: rest))) : W p l e R s m args below meth c H locs cells slots Q (F0 m pc ls (.ref (ad r) :: rest)) :=
  p_get C hW hr (pF_5 hk) rfl hin (by decide : 11 < 14) hlink rfl hdg (by rw [pR_some ad hq]; exact kk)
theorem g_X5_12 (C : Cx p s m args c cc own Ts D cy A) (hin : ∀ w ∈ wsX50, w ∈ Ts) (hW : Wd D cy A s.heap H locs L ad G I J) (hr : r ∈ L) (hk : kd r = 5) {q index : Nat} (hq : G r 12 = some q) (hlink : (Cond.fieldLink own index "WaveWalkModel" "classes" "[I").before args s = true) (hdg : decode cc pc = .ok (.getfield index, 3))
    (kk : W p l e R s m args below meth c H locs cells slots Q (F0 m (pc + 3) ls (.ref (ad q) :: rest))) : W p l e R s m args below meth c H locs cells slots Q (F0 m pc ls (.ref (ad r) :: rest)) :=
  p_get C hW hr (pF_5 hk) rfl hin (by decide : 12 < 14) hlink rfl hdg (by rw [pR_some ad hq]; exact kk)
theorem g_X5_13 (C : Cx p s m args c cc own Ts D cy A) (hin : ∀ w ∈ wsX50, w ∈ Ts) (hW : Wd D cy A s.heap H locs L ad G I J) (hr : r ∈ L) (hk : kd r = 5) {q index : Nat} (hq : G r 13 = some q) (hlink : (Cond.fieldLink own index "WaveWalkModel" "parted" "[I").before args s = true) (hdg : decode cc pc = .ok (.getfield index, 3))
    (kk : W p l e R s m args below meth c H locs cells slots Q (F0 m (pc + 3) ls (.ref (ad q) :: rest))) : W p l e R s m args below meth c H locs cells slots Q (F0 m pc ls (.ref (ad r) :: rest)) :=
  p_get C hW hr (pF_5 hk) rfl hin (by decide : 13 < 14) hlink rfl hdg (by rw [pR_some ad hq]; exact kk)
theorem s_X0_2 (C : Cx p s m args c cc own Ts D cy A) (hin : ∀ w ∈ wsX00, w ∈ Ts) (hW : Wd D cy A s.heap H locs L ad G I J) (hr : r ∈ L) (hk : kd r = 0) {index : Nat} {v : Int32} (hlink : (Cond.fieldLink own index "WaveWalk$Classes" "number" "I").before args s = true) (hdg : decode cc pc = .ok (.putfield index, 3))
    (kk : ∀ (H : Heap) (locs : List Loc), Wd D cy A s.heap H locs L ad G (va_up I r (upd (I r) 2 v)) J → W p l e R s m args below meth c H locs cells slots Q (F0 m (pc + 3) ls rest)) : W p l e R s m args below meth c H locs cells slots Q (F0 m pc ls (.int v :: .ref (ad r) :: rest)) :=
  p_put C hW hr (pF_0 hk) rfl hin tyX0 tyX0_ok nmX0 (by decide : 2 < 3) hlink rfl (ty := .int) (by decide +kernel) rfl rfl (Nat.le_of_ble_eq_true rfl) (by rw [pF_0 hk]; simp [va_up_self, upd]) hdg kk
theorem s_X1_6 (C : Cx p s m args c cc own Ts D cy A) (hin : ∀ w ∈ wsX10, w ∈ Ts) (hW : Wd D cy A s.heap H locs L ad G I J) (hr : r ∈ L) (hk : kd r = 1) {index : Nat} {v : Int32} (hn : narrow .boolean (.int v) = .int v) (hft : fits .boolean (.int v) = true) (hlink : (Cond.fieldLink own index "WaveWalk$Net" "hasWalks" "Z").before args s = true) (hdg : decode cc pc = .ok (.putfield index, 3))
    (kk : ∀ (H : Heap) (locs : List Loc), Wd D cy A s.heap H locs L ad G (va_up I r (upd (I r) 6 v)) J → W p l e R s m args below meth c H locs cells slots Q (F0 m (pc + 3) ls rest)) : W p l e R s m args below meth c H locs cells slots Q (F0 m pc ls (.int v :: .ref (ad r) :: rest)) :=
  p_put C hW hr (pF_1 hk) rfl hin tyX1 tyX1_ok nmX1 (by decide : 6 < 7) hlink rfl (ty := .boolean) (by decide +kernel) hn hft (Nat.le_of_ble_eq_true rfl) (by rw [pF_1 hk]; simp [va_up_self, upd]) hdg kk
theorem s_X3_1 (C : Cx p s m args c cc own Ts D cy A) (hin : ∀ w ∈ wsX30, w ∈ Ts) (hW : Wd D cy A s.heap H locs L ad G I J) (hr : r ∈ L) (hk : kd r = 3) {index : Nat} {v : Int32} (hlink : (Cond.fieldLink own index "WaveWalk$Wave" "time" "I").before args s = true) (hdg : decode cc pc = .ok (.putfield index, 3))
    (kk : ∀ (H : Heap) (locs : List Loc), Wd D cy A s.heap H locs L ad G (va_up I r (upd (I r) 1 v)) J → W p l e R s m args below meth c H locs cells slots Q (F0 m (pc + 3) ls rest)) : W p l e R s m args below meth c H locs cells slots Q (F0 m pc ls (.int v :: .ref (ad r) :: rest)) :=
  p_put C hW hr (pF_3 hk) rfl hin tyX3 tyX3_ok nmX3 (by decide : 1 < 2) hlink rfl (ty := .int) (by decide +kernel) rfl rfl (Nat.le_of_ble_eq_true rfl) (by rw [pF_3 hk]; simp [va_up_self, upd]) hdg kk
theorem s_X4_4 (C : Cx p s m args c cc own Ts D cy A) (hin : ∀ w ∈ wsX40, w ∈ Ts) (hW : Wd D cy A s.heap H locs L ad G I J) (hr : r ∈ L) (hk : kd r = 4) {index : Nat} {v : Int32} (hlink : (Cond.fieldLink own index "WaveWalk" "netCount" "I").before args s = true) (hdg : decode cc pc = .ok (.putfield index, 3))
    (kk : ∀ (H : Heap) (locs : List Loc), Wd D cy A s.heap H locs L ad G (va_up I r (upd (I r) 4 v)) J → W p l e R s m args below meth c H locs cells slots Q (F0 m (pc + 3) ls rest)) : W p l e R s m args below meth c H locs cells slots Q (F0 m pc ls (.int v :: .ref (ad r) :: rest)) :=
  p_put C hW hr (pF_4 hk) rfl hin tyX4 tyX4_ok nmX4 (by decide : 4 < 6) hlink rfl (ty := .int) (by decide +kernel) rfl rfl (Nat.le_of_ble_eq_true rfl) (by rw [pF_4 hk]; simp [va_up_self, upd]) hdg kk
theorem s_X4_5 (C : Cx p s m args c cc own Ts D cy A) (hin : ∀ w ∈ wsX40, w ∈ Ts) (hW : Wd D cy A s.heap H locs L ad G I J) (hr : r ∈ L) (hk : kd r = 4) {index : Nat} {v : Int32} (hlink : (Cond.fieldLink own index "WaveWalk" "walkCount" "I").before args s = true) (hdg : decode cc pc = .ok (.putfield index, 3))
    (kk : ∀ (H : Heap) (locs : List Loc), Wd D cy A s.heap H locs L ad G (va_up I r (upd (I r) 5 v)) J → W p l e R s m args below meth c H locs cells slots Q (F0 m (pc + 3) ls rest)) : W p l e R s m args below meth c H locs cells slots Q (F0 m pc ls (.int v :: .ref (ad r) :: rest)) :=
  p_put C hW hr (pF_4 hk) rfl hin tyX4 tyX4_ok nmX4 (by decide : 5 < 6) hlink rfl (ty := .int) (by decide +kernel) rfl rfl (Nat.le_of_ble_eq_true rfl) (by rw [pF_4 hk]; simp [va_up_self, upd]) hdg kk
theorem s_X5_0 (C : Cx p s m args c cc own Ts D cy A) (hin : ∀ w ∈ wsX50, w ∈ Ts) (hW : Wd D cy A s.heap H locs L ad G I J) (hr : r ∈ L) (hk : kd r = 5) {index : Nat} {v : Int32} (hlink : (Cond.fieldLink own index "WaveWalkModel" "thrown" "I").before args s = true) (hdg : decode cc pc = .ok (.putfield index, 3))
    (kk : ∀ (H : Heap) (locs : List Loc), Wd D cy A s.heap H locs L ad G (va_up I r (upd (I r) 0 v)) J → W p l e R s m args below meth c H locs cells slots Q (F0 m (pc + 3) ls rest)) : W p l e R s m args below meth c H locs cells slots Q (F0 m pc ls (.int v :: .ref (ad r) :: rest)) :=
  p_put C hW hr (pF_5 hk) rfl hin tyX5 tyX5_ok nmX5 (by decide : 0 < 14) hlink rfl (ty := .int) (by decide +kernel) rfl rfl (Nat.le_of_ble_eq_true rfl) (by rw [pF_5 hk]; simp [va_up_self, upd]) hdg kk
theorem s_X5_1 (C : Cx p s m args c cc own Ts D cy A) (hin : ∀ w ∈ wsX50, w ∈ Ts) (hW : Wd D cy A s.heap H locs L ad G I J) (hr : r ∈ L) (hk : kd r = 5) {index : Nat} {v : Int32} (hlink : (Cond.fieldLink own index "WaveWalkModel" "nets" "I").before args s = true) (hdg : decode cc pc = .ok (.putfield index, 3))
    (kk : ∀ (H : Heap) (locs : List Loc), Wd D cy A s.heap H locs L ad G (va_up I r (upd (I r) 1 v)) J → W p l e R s m args below meth c H locs cells slots Q (F0 m (pc + 3) ls rest)) : W p l e R s m args below meth c H locs cells slots Q (F0 m pc ls (.int v :: .ref (ad r) :: rest)) :=
  p_put C hW hr (pF_5 hk) rfl hin tyX5 tyX5_ok nmX5 (by decide : 1 < 14) hlink rfl (ty := .int) (by decide +kernel) rfl rfl (Nat.le_of_ble_eq_true rfl) (by rw [pF_5 hk]; simp [va_up_self, upd]) hdg kk
theorem s_X5_2 (C : Cx p s m args c cc own Ts D cy A) (hin : ∀ w ∈ wsX50, w ∈ Ts) (hW : Wd D cy A s.heap H locs L ad G I J) (hr : r ∈ L) (hk : kd r = 5) {index : Nat} {v : Int32} (hlink : (Cond.fieldLink own index "WaveWalkModel" "walks" "I").before args s = true) (hdg : decode cc pc = .ok (.putfield index, 3))
    (kk : ∀ (H : Heap) (locs : List Loc), Wd D cy A s.heap H locs L ad G (va_up I r (upd (I r) 2 v)) J → W p l e R s m args below meth c H locs cells slots Q (F0 m (pc + 3) ls rest)) : W p l e R s m args below meth c H locs cells slots Q (F0 m pc ls (.int v :: .ref (ad r) :: rest)) :=
  p_put C hW hr (pF_5 hk) rfl hin tyX5 tyX5_ok nmX5 (by decide : 2 < 14) hlink rfl (ty := .int) (by decide +kernel) rfl rfl (Nat.le_of_ble_eq_true rfl) (by rw [pF_5 hk]; simp [va_up_self, upd]) hdg kk
end PR
end
section
/-! rows for ints that are known to be numbers (nI n), and for a compare of longs with its branch -/
section AR
variable {p : Program} {l : Launch} {e : Env} {R : Room} {s : State} {m : MethodId} {args : Array Value} {below : List Frame} {meth : Method} {c : Code} {H : Heap} {locs : List Loc} {cells slots : Nat} {Q : State → Prop}
variable {cc : ByteArray} {pc : Nat} {ls : Array Slot} {rest : List Value}
theorem n_iadd (hx : p.tables.exec = Jvm.exec) (hb : c.code = cc) {a b : Nat} (hdg : decode cc pc = .ok (.iadd, 1)) (k : W p l e R s m args below meth c H locs cells slots Q (F0 m (pc + 1) ls (.int (nI (a + b)) :: rest))) : W p l e R s m args below meth c H locs cells slots Q (F0 m pc ls (.int (nI b) :: .int (nI a) :: rest)) :=
  lv_iadd hx hb hdg (by rw [nI_add]; exact k)
theorem n_imul (hx : p.tables.exec = Jvm.exec) (hb : c.code = cc) {a b : Nat} (hdg : decode cc pc = .ok (.imul, 1)) (k : W p l e R s m args below meth c H locs cells slots Q (F0 m (pc + 1) ls (.int (nI (a * b)) :: rest))) : W p l e R s m args below meth c H locs cells slots Q (F0 m pc ls (.int (nI b) :: .int (nI a) :: rest)) :=
  lv_imul hx hb hdg (by rw [pk_mul]; exact k)
theorem n_isub (hx : p.tables.exec = Jvm.exec) (hb : c.code = cc) {a b : Nat} (hab : b ≤ a) (hdg : decode cc pc = .ok (.isub, 1)) (k : W p l e R s m args below meth c H locs cells slots Q (F0 m (pc + 1) ls (.int (nI (a - b)) :: rest))) : W p l e R s m args below meth c H locs cells slots Q (F0 m pc ls (.int (nI b) :: .int (nI a) :: rest)) :=
  lv_isub hx hb hdg (by rw [pk_sub hab]; exact k)
theorem n_idiv (hx : p.tables.exec = Jvm.exec) (hb : c.code = cc) {a b : Nat} (ha : a < 2 ^ 31) (h0 : 0 < b) (hbb : b < 2 ^ 31) (hdg : decode cc pc = .ok (.idiv, 1)) (k : W p l e R s m args below meth c H locs cells slots Q (F0 m (pc + 1) ls (.int (nI (a / b)) :: rest))) : W p l e R s m args below meth c H locs cells slots Q (F0 m pc ls (.int (nI b) :: .int (nI a) :: rest)) :=
  lv_idiv hx hb hdg (nI_ne0 h0 hbb) (by rw [pk_div ha h0 hbb]; exact k)
theorem nI_inc (a : Nat) : nI a + Int32.ofInt 1 = nI (a + 1) := nI_1 a
theorem nI_inc6 (a : Nat) : nI a + Int32.ofInt 6 = nI (a + 6) := nI_add a 6
theorem n_top {x : Int32} {k : Nat} (hk : x = nI k) (kk : W p l e R s m args below meth c H locs cells slots Q (F0 m pc ls (.int (nI k) :: rest))) : W p l e R s m args below meth c H locs cells slots Q (F0 m pc ls (.int x :: rest)) := by rw [hk]; exact kk
theorem w_top {x y : Value} (hk : x = y) (kk : W p l e R s m args below meth c H locs cells slots Q (F0 m pc ls (y :: rest))) : W p l e R s m args below meth c H locs cells slots Q (F0 m pc ls (x :: rest)) := by rw [hk]; exact kk
theorem n_icmp_ge (hx : p.tables.exec = Jvm.exec) (hb : c.code = cc) {a b : Nat} {off : Int} {tgt : Nat} (ha : a < 2 ^ 31) (hbb : b < 2 ^ 31) (hdg : decode cc pc = .ok (.if_icmp .ge off, 3)) (ht : (pc : Int) + off = (tgt : Int)) (kt : b ≤ a → W p l e R s m args below meth c H locs cells slots Q (F0 m tgt ls rest)) (kf : a < b → W p l e R s m args below meth c H locs cells slots Q (F0 m (pc + 3) ls rest)) : W p l e R s m args below meth c H locs cells slots Q (F0 m pc ls (.int (nI b) :: .int (nI a) :: rest)) :=
  lv_icmp_ge hx hb hdg ht (fun h => kt ((nI_leI hbb ha).mp h)) (fun h => kf (Nat.not_le.mp (fun q => h ((nI_leI hbb ha).mpr q))))
theorem n_icmp_lt (hx : p.tables.exec = Jvm.exec) (hb : c.code = cc) {a b : Nat} {off : Int} {tgt : Nat} (ha : a < 2 ^ 31) (hbb : b < 2 ^ 31) (hdg : decode cc pc = .ok (.if_icmp .lt off, 3)) (ht : (pc : Int) + off = (tgt : Int)) (kt : a < b → W p l e R s m args below meth c H locs cells slots Q (F0 m tgt ls rest)) (kf : b ≤ a → W p l e R s m args below meth c H locs cells slots Q (F0 m (pc + 3) ls rest)) : W p l e R s m args below meth c H locs cells slots Q (F0 m pc ls (.int (nI b) :: .int (nI a) :: rest)) :=
  lv_icmp_lt hx hb hdg ht (fun h => kt ((nI_ltI ha hbb).mp h)) (fun h => kf (Nat.not_lt.mp (fun q => h ((nI_ltI ha hbb).mpr q))))
theorem n_icmp_gt (hx : p.tables.exec = Jvm.exec) (hb : c.code = cc) {a b : Nat} {off : Int} {tgt : Nat} (ha : a < 2 ^ 31) (hbb : b < 2 ^ 31) (hdg : decode cc pc = .ok (.if_icmp .gt off, 3)) (ht : (pc : Int) + off = (tgt : Int)) (kt : b < a → W p l e R s m args below meth c H locs cells slots Q (F0 m tgt ls rest)) (kf : a ≤ b → W p l e R s m args below meth c H locs cells slots Q (F0 m (pc + 3) ls rest)) : W p l e R s m args below meth c H locs cells slots Q (F0 m pc ls (.int (nI b) :: .int (nI a) :: rest)) :=
  lv_icmp_gt hx hb hdg ht (fun h => kt ((nI_ltI hbb ha).mp h)) (fun h => kf (Nat.not_lt.mp (fun q => h ((nI_ltI hbb ha).mpr q))))
theorem n_icmp_le (hx : p.tables.exec = Jvm.exec) (hb : c.code = cc) {a b : Nat} {off : Int} {tgt : Nat} (ha : a < 2 ^ 31) (hbb : b < 2 ^ 31) (hdg : decode cc pc = .ok (.if_icmp .le off, 3)) (ht : (pc : Int) + off = (tgt : Int)) (kt : a ≤ b → W p l e R s m args below meth c H locs cells slots Q (F0 m tgt ls rest)) (kf : b < a → W p l e R s m args below meth c H locs cells slots Q (F0 m (pc + 3) ls rest)) : W p l e R s m args below meth c H locs cells slots Q (F0 m pc ls (.int (nI b) :: .int (nI a) :: rest)) :=
  lv_icmp_le hx hb hdg ht (fun h => kt ((nI_leI ha hbb).mp h)) (fun h => kf (Nat.not_le.mp (fun q => h ((nI_leI ha hbb).mpr q))))
theorem n_icmp_eq (hx : p.tables.exec = Jvm.exec) (hb : c.code = cc) {a b : Nat} {off : Int} {tgt : Nat} (ha : a < 2 ^ 31) (hbb : b < 2 ^ 31) (hdg : decode cc pc = .ok (.if_icmp .eq off, 3)) (ht : (pc : Int) + off = (tgt : Int)) (kt : a = b → W p l e R s m args below meth c H locs cells slots Q (F0 m tgt ls rest)) (kf : a ≠ b → W p l e R s m args below meth c H locs cells slots Q (F0 m (pc + 3) ls rest)) : W p l e R s m args below meth c H locs cells slots Q (F0 m pc ls (.int (nI b) :: .int (nI a) :: rest)) :=
  lv_icmp_eq hx hb hdg ht (fun h => kt ((nI_eq ha hbb).mp h)) (fun h => kf (fun q => h ((nI_eq ha hbb).mpr q)))
theorem n_icmp_ne (hx : p.tables.exec = Jvm.exec) (hb : c.code = cc) {a b : Nat} {off : Int} {tgt : Nat} (ha : a < 2 ^ 31) (hbb : b < 2 ^ 31) (hdg : decode cc pc = .ok (.if_icmp .ne off, 3)) (ht : (pc : Int) + off = (tgt : Int)) (kt : a ≠ b → W p l e R s m args below meth c H locs cells slots Q (F0 m tgt ls rest)) (kf : a = b → W p l e R s m args below meth c H locs cells slots Q (F0 m (pc + 3) ls rest)) : W p l e R s m args below meth c H locs cells slots Q (F0 m pc ls (.int (nI b) :: .int (nI a) :: rest)) :=
  lv_icmp_ne hx hb hdg ht (fun h => kt (fun q => h ((nI_eq ha hbb).mpr q))) (fun h => kf ((nI_eq ha hbb).mp h))
/-- a Bool as an int -/
def bI (b : Bool) : Int32 := if b then 1 else 0
theorem bI_t : bI true = 1 := rfl
theorem bI_f : bI false = 0 := rfl
theorem bI_n (b : Bool) : vp_nar .boolean (bI b) = bI b := by cases b <;> decide
theorem bI_nar (b : Bool) : narrow .boolean (.int (bI b)) = .int (bI b) := by cases b <;> decide
theorem bI_fit (b : Bool) : fits .boolean (.int (bI b)) = true := by cases b <;> decide
theorem bI_0 {b : Bool} : bI b = 0 ↔ b = false := by cases b <;> decide
theorem bI_n0 {b : Bool} : ¬ bI b = 0 ↔ b = true := by cases b <;> decide
theorem b_if_eq (hx : p.tables.exec = Jvm.exec) (hb : c.code = cc) {b : Bool} {off : Int} {tgt : Nat} (hdg : decode cc pc = .ok (.ifCond .eq off, 3)) (ht : (pc : Int) + off = (tgt : Int)) (kt : b = false → W p l e R s m args below meth c H locs cells slots Q (F0 m tgt ls rest)) (kf : b = true → W p l e R s m args below meth c H locs cells slots Q (F0 m (pc + 3) ls rest)) : W p l e R s m args below meth c H locs cells slots Q (F0 m pc ls (.int (bI b) :: rest)) :=
  lv_if_eq hx hb hdg ht (fun h => kt (bI_0.mp h)) (fun h => kf (bI_n0.mp h))
theorem b_if_ne (hx : p.tables.exec = Jvm.exec) (hb : c.code = cc) {b : Bool} {off : Int} {tgt : Nat} (hdg : decode cc pc = .ok (.ifCond .ne off, 3)) (ht : (pc : Int) + off = (tgt : Int)) (kt : b = true → W p l e R s m args below meth c H locs cells slots Q (F0 m tgt ls rest)) (kf : b = false → W p l e R s m args below meth c H locs cells slots Q (F0 m (pc + 3) ls rest)) : W p l e R s m args below meth c H locs cells slots Q (F0 m pc ls (.int (bI b) :: rest)) :=
  lv_if_ne hx hb hdg ht (fun h => kt (bI_n0.mp h)) (fun h => kf (bI_0.mp h))
theorem cm_lt (x y : Int64) : lg_cmp x y < 0 ↔ x < y := lg_cmp_lt x y
theorem cm_gt (x y : Int64) : 0 < lg_cmp x y ↔ y < x := lg_cmp_gt x y
theorem cm_eqz (x y : Int64) : lg_cmp x y = 0 ↔ x = y := lg_cmp_eq x y
theorem i32_nle {x y : Int32} : ¬ x ≤ y ↔ y < x := by rw [Int32.le_iff_toInt_le, Int32.lt_iff_toInt_lt]; omega
theorem i32_nlt {x y : Int32} : ¬ x < y ↔ y ≤ x := by rw [Int32.le_iff_toInt_le, Int32.lt_iff_toInt_lt]; omega
theorem l_eq (hx : p.tables.exec = Jvm.exec) (hb : c.code = cc) {x y : Int64} {off : Int} {tgt : Nat} (d1 : decode cc pc = .ok (.lcmp, 1)) (d2 : decode cc (pc + 1) = .ok (.ifCond .eq off, 3)) (ht : ((pc + 1 : Nat) : Int) + off = (tgt : Int)) (kt : x = y → W p l e R s m args below meth c H locs cells slots Q (F0 m tgt ls rest)) (kf : x ≠ y → W p l e R s m args below meth c H locs cells slots Q (F0 m (pc + 4) ls rest)) : W p l e R s m args below meth c H locs cells slots Q (F0 m pc ls (.long y :: .long x :: rest)) :=
  W.lcmp hx hb d1 (lv_if_eq hx hb d2 ht (fun h => kt ((cm_eqz x y).mp h)) (fun h => kf (fun q => h ((cm_eqz x y).mpr q))))
theorem l_ne (hx : p.tables.exec = Jvm.exec) (hb : c.code = cc) {x y : Int64} {off : Int} {tgt : Nat} (d1 : decode cc pc = .ok (.lcmp, 1)) (d2 : decode cc (pc + 1) = .ok (.ifCond .ne off, 3)) (ht : ((pc + 1 : Nat) : Int) + off = (tgt : Int)) (kt : x ≠ y → W p l e R s m args below meth c H locs cells slots Q (F0 m tgt ls rest)) (kf : x = y → W p l e R s m args below meth c H locs cells slots Q (F0 m (pc + 4) ls rest)) : W p l e R s m args below meth c H locs cells slots Q (F0 m pc ls (.long y :: .long x :: rest)) :=
  W.lcmp hx hb d1 (lv_if_ne hx hb d2 ht (fun h => kt (fun q => h ((cm_eqz x y).mpr q))) (fun h => kf ((cm_eqz x y).mp h)))
theorem l_lt (hx : p.tables.exec = Jvm.exec) (hb : c.code = cc) {x y : Int64} {off : Int} {tgt : Nat} (d1 : decode cc pc = .ok (.lcmp, 1)) (d2 : decode cc (pc + 1) = .ok (.ifCond .lt off, 3)) (ht : ((pc + 1 : Nat) : Int) + off = (tgt : Int)) (kt : x < y → W p l e R s m args below meth c H locs cells slots Q (F0 m tgt ls rest)) (kf : ¬ x < y → W p l e R s m args below meth c H locs cells slots Q (F0 m (pc + 4) ls rest)) : W p l e R s m args below meth c H locs cells slots Q (F0 m pc ls (.long y :: .long x :: rest)) :=
  W.lcmp hx hb d1 (lv_if_lt hx hb d2 ht (fun h => kt ((cm_lt x y).mp h)) (fun h => kf (fun q => h ((cm_lt x y).mpr q))))
theorem l_ge (hx : p.tables.exec = Jvm.exec) (hb : c.code = cc) {x y : Int64} {off : Int} {tgt : Nat} (d1 : decode cc pc = .ok (.lcmp, 1)) (d2 : decode cc (pc + 1) = .ok (.ifCond .ge off, 3)) (ht : ((pc + 1 : Nat) : Int) + off = (tgt : Int)) (kt : ¬ x < y → W p l e R s m args below meth c H locs cells slots Q (F0 m tgt ls rest)) (kf : x < y → W p l e R s m args below meth c H locs cells slots Q (F0 m (pc + 4) ls rest)) : W p l e R s m args below meth c H locs cells slots Q (F0 m pc ls (.long y :: .long x :: rest)) :=
  W.lcmp hx hb d1 (lv_if_ge hx hb d2 ht (fun h => kt (fun q => i32_nlt.mpr h ((cm_lt x y).mpr q))) (fun h => kf ((cm_lt x y).mp (i32_nle.mp h))))
theorem l_gt (hx : p.tables.exec = Jvm.exec) (hb : c.code = cc) {x y : Int64} {off : Int} {tgt : Nat} (d1 : decode cc pc = .ok (.lcmp, 1)) (d2 : decode cc (pc + 1) = .ok (.ifCond .gt off, 3)) (ht : ((pc + 1 : Nat) : Int) + off = (tgt : Int)) (kt : y < x → W p l e R s m args below meth c H locs cells slots Q (F0 m tgt ls rest)) (kf : ¬ y < x → W p l e R s m args below meth c H locs cells slots Q (F0 m (pc + 4) ls rest)) : W p l e R s m args below meth c H locs cells slots Q (F0 m pc ls (.long y :: .long x :: rest)) :=
  W.lcmp hx hb d1 (lv_if_gt hx hb d2 ht (fun h => kt ((cm_gt x y).mp h)) (fun h => kf (fun q => h ((cm_gt x y).mpr q))))
theorem l_le (hx : p.tables.exec = Jvm.exec) (hb : c.code = cc) {x y : Int64} {off : Int} {tgt : Nat} (d1 : decode cc pc = .ok (.lcmp, 1)) (d2 : decode cc (pc + 1) = .ok (.ifCond .le off, 3)) (ht : ((pc + 1 : Nat) : Int) + off = (tgt : Int)) (kt : ¬ y < x → W p l e R s m args below meth c H locs cells slots Q (F0 m tgt ls rest)) (kf : y < x → W p l e R s m args below meth c H locs cells slots Q (F0 m (pc + 4) ls rest)) : W p l e R s m args below meth c H locs cells slots Q (F0 m pc ls (.long y :: .long x :: rest)) :=
  W.lcmp hx hb d1 (lv_if_le hx hb d2 ht (fun h => kt (fun q => i32_nle.mpr ((cm_gt x y).mpr q) h)) (fun h => kf ((cm_gt x y).mp (i32_nle.mp h))))
end AR
end
section
/-! CONTRACTS over the pool, and calls -/
/-- what stays true of the tables all along: links among nest mates, what a throw asks for, the texts -/
def gT (U : State) : Prop :=
  va_Nw (.methodLinkNest RX4 23 yX3_init RX4) U ∧ va_Nw (.methodLinkNest RX4 30 yX0_init RX4) U ∧ va_Nw (.methodLinkNest RX2 9 yX3_init RX4) U ∧ va_Nw (.methodLinkNest RX3 33 yX4_isTold RX4) U ∧
  va_Nw (.declares (Bundle.initS "java/lang/RuntimeException")) U ∧ va_Nw (.declares (Bundle.initS "java/lang/Exception")) U ∧ va_Nw (.declares (Bundle.initS Bundle.tN)) U ∧
  va_Nw (.castable na_N na_N) U ∧ va_Nw (.castable "java/lang/IllegalArgumentException" "java/lang/IllegalArgumentException") U ∧ va_AO "WaveWalk$Net" U ∧ va_AO "WaveWalk$Walk" U ∧
  va_Nc "java/lang/IllegalArgumentException" na_N U ∧
  (∃ a, vk_R RX4 184 "no such net" a U) ∧ (∃ a, vk_R RX4 191 "no such place" a U) ∧ (∃ a, vk_R RX4 196 "no such door" a U) ∧ (∃ a, vk_R RX4 186 "no such walk" a U) ∧ (∃ a, vk_R RX4 202 "a told number is -100 to 100" a U) ∧
  (∃ a, vk_R RX4 204 "a number of steps is 0 to 60" a U) ∧ (∃ a, vk_R RX4 143 "what is 0, 1 or 2" a U) ∧ (∃ a, vk_R RX4 179 "the walks are of two nets" a U) ∧ (∃ a, vk_R RX4 182 "what is 0 or 1" a U)
theorem gT.warm {s U : State} (hW : s.WarmedH U.vm) (h : gT s) : gT U := by
  obtain ⟨h1, h2, h3, h4, h5, h6, h7, h8, h9, h10, h11, h12, ⟨a1, t1⟩, ⟨a2, t2⟩, ⟨a3, t3⟩, ⟨a4, t4⟩, ⟨a5, t5⟩, ⟨a6, t6⟩, ⟨a7, t7⟩, ⟨a8, t8⟩, ⟨a9, t9⟩⟩ := h
  exact ⟨va_Nw.warmM hW h1, va_Nw.warmM hW h2, va_Nw.warmM hW h3, va_Nw.warmM hW h4, va_Nw.warmD hW h5, va_Nw.warmD hW h6, va_Nw.warmD hW h7, va_Nw.warmC hW h8, va_Nw.warmC hW h9, va_AO.moved hW.alike h10, va_AO.moved hW.alike h11, va_Nc.moved hW.alike h12,
    ⟨a1, vk_R.warm hW t1⟩, ⟨a2, vk_R.warm hW t2⟩, ⟨a3, vk_R.warm hW t3⟩, ⟨a4, vk_R.warm hW t4⟩, ⟨a5, vk_R.warm hW t5⟩, ⟨a6, vk_R.warm hW t6⟩, ⟨a7, vk_R.warm hW t7⟩, ⟨a8, vk_R.warm hW t8⟩, ⟨a9, vk_R.warm hW t9⟩⟩
def gX (A : Nat → Prop) (U : State) : Prop := gT U ∧ vx_Zq Bundle.tN "UNASSIGNED_STACK" Bundle.steD A U U.heap ∧ vx_Zq Bundle.tN "SUPPRESSED_SENTINEL" Bundle.listD A U U.heap
theorem gX.call {A B : Nat → Prop} {s U : State} {H : Heap} {locs : List Loc} (h : gX A s) (hS : va_S A s.heap H locs) (hU : U.heap = H) (hW : s.WarmedH U.vm) (hAB : ∀ q, B q → A q) : gX B U := by
  obtain ⟨h1, h2, h3⟩ := h
  refine ⟨h1.warm hW, ?_, ?_⟩
  · rw [hU]; exact vx_Zq.moved hW.alike ((h2.kept hS.2.1).narrow hAB)
  · rw [hU]; exact vx_Zq.moved hW.alike ((h3.kept hS.2.1).narrow hAB)
theorem gX.calling {A : Nat → Prop} {U : State} (g : JFrame) (mk : MethodId) (a : Array Value) (h : gX A U) : gX A (U.calling g mk a) :=
  ⟨h.1.warm (State.WarmedH.refl U), vx_Zq.moved (u := U) (Vm.Alike.refl U.vm) h.2.1, vx_Zq.moved (u := U) (Vm.Alike.refl U.vm) h.2.2⟩
/-- the cells that a method may change: the pool's, and new ones -/
def pA (ad : Nat → Nat) (L : List Nat) (sz : Nat) : Nat → Prop := fun q => (∃ r, r ∈ L ∧ ad r = q) ∨ sz ≤ q
abbrev mI : Type := Nat → Nat → Int32
abbrev mJ : Type := Nat → Nat → Int64
abbrev mG : Type := Nat → Nat → Option Nat
def pPre (D : va_G) (cy : Nat → ClassId) (sz : Nat) (L : List Nat) (ad : Nat → Nat) (G : mG) (I : mI) (J : mJ) (U : State) : Prop :=
  U.heap.size = sz ∧ va_P D vwCl (pW cy ad G I J L) U.heap ∧ va_K D vwCl (tysC cy) U ∧ va_D (fun _ => True) (pW cy ad G I J L) ∧ gX (pA ad L sz) U
def pB (D : va_G) (cy : Nat → ClassId) (L : List Nat) (ad : Nat → Nat) (G : mG) (A : Nat → Prop) (u : mI × mJ) (t : State) : Prop :=
  va_P D vwCl (pW cy ad G u.1 u.2 L) t.heap ∧ va_K D vwCl (tysC cy) t ∧ va_D A (pW cy ad G u.1 u.2 L)
theorem pW_D {A : Nat → Prop} {cy : Nat → ClassId} {L : List Nat} {ad : Nat → Nat} {G : mG} {I I' : mI} {J J' : mJ} (h : va_D A (pW cy ad G I J L)) : va_D A (pW cy ad G I' J' L) := by
  refine ⟨fun i j p q hi hj hpq => ?_, fun k q hk => ?_⟩
  · obtain ⟨a, h1, rfl⟩ := pQ_of hi
    obtain ⟨b, h2, rfl⟩ := pQ_of hj
    exact h.1 i j (ad a, pF cy ad G I J a) (ad b, pF cy ad G I J b) (by unfold pW pQ; rw [List.getElem?_map, h1]; rfl) (by unfold pW pQ; rw [List.getElem?_map, h2]; rfl) hpq
  · obtain ⟨a, h1, rfl⟩ := pQ_of hk
    exact h.2 k (ad a, pF cy ad G I J a) (by unfold pW pQ; rw [List.getElem?_map, h1]; rfl)
theorem pW_A {A : Nat → Prop} {cy : Nat → ClassId} {L : List Nat} {ad : Nat → Nat} {G : mG} {I : mI} {J : mJ} {H0 H : Heap} {locs : List Loc} (hD : va_D A (pW cy ad G I J L)) (hS : va_S A H0 H locs) (hA : ∀ q, H0.size ≤ q → A q) : ∀ q, pA ad L H.size q → A q := by
  intro q h
  rcases h with ⟨r, hr, rfl⟩ | h
  · obtain ⟨k, -, h2⟩ := pQ_get (ad := ad) (F := pF cy ad G I J) hr
    exact hD.2 k _ h2
  · exact hA q (Nat.le_trans hS.1 h)
theorem pW_self {A : Nat → Prop} {cy : Nat → ClassId} {L : List Nat} {ad : Nat → Nat} {G : mG} {I : mI} {J : mJ} {sz : Nat} (h : va_D A (pW cy ad G I J L)) : va_D (pA ad L sz) (pW cy ad G I J L) := by
  refine ⟨h.1, fun k q hk => ?_⟩
  obtain ⟨a, h1, rfl⟩ := pQ_of hk
  exact Or.inl ⟨a, List.mem_of_getElem? h1, rfl⟩
abbrev qI (post : Int32 → mI → mJ → Prop) (D : va_G) (cy : Nat → ClassId) (L : List Nat) (ad : Nat → Nat) (G : mG) (A : Nat → Prop) := va_Qi (fun r (u : mI × mJ) => post r u.1 u.2) (pB D cy L ad G A) A
abbrev qL (post : Int64 → mI → mJ → Prop) (D : va_G) (cy : Nat → ClassId) (L : List Nat) (ad : Nat → Nat) (G : mG) (A : Nat → Prop) := va_Ql (fun r (u : mI × mJ) => post r u.1 u.2) (pB D cy L ad G A) A
abbrev qV (post : mI → mJ → Prop) (D : va_G) (cy : Nat → ClassId) (L : List Nat) (ad : Nat → Nat) (G : mG) (A : Nat → Prop) := va_Qv (fun (u : mI × mJ) => post u.1 u.2) (pB D cy L ad G A) A
abbrev qR (post : Nat → mI → mJ → Prop) (D : va_G) (cy : Nat → ClassId) (L : List Nat) (ad : Nat → Nat) (G : mG) (A : Nat → Prop) := va_Qr (fun (u : Nat × mI × mJ) => post u.1 u.2.1 u.2.2) (fun u a t => a = ad u.1 ∧ pB D cy L ad G A u.2 t) A
/-- what is thrown: the class by its name; nothing of the pool has changed -/
abbrev qX (px : String → Prop) (D : va_G) (cy : Nat → ClassId) (L : List Nat) (ad : Nat → Nat) (G : mG) (I : mI) (J : mJ) (A : Nat → Prop) := vx_X (fun (u : mI × mJ) => u = (I, J)) (fun E u t => px E ∧ pB D cy L ad G A u t) A
def pMet (l : Launch) (y : MethodName) (ws : List Cond) (rm : Room) (D : va_G) (cy : Nat → ClassId) (L : List Nat) (ad : Nat → Nat) (G : mG) (I : mI) (J : mJ) (av : List Value) (Qc : (Nat → Prop) → Array Value → State → Outcome → State → Prop) : Prop :=
  ∀ sz, Met l y ws rm (va_Pc av (pPre D cy sz L ad G I J)) (Qc (pA ad L sz)) rm.cells rm.slots (pA ad L sz)
def pXet (l : Launch) (y : MethodName) (ws : List Cond) (rm : Room) (D : va_G) (cy : Nat → ClassId) (L : List Nat) (ad : Nat → Nat) (G : mG) (I : mI) (J : mJ) (av : List Value) (Qc : (Nat → Prop) → Array Value → State → Outcome → State → Prop) (px : String → Prop) : Prop :=
  ∀ sz, vx_Met l y ws rm (va_Pc av (pPre D cy sz L ad G I J)) (Qc (pA ad L sz)) (qX px D cy L ad G I J (pA ad L sz)) rm.cells rm.slots (pA ad L sz)
theorem pPre.blind {D : va_G} {cy : Nat → ClassId} {sz : Nat} {L : List Nat} {ad : Nat → Nat} {G : mG} {I : mI} {J : mJ} {av : List Value} : FrameBlind (va_Pc av (pPre D cy sz L ad G I J)) := by
  intro a U g mk h
  obtain ⟨h0, h1, h2, h3, h4, h5⟩ := h
  exact ⟨h0, h1, h2, va_K.moved (u := U) (U := U.calling g mk a) (Vm.Alike.refl U.vm) h3, h4, h5.calling g mk a⟩
section ST
variable {l : Launch} {y : MethodName} {ws ws' : List Cond} {rm : Room} {D : va_G} {cy : Nat → ClassId} {L : List Nat} {ad : Nat → Nat} {G : mG} {I : mI} {J : mJ} {av : List Value} {cc : ByteArray} {maxL : Nat} {ret : Option FieldType}
/-- a method's body, from its entry -/
theorem pMet.of {Qc : (Nat → Prop) → Array Value → State → Outcome → State → Prop} (hy : plainName y.cls = true) (hw : ws = Cond.code y cc maxL ret :: ws') (hav : (lg_sl av).length ≤ maxL)
    (body : ∀ (p : Program) (e : Env) (s : State) (m : MethodId) (below : List Frame) (meth : Method) (c : Code) (A : Nat → Prop), Cx p s m av.toArray c cc y.cls ws D cy A → c.maxLocals = maxL → meth.sig.returnType = ret → meth.locks = false → meth.name = y.name → gX A s → Wd D cy A s.heap s.heap [] L ad G I J →
      ∀ ls, lv_has ls maxL (lv_args 0 av) → W p l e rm s m av.toArray below meth c s.heap [] 0 0 (MQ below (Qc A) av.toArray s rm.cells rm.slots A) (F0 m 0 ls [])) : pMet l y ws rm D cy L ad G I J av Qc := by
  intro sz
  refine Met.ofW (cc := cc) (maxL := maxL) (ret := ret) hy hw ?_
  intro p e s m args below meth c s₁ B hml hv
  obtain ⟨rfl, hsz, hP, hK, hD0, hg⟩ := hv
  have hts := atoms_spec (ws := ws) B.pre
  have hown : s.vm.findClass y.cls = some m.cls := findClass_of_methodNamed B.named
  have hin : meth.name = y.name := (name_of_methodNamed B.named B.method).1
  subst hsz
  have hD := pW_self (sz := s.heap.size) hD0
  have hl := lv_entry av (n := maxL) hav
  rw [lg_entry_eq]
  exact body p e s m below meth c _ ⟨B.exec, B.bytes, hown, hts, hK, fun q h => Or.inr h⟩ hml B.returns B.notSynchronized hin hg ⟨hP, hD, va_S.rf⟩ _ hl
theorem pXet.of {Qc : (Nat → Prop) → Array Value → State → Outcome → State → Prop} {px : String → Prop} (hy : plainName y.cls = true) (hw : ws = Cond.code y cc maxL ret :: ws') (hav : (lg_sl av).length ≤ maxL)
    (body : ∀ (p : Program) (e : Env) (s : State) (m : MethodId) (below : List Frame) (meth : Method) (c : Code) (A : Nat → Prop), Cx p s m av.toArray c cc y.cls ws D cy A → c.maxLocals = maxL → meth.sig.returnType = ret → meth.locks = false → (∀ x ∈ c.exceptionTable.toList, False) → gX A s → Wd D cy A s.heap s.heap [] L ad G I J →
      ∀ ls, lv_has ls maxL (lv_args 0 av) → W p l e rm s m av.toArray below meth c s.heap [] 0 0 (vx_MQ below (Qc A) (qX px D cy L ad G I J A) av.toArray s rm.cells rm.slots A) (F0 m 0 ls [])) : pXet l y ws rm D cy L ad G I J av Qc px := by
  intro sz
  refine vx_ofW (cc := cc) (maxL := maxL) (ret := ret) hy hw ?_
  intro p e s m args below meth c s₁ B hml hx hv
  obtain ⟨rfl, hsz, hP, hK, hD0, hg⟩ := hv
  have hts := atoms_spec (ws := ws) B.pre
  have hown : s.vm.findClass y.cls = some m.cls := findClass_of_methodNamed B.named
  subst hsz
  have hD := pW_self (sz := s.heap.size) hD0
  have hl := lv_entry av (n := maxL) hav
  rw [lg_entry_eq]
  exact body p e s m below meth c _ ⟨B.exec, B.bytes, hown, hts, hK, fun q h => Or.inr h⟩ hml B.returns B.notSynchronized hx hg ⟨hP, hD, va_S.rf⟩ _ hl
end ST
section EN
variable {p : Program} {l : Launch} {e : Env} {R : Room} {s : State} {m : MethodId} {args : Array Value} {below : List Frame} {meth : Method} {c : Code} {H : Heap} {locs : List Loc} {cells slots mc ms : Nat}
variable {cc : ByteArray} {pc : Nat} {ls : Array Slot} {own : String} {Ts : List Cond} {D : va_G} {cy : Nat → ClassId} {A : Nat → Prop} {L : List Nat} {ad : Nat → Nat} {G : mG} {I I0 : mI} {J J0 : mJ}
theorem p_B (C : Cx p s m args c cc own Ts D cy A) (hW : Wd D cy A s.heap H locs L ad G I J) {t : State} (ht : t.heap = H) (hWm : s.WarmedH t.vm) : pB D cy L ad G A (I, J) t :=
  ⟨by rw [ht]; exact hW.1, va_K.moved hWm.alike C.2.2.2.2.1, hW.2.1⟩
theorem p_iret {post : Int32 → mI → mJ → Prop} {v : Int32} (C : Cx p s m args c cc own Ts D cy A) (hr : meth.sig.returnType = some .int) (hlk : meth.locks = false) (hW : Wd D cy A s.heap H locs L ad G I J) (hc : cells ≤ mc) (hs : slots ≤ ms) (hp : post v I J) (hdg : decode cc pc = .ok (.ireturn, 1)) :
    W p l e R s m args below meth c H locs cells slots (MQ below (qI post D cy L ad G A) args s mc ms A) (F0 m pc ls [.int v]) :=
  W.widen hc hs (W.iret C.1 C.2.1 hr (fun t ht hWm => ⟨⟨v, (I, J), rfl, hp, p_B C hW ht hWm⟩, hW.2.2.F ht⟩) hW.2.2.2.2 hdg hlk)
theorem p_zret {post : Int32 → mI → mJ → Prop} {v : Int32} (C : Cx p s m args c cc own Ts D cy A) (hr : meth.sig.returnType = some .boolean) (hlk : meth.locks = false) (hn : narrow .boolean (.int v) = .int v) (hW : Wd D cy A s.heap H locs L ad G I J) (hc : cells ≤ mc) (hs : slots ≤ ms) (hp : post v I J) (hdg : decode cc pc = .ok (.ireturn, 1)) :
    W p l e R s m args below meth c H locs cells slots (MQ below (qI post D cy L ad G A) args s mc ms A) (F0 m pc ls [.int v]) :=
  W.widen hc hs (W.zret C.1 C.2.1 hr hn (fun t ht hWm => ⟨⟨v, (I, J), rfl, hp, p_B C hW ht hWm⟩, hW.2.2.F ht⟩) hW.2.2.2.2 hdg hlk)
theorem p_lret {post : Int64 → mI → mJ → Prop} {v : Int64} (C : Cx p s m args c cc own Ts D cy A) (hr : meth.sig.returnType = some .long) (hlk : meth.locks = false) (hW : Wd D cy A s.heap H locs L ad G I J) (hc : cells ≤ mc) (hs : slots ≤ ms) (hp : post v I J) (hdg : decode cc pc = .ok (.lreturn, 1)) :
    W p l e R s m args below meth c H locs cells slots (MQ below (qL post D cy L ad G A) args s mc ms A) (F0 m pc ls [.long v]) :=
  W.widen hc hs (W.lret C.1 C.2.1 hr (fun t ht hWm => ⟨⟨v, (I, J), rfl, hp, p_B C hW ht hWm⟩, hW.2.2.F ht⟩) hW.2.2.2.2 hdg hlk)
theorem p_vret {post : mI → mJ → Prop} (C : Cx p s m args c cc own Ts D cy A) (hr : meth.sig.returnType = none) (hlk : meth.locks = false) (hW : Wd D cy A s.heap H locs L ad G I J) (hc : cells ≤ mc) (hs : slots ≤ ms) (hp : post I J) (hdg : decode cc pc = .ok (.return_, 1)) :
    W p l e R s m args below meth c H locs cells slots (MQ below (qV post D cy L ad G A) args s mc ms A) (F0 m pc ls []) :=
  W.widen hc hs (W.vret C.1 C.2.1 hr (fun t ht hWm => ⟨⟨(I, J), rfl, hp, p_B C hW ht hWm⟩, hW.2.2.F ht⟩) hW.2.2.2.2 hdg hlk)
theorem p_aret {post : Nat → mI → mJ → Prop} {q : Nat} {Cn : String} (C : Cx p s m args c cc own Ts D cy A) (hr : meth.sig.returnType = some (.object Cn)) (hlk : meth.locks = false) (hW : Wd D cy A s.heap H locs L ad G I J) (hc : cells ≤ mc) (hs : slots ≤ ms) (hp : post q I J) (hdg : decode cc pc = .ok (.areturn, 1)) :
    W p l e R s m args below meth c H locs cells slots (MQ below (qR post D cy L ad G A) args s mc ms A) (F0 m pc ls [.ref (ad q)]) :=
  W.widen hc hs (W.aret C.1 C.2.1 hr (Or.inl ⟨Cn, rfl⟩) (Or.inr ⟨_, rfl⟩) (fun t ht hWm => ⟨⟨(q, I, J), ad q, rfl, hp, rfl, p_B C hW ht hWm⟩, hW.2.2.F ht⟩) hW.2.2.2.2 hdg hlk)
end EN
section CA
variable {p : Program} {l : Launch} {e : Env} {R : Room} {s : State} {m : MethodId} {args : Array Value} {below : List Frame} {meth : Method} {c : Code} {H : Heap} {locs : List Loc} {cells slots mc ms nL : Nat} {Q : State → Prop}
variable {cc : ByteArray} {pc : Nat} {ls : Array Slot} {own : String} {Ts : List Cond} {D : va_G} {cy : Nat → ClassId} {A : Nat → Prop} {L : List Nat} {ad : Nat → Nat} {G : mG} {I I0 : mI} {J J0 : mJ}
variable {y : MethodName} {ws ws' : List Cond} {rm : Room} {bytes : ByteArray} {maxL n index : Nat} {ret : Option FieldType} {Cn : String} {As rest st0 : List Value} {r : Nat}
/-- the callee's pool is the caller's -/
theorem p_pre (C : Cx p s m args c cc own Ts D cy A) (hg : gX A s) (hW : Wd D cy A s.heap H locs L ad G I J) {av : List Value} : ∀ U : State, U.heap = H → s.WarmedH U.vm → va_Pc av (pPre D cy H.size L ad G I J) av.toArray U := fun U hU hWm =>
  ⟨rfl, by rw [hU], by rw [hU]; exact hW.1, va_K.moved hWm.alike C.2.2.2.2.1, hW.2.1.weaken (fun _ _ _ _ => trivial), hg.call hW.2.2 hU hWm (pW_A hW.2.1 hW.2.2 C.2.2.2.2.2)⟩
theorem p_recv (C : Cx p s m args c cc own Ts D cy A) (hW : Wd D cy A s.heap H locs L ad G I J) (hr : r ∈ L) {ci : Nat} {fs : List Value} {q : vw_C} (hF : pF cy ad G I J r = .inr (ci, fs)) (hc : vwCl[ci]? = some q) : ∃ cell : Cell, H[ad r]? = some cell ∧ cell.vm.isStatics = false ∧ s.vm.findClass q.1 = some cell.cls := by
  obtain ⟨k, -, h2⟩ := pQ_get (ad := ad) (F := pF cy ad G I J) hr
  rw [hF] at h2
  exact va_recv C.2.2.2.2.1 hW.1 hc h2
/-- a call's end: the pool as the callee leaves it -/
theorem p_back (C : Cx p s m args c cc own Ts D cy A) (hW : Wd D cy A s.heap H locs L ad G I J) {u : mI × mJ} {t : State} {H1 : Heap} {locs1 : List Loc} (ht : t.heap = H1) (hB : pB D cy L ad G (pA ad L H.size) u t) (hS : va_S A s.heap H1 locs1) : Wd D cy A s.heap H1 locs1 L ad G u.1 u.2 :=
  ⟨by rw [← ht]; exact hB.1, pW_D hW.2.1, hS⟩
abbrev cFix (C : Cx p s m args c cc own Ts D cy A) (hml : c.maxLocals = nL) : CallFix p m c cc nL s args Ts own := ⟨C.1, C.2.1, hml, C.2.2.1, C.2.2.2.1⟩
theorem p_cVi {post : Int32 → mI → mJ → Prop} (C : Cx p s m args c cc own Ts D cy A) (hml : c.maxLocals = nL) (hg : gX A s) (hW : Wd D cy A s.heap H locs L ad G I J) (hM : pMet l y ws rm D cy L ad G I J (.ref (ad r) :: As) (qI post D cy L ad G)) (cw : CallW R s args own Cn index y bytes maxL ret ws rm rm.cells rm.slots n)
    (hrc : ∃ cell : Cell, H[ad r]? = some cell ∧ cell.vm.isStatics = false ∧ s.vm.findClass Cn = some cell.cls) (hn : As.length = n) (hsz : ls.size = nL) (hst : st0 = As.reverse ++ .ref (ad r) :: rest) (hroom : (rest.map fun v => v.category).sum ≤ 8) (hdg : decode cc pc = .ok (.invokevirtual index, 3)) (hcc : cells + rm.cells ≤ R.cells) (hcs : slots + rm.slots ≤ R.slots)
    (kk : ∀ (v : Int32) (I' : mI) (J' : mJ) (H : Heap) (locs : List Loc), post v I' J' → Wd D cy A s.heap H locs L ad G I' J' → W p l e R s m args below meth c H locs (cells + rm.cells) (slots + rm.slots) Q (F0 m (pc + 3) ls (.int v :: rest))) : W p l e R s m args below meth c H locs cells slots Q (F0 m pc ls st0) :=
  va_calli (va_runV (g := F0 m pc ls st0) (rest := rest) (cFix C hml) (hM H.size) cw ⟨pPre.blind, hrc, p_pre C hg hW⟩ rfl hn hsz hst (lv_room (ls := ls) (pc := pc) (m := m) (rest := st0) hroom) hdg ⟨hcc, hcs⟩) hW.2.2 (fun q _ h => pW_A hW.2.1 hW.2.2 C.2.2.2.2.2 q h) (pW_A hW.2.1 hW.2.2 C.2.2.2.2.2)
    (fun v u t H1 locs1 ht hvm hw hB hz1 hk1 hS => kk v u.1 u.2 H1 locs1 hw (p_back C hW ht hB hS))
theorem p_cVl {post : Int64 → mI → mJ → Prop} (C : Cx p s m args c cc own Ts D cy A) (hml : c.maxLocals = nL) (hg : gX A s) (hW : Wd D cy A s.heap H locs L ad G I J) (hM : pMet l y ws rm D cy L ad G I J (.ref (ad r) :: As) (qL post D cy L ad G)) (cw : CallW R s args own Cn index y bytes maxL ret ws rm rm.cells rm.slots n)
    (hrc : ∃ cell : Cell, H[ad r]? = some cell ∧ cell.vm.isStatics = false ∧ s.vm.findClass Cn = some cell.cls) (hn : As.length = n) (hsz : ls.size = nL) (hst : st0 = As.reverse ++ .ref (ad r) :: rest) (hroom : (rest.map fun v => v.category).sum ≤ 8) (hdg : decode cc pc = .ok (.invokevirtual index, 3)) (hcc : cells + rm.cells ≤ R.cells) (hcs : slots + rm.slots ≤ R.slots)
    (kk : ∀ (v : Int64) (I' : mI) (J' : mJ) (H : Heap) (locs : List Loc), post v I' J' → Wd D cy A s.heap H locs L ad G I' J' → W p l e R s m args below meth c H locs (cells + rm.cells) (slots + rm.slots) Q (F0 m (pc + 3) ls (.long v :: rest))) : W p l e R s m args below meth c H locs cells slots Q (F0 m pc ls st0) :=
  va_calll (va_runV (g := F0 m pc ls st0) (rest := rest) (cFix C hml) (hM H.size) cw ⟨pPre.blind, hrc, p_pre C hg hW⟩ rfl hn hsz hst (lv_room (ls := ls) (pc := pc) (m := m) (rest := st0) hroom) hdg ⟨hcc, hcs⟩) hW.2.2 (fun q _ h => pW_A hW.2.1 hW.2.2 C.2.2.2.2.2 q h) (pW_A hW.2.1 hW.2.2 C.2.2.2.2.2)
    (fun v u t H1 locs1 ht hvm hw hB hz1 hk1 hS => kk v u.1 u.2 H1 locs1 hw (p_back C hW ht hB hS))
theorem p_cVv {post : mI → mJ → Prop} (C : Cx p s m args c cc own Ts D cy A) (hml : c.maxLocals = nL) (hg : gX A s) (hW : Wd D cy A s.heap H locs L ad G I J) (hM : pMet l y ws rm D cy L ad G I J (.ref (ad r) :: As) (qV post D cy L ad G)) (cw : CallW R s args own Cn index y bytes maxL ret ws rm rm.cells rm.slots n)
    (hrc : ∃ cell : Cell, H[ad r]? = some cell ∧ cell.vm.isStatics = false ∧ s.vm.findClass Cn = some cell.cls) (hn : As.length = n) (hsz : ls.size = nL) (hst : st0 = As.reverse ++ .ref (ad r) :: rest) (hroom : (rest.map fun v => v.category).sum ≤ 8) (hdg : decode cc pc = .ok (.invokevirtual index, 3)) (hcc : cells + rm.cells ≤ R.cells) (hcs : slots + rm.slots ≤ R.slots)
    (kk : ∀ (I' : mI) (J' : mJ) (H : Heap) (locs : List Loc), post I' J' → Wd D cy A s.heap H locs L ad G I' J' → W p l e R s m args below meth c H locs (cells + rm.cells) (slots + rm.slots) Q (F0 m (pc + 3) ls rest)) : W p l e R s m args below meth c H locs cells slots Q (F0 m pc ls st0) :=
  va_callv (va_runV (g := F0 m pc ls st0) (rest := rest) (cFix C hml) (hM H.size) cw ⟨pPre.blind, hrc, p_pre C hg hW⟩ rfl hn hsz hst (lv_room (ls := ls) (pc := pc) (m := m) (rest := st0) hroom) hdg ⟨hcc, hcs⟩) hW.2.2 (fun q _ h => pW_A hW.2.1 hW.2.2 C.2.2.2.2.2 q h) (pW_A hW.2.1 hW.2.2 C.2.2.2.2.2)
    (fun u t H1 locs1 ht hvm hw hB hz1 hk1 hS => kk u.1 u.2 H1 locs1 hw (p_back C hW ht hB hS))
theorem p_cSi {post : Int32 → mI → mJ → Prop} (C : Cx p s m args c cc own Ts D cy A) (hml : c.maxLocals = nL) (hg : gX A s) (hW : Wd D cy A s.heap H locs L ad G I J) (hM : pMet l y ws rm D cy L ad G I J As (qI post D cy L ad G)) (cw : CallB R s args own index y bytes maxL ret ws rm rm.cells rm.slots n ∧ (Cond.static y).before args s = true)
    (hn : As.length = n) (hsz : ls.size = nL) (hst : st0 = As.reverse ++ rest) (hroom : (rest.map fun v => v.category).sum ≤ 8) (hdg : decode cc pc = .ok (.invokestatic index, 3)) (hcc : cells + rm.cells ≤ R.cells) (hcs : slots + rm.slots ≤ R.slots)
    (kk : ∀ (v : Int32) (I' : mI) (J' : mJ) (H : Heap) (locs : List Loc), post v I' J' → Wd D cy A s.heap H locs L ad G I' J' → W p l e R s m args below meth c H locs (cells + rm.cells) (slots + rm.slots) Q (F0 m (pc + 3) ls (.int v :: rest))) : W p l e R s m args below meth c H locs cells slots Q (F0 m pc ls st0) :=
  va_calli (va_runS (g := F0 m pc ls st0) (rest := rest) (cFix C hml) (hM H.size) cw ⟨pPre.blind, p_pre C hg hW⟩ rfl hn hsz hst (lv_room (ls := ls) (pc := pc) (m := m) (rest := st0) hroom) hdg ⟨hcc, hcs⟩) hW.2.2 (fun q _ h => pW_A hW.2.1 hW.2.2 C.2.2.2.2.2 q h) (pW_A hW.2.1 hW.2.2 C.2.2.2.2.2)
    (fun v u t H1 locs1 ht hvm hw hB hz1 hk1 hS => kk v u.1 u.2 H1 locs1 hw (p_back C hW ht hB hS))
theorem p_cNi {post : Int32 → mI → mJ → Prop} {host : String} (C : Cx p s m args c cc own Ts D cy A) (hml : c.maxLocals = nL) (hg : gX A s) (hW : Wd D cy A s.heap H locs L ad G I J) (hM : pMet l y ws rm D cy L ad G I J As (qI post D cy L ad G)) (cw : va_CN R s args own index y host bytes maxL ret ws rm rm.cells rm.slots n ∧ (Cond.static y).before args s = true ∧ True)
    (hn : As.length = n) (hsz : ls.size = nL) (hst : st0 = As.reverse ++ rest) (hroom : (rest.map fun v => v.category).sum ≤ 8) (hdg : decode cc pc = .ok (.invokestatic index, 3)) (hcc : cells + rm.cells ≤ R.cells) (hcs : slots + rm.slots ≤ R.slots)
    (kk : ∀ (v : Int32) (I' : mI) (J' : mJ) (H : Heap) (locs : List Loc), post v I' J' → Wd D cy A s.heap H locs L ad G I' J' → W p l e R s m args below meth c H locs (cells + rm.cells) (slots + rm.slots) Q (F0 m (pc + 3) ls (.int v :: rest))) : W p l e R s m args below meth c H locs cells slots Q (F0 m pc ls st0) :=
  va_calli (va_runSN (g := F0 m pc ls st0) (rest := rest) (cFix C hml) (hM H.size) cw ⟨pPre.blind, p_pre C hg hW⟩ rfl hn hsz hst (lv_room (ls := ls) (pc := pc) (m := m) (rest := st0) hroom) hdg ⟨hcc, hcs⟩) hW.2.2 (fun q _ h => pW_A hW.2.1 hW.2.2 C.2.2.2.2.2 q h) (pW_A hW.2.1 hW.2.2 C.2.2.2.2.2)
    (fun v u t H1 locs1 ht hvm hw hB hz1 hk1 hS => kk v u.1 u.2 H1 locs1 hw (p_back C hW ht hB hS))
end CA
end
section
/-! a method's body from its entry, its end as a hypothesis (ret), its throw as another (thr) -/
section OF
variable {l : Launch} {y : MethodName} {ws ws' : List Cond} {rm : Room} {D : va_G} {cy : Nat → ClassId} {L : List Nat} {ad : Nat → Nat} {G : mG} {I : mI} {J : mJ} {av : List Value} {cc : ByteArray} {maxL : Nat}
theorem pMet.ofI {post : Int32 → mI → mJ → Prop} (hy : plainName y.cls = true) (hw : ws = Cond.code y cc maxL (some .int) :: ws') (hav : (lg_sl av).length ≤ maxL)
    (body : ∀ (p : Program) (e : Env) (R : Room) (s : State) (m : MethodId) (args : Array Value) (below : List Frame) (meth : Method) (c : Code) (A : Nat → Prop) (Q : State → Prop), Cx p s m args c cc y.cls ws D cy A → c.maxLocals = maxL → rm = R → gX A s → (∀ (v : Int32) (I' : mI) (J' : mJ) (H : Heap) (locs : List Loc) (cells slots : Nat) (ls : Array Slot) (pc : Nat), cells ≤ rm.cells → slots ≤ rm.slots → Wd D cy A s.heap H locs L ad G I' J' → post v I' J' → decode cc pc = .ok (.ireturn, 1) → W p l e R s m args below meth c H locs cells slots Q (F0 m pc ls [.int v])) → Wd D cy A s.heap s.heap [] L ad G I J →
      ∀ ls, lv_has ls maxL (lv_args 0 av) → W p l e R s m args below meth c s.heap [] 0 0 Q (F0 m 0 ls [])) : pMet l y ws rm D cy L ad G I J av (qI post D cy L ad G) := by
  refine pMet.of hy hw hav ?_
  intro p e s m below meth c A C hml hr hlk hnm hg hW ls hl
  exact body p e _ s m _ below meth c A _ C hml rfl hg (fun v I' J' H locs cells slots ls pc hc hs hW hp hdg => p_iret C hr hlk hW hc hs hp hdg) hW ls hl
theorem pXet.ofI {post : Int32 → mI → mJ → Prop} {px : String → Prop} (hy : plainName y.cls = true) (hw : ws = Cond.code y cc maxL (some .int) :: ws') (hav : (lg_sl av).length ≤ maxL)
    (body : ∀ (p : Program) (e : Env) (R : Room) (s : State) (m : MethodId) (args : Array Value) (below : List Frame) (meth : Method) (c : Code) (A : Nat → Prop) (Q : State → Prop), Cx p s m args c cc y.cls ws D cy A → c.maxLocals = maxL → rm = R → gX A s → (∀ (v : Int32) (I' : mI) (J' : mJ) (H : Heap) (locs : List Loc) (cells slots : Nat) (ls : Array Slot) (pc : Nat), cells ≤ rm.cells → slots ≤ rm.slots → Wd D cy A s.heap H locs L ad G I' J' → post v I' J' → decode cc pc = .ok (.ireturn, 1) → W p l e R s m args below meth c H locs cells slots Q (F0 m pc ls [.int v])) → (∀ (E : String) (ce : Cell) (q : Addr) (H : Heap) (locs : List Loc) (cells slots : Nat) (ls : Array Slot) (pc : Nat) (st : List Value), cells ≤ rm.cells → slots ≤ rm.slots → Wd D cy A s.heap H locs L ad G I J → px E → H[q]? = some ce → ce.vm = .none → s.vm.findClass E = some ce.cls → vx_W p l e R s m args below meth c H locs cells slots Q (F0 m pc ls st) q) →
      (Q = vx_MQ below (qI post D cy L ad G A) (qX px D cy L ad G I J A) args s rm.cells rm.slots A) → meth.locks = false → (∀ x ∈ c.exceptionTable.toList, False) → Wd D cy A s.heap s.heap [] L ad G I J →
      ∀ ls, lv_has ls maxL (lv_args 0 av) → W p l e R s m args below meth c s.heap [] 0 0 Q (F0 m 0 ls [])) : pXet l y ws rm D cy L ad G I J av (qI post D cy L ad G) px := by
  refine pXet.of hy hw hav ?_
  intro p e s m below meth c A C hml hr hlk hx hg hW ls hl
  exact body p e _ s m _ below meth c A _ C hml rfl hg (fun v I' J' H locs cells slots ls pc hc hs hW hp hdg => vx_ret (p_iret C hr hlk hW hc hs hp hdg))
    (fun E ce q H locs cells slots ls pc st hc hs hW hp h1 h2 h3 => vx_out (fun x h => (hx x h).elim) hlk h1 h2 h3 (fun t ht hvm => ⟨(I, J), rfl, ⟨hp, by rw [ht]; exact hW.1, va_K.moved hvm C.2.2.2.2.1, hW.2.1⟩, hW.2.2.F ht⟩) hW.2.2.2.2 hc hs) rfl hlk hx hW ls hl
theorem pMet.ofZ {post : Int32 → mI → mJ → Prop} (hy : plainName y.cls = true) (hw : ws = Cond.code y cc maxL (some .boolean) :: ws') (hav : (lg_sl av).length ≤ maxL)
    (body : ∀ (p : Program) (e : Env) (R : Room) (s : State) (m : MethodId) (args : Array Value) (below : List Frame) (meth : Method) (c : Code) (A : Nat → Prop) (Q : State → Prop), Cx p s m args c cc y.cls ws D cy A → c.maxLocals = maxL → rm = R → gX A s → (∀ (v : Int32) (I' : mI) (J' : mJ) (H : Heap) (locs : List Loc) (cells slots : Nat) (ls : Array Slot) (pc : Nat), cells ≤ rm.cells → slots ≤ rm.slots → Wd D cy A s.heap H locs L ad G I' J' → post v I' J' → narrow .boolean (.int v) = .int v → decode cc pc = .ok (.ireturn, 1) → W p l e R s m args below meth c H locs cells slots Q (F0 m pc ls [.int v])) → Wd D cy A s.heap s.heap [] L ad G I J →
      ∀ ls, lv_has ls maxL (lv_args 0 av) → W p l e R s m args below meth c s.heap [] 0 0 Q (F0 m 0 ls [])) : pMet l y ws rm D cy L ad G I J av (qI post D cy L ad G) := by
  refine pMet.of hy hw hav ?_
  intro p e s m below meth c A C hml hr hlk hnm hg hW ls hl
  exact body p e _ s m _ below meth c A _ C hml rfl hg (fun v I' J' H locs cells slots ls pc hc hs hW hp hn hdg => p_zret C hr hlk hn hW hc hs hp hdg) hW ls hl
theorem pXet.ofZ {post : Int32 → mI → mJ → Prop} {px : String → Prop} (hy : plainName y.cls = true) (hw : ws = Cond.code y cc maxL (some .boolean) :: ws') (hav : (lg_sl av).length ≤ maxL)
    (body : ∀ (p : Program) (e : Env) (R : Room) (s : State) (m : MethodId) (args : Array Value) (below : List Frame) (meth : Method) (c : Code) (A : Nat → Prop) (Q : State → Prop), Cx p s m args c cc y.cls ws D cy A → c.maxLocals = maxL → rm = R → gX A s → (∀ (v : Int32) (I' : mI) (J' : mJ) (H : Heap) (locs : List Loc) (cells slots : Nat) (ls : Array Slot) (pc : Nat), cells ≤ rm.cells → slots ≤ rm.slots → Wd D cy A s.heap H locs L ad G I' J' → post v I' J' → narrow .boolean (.int v) = .int v → decode cc pc = .ok (.ireturn, 1) → W p l e R s m args below meth c H locs cells slots Q (F0 m pc ls [.int v])) → (∀ (E : String) (ce : Cell) (q : Addr) (H : Heap) (locs : List Loc) (cells slots : Nat) (ls : Array Slot) (pc : Nat) (st : List Value), cells ≤ rm.cells → slots ≤ rm.slots → Wd D cy A s.heap H locs L ad G I J → px E → H[q]? = some ce → ce.vm = .none → s.vm.findClass E = some ce.cls → vx_W p l e R s m args below meth c H locs cells slots Q (F0 m pc ls st) q) →
      (Q = vx_MQ below (qI post D cy L ad G A) (qX px D cy L ad G I J A) args s rm.cells rm.slots A) → meth.locks = false → (∀ x ∈ c.exceptionTable.toList, False) → Wd D cy A s.heap s.heap [] L ad G I J →
      ∀ ls, lv_has ls maxL (lv_args 0 av) → W p l e R s m args below meth c s.heap [] 0 0 Q (F0 m 0 ls [])) : pXet l y ws rm D cy L ad G I J av (qI post D cy L ad G) px := by
  refine pXet.of hy hw hav ?_
  intro p e s m below meth c A C hml hr hlk hx hg hW ls hl
  exact body p e _ s m _ below meth c A _ C hml rfl hg (fun v I' J' H locs cells slots ls pc hc hs hW hp hn hdg => vx_ret (p_zret C hr hlk hn hW hc hs hp hdg))
    (fun E ce q H locs cells slots ls pc st hc hs hW hp h1 h2 h3 => vx_out (fun x h => (hx x h).elim) hlk h1 h2 h3 (fun t ht hvm => ⟨(I, J), rfl, ⟨hp, by rw [ht]; exact hW.1, va_K.moved hvm C.2.2.2.2.1, hW.2.1⟩, hW.2.2.F ht⟩) hW.2.2.2.2 hc hs) rfl hlk hx hW ls hl
theorem pMet.ofL {post : Int64 → mI → mJ → Prop} (hy : plainName y.cls = true) (hw : ws = Cond.code y cc maxL (some .long) :: ws') (hav : (lg_sl av).length ≤ maxL)
    (body : ∀ (p : Program) (e : Env) (R : Room) (s : State) (m : MethodId) (args : Array Value) (below : List Frame) (meth : Method) (c : Code) (A : Nat → Prop) (Q : State → Prop), Cx p s m args c cc y.cls ws D cy A → c.maxLocals = maxL → rm = R → gX A s → (∀ (v : Int64) (I' : mI) (J' : mJ) (H : Heap) (locs : List Loc) (cells slots : Nat) (ls : Array Slot) (pc : Nat), cells ≤ rm.cells → slots ≤ rm.slots → Wd D cy A s.heap H locs L ad G I' J' → post v I' J' → decode cc pc = .ok (.lreturn, 1) → W p l e R s m args below meth c H locs cells slots Q (F0 m pc ls [.long v])) → Wd D cy A s.heap s.heap [] L ad G I J →
      ∀ ls, lv_has ls maxL (lv_args 0 av) → W p l e R s m args below meth c s.heap [] 0 0 Q (F0 m 0 ls [])) : pMet l y ws rm D cy L ad G I J av (qL post D cy L ad G) := by
  refine pMet.of hy hw hav ?_
  intro p e s m below meth c A C hml hr hlk hnm hg hW ls hl
  exact body p e _ s m _ below meth c A _ C hml rfl hg (fun v I' J' H locs cells slots ls pc hc hs hW hp hdg => p_lret C hr hlk hW hc hs hp hdg) hW ls hl
theorem pXet.ofL {post : Int64 → mI → mJ → Prop} {px : String → Prop} (hy : plainName y.cls = true) (hw : ws = Cond.code y cc maxL (some .long) :: ws') (hav : (lg_sl av).length ≤ maxL)
    (body : ∀ (p : Program) (e : Env) (R : Room) (s : State) (m : MethodId) (args : Array Value) (below : List Frame) (meth : Method) (c : Code) (A : Nat → Prop) (Q : State → Prop), Cx p s m args c cc y.cls ws D cy A → c.maxLocals = maxL → rm = R → gX A s → (∀ (v : Int64) (I' : mI) (J' : mJ) (H : Heap) (locs : List Loc) (cells slots : Nat) (ls : Array Slot) (pc : Nat), cells ≤ rm.cells → slots ≤ rm.slots → Wd D cy A s.heap H locs L ad G I' J' → post v I' J' → decode cc pc = .ok (.lreturn, 1) → W p l e R s m args below meth c H locs cells slots Q (F0 m pc ls [.long v])) → (∀ (E : String) (ce : Cell) (q : Addr) (H : Heap) (locs : List Loc) (cells slots : Nat) (ls : Array Slot) (pc : Nat) (st : List Value), cells ≤ rm.cells → slots ≤ rm.slots → Wd D cy A s.heap H locs L ad G I J → px E → H[q]? = some ce → ce.vm = .none → s.vm.findClass E = some ce.cls → vx_W p l e R s m args below meth c H locs cells slots Q (F0 m pc ls st) q) →
      (Q = vx_MQ below (qL post D cy L ad G A) (qX px D cy L ad G I J A) args s rm.cells rm.slots A) → meth.locks = false → (∀ x ∈ c.exceptionTable.toList, False) → Wd D cy A s.heap s.heap [] L ad G I J →
      ∀ ls, lv_has ls maxL (lv_args 0 av) → W p l e R s m args below meth c s.heap [] 0 0 Q (F0 m 0 ls [])) : pXet l y ws rm D cy L ad G I J av (qL post D cy L ad G) px := by
  refine pXet.of hy hw hav ?_
  intro p e s m below meth c A C hml hr hlk hx hg hW ls hl
  exact body p e _ s m _ below meth c A _ C hml rfl hg (fun v I' J' H locs cells slots ls pc hc hs hW hp hdg => vx_ret (p_lret C hr hlk hW hc hs hp hdg))
    (fun E ce q H locs cells slots ls pc st hc hs hW hp h1 h2 h3 => vx_out (fun x h => (hx x h).elim) hlk h1 h2 h3 (fun t ht hvm => ⟨(I, J), rfl, ⟨hp, by rw [ht]; exact hW.1, va_K.moved hvm C.2.2.2.2.1, hW.2.1⟩, hW.2.2.F ht⟩) hW.2.2.2.2 hc hs) rfl hlk hx hW ls hl
theorem pMet.ofV {post : mI → mJ → Prop} (hy : plainName y.cls = true) (hw : ws = Cond.code y cc maxL (none) :: ws') (hav : (lg_sl av).length ≤ maxL)
    (body : ∀ (p : Program) (e : Env) (R : Room) (s : State) (m : MethodId) (args : Array Value) (below : List Frame) (meth : Method) (c : Code) (A : Nat → Prop) (Q : State → Prop), Cx p s m args c cc y.cls ws D cy A → c.maxLocals = maxL → rm = R → gX A s → (∀ (I' : mI) (J' : mJ) (H : Heap) (locs : List Loc) (cells slots : Nat) (ls : Array Slot) (pc : Nat), cells ≤ rm.cells → slots ≤ rm.slots → Wd D cy A s.heap H locs L ad G I' J' → post I' J' → decode cc pc = .ok (.return_, 1) → W p l e R s m args below meth c H locs cells slots Q (F0 m pc ls [])) → Wd D cy A s.heap s.heap [] L ad G I J →
      ∀ ls, lv_has ls maxL (lv_args 0 av) → W p l e R s m args below meth c s.heap [] 0 0 Q (F0 m 0 ls [])) : pMet l y ws rm D cy L ad G I J av (qV post D cy L ad G) := by
  refine pMet.of hy hw hav ?_
  intro p e s m below meth c A C hml hr hlk hnm hg hW ls hl
  exact body p e _ s m _ below meth c A _ C hml rfl hg (fun I' J' H locs cells slots ls pc hc hs hW hp hdg => p_vret C hr hlk hW hc hs hp hdg) hW ls hl
theorem pXet.ofV {post : mI → mJ → Prop} {px : String → Prop} (hy : plainName y.cls = true) (hw : ws = Cond.code y cc maxL (none) :: ws') (hav : (lg_sl av).length ≤ maxL)
    (body : ∀ (p : Program) (e : Env) (R : Room) (s : State) (m : MethodId) (args : Array Value) (below : List Frame) (meth : Method) (c : Code) (A : Nat → Prop) (Q : State → Prop), Cx p s m args c cc y.cls ws D cy A → c.maxLocals = maxL → rm = R → gX A s → (∀ (I' : mI) (J' : mJ) (H : Heap) (locs : List Loc) (cells slots : Nat) (ls : Array Slot) (pc : Nat), cells ≤ rm.cells → slots ≤ rm.slots → Wd D cy A s.heap H locs L ad G I' J' → post I' J' → decode cc pc = .ok (.return_, 1) → W p l e R s m args below meth c H locs cells slots Q (F0 m pc ls [])) → (∀ (E : String) (ce : Cell) (q : Addr) (H : Heap) (locs : List Loc) (cells slots : Nat) (ls : Array Slot) (pc : Nat) (st : List Value), cells ≤ rm.cells → slots ≤ rm.slots → Wd D cy A s.heap H locs L ad G I J → px E → H[q]? = some ce → ce.vm = .none → s.vm.findClass E = some ce.cls → vx_W p l e R s m args below meth c H locs cells slots Q (F0 m pc ls st) q) →
      (Q = vx_MQ below (qV post D cy L ad G A) (qX px D cy L ad G I J A) args s rm.cells rm.slots A) → meth.locks = false → (∀ x ∈ c.exceptionTable.toList, False) → Wd D cy A s.heap s.heap [] L ad G I J →
      ∀ ls, lv_has ls maxL (lv_args 0 av) → W p l e R s m args below meth c s.heap [] 0 0 Q (F0 m 0 ls [])) : pXet l y ws rm D cy L ad G I J av (qV post D cy L ad G) px := by
  refine pXet.of hy hw hav ?_
  intro p e s m below meth c A C hml hr hlk hx hg hW ls hl
  exact body p e _ s m _ below meth c A _ C hml rfl hg (fun I' J' H locs cells slots ls pc hc hs hW hp hdg => vx_ret (p_vret C hr hlk hW hc hs hp hdg))
    (fun E ce q H locs cells slots ls pc st hc hs hW hp h1 h2 h3 => vx_out (fun x h => (hx x h).elim) hlk h1 h2 h3 (fun t ht hvm => ⟨(I, J), rfl, ⟨hp, by rw [ht]; exact hW.1, va_K.moved hvm C.2.2.2.2.1, hW.2.1⟩, hW.2.2.F ht⟩) hW.2.2.2.2 hc hs) rfl hlk hx hW ls hl
theorem pMet.ofR {Cn : String} {post : Nat → mI → mJ → Prop} (hy : plainName y.cls = true) (hw : ws = Cond.code y cc maxL (some (.object Cn)) :: ws') (hav : (lg_sl av).length ≤ maxL)
    (body : ∀ (p : Program) (e : Env) (R : Room) (s : State) (m : MethodId) (args : Array Value) (below : List Frame) (meth : Method) (c : Code) (A : Nat → Prop) (Q : State → Prop), Cx p s m args c cc y.cls ws D cy A → c.maxLocals = maxL → rm = R → gX A s → (∀ (v : Nat) (I' : mI) (J' : mJ) (H : Heap) (locs : List Loc) (cells slots : Nat) (ls : Array Slot) (pc : Nat), cells ≤ rm.cells → slots ≤ rm.slots → Wd D cy A s.heap H locs L ad G I' J' → post v I' J' → decode cc pc = .ok (.areturn, 1) → W p l e R s m args below meth c H locs cells slots Q (F0 m pc ls [.ref (ad v)])) → Wd D cy A s.heap s.heap [] L ad G I J →
      ∀ ls, lv_has ls maxL (lv_args 0 av) → W p l e R s m args below meth c s.heap [] 0 0 Q (F0 m 0 ls [])) : pMet l y ws rm D cy L ad G I J av (qR post D cy L ad G) := by
  refine pMet.of hy hw hav ?_
  intro p e s m below meth c A C hml hr hlk hnm hg hW ls hl
  exact body p e _ s m _ below meth c A _ C hml rfl hg (fun v I' J' H locs cells slots ls pc hc hs hW hp hdg => p_aret C hr hlk hW hc hs hp hdg) hW ls hl
theorem pXet.ofR {Cn : String} {post : Nat → mI → mJ → Prop} {px : String → Prop} (hy : plainName y.cls = true) (hw : ws = Cond.code y cc maxL (some (.object Cn)) :: ws') (hav : (lg_sl av).length ≤ maxL)
    (body : ∀ (p : Program) (e : Env) (R : Room) (s : State) (m : MethodId) (args : Array Value) (below : List Frame) (meth : Method) (c : Code) (A : Nat → Prop) (Q : State → Prop), Cx p s m args c cc y.cls ws D cy A → c.maxLocals = maxL → rm = R → gX A s → (∀ (v : Nat) (I' : mI) (J' : mJ) (H : Heap) (locs : List Loc) (cells slots : Nat) (ls : Array Slot) (pc : Nat), cells ≤ rm.cells → slots ≤ rm.slots → Wd D cy A s.heap H locs L ad G I' J' → post v I' J' → decode cc pc = .ok (.areturn, 1) → W p l e R s m args below meth c H locs cells slots Q (F0 m pc ls [.ref (ad v)])) → (∀ (E : String) (ce : Cell) (q : Addr) (H : Heap) (locs : List Loc) (cells slots : Nat) (ls : Array Slot) (pc : Nat) (st : List Value), cells ≤ rm.cells → slots ≤ rm.slots → Wd D cy A s.heap H locs L ad G I J → px E → H[q]? = some ce → ce.vm = .none → s.vm.findClass E = some ce.cls → vx_W p l e R s m args below meth c H locs cells slots Q (F0 m pc ls st) q) →
      (Q = vx_MQ below (qR post D cy L ad G A) (qX px D cy L ad G I J A) args s rm.cells rm.slots A) → meth.locks = false → (∀ x ∈ c.exceptionTable.toList, False) → Wd D cy A s.heap s.heap [] L ad G I J →
      ∀ ls, lv_has ls maxL (lv_args 0 av) → W p l e R s m args below meth c s.heap [] 0 0 Q (F0 m 0 ls [])) : pXet l y ws rm D cy L ad G I J av (qR post D cy L ad G) px := by
  refine pXet.of hy hw hav ?_
  intro p e s m below meth c A C hml hr hlk hx hg hW ls hl
  exact body p e _ s m _ below meth c A _ C hml rfl hg (fun v I' J' H locs cells slots ls pc hc hs hW hp hdg => vx_ret (p_aret C hr hlk hW hc hs hp hdg))
    (fun E ce q H locs cells slots ls pc st hc hs hW hp h1 h2 h3 => vx_out (fun x h => (hx x h).elim) hlk h1 h2 h3 (fun t ht hvm => ⟨(I, J), rfl, ⟨hp, by rw [ht]; exact hW.1, va_K.moved hvm C.2.2.2.2.1, hW.2.1⟩, hW.2.2.F ht⟩) hW.2.2.2.2 hc hs) rfl hlk hx hW ls hl
end OF
end
section
/-! rows of the pool that agree below their lengths; a row copied -/
theorem arr_congr {cI : ClassId} {n : Nat} {f g : Nat → Value} (h : ∀ j, j < n → f j = g j) : arrV cI n f = arrV cI n g := by
  have e : (fun j : Fin n => f j.val) = (fun j : Fin n => g j.val) := funext fun j => h j.val j.isLt
  unfold arrV
  rw [e]
section P2
variable {D : va_G} {cy : Nat → ClassId} {A : Nat → Prop} {H0 H : Heap} {locs : List Loc} {L : List Nat} {ad : Nat → Nat} {G : mG} {I : mI} {J : mJ} {r : Nat}
theorem Wd_rJ (hW : Wd D cy A H0 H locs L ad G I J) (hk : kd r = 7) {g : Nat → Int64} (h : ∀ k, k < ln r → g k = J r k) : Wd D cy A H0 H locs L ad G I (va_up J r g) := by
  refine ⟨fun k q hq => ?_, pW_D hW.2.1, hW.2.2⟩
  obtain ⟨b, hb, rfl⟩ := pQ_of hq
  have h1 := hW.1 k (ad b, pF cy ad G I J b) (by unfold pW pQ; rw [List.getElem?_map, hb]; rfl)
  by_cases hbr : b = r
  · subst hbr
    rw [pF_7 hk] at h1 ⊢
    rw [va_up_self]
    have h2 : H[ad b]? = some (vp_cell (cy 1) (ln b, .inr (.inl (J b)))) := h1
    show H[ad b]? = some (vp_cell (cy 1) (ln b, .inr (.inl g)))
    rw [h2, vp_cell_l, vp_cell_l, arr_congr (f := fun j => Value.long (J b j)) (g := fun j => Value.long (g j)) (fun j hj => by rw [h j hj])]
  · rw [pF_J b hbr]
    exact h1
theorem Wd_rI (hW : Wd D cy A H0 H locs L ad G I J) (hk : kd r = 6 ∨ kd r = 8) {g : Nat → Int32} (h : ∀ k, k < ln r → g k = I r k) : Wd D cy A H0 H locs L ad G (va_up I r g) J := by
  refine ⟨fun k q hq => ?_, pW_D hW.2.1, hW.2.2⟩
  obtain ⟨b, hb, rfl⟩ := pQ_of hq
  have h1 := hW.1 k (ad b, pF cy ad G I J b) (by unfold pW pQ; rw [List.getElem?_map, hb]; rfl)
  by_cases hbr : b = r
  · subst hbr
    rcases hk with hk | hk
    · rw [pF_6 hk] at h1 ⊢
      rw [va_up_self]
      have h2 : H[ad b]? = some (vp_cell (cy 0) (ln b, .inl (I b))) := h1
      show H[ad b]? = some (vp_cell (cy 0) (ln b, .inl g))
      rw [h2, vp_cell_i, vp_cell_i, arr_congr (f := fun j => Value.int (I b j)) (g := fun j => Value.int (g j)) (fun j hj => by rw [h j hj])]
    · rw [pF_8 hk] at h1 ⊢
      rw [va_up_self]
      have h2 : H[ad b]? = some (vp_cell (cy 2) (ln b, .inl (I b))) := h1
      show H[ad b]? = some (vp_cell (cy 2) (ln b, .inl g))
      rw [h2, vp_cell_i, vp_cell_i, arr_congr (f := fun j => Value.int (I b j)) (g := fun j => Value.int (g j)) (fun j hj => by rw [h j hj])]
  · rw [pF_I b hbr]
    exact h1
theorem up_up {α : Type} (f : Nat → α) (k : Nat) (v w : α) : va_up (va_up f k v) k w = va_up f k w := bx_uu f k v w
theorem up_same {α : Type} (f : Nat → α) (k : Nat) : va_up f k (f k) = f := by
  funext j
  unfold va_up
  split
  · next h => rw [h]
  · rfl
/-- a row written over and over: its last form, told below its length alone -/
theorem Wd_setJ {f : Nat → Int64} (hW : Wd D cy A H0 H locs L ad G I (va_up J r f)) (hk : kd r = 7) {g : Nat → Int64} (h : ∀ k, k < ln r → g k = f k) : Wd D cy A H0 H locs L ad G I (va_up J r g) := by
  have h1 := Wd_rJ hW hk (g := g) (fun k hkk => by rw [va_up_self]; exact h k hkk)
  rw [up_up] at h1
  exact h1
theorem Wd_setI {f : Nat → Int32} (hW : Wd D cy A H0 H locs L ad G (va_up I r f) J) (hk : kd r = 6 ∨ kd r = 8) {g : Nat → Int32} (h : ∀ k, k < ln r → g k = f k) : Wd D cy A H0 H locs L ad G (va_up I r g) J := by
  have h1 := Wd_rI hW hk (g := g) (fun k hkk => by rw [va_up_self]; exact h k hkk)
  rw [up_up] at h1
  exact h1
end P2
section P3
variable {p : Program} {l : Launch} {e : Env} {R : Room} {s : State} {m : MethodId} {args : Array Value} {below : List Frame} {meth : Method} {c : Code} {H : Heap} {locs : List Loc} {cells slots : Nat} {Q : State → Prop}
variable {cc : ByteArray} {pc : Nat} {ls : Array Slot} {rest : List Value} {own : String} {Ts : List Cond} {D : va_G} {cy : Nat → ClassId} {A : Nat → Prop} {L : List Nat} {ad : Nat → Nat} {G : mG} {I : mI} {J : mJ} {r r2 : Nat}
theorem p_copy (C : Cx p s m args c cc own Ts D cy A) (hml : c.maxLocals = ls.size) {index : Nat} (hlink : (Cond.methodLink own index arraycopyName).before args s = true) (hnat : (Cond.native arraycopyName).before args s = true) (hstat : (Cond.static arraycopyName).before args s = true) (hini : (Cond.initialized "java/lang/System").before args s = true)
    (hW : Wd D cy A s.heap H locs L ad G I J) (hr : r ∈ L) (hk : kd r = 7) (hl : ln r = 48) (hr2 : r2 ∈ L) (hk2 : kd r2 = 7) (hl2 : ln r2 = 48)
    (hframes : 1 ≤ R.frames) (hlocals : (rest.map fun v => v.category).sum + (nativeFrameWords "java/lang/System" "arraycopy" 5 + 11) ≤ R.locals) (hdg : decode cc pc = .ok (.invokestatic index, 3))
    (kk : ∀ (H : Heap) (locs : List Loc), Wd D cy A s.heap H locs L ad G I (va_up J r (J r2)) → W p l e R s m args below meth c H locs cells slots Q (F0 m (pc + 3) ls rest)) :
    W p l e R s m args below meth c H locs cells slots Q (F0 m pc ls (.int (nI 48) :: .int (nI 0) :: .ref (ad r) :: .int (nI 0) :: .ref (ad r2) :: rest)) := by
  obtain ⟨hx, hb, hown, hts, hK, hA⟩ := C
  obtain ⟨hP, hD, hS⟩ := hW
  obtain ⟨q, hq, hq2⟩ := pQ_get (ad := ad) (F := pF cy ad G I J) hr
  obtain ⟨o, ho, ho2⟩ := pQ_get (ad := ad) (F := pF cy ad G I J) hr2
  rw [pF_7 hk] at hq2
  rw [pF_7 hk2] at ho2
  have c48 : (nI 48).toNatClampNeg = 48 := nI_clamp (by omega)
  have c0 : (nI 0).toNatClampNeg = 0 := nI_clamp (by omega)
  refine va_copyl hx hb hml hown hlink hnat hstat hini hK hP hD hS o q 1 1 ho2 hq2 rfl rfl rfl (nI_pos (by omega)) (nI_pos (by omega)) (nI_pos (by omega)) (by rw [c48, c0, hl2]; omega) (by rw [c48, c0, hl]; omega) (fun _ _ => rfl) hframes hlocals hdg (fun H1 locs1 hP1 hD1 hS1 => ?_)
  rw [c48, c0] at hP1 hD1
  rw [pQ_set (F' := pF cy ad G I (va_up J r (va_cpy (J r2) (J r) 0 0 48))) hD hq (by rw [pF_7 hk, va_up_self]) pF_J] at hP1 hD1
  refine kk H1 locs1 (Wd_setJ ⟨hP1, hD1, hS1⟩ hk (fun k hkk => ?_))
  rw [hl] at hkk
  simp only [va_cpy]
  rw [if_pos ⟨Nat.zero_le _, by omega⟩]
  congr 1
  omega
end P3
/-- a wave's object w and its row q; a net's object n with its rows t, k, and what they hold -/
def isV (L : List Nat) (G : mG) (w q : Nat) : Prop := w ∈ L ∧ kd w = 3 ∧ G w 0 = some q ∧ q ∈ L ∧ kd q = 7 ∧ ln q = 48
def isN (L : List Nat) (G : mG) (n t k : Nat) : Prop := n ∈ L ∧ kd n = 1 ∧ G n 4 = some t ∧ t ∈ L ∧ kd t = 6 ∧ ln t = 48 ∧ G n 5 = some k ∧ k ∈ L ∧ kd k = 8 ∧ ln k = 12
end
section
/-! THE NUMBERS, by functions -/
/-- squares of d numbers from k on -/
def sqN (f : Nat → Int64) (k : Nat) : Nat → Int64
  | 0 => 0
  | d + 1 => sqN f k d + f (k + d) * f (k + d)
def sqAt (f : Nat → Int64) (q : Nat) : Int64 := sqN f (q * 4) 4
def sqA (f : Nat → Int64) : Nat → Int64
  | 0 => 0
  | q + 1 => sqA f q + sqAt f q
def sqs (f : Nat → Int64) : Int64 := sqA f 12
/-- squares at marked places -/
def sqM (f : Nat → Int64) (mk : Nat → Bool) : Nat → Int64
  | 0 => 0
  | q + 1 => if mk q = true then sqM f mk q + sqAt f q else sqM f mk q
def told (x : Int64) : Bool := decide (-100 ≤ x ∧ x ≤ 100)
def toldB (f : Nat → Int64) (c : Nat) : Nat → Bool
  | 0 => true
  | i + 1 => toldB f c i && (decide (i = c) || told (f i))
/-- the door k is one of the net's -/
def dor (pl dr k : Nat) : Bool := decide (k / 4 < pl ∧ k % 4 < dr)
def fillF (pl dr : Nat) (v : Int64) (f : Nat → Int64) : Nat → Int64 := fun k => if dor pl dr k = true then v else f k
def signF (pl dr : Nat) (mk : Nat → Bool) (f : Nat → Int64) : Nat → Int64 := fun k => if dor pl dr k = true ∧ mk (k / 4) = true then -(f k) else f k
def sumN (f : Nat → Int64) (k : Nat) : Nat → Int64
  | 0 => 0
  | d + 1 => sumN f k d + f (k + d)
/-- what the number at the door k becomes by the table -/
def tv (dr : Nat) (f : Nat → Int64) (k : Nat) : Int64 :=
  if dr = 2 then (if k % 4 = 0 then f k + f (k + 1) else f (k - 1) - f k)
  else if dr = 3 then 2 * sumN f (k / 4 * 4) 3 - 3 * f k else sumN f (k / 4 * 4) 4 - 2 * f k
def turnF (pl dr : Nat) (f : Nat → Int64) : Nat → Int64 := fun k => if dor pl dr k = true then tv dr f k else f k
/-- at one place -/
def turn1 (q dr : Nat) (f : Nat → Int64) : Nat → Int64 := fun k => if k / 4 = q ∧ k % 4 < dr then tv dr f k else f k
def scOf (dr : Nat) : Int64 := if dr = 2 then 2 else if dr = 3 then 9 else 4
def scN (dr : Nat) : Nat := if dr = 2 then 2 else if dr = 3 then 9 else 4
def lessF (pl dr : Nat) (f : Nat → Int64) : Nat → Int64 := fun k => if dor pl dr k = true then f k / scOf dr else f k
def less1 (q dr : Nat) (f : Nat → Int64) : Nat → Int64 := fun k => if k / 4 = q ∧ k % 4 < dr then f k / scOf dr else f k
def goF (to : Nat → Nat) (f : Nat → Int64) : Nat → Int64 := fun k => f (to k)
def stepF (pl dr : Nat) (to : Nat → Nat) (mk : Nat → Bool) (f : Nat → Int64) : Nat → Int64 := goF to (turnF pl dr (signF pl dr mk f))
def undoF (pl dr : Nat) (to : Nat → Nat) (mk : Nat → Bool) (f : Nat → Int64) : Nat → Int64 := signF pl dr mk (lessF pl dr (turnF pl dr (goF to f)))
/-- how far it goes on: lim steps at most, each from a weight not above hv -/
def leftF (hv sc : Int64) : Nat → Int64 → Nat
  | 0, _ => 0
  | n + 1, wt => if wt ≤ hv then leftF hv sc n (wt * sc) + 1 else 0
/-- the first i < n where g isn't 0, else n -/
def fnz (g : Nat → Int64) : Nat → Nat
  | 0 => 0
  | n + 1 => if fnz g n < n then fnz g n else if g n = 0 then n + 1 else n
def mulB (f g : Nat → Int64) (z : Nat) : Nat → Bool
  | 0 => true
  | i + 1 => mulB f g z i && decide (f i * g z = g i * f z)
def isMul (f g : Nat → Int64) : Bool := decide (fnz g 48 < 48) && mulB f g (fnz g 48) 48
def allAt (f : Nat → Int64) (q : Nat) : Bool := decide (0 < sqAt f q ∧ sqAt f q = sqs f)
/-- a pairing of the 48 cells, that keeps to the net's doors -/
def pairs (pl dr : Nat) (to : Nat → Nat) : Prop := ∀ k, k < 48 → to k < 48 ∧ to (to k) = k ∧ (dor pl dr k = true → dor pl dr (to k) = true) ∧ (dor pl dr k = false → to k = k)
theorem dor_iff {pl dr k : Nat} : dor pl dr k = true ↔ k / 4 < pl ∧ k % 4 < dr := by unfold dor; exact decide_eq_true_iff
theorem dor_at {pl dr q d : Nat} (hd : d < 4) : dor pl dr (q * 4 + d) = true ↔ q < pl ∧ d < dr := by
  rw [dor_iff]
  have h1 : (q * 4 + d) / 4 = q := by omega
  have h2 : (q * 4 + d) % 4 = d := by omega
  rw [h1, h2]
theorem told_iff {x : Int64} : told x = true ↔ -100 ≤ x ∧ x ≤ 100 := by unfold told; exact decide_eq_true_iff
theorem sumN_congr {f g : Nat → Int64} {k : Nat} : ∀ d, (∀ j, j < d → f (k + j) = g (k + j)) → sumN f k d = sumN g k d
  | 0, _ => rfl
  | d + 1, h => by rw [sumN, sumN, sumN_congr d (fun j hj => h j (by omega)), h d (by omega)]
theorem sqN_congr {f g : Nat → Int64} {k : Nat} : ∀ d, (∀ j, j < d → f (k + j) = g (k + j)) → sqN f k d = sqN g k d
  | 0, _ => rfl
  | d + 1, h => by rw [sqN, sqN, sqN_congr d (fun j hj => h j (by omega)), h d (by omega)]
theorem sqAt_congr {f g : Nat → Int64} {q : Nat} (h : ∀ j, j < 4 → f (q * 4 + j) = g (q * 4 + j)) : sqAt f q = sqAt g q := sqN_congr 4 h
theorem tv_congr {dr : Nat} {f g : Nat → Int64} {k : Nat} (hd : k % 4 < dr) (hdr : dr = 2 ∨ dr = 3 ∨ dr = 4) (h : ∀ j, j < dr → f (k / 4 * 4 + j) = g (k / 4 * 4 + j)) : tv dr f k = tv dr g k := by
  have hk : f k = g k := by
    have := h (k % 4) hd
    rwa [show k / 4 * 4 + k % 4 = k by omega] at this
  unfold tv
  rcases hdr with rfl | rfl | rfl
  · by_cases h0 : k % 4 = 0
    · rw [if_pos rfl, if_pos rfl, if_pos h0, if_pos h0, hk]
      have := h 1 (by omega)
      rw [show k / 4 * 4 + 1 = k + 1 by omega] at this
      rw [this]
    · rw [if_pos rfl, if_pos rfl, if_neg h0, if_neg h0, hk]
      have := h 0 (by omega)
      rw [show k / 4 * 4 + 0 = k - 1 by omega] at this
      rw [this]
  · show 2 * sumN f (k / 4 * 4) 3 - 3 * f k = 2 * sumN g (k / 4 * 4) 3 - 3 * g k
    rw [hk, sumN_congr 3 h]
  · show sumN f (k / 4 * 4) 4 - 2 * f k = sumN g (k / 4 * 4) 4 - 2 * g k
    rw [hk, sumN_congr 4 h]
theorem fnz_le (g : Nat → Int64) : ∀ n, fnz g n ≤ n
  | 0 => Nat.le_refl _
  | n + 1 => by
    have := fnz_le g n
    rw [fnz]
    split
    · omega
    · split <;> omega
theorem fnz_zero (g : Nat → Int64) : ∀ n k, k < fnz g n → g k = 0
  | 0, k, h => absurd h (Nat.not_lt_zero k)
  | n + 1, k, h => by
    have ih := fnz_zero g n
    have hle := fnz_le g n
    rw [fnz] at h
    split at h
    · exact ih k h
    · split at h
      · next h1 h2 =>
        rcases Nat.lt_or_ge k n with q | q
        · exact ih k (by omega)
        · rw [show k = n by omega]; exact h2
      · exact ih k (by omega)
theorem fnz_ne (g : Nat → Int64) : ∀ n, fnz g n < n → g (fnz g n) ≠ 0
  | 0, h => absurd h (Nat.not_lt_zero _)
  | n + 1, h => by
    have hle := fnz_le g n
    rw [fnz] at h ⊢
    split
    · next h1 => exact fnz_ne g n h1
    · next h1 =>
      split
      · next h2 => rw [if_neg h1, if_pos h2] at h; omega
      · next h2 => exact h2
theorem fnz_of {g : Nat → Int64} {n i : Nat} (hi : i < n) (h0 : ∀ k, k < i → g k = 0) (h1 : g i ≠ 0) : fnz g n = i := by
  have hle := fnz_le g n
  rcases Nat.lt_trichotomy (fnz g n) i with h | h | h
  · exact absurd (h0 _ h) (fnz_ne g n (by omega))
  · exact h
  · exact absurd (fnz_zero g n i h) h1
theorem fnz_none {g : Nat → Int64} {n : Nat} (h0 : ∀ k, k < n → g k = 0) : fnz g n = n := by
  have hle := fnz_le g n
  rcases Nat.lt_or_ge (fnz g n) n with h | h
  · exact absurd (h0 _ h) (fnz_ne g n h)
  · omega
end
section
abbrev rmX3_squaresAt : Room := { frames := 0, cells := 0, slots := 0, locals := 0 }
set_option maxHeartbeats 4000000 in
set_option maxRecDepth 100000 in
theorem c_X3_squaresAt (l : Launch) (D : va_G) (cy : Nat → ClassId) (L : List Nat) (ad : Nat → Nat) (G : mG) (I : mI) (J : mJ) (w q : Nat) (hV : isV L G w q) (pl : Nat) (hp : pl < 12) : pMet l yX3_squaresAt wsX3_squaresAt rmX3_squaresAt D cy L ad G I J [.ref (ad w), .int (nI pl)] (qL (fun v I' J' => v = sqAt (J q) pl ∧ I' = I ∧ J' = J) D cy L ad G) := by
  refine pMet.ofL (cc := cX3_squaresAt) (maxL := 6) (by decide +kernel) rfl (Nat.le_of_ble_eq_true rfl) ?_
  intro p e R s m args below meth c A Q C hml hR hg ret hW ls hl
  subst hR
  have C : Cx p s m args c cX3_squaresAt RX3 wsX3_squaresAt D cy A := C
  have hx := C.1
  have hb := C.2.1
  have lk9 := C.2.2.2.1 (.fieldLink RX3 9 "WaveWalk$Wave" "numbers" "[J") (by decide +kernel)
  have hinX3 : ∀ w ∈ wsX30, w ∈ wsX3_squaresAt := by decide +kernel
  have hl : lv_has ls 6 [(0, .ref (ad w)), (1, .int (nI pl))] := hl
  obtain ⟨hw, kw, gq, hq, kq, lq⟩ := id hV
  refine lv_iload_n hx hb dX3_squaresAt_0 rfl (lv_at hl 1 rfl) ?_
  refine lv_iconst (v := nI 4) hx hb dX3_squaresAt_1 (by decide) ?_
  refine n_imul hx hb dX3_squaresAt_2 ?_
  refine lv_istore_n (lv' := [(2, .int (nI (pl * 4))), (0, .ref (ad w)), (1, .int (nI pl))]) hx hb dX3_squaresAt_3 rfl hl (by decide) rfl (fun ls hl => ?_)
  refine lv_lconst (v := 0) hx hb dX3_squaresAt_4 (by decide) ?_
  refine lv_lstore_n (lv' := [(3, .long 0), (2, .int (nI (pl * 4))), (0, .ref (ad w)), (1, .int (nI pl))]) hx hb dX3_squaresAt_5 rfl hl (by decide) rfl (fun ls hl => ?_)
  refine lv_iload_n hx hb dX3_squaresAt_6 rfl (lv_at hl 1 rfl) ?_
  refine lv_istore (lv' := [(5, .int (nI (pl * 4))), (3, .long 0), (2, .int (nI (pl * 4))), (0, .ref (ad w)), (1, .int (nI pl))]) hx hb dX3_squaresAt_7 hl (by decide) rfl (fun ls hl => ?_)
  have lp9 : ∀ (nn : Nat) (d : Nat), (d ≤ 4) → (5 ≤ d + nn) → ∀ (H : Heap) (locs : List Loc), Wd D cy A s.heap H locs L ad G I J → ∀ (ls : Array Slot), lv_has ls 6 [(0, .ref (ad w)), (1, .int (nI pl)), (2, .int (nI (pl * 4))), (3, .long (sqN (J q) (pl * 4) d)), (5, .int (nI (pl * 4 + d)))] → W p l e rmX3_squaresAt s m args below meth c H locs 0 0 Q (F0 m 9 ls []) := by
    intro nn
    induction nn with
    | zero => intros; exfalso; omega
    | succ nn ih9 =>
      intro d hd hn H locs hW ls hl
      refine lv_iload hx hb dX3_squaresAt_9 (lv_at hl 4 rfl) ?_
      refine lv_iload_n hx hb dX3_squaresAt_11 rfl (lv_at hl 2 rfl) ?_
      refine lv_iconst (v := nI 4) hx hb dX3_squaresAt_12 (by decide) ?_
      refine n_iadd hx hb dX3_squaresAt_13 ?_
      refine n_icmp_ge (tgt := 41) hx hb (by omega) (by omega) dX3_squaresAt_14 (by decide) (fun h1 => ?_) (fun h1 => ?_)
      · skip
        refine lv_lload_n hx hb dX3_squaresAt_41 rfl (lv_at hl 3 rfl) ?_
        exact ret _ _ _ _ _ _ _ _ _ (Nat.le_of_ble_eq_true rfl) (Nat.le_of_ble_eq_true rfl) hW ⟨by rw [show d = 4 by omega]; rfl, rfl, rfl⟩ dX3_squaresAt_42
      · skip
        refine lv_lload_n hx hb dX3_squaresAt_17 rfl (lv_at hl 3 rfl) ?_
        refine lv_aload_n hx hb dX3_squaresAt_18 rfl (lv_at hl 0 rfl) ?_
        refine g_X3_0 C hinX3 hW hw kw gq lk9 dX3_squaresAt_19 ?_
        refine lv_iload hx hb dX3_squaresAt_22 (lv_at hl 4 rfl) ?_
        refine p_lald C hW hq kq (k := pl * 4 + d) rfl (by rw [lq]; omega) dX3_squaresAt_24 ?_
        refine lv_aload_n hx hb dX3_squaresAt_25 rfl (lv_at hl 0 rfl) ?_
        refine g_X3_0 C hinX3 hW hw kw gq lk9 dX3_squaresAt_26 ?_
        refine lv_iload hx hb dX3_squaresAt_29 (lv_at hl 4 rfl) ?_
        refine p_lald C hW hq kq (k := pl * 4 + d) rfl (by rw [lq]; omega) dX3_squaresAt_31 ?_
        refine lv_lmul hx hb dX3_squaresAt_32 ?_
        refine lv_ladd hx hb dX3_squaresAt_33 ?_
        refine lv_lstore_n (lv' := [(3, .long ((sqN (J q) (pl * 4) d) + ((J q (pl * 4 + d)) * (J q (pl * 4 + d))))), (0, .ref (ad w)), (1, .int (nI pl)), (2, .int (nI (pl * 4))), (5, .int (nI (pl * 4 + d)))]) hx hb dX3_squaresAt_34 rfl hl (by decide) rfl (fun ls hl => ?_)
        refine lv_iinc (v := nI ((pl * 4 + d) + 1)) (lv' := [(5, .int (nI ((pl * 4 + d) + 1))), (3, .long ((sqN (J q) (pl * 4) d) + ((J q (pl * 4 + d)) * (J q (pl * 4 + d))))), (0, .ref (ad w)), (1, .int (nI pl)), (2, .int (nI (pl * 4)))]) hx hb dX3_squaresAt_35 hl (k := 4) rfl (nI_inc _) (by decide) rfl (fun ls hl => ?_)
        refine lv_goto (tgt := 9) hx hb dX3_squaresAt_38 (by decide) ?_
        exact ih9 (d + 1) (by omega) (by omega) _ _ hW ls (lv_sub hl [2, 3, 4, 1, 0] rfl)
  exact lp9 5 0 (by omega) (by omega) _ _ hW ls (lv_sub hl [3, 4, 2, 1, 0] rfl)
abbrev rmX3_squares : Room := { frames := 1, cells := 0, slots := 0, locals := 25 }
set_option maxHeartbeats 4000000 in
set_option maxRecDepth 100000 in
theorem c_X3_squares (l : Launch) (D : va_G) (cy : Nat → ClassId) (L : List Nat) (ad : Nat → Nat) (G : mG) (I : mI) (J : mJ) (w q : Nat) (hV : isV L G w q) : pMet l yX3_squares wsX3_squares rmX3_squares D cy L ad G I J [.ref (ad w)] (qL (fun v I' J' => v = sqs (J q) ∧ I' = I ∧ J' = J) D cy L ad G) := by
  refine pMet.ofL (cc := cX3_squares) (maxL := 4) (by decide +kernel) rfl (Nat.le_of_ble_eq_true rfl) ?_
  intro p e R s m args below meth c A Q C hml hR hg ret hW ls hl
  subst hR
  have C : Cx p s m args c cX3_squares RX3 wsX3_squares D cy A := C
  have hx := C.1
  have hb := C.2.1
  have hl : lv_has ls 4 [(0, .ref (ad w))] := hl
  obtain ⟨hw, kw, gq, hq, kq, lq⟩ := id hV
  refine lv_lconst (v := 0) hx hb dX3_squares_0 (by decide) ?_
  refine lv_lstore_n (lv' := [(1, .long 0), (0, .ref (ad w))]) hx hb dX3_squares_1 rfl hl (by decide) rfl (fun ls hl => ?_)
  refine lv_iconst (v := nI 0) hx hb dX3_squares_2 (by decide) ?_
  refine lv_istore_n (lv' := [(3, .int (nI 0)), (1, .long 0), (0, .ref (ad w))]) hx hb dX3_squares_3 rfl hl (by decide) rfl (fun ls hl => ?_)
  have lp4 : ∀ (nn : Nat) (d : Nat), (d ≤ 12) → (13 ≤ d + nn) → ∀ (H : Heap) (locs : List Loc), Wd D cy A s.heap H locs L ad G I J → ∀ (ls : Array Slot), lv_has ls 4 [(0, .ref (ad w)), (1, .long (sqA (J q) d)), (3, .int (nI d))] → W p l e rmX3_squares s m args below meth c H locs 0 0 Q (F0 m 4 ls []) := by
    intro nn
    induction nn with
    | zero => intros; exfalso; omega
    | succ nn ih4 =>
      intro d hd hn H locs hW ls hl
      refine lv_iload_n hx hb dX3_squares_4 rfl (lv_at hl 2 rfl) ?_
      refine lv_bipush (v := nI 12) hx hb dX3_squares_5 (by decide) ?_
      refine n_icmp_ge (tgt := 24) hx hb (by omega) (by omega) dX3_squares_7 (by decide) (fun h1 => ?_) (fun h1 => ?_)
      · skip
        refine lv_lload_n hx hb dX3_squares_24 rfl (lv_at hl 1 rfl) ?_
        exact ret _ _ _ _ _ _ _ _ _ (Nat.le_of_ble_eq_true rfl) (Nat.le_of_ble_eq_true rfl) hW ⟨by rw [show d = 12 by omega]; rfl, rfl, rfl⟩ dX3_squares_25
      · skip
        refine lv_lload_n hx hb dX3_squares_10 rfl (lv_at hl 1 rfl) ?_
        refine lv_aload_n hx hb dX3_squares_11 rfl (lv_at hl 0 rfl) ?_
        refine lv_iload_n hx hb dX3_squares_12 rfl (lv_at hl 2 rfl) ?_
        refine p_cVl C hml hg hW (c_X3_squaresAt l D cy L ad G I J w q hV d (by omega)) (cwV 1 C.2.2.2.1 gX3_squares_X3_squaresAt rfl rfl rfl (by decide +kernel) ⟨Nat.le_of_ble_eq_true rfl, Nat.le_of_ble_eq_true rfl⟩) (p_recv C hW hw (pF_3 kw) rfl) rfl hl.1 rfl (Nat.le_of_ble_eq_true rfl) dX3_squares_13 (Nat.le_of_ble_eq_true rfl) (Nat.le_of_ble_eq_true rfl) (fun v2 I3 J4 H locs hp hW => ?_)
        obtain ⟨hv, hI, hJ⟩ := hp
        subst v2
        subst I3
        subst J4
        refine lv_ladd hx hb dX3_squares_16 ?_
        refine lv_lstore_n (lv' := [(1, .long ((sqA (J q) d) + (sqAt (J q) d))), (0, .ref (ad w)), (3, .int (nI d))]) hx hb dX3_squares_17 rfl hl (by decide) rfl (fun ls hl => ?_)
        refine lv_iinc (v := nI (d + 1)) (lv' := [(3, .int (nI (d + 1))), (1, .long ((sqA (J q) d) + (sqAt (J q) d))), (0, .ref (ad w))]) hx hb dX3_squares_18 hl (k := 2) rfl (nI_inc _) (by decide) rfl (fun ls hl => ?_)
        refine lv_goto (tgt := 4) hx hb dX3_squares_21 (by decide) ?_
        exact ih4 (d + 1) (by omega) (by omega) _ _ hW ls (lv_sub hl [2, 1, 0] rfl)
  exact lp4 13 0 (by omega) (by omega) _ _ hW ls (lv_sub hl [2, 1, 0] rfl)
abbrev rmX3_squaresAtMarked : Room := { frames := 1, cells := 0, slots := 0, locals := 25 }
set_option maxHeartbeats 4000000 in
set_option maxRecDepth 100000 in
theorem c_X3_squaresAtMarked (l : Launch) (D : va_G) (cy : Nat → ClassId) (L : List Nat) (ad : Nat → Nat) (G : mG) (I : mI) (J : mJ) (w q : Nat) (hV : isV L G w q) (n t k : Nat) (hN : isN L G n t k) (pl dr : Nat) (hpl : I n 0 = nI pl) (hdr : I n 1 = nI dr) (hp12 : pl ≤ 12) (hd4 : dr = 2 ∨ dr = 3 ∨ dr = 4) (mk : Nat → Bool) (hmk : ∀ c, c < 12 → I k c = bI (mk c)) : pMet l yX3_squaresAtMarked wsX3_squaresAtMarked rmX3_squaresAtMarked D cy L ad G I J [.ref (ad w), .ref (ad n)] (qL (fun v I' J' => v = sqM (J q) mk pl ∧ I' = I ∧ J' = J) D cy L ad G) := by
  refine pMet.ofL (cc := cX3_squaresAtMarked) (maxL := 5) (by decide +kernel) rfl (Nat.le_of_ble_eq_true rfl) ?_
  intro p e R s m args below meth c A Q C hml hR hg ret hW ls hl
  subst hR
  have C : Cx p s m args c cX3_squaresAtMarked RX3 wsX3_squaresAtMarked D cy A := C
  have hx := C.1
  have hb := C.2.1
  have lk25 := C.2.2.2.1 (.fieldLink RX3 25 "WaveWalk$Net" "places" "I") (by decide +kernel)
  have lk41 := C.2.2.2.1 (.fieldLink RX3 41 "WaveWalk$Net" "marked" "[Z") (by decide +kernel)
  have hinX1 : ∀ w ∈ wsX10, w ∈ wsX3_squaresAtMarked := by decide +kernel
  have hl : lv_has ls 5 [(0, .ref (ad w)), (1, .ref (ad n))] := hl
  obtain ⟨hw, kw, gq, hq, kq, lq⟩ := id hV
  obtain ⟨hn, kn, gt, ht, kt, lt, gk, hk, kk, lk⟩ := id hN
  refine lv_lconst (v := 0) hx hb dX3_squaresAtMarked_0 (by decide) ?_
  refine lv_lstore_n (lv' := [(2, .long 0), (0, .ref (ad w)), (1, .ref (ad n))]) hx hb dX3_squaresAtMarked_1 rfl hl (by decide) rfl (fun ls hl => ?_)
  refine lv_iconst (v := nI 0) hx hb dX3_squaresAtMarked_2 (by decide) ?_
  refine lv_istore (lv' := [(4, .int (nI 0)), (2, .long 0), (0, .ref (ad w)), (1, .ref (ad n))]) hx hb dX3_squaresAtMarked_3 hl (by decide) rfl (fun ls hl => ?_)
  have lp5 : ∀ (nn : Nat) (d : Nat), (d ≤ pl) → (pl + 1 ≤ d + nn) → ∀ (H : Heap) (locs : List Loc), Wd D cy A s.heap H locs L ad G I J → ∀ (ls : Array Slot), lv_has ls 5 [(0, .ref (ad w)), (1, .ref (ad n)), (2, .long (sqM (J q) mk d)), (4, .int (nI d))] → W p l e rmX3_squaresAtMarked s m args below meth c H locs 0 0 Q (F0 m 5 ls []) := by
    intro nn
    induction nn with
    | zero => intros; exfalso; omega
    | succ nn ih5 =>
      intro d hd hn9 H locs hW ls hl
      refine lv_iload hx hb dX3_squaresAtMarked_5 (lv_at hl 3 rfl) ?_
      refine lv_aload_n hx hb dX3_squaresAtMarked_7 rfl (lv_at hl 1 rfl) ?_
      refine g_X1_0 C hinX1 hW hn kn lk25 dX3_squaresAtMarked_8 ?_
      refine w_top (y := .int (nI pl)) (by rw [hpl]) ?_
      refine n_icmp_ge (tgt := 39) hx hb (by omega) (by omega) dX3_squaresAtMarked_11 (by decide) (fun h1 => ?_) (fun h1 => ?_)
      · skip
        refine lv_lload_n hx hb dX3_squaresAtMarked_39 rfl (lv_at hl 2 rfl) ?_
        exact ret _ _ _ _ _ _ _ _ _ (Nat.le_of_ble_eq_true rfl) (Nat.le_of_ble_eq_true rfl) hW ⟨by rw [show d = pl by omega], rfl, rfl⟩ dX3_squaresAtMarked_40
      · skip
        refine lv_aload_n hx hb dX3_squaresAtMarked_14 rfl (lv_at hl 1 rfl) ?_
        refine g_X1_5 C hinX1 hW hn kn gk lk41 dX3_squaresAtMarked_15 ?_
        refine lv_iload hx hb dX3_squaresAtMarked_18 (lv_at hl 3 rfl) ?_
        refine p_zald C hW hk kk (k := d) rfl (by rw [lk]; omega) dX3_squaresAtMarked_20 ?_
        refine w_top (y := .int (bI (mk d))) (by rw [hmk _ (by omega)]) ?_
        refine b_if_eq (tgt := 33) hx hb dX3_squaresAtMarked_21 (by decide) (fun h2 => ?_) (fun h2 => ?_)
        · skip
          refine lv_iinc (v := nI (d + 1)) (lv' := [(4, .int (nI (d + 1))), (0, .ref (ad w)), (1, .ref (ad n)), (2, .long (sqM (J q) mk d))]) hx hb dX3_squaresAtMarked_33 hl (k := 3) rfl (nI_inc _) (by decide) rfl (fun ls hl => ?_)
          refine lv_goto (tgt := 5) hx hb dX3_squaresAtMarked_36 (by decide) ?_
          have e2 : sqM (J q) mk (d + 1) = sqM (J q) mk d := by rw [sqM]; simp [h2]
          rw [← e2] at hl
          exact ih5 (d + 1) (by omega) (by omega) _ _ hW ls (lv_sub hl [1, 2, 3, 0] rfl)
        · skip
          refine lv_lload_n hx hb dX3_squaresAtMarked_24 rfl (lv_at hl 2 rfl) ?_
          refine lv_aload_n hx hb dX3_squaresAtMarked_25 rfl (lv_at hl 0 rfl) ?_
          refine lv_iload hx hb dX3_squaresAtMarked_26 (lv_at hl 3 rfl) ?_
          refine p_cVl C hml hg hW (c_X3_squaresAt l D cy L ad G I J w q hV d (by omega)) (cwV 1 C.2.2.2.1 gX3_squaresAtMarked_X3_squaresAt rfl rfl rfl (by decide +kernel) ⟨Nat.le_of_ble_eq_true rfl, Nat.le_of_ble_eq_true rfl⟩) (p_recv C hW hw (pF_3 kw) rfl) rfl hl.1 rfl (Nat.le_of_ble_eq_true rfl) dX3_squaresAtMarked_28 (Nat.le_of_ble_eq_true rfl) (Nat.le_of_ble_eq_true rfl) (fun v3 I4 J5 H locs hp hW => ?_)
          obtain ⟨hv, hI, hJ⟩ := hp
          subst v3
          subst I4
          subst J5
          refine lv_ladd hx hb dX3_squaresAtMarked_31 ?_
          refine lv_lstore_n (lv' := [(2, .long ((sqM (J q) mk d) + (sqAt (J q) d))), (0, .ref (ad w)), (1, .ref (ad n)), (4, .int (nI d))]) hx hb dX3_squaresAtMarked_32 rfl hl (by decide) rfl (fun ls hl => ?_)
          refine lv_iinc (v := nI (d + 1)) (lv' := [(4, .int (nI (d + 1))), (2, .long ((sqM (J q) mk d) + (sqAt (J q) d))), (0, .ref (ad w)), (1, .ref (ad n))]) hx hb dX3_squaresAtMarked_33 hl (k := 3) rfl (nI_inc _) (by decide) rfl (fun ls hl => ?_)
          refine lv_goto (tgt := 5) hx hb dX3_squaresAtMarked_36 (by decide) ?_
          have e2 : sqM (J q) mk (d + 1) = (sqM (J q) mk d) + (sqAt (J q) d) := by rw [sqM]; simp [h2]
          rw [← e2] at hl
          exact ih5 (d + 1) (by omega) (by omega) _ _ hW ls (lv_sub hl [2, 3, 1, 0] rfl)
  exact lp5 (pl + 1) 0 (by omega) (by omega) _ _ hW ls (lv_sub hl [2, 3, 1, 0] rfl)
abbrev rmX3_isAllAt : Room := { frames := 2, cells := 0, slots := 0, locals := 50 }
set_option maxHeartbeats 4000000 in
set_option maxRecDepth 100000 in
theorem c_X3_isAllAt (l : Launch) (D : va_G) (cy : Nat → ClassId) (L : List Nat) (ad : Nat → Nat) (G : mG) (I : mI) (J : mJ) (w q : Nat) (hV : isV L G w q) (pl : Nat) (hp : pl < 12) : pMet l yX3_isAllAt wsX3_isAllAt rmX3_isAllAt D cy L ad G I J [.ref (ad w), .int (nI pl)] (qI (fun v I' J' => v = bI (allAt (J q) pl) ∧ I' = I ∧ J' = J) D cy L ad G) := by
  refine pMet.ofZ (cc := cX3_isAllAt) (maxL := 4) (by decide +kernel) rfl (Nat.le_of_ble_eq_true rfl) ?_
  intro p e R s m args below meth c A Q C hml hR hg ret hW ls hl
  subst hR
  have C : Cx p s m args c cX3_isAllAt RX3 wsX3_isAllAt D cy A := C
  have hx := C.1
  have hb := C.2.1
  have hl : lv_has ls 4 [(0, .ref (ad w)), (1, .int (nI pl))] := hl
  obtain ⟨hw, kw, gq, hq, kq, lq⟩ := id hV
  refine lv_aload_n hx hb dX3_isAllAt_0 rfl (lv_at hl 0 rfl) ?_
  refine lv_iload_n hx hb dX3_isAllAt_1 rfl (lv_at hl 1 rfl) ?_
  refine p_cVl C hml hg hW (c_X3_squaresAt l D cy L ad G I J w q hV pl hp) (cwV 1 C.2.2.2.1 gX3_isAllAt_X3_squaresAt rfl rfl rfl (by decide +kernel) ⟨Nat.le_of_ble_eq_true rfl, Nat.le_of_ble_eq_true rfl⟩) (p_recv C hW hw (pF_3 kw) rfl) rfl hl.1 rfl (Nat.le_of_ble_eq_true rfl) dX3_isAllAt_2 (Nat.le_of_ble_eq_true rfl) (Nat.le_of_ble_eq_true rfl) (fun v1 I2 J3 H locs hp hW => ?_)
  obtain ⟨hv, hI, hJ⟩ := hp
  subst v1
  subst I2
  subst J3
  refine lv_lstore_n (lv' := [(2, .long (sqAt (J q) pl)), (0, .ref (ad w)), (1, .int (nI pl))]) hx hb dX3_isAllAt_5 rfl hl (by decide) rfl (fun ls hl => ?_)
  refine lv_lload_n hx hb dX3_isAllAt_6 rfl (lv_at hl 0 rfl) ?_
  refine lv_lconst (v := 0) hx hb dX3_isAllAt_7 (by decide) ?_
  refine l_le (tgt := 25) hx hb dX3_isAllAt_8 dX3_isAllAt_9 (by decide) (fun h4 => ?_) (fun h4 => ?_)
  · skip
    refine lv_iconst (v := nI 0) hx hb dX3_isAllAt_25 (by decide) ?_
    exact ret _ _ _ _ _ _ _ _ _ (Nat.le_of_ble_eq_true rfl) (Nat.le_of_ble_eq_true rfl) hW ⟨by rw [show allAt (J q) pl = false from decide_eq_false (fun z => h4 z.1)]; rfl, rfl, rfl⟩ (by decide) dX3_isAllAt_26
  · skip
    refine lv_lload_n hx hb dX3_isAllAt_12 rfl (lv_at hl 0 rfl) ?_
    refine lv_aload_n hx hb dX3_isAllAt_13 rfl (lv_at hl 1 rfl) ?_
    refine p_cVl C hml hg hW (c_X3_squares l D cy L ad G I J w q hV) (cwV 0 C.2.2.2.1 gX3_isAllAt_X3_squares rfl rfl rfl (by decide +kernel) ⟨Nat.le_of_ble_eq_true rfl, Nat.le_of_ble_eq_true rfl⟩) (p_recv C hW hw (pF_3 kw) rfl) rfl hl.1 rfl (Nat.le_of_ble_eq_true rfl) dX3_isAllAt_14 (Nat.le_of_ble_eq_true rfl) (Nat.le_of_ble_eq_true rfl) (fun v5 I6 J7 H locs hp hW => ?_)
    obtain ⟨hv, hI, hJ⟩ := hp
    subst v5
    subst I6
    subst J7
    refine l_ne (tgt := 25) hx hb dX3_isAllAt_17 dX3_isAllAt_18 (by decide) (fun h8 => ?_) (fun h8 => ?_)
    · skip
      refine lv_iconst (v := nI 0) hx hb dX3_isAllAt_25 (by decide) ?_
      exact ret _ _ _ _ _ _ _ _ _ (Nat.le_of_ble_eq_true rfl) (Nat.le_of_ble_eq_true rfl) hW ⟨by rw [show allAt (J q) pl = false from decide_eq_false (fun z => h8 z.2)]; rfl, rfl, rfl⟩ (by decide) dX3_isAllAt_26
    · skip
      refine lv_iconst (v := nI 1) hx hb dX3_isAllAt_21 (by decide) ?_
      refine lv_goto (tgt := 26) hx hb dX3_isAllAt_22 (by decide) ?_
      exact ret _ _ _ _ _ _ _ _ _ (Nat.le_of_ble_eq_true rfl) (Nat.le_of_ble_eq_true rfl) hW ⟨by rw [show allAt (J q) pl = true from decide_eq_true ⟨h4, h8⟩]; rfl, rfl, rfl⟩ (by decide) dX3_isAllAt_26
end
section
theorem toldB_false (f : Nat → Int64) (c : Nat) : ∀ n i, i < n → i ≠ c → told (f i) = false → toldB f c n = false
  | 0, i, h, _, _ => absurd h (Nat.not_lt_zero i)
  | n + 1, i, h, h1, h2 => by
    rw [toldB]
    rcases Nat.lt_or_ge i n with q | q
    · rw [toldB_false f c n i q h1 h2, Bool.false_and]
    · have e : i = n := by omega
      subst e
      rw [h2, decide_eq_false h1]
      simp
theorem mulB_false (f g : Nat → Int64) (z : Nat) : ∀ n i, i < n → f i * g z ≠ g i * f z → mulB f g z n = false
  | 0, i, h, _ => absurd h (Nat.not_lt_zero i)
  | n + 1, i, h, h1 => by
    rw [mulB]
    rcases Nat.lt_or_ge i n with q | q
    · rw [mulB_false f g z n i q h1, Bool.false_and]
    · have e : i = n := by omega
      subst e
      rw [decide_eq_false h1, Bool.and_false]
abbrev rmX4_isTold : Room := { frames := 0, cells := 0, slots := 0, locals := 0 }
set_option maxHeartbeats 4000000 in
set_option maxRecDepth 100000 in
theorem c_X4_isTold (l : Launch) (D : va_G) (cy : Nat → ClassId) (L : List Nat) (ad : Nat → Nat) (G : mG) (I : mI) (J : mJ) (z : Int64) : pMet l yX4_isTold wsX4_isTold rmX4_isTold D cy L ad G I J [.long z] (qI (fun v I' J' => v = bI (told z) ∧ I' = I ∧ J' = J) D cy L ad G) := by
  refine pMet.ofZ (cc := cX4_isTold) (maxL := 2) (by decide +kernel) rfl (Nat.le_of_ble_eq_true rfl) ?_
  intro p e R s m args below meth c A Q C hml hR hg ret hW ls hl
  subst hR
  have C : Cx p s m args c cX4_isTold RX4 wsX4_isTold D cy A := C
  have hx := C.1
  have hb := C.2.1
  have ck206 := C.2.2.2.1 (.constantLong RX4 206 (-100)) (by decide +kernel)
  have ck208 := C.2.2.2.1 (.constantLong RX4 208 (100)) (by decide +kernel)
  have hl : lv_has ls 2 [(0, .long z)] := hl
  refine lv_lload_n hx hb dX4_isTold_0 rfl (lv_at hl 0 rfl) ?_
  refine lv_ldc2 hx hb C.2.2.1 ck206 dX4_isTold_1 ?_
  refine l_lt (tgt := 20) hx hb dX4_isTold_4 dX4_isTold_5 (by decide) (fun h1 => ?_) (fun h1 => ?_)
  · skip
    refine lv_iconst (v := nI 0) hx hb dX4_isTold_20 (by decide) ?_
    exact ret _ _ _ _ _ _ _ _ _ (Nat.le_of_ble_eq_true rfl) (Nat.le_of_ble_eq_true rfl) hW ⟨by rw [show told z = false from decide_eq_false (fun y => by have := y.1; rw [Int64.le_iff_toInt_le] at this; rw [Int64.lt_iff_toInt_lt] at h1; omega)]; rfl, rfl, rfl⟩ (by decide) dX4_isTold_21
  · skip
    refine lv_lload_n hx hb dX4_isTold_8 rfl (lv_at hl 0 rfl) ?_
    refine lv_ldc2 hx hb C.2.2.1 ck208 dX4_isTold_9 ?_
    refine l_gt (tgt := 20) hx hb dX4_isTold_12 dX4_isTold_13 (by decide) (fun h2 => ?_) (fun h2 => ?_)
    · skip
      refine lv_iconst (v := nI 0) hx hb dX4_isTold_20 (by decide) ?_
      exact ret _ _ _ _ _ _ _ _ _ (Nat.le_of_ble_eq_true rfl) (Nat.le_of_ble_eq_true rfl) hW ⟨by rw [show told z = false from decide_eq_false (fun y => by have := y.2; rw [Int64.le_iff_toInt_le] at this; rw [Int64.lt_iff_toInt_lt] at h2; omega)]; rfl, rfl, rfl⟩ (by decide) dX4_isTold_21
    · skip
      refine lv_iconst (v := nI 1) hx hb dX4_isTold_16 (by decide) ?_
      refine lv_goto (tgt := 21) hx hb dX4_isTold_17 (by decide) ?_
      exact ret _ _ _ _ _ _ _ _ _ (Nat.le_of_ble_eq_true rfl) (Nat.le_of_ble_eq_true rfl) hW ⟨by rw [show told z = true from decide_eq_true ⟨Int64.not_lt.mp h1, Int64.not_lt.mp h2⟩]; rfl, rfl, rfl⟩ (by decide) dX4_isTold_21
abbrev rmX3_isToldBut : Room := { frames := 1, cells := 0, slots := 0, locals := 21 }
set_option maxHeartbeats 4000000 in
set_option maxRecDepth 100000 in
theorem c_X3_isToldBut (l : Launch) (D : va_G) (cy : Nat → ClassId) (L : List Nat) (ad : Nat → Nat) (G : mG) (I : mI) (J : mJ) (w q : Nat) (hV : isV L G w q) (z : Nat) (hz : z < 48) : pMet l yX3_isToldBut wsX3_isToldBut rmX3_isToldBut D cy L ad G I J [.ref (ad w), .int (nI z)] (qI (fun v I' J' => v = bI (toldB (J q) z 48) ∧ I' = I ∧ J' = J) D cy L ad G) := by
  refine pMet.ofZ (cc := cX3_isToldBut) (maxL := 3) (by decide +kernel) rfl (Nat.le_of_ble_eq_true rfl) ?_
  intro p e R s m args below meth c A Q C hml hR hg ret hW ls hl
  subst hR
  have C : Cx p s m args c cX3_isToldBut RX3 wsX3_isToldBut D cy A := C
  have hx := C.1
  have hb := C.2.1
  have lk9 := C.2.2.2.1 (.fieldLink RX3 9 "WaveWalk$Wave" "numbers" "[J") (by decide +kernel)
  have hinX3 : ∀ w ∈ wsX30, w ∈ wsX3_isToldBut := by decide +kernel
  have hl : lv_has ls 3 [(0, .ref (ad w)), (1, .int (nI z))] := hl
  obtain ⟨hw, kw, gq, hq, kq, lq⟩ := id hV
  refine lv_iconst (v := nI 0) hx hb dX3_isToldBut_0 (by decide) ?_
  refine lv_istore_n (lv' := [(2, .int (nI 0)), (0, .ref (ad w)), (1, .int (nI z))]) hx hb dX3_isToldBut_1 rfl hl (by decide) rfl (fun ls hl => ?_)
  have lp2 : ∀ (nn : Nat) (d : Nat), (d ≤ 48) → (49 ≤ d + nn) → (toldB (J q) z d = true) → ∀ (H : Heap) (locs : List Loc), Wd D cy A s.heap H locs L ad G I J → ∀ (ls : Array Slot), lv_has ls 3 [(0, .ref (ad w)), (1, .int (nI z)), (2, .int (nI d))] → W p l e rmX3_isToldBut s m args below meth c H locs 0 0 Q (F0 m 2 ls []) := by
    intro nn
    induction nn with
    | zero => intros; exfalso; omega
    | succ nn ih2 =>
      intro d hd hn ht H locs hW ls hl
      refine lv_iload_n hx hb dX3_isToldBut_2 rfl (lv_at hl 2 rfl) ?_
      refine lv_bipush (v := nI 48) hx hb dX3_isToldBut_3 (by decide) ?_
      refine n_icmp_ge (tgt := 33) hx hb (by omega) (by omega) dX3_isToldBut_5 (by decide) (fun h1 => ?_) (fun h1 => ?_)
      · skip
        refine lv_iconst (v := nI 1) hx hb dX3_isToldBut_33 (by decide) ?_
        exact ret _ _ _ _ _ _ _ _ _ (Nat.le_of_ble_eq_true rfl) (Nat.le_of_ble_eq_true rfl) hW ⟨by rw [show d = 48 by omega] at ht; rw [ht]; rfl, rfl, rfl⟩ (by decide) dX3_isToldBut_34
      · skip
        refine lv_iload_n hx hb dX3_isToldBut_8 rfl (lv_at hl 2 rfl) ?_
        refine lv_iload_n hx hb dX3_isToldBut_9 rfl (lv_at hl 1 rfl) ?_
        refine n_icmp_eq (tgt := 27) hx hb (by omega) (by omega) dX3_isToldBut_10 (by decide) (fun h2 => ?_) (fun h2 => ?_)
        · skip
          refine lv_iinc (v := nI (d + 1)) (lv' := [(2, .int (nI (d + 1))), (0, .ref (ad w)), (1, .int (nI z))]) hx hb dX3_isToldBut_27 hl (k := 2) rfl (nI_inc _) (by decide) rfl (fun ls hl => ?_)
          refine lv_goto (tgt := 2) hx hb dX3_isToldBut_30 (by decide) ?_
          exact ih2 (d + 1) (by omega) (by omega) (by rw [toldB, ht]; simp [h2]) _ _ hW ls (lv_sub hl [1, 2, 0] rfl)
        · skip
          refine lv_aload_n hx hb dX3_isToldBut_13 rfl (lv_at hl 0 rfl) ?_
          refine g_X3_0 C hinX3 hW hw kw gq lk9 dX3_isToldBut_14 ?_
          refine lv_iload_n hx hb dX3_isToldBut_17 rfl (lv_at hl 2 rfl) ?_
          refine p_lald C hW hq kq (k := d) rfl (by rw [lq]; omega) dX3_isToldBut_18 ?_
          refine p_cNi C hml hg hW (c_X4_isTold l D cy L ad G I J (J q d)) (host := RX4) ⟨va_cnB 1 C.2.2.2.1 gX3_isToldBut_X4_isTold_n33 rfl rfl rfl hg.1.2.2.2.1 (C.2.2.2.1 (.initialized RX4) (by decide +kernel)) (by decide +kernel) ⟨Nat.le_of_ble_eq_true rfl, Nat.le_of_ble_eq_true rfl⟩, C.2.2.2.1 (.static yX4_isTold) (by decide +kernel), trivial⟩ rfl hl.1 rfl (Nat.le_of_ble_eq_true rfl) dX3_isToldBut_19 (Nat.le_of_ble_eq_true rfl) (Nat.le_of_ble_eq_true rfl) (fun v3 I4 J5 H locs hp hW => ?_)
          obtain ⟨hv, hI, hJ⟩ := hp
          subst v3
          subst I4
          subst J5
          refine b_if_ne (tgt := 27) hx hb dX3_isToldBut_22 (by decide) (fun h6 => ?_) (fun h6 => ?_)
          · skip
            refine lv_iinc (v := nI (d + 1)) (lv' := [(2, .int (nI (d + 1))), (0, .ref (ad w)), (1, .int (nI z))]) hx hb dX3_isToldBut_27 hl (k := 2) rfl (nI_inc _) (by decide) rfl (fun ls hl => ?_)
            refine lv_goto (tgt := 2) hx hb dX3_isToldBut_30 (by decide) ?_
            exact ih2 (d + 1) (by omega) (by omega) (by rw [toldB, ht]; simp [h6]) _ _ hW ls (lv_sub hl [1, 2, 0] rfl)
          · skip
            refine lv_iconst (v := nI 0) hx hb dX3_isToldBut_25 (by decide) ?_
            exact ret _ _ _ _ _ _ _ _ _ (Nat.le_of_ble_eq_true rfl) (Nat.le_of_ble_eq_true rfl) hW ⟨by rw [toldB_false (J q) z 48 d (by omega) h2 h6]; rfl, rfl, rfl⟩ (by decide) dX3_isToldBut_26
  exact lp2 49 0 (by omega) (by omega) rfl _ _ hW ls (lv_sub hl [1, 2, 0] rfl)
abbrev rmX3_isMultipleOf : Room := { frames := 0, cells := 0, slots := 0, locals := 0 }
set_option maxHeartbeats 4000000 in
set_option maxRecDepth 100000 in
theorem c_X3_isMultipleOf (l : Launch) (D : va_G) (cy : Nat → ClassId) (L : List Nat) (ad : Nat → Nat) (G : mG) (I : mI) (J : mJ) (w q w2 q2 : Nat) (hV : isV L G w q) (hV2 : isV L G w2 q2) : pMet l yX3_isMultipleOf wsX3_isMultipleOf rmX3_isMultipleOf D cy L ad G I J [.ref (ad w), .ref (ad w2)] (qI (fun v I' J' => v = bI (isMul (J q) (J q2)) ∧ I' = I ∧ J' = J) D cy L ad G) := by
  refine pMet.ofZ (cc := cX3_isMultipleOf) (maxL := 4) (by decide +kernel) rfl (Nat.le_of_ble_eq_true rfl) ?_
  intro p e R s m args below meth c A Q C hml hR hg ret hW ls hl
  subst hR
  have C : Cx p s m args c cX3_isMultipleOf RX3 wsX3_isMultipleOf D cy A := C
  have hx := C.1
  have hb := C.2.1
  have lk9 := C.2.2.2.1 (.fieldLink RX3 9 "WaveWalk$Wave" "numbers" "[J") (by decide +kernel)
  have hinX3 : ∀ w ∈ wsX30, w ∈ wsX3_isMultipleOf := by decide +kernel
  have hl : lv_has ls 4 [(0, .ref (ad w)), (1, .ref (ad w2))] := hl
  obtain ⟨hw, kw, gq, hq, kq, lq⟩ := id hV
  obtain ⟨hw2, kw2, gq2, hq2, kq2, lq2⟩ := id hV2
  refine lv_iconst (v := nI 0) hx hb dX3_isMultipleOf_0 (by decide) ?_
  refine lv_istore_n (lv' := [(2, .int (nI 0)), (0, .ref (ad w)), (1, .ref (ad w2))]) hx hb dX3_isMultipleOf_1 rfl hl (by decide) rfl (fun ls hl => ?_)
  have lp2 : ∀ (nn : Nat) (d : Nat), (d ≤ 48) → (49 ≤ d + nn) → (∀ i, i < d → J q2 i = 0) → ∀ (H : Heap) (locs : List Loc), Wd D cy A s.heap H locs L ad G I J → ∀ (ls : Array Slot), lv_has ls 4 [(0, .ref (ad w)), (1, .ref (ad w2)), (2, .int (nI d))] → W p l e rmX3_isMultipleOf s m args below meth c H locs 0 0 Q (F0 m 2 ls []) := by
    intro nn
    induction nn with
    | zero => intros; exfalso; omega
    | succ nn ih2 =>
      intro d hd hn hz H locs hW ls hl
      refine lv_iload_n hx hb dX3_isMultipleOf_2 rfl (lv_at hl 2 rfl) ?_
      refine lv_bipush (v := nI 48) hx hb dX3_isMultipleOf_3 (by decide) ?_
      refine n_icmp_ge (tgt := 25) hx hb (by omega) (by omega) dX3_isMultipleOf_5 (by decide) (fun h1 => ?_) (fun h1 => ?_)
      · skip
        refine lv_iload_n hx hb dX3_isMultipleOf_25 rfl (lv_at hl 2 rfl) ?_
        refine lv_bipush (v := nI 48) hx hb dX3_isMultipleOf_26 (by decide) ?_
        refine n_icmp_lt (tgt := 33) hx hb (by omega) (by omega) dX3_isMultipleOf_28 (by decide) (fun h2 => ?_) (fun h2 => ?_)
        · skip
          exfalso; omega
        · skip
          refine lv_iconst (v := nI 0) hx hb dX3_isMultipleOf_31 (by decide) ?_
          exact ret _ _ _ _ _ _ _ _ _ (Nat.le_of_ble_eq_true rfl) (Nat.le_of_ble_eq_true rfl) hW ⟨by rw [show isMul (J q) (J q2) = false by unfold isMul; rw [fnz_none (fun i hi => hz i (by omega))]; rfl]; rfl, rfl, rfl⟩ (by decide) dX3_isMultipleOf_32
      · skip
        refine lv_aload_n hx hb dX3_isMultipleOf_8 rfl (lv_at hl 1 rfl) ?_
        refine g_X3_0 C hinX3 hW hw2 kw2 gq2 lk9 dX3_isMultipleOf_9 ?_
        refine lv_iload_n hx hb dX3_isMultipleOf_12 rfl (lv_at hl 2 rfl) ?_
        refine p_lald C hW hq2 kq2 (k := d) rfl (by rw [lq2]; omega) dX3_isMultipleOf_13 ?_
        refine lv_lconst (v := 0) hx hb dX3_isMultipleOf_14 (by decide) ?_
        refine l_ne (tgt := 25) hx hb dX3_isMultipleOf_15 dX3_isMultipleOf_16 (by decide) (fun h3 => ?_) (fun h3 => ?_)
        · skip
          refine lv_iload_n hx hb dX3_isMultipleOf_25 rfl (lv_at hl 2 rfl) ?_
          refine lv_bipush (v := nI 48) hx hb dX3_isMultipleOf_26 (by decide) ?_
          refine n_icmp_lt (tgt := 33) hx hb (by omega) (by omega) dX3_isMultipleOf_28 (by decide) (fun h4 => ?_) (fun h4 => ?_)
          · skip
            refine lv_iconst (v := nI 0) hx hb dX3_isMultipleOf_33 (by decide) ?_
            refine lv_istore_n (lv' := [(3, .int (nI 0)), (0, .ref (ad w)), (1, .ref (ad w2)), (2, .int (nI d))]) hx hb dX3_isMultipleOf_34 rfl hl (by decide) rfl (fun ls hl => ?_)
            have lp35 : ∀ (nn : Nat) (j : Nat), (j ≤ 48) → (49 ≤ j + nn) → (mulB (J q) (J q2) d j = true) → ∀ (H : Heap) (locs : List Loc), Wd D cy A s.heap H locs L ad G I J → ∀ (ls : Array Slot), lv_has ls 4 [(0, .ref (ad w)), (1, .ref (ad w2)), (2, .int (nI d)), (3, .int (nI j))] → W p l e rmX3_isMultipleOf s m args below meth c H locs 0 0 Q (F0 m 35 ls []) := by
              intro nn
              induction nn with
              | zero => intros; exfalso; omega
              | succ nn ih35 =>
                intro j hj hn2 hm H locs hW ls hl
                refine lv_iload_n hx hb dX3_isMultipleOf_35 rfl (lv_at hl 3 rfl) ?_
                refine lv_bipush (v := nI 48) hx hb dX3_isMultipleOf_36 (by decide) ?_
                refine n_icmp_ge (tgt := 79) hx hb (by omega) (by omega) dX3_isMultipleOf_38 (by decide) (fun h5 => ?_) (fun h5 => ?_)
                · skip
                  refine lv_iconst (v := nI 1) hx hb dX3_isMultipleOf_79 (by decide) ?_
                  exact ret _ _ _ _ _ _ _ _ _ (Nat.le_of_ble_eq_true rfl) (Nat.le_of_ble_eq_true rfl) hW ⟨by rw [show isMul (J q) (J q2) = true by rw [show j = 48 by omega] at hm; unfold isMul; rw [(fnz_of (g := J q2) (n := 48) (i := d) (by omega) hz h3), hm, Bool.and_true]; exact decide_eq_true (by omega)]; rfl, rfl, rfl⟩ (by decide) dX3_isMultipleOf_80
                · skip
                  refine lv_aload_n hx hb dX3_isMultipleOf_41 rfl (lv_at hl 0 rfl) ?_
                  refine g_X3_0 C hinX3 hW hw kw gq lk9 dX3_isMultipleOf_42 ?_
                  refine lv_iload_n hx hb dX3_isMultipleOf_45 rfl (lv_at hl 3 rfl) ?_
                  refine p_lald C hW hq kq (k := j) rfl (by rw [lq]; omega) dX3_isMultipleOf_46 ?_
                  refine lv_aload_n hx hb dX3_isMultipleOf_47 rfl (lv_at hl 1 rfl) ?_
                  refine g_X3_0 C hinX3 hW hw2 kw2 gq2 lk9 dX3_isMultipleOf_48 ?_
                  refine lv_iload_n hx hb dX3_isMultipleOf_51 rfl (lv_at hl 2 rfl) ?_
                  refine p_lald C hW hq2 kq2 (k := d) rfl (by rw [lq2]; omega) dX3_isMultipleOf_52 ?_
                  refine lv_lmul hx hb dX3_isMultipleOf_53 ?_
                  refine lv_aload_n hx hb dX3_isMultipleOf_54 rfl (lv_at hl 1 rfl) ?_
                  refine g_X3_0 C hinX3 hW hw2 kw2 gq2 lk9 dX3_isMultipleOf_55 ?_
                  refine lv_iload_n hx hb dX3_isMultipleOf_58 rfl (lv_at hl 3 rfl) ?_
                  refine p_lald C hW hq2 kq2 (k := j) rfl (by rw [lq2]; omega) dX3_isMultipleOf_59 ?_
                  refine lv_aload_n hx hb dX3_isMultipleOf_60 rfl (lv_at hl 0 rfl) ?_
                  refine g_X3_0 C hinX3 hW hw kw gq lk9 dX3_isMultipleOf_61 ?_
                  refine lv_iload_n hx hb dX3_isMultipleOf_64 rfl (lv_at hl 2 rfl) ?_
                  refine p_lald C hW hq kq (k := d) rfl (by rw [lq]; omega) dX3_isMultipleOf_65 ?_
                  refine lv_lmul hx hb dX3_isMultipleOf_66 ?_
                  refine l_eq (tgt := 73) hx hb dX3_isMultipleOf_67 dX3_isMultipleOf_68 (by decide) (fun h6 => ?_) (fun h6 => ?_)
                  · skip
                    refine lv_iinc (v := nI (j + 1)) (lv' := [(3, .int (nI (j + 1))), (0, .ref (ad w)), (1, .ref (ad w2)), (2, .int (nI d))]) hx hb dX3_isMultipleOf_73 hl (k := 3) rfl (nI_inc _) (by decide) rfl (fun ls hl => ?_)
                    refine lv_goto (tgt := 35) hx hb dX3_isMultipleOf_76 (by decide) ?_
                    exact ih35 (j + 1) (by omega) (by omega) (by rw [mulB, hm]; simp [h6]) _ _ hW ls (lv_sub hl [1, 2, 3, 0] rfl)
                  · skip
                    refine lv_iconst (v := nI 0) hx hb dX3_isMultipleOf_71 (by decide) ?_
                    exact ret _ _ _ _ _ _ _ _ _ (Nat.le_of_ble_eq_true rfl) (Nat.le_of_ble_eq_true rfl) hW ⟨by rw [show isMul (J q) (J q2) = false by unfold isMul; rw [(fnz_of (g := J q2) (n := 48) (i := d) (by omega) hz h3), mulB_false (J q) (J q2) d 48 j (by omega) h6, Bool.and_false]]; rfl, rfl, rfl⟩ (by decide) dX3_isMultipleOf_72
            exact lp35 49 0 (by omega) (by omega) rfl _ _ hW ls (lv_sub hl [1, 2, 3, 0] rfl)
          · skip
            exfalso; omega
        · skip
          refine lv_iinc (v := nI (d + 1)) (lv' := [(2, .int (nI (d + 1))), (0, .ref (ad w)), (1, .ref (ad w2))]) hx hb dX3_isMultipleOf_19 hl (k := 2) rfl (nI_inc _) (by decide) rfl (fun ls hl => ?_)
          refine lv_goto (tgt := 2) hx hb dX3_isMultipleOf_22 (by decide) ?_
          exact ih2 (d + 1) (by omega) (by omega) (fun i hi => by rcases Nat.lt_or_ge i d with h | h; exact hz i h; rw [show i = d by omega]; exact h3) _ _ hW ls (lv_sub hl [1, 2, 0] rfl)
  exact lp2 49 0 (by omega) (by omega) (fun i hi => absurd hi (Nat.not_lt_zero i)) _ _ hW ls (lv_sub hl [1, 2, 0] rfl)
end
section
abbrev rmX3_becomeLike : Room := { frames := 1, cells := 0, slots := 0, locals := 40 }
set_option maxHeartbeats 4000000 in
set_option maxRecDepth 100000 in
theorem c_X3_becomeLike (l : Launch) (D : va_G) (cy : Nat → ClassId) (L : List Nat) (ad : Nat → Nat) (G : mG) (I : mI) (J : mJ) (w q w2 q2 : Nat) (hV : isV L G w q) (hV2 : isV L G w2 q2) : pMet l yX3_becomeLike wsX3_becomeLike rmX3_becomeLike D cy L ad G I J [.ref (ad w), .ref (ad w2)] (qV (fun I' J' => I' = va_up I w (upd (I w) 1 (I w2 1)) ∧ J' = va_up J q (J q2)) D cy L ad G) := by
  refine pMet.ofV (cc := cX3_becomeLike) (maxL := 2) (by decide +kernel) rfl (Nat.le_of_ble_eq_true rfl) ?_
  intro p e R s m args below meth c A Q C hml hR hg ret hW ls hl
  subst hR
  have C : Cx p s m args c cX3_becomeLike RX3 wsX3_becomeLike D cy A := C
  have hx := C.1
  have hb := C.2.1
  have lk9 := C.2.2.2.1 (.fieldLink RX3 9 "WaveWalk$Wave" "numbers" "[J") (by decide +kernel)
  have lk15 := C.2.2.2.1 (.fieldLink RX3 15 "WaveWalk$Wave" "time" "I") (by decide +kernel)
  have hinX3 : ∀ w ∈ wsX30, w ∈ wsX3_becomeLike := by decide +kernel
  have hl : lv_has ls 2 [(0, .ref (ad w)), (1, .ref (ad w2))] := hl
  obtain ⟨hw, kw, gq, hq, kq, lq⟩ := id hV
  obtain ⟨hw2, kw2, gq2, hq2, kq2, lq2⟩ := id hV2
  refine lv_aload_n hx hb dX3_becomeLike_0 rfl (lv_at hl 1 rfl) ?_
  refine g_X3_0 C hinX3 hW hw2 kw2 gq2 lk9 dX3_becomeLike_1 ?_
  refine lv_iconst (v := nI 0) hx hb dX3_becomeLike_4 (by decide) ?_
  refine lv_aload_n hx hb dX3_becomeLike_5 rfl (lv_at hl 0 rfl) ?_
  refine g_X3_0 C hinX3 hW hw kw gq lk9 dX3_becomeLike_6 ?_
  refine lv_iconst (v := nI 0) hx hb dX3_becomeLike_9 (by decide) ?_
  refine lv_bipush (v := nI 48) hx hb dX3_becomeLike_10 (by decide) ?_
  refine p_copy C (hml.trans hl.1.symm) (C.2.2.2.1 (.methodLink RX3 19 arraycopyName) (by decide +kernel)) (C.2.2.2.1 (.native arraycopyName) (by decide +kernel)) (C.2.2.2.1 (.static arraycopyName) (by decide +kernel)) (C.2.2.2.1 (.initialized "java/lang/System") (by decide +kernel)) hW hq kq lq hq2 kq2 lq2 (Nat.le_of_ble_eq_true rfl) (by decide +kernel) dX3_becomeLike_12 (fun H locs hW => ?_)
  refine lv_aload_n hx hb dX3_becomeLike_15 rfl (lv_at hl 0 rfl) ?_
  refine lv_aload_n hx hb dX3_becomeLike_16 rfl (lv_at hl 1 rfl) ?_
  refine g_X3_1 C hinX3 hW hw2 kw2 lk15 dX3_becomeLike_17 ?_
  refine s_X3_1 C hinX3 hW hw kw lk15 dX3_becomeLike_20 (fun H locs hW => ?_)
  obtain ⟨I1, eI1⟩ : ∃ z, z = va_up I w (upd (I w) 1 (I w2 1)) := ⟨_, rfl⟩
  rw [← eI1] at hW
  exact ret _ _ _ _ _ _ _ _ (Nat.le_of_ble_eq_true rfl) (Nat.le_of_ble_eq_true rfl) hW ⟨eI1, rfl⟩ dX3_becomeLike_23
abbrev rmX3_fillAll : Room := { frames := 0, cells := 0, slots := 0, locals := 0 }
set_option maxHeartbeats 4000000 in
set_option maxRecDepth 100000 in
theorem c_X3_fillAll (l : Launch) (D : va_G) (cy : Nat → ClassId) (L : List Nat) (ad : Nat → Nat) (G : mG) (I : mI) (J : mJ) (w q : Nat) (hV : isV L G w q) (n t k : Nat) (hN : isN L G n t k) (pl dr : Nat) (hpl : I n 0 = nI pl) (hdr : I n 1 = nI dr) (hp12 : pl ≤ 12) (hd4 : dr = 2 ∨ dr = 3 ∨ dr = 4) (z : Int32) : pMet l yX3_fillAll wsX3_fillAll rmX3_fillAll D cy L ad G I J [.ref (ad w), .ref (ad n), .int z] (qV (fun I' J' => I' = va_up I w (upd (I w) 1 (nI 0)) ∧ J' = va_up J q (fillF pl dr z.toInt64 (J q))) D cy L ad G) := by
  refine pMet.ofV (cc := cX3_fillAll) (maxL := 5) (by decide +kernel) rfl (Nat.le_of_ble_eq_true rfl) ?_
  intro p e R s m args below meth c A Q C hml hR hg ret hW ls hl
  subst hR
  have C : Cx p s m args c cX3_fillAll RX3 wsX3_fillAll D cy A := C
  have hx := C.1
  have hb := C.2.1
  have lk9 := C.2.2.2.1 (.fieldLink RX3 9 "WaveWalk$Wave" "numbers" "[J") (by decide +kernel)
  have lk15 := C.2.2.2.1 (.fieldLink RX3 15 "WaveWalk$Wave" "time" "I") (by decide +kernel)
  have lk25 := C.2.2.2.1 (.fieldLink RX3 25 "WaveWalk$Net" "places" "I") (by decide +kernel)
  have lk30 := C.2.2.2.1 (.fieldLink RX3 30 "WaveWalk$Net" "doors" "I") (by decide +kernel)
  have hinX1 : ∀ w ∈ wsX10, w ∈ wsX3_fillAll := by decide +kernel
  have hinX3 : ∀ w ∈ wsX30, w ∈ wsX3_fillAll := by decide +kernel
  have hl : lv_has ls 5 [(0, .ref (ad w)), (1, .ref (ad n)), (2, .int z)] := hl
  obtain ⟨hw, kw, gq, hq, kq, lq⟩ := id hV
  obtain ⟨hn, kn, gt, ht, kt, lt, gk, hk, kk, lk⟩ := id hN
  have hW : Wd D cy A s.heap s.heap [] L ad G I (va_up J q (J q)) := by rw [up_same]; exact hW
  refine lv_iconst (v := nI 0) hx hb dX3_fillAll_0 (by decide) ?_
  refine lv_istore_n (lv' := [(3, .int (nI 0)), (0, .ref (ad w)), (1, .ref (ad n)), (2, .int z)]) hx hb dX3_fillAll_1 rfl hl (by decide) rfl (fun ls hl => ?_)
  have lp2 : ∀ (nn : Nat) (a : Nat), (a ≤ pl) → (pl + 1 ≤ a + nn) → ∀ (H : Heap) (locs : List Loc), Wd D cy A s.heap H locs L ad G I (va_up J q (fun k => if (k / 4 < a ∧ k % 4 < dr) ∨ (k / 4 = a ∧ k % 4 < 0) then z.toInt64 else J q k)) → ∀ (ls : Array Slot), lv_has ls 5 [(0, .ref (ad w)), (1, .ref (ad n)), (2, .int z), (3, .int (nI a))] → W p l e rmX3_fillAll s m args below meth c H locs 0 0 Q (F0 m 2 ls []) := by
    intro nn
    induction nn with
    | zero => intros; exfalso; omega
    | succ nn ih2 =>
      intro a ha hf H locs hW ls hl
      refine lv_iload_n hx hb dX3_fillAll_2 rfl (lv_at hl 3 rfl) ?_
      refine lv_aload_n hx hb dX3_fillAll_3 rfl (lv_at hl 1 rfl) ?_
      refine g_X1_0 C hinX1 hW hn kn lk25 dX3_fillAll_4 ?_
      refine w_top (y := .int (nI pl)) (by rw [hpl]) ?_
      refine n_icmp_ge (tgt := 47) hx hb (by omega) (by omega) dX3_fillAll_7 (by decide) (fun h1 => ?_) (fun h1 => ?_)
      · skip
        have hW := Wd_setJ (g := (fillF pl dr z.toInt64 (J q))) hW kq (by rw [lq]; exact (fun k hk => by unfold fillF; by_cases hc : dor pl dr k = true; rw [if_pos hc, if_pos (by rw [dor_iff] at hc; omega)]; rw [if_neg hc, if_neg (by rw [dor_iff] at hc; omega)]))
        refine lv_aload_n hx hb dX3_fillAll_47 rfl (lv_at hl 0 rfl) ?_
        refine lv_iconst (v := nI 0) hx hb dX3_fillAll_48 (by decide) ?_
        refine s_X3_1 C hinX3 hW hw kw lk15 dX3_fillAll_49 (fun H locs hW => ?_)
        obtain ⟨I2, eI2⟩ : ∃ z, z = va_up I w (upd (I w) 1 (nI 0)) := ⟨_, rfl⟩
        rw [← eI2] at hW
        exact ret _ _ _ _ _ _ _ _ (Nat.le_of_ble_eq_true rfl) (Nat.le_of_ble_eq_true rfl) hW ⟨eI2, rfl⟩ dX3_fillAll_52
      · skip
        refine lv_iconst (v := nI 0) hx hb dX3_fillAll_10 (by decide) ?_
        refine lv_istore (lv' := [(4, .int (nI 0)), (0, .ref (ad w)), (1, .ref (ad n)), (2, .int z), (3, .int (nI a))]) hx hb dX3_fillAll_11 hl (by decide) rfl (fun ls hl => ?_)
        have lp13 : ∀ (nn : Nat) (b : Nat), (b ≤ dr) → (dr + 1 ≤ b + nn) → ∀ (H : Heap) (locs : List Loc), Wd D cy A s.heap H locs L ad G I (va_up J q (fun k => if (k / 4 < a ∧ k % 4 < dr) ∨ (k / 4 = a ∧ k % 4 < b) then z.toInt64 else J q k)) → ∀ (ls : Array Slot), lv_has ls 5 [(0, .ref (ad w)), (1, .ref (ad n)), (2, .int z), (3, .int (nI a)), (4, .int (nI b))] → W p l e rmX3_fillAll s m args below meth c H locs 0 0 Q (F0 m 13 ls []) := by
          intro nn
          induction nn with
          | zero => intros; exfalso; omega
          | succ nn ih13 =>
            intro b hb4 hf2 H locs hW ls hl
            refine lv_iload hx hb dX3_fillAll_13 (lv_at hl 4 rfl) ?_
            refine lv_aload_n hx hb dX3_fillAll_15 rfl (lv_at hl 1 rfl) ?_
            refine g_X1_1 C hinX1 hW hn kn lk30 dX3_fillAll_16 ?_
            refine w_top (y := .int (nI dr)) (by rw [hdr]) ?_
            refine n_icmp_ge (tgt := 41) hx hb (by omega) (by omega) dX3_fillAll_19 (by decide) (fun h3 => ?_) (fun h3 => ?_)
            · skip
              refine lv_iinc (v := nI (a + 1)) (lv' := [(3, .int (nI (a + 1))), (0, .ref (ad w)), (1, .ref (ad n)), (2, .int z), (4, .int (nI b))]) hx hb dX3_fillAll_41 hl (k := 3) rfl (nI_inc _) (by decide) rfl (fun ls hl => ?_)
              refine lv_goto (tgt := 2) hx hb dX3_fillAll_44 (by decide) ?_
              have hW := Wd_setJ (g := (fun k => if (k / 4 < a + 1 ∧ k % 4 < dr) ∨ (k / 4 = a + 1 ∧ k % 4 < 0) then z.toInt64 else J q k)) hW kq (by rw [lq]; exact (fun k hk => by by_cases hc : k / 4 < a + 1 ∧ k % 4 < dr; rw [if_pos (by omega), if_pos (by omega)]; rw [if_neg (by omega), if_neg (by omega)]))
              exact ih2 (a + 1) (by omega) (by omega) _ _ hW ls (lv_sub hl [1, 2, 3, 0] rfl)
            · skip
              refine lv_aload_n hx hb dX3_fillAll_22 rfl (lv_at hl 0 rfl) ?_
              refine g_X3_0 C hinX3 hW hw kw gq lk9 dX3_fillAll_23 ?_
              refine lv_iload_n hx hb dX3_fillAll_26 rfl (lv_at hl 3 rfl) ?_
              refine lv_iconst (v := nI 4) hx hb dX3_fillAll_27 (by decide) ?_
              refine n_imul hx hb dX3_fillAll_28 ?_
              refine lv_iload hx hb dX3_fillAll_29 (lv_at hl 4 rfl) ?_
              refine n_iadd hx hb dX3_fillAll_31 ?_
              refine lv_iload_n hx hb dX3_fillAll_32 rfl (lv_at hl 2 rfl) ?_
              refine lv_i2l (v := z.toInt64) hx hb dX3_fillAll_33 rfl ?_
              refine p_last C hW hq kq (k := (a * 4) + b) rfl (by rw [lq]; omega) dX3_fillAll_34 (fun H locs hW => ?_)
              rw [va_up_self, up_up] at hW
              refine lv_iinc (v := nI (b + 1)) (lv' := [(4, .int (nI (b + 1))), (0, .ref (ad w)), (1, .ref (ad n)), (2, .int z), (3, .int (nI a))]) hx hb dX3_fillAll_35 hl (k := 4) rfl (nI_inc _) (by decide) rfl (fun ls hl => ?_)
              refine lv_goto (tgt := 13) hx hb dX3_fillAll_38 (by decide) ?_
              have hW := Wd_setJ (g := (fun k => if (k / 4 < a ∧ k % 4 < dr) ∨ (k / 4 = a ∧ k % 4 < b + 1) then z.toInt64 else J q k)) hW kq (by rw [lq]; exact (fun k hk => by dsimp only [vp_updL]; by_cases hc : k = a * 4 + b; rw [if_pos (by omega), if_pos hc]; rw [if_neg hc]; by_cases hc2 : (k / 4 < a ∧ k % 4 < dr) ∨ (k / 4 = a ∧ k % 4 < b); rw [if_pos (by omega), if_pos hc2]; rw [if_neg (by omega), if_neg hc2]))
              exact ih13 (b + 1) (by omega) (by omega) _ _ hW ls (lv_sub hl [1, 2, 3, 4, 0] rfl)
        exact lp13 (dr + 1) 0 (by omega) (by omega) _ _ hW ls (lv_sub hl [1, 2, 3, 4, 0] rfl)
  have hW := Wd_setJ (g := (fun k => if (k / 4 < 0 ∧ k % 4 < dr) ∨ (k / 4 = 0 ∧ k % 4 < 0) then z.toInt64 else J q k)) hW kq (by rw [lq]; exact (fun k hk => by rw [if_neg (by omega)]))
  exact lp2 (pl + 1) 0 (by omega) (by omega) _ _ hW ls (lv_sub hl [1, 2, 3, 0] rfl)
abbrev rmX3_changeSigns : Room := { frames := 0, cells := 0, slots := 0, locals := 0 }
set_option maxHeartbeats 4000000 in
set_option maxRecDepth 100000 in
theorem c_X3_changeSigns (l : Launch) (D : va_G) (cy : Nat → ClassId) (L : List Nat) (ad : Nat → Nat) (G : mG) (I : mI) (J : mJ) (w q : Nat) (hV : isV L G w q) (n t k : Nat) (hN : isN L G n t k) (pl dr : Nat) (hpl : I n 0 = nI pl) (hdr : I n 1 = nI dr) (hp12 : pl ≤ 12) (hd4 : dr = 2 ∨ dr = 3 ∨ dr = 4) (mk : Nat → Bool) (hmk : ∀ c, c < 12 → I k c = bI (mk c)) : pMet l yX3_changeSigns wsX3_changeSigns rmX3_changeSigns D cy L ad G I J [.ref (ad w), .ref (ad n)] (qV (fun I' J' => I' = I ∧ J' = va_up J q (signF pl dr mk (J q))) D cy L ad G) := by
  refine pMet.ofV (cc := cX3_changeSigns) (maxL := 5) (by decide +kernel) rfl (Nat.le_of_ble_eq_true rfl) ?_
  intro p e R s m args below meth c A Q C hml hR hg ret hW ls hl
  subst hR
  have C : Cx p s m args c cX3_changeSigns RX3 wsX3_changeSigns D cy A := C
  have hx := C.1
  have hb := C.2.1
  have lk9 := C.2.2.2.1 (.fieldLink RX3 9 "WaveWalk$Wave" "numbers" "[J") (by decide +kernel)
  have lk25 := C.2.2.2.1 (.fieldLink RX3 25 "WaveWalk$Net" "places" "I") (by decide +kernel)
  have lk30 := C.2.2.2.1 (.fieldLink RX3 30 "WaveWalk$Net" "doors" "I") (by decide +kernel)
  have lk41 := C.2.2.2.1 (.fieldLink RX3 41 "WaveWalk$Net" "marked" "[Z") (by decide +kernel)
  have hinX1 : ∀ w ∈ wsX10, w ∈ wsX3_changeSigns := by decide +kernel
  have hinX3 : ∀ w ∈ wsX30, w ∈ wsX3_changeSigns := by decide +kernel
  have hl : lv_has ls 5 [(0, .ref (ad w)), (1, .ref (ad n))] := hl
  obtain ⟨hw, kw, gq, hq, kq, lq⟩ := id hV
  obtain ⟨hn, kn, gt, ht, kt, lt, gk, hk, kk, lk⟩ := id hN
  have hW : Wd D cy A s.heap s.heap [] L ad G I (va_up J q (J q)) := by rw [up_same]; exact hW
  refine lv_iconst (v := nI 0) hx hb dX3_changeSigns_0 (by decide) ?_
  refine lv_istore_n (lv' := [(2, .int (nI 0)), (0, .ref (ad w)), (1, .ref (ad n))]) hx hb dX3_changeSigns_1 rfl hl (by decide) rfl (fun ls hl => ?_)
  have lp2 : ∀ (nn : Nat) (a : Nat), (a ≤ pl) → (pl + 1 ≤ a + nn) → ∀ (H : Heap) (locs : List Loc), Wd D cy A s.heap H locs L ad G I (va_up J q (fun k => if ((k / 4 < a ∧ k % 4 < dr) ∨ (k / 4 = a ∧ k % 4 < 0)) ∧ mk (k / 4) = true then -(J q k) else J q k)) → ∀ (ls : Array Slot), lv_has ls 5 [(0, .ref (ad w)), (1, .ref (ad n)), (2, .int (nI a))] → W p l e rmX3_changeSigns s m args below meth c H locs 0 0 Q (F0 m 2 ls []) := by
    intro nn
    induction nn with
    | zero => intros; exfalso; omega
    | succ nn ih2 =>
      intro a ha hf H locs hW ls hl
      refine lv_iload_n hx hb dX3_changeSigns_2 rfl (lv_at hl 2 rfl) ?_
      refine lv_aload_n hx hb dX3_changeSigns_3 rfl (lv_at hl 1 rfl) ?_
      refine g_X1_0 C hinX1 hW hn kn lk25 dX3_changeSigns_4 ?_
      refine w_top (y := .int (nI pl)) (by rw [hpl]) ?_
      refine n_icmp_ge (tgt := 63) hx hb (by omega) (by omega) dX3_changeSigns_7 (by decide) (fun h1 => ?_) (fun h1 => ?_)
      · skip
        have hW := Wd_setJ (g := (signF pl dr mk (J q))) hW kq (by rw [lq]; exact (fun k hk => by unfold signF; by_cases hc : dor pl dr k = true ∧ mk (k / 4) = true; rw [if_pos hc, if_pos ⟨by have := dor_iff.mp hc.1; omega, hc.2⟩]; rw [if_neg hc, if_neg (fun y => hc ⟨dor_iff.mpr (by omega), y.2⟩)]))
        exact ret _ _ _ _ _ _ _ _ (Nat.le_of_ble_eq_true rfl) (Nat.le_of_ble_eq_true rfl) hW ⟨rfl, rfl⟩ dX3_changeSigns_63
      · skip
        refine lv_aload_n hx hb dX3_changeSigns_10 rfl (lv_at hl 1 rfl) ?_
        refine g_X1_5 C hinX1 hW hn kn gk lk41 dX3_changeSigns_11 ?_
        refine lv_iload_n hx hb dX3_changeSigns_14 rfl (lv_at hl 2 rfl) ?_
        refine p_zald C hW hk kk (k := a) rfl (by rw [lk]; omega) dX3_changeSigns_15 ?_
        refine w_top (y := .int (bI (mk a))) (by rw [hmk _ (by omega)]) ?_
        refine b_if_eq (tgt := 57) hx hb dX3_changeSigns_16 (by decide) (fun h2 => ?_) (fun h2 => ?_)
        · skip
          refine lv_iinc (v := nI (a + 1)) (lv' := [(2, .int (nI (a + 1))), (0, .ref (ad w)), (1, .ref (ad n))]) hx hb dX3_changeSigns_57 hl (k := 2) rfl (nI_inc _) (by decide) rfl (fun ls hl => ?_)
          refine lv_goto (tgt := 2) hx hb dX3_changeSigns_60 (by decide) ?_
          have hW := Wd_setJ (g := (fun k => if ((k / 4 < a + 1 ∧ k % 4 < dr) ∨ (k / 4 = a + 1 ∧ k % 4 < 0)) ∧ mk (k / 4) = true then -(J q k) else J q k)) hW kq (by rw [lq]; exact (fun k hk => by by_cases hc : (k / 4 < a ∧ k % 4 < dr) ∧ mk (k / 4) = true; rw [if_pos ⟨Or.inl ⟨by omega, hc.1.2⟩, hc.2⟩, if_pos ⟨Or.inl hc.1, hc.2⟩]; rw [if_neg (fun y => by by_cases e : k / 4 = a; (have := y.2; rw [e, h2] at this; cases this); exact hc ⟨by omega, y.2⟩), if_neg (fun y => hc ⟨by omega, y.2⟩)]))
          exact ih2 (a + 1) (by omega) (by omega) _ _ hW ls (lv_sub hl [1, 2, 0] rfl)
        · skip
          refine lv_iconst (v := nI 0) hx hb dX3_changeSigns_19 (by decide) ?_
          refine lv_istore_n (lv' := [(3, .int (nI 0)), (0, .ref (ad w)), (1, .ref (ad n)), (2, .int (nI a))]) hx hb dX3_changeSigns_20 rfl hl (by decide) rfl (fun ls hl => ?_)
          have lp21 : ∀ (nn : Nat) (b : Nat), (b ≤ dr) → (dr + 1 ≤ b + nn) → ∀ (H : Heap) (locs : List Loc), Wd D cy A s.heap H locs L ad G I (va_up J q (fun k => if ((k / 4 < a ∧ k % 4 < dr) ∨ (k / 4 = a ∧ k % 4 < b)) ∧ mk (k / 4) = true then -(J q k) else J q k)) → ∀ (ls : Array Slot), lv_has ls 5 [(0, .ref (ad w)), (1, .ref (ad n)), (2, .int (nI a)), (3, .int (nI b))] → W p l e rmX3_changeSigns s m args below meth c H locs 0 0 Q (F0 m 21 ls []) := by
            intro nn
            induction nn with
            | zero => intros; exfalso; omega
            | succ nn ih21 =>
              intro b hb4 hf2 H locs hW ls hl
              refine lv_iload_n hx hb dX3_changeSigns_21 rfl (lv_at hl 3 rfl) ?_
              refine lv_aload_n hx hb dX3_changeSigns_22 rfl (lv_at hl 1 rfl) ?_
              refine g_X1_1 C hinX1 hW hn kn lk30 dX3_changeSigns_23 ?_
              refine w_top (y := .int (nI dr)) (by rw [hdr]) ?_
              refine n_icmp_ge (tgt := 57) hx hb (by omega) (by omega) dX3_changeSigns_26 (by decide) (fun h3 => ?_) (fun h3 => ?_)
              · skip
                refine lv_iinc (v := nI (a + 1)) (lv' := [(2, .int (nI (a + 1))), (0, .ref (ad w)), (1, .ref (ad n)), (3, .int (nI b))]) hx hb dX3_changeSigns_57 hl (k := 2) rfl (nI_inc _) (by decide) rfl (fun ls hl => ?_)
                refine lv_goto (tgt := 2) hx hb dX3_changeSigns_60 (by decide) ?_
                have hW := Wd_setJ (g := (fun k => if ((k / 4 < a + 1 ∧ k % 4 < dr) ∨ (k / 4 = a + 1 ∧ k % 4 < 0)) ∧ mk (k / 4) = true then -(J q k) else J q k)) hW kq (by rw [lq]; exact (fun k hk => by by_cases hc : (k / 4 < a + 1 ∧ k % 4 < dr) ∧ mk (k / 4) = true; rw [if_pos ⟨by omega, hc.2⟩, if_pos ⟨by omega, hc.2⟩]; rw [if_neg (fun y => hc ⟨by omega, y.2⟩), if_neg (fun y => hc ⟨by omega, y.2⟩)]))
                exact ih2 (a + 1) (by omega) (by omega) _ _ hW ls (lv_sub hl [1, 2, 0] rfl)
              · skip
                refine lv_iload_n hx hb dX3_changeSigns_29 rfl (lv_at hl 2 rfl) ?_
                refine lv_iconst (v := nI 4) hx hb dX3_changeSigns_30 (by decide) ?_
                refine n_imul hx hb dX3_changeSigns_31 ?_
                refine lv_iload_n hx hb dX3_changeSigns_32 rfl (lv_at hl 3 rfl) ?_
                refine n_iadd hx hb dX3_changeSigns_33 ?_
                refine lv_istore (lv' := [(4, .int (nI ((a * 4) + b))), (0, .ref (ad w)), (1, .ref (ad n)), (2, .int (nI a)), (3, .int (nI b))]) hx hb dX3_changeSigns_34 hl (by decide) rfl (fun ls hl => ?_)
                refine lv_aload_n hx hb dX3_changeSigns_36 rfl (lv_at hl 1 rfl) ?_
                refine g_X3_0 C hinX3 hW hw kw gq lk9 dX3_changeSigns_37 ?_
                refine lv_iload hx hb dX3_changeSigns_40 (lv_at hl 0 rfl) ?_
                refine lv_aload_n hx hb dX3_changeSigns_42 rfl (lv_at hl 1 rfl) ?_
                refine g_X3_0 C hinX3 hW hw kw gq lk9 dX3_changeSigns_43 ?_
                refine lv_iload hx hb dX3_changeSigns_46 (lv_at hl 0 rfl) ?_
                refine p_lald C hW hq kq (k := (a * 4) + b) rfl (by rw [lq]; omega) dX3_changeSigns_48 ?_
                refine w_top (y := .long ((fun k => if ((k / 4 < a ∧ k % 4 < dr) ∨ (k / 4 = a ∧ k % 4 < b)) ∧ mk (k / 4) = true then -(J q k) else J q k) ((a * 4) + b))) (by rw [va_up_self]) ?_
                refine lv_lneg hx hb dX3_changeSigns_49 ?_
                refine p_last C hW hq kq (k := (a * 4) + b) rfl (by rw [lq]; omega) dX3_changeSigns_50 (fun H locs hW => ?_)
                rw [va_up_self, up_up] at hW
                refine lv_iinc (v := nI (b + 1)) (lv' := [(3, .int (nI (b + 1))), (4, .int (nI ((a * 4) + b))), (0, .ref (ad w)), (1, .ref (ad n)), (2, .int (nI a))]) hx hb dX3_changeSigns_51 hl (k := 4) rfl (nI_inc _) (by decide) rfl (fun ls hl => ?_)
                refine lv_goto (tgt := 21) hx hb dX3_changeSigns_54 (by decide) ?_
                have hW := Wd_setJ (g := (fun k => if ((k / 4 < a ∧ k % 4 < dr) ∨ (k / 4 = a ∧ k % 4 < b + 1)) ∧ mk (k / 4) = true then -(J q k) else J q k)) hW kq (by rw [lq]; exact (fun k hk => by dsimp only [vp_updL]; by_cases hc : k = a * 4 + b; (rw [if_pos ⟨by omega, by rw [show k / 4 = a by omega]; exact h2⟩, if_pos hc, if_neg (by omega), hc]); rw [if_neg hc]; by_cases hc2 : ((k / 4 < a ∧ k % 4 < dr) ∨ (k / 4 = a ∧ k % 4 < b)) ∧ mk (k / 4) = true; rw [if_pos ⟨by omega, hc2.2⟩, if_pos hc2]; rw [if_neg (fun y => hc2 ⟨by omega, y.2⟩), if_neg hc2]))
                exact ih21 (b + 1) (by omega) (by omega) _ _ hW ls (lv_sub hl [2, 3, 4, 0] rfl)
          exact lp21 (dr + 1) 0 (by omega) (by omega) _ _ hW ls (lv_sub hl [1, 2, 3, 0] rfl)
  have hW := Wd_setJ (g := (fun k => if ((k / 4 < 0 ∧ k % 4 < dr) ∨ (k / 4 = 0 ∧ k % 4 < 0)) ∧ mk (k / 4) = true then -(J q k) else J q k)) hW kq (by rw [lq]; exact (fun k hk => by rw [if_neg (by omega)]))
  exact lp2 (pl + 1) 0 (by omega) (by omega) _ _ hW ls (lv_sub hl [1, 2, 0] rfl)
end
section
theorem tv_3 {dr a b : Nat} {f : Nat → Int64} (hb : b < dr) (h3 : dr = 3) : tv dr f (a * 4 + b) = 2 * sumN f (a * 4) dr - 3 * f (a * 4 + b) := by
  subst h3
  show 2 * sumN f ((a * 4 + b) / 4 * 4) 3 - 3 * f (a * 4 + b) = _
  rw [show (a * 4 + b) / 4 * 4 = a * 4 by omega]
theorem tv_4 {dr a b : Nat} {f : Nat → Int64} (hb : b < dr) (h4 : dr = 4) : tv dr f (a * 4 + b) = sumN f (a * 4) dr - 2 * f (a * 4 + b) := by
  subst h4
  show sumN f ((a * 4 + b) / 4 * 4) 4 - 2 * f (a * 4 + b) = _
  rw [show (a * 4 + b) / 4 * 4 = a * 4 by omega]
theorem turn1_two {dr a : Nat} (h2 : dr = 2) (ha : a < 12) (f : Nat → Int64) (k : Nat) : turn1 a dr f k = vp_updL (vp_updL f (a * 4) (f (a * 4) + f (a * 4 + 1))) (a * 4 + 1) (f (a * 4) - f (a * 4 + 1)) k := by
  subst h2
  dsimp only [vp_updL, turn1]
  by_cases h1 : k = a * 4 + 1
  · rw [if_pos (by omega), if_pos h1]
    show (if k % 4 = 0 then f k + f (k + 1) else f (k - 1) - f k) = _
    rw [if_neg (by omega), h1]
    rfl
  · rw [if_neg h1]
    by_cases h0 : k = a * 4
    · rw [if_pos (by omega), if_pos h0]
      show (if k % 4 = 0 then f k + f (k + 1) else f (k - 1) - f k) = _
      rw [if_pos (by omega), h0]
    · rw [if_neg h0, if_neg (by omega)]
theorem go_skip {pl dr c k : Nat} {to : Nat → Nat} {f : Nat → Int64} (hp : pairs pl dr to) (hc : c < 48) (h : to c ≤ c) (hk : k < 48) : (if k < c + 1 ∨ to k < c + 1 then f (to k) else f k) = (if k < c ∨ to k < c then f (to k) else f k) := by
  obtain ⟨p1, p2, -⟩ := hp c hc
  obtain ⟨q1, q2, -⟩ := hp k hk
  by_cases h1 : k < c ∨ to k < c
  · rw [if_pos h1, if_pos (by omega)]
  · rw [if_neg h1]
    by_cases h2 : k = c
    · rw [if_pos (by omega)]
      have : to k = k := by subst h2; omega
      rw [this]
    · by_cases h3 : to k = c
      · have : k = to c := by rw [← h3, q2]
        omega
      · rw [if_neg (by omega)]
theorem go_swap {pl dr c k : Nat} {to : Nat → Nat} {f : Nat → Int64} (hp : pairs pl dr to) (hc : c < 48) (h : c < to c) (hk : k < 48) : (if k < c + 1 ∨ to k < c + 1 then f (to k) else f k) = vp_updL (vp_updL (fun k => if k < c ∨ to k < c then f (to k) else f k) c ((fun k => if k < c ∨ to k < c then f (to k) else f k) (to c))) (to c) ((fun k => if k < c ∨ to k < c then f (to k) else f k) c) k := by
  obtain ⟨p1, p2, -⟩ := hp c hc
  obtain ⟨q1, q2, -⟩ := hp k hk
  dsimp only [vp_updL]
  by_cases h1 : k = to c
  · rw [if_pos h1, if_neg (show ¬ (c < c ∨ to c < c) by omega)]
    have e : to k = c := by rw [h1, p2]
    rw [if_pos (by omega), e]
  · rw [if_neg h1]
    by_cases h2 : k = c
    · subst h2
      rw [if_pos rfl, if_neg (show ¬ (to k < k ∨ to (to k) < k) by omega), if_pos (by omega)]
    · rw [if_neg h2]
      have h3 : to k ≠ c := fun z => h1 (by rw [← z, q2])
      by_cases h4 : k < c ∨ to k < c
      · rw [if_pos h4, if_pos (by omega)]
      · rw [if_neg h4, if_neg (by omega)]
theorem go_end {pl dr c k : Nat} {to : Nat → Nat} {f : Nat → Int64} (hp : pairs pl dr to) (h12 : pl ≤ 12) (h : pl * 4 ≤ c) (hk : k < 48) : goF to f k = (if k < c ∨ to k < c then f (to k) else f k) := by
  obtain ⟨q1, q2, -, q4⟩ := hp k hk
  unfold goF
  by_cases h1 : k < c ∨ to k < c
  · rw [if_pos h1]
  · rw [if_neg h1, q4 (by unfold dor; exact decide_eq_false (by omega))]
abbrev rmX3_turnAt : Room := { frames := 0, cells := 0, slots := 0, locals := 0 }
set_option maxHeartbeats 4000000 in
set_option maxRecDepth 100000 in
theorem c_X3_turnAt (l : Launch) (D : va_G) (cy : Nat → ClassId) (L : List Nat) (ad : Nat → Nat) (G : mG) (I : mI) (J : mJ) (w q : Nat) (hV : isV L G w q) (a dr : Nat) (ha : a < 12) (hd4 : dr = 2 ∨ dr = 3 ∨ dr = 4) : pMet l yX3_turnAt wsX3_turnAt rmX3_turnAt D cy L ad G I J [.ref (ad w), .int (nI a), .int (nI dr)] (qV (fun I' J' => I' = I ∧ J' = va_up J q (turn1 a dr (J q))) D cy L ad G) := by
  refine pMet.ofV (cc := cX3_turnAt) (maxL := 8) (by decide +kernel) rfl (Nat.le_of_ble_eq_true rfl) ?_
  intro p e R s m args below meth c A Q C hml hR hg ret hW ls hl
  subst hR
  have C : Cx p s m args c cX3_turnAt RX3 wsX3_turnAt D cy A := C
  have hx := C.1
  have hb := C.2.1
  have lk9 := C.2.2.2.1 (.fieldLink RX3 9 "WaveWalk$Wave" "numbers" "[J") (by decide +kernel)
  have hinX3 : ∀ w ∈ wsX30, w ∈ wsX3_turnAt := by decide +kernel
  have ck70 := C.2.2.2.1 (.constantLong RX3 70 (2)) (by decide +kernel)
  have ck72 := C.2.2.2.1 (.constantLong RX3 72 (3)) (by decide +kernel)
  have hl : lv_has ls 8 [(0, .ref (ad w)), (1, .int (nI a)), (2, .int (nI dr))] := hl
  obtain ⟨hw, kw, gq, hq, kq, lq⟩ := id hV
  have hW : Wd D cy A s.heap s.heap [] L ad G I (va_up J q (J q)) := by rw [up_same]; exact hW
  refine lv_iload_n hx hb dX3_turnAt_0 rfl (lv_at hl 1 rfl) ?_
  refine lv_iconst (v := nI 4) hx hb dX3_turnAt_1 (by decide) ?_
  refine n_imul hx hb dX3_turnAt_2 ?_
  refine lv_istore_n (lv' := [(3, .int (nI (a * 4))), (0, .ref (ad w)), (1, .int (nI a)), (2, .int (nI dr))]) hx hb dX3_turnAt_3 rfl hl (by decide) rfl (fun ls hl => ?_)
  refine lv_iload_n hx hb dX3_turnAt_4 rfl (lv_at hl 3 rfl) ?_
  refine lv_iconst (v := nI 2) hx hb dX3_turnAt_5 (by decide) ?_
  refine n_icmp_ne (tgt := 52) hx hb (by omega) (by omega) dX3_turnAt_6 (by decide) (fun h1 => ?_) (fun h1 => ?_)
  · skip
    refine lv_lconst (v := 0) hx hb dX3_turnAt_52 (by decide) ?_
    refine lv_lstore (lv' := [(4, .long 0), (3, .int (nI (a * 4))), (0, .ref (ad w)), (1, .int (nI a)), (2, .int (nI dr))]) hx hb dX3_turnAt_53 hl (by decide) rfl (fun ls hl => ?_)
    refine lv_iload_n hx hb dX3_turnAt_55 rfl (lv_at hl 1 rfl) ?_
    refine lv_istore (lv' := [(6, .int (nI (a * 4))), (4, .long 0), (3, .int (nI (a * 4))), (0, .ref (ad w)), (1, .int (nI a)), (2, .int (nI dr))]) hx hb dX3_turnAt_56 hl (by decide) rfl (fun ls hl => ?_)
    have lp58 : ∀ (nn : Nat) (d : Nat), (d ≤ dr) → (dr + 1 ≤ d + nn) → ∀ (H : Heap) (locs : List Loc), Wd D cy A s.heap H locs L ad G I (va_up J q (J q)) → ∀ (ls : Array Slot), lv_has ls 8 [(0, .ref (ad w)), (1, .int (nI a)), (2, .int (nI dr)), (3, .int (nI (a * 4))), (4, .long (sumN (J q) (a * 4) d)), (6, .int (nI (a * 4 + d)))] → W p l e rmX3_turnAt s m args below meth c H locs 0 0 Q (F0 m 58 ls []) := by
      intro nn
      induction nn with
      | zero => intros; exfalso; omega
      | succ nn ih58 =>
        intro d hd hf H locs hW ls hl
        refine lv_iload hx hb dX3_turnAt_58 (lv_at hl 5 rfl) ?_
        refine lv_iload_n hx hb dX3_turnAt_60 rfl (lv_at hl 3 rfl) ?_
        refine lv_iload_n hx hb dX3_turnAt_61 rfl (lv_at hl 2 rfl) ?_
        refine n_iadd hx hb dX3_turnAt_62 ?_
        refine n_icmp_ge (tgt := 84) hx hb (by omega) (by omega) dX3_turnAt_63 (by decide) (fun h2 => ?_) (fun h2 => ?_)
        · skip
          have hdd : d = dr := by omega
          rw [hdd] at hl
          refine lv_iload_n hx hb dX3_turnAt_84 rfl (lv_at hl 3 rfl) ?_
          refine lv_istore (lv' := [(6, .int (nI (a * 4))), (0, .ref (ad w)), (1, .int (nI a)), (2, .int (nI dr)), (3, .int (nI (a * 4))), (4, .long (sumN (J q) (a * 4) dr))]) hx hb dX3_turnAt_85 hl (by decide) rfl (fun ls hl => ?_)
          have lp87 : ∀ (nn : Nat) (b : Nat), (b ≤ dr) → (dr + 1 ≤ b + nn) → ∀ (H : Heap) (locs : List Loc), Wd D cy A s.heap H locs L ad G I (va_up J q (fun k => if k / 4 = a ∧ k % 4 < b then tv dr (J q) k else J q k)) → ∀ (ls : Array Slot), lv_has ls 8 [(0, .ref (ad w)), (1, .int (nI a)), (2, .int (nI dr)), (3, .int (nI (a * 4))), (4, .long (sumN (J q) (a * 4) dr)), (6, .int (nI (a * 4 + b)))] → W p l e rmX3_turnAt s m args below meth c H locs 0 0 Q (F0 m 87 ls []) := by
            intro nn
            induction nn with
            | zero => intros; exfalso; omega
            | succ nn ih87 =>
              intro b hb4 hf2 H locs hW ls hl
              refine lv_iload hx hb dX3_turnAt_87 (lv_at hl 5 rfl) ?_
              refine lv_iload_n hx hb dX3_turnAt_89 rfl (lv_at hl 3 rfl) ?_
              refine lv_iload_n hx hb dX3_turnAt_90 rfl (lv_at hl 2 rfl) ?_
              refine n_iadd hx hb dX3_turnAt_91 ?_
              refine n_icmp_ge (tgt := 148) hx hb (by omega) (by omega) dX3_turnAt_92 (by decide) (fun h3 => ?_) (fun h3 => ?_)
              · skip
                have hW := Wd_setJ (g := (turn1 a dr (J q))) hW kq (by rw [lq]; exact (fun k hk => by unfold turn1; rw [show b = dr by omega]))
                exact ret _ _ _ _ _ _ _ _ (Nat.le_of_ble_eq_true rfl) (Nat.le_of_ble_eq_true rfl) hW ⟨rfl, rfl⟩ dX3_turnAt_148
              · skip
                refine lv_aload_n hx hb dX3_turnAt_95 rfl (lv_at hl 0 rfl) ?_
                refine g_X3_0 C hinX3 hW hw kw gq lk9 dX3_turnAt_96 ?_
                refine lv_iload hx hb dX3_turnAt_99 (lv_at hl 5 rfl) ?_
                refine lv_iload_n hx hb dX3_turnAt_101 rfl (lv_at hl 2 rfl) ?_
                refine lv_iconst (v := nI 3) hx hb dX3_turnAt_102 (by decide) ?_
                refine n_icmp_ne (tgt := 127) hx hb (by omega) (by omega) dX3_turnAt_103 (by decide) (fun h4 => ?_) (fun h4 => ?_)
                · skip
                  refine lv_lload hx hb dX3_turnAt_127 (lv_at hl 4 rfl) ?_
                  refine lv_ldc2 hx hb C.2.2.1 ck70 dX3_turnAt_129 ?_
                  refine lv_aload_n hx hb dX3_turnAt_132 rfl (lv_at hl 0 rfl) ?_
                  refine g_X3_0 C hinX3 hW hw kw gq lk9 dX3_turnAt_133 ?_
                  refine lv_iload hx hb dX3_turnAt_136 (lv_at hl 5 rfl) ?_
                  refine p_lald C hW hq kq (k := a * 4 + b) rfl (by rw [lq]; omega) dX3_turnAt_138 ?_
                  refine w_top (y := .long ((fun k => if k / 4 = a ∧ k % 4 < b then tv dr (J q) k else J q k) (a * 4 + b))) (by rw [va_up_self]) ?_
                  refine lv_lmul hx hb dX3_turnAt_139 ?_
                  refine lv_lsub hx hb dX3_turnAt_140 ?_
                  refine p_last C hW hq kq (k := a * 4 + b) rfl (by rw [lq]; omega) dX3_turnAt_141 (fun H locs hW => ?_)
                  rw [va_up_self, up_up] at hW
                  refine lv_iinc (v := nI ((a * 4 + b) + 1)) (lv' := [(6, .int (nI ((a * 4 + b) + 1))), (0, .ref (ad w)), (1, .int (nI a)), (2, .int (nI dr)), (3, .int (nI (a * 4))), (4, .long (sumN (J q) (a * 4) dr))]) hx hb dX3_turnAt_142 hl (k := 5) rfl (nI_inc _) (by decide) rfl (fun ls hl => ?_)
                  refine lv_goto (tgt := 87) hx hb dX3_turnAt_145 (by decide) ?_
                  have hW := Wd_setJ (g := (fun k => if k / 4 = a ∧ k % 4 < b + 1 then tv dr (J q) k else J q k)) hW kq (by rw [lq]; exact (fun k hk => by dsimp only [vp_updL]; by_cases hc : k = a * 4 + b; (rw [if_pos (by omega), if_pos hc, if_neg (by omega), hc, tv_4 (by omega) (by omega)]); rw [if_neg hc]; by_cases hc2 : k / 4 = a ∧ k % 4 < b; rw [if_pos (by omega), if_pos hc2]; rw [if_neg (by omega), if_neg hc2]))
                  exact ih87 (b + 1) (by omega) (by omega) _ _ hW ls (lv_sub hl [1, 2, 3, 4, 5, 0] rfl)
                · skip
                  refine lv_ldc2 hx hb C.2.2.1 ck70 dX3_turnAt_106 ?_
                  refine lv_lload hx hb dX3_turnAt_109 (lv_at hl 4 rfl) ?_
                  refine lv_lmul hx hb dX3_turnAt_111 ?_
                  refine lv_ldc2 hx hb C.2.2.1 ck72 dX3_turnAt_112 ?_
                  refine lv_aload_n hx hb dX3_turnAt_115 rfl (lv_at hl 0 rfl) ?_
                  refine g_X3_0 C hinX3 hW hw kw gq lk9 dX3_turnAt_116 ?_
                  refine lv_iload hx hb dX3_turnAt_119 (lv_at hl 5 rfl) ?_
                  refine p_lald C hW hq kq (k := a * 4 + b) rfl (by rw [lq]; omega) dX3_turnAt_121 ?_
                  refine w_top (y := .long ((fun k => if k / 4 = a ∧ k % 4 < b then tv dr (J q) k else J q k) (a * 4 + b))) (by rw [va_up_self]) ?_
                  refine lv_lmul hx hb dX3_turnAt_122 ?_
                  refine lv_lsub hx hb dX3_turnAt_123 ?_
                  refine lv_goto (tgt := 141) hx hb dX3_turnAt_124 (by decide) ?_
                  refine p_last C hW hq kq (k := a * 4 + b) rfl (by rw [lq]; omega) dX3_turnAt_141 (fun H locs hW => ?_)
                  rw [va_up_self, up_up] at hW
                  refine lv_iinc (v := nI ((a * 4 + b) + 1)) (lv' := [(6, .int (nI ((a * 4 + b) + 1))), (0, .ref (ad w)), (1, .int (nI a)), (2, .int (nI dr)), (3, .int (nI (a * 4))), (4, .long (sumN (J q) (a * 4) dr))]) hx hb dX3_turnAt_142 hl (k := 5) rfl (nI_inc _) (by decide) rfl (fun ls hl => ?_)
                  refine lv_goto (tgt := 87) hx hb dX3_turnAt_145 (by decide) ?_
                  have hW := Wd_setJ (g := (fun k => if k / 4 = a ∧ k % 4 < b + 1 then tv dr (J q) k else J q k)) hW kq (by rw [lq]; exact (fun k hk => by dsimp only [vp_updL]; by_cases hc : k = a * 4 + b; (rw [if_pos (by omega), if_pos hc, if_neg (by omega), hc, tv_3 (by omega) (by omega)]); rw [if_neg hc]; by_cases hc2 : k / 4 = a ∧ k % 4 < b; rw [if_pos (by omega), if_pos hc2]; rw [if_neg (by omega), if_neg hc2]))
                  exact ih87 (b + 1) (by omega) (by omega) _ _ hW ls (lv_sub hl [1, 2, 3, 4, 5, 0] rfl)
          have hW := Wd_setJ (g := (fun k => if k / 4 = a ∧ k % 4 < 0 then tv dr (J q) k else J q k)) hW kq (by rw [lq]; exact (fun k hk => by rw [if_neg (by omega)]))
          exact lp87 (dr + 1) 0 (by omega) (by omega) _ _ hW ls (lv_sub hl [1, 2, 3, 4, 5, 0] rfl)
        · skip
          refine lv_lload hx hb dX3_turnAt_66 (lv_at hl 4 rfl) ?_
          refine lv_aload_n hx hb dX3_turnAt_68 rfl (lv_at hl 0 rfl) ?_
          refine g_X3_0 C hinX3 hW hw kw gq lk9 dX3_turnAt_69 ?_
          refine lv_iload hx hb dX3_turnAt_72 (lv_at hl 5 rfl) ?_
          refine p_lald C hW hq kq (k := a * 4 + d) rfl (by rw [lq]; omega) dX3_turnAt_74 ?_
          refine w_top (y := .long ((J q) (a * 4 + d))) (by rw [va_up_self]) ?_
          refine lv_ladd hx hb dX3_turnAt_75 ?_
          refine lv_lstore (lv' := [(4, .long ((sumN (J q) (a * 4) d) + ((J q) (a * 4 + d)))), (0, .ref (ad w)), (1, .int (nI a)), (2, .int (nI dr)), (3, .int (nI (a * 4))), (6, .int (nI (a * 4 + d)))]) hx hb dX3_turnAt_76 hl (by decide) rfl (fun ls hl => ?_)
          refine lv_iinc (v := nI ((a * 4 + d) + 1)) (lv' := [(6, .int (nI ((a * 4 + d) + 1))), (4, .long ((sumN (J q) (a * 4) d) + ((J q) (a * 4 + d)))), (0, .ref (ad w)), (1, .int (nI a)), (2, .int (nI dr)), (3, .int (nI (a * 4)))]) hx hb dX3_turnAt_78 hl (k := 5) rfl (nI_inc _) (by decide) rfl (fun ls hl => ?_)
          refine lv_goto (tgt := 58) hx hb dX3_turnAt_81 (by decide) ?_
          exact ih58 (d + 1) (by omega) (by omega) _ _ hW ls (lv_sub hl [2, 3, 4, 5, 1, 0] rfl)
    exact lp58 (dr + 1) 0 (by omega) (by omega) _ _ hW ls (lv_sub hl [3, 4, 5, 2, 1, 0] rfl)
  · skip
    refine lv_aload_n hx hb dX3_turnAt_9 rfl (lv_at hl 1 rfl) ?_
    refine g_X3_0 C hinX3 hW hw kw gq lk9 dX3_turnAt_10 ?_
    refine lv_iload_n hx hb dX3_turnAt_13 rfl (lv_at hl 0 rfl) ?_
    refine p_lald C hW hq kq (k := a * 4) rfl (by rw [lq]; omega) dX3_turnAt_14 ?_
    refine w_top (y := .long ((J q) (a * 4))) (by rw [va_up_self]) ?_
    refine lv_lstore (lv' := [(4, .long ((J q) (a * 4))), (3, .int (nI (a * 4))), (0, .ref (ad w)), (1, .int (nI a)), (2, .int (nI dr))]) hx hb dX3_turnAt_15 hl (by decide) rfl (fun ls hl => ?_)
    refine lv_aload_n hx hb dX3_turnAt_17 rfl (lv_at hl 2 rfl) ?_
    refine g_X3_0 C hinX3 hW hw kw gq lk9 dX3_turnAt_18 ?_
    refine lv_iload_n hx hb dX3_turnAt_21 rfl (lv_at hl 1 rfl) ?_
    refine lv_iconst (v := nI 1) hx hb dX3_turnAt_22 (by decide) ?_
    refine n_iadd hx hb dX3_turnAt_23 ?_
    refine p_lald C hW hq kq (k := (a * 4) + 1) rfl (by rw [lq]; omega) dX3_turnAt_24 ?_
    refine w_top (y := .long ((J q) ((a * 4) + 1))) (by rw [va_up_self]) ?_
    refine lv_lstore (lv' := [(6, .long ((J q) ((a * 4) + 1))), (4, .long ((J q) (a * 4))), (3, .int (nI (a * 4))), (0, .ref (ad w)), (1, .int (nI a)), (2, .int (nI dr))]) hx hb dX3_turnAt_25 hl (by decide) rfl (fun ls hl => ?_)
    refine lv_aload_n hx hb dX3_turnAt_27 rfl (lv_at hl 3 rfl) ?_
    refine g_X3_0 C hinX3 hW hw kw gq lk9 dX3_turnAt_28 ?_
    refine lv_iload_n hx hb dX3_turnAt_31 rfl (lv_at hl 2 rfl) ?_
    refine lv_lload hx hb dX3_turnAt_32 (lv_at hl 1 rfl) ?_
    refine lv_lload hx hb dX3_turnAt_34 (lv_at hl 0 rfl) ?_
    refine lv_ladd hx hb dX3_turnAt_36 ?_
    refine p_last C hW hq kq (k := a * 4) rfl (by rw [lq]; omega) dX3_turnAt_37 (fun H locs hW => ?_)
    rw [va_up_self, up_up] at hW
    refine lv_aload_n hx hb dX3_turnAt_38 rfl (lv_at hl 3 rfl) ?_
    refine g_X3_0 C hinX3 hW hw kw gq lk9 dX3_turnAt_39 ?_
    refine lv_iload_n hx hb dX3_turnAt_42 rfl (lv_at hl 2 rfl) ?_
    refine lv_iconst (v := nI 1) hx hb dX3_turnAt_43 (by decide) ?_
    refine n_iadd hx hb dX3_turnAt_44 ?_
    refine lv_lload hx hb dX3_turnAt_45 (lv_at hl 1 rfl) ?_
    refine lv_lload hx hb dX3_turnAt_47 (lv_at hl 0 rfl) ?_
    refine lv_lsub hx hb dX3_turnAt_49 ?_
    refine p_last C hW hq kq (k := (a * 4) + 1) rfl (by rw [lq]; omega) dX3_turnAt_50 (fun H locs hW => ?_)
    rw [va_up_self, up_up] at hW
    have hW := Wd_setJ (g := (turn1 a dr (J q))) hW kq (by rw [lq]; exact (fun k hk => turn1_two (by omega) ha (J q) k))
    exact ret _ _ _ _ _ _ _ _ (Nat.le_of_ble_eq_true rfl) (Nat.le_of_ble_eq_true rfl) hW ⟨rfl, rfl⟩ dX3_turnAt_51
abbrev rmX3_lessenAt : Room := { frames := 0, cells := 0, slots := 0, locals := 0 }
set_option maxHeartbeats 4000000 in
set_option maxRecDepth 100000 in
theorem c_X3_lessenAt (l : Launch) (D : va_G) (cy : Nat → ClassId) (L : List Nat) (ad : Nat → Nat) (G : mG) (I : mI) (J : mJ) (w q : Nat) (hV : isV L G w q) (a dr : Nat) (ha : a < 12) (hd4 : dr = 2 ∨ dr = 3 ∨ dr = 4) : pMet l yX3_lessenAt wsX3_lessenAt rmX3_lessenAt D cy L ad G I J [.ref (ad w), .int (nI a), .int (nI dr)] (qV (fun I' J' => I' = I ∧ J' = va_up J q (less1 a dr (J q))) D cy L ad G) := by
  refine pMet.ofV (cc := cX3_lessenAt) (maxL := 5) (by decide +kernel) rfl (Nat.le_of_ble_eq_true rfl) ?_
  intro p e R s m args below meth c A Q C hml hR hg ret hW ls hl
  subst hR
  have C : Cx p s m args c cX3_lessenAt RX3 wsX3_lessenAt D cy A := C
  have hx := C.1
  have hb := C.2.1
  have lk9 := C.2.2.2.1 (.fieldLink RX3 9 "WaveWalk$Wave" "numbers" "[J") (by decide +kernel)
  have hinX3 : ∀ w ∈ wsX30, w ∈ wsX3_lessenAt := by decide +kernel
  have ck70 := C.2.2.2.1 (.constantLong RX3 70 (2)) (by decide +kernel)
  have ck74 := C.2.2.2.1 (.constantLong RX3 74 (9)) (by decide +kernel)
  have ck76 := C.2.2.2.1 (.constantLong RX3 76 (4)) (by decide +kernel)
  have hl : lv_has ls 5 [(0, .ref (ad w)), (1, .int (nI a)), (2, .int (nI dr))] := hl
  obtain ⟨hw, kw, gq, hq, kq, lq⟩ := id hV
  have hW : Wd D cy A s.heap s.heap [] L ad G I (va_up J q (J q)) := by rw [up_same]; exact hW
  refine lv_iload_n hx hb dX3_lessenAt_0 rfl (lv_at hl 1 rfl) ?_
  refine lv_iconst (v := nI 4) hx hb dX3_lessenAt_1 (by decide) ?_
  refine n_imul hx hb dX3_lessenAt_2 ?_
  refine lv_istore_n (lv' := [(3, .int (nI (a * 4))), (0, .ref (ad w)), (1, .int (nI a)), (2, .int (nI dr))]) hx hb dX3_lessenAt_3 rfl hl (by decide) rfl (fun ls hl => ?_)
  refine lv_iload_n hx hb dX3_lessenAt_4 rfl (lv_at hl 0 rfl) ?_
  refine lv_istore (lv' := [(4, .int (nI (a * 4))), (3, .int (nI (a * 4))), (0, .ref (ad w)), (1, .int (nI a)), (2, .int (nI dr))]) hx hb dX3_lessenAt_5 hl (by decide) rfl (fun ls hl => ?_)
  have lp7 : ∀ (nn : Nat) (b : Nat), (b ≤ dr) → (dr + 1 ≤ b + nn) → ∀ (H : Heap) (locs : List Loc), Wd D cy A s.heap H locs L ad G I (va_up J q (fun k => if k / 4 = a ∧ k % 4 < b then J q k / scOf dr else J q k)) → ∀ (ls : Array Slot), lv_has ls 5 [(0, .ref (ad w)), (1, .int (nI a)), (2, .int (nI dr)), (3, .int (nI (a * 4))), (4, .int (nI (a * 4 + b)))] → W p l e rmX3_lessenAt s m args below meth c H locs 0 0 Q (F0 m 7 ls []) := by
    intro nn
    induction nn with
    | zero => intros; exfalso; omega
    | succ nn ih7 =>
      intro b hb4 hf2 H locs hW ls hl
      refine lv_iload hx hb dX3_lessenAt_7 (lv_at hl 4 rfl) ?_
      refine lv_iload_n hx hb dX3_lessenAt_9 rfl (lv_at hl 3 rfl) ?_
      refine lv_iload_n hx hb dX3_lessenAt_10 rfl (lv_at hl 2 rfl) ?_
      refine n_iadd hx hb dX3_lessenAt_11 ?_
      refine n_icmp_ge (tgt := 77) hx hb (by omega) (by omega) dX3_lessenAt_12 (by decide) (fun h1 => ?_) (fun h1 => ?_)
      · skip
        have hW := Wd_setJ (g := (less1 a dr (J q))) hW kq (by rw [lq]; exact (fun k hk => by unfold less1; rw [show b = dr by omega]))
        exact ret _ _ _ _ _ _ _ _ (Nat.le_of_ble_eq_true rfl) (Nat.le_of_ble_eq_true rfl) hW ⟨rfl, rfl⟩ dX3_lessenAt_77
      · skip
        refine lv_aload_n hx hb dX3_lessenAt_15 rfl (lv_at hl 0 rfl) ?_
        refine g_X3_0 C hinX3 hW hw kw gq lk9 dX3_lessenAt_16 ?_
        refine lv_iload hx hb dX3_lessenAt_19 (lv_at hl 4 rfl) ?_
        refine lv_iload_n hx hb dX3_lessenAt_21 rfl (lv_at hl 2 rfl) ?_
        refine lv_iconst (v := nI 2) hx hb dX3_lessenAt_22 (by decide) ?_
        refine n_icmp_ne (tgt := 40) hx hb (by omega) (by omega) dX3_lessenAt_23 (by decide) (fun h2 => ?_) (fun h2 => ?_)
        · skip
          refine lv_iload_n hx hb dX3_lessenAt_40 rfl (lv_at hl 2 rfl) ?_
          refine lv_iconst (v := nI 3) hx hb dX3_lessenAt_41 (by decide) ?_
          refine n_icmp_ne (tgt := 59) hx hb (by omega) (by omega) dX3_lessenAt_42 (by decide) (fun h3 => ?_) (fun h3 => ?_)
          · skip
            refine lv_aload_n hx hb dX3_lessenAt_59 rfl (lv_at hl 0 rfl) ?_
            refine g_X3_0 C hinX3 hW hw kw gq lk9 dX3_lessenAt_60 ?_
            refine lv_iload hx hb dX3_lessenAt_63 (lv_at hl 4 rfl) ?_
            refine p_lald C hW hq kq (k := a * 4 + b) rfl (by rw [lq]; omega) dX3_lessenAt_65 ?_
            refine w_top (y := .long ((fun k => if k / 4 = a ∧ k % 4 < b then J q k / scOf dr else J q k) (a * 4 + b))) (by rw [va_up_self]) ?_
            refine lv_ldc2 hx hb C.2.2.1 ck76 dX3_lessenAt_66 ?_
            refine lv_ldiv hx hb dX3_lessenAt_69 (by decide) ?_
            refine p_last C hW hq kq (k := a * 4 + b) rfl (by rw [lq]; omega) dX3_lessenAt_70 (fun H locs hW => ?_)
            rw [va_up_self, up_up] at hW
            refine lv_iinc (v := nI ((a * 4 + b) + 1)) (lv' := [(4, .int (nI ((a * 4 + b) + 1))), (0, .ref (ad w)), (1, .int (nI a)), (2, .int (nI dr)), (3, .int (nI (a * 4)))]) hx hb dX3_lessenAt_71 hl (k := 4) rfl (nI_inc _) (by decide) rfl (fun ls hl => ?_)
            refine lv_goto (tgt := 7) hx hb dX3_lessenAt_74 (by decide) ?_
            have hW := Wd_setJ (g := (fun k => if k / 4 = a ∧ k % 4 < b + 1 then J q k / scOf dr else J q k)) hW kq (by rw [lq]; exact (fun k hk => by dsimp only [vp_updL]; by_cases hc : k = a * 4 + b; (rw [if_pos (by omega), if_pos hc, if_neg (by omega), hc, show dr = 4 from (by omega : dr = 4)]; rfl); rw [if_neg hc]; by_cases hc2 : k / 4 = a ∧ k % 4 < b; rw [if_pos (by omega), if_pos hc2]; rw [if_neg (by omega), if_neg hc2]))
            exact ih7 (b + 1) (by omega) (by omega) _ _ hW ls (lv_sub hl [1, 2, 3, 4, 0] rfl)
          · skip
            refine lv_aload_n hx hb dX3_lessenAt_45 rfl (lv_at hl 0 rfl) ?_
            refine g_X3_0 C hinX3 hW hw kw gq lk9 dX3_lessenAt_46 ?_
            refine lv_iload hx hb dX3_lessenAt_49 (lv_at hl 4 rfl) ?_
            refine p_lald C hW hq kq (k := a * 4 + b) rfl (by rw [lq]; omega) dX3_lessenAt_51 ?_
            refine w_top (y := .long ((fun k => if k / 4 = a ∧ k % 4 < b then J q k / scOf dr else J q k) (a * 4 + b))) (by rw [va_up_self]) ?_
            refine lv_ldc2 hx hb C.2.2.1 ck74 dX3_lessenAt_52 ?_
            refine lv_ldiv hx hb dX3_lessenAt_55 (by decide) ?_
            refine lv_goto (tgt := 70) hx hb dX3_lessenAt_56 (by decide) ?_
            refine p_last C hW hq kq (k := a * 4 + b) rfl (by rw [lq]; omega) dX3_lessenAt_70 (fun H locs hW => ?_)
            rw [va_up_self, up_up] at hW
            refine lv_iinc (v := nI ((a * 4 + b) + 1)) (lv' := [(4, .int (nI ((a * 4 + b) + 1))), (0, .ref (ad w)), (1, .int (nI a)), (2, .int (nI dr)), (3, .int (nI (a * 4)))]) hx hb dX3_lessenAt_71 hl (k := 4) rfl (nI_inc _) (by decide) rfl (fun ls hl => ?_)
            refine lv_goto (tgt := 7) hx hb dX3_lessenAt_74 (by decide) ?_
            have hW := Wd_setJ (g := (fun k => if k / 4 = a ∧ k % 4 < b + 1 then J q k / scOf dr else J q k)) hW kq (by rw [lq]; exact (fun k hk => by dsimp only [vp_updL]; by_cases hc : k = a * 4 + b; (rw [if_pos (by omega), if_pos hc, if_neg (by omega), hc, show dr = 3 from (by omega : dr = 3)]; rfl); rw [if_neg hc]; by_cases hc2 : k / 4 = a ∧ k % 4 < b; rw [if_pos (by omega), if_pos hc2]; rw [if_neg (by omega), if_neg hc2]))
            exact ih7 (b + 1) (by omega) (by omega) _ _ hW ls (lv_sub hl [1, 2, 3, 4, 0] rfl)
        · skip
          refine lv_aload_n hx hb dX3_lessenAt_26 rfl (lv_at hl 0 rfl) ?_
          refine g_X3_0 C hinX3 hW hw kw gq lk9 dX3_lessenAt_27 ?_
          refine lv_iload hx hb dX3_lessenAt_30 (lv_at hl 4 rfl) ?_
          refine p_lald C hW hq kq (k := a * 4 + b) rfl (by rw [lq]; omega) dX3_lessenAt_32 ?_
          refine w_top (y := .long ((fun k => if k / 4 = a ∧ k % 4 < b then J q k / scOf dr else J q k) (a * 4 + b))) (by rw [va_up_self]) ?_
          refine lv_ldc2 hx hb C.2.2.1 ck70 dX3_lessenAt_33 ?_
          refine lv_ldiv hx hb dX3_lessenAt_36 (by decide) ?_
          refine lv_goto (tgt := 70) hx hb dX3_lessenAt_37 (by decide) ?_
          refine p_last C hW hq kq (k := a * 4 + b) rfl (by rw [lq]; omega) dX3_lessenAt_70 (fun H locs hW => ?_)
          rw [va_up_self, up_up] at hW
          refine lv_iinc (v := nI ((a * 4 + b) + 1)) (lv' := [(4, .int (nI ((a * 4 + b) + 1))), (0, .ref (ad w)), (1, .int (nI a)), (2, .int (nI dr)), (3, .int (nI (a * 4)))]) hx hb dX3_lessenAt_71 hl (k := 4) rfl (nI_inc _) (by decide) rfl (fun ls hl => ?_)
          refine lv_goto (tgt := 7) hx hb dX3_lessenAt_74 (by decide) ?_
          have hW := Wd_setJ (g := (fun k => if k / 4 = a ∧ k % 4 < b + 1 then J q k / scOf dr else J q k)) hW kq (by rw [lq]; exact (fun k hk => by dsimp only [vp_updL]; by_cases hc : k = a * 4 + b; (rw [if_pos (by omega), if_pos hc, if_neg (by omega), hc, show dr = 2 from (by omega : dr = 2)]; rfl); rw [if_neg hc]; by_cases hc2 : k / 4 = a ∧ k % 4 < b; rw [if_pos (by omega), if_pos hc2]; rw [if_neg (by omega), if_neg hc2]))
          exact ih7 (b + 1) (by omega) (by omega) _ _ hW ls (lv_sub hl [1, 2, 3, 4, 0] rfl)
  have hW := Wd_setJ (g := (fun k => if k / 4 = a ∧ k % 4 < 0 then J q k / scOf dr else J q k)) hW kq (by rw [lq]; exact (fun k hk => by rw [if_neg (by omega)]))
  exact lp7 (dr + 1) 0 (by omega) (by omega) _ _ hW ls (lv_sub hl [2, 3, 4, 1, 0] rfl)
abbrev rmX3_goThroughDoors : Room := { frames := 0, cells := 0, slots := 0, locals := 0 }
set_option maxHeartbeats 4000000 in
set_option maxRecDepth 100000 in
theorem c_X3_goThroughDoors (l : Launch) (D : va_G) (cy : Nat → ClassId) (L : List Nat) (ad : Nat → Nat) (G : mG) (I : mI) (J : mJ) (w q : Nat) (hV : isV L G w q) (n t k : Nat) (hN : isN L G n t k) (pl dr : Nat) (hpl : I n 0 = nI pl) (hdr : I n 1 = nI dr) (hp12 : pl ≤ 12) (hd4 : dr = 2 ∨ dr = 3 ∨ dr = 4) (to : Nat → Nat) (hto : ∀ c, c < 48 → I t c = nI (to c)) (hpr : pairs pl dr to) : pMet l yX3_goThroughDoors wsX3_goThroughDoors rmX3_goThroughDoors D cy L ad G I J [.ref (ad w), .ref (ad n)] (qV (fun I' J' => I' = I ∧ J' = va_up J q (goF to (J q))) D cy L ad G) := by
  refine pMet.ofV (cc := cX3_goThroughDoors) (maxL := 6) (by decide +kernel) rfl (Nat.le_of_ble_eq_true rfl) ?_
  intro p e R s m args below meth c A Q C hml hR hg ret hW ls hl
  subst hR
  have C : Cx p s m args c cX3_goThroughDoors RX3 wsX3_goThroughDoors D cy A := C
  have hx := C.1
  have hb := C.2.1
  have lk9 := C.2.2.2.1 (.fieldLink RX3 9 "WaveWalk$Wave" "numbers" "[J") (by decide +kernel)
  have lk25 := C.2.2.2.1 (.fieldLink RX3 25 "WaveWalk$Net" "places" "I") (by decide +kernel)
  have lk78 := C.2.2.2.1 (.fieldLink RX3 78 "WaveWalk$Net" "ledTo" "[I") (by decide +kernel)
  have hinX1 : ∀ w ∈ wsX10, w ∈ wsX3_goThroughDoors := by decide +kernel
  have hinX3 : ∀ w ∈ wsX30, w ∈ wsX3_goThroughDoors := by decide +kernel
  have hl : lv_has ls 6 [(0, .ref (ad w)), (1, .ref (ad n))] := hl
  obtain ⟨hw, kw, gq, hq, kq, lq⟩ := id hV
  obtain ⟨hn, kn, gt, ht, kt, lt, gk, hk, kk, lk⟩ := id hN
  have hW : Wd D cy A s.heap s.heap [] L ad G I (va_up J q (J q)) := by rw [up_same]; exact hW
  refine lv_iconst (v := nI 0) hx hb dX3_goThroughDoors_0 (by decide) ?_
  refine lv_istore_n (lv' := [(2, .int (nI 0)), (0, .ref (ad w)), (1, .ref (ad n))]) hx hb dX3_goThroughDoors_1 rfl hl (by decide) rfl (fun ls hl => ?_)
  have lp2 : ∀ (nn : Nat) (c0 : Nat), (c0 ≤ pl * 4) → (pl * 4 + 1 ≤ c0 + nn) → ∀ (H : Heap) (locs : List Loc), Wd D cy A s.heap H locs L ad G I (va_up J q (fun k => if k < c0 ∨ to k < c0 then J q (to k) else J q k)) → ∀ (ls : Array Slot), lv_has ls 6 [(0, .ref (ad w)), (1, .ref (ad n)), (2, .int (nI c0))] → W p l e rmX3_goThroughDoors s m args below meth c H locs 0 0 Q (F0 m 2 ls []) := by
    intro nn
    induction nn with
    | zero => intros; exfalso; omega
    | succ nn ih2 =>
      intro c0 hc0 hf H locs hW ls hl
      have hlt48 : c0 < pl * 4 → c0 < 48 ∧ to c0 < 48 := fun h => ⟨by omega, (hpr c0 (by omega)).1⟩
      refine lv_iload_n hx hb dX3_goThroughDoors_2 rfl (lv_at hl 2 rfl) ?_
      refine lv_aload_n hx hb dX3_goThroughDoors_3 rfl (lv_at hl 1 rfl) ?_
      refine g_X1_0 C hinX1 hW hn kn lk25 dX3_goThroughDoors_4 ?_
      refine w_top (y := .int (nI pl)) (by rw [hpl]) ?_
      refine lv_iconst (v := nI 4) hx hb dX3_goThroughDoors_7 (by decide) ?_
      refine n_imul hx hb dX3_goThroughDoors_8 ?_
      refine n_icmp_ge (tgt := 58) hx hb (by omega) (by omega) dX3_goThroughDoors_9 (by decide) (fun h1 => ?_) (fun h1 => ?_)
      · skip
        have hW := Wd_setJ (g := (goF to (J q))) hW kq (by rw [lq]; exact (fun k hk => go_end hpr hp12 (by omega) hk))
        exact ret _ _ _ _ _ _ _ _ (Nat.le_of_ble_eq_true rfl) (Nat.le_of_ble_eq_true rfl) hW ⟨rfl, rfl⟩ dX3_goThroughDoors_58
      · skip
        have h48 := hlt48 (by omega)
        refine lv_aload_n hx hb dX3_goThroughDoors_12 rfl (lv_at hl 1 rfl) ?_
        refine g_X1_4 C hinX1 hW hn kn gt lk78 dX3_goThroughDoors_13 ?_
        refine lv_iload_n hx hb dX3_goThroughDoors_16 rfl (lv_at hl 2 rfl) ?_
        refine p_iald C hW ht kt (k := c0) rfl (by rw [lt]; omega) dX3_goThroughDoors_17 ?_
        refine w_top (y := .int (nI (to c0))) (by rw [hto _ (by omega)]) ?_
        refine lv_istore_n (lv' := [(3, .int (nI (to c0))), (0, .ref (ad w)), (1, .ref (ad n)), (2, .int (nI c0))]) hx hb dX3_goThroughDoors_18 rfl hl (by decide) rfl (fun ls hl => ?_)
        refine lv_iload_n hx hb dX3_goThroughDoors_19 rfl (lv_at hl 3 rfl) ?_
        refine lv_iload_n hx hb dX3_goThroughDoors_20 rfl (lv_at hl 0 rfl) ?_
        refine n_icmp_ge (tgt := 52) hx hb (by omega) (by omega) dX3_goThroughDoors_21 (by decide) (fun h2 => ?_) (fun h2 => ?_)
        · skip
          refine lv_iinc (v := nI (c0 + 1)) (lv' := [(2, .int (nI (c0 + 1))), (3, .int (nI (to c0))), (0, .ref (ad w)), (1, .ref (ad n))]) hx hb dX3_goThroughDoors_52 hl (k := 3) rfl (nI_inc _) (by decide) rfl (fun ls hl => ?_)
          refine lv_goto (tgt := 2) hx hb dX3_goThroughDoors_55 (by decide) ?_
          have hW := Wd_setJ (g := (fun k => if k < c0 + 1 ∨ to k < c0 + 1 then J q (to k) else J q k)) hW kq (by rw [lq]; exact (fun k hk => go_skip hpr (by omega) h2 hk))
          exact ih2 (c0 + 1) (by omega) (by omega) _ _ hW ls (lv_sub hl [2, 3, 0] rfl)
        · skip
          refine lv_aload_n hx hb dX3_goThroughDoors_24 rfl (lv_at hl 1 rfl) ?_
          refine g_X3_0 C hinX3 hW hw kw gq lk9 dX3_goThroughDoors_25 ?_
          refine lv_iload_n hx hb dX3_goThroughDoors_28 rfl (lv_at hl 3 rfl) ?_
          refine p_lald C hW hq kq (k := c0) rfl (by rw [lq]; omega) dX3_goThroughDoors_29 ?_
          refine w_top (y := .long ((fun k => if k < c0 ∨ to k < c0 then J q (to k) else J q k) c0)) (by rw [va_up_self]) ?_
          refine lv_lstore (lv' := [(4, .long ((fun k => if k < c0 ∨ to k < c0 then J q (to k) else J q k) c0)), (3, .int (nI (to c0))), (0, .ref (ad w)), (1, .ref (ad n)), (2, .int (nI c0))]) hx hb dX3_goThroughDoors_30 hl (by decide) rfl (fun ls hl => ?_)
          refine lv_aload_n hx hb dX3_goThroughDoors_32 rfl (lv_at hl 2 rfl) ?_
          refine g_X3_0 C hinX3 hW hw kw gq lk9 dX3_goThroughDoors_33 ?_
          refine lv_iload_n hx hb dX3_goThroughDoors_36 rfl (lv_at hl 4 rfl) ?_
          refine lv_aload_n hx hb dX3_goThroughDoors_37 rfl (lv_at hl 2 rfl) ?_
          refine g_X3_0 C hinX3 hW hw kw gq lk9 dX3_goThroughDoors_38 ?_
          refine lv_iload_n hx hb dX3_goThroughDoors_41 rfl (lv_at hl 1 rfl) ?_
          refine p_lald C hW hq kq (k := to c0) rfl (by rw [lq]; omega) dX3_goThroughDoors_42 ?_
          refine w_top (y := .long ((fun k => if k < c0 ∨ to k < c0 then J q (to k) else J q k) (to c0))) (by rw [va_up_self]) ?_
          refine p_last C hW hq kq (k := c0) rfl (by rw [lq]; omega) dX3_goThroughDoors_43 (fun H locs hW => ?_)
          rw [va_up_self, up_up] at hW
          refine lv_aload_n hx hb dX3_goThroughDoors_44 rfl (lv_at hl 2 rfl) ?_
          refine g_X3_0 C hinX3 hW hw kw gq lk9 dX3_goThroughDoors_45 ?_
          refine lv_iload_n hx hb dX3_goThroughDoors_48 rfl (lv_at hl 1 rfl) ?_
          refine lv_lload hx hb dX3_goThroughDoors_49 (lv_at hl 0 rfl) ?_
          refine p_last C hW hq kq (k := to c0) rfl (by rw [lq]; omega) dX3_goThroughDoors_51 (fun H locs hW => ?_)
          rw [va_up_self, up_up] at hW
          refine lv_iinc (v := nI (c0 + 1)) (lv' := [(2, .int (nI (c0 + 1))), (4, .long ((fun k => if k < c0 ∨ to k < c0 then J q (to k) else J q k) c0)), (3, .int (nI (to c0))), (0, .ref (ad w)), (1, .ref (ad n))]) hx hb dX3_goThroughDoors_52 hl (k := 4) rfl (nI_inc _) (by decide) rfl (fun ls hl => ?_)
          refine lv_goto (tgt := 2) hx hb dX3_goThroughDoors_55 (by decide) ?_
          have hW := Wd_setJ (g := (fun k => if k < c0 + 1 ∨ to k < c0 + 1 then J q (to k) else J q k)) hW kq (by rw [lq]; exact (fun k hk => go_swap hpr (by omega) h2 hk))
          exact ih2 (c0 + 1) (by omega) (by omega) _ _ hW ls (lv_sub hl [3, 4, 0] rfl)
  have hW := Wd_setJ (g := (fun k => if k < 0 ∨ to k < 0 then J q (to k) else J q k)) hW kq (by rw [lq]; exact (fun k hk => by rw [if_neg (by omega)]))
  exact lp2 (pl * 4 + 1) 0 (by omega) (by omega) _ _ hW ls (lv_sub hl [1, 2, 0] rfl)
end
section
theorem sc_l {dr : Nat} (h : dr = 2 ∨ dr = 3 ∨ dr = 4) : (nI (scN dr)).toInt64 = scOf dr := by
  rcases h with rfl | rfl | rfl <;> decide
theorem left_in {hv sc wt w0 : Int64} {N d : Nat} (h : d < N) (h2 : ¬ hv < wt) (e : d + leftF hv sc (N - d) wt = leftF hv sc N w0) : d + 1 + leftF hv sc (N - (d + 1)) (wt * sc) = leftF hv sc N w0 := by
  rw [← e, show N - d = (N - (d + 1)) + 1 by omega, leftF, if_pos (Int64.not_lt.mp h2)]
  omega
theorem left_out {hv sc wt : Int64} {N : Nat} (h2 : hv < wt) : leftF hv sc N wt = 0 := by
  cases N with
  | zero => rfl
  | succ n => rw [leftF, if_neg (Int64.not_le.mpr h2)]
theorem turn_0 {dr : Nat} (f : Nat → Int64) (k : Nat) : turnF 0 dr f k = f k := by
  unfold turnF
  rw [if_neg (by rw [dor_iff]; omega)]
theorem less_0 {dr : Nat} (f : Nat → Int64) (k : Nat) : lessF 0 dr f k = f k := by
  unfold lessF
  rw [if_neg (by rw [dor_iff]; omega)]
theorem turn_s {a dr : Nat} (hd4 : dr = 2 ∨ dr = 3 ∨ dr = 4) (f : Nat → Int64) (k : Nat) : turnF (a + 1) dr f k = turn1 a dr (turnF a dr f) k := by
  unfold turn1
  by_cases h : k / 4 = a ∧ k % 4 < dr
  · rw [if_pos h]
    have h1 : turnF (a + 1) dr f k = tv dr f k := by unfold turnF; rw [if_pos (dor_iff.mpr ⟨by omega, h.2⟩)]
    rw [h1]
    refine tv_congr h.2 hd4 (fun j hj => ?_)
    unfold turnF
    rw [if_neg (by rw [dor_iff]; omega)]
  · rw [if_neg h]
    unfold turnF
    by_cases h2 : dor a dr k = true
    · rw [if_pos h2, if_pos (by rw [dor_iff] at h2 ⊢; omega)]
    · rw [if_neg h2, if_neg (by rw [dor_iff] at h2 ⊢; omega)]
theorem less_s {a dr : Nat} (hd4 : dr = 2 ∨ dr = 3 ∨ dr = 4) (f : Nat → Int64) (k : Nat) : lessF (a + 1) dr (turnF (a + 1) dr f) k = less1 a dr (turn1 a dr (lessF a dr (turnF a dr f))) k := by
  unfold less1
  by_cases h : k / 4 = a ∧ k % 4 < dr
  · rw [if_pos h]
    have h1 : lessF (a + 1) dr (turnF (a + 1) dr f) k = tv dr f k / scOf dr := by unfold lessF turnF; rw [if_pos (dor_iff.mpr ⟨by omega, h.2⟩), if_pos (dor_iff.mpr ⟨by omega, h.2⟩)]
    have h2 : turn1 a dr (lessF a dr (turnF a dr f)) k = tv dr f k := by
      unfold turn1
      rw [if_pos h]
      refine tv_congr h.2 hd4 (fun j hj => ?_)
      unfold lessF turnF
      rw [if_neg (by rw [dor_iff]; omega), if_neg (by rw [dor_iff]; omega)]
    rw [h1, h2]
  · rw [if_neg h]
    unfold turn1
    rw [if_neg h]
    unfold lessF turnF
    by_cases h2 : dor a dr k = true
    · rw [if_pos h2, if_pos h2, if_pos (by rw [dor_iff] at h2 ⊢; omega), if_pos (by rw [dor_iff] at h2 ⊢; omega)]
    · rw [if_neg h2, if_neg h2, if_neg (by rw [dor_iff] at h2 ⊢; omega), if_neg (by rw [dor_iff] at h2 ⊢; omega)]
abbrev rmX3_stepsLeft : Room := { frames := 2, cells := 0, slots := 0, locals := 50 }
set_option maxHeartbeats 4000000 in
set_option maxRecDepth 100000 in
theorem c_X3_stepsLeft (l : Launch) (D : va_G) (cy : Nat → ClassId) (L : List Nat) (ad : Nat → Nat) (G : mG) (I : mI) (J : mJ) (w q : Nat) (hV : isV L G w q) (n t k : Nat) (hN : isN L G n t k) (pl dr : Nat) (hpl : I n 0 = nI pl) (hdr : I n 1 = nI dr) (hp12 : pl ≤ 12) (hd4 : dr = 2 ∨ dr = 3 ∨ dr = 4) (hsc : I n 2 = nI (scN dr)) (tm : Nat) (htm : I w 1 = nI tm) (ht60 : tm ≤ 60) : pMet l yX3_stepsLeft wsX3_stepsLeft rmX3_stepsLeft D cy L ad G I J [.ref (ad w), .ref (ad n)] (qI (fun v I' J' => v = nI (leftF (J n 3) (scOf dr) (60 - tm) (sqs (J q))) ∧ I' = I ∧ J' = J) D cy L ad G) := by
  refine pMet.ofI (cc := cX3_stepsLeft) (maxL := 5) (by decide +kernel) rfl (Nat.le_of_ble_eq_true rfl) ?_
  intro p e R s m args below meth c A Q C hml hR hg ret hW ls hl
  subst hR
  have C : Cx p s m args c cX3_stepsLeft RX3 wsX3_stepsLeft D cy A := C
  have hx := C.1
  have hb := C.2.1
  have lk15 := C.2.2.2.1 (.fieldLink RX3 15 "WaveWalk$Wave" "time" "I") (by decide +kernel)
  have lk49 := C.2.2.2.1 (.fieldLink RX3 49 "WaveWalk$Net" "heaviestToStep" "J") (by decide +kernel)
  have lk53 := C.2.2.2.1 (.fieldLink RX3 53 "WaveWalk$Net" "scale" "I") (by decide +kernel)
  have hinX1 : ∀ w ∈ wsX10, w ∈ wsX3_stepsLeft := by decide +kernel
  have hinX3 : ∀ w ∈ wsX30, w ∈ wsX3_stepsLeft := by decide +kernel
  have hl : lv_has ls 5 [(0, .ref (ad w)), (1, .ref (ad n))] := hl
  obtain ⟨hw, kw, gq, hq, kq, lq⟩ := id hV
  obtain ⟨hn, kn, gt, ht, kt, lt, gk, hk, kk, lk⟩ := id hN
  refine lv_aload_n hx hb dX3_stepsLeft_0 rfl (lv_at hl 0 rfl) ?_
  refine p_cVl C hml hg hW (c_X3_squares l D cy L ad G I J w q hV) (cwV 0 C.2.2.2.1 gX3_stepsLeft_X3_squares rfl rfl rfl (by decide +kernel) ⟨Nat.le_of_ble_eq_true rfl, Nat.le_of_ble_eq_true rfl⟩) (p_recv C hW hw (pF_3 kw) rfl) rfl hl.1 rfl (Nat.le_of_ble_eq_true rfl) dX3_stepsLeft_1 (Nat.le_of_ble_eq_true rfl) (Nat.le_of_ble_eq_true rfl) (fun v1 I2 J3 H locs hp hW => ?_)
  obtain ⟨hv, hI, hJ⟩ := hp
  subst v1
  subst I2
  subst J3
  refine lv_lstore_n (lv' := [(2, .long (sqs (J q))), (0, .ref (ad w)), (1, .ref (ad n))]) hx hb dX3_stepsLeft_4 rfl hl (by decide) rfl (fun ls hl => ?_)
  refine lv_iconst (v := nI 0) hx hb dX3_stepsLeft_5 (by decide) ?_
  refine lv_istore (lv' := [(4, .int (nI 0)), (2, .long (sqs (J q))), (0, .ref (ad w)), (1, .ref (ad n))]) hx hb dX3_stepsLeft_6 hl (by decide) rfl (fun ls hl => ?_)
  have lp8 : ∀ (nn : Nat) (d : Nat) (wt : Int64), (d ≤ 60 - tm) → (61 ≤ d + nn) → (d + leftF (J n 3) (scOf dr) (60 - tm - d) wt = leftF (J n 3) (scOf dr) (60 - tm) (sqs (J q))) → ∀ (H : Heap) (locs : List Loc), Wd D cy A s.heap H locs L ad G I J → ∀ (ls : Array Slot), lv_has ls 5 [(0, .ref (ad w)), (1, .ref (ad n)), (2, .long wt), (4, .int (nI d))] → W p l e rmX3_stepsLeft s m args below meth c H locs 0 0 Q (F0 m 8 ls []) := by
    intro nn
    induction nn with
    | zero => intros; exfalso; omega
    | succ nn ih8 =>
      intro d wt hd hf hv9 H locs hW ls hl
      refine lv_iload hx hb dX3_stepsLeft_8 (lv_at hl 3 rfl) ?_
      refine lv_bipush (v := nI 60) hx hb dX3_stepsLeft_10 (by decide) ?_
      refine lv_aload_n hx hb dX3_stepsLeft_12 rfl (lv_at hl 0 rfl) ?_
      refine g_X3_1 C hinX3 hW hw kw lk15 dX3_stepsLeft_13 ?_
      refine w_top (y := .int (nI tm)) (by rw [htm]) ?_
      refine n_isub hx hb (by omega) dX3_stepsLeft_16 ?_
      refine n_icmp_ge (tgt := 43) hx hb (by omega) (by omega) dX3_stepsLeft_17 (by decide) (fun h4 => ?_) (fun h4 => ?_)
      · skip
        refine lv_iload hx hb dX3_stepsLeft_43 (lv_at hl 3 rfl) ?_
        exact ret _ _ _ _ _ _ _ _ _ (Nat.le_of_ble_eq_true rfl) (Nat.le_of_ble_eq_true rfl) hW ⟨by rw [← hv9, show 60 - tm - d = 0 by omega]; rfl, rfl, rfl⟩ dX3_stepsLeft_45
      · skip
        refine lv_lload_n hx hb dX3_stepsLeft_20 rfl (lv_at hl 2 rfl) ?_
        refine lv_aload_n hx hb dX3_stepsLeft_21 rfl (lv_at hl 1 rfl) ?_
        refine g_X1_3 C hinX1 hW hn kn lk49 dX3_stepsLeft_22 ?_
        refine l_gt (tgt := 43) hx hb dX3_stepsLeft_25 dX3_stepsLeft_26 (by decide) (fun h5 => ?_) (fun h5 => ?_)
        · skip
          refine lv_iload hx hb dX3_stepsLeft_43 (lv_at hl 3 rfl) ?_
          exact ret _ _ _ _ _ _ _ _ _ (Nat.le_of_ble_eq_true rfl) (Nat.le_of_ble_eq_true rfl) hW ⟨by rw [← hv9, left_out h5]; rfl, rfl, rfl⟩ dX3_stepsLeft_45
        · skip
          refine lv_lload_n hx hb dX3_stepsLeft_29 rfl (lv_at hl 2 rfl) ?_
          refine lv_aload_n hx hb dX3_stepsLeft_30 rfl (lv_at hl 1 rfl) ?_
          refine g_X1_2 C hinX1 hW hn kn lk53 dX3_stepsLeft_31 ?_
          refine w_top (y := .int (nI (scN dr))) (by rw [hsc]) ?_
          refine lv_i2l (v := scOf dr) hx hb dX3_stepsLeft_34 (sc_l hd4) ?_
          refine lv_lmul hx hb dX3_stepsLeft_35 ?_
          refine lv_lstore_n (lv' := [(2, .long (wt * (scOf dr))), (0, .ref (ad w)), (1, .ref (ad n)), (4, .int (nI d))]) hx hb dX3_stepsLeft_36 rfl hl (by decide) rfl (fun ls hl => ?_)
          refine lv_iinc (v := nI (d + 1)) (lv' := [(4, .int (nI (d + 1))), (2, .long (wt * (scOf dr))), (0, .ref (ad w)), (1, .ref (ad n))]) hx hb dX3_stepsLeft_37 hl (k := 3) rfl (nI_inc _) (by decide) rfl (fun ls hl => ?_)
          refine lv_goto (tgt := 8) hx hb dX3_stepsLeft_40 (by decide) ?_
          exact ih8 (d + 1) (wt * scOf dr) (by omega) (by omega) (left_in (by omega) h5 hv9) _ _ hW ls (lv_sub hl [2, 3, 1, 0] rfl)
  exact lp8 61 0 (sqs (J q)) (by omega) (by omega) (by rw [Nat.zero_add, Nat.sub_zero]) _ _ hW ls (lv_sub hl [2, 3, 1, 0] rfl)
abbrev rmX3_doStep : Room := { frames := 1, cells := 0, slots := 0, locals := 27 }
set_option maxHeartbeats 4000000 in
set_option maxRecDepth 100000 in
theorem c_X3_doStep (l : Launch) (D : va_G) (cy : Nat → ClassId) (L : List Nat) (ad : Nat → Nat) (G : mG) (I : mI) (J : mJ) (w q : Nat) (hV : isV L G w q) (n t k : Nat) (hN : isN L G n t k) (pl dr : Nat) (hpl : I n 0 = nI pl) (hdr : I n 1 = nI dr) (hp12 : pl ≤ 12) (hd4 : dr = 2 ∨ dr = 3 ∨ dr = 4) (mk : Nat → Bool) (hmk : ∀ c, c < 12 → I k c = bI (mk c)) (to : Nat → Nat) (hto : ∀ c, c < 48 → I t c = nI (to c)) (hpr : pairs pl dr to) (tm : Nat) (htm : I w 1 = nI tm) (ht60 : tm ≤ 60) : pMet l yX3_doStep wsX3_doStep rmX3_doStep D cy L ad G I J [.ref (ad w), .ref (ad n)] (qV (fun I' J' => I' = va_up I w (upd (I w) 1 (nI (tm + 1))) ∧ J' = va_up J q (stepF pl dr to mk (J q))) D cy L ad G) := by
  refine pMet.ofV (cc := cX3_doStep) (maxL := 3) (by decide +kernel) rfl (Nat.le_of_ble_eq_true rfl) ?_
  intro p e R s m args below meth c A Q C hml hR hg ret hW ls hl
  subst hR
  have C : Cx p s m args c cX3_doStep RX3 wsX3_doStep D cy A := C
  have hx := C.1
  have hb := C.2.1
  have lk15 := C.2.2.2.1 (.fieldLink RX3 15 "WaveWalk$Wave" "time" "I") (by decide +kernel)
  have lk25 := C.2.2.2.1 (.fieldLink RX3 25 "WaveWalk$Net" "places" "I") (by decide +kernel)
  have lk30 := C.2.2.2.1 (.fieldLink RX3 30 "WaveWalk$Net" "doors" "I") (by decide +kernel)
  have hinX1 : ∀ w ∈ wsX10, w ∈ wsX3_doStep := by decide +kernel
  have hinX3 : ∀ w ∈ wsX30, w ∈ wsX3_doStep := by decide +kernel
  have hl : lv_has ls 3 [(0, .ref (ad w)), (1, .ref (ad n))] := hl
  obtain ⟨hw, kw, gq, hq, kq, lq⟩ := id hV
  obtain ⟨hn, kn, gt, ht, kt, lt, gk, hk, kk, lk⟩ := id hN
  have hW : Wd D cy A s.heap s.heap [] L ad G I (va_up J q (J q)) := by rw [up_same]; exact hW
  refine lv_aload_n hx hb dX3_doStep_0 rfl (lv_at hl 0 rfl) ?_
  refine lv_aload_n hx hb dX3_doStep_1 rfl (lv_at hl 1 rfl) ?_
  refine p_cVv C hml hg hW (c_X3_changeSigns l D cy L ad G I (va_up J q (J q)) w q hV n t k hN pl dr hpl hdr hp12 hd4 mk hmk) (cwV 1 C.2.2.2.1 gX3_doStep_X3_changeSigns rfl rfl rfl (by decide +kernel) ⟨Nat.le_of_ble_eq_true rfl, Nat.le_of_ble_eq_true rfl⟩) (p_recv C hW hw (pF_3 kw) rfl) rfl hl.1 rfl (Nat.le_of_ble_eq_true rfl) dX3_doStep_2 (Nat.le_of_ble_eq_true rfl) (Nat.le_of_ble_eq_true rfl) (fun I1 J2 H locs hp hW => ?_)
  obtain ⟨hI, hJ⟩ := hp
  rw [va_up_self, up_up] at hJ
  subst I1
  subst J2
  refine lv_iconst (v := nI 0) hx hb dX3_doStep_5 (by decide) ?_
  refine lv_istore_n (lv' := [(2, .int (nI 0)), (0, .ref (ad w)), (1, .ref (ad n))]) hx hb dX3_doStep_6 rfl hl (by decide) rfl (fun ls hl => ?_)
  have lp7 : ∀ (nn : Nat) (a : Nat), (a ≤ pl) → (pl + 1 ≤ a + nn) → ∀ (H : Heap) (locs : List Loc), Wd D cy A s.heap H locs L ad G I (va_up J q (turnF a dr (signF pl dr mk (J q)))) → ∀ (ls : Array Slot), lv_has ls 3 [(0, .ref (ad w)), (1, .ref (ad n)), (2, .int (nI a))] → W p l e rmX3_doStep s m args below meth c H locs 0 0 Q (F0 m 7 ls []) := by
    intro nn
    induction nn with
    | zero => intros; exfalso; omega
    | succ nn ih7 =>
      intro a ha hf H locs hW ls hl
      refine lv_iload_n hx hb dX3_doStep_7 rfl (lv_at hl 2 rfl) ?_
      refine lv_aload_n hx hb dX3_doStep_8 rfl (lv_at hl 1 rfl) ?_
      refine g_X1_0 C hinX1 hW hn kn lk25 dX3_doStep_9 ?_
      refine w_top (y := .int (nI pl)) (by rw [hpl]) ?_
      refine n_icmp_ge (tgt := 30) hx hb (by omega) (by omega) dX3_doStep_12 (by decide) (fun h3 => ?_) (fun h3 => ?_)
      · skip
        have hap : a = pl := by omega
        rw [hap] at hW
        refine lv_aload_n hx hb dX3_doStep_30 rfl (lv_at hl 0 rfl) ?_
        refine lv_aload_n hx hb dX3_doStep_31 rfl (lv_at hl 1 rfl) ?_
        refine p_cVv C hml hg hW (c_X3_goThroughDoors l D cy L ad G I (va_up J q (turnF pl dr (signF pl dr mk (J q)))) w q hV n t k hN pl dr hpl hdr hp12 hd4 to hto hpr) (cwV 1 C.2.2.2.1 gX3_doStep_X3_goThroughDoors rfl rfl rfl (by decide +kernel) ⟨Nat.le_of_ble_eq_true rfl, Nat.le_of_ble_eq_true rfl⟩) (p_recv C hW hw (pF_3 kw) rfl) rfl hl.1 rfl (Nat.le_of_ble_eq_true rfl) dX3_doStep_32 (Nat.le_of_ble_eq_true rfl) (Nat.le_of_ble_eq_true rfl) (fun I4 J5 H locs hp hW => ?_)
        obtain ⟨hI, hJ⟩ := hp
        rw [va_up_self, up_up] at hJ
        subst I4
        subst J5
        refine lv_aload_n hx hb dX3_doStep_35 rfl (lv_at hl 0 rfl) ?_
        refine lv_dup hx hb dX3_doStep_36 rfl ?_
        refine g_X3_1 C hinX3 hW hw kw lk15 dX3_doStep_37 ?_
        refine w_top (y := .int (nI tm)) (by rw [htm]) ?_
        refine lv_iconst (v := nI 1) hx hb dX3_doStep_40 (by decide) ?_
        refine n_iadd hx hb dX3_doStep_41 ?_
        refine s_X3_1 C hinX3 hW hw kw lk15 dX3_doStep_42 (fun H locs hW => ?_)
        obtain ⟨I6, eI6⟩ : ∃ z, z = va_up I w (upd (I w) 1 (nI (tm + 1))) := ⟨_, rfl⟩
        rw [← eI6] at hW
        exact ret _ _ _ _ _ _ _ _ (Nat.le_of_ble_eq_true rfl) (Nat.le_of_ble_eq_true rfl) hW ⟨eI6, rfl⟩ dX3_doStep_45
      · skip
        refine lv_aload_n hx hb dX3_doStep_15 rfl (lv_at hl 0 rfl) ?_
        refine lv_iload_n hx hb dX3_doStep_16 rfl (lv_at hl 2 rfl) ?_
        refine lv_aload_n hx hb dX3_doStep_17 rfl (lv_at hl 1 rfl) ?_
        refine g_X1_1 C hinX1 hW hn kn lk30 dX3_doStep_18 ?_
        refine w_top (y := .int (nI dr)) (by rw [hdr]) ?_
        refine p_cVv C hml hg hW (c_X3_turnAt l D cy L ad G I (va_up J q (turnF a dr (signF pl dr mk (J q)))) w q hV a dr (by omega) hd4) (cwV 2 C.2.2.2.1 gX3_doStep_X3_turnAt rfl rfl rfl (by decide +kernel) ⟨Nat.le_of_ble_eq_true rfl, Nat.le_of_ble_eq_true rfl⟩) (p_recv C hW hw (pF_3 kw) rfl) rfl hl.1 rfl (Nat.le_of_ble_eq_true rfl) dX3_doStep_21 (Nat.le_of_ble_eq_true rfl) (Nat.le_of_ble_eq_true rfl) (fun I7 J8 H locs hp hW => ?_)
        obtain ⟨hI, hJ⟩ := hp
        rw [va_up_self, up_up] at hJ
        subst I7
        subst J8
        refine lv_iinc (v := nI (a + 1)) (lv' := [(2, .int (nI (a + 1))), (0, .ref (ad w)), (1, .ref (ad n))]) hx hb dX3_doStep_24 hl (k := 2) rfl (nI_inc _) (by decide) rfl (fun ls hl => ?_)
        refine lv_goto (tgt := 7) hx hb dX3_doStep_27 (by decide) ?_
        have hW := Wd_setJ (g := (turnF (a + 1) dr (signF pl dr mk (J q)))) hW kq (by rw [lq]; exact (fun k hk => turn_s hd4 _ k))
        exact ih7 (a + 1) (by omega) (by omega) _ _ hW ls (lv_sub hl [1, 2, 0] rfl)
  have hW := Wd_setJ (g := (turnF 0 dr (signF pl dr mk (J q)))) hW kq (by rw [lq]; exact (fun k hk => turn_0 _ k))
  exact lp7 (pl + 1) 0 (by omega) (by omega) _ _ hW ls (lv_sub hl [1, 2, 0] rfl)
abbrev rmX3_undoStep : Room := { frames := 1, cells := 0, slots := 0, locals := 27 }
set_option maxHeartbeats 4000000 in
set_option maxRecDepth 100000 in
theorem c_X3_undoStep (l : Launch) (D : va_G) (cy : Nat → ClassId) (L : List Nat) (ad : Nat → Nat) (G : mG) (I : mI) (J : mJ) (w q : Nat) (hV : isV L G w q) (n t k : Nat) (hN : isN L G n t k) (pl dr : Nat) (hpl : I n 0 = nI pl) (hdr : I n 1 = nI dr) (hp12 : pl ≤ 12) (hd4 : dr = 2 ∨ dr = 3 ∨ dr = 4) (mk : Nat → Bool) (hmk : ∀ c, c < 12 → I k c = bI (mk c)) (to : Nat → Nat) (hto : ∀ c, c < 48 → I t c = nI (to c)) (hpr : pairs pl dr to) (tm : Nat) (htm : I w 1 = nI tm) (ht60 : tm ≤ 60) (ht1 : 1 ≤ tm) : pMet l yX3_undoStep wsX3_undoStep rmX3_undoStep D cy L ad G I J [.ref (ad w), .ref (ad n)] (qV (fun I' J' => I' = va_up I w (upd (I w) 1 (nI (tm - 1))) ∧ J' = va_up J q (undoF pl dr to mk (J q))) D cy L ad G) := by
  refine pMet.ofV (cc := cX3_undoStep) (maxL := 3) (by decide +kernel) rfl (Nat.le_of_ble_eq_true rfl) ?_
  intro p e R s m args below meth c A Q C hml hR hg ret hW ls hl
  subst hR
  have C : Cx p s m args c cX3_undoStep RX3 wsX3_undoStep D cy A := C
  have hx := C.1
  have hb := C.2.1
  have lk15 := C.2.2.2.1 (.fieldLink RX3 15 "WaveWalk$Wave" "time" "I") (by decide +kernel)
  have lk25 := C.2.2.2.1 (.fieldLink RX3 25 "WaveWalk$Net" "places" "I") (by decide +kernel)
  have lk30 := C.2.2.2.1 (.fieldLink RX3 30 "WaveWalk$Net" "doors" "I") (by decide +kernel)
  have hinX1 : ∀ w ∈ wsX10, w ∈ wsX3_undoStep := by decide +kernel
  have hinX3 : ∀ w ∈ wsX30, w ∈ wsX3_undoStep := by decide +kernel
  have hl : lv_has ls 3 [(0, .ref (ad w)), (1, .ref (ad n))] := hl
  obtain ⟨hw, kw, gq, hq, kq, lq⟩ := id hV
  obtain ⟨hn, kn, gt, ht, kt, lt, gk, hk, kk, lk⟩ := id hN
  have hW : Wd D cy A s.heap s.heap [] L ad G I (va_up J q (J q)) := by rw [up_same]; exact hW
  refine lv_aload_n hx hb dX3_undoStep_0 rfl (lv_at hl 0 rfl) ?_
  refine lv_aload_n hx hb dX3_undoStep_1 rfl (lv_at hl 1 rfl) ?_
  refine p_cVv C hml hg hW (c_X3_goThroughDoors l D cy L ad G I (va_up J q (J q)) w q hV n t k hN pl dr hpl hdr hp12 hd4 to hto hpr) (cwV 1 C.2.2.2.1 gX3_undoStep_X3_goThroughDoors rfl rfl rfl (by decide +kernel) ⟨Nat.le_of_ble_eq_true rfl, Nat.le_of_ble_eq_true rfl⟩) (p_recv C hW hw (pF_3 kw) rfl) rfl hl.1 rfl (Nat.le_of_ble_eq_true rfl) dX3_undoStep_2 (Nat.le_of_ble_eq_true rfl) (Nat.le_of_ble_eq_true rfl) (fun I1 J2 H locs hp hW => ?_)
  obtain ⟨hI, hJ⟩ := hp
  rw [va_up_self, up_up] at hJ
  subst I1
  subst J2
  refine lv_iconst (v := nI 0) hx hb dX3_undoStep_5 (by decide) ?_
  refine lv_istore_n (lv' := [(2, .int (nI 0)), (0, .ref (ad w)), (1, .ref (ad n))]) hx hb dX3_undoStep_6 rfl hl (by decide) rfl (fun ls hl => ?_)
  have lp7 : ∀ (nn : Nat) (a : Nat), (a ≤ pl) → (pl + 1 ≤ a + nn) → ∀ (H : Heap) (locs : List Loc), Wd D cy A s.heap H locs L ad G I (va_up J q (lessF a dr (turnF a dr (goF to (J q))))) → ∀ (ls : Array Slot), lv_has ls 3 [(0, .ref (ad w)), (1, .ref (ad n)), (2, .int (nI a))] → W p l e rmX3_undoStep s m args below meth c H locs 0 0 Q (F0 m 7 ls []) := by
    intro nn
    induction nn with
    | zero => intros; exfalso; omega
    | succ nn ih7 =>
      intro a ha hf H locs hW ls hl
      refine lv_iload_n hx hb dX3_undoStep_7 rfl (lv_at hl 2 rfl) ?_
      refine lv_aload_n hx hb dX3_undoStep_8 rfl (lv_at hl 1 rfl) ?_
      refine g_X1_0 C hinX1 hW hn kn lk25 dX3_undoStep_9 ?_
      refine w_top (y := .int (nI pl)) (by rw [hpl]) ?_
      refine n_icmp_ge (tgt := 39) hx hb (by omega) (by omega) dX3_undoStep_12 (by decide) (fun h3 => ?_) (fun h3 => ?_)
      · skip
        have hap : a = pl := by omega
        rw [hap] at hW
        refine lv_aload_n hx hb dX3_undoStep_39 rfl (lv_at hl 0 rfl) ?_
        refine lv_aload_n hx hb dX3_undoStep_40 rfl (lv_at hl 1 rfl) ?_
        refine p_cVv C hml hg hW (c_X3_changeSigns l D cy L ad G I (va_up J q (lessF pl dr (turnF pl dr (goF to (J q))))) w q hV n t k hN pl dr hpl hdr hp12 hd4 mk hmk) (cwV 1 C.2.2.2.1 gX3_undoStep_X3_changeSigns rfl rfl rfl (by decide +kernel) ⟨Nat.le_of_ble_eq_true rfl, Nat.le_of_ble_eq_true rfl⟩) (p_recv C hW hw (pF_3 kw) rfl) rfl hl.1 rfl (Nat.le_of_ble_eq_true rfl) dX3_undoStep_41 (Nat.le_of_ble_eq_true rfl) (Nat.le_of_ble_eq_true rfl) (fun I4 J5 H locs hp hW => ?_)
        obtain ⟨hI, hJ⟩ := hp
        rw [va_up_self, up_up] at hJ
        subst I4
        subst J5
        refine lv_aload_n hx hb dX3_undoStep_44 rfl (lv_at hl 0 rfl) ?_
        refine lv_dup hx hb dX3_undoStep_45 rfl ?_
        refine g_X3_1 C hinX3 hW hw kw lk15 dX3_undoStep_46 ?_
        refine w_top (y := .int (nI tm)) (by rw [htm]) ?_
        refine lv_iconst (v := nI 1) hx hb dX3_undoStep_49 (by decide) ?_
        refine n_isub hx hb (by omega) dX3_undoStep_50 ?_
        refine s_X3_1 C hinX3 hW hw kw lk15 dX3_undoStep_51 (fun H locs hW => ?_)
        obtain ⟨I6, eI6⟩ : ∃ z, z = va_up I w (upd (I w) 1 (nI (tm - 1))) := ⟨_, rfl⟩
        rw [← eI6] at hW
        exact ret _ _ _ _ _ _ _ _ (Nat.le_of_ble_eq_true rfl) (Nat.le_of_ble_eq_true rfl) hW ⟨eI6, rfl⟩ dX3_undoStep_54
      · skip
        refine lv_aload_n hx hb dX3_undoStep_15 rfl (lv_at hl 0 rfl) ?_
        refine lv_iload_n hx hb dX3_undoStep_16 rfl (lv_at hl 2 rfl) ?_
        refine lv_aload_n hx hb dX3_undoStep_17 rfl (lv_at hl 1 rfl) ?_
        refine g_X1_1 C hinX1 hW hn kn lk30 dX3_undoStep_18 ?_
        refine w_top (y := .int (nI dr)) (by rw [hdr]) ?_
        refine p_cVv C hml hg hW (c_X3_turnAt l D cy L ad G I (va_up J q (lessF a dr (turnF a dr (goF to (J q))))) w q hV a dr (by omega) hd4) (cwV 2 C.2.2.2.1 gX3_undoStep_X3_turnAt rfl rfl rfl (by decide +kernel) ⟨Nat.le_of_ble_eq_true rfl, Nat.le_of_ble_eq_true rfl⟩) (p_recv C hW hw (pF_3 kw) rfl) rfl hl.1 rfl (Nat.le_of_ble_eq_true rfl) dX3_undoStep_21 (Nat.le_of_ble_eq_true rfl) (Nat.le_of_ble_eq_true rfl) (fun I7 J8 H locs hp hW => ?_)
        obtain ⟨hI, hJ⟩ := hp
        rw [va_up_self, up_up] at hJ
        subst I7
        subst J8
        refine lv_aload_n hx hb dX3_undoStep_24 rfl (lv_at hl 0 rfl) ?_
        refine lv_iload_n hx hb dX3_undoStep_25 rfl (lv_at hl 2 rfl) ?_
        refine lv_aload_n hx hb dX3_undoStep_26 rfl (lv_at hl 1 rfl) ?_
        refine g_X1_1 C hinX1 hW hn kn lk30 dX3_undoStep_27 ?_
        refine w_top (y := .int (nI dr)) (by rw [hdr]) ?_
        refine p_cVv C hml hg hW (c_X3_lessenAt l D cy L ad G I (va_up J q (turn1 a dr (lessF a dr (turnF a dr (goF to (J q)))))) w q hV a dr (by omega) hd4) (cwV 2 C.2.2.2.1 gX3_undoStep_X3_lessenAt rfl rfl rfl (by decide +kernel) ⟨Nat.le_of_ble_eq_true rfl, Nat.le_of_ble_eq_true rfl⟩) (p_recv C hW hw (pF_3 kw) rfl) rfl hl.1 rfl (Nat.le_of_ble_eq_true rfl) dX3_undoStep_30 (Nat.le_of_ble_eq_true rfl) (Nat.le_of_ble_eq_true rfl) (fun I9 J10 H locs hp hW => ?_)
        obtain ⟨hI, hJ⟩ := hp
        rw [va_up_self, up_up] at hJ
        subst I9
        subst J10
        refine lv_iinc (v := nI (a + 1)) (lv' := [(2, .int (nI (a + 1))), (0, .ref (ad w)), (1, .ref (ad n))]) hx hb dX3_undoStep_33 hl (k := 2) rfl (nI_inc _) (by decide) rfl (fun ls hl => ?_)
        refine lv_goto (tgt := 7) hx hb dX3_undoStep_36 (by decide) ?_
        have hW := Wd_setJ (g := (lessF (a + 1) dr (turnF (a + 1) dr (goF to (J q))))) hW kq (by rw [lq]; exact (fun k hk => less_s hd4 _ k))
        exact ih7 (a + 1) (by omega) (by omega) _ _ hW ls (lv_sub hl [1, 2, 0] rfl)
  have hW := Wd_setJ (g := (lessF 0 dr (turnF 0 dr (goF to (J q))))) hW kq (by rw [lq]; exact (fun k hk => by rw [less_0, turn_0]))
  exact lp7 (pl + 1) 0 (by omega) (by omega) _ _ hW ls (lv_sub hl [1, 2, 0] rfl)
end
section
/-! CLASSES OF PLACES: relations on the first N numbers, their least members, how many -/
theorem wb_tb (n : Nat) : (lN n).toBitVec = BitVec.ofNat 64 n := rfl
theorem wb_inj {a b : Int64} (h : a.toBitVec = b.toBitVec) : a = b := Int64.toBitVec_inj.mp h
theorem wb_c : ∀ k, k < 64 → ((nI k).toInt64 &&& 63) = lN k := by decide +kernel
theorem wb_sm : ∀ k, k < 64 → (BitVec.ofNat 64 k).smod 64 = BitVec.ofNat 64 k := by decide +kernel
theorem wb_shl (n : Nat) {k : Nat} (hk : k < 64) : lN n <<< ((nI k).toInt64 &&& 63) = lN (n * 2 ^ k) := by
  rw [wb_c k hk]
  apply wb_inj
  rw [Int64.toBitVec_shiftLeft, wb_tb, wb_tb, wb_tb, wb_sm k hk]
  apply BitVec.eq_of_toNat_eq
  rw [BitVec.shiftLeft_eq', BitVec.toNat_shiftLeft, BitVec.toNat_ofNat, BitVec.toNat_ofNat, BitVec.toNat_ofNat, Nat.mod_eq_of_lt (show k < 2 ^ 64 by omega), Nat.shiftLeft_eq, Nat.mul_mod, Nat.mod_mod, ← Nat.mul_mod]
/-- the least i < n with P i, else n -/
def lst (P : Nat → Bool) : Nat → Nat
  | 0 => 0
  | n + 1 => if lst P n < n then lst P n else if P n = true then n else n + 1
theorem lst_le (P : Nat → Bool) : ∀ n, lst P n ≤ n
  | 0 => Nat.le_refl _
  | n + 1 => by
    have := lst_le P n
    rw [lst]
    split
    · omega
    · split <;> omega
theorem lst_no (P : Nat → Bool) : ∀ n k, k < lst P n → P k = false
  | 0, k, h => absurd h (Nat.not_lt_zero k)
  | n + 1, k, h => by
    have ih := lst_no P n
    have hle := lst_le P n
    rw [lst] at h
    split at h
    · exact ih k h
    · split at h
      · exact ih k (by omega)
      · next h1 h2 =>
        rcases Nat.lt_or_ge k n with q | q
        · exact ih k (by omega)
        · rw [show k = n by omega]; exact Bool.eq_false_iff.mpr h2
theorem lst_yes (P : Nat → Bool) : ∀ n, lst P n < n → P (lst P n) = true
  | 0, h => absurd h (Nat.not_lt_zero _)
  | n + 1, h => by
    have hle := lst_le P n
    rw [lst] at h ⊢
    split
    · next h1 => exact lst_yes P n h1
    · next h1 =>
      split
      · next h2 => exact h2
      · next h2 => rw [if_neg h1, if_neg h2] at h; omega
theorem lst_of {P : Nat → Bool} {n i : Nat} (hi : i < n) (h0 : ∀ k, k < i → P k = false) (h1 : P i = true) : lst P n = i := by
  have hle := lst_le P n
  rcases Nat.lt_trichotomy (lst P n) i with h | h | h
  · have := lst_yes P n (by omega); rw [h0 _ h] at this; cases this
  · exact h
  · have := lst_no P n i h; rw [h1] at this; cases this
theorem lst_none {P : Nat → Bool} {n : Nat} (h0 : ∀ k, k < n → P k = false) : lst P n = n := by
  have hle := lst_le P n
  rcases Nat.lt_or_ge (lst P n) n with h | h
  · have := lst_yes P n h; rw [h0 _ h] at this; cases this
  · omega
/-- the least member of p's class; how many classes have their least members below n -/
def fsE (E : Nat → Nat → Bool) (p : Nat) : Nat := lst (fun i => E i p) p
def numE (E : Nat → Nat → Bool) : Nat → Nat
  | 0 => 0
  | p + 1 => if fsE E p < p then numE E p else numE E p + 1
def eqv (N : Nat) (E : Nat → Nat → Bool) : Prop := (∀ p, p < N → E p p = true) ∧ (∀ p q, p < N → q < N → E p q = true → E q p = true) ∧ ∀ p q r, p < N → q < N → r < N → E p q = true → E q r = true → E p r = true
theorem fsE_le (E : Nat → Nat → Bool) (p : Nat) : fsE E p ≤ p := lst_le _ _
theorem fsE_rel {N : Nat} {E : Nat → Nat → Bool} (hE : eqv N E) {p : Nat} (hp : p < N) : E (fsE E p) p = true := by
  rcases Nat.lt_or_ge (fsE E p) p with h | h
  · exact lst_yes (fun i => E i p) p h
  · rw [show fsE E p = p from Nat.le_antisymm (fsE_le E p) h]; exact hE.1 p hp
theorem fsE_min {E : Nat → Nat → Bool} {p i : Nat} (h : i < fsE E p) : E i p = false := lst_no (fun i => E i p) p i h
theorem fsE_eq {N : Nat} {E : Nat → Nat → Bool} (hE : eqv N E) {p q : Nat} (hp : p < N) (hq : q < N) : fsE E p = fsE E q ↔ E p q = true := by
  have ap := fsE_le E p
  have aq := fsE_le E q
  have rp := fsE_rel hE hp
  have rq := fsE_rel hE hq
  constructor
  · intro h
    have h1 : E p (fsE E p) = true := hE.2.1 _ _ (by omega) hp rp
    rw [h] at h1
    exact hE.2.2 _ _ _ hp (by omega) hq h1 rq
  · intro h
    rcases Nat.lt_trichotomy (fsE E p) (fsE E q) with g | g | g
    · have := fsE_min g
      rw [hE.2.2 _ _ _ (by omega) hp hq rp h] at this
      cases this
    · exact g
    · have := fsE_min g
      rw [hE.2.2 _ _ _ (by omega) hq hp rq (hE.2.1 _ _ hp hq h)] at this
      cases this
theorem fsE_fs {N : Nat} {E : Nat → Nat → Bool} (hE : eqv N E) {p : Nat} (hp : p < N) : fsE E (fsE E p) = fsE E p :=
  (fsE_eq hE (Nat.lt_of_le_of_lt (fsE_le E p) hp) hp).mpr (fsE_rel hE hp)
theorem numE_mono (E : Nat → Nat → Bool) (m : Nat) : ∀ n, numE E m ≤ numE E (m + n)
  | 0 => Nat.le_refl _
  | n + 1 => by
    have := numE_mono E m n
    show _ ≤ numE E (m + n + 1)
    rw [numE]
    split <;> omega
theorem numE_le (E : Nat → Nat → Bool) : ∀ n, numE E n ≤ n
  | 0 => Nat.le_refl _
  | n + 1 => by
    have := numE_le E n
    rw [numE]
    split <;> omega
theorem numE_rep {E : Nat → Nat → Bool} {p : Nat} (h : fsE E p = p) : numE E (p + 1) = numE E p + 1 := by rw [numE, if_neg (by omega)]
theorem numE_lt {E : Nat → Nat → Bool} {p q : Nat} (h : fsE E p = p) (hpq : p < q) : numE E p < numE E q := by
  have h1 := numE_rep h
  have h2 := numE_mono E (p + 1) (q - (p + 1))
  rw [show p + 1 + (q - (p + 1)) = q by omega] at h2
  omega
theorem numE_inj {E : Nat → Nat → Bool} {p q : Nat} (h : fsE E p = p) (h2 : fsE E q = q) (e : numE E p = numE E q) : p = q := by
  rcases Nat.lt_trichotomy p q with g | g | g
  · have := numE_lt h g; omega
  · exact g
  · have := numE_lt h2 g; omega
/-- relations that agree below N -/
def agr (N : Nat) (E E' : Nat → Nat → Bool) : Prop := ∀ p q, p < N → q < N → E p q = E' p q
theorem lst_congr {P P' : Nat → Bool} : ∀ n, (∀ k, k < n → P k = P' k) → lst P n = lst P' n
  | 0, _ => rfl
  | n + 1, h => by rw [lst, lst, lst_congr n (fun k hk => h k (by omega)), h n (by omega)]
theorem fsE_congr {N : Nat} {E E' : Nat → Nat → Bool} (h : agr N E E') {p : Nat} (hp : p < N) : fsE E p = fsE E' p := lst_congr p (fun k hk => h k p (by omega) hp)
theorem numE_congr {N : Nat} {E E' : Nat → Nat → Bool} (h : agr N E E') : ∀ n, n ≤ N → numE E n = numE E' n
  | 0, _ => rfl
  | n + 1, hn => by rw [numE, numE, numE_congr h n (by omega), fsE_congr h (show n < N by omega)]
theorem agr_fs {N : Nat} {E E' : Nat → Nat → Bool} (hE : eqv N E) (hE' : eqv N E') (h : ∀ p, p < N → fsE E' p = fsE E p) : agr N E' E := by
  intro p q hp hq
  have h1 := fsE_eq hE hp hq
  have h2 := fsE_eq hE' hp hq
  rw [h p hp, h q hq] at h2
  exact Bool.eq_iff_iff.mpr (h2.symm.trans h1)
/-- a finer relation has no fewer classes; as many only if it is the same -/
theorem fine_rep {N : Nat} {E E' : Nat → Nat → Bool} (hf : ∀ p q, p < N → q < N → E' p q = true → E p q = true) {p : Nat} (hp : p < N) (h : fsE E p = p) : fsE E' p = p := by
  refine lst_none (fun k hk => ?_)
  cases hc : E' k p with
  | false => rfl
  | true =>
    have h1 := hf k p (by omega) hp hc
    have h2 := fsE_min (E := E) (p := p) (i := k) (by omega)
    rw [h1] at h2
    cases h2
theorem fine_step {N : Nat} {E E' : Nat → Nat → Bool} (hf : ∀ p q, p < N → q < N → E' p q = true → E p q = true) {p : Nat} (hp : p < N) : numE E (p + 1) + numE E' p ≤ numE E' (p + 1) + numE E p := by
  rw [numE, numE]
  by_cases h : fsE E p < p
  · rw [if_pos h]; split <;> omega
  · have h1 : fsE E p = p := by have := fsE_le E p; omega
    have h2 := fine_rep hf hp h1
    rw [if_neg h, if_neg (by omega)]
    omega
theorem fine_up {N : Nat} {E E' : Nat → Nat → Bool} (hf : ∀ p q, p < N → q < N → E' p q = true → E p q = true) (m : Nat) : ∀ n, m + n ≤ N → numE E (m + n) + numE E' m ≤ numE E' (m + n) + numE E m
  | 0, _ => by rw [Nat.add_zero]; omega
  | n + 1, h => by
    have h1 := fine_up hf m n (by omega)
    have h2 := fine_step hf (p := m + n) (by omega)
    show numE E (m + n + 1) + _ ≤ numE E' (m + n + 1) + _
    omega
theorem fine_le {N : Nat} {E E' : Nat → Nat → Bool} (hf : ∀ p q, p < N → q < N → E' p q = true → E p q = true) : numE E N ≤ numE E' N := by
  have := fine_up hf 0 N (by omega)
  rw [Nat.zero_add] at this
  simpa [numE] using this
theorem fine_eq {N : Nat} {E E' : Nat → Nat → Bool} (hE : eqv N E) (hE' : eqv N E') (hf : ∀ p q, p < N → q < N → E' p q = true → E p q = true) (e : numE E' N = numE E N) : ∀ p, p < N → fsE E' p = fsE E p := by
  have rep : ∀ p, p < N → fsE E' p = p → fsE E p = p := by
    intro p hp h
    have h1 := fine_up hf 0 p (by omega)
    have h2 := fine_up hf (p + 1) (N - (p + 1)) (by omega)
    rw [Nat.zero_add] at h1
    rw [show p + 1 + (N - (p + 1)) = N by omega] at h2
    have z1 : numE E 0 = 0 := rfl
    have z2 : numE E' 0 = 0 := rfl
    have h3 := numE_rep h
    by_cases g : fsE E p < p
    · have h4 : numE E (p + 1) = numE E p := by rw [numE, if_pos g]
      omega
    · have := fsE_le E p; omega
  intro p hp
  have hr := fsE_fs hE' hp
  have hlt : fsE E' p < N := Nat.lt_of_le_of_lt (fsE_le E' p) hp
  have h1 := rep _ hlt hr
  have h2 := hf _ _ hlt hp (fsE_rel hE' hp)
  have h3 := (fsE_eq hE hlt hp).mpr h2
  rw [h1] at h3
  exact h3
/-- how many of d things are c -/
def cnt (h : Nat → Nat) (c : Nat) : Nat → Nat
  | 0 => 0
  | d + 1 => cnt h c d + (if h d = c then 1 else 0)
theorem cnt_le (h : Nat → Nat) (c : Nat) : ∀ d, cnt h c d ≤ d
  | 0 => Nat.le_refl _
  | d + 1 => by have := cnt_le h c d; rw [cnt]; split <;> omega
theorem cnt_congr {h h' : Nat → Nat} {c c' : Nat} : ∀ d, (∀ i, i < d → (h i = c ↔ h' i = c')) → cnt h c d = cnt h' c' d
  | 0, _ => rfl
  | d + 1, g => by
    rw [cnt, cnt, cnt_congr d (fun i hi => g i (by omega))]
    by_cases e : h d = c
    · rw [if_pos e, if_pos ((g d (by omega)).mp e)]
    · rw [if_neg e, if_neg (fun z => e ((g d (by omega)).mpr z))]
theorem cnt_zero {h : Nat → Nat} {c : Nat} : ∀ d, (∀ i, i < d → h i ≠ c) → cnt h c d = 0
  | 0, _ => rfl
  | d + 1, g => by rw [cnt, cnt_zero d (fun i hi => g i (by omega)), if_neg (g d (by omega))]
/-- the place to which a door leads -/
def led (to : Nat → Nat) (p d : Nat) : Nat := to (p * 4 + d) / 4
/-- the next, finer relation -/
def nxE (pl dr : Nat) (to : Nat → Nat) (E : Nat → Nat → Bool) : Nat → Nat → Bool := fun p q => E p q && decide (∀ c, c < pl → cnt (fun d => fsE E (led to p d)) c dr = cnt (fun d => fsE E (led to q d)) c dr)
def itE (pl dr : Nat) (to : Nat → Nat) (mk : Nat → Bool) : Nat → Nat → Nat → Bool
  | 0 => fun p q => decide (mk p = mk q)
  | k + 1 => nxE pl dr to (itE pl dr to mk k)
theorem nxE_iff {pl dr : Nat} {to : Nat → Nat} {E : Nat → Nat → Bool} {p q : Nat} : nxE pl dr to E p q = true ↔ E p q = true ∧ ∀ c, c < pl → cnt (fun d => fsE E (led to p d)) c dr = cnt (fun d => fsE E (led to q d)) c dr := by
  unfold nxE
  rw [Bool.and_eq_true, decide_eq_true_iff]
theorem nxE_eqv {pl dr : Nat} {to : Nat → Nat} {E : Nat → Nat → Bool} (hE : eqv pl E) : eqv pl (nxE pl dr to E) := by
  refine ⟨fun p hp => nxE_iff.mpr ⟨hE.1 p hp, fun _ _ => rfl⟩, fun p q hp hq h => ?_, fun p q r hp hq hr h1 h2 => ?_⟩
  · have h := nxE_iff.mp h
    exact nxE_iff.mpr ⟨hE.2.1 p q hp hq h.1, fun c hc => (h.2 c hc).symm⟩
  · have h1 := nxE_iff.mp h1
    have h2 := nxE_iff.mp h2
    exact nxE_iff.mpr ⟨hE.2.2 p q r hp hq hr h1.1 h2.1, fun c hc => (h1.2 c hc).trans (h2.2 c hc)⟩
theorem nxE_fine {pl dr : Nat} {to : Nat → Nat} {E : Nat → Nat → Bool} : ∀ p q, p < pl → q < pl → nxE pl dr to E p q = true → E p q = true := fun _ _ _ _ h => (nxE_iff.mp h).1
theorem nxE_agr {pl dr : Nat} {to : Nat → Nat} {E E' : Nat → Nat → Bool} (hled : ∀ p d, p < pl → d < dr → led to p d < pl) (h : agr pl E E') : agr pl (nxE pl dr to E) (nxE pl dr to E') := by
  intro p q hp hq
  refine Bool.eq_iff_iff.mpr ?_
  rw [nxE_iff, nxE_iff, h p q hp hq]
  have e : ∀ p, p < pl → ∀ c, cnt (fun d => fsE E (led to p d)) c dr = cnt (fun d => fsE E' (led to p d)) c dr := fun p hp c => cnt_congr dr (fun i hi => by rw [fsE_congr h (hled p i hp hi)])
  constructor
  · intro g; exact ⟨g.1, fun c hc => by rw [← e p hp, ← e q hq]; exact g.2 c hc⟩
  · intro g; exact ⟨g.1, fun c hc => by rw [e p hp, e q hq]; exact g.2 c hc⟩
theorem itE_eqv {pl dr : Nat} {to : Nat → Nat} {mk : Nat → Bool} : ∀ k, eqv pl (itE pl dr to mk k)
  | 0 => ⟨fun _ _ => decide_eq_true rfl, fun _ _ _ _ h => decide_eq_true (of_decide_eq_true h).symm, fun _ _ _ _ _ _ h1 h2 => decide_eq_true ((of_decide_eq_true h1).trans (of_decide_eq_true h2))⟩
  | k + 1 => nxE_eqv (itE_eqv k)
/-- once a round parts nothing, none does -/
theorem itE_stay {pl dr : Nat} {to : Nat → Nat} {mk : Nat → Bool} (hled : ∀ p d, p < pl → d < dr → led to p d < pl) {k : Nat} (h : ∀ p, p < pl → fsE (itE pl dr to mk (k + 1)) p = fsE (itE pl dr to mk k) p) : ∀ j, agr pl (itE pl dr to mk (k + j)) (itE pl dr to mk k)
  | 0 => fun _ _ _ _ => rfl
  | j + 1 => by
    have h1 := nxE_agr hled (itE_stay hled h j) (dr := dr)
    have h2 := agr_fs (itE_eqv k) (itE_eqv (k + 1)) h
    intro p q hp hq
    exact (h1 p q hp hq).trans (h2 p q hp hq)
/-- the numbers that the last relation gives: a place's class, how many -/
def lastE (pl dr : Nat) (to : Nat → Nat) (mk : Nat → Bool) : Nat → Nat → Bool := itE pl dr to mk pl
def clsA (pl dr : Nat) (to : Nat → Nat) (mk : Nat → Bool) (p : Nat) : Nat := numE (lastE pl dr to mk) (fsE (lastE pl dr to mk) p)
def numA (pl dr : Nat) (to : Nat → Nat) (mk : Nat → Bool) : Nat := numE (lastE pl dr to mk) pl
/-! keys: sums of powers of 8 -/
def sm8 (h : Nat → Nat) : Nat → Nat
  | 0 => 0
  | d + 1 => sm8 h d + 2 ^ (3 * h d)
theorem p8 (n : Nat) : 2 ^ (3 * n) = 8 ^ n := by rw [Nat.pow_mul]
theorem dig_add {S c j : Nat} (h : S / 8 ^ c % 8 < 7) : (S + 8 ^ c) / 8 ^ j % 8 = S / 8 ^ j % 8 + (if c = j then 1 else 0) := by
  have pos : ∀ n : Nat, 0 < 8 ^ n := fun n => Nat.pow_pos (by omega)
  rcases Nat.lt_trichotomy j c with g | g | g
  · rw [if_neg (by omega), show c = j + (c - j - 1 + 1) by omega, Nat.pow_add, Nat.pow_succ, Nat.add_mul_div_left _ _ (pos j), Nat.mul_comm (8 ^ (c - j - 1)) 8, Nat.add_mul_mod_self_left, Nat.add_zero]
  · subst g
    rw [if_pos rfl, Nat.add_div_right _ (pos j)]
    omega
  · rw [if_neg (by omega), Nat.add_zero]
    have e : (S + 8 ^ c) / 8 ^ (c + 1) = S / 8 ^ (c + 1) := by
      rw [Nat.pow_succ, ← Nat.div_div_eq_div_mul, ← Nat.div_div_eq_div_mul, Nat.add_div_right _ (pos c)]
      omega
    rw [show j = (c + 1) + (j - (c + 1)) by omega, Nat.pow_add, ← Nat.div_div_eq_div_mul, ← Nat.div_div_eq_div_mul, e]
theorem sm8_dig (h : Nat → Nat) (j : Nat) : ∀ d, d ≤ 7 → sm8 h d / 8 ^ j % 8 = cnt h j d
  | 0, _ => by simp [sm8, cnt]
  | d + 1, hd => by
    have ih : ∀ j, sm8 h d / 8 ^ j % 8 = cnt h j d := fun j => sm8_dig h j d (by omega)
    rw [sm8, cnt, p8, dig_add (by rw [ih]; have := cnt_le h (h d) d; omega), ih]
def t8 (f : Nat → Nat) : Nat → Nat
  | 0 => 0
  | n + 1 => t8 f n + f n * 8 ^ n
theorem t8_congr {f g : Nat → Nat} : ∀ n, (∀ k, k < n → f k = g k) → t8 f n = t8 g n
  | 0, _ => rfl
  | n + 1, h => by rw [t8, t8, t8_congr n (fun k hk => h k (by omega)), h n (by omega)]
theorem t8_add (f : Nat → Nat) (c : Nat) : ∀ n, t8 (fun j => f j + (if c = j then 1 else 0)) n = t8 f n + (if c < n then 8 ^ c else 0)
  | 0 => by simp [t8]
  | n + 1 => by
    rw [t8, t8, t8_add f c n]
    by_cases h : c < n
    · rw [if_pos h, if_neg (by omega), if_pos (by omega), Nat.add_zero]; omega
    · by_cases h2 : c = n
      · subst h2
        rw [if_neg h, if_pos rfl, if_pos (by omega), Nat.add_mul]; omega
      · rw [if_neg h, if_neg h2, if_neg (by omega), Nat.add_zero, Nat.add_zero, Nat.add_zero]
theorem t8_0 : ∀ n, t8 (fun _ => 0) n = 0
  | 0 => rfl
  | n + 1 => by rw [t8, t8_0 n]; simp
theorem sm8_t8 (h : Nat → Nat) (n : Nat) : ∀ d, (∀ i, i < d → h i < n) → sm8 h d = t8 (fun j => cnt h j d) n
  | 0, _ => by rw [sm8]; exact (t8_0 n).symm
  | d + 1, g => by
    rw [sm8, sm8_t8 h n d (fun i hi => g i (by omega)), p8]
    have := t8_add (fun j => cnt h j d) (h d) n
    rw [if_pos (g d (by omega))] at this
    rw [← this]
    rfl
theorem sm8_lt {h : Nat → Nat} : ∀ d, (∀ i, i < d → h i < 12) → sm8 h d ≤ d * 2 ^ 33
  | 0, _ => by simp [sm8]
  | d + 1, g => by
    have h1 := sm8_lt d (fun i hi => g i (by omega))
    have h2 : 2 ^ (3 * h d) ≤ 2 ^ 33 := Nat.pow_le_pow_right (by omega) (by have := g d (by omega); omega)
    rw [sm8, Nat.add_mul]
    omega
/-- a place's key, out of the numbers of the classes -/
def keyN (dr : Nat) (to : Nat → Nat) (cl : Nat → Nat) (p : Nat) : Nat := cl p * 2 ^ 36 + sm8 (fun d => cl (led to p d)) dr
theorem key_iff {pl dr : Nat} {to : Nat → Nat} {E : Nat → Nat → Bool} (hE : eqv pl E) (h12 : pl ≤ 12) (hd : dr ≤ 4) (hled : ∀ p d, p < pl → d < dr → led to p d < pl) {p q : Nat} (hp : p < pl) (hq : q < pl) :
    keyN dr to (fun a => numE E (fsE E a)) p = keyN dr to (fun a => numE E (fsE E a)) q ↔ nxE pl dr to E p q = true := by
  have small : ∀ a, a < pl → numE E (fsE E a) < 12 := by
    intro a ha
    have h1 := fsE_le E a
    have h2 := numE_lt (fsE_fs hE ha) (show fsE E a < pl by omega)
    have h3 := numE_le E pl
    omega
  have lt : ∀ a, a < pl → sm8 (fun d => numE E (fsE E (led to a d))) dr < 2 ^ 36 := by
    intro a ha
    have := sm8_lt (h := fun d => numE E (fsE E (led to a d))) dr (fun i hi => small _ (hled a i ha hi))
    have e : dr * 2 ^ 33 ≤ 4 * 2 ^ 33 := Nat.mul_le_mul_right _ hd
    omega
  have inj : ∀ a b, a < pl → b < pl → (numE E (fsE E a) = numE E (fsE E b) ↔ fsE E a = fsE E b) := fun a b ha hb => ⟨fun h => numE_inj (fsE_fs hE ha) (fsE_fs hE hb) h, fun h => by rw [h]⟩
  -- counts by numbers and by least members
  have cc : ∀ a, a < pl → ∀ b, b < pl → cnt (fun d => numE E (fsE E (led to a d))) (numE E (fsE E b)) dr = cnt (fun d => fsE E (led to a d)) (fsE E b) dr := fun a ha b hb => cnt_congr dr (fun i hi => inj _ _ (hled a i ha hi) hb)
  rw [nxE_iff]
  dsimp only [keyN]
  have l1 := lt p hp
  have l2 := lt q hq
  constructor
  · intro h
    have e1 : numE E (fsE E p) = numE E (fsE E q) := by omega
    have e2 : sm8 (fun d => numE E (fsE E (led to p d))) dr = sm8 (fun d => numE E (fsE E (led to q d))) dr := by omega
    refine ⟨(fsE_eq hE hp hq).mp ((inj p q hp hq).mp e1), fun c hc => ?_⟩
    by_cases hr : fsE E c = c
    · have h1 := cc p hp c hc
      have h2 := cc q hq c hc
      rw [hr] at h1 h2
      rw [← h1, ← h2, ← sm8_dig _ _ dr (by omega), ← sm8_dig _ _ dr (by omega), e2]
    · rw [cnt_zero dr (fun i hi z => hr (by rw [← z]; exact fsE_fs hE (hled p i hp hi))), cnt_zero dr (fun i hi z => hr (by rw [← z]; exact fsE_fs hE (hled q i hq hi)))]
  · intro ⟨h1, h2⟩
    have e1 : fsE E p = fsE E q := (fsE_eq hE hp hq).mpr h1
    have e2 : sm8 (fun d => numE E (fsE E (led to p d))) dr = sm8 (fun d => numE E (fsE E (led to q d))) dr := by
      rw [sm8_t8 _ 12 dr (fun i hi => small _ (hled p i hp hi)), sm8_t8 _ 12 dr (fun i hi => small _ (hled q i hq hi))]
      refine t8_congr 12 (fun j hj => ?_)
      by_cases ex : ∃ b, b < pl ∧ numE E (fsE E b) = j
      · obtain ⟨b, hb, rfl⟩ := ex
        have hb2 : fsE E b < pl := by have := fsE_le E b; omega
        rw [cc p hp b hb, cc q hq b hb]
        exact h2 _ hb2
      · rw [cnt_zero dr (fun i hi z => ex ⟨_, hled p i hp hi, z⟩), cnt_zero dr (fun i hi z => ex ⟨_, hled q i hq hi, z⟩)]
    rw [e1, e2]
end
section
def jnF (to : Nat → Nat) (a b k : Nat) : Nat := if k = b then a else if k = a then b else if k = to b then to b else if k = to a then to a else to k
theorem jn_upd {to : Nat → Nat} {a b k : Nat} {f : Nat → Int32} (h : f k = nI (to k)) : nI (jnF to a b k) = upd (upd (upd (upd f (to a) (nI (to a))) (to b) (nI (to b))) a (nI b)) b (nI a) k := by
  unfold jnF upd
  by_cases h1 : k = b
  · rw [if_pos h1, if_pos h1]
  · rw [if_neg h1, if_neg h1]
    by_cases h2 : k = a
    · rw [if_pos h2, if_pos h2]
    · rw [if_neg h2, if_neg h2]
      by_cases h3 : k = to b
      · rw [if_pos h3, if_pos h3]
      · rw [if_neg h3, if_neg h3]
        by_cases h4 : k = to a
        · rw [if_pos h4, if_pos h4]
        · rw [if_neg h4, if_neg h4, h]
def isC (L : List Nat) (G : mG) (cl op ke : Nat) : Prop := cl ∈ L ∧ kd cl = 0 ∧ G cl 0 = some op ∧ op ∈ L ∧ kd op = 6 ∧ ln op = 12 ∧ G cl 1 = some ke ∧ ke ∈ L ∧ kd ke = 7 ∧ ln ke = 12
def keyE (κ : Nat → Int64) : Nat → Nat → Bool := fun i p => decide (κ i = κ p)
theorem fs_hit {κ : Nat → Int64} {a b : Nat} (hb : b < a) (h : ∀ i, i < b → κ i ≠ κ a) (e : κ b = κ a) : fsE (keyE κ) a = b ∧ fsE (keyE κ) b = b :=
  ⟨lst_of hb (fun k hk => decide_eq_false (h k hk)) (decide_eq_true e), lst_none (fun k hk => decide_eq_false (by rw [e]; exact h k hk))⟩
theorem fs_miss {κ : Nat → Int64} {a : Nat} (h : ∀ i, i < a → κ i ≠ κ a) : fsE (keyE κ) a = a := lst_none (fun k hk => decide_eq_false (h k hk))
theorem one_shl {k : Nat} (hk : k < 64) : (1 : Int64) <<< ((nI k).toInt64 &&& 63) = lN (2 ^ k) := by
  have := wb_shl 1 hk
  rw [Nat.one_mul] at this
  exact this
theorem num_small {pl p : Nat} {E : Nat → Nat → Bool} (hE : eqv pl E) (h12 : pl ≤ 12) (hp : p < pl) : numE E (fsE E p) < 12 := by
  have h1 := fsE_le E p
  have h2 := numE_lt (fsE_fs hE hp) (show fsE E p < pl by omega)
  have h3 := numE_le E pl
  omega
theorem key0_agr {pl dr a : Nat} {to : Nat → Nat} {mk : Nat → Bool} {f : Nat → Int64} (ha : pl ≤ a) : agr pl (keyE (fun p => if p < a then lN (if mk p = true then 1 else 0) else f p)) (itE pl dr to mk 0) := by
  intro p q hp hq
  refine Bool.eq_iff_iff.mpr ?_
  show decide _ = true ↔ decide _ = true
  rw [decide_eq_true_iff, decide_eq_true_iff]
  dsimp only
  rw [if_pos (show p < a by omega), if_pos (show q < a by omega)]
  cases mk p <;> cases mk q <;> decide
theorem key1_agr {pl dr : Nat} {to : Nat → Nat} {E : Nat → Nat → Bool} {f : Nat → Int64} (hE : eqv pl E) (h12 : pl ≤ 12) (hd : dr ≤ 4) (hled : ∀ p d, p < pl → d < dr → led to p d < pl) : agr pl (keyE (fun p => if p < pl then lN (keyN dr to (fun a => numE E (fsE E a)) p) else f p)) (nxE pl dr to E) := by
  intro p q hp hq
  have small : ∀ p, p < pl → keyN dr to (fun a => numE E (fsE E a)) p < 2 ^ 63 := by
    intro p hp
    have h1 := num_small hE h12 hp
    have h2 := sm8_lt (h := fun d => numE E (fsE E (led to p d))) dr (fun i hi => num_small hE h12 (hled p i hp hi))
    have h3 : dr * 2 ^ 33 ≤ 4 * 2 ^ 33 := Nat.mul_le_mul_right _ hd
    dsimp only [keyN]
    omega
  refine Bool.eq_iff_iff.mpr (Iff.trans ?_ (key_iff hE h12 hd hled hp hq))
  show decide _ = true ↔ _
  dsimp only
  rw [decide_eq_true_iff, if_pos hp, if_pos hq]
  exact pk_lEQ (small p hp) (small q hq)
theorem part_stop {pl dr k : Nat} {to : Nat → Nat} {mk : Nat → Bool} (hled : ∀ p d, p < pl → d < dr → led to p d < pl) (st : ∀ p, p < pl → fsE (itE pl dr to mk (k + 1)) p = fsE (itE pl dr to mk k) p) (hk : k < pl) : agr pl (itE pl dr to mk (k + 1)) (itE pl dr to mk pl) := by
  intro p q hp hq
  have h1 := itE_stay hled st 1 p q hp hq
  have h2 := itE_stay hled st (pl - k) p q hp hq
  rw [show k + (pl - k) = pl by omega] at h2
  rw [h1, h2]
abbrev rmX1_joinCells : Room := { frames := 0, cells := 0, slots := 0, locals := 0 }
set_option maxHeartbeats 4000000 in
set_option maxRecDepth 100000 in
theorem c_X1_joinCells (l : Launch) (D : va_G) (cy : Nat → ClassId) (L : List Nat) (ad : Nat → Nat) (G : mG) (I : mI) (J : mJ) (n t k : Nat) (hN : isN L G n t k) (to : Nat → Nat) (hto : ∀ c, c < 48 → I t c = nI (to c)) (ht48 : ∀ c, c < 48 → to c < 48) (a b : Nat) (ha : a < 48) (hb48 : b < 48) : pMet l yX1_joinCells wsX1_joinCells rmX1_joinCells D cy L ad G I J [.ref (ad n), .int (nI a), .int (nI b)] (qV (fun I' J' => I' = va_up I t (fun k => nI (jnF to a b k)) ∧ J' = J) D cy L ad G) := by
  refine pMet.ofV (cc := cX1_joinCells) (maxL := 5) (by decide +kernel) rfl (Nat.le_of_ble_eq_true rfl) ?_
  intro p e R s m args below meth c A Q C hml hR hg ret hW ls hl
  subst hR
  have C : Cx p s m args c cX1_joinCells RX1 wsX1_joinCells D cy A := C
  have hx := C.1
  have hb := C.2.1
  have lk9 := C.2.2.2.1 (.fieldLink RX1 9 "WaveWalk$Net" "ledTo" "[I") (by decide +kernel)
  have hinX1 : ∀ w ∈ wsX10, w ∈ wsX1_joinCells := by decide +kernel
  have hl : lv_has ls 5 [(0, .ref (ad n)), (1, .int (nI a)), (2, .int (nI b))] := hl
  obtain ⟨hn, kn, gt, ht, kt, lt, gk, hk, kk, lk⟩ := id hN
  have hta := ht48 a ha
  have htb := ht48 b hb48
  have hW : Wd D cy A s.heap s.heap [] L ad G (va_up I t (I t)) J := by rw [up_same]; exact hW
  refine lv_aload_n hx hb dX1_joinCells_0 rfl (lv_at hl 0 rfl) ?_
  refine g_X1_4 C hinX1 hW hn kn gt lk9 dX1_joinCells_1 ?_
  refine lv_iload_n hx hb dX1_joinCells_4 rfl (lv_at hl 1 rfl) ?_
  refine p_iald C hW ht kt (k := a) rfl (by rw [lt]; omega) dX1_joinCells_5 ?_
  refine w_top (y := .int ((I t) a)) (by rw [va_up_self]) ?_
  refine w_top (y := .int (nI (to a))) (by rw [hto _ ha]) ?_
  refine lv_istore_n (lv' := [(3, .int (nI (to a))), (0, .ref (ad n)), (1, .int (nI a)), (2, .int (nI b))]) hx hb dX1_joinCells_6 rfl hl (by decide) rfl (fun ls hl => ?_)
  refine lv_aload_n hx hb dX1_joinCells_7 rfl (lv_at hl 1 rfl) ?_
  refine g_X1_4 C hinX1 hW hn kn gt lk9 dX1_joinCells_8 ?_
  refine lv_iload_n hx hb dX1_joinCells_11 rfl (lv_at hl 3 rfl) ?_
  refine p_iald C hW ht kt (k := b) rfl (by rw [lt]; omega) dX1_joinCells_12 ?_
  refine w_top (y := .int ((I t) b)) (by rw [va_up_self]) ?_
  refine w_top (y := .int (nI (to b))) (by rw [hto _ hb48]) ?_
  refine lv_istore (lv' := [(4, .int (nI (to b))), (3, .int (nI (to a))), (0, .ref (ad n)), (1, .int (nI a)), (2, .int (nI b))]) hx hb dX1_joinCells_13 hl (by decide) rfl (fun ls hl => ?_)
  refine lv_aload_n hx hb dX1_joinCells_15 rfl (lv_at hl 2 rfl) ?_
  refine g_X1_4 C hinX1 hW hn kn gt lk9 dX1_joinCells_16 ?_
  refine lv_iload_n hx hb dX1_joinCells_19 rfl (lv_at hl 1 rfl) ?_
  refine lv_iload_n hx hb dX1_joinCells_20 rfl (lv_at hl 1 rfl) ?_
  refine p_iast C hW ht kt (k := to a) rfl (by rw [lt]; omega) dX1_joinCells_21 (fun H locs hW => ?_)
  rw [va_up_self, up_up] at hW
  refine lv_aload_n hx hb dX1_joinCells_22 rfl (lv_at hl 2 rfl) ?_
  refine g_X1_4 C hinX1 hW hn kn gt lk9 dX1_joinCells_23 ?_
  refine lv_iload hx hb dX1_joinCells_26 (lv_at hl 0 rfl) ?_
  refine lv_iload hx hb dX1_joinCells_28 (lv_at hl 0 rfl) ?_
  refine p_iast C hW ht kt (k := to b) rfl (by rw [lt]; omega) dX1_joinCells_30 (fun H locs hW => ?_)
  rw [va_up_self, up_up] at hW
  refine lv_aload_n hx hb dX1_joinCells_31 rfl (lv_at hl 2 rfl) ?_
  refine g_X1_4 C hinX1 hW hn kn gt lk9 dX1_joinCells_32 ?_
  refine lv_iload_n hx hb dX1_joinCells_35 rfl (lv_at hl 3 rfl) ?_
  refine lv_iload_n hx hb dX1_joinCells_36 rfl (lv_at hl 4 rfl) ?_
  refine p_iast C hW ht kt (k := a) rfl (by rw [lt]; omega) dX1_joinCells_37 (fun H locs hW => ?_)
  rw [va_up_self, up_up] at hW
  refine lv_aload_n hx hb dX1_joinCells_38 rfl (lv_at hl 2 rfl) ?_
  refine g_X1_4 C hinX1 hW hn kn gt lk9 dX1_joinCells_39 ?_
  refine lv_iload_n hx hb dX1_joinCells_42 rfl (lv_at hl 4 rfl) ?_
  refine lv_iload_n hx hb dX1_joinCells_43 rfl (lv_at hl 3 rfl) ?_
  refine p_iast C hW ht kt (k := b) rfl (by rw [lt]; omega) dX1_joinCells_44 (fun H locs hW => ?_)
  rw [va_up_self, up_up] at hW
  have hW := Wd_setI (g := (fun k => nI (jnF to a b k))) hW (Or.inl kt) (by rw [lt]; exact (fun k hk => jn_upd (hto k hk)))
  exact ret _ _ _ _ _ _ _ _ (Nat.le_of_ble_eq_true rfl) (Nat.le_of_ble_eq_true rfl) hW ⟨rfl, rfl⟩ dX1_joinCells_45
abbrev rmX0_numberByKeys : Room := { frames := 0, cells := 0, slots := 0, locals := 0 }
set_option maxHeartbeats 4000000 in
set_option maxRecDepth 100000 in
theorem c_X0_numberByKeys (l : Launch) (D : va_G) (cy : Nat → ClassId) (L : List Nat) (ad : Nat → Nat) (G : mG) (I : mI) (J : mJ) (cl op ke : Nat) (hC : isC L G cl op ke) (pl : Nat) (hp12 : pl ≤ 12) : pMet l yX0_numberByKeys wsX0_numberByKeys rmX0_numberByKeys D cy L ad G I J [.ref (ad cl), .int (nI pl)] (qV (fun I' J' => (∀ r, r ≠ op → r ≠ cl → I' r = I r) ∧ (∀ p, p < pl → I' op p = nI (numE (keyE (J ke)) (fsE (keyE (J ke)) p))) ∧ I' cl 2 = nI (numE (keyE (J ke)) pl) ∧ J' = J) D cy L ad G) := by
  refine pMet.ofV (cc := cX0_numberByKeys) (maxL := 4) (by decide +kernel) rfl (Nat.le_of_ble_eq_true rfl) ?_
  intro p e R s m args below meth c A Q C hml hR hg ret hW ls hl
  subst hR
  have C : Cx p s m args c cX0_numberByKeys RX0 wsX0_numberByKeys D cy A := C
  have hx := C.1
  have hb := C.2.1
  have lk11 := C.2.2.2.1 (.fieldLink RX0 11 "WaveWalk$Classes" "ofPlace" "[I") (by decide +kernel)
  have lk15 := C.2.2.2.1 (.fieldLink RX0 15 "WaveWalk$Classes" "keys" "[J") (by decide +kernel)
  have lk19 := C.2.2.2.1 (.fieldLink RX0 19 "WaveWalk$Classes" "number" "I") (by decide +kernel)
  have hinX0 : ∀ w ∈ wsX00, w ∈ wsX0_numberByKeys := by decide +kernel
  have hl : lv_has ls 4 [(0, .ref (ad cl)), (1, .int (nI pl))] := hl
  obtain ⟨hcl, kcl, gop, hop0, kop, lop, gke, hke, kke, lke⟩ := id hC
  have hco : cl ≠ op := fun h => by have := kcl; rw [h, kop] at this; exact absurd this (by decide)
  refine lv_aload_n hx hb dX0_numberByKeys_0 rfl (lv_at hl 0 rfl) ?_
  refine lv_iconst (v := nI 0) hx hb dX0_numberByKeys_1 (by decide) ?_
  refine s_X0_2 C hinX0 hW hcl kcl lk19 dX0_numberByKeys_2 (fun H locs hW => ?_)
  obtain ⟨I1, eI1⟩ : ∃ z, z = va_up I cl (upd (I cl) 2 (nI 0)) := ⟨_, rfl⟩
  rw [← eI1] at hW
  refine lv_iconst (v := nI 0) hx hb dX0_numberByKeys_5 (by decide) ?_
  refine lv_istore_n (lv' := [(2, .int (nI 0)), (0, .ref (ad cl)), (1, .int (nI pl))]) hx hb dX0_numberByKeys_6 rfl hl (by decide) rfl (fun ls hl => ?_)
  have lp7 : ∀ (nn : Nat) (a : Nat) (I7 : mI), (a ≤ pl) → (pl + 1 ≤ a + nn) → (∀ r, r ≠ op → r ≠ cl → I7 r = I r) → (∀ p, p < a → I7 op p = nI (numE (keyE (J ke)) (fsE (keyE (J ke)) p))) → (I7 cl 2 = nI (numE (keyE (J ke)) a)) → ∀ (H : Heap) (locs : List Loc), Wd D cy A s.heap H locs L ad G I7 J → ∀ (ls : Array Slot), lv_has ls 4 [(0, .ref (ad cl)), (1, .int (nI pl)), (2, .int (nI a))] → W p l e rmX0_numberByKeys s m args below meth c H locs 0 0 Q (F0 m 7 ls []) := by
    intro nn
    induction nn with
    | zero => intros; exfalso; omega
    | succ nn ih7 =>
      intro a I7 ha hf hfr hop hnm H locs hW ls hl
      refine lv_iload_n hx hb dX0_numberByKeys_7 rfl (lv_at hl 2 rfl) ?_
      refine lv_iload_n hx hb dX0_numberByKeys_8 rfl (lv_at hl 1 rfl) ?_
      refine n_icmp_ge (tgt := 87) hx hb (by omega) (by omega) dX0_numberByKeys_9 (by decide) (fun h2 => ?_) (fun h2 => ?_)
      · skip
        exact ret _ _ _ _ _ _ _ _ (Nat.le_of_ble_eq_true rfl) (Nat.le_of_ble_eq_true rfl) hW ⟨hfr, fun p hp => hop p (by omega), by rw [hnm, show a = pl by omega], rfl⟩ dX0_numberByKeys_87
      · skip
        refine lv_iconst (v := nI 0) hx hb dX0_numberByKeys_12 (by decide) ?_
        refine lv_istore_n (lv' := [(3, .int (nI 0)), (0, .ref (ad cl)), (1, .int (nI pl)), (2, .int (nI a))]) hx hb dX0_numberByKeys_13 rfl hl (by decide) rfl (fun ls hl => ?_)
        have lp14 : ∀ (nn : Nat) (b : Nat), (b ≤ a) → (a + 1 ≤ b + nn) → (∀ i, i < b → J ke i ≠ J ke a) → ∀ (H : Heap) (locs : List Loc), Wd D cy A s.heap H locs L ad G I7 J → ∀ (ls : Array Slot), lv_has ls 4 [(0, .ref (ad cl)), (1, .int (nI pl)), (2, .int (nI a)), (3, .int (nI b))] → W p l e rmX0_numberByKeys s m args below meth c H locs 0 0 Q (F0 m 14 ls []) := by
          intro nn
          induction nn with
          | zero => intros; exfalso; omega
          | succ nn ih14 =>
            intro b hba hf2 hne H locs hW ls hl
            refine lv_iload_n hx hb dX0_numberByKeys_14 rfl (lv_at hl 3 rfl) ?_
            refine lv_iload_n hx hb dX0_numberByKeys_15 rfl (lv_at hl 2 rfl) ?_
            refine n_icmp_ge (tgt := 41) hx hb (by omega) (by omega) dX0_numberByKeys_16 (by decide) (fun h3 => ?_) (fun h3 => ?_)
            · skip
              refine lv_iload_n hx hb dX0_numberByKeys_41 rfl (lv_at hl 3 rfl) ?_
              refine lv_iload_n hx hb dX0_numberByKeys_42 rfl (lv_at hl 2 rfl) ?_
              refine n_icmp_ge (tgt := 61) hx hb (by omega) (by omega) dX0_numberByKeys_43 (by decide) (fun h4 => ?_) (fun h4 => ?_)
              · skip
                refine lv_aload_n hx hb dX0_numberByKeys_61 rfl (lv_at hl 0 rfl) ?_
                refine g_X0_0 C hinX0 hW hcl kcl gop lk11 dX0_numberByKeys_62 ?_
                refine lv_iload_n hx hb dX0_numberByKeys_65 rfl (lv_at hl 2 rfl) ?_
                refine lv_aload_n hx hb dX0_numberByKeys_66 rfl (lv_at hl 0 rfl) ?_
                refine g_X0_2 C hinX0 hW hcl kcl lk19 dX0_numberByKeys_67 ?_
                refine w_top (y := .int (nI (numE (keyE (J ke)) a))) (by rw [hnm]) ?_
                refine p_iast C hW hop0 kop (k := a) rfl (by rw [lop]; omega) dX0_numberByKeys_70 (fun H locs hW => ?_)
                obtain ⟨I5, eI5⟩ : ∃ z, z = va_up I7 op (upd (I7 op) a (nI (numE (keyE (J ke)) a))) := ⟨_, rfl⟩
                rw [← eI5] at hW
                refine lv_aload_n hx hb dX0_numberByKeys_71 rfl (lv_at hl 0 rfl) ?_
                refine lv_dup hx hb dX0_numberByKeys_72 rfl ?_
                refine g_X0_2 C hinX0 hW hcl kcl lk19 dX0_numberByKeys_73 ?_
                refine w_top (y := .int (nI (numE (keyE (J ke)) a))) (by rw [eI5, va_up_ne _ _ (fun h => by have := kcl; rw [h, kop] at this; exact absurd this (by decide)), hnm]) ?_
                refine lv_iconst (v := nI 1) hx hb dX0_numberByKeys_76 (by decide) ?_
                refine n_iadd hx hb dX0_numberByKeys_77 ?_
                refine s_X0_2 C hinX0 hW hcl kcl lk19 dX0_numberByKeys_78 (fun H locs hW => ?_)
                obtain ⟨I6, eI6⟩ : ∃ z, z = va_up I5 cl (upd (I5 cl) 2 (nI ((numE (keyE (J ke)) a) + 1))) := ⟨_, rfl⟩
                rw [← eI6] at hW
                refine lv_iinc (v := nI (a + 1)) (lv' := [(2, .int (nI (a + 1))), (0, .ref (ad cl)), (1, .int (nI pl)), (3, .int (nI b))]) hx hb dX0_numberByKeys_81 hl (k := 2) rfl (nI_inc _) (by decide) rfl (fun ls hl => ?_)
                refine lv_goto (tgt := 7) hx hb dX0_numberByKeys_84 (by decide) ?_
                have f1 := fs_miss (κ := J ke) (a := a) (fun i hi => hne i (by omega))
                exact ih7 (a + 1) I6 (by omega) (by omega) (fun r h1 h2 => by rw [eI6, va_up_ne _ _ h2, eI5, va_up_ne _ _ h1]; exact hfr r h1 h2) (fun p hp => by rw [eI6, va_up_ne _ _ (Ne.symm hco), eI5, va_up_self]; unfold upd; by_cases hpa : p = a; (rw [if_pos hpa, hpa, f1]); rw [if_neg hpa]; exact hop p (by omega)) (by rw [eI6, va_up_self, numE, if_neg (by omega)]; rfl) _ _ hW ls (lv_sub hl [1, 2, 0] rfl)
              · skip
                exfalso; omega
            · skip
              refine lv_aload_n hx hb dX0_numberByKeys_19 rfl (lv_at hl 0 rfl) ?_
              refine g_X0_1 C hinX0 hW hcl kcl gke lk15 dX0_numberByKeys_20 ?_
              refine lv_iload_n hx hb dX0_numberByKeys_23 rfl (lv_at hl 3 rfl) ?_
              refine p_lald C hW hke kke (k := b) rfl (by rw [lke]; omega) dX0_numberByKeys_24 ?_
              refine lv_aload_n hx hb dX0_numberByKeys_25 rfl (lv_at hl 0 rfl) ?_
              refine g_X0_1 C hinX0 hW hcl kcl gke lk15 dX0_numberByKeys_26 ?_
              refine lv_iload_n hx hb dX0_numberByKeys_29 rfl (lv_at hl 2 rfl) ?_
              refine p_lald C hW hke kke (k := a) rfl (by rw [lke]; omega) dX0_numberByKeys_30 ?_
              refine l_eq (tgt := 41) hx hb dX0_numberByKeys_31 dX0_numberByKeys_32 (by decide) (fun h7 => ?_) (fun h7 => ?_)
              · skip
                refine lv_iload_n hx hb dX0_numberByKeys_41 rfl (lv_at hl 3 rfl) ?_
                refine lv_iload_n hx hb dX0_numberByKeys_42 rfl (lv_at hl 2 rfl) ?_
                refine n_icmp_ge (tgt := 61) hx hb (by omega) (by omega) dX0_numberByKeys_43 (by decide) (fun h8 => ?_) (fun h8 => ?_)
                · skip
                  exfalso; omega
                · skip
                  refine lv_aload_n hx hb dX0_numberByKeys_46 rfl (lv_at hl 0 rfl) ?_
                  refine g_X0_0 C hinX0 hW hcl kcl gop lk11 dX0_numberByKeys_47 ?_
                  refine lv_iload_n hx hb dX0_numberByKeys_50 rfl (lv_at hl 2 rfl) ?_
                  refine lv_aload_n hx hb dX0_numberByKeys_51 rfl (lv_at hl 0 rfl) ?_
                  refine g_X0_0 C hinX0 hW hcl kcl gop lk11 dX0_numberByKeys_52 ?_
                  refine lv_iload_n hx hb dX0_numberByKeys_55 rfl (lv_at hl 3 rfl) ?_
                  refine p_iald C hW hop0 kop (k := b) rfl (by rw [lop]; omega) dX0_numberByKeys_56 ?_
                  refine w_top (y := .int (nI (numE (keyE (J ke)) (fsE (keyE (J ke)) b)))) (by rw [hop b (by omega)]) ?_
                  refine p_iast C hW hop0 kop (k := a) rfl (by rw [lop]; omega) dX0_numberByKeys_57 (fun H locs hW => ?_)
                  obtain ⟨I9, eI9⟩ : ∃ z, z = va_up I7 op (upd (I7 op) a (nI (numE (keyE (J ke)) (fsE (keyE (J ke)) b)))) := ⟨_, rfl⟩
                  rw [← eI9] at hW
                  refine lv_goto (tgt := 81) hx hb dX0_numberByKeys_58 (by decide) ?_
                  refine lv_iinc (v := nI (a + 1)) (lv' := [(2, .int (nI (a + 1))), (0, .ref (ad cl)), (1, .int (nI pl)), (3, .int (nI b))]) hx hb dX0_numberByKeys_81 hl (k := 2) rfl (nI_inc _) (by decide) rfl (fun ls hl => ?_)
                  refine lv_goto (tgt := 7) hx hb dX0_numberByKeys_84 (by decide) ?_
                  obtain ⟨f1, f2⟩ := fs_hit (κ := J ke) (b := b) (a := a) (by omega) hne h7
                  exact ih7 (a + 1) I9 (by omega) (by omega) (fun r h1 h2 => by rw [eI9, va_up_ne _ _ h1]; exact hfr r h1 h2) (fun p hp => by rw [eI9, va_up_self]; unfold upd; by_cases hpa : p = a; (rw [if_pos hpa, hpa, f1, f2]); rw [if_neg hpa]; exact hop p (by omega)) (by rw [eI9, va_up_ne _ _ hco, hnm, numE, if_pos (by omega)]) _ _ hW ls (lv_sub hl [1, 2, 0] rfl)
              · skip
                refine lv_iinc (v := nI (b + 1)) (lv' := [(3, .int (nI (b + 1))), (0, .ref (ad cl)), (1, .int (nI pl)), (2, .int (nI a))]) hx hb dX0_numberByKeys_35 hl (k := 3) rfl (nI_inc _) (by decide) rfl (fun ls hl => ?_)
                refine lv_goto (tgt := 14) hx hb dX0_numberByKeys_38 (by decide) ?_
                exact ih14 (b + 1) (by omega) (by omega) (fun i hi => by rcases Nat.lt_or_ge i b with h | h; exact hne i h; rw [show i = b by omega]; exact h7) _ _ hW ls (lv_sub hl [1, 2, 3, 0] rfl)
        exact lp14 (a + 1) 0 (by omega) (by omega) (fun i hi => absurd hi (Nat.not_lt_zero i)) _ _ hW ls (lv_sub hl [1, 2, 3, 0] rfl)
  exact lp7 (pl + 1) 0 I1 (by omega) (by omega) (fun r h1 h2 => by rw [eI1]; exact va_up_ne _ _ h2) (fun p hp => absurd hp (Nat.not_lt_zero p)) (by rw [eI1, va_up_self]; rfl) _ _ hW ls (lv_sub hl [1, 2, 0] rfl)
abbrev rmX0_keyByDoors : Room := { frames := 0, cells := 0, slots := 0, locals := 0 }
set_option maxHeartbeats 4000000 in
set_option maxRecDepth 100000 in
theorem c_X0_keyByDoors (l : Launch) (D : va_G) (cy : Nat → ClassId) (L : List Nat) (ad : Nat → Nat) (G : mG) (I : mI) (J : mJ) (cl op ke : Nat) (hC : isC L G cl op ke) (n t k : Nat) (hN : isN L G n t k) (pl dr : Nat) (hpl : I n 0 = nI pl) (hdr : I n 1 = nI dr) (hp12 : pl ≤ 12) (hd4 : dr = 2 ∨ dr = 3 ∨ dr = 4) (to : Nat → Nat) (hto : ∀ c, c < 48 → I t c = nI (to c)) (ht48 : ∀ c, c < 48 → to c < 48) (cf : Nat → Nat) (hop : ∀ p, p < pl → I op p = nI (cf p)) (hcf : ∀ p, p < pl → cf p < 12) (hled : ∀ p d, p < pl → d < dr → led to p d < pl) : pMet l yX0_keyByDoors wsX0_keyByDoors rmX0_keyByDoors D cy L ad G I J [.ref (ad cl), .ref (ad n)] (qV (fun I' J' => I' = I ∧ J' = va_up J ke (fun p => if p < pl then lN (keyN dr to cf p) else J ke p)) D cy L ad G) := by
  refine pMet.ofV (cc := cX0_keyByDoors) (maxL := 7) (by decide +kernel) rfl (Nat.le_of_ble_eq_true rfl) ?_
  intro p e R s m args below meth c A Q C hml hR hg ret hW ls hl
  subst hR
  have C : Cx p s m args c cX0_keyByDoors RX0 wsX0_keyByDoors D cy A := C
  have hx := C.1
  have hb := C.2.1
  have lk11 := C.2.2.2.1 (.fieldLink RX0 11 "WaveWalk$Classes" "ofPlace" "[I") (by decide +kernel)
  have lk15 := C.2.2.2.1 (.fieldLink RX0 15 "WaveWalk$Classes" "keys" "[J") (by decide +kernel)
  have lk23 := C.2.2.2.1 (.fieldLink RX0 23 "WaveWalk$Net" "places" "I") (by decide +kernel)
  have lk40 := C.2.2.2.1 (.fieldLink RX0 40 "WaveWalk$Net" "doors" "I") (by decide +kernel)
  have lk43 := C.2.2.2.1 (.fieldLink RX0 43 "WaveWalk$Net" "ledTo" "[I") (by decide +kernel)
  have hinX0 : ∀ w ∈ wsX00, w ∈ wsX0_keyByDoors := by decide +kernel
  have hinX1 : ∀ w ∈ wsX10, w ∈ wsX0_keyByDoors := by decide +kernel
  have hl : lv_has ls 7 [(0, .ref (ad cl)), (1, .ref (ad n))] := hl
  obtain ⟨hcl, kcl, gop, hop0, kop, lop, gke, hke, kke, lke⟩ := id hC
  obtain ⟨hn, kn, gt, ht, kt, lt, gk, hk, kk, lk⟩ := id hN
  have hW : Wd D cy A s.heap s.heap [] L ad G I (va_up J ke (J ke)) := by rw [up_same]; exact hW
  refine lv_iconst (v := nI 0) hx hb dX0_keyByDoors_0 (by decide) ?_
  refine lv_istore_n (lv' := [(2, .int (nI 0)), (0, .ref (ad cl)), (1, .ref (ad n))]) hx hb dX0_keyByDoors_1 rfl hl (by decide) rfl (fun ls hl => ?_)
  have lp2 : ∀ (nn : Nat) (a : Nat), (a ≤ pl) → (pl + 1 ≤ a + nn) → ∀ (H : Heap) (locs : List Loc), Wd D cy A s.heap H locs L ad G I (va_up J ke (fun p => if p < a then lN (keyN dr to cf p) else J ke p)) → ∀ (ls : Array Slot), lv_has ls 7 [(0, .ref (ad cl)), (1, .ref (ad n)), (2, .int (nI a))] → W p l e rmX0_keyByDoors s m args below meth c H locs 0 0 Q (F0 m 2 ls []) := by
    intro nn
    induction nn with
    | zero => intros; exfalso; omega
    | succ nn ih2 =>
      intro a ha hf H locs hW ls hl
      refine lv_iload_n hx hb dX0_keyByDoors_2 rfl (lv_at hl 2 rfl) ?_
      refine lv_aload_n hx hb dX0_keyByDoors_3 rfl (lv_at hl 1 rfl) ?_
      refine g_X1_0 C hinX1 hW hn kn lk23 dX0_keyByDoors_4 ?_
      refine w_top (y := .int (nI pl)) (by rw [hpl]) ?_
      refine n_icmp_ge (tgt := 81) hx hb (by omega) (by omega) dX0_keyByDoors_7 (by decide) (fun h1 => ?_) (fun h1 => ?_)
      · skip
        have hW := Wd_setJ (g := (fun p => if p < pl then lN (keyN dr to cf p) else J ke p)) hW kke (by rw [lke]; exact (fun p hp => by rw [show a = pl by omega]))
        exact ret _ _ _ _ _ _ _ _ (Nat.le_of_ble_eq_true rfl) (Nat.le_of_ble_eq_true rfl) hW ⟨rfl, rfl⟩ dX0_keyByDoors_81
      · skip
        refine lv_aload_n hx hb dX0_keyByDoors_10 rfl (lv_at hl 0 rfl) ?_
        refine g_X0_0 C hinX0 hW hcl kcl gop lk11 dX0_keyByDoors_11 ?_
        refine lv_iload_n hx hb dX0_keyByDoors_14 rfl (lv_at hl 2 rfl) ?_
        refine p_iald C hW hop0 kop (k := a) rfl (by rw [lop]; omega) dX0_keyByDoors_15 ?_
        refine w_top (y := .int (nI (cf a))) (by rw [hop a (by omega)]) ?_
        refine lv_i2l (v := lN (cf a)) hx hb dX0_keyByDoors_16 (nI_l (by have := hcf a (by omega); omega)) ?_
        refine lv_bipush (v := nI 36) hx hb dX0_keyByDoors_17 (by decide) ?_
        refine lv_lshl (v := lN (cf a * 2 ^ 36)) hx hb dX0_keyByDoors_19 (wb_shl (cf a) (k := 36) (by decide)) ?_
        refine w_top (y := .long (lN (cf a * 2 ^ 36 + sm8 (fun d => cf (led to a d)) 0))) (by rw [sm8, Nat.add_zero]) ?_
        refine lv_lstore_n (lv' := [(3, .long (lN (cf a * 2 ^ 36 + sm8 (fun d => cf (led to a d)) 0))), (0, .ref (ad cl)), (1, .ref (ad n)), (2, .int (nI a))]) hx hb dX0_keyByDoors_20 rfl hl (by decide) rfl (fun ls hl => ?_)
        refine lv_iconst (v := nI 0) hx hb dX0_keyByDoors_21 (by decide) ?_
        refine lv_istore (lv' := [(5, .int (nI 0)), (3, .long (lN (cf a * 2 ^ 36 + sm8 (fun d => cf (led to a d)) 0))), (0, .ref (ad cl)), (1, .ref (ad n)), (2, .int (nI a))]) hx hb dX0_keyByDoors_22 hl (by decide) rfl (fun ls hl => ?_)
        have lp24 : ∀ (nn : Nat) (b : Nat), (b ≤ dr) → (dr + 1 ≤ b + nn) → ∀ (H : Heap) (locs : List Loc), Wd D cy A s.heap H locs L ad G I (va_up J ke (fun p => if p < a then lN (keyN dr to cf p) else J ke p)) → ∀ (ls : Array Slot), lv_has ls 7 [(0, .ref (ad cl)), (1, .ref (ad n)), (2, .int (nI a)), (3, .long (lN (cf a * 2 ^ 36 + sm8 (fun d => cf (led to a d)) b))), (5, .int (nI b))] → W p l e rmX0_keyByDoors s m args below meth c H locs 0 0 Q (F0 m 24 ls []) := by
          intro nn
          induction nn with
          | zero => intros; exfalso; omega
          | succ nn ih24 =>
            intro b hb4 hf2 H locs hW ls hl
            refine lv_iload hx hb dX0_keyByDoors_24 (lv_at hl 4 rfl) ?_
            refine lv_aload_n hx hb dX0_keyByDoors_26 rfl (lv_at hl 1 rfl) ?_
            refine g_X1_1 C hinX1 hW hn kn lk40 dX0_keyByDoors_27 ?_
            refine w_top (y := .int (nI dr)) (by rw [hdr]) ?_
            refine n_icmp_ge (tgt := 68) hx hb (by omega) (by omega) dX0_keyByDoors_30 (by decide) (fun h2 => ?_) (fun h2 => ?_)
            · skip
              refine lv_aload_n hx hb dX0_keyByDoors_68 rfl (lv_at hl 0 rfl) ?_
              refine g_X0_1 C hinX0 hW hcl kcl gke lk15 dX0_keyByDoors_69 ?_
              refine lv_iload_n hx hb dX0_keyByDoors_72 rfl (lv_at hl 2 rfl) ?_
              refine lv_lload_n hx hb dX0_keyByDoors_73 rfl (lv_at hl 3 rfl) ?_
              refine p_last C hW hke kke (k := a) rfl (by rw [lke]; omega) dX0_keyByDoors_74 (fun H locs hW => ?_)
              rw [va_up_self, up_up] at hW
              refine lv_iinc (v := nI (a + 1)) (lv' := [(2, .int (nI (a + 1))), (0, .ref (ad cl)), (1, .ref (ad n)), (3, .long (lN (cf a * 2 ^ 36 + sm8 (fun d => cf (led to a d)) b))), (5, .int (nI b))]) hx hb dX0_keyByDoors_75 hl (k := 2) rfl (nI_inc _) (by decide) rfl (fun ls hl => ?_)
              refine lv_goto (tgt := 2) hx hb dX0_keyByDoors_78 (by decide) ?_
              have hW := Wd_setJ (g := (fun p => if p < a + 1 then lN (keyN dr to cf p) else J ke p)) hW kke (by rw [lke]; exact (fun p hp => by dsimp only [vp_updL]; by_cases hpa : p = a; (rw [if_pos (by omega), if_pos hpa, hpa, show b = dr by omega]; rfl); rw [if_neg hpa]; by_cases hc : p < a; rw [if_pos (by omega), if_pos hc]; rw [if_neg (by omega), if_neg hc]))
              exact ih2 (a + 1) (by omega) (by omega) _ _ hW ls (lv_sub hl [1, 2, 0] rfl)
            · skip
              have h48 := ht48 (a * 4 + b) (by omega)
              have hld : to (a * 4 + b) / 4 < pl := hled a b (by omega) (by omega)
              have hc12 := hcf _ hld
              refine lv_aload_n hx hb dX0_keyByDoors_33 rfl (lv_at hl 1 rfl) ?_
              refine g_X1_4 C hinX1 hW hn kn gt lk43 dX0_keyByDoors_34 ?_
              refine lv_iload_n hx hb dX0_keyByDoors_37 rfl (lv_at hl 2 rfl) ?_
              refine lv_iconst (v := nI 4) hx hb dX0_keyByDoors_38 (by decide) ?_
              refine n_imul hx hb dX0_keyByDoors_39 ?_
              refine lv_iload hx hb dX0_keyByDoors_40 (lv_at hl 4 rfl) ?_
              refine n_iadd hx hb dX0_keyByDoors_42 ?_
              refine p_iald C hW ht kt (k := (a * 4) + b) rfl (by rw [lt]; omega) dX0_keyByDoors_43 ?_
              refine w_top (y := .int (nI (to (a * 4 + b)))) (by rw [hto _ (by omega)]) ?_
              refine lv_iconst (v := nI 4) hx hb dX0_keyByDoors_44 (by decide) ?_
              refine n_idiv hx hb (by omega) (by omega) (by omega) dX0_keyByDoors_45 ?_
              refine lv_istore (lv' := [(6, .int (nI ((to (a * 4 + b)) / 4))), (0, .ref (ad cl)), (1, .ref (ad n)), (2, .int (nI a)), (3, .long (lN (cf a * 2 ^ 36 + sm8 (fun d => cf (led to a d)) b))), (5, .int (nI b))]) hx hb dX0_keyByDoors_46 hl (by decide) rfl (fun ls hl => ?_)
              refine lv_lload_n hx hb dX0_keyByDoors_48 rfl (lv_at hl 4 rfl) ?_
              refine lv_lconst (v := 1) hx hb dX0_keyByDoors_49 (by decide) ?_
              refine lv_iconst (v := nI 3) hx hb dX0_keyByDoors_50 (by decide) ?_
              refine lv_aload_n hx hb dX0_keyByDoors_51 rfl (lv_at hl 1 rfl) ?_
              refine g_X0_0 C hinX0 hW hcl kcl gop lk11 dX0_keyByDoors_52 ?_
              refine lv_iload hx hb dX0_keyByDoors_55 (lv_at hl 0 rfl) ?_
              refine p_iald C hW hop0 kop (k := (to (a * 4 + b)) / 4) rfl (by rw [lop]; omega) dX0_keyByDoors_57 ?_
              refine w_top (y := .int (nI (cf (to (a * 4 + b) / 4)))) (by rw [hop _ hld]) ?_
              refine n_imul hx hb dX0_keyByDoors_58 ?_
              refine lv_lshl (v := lN (2 ^ (3 * cf (to (a * 4 + b) / 4)))) hx hb dX0_keyByDoors_59 (one_shl (by omega)) ?_
              refine lv_ladd hx hb dX0_keyByDoors_60 ?_
              refine w_top (y := .long (lN (cf a * 2 ^ 36 + sm8 (fun d => cf (led to a d)) (b + 1)))) (by rw [lN_add, sm8, Nat.add_assoc]; rfl) ?_
              refine lv_lstore_n (lv' := [(3, .long (lN (cf a * 2 ^ 36 + sm8 (fun d => cf (led to a d)) (b + 1)))), (6, .int (nI ((to (a * 4 + b)) / 4))), (0, .ref (ad cl)), (1, .ref (ad n)), (2, .int (nI a)), (5, .int (nI b))]) hx hb dX0_keyByDoors_61 rfl hl (by decide) rfl (fun ls hl => ?_)
              refine lv_iinc (v := nI (b + 1)) (lv' := [(5, .int (nI (b + 1))), (3, .long (lN (cf a * 2 ^ 36 + sm8 (fun d => cf (led to a d)) (b + 1)))), (6, .int (nI ((to (a * 4 + b)) / 4))), (0, .ref (ad cl)), (1, .ref (ad n)), (2, .int (nI a))]) hx hb dX0_keyByDoors_62 hl (k := 5) rfl (nI_inc _) (by decide) rfl (fun ls hl => ?_)
              refine lv_goto (tgt := 24) hx hb dX0_keyByDoors_65 (by decide) ?_
              exact ih24 (b + 1) (by omega) (by omega) _ _ hW ls (lv_sub hl [3, 4, 5, 1, 0] rfl)
        exact lp24 (dr + 1) 0 (by omega) (by omega) _ _ hW ls (lv_sub hl [2, 3, 4, 1, 0] rfl)
  have hW := Wd_setJ (g := (fun p => if p < 0 then lN (keyN dr to cf p) else J ke p)) hW kke (by rw [lke]; exact (fun p hp => by rw [if_neg (by omega)]))
  exact lp2 (pl + 1) 0 (by omega) (by omega) _ _ hW ls (lv_sub hl [1, 2, 0] rfl)
abbrev rmX0_partAll : Room := { frames := 1, cells := 0, slots := 0, locals := 27 }
set_option maxHeartbeats 4000000 in
set_option maxRecDepth 100000 in
theorem c_X0_partAll (l : Launch) (D : va_G) (cy : Nat → ClassId) (L : List Nat) (ad : Nat → Nat) (G : mG) (I : mI) (J : mJ) (cl op ke : Nat) (hC : isC L G cl op ke) (n t k : Nat) (hN : isN L G n t k) (pl dr : Nat) (hpl : I n 0 = nI pl) (hdr : I n 1 = nI dr) (hp12 : pl ≤ 12) (hd4 : dr = 2 ∨ dr = 3 ∨ dr = 4) (mk : Nat → Bool) (hmk : ∀ c, c < 12 → I k c = bI (mk c)) (to : Nat → Nat) (hto : ∀ c, c < 48 → I t c = nI (to c)) (ht48 : ∀ c, c < 48 → to c < 48) (hled : ∀ p d, p < pl → d < dr → led to p d < pl) (htop : t ≠ op) : pMet l yX0_partAll wsX0_partAll rmX0_partAll D cy L ad G I J [.ref (ad cl), .ref (ad n)] (qV (fun I' J' => (∀ r, r ≠ op → r ≠ cl → I' r = I r) ∧ (∀ p, p < pl → I' op p = nI (clsA pl dr to mk p)) ∧ I' cl 2 = nI (numA pl dr to mk) ∧ (∀ r, r ≠ ke → J' r = J r)) D cy L ad G) := by
  refine pMet.ofV (cc := cX0_partAll) (maxL := 4) (by decide +kernel) rfl (Nat.le_of_ble_eq_true rfl) ?_
  intro p e R s m args below meth c A Q C hml hR hg ret hW ls hl
  subst hR
  have C : Cx p s m args c cX0_partAll RX0 wsX0_partAll D cy A := C
  have hx := C.1
  have hb := C.2.1
  have lk15 := C.2.2.2.1 (.fieldLink RX0 15 "WaveWalk$Classes" "keys" "[J") (by decide +kernel)
  have lk19 := C.2.2.2.1 (.fieldLink RX0 19 "WaveWalk$Classes" "number" "I") (by decide +kernel)
  have lk23 := C.2.2.2.1 (.fieldLink RX0 23 "WaveWalk$Net" "places" "I") (by decide +kernel)
  have lk28 := C.2.2.2.1 (.fieldLink RX0 28 "WaveWalk$Net" "marked" "[Z") (by decide +kernel)
  have hinX0 : ∀ w ∈ wsX00, w ∈ wsX0_partAll := by decide +kernel
  have hinX1 : ∀ w ∈ wsX10, w ∈ wsX0_partAll := by decide +kernel
  have hl : lv_has ls 4 [(0, .ref (ad cl)), (1, .ref (ad n))] := hl
  obtain ⟨hcl, kcl, gop, hop0, kop, lop, gke, hke, kke, lke⟩ := id hC
  obtain ⟨hn, kn, gt, ht, kt, lt, gk, hk, kk, lk⟩ := id hN
  have hW : Wd D cy A s.heap s.heap [] L ad G I (va_up J ke (J ke)) := by rw [up_same]; exact hW
  have ncl : n ≠ cl := fun h => by have := kn; rw [h, kcl] at this; exact absurd this (by decide)
  have nop : n ≠ op := fun h => by have := kn; rw [h, kop] at this; exact absurd this (by decide)
  have tcl : t ≠ cl := fun h => by have := kt; rw [h, kcl] at this; exact absurd this (by decide)
  have top : t ≠ op := htop
  refine lv_iconst (v := nI 0) hx hb dX0_partAll_0 (by decide) ?_
  refine lv_istore_n (lv' := [(2, .int (nI 0)), (0, .ref (ad cl)), (1, .ref (ad n))]) hx hb dX0_partAll_1 rfl hl (by decide) rfl (fun ls hl => ?_)
  have lp2 : ∀ (nn : Nat) (a : Nat), (a ≤ pl) → (pl + 1 ≤ a + nn) → ∀ (H : Heap) (locs : List Loc), Wd D cy A s.heap H locs L ad G I (va_up J ke (fun p => if p < a then lN (if mk p = true then 1 else 0) else J ke p)) → ∀ (ls : Array Slot), lv_has ls 4 [(0, .ref (ad cl)), (1, .ref (ad n)), (2, .int (nI a))] → W p l e rmX0_partAll s m args below meth c H locs 0 0 Q (F0 m 2 ls []) := by
    intro nn
    induction nn with
    | zero => intros; exfalso; omega
    | succ nn ih2 =>
      intro a ha hf H locs hW ls hl
      refine lv_iload_n hx hb dX0_partAll_2 rfl (lv_at hl 2 rfl) ?_
      refine lv_aload_n hx hb dX0_partAll_3 rfl (lv_at hl 1 rfl) ?_
      refine g_X1_0 C hinX1 hW hn kn lk23 dX0_partAll_4 ?_
      refine w_top (y := .int (nI pl)) (by rw [hpl]) ?_
      refine n_icmp_ge (tgt := 36) hx hb (by omega) (by omega) dX0_partAll_7 (by decide) (fun h1 => ?_) (fun h1 => ?_)
      · skip
        refine lv_aload_n hx hb dX0_partAll_36 rfl (lv_at hl 0 rfl) ?_
        refine lv_aload_n hx hb dX0_partAll_37 rfl (lv_at hl 1 rfl) ?_
        refine g_X1_0 C hinX1 hW hn kn lk23 dX0_partAll_38 ?_
        refine w_top (y := .int (nI pl)) (by rw [hpl]) ?_
        refine p_cVv C hml hg hW (c_X0_numberByKeys l D cy L ad G I (va_up J ke (fun p => if p < a then lN (if mk p = true then 1 else 0) else J ke p)) cl op ke hC pl hp12) (cwV 1 C.2.2.2.1 gX0_partAll_X0_numberByKeys rfl rfl rfl (by decide +kernel) ⟨Nat.le_of_ble_eq_true rfl, Nat.le_of_ble_eq_true rfl⟩) (p_recv C hW hcl (pF_0 kcl) rfl) rfl hl.1 rfl (Nat.le_of_ble_eq_true rfl) dX0_partAll_41 (Nat.le_of_ble_eq_true rfl) (Nat.le_of_ble_eq_true rfl) (fun I2 J3 H locs hp hW => ?_)
        obtain ⟨fr, fo, fn, fJ⟩ := hp
        subst J3
        rw [va_up_self] at fo fn
        refine lv_iconst (v := nI 0) hx hb dX0_partAll_44 (by decide) ?_
        refine lv_istore_n (lv' := [(2, .int (nI 0)), (0, .ref (ad cl)), (1, .ref (ad n))]) hx hb dX0_partAll_45 rfl hl (by decide) rfl (fun ls hl => ?_)
        have ag : agr pl (keyE (fun p => if p < a then lN (if mk p = true then 1 else 0) else J ke p)) (itE pl dr to mk 0) := key0_agr (by omega)
        have lp46 : ∀ (nn : Nat) (k0 : Nat) (I1 : mI) (J1 : mJ), (k0 ≤ pl) → (pl + 1 ≤ k0 + nn) → (∀ r, r ≠ op → r ≠ cl → I1 r = I r) → (∀ p, p < pl → I1 op p = nI (numE (itE pl dr to mk k0) (fsE (itE pl dr to mk k0) p))) → (I1 cl 2 = nI (numE (itE pl dr to mk k0) pl)) → (∀ r, r ≠ ke → J1 r = J r) → ∀ (H : Heap) (locs : List Loc), Wd D cy A s.heap H locs L ad G I1 J1 → ∀ (ls : Array Slot), lv_has ls 4 [(0, .ref (ad cl)), (1, .ref (ad n)), (2, .int (nI k0))] → W p l e rmX0_partAll s m args below meth c H locs 0 0 Q (F0 m 46 ls []) := by
          intro nn
          induction nn with
          | zero => intros; exfalso; omega
          | succ nn ih46 =>
            intro k0 I1 J1 hk0 hf3 hfr hop hnm hfJ H locs hW ls hl
            refine lv_iload_n hx hb dX0_partAll_46 rfl (lv_at hl 2 rfl) ?_
            refine lv_aload_n hx hb dX0_partAll_47 rfl (lv_at hl 1 rfl) ?_
            refine g_X1_0 C hinX1 hW hn kn lk23 dX0_partAll_48 ?_
            refine w_top (y := .int (nI pl)) (by rw [hfr n nop ncl, hpl]) ?_
            refine n_icmp_ge (tgt := 87) hx hb (by omega) (by omega) dX0_partAll_51 (by decide) (fun h4 => ?_) (fun h4 => ?_)
            · skip
              exact ret _ _ _ _ _ _ _ _ (Nat.le_of_ble_eq_true rfl) (Nat.le_of_ble_eq_true rfl) hW ⟨hfr, fun p hp => by rw [hop p hp, show k0 = pl by omega]; rfl, by rw [hnm, show k0 = pl by omega]; rfl, hfJ⟩ dX0_partAll_87
            · skip
              refine lv_aload_n hx hb dX0_partAll_54 rfl (lv_at hl 0 rfl) ?_
              refine g_X0_2 C hinX0 hW hcl kcl lk19 dX0_partAll_55 ?_
              refine w_top (y := .int (nI (numE (itE pl dr to mk k0) pl))) (by rw [hnm]) ?_
              refine lv_istore_n (lv' := [(3, .int (nI (numE (itE pl dr to mk k0) pl))), (0, .ref (ad cl)), (1, .ref (ad n)), (2, .int (nI k0))]) hx hb dX0_partAll_58 rfl hl (by decide) rfl (fun ls hl => ?_)
              refine lv_aload_n hx hb dX0_partAll_59 rfl (lv_at hl 1 rfl) ?_
              refine lv_aload_n hx hb dX0_partAll_60 rfl (lv_at hl 2 rfl) ?_
              refine p_cVv C hml hg hW (c_X0_keyByDoors l D cy L ad G I1 J1 cl op ke hC n t k hN pl dr (by rw [hfr n nop ncl]; exact hpl) (by rw [hfr n nop ncl]; exact hdr) hp12 hd4 to (fun c hc => by rw [hfr t top tcl]; exact hto c hc) ht48 (fun a => numE (itE pl dr to mk k0) (fsE (itE pl dr to mk k0) a)) hop (fun p hp => num_small (itE_eqv k0) hp12 hp) hled) (cwV 1 C.2.2.2.1 gX0_partAll_X0_keyByDoors rfl rfl rfl (by decide +kernel) ⟨Nat.le_of_ble_eq_true rfl, Nat.le_of_ble_eq_true rfl⟩) (p_recv C hW hcl (pF_0 kcl) rfl) rfl hl.1 rfl (Nat.le_of_ble_eq_true rfl) dX0_partAll_61 (Nat.le_of_ble_eq_true rfl) (Nat.le_of_ble_eq_true rfl) (fun I5 J6 H locs hp hW => ?_)
              obtain ⟨hI, hJ⟩ := hp
              subst I5
              subst J6
              refine lv_aload_n hx hb dX0_partAll_64 rfl (lv_at hl 1 rfl) ?_
              refine lv_aload_n hx hb dX0_partAll_65 rfl (lv_at hl 2 rfl) ?_
              refine g_X1_0 C hinX1 hW hn kn lk23 dX0_partAll_66 ?_
              refine w_top (y := .int (nI pl)) (by rw [hfr n nop ncl, hpl]) ?_
              refine p_cVv C hml hg hW (c_X0_numberByKeys l D cy L ad G I1 (va_up J1 ke (fun p => if p < pl then lN (keyN dr to (fun a => numE (itE pl dr to mk k0) (fsE (itE pl dr to mk k0) a)) p) else J1 ke p)) cl op ke hC pl hp12) (cwV 1 C.2.2.2.1 gX0_partAll_X0_numberByKeys rfl rfl rfl (by decide +kernel) ⟨Nat.le_of_ble_eq_true rfl, Nat.le_of_ble_eq_true rfl⟩) (p_recv C hW hcl (pF_0 kcl) rfl) rfl hl.1 rfl (Nat.le_of_ble_eq_true rfl) dX0_partAll_69 (Nat.le_of_ble_eq_true rfl) (Nat.le_of_ble_eq_true rfl) (fun I7 J8 H locs hp hW => ?_)
              obtain ⟨fr, fo, fn, fJ⟩ := hp
              subst J8
              rw [va_up_self] at fo fn
              have ag2 : agr pl (keyE (fun p => if p < pl then lN (keyN dr to (fun a => numE (itE pl dr to mk k0) (fsE (itE pl dr to mk k0) a)) p) else J1 ke p)) (itE pl dr to mk (k0 + 1)) := key1_agr (itE_eqv k0) hp12 (by omega) hled
              have fo2 : ∀ p, p < pl → I7 op p = nI (numE (itE pl dr to mk (k0 + 1)) (fsE (itE pl dr to mk (k0 + 1)) p)) := fun p hp => by rw [fo p hp, fsE_congr ag2 hp, numE_congr ag2 _ (by have := fsE_le (itE pl dr to mk (k0 + 1)) p; omega)]
              have fn2 : I7 cl 2 = nI (numE (itE pl dr to mk (k0 + 1)) pl) := by rw [fn, numE_congr ag2 _ (Nat.le_refl _)]
              have b1 := numE_le (itE pl dr to mk k0) pl
              have b2 := numE_le (itE pl dr to mk (k0 + 1)) pl
              refine lv_aload_n hx hb dX0_partAll_72 rfl (lv_at hl 1 rfl) ?_
              refine g_X0_2 C hinX0 hW hcl kcl lk19 dX0_partAll_73 ?_
              refine w_top (y := .int (nI (numE (itE pl dr to mk (k0 + 1)) pl))) (by rw [fn2]) ?_
              refine lv_iload_n hx hb dX0_partAll_76 rfl (lv_at hl 0 rfl) ?_
              refine n_icmp_ne (tgt := 81) hx hb (by omega) (by omega) dX0_partAll_77 (by decide) (fun h9 => ?_) (fun h9 => ?_)
              · skip
                refine lv_iinc (v := nI (k0 + 1)) (lv' := [(2, .int (nI (k0 + 1))), (3, .int (nI (numE (itE pl dr to mk k0) pl))), (0, .ref (ad cl)), (1, .ref (ad n))]) hx hb dX0_partAll_81 hl (k := 3) rfl (nI_inc _) (by decide) rfl (fun ls hl => ?_)
                refine lv_goto (tgt := 46) hx hb dX0_partAll_84 (by decide) ?_
                exact ih46 (k0 + 1) I7 (va_up J1 ke (fun p => if p < pl then lN (keyN dr to (fun a => numE (itE pl dr to mk k0) (fsE (itE pl dr to mk k0) a)) p) else J1 ke p)) (by omega) (by omega) (fun r h1 h2 => (fr r h1 h2).trans (hfr r h1 h2)) fo2 fn2 (fun r h => (va_up_ne _ _ h).trans (hfJ r h)) _ _ hW ls (lv_sub hl [2, 3, 0] rfl)
              · skip
                have st := fine_eq (itE_eqv (pl := pl) (dr := dr) (to := to) (mk := mk) k0) (itE_eqv (k0 + 1)) nxE_fine h9
                have ag3 : agr pl (itE pl dr to mk (k0 + 1)) (itE pl dr to mk pl) := part_stop hled st (by omega)
                exact ret _ _ _ _ _ _ _ _ (Nat.le_of_ble_eq_true rfl) (Nat.le_of_ble_eq_true rfl) hW ⟨fun r h1 h2 => (fr r h1 h2).trans (hfr r h1 h2), fun p hp => by rw [fo2 p hp, fsE_congr ag3 hp, numE_congr ag3 _ (by have := fsE_le (itE pl dr to mk pl) p; omega)]; rfl, by rw [fn2, numE_congr ag3 _ (Nat.le_refl _)]; rfl, fun r h => (va_up_ne _ _ h).trans (hfJ r h)⟩ dX0_partAll_80
        exact lp46 (pl + 1) 0 I2 (va_up J ke (fun p => if p < a then lN (if mk p = true then 1 else 0) else J ke p)) (Nat.zero_le _) (by omega) (fun r h1 h2 => fr r h1 h2) (fun p hp => by rw [fo p hp, fsE_congr ag hp, numE_congr ag _ (by have := fsE_le (itE pl dr to mk 0) p; omega)]) (by rw [fn, numE_congr ag _ (Nat.le_refl _)]) (fun r h => va_up_ne _ _ h) _ _ hW ls (lv_sub hl [1, 2, 0] rfl)
      · skip
        refine lv_aload_n hx hb dX0_partAll_10 rfl (lv_at hl 0 rfl) ?_
        refine g_X0_1 C hinX0 hW hcl kcl gke lk15 dX0_partAll_11 ?_
        refine lv_iload_n hx hb dX0_partAll_14 rfl (lv_at hl 2 rfl) ?_
        refine lv_aload_n hx hb dX0_partAll_15 rfl (lv_at hl 1 rfl) ?_
        refine g_X1_5 C hinX1 hW hn kn gk lk28 dX0_partAll_16 ?_
        refine lv_iload_n hx hb dX0_partAll_19 rfl (lv_at hl 2 rfl) ?_
        refine p_zald C hW hk kk (k := a) rfl (by rw [lk]; omega) dX0_partAll_20 ?_
        refine w_top (y := .int (bI (mk a))) (by rw [hmk _ (by omega)]) ?_
        refine b_if_eq (tgt := 28) hx hb dX0_partAll_21 (by decide) (fun h10 => ?_) (fun h10 => ?_)
        · skip
          refine lv_lconst (v := 0) hx hb dX0_partAll_28 (by decide) ?_
          refine p_last C hW hke kke (k := a) rfl (by rw [lke]; omega) dX0_partAll_29 (fun H locs hW => ?_)
          rw [va_up_self, up_up] at hW
          refine lv_iinc (v := nI (a + 1)) (lv' := [(2, .int (nI (a + 1))), (0, .ref (ad cl)), (1, .ref (ad n))]) hx hb dX0_partAll_30 hl (k := 2) rfl (nI_inc _) (by decide) rfl (fun ls hl => ?_)
          refine lv_goto (tgt := 2) hx hb dX0_partAll_33 (by decide) ?_
          have hW := Wd_setJ (g := (fun p => if p < a + 1 then lN (if mk p = true then 1 else 0) else J ke p)) hW kke (by rw [lke]; exact (fun p hp => by dsimp only [vp_updL]; by_cases hpa : p = a; (rw [if_pos (by omega), if_pos hpa, hpa, h10]; rfl); rw [if_neg hpa]; by_cases hc : p < a; rw [if_pos (by omega), if_pos hc]; rw [if_neg (by omega), if_neg hc]))
          exact ih2 (a + 1) (by omega) (by omega) _ _ hW ls (lv_sub hl [1, 2, 0] rfl)
        · skip
          refine lv_lconst (v := 1) hx hb dX0_partAll_24 (by decide) ?_
          refine lv_goto (tgt := 29) hx hb dX0_partAll_25 (by decide) ?_
          refine p_last C hW hke kke (k := a) rfl (by rw [lke]; omega) dX0_partAll_29 (fun H locs hW => ?_)
          rw [va_up_self, up_up] at hW
          refine lv_iinc (v := nI (a + 1)) (lv' := [(2, .int (nI (a + 1))), (0, .ref (ad cl)), (1, .ref (ad n))]) hx hb dX0_partAll_30 hl (k := 2) rfl (nI_inc _) (by decide) rfl (fun ls hl => ?_)
          refine lv_goto (tgt := 2) hx hb dX0_partAll_33 (by decide) ?_
          have hW := Wd_setJ (g := (fun p => if p < a + 1 then lN (if mk p = true then 1 else 0) else J ke p)) hW kke (by rw [lke]; exact (fun p hp => by dsimp only [vp_updL]; by_cases hpa : p = a; (rw [if_pos (by omega), if_pos hpa, hpa, h10]; rfl); rw [if_neg hpa]; by_cases hc : p < a; rw [if_pos (by omega), if_pos hc]; rw [if_neg (by omega), if_neg hc]))
          exact ih2 (a + 1) (by omega) (by omega) _ _ hW ls (lv_sub hl [1, 2, 0] rfl)
  have hW := Wd_setJ (g := (fun p => if p < 0 then lN (if mk p = true then 1 else 0) else J ke p)) hW kke (by rw [lke]; exact (fun p hp => by rw [if_neg (by omega)]))
  exact lp2 (pl + 1) 0 (by omega) (by omega) _ _ hW ls (lv_sub hl [1, 2, 0] rfl)
end
section
/-! throws, and calls of methods that may throw -/
section VR
variable {p : Program} {l : Launch} {e : Env} {R : Room} {s : State} {m : MethodId} {args : Array Value} {below : List Frame} {meth : Method} {c : Code} {H : Heap} {locs : List Loc} {cells slots : Nat} {Q : State → Prop}
variable {mc ms : Nat} {free : Addr → Prop} {A0 A1 : Nat → Prop} {H0 : Heap} {a : Array Value} {pc : Nat} {ls : Array Slot} {st0 rest : List Value}
theorem vx_callr {S SX : Type} {post : S → Prop} {px : SX → Prop} {B : S → Nat → State → Prop} {BX : String → SX → State → Prop} {AX : Nat → Prop} (hr : vx_Run p l e R s m args below meth c H locs cells slots mc ms (F0 m pc ls st0) rest (va_Qr post B A1 a) (vx_X px BX AX) free) (hS : va_S A0 H0 H locs) (hA : ∀ q, q < H.size → A1 q → A0 q) (hf : ∀ q, free q → A0 q) (hAX : ∀ q, q < H.size → AX q → A0 q)
    (kx : ∀ (E : String) (ce : Cell) (q9 : Addr) (u : SX) (t : State) (H1 : Heap) (locs1 : List Loc), t.heap = H1 → s.vm.Alike t.vm → px u → BX E u t → H.size ≤ H1.size → (∀ q : Nat, q < H.size → ¬ AX q → H1[q]? = H[q]?) → va_S A0 H0 H1 locs1 → H1[q9]? = some ce → ce.vm = .none → s.vm.findClass E = some ce.cls → vx_W p l e R s m args below meth c H1 locs1 (cells + mc) (slots + ms) Q (F0 m pc ls rest) q9)
    (kk : ∀ (u : S) (ra : Nat) (t : State) (H1 : Heap) (locs1 : List Loc), t.heap = H1 → s.vm.Alike t.vm → post u → B u ra t → H.size ≤ H1.size → (∀ q : Nat, q < H.size → ¬ A1 q → H1[q]? = H[q]?) → va_S A0 H0 H1 locs1 → W p l e R s m args below meth c H1 locs1 (cells + mc) (slots + ms) Q (F0 m (pc + 3) ls (.ref ra :: rest))) : W p l e R s m args below meth c H locs cells slots Q (F0 m pc ls st0) := by
  intro T hT X
  rcases hr T hT X with ⟨v, st₀, t, T', L, h0, X', hL, e1, e2, ⟨⟨u, ra, hv, hp, hb⟩, hF⟩, st⟩ | ⟨q, st₀, t, T', L, E, ce, h0, X', hL, e1, e2, ⟨u, hp, hb, hF⟩, hce, hcv, hcl, st⟩
  · cases hv
    obtain ⟨k1, k2, k3⟩ := vx_keep h0 e1 hS hA hf hL hF
    obtain ⟨t2, a1, b1⟩ := kk u ra t T'.heap (locs ++ L) e1.symm (by rw [← e2]; exact X'.warmed.alike) hp hb k1 k2 k3 T' rfl X'
    exact ⟨t2, st t2 a1, b1⟩
  · obtain ⟨k1, k2, k3⟩ := vx_keep h0 e1 hS hAX hf hL hF
    obtain ⟨t2, a1, b1⟩ := kx E ce q u t T'.heap (locs ++ L) e1.symm (by rw [← e2]; exact X'.warmed.alike) hp hb k1 k2 k3 (by rw [e1]; exact hce) hcv hcl T' rfl X'
    exact ⟨t2, st.trans a1, b1⟩
end VR
section TH
variable {p : Program} {l : Launch} {e : Env} {R : Room} {s : State} {m : MethodId} {args : Array Value} {below : List Frame} {meth : Method} {c : Code} {H : Heap} {locs : List Loc} {cells slots mc ms nL : Nat} {Q : State → Prop}
variable {cc : ByteArray} {pc : Nat} {ls : Array Slot} {own : String} {Ts : List Cond} {D : va_G} {cy : Nat → ClassId} {A : Nat → Prop} {L : List Nat} {ad : Nat → Nat} {G : mG} {I : mI} {J : mJ}
variable {y : MethodName} {ws ws' : List Cond} {rm : Room} {bytes : ByteArray} {maxL n index : Nat} {ret : Option FieldType} {Cn : String} {As rest st0 : List Value} {r : Nat}
theorem p_alen (C : Cx p s m args c cc own Ts D cy A) (hW : Wd D cy A s.heap H locs L ad G I J) (hr : r ∈ L) (hk : kd r = 9 ∨ kd r = 10) (hdg : decode cc pc = .ok (.arraylength, 1))
    (kk : W p l e R s m args below meth c H locs cells slots Q (F0 m (pc + 1) ls (.int (nI (ln r)) :: rest))) : W p l e R s m args below meth c H locs cells slots Q (F0 m pc ls (.ref (ad r) :: rest)) := by
  obtain ⟨hx, hb, hown, hts, hK, hA⟩ := C
  obtain ⟨q, hq, hq2⟩ := pQ_get (ad := ad) (F := pF cy ad G I J) hr
  rcases hk with hk | hk
  · rw [pF_9 hk] at hq2
    exact va_alen hx hb hK hW.1 q 3 hq2 rfl rfl hdg kk
  · rw [pF_10 hk] at hq2
    exact va_alen hx hb hK hW.1 q 4 hq2 rfl rfl hdg kk
theorem na_good : ∀ w ∈ Cond.classLink RX4 141 na_N :: Cond.initialized na_N :: na_at RX4 145, vx_ot w = true := by decide +kernel
theorem na_bad : ∀ w ∈ (na_at RX4 145).filter (fun w => !goodWord w), w ∈ [Cond.declares (Bundle.initS "java/lang/RuntimeException"), Cond.declares (Bundle.initS "java/lang/Exception"), Cond.declares (Bundle.initS Bundle.tN), Cond.castable na_N na_N] := by decide +kernel
def ia_N : String := "java/lang/IllegalArgumentException"
abbrev ia_at : List Cond := vx_atS RX4 181 "java/lang/IllegalArgumentException" ["java/lang/RuntimeException", "java/lang/Exception"]
theorem ia_good : ∀ w ∈ Cond.classLink RX4 177 "java/lang/IllegalArgumentException" :: Cond.initialized "java/lang/IllegalArgumentException" :: ia_at, vx_ot w = true := by decide +kernel
theorem ia_bad : ∀ w ∈ ia_at.filter (fun w => !goodWord w), w ∈ [Cond.declares (Bundle.initS "java/lang/RuntimeException"), Cond.declares (Bundle.initS "java/lang/Exception"), Cond.declares (Bundle.initS Bundle.tN), Cond.castable "java/lang/IllegalArgumentException" "java/lang/IllegalArgumentException"] := by decide +kernel
theorem p_xB (C : Cx p s m args c cc own Ts D cy A) (hW : Wd D cy A s.heap H locs L ad G I J) {px : String → Prop} {E : String} (hpx : px E) {t : State} (hvm : s.vm.Alike t.vm) (hz : H.size ≤ t.heap.size) (hk : ∀ q : Nat, q < H.size → t.heap[q]? = H[q]?) : qX px D cy L ad G I J A E s t := by
  refine ⟨(I, J), rfl, ⟨hpx, hW.1.kept (fun k q h => hk q.1 (hW.1 k q h).lt), va_K.moved hvm C.2.2.2.2.1, hW.2.1⟩, Nat.le_trans hW.2.2.1 hz, fun q h1 h2 => ?_⟩
  rw [hk q (Nat.lt_of_lt_of_le h1 hW.2.2.1)]
  exact hW.2.2.2.1 q h1 h2
theorem p_thrN {Qc : Array Value → State → Outcome → State → Prop} {px : String → Prop} {text : String} {is : Nat} (C : Cx p s m args c cc RX4 Ts D cy A) (hst : l.stackTraces = false) (hg : gX A s) (hTs : ∀ w ∈ (na_at RX4 145).filter goodWord, w ∈ Ts) (hk : Cond.classLink RX4 141 na_N ∈ Ts) (hini : Cond.initialized na_N ∈ Ts) (hstr : ∃ a, vk_R RX4 is text a s) (hW : Wd D cy A s.heap H locs L ad G I J) (hsize : ls.size = c.maxLocals)
    (d0 : decode cc pc = .ok (.new 141, 3)) (d3 : decode cc (pc + 3) = .ok (.dup, 1)) (d4 : decode cc (pc + 4) = .ok (.ldc is, 2)) (d6 : decode cc (pc + 6) = .ok (.invokespecial 145, 3)) (d9 : decode cc (pc + 9) = .ok (.athrow, 1))
    (hnx : ∀ x ∈ c.exceptionTable.toList, False) (hRf : 5 < R.frames) (hRl : (rest.map fun v => v.category).sum + 82 ≤ R.locals) (hRc : cells + 1 ≤ R.cells) (hRs : slots + 6 ≤ R.slots) (hlk : meth.locks = false) (hpx : px na_N) (hc : cells + 1 ≤ mc) (hs : slots + 6 ≤ ms) :
    W p l e R s m args below meth c H locs cells slots (vx_MQ below Qc (qX px D cy L ad G I J A) args s mc ms A) (F0 m pc ls rest) := by
  obtain ⟨sa, hstr⟩ := hstr
  have hts := C.2.2.2.1
  exact na_throwS C.1 C.2.1 hst C.2.2.1 (hts _ hk) (hts _ hini) hstr
    (vx_hat (fun w hw => hts w (hTs w hw)) na_bad (vx_c (va_Nw.use rfl hg.1.2.2.2.2.1) (vx_c (va_Nw.use rfl hg.1.2.2.2.2.2.1) (vx_c (va_Nw.use rfl hg.1.2.2.2.2.2.2.1) (vx_c (va_Nw.use rfl hg.1.2.2.2.2.2.2.2.1) vx_n))))) na_good hg.2.1 hg.2.2 hW.2.2 hsize d0 d3 d4 d6 d9 (fun x h => (hnx x h).elim) hRf hRl hRc hRs hlk
    (fun t hvm hz hkk => p_xB C hW hpx hvm hz hkk) hW.2.2.2.2 hc hs
theorem p_thrI {Qc : Array Value → State → Outcome → State → Prop} {px : String → Prop} {text : String} {is : Nat} (C : Cx p s m args c cc RX4 Ts D cy A) (hst : l.stackTraces = false) (hg : gX A s) (hTs : ∀ w ∈ (ia_at).filter goodWord, w ∈ Ts) (hk : Cond.classLink RX4 177 "java/lang/IllegalArgumentException" ∈ Ts) (hini : Cond.initialized "java/lang/IllegalArgumentException" ∈ Ts) (hstr : ∃ a, vk_R RX4 is text a s) (hW : Wd D cy A s.heap H locs L ad G I J) (hsize : ls.size = c.maxLocals)
    (d0 : decode cc pc = .ok (.new 177, 3)) (d3 : decode cc (pc + 3) = .ok (.dup, 1)) (d4 : decode cc (pc + 4) = .ok (.ldc is, 2)) (d6 : decode cc (pc + 6) = .ok (.invokespecial 181, 3)) (d9 : decode cc (pc + 9) = .ok (.athrow, 1))
    (hnx : ∀ x ∈ c.exceptionTable.toList, False) (hRf : 5 < R.frames) (hRl : (rest.map fun v => v.category).sum + 82 ≤ R.locals) (hRc : cells + 1 ≤ R.cells) (hRs : slots + 6 ≤ R.slots) (hlk : meth.locks = false) (hpx : px "java/lang/IllegalArgumentException") (hc : cells + 1 ≤ mc) (hs : slots + 6 ≤ ms) :
    W p l e R s m args below meth c H locs cells slots (vx_MQ below Qc (qX px D cy L ad G I J A) args s mc ms A) (F0 m pc ls rest) := by
  obtain ⟨sa, hstr⟩ := hstr
  have hts := C.2.2.2.1
  exact vx_throwS C.1 C.2.1 hst (names := ["java/lang/RuntimeException", "java/lang/Exception"]) C.2.2.1 (by decide +kernel) (by decide +kernel) (hts _ hk) (hts _ hini) hstr
    (vx_hat (fun w hw => hts w (hTs w hw)) ia_bad (vx_c (va_Nw.use rfl hg.1.2.2.2.2.1) (vx_c (va_Nw.use rfl hg.1.2.2.2.2.2.1) (vx_c (va_Nw.use rfl hg.1.2.2.2.2.2.2.1) (vx_c (va_Nw.use rfl hg.1.2.2.2.2.2.2.2.2.1) vx_n))))) ia_good hg.2.1 hg.2.2 hW.2.2 hsize d0 d3 d4 d6 d9 (fun x h => (hnx x h).elim) hRf hRl hRc hRs hlk
    (fun t hvm hz hkk => p_xB C hW hpx hvm hz hkk) hW.2.2.2.2 hc hs
theorem p_xVi {post : Int32 → mI → mJ → Prop} {px : String → Prop} (C : Cx p s m args c cc own Ts D cy A) (hml : c.maxLocals = nL) (hg : gX A s) (hW : Wd D cy A s.heap H locs L ad G I J) (hM : pXet l y ws rm D cy L ad G I J (.ref (ad r) :: As) (qI post D cy L ad G) px) (cw : CallW R s args own Cn index y bytes maxL ret ws rm rm.cells rm.slots n)
    (hrc : ∃ cell : Cell, H[ad r]? = some cell ∧ cell.vm.isStatics = false ∧ s.vm.findClass Cn = some cell.cls) (hn : As.length = n) (hsz : ls.size = nL) (hst : st0 = As.reverse ++ .ref (ad r) :: rest) (hroom : (rest.map fun v => v.category).sum ≤ 8) (hdg : decode cc pc = .ok (.invokevirtual index, 3)) (hcc : cells + rm.cells ≤ R.cells) (hcs : slots + rm.slots ≤ R.slots)
    (thr : ∀ (E : String) (ce : Cell) (q : Addr) (H : Heap) (locs : List Loc), Wd D cy A s.heap H locs L ad G I J → px E → H[q]? = some ce → ce.vm = .none → s.vm.findClass E = some ce.cls → vx_W p l e R s m args below meth c H locs (cells + rm.cells) (slots + rm.slots) Q (F0 m pc ls rest) q)
    (kk : ∀ (v : Int32) (I' : mI) (J' : mJ) (H : Heap) (locs : List Loc), post v I' J' → Wd D cy A s.heap H locs L ad G I' J' → W p l e R s m args below meth c H locs (cells + rm.cells) (slots + rm.slots) Q (F0 m (pc + 3) ls (.int v :: rest))) : W p l e R s m args below meth c H locs cells slots Q (F0 m pc ls st0) :=
  vx_calli (vx_runV (g := F0 m pc ls st0) (rest := rest) (cFix C hml) (hM H.size) cw ⟨pPre.blind, hrc, p_pre C hg hW⟩ rfl hn hsz hst (lv_room (ls := ls) (pc := pc) (m := m) (rest := st0) hroom) hdg ⟨hcc, hcs⟩) hW.2.2 (fun q _ h => pW_A hW.2.1 hW.2.2 C.2.2.2.2.2 q h) (pW_A hW.2.1 hW.2.2 C.2.2.2.2.2) (fun q _ h => pW_A hW.2.1 hW.2.2 C.2.2.2.2.2 q h)
    (fun E ce q9 u t H1 locs1 ht hvm hpu hB hz hk1 hS h1 h2 h3 => by
      subst hpu
      exact thr E ce q9 H1 locs1 (p_back C hW ht hB.2 hS) hB.1 h1 h2 h3)
    (fun v u t H1 locs1 ht hvm hw hB hz1 hk1 hS => kk v u.1 u.2 H1 locs1 hw (p_back C hW ht hB hS))
theorem p_xVl {post : Int64 → mI → mJ → Prop} {px : String → Prop} (C : Cx p s m args c cc own Ts D cy A) (hml : c.maxLocals = nL) (hg : gX A s) (hW : Wd D cy A s.heap H locs L ad G I J) (hM : pXet l y ws rm D cy L ad G I J (.ref (ad r) :: As) (qL post D cy L ad G) px) (cw : CallW R s args own Cn index y bytes maxL ret ws rm rm.cells rm.slots n)
    (hrc : ∃ cell : Cell, H[ad r]? = some cell ∧ cell.vm.isStatics = false ∧ s.vm.findClass Cn = some cell.cls) (hn : As.length = n) (hsz : ls.size = nL) (hst : st0 = As.reverse ++ .ref (ad r) :: rest) (hroom : (rest.map fun v => v.category).sum ≤ 8) (hdg : decode cc pc = .ok (.invokevirtual index, 3)) (hcc : cells + rm.cells ≤ R.cells) (hcs : slots + rm.slots ≤ R.slots)
    (thr : ∀ (E : String) (ce : Cell) (q : Addr) (H : Heap) (locs : List Loc), Wd D cy A s.heap H locs L ad G I J → px E → H[q]? = some ce → ce.vm = .none → s.vm.findClass E = some ce.cls → vx_W p l e R s m args below meth c H locs (cells + rm.cells) (slots + rm.slots) Q (F0 m pc ls rest) q)
    (kk : ∀ (v : Int64) (I' : mI) (J' : mJ) (H : Heap) (locs : List Loc), post v I' J' → Wd D cy A s.heap H locs L ad G I' J' → W p l e R s m args below meth c H locs (cells + rm.cells) (slots + rm.slots) Q (F0 m (pc + 3) ls (.long v :: rest))) : W p l e R s m args below meth c H locs cells slots Q (F0 m pc ls st0) :=
  vx_calll (vx_runV (g := F0 m pc ls st0) (rest := rest) (cFix C hml) (hM H.size) cw ⟨pPre.blind, hrc, p_pre C hg hW⟩ rfl hn hsz hst (lv_room (ls := ls) (pc := pc) (m := m) (rest := st0) hroom) hdg ⟨hcc, hcs⟩) hW.2.2 (fun q _ h => pW_A hW.2.1 hW.2.2 C.2.2.2.2.2 q h) (pW_A hW.2.1 hW.2.2 C.2.2.2.2.2) (fun q _ h => pW_A hW.2.1 hW.2.2 C.2.2.2.2.2 q h)
    (fun E ce q9 u t H1 locs1 ht hvm hpu hB hz hk1 hS h1 h2 h3 => by
      subst hpu
      exact thr E ce q9 H1 locs1 (p_back C hW ht hB.2 hS) hB.1 h1 h2 h3)
    (fun v u t H1 locs1 ht hvm hw hB hz1 hk1 hS => kk v u.1 u.2 H1 locs1 hw (p_back C hW ht hB hS))
theorem p_xVv {post : mI → mJ → Prop} {px : String → Prop} (C : Cx p s m args c cc own Ts D cy A) (hml : c.maxLocals = nL) (hg : gX A s) (hW : Wd D cy A s.heap H locs L ad G I J) (hM : pXet l y ws rm D cy L ad G I J (.ref (ad r) :: As) (qV post D cy L ad G) px) (cw : CallW R s args own Cn index y bytes maxL ret ws rm rm.cells rm.slots n)
    (hrc : ∃ cell : Cell, H[ad r]? = some cell ∧ cell.vm.isStatics = false ∧ s.vm.findClass Cn = some cell.cls) (hn : As.length = n) (hsz : ls.size = nL) (hst : st0 = As.reverse ++ .ref (ad r) :: rest) (hroom : (rest.map fun v => v.category).sum ≤ 8) (hdg : decode cc pc = .ok (.invokevirtual index, 3)) (hcc : cells + rm.cells ≤ R.cells) (hcs : slots + rm.slots ≤ R.slots)
    (thr : ∀ (E : String) (ce : Cell) (q : Addr) (H : Heap) (locs : List Loc), Wd D cy A s.heap H locs L ad G I J → px E → H[q]? = some ce → ce.vm = .none → s.vm.findClass E = some ce.cls → vx_W p l e R s m args below meth c H locs (cells + rm.cells) (slots + rm.slots) Q (F0 m pc ls rest) q)
    (kk : ∀ (I' : mI) (J' : mJ) (H : Heap) (locs : List Loc), post I' J' → Wd D cy A s.heap H locs L ad G I' J' → W p l e R s m args below meth c H locs (cells + rm.cells) (slots + rm.slots) Q (F0 m (pc + 3) ls rest)) : W p l e R s m args below meth c H locs cells slots Q (F0 m pc ls st0) :=
  vx_callv (vx_runV (g := F0 m pc ls st0) (rest := rest) (cFix C hml) (hM H.size) cw ⟨pPre.blind, hrc, p_pre C hg hW⟩ rfl hn hsz hst (lv_room (ls := ls) (pc := pc) (m := m) (rest := st0) hroom) hdg ⟨hcc, hcs⟩) hW.2.2 (fun q _ h => pW_A hW.2.1 hW.2.2 C.2.2.2.2.2 q h) (pW_A hW.2.1 hW.2.2 C.2.2.2.2.2) (fun q _ h => pW_A hW.2.1 hW.2.2 C.2.2.2.2.2 q h)
    (fun E ce q9 u t H1 locs1 ht hvm hpu hB hz hk1 hS h1 h2 h3 => by
      subst hpu
      exact thr E ce q9 H1 locs1 (p_back C hW ht hB.2 hS) hB.1 h1 h2 h3)
    (fun u t H1 locs1 ht hvm hw hB hz1 hk1 hS => kk u.1 u.2 H1 locs1 hw (p_back C hW ht hB hS))
theorem p_xVr {post : Nat → mI → mJ → Prop} {px : String → Prop} (C : Cx p s m args c cc own Ts D cy A) (hml : c.maxLocals = nL) (hg : gX A s) (hW : Wd D cy A s.heap H locs L ad G I J) (hM : pXet l y ws rm D cy L ad G I J (.ref (ad r) :: As) (qR post D cy L ad G) px) (cw : CallW R s args own Cn index y bytes maxL ret ws rm rm.cells rm.slots n)
    (hrc : ∃ cell : Cell, H[ad r]? = some cell ∧ cell.vm.isStatics = false ∧ s.vm.findClass Cn = some cell.cls) (hn : As.length = n) (hsz : ls.size = nL) (hst : st0 = As.reverse ++ .ref (ad r) :: rest) (hroom : (rest.map fun v => v.category).sum ≤ 8) (hdg : decode cc pc = .ok (.invokevirtual index, 3)) (hcc : cells + rm.cells ≤ R.cells) (hcs : slots + rm.slots ≤ R.slots)
    (thr : ∀ (E : String) (ce : Cell) (q : Addr) (H : Heap) (locs : List Loc), Wd D cy A s.heap H locs L ad G I J → px E → H[q]? = some ce → ce.vm = .none → s.vm.findClass E = some ce.cls → vx_W p l e R s m args below meth c H locs (cells + rm.cells) (slots + rm.slots) Q (F0 m pc ls rest) q)
    (kk : ∀ (v : Nat) (I' : mI) (J' : mJ) (H : Heap) (locs : List Loc), post v I' J' → Wd D cy A s.heap H locs L ad G I' J' → W p l e R s m args below meth c H locs (cells + rm.cells) (slots + rm.slots) Q (F0 m (pc + 3) ls (.ref (ad v) :: rest))) : W p l e R s m args below meth c H locs cells slots Q (F0 m pc ls st0) :=
  vx_callr (vx_runV (g := F0 m pc ls st0) (rest := rest) (cFix C hml) (hM H.size) cw ⟨pPre.blind, hrc, p_pre C hg hW⟩ rfl hn hsz hst (lv_room (ls := ls) (pc := pc) (m := m) (rest := st0) hroom) hdg ⟨hcc, hcs⟩) hW.2.2 (fun q _ h => pW_A hW.2.1 hW.2.2 C.2.2.2.2.2 q h) (pW_A hW.2.1 hW.2.2 C.2.2.2.2.2) (fun q _ h => pW_A hW.2.1 hW.2.2 C.2.2.2.2.2 q h)
    (fun E ce q9 u t H1 locs1 ht hvm hpu hB hz hk1 hS h1 h2 h3 => by
      subst hpu
      exact thr E ce q9 H1 locs1 (p_back C hW ht hB.2 hS) hB.1 h1 h2 h3)
    (fun u ra t H1 locs1 ht hvm hw hB hz1 hk1 hS => by obtain ⟨v, u⟩ := u; obtain ⟨rfl, hB⟩ := hB; exact kk v u.1 u.2 H1 locs1 hw (p_back C hW ht hB hS))
theorem p_xSi {post : Int32 → mI → mJ → Prop} {px : String → Prop} (C : Cx p s m args c cc own Ts D cy A) (hml : c.maxLocals = nL) (hg : gX A s) (hW : Wd D cy A s.heap H locs L ad G I J) (hM : pXet l y ws rm D cy L ad G I J As (qI post D cy L ad G) px) (cw : CallB R s args own index y bytes maxL ret ws rm rm.cells rm.slots n ∧ (Cond.static y).before args s = true)
    (hn : As.length = n) (hsz : ls.size = nL) (hst : st0 = As.reverse ++ rest) (hroom : (rest.map fun v => v.category).sum ≤ 8) (hdg : decode cc pc = .ok (.invokestatic index, 3)) (hcc : cells + rm.cells ≤ R.cells) (hcs : slots + rm.slots ≤ R.slots)
    (thr : ∀ (E : String) (ce : Cell) (q : Addr) (H : Heap) (locs : List Loc), Wd D cy A s.heap H locs L ad G I J → px E → H[q]? = some ce → ce.vm = .none → s.vm.findClass E = some ce.cls → vx_W p l e R s m args below meth c H locs (cells + rm.cells) (slots + rm.slots) Q (F0 m pc ls rest) q)
    (kk : ∀ (v : Int32) (I' : mI) (J' : mJ) (H : Heap) (locs : List Loc), post v I' J' → Wd D cy A s.heap H locs L ad G I' J' → W p l e R s m args below meth c H locs (cells + rm.cells) (slots + rm.slots) Q (F0 m (pc + 3) ls (.int v :: rest))) : W p l e R s m args below meth c H locs cells slots Q (F0 m pc ls st0) :=
  vx_calli (vx_runS (g := F0 m pc ls st0) (rest := rest) (cFix C hml) (hM H.size) cw ⟨pPre.blind, p_pre C hg hW⟩ rfl hn hsz hst (lv_room (ls := ls) (pc := pc) (m := m) (rest := st0) hroom) hdg ⟨hcc, hcs⟩) hW.2.2 (fun q _ h => pW_A hW.2.1 hW.2.2 C.2.2.2.2.2 q h) (pW_A hW.2.1 hW.2.2 C.2.2.2.2.2) (fun q _ h => pW_A hW.2.1 hW.2.2 C.2.2.2.2.2 q h)
    (fun E ce q9 u t H1 locs1 ht hvm hpu hB hz hk1 hS h1 h2 h3 => by
      subst hpu
      exact thr E ce q9 H1 locs1 (p_back C hW ht hB.2 hS) hB.1 h1 h2 h3)
    (fun v u t H1 locs1 ht hvm hw hB hz1 hk1 hS => kk v u.1 u.2 H1 locs1 hw (p_back C hW ht hB hS))
theorem p_xSl {post : Int64 → mI → mJ → Prop} {px : String → Prop} (C : Cx p s m args c cc own Ts D cy A) (hml : c.maxLocals = nL) (hg : gX A s) (hW : Wd D cy A s.heap H locs L ad G I J) (hM : pXet l y ws rm D cy L ad G I J As (qL post D cy L ad G) px) (cw : CallB R s args own index y bytes maxL ret ws rm rm.cells rm.slots n ∧ (Cond.static y).before args s = true)
    (hn : As.length = n) (hsz : ls.size = nL) (hst : st0 = As.reverse ++ rest) (hroom : (rest.map fun v => v.category).sum ≤ 8) (hdg : decode cc pc = .ok (.invokestatic index, 3)) (hcc : cells + rm.cells ≤ R.cells) (hcs : slots + rm.slots ≤ R.slots)
    (thr : ∀ (E : String) (ce : Cell) (q : Addr) (H : Heap) (locs : List Loc), Wd D cy A s.heap H locs L ad G I J → px E → H[q]? = some ce → ce.vm = .none → s.vm.findClass E = some ce.cls → vx_W p l e R s m args below meth c H locs (cells + rm.cells) (slots + rm.slots) Q (F0 m pc ls rest) q)
    (kk : ∀ (v : Int64) (I' : mI) (J' : mJ) (H : Heap) (locs : List Loc), post v I' J' → Wd D cy A s.heap H locs L ad G I' J' → W p l e R s m args below meth c H locs (cells + rm.cells) (slots + rm.slots) Q (F0 m (pc + 3) ls (.long v :: rest))) : W p l e R s m args below meth c H locs cells slots Q (F0 m pc ls st0) :=
  vx_calll (vx_runS (g := F0 m pc ls st0) (rest := rest) (cFix C hml) (hM H.size) cw ⟨pPre.blind, p_pre C hg hW⟩ rfl hn hsz hst (lv_room (ls := ls) (pc := pc) (m := m) (rest := st0) hroom) hdg ⟨hcc, hcs⟩) hW.2.2 (fun q _ h => pW_A hW.2.1 hW.2.2 C.2.2.2.2.2 q h) (pW_A hW.2.1 hW.2.2 C.2.2.2.2.2) (fun q _ h => pW_A hW.2.1 hW.2.2 C.2.2.2.2.2 q h)
    (fun E ce q9 u t H1 locs1 ht hvm hpu hB hz hk1 hS h1 h2 h3 => by
      subst hpu
      exact thr E ce q9 H1 locs1 (p_back C hW ht hB.2 hS) hB.1 h1 h2 h3)
    (fun v u t H1 locs1 ht hvm hw hB hz1 hk1 hS => kk v u.1 u.2 H1 locs1 hw (p_back C hW ht hB hS))
theorem p_xSv {post : mI → mJ → Prop} {px : String → Prop} (C : Cx p s m args c cc own Ts D cy A) (hml : c.maxLocals = nL) (hg : gX A s) (hW : Wd D cy A s.heap H locs L ad G I J) (hM : pXet l y ws rm D cy L ad G I J As (qV post D cy L ad G) px) (cw : CallB R s args own index y bytes maxL ret ws rm rm.cells rm.slots n ∧ (Cond.static y).before args s = true)
    (hn : As.length = n) (hsz : ls.size = nL) (hst : st0 = As.reverse ++ rest) (hroom : (rest.map fun v => v.category).sum ≤ 8) (hdg : decode cc pc = .ok (.invokestatic index, 3)) (hcc : cells + rm.cells ≤ R.cells) (hcs : slots + rm.slots ≤ R.slots)
    (thr : ∀ (E : String) (ce : Cell) (q : Addr) (H : Heap) (locs : List Loc), Wd D cy A s.heap H locs L ad G I J → px E → H[q]? = some ce → ce.vm = .none → s.vm.findClass E = some ce.cls → vx_W p l e R s m args below meth c H locs (cells + rm.cells) (slots + rm.slots) Q (F0 m pc ls rest) q)
    (kk : ∀ (I' : mI) (J' : mJ) (H : Heap) (locs : List Loc), post I' J' → Wd D cy A s.heap H locs L ad G I' J' → W p l e R s m args below meth c H locs (cells + rm.cells) (slots + rm.slots) Q (F0 m (pc + 3) ls rest)) : W p l e R s m args below meth c H locs cells slots Q (F0 m pc ls st0) :=
  vx_callv (vx_runS (g := F0 m pc ls st0) (rest := rest) (cFix C hml) (hM H.size) cw ⟨pPre.blind, p_pre C hg hW⟩ rfl hn hsz hst (lv_room (ls := ls) (pc := pc) (m := m) (rest := st0) hroom) hdg ⟨hcc, hcs⟩) hW.2.2 (fun q _ h => pW_A hW.2.1 hW.2.2 C.2.2.2.2.2 q h) (pW_A hW.2.1 hW.2.2 C.2.2.2.2.2) (fun q _ h => pW_A hW.2.1 hW.2.2 C.2.2.2.2.2 q h)
    (fun E ce q9 u t H1 locs1 ht hvm hpu hB hz hk1 hS h1 h2 h3 => by
      subst hpu
      exact thr E ce q9 H1 locs1 (p_back C hW ht hB.2 hS) hB.1 h1 h2 h3)
    (fun u t H1 locs1 ht hvm hw hB hz1 hk1 hS => kk u.1 u.2 H1 locs1 hw (p_back C hW ht hB hS))
theorem p_xSr {post : Nat → mI → mJ → Prop} {px : String → Prop} (C : Cx p s m args c cc own Ts D cy A) (hml : c.maxLocals = nL) (hg : gX A s) (hW : Wd D cy A s.heap H locs L ad G I J) (hM : pXet l y ws rm D cy L ad G I J As (qR post D cy L ad G) px) (cw : CallB R s args own index y bytes maxL ret ws rm rm.cells rm.slots n ∧ (Cond.static y).before args s = true)
    (hn : As.length = n) (hsz : ls.size = nL) (hst : st0 = As.reverse ++ rest) (hroom : (rest.map fun v => v.category).sum ≤ 8) (hdg : decode cc pc = .ok (.invokestatic index, 3)) (hcc : cells + rm.cells ≤ R.cells) (hcs : slots + rm.slots ≤ R.slots)
    (thr : ∀ (E : String) (ce : Cell) (q : Addr) (H : Heap) (locs : List Loc), Wd D cy A s.heap H locs L ad G I J → px E → H[q]? = some ce → ce.vm = .none → s.vm.findClass E = some ce.cls → vx_W p l e R s m args below meth c H locs (cells + rm.cells) (slots + rm.slots) Q (F0 m pc ls rest) q)
    (kk : ∀ (v : Nat) (I' : mI) (J' : mJ) (H : Heap) (locs : List Loc), post v I' J' → Wd D cy A s.heap H locs L ad G I' J' → W p l e R s m args below meth c H locs (cells + rm.cells) (slots + rm.slots) Q (F0 m (pc + 3) ls (.ref (ad v) :: rest))) : W p l e R s m args below meth c H locs cells slots Q (F0 m pc ls st0) :=
  vx_callr (vx_runS (g := F0 m pc ls st0) (rest := rest) (cFix C hml) (hM H.size) cw ⟨pPre.blind, p_pre C hg hW⟩ rfl hn hsz hst (lv_room (ls := ls) (pc := pc) (m := m) (rest := st0) hroom) hdg ⟨hcc, hcs⟩) hW.2.2 (fun q _ h => pW_A hW.2.1 hW.2.2 C.2.2.2.2.2 q h) (pW_A hW.2.1 hW.2.2 C.2.2.2.2.2) (fun q _ h => pW_A hW.2.1 hW.2.2 C.2.2.2.2.2 q h)
    (fun E ce q9 u t H1 locs1 ht hvm hpu hB hz hk1 hS h1 h2 h3 => by
      subst hpu
      exact thr E ce q9 H1 locs1 (p_back C hW ht hB.2 hS) hB.1 h1 h2 h3)
    (fun u ra t H1 locs1 ht hvm hw hB hz1 hk1 hS => by obtain ⟨v, u⟩ := u; obtain ⟨rfl, hB⟩ := hB; exact kk v u.1 u.2 H1 locs1 hw (p_back C hW ht hB hS))
end TH
end
