/-! NEW CELLS: a role is added to the pool -/
def clo (L : List Nat) (G : mG) : Prop := ∀ r, r ∈ L → ∀ k t, G r k = some t → t ∈ L
theorem map_up {ad : Nat → Nat} {x : Option Nat} {r a : Nat} (h : x ≠ some r) : x.map (va_up ad r a) = x.map ad := by
  cases x with
  | none => rfl
  | some t => exact congrArg some (va_up_ne _ _ (fun e => h (by rw [e])))
theorem pF_ad {cy : Nat → ClassId} {ad : Nat → Nat} {G : mG} {I : mI} {J : mJ} {r a : Nat} (b : Nat) (h : ∀ k, G b k ≠ some r) : pF cy (va_up ad r a) G I J b = pF cy ad G I J b := by
  simp only [pF, pR, map_up (h _)]
theorem pW_push {cy : Nat → ClassId} {ad : Nat → Nat} {G : mG} {I : mI} {J : mJ} {L : List Nat} {r a : Nat} {g : Nat → Option Nat} {i : Nat → Int32} {j : Nat → Int64} (hc : clo L G) (hr : r ∉ L) : pW cy (va_up ad r a) (va_up G r g) (va_up I r i) (va_up J r j) (L ++ [r]) = pW cy ad G I J L ++ [(a, pF cy (va_up ad r a) (va_up G r g) (va_up I r i) (va_up J r j) r)] := by
  unfold pW pQ
  rw [List.map_append]
  congr 1
  · refine List.map_congr_left (fun b hb => ?_)
    have hne : b ≠ r := fun e => hr (by rw [← e]; exact hb)
    rw [va_up_ne _ _ hne, pF_J b hne, pF_I b hne, pF_ad b (fun k => by rw [va_up_ne _ _ hne]; exact fun e => hr (hc b hb k r e)), pF_G b hne]
  · show [(va_up ad r a r, _)] = _
    rw [va_up_self]
theorem ra_one {U : State} {c1 c2 : ClassId} {ty : FieldType} (h1 : va_RA U c1 ty) (h2 : va_RA U c2 ty) : c1 = c2 := by
  cases ty with
  | object C =>
    obtain ⟨_, _, _, _, _, h3⟩ := h1
    obtain ⟨_, _, _, _, _, h4⟩ := h2
    exact Option.some.inj (h3.symm.trans h4)
  | _ => exact Option.some.inj (Eq.trans (Eq.symm h1) h2)
abbrev mU : Type := List Nat × (Nat → Nat) × mG × mI × mJ
def pN (D : va_G) (cy : Nat → ClassId) (A : Nat → Prop) (u : mU) (t : State) : Prop :=
  va_P D vwCl (pW cy u.2.1 u.2.2.1 u.2.2.2.1 u.2.2.2.2 u.1) t.heap ∧ va_K D vwCl (tysC cy) t ∧ va_D A (pW cy u.2.1 u.2.2.1 u.2.2.2.1 u.2.2.2.2 u.1)
abbrev nPost : Type := List Nat → (Nat → Nat) → mG → mI → mJ → Prop
abbrev qN (post : nPost) (D : va_G) (cy : Nat → ClassId) (A : Nat → Prop) := va_Qv (fun (u : mU) => post u.1 u.2.1 u.2.2.1 u.2.2.2.1 u.2.2.2.2) (pN D cy A) A
abbrev qNI (post : Int32 → nPost) (D : va_G) (cy : Nat → ClassId) (A : Nat → Prop) := va_Qi (fun r (u : mU) => post r u.1 u.2.1 u.2.2.1 u.2.2.2.1 u.2.2.2.2) (pN D cy A) A
section AL
variable {p : Program} {l : Launch} {e : Env} {R : Room} {s : State} {m : MethodId} {args : Array Value} {below : List Frame} {meth : Method} {c : Code} {H : Heap} {locs : List Loc} {cells slots mc ms nL : Nat} {Q : State → Prop}
variable {cc : ByteArray} {pc : Nat} {ls : Array Slot} {rest st0 As : List Value} {own : String} {Ts ws ws' : List Cond} {D : va_G} {cy : Nat → ClassId} {A : Nat → Prop} {L : List Nat} {ad : Nat → Nat} {G : mG} {I : mI} {J : mJ} {r t : Nat} {y : MethodName} {rm : Room} {bytes : ByteArray} {maxL n : Nat}
theorem p_new (C : Cx p s m args c cc own Ts D cy A) (hW : Wd D cy A s.heap H locs L ad G I J) (hcl : clo L G) (hr : r ∉ L) {ci N index : Nat} {Cn : String} {T : u_T} (hc : vwCl[ci]? = some (Cn, T, N)) (hin : ∀ w ∈ u_ws Cn T N, w ∈ Ts) (ty : Nat → FieldType) (hty : ∀ k, k < N → parseFieldDescriptor (T k).2.2.1 = some (ty k))
    (hlink : (Cond.classLink own index Cn).before args s = true) (hinst : (Cond.instantiable Cn N).before args s = true) (hini : (Cond.initialized Cn).before args s = true) {fs : List Value} (hfs : ∀ j, j < N → defaultValue (ty j) = vp_V fs j)
    (hF : ∀ a, pF cy (va_up ad r a) (va_up G r (fun _ => none)) (va_up I r (fun _ => 0)) (va_up J r (fun _ => 0)) r = .inr (ci, fs)) (hcells : cells + 1 ≤ R.cells) (hslots : slots + N ≤ R.slots) (hdg : decode cc pc = .ok (.new index, 3))
    (kk : ∀ (ad' : Nat → Nat) (H : Heap), (∀ q, q ∈ L → ad' q = ad q) → Wd D cy A s.heap H locs (L ++ [r]) ad' (va_up G r (fun _ => none)) (va_up I r (fun _ => 0)) (va_up J r (fun _ => 0)) → W p l e R s m args below meth c H locs (cells + 1) (slots + N) Q (F0 m (pc + 3) ls (.ref (ad' r) :: rest))) :
    W p l e R s m args below meth c H locs cells slots Q (F0 m pc ls rest) := by
  obtain ⟨hx, hb, hown, hts, hK, hA⟩ := C
  obtain ⟨hP, hD, hS⟩ := hW
  refine va_new hx hb hts hin ty hty hown hlink hinst hini hK hP hD hS hA hc hfs hcells hslots hdg (fun q H1 hP1 hD1 hS1 => ?_)
  have e := pW_push (cy := cy) (ad := ad) (a := q) (g := fun _ => none) (i := fun _ => 0) (j := fun _ => 0) (I := I) (J := J) hcl hr
  rw [hF q] at e
  have := kk (va_up ad r q) H1 (fun b hb => va_up_ne _ _ (fun z => hr (by rw [← z]; exact hb))) ⟨by rw [e]; exact hP1, by rw [e]; exact hD1, hS1⟩
  rw [va_up_self] at this
  exact this
theorem p_newa (C : Cx p s m args c cc own Ts D cy A) (hW : Wd D cy A s.heap H locs L ad G I J) (hcl : clo L G) (hr : r ∉ L) {atype : ArrayType} (harr : (Cond.arrayClass (newarray.typeOf atype)).before args s = true) {ty : FieldType} (hty : newarray.typeOf atype = ty) {i N : Nat} (hi : (tysC cy)[i]? = some (cy i, ty)) (hN : N < 2 ^ 20) (hb8 : componentBytes ty ≤ 8)
    {a0 : vp_A} (ha : ∀ cA : ClassId, vp_cell cA a0 = arrV cA N (fun _ => defaultValue ty)) (hF : ∀ a, pF cy (va_up ad r a) (va_up G r (fun _ => none)) (va_up I r (fun _ => 0)) (va_up J r (fun _ => 0)) r = .inl (cy i, a0)) (hcells : cells + 1 ≤ R.cells) (hslots : slots + N ≤ R.slots) (hdg : decode cc pc = .ok (.newarray atype, 2))
    (kk : ∀ (ad' : Nat → Nat) (H : Heap), (∀ q, q ∈ L → ad' q = ad q) → Wd D cy A s.heap H locs (L ++ [r]) ad' (va_up G r (fun _ => none)) (va_up I r (fun _ => 0)) (va_up J r (fun _ => 0)) → W p l e R s m args below meth c H locs (cells + 1) (slots + N) Q (F0 m (pc + 2) ls (.ref (ad' r) :: rest))) :
    W p l e R s m args below meth c H locs cells slots Q (F0 m pc ls (.int (nI N) :: rest)) := by
  obtain ⟨hx, hb, hown, hts, hK, hA⟩ := C
  obtain ⟨hP, hD, hS⟩ := hW
  refine va_newa hx hb harr hty hK hP hD hS hA ha (nI_pos (by omega)) (nI_clamp (by omega)) (Nat.le_trans (Nat.mul_le_mul (Nat.le_of_lt hN) hb8) (by decide)) hcells hslots hdg (fun q cA H1 hK1 hP1 hD1 hS1 => ?_)
  have hca : cA = cy i := ra_one (hK1.2 5 (cA, ty) rfl).2 (hK.2 i _ hi).2
  subst hca
  have e := pW_push (cy := cy) (ad := ad) (a := q) (g := fun _ => none) (i := fun _ => 0) (j := fun _ => 0) (I := I) (J := J) hcl hr
  rw [hF q] at e
  have := kk (va_up ad r q) H1 (fun b hb => va_up_ne _ _ (fun z => hr (by rw [← z]; exact hb))) ⟨by rw [e]; exact hP1, by rw [e]; exact hD1, hS1⟩
  rw [va_up_self] at this
  exact this
theorem p_newq (C : Cx p s m args c cc own Ts D cy A) (hW : Wd D cy A s.heap H locs L ad G I J) (hcl : clo L G) (hr : r ∉ L) {index i N : Nat} {Cn : String} (hlink : (Cond.classLink own index Cn).before args s = true) (hov : va_AO Cn s) (hi : (tysC cy)[i]? = some (cy i, .object Cn)) (hN : N < 2 ^ 20)
    (hF : ∀ a, pF cy (va_up ad r a) (va_up G r (fun _ => none)) (va_up I r (fun _ => 0)) (va_up J r (fun _ => 0)) r = .inl (cy i, N, .inr (.inr (.inr (.inr (fun _ => none)))))) (hcells : cells + 1 ≤ R.cells) (hslots : slots + N ≤ R.slots) (hdg : decode cc pc = .ok (.anewarray index, 3))
    (kk : ∀ (ad' : Nat → Nat) (H : Heap), (∀ q, q ∈ L → ad' q = ad q) → Wd D cy A s.heap H locs (L ++ [r]) ad' (va_up G r (fun _ => none)) (va_up I r (fun _ => 0)) (va_up J r (fun _ => 0)) → W p l e R s m args below meth c H locs (cells + 1) (slots + N) Q (F0 m (pc + 3) ls (.ref (ad' r) :: rest))) :
    W p l e R s m args below meth c H locs cells slots Q (F0 m pc ls (.int (nI N) :: rest)) := by
  obtain ⟨hx, hb, hown, hts, hK, hA⟩ := C
  obtain ⟨hP, hD, hS⟩ := hW
  refine va_newq hx hb hown hlink hov hK hP hD hS hA (nI_pos (by omega)) (nI_clamp (by omega)) (by omega) hcells hslots hdg (fun q cA H1 hK1 hP1 hD1 hS1 => ?_)
  have hca : cA = cy i := ra_one (hK1.2 5 (cA, .object Cn) rfl).2 (hK.2 i _ hi).2
  subst hca
  have e := pW_push (cy := cy) (ad := ad) (a := q) (g := fun _ => none) (i := fun _ => 0) (j := fun _ => 0) (I := I) (J := J) hcl hr
  rw [hF q] at e
  have := kk (va_up ad r q) H1 (fun b hb => va_up_ne _ _ (fun z => hr (by rw [← z]; exact hb))) ⟨by rw [e]; exact hP1, by rw [e]; exact hD1, hS1⟩
  rw [va_up_self] at this
  exact this
/-- a final field told in a constructor -/
theorem p_putF (C : Cx p s m args c cc own Ts D cy A) (hnm0 : meth.name = "<init>") (hW : Wd D cy A s.heap H locs L ad G I J) (hr : r ∈ L) {ci N index k : Nat} {fs : List Value} {Cn : String} {T : u_T} {v : Value} {G' : mG} {I' : mI} {J' : mJ} (hF : pF cy ad G I J r = .inr (ci, fs)) (hc : vwCl[ci]? = some (Cn, T, N)) (hin : ∀ w ∈ u_ws Cn T N, w ∈ Ts)
    (ty0 : Nat → FieldType) (hty : ∀ k, k < N → parseFieldDescriptor (T k).2.2.1 = some (ty0 k)) (hnm : ∀ a, a < N → ∀ b, b < N → a ≠ b → (T a).2.1 ≠ (T b).2.1) (hk : k < N)
    (hlink : (Cond.fieldLink own index (T k).1 (T k).2.1 (T k).2.2.1).before args s = true) (hfin : (T k).2.2.2 = true) (hdecl : (T k).1 = own) {ty : FieldType} (hd : parseFieldDescriptor (T k).2.2.1 = some ty) (hn : narrow ty v = v) (hfit : fits ty v = true) (hl : k < fs.length)
    (hF' : pF cy ad G' I' J' r = .inr (ci, fs.set k v)) (hoth : ∀ b, b ≠ r → pF cy ad G' I' J' b = pF cy ad G I J b) (hdg : decode cc pc = .ok (.putfield index, 3))
    (kk : ∀ (H : Heap) (locs : List Loc), Wd D cy A s.heap H locs L ad G' I' J' → W p l e R s m args below meth c H locs cells slots Q (F0 m (pc + 3) ls rest)) : W p l e R s m args below meth c H locs cells slots Q (F0 m pc ls (v :: .ref (ad r) :: rest)) := by
  obtain ⟨hx, hb, hown, hts, hK, hA⟩ := C
  obtain ⟨hP, hD, hS⟩ := hW
  obtain ⟨q, hq, hq2⟩ := pQ_get (ad := ad) (F := pF cy ad G I J) hr
  have hq3 := hq2
  rw [hF] at hq3
  refine va_putF hx hb hts hin ty0 hty hnm hown hK hP hD hS q hq3 hc k hk hlink (fun _ h => h) hfin hnm0 hdecl hd hn hfit hl hdg (fun H1 locs1 hP1 hD1 hS1 => ?_)
  rw [pQ_set hD hq hF' hoth] at hP1 hD1
  exact kk H1 locs1 ⟨hP1, hD1, hS1⟩
/-- a reference into a row of them -/
theorem p_aast (C : Cx p s m args c cc own Ts D cy A) (hW : Wd D cy A s.heap H locs L ad G I J) (hr : r ∈ L) (hk : kd r = 9 ∨ kd r = 10) (ht : t ∈ L) {ci i : Nat} {fs : List Value} {q : vw_C} (hF : pF cy ad G I J t = .inr (ci, fs)) (hc : vwCl[ci]? = some q) (hi : (tysC cy)[i]? = some (cy i, .object q.1)) (hki : kd r = 6 + i) {k : Nat} (hl : k < ln r) (hdg : decode cc pc = .ok (.aastore, 1))
    (kk : ∀ (H : Heap) (locs : List Loc), Wd D cy A s.heap H locs L ad (va_up G r (va_up (G r) k (some t))) I J → W p l e R s m args below meth c H locs cells slots Q (F0 m (pc + 1) ls rest)) : W p l e R s m args below meth c H locs cells slots Q (F0 m pc ls (.ref (ad t) :: .int (nI k) :: .ref (ad r) :: rest)) := by
  obtain ⟨hx, hb, hown, hts, hK, hA⟩ := C
  obtain ⟨hP, hD, hS⟩ := hW
  obtain ⟨x, hx1, hx2⟩ := pQ_get (ad := ad) (F := pF cy ad G I J) hr
  obtain ⟨z, hz1, hz2⟩ := pQ_get (ad := ad) (F := pF cy ad G I J) ht
  have hn := ln_lt r
  rw [hF] at hz2
  have hpf : ∀ G : mG, pF cy ad G I J r = .inl (cy i, ln r, .inr (.inr (.inr (.inr (fun k => (G r k).map ad))))) := fun G => by
    rcases hk with h | h
    · have e : i = 3 := by omega
      subst e; exact pF_9 h
    · have e : i = 4 := by omega
      subst e; exact pF_10 h
  rw [hpf G] at hx2
  refine va_astq hx hb hK hP hD hS x i z ci hx2 hi hz2 hc (vp_in_nI hl hn) hdg (fun H1 locs1 hP1 hD1 hS1 => ?_)
  rw [nI_clamp (Nat.lt_trans hl hn)] at hP1 hD1
  have hm : (fun j => (va_up G r (va_up (G r) k (some t)) r j).map ad) = va_up (fun k => (G r k).map ad) k (some (ad t)) := by
    funext j
    rw [va_up_self]
    by_cases e : j = k
    · subst e; rw [va_up_self, va_up_self]; rfl
    · rw [va_up_ne _ _ e, va_up_ne _ _ e]
  rw [pQ_set (F' := pF cy ad (va_up G r (va_up (G r) k (some t))) I J) hD hx1 (by rw [hpf, hm]) pF_G] at hP1 hD1
  exact kk H1 locs1 ⟨hP1, hD1, hS1⟩
theorem p_N (C : Cx p s m args c cc own Ts D cy A) (hW : Wd D cy A s.heap H locs L ad G I J) {t : State} (ht : t.heap = H) (hWm : s.WarmedH t.vm) : pN D cy A (L, ad, G, I, J) t :=
  ⟨by rw [ht]; exact hW.1, va_K.moved hWm.alike C.2.2.2.2.1, hW.2.1⟩
theorem p_vretN {post : nPost} (C : Cx p s m args c cc own Ts D cy A) (hr : meth.sig.returnType = none) (hlk : meth.locks = false) (hW : Wd D cy A s.heap H locs L ad G I J) (hc : cells ≤ mc) (hs : slots ≤ ms) (hp : post L ad G I J) (hdg : decode cc pc = .ok (.return_, 1)) :
    W p l e R s m args below meth c H locs cells slots (MQ below (qN post D cy A) args s mc ms A) (F0 m pc ls []) :=
  W.widen hc hs (W.vret C.1 C.2.1 hr (fun t ht hWm => ⟨⟨(L, ad, G, I, J), rfl, hp, p_N C hW ht hWm⟩, hW.2.2.F ht⟩) hW.2.2.2.2 hdg hlk)
theorem p_iretN {post : Int32 → nPost} {v : Int32} (C : Cx p s m args c cc own Ts D cy A) (hr : meth.sig.returnType = some .int) (hlk : meth.locks = false) (hW : Wd D cy A s.heap H locs L ad G I J) (hc : cells ≤ mc) (hs : slots ≤ ms) (hp : post v L ad G I J) (hdg : decode cc pc = .ok (.ireturn, 1)) :
    W p l e R s m args below meth c H locs cells slots (MQ below (qNI post D cy A) args s mc ms A) (F0 m pc ls [.int v]) :=
  W.widen hc hs (W.iret C.1 C.2.1 hr (fun t ht hWm => ⟨⟨v, (L, ad, G, I, J), rfl, hp, p_N C hW ht hWm⟩, hW.2.2.F ht⟩) hW.2.2.2.2 hdg hlk)
theorem p_backN (C : Cx p s m args c cc own Ts D cy A) (hW : Wd D cy A s.heap H locs L ad G I J) {u : mU} {t : State} {H1 : Heap} {locs1 : List Loc} (ht : t.heap = H1) (hB : pN D cy (pA ad L H.size) u t) (hS : va_S A s.heap H1 locs1) : Wd D cy A s.heap H1 locs1 u.1 u.2.1 u.2.2.1 u.2.2.2.1 u.2.2.2.2 :=
  ⟨by rw [← ht]; exact hB.1, hB.2.2.weaken (fun _ q _ h => pW_A hW.2.1 hW.2.2 C.2.2.2.2.2 q.1 h), hS⟩
/-- a constructor called -/
theorem p_cI {post : nPost} {index : Nat} (C : Cx p s m args c cc own Ts D cy A) (hml : c.maxLocals = nL) (hg : gX A s) (hW : Wd D cy A s.heap H locs L ad G I J) (hM : pMet l y ws rm D cy L ad G I J (.ref (ad r) :: As) (qN post D cy)) (cw : CallB R s args own index y bytes maxL none ws rm rm.cells rm.slots n ∧ y.name = "<init>" ∧ (Cond.instanceMethod y).before args s = true)
    (hn : As.length = n) (hsz : ls.size = nL) (hst : st0 = As.reverse ++ .ref (ad r) :: rest) (hroom : (rest.map fun v => v.category).sum ≤ 8) (hdg : decode cc pc = .ok (.invokespecial index, 3)) (hcc : cells + rm.cells ≤ R.cells) (hcs : slots + rm.slots ≤ R.slots)
    (kk : ∀ (L' : List Nat) (ad' : Nat → Nat) (G' : mG) (I' : mI) (J' : mJ) (H : Heap) (locs : List Loc), post L' ad' G' I' J' → Wd D cy A s.heap H locs L' ad' G' I' J' → W p l e R s m args below meth c H locs (cells + rm.cells) (slots + rm.slots) Q (F0 m (pc + 3) ls rest)) : W p l e R s m args below meth c H locs cells slots Q (F0 m pc ls st0) :=
  va_callv (va_runI (g := F0 m pc ls st0) (rest := rest) (cFix C hml) (hM H.size) cw ⟨pPre.blind, p_pre C hg hW⟩ rfl hn hsz hst (lv_room (ls := ls) (pc := pc) (m := m) (rest := st0) hroom) hdg ⟨hcc, hcs⟩) hW.2.2 (fun q _ h => pW_A hW.2.1 hW.2.2 C.2.2.2.2.2 q h) (pW_A hW.2.1 hW.2.2 C.2.2.2.2.2)
    (fun u t H1 locs1 ht hvm hw hB hz1 hk1 hS => kk u.1 u.2.1 u.2.2.1 u.2.2.2.1 u.2.2.2.2 H1 locs1 hw (p_backN C hW ht hB hS))
theorem p_cIN {post : nPost} {index : Nat} {host : String} (C : Cx p s m args c cc own Ts D cy A) (hml : c.maxLocals = nL) (hg : gX A s) (hW : Wd D cy A s.heap H locs L ad G I J) (hM : pMet l y ws rm D cy L ad G I J (.ref (ad r) :: As) (qN post D cy)) (cw : va_CN R s args own index y host bytes maxL none ws rm rm.cells rm.slots n ∧ y.name = "<init>" ∧ (Cond.instanceMethod y).before args s = true)
    (hn : As.length = n) (hsz : ls.size = nL) (hst : st0 = As.reverse ++ .ref (ad r) :: rest) (hroom : (rest.map fun v => v.category).sum ≤ 8) (hdg : decode cc pc = .ok (.invokespecial index, 3)) (hcc : cells + rm.cells ≤ R.cells) (hcs : slots + rm.slots ≤ R.slots)
    (kk : ∀ (L' : List Nat) (ad' : Nat → Nat) (G' : mG) (I' : mI) (J' : mJ) (H : Heap) (locs : List Loc), post L' ad' G' I' J' → Wd D cy A s.heap H locs L' ad' G' I' J' → W p l e R s m args below meth c H locs (cells + rm.cells) (slots + rm.slots) Q (F0 m (pc + 3) ls rest)) : W p l e R s m args below meth c H locs cells slots Q (F0 m pc ls st0) :=
  va_callv (va_runIN (g := F0 m pc ls st0) (rest := rest) (cFix C hml) (hM H.size) cw ⟨pPre.blind, p_pre C hg hW⟩ rfl hn hsz hst (lv_room (ls := ls) (pc := pc) (m := m) (rest := st0) hroom) hdg ⟨hcc, hcs⟩) hW.2.2 (fun q _ h => pW_A hW.2.1 hW.2.2 C.2.2.2.2.2 q h) (pW_A hW.2.1 hW.2.2 C.2.2.2.2.2)
    (fun u t H1 locs1 ht hvm hw hB hz1 hk1 hS => kk u.1 u.2.1 u.2.2.1 u.2.2.2.1 u.2.2.2.2 H1 locs1 hw (p_backN C hW ht hB hS))
end AL
section OFN
variable {l : Launch} {y : MethodName} {ws ws' : List Cond} {rm : Room} {D : va_G} {cy : Nat → ClassId} {L : List Nat} {ad : Nat → Nat} {G : mG} {I : mI} {J : mJ} {av : List Value} {cc : ByteArray} {maxL : Nat}
theorem pMet.ofN {post : nPost} (hy : plainName y.cls = true) (hw : ws = Cond.code y cc maxL none :: ws') (hav : (lg_sl av).length ≤ maxL)
    (body : ∀ (p : Program) (e : Env) (R : Room) (s : State) (m : MethodId) (args : Array Value) (below : List Frame) (meth : Method) (c : Code) (A : Nat → Prop) (Q : State → Prop), Cx p s m args c cc y.cls ws D cy A → c.maxLocals = maxL → rm = R → meth.name = y.name → gX A s → (∀ (L' : List Nat) (ad' : Nat → Nat) (G' : mG) (I' : mI) (J' : mJ) (H : Heap) (locs : List Loc) (cells slots : Nat) (ls : Array Slot) (pc : Nat), cells ≤ rm.cells → slots ≤ rm.slots → Wd D cy A s.heap H locs L' ad' G' I' J' → post L' ad' G' I' J' → decode cc pc = .ok (.return_, 1) → W p l e R s m args below meth c H locs cells slots Q (F0 m pc ls [])) → Wd D cy A s.heap s.heap [] L ad G I J →
      ∀ ls, lv_has ls maxL (lv_args 0 av) → W p l e R s m args below meth c s.heap [] 0 0 Q (F0 m 0 ls [])) : pMet l y ws rm D cy L ad G I J av (qN post D cy) := by
  refine pMet.of hy hw hav ?_
  intro p e s m below meth c A C hml hr hlk hnm hg hW ls hl
  exact body p e _ s m _ below meth c A _ C hml rfl hnm hg (fun L' ad' G' I' J' H locs cells slots ls pc hc hs hW hp hdg => p_vretN C hr hlk hW hc hs hp hdg) hW ls hl
theorem pMet.ofNI {post : Int32 → nPost} (hy : plainName y.cls = true) (hw : ws = Cond.code y cc maxL (some .int) :: ws') (hav : (lg_sl av).length ≤ maxL)
    (body : ∀ (p : Program) (e : Env) (R : Room) (s : State) (m : MethodId) (args : Array Value) (below : List Frame) (meth : Method) (c : Code) (A : Nat → Prop) (Q : State → Prop), Cx p s m args c cc y.cls ws D cy A → c.maxLocals = maxL → rm = R → gX A s → (∀ (v : Int32) (L' : List Nat) (ad' : Nat → Nat) (G' : mG) (I' : mI) (J' : mJ) (H : Heap) (locs : List Loc) (cells slots : Nat) (ls : Array Slot) (pc : Nat), cells ≤ rm.cells → slots ≤ rm.slots → Wd D cy A s.heap H locs L' ad' G' I' J' → post v L' ad' G' I' J' → decode cc pc = .ok (.ireturn, 1) → W p l e R s m args below meth c H locs cells slots Q (F0 m pc ls [.int v])) → Wd D cy A s.heap s.heap [] L ad G I J →
      ∀ ls, lv_has ls maxL (lv_args 0 av) → W p l e R s m args below meth c s.heap [] 0 0 Q (F0 m 0 ls [])) : pMet l y ws rm D cy L ad G I J av (qNI post D cy) := by
  refine pMet.of hy hw hav ?_
  intro p e s m below meth c A C hml hr hlk hnm hg hW ls hl
  exact body p e _ s m _ below meth c A _ C hml rfl hg (fun v L' ad' G' I' J' H locs cells slots ls pc hc hs hW hp hdg => p_iretN C hr hlk hW hc hs hp hdg) hW ls hl
end OFN
