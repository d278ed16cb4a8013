/-! THE POOL: every cell of the system has a role, a number; what it holds stands in maps by roles: I (ints, booleans), J (longs), G (references, as roles); ad: where a role lies -/
def kd (r : Nat) : Nat :=
  if r < 8 then (if r = 0 then 4 else if r = 1 then 9 else if r = 2 then 10 else if r = 3 then 3 else if r = 4 then 7 else if r = 5 then 0 else if r = 6 then 6 else 7)
  else if r < 26 then (if (r - 8) % 3 = 0 then 1 else if (r - 8) % 3 = 1 then 6 else 8)
  else if r < 62 then (if (r - 26) % 3 = 0 then 2 else if (r - 26) % 3 = 1 then 3 else 7)
  else if r = 64 then 5 else if r = 68 ∨ r = 69 then 8 else if r = 72 ∨ r = 73 ∨ r = 80 then 7 else 6
def ln (r : Nat) : Nat :=
  if r = 1 then 6 else if r = 2 then 12 else if r = 4 then 48 else if r = 6 ∨ r = 7 then 12
  else if r < 26 then (if (r - 8) % 3 = 1 then 48 else 12)
  else if r < 62 then 48
  else if r = 65 ∨ r = 66 ∨ r = 69 then 6 else if r = 67 then 288 else if r = 68 then 72 else if r = 70 ∨ r = 71 then 13 else if r = 72 then 624 else if r = 73 then 48 else if r = 80 then 1 else 12
theorem ln_lt (r : Nat) : ln r < 2 ^ 31 := by
  unfold ln
  repeat' split
  all_goals omega
def pR (ad : Nat → Nat) (x : Option Nat) : Value := va_rf (x.map ad)
theorem pR_some (ad : Nat → Nat) {x : Option Nat} {q : Nat} (h : x = some q) : pR ad x = .ref (ad q) := by rw [h]; rfl
def pF (cy : Nat → ClassId) (ad : Nat → Nat) (G : Nat → Nat → Option Nat) (I : Nat → Nat → Int32) (J : Nat → Nat → Int64) (r : Nat) : va_E := match kd r with
  | 0 => .inr (0, [pR ad (G r 0), pR ad (G r 1), .int (I r 2)])
  | 1 => .inr (1, [.int (I r 0), .int (I r 1), .int (I r 2), .long (J r 3), pR ad (G r 4), pR ad (G r 5), .int (I r 6)])
  | 2 => .inr (2, [.int (I r 0), pR ad (G r 1), pR ad (G r 2)])
  | 3 => .inr (3, [pR ad (G r 0), .int (I r 1)])
  | 4 => .inr (4, [pR ad (G r 0), pR ad (G r 1), pR ad (G r 2), pR ad (G r 3), .int (I r 4), .int (I r 5)])
  | 5 => .inr (5, [.int (I r 0), .int (I r 1), .int (I r 2), pR ad (G r 3), pR ad (G r 4), pR ad (G r 5), pR ad (G r 6), pR ad (G r 7), pR ad (G r 8), pR ad (G r 9), pR ad (G r 10), pR ad (G r 11), pR ad (G r 12), pR ad (G r 13)])
  | 6 => .inl (cy 0, ln r, .inl (I r))
  | 7 => .inl (cy 1, ln r, .inr (.inl (J r)))
  | 8 => .inl (cy 2, ln r, .inl (I r))
  | 9 => .inl (cy 3, ln r, .inr (.inr (.inr (.inr (fun k => (G r k).map ad)))))
  | _ => .inl (cy 4, ln r, .inr (.inr (.inr (.inr (fun k => (G r k).map ad)))))
theorem pF_0 {cy : Nat → ClassId} {ad : Nat → Nat} {G : Nat → Nat → Option Nat} {I : Nat → Nat → Int32} {J : Nat → Nat → Int64} {r : Nat} (h : kd r = 0) : pF cy ad G I J r = .inr (0, [pR ad (G r 0), pR ad (G r 1), .int (I r 2)]) := by simp only [pF, h]
theorem pF_1 {cy : Nat → ClassId} {ad : Nat → Nat} {G : Nat → Nat → Option Nat} {I : Nat → Nat → Int32} {J : Nat → Nat → Int64} {r : Nat} (h : kd r = 1) : pF cy ad G I J r = .inr (1, [.int (I r 0), .int (I r 1), .int (I r 2), .long (J r 3), pR ad (G r 4), pR ad (G r 5), .int (I r 6)]) := by simp only [pF, h]
theorem pF_2 {cy : Nat → ClassId} {ad : Nat → Nat} {G : Nat → Nat → Option Nat} {I : Nat → Nat → Int32} {J : Nat → Nat → Int64} {r : Nat} (h : kd r = 2) : pF cy ad G I J r = .inr (2, [.int (I r 0), pR ad (G r 1), pR ad (G r 2)]) := by simp only [pF, h]
theorem pF_3 {cy : Nat → ClassId} {ad : Nat → Nat} {G : Nat → Nat → Option Nat} {I : Nat → Nat → Int32} {J : Nat → Nat → Int64} {r : Nat} (h : kd r = 3) : pF cy ad G I J r = .inr (3, [pR ad (G r 0), .int (I r 1)]) := by simp only [pF, h]
theorem pF_4 {cy : Nat → ClassId} {ad : Nat → Nat} {G : Nat → Nat → Option Nat} {I : Nat → Nat → Int32} {J : Nat → Nat → Int64} {r : Nat} (h : kd r = 4) : pF cy ad G I J r = .inr (4, [pR ad (G r 0), pR ad (G r 1), pR ad (G r 2), pR ad (G r 3), .int (I r 4), .int (I r 5)]) := by simp only [pF, h]
theorem pF_5 {cy : Nat → ClassId} {ad : Nat → Nat} {G : Nat → Nat → Option Nat} {I : Nat → Nat → Int32} {J : Nat → Nat → Int64} {r : Nat} (h : kd r = 5) : pF cy ad G I J r = .inr (5, [.int (I r 0), .int (I r 1), .int (I r 2), pR ad (G r 3), pR ad (G r 4), pR ad (G r 5), pR ad (G r 6), pR ad (G r 7), pR ad (G r 8), pR ad (G r 9), pR ad (G r 10), pR ad (G r 11), pR ad (G r 12), pR ad (G r 13)]) := by simp only [pF, h]
theorem pF_6 {cy : Nat → ClassId} {ad : Nat → Nat} {G : Nat → Nat → Option Nat} {I : Nat → Nat → Int32} {J : Nat → Nat → Int64} {r : Nat} (h : kd r = 6) : pF cy ad G I J r = .inl (cy 0, ln r, .inl (I r)) := by simp only [pF, h]
theorem pF_7 {cy : Nat → ClassId} {ad : Nat → Nat} {G : Nat → Nat → Option Nat} {I : Nat → Nat → Int32} {J : Nat → Nat → Int64} {r : Nat} (h : kd r = 7) : pF cy ad G I J r = .inl (cy 1, ln r, .inr (.inl (J r))) := by simp only [pF, h]
theorem pF_8 {cy : Nat → ClassId} {ad : Nat → Nat} {G : Nat → Nat → Option Nat} {I : Nat → Nat → Int32} {J : Nat → Nat → Int64} {r : Nat} (h : kd r = 8) : pF cy ad G I J r = .inl (cy 2, ln r, .inl (I r)) := by simp only [pF, h]
theorem pF_9 {cy : Nat → ClassId} {ad : Nat → Nat} {G : Nat → Nat → Option Nat} {I : Nat → Nat → Int32} {J : Nat → Nat → Int64} {r : Nat} (h : kd r = 9) : pF cy ad G I J r = .inl (cy 3, ln r, .inr (.inr (.inr (.inr (fun k => (G r k).map ad))))) := by simp only [pF, h]
theorem pF_10 {cy : Nat → ClassId} {ad : Nat → Nat} {G : Nat → Nat → Option Nat} {I : Nat → Nat → Int32} {J : Nat → Nat → Int64} {r : Nat} (h : kd r = 10) : pF cy ad G I J r = .inl (cy 4, ln r, .inr (.inr (.inr (.inr (fun k => (G r k).map ad))))) := by simp only [pF, h]
def pQ (ad : Nat → Nat) (F : Nat → va_E) (L : List Nat) : va_W := L.map (fun r => (ad r, F r))
abbrev pW (cy : Nat → ClassId) (ad : Nat → Nat) (G : Nat → Nat → Option Nat) (I : Nat → Nat → Int32) (J : Nat → Nat → Int64) (L : List Nat) : va_W := pQ ad (pF cy ad G I J) L
theorem pQ_get {ad : Nat → Nat} {F : Nat → va_E} {L : List Nat} {r : Nat} (h : r ∈ L) : ∃ k : Nat, L[k]? = some r ∧ (pQ ad F L)[k]? = some (ad r, F r) := by
  obtain ⟨k, hk⟩ := List.getElem?_of_mem h
  exact ⟨k, hk, by unfold pQ; rw [List.getElem?_map, hk]; rfl⟩
theorem pQ_of {ad : Nat → Nat} {F : Nat → va_E} {L : List Nat} {k : Nat} {q : Nat × va_E} (h : (pQ ad F L)[k]? = some q) : ∃ r, L[k]? = some r ∧ q = (ad r, F r) := by
  unfold pQ at h
  rw [List.getElem?_map] at h
  cases hr : L[k]? with
  | none => rw [hr] at h; cases h
  | some r => rw [hr] at h; exact ⟨r, rfl, (Option.some.inj h).symm⟩
theorem pQ_set {A : Nat → Prop} {ad : Nat → Nat} {F F' : Nat → va_E} {L : List Nat} {r k : Nat} {e : va_E} (hD : va_D A (pQ ad F L)) (hk : L[k]? = some r) (he : F' r = e) (ho : ∀ b, b ≠ r → F' b = F b) : (pQ ad F L).set k (ad r, e) = pQ ad F' L := by
  apply List.ext_getElem?
  intro j
  have hlen : k < (pQ ad F L).length := by unfold pQ; rw [List.length_map]; exact (List.getElem?_eq_some_iff.mp hk).1
  by_cases hjk : j = k
  · subst hjk
    rw [List.getElem?_set_self hlen]
    unfold pQ
    rw [List.getElem?_map, hk]
    show some (ad r, e) = some (ad r, F' r)
    rw [he]
  · rw [List.getElem?_set_ne (Ne.symm hjk)]
    unfold pQ
    rw [List.getElem?_map, List.getElem?_map]
    cases hb : L[j]? with
    | none => rfl
    | some b =>
      have hne : b ≠ r := fun h => hjk (hD.1 j k (ad b, F b) (ad r, F r) (by unfold pQ; rw [List.getElem?_map, hb]; rfl) (by unfold pQ; rw [List.getElem?_map, hk]; rfl) (by rw [h]))
      show some (ad b, F b) = some (ad b, F' b)
      rw [ho b hne]
theorem pF_I {cy : Nat → ClassId} {ad : Nat → Nat} {G : Nat → Nat → Option Nat} {I : Nat → Nat → Int32} {J : Nat → Nat → Int64} {r : Nat} {g : Nat → Int32} (b : Nat) (hb : b ≠ r) : pF cy ad G (va_up I r g) J b = pF cy ad G I J b := by
  simp only [pF, va_up_ne _ _ hb]
theorem pF_J {cy : Nat → ClassId} {ad : Nat → Nat} {G : Nat → Nat → Option Nat} {I : Nat → Nat → Int32} {J : Nat → Nat → Int64} {r : Nat} {g : Nat → Int64} (b : Nat) (hb : b ≠ r) : pF cy ad G I (va_up J r g) b = pF cy ad G I J b := by
  simp only [pF, va_up_ne _ _ hb]
theorem pF_G {cy : Nat → ClassId} {ad : Nat → Nat} {G : Nat → Nat → Option Nat} {I : Nat → Nat → Int32} {J : Nat → Nat → Int64} {r : Nat} {g : Nat → Option Nat} (b : Nat) (hb : b ≠ r) : pF cy ad (va_up G r g) I J b = pF cy ad G I J b := by
  simp only [pF, va_up_ne _ _ hb]
abbrev tysC (cy : Nat → ClassId) : List (ClassId × FieldType) := [(cy 0, .int), (cy 1, .long), (cy 2, .boolean), (cy 3, .object "WaveWalk$Net"), (cy 4, .object "WaveWalk$Walk")]
def Wd (D : va_G) (cy : Nat → ClassId) (A : Nat → Prop) (H0 H : Heap) (locs : List Loc) (L : List Nat) (ad : Nat → Nat) (G : Nat → Nat → Option Nat) (I : Nat → Nat → Int32) (J : Nat → Nat → Int64) : Prop :=
  va_P D vwCl (pW cy ad G I J L) H ∧ va_D A (pW cy ad G I J L) ∧ va_S A H0 H locs
/-- what a method's walk has at hand all along -/
def Cx (p : Program) (s : State) (m : MethodId) (args : Array Value) (c : Code) (cc : ByteArray) (own : String) (Ts : List Cond) (D : va_G) (cy : Nat → ClassId) (A : Nat → Prop) : Prop :=
  p.tables.exec = Jvm.exec ∧ c.code = cc ∧ s.vm.findClass own = some m.cls ∧ (∀ w ∈ Ts, w.before args s = true) ∧ va_K D vwCl (tysC cy) s ∧ (∀ q, s.heap.size ≤ q → A q)
section PR
variable {p : Program} {l : Launch} {e : Env} {R : Room} {s : State} {m : MethodId} {args : Array Value} {below : List Frame} {meth : Method} {c : Code} {H : Heap} {locs : List Loc} {cells slots : Nat} {Q : State → Prop}
variable {cc : ByteArray} {pc : Nat} {ls : Array Slot} {rest : List Value} {own : String} {Ts : List Cond} {D : va_G} {cy : Nat → ClassId} {A : Nat → Prop} {L : List Nat} {ad : Nat → Nat} {G : Nat → Nat → Option Nat} {I : Nat → Nat → Int32} {J : Nat → Nat → Int64} {r : Nat}
theorem p_get (C : Cx p s m args c cc own Ts D cy A) (hW : Wd D cy A s.heap H locs L ad G I J) (hr : r ∈ L) {ci N index k : Nat} {fs : List Value} {Cn : String} {T : u_T} {v : Value} (hF : pF cy ad G I J r = .inr (ci, fs)) (hc : vwCl[ci]? = some (Cn, T, N)) (hin : ∀ w ∈ u_ws Cn T N, w ∈ Ts) (hk : k < N)
    (hlink : (Cond.fieldLink own index (T k).1 (T k).2.1 (T k).2.2.1).before args s = true) (hv : fs[k]? = some v) (hdg : decode cc pc = .ok (.getfield index, 3))
    (kk : W p l e R s m args below meth c H locs cells slots Q (F0 m (pc + 3) ls (v :: rest))) : W p l e R s m args below meth c H locs cells slots Q (F0 m pc ls (.ref (ad r) :: rest)) := by
  obtain ⟨hx, hb, hown, hts, hK, hA⟩ := C
  obtain ⟨hP, hD, hS⟩ := hW
  obtain ⟨q, hq, hq2⟩ := pQ_get (ad := ad) (F := pF cy ad G I J) hr
  rw [hF] at hq2
  exact va_get hx hb hts hin hown hK hP q hq2 hc k hk hlink (fun _ h => h) hv hdg kk
theorem p_put (C : Cx p s m args c cc own Ts D cy A) (hW : Wd D cy A s.heap H locs L ad G I J) (hr : r ∈ L) {ci N index k : Nat} {fs : List Value} {Cn : String} {T : u_T} {v : Value} {g : Nat → Int32} (hF : pF cy ad G I J r = .inr (ci, fs)) (hc : vwCl[ci]? = some (Cn, T, N)) (hin : ∀ w ∈ u_ws Cn T N, w ∈ Ts)
    (ty0 : Nat → FieldType) (hty : ∀ k, k < N → parseFieldDescriptor (T k).2.2.1 = some (ty0 k)) (hnm : ∀ a, a < N → ∀ b, b < N → a ≠ b → (T a).2.1 ≠ (T b).2.1) (hk : k < N)
    (hlink : (Cond.fieldLink own index (T k).1 (T k).2.1 (T k).2.2.1).before args s = true) (hfin : (T k).2.2.2 = false) {ty : FieldType} (hd : parseFieldDescriptor (T k).2.2.1 = some ty) (hn : narrow ty v = v) (hfit : fits ty v = true) (hl : k < fs.length)
    (hF' : pF cy ad G (va_up I r g) J r = .inr (ci, fs.set k v)) (hdg : decode cc pc = .ok (.putfield index, 3))
    (kk : ∀ (H : Heap) (locs : List Loc), Wd D cy A s.heap H locs L ad G (va_up I r g) J → W p l e R s m args below meth c H locs cells slots Q (F0 m (pc + 3) ls rest)) : W p l e R s m args below meth c H locs cells slots Q (F0 m pc ls (v :: .ref (ad r) :: rest)) := by
  obtain ⟨hx, hb, hown, hts, hK, hA⟩ := C
  obtain ⟨hP, hD, hS⟩ := hW
  obtain ⟨q, hq, hq2⟩ := pQ_get (ad := ad) (F := pF cy ad G I J) hr
  have hq3 := hq2
  rw [hF] at hq3
  refine va_put hx hb hts hin ty0 hty hnm hown hK hP hD hS q hq3 hc k hk hlink (fun _ h => h) hfin hd hn hfit hl hdg (fun H1 locs1 hP1 hD1 hS1 => ?_)
  rw [pQ_set hD hq hF' pF_I] at hP1 hD1
  exact kk H1 locs1 ⟨hP1, hD1, hS1⟩
theorem p_iald (C : Cx p s m args c cc own Ts D cy A) (hW : Wd D cy A s.heap H locs L ad G I J) (hr : r ∈ L) (hk : kd r = 6) {i : Int32} {k : Nat} (hi : i = nI k) (hl : k < ln r) (hdg : decode cc pc = .ok (.iaload, 1))
    (kk : W p l e R s m args below meth c H locs cells slots Q (F0 m (pc + 1) ls (.int (I r k) :: rest))) : W p l e R s m args below meth c H locs cells slots Q (F0 m pc ls (.int i :: .ref (ad r) :: rest)) := by
  obtain ⟨hx, hb, hown, hts, hK, hA⟩ := C
  obtain ⟨hP, hD, hS⟩ := hW
  obtain ⟨q, hq, hq2⟩ := pQ_get (ad := ad) (F := pF cy ad G I J) hr
  rw [pF_6 hk] at hq2
  have hn := ln_lt r
  subst hi
  refine va_iald hx hb hK hP q 0 hq2 rfl (vp_in_nI hl hn) hdg ?_
  rw [nI_clamp (Nat.lt_trans hl hn)]
  exact kk
theorem p_zald (C : Cx p s m args c cc own Ts D cy A) (hW : Wd D cy A s.heap H locs L ad G I J) (hr : r ∈ L) (hk : kd r = 8) {i : Int32} {k : Nat} (hi : i = nI k) (hl : k < ln r) (hdg : decode cc pc = .ok (.baload, 1))
    (kk : W p l e R s m args below meth c H locs cells slots Q (F0 m (pc + 1) ls (.int (I r k) :: rest))) : W p l e R s m args below meth c H locs cells slots Q (F0 m pc ls (.int i :: .ref (ad r) :: rest)) := by
  obtain ⟨hx, hb, hown, hts, hK, hA⟩ := C
  obtain ⟨hP, hD, hS⟩ := hW
  obtain ⟨q, hq, hq2⟩ := pQ_get (ad := ad) (F := pF cy ad G I J) hr
  rw [pF_8 hk] at hq2
  have hn := ln_lt r
  subst hi
  refine va_zald hx hb hK hP q 2 hq2 rfl (vp_in_nI hl hn) hdg ?_
  rw [nI_clamp (Nat.lt_trans hl hn)]
  exact kk
theorem p_lald (C : Cx p s m args c cc own Ts D cy A) (hW : Wd D cy A s.heap H locs L ad G I J) (hr : r ∈ L) (hk : kd r = 7) {i : Int32} {k : Nat} (hi : i = nI k) (hl : k < ln r) (hdg : decode cc pc = .ok (.laload, 1))
    (kk : W p l e R s m args below meth c H locs cells slots Q (F0 m (pc + 1) ls (.long (J r k) :: rest))) : W p l e R s m args below meth c H locs cells slots Q (F0 m pc ls (.int i :: .ref (ad r) :: rest)) := by
  obtain ⟨hx, hb, hown, hts, hK, hA⟩ := C
  obtain ⟨hP, hD, hS⟩ := hW
  obtain ⟨q, hq, hq2⟩ := pQ_get (ad := ad) (F := pF cy ad G I J) hr
  rw [pF_7 hk] at hq2
  have hn := ln_lt r
  subst hi
  refine va_lald hx hb hK hP q 1 hq2 rfl (vp_in_nI hl hn) hdg ?_
  rw [nI_clamp (Nat.lt_trans hl hn)]
  exact kk
theorem p_aald (C : Cx p s m args c cc own Ts D cy A) (hW : Wd D cy A s.heap H locs L ad G I J) (hr : r ∈ L) (hk : kd r = 9 ∨ kd r = 10) {i : Int32} {k : Nat} (hi : i = nI k) (hl : k < ln r) (hdg : decode cc pc = .ok (.aaload, 1))
    (kk : W p l e R s m args below meth c H locs cells slots Q (F0 m (pc + 1) ls (pR ad (G r k) :: rest))) : W p l e R s m args below meth c H locs cells slots Q (F0 m pc ls (.int i :: .ref (ad r) :: rest)) := by
  obtain ⟨hx, hb, hown, hts, hK, hA⟩ := C
  obtain ⟨hP, hD, hS⟩ := hW
  obtain ⟨q, hq, hq2⟩ := pQ_get (ad := ad) (F := pF cy ad G I J) hr
  have hn := ln_lt r
  subst hi
  rcases hk with hk | hk
  · rw [pF_9 hk] at hq2
    refine va_aldq hx hb hK hP q 3 hq2 rfl (vp_in_nI hl hn) hdg ?_
    rw [nI_clamp (Nat.lt_trans hl hn)]
    exact kk
  · rw [pF_10 hk] at hq2
    refine va_aldq hx hb hK hP q 4 hq2 rfl (vp_in_nI hl hn) hdg ?_
    rw [nI_clamp (Nat.lt_trans hl hn)]
    exact kk
theorem p_iast (C : Cx p s m args c cc own Ts D cy A) (hW : Wd D cy A s.heap H locs L ad G I J) (hr : r ∈ L) (hk : kd r = 6) {i x : Int32} {k : Nat} (hi : i = nI k) (hl : k < ln r) (hdg : decode cc pc = .ok (.iastore, 1))
    (kk : ∀ (H : Heap) (locs : List Loc), Wd D cy A s.heap H locs L ad G (va_up I r (upd (I r) k x)) J → W p l e R s m args below meth c H locs cells slots Q (F0 m (pc + 1) ls rest)) : W p l e R s m args below meth c H locs cells slots Q (F0 m pc ls (.int x :: .int i :: .ref (ad r) :: rest)) := by
  obtain ⟨hx, hb, hown, hts, hK, hA⟩ := C
  obtain ⟨hP, hD, hS⟩ := hW
  obtain ⟨q, hq, hq2⟩ := pQ_get (ad := ad) (F := pF cy ad G I J) hr
  rw [pF_6 hk] at hq2
  have hn := ln_lt r
  subst hi
  refine va_iast hx hb hK hP hD hS q 0 hq2 rfl (vp_in_nI hl hn) hdg (fun H1 locs1 hP1 hD1 hS1 => ?_)
  rw [nI_clamp (Nat.lt_trans hl hn)] at hP1 hD1
  rw [pQ_set (F' := pF cy ad G (va_up I r (upd (I r) k x)) J) hD hq (by rw [pF_6 hk, va_up_self]) pF_I] at hP1 hD1
  exact kk H1 locs1 ⟨hP1, hD1, hS1⟩
theorem p_zast (C : Cx p s m args c cc own Ts D cy A) (hW : Wd D cy A s.heap H locs L ad G I J) (hr : r ∈ L) (hk : kd r = 8) {i x : Int32} {k : Nat} (hi : i = nI k) (hl : k < ln r) (h01 : vp_nar .boolean x = x) (hdg : decode cc pc = .ok (.bastore, 1))
    (kk : ∀ (H : Heap) (locs : List Loc), Wd D cy A s.heap H locs L ad G (va_up I r (upd (I r) k x)) J → W p l e R s m args below meth c H locs cells slots Q (F0 m (pc + 1) ls rest)) : W p l e R s m args below meth c H locs cells slots Q (F0 m pc ls (.int x :: .int i :: .ref (ad r) :: rest)) := by
  obtain ⟨hx, hb, hown, hts, hK, hA⟩ := C
  obtain ⟨hP, hD, hS⟩ := hW
  obtain ⟨q, hq, hq2⟩ := pQ_get (ad := ad) (F := pF cy ad G I J) hr
  rw [pF_8 hk] at hq2
  have hn := ln_lt r
  subst hi
  refine va_zast hx hb hK hP hD hS q 2 hq2 rfl (vp_in_nI hl hn) hdg (fun H1 locs1 hP1 hD1 hS1 => ?_)
  rw [nI_clamp (Nat.lt_trans hl hn), h01] at hP1 hD1
  rw [pQ_set (F' := pF cy ad G (va_up I r (upd (I r) k x)) J) hD hq (by rw [pF_8 hk, va_up_self]) pF_I] at hP1 hD1
  exact kk H1 locs1 ⟨hP1, hD1, hS1⟩
theorem p_last (C : Cx p s m args c cc own Ts D cy A) (hW : Wd D cy A s.heap H locs L ad G I J) (hr : r ∈ L) (hk : kd r = 7) {i : Int32} {x : Int64} {k : Nat} (hi : i = nI k) (hl : k < ln r) (hdg : decode cc pc = .ok (.lastore, 1))
    (kk : ∀ (H : Heap) (locs : List Loc), Wd D cy A s.heap H locs L ad G I (va_up J r (vp_updL (J r) k x)) → W p l e R s m args below meth c H locs cells slots Q (F0 m (pc + 1) ls rest)) : W p l e R s m args below meth c H locs cells slots Q (F0 m pc ls (.long x :: .int i :: .ref (ad r) :: rest)) := by
  obtain ⟨hx, hb, hown, hts, hK, hA⟩ := C
  obtain ⟨hP, hD, hS⟩ := hW
  obtain ⟨q, hq, hq2⟩ := pQ_get (ad := ad) (F := pF cy ad G I J) hr
  rw [pF_7 hk] at hq2
  have hn := ln_lt r
  subst hi
  refine va_last hx hb hK hP hD hS q 1 hq2 rfl (vp_in_nI hl hn) hdg (fun H1 locs1 hP1 hD1 hS1 => ?_)
  rw [nI_clamp (Nat.lt_trans hl hn)] at hP1 hD1
  rw [pQ_set (F' := pF cy ad G I (va_up J r (vp_updL (J r) k x))) hD hq (by rw [pF_7 hk, va_up_self]) pF_J] at hP1 hD1
  exact kk H1 locs1 ⟨hP1, hD1, hS1⟩
theorem g_X0_0 (C : Cx p s m args c cc own Ts D cy A) (hin : ∀ w ∈ wsX00, w ∈ Ts) (hW : Wd D cy A s.heap H locs L ad G I J) (hr : r ∈ L) (hk : kd r = 0) {q index : Nat} (hq : G r 0 = some q) (hlink : (Cond.fieldLink own index "WaveWalk$Classes" "ofPlace" "[I").before args s = true) (hdg : decode cc pc = .ok (.getfield index, 3))
    (kk : W p l e R s m args below meth c H locs cells slots Q (F0 m (pc + 3) ls (.ref (ad q) :: rest))) : W p l e R s m args below meth c H locs cells slots Q (F0 m pc ls (.ref (ad r) :: rest)) :=
  p_get C hW hr (pF_0 hk) rfl hin (by decide : 0 < 3) hlink rfl hdg (by rw [pR_some ad hq]; exact kk)
theorem g_X0_1 (C : Cx p s m args c cc own Ts D cy A) (hin : ∀ w ∈ wsX00, w ∈ Ts) (hW : Wd D cy A s.heap H locs L ad G I J) (hr : r ∈ L) (hk : kd r = 0) {q index : Nat} (hq : G r 1 = some q) (hlink : (Cond.fieldLink own index "WaveWalk$Classes" "keys" "[J").before args s = true) (hdg : decode cc pc = .ok (.getfield index, 3))
    (kk : W p l e R s m args below meth c H locs cells slots Q (F0 m (pc + 3) ls (.ref (ad q) :: rest))) : W p l e R s m args below meth c H locs cells slots Q (F0 m pc ls (.ref (ad r) :: rest)) :=
  p_get C hW hr (pF_0 hk) rfl hin (by decide : 1 < 3) hlink rfl hdg (by rw [pR_some ad hq]; exact kk)
theorem g_X0_2 (C : Cx p s m args c cc own Ts D cy A) (hin : ∀ w ∈ wsX00, w ∈ Ts) (hW : Wd D cy A s.heap H locs L ad G I J) (hr : r ∈ L) (hk : kd r = 0) {index : Nat} (hlink : (Cond.fieldLink own index "WaveWalk$Classes" "number" "I").before args s = true) (hdg : decode cc pc = .ok (.getfield index, 3))
    (kk : W p l e R s m args below meth c H locs cells slots Q (F0 m (pc + 3) ls (.int (I r 2) :: rest))) : W p l e R s m args below meth c H locs cells slots Q (F0 m pc ls (.ref (ad r) :: rest)) :=
  p_get C hW hr (pF_0 hk) rfl hin (by decide : 2 < 3) hlink rfl hdg kk
theorem g_X1_0 (C : Cx p s m args c cc own Ts D cy A) (hin : ∀ w ∈ wsX10, w ∈ Ts) (hW : Wd D cy A s.heap H locs L ad G I J) (hr : r ∈ L) (hk : kd r = 1) {index : Nat} (hlink : (Cond.fieldLink own index "WaveWalk$Net" "places" "I").before args s = true) (hdg : decode cc pc = .ok (.getfield index, 3))
    (kk : W p l e R s m args below meth c H locs cells slots Q (F0 m (pc + 3) ls (.int (I r 0) :: rest))) : W p l e R s m args below meth c H locs cells slots Q (F0 m pc ls (.ref (ad r) :: rest)) :=
  p_get C hW hr (pF_1 hk) rfl hin (by decide : 0 < 7) hlink rfl hdg kk
theorem g_X1_1 (C : Cx p s m args c cc own Ts D cy A) (hin : ∀ w ∈ wsX10, w ∈ Ts) (hW : Wd D cy A s.heap H locs L ad G I J) (hr : r ∈ L) (hk : kd r = 1) {index : Nat} (hlink : (Cond.fieldLink own index "WaveWalk$Net" "doors" "I").before args s = true) (hdg : decode cc pc = .ok (.getfield index, 3))
    (kk : W p l e R s m args below meth c H locs cells slots Q (F0 m (pc + 3) ls (.int (I r 1) :: rest))) : W p l e R s m args below meth c H locs cells slots Q (F0 m pc ls (.ref (ad r) :: rest)) :=
  p_get C hW hr (pF_1 hk) rfl hin (by decide : 1 < 7) hlink rfl hdg kk
theorem g_X1_2 (C : Cx p s m args c cc own Ts D cy A) (hin : ∀ w ∈ wsX10, w ∈ Ts) (hW : Wd D cy A s.heap H locs L ad G I J) (hr : r ∈ L) (hk : kd r = 1) {index : Nat} (hlink : (Cond.fieldLink own index "WaveWalk$Net" "scale" "I").before args s = true) (hdg : decode cc pc = .ok (.getfield index, 3))
    (kk : W p l e R s m args below meth c H locs cells slots Q (F0 m (pc + 3) ls (.int (I r 2) :: rest))) : W p l e R s m args below meth c H locs cells slots Q (F0 m pc ls (.ref (ad r) :: rest)) :=
  p_get C hW hr (pF_1 hk) rfl hin (by decide : 2 < 7) hlink rfl hdg kk
theorem g_X1_3 (C : Cx p s m args c cc own Ts D cy A) (hin : ∀ w ∈ wsX10, w ∈ Ts) (hW : Wd D cy A s.heap H locs L ad G I J) (hr : r ∈ L) (hk : kd r = 1) {index : Nat} (hlink : (Cond.fieldLink own index "WaveWalk$Net" "heaviestToStep" "J").before args s = true) (hdg : decode cc pc = .ok (.getfield index, 3))
    (kk : W p l e R s m args below meth c H locs cells slots Q (F0 m (pc + 3) ls (.long (J r 3) :: rest))) : W p l e R s m args below meth c H locs cells slots Q (F0 m pc ls (.ref (ad r) :: rest)) :=
  p_get C hW hr (pF_1 hk) rfl hin (by decide : 3 < 7) hlink rfl hdg kk
theorem g_X1_4 (C : Cx p s m args c cc own Ts D cy A) (hin : ∀ w ∈ wsX10, w ∈ Ts) (hW : Wd D cy A s.heap H locs L ad G I J) (hr : r ∈ L) (hk : kd r = 1) {q index : Nat} (hq : G r 4 = some q) (hlink : (Cond.fieldLink own index "WaveWalk$Net" "ledTo" "[I").before args s = true) (hdg : decode cc pc = .ok (.getfield index, 3))
    (kk : W p l e R s m args below meth c H locs cells slots Q (F0 m (pc + 3) ls (.ref (ad q) :: rest))) : W p l e R s m args below meth c H locs cells slots Q (F0 m pc ls (.ref (ad r) :: rest)) :=
  p_get C hW hr (pF_1 hk) rfl hin (by decide : 4 < 7) hlink rfl hdg (by rw [pR_some ad hq]; exact kk)
theorem g_X1_5 (C : Cx p s m args c cc own Ts D cy A) (hin : ∀ w ∈ wsX10, w ∈ Ts) (hW : Wd D cy A s.heap H locs L ad G I J) (hr : r ∈ L) (hk : kd r = 1) {q index : Nat} (hq : G r 5 = some q) (hlink : (Cond.fieldLink own index "WaveWalk$Net" "marked" "[Z").before args s = true) (hdg : decode cc pc = .ok (.getfield index, 3))
    (kk : W p l e R s m args below meth c H locs cells slots Q (F0 m (pc + 3) ls (.ref (ad q) :: rest))) : W p l e R s m args below meth c H locs cells slots Q (F0 m pc ls (.ref (ad r) :: rest)) :=
  p_get C hW hr (pF_1 hk) rfl hin (by decide : 5 < 7) hlink rfl hdg (by rw [pR_some ad hq]; exact kk)
theorem g_X1_6 (C : Cx p s m args c cc own Ts D cy A) (hin : ∀ w ∈ wsX10, w ∈ Ts) (hW : Wd D cy A s.heap H locs L ad G I J) (hr : r ∈ L) (hk : kd r = 1) {index : Nat} (hlink : (Cond.fieldLink own index "WaveWalk$Net" "hasWalks" "Z").before args s = true) (hdg : decode cc pc = .ok (.getfield index, 3))
    (kk : W p l e R s m args below meth c H locs cells slots Q (F0 m (pc + 3) ls (.int (I r 6) :: rest))) : W p l e R s m args below meth c H locs cells slots Q (F0 m pc ls (.ref (ad r) :: rest)) :=
  p_get C hW hr (pF_1 hk) rfl hin (by decide : 6 < 7) hlink rfl hdg kk
theorem g_X2_0 (C : Cx p s m args c cc own Ts D cy A) (hin : ∀ w ∈ wsX20, w ∈ Ts) (hW : Wd D cy A s.heap H locs L ad G I J) (hr : r ∈ L) (hk : kd r = 2) {index : Nat} (hlink : (Cond.fieldLink own index "WaveWalk$Walk" "netNumber" "I").before args s = true) (hdg : decode cc pc = .ok (.getfield index, 3))
    (kk : W p l e R s m args below meth c H locs cells slots Q (F0 m (pc + 3) ls (.int (I r 0) :: rest))) : W p l e R s m args below meth c H locs cells slots Q (F0 m pc ls (.ref (ad r) :: rest)) :=
  p_get C hW hr (pF_2 hk) rfl hin (by decide : 0 < 3) hlink rfl hdg kk
theorem g_X2_1 (C : Cx p s m args c cc own Ts D cy A) (hin : ∀ w ∈ wsX20, w ∈ Ts) (hW : Wd D cy A s.heap H locs L ad G I J) (hr : r ∈ L) (hk : kd r = 2) {q index : Nat} (hq : G r 1 = some q) (hlink : (Cond.fieldLink own index "WaveWalk$Walk" "net" "LWaveWalk$Net;").before args s = true) (hdg : decode cc pc = .ok (.getfield index, 3))
    (kk : W p l e R s m args below meth c H locs cells slots Q (F0 m (pc + 3) ls (.ref (ad q) :: rest))) : W p l e R s m args below meth c H locs cells slots Q (F0 m pc ls (.ref (ad r) :: rest)) :=
  p_get C hW hr (pF_2 hk) rfl hin (by decide : 1 < 3) hlink rfl hdg (by rw [pR_some ad hq]; exact kk)
theorem g_X2_2 (C : Cx p s m args c cc own Ts D cy A) (hin : ∀ w ∈ wsX20, w ∈ Ts) (hW : Wd D cy A s.heap H locs L ad G I J) (hr : r ∈ L) (hk : kd r = 2) {q index : Nat} (hq : G r 2 = some q) (hlink : (Cond.fieldLink own index "WaveWalk$Walk" "wave" "LWaveWalk$Wave;").before args s = true) (hdg : decode cc pc = .ok (.getfield index, 3))
    (kk : W p l e R s m args below meth c H locs cells slots Q (F0 m (pc + 3) ls (.ref (ad q) :: rest))) : W p l e R s m args below meth c H locs cells slots Q (F0 m pc ls (.ref (ad r) :: rest)) :=
  p_get C hW hr (pF_2 hk) rfl hin (by decide : 2 < 3) hlink rfl hdg (by rw [pR_some ad hq]; exact kk)
theorem g_X3_0 (C : Cx p s m args c cc own Ts D cy A) (hin : ∀ w ∈ wsX30, w ∈ Ts) (hW : Wd D cy A s.heap H locs L ad G I J) (hr : r ∈ L) (hk : kd r = 3) {q index : Nat} (hq : G r 0 = some q) (hlink : (Cond.fieldLink own index "WaveWalk$Wave" "numbers" "[J").before args s = true) (hdg : decode cc pc = .ok (.getfield index, 3))
    (kk : W p l e R s m args below meth c H locs cells slots Q (F0 m (pc + 3) ls (.ref (ad q) :: rest))) : W p l e R s m args below meth c H locs cells slots Q (F0 m pc ls (.ref (ad r) :: rest)) :=
  p_get C hW hr (pF_3 hk) rfl hin (by decide : 0 < 2) hlink rfl hdg (by rw [pR_some ad hq]; exact kk)
theorem g_X3_1 (C : Cx p s m args c cc own Ts D cy A) (hin : ∀ w ∈ wsX30, w ∈ Ts) (hW : Wd D cy A s.heap H locs L ad G I J) (hr : r ∈ L) (hk : kd r = 3) {index : Nat} (hlink : (Cond.fieldLink own index "WaveWalk$Wave" "time" "I").before args s = true) (hdg : decode cc pc = .ok (.getfield index, 3))
    (kk : W p l e R s m args below meth c H locs cells slots Q (F0 m (pc + 3) ls (.int (I r 1) :: rest))) : W p l e R s m args below meth c H locs cells slots Q (F0 m pc ls (.ref (ad r) :: rest)) :=
  p_get C hW hr (pF_3 hk) rfl hin (by decide : 1 < 2) hlink rfl hdg kk
theorem g_X4_0 (C : Cx p s m args c cc own Ts D cy A) (hin : ∀ w ∈ wsX40, w ∈ Ts) (hW : Wd D cy A s.heap H locs L ad G I J) (hr : r ∈ L) (hk : kd r = 4) {q index : Nat} (hq : G r 0 = some q) (hlink : (Cond.fieldLink own index "WaveWalk" "nets" "[LWaveWalk$Net;").before args s = true) (hdg : decode cc pc = .ok (.getfield index, 3))
    (kk : W p l e R s m args below meth c H locs cells slots Q (F0 m (pc + 3) ls (.ref (ad q) :: rest))) : W p l e R s m args below meth c H locs cells slots Q (F0 m pc ls (.ref (ad r) :: rest)) :=
  p_get C hW hr (pF_4 hk) rfl hin (by decide : 0 < 6) hlink rfl hdg (by rw [pR_some ad hq]; exact kk)
theorem g_X4_1 (C : Cx p s m args c cc own Ts D cy A) (hin : ∀ w ∈ wsX40, w ∈ Ts) (hW : Wd D cy A s.heap H locs L ad G I J) (hr : r ∈ L) (hk : kd r = 4) {q index : Nat} (hq : G r 1 = some q) (hlink : (Cond.fieldLink own index "WaveWalk" "walks" "[LWaveWalk$Walk;").before args s = true) (hdg : decode cc pc = .ok (.getfield index, 3))
    (kk : W p l e R s m args below meth c H locs cells slots Q (F0 m (pc + 3) ls (.ref (ad q) :: rest))) : W p l e R s m args below meth c H locs cells slots Q (F0 m pc ls (.ref (ad r) :: rest)) :=
  p_get C hW hr (pF_4 hk) rfl hin (by decide : 1 < 6) hlink rfl hdg (by rw [pR_some ad hq]; exact kk)
theorem g_X4_2 (C : Cx p s m args c cc own Ts D cy A) (hin : ∀ w ∈ wsX40, w ∈ Ts) (hW : Wd D cy A s.heap H locs L ad G I J) (hr : r ∈ L) (hk : kd r = 4) {q index : Nat} (hq : G r 2 = some q) (hlink : (Cond.fieldLink own index "WaveWalk" "trial" "LWaveWalk$Wave;").before args s = true) (hdg : decode cc pc = .ok (.getfield index, 3))
    (kk : W p l e R s m args below meth c H locs cells slots Q (F0 m (pc + 3) ls (.ref (ad q) :: rest))) : W p l e R s m args below meth c H locs cells slots Q (F0 m pc ls (.ref (ad r) :: rest)) :=
  p_get C hW hr (pF_4 hk) rfl hin (by decide : 2 < 6) hlink rfl hdg (by rw [pR_some ad hq]; exact kk)
theorem g_X4_3 (C : Cx p s m args c cc own Ts D cy A) (hin : ∀ w ∈ wsX40, w ∈ Ts) (hW : Wd D cy A s.heap H locs L ad G I J) (hr : r ∈ L) (hk : kd r = 4) {q index : Nat} (hq : G r 3 = some q) (hlink : (Cond.fieldLink own index "WaveWalk" "classes" "LWaveWalk$Classes;").before args s = true) (hdg : decode cc pc = .ok (.getfield index, 3))
    (kk : W p l e R s m args below meth c H locs cells slots Q (F0 m (pc + 3) ls (.ref (ad q) :: rest))) : W p l e R s m args below meth c H locs cells slots Q (F0 m pc ls (.ref (ad r) :: rest)) :=
  p_get C hW hr (pF_4 hk) rfl hin (by decide : 3 < 6) hlink rfl hdg (by rw [pR_some ad hq]; exact kk)
theorem g_X4_4 (C : Cx p s m args c cc own Ts D cy A) (hin : ∀ w ∈ wsX40, w ∈ Ts) (hW : Wd D cy A s.heap H locs L ad G I J) (hr : r ∈ L) (hk : kd r = 4) {index : Nat} (hlink : (Cond.fieldLink own index "WaveWalk" "netCount" "I").before args s = true) (hdg : decode cc pc = .ok (.getfield index, 3))
    (kk : W p l e R s m args below meth c H locs cells slots Q (F0 m (pc + 3) ls (.int (I r 4) :: rest))) : W p l e R s m args below meth c H locs cells slots Q (F0 m pc ls (.ref (ad r) :: rest)) :=
  p_get C hW hr (pF_4 hk) rfl hin (by decide : 4 < 6) hlink rfl hdg kk
theorem g_X4_5 (C : Cx p s m args c cc own Ts D cy A) (hin : ∀ w ∈ wsX40, w ∈ Ts) (hW : Wd D cy A s.heap H locs L ad G I J) (hr : r ∈ L) (hk : kd r = 4) {index : Nat} (hlink : (Cond.fieldLink own index "WaveWalk" "walkCount" "I").before args s = true) (hdg : decode cc pc = .ok (.getfield index, 3))
    (kk : W p l e R s m args below meth c H locs cells slots Q (F0 m (pc + 3) ls (.int (I r 5) :: rest))) : W p l e R s m args below meth c H locs cells slots Q (F0 m pc ls (.ref (ad r) :: rest)) :=
  p_get C hW hr (pF_4 hk) rfl hin (by decide : 5 < 6) hlink rfl hdg kk
theorem g_X5_0 (C : Cx p s m args c cc own Ts D cy A) (hin : ∀ w ∈ wsX50, w ∈ Ts) (hW : Wd D cy A s.heap H locs L ad G I J) (hr : r ∈ L) (hk : kd r = 5) {index : Nat} (hlink : (Cond.fieldLink own index "WaveWalkModel" "thrown" "I").before args s = true) (hdg : decode cc pc = .ok (.getfield index, 3))
    (kk : W p l e R s m args below meth c H locs cells slots Q (F0 m (pc + 3) ls (.int (I r 0) :: rest))) : W p l e R s m args below meth c H locs cells slots Q (F0 m pc ls (.ref (ad r) :: rest)) :=
  p_get C hW hr (pF_5 hk) rfl hin (by decide : 0 < 14) hlink rfl hdg kk
theorem g_X5_1 (C : Cx p s m args c cc own Ts D cy A) (hin : ∀ w ∈ wsX50, w ∈ Ts) (hW : Wd D cy A s.heap H locs L ad G I J) (hr : r ∈ L) (hk : kd r = 5) {index : Nat} (hlink : (Cond.fieldLink own index "WaveWalkModel" "nets" "I").before args s = true) (hdg : decode cc pc = .ok (.getfield index, 3))
    (kk : W p l e R s m args below meth c H locs cells slots Q (F0 m (pc + 3) ls (.int (I r 1) :: rest))) : W p l e R s m args below meth c H locs cells slots Q (F0 m pc ls (.ref (ad r) :: rest)) :=
  p_get C hW hr (pF_5 hk) rfl hin (by decide : 1 < 14) hlink rfl hdg kk
theorem g_X5_2 (C : Cx p s m args c cc own Ts D cy A) (hin : ∀ w ∈ wsX50, w ∈ Ts) (hW : Wd D cy A s.heap H locs L ad G I J) (hr : r ∈ L) (hk : kd r = 5) {index : Nat} (hlink : (Cond.fieldLink own index "WaveWalkModel" "walks" "I").before args s = true) (hdg : decode cc pc = .ok (.getfield index, 3))
    (kk : W p l e R s m args below meth c H locs cells slots Q (F0 m (pc + 3) ls (.int (I r 2) :: rest))) : W p l e R s m args below meth c H locs cells slots Q (F0 m pc ls (.ref (ad r) :: rest)) :=
  p_get C hW hr (pF_5 hk) rfl hin (by decide : 2 < 14) hlink rfl hdg kk
theorem g_X5_3 (C : Cx p s m args c cc own Ts D cy A) (hin : ∀ w ∈ wsX50, w ∈ Ts) (hW : Wd D cy A s.heap H locs L ad G I J) (hr : r ∈ L) (hk : kd r = 5) {q index : Nat} (hq : G r 3 = some q) (hlink : (Cond.fieldLink own index "WaveWalkModel" "places" "[I").before args s = true) (hdg : decode cc pc = .ok (.getfield index, 3))
    (kk : W p l e R s m args below meth c H locs cells slots Q (F0 m (pc + 3) ls (.ref (ad q) :: rest))) : W p l e R s m args below meth c H locs cells slots Q (F0 m pc ls (.ref (ad r) :: rest)) :=
  p_get C hW hr (pF_5 hk) rfl hin (by decide : 3 < 14) hlink rfl hdg (by rw [pR_some ad hq]; exact kk)
theorem g_X5_4 (C : Cx p s m args c cc own Ts D cy A) (hin : ∀ w ∈ wsX50, w ∈ Ts) (hW : Wd D cy A s.heap H locs L ad G I J) (hr : r ∈ L) (hk : kd r = 5) {q index : Nat} (hq : G r 4 = some q) (hlink : (Cond.fieldLink own index "WaveWalkModel" "doors" "[I").before args s = true) (hdg : decode cc pc = .ok (.getfield index, 3))
    (kk : W p l e R s m args below meth c H locs cells slots Q (F0 m (pc + 3) ls (.ref (ad q) :: rest))) : W p l e R s m args below meth c H locs cells slots Q (F0 m pc ls (.ref (ad r) :: rest)) :=
  p_get C hW hr (pF_5 hk) rfl hin (by decide : 4 < 14) hlink rfl hdg (by rw [pR_some ad hq]; exact kk)
theorem g_X5_5 (C : Cx p s m args c cc own Ts D cy A) (hin : ∀ w ∈ wsX50, w ∈ Ts) (hW : Wd D cy A s.heap H locs L ad G I J) (hr : r ∈ L) (hk : kd r = 5) {q index : Nat} (hq : G r 5 = some q) (hlink : (Cond.fieldLink own index "WaveWalkModel" "to" "[I").before args s = true) (hdg : decode cc pc = .ok (.getfield index, 3))
    (kk : W p l e R s m args below meth c H locs cells slots Q (F0 m (pc + 3) ls (.ref (ad q) :: rest))) : W p l e R s m args below meth c H locs cells slots Q (F0 m pc ls (.ref (ad r) :: rest)) :=
  p_get C hW hr (pF_5 hk) rfl hin (by decide : 5 < 14) hlink rfl hdg (by rw [pR_some ad hq]; exact kk)
theorem g_X5_6 (C : Cx p s m args c cc own Ts D cy A) (hin : ∀ w ∈ wsX50, w ∈ Ts) (hW : Wd D cy A s.heap H locs L ad G I J) (hr : r ∈ L) (hk : kd r = 5) {q index : Nat} (hq : G r 6 = some q) (hlink : (Cond.fieldLink own index "WaveWalkModel" "isMarked" "[Z").before args s = true) (hdg : decode cc pc = .ok (.getfield index, 3))
    (kk : W p l e R s m args below meth c H locs cells slots Q (F0 m (pc + 3) ls (.ref (ad q) :: rest))) : W p l e R s m args below meth c H locs cells slots Q (F0 m pc ls (.ref (ad r) :: rest)) :=
  p_get C hW hr (pF_5 hk) rfl hin (by decide : 6 < 14) hlink rfl hdg (by rw [pR_some ad hq]; exact kk)
theorem g_X5_7 (C : Cx p s m args c cc own Ts D cy A) (hin : ∀ w ∈ wsX50, w ∈ Ts) (hW : Wd D cy A s.heap H locs L ad G I J) (hr : r ∈ L) (hk : kd r = 5) {q index : Nat} (hq : G r 7 = some q) (hlink : (Cond.fieldLink own index "WaveWalkModel" "isUsed" "[Z").before args s = true) (hdg : decode cc pc = .ok (.getfield index, 3))
    (kk : W p l e R s m args below meth c H locs cells slots Q (F0 m (pc + 3) ls (.ref (ad q) :: rest))) : W p l e R s m args below meth c H locs cells slots Q (F0 m pc ls (.ref (ad r) :: rest)) :=
  p_get C hW hr (pF_5 hk) rfl hin (by decide : 7 < 14) hlink rfl hdg (by rw [pR_some ad hq]; exact kk)
theorem g_X5_8 (C : Cx p s m args c cc own Ts D cy A) (hin : ∀ w ∈ wsX50, w ∈ Ts) (hW : Wd D cy A s.heap H locs L ad G I J) (hr : r ∈ L) (hk : kd r = 5) {q index : Nat} (hq : G r 8 = some q) (hlink : (Cond.fieldLink own index "WaveWalkModel" "netOf" "[I").before args s = true) (hdg : decode cc pc = .ok (.getfield index, 3))
    (kk : W p l e R s m args below meth c H locs cells slots Q (F0 m (pc + 3) ls (.ref (ad q) :: rest))) : W p l e R s m args below meth c H locs cells slots Q (F0 m pc ls (.ref (ad r) :: rest)) :=
  p_get C hW hr (pF_5 hk) rfl hin (by decide : 8 < 14) hlink rfl hdg (by rw [pR_some ad hq]; exact kk)
theorem g_X5_9 (C : Cx p s m args c cc own Ts D cy A) (hin : ∀ w ∈ wsX50, w ∈ Ts) (hW : Wd D cy A s.heap H locs L ad G I J) (hr : r ∈ L) (hk : kd r = 5) {q index : Nat} (hq : G r 9 = some q) (hlink : (Cond.fieldLink own index "WaveWalkModel" "time" "[I").before args s = true) (hdg : decode cc pc = .ok (.getfield index, 3))
    (kk : W p l e R s m args below meth c H locs cells slots Q (F0 m (pc + 3) ls (.ref (ad q) :: rest))) : W p l e R s m args below meth c H locs cells slots Q (F0 m pc ls (.ref (ad r) :: rest)) :=
  p_get C hW hr (pF_5 hk) rfl hin (by decide : 9 < 14) hlink rfl hdg (by rw [pR_some ad hq]; exact kk)
theorem g_X5_10 (C : Cx p s m args c cc own Ts D cy A) (hin : ∀ w ∈ wsX50, w ∈ Ts) (hW : Wd D cy A s.heap H locs L ad G I J) (hr : r ∈ L) (hk : kd r = 5) {q index : Nat} (hq : G r 10 = some q) (hlink : (Cond.fieldLink own index "WaveWalkModel" "wave" "[J").before args s = true) (hdg : decode cc pc = .ok (.getfield index, 3))
    (kk : W p l e R s m args below meth c H locs cells slots Q (F0 m (pc + 3) ls (.ref (ad q) :: rest))) : W p l e R s m args below meth c H locs cells slots Q (F0 m pc ls (.ref (ad r) :: rest)) :=
  p_get C hW hr (pF_5 hk) rfl hin (by decide : 10 < 14) hlink rfl hdg (by rw [pR_some ad hq]; exact kk)
theorem g_X5_11 (C : Cx p s m args c cc own Ts D cy A) (hin : ∀ w ∈ wsX50, w ∈ Ts) (hW : Wd D cy A s.heap H locs L ad G I J) (hr : r ∈ L) (hk : kd r = 5) {q index : Nat} (hq : G r 11 = some q) (hlink : (Cond.fieldLink own index "WaveWalkModel" "next" "[J").before args s = true) (hdg : decode cc pc = .ok (.getfield index, 3))
    (kk : W p l e R s m args below meth c H locs cells slots Q (F0 m (pc + 3) ls (.ref (ad q) :: rest))) : W p l e R s m args below meth c H locs cells slots Q (F0 m pc ls (.ref (ad r) :: rest)) :=
  p_get C hW hr (pF_5 hk) rfl hin (by decide : 11 < 14) hlink rfl hdg (by rw [pR_some ad hq]; exact kk)
theorem g_X5_12 (C : Cx p s m args c cc own Ts D cy A) (hin : ∀ w ∈ wsX50, w ∈ Ts) (hW : Wd D cy A s.heap H locs L ad G I J) (hr : r ∈ L) (hk : kd r = 5) {q index : Nat} (hq : G r 12 = some q) (hlink : (Cond.fieldLink own index "WaveWalkModel" "classes" "[I").before args s = true) (hdg : decode cc pc = .ok (.getfield index, 3))
    (kk : W p l e R s m args below meth c H locs cells slots Q (F0 m (pc + 3) ls (.ref (ad q) :: rest))) : W p l e R s m args below meth c H locs cells slots Q (F0 m pc ls (.ref (ad r) :: rest)) :=
  p_get C hW hr (pF_5 hk) rfl hin (by decide : 12 < 14) hlink rfl hdg (by rw [pR_some ad hq]; exact kk)
theorem g_X5_13 (C : Cx p s m args c cc own Ts D cy A) (hin : ∀ w ∈ wsX50, w ∈ Ts) (hW : Wd D cy A s.heap H locs L ad G I J) (hr : r ∈ L) (hk : kd r = 5) {q index : Nat} (hq : G r 13 = some q) (hlink : (Cond.fieldLink own index "WaveWalkModel" "parted" "[I").before args s = true) (hdg : decode cc pc = .ok (.getfield index, 3))
    (kk : W p l e R s m args below meth c H locs cells slots Q (F0 m (pc + 3) ls (.ref (ad q) :: rest))) : W p l e R s m args below meth c H locs cells slots Q (F0 m pc ls (.ref (ad r) :: rest)) :=
  p_get C hW hr (pF_5 hk) rfl hin (by decide : 13 < 14) hlink rfl hdg (by rw [pR_some ad hq]; exact kk)
theorem s_X0_2 (C : Cx p s m args c cc own Ts D cy A) (hin : ∀ w ∈ wsX00, w ∈ Ts) (hW : Wd D cy A s.heap H locs L ad G I J) (hr : r ∈ L) (hk : kd r = 0) {index : Nat} {v : Int32} (hlink : (Cond.fieldLink own index "WaveWalk$Classes" "number" "I").before args s = true) (hdg : decode cc pc = .ok (.putfield index, 3))
    (kk : ∀ (H : Heap) (locs : List Loc), Wd D cy A s.heap H locs L ad G (va_up I r (upd (I r) 2 v)) J → W p l e R s m args below meth c H locs cells slots Q (F0 m (pc + 3) ls rest)) : W p l e R s m args below meth c H locs cells slots Q (F0 m pc ls (.int v :: .ref (ad r) :: rest)) :=
  p_put C hW hr (pF_0 hk) rfl hin tyX0 tyX0_ok nmX0 (by decide : 2 < 3) hlink rfl (ty := .int) (by decide +kernel) rfl rfl (Nat.le_of_ble_eq_true rfl) (by rw [pF_0 hk]; simp [va_up_self, upd]) hdg kk
theorem s_X1_6 (C : Cx p s m args c cc own Ts D cy A) (hin : ∀ w ∈ wsX10, w ∈ Ts) (hW : Wd D cy A s.heap H locs L ad G I J) (hr : r ∈ L) (hk : kd r = 1) {index : Nat} {v : Int32} (hn : narrow .boolean (.int v) = .int v) (hft : fits .boolean (.int v) = true) (hlink : (Cond.fieldLink own index "WaveWalk$Net" "hasWalks" "Z").before args s = true) (hdg : decode cc pc = .ok (.putfield index, 3))
    (kk : ∀ (H : Heap) (locs : List Loc), Wd D cy A s.heap H locs L ad G (va_up I r (upd (I r) 6 v)) J → W p l e R s m args below meth c H locs cells slots Q (F0 m (pc + 3) ls rest)) : W p l e R s m args below meth c H locs cells slots Q (F0 m pc ls (.int v :: .ref (ad r) :: rest)) :=
  p_put C hW hr (pF_1 hk) rfl hin tyX1 tyX1_ok nmX1 (by decide : 6 < 7) hlink rfl (ty := .boolean) (by decide +kernel) hn hft (Nat.le_of_ble_eq_true rfl) (by rw [pF_1 hk]; simp [va_up_self, upd]) hdg kk
theorem s_X3_1 (C : Cx p s m args c cc own Ts D cy A) (hin : ∀ w ∈ wsX30, w ∈ Ts) (hW : Wd D cy A s.heap H locs L ad G I J) (hr : r ∈ L) (hk : kd r = 3) {index : Nat} {v : Int32} (hlink : (Cond.fieldLink own index "WaveWalk$Wave" "time" "I").before args s = true) (hdg : decode cc pc = .ok (.putfield index, 3))
    (kk : ∀ (H : Heap) (locs : List Loc), Wd D cy A s.heap H locs L ad G (va_up I r (upd (I r) 1 v)) J → W p l e R s m args below meth c H locs cells slots Q (F0 m (pc + 3) ls rest)) : W p l e R s m args below meth c H locs cells slots Q (F0 m pc ls (.int v :: .ref (ad r) :: rest)) :=
  p_put C hW hr (pF_3 hk) rfl hin tyX3 tyX3_ok nmX3 (by decide : 1 < 2) hlink rfl (ty := .int) (by decide +kernel) rfl rfl (Nat.le_of_ble_eq_true rfl) (by rw [pF_3 hk]; simp [va_up_self, upd]) hdg kk
theorem s_X4_4 (C : Cx p s m args c cc own Ts D cy A) (hin : ∀ w ∈ wsX40, w ∈ Ts) (hW : Wd D cy A s.heap H locs L ad G I J) (hr : r ∈ L) (hk : kd r = 4) {index : Nat} {v : Int32} (hlink : (Cond.fieldLink own index "WaveWalk" "netCount" "I").before args s = true) (hdg : decode cc pc = .ok (.putfield index, 3))
    (kk : ∀ (H : Heap) (locs : List Loc), Wd D cy A s.heap H locs L ad G (va_up I r (upd (I r) 4 v)) J → W p l e R s m args below meth c H locs cells slots Q (F0 m (pc + 3) ls rest)) : W p l e R s m args below meth c H locs cells slots Q (F0 m pc ls (.int v :: .ref (ad r) :: rest)) :=
  p_put C hW hr (pF_4 hk) rfl hin tyX4 tyX4_ok nmX4 (by decide : 4 < 6) hlink rfl (ty := .int) (by decide +kernel) rfl rfl (Nat.le_of_ble_eq_true rfl) (by rw [pF_4 hk]; simp [va_up_self, upd]) hdg kk
theorem s_X4_5 (C : Cx p s m args c cc own Ts D cy A) (hin : ∀ w ∈ wsX40, w ∈ Ts) (hW : Wd D cy A s.heap H locs L ad G I J) (hr : r ∈ L) (hk : kd r = 4) {index : Nat} {v : Int32} (hlink : (Cond.fieldLink own index "WaveWalk" "walkCount" "I").before args s = true) (hdg : decode cc pc = .ok (.putfield index, 3))
    (kk : ∀ (H : Heap) (locs : List Loc), Wd D cy A s.heap H locs L ad G (va_up I r (upd (I r) 5 v)) J → W p l e R s m args below meth c H locs cells slots Q (F0 m (pc + 3) ls rest)) : W p l e R s m args below meth c H locs cells slots Q (F0 m pc ls (.int v :: .ref (ad r) :: rest)) :=
  p_put C hW hr (pF_4 hk) rfl hin tyX4 tyX4_ok nmX4 (by decide : 5 < 6) hlink rfl (ty := .int) (by decide +kernel) rfl rfl (Nat.le_of_ble_eq_true rfl) (by rw [pF_4 hk]; simp [va_up_self, upd]) hdg kk
theorem s_X5_0 (C : Cx p s m args c cc own Ts D cy A) (hin : ∀ w ∈ wsX50, w ∈ Ts) (hW : Wd D cy A s.heap H locs L ad G I J) (hr : r ∈ L) (hk : kd r = 5) {index : Nat} {v : Int32} (hlink : (Cond.fieldLink own index "WaveWalkModel" "thrown" "I").before args s = true) (hdg : decode cc pc = .ok (.putfield index, 3))
    (kk : ∀ (H : Heap) (locs : List Loc), Wd D cy A s.heap H locs L ad G (va_up I r (upd (I r) 0 v)) J → W p l e R s m args below meth c H locs cells slots Q (F0 m (pc + 3) ls rest)) : W p l e R s m args below meth c H locs cells slots Q (F0 m pc ls (.int v :: .ref (ad r) :: rest)) :=
  p_put C hW hr (pF_5 hk) rfl hin tyX5 tyX5_ok nmX5 (by decide : 0 < 14) hlink rfl (ty := .int) (by decide +kernel) rfl rfl (Nat.le_of_ble_eq_true rfl) (by rw [pF_5 hk]; simp [va_up_self, upd]) hdg kk
theorem s_X5_1 (C : Cx p s m args c cc own Ts D cy A) (hin : ∀ w ∈ wsX50, w ∈ Ts) (hW : Wd D cy A s.heap H locs L ad G I J) (hr : r ∈ L) (hk : kd r = 5) {index : Nat} {v : Int32} (hlink : (Cond.fieldLink own index "WaveWalkModel" "nets" "I").before args s = true) (hdg : decode cc pc = .ok (.putfield index, 3))
    (kk : ∀ (H : Heap) (locs : List Loc), Wd D cy A s.heap H locs L ad G (va_up I r (upd (I r) 1 v)) J → W p l e R s m args below meth c H locs cells slots Q (F0 m (pc + 3) ls rest)) : W p l e R s m args below meth c H locs cells slots Q (F0 m pc ls (.int v :: .ref (ad r) :: rest)) :=
  p_put C hW hr (pF_5 hk) rfl hin tyX5 tyX5_ok nmX5 (by decide : 1 < 14) hlink rfl (ty := .int) (by decide +kernel) rfl rfl (Nat.le_of_ble_eq_true rfl) (by rw [pF_5 hk]; simp [va_up_self, upd]) hdg kk
theorem s_X5_2 (C : Cx p s m args c cc own Ts D cy A) (hin : ∀ w ∈ wsX50, w ∈ Ts) (hW : Wd D cy A s.heap H locs L ad G I J) (hr : r ∈ L) (hk : kd r = 5) {index : Nat} {v : Int32} (hlink : (Cond.fieldLink own index "WaveWalkModel" "walks" "I").before args s = true) (hdg : decode cc pc = .ok (.putfield index, 3))
    (kk : ∀ (H : Heap) (locs : List Loc), Wd D cy A s.heap H locs L ad G (va_up I r (upd (I r) 2 v)) J → W p l e R s m args below meth c H locs cells slots Q (F0 m (pc + 3) ls rest)) : W p l e R s m args below meth c H locs cells slots Q (F0 m pc ls (.int v :: .ref (ad r) :: rest)) :=
  p_put C hW hr (pF_5 hk) rfl hin tyX5 tyX5_ok nmX5 (by decide : 2 < 14) hlink rfl (ty := .int) (by decide +kernel) rfl rfl (Nat.le_of_ble_eq_true rfl) (by rw [pF_5 hk]; simp [va_up_self, upd]) hdg kk
end PR
