/-! rows of the pool that agree below their lengths; a row copied -/
theorem arr_congr {cI : ClassId} {n : Nat} {f g : Nat → Value} (h : ∀ j, j < n → f j = g j) : arrV cI n f = arrV cI n g := by
  have e : (fun j : Fin n => f j.val) = (fun j : Fin n => g j.val) := funext fun j => h j.val j.isLt
  unfold arrV
  rw [e]
section P2
variable {D : va_G} {cy : Nat → ClassId} {A : Nat → Prop} {H0 H : Heap} {locs : List Loc} {L : List Nat} {ad : Nat → Nat} {G : mG} {I : mI} {J : mJ} {r : Nat}
theorem Wd_rJ (hW : Wd D cy A H0 H locs L ad G I J) (hk : kd r = 7) {g : Nat → Int64} (h : ∀ k, k < ln r → g k = J r k) : Wd D cy A H0 H locs L ad G I (va_up J r g) := by
  refine ⟨fun k q hq => ?_, pW_D hW.2.1, hW.2.2⟩
  obtain ⟨b, hb, rfl⟩ := pQ_of hq
  have h1 := hW.1 k (ad b, pF cy ad G I J b) (by unfold pW pQ; rw [List.getElem?_map, hb]; rfl)
  by_cases hbr : b = r
  · subst hbr
    rw [pF_7 hk] at h1 ⊢
    rw [va_up_self]
    have h2 : H[ad b]? = some (vp_cell (cy 1) (ln b, .inr (.inl (J b)))) := h1
    show H[ad b]? = some (vp_cell (cy 1) (ln b, .inr (.inl g)))
    rw [h2, vp_cell_l, vp_cell_l, arr_congr (f := fun j => Value.long (J b j)) (g := fun j => Value.long (g j)) (fun j hj => by rw [h j hj])]
  · rw [pF_J b hbr]
    exact h1
theorem Wd_rI (hW : Wd D cy A H0 H locs L ad G I J) (hk : kd r = 6 ∨ kd r = 8) {g : Nat → Int32} (h : ∀ k, k < ln r → g k = I r k) : Wd D cy A H0 H locs L ad G (va_up I r g) J := by
  refine ⟨fun k q hq => ?_, pW_D hW.2.1, hW.2.2⟩
  obtain ⟨b, hb, rfl⟩ := pQ_of hq
  have h1 := hW.1 k (ad b, pF cy ad G I J b) (by unfold pW pQ; rw [List.getElem?_map, hb]; rfl)
  by_cases hbr : b = r
  · subst hbr
    rcases hk with hk | hk
    · rw [pF_6 hk] at h1 ⊢
      rw [va_up_self]
      have h2 : H[ad b]? = some (vp_cell (cy 0) (ln b, .inl (I b))) := h1
      show H[ad b]? = some (vp_cell (cy 0) (ln b, .inl g))
      rw [h2, vp_cell_i, vp_cell_i, arr_congr (f := fun j => Value.int (I b j)) (g := fun j => Value.int (g j)) (fun j hj => by rw [h j hj])]
    · rw [pF_8 hk] at h1 ⊢
      rw [va_up_self]
      have h2 : H[ad b]? = some (vp_cell (cy 2) (ln b, .inl (I b))) := h1
      show H[ad b]? = some (vp_cell (cy 2) (ln b, .inl g))
      rw [h2, vp_cell_i, vp_cell_i, arr_congr (f := fun j => Value.int (I b j)) (g := fun j => Value.int (g j)) (fun j hj => by rw [h j hj])]
  · rw [pF_I b hbr]
    exact h1
theorem up_up {α : Type} (f : Nat → α) (k : Nat) (v w : α) : va_up (va_up f k v) k w = va_up f k w := bx_uu f k v w
theorem up_same {α : Type} (f : Nat → α) (k : Nat) : va_up f k (f k) = f := by
  funext j
  unfold va_up
  split
  · next h => rw [h]
  · rfl
/-- a row written over and over: its last form, told below its length alone -/
theorem Wd_setJ {f : Nat → Int64} (hW : Wd D cy A H0 H locs L ad G I (va_up J r f)) (hk : kd r = 7) {g : Nat → Int64} (h : ∀ k, k < ln r → g k = f k) : Wd D cy A H0 H locs L ad G I (va_up J r g) := by
  have h1 := Wd_rJ hW hk (g := g) (fun k hkk => by rw [va_up_self]; exact h k hkk)
  rw [up_up] at h1
  exact h1
theorem Wd_setI {f : Nat → Int32} (hW : Wd D cy A H0 H locs L ad G (va_up I r f) J) (hk : kd r = 6 ∨ kd r = 8) {g : Nat → Int32} (h : ∀ k, k < ln r → g k = f k) : Wd D cy A H0 H locs L ad G (va_up I r g) J := by
  have h1 := Wd_rI hW hk (g := g) (fun k hkk => by rw [va_up_self]; exact h k hkk)
  rw [up_up] at h1
  exact h1
end P2
section P3
variable {p : Program} {l : Launch} {e : Env} {R : Room} {s : State} {m : MethodId} {args : Array Value} {below : List Frame} {meth : Method} {c : Code} {H : Heap} {locs : List Loc} {cells slots : Nat} {Q : State → Prop}
variable {cc : ByteArray} {pc : Nat} {ls : Array Slot} {rest : List Value} {own : String} {Ts : List Cond} {D : va_G} {cy : Nat → ClassId} {A : Nat → Prop} {L : List Nat} {ad : Nat → Nat} {G : mG} {I : mI} {J : mJ} {r r2 : Nat}
theorem p_copy (C : Cx p s m args c cc own Ts D cy A) (hml : c.maxLocals = ls.size) {index : Nat} (hlink : (Cond.methodLink own index arraycopyName).before args s = true) (hnat : (Cond.native arraycopyName).before args s = true) (hstat : (Cond.static arraycopyName).before args s = true) (hini : (Cond.initialized "java/lang/System").before args s = true)
    (hW : Wd D cy A s.heap H locs L ad G I J) (hr : r ∈ L) (hk : kd r = 7) (hl : ln r = 48) (hr2 : r2 ∈ L) (hk2 : kd r2 = 7) (hl2 : ln r2 = 48)
    (hframes : 1 ≤ R.frames) (hlocals : (rest.map fun v => v.category).sum + (nativeFrameWords "java/lang/System" "arraycopy" 5 + 11) ≤ R.locals) (hdg : decode cc pc = .ok (.invokestatic index, 3))
    (kk : ∀ (H : Heap) (locs : List Loc), Wd D cy A s.heap H locs L ad G I (va_up J r (J r2)) → W p l e R s m args below meth c H locs cells slots Q (F0 m (pc + 3) ls rest)) :
    W p l e R s m args below meth c H locs cells slots Q (F0 m pc ls (.int (nI 48) :: .int (nI 0) :: .ref (ad r) :: .int (nI 0) :: .ref (ad r2) :: rest)) := by
  obtain ⟨hx, hb, hown, hts, hK, hA⟩ := C
  obtain ⟨hP, hD, hS⟩ := hW
  obtain ⟨q, hq, hq2⟩ := pQ_get (ad := ad) (F := pF cy ad G I J) hr
  obtain ⟨o, ho, ho2⟩ := pQ_get (ad := ad) (F := pF cy ad G I J) hr2
  rw [pF_7 hk] at hq2
  rw [pF_7 hk2] at ho2
  have c48 : (nI 48).toNatClampNeg = 48 := nI_clamp (by omega)
  have c0 : (nI 0).toNatClampNeg = 0 := nI_clamp (by omega)
  refine va_copyl hx hb hml hown hlink hnat hstat hini hK hP hD hS o q 1 1 ho2 hq2 rfl rfl rfl (nI_pos (by omega)) (nI_pos (by omega)) (nI_pos (by omega)) (by rw [c48, c0, hl2]; omega) (by rw [c48, c0, hl]; omega) (fun _ _ => rfl) hframes hlocals hdg (fun H1 locs1 hP1 hD1 hS1 => ?_)
  rw [c48, c0] at hP1 hD1
  rw [pQ_set (F' := pF cy ad G I (va_up J r (va_cpy (J r2) (J r) 0 0 48))) hD hq (by rw [pF_7 hk, va_up_self]) pF_J] at hP1 hD1
  refine kk H1 locs1 (Wd_setJ ⟨hP1, hD1, hS1⟩ hk (fun k hkk => ?_))
  rw [hl] at hkk
  simp only [va_cpy]
  rw [if_pos ⟨Nat.zero_le _, by omega⟩]
  congr 1
  omega
end P3
/-- a wave's object w and its row q; a net's object n with its rows t, k, and what they hold -/
def isV (L : List Nat) (G : mG) (w q : Nat) : Prop := w ∈ L ∧ kd w = 3 ∧ G w 0 = some q ∧ q ∈ L ∧ kd q = 7 ∧ ln q = 48
def isN (L : List Nat) (G : mG) (n t k : Nat) : Prop := n ∈ L ∧ kd n = 1 ∧ G n 4 = some t ∧ t ∈ L ∧ kd t = 6 ∧ ln t = 48 ∧ G n 5 = some k ∧ k ∈ L ∧ kd k = 8 ∧ ln k = 12
