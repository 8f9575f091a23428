/-! what constructors need: new cells, at the world's end -/
theorem wW_push {D : va_G} {z : Nat} {M : Mm} {H H1 : Heap} {e : va_E} (hw : wW D z M H) (hx : H.size = z + M.1) (z1 : H1.size = z + M.1 + 1) (o1 : ∀ q, q < z + M.1 → H1[q]? = H[q]?) (h : va_at D vwCl (z + M.1, e) H1) : wW D z (mpush M e) H1 := by
  refine ⟨?_, by rw [mpush_1]; omega⟩
  rw [wl_push]
  have hk : ∀ (k : Nat) (x : Nat × va_E), (wl z M)[k]? = some x → H1[x.1]? = H[x.1]? := fun k x hx9 => o1 x.1 (by obtain ⟨h1, rfl⟩ := wl_inv hx9; show z + k < z + M.1; omega)
  refine (hw.1.kept hk).app (fun k x hx9 => ?_)
  have hz : k < 1 := (List.getElem?_eq_some_iff.mp hx9).1
  rw [show k = 0 by omega] at hx9
  cases hx9
  exact h
theorem at_Q {D : va_G} {cA : ClassId} {n : Nat} {f g : Nat → Option Nat} (hfg : ∀ j, j < n → f j = g j) {q : Nat} {H : Heap} (h : va_at D vwCl (q, aQ cA n f) H) : va_at D vwCl (q, aQ cA n g) H := by
  have e1 : vp_cell cA (n, .inr (.inr (.inr (.inr f)))) = vp_cell cA (n, .inr (.inr (.inr (.inr g)))) := by
    rw [vp_cell_q, vp_cell_q]
    unfold arrV
    congr 1
    apply Array.ext
    · simp
    · intro i h1 h2
      simp at h1
      simp [hfg i h1]
  show H[q]? = some _
  rw [← e1]
  exact h
section VNEW
variable {p : Program} {l : Launch} {e : Env} {R : Room} {s : State} {m : MethodId} {args : Array Value} {below : List Frame} {meth : Method} {c : Code} {D : va_G} {cy : Nat → ClassId} {z nL : Nat} {cc : ByteArray} {own : String} {Q : State → Prop} {cells slots : Nat} {M : Mm} {pc : Nat} {lv : List (Nat × Value)} {st : List Value}
theorem V_cellQ {k n : Nat} {cA : ClassId} {f : Nat → Option Nat} (g : Nat → Option Nat) (hM : M.2 k = aQ cA n f) (hfg : ∀ j, j < n → f j = g j) (kk : V p l e R s m args below meth c D z nL Q cells slots (mset M k (aQ cA n g)) pc lv st) : V p l e R s m args below meth c D z nL Q cells slots M pc lv st :=
  fun H locs ls hl hw hS => kk H locs ls hl (wW_cell (fun q h => at_Q hfg (by rw [hM] at h; exact h)) hw) hS
theorem heap_end {T : State} {H : Heap} {locs : List Loc} (hw : wW D z M H) (hz : s.heap.size + cells = z + M.1) (hT : T.heap = H) (X : Stand p l e R s m args below meth c T locs cells slots) : H.size = z + M.1 := by
  have h1 : T.heap.size ≤ s.heap.size + cells := X.same.2.2.1
  rw [hT] at h1
  have := hw.2
  omega
theorem V_new (C : Cx p l s m args meth c D cy z nL cc own) {ci idx k9 : Nat} {Cn : String} {T9 : u_T} {N : Nat} {fs : List Value} (ty : Nat → FieldType) (hin : ∀ w ∈ u_ws Cn T9 N, w ∈ lw_all) (hty : ∀ k, k < N → parseFieldDescriptor (T9 k).2.2.1 = some (ty k)) (hcl : Cond.classLink own idx Cn ∈ lw_all) (hinst : Cond.instantiable Cn N ∈ lw_all) (hini : Cond.initialized Cn ∈ lw_all) (hc : vwCl[ci]? = some (Cn, T9, N)) (hfs : ∀ j, j < N → defaultValue (ty j) = vp_V fs j) (hd : decode cc pc = .ok (.new idx, 3)) (hk9 : M.1 = k9) (hz : s.heap.size + cells = z + k9) (hf : cells + 1 ≤ R.cells ∧ slots + N ≤ R.slots)
    (k : ∀ M1, M1 = mpush M (oX ci fs) → V p l e R s m args below meth c D z nL Q (cells + 1) (slots + N) M1 (pc + 3) lv (.ref (z + k9) :: st)) : V p l e R s m args below meth c D z nL Q cells slots M pc lv st := by
  subst hk9
  intro H locs ls hl hw hS T hT X
  have hx := heap_end hw hz hT X
  have hKn := C.2.2.2.2.2.1.1.1 ci _ hc
  suffices W9 : W p l e R s m args below meth c H locs cells slots Q (F0 m pc ls st) from W9 T hT X
  refine W.newcK C.1 C.2.1 C.2.2.2.1 (C.2.2.2.2.1 _ hcl) (C.2.2.2.2.1 _ hinst) (C.2.2.2.2.1 _ hini) rfl hd hf.1 hf.2 hKn.2.1 hx (fun H1 kC hkC e1 z1 o1 => ?_)
  refine k _ rfl H1 locs ls hl (wW_push hw hx z1 o1 ⟨_, hc, (u_born ty C.2.2.2.2.1 hin hKn hkC e1 hty).to hfs⟩) ⟨Nat.le_trans hS.1 (by rw [hx, z1]; exact Nat.le_succ _), fun q h1 h2 => (o1 q (Nat.lt_of_lt_of_le h1 (hx ▸ hS.1))).trans (hS.2.1 q h1 h2), hS.2.2⟩
theorem V_newarr (C : Cx p l s m args meth c D cy z nL cc own) {t N k9 : Nat} {at9 : ArrayType} {ty : FieldType} {n : Int} {a0 : vp_A} (hty : newarray.typeOf at9 = ty) (htt : (tysL cy)[t]? = some (cy t, ty)) (hnm : va_RA s (cy t) ty → s.vm.findClass ("[" ++ ty.toString) = some (cy t)) (harr : Cond.arrayClass ty ∈ lw_all) (ha : vp_cell (cy t) a0 = arrV (cy t) N (fun _ => defaultValue ty)) (hn : 0 ≤ n ∧ n < 2147483648) (hN : n.toNat = N) (hb : N * componentBytes ty ≤ 536870912) (hd : decode cc pc = .ok (.newarray at9, 2)) (hk9 : M.1 = k9) (hz : s.heap.size + cells = z + k9) (hf : cells + 1 ≤ R.cells ∧ slots + N ≤ R.slots)
    (k : ∀ M1, M1 = mpush M (.inl (cy t, a0)) → V p l e R s m args below meth c D z nL Q (cells + 1) (slots + N) M1 (pc + 2) lv (.ref (z + k9) :: st)) : V p l e R s m args below meth c D z nL Q cells slots M pc lv (iv n :: st) := by
  subst hk9; subst hty
  intro H locs ls hl hw hS T hT X
  have hx := heap_end hw hz hT X
  have hneg : ¬ Int32.ofInt n < 0 := fun h => by
    rw [oi_0, oi_lt (by omega) (by omega)] at h
    omega
  have hRA := hnm (C.2.2.2.2.2.1.1.2 t _ htt).2
  suffices W9 : W p l e R s m args below meth c H locs cells slots Q (F0 m pc ls (iv n :: st)) from W9 T hT X
  refine va_newaK C.1 C.2.1 (C.2.2.2.2.1 _ harr) rfl hd rfl hneg (by rw [oi_nat (by omega)]; exact hN) hb hf.1 hf.2 hx (fun H1 cA e1 z1 o1 hAr hNm => ?_)
  have ec : cA = cy t := Option.some.inj (hNm.symm.trans hRA)
  subst ec
  refine k _ rfl H1 locs ls hl (wW_push hw hx z1 o1 ?_) ⟨Nat.le_trans hS.1 (by rw [hx, z1]; exact Nat.le_succ _), fun q h1 h2 => (o1 q (Nat.lt_of_lt_of_le h1 (hx ▸ hS.1))).trans (hS.2.1 q h1 h2), hS.2.2⟩
  show H1[z + M.1]? = some (vp_cell (cy t) a0)
  rw [ha]; exact e1
theorem V_newref (C : Cx p l s m args meth c D cy z nL cc own) {t N k9 idx : Nat} {Cn : String} {n : Int} (htt : (tysL cy)[t]? = some (cy t, .object Cn)) (hcl : Cond.classLink own idx Cn ∈ lw_all) (hover : va_AO Cn s) (hn : 0 ≤ n ∧ n < 2147483648) (hN : n.toNat = N) (hb : N * 4 ≤ 536870912) (hd : decode cc pc = .ok (.anewarray idx, 3)) (hk9 : M.1 = k9) (hz : s.heap.size + cells = z + k9) (hf : cells + 1 ≤ R.cells ∧ slots + N ≤ R.slots)
    (k : ∀ M1, M1 = mpush M (aQ (cy t) N (fun _ => none)) → V p l e R s m args below meth c D z nL Q (cells + 1) (slots + N) M1 (pc + 3) lv (.ref (z + k9) :: st)) : V p l e R s m args below meth c D z nL Q cells slots M pc lv (iv n :: st) := by
  subst hk9
  intro H locs ls hl hw hS T hT X
  have hx := heap_end hw hz hT X
  have hneg : ¬ Int32.ofInt n < 0 := fun h => by
    rw [oi_0, oi_lt (by omega) (by omega)] at h
    omega
  have hnn : (Int32.ofInt n).toNatClampNeg = N := by rw [oi_nat (by omega)]; exact hN
  subst hnn
  obtain ⟨kA9, comp9, -, -, -, hRA⟩ := (C.2.2.2.2.2.1.1.2 t _ htt).2
  suffices W9 : W p l e R s m args below meth c H locs cells slots Q (F0 m pc ls (iv n :: st)) from W9 T hT X
  refine W.anew C.1 C.2.1 C.2.2.2.1 (C.2.2.2.2.1 _ hcl) (va_AO.use hover) rfl hd rfl hneg hb hf.1 hf.2 (fun cA kA comp f1 f2 f3 f4 => ?_)
  have ec : cA = cy t := Option.some.inj (f1.symm.trans hRA)
  subst ec
  generalize hH1 : H.push ({ cls := cy t, slots := Array.replicate (Int32.ofInt n).toNatClampNeg .null, vm := .none } : Cell) = H1
  have z1 : H1.size = z + M.1 + 1 := by rw [← hH1, Array.size_push, hx]
  have e1 : H1[z + M.1]? = some (arrV (cy t) (Int32.ofInt n).toNatClampNeg (fun _ => .null)) := by rw [← hH1, ← hx, Array.getElem?_push_size, ← arrV_new]
  have o1 : ∀ q : Nat, q < z + M.1 → H1[q]? = H[q]? := fun q hq => by rw [← hH1, Array.getElem?_push, if_neg (by omega)]
  rw [hx]
  refine k _ rfl H1 locs ls hl (wW_push hw hx z1 o1 ?_) ⟨Nat.le_trans hS.1 (by rw [hx, z1]; exact Nat.le_succ _), fun q h1 h2 => (o1 q (Nat.lt_of_lt_of_le h1 (hx ▸ hS.1))).trans (hS.2.1 q h1 h2), hS.2.2⟩
  show H1[z + M.1]? = some (vp_cell _ _)
  rw [vp_cell_q]; exact e1
end VNEW
/-- the cells from r on are es; what was ahead of them is as it was -/
def At9 (M0 M : Mm) (r : Nat) (es : List va_E) : Prop := M.1 = r + es.length ∧ (∀ (i : Nat) (e : va_E), es[i]? = some e → M.2 (r + i) = e) ∧ ∀ j, j < r → M.2 j = M0.2 j
theorem At9.one {M : Mm} {k : Nat} {e : va_E} (hk : M.1 = k + 1) (h0 : M.2 k = e) : At9 M M k [e] := by
  refine ⟨hk, fun i e9 he => ?_, fun _ _ => rfl⟩
  cases i with
  | zero => cases he; exact h0
  | succ i => simp at he
theorem At9.push {M0 M : Mm} {r : Nat} {es : List va_E} {e : va_E} (h : At9 M0 M r es) : At9 M0 (mpush M e) r (es ++ [e]) := by
  obtain ⟨h1, h2, h3⟩ := h
  refine ⟨by rw [mpush_1, h1, List.length_append]; simp; omega, fun i e9 he => ?_, fun j hj => by rw [mpush_ne (by omega)]; exact h3 j hj⟩
  rcases Nat.lt_or_ge i es.length with o | o
  · rw [List.getElem?_append_left o] at he
    rw [mpush_ne (by omega)]; exact h2 i e9 he
  · rw [List.getElem?_append_right o] at he
    have hz : i - es.length < 1 := (List.getElem?_eq_some_iff.mp he).1
    rw [show i - es.length = 0 by omega] at he
    cases he
    rw [show r + i = M.1 by omega]; exact mpush_self _ _
theorem At9.set {M0 M : Mm} {r i : Nat} {es : List va_E} {e e0 : va_E} (h : At9 M0 M r es) (hi : es[i]? = some e0) : At9 M0 (mset M (r + i) e) r (es.set i e) := by
  obtain ⟨h1, h2, h3⟩ := h
  have hl := (List.getElem?_eq_some_iff.mp hi).1
  refine ⟨by rw [mset_1, h1, List.length_set], fun j e9 he => ?_, fun j hj => by rw [mset_ne (by omega)]; exact h3 j hj⟩
  rcases Nat.decEq i j with o | o
  · rw [List.getElem?_set_ne o] at he
    rw [mset_ne (by omega)]; exact h2 j e9 he
  · subst o
    rw [List.getElem?_set_self hl] at he
    cases he
    exact mset_self _ _ _
theorem At9.call {M0 M M' : Mm} {r k : Nat} {es es' : List va_E} {e0 : va_E} (h : At9 M0 M r (es ++ [e0])) (hB : At9 M M' k es') (hk : k = r + es.length) : At9 M0 M' r (es ++ es') := by
  obtain ⟨h1, h2, h3⟩ := h
  obtain ⟨b1, b2, b3⟩ := hB
  subst hk
  refine ⟨by rw [b1, List.length_append]; omega, fun i e9 he => ?_, fun j hj => by rw [b3 j (by omega)]; exact h3 j hj⟩
  rcases Nat.lt_or_ge i es.length with o | o
  · rw [List.getElem?_append_left o] at he
    rw [b3 _ (by omega)]
    exact h2 i e9 (by rw [List.getElem?_append_left o]; exact he)
  · rw [List.getElem?_append_right o] at he
    have := b2 _ _ he
    rw [show r + es.length + (i - es.length) = r + i by omega] at this
    exact this
section VAT
variable {p : Program} {l : Launch} {e : Env} {R : Room} {s : State} {m : MethodId} {args : Array Value} {below : List Frame} {meth : Method} {c : Code} {D : va_G} {cy : Nat → ClassId} {z nL : Nat} {cc : ByteArray} {own : String} {Q : State → Prop} {cells slots : Nat} {M : Mm} {pc : Nat} {lv : List (Nat × Value)} {st : List Value}
theorem V_putA (C : Cx p l s m args meth c D cy z nL cc own) {index ci f i r : Nat} {fs : List Value} {v : Value} {ty : FieldType} {M0 : Mm} {es : List va_E} (hf : FP own index ci f ty) (hd : decode cc pc = .ok (.putfield index, 3)) (hA : At9 M0 M r es) (hi : es[i]? = some (oX ci fs)) (hn : narrow ty v = v) (hfit : fits ty v = true) (hl' : f < fs.length) (kk : ∀ M1, At9 M0 M1 r (es.set i (oX ci (fs.set f v))) → V p l e R s m args below meth c D z nL Q cells slots M1 (pc + 3) lv st) : V p l e R s m args below meth c D z nL Q cells slots M pc lv (v :: .ref (z + (r + i)) :: st) :=
  V_put C hf hd (hA.2.1 i _ hi) (by rw [hA.1]; have := (List.getElem?_eq_some_iff.mp hi).1; omega) hn hfit hl' (kk _ (hA.set hi))
theorem V_putFA (C : Cx p l s m args meth c D cy z nL cc own) (hin : meth.name = "<init>") {index ci f i r : Nat} {fs : List Value} {v : Value} {ty : FieldType} {M0 : Mm} {es : List va_E} (hf : FF own index ci f ty) (hd : decode cc pc = .ok (.putfield index, 3)) (hA : At9 M0 M r es) (hi : es[i]? = some (oX ci fs)) (hn : narrow ty v = v) (hfit : fits ty v = true) (hl' : f < fs.length) (kk : ∀ M1, At9 M0 M1 r (es.set i (oX ci (fs.set f v))) → V p l e R s m args below meth c D z nL Q cells slots M1 (pc + 3) lv st) : V p l e R s m args below meth c D z nL Q cells slots M pc lv (v :: .ref (z + (r + i)) :: st) :=
  V_putF C hin hf hd (hA.2.1 i _ hi) (by rw [hA.1]; have := (List.getElem?_eq_some_iff.mp hi).1; omega) hn hfit hl' (kk _ (hA.set hi))
end VAT
theorem StateAt.gr {cy : Nat → ClassId} {z : Nat} {M M' : Mm} {b : Nat} {S : SD} (h : StateAt cy z M b S) (hM : M.1 ≤ M'.1) (e : ∀ j, b ≤ j → j < b + 65 → M'.2 j = M.2 j) : StateAt cy z M' b S := by
  obtain ⟨h0, h1, h2, h3, h4, h5, h6⟩ := h
  refine ⟨by omega, (e _ (by omega) (by omega)).trans h1, (e _ (by omega) (by omega)).trans h2, (e _ (by omega) (by omega)).trans h3, (e _ (by omega) (by omega)).trans h4, (e _ (by omega) (by omega)).trans h5, fun i hi => ?_⟩
  obtain ⟨r0, r1, r2, r3, r4, r5, r6⟩ := h6 i hi
  exact ⟨by omega, (e _ (by omega) (by omega)).trans r1, (e _ (by omega) (by omega)).trans r2, (e _ (by omega) (by omega)).trans r3, (e _ (by omega) (by omega)).trans r4, (e _ (by omega) (by omega)).trans r5, (e _ (by omega) (by omega)).trans r6⟩
theorem RightAt.gr {cy : Nat → ClassId} {z : Nat} {M M' : Mm} {r : Nat} {F : Nat → Int} {a : Nat → Nat → Int} (h : RightAt cy z M r F a) (hM : M.1 ≤ M'.1) (e : ∀ j, r ≤ j → j < r + 6 → M'.2 j = M.2 j) : RightAt cy z M' r F a := by
  obtain ⟨r0, r1, r2, r3, r4, r5, r6⟩ := h
  exact ⟨by omega, (e _ (by omega) (by omega)).trans r1, (e _ (by omega) (by omega)).trans r2, (e _ (by omega) (by omega)).trans r3, (e _ (by omega) (by omega)).trans r4, (e _ (by omega) (by omega)).trans r5, (e _ (by omega) (by omega)).trans r6⟩
theorem TextAt.gr {cy : Nat → ClassId} {z : Nat} {M M' : Mm} {t : Nat} {T bs fl sm : Nat → Int} (h : TextAt cy z M t T bs fl sm) (hM : M.1 ≤ M'.1) (e : ∀ j, t ≤ j → j < t + 4 → M'.2 j = M.2 j) : TextAt cy z M' t T bs fl sm := by
  obtain ⟨h0, h1, h2, h3, h4⟩ := h
  exact ⟨by omega, (e _ (by omega) (by omega)).trans h1, (e _ (by omega) (by omega)).trans h2, (e _ (by omega) (by omega)).trans h3, (e _ (by omega) (by omega)).trans h4⟩
