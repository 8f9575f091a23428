/-! CALLS, ENDS, ENTRIES -/
theorem pc_blind {D : va_G} {cy : Nat → ClassId} {z : Nat} {x : Bool} {M : Mm} {av : List Value} : FrameBlind (pc_ D cy z x M av) := by
  intro a U g mk q
  obtain ⟨h1, h2, h3, h4⟩ := q
  exact ⟨h1, h2, h3, wB.same h4 rfl⟩
def YV (y : MethodName) (cc : ByteArray) (nL : Nat) (ret : Option FieldType) (n : Nat) : Prop := Cond.instanceMethod y ∈ lw_all ∧ Cond.selects y.cls y y ∈ lw_all ∧ Cond.initialized y.cls ∈ lw_all ∧ Cond.code y cc nL ret ∈ lw_all ∧ y.cls ≠ "java/lang/invoke/MethodHandle" ∧ y.cls ≠ "java/lang/invoke/VarHandle" ∧ (parseMethodDescriptor y.desc).map (fun d => d.parameters.length) = some n
def YS (y : MethodName) (cc : ByteArray) (nL : Nat) (ret : Option FieldType) (n : Nat) : Prop := Cond.static y ∈ lw_all ∧ Cond.initialized y.cls ∈ lw_all ∧ Cond.code y cc nL ret ∈ lw_all ∧ y.cls ≠ "java/lang/invoke/MethodHandle" ∧ y.cls ≠ "java/lang/invoke/VarHandle" ∧ (parseMethodDescriptor y.desc).map (fun d => d.parameters.length) = some n
def YI (y : MethodName) (cc : ByteArray) (nL : Nat) (n : Nat) : Prop := Cond.instanceMethod y ∈ lw_all ∧ y.name = "<init>" ∧ Cond.initialized y.cls ∈ lw_all ∧ Cond.code y cc nL none ∈ lw_all ∧ y.cls ≠ "java/lang/invoke/MethodHandle" ∧ y.cls ≠ "java/lang/invoke/VarHandle" ∧ (parseMethodDescriptor y.desc).map (fun d => d.parameters.length) = some n
theorem good_ws {y : MethodName} {cc : ByteArray} {nL : Nat} {ret : Option FieldType} (h : Cond.code y cc nL ret ∈ lw_all) : GoodIn lw_all (wsy y cc nL ret) := fun w hw => by
  have hm : w ∈ lw_all := by
    rcases List.mem_cons.mp hw with e | e
    · rw [e]; exact h
    · exact e
  exact ⟨hm, good_of_word (lw_all_good w hm)⟩
theorem good_V {own : String} {idx : Nat} {y : MethodName} {cc : ByteArray} {nL n : Nat} {ret : Option FieldType} (hy : YV y cc nL ret n) (hl : Cond.methodLink own idx y ∈ lw_all) : GoodIn lw_all (wsV own idx y.cls y (wsy y cc nL ret)) := by
  intro w hw
  simp only [wsV, List.mem_append, List.mem_cons, List.not_mem_nil, or_false] at hw
  rcases hw with (e | e | e | e) | e
  · subst e; exact ⟨hl, good_of_word (lw_all_good _ hl)⟩
  · subst e; exact ⟨hy.1, good_of_word (lw_all_good _ hy.1)⟩
  · subst e; exact ⟨hy.2.1, good_of_word (lw_all_good _ hy.2.1)⟩
  · subst e; exact ⟨hy.2.2.1, good_of_word (lw_all_good _ hy.2.2.1)⟩
  · exact good_ws hy.2.2.2.1 w (List.mem_cons.mpr e)
theorem good_S {own : String} {idx : Nat} {y : MethodName} {cc : ByteArray} {nL n : Nat} {ret : Option FieldType} (hy : YS y cc nL ret n) (hl : Cond.methodLink own idx y ∈ lw_all) : GoodIn lw_all (va_wsS own idx y (wsy y cc nL ret)) := by
  intro w hw
  simp only [va_wsS, List.mem_append, List.mem_cons, List.not_mem_nil, or_false] at hw
  rcases hw with (e | e | e) | e
  · subst e; exact ⟨hl, good_of_word (lw_all_good _ hl)⟩
  · subst e; exact ⟨hy.1, good_of_word (lw_all_good _ hy.1)⟩
  · subst e; exact ⟨hy.2.1, good_of_word (lw_all_good _ hy.2.1)⟩
  · exact good_ws hy.2.2.1 w (List.mem_cons.mpr e)
section VCALL
variable {p : Program} {l : Launch} {e : Env} {R : Room} {s : State} {m : MethodId} {args : Array Value} {below : List Frame} {meth : Method} {c : Code} {D : va_G} {cy : Nat → ClassId} {z nL : Nat} {cc : ByteArray} {own : String} {Q : State → Prop} {cells slots : Nat} {M : Mm} {pc : Nat} {lv : List (Nat × Value)} {st : List Value}
theorem pc_at (C : Cx p l s m args meth c D cy z nL cc own) {H : Heap} {locs : List Loc} {x : Bool} {av : List Value} (hw : wW D z M H) (hx : x = true → H.size = z + M.1) (hS : va_S (fun q => z ≤ q) s.heap H locs) : ∀ U : State, U.heap = H → s.WarmedH U.vm → pc_ D cy z x M av av.toArray U := fun U hU hW =>
  ⟨rfl, by rw [hU]; exact hw, by rw [hU]; exact hx, C.2.2.2.2.2.1.moved hW (by rw [hU]; exact hS.2.1)⟩
theorem V_run {mc ms : Nat} {rest : List Value} (h : ∀ (H : Heap) (locs : List Loc) (ls : Array Slot), lv_has ls nL lv → wW D z M H → va_S (fun q => z ≤ q) s.heap H locs → ∀ T : State, T.heap = H → Stand p l e R s m args below meth c T locs cells slots → ∃ (v : Option Value) (st₀ t T' : State) (L : List Loc), st₀.heap = H ∧ Stand p l e R s m args below meth c T' (locs ++ L) (cells + mc) (slots + ms) ∧ (∀ q ∈ L, z ≤ q.base) ∧ T'.heap = t.heap ∧ T'.vm = t.vm ∧ qc_ D z (fun r M' => V p l e R s m args below meth c D z nL Q (cells + mc) (slots + ms) M' (pc + 3) lv (pushr r rest)) #[] st₀ (.returned v) t ∧
      Goes p e below T (F0 m pc ls st) T' (F0 m (pc + 3) ls (v.toList ++ rest))) : V p l e R s m args below meth c D z nL Q cells slots M pc lv st := by
  intro H locs ls hl hw hS T hT X
  obtain ⟨v, st₀, t, T', L, h0, X', hL, e1, e2, ⟨⟨r, M', hv, hK, hw'⟩, hF⟩, hst⟩ := h H locs ls hl hw hS T hT X
  cases hv
  obtain ⟨k1, k2, k3⟩ := vx_keep h0 e1 hS (fun q _ h => h) (free := fun q => z ≤ q) (fun q h => h) hL hF
  obtain ⟨t2, a1, b1⟩ := hK T'.heap (locs ++ L) ls hl (by rw [e1]; exact hw') k3 T' rfl X'
  refine ⟨t2, hst t2 ?_, b1⟩
  rw [pushr_eq]
  exact a1
theorem V_runX {mc ms mc0 ms0 : Nat} {rest : List Value} {K0 : Option Value → Mm → Prop} {KX KX' : String → Prop} (hxt : ∀ x ∈ c.exceptionTable.toList, False) (hlk : meth.locks = false) (hKX : ∀ E, KX' E → KX E) (hcs : cells + mc ≤ mc0 ∧ slots + ms ≤ ms0)
    (h : ∀ (H : Heap) (locs : List Loc) (ls : Array Slot), lv_has ls nL lv → wW D z M H → va_S (fun q => z ≤ q) s.heap H locs → vx_Run p l e R s m args below meth c H locs cells slots mc ms (F0 m pc ls st) rest (qc_ D z (fun r M' => V p l e R s m args below meth c D z nL (vx_MQ below (qc_ D z K0) (xc_ D z M KX) args s mc0 ms0 (fun q => z ≤ q)) (cells + mc) (slots + ms) M' (pc + 3) lv (pushr r rest)) #[]) (xc_ D z M KX') (fun q => z ≤ q)) :
    V p l e R s m args below meth c D z nL (vx_MQ below (qc_ D z K0) (xc_ D z M KX) args s mc0 ms0 (fun q => z ≤ q)) cells slots M pc lv st := by
  intro H locs ls hl hw hS T hT X
  rcases h H locs ls hl hw hS T hT X with ⟨v, st₀, t, T', L, h0, X', hL, e1, e2, ⟨⟨r, M', hv, hK, hw'⟩, hF⟩, hst⟩ | ⟨q, st₀, t, T', L, E, ce, h0, X', hL, e1, e2, ⟨u, -, ⟨hE, hw'⟩, hF⟩, hce, hcv, hcl, hst⟩
  · cases hv
    obtain ⟨k1, k2, k3⟩ := vx_keep h0 e1 hS (fun q _ h => h) (free := fun q => z ≤ q) (fun q h => h) hL hF
    obtain ⟨t2, a1, b1⟩ := hK T'.heap (locs ++ L) ls hl (by rw [e1]; exact hw') k3 T' rfl X'
    refine ⟨t2, hst t2 ?_, b1⟩
    rw [pushr_eq]
    exact a1
  · obtain ⟨k1, k2, k3⟩ := vx_keep h0 e1 hS (fun q _ h => h) (free := fun q => z ≤ q) (fun q h => h) hL hF
    obtain ⟨t2, a1, b1⟩ := vx_out (pc := pc) (ls := ls) (rest := rest) (Qc := qc_ D z K0) (XC := xc_ D z M KX) (free := fun q => z ≤ q) (mc := mc0) (ms := ms0) (fun y hy => (hxt y hy).elim) hlk (by rw [e1]; exact hce) hcv hcl (fun t' ht' _ => ⟨(), trivial, ⟨hKX E hE, by rw [ht', e1]; exact hw'⟩, k3.F ht'⟩) k3.2.2 hcs.1 hcs.2 T' rfl X'
    exact ⟨t2, hst.trans a1, b1⟩
theorem V_callV (C : Cx p l s m args meth c D cy z nL cc own) {y : MethodName} {cc' : ByteArray} {nL' n fr lo mc ms idx k ci : Nat} {ret : Option FieldType} {r : vw_C} {fs As rest : List Value} (hy : YV y cc' nL' ret n) (hl : Cond.methodLink own idx y ∈ lw_all) (hd : decode cc pc = .ok (.invokevirtual idx, 3)) (hcl : vwCl[ci]? = some r) (hr : r.1 = y.cls) (hM : M.2 k = oX ci fs) (hk : k < M.1) (hst : st = As.reverse ++ .ref (z + k) :: rest) (hn : As.length = n) (hcat : (rest.map fun v => v.category).sum ≤ 8) (hR : fr + 1 ≤ R.frames ∧ 8 + (nL' + 11) + lo ≤ R.locals) (hf : cells + mc ≤ R.cells ∧ slots + ms ≤ R.slots)
    (hMt : MT l D cy z false y (wsy y cc' nL' ret) fr lo mc ms M (.ref (z + k) :: As) (fun r M' => V p l e R s m args below meth c D z nL Q (cells + mc) (slots + ms) M' (pc + 3) lv (pushr r rest))) : V p l e R s m args below meth c D z nL Q cells slots M pc lv st := by
  refine V_run (mc := mc) (ms := ms) (rest := rest) (fun H locs ls hl' hw hS => ?_)
  have hrec := va_recv (q0 := k) C.2.2.2.2.2.1.1 hw.1 hcl (by rw [wl_get hk, hM]; rfl)
  rw [hr] at hrec
  exact va_runV (C := y.cls) (As := As) (rest := rest) ⟨C.1, C.2.1, C.2.2.1, C.2.2.2.1, C.2.2.2.2.1⟩ hMt (cwV n C.2.2.2.2.1 (good_V hy hl) rfl rfl rfl ⟨rfl, hy.2.2.2.2⟩ hR) ⟨pc_blind, hrec, pc_at C hw (fun h => nomatch h) hS⟩ rfl hn hl'.1 hst (lv_room hcat) hd hf
theorem V_callS (C : Cx p l s m args meth c D cy z nL cc own) {y : MethodName} {cc' : ByteArray} {nL' n fr lo mc ms idx : Nat} {ret : Option FieldType} {As rest : List Value} (hy : YS y cc' nL' ret n) (hl : Cond.methodLink own idx y ∈ lw_all) (hd : decode cc pc = .ok (.invokestatic idx, 3)) (hst : st = As.reverse ++ rest) (hn : As.length = n) (hcat : (rest.map fun v => v.category).sum ≤ 8) (hR : fr + 1 ≤ R.frames ∧ 8 + (nL' + 11) + lo ≤ R.locals) (hf : cells + mc ≤ R.cells ∧ slots + ms ≤ R.slots)
    (hMt : MT l D cy z false y (wsy y cc' nL' ret) fr lo mc ms M As (fun r M' => V p l e R s m args below meth c D z nL Q (cells + mc) (slots + ms) M' (pc + 3) lv (pushr r rest))) : V p l e R s m args below meth c D z nL Q cells slots M pc lv st := by
  refine V_run (mc := mc) (ms := ms) (rest := rest) (fun H locs ls hl' hw hS => ?_)
  exact va_runS (As := As) (rest := rest) ⟨C.1, C.2.1, C.2.2.1, C.2.2.2.1, C.2.2.2.2.1⟩ hMt (va_cwS n C.2.2.2.2.1 (good_S hy hl) rfl rfl rfl hy.2.2.2 hR) ⟨pc_blind, pc_at C hw (fun h => nomatch h) hS⟩ rfl hn hl'.1 hst (lv_room hcat) hd hf
/-- a constructor that makes cells: the heap is just as large as the world -/
theorem V_callI (C : Cx p l s m args meth c D cy z nL cc own) {y : MethodName} {cc' : ByteArray} {nL' n fr lo mc ms idx k : Nat} {As rest : List Value} (hy : YI y cc' nL' n) (hl : Cond.methodLink own idx y ∈ lw_all ∨ ∃ host, Cond.methodLinkNest own idx y host ∈ nw_all) (hd : decode cc pc = .ok (.invokespecial idx, 3)) (hst : st = As.reverse ++ .ref (z + k) :: rest) (hn : As.length = n) (hcat : (rest.map fun v => v.category).sum ≤ 8) (hR : fr + 1 ≤ R.frames ∧ 8 + (nL' + 11) + lo ≤ R.locals) (hf : cells + mc ≤ R.cells ∧ slots + ms ≤ R.slots) (hz : s.heap.size + cells = z + M.1)
    (hMt : MT l D cy z true y (wsy y cc' nL' none) fr lo mc ms M (.ref (z + k) :: As) (fun r M' => V p l e R s m args below meth c D z nL Q (cells + mc) (slots + ms) M' (pc + 3) lv (pushr r rest))) : V p l e R s m args below meth c D z nL Q cells slots M pc lv st := by
  refine V_run (mc := mc) (ms := ms) (rest := rest) (fun H locs ls hl' hw hS T hT X => ?_)
  have hx : true = true → H.size = z + M.1 := fun _ => by
    have h1 : T.heap.size ≤ s.heap.size + cells := X.same.2.2.1
    rw [hT] at h1
    have := hw.2
    omega
  rcases hl with hl | ⟨host, hl⟩
  · exact va_runI (As := As) (rest := rest) ⟨C.1, C.2.1, C.2.2.1, C.2.2.2.1, C.2.2.2.2.1⟩ hMt (cwI n C.2.2.2.2.1 (good_ws hy.2.2.2.1) rfl rfl rfl (C.2.2.2.2.1 _ hy.2.2.1) (C.2.2.2.2.1 _ hl) (C.2.2.2.2.1 _ hy.1) hy.2.1 hy.2.2.2.2 hR) ⟨pc_blind, pc_at C hw hx hS⟩ rfl hn hl'.1 hst (lv_room hcat) hd hf T hT X
  · exact va_runIN (As := As) (rest := rest) ⟨C.1, C.2.1, C.2.2.1, C.2.2.2.1, C.2.2.2.2.1⟩ hMt ⟨va_cnB n C.2.2.2.2.1 (good_ws hy.2.2.2.1) rfl rfl rfl (C.2.2.2.2.2.1.2.2.2.1 _ hl) (C.2.2.2.2.1 _ hy.2.2.1) hy.2.2.2.2 hR, hy.2.1, C.2.2.2.2.1 _ hy.1⟩ ⟨pc_blind, pc_at C hw hx hS⟩ rfl hn hl'.1 hst (lv_room hcat) hd hf T hT X
theorem V_objInit (C : Cx p l s m args meth c D cy z nL cc own) {idx a : Nat} (hl : Cond.methodLink own idx Lib.objectInit ∈ lw_all) (hi : Cond.instanceMethod Lib.objectInit ∈ lw_all) (hc : Cond.code Lib.objectInit ⟨#[0xb1]⟩ 1 none ∈ lw_all) (hd : decode cc pc = .ok (.invokespecial idx, 3)) (hR : 1 ≤ R.frames ∧ (st.map fun v => v.category).sum + 12 ≤ R.locals) (k : V p l e R s m args below meth c D z nL Q cells slots M (pc + 3) lv st) : V p l e R s m args below meth c D z nL Q cells slots M pc lv (.ref a :: st) := by
  intro H locs ls hl' hw hS
  refine W.objInit C.1 C.2.1 C.2.2.2.1 (C.2.2.2.2.1 _ hl) (C.2.2.2.2.1 _ hi) (C.2.2.2.2.1 _ hc) (a := a) (rest := st) rfl (by rw [C.2.2.1]; exact hl'.1) rfl hd hR.1 (by show 2 * 0 + _ + 12 ≤ _; omega) ?_
  exact k H locs ls hl' hw hS
theorem V_callVX (C : Cx p l s m args meth c D cy z nL cc own) {y : MethodName} {cc' : ByteArray} {nL' n fr lo mc ms mc0 ms0 idx k ci : Nat} {ret : Option FieldType} {r : vw_C} {fs As rest : List Value} {K0 : Option Value → Mm → Prop} {KX KX' : String → Prop} (hxt : ∀ x ∈ c.exceptionTable.toList, False) (hy : YV y cc' nL' ret n) (hl : Cond.methodLink own idx y ∈ lw_all) (hd : decode cc pc = .ok (.invokevirtual idx, 3)) (hcl : vwCl[ci]? = some r) (hr : r.1 = y.cls) (hM : M.2 k = oX ci fs) (hk : k < M.1) (hst : st = As.reverse ++ .ref (z + k) :: rest) (hn : As.length = n) (hcat : (rest.map fun v => v.category).sum ≤ 8) (hR : fr + 1 ≤ R.frames ∧ 8 + (nL' + 11) + lo ≤ R.locals) (hf : cells + mc ≤ R.cells ∧ slots + ms ≤ R.slots) (hKX : ∀ E, KX' E → KX E) (hcs : cells + mc ≤ mc0 ∧ slots + ms ≤ ms0)
    (hMt : MX l D cy z false y (wsy y cc' nL' ret) fr lo mc ms M (.ref (z + k) :: As) (fun r M' => V p l e R s m args below meth c D z nL (vx_MQ below (qc_ D z K0) (xc_ D z M KX) args s mc0 ms0 (fun q => z ≤ q)) (cells + mc) (slots + ms) M' (pc + 3) lv (pushr r rest)) KX') : V p l e R s m args below meth c D z nL (vx_MQ below (qc_ D z K0) (xc_ D z M KX) args s mc0 ms0 (fun q => z ≤ q)) cells slots M pc lv st := by
  refine V_runX (rest := rest) hxt C.2.2.2.2.2.2.1 hKX hcs (fun H locs ls hl' hw hS => ?_)
  have hrec := va_recv (q0 := k) C.2.2.2.2.2.1.1 hw.1 hcl (by rw [wl_get hk, hM]; rfl)
  rw [hr] at hrec
  exact vx_runV (C := y.cls) (As := As) (rest := rest) ⟨C.1, C.2.1, C.2.2.1, C.2.2.2.1, C.2.2.2.2.1⟩ hMt (cwV n C.2.2.2.2.1 (good_V hy hl) rfl rfl rfl ⟨rfl, hy.2.2.2.2⟩ hR) ⟨pc_blind, hrec, pc_at C hw (fun h => nomatch h) hS⟩ rfl hn hl'.1 hst (lv_room hcat) hd hf
theorem V_callSX (C : Cx p l s m args meth c D cy z nL cc own) {y : MethodName} {cc' : ByteArray} {nL' n fr lo mc ms mc0 ms0 idx : Nat} {ret : Option FieldType} {As rest : List Value} {K0 : Option Value → Mm → Prop} {KX KX' : String → Prop} (hxt : ∀ x ∈ c.exceptionTable.toList, False) (hy : YS y cc' nL' ret n) (hl : Cond.methodLink own idx y ∈ lw_all) (hd : decode cc pc = .ok (.invokestatic idx, 3)) (hst : st = As.reverse ++ rest) (hn : As.length = n) (hcat : (rest.map fun v => v.category).sum ≤ 8) (hR : fr + 1 ≤ R.frames ∧ 8 + (nL' + 11) + lo ≤ R.locals) (hf : cells + mc ≤ R.cells ∧ slots + ms ≤ R.slots) (hKX : ∀ E, KX' E → KX E) (hcs : cells + mc ≤ mc0 ∧ slots + ms ≤ ms0)
    (hMt : MX l D cy z false y (wsy y cc' nL' ret) fr lo mc ms M As (fun r M' => V p l e R s m args below meth c D z nL (vx_MQ below (qc_ D z K0) (xc_ D z M KX) args s mc0 ms0 (fun q => z ≤ q)) (cells + mc) (slots + ms) M' (pc + 3) lv (pushr r rest)) KX') : V p l e R s m args below meth c D z nL (vx_MQ below (qc_ D z K0) (xc_ D z M KX) args s mc0 ms0 (fun q => z ≤ q)) cells slots M pc lv st := by
  refine V_runX (rest := rest) hxt C.2.2.2.2.2.2.1 hKX hcs (fun H locs ls hl' hw hS => ?_)
  exact vx_runS (As := As) (rest := rest) ⟨C.1, C.2.1, C.2.2.1, C.2.2.2.1, C.2.2.2.2.1⟩ hMt (va_cwS n C.2.2.2.2.1 (good_S hy hl) rfl rfl rfl hy.2.2.2 hR) ⟨pc_blind, pc_at C hw (fun h => nomatch h) hS⟩ rfl hn hl'.1 hst (lv_room hcat) hd hf
-- ends
theorem V_iret (C : Cx p l s m args meth c D cy z nL cc own) (hr : meth.sig.returnType = some .int) {K : Option Value → Mm → Prop} {a : Int} (hd : decode cc pc = .ok (.ireturn, 1)) (hK : K (some (iv a)) M) : V p l e R s m args below meth c D z nL (MQ below (qc_ D z K) args s cells slots (fun q => z ≤ q)) cells slots M pc lv [iv a] :=
  fun H locs ls hl hw hS => W.iret C.1 C.2.1 hr (fun t ht hW => ⟨⟨_, M, rfl, hK, by rw [ht]; exact hw⟩, hS.F ht⟩) hS.2.2 hd C.2.2.2.2.2.2.1
theorem V_zret (C : Cx p l s m args meth c D cy z nL cc own) (hr : meth.sig.returnType = some .boolean) {K : Option Value → Mm → Prop} {a : Int} (ha : a = 0 ∨ a = 1) (hd : decode cc pc = .ok (.ireturn, 1)) (hK : K (some (iv a)) M) : V p l e R s m args below meth c D z nL (MQ below (qc_ D z K) args s cells slots (fun q => z ≤ q)) cells slots M pc lv [iv a] :=
  fun H locs ls hl hw hS => W.zret C.1 C.2.1 hr (by rcases ha with rfl | rfl <;> rfl) (fun t ht hW => ⟨⟨_, M, rfl, hK, by rw [ht]; exact hw⟩, hS.F ht⟩) hS.2.2 hd C.2.2.2.2.2.2.1
theorem V_vret (C : Cx p l s m args meth c D cy z nL cc own) (hr : meth.sig.returnType = none) {K : Option Value → Mm → Prop} (hd : decode cc pc = .ok (.return_, 1)) (hK : K none M) : V p l e R s m args below meth c D z nL (MQ below (qc_ D z K) args s cells slots (fun q => z ≤ q)) cells slots M pc lv [] :=
  fun H locs ls hl hw hS => W.vret C.1 C.2.1 hr (fun t ht hW => ⟨⟨_, M, rfl, hK, by rw [ht]; exact hw⟩, hS.F ht⟩) hS.2.2 hd C.2.2.2.2.2.2.1
theorem V_lret (C : Cx p l s m args meth c D cy z nL cc own) (hr : meth.sig.returnType = some .long) {K : Option Value → Mm → Prop} {a : Int} (hd : decode cc pc = .ok (.lreturn, 1)) (hK : K (some (lgv a)) M) : V p l e R s m args below meth c D z nL (MQ below (qc_ D z K) args s cells slots (fun q => z ≤ q)) cells slots M pc lv [lgv a] :=
  fun H locs ls hl hw hS => W.lret C.1 C.2.1 hr (fun t ht hW => ⟨⟨_, M, rfl, hK, by rw [ht]; exact hw⟩, hS.F ht⟩) hS.2.2 hd C.2.2.2.2.2.2.1
theorem V_dret (C : Cx p l s m args meth c D cy z nL cc own) (hr : meth.sig.returnType = some .double) {K : Option Value → Mm → Prop} {a : UInt64} (hd : decode cc pc = .ok (.dreturn, 1)) (hK : K (some (.double a)) M) : V p l e R s m args below meth c D z nL (MQ below (qc_ D z K) args s cells slots (fun q => z ≤ q)) cells slots M pc lv [.double a] :=
  fun H locs ls hl hw hS => W.dret C.1 C.2.1 hr (fun t ht hW => ⟨⟨_, M, rfl, hK, by rw [ht]; exact hw⟩, hS.F ht⟩) hS.2.2 hd C.2.2.2.2.2.2.1
theorem V_aret (C : Cx p l s m args meth c D cy z nL cc own) {o : String} (hr : meth.sig.returnType = some (.object o)) {K : Option Value → Mm → Prop} {a : Nat} (hd : decode cc pc = .ok (.areturn, 1)) (hK : K (some (.ref a)) M) : V p l e R s m args below meth c D z nL (MQ below (qc_ D z K) args s cells slots (fun q => z ≤ q)) cells slots M pc lv [.ref a] :=
  fun H locs ls hl hw hS => W.aret C.1 C.2.1 hr (Or.inl ⟨o, rfl⟩) (Or.inr ⟨a, rfl⟩) (fun t ht hW => ⟨⟨_, M, rfl, hK, by rw [ht]; exact hw⟩, hS.F ht⟩) hS.2.2 hd C.2.2.2.2.2.2.1
/-- in a method that may throw: its plain end -/
theorem V_ret {K : Option Value → Mm → Prop} {XC : String → State → State → Prop} {mc ms : Nat} (k : V p l e R s m args below meth c D z nL (MQ below (qc_ D z K) args s mc ms (fun q => z ≤ q)) cells slots M pc lv st) : V p l e R s m args below meth c D z nL (vx_MQ below (qc_ D z K) XC args s mc ms (fun q => z ≤ q)) cells slots M pc lv st :=
  fun H locs ls hl hw hS => vx_ret (k H locs ls hl hw hS)
theorem V_throw (C : Cx p l s m args meth c D cy z nL cc own) (hlt : l.stackTraces = false) (hxt : ∀ x ∈ c.exceptionTable.toList, False) {cls text : String} {names : List String} {ik is ic mc ms : Nat} {K : Option Value → Mm → Prop} {KX : String → Prop} (hcls : Bundle.fit cls = true) (hnames : ∀ n ∈ names, Bundle.fit n = true) (hk : Cond.classLink own ik cls ∈ lw_all) (hini : Cond.initialized cls ∈ lw_all) (hstr : ∃ sa, vk_R own is text sa s) (hat : ∀ w ∈ vx_atS own ic cls names, w ∈ lw_all ∨ w ∈ nw_all) (hgood : ∀ w ∈ Cond.classLink own ik cls :: Cond.initialized cls :: vx_atS own ic cls names, vx_ot w = true)
    (d0 : decode cc pc = .ok (.new ik, 3)) (d3 : decode cc (pc + 3) = .ok (.dup, 1)) (d4 : decode cc (pc + 4) = .ok (.ldc is, 2)) (d6 : decode cc (pc + 6) = .ok (.invokespecial ic, 3)) (d9 : decode cc (pc + 9) = .ok (.athrow, 1)) (hR : names.length + 3 < R.frames ∧ (st.map fun v => v.category).sum + (13 * (names.length + 1) + 43) ≤ R.locals) (hf : cells + 1 ≤ R.cells ∧ slots + 6 ≤ R.slots) (hcs : cells + 1 ≤ mc ∧ slots + 6 ≤ ms) (hKX : KX cls) :
    V p l e R s m args below meth c D z nL (vx_MQ below (qc_ D z K) (xc_ D z M KX) args s mc ms (fun q => z ≤ q)) cells slots M pc lv st := by
  intro H locs ls hl hw hS
  obtain ⟨sa, hsa⟩ := hstr
  have hB := C.2.2.2.2.2.1
  refine vx_throwS (A := fun q => z ≤ q) C.1 C.2.1 hlt C.2.2.2.1 hcls hnames (C.2.2.2.2.1 _ hk) (C.2.2.2.2.1 _ hini) hsa (fun w hw => (hat w hw).elim (C.2.2.2.2.1 _) (fun h => nw_use (List.all_eq_true.mp nw_all_ok _ h) (hB.2.2.2.1 _ h))) hgood hB.2.1 hB.2.2.1 hS (by rw [C.2.2.1]; exact hl.1) d0 d3 d4 d6 d9 (fun y hy => (hxt y hy).elim) hR.1 hR.2 hf.1 hf.2 C.2.2.2.2.2.2.1 (fun t hv hz hk2 => ?_) hS.2.2 hcs.1 hcs.2
  refine ⟨(), trivial, ⟨hKX, hw.1.kept (fun k q hq => hk2 _ (hw.1 k q hq).lt), Nat.le_trans hw.2 hz⟩, Nat.le_trans hS.1 hz, fun q h1 h2 => ?_⟩
  rw [hk2 q (Nat.lt_of_lt_of_le h1 hS.1)]
  exact hS.2.1 q h1 h2
end VCALL
section VENTRY
variable {l : Launch} {D : va_G} {cy : Nat → ClassId} {z : Nat} {x : Bool} {y : MethodName} {cc : ByteArray} {nL : Nat} {ret : Option FieldType} {fr lo mc ms : Nat} {M : Mm} {av : List Value} {K : Option Value → Mm → Prop} {KX : String → Prop}
theorem MT_of (hy : plainName y.cls = true) (hc : Cond.code y cc nL ret ∈ lw_all) (hlen : (lg_sl av).length ≤ nL)
    (body : ∀ (p : Program) (e : Env) (s : State) (m : MethodId) (args : Array Value) (below : List Frame) (meth : Method) (c : Code), Cx p l s m args meth c D cy z nL cc y.cls → meth.sig.returnType = ret → (x = true → s.heap.size = z + M.1 ∧ meth.name = y.name) → V p l e { frames := fr, cells := mc, slots := ms, locals := lo } s m args below meth c D z nL (MQ below (qc_ D z K) args s mc ms (fun q => z ≤ q)) 0 0 M 0 (lv_args 0 av) []) :
    MT l D cy z x y (wsy y cc nL ret) fr lo mc ms M av K := by
  refine Met.ofW (cc := cc) (maxL := nL) (ret := ret) hy rfl ?_
  intro p e s m args below meth c s₁ B hml hv
  obtain ⟨rfl, hw, hx, hB⟩ := hv
  have hts := atoms_spec (ws := wsy y cc nL ret) B.pre
  have C : Cx p l s m av.toArray meth c D cy z nL cc y.cls := ⟨B.exec, B.bytes, hml, findClass_of_methodNamed B.named, fun w hw => hts w (List.mem_cons_of_mem _ hw), hB, B.notSynchronized, by have := hw.2; omega⟩
  rw [lg_entry_eq]
  exact body p e s m av.toArray below meth c C B.returns (fun h => ⟨hx h, (name_of_methodNamed B.named B.method).1⟩) s.heap [] _ (lv_entry av hlen) hw va_S.rf
theorem MX_of (hy : plainName y.cls = true) (hc : Cond.code y cc nL ret ∈ lw_all) (hlen : (lg_sl av).length ≤ nL)
    (body : ∀ (p : Program) (e : Env) (s : State) (m : MethodId) (args : Array Value) (below : List Frame) (meth : Method) (c : Code), Cx p l s m args meth c D cy z nL cc y.cls → meth.sig.returnType = ret → (∀ x ∈ c.exceptionTable.toList, False) → V p l e { frames := fr, cells := mc, slots := ms, locals := lo } s m args below meth c D z nL (vx_MQ below (qc_ D z K) (xc_ D z M KX) args s mc ms (fun q => z ≤ q)) 0 0 M 0 (lv_args 0 av) []) :
    MX l D cy z x y (wsy y cc nL ret) fr lo mc ms M av K KX := by
  refine vx_ofW (cc := cc) (maxL := nL) (ret := ret) hy rfl ?_
  intro p e s m args below meth c s₁ B hml hxt hv
  obtain ⟨rfl, hw, hx, hB⟩ := hv
  have hts := atoms_spec (ws := wsy y cc nL ret) B.pre
  have C : Cx p l s m av.toArray meth c D cy z nL cc y.cls := ⟨B.exec, B.bytes, hml, findClass_of_methodNamed B.named, fun w hw => hts w (List.mem_cons_of_mem _ hw), hB, B.notSynchronized, by have := hw.2; omega⟩
  rw [lg_entry_eq]
  exact body p e s m av.toArray below meth c C B.returns hxt s.heap [] _ (lv_entry av hlen) hw va_S.rf
end VENTRY
