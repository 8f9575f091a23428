/-! methods with handlers -/
abbrev wsh (y : MethodName) (cc : ByteArray) (nL : Nat) (ret : Option FieldType) (hh : List (Nat × Nat × Nat × Nat)) : List Cond := .codeWith y cc nL ret hh :: lw_all
theorem MH_of {l : Launch} {D : va_G} {cy : Nat → ClassId} {z : Nat} {y : MethodName} {cc : ByteArray} {nL : Nat} {ret : Option FieldType} {hh : List (Nat × Nat × Nat × Nat)} {fr lo mc ms : Nat} {M : Mm} {av : List Value} {K : Option Value → Mm → Prop} (hy : plainName y.cls = true) (hc : Cond.codeWith y cc nL ret hh ∈ lw_all) (hlen : (lg_sl av).length ≤ nL)
    (body : ∀ (p : Program) (e : Env) (s : State) (m : MethodId) (args : Array Value) (below : List Frame) (meth : Method) (c : Code), Cx p l s m args meth c D cy z nL cc y.cls → meth.sig.returnType = ret → c.exceptionTable.toList = tableOf hh → V p l e { frames := fr, cells := mc, slots := ms, locals := lo } s m args below meth c D z nL (MQ below (qc_ D z K) args s mc ms (fun q => z ≤ q)) 0 0 M 0 (lv_args 0 av) []) :
    MT l D cy z false y (wsh y cc nL ret hh) fr lo mc ms M av K := by
  refine MetFree.of_bodyS (code := cc) (maxLocals := nL) (ret := ret) hy ?_ ?_
  · intro args s m h hn
    obtain ⟨m9, meth, c, hn9, h1, h2, h3, h4, -, h5, h6, -⟩ := Cond.codeWith_spec (atoms_spec (ws := wsh y cc nL ret hh) h _ List.mem_cons_self)
    cases hn.symm.trans hn9
    exact ⟨meth, c, h1, h2, h3, h4, h5, h6⟩
  · intro p e s m args below meth c s₁ B hml hP _
    have hh0 : s₁.heap = s.heap := by rw [B.state]; rfl
    obtain ⟨rfl, hw, hx, hB⟩ := hP
    have hts := atoms_spec (ws := wsh y cc nL ret hh) B.pre
    have C : Cx p l s m av.toArray meth c D cy z nL cc y.cls := ⟨B.exec, B.bytes, hml, findClass_of_methodNamed B.named, fun w hw => hts w (List.mem_cons_of_mem _ hw), hB, B.notSynchronized, by have := hw.2; omega⟩
    have K9 : W p l e { frames := fr, cells := mc, slots := ms, locals := lo } s m av.toArray below meth c s.heap [] 0 0 (MQ below (qc_ D z K) av.toArray s mc ms (fun q => z ≤ q)) (entryFrame m av.toArray nL) := by
      rw [lg_entry_eq]
      exact body p e s m av.toArray below meth c C B.returns (vx_table (x := y) B (hts _ List.mem_cons_self)) s.heap [] _ (lv_entry av hlen) hw va_S.rf
    obtain ⟨t, a1, o, b1, b2, b3⟩ := K9 s₁ hh0 (Stand.of_body B)
    exact ⟨t, o, a1, b1, b2, ⟨b3.1, b3.2⟩⟩
/-- which handler takes what is thrown -/
def CatchAt (own : String) (hh : List (Nat × Nat × Nat × Nat)) (pc : Nat) (E : String) (h9 : Nat) : Prop := ∃ (pre : List ExceptionTableEntry) (x : ExceptionTableEntry) (suf : List ExceptionTableEntry) (name : String), tableOf hh = pre ++ x :: suf ∧ (∀ y ∈ pre, covers y pc = false ∨ (y.catchType ≠ 0 ∧ ∃ nm, Cond.classLink own y.catchType nm ∈ lw_all ∧ (E, nm) ∈ nc_all)) ∧ covers x pc = true ∧ x.catchType ≠ 0 ∧ x.handlerPc = h9 ∧ Cond.classLink own x.catchType name ∈ lw_all ∧ Cond.castable E name ∈ nw_all
section VCATCH
variable {p : Program} {l : Launch} {e : Env} {R : Room} {s : State} {m : MethodId} {args : Array Value} {below : List Frame} {meth : Method} {c : Code} {D : va_G} {cy : Nat → ClassId} {z nL : Nat} {cc : ByteArray} {own : String} {Q : State → Prop} {cells slots : Nat} {M : Mm} {pc : Nat} {lv : List (Nat × Value)} {st : List Value}
theorem V_runC (C : Cx p l s m args meth c D cy z nL cc own) {mc ms : Nat} {rest : List Value} {KX : String → Prop} {hh : List (Nat × Nat × Nat × Nat)} (ht : c.exceptionTable.toList = tableOf hh) (hKX : ∀ E, KX E → ∃ h9, CatchAt own hh pc E h9 ∧ ∀ q : Nat, V p l e R s m args below meth c D z nL Q (cells + mc) (slots + ms) M h9 lv [.ref q])
    (h : ∀ (H : Heap) (locs : List Loc) (ls : Array Slot), lv_has ls nL lv → wW D z M H → va_S (fun q => z ≤ q) s.heap H locs → vx_Run p l e R s m args below meth c H locs cells slots mc ms (F0 m pc ls st) rest (qc_ D z (fun r M' => V p l e R s m args below meth c D z nL Q (cells + mc) (slots + ms) M' (pc + 3) lv (pushr r rest)) #[]) (xc_ D z M KX) (fun q => z ≤ q)) :
    V p l e R s m args below meth c D z nL Q cells slots M pc lv st := by
  intro H locs ls hl hw hS T hT X
  rcases h H locs ls hl hw hS T hT X with ⟨v, st₀, t, T', L, h0, X', hL, e1, e2, ⟨⟨r, M', hv, hK, hw'⟩, hF⟩, hst⟩ | ⟨q, st₀, t, T', L, E, ce, h0, X', hL, e1, e2, ⟨u, -, ⟨hE, hw'⟩, hF⟩, hce, hcv, hcl, hst⟩
  · cases hv
    obtain ⟨k1, k2, k3⟩ := vx_keep h0 e1 hS (fun q _ h => h) (free := fun q => z ≤ q) (fun q h => h) hL hF
    obtain ⟨t2, a1, b1⟩ := hK T'.heap (locs ++ L) ls hl (by rw [e1]; exact hw') k3 T' rfl X'
    refine ⟨t2, hst t2 ?_, b1⟩
    rw [pushr_eq]
    exact a1
  · obtain ⟨k1, k2, k3⟩ := vx_keep h0 e1 hS (fun q _ h => h) (free := fun q => z ≤ q) (fun q h => h) hL hF
    obtain ⟨h9, ⟨pre, y, suf, name, f1, f2, f3, f4, f5, f6, f7⟩, kk⟩ := hKX E hE
    have hB := C.2.2.2.2.2.1
    obtain ⟨t2, a1, b1⟩ := vx_catch (pc := pc) (ls := ls) (rest := rest) (Q := Q) C.2.2.2.1 pre y suf (ht.trans f1) (fun w hw9 => (f2 w hw9).imp id (fun ⟨a, nm, b, d⟩ => ⟨a, nm, C.2.2.2.2.1 _ b, hB.2.2.2.2.2.2.1 _ d⟩)) f3 f4 (C.2.2.2.2.1 _ f6) (nw_use (List.all_eq_true.mp nw_all_ok _ f7) (hB.2.2.2.1 _ f7)) (by rw [e1]; exact hce) hcv hcl (by rw [f5]; exact kk q T'.heap (locs ++ L) ls hl (by rw [e1]; exact hw') k3) T' rfl X'
    exact ⟨t2, hst.trans a1, b1⟩
theorem V_callVC (C : Cx p l s m args meth c D cy z nL cc own) {y : MethodName} {cc' : ByteArray} {nL' n fr lo mc ms idx k ci : Nat} {ret : Option FieldType} {r : vw_C} {fs As rest : List Value} {KX : String → Prop} {hh : List (Nat × Nat × Nat × Nat)} (ht : c.exceptionTable.toList = tableOf hh) (hy : YV y cc' nL' ret n) (hl : Cond.methodLink own idx y ∈ lw_all) (hd : decode cc pc = .ok (.invokevirtual idx, 3)) (hcl : vwCl[ci]? = some r) (hr : r.1 = y.cls) (hM : M.2 k = oX ci fs) (hk : k < M.1) (hst : st = As.reverse ++ .ref (z + k) :: rest) (hn : As.length = n) (hcat : (rest.map fun v => v.category).sum ≤ 8) (hR : fr + 1 ≤ R.frames ∧ 8 + (nL' + 11) + lo ≤ R.locals) (hf : cells + mc ≤ R.cells ∧ slots + ms ≤ R.slots)
    (hKX : ∀ E, KX E → ∃ h9, CatchAt own hh pc E h9 ∧ ∀ q : Nat, V p l e R s m args below meth c D z nL Q (cells + mc) (slots + ms) M h9 lv [.ref q])
    (hMt : MX l D cy z false y (wsy y cc' nL' ret) fr lo mc ms M (.ref (z + k) :: As) (fun r M' => V p l e R s m args below meth c D z nL Q (cells + mc) (slots + ms) M' (pc + 3) lv (pushr r rest)) KX) : V p l e R s m args below meth c D z nL Q cells slots M pc lv st := by
  refine V_runC (rest := rest) C ht hKX (fun H locs ls hl' hw hS => ?_)
  have hrec := va_recv (q0 := k) C.2.2.2.2.2.1.1 hw.1 hcl (by rw [wl_get hk, hM]; rfl)
  rw [hr] at hrec
  exact vx_runV (C := y.cls) (As := As) (rest := rest) ⟨C.1, C.2.1, C.2.2.1, C.2.2.2.1, C.2.2.2.2.1⟩ hMt (cwV n C.2.2.2.2.1 (good_V hy hl) rfl rfl rfl ⟨rfl, hy.2.2.2.2⟩ hR) ⟨pc_blind, hrec, pc_at C hw (fun h => nomatch h) hS⟩ rfl hn hl'.1 hst (lv_room hcat) hd hf
/-- what is known of a static method with handlers -/
def YW (y : MethodName) (cc : ByteArray) (nL : Nat) (ret : Option FieldType) (n : Nat) (hh : List (Nat × Nat × Nat × Nat)) : Prop := Cond.static y ∈ lw_all ∧ Cond.initialized y.cls ∈ lw_all ∧ Cond.codeWith y cc nL ret hh ∈ lw_all ∧ y.cls ≠ "java/lang/invoke/MethodHandle" ∧ y.cls ≠ "java/lang/invoke/VarHandle" ∧ (parseMethodDescriptor y.desc).map (fun d => d.parameters.length) = some n
theorem good_W {own : String} {idx : Nat} {y : MethodName} {cc : ByteArray} {nL n : Nat} {ret : Option FieldType} {hh : List (Nat × Nat × Nat × Nat)} (hy : YW y cc nL ret n hh) (hl : Cond.methodLink own idx y ∈ lw_all) : GoodIn lw_all (va_wsS own idx y (wsh y cc nL ret hh)) := by
  intro w hw
  simp only [va_wsS, List.mem_append, List.mem_cons, List.not_mem_nil, or_false] at hw
  rcases hw with (e | e | e) | e | e
  · subst e; exact ⟨hl, good_of_word (lw_all_good _ hl)⟩
  · subst e; exact ⟨hy.1, good_of_word (lw_all_good _ hy.1)⟩
  · subst e; exact ⟨hy.2.1, good_of_word (lw_all_good _ hy.2.1)⟩
  · subst e; exact ⟨hy.2.2.1, good_of_word (lw_all_good _ hy.2.2.1)⟩
  · exact ⟨e, good_of_word (lw_all_good _ e)⟩
theorem V_callW (C : Cx p l s m args meth c D cy z nL cc own) {y : MethodName} {cc' : ByteArray} {nL' n fr lo mc ms idx : Nat} {ret : Option FieldType} {hh : List (Nat × Nat × Nat × Nat)} {As rest : List Value} (hy : YW y cc' nL' ret n hh) (hl : Cond.methodLink own idx y ∈ lw_all) (hd : decode cc pc = .ok (.invokestatic idx, 3)) (hst : st = As.reverse ++ rest) (hn : As.length = n) (hcat : (rest.map fun v => v.category).sum ≤ 8) (hR : fr + 1 ≤ R.frames ∧ 8 + (nL' + 11) + lo ≤ R.locals) (hf : cells + mc ≤ R.cells ∧ slots + ms ≤ R.slots)
    (hMt : MT l D cy z false y (wsh y cc' nL' ret hh) fr lo mc ms M As (fun r M' => V p l e R s m args below meth c D z nL Q (cells + mc) (slots + ms) M' (pc + 3) lv (pushr r rest))) : V p l e R s m args below meth c D z nL Q cells slots M pc lv st := by
  refine V_run (mc := mc) (ms := ms) (rest := rest) (fun H locs ls hl' hw hS => ?_)
  exact vx_runSW (As := As) (rest := rest) ⟨C.1, C.2.1, C.2.2.1, C.2.2.2.1, C.2.2.2.2.1⟩ hMt (vx_cwSW n C.2.2.2.2.1 (good_W hy hl) rfl rfl rfl hy.2.2.2 hR) ⟨pc_blind, pc_at C hw (fun h => nomatch h) hS⟩ rfl hn hl'.1 hst (lv_room hcat) hd hf
end VCATCH
