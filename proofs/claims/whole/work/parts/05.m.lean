/-! MEMORY, CALLS, ENDS, ENTRIES of the layer -/
def aI (cy : Nat → ClassId) (n : Nat) (g : Nat → Int) : va_E := .inl (cy 0, n, .inl (fun j => Int32.ofInt (g j)))
def aB (cy : Nat → ClassId) (n : Nat) (g : Nat → Int) : va_E := .inl (cy 1, n, .inl (fun j => Int32.ofInt (g j)))
def aZ (cy : Nat → ClassId) (n : Nat) (g : Nat → Int) : va_E := .inl (cy 2, n, .inl (fun j => Int32.ofInt (g j)))
def aL (cy : Nat → ClassId) (n : Nat) (g : Nat → Int) : va_E := .inl (cy 5, n, .inr (.inl (fun j => Int64.ofInt (g j))))
def aD (cy : Nat → ClassId) (n : Nat) (g : Nat → UInt64) : va_E := .inl (cy 6, n, .inr (.inr (.inr (.inl g))))
def aQ (c : ClassId) (n : Nat) (g : Nat → Option Nat) : va_E := .inl (c, n, .inr (.inr (.inr (.inr g))))
def oX (ci : Nat) (fs : List Value) : va_E := .inr (ci, fs)
theorem up_oi (g : Nat → Int) (k : Nat) (a : Int) : upd (fun j => Int32.ofInt (g j)) k (Int32.ofInt a) = fun j => Int32.ofInt (va_up g k a j) := by
  funext j
  by_cases h : j = k <;> simp [upd, va_up, h]
theorem up_ol (g : Nat → Int) (k : Nat) (a : Int) : vp_updL (fun j => Int64.ofInt (g j)) k (Int64.ofInt a) = fun j => Int64.ofInt (va_up g k a j) := by
  funext j
  by_cases h : j = k <;> simp [vp_updL, va_up, h]
theorem cpy_oi (f g : Nat → Int) (sp dp n : Nat) : va_cpy (fun j => Int32.ofInt (f j)) (fun j => Int32.ofInt (g j)) sp dp n = fun j => Int32.ofInt (va_cpy f g sp dp n j) := by
  funext j
  by_cases h : dp ≤ j ∧ j < dp + n <;> simp [va_cpy, h]
/-- what is known of a field that is read -/
def FG (own : String) (index ci f : Nat) : Prop := ∃ (C' : String) (T : u_T) (N : Nat), vwCl[ci]? = some (C', T, N) ∧ f < N ∧ (∀ w ∈ u_ws C' T N, w ∈ lw_all) ∧ (Cond.fieldLink own index (T f).1 (T f).2.1 (T f).2.2.1 ∈ lw_all ∨ ∃ host, Cond.fieldLinkNest own index (T f).1 (T f).2.1 (T f).2.2.1 host ∈ nw_all)
/-- .. that is written -/
def FP (own : String) (index ci f : Nat) (ty : FieldType) : Prop := ∃ (C' : String) (T : u_T) (N : Nat) (ty0 : Nat → FieldType), vwCl[ci]? = some (C', T, N) ∧ f < N ∧ (∀ w ∈ u_ws C' T N, w ∈ lw_all) ∧ (Cond.fieldLink own index (T f).1 (T f).2.1 (T f).2.2.1 ∈ lw_all ∨ ∃ host, Cond.fieldLinkNest own index (T f).1 (T f).2.1 (T f).2.2.1 host ∈ nw_all) ∧
  (∀ k, k < N → parseFieldDescriptor (T k).2.2.1 = some (ty0 k)) ∧ (∀ a, a < N → ∀ b, b < N → a ≠ b → (T a).2.1 ≠ (T b).2.1) ∧ (T f).2.2.2 = false ∧ ty0 f = ty
/-- .. that is final, and written in its constructor -/
def FF (own : String) (index ci f : Nat) (ty : FieldType) : Prop := ∃ (T : u_T) (N : Nat) (ty0 : Nat → FieldType), vwCl[ci]? = some (own, T, N) ∧ f < N ∧ (∀ w ∈ u_ws own T N, w ∈ lw_all) ∧ Cond.fieldLink own index own (T f).2.1 (T f).2.2.1 ∈ lw_all ∧
  (∀ k, k < N → parseFieldDescriptor (T k).2.2.1 = some (ty0 k)) ∧ (∀ a, a < N → ∀ b, b < N → a ≠ b → (T a).2.1 ≠ (T b).2.1) ∧ (T f).2.2.2 = true ∧ (T f).1 = own ∧ ty0 f = ty
theorem wW_set {D : va_G} {z k : Nat} {M : Mm} {e : va_E} {H1 : Heap} (hk : k < M.1) (h : va_P D vwCl ((wl z M).set k (z + k, e)) H1) : wW D z (mset M k e) H1 := by
  rw [wl_set hk] at h
  refine ⟨h, ?_⟩
  have h1 : M.1 - 1 < (mset M k e).1 := by show M.1 - 1 < M.1; omega
  have h2 := (h (M.1 - 1) _ (wl_get h1)).lt
  dsimp only at h2
  show z + M.1 ≤ H1.size
  omega
section VMEM
variable {p : Program} {l : Launch} {e : Env} {R : Room} {s : State} {m : MethodId} {args : Array Value} {below : List Frame} {meth : Method} {c : Code} {D : va_G} {cy : Nat → ClassId} {z nL : Nat} {cc : ByteArray} {own : String} {Q : State → Prop} {cells slots : Nat} {M : Mm} {pc : Nat} {lv : List (Nat × Value)} {st : List Value}
theorem V_get (C : Cx p l s m args meth c D cy z nL cc own) {index ci f k : Nat} {fs : List Value} {v : Value} (hf : FG own index ci f) (hd : decode cc pc = .ok (.getfield index, 3)) (hM : M.2 k = oX ci fs) (hk : k < M.1) (hv : fs[f]? = some v) (kk : V p l e R s m args below meth c D z nL Q cells slots M (pc + 3) lv (v :: st)) : V p l e R s m args below meth c D z nL Q cells slots M pc lv (.ref (z + k) :: st) := by
  intro H locs ls hl hw hS
  obtain ⟨C', T, N, h1, h2, h3, h4⟩ := hf
  have he : (wl z M)[k]? = some (z + k, .inr (ci, fs)) := by rw [wl_get hk, hM]; rfl
  rcases h4 with h4 | ⟨host, h4⟩
  · exact va_get C.1 C.2.1 C.2.2.2.2.1 h3 C.2.2.2.1 C.2.2.2.2.2.1.1 hw.1 k he h1 f h2 (C.2.2.2.2.1 _ h4) (fun _ h9 => h9) hv hd (kk H locs ls hl hw hS)
  · exact va_getN C.1 C.2.1 C.2.2.2.2.1 h3 C.2.2.2.1 C.2.2.2.2.2.1.1 hw.1 k he h1 f h2 (nw_use (List.all_eq_true.mp nw_all_ok _ h4) (C.2.2.2.2.2.1.2.2.2.1 _ h4)) (fun _ h9 => h9) hv hd (kk H locs ls hl hw hS)
theorem V_put (C : Cx p l s m args meth c D cy z nL cc own) {index ci f k : Nat} {fs : List Value} {v : Value} {ty : FieldType} (hf : FP own index ci f ty) (hd : decode cc pc = .ok (.putfield index, 3)) (hM : M.2 k = oX ci fs) (hk : k < M.1) (hn : narrow ty v = v) (hfit : fits ty v = true) (hl' : f < fs.length) (kk : V p l e R s m args below meth c D z nL Q cells slots (mset M k (oX ci (fs.set f v))) (pc + 3) lv st) : V p l e R s m args below meth c D z nL Q cells slots M pc lv (v :: .ref (z + k) :: st) := by
  intro H locs ls hl hw hS
  obtain ⟨C', T, N, ty0, h1, h2, h3, h4, h5, h6, h7, h8⟩ := hf
  have he : (wl z M)[k]? = some (z + k, .inr (ci, fs)) := by rw [wl_get hk, hM]; rfl
  have ht : parseFieldDescriptor (T f).2.2.1 = some ty := by rw [h5 f h2, h8]
  rcases h4 with h4 | ⟨host, h4⟩
  · exact va_put C.1 C.2.1 C.2.2.2.2.1 h3 ty0 h5 h6 C.2.2.2.1 C.2.2.2.2.2.1.1 hw.1 (wl_D z M) hS k he h1 f h2 (C.2.2.2.2.1 _ h4) (fun _ h9 => h9) h7 ht hn hfit hl' hd (fun H1 locs1 hP hD hS1 => kk H1 locs1 ls hl (wW_set hk hP) hS1)
  · exact va_putN C.1 C.2.1 C.2.2.2.2.1 h3 ty0 h5 h6 C.2.2.2.1 C.2.2.2.2.2.1.1 hw.1 (wl_D z M) hS k he h1 f h2 (nw_use (List.all_eq_true.mp nw_all_ok _ h4) (C.2.2.2.2.2.1.2.2.2.1 _ h4)) (fun _ h9 => h9) h7 ht hn hfit hl' hd (fun H1 locs1 hP hD hS1 => kk H1 locs1 ls hl (wW_set hk hP) hS1)
theorem V_putF (C : Cx p l s m args meth c D cy z nL cc own) (hin : meth.name = "<init>") {index ci f k : Nat} {fs : List Value} {v : Value} {ty : FieldType} (hf : FF own index ci f ty) (hd : decode cc pc = .ok (.putfield index, 3)) (hM : M.2 k = oX ci fs) (hk : k < M.1) (hn : narrow ty v = v) (hfit : fits ty v = true) (hl' : f < fs.length) (kk : V p l e R s m args below meth c D z nL Q cells slots (mset M k (oX ci (fs.set f v))) (pc + 3) lv st) : V p l e R s m args below meth c D z nL Q cells slots M pc lv (v :: .ref (z + k) :: st) := by
  intro H locs ls hl hw hS
  obtain ⟨T, N, ty0, h1, h2, h3, h4, h5, h6, h7, h9, h8⟩ := hf
  have he : (wl z M)[k]? = some (z + k, .inr (ci, fs)) := by rw [wl_get hk, hM]; rfl
  have ht : parseFieldDescriptor (T f).2.2.1 = some ty := by rw [h5 f h2, h8]
  exact va_putF C.1 C.2.1 C.2.2.2.2.1 h3 ty0 h5 h6 C.2.2.2.1 C.2.2.2.2.2.1.1 hw.1 (wl_D z M) hS k he h1 f h2 (C.2.2.2.2.1 _ h4) (fun y h10 => by rw [h9] at h10; exact h10) h7 hin h9 ht hn hfit hl' hd (fun H1 locs1 hP hD hS1 => kk H1 locs1 ls hl (wW_set hk hP) hS1)
theorem V_iaload (C : Cx p l s m args meth c D cy z nL cc own) {k n : Nat} {g : Nat → Int} {i : Int} (hd : decode cc pc = .ok (.iaload, 1)) (hM : M.2 k = aI cy n g) (hk : k < M.1) (hi : 0 ≤ i ∧ i < n) (hn : n < 2147483648) (kk : V p l e R s m args below meth c D z nL Q cells slots M (pc + 1) lv (iv (g i.toNat) :: st)) : V p l e R s m args below meth c D z nL Q cells slots M pc lv (iv i :: .ref (z + k) :: st) := by
  intro H locs ls hl hw hS
  refine va_iald (t0 := 0) C.1 C.2.1 C.2.2.2.2.2.1.1 hw.1 k (by rw [wl_get hk, hM]; rfl) rfl (oi_in hi hn) hd ?_
  rw [oi_nat (by omega)]
  exact kk H locs ls hl hw hS
theorem V_baload (C : Cx p l s m args meth c D cy z nL cc own) {k n : Nat} {g : Nat → Int} {i : Int} (hd : decode cc pc = .ok (.baload, 1)) (hM : M.2 k = aB cy n g) (hk : k < M.1) (hi : 0 ≤ i ∧ i < n) (hn : n < 2147483648) (kk : V p l e R s m args below meth c D z nL Q cells slots M (pc + 1) lv (iv (g i.toNat) :: st)) : V p l e R s m args below meth c D z nL Q cells slots M pc lv (iv i :: .ref (z + k) :: st) := by
  intro H locs ls hl hw hS
  refine va_bald (t0 := 1) C.1 C.2.1 C.2.2.2.2.2.1.1 hw.1 k (by rw [wl_get hk, hM]; rfl) rfl (oi_in hi hn) hd ?_
  rw [oi_nat (by omega)]
  exact kk H locs ls hl hw hS
theorem V_zaload (C : Cx p l s m args meth c D cy z nL cc own) {k n : Nat} {g : Nat → Int} {i : Int} (hd : decode cc pc = .ok (.baload, 1)) (hM : M.2 k = aZ cy n g) (hk : k < M.1) (hi : 0 ≤ i ∧ i < n) (hn : n < 2147483648) (kk : V p l e R s m args below meth c D z nL Q cells slots M (pc + 1) lv (iv (g i.toNat) :: st)) : V p l e R s m args below meth c D z nL Q cells slots M pc lv (iv i :: .ref (z + k) :: st) := by
  intro H locs ls hl hw hS
  refine va_zald (t0 := 2) C.1 C.2.1 C.2.2.2.2.2.1.1 hw.1 k (by rw [wl_get hk, hM]; rfl) rfl (oi_in hi hn) hd ?_
  rw [oi_nat (by omega)]
  exact kk H locs ls hl hw hS
theorem V_laload (C : Cx p l s m args meth c D cy z nL cc own) {k n : Nat} {g : Nat → Int} {i : Int} (hd : decode cc pc = .ok (.laload, 1)) (hM : M.2 k = aL cy n g) (hk : k < M.1) (hi : 0 ≤ i ∧ i < n) (hn : n < 2147483648) (kk : V p l e R s m args below meth c D z nL Q cells slots M (pc + 1) lv (lgv (g i.toNat) :: st)) : V p l e R s m args below meth c D z nL Q cells slots M pc lv (iv i :: .ref (z + k) :: st) := by
  intro H locs ls hl hw hS
  refine va_lald (t0 := 5) C.1 C.2.1 C.2.2.2.2.2.1.1 hw.1 k (by rw [wl_get hk, hM]; rfl) rfl (oi_in hi hn) hd ?_
  rw [oi_nat (by omega)]
  exact kk H locs ls hl hw hS
theorem V_daload (C : Cx p l s m args meth c D cy z nL cc own) {k n : Nat} {g : Nat → UInt64} {i : Int} (hd : decode cc pc = .ok (.daload, 1)) (hM : M.2 k = aD cy n g) (hk : k < M.1) (hi : 0 ≤ i ∧ i < n) (hn : n < 2147483648) (kk : V p l e R s m args below meth c D z nL Q cells slots M (pc + 1) lv (.double (g i.toNat) :: st)) : V p l e R s m args below meth c D z nL Q cells slots M pc lv (iv i :: .ref (z + k) :: st) := by
  intro H locs ls hl hw hS
  refine va_dald (t0 := 6) C.1 C.2.1 C.2.2.2.2.2.1.1 hw.1 k (by rw [wl_get hk, hM]; rfl) rfl (oi_in hi hn) hd ?_
  rw [oi_nat (by omega)]
  exact kk H locs ls hl hw hS
theorem V_aaload (C : Cx p l s m args meth c D cy z nL cc own) {k n t a : Nat} {g : Nat → Option Nat} {i : Int} {C' : String} (ht : (tysL cy)[t]? = some (cy t, .object C')) (hd : decode cc pc = .ok (.aaload, 1)) (hM : M.2 k = aQ (cy t) n g) (hk : k < M.1) (hi : 0 ≤ i ∧ i < n) (hn : n < 2147483648) (hg : g i.toNat = some a) (kk : V p l e R s m args below meth c D z nL Q cells slots M (pc + 1) lv (.ref a :: st)) : V p l e R s m args below meth c D z nL Q cells slots M pc lv (iv i :: .ref (z + k) :: st) := by
  intro H locs ls hl hw hS
  refine va_aldq (t0 := t) C.1 C.2.1 C.2.2.2.2.2.1.1 hw.1 k (by rw [wl_get hk, hM]; rfl) ht (oi_in hi hn) hd ?_
  rw [oi_nat (by omega), hg]
  exact kk H locs ls hl hw hS
theorem V_iastore (C : Cx p l s m args meth c D cy z nL cc own) {k n : Nat} {g : Nat → Int} {i a : Int} (hd : decode cc pc = .ok (.iastore, 1)) (hM : M.2 k = aI cy n g) (hk : k < M.1) (hi : 0 ≤ i ∧ i < n) (hn : n < 2147483648) (kk : V p l e R s m args below meth c D z nL Q cells slots (mset M k (aI cy n (va_up g i.toNat a))) (pc + 1) lv st) : V p l e R s m args below meth c D z nL Q cells slots M pc lv (iv a :: iv i :: .ref (z + k) :: st) := by
  intro H locs ls hl hw hS
  refine va_iast (t0 := 0) C.1 C.2.1 C.2.2.2.2.2.1.1 hw.1 (wl_D z M) hS k (by rw [wl_get hk, hM]; rfl) rfl (oi_in hi hn) hd (fun H1 locs1 hP hD hS1 => kk H1 locs1 ls hl (wW_set hk ?_) hS1)
  rw [oi_nat (by omega), up_oi] at hP
  exact hP
theorem V_lastore (C : Cx p l s m args meth c D cy z nL cc own) {k n : Nat} {g : Nat → Int} {i a : Int} (hd : decode cc pc = .ok (.lastore, 1)) (hM : M.2 k = aL cy n g) (hk : k < M.1) (hi : 0 ≤ i ∧ i < n) (hn : n < 2147483648) (kk : V p l e R s m args below meth c D z nL Q cells slots (mset M k (aL cy n (va_up g i.toNat a))) (pc + 1) lv st) : V p l e R s m args below meth c D z nL Q cells slots M pc lv (lgv a :: iv i :: .ref (z + k) :: st) := by
  intro H locs ls hl hw hS
  refine va_last (t0 := 5) C.1 C.2.1 C.2.2.2.2.2.1.1 hw.1 (wl_D z M) hS k (by rw [wl_get hk, hM]; rfl) rfl (oi_in hi hn) hd (fun H1 locs1 hP hD hS1 => kk H1 locs1 ls hl (wW_set hk ?_) hS1)
  rw [oi_nat (by omega), up_ol] at hP
  exact hP
theorem V_dastore (C : Cx p l s m args meth c D cy z nL cc own) {k n : Nat} {g : Nat → UInt64} {i : Int} {a : UInt64} (hd : decode cc pc = .ok (.dastore, 1)) (hM : M.2 k = aD cy n g) (hk : k < M.1) (hi : 0 ≤ i ∧ i < n) (hn : n < 2147483648) (kk : V p l e R s m args below meth c D z nL Q cells slots (mset M k (aD cy n (vf_upd g i.toNat a))) (pc + 1) lv st) : V p l e R s m args below meth c D z nL Q cells slots M pc lv (.double a :: iv i :: .ref (z + k) :: st) := by
  intro H locs ls hl hw hS
  refine va_dast (t0 := 6) C.1 C.2.1 C.2.2.2.2.2.1.1 hw.1 (wl_D z M) hS k (by rw [wl_get hk, hM]; rfl) rfl (oi_in hi hn) hd (fun H1 locs1 hP hD hS1 => kk H1 locs1 ls hl (wW_set hk ?_) hS1)
  rw [oi_nat (by omega)] at hP
  exact hP
theorem V_bastore (C : Cx p l s m args meth c D cy z nL cc own) {k n : Nat} {g : Nat → Int} {i a : Int} (hd : decode cc pc = .ok (.bastore, 1)) (hM : M.2 k = aB cy n g) (hk : k < M.1) (hi : 0 ≤ i ∧ i < n) (hn : n < 2147483648) (ha : -128 ≤ a ∧ a < 128) (kk : V p l e R s m args below meth c D z nL Q cells slots (mset M k (aB cy n (va_up g i.toNat a))) (pc + 1) lv st) : V p l e R s m args below meth c D z nL Q cells slots M pc lv (iv a :: iv i :: .ref (z + k) :: st) := by
  intro H locs ls hl hw hS
  refine va_bast (t0 := 1) C.1 C.2.1 C.2.2.2.2.2.1.1 hw.1 (wl_D z M) hS k (by rw [wl_get hk, hM]; rfl) rfl (oi_in hi hn) hd (fun H1 locs1 hP hD hS1 => kk H1 locs1 ls hl (wW_set hk ?_) hS1)
  have hv : vp_nar .byte (Int32.ofInt a) = Int32.ofInt a := by
    rw [vp_nar_byte, Int32.toInt8_ofInt]
    exact Int8.toInt32_ofInt (by simpa [Int8.toInt_minValue] using ha.1) (by have := ha.2; simp [Int8.toInt_maxValue]; omega)
  rw [oi_nat (by omega), hv, up_oi] at hP
  exact hP
theorem V_i2b (C : Cx p l s m args meth c D cy z nL cc own) {a : Int} (hd : decode cc pc = .ok (.i2b, 1)) (ha : -128 ≤ a ∧ a < 128) (k : V p l e R s m args below meth c D z nL Q cells slots M (pc + 1) lv (iv a :: st)) : V p l e R s m args below meth c D z nL Q cells slots M pc lv (iv a :: st) :=
  fun H locs ls hl hw hS => lv_i2b C.1 C.2.1 hd (by rw [Int32.toInt8_ofInt]; exact Int8.toInt32_ofInt (by simpa [Int8.toInt_minValue] using ha.1) (by have := ha.2; simp [Int8.toInt_maxValue]; omega)) (k H locs ls hl hw hS)
theorem V_zastore (C : Cx p l s m args meth c D cy z nL cc own) {k n : Nat} {g : Nat → Int} {i a : Int} (hd : decode cc pc = .ok (.bastore, 1)) (hM : M.2 k = aZ cy n g) (hk : k < M.1) (hi : 0 ≤ i ∧ i < n) (hn : n < 2147483648) (ha : a = 0 ∨ a = 1) (kk : V p l e R s m args below meth c D z nL Q cells slots (mset M k (aZ cy n (va_up g i.toNat a))) (pc + 1) lv st) : V p l e R s m args below meth c D z nL Q cells slots M pc lv (iv a :: iv i :: .ref (z + k) :: st) := by
  intro H locs ls hl hw hS
  refine va_zast (t0 := 2) C.1 C.2.1 C.2.2.2.2.2.1.1 hw.1 (wl_D z M) hS k (by rw [wl_get hk, hM]; rfl) rfl (oi_in hi hn) hd (fun H1 locs1 hP hD hS1 => kk H1 locs1 ls hl (wW_set hk ?_) hS1)
  have hv : vp_nar .boolean (Int32.ofInt a) = Int32.ofInt a := by rcases ha with rfl | rfl <;> rfl
  rw [oi_nat (by omega), hv, up_oi] at hP
  exact hP
theorem V_aastore (C : Cx p l s m args meth c D cy z nL cc own) {k n t ci qk : Nat} {r : vw_C} {vs : List Value} {g : Nat → Option Nat} {i : Int} (ht : (tysL cy)[t]? = some (cy t, .object r.1)) (hc : vwCl[ci]? = some r) (hd : decode cc pc = .ok (.aastore, 1)) (hM : M.2 k = aQ (cy t) n g) (hk : k < M.1) (hi : 0 ≤ i ∧ i < n) (hn : n < 2147483648) (hv : M.2 qk = oX ci vs) (hqk : qk < M.1) (kk : V p l e R s m args below meth c D z nL Q cells slots (mset M k (aQ (cy t) n (va_up g i.toNat (some (z + qk))))) (pc + 1) lv st) : V p l e R s m args below meth c D z nL Q cells slots M pc lv (.ref (z + qk) :: iv i :: .ref (z + k) :: st) := by
  intro H locs ls hl hw hS
  refine va_astq (t0 := t) (r := r) (qk := qk) (ci := ci) C.1 C.2.1 C.2.2.2.2.2.1.1 hw.1 (wl_D z M) hS k (by rw [wl_get hk, hM]; rfl) ht (by rw [wl_get hqk, hv]; rfl) hc (oi_in hi hn) hd (fun H1 locs1 hP hD hS1 => kk H1 locs1 ls hl (wW_set hk ?_) hS1)
  rw [oi_nat (by omega)] at hP
  exact hP
theorem V_alen (C : Cx p l s m args meth c D cy z nL cc own) {k t : Nat} {a : vp_A} {ty : FieldType} (ht : (tysL cy)[t]? = some (cy t, ty)) (hd : decode cc pc = .ok (.arraylength, 1)) (hM : M.2 k = .inl (cy t, a)) (hk : k < M.1) (kk : V p l e R s m args below meth c D z nL Q cells slots M (pc + 1) lv (iv a.1 :: st)) : V p l e R s m args below meth c D z nL Q cells slots M pc lv (.ref (z + k) :: st) := by
  intro H locs ls hl hw hS
  exact va_alen (t0 := t) C.1 C.2.1 C.2.2.2.2.2.1.1 hw.1 k (by rw [wl_get hk, hM]) ht (Int32.ofInt_eq_ofNat (n := a.1)).symm hd (kk H locs ls hl hw hS)
theorem V_copy (C : Cx p l s m args meth c D cy z nL cc own) {index k0 k n0 n1 : Nat} {f g : Nat → Int} {sp dp n : Int} (hlink : Cond.methodLink own index arraycopyName ∈ lw_all) (hnat : Cond.native arraycopyName ∈ lw_all) (hstat : Cond.static arraycopyName ∈ lw_all) (hini : Cond.initialized "java/lang/System" ∈ lw_all) (hd : decode cc pc = .ok (.invokestatic index, 3)) (h0 : M.2 k0 = aI cy n0 f) (hk0 : k0 < M.1) (h1 : M.2 k = aI cy n1 g) (hk : k < M.1)
    (hs : 0 ≤ sp ∧ 0 ≤ n ∧ sp + n ≤ n0) (hdp : 0 ≤ dp ∧ dp + n ≤ n1) (hb0 : n0 < 2147483648) (hb1 : n1 < 2147483648) (hR : 1 ≤ R.frames ∧ (st.map fun v => v.category).sum + (nativeFrameWords "java/lang/System" "arraycopy" 5 + 11) ≤ R.locals)
    (kk : V p l e R s m args below meth c D z nL Q cells slots (mset M k (aI cy n1 (va_cpy f g sp.toNat dp.toNat n.toNat))) (pc + 3) lv st) : V p l e R s m args below meth c D z nL Q cells slots M pc lv (iv n :: iv dp :: .ref (z + k) :: iv sp :: .ref (z + k0) :: st) := by
  intro H locs ls hl hw hS
  have nn : ∀ a : Int, 0 ≤ a ∧ a < 2147483648 → ¬ Int32.ofInt a < 0 := fun a ha h => by
    rw [oi_0, oi_lt (by omega) (by omega)] at h
    omega
  refine va_copyi (ty := .int) C.1 C.2.1 (by rw [C.2.2.1]; exact hl.1.symm) C.2.2.2.1 (C.2.2.2.2.1 _ hlink) (C.2.2.2.2.1 _ hnat) (C.2.2.2.2.1 _ hstat) (C.2.2.2.2.1 _ hini) C.2.2.2.2.2.1.1 hw.1 (wl_D z M) hS k0 k 0 0 (by rw [wl_get hk0, h0]; rfl) (by rw [wl_get hk, h1]; rfl) rfl rfl rfl (nn sp (by omega)) (nn dp (by omega)) (nn n (by omega)) (by rw [oi_nat (by omega), oi_nat (by omega)]; omega) (by rw [oi_nat (by omega), oi_nat (by omega)]; omega) (fun _ _ => rfl) hR.1 hR.2 hd (fun H1 locs1 hP hD hS1 => kk H1 locs1 ls hl (wW_set hk ?_) hS1)
  rw [oi_nat (by omega), oi_nat (by omega), oi_nat (by omega), cpy_oi] at hP
  exact hP
theorem V_min (C : Cx p l s m args meth c D cy z nL cc own) {index : Nat} {a b : Int} (hlink : Cond.methodLink own index Lib.Math.min.name ∈ lw_all) (hstat : Cond.static Lib.Math.min.name ∈ lw_all) (hini : Cond.initialized "java/lang/Math" ∈ lw_all) (hcode : Cond.code Lib.Math.min.name Lib.Math.min.code 2 (some .int) ∈ lw_all) (hd : decode cc pc = .ok (.invokestatic index, 3)) (ha : -2147483648 ≤ a ∧ a < 2147483648) (hb : -2147483648 ≤ b ∧ b < 2147483648) (hR : 1 ≤ R.frames ∧ (st.map fun v => v.category).sum + 13 ≤ R.locals) (hc : cells ≤ R.cells ∧ slots ≤ R.slots) (kk : V p l e R s m args below meth c D z nL Q cells slots M (pc + 3) lv (iv (if b < a then b else a) :: st)) : V p l e R s m args below meth c D z nL Q cells slots M pc lv (iv b :: iv a :: st) := by
  intro H locs ls hl hw hS
  refine va_mmin C.1 C.2.1 (by rw [C.2.2.1]; exact hl.1.symm) C.2.2.2.1 (C.2.2.2.2.1 _ hlink) (C.2.2.2.2.1 _ hstat) (C.2.2.2.2.1 _ hini) (C.2.2.2.2.1 _ hcode) hR.1 hR.2 hc.1 hc.2 hd ?_
  have e1 : (if Int32.ofInt b < Int32.ofInt a then Int32.ofInt b else Int32.ofInt a) = Int32.ofInt (if b < a then b else a) := by
    by_cases h : b < a
    · rw [if_pos ((oi_lt hb ha).mpr h), if_pos h]
    · rw [if_neg (fun h2 => h ((oi_lt hb ha).mp h2)), if_neg h]
  rw [e1]
  exact kk H locs ls hl hw hS
theorem V_max (C : Cx p l s m args meth c D cy z nL cc own) {index : Nat} {a b : Int} (hlink : Cond.methodLink own index Lib.Math.max.name ∈ lw_all) (hstat : Cond.static Lib.Math.max.name ∈ lw_all) (hini : Cond.initialized "java/lang/Math" ∈ lw_all) (hcode : Cond.code Lib.Math.max.name Lib.Math.max.code 2 (some .int) ∈ lw_all) (hd : decode cc pc = .ok (.invokestatic index, 3)) (ha : -2147483648 ≤ a ∧ a < 2147483648) (hb : -2147483648 ≤ b ∧ b < 2147483648) (hR : 1 ≤ R.frames ∧ (st.map fun v => v.category).sum + 13 ≤ R.locals) (hc : cells ≤ R.cells ∧ slots ≤ R.slots) (kk : V p l e R s m args below meth c D z nL Q cells slots M (pc + 3) lv (iv (if a < b then b else a) :: st)) : V p l e R s m args below meth c D z nL Q cells slots M pc lv (iv b :: iv a :: st) := by
  intro H locs ls hl hw hS
  refine va_mmax C.1 C.2.1 (by rw [C.2.2.1]; exact hl.1.symm) C.2.2.2.1 (C.2.2.2.2.1 _ hlink) (C.2.2.2.2.1 _ hstat) (C.2.2.2.2.1 _ hini) (C.2.2.2.2.1 _ hcode) hR.1 hR.2 hc.1 hc.2 hd ?_
  have e1 : (if Int32.ofInt a < Int32.ofInt b then Int32.ofInt b else Int32.ofInt a) = Int32.ofInt (if a < b then b else a) := by
    by_cases h : a < b
    · rw [if_pos ((oi_lt ha hb).mpr h), if_pos h]
    · rw [if_neg (fun h2 => h ((oi_lt ha hb).mp h2)), if_neg h]
  rw [e1]
  exact kk H locs ls hl hw hS
end VMEM
