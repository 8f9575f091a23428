/-! THE LAYER OF WHOLE NUMBERS: ints as whole numbers, the world as a row of cells from the address z on; a row an instruction -/
def iv (a : Int) : Value := .int (Int32.ofInt a)
def lgv (a : Int) : Value := .long (Int64.ofInt a)
theorem oi_add (a b : Int) : Int32.ofInt a + Int32.ofInt b = Int32.ofInt (a + b) := Int32.toInt_inj.mp (by simp [Int32.toInt_ofInt, Int32.toInt_add])
theorem oi_sub (a b : Int) : Int32.ofInt a - Int32.ofInt b = Int32.ofInt (a - b) := Int32.toInt_inj.mp (by simp [Int32.toInt_ofInt, Int32.toInt_sub])
theorem oi_mul (a b : Int) : Int32.ofInt a * Int32.ofInt b = Int32.ofInt (a * b) := Int32.toInt_inj.mp (by simp [Int32.toInt_ofInt, Int32.toInt_mul])
theorem ol_add (a b : Int) : Int64.ofInt a + Int64.ofInt b = Int64.ofInt (a + b) := Int64.toInt_inj.mp (by simp [Int64.toInt_ofInt, Int64.toInt_add])
theorem ol_mul (a b : Int) : Int64.ofInt a * Int64.ofInt b = Int64.ofInt (a * b) := Int64.toInt_inj.mp (by simp [Int64.toInt_ofInt, Int64.toInt_mul])
theorem oi_toInt {a : Int} (h : -2147483648 ≤ a ∧ a < 2147483648) : (Int32.ofInt a).toInt = a := Int32.toInt_ofInt_of_le (by omega) (by omega)
theorem oi_lt {a b : Int} (ha : -2147483648 ≤ a ∧ a < 2147483648) (hb : -2147483648 ≤ b ∧ b < 2147483648) : Int32.ofInt a < Int32.ofInt b ↔ a < b := by rw [Int32.lt_iff_toInt_lt, oi_toInt ha, oi_toInt hb]
theorem oi_le {a b : Int} (ha : -2147483648 ≤ a ∧ a < 2147483648) (hb : -2147483648 ≤ b ∧ b < 2147483648) : Int32.ofInt a ≤ Int32.ofInt b ↔ a ≤ b := by rw [Int32.le_iff_toInt_le, oi_toInt ha, oi_toInt hb]
theorem oi_eq {a b : Int} (ha : -2147483648 ≤ a ∧ a < 2147483648) (hb : -2147483648 ≤ b ∧ b < 2147483648) : Int32.ofInt a = Int32.ofInt b ↔ a = b := by rw [← Int32.toInt_inj, oi_toInt ha, oi_toInt hb]
theorem oi_0 : (0 : Int32) = Int32.ofInt 0 := rfl
theorem iv_all (x : Int32) : Value.int x = iv x.toInt := by rw [iv, Int32.ofInt_toInt]
theorem oi_in {i : Int} {n : Nat} (h : 0 ≤ i ∧ i < n) (hn : n < 2147483648) : vp_in (Int32.ofInt i) n := vp_in_iff.mpr (by rw [oi_toInt (by omega)]; exact h)
theorem oi_nat {i : Int} (h : -2147483648 ≤ i ∧ i < 2147483648) : (Int32.ofInt i).toNatClampNeg = i.toNat := Int32.toNatClampNeg_ofInt_of_le (by omega) (by omega)
theorem oi_div {a b : Int} (ha : 0 ≤ a ∧ a < 2147483648) (hb : 0 < b ∧ b < 2147483648) : Int32.ofInt a / Int32.ofInt b = Int32.ofInt (a / b) := by
  apply Int32.toInt_inj.mp
  rw [Int32.toInt_div_of_ne_right _ _ (by intro h; have h2 := congrArg Int32.toInt h; rw [oi_toInt (by omega)] at h2; simp at h2; omega), oi_toInt (by omega), oi_toInt (by omega)]
  have h1 : a.tdiv b = a / b := Int.tdiv_eq_ediv_of_nonneg ha.1
  have h2 : 0 ≤ a / b := Int.ediv_nonneg ha.1 (by omega)
  have h3 : a / b ≤ a := Int.ediv_le_self b ha.1
  rw [h1, oi_toInt (by omega)]
theorem oi_rem {a b : Int} (ha : 0 ≤ a ∧ a < 2147483648) (hb : 0 < b ∧ b < 2147483648) : Int32.ofInt a - Int32.ofInt a / Int32.ofInt b * Int32.ofInt b = Int32.ofInt (a % b) := by
  rw [oi_div ha hb, oi_mul, oi_sub]
  congr 1
  have := Int.mul_ediv_add_emod a b
  have h2 : a / b * b = b * (a / b) := Int.mul_comm _ _
  omega
theorem lk_mem : ∀ {lv : List (Nat × Value)} {i : Nat} {v : Value}, lv.lookup i = some v → (i, v) ∈ lv
  | [], i, v, h => by simp at h
  | (j, w) :: t, i, v, h => by
    by_cases e : i = j
    · subst e
      simp [List.lookup] at h
      subst h
      exact List.mem_cons_self
    · have hb : (i == j) = false := by simpa using e
      rw [List.lookup_cons, hb] at h
      exact List.mem_cons_of_mem _ (lk_mem h)
theorem lk_at {ls : Array Slot} {nL : Nat} {lv : List (Nat × Value)} (h : lv_has ls nL lv) {i : Nat} {v : Value} (hl : lv.lookup i = some v) : ls[i]? = some (.val v) := h.2.2 (i, v) (lk_mem hl)
/-- the world's memory: how many cells, and what each holds -/
abbrev Mm : Type := Nat × (Nat → va_E)
def wl (z : Nat) (M : Mm) : va_W := (List.range M.1).map fun k => (z + k, M.2 k)
def mset (M : Mm) (k : Nat) (e : va_E) : Mm := (M.1, va_up M.2 k e)
def mpush (M : Mm) (e : va_E) : Mm := (M.1 + 1, va_up M.2 M.1 e)
theorem mset_1 (M : Mm) (k : Nat) (e : va_E) : (mset M k e).1 = M.1 := rfl
theorem mset_self (M : Mm) (k : Nat) (e : va_E) : (mset M k e).2 k = e := by simp [mset, va_up]
theorem mset_ne {M : Mm} {k j : Nat} {e : va_E} (h : j ≠ k) : (mset M k e).2 j = M.2 j := by simp [mset, va_up, h]
theorem mpush_1 (M : Mm) (e : va_E) : (mpush M e).1 = M.1 + 1 := rfl
theorem mpush_self (M : Mm) (e : va_E) : (mpush M e).2 M.1 = e := by simp [mpush, va_up]
theorem mpush_ne {M : Mm} {j : Nat} {e : va_E} (h : j < M.1) : (mpush M e).2 j = M.2 j := by simp [mpush, va_up, Nat.ne_of_lt h]
theorem wl_get {z : Nat} {M : Mm} {k : Nat} (h : k < M.1) : (wl z M)[k]? = some (z + k, M.2 k) := by simp [wl, h]
theorem wl_inv {z : Nat} {M : Mm} {k : Nat} {q : Nat × va_E} (h : (wl z M)[k]? = some q) : k < M.1 ∧ q = (z + k, M.2 k) := by
  have hk : k < M.1 := by
    have := (List.getElem?_eq_some_iff.mp h).1
    simpa [wl] using this
  rw [wl_get hk] at h
  exact ⟨hk, (Option.some.inj h).symm⟩
theorem wl_set {z : Nat} {M : Mm} {k : Nat} {e : va_E} (h : k < M.1) : (wl z M).set k (z + k, e) = wl z (mset M k e) := by
  apply List.ext_getElem?
  intro i
  by_cases hi : i < M.1
  · rw [wl_get (M := mset M k e) (show i < (mset M k e).1 from hi)]
    by_cases hik : i = k
    · subst hik
      rw [List.getElem?_set_self (by simpa [wl] using hi), mset_self]
    · rw [List.getElem?_set_ne (Ne.symm hik), wl_get hi, mset_ne hik]
  · rw [List.getElem?_eq_none (by simpa [wl] using Nat.le_of_not_lt hi), List.getElem?_eq_none (by simpa [wl, mset] using Nat.le_of_not_lt hi)]
theorem wl_push {z : Nat} {M : Mm} {e : va_E} : wl z (mpush M e) = wl z M ++ [(z + M.1, e)] := by
  simp only [wl, mpush_1, List.range_succ, List.map_append, List.map_cons, List.map_nil, mpush_self]
  congr 1
  apply List.map_congr_left
  intro k hk
  rw [mpush_ne (List.mem_range.mp hk)]
theorem wl_D (z : Nat) (M : Mm) : va_D (fun q => z ≤ q) (wl z M) := by
  refine ⟨fun i j p q hi hj hpq => ?_, fun k q hk => ?_⟩
  · obtain ⟨-, rfl⟩ := wl_inv hi
    obtain ⟨-, rfl⟩ := wl_inv hj
    dsimp only at hpq
    omega
  · obtain ⟨-, rfl⟩ := wl_inv hk
    exact Nat.le_add_right _ _
/-- what the tables say of arrays: their classes by number -/
def tysL (cy : Nat → ClassId) : List (ClassId × FieldType) := [(cy 0, .int), (cy 1, .byte), (cy 2, .boolean), (cy 3, .object RX3), (cy 4, .object RX4), (cy 5, .long), (cy 6, .double)]
/-- words that warming keeps, though the kit's goodWord doesn't name them -/
def nw_ok : Cond → Bool
  | .fieldLinkNest .. | .methodLinkNest .. | .declares _ | .castable .. => true
  | _ => false
def nw_all : List Cond := [(Jvm.Cond.methodLinkNest "FeeDocket$State" (35 : Nat) ({ cls := "FeeDocket$Holidays", name := "<init>", desc := "()V" } : Jvm.MethodName) "FeeDocket"), (Jvm.Cond.fieldLinkNest "FeeDocket" (82 : Nat) "FeeDocket$Holidays" "count" "I" "FeeDocket"), (Jvm.Cond.fieldLinkNest "FeeDocket$State" (176 : Nat) "FeeDocket$Holidays" "count" "I" "FeeDocket"), (Jvm.Cond.methodLinkNest "FeeDocket$State" (42 : Nat) ({ cls := "FeeDocket$Fees", name := "<init>", desc := "()V" } : Jvm.MethodName) "FeeDocket"), (Jvm.Cond.fieldLinkNest "FeeDocket" (134 : Nat) "FeeDocket$Fees" "base" "I" "FeeDocket"), (Jvm.Cond.fieldLinkNest "FeeDocket$State" (179 : Nat) "FeeDocket$Fees" "base" "I" "FeeDocket"), (Jvm.Cond.fieldLinkNest "FeeDocket$State" (182 : Nat) "FeeDocket$Fees" "step" "I" "FeeDocket"), (Jvm.Cond.fieldLinkNest "FeeDocket$State" (185 : Nat) "FeeDocket$Fees" "percent" "I" "FeeDocket"), (Jvm.Cond.fieldLinkNest "FeeDocket$State" (145 : Nat) "FeeDocket$Fees" "petition" "I" "FeeDocket"), (Jvm.Cond.methodLinkNest "FeeDocket$State" (47 : Nat) ({ cls := "FeeDocket$Right", name := "<init>", desc := "()V" } : Jvm.MethodName) "FeeDocket"), (Jvm.Cond.fieldLinkNest "FeeDocket$State" (158 : Nat) "FeeDocket$Right" "filed" "I" "FeeDocket"), (Jvm.Cond.fieldLinkNest "FeeDocket$State" (95 : Nat) "FeeDocket$Right" "lastDay" "I" "FeeDocket"), (Jvm.Cond.fieldLinkNest "FeeDocket$State" (116 : Nat) "FeeDocket$Right" "small" "Z" "FeeDocket"), (Jvm.Cond.fieldLinkNest "FeeDocket$State" (155 : Nat) "FeeDocket$Right" "feesPaid" "I" "FeeDocket"), (Jvm.Cond.fieldLinkNest "FeeDocket$State" (169 : Nat) "FeeDocket$Right" "sumPaid" "I" "FeeDocket"), (Jvm.Cond.fieldLinkNest "FeeDocket$State" (160 : Nat) "FeeDocket$Right" "gaps" "I" "FeeDocket"), (Jvm.Cond.fieldLinkNest "FeeDocket" (85 : Nat) "FeeDocket$State" "today" "I" "FeeDocket"), (Jvm.Cond.fieldLinkNest "FeeDocket" (65 : Nat) "FeeDocket$State" "rightCount" "I" "FeeDocket"), (Jvm.Cond.fieldLinkNest "FeeDocket" (201 : Nat) "FeeDocket$State" "rights" "[LFeeDocket$Right;" "FeeDocket"), (Jvm.Cond.fieldLinkNest "FeeDocket" (56 : Nat) "FeeDocket$State" "holidays" "LFeeDocket$Holidays;" "FeeDocket"), (Jvm.Cond.fieldLinkNest "FeeDocket" (130 : Nat) "FeeDocket$State" "fees" "LFeeDocket$Fees;" "FeeDocket"), (Jvm.Cond.methodLinkNest "FeeDocket" (26 : Nat) ({ cls := "FeeDocket$Text", name := "<init>", desc := "()V" } : Jvm.MethodName) "FeeDocket"), (Jvm.Cond.fieldLinkNest "FeeDocket" (178 : Nat) "FeeDocket$Text" "length" "I" "FeeDocket"), (Jvm.Cond.fieldLinkNest "FeeDocket$State" (62 : Nat) "FeeDocket$Text" "rightCount" "I" "FeeDocket"), (Jvm.Cond.fieldLinkNest "FeeDocket$State" (65 : Nat) "FeeDocket$Text" "filed" "[I" "FeeDocket"), (Jvm.Cond.fieldLinkNest "FeeDocket$State" (69 : Nat) "FeeDocket$Text" "small" "[Z" "FeeDocket"), (Jvm.Cond.castable "java/lang/IllegalArgumentException" "java/lang/IllegalArgumentException"), (Jvm.Cond.declares ({ cls := "java/lang/RuntimeException", name := "<init>", desc := "()V" } : Jvm.MethodName)), (Jvm.Cond.declares ({ cls := "java/lang/RuntimeException", name := "<init>", desc := "(Ljava/lang/String;)V" } : Jvm.MethodName)), (Jvm.Cond.declares ({ cls := "java/lang/Exception", name := "<init>", desc := "()V" } : Jvm.MethodName)), (Jvm.Cond.declares ({ cls := "java/lang/Exception", name := "<init>", desc := "(Ljava/lang/String;)V" } : Jvm.MethodName)), (Jvm.Cond.declares ({ cls := "java/lang/Throwable", name := "<init>", desc := "()V" } : Jvm.MethodName)), (Jvm.Cond.declares ({ cls := "java/lang/Throwable", name := "<init>", desc := "(Ljava/lang/String;)V" } : Jvm.MethodName)), (Jvm.Cond.castable "java/lang/IllegalStateException" "java/lang/IllegalStateException"), (Jvm.Cond.castable "java/lang/IndexOutOfBoundsException" "java/lang/IndexOutOfBoundsException")]
theorem nw_all_ok : nw_all.all nw_ok = true := rfl
theorem nw_all_in : ∀ w ∈ nw_all, w ∈ tables_1 := by decide +kernel
theorem nw_warm {w : Cond} (hw : nw_ok w = true) {s U : State} (hW : s.WarmedH U.vm) (h : va_Nw w s) : va_Nw w U := by
  cases w <;> first | exact va_Nw.warmF hW h | exact va_Nw.warmM hW h | exact va_Nw.warmD hW h | exact va_Nw.warmC hW h | (simp [nw_ok] at hw)
theorem nw_use {w : Cond} (hw : nw_ok w = true) {A : Array Value} {U : State} (h : va_Nw w U) : w.before A U = true := va_Nw.use (by cases w <;> first | rfl | (simp [nw_ok] at hw)) h
def nc_all : List (String × String) := [("java/lang/IllegalStateException", "java/lang/IllegalArgumentException"), ("java/lang/IllegalArgumentException", "java/lang/IndexOutOfBoundsException"), ("java/lang/IllegalStateException", "java/lang/IndexOutOfBoundsException")]
theorem nc_moved {C T : String} {u U : State} (hvm : u.vm.Alike U.vm) (h : va_Nc C T u) : va_Nc C T U := by
  obtain ⟨c, t, h1, h2, h3⟩ := h
  exact ⟨c, t, by rw [hvm.findClass]; exact h1, by rw [hvm.findClass]; exact h2, by rw [hvm.assignable]; exact h3⟩
def wB (D : va_G) (cy : Nat → ClassId) (z : Nat) (U : State) (H : Heap) : Prop :=
  va_K D vwCl (tysL cy) U ∧ vx_Zq Bundle.tN "UNASSIGNED_STACK" Bundle.steD (fun q => z ≤ q) U H ∧ vx_Zq Bundle.tN "SUPPRESSED_SENTINEL" Bundle.listD (fun q => z ≤ q) U H ∧ (∀ w ∈ nw_all, va_Nw w U) ∧ va_AO RX3 U ∧ va_AO RX4 U ∧ (∀ q ∈ nc_all, va_Nc q.1 q.2 U) ∧
  (∃ sa, vk_R RX6 213 "an argument is out of range" sa U) ∧ (∃ sa, vk_R RX6 220 "the docket does not allow this call now" sa U) ∧ ∃ sa, vk_R RX6 225 "there is no such right" sa U
theorem wB.moved {D : va_G} {cy : Nat → ClassId} {z : Nat} {s U : State} {H0 H : Heap} (h : wB D cy z s H0) (hW : s.WarmedH U.vm) (hq : ∀ a : Nat, a < H0.size → ¬ z ≤ a → H[a]? = H0[a]?) : wB D cy z U H := by
  obtain ⟨h1, h2, h3, h4, h5, h6, h7, ⟨sa, h8⟩, ⟨sb, h9⟩, sc, h10⟩ := h
  exact ⟨va_K.moved hW.alike h1, vx_Zq.moved hW.alike (h2.kept hq), vx_Zq.moved hW.alike (h3.kept hq), fun w hw => nw_warm (List.all_eq_true.mp nw_all_ok w hw) hW (h4 w hw), va_AO.moved hW.alike h5, va_AO.moved hW.alike h6, fun q hq => nc_moved hW.alike (h7 q hq), ⟨sa, vk_R.warm hW h8⟩, ⟨sb, vk_R.warm hW h9⟩, sc, vk_R.warm hW h10⟩
theorem wB.same {D : va_G} {cy : Nat → ClassId} {z : Nat} {s U : State} {H : Heap} (h : wB D cy z s H) (hv : s.vm = U.vm) : wB D cy z U H := h.moved (by rw [← hv]; exact State.WarmedH.refl s) (fun _ _ _ => rfl)
def wW (D : va_G) (z : Nat) (M : Mm) (H : Heap) : Prop := va_P D vwCl (wl z M) H ∧ z + M.1 ≤ H.size
/-- a method's start: the arguments, the world -/
def pc_ (D : va_G) (cy : Nat → ClassId) (z : Nat) (x : Bool) (M : Mm) (av : List Value) : Array Value → State → Prop := va_Pc av (fun U => wW D z M U.heap ∧ (x = true → U.heap.size = z + M.1) ∧ wB D cy z U U.heap)
/-- its end: the answer and the memory then are as K says -/
def qc_ (D : va_G) (z : Nat) (K : Option Value → Mm → Prop) : Array Value → State → Outcome → State → Prop := fun _ st oc t => (∃ (r : Option Value) (M' : Mm), oc = .returned r ∧ K r M' ∧ wW D z M' t.heap) ∧ va_F (fun q => z ≤ q) st t
/-- where it throws: the class is as KX says, the memory as it was -/
def xc_ (D : va_G) (z : Nat) (M : Mm) (KX : String → Prop) : String → State → State → Prop := vx_X (S := Unit) (fun _ => True) (fun E _ t => KX E ∧ wW D z M t.heap) (fun q => z ≤ q)
abbrev MT (l : Launch) (D : va_G) (cy : Nat → ClassId) (z : Nat) (x : Bool) (y : MethodName) (ws : List Cond) (fr lo mc ms : Nat) (M : Mm) (av : List Value) (K : Option Value → Mm → Prop) : Prop :=
  Met l y ws { frames := fr, cells := mc, slots := ms, locals := lo } (pc_ D cy z x M av) (qc_ D z K) mc ms (fun q => z ≤ q)
abbrev MX (l : Launch) (D : va_G) (cy : Nat → ClassId) (z : Nat) (x : Bool) (y : MethodName) (ws : List Cond) (fr lo mc ms : Nat) (M : Mm) (av : List Value) (K : Option Value → Mm → Prop) (KX : String → Prop) : Prop :=
  vx_Met l y ws { frames := fr, cells := mc, slots := ms, locals := lo } (pc_ D cy z x M av) (qc_ D z K) (xc_ D z M KX) mc ms (fun q => z ≤ q)
abbrev wsy (y : MethodName) (cc : ByteArray) (nL : Nat) (ret : Option FieldType) : List Cond := .code y cc nL ret :: lw_all
def Cx (p : Program) (l : Launch) (s : State) (m : MethodId) (args : Array Value) (meth : Method) (c : Code) (D : va_G) (cy : Nat → ClassId) (z nL : Nat) (cc : ByteArray) (own : String) : Prop :=
  p.tables.exec = Jvm.exec ∧ c.code = cc ∧ c.maxLocals = nL ∧ s.vm.findClass own = some m.cls ∧ (∀ w ∈ lw_all, w.before args s = true) ∧ wB D cy z s s.heap ∧ meth.locks = false ∧ z ≤ s.heap.size
def V (p : Program) (l : Launch) (e : Env) (R : Room) (s : State) (m : MethodId) (args : Array Value) (below : List Frame) (meth : Method) (c : Code) (D : va_G) (z nL : Nat) (Q : State → Prop) (cells slots : Nat) (M : Mm) (pc : Nat) (lv : List (Nat × Value)) (st : List Value) : Prop :=
  ∀ (H : Heap) (locs : List Loc) (ls : Array Slot), lv_has ls nL lv → wW D z M H → va_S (fun q => z ≤ q) s.heap H locs → W p l e R s m args below meth c H locs cells slots Q (F0 m pc ls st)
/-- a value put on what rests of the stack -/
def pushr (r : Option Value) (st : List Value) : List Value := match r with
  | none => st
  | some v => v :: st
theorem pushr_eq (r : Option Value) (st : List Value) : r.toList ++ st = pushr r st := by cases r <;> rfl
def ups (i : Nat) (v : Value) (lv : List (Nat × Value)) : List (Nat × Value) := (i, v) :: lv.filter (fun q => !(q.1 == i) && !(q.1 + 1 == i && q.2.category == 2))
def ups2 (i : Nat) (v : Value) (lv : List (Nat × Value)) : List (Nat × Value) := (i, v) :: lv.filter (fun q => !(q.1 == i) && (!(q.1 == i + 1) && !(q.1 + 1 == i && q.2.category == 2)))
section VROWS
variable {p : Program} {l : Launch} {e : Env} {R : Room} {s : State} {m : MethodId} {args : Array Value} {below : List Frame} {meth : Method} {c : Code} {D : va_G} {cy : Nat → ClassId} {z nL : Nat} {cc : ByteArray} {own : String} {Q : State → Prop} {cells slots : Nat} {M : Mm} {pc : Nat} {lv : List (Nat × Value)} {st : List Value}
theorem V_lv (lv' : List (Nat × Value)) (h : ∀ q ∈ lv', lv.lookup q.1 = some q.2) (k : V p l e R s m args below meth c D z nL Q cells slots M pc lv' st) : V p l e R s m args below meth c D z nL Q cells slots M pc lv st :=
  fun H locs ls hl => k H locs ls ⟨hl.1, hl.2.1, fun q hq => hl.2.2 q (lk_mem (h q hq))⟩
theorem V_eq {lv' : List (Nat × Value)} {st' : List Value} {M' : Mm} (h1 : lv = lv') (h2 : st = st') (h3 : M = M') (k : V p l e R s m args below meth c D z nL Q cells slots M' pc lv' st') : V p l e R s m args below meth c D z nL Q cells slots M pc lv st := by
  subst h1; subst h2; subst h3; exact k
theorem V_widen {k n : Nat} (h1 : cells ≤ k) (h2 : slots ≤ n) (kk : V p l e R s m args below meth c D z nL Q k n M pc lv st) : V p l e R s m args below meth c D z nL Q cells slots M pc lv st :=
  fun H locs ls hl hw hS => W.widen h1 h2 (kk H locs ls hl hw hS)
theorem V_iconst (C : Cx p l s m args meth c D cy z nL cc own) {n : Int} (hd : decode cc pc = .ok (.iconst n, 1)) (k : V p l e R s m args below meth c D z nL Q cells slots M (pc + 1) lv (iv n :: st)) : V p l e R s m args below meth c D z nL Q cells slots M pc lv st :=
  fun H locs ls hl hw hS => lv_iconst C.1 C.2.1 hd rfl (k H locs ls hl hw hS)
theorem V_bipush (C : Cx p l s m args meth c D cy z nL cc own) {n : Int} (hd : decode cc pc = .ok (.bipush n, 2)) (hn : (Int8.ofInt n).toInt32 = Int32.ofInt n) (k : V p l e R s m args below meth c D z nL Q cells slots M (pc + 2) lv (iv n :: st)) : V p l e R s m args below meth c D z nL Q cells slots M pc lv st :=
  fun H locs ls hl hw hS => lv_bipush C.1 C.2.1 hd hn (k H locs ls hl hw hS)
theorem V_sipush (C : Cx p l s m args meth c D cy z nL cc own) {n : Int} (hd : decode cc pc = .ok (.sipush n, 3)) (hn : (Int16.ofInt n).toInt32 = Int32.ofInt n) (k : V p l e R s m args below meth c D z nL Q cells slots M (pc + 3) lv (iv n :: st)) : V p l e R s m args below meth c D z nL Q cells slots M pc lv st :=
  fun H locs ls hl hw hS => lv_sipush C.1 C.2.1 hd hn (k H locs ls hl hw hS)
theorem V_iload_n (C : Cx p l s m args meth c D cy z nL cc own) {j : Fin 4} {a : Int} (hd : decode cc pc = .ok (.iload_n j, 1)) (h : lv.lookup (j : Nat) = some (iv a)) (k : V p l e R s m args below meth c D z nL Q cells slots M (pc + 1) lv (iv a :: st)) : V p l e R s m args below meth c D z nL Q cells slots M pc lv st :=
  fun H locs ls hl hw hS => lv_iload_n C.1 C.2.1 hd rfl (lk_at hl h) (k H locs ls hl hw hS)
theorem V_iload (C : Cx p l s m args meth c D cy z nL cc own) {i : Nat} {a : Int} (hd : decode cc pc = .ok (.iload i, 2)) (h : lv.lookup i = some (iv a)) (k : V p l e R s m args below meth c D z nL Q cells slots M (pc + 2) lv (iv a :: st)) : V p l e R s m args below meth c D z nL Q cells slots M pc lv st :=
  fun H locs ls hl hw hS => lv_iload C.1 C.2.1 hd (lk_at hl h) (k H locs ls hl hw hS)
theorem V_aload_n (C : Cx p l s m args meth c D cy z nL cc own) {j : Fin 4} {a : Nat} (hd : decode cc pc = .ok (.aload_n j, 1)) (h : lv.lookup (j : Nat) = some (.ref a)) (k : V p l e R s m args below meth c D z nL Q cells slots M (pc + 1) lv (.ref a :: st)) : V p l e R s m args below meth c D z nL Q cells slots M pc lv st :=
  fun H locs ls hl hw hS => lv_aload_n C.1 C.2.1 hd rfl (lk_at hl h) (k H locs ls hl hw hS)
theorem V_aload (C : Cx p l s m args meth c D cy z nL cc own) {i a : Nat} (hd : decode cc pc = .ok (.aload i, 2)) (h : lv.lookup i = some (.ref a)) (k : V p l e R s m args below meth c D z nL Q cells slots M (pc + 2) lv (.ref a :: st)) : V p l e R s m args below meth c D z nL Q cells slots M pc lv st :=
  fun H locs ls hl hw hS => lv_aload C.1 C.2.1 hd (lk_at hl h) (k H locs ls hl hw hS)
theorem V_lload_n (C : Cx p l s m args meth c D cy z nL cc own) {j : Fin 4} {a : Int} (hd : decode cc pc = .ok (.lload_n j, 1)) (h : lv.lookup (j : Nat) = some (lgv a)) (k : V p l e R s m args below meth c D z nL Q cells slots M (pc + 1) lv (lgv a :: st)) : V p l e R s m args below meth c D z nL Q cells slots M pc lv st :=
  fun H locs ls hl hw hS => lv_lload_n C.1 C.2.1 hd rfl (lk_at hl h) (k H locs ls hl hw hS)
theorem V_lload (C : Cx p l s m args meth c D cy z nL cc own) {i : Nat} {a : Int} (hd : decode cc pc = .ok (.lload i, 2)) (h : lv.lookup i = some (lgv a)) (k : V p l e R s m args below meth c D z nL Q cells slots M (pc + 2) lv (lgv a :: st)) : V p l e R s m args below meth c D z nL Q cells slots M pc lv st :=
  fun H locs ls hl hw hS => lv_lload C.1 C.2.1 hd (lk_at hl h) (k H locs ls hl hw hS)
theorem V_istore_n (C : Cx p l s m args meth c D cy z nL cc own) {j : Fin 4} {a : Int} (hd : decode cc pc = .ok (.istore_n j, 1)) (hn : (j : Nat) < nL) (k : V p l e R s m args below meth c D z nL Q cells slots M (pc + 1) (ups (j : Nat) (iv a) lv) st) : V p l e R s m args below meth c D z nL Q cells slots M pc lv (iv a :: st) :=
  fun H locs ls hl hw hS => lv_istore_n C.1 C.2.1 hd rfl hl hn rfl (fun ls' hl' => k H locs ls' hl' hw hS)
theorem V_istore (C : Cx p l s m args meth c D cy z nL cc own) {i : Nat} {a : Int} (hd : decode cc pc = .ok (.istore i, 2)) (hn : i < nL) (k : V p l e R s m args below meth c D z nL Q cells slots M (pc + 2) (ups i (iv a) lv) st) : V p l e R s m args below meth c D z nL Q cells slots M pc lv (iv a :: st) :=
  fun H locs ls hl hw hS => lv_istore C.1 C.2.1 hd hl hn rfl (fun ls' hl' => k H locs ls' hl' hw hS)
theorem V_astore_n (C : Cx p l s m args meth c D cy z nL cc own) {j : Fin 4} {a : Nat} (hd : decode cc pc = .ok (.astore_n j, 1)) (hn : (j : Nat) < nL) (k : V p l e R s m args below meth c D z nL Q cells slots M (pc + 1) (ups (j : Nat) (.ref a) lv) st) : V p l e R s m args below meth c D z nL Q cells slots M pc lv (.ref a :: st) :=
  fun H locs ls hl hw hS => lv_astore_n C.1 C.2.1 hd rfl hl hn rfl (fun ls' hl' => k H locs ls' hl' hw hS)
theorem V_astore (C : Cx p l s m args meth c D cy z nL cc own) {i a : Nat} (hd : decode cc pc = .ok (.astore i, 2)) (hn : i < nL) (k : V p l e R s m args below meth c D z nL Q cells slots M (pc + 2) (ups i (.ref a) lv) st) : V p l e R s m args below meth c D z nL Q cells slots M pc lv (.ref a :: st) :=
  fun H locs ls hl hw hS => lv_astore C.1 C.2.1 hd hl hn rfl (fun ls' hl' => k H locs ls' hl' hw hS)
theorem V_lstore_n (C : Cx p l s m args meth c D cy z nL cc own) {j : Fin 4} {a : Int} (hd : decode cc pc = .ok (.lstore_n j, 1)) (hn : (j : Nat) + 1 < nL) (k : V p l e R s m args below meth c D z nL Q cells slots M (pc + 1) (ups2 (j : Nat) (lgv a) lv) st) : V p l e R s m args below meth c D z nL Q cells slots M pc lv (lgv a :: st) :=
  fun H locs ls hl hw hS => lv_lstore_n C.1 C.2.1 hd rfl hl hn rfl (fun ls' hl' => k H locs ls' hl' hw hS)
theorem V_lstore (C : Cx p l s m args meth c D cy z nL cc own) {i : Nat} {a : Int} (hd : decode cc pc = .ok (.lstore i, 2)) (hn : i + 1 < nL) (k : V p l e R s m args below meth c D z nL Q cells slots M (pc + 2) (ups2 i (lgv a) lv) st) : V p l e R s m args below meth c D z nL Q cells slots M pc lv (lgv a :: st) :=
  fun H locs ls hl hw hS => lv_lstore C.1 C.2.1 hd hl hn rfl (fun ls' hl' => k H locs ls' hl' hw hS)
theorem V_iinc (C : Cx p l s m args meth c D cy z nL cc own) {i : Nat} {n a : Int} (hd : decode cc pc = .ok (.iinc i n, 3)) (h : lv.lookup i = some (iv a)) (hn : i < nL) (k : V p l e R s m args below meth c D z nL Q cells slots M (pc + 3) (ups i (iv (a + n)) lv) st) : V p l e R s m args below meth c D z nL Q cells slots M pc lv st := by
  intro H locs ls hl hw hS
  obtain ⟨j, hj⟩ := List.getElem?_of_mem (lk_mem h)
  exact lv_iinc C.1 C.2.1 hd hl hj (oi_add a n) hn rfl (fun ls' hl' => k H locs ls' hl' hw hS)
theorem V_iadd (C : Cx p l s m args meth c D cy z nL cc own) {a b : Int} (hd : decode cc pc = .ok (.iadd, 1)) (k : V p l e R s m args below meth c D z nL Q cells slots M (pc + 1) lv (iv (a + b) :: st)) : V p l e R s m args below meth c D z nL Q cells slots M pc lv (iv b :: iv a :: st) :=
  fun H locs ls hl hw hS => lv_iadd C.1 C.2.1 hd (by rw [oi_add]; exact k H locs ls hl hw hS)
theorem V_isub (C : Cx p l s m args meth c D cy z nL cc own) {a b : Int} (hd : decode cc pc = .ok (.isub, 1)) (k : V p l e R s m args below meth c D z nL Q cells slots M (pc + 1) lv (iv (a - b) :: st)) : V p l e R s m args below meth c D z nL Q cells slots M pc lv (iv b :: iv a :: st) :=
  fun H locs ls hl hw hS => lv_isub C.1 C.2.1 hd (by rw [oi_sub]; exact k H locs ls hl hw hS)
theorem V_imul (C : Cx p l s m args meth c D cy z nL cc own) {a b : Int} (hd : decode cc pc = .ok (.imul, 1)) (k : V p l e R s m args below meth c D z nL Q cells slots M (pc + 1) lv (iv (a * b) :: st)) : V p l e R s m args below meth c D z nL Q cells slots M pc lv (iv b :: iv a :: st) :=
  fun H locs ls hl hw hS => lv_imul C.1 C.2.1 hd (by rw [oi_mul]; exact k H locs ls hl hw hS)
theorem V_idiv (C : Cx p l s m args meth c D cy z nL cc own) {a b : Int} (hd : decode cc pc = .ok (.idiv, 1)) (ha : 0 ≤ a ∧ a < 2147483648) (hb : 0 < b ∧ b < 2147483648) (k : V p l e R s m args below meth c D z nL Q cells slots M (pc + 1) lv (iv (a / b) :: st)) : V p l e R s m args below meth c D z nL Q cells slots M pc lv (iv b :: iv a :: st) :=
  fun H locs ls hl hw hS => lv_idiv C.1 C.2.1 hd (fun h => by rw [oi_0, oi_eq (by omega) (by omega)] at h; omega) (by rw [oi_div ha hb]; exact k H locs ls hl hw hS)
theorem V_irem (C : Cx p l s m args meth c D cy z nL cc own) {a b : Int} (hd : decode cc pc = .ok (.irem, 1)) (ha : 0 ≤ a ∧ a < 2147483648) (hb : 0 < b ∧ b < 2147483648) (k : V p l e R s m args below meth c D z nL Q cells slots M (pc + 1) lv (iv (a % b) :: st)) : V p l e R s m args below meth c D z nL Q cells slots M pc lv (iv b :: iv a :: st) :=
  fun H locs ls hl hw hS => lv_irem C.1 C.2.1 hd (fun h => by rw [oi_0, oi_eq (by omega) (by omega)] at h; omega) (by rw [oi_rem ha hb]; exact k H locs ls hl hw hS)
theorem V_ladd (C : Cx p l s m args meth c D cy z nL cc own) {a b : Int} (hd : decode cc pc = .ok (.ladd, 1)) (k : V p l e R s m args below meth c D z nL Q cells slots M (pc + 1) lv (lgv (a + b) :: st)) : V p l e R s m args below meth c D z nL Q cells slots M pc lv (lgv b :: lgv a :: st) :=
  fun H locs ls hl hw hS => lv_ladd C.1 C.2.1 hd (by rw [ol_add]; exact k H locs ls hl hw hS)
theorem V_lmul (C : Cx p l s m args meth c D cy z nL cc own) {a b : Int} (hd : decode cc pc = .ok (.lmul, 1)) (k : V p l e R s m args below meth c D z nL Q cells slots M (pc + 1) lv (lgv (a * b) :: st)) : V p l e R s m args below meth c D z nL Q cells slots M pc lv (lgv b :: lgv a :: st) :=
  fun H locs ls hl hw hS => lv_lmul C.1 C.2.1 hd (by rw [ol_mul]; exact k H locs ls hl hw hS)
theorem V_i2l (C : Cx p l s m args meth c D cy z nL cc own) {a : Int} (hd : decode cc pc = .ok (.i2l, 1)) (ha : -2147483648 ≤ a ∧ a < 2147483648) (k : V p l e R s m args below meth c D z nL Q cells slots M (pc + 1) lv (lgv a :: st)) : V p l e R s m args below meth c D z nL Q cells slots M pc lv (iv a :: st) :=
  fun H locs ls hl hw hS => lv_i2l C.1 C.2.1 hd (by apply Int64.toInt_inj.mp; rw [Int32.toInt_toInt64, oi_toInt ha, Int64.toInt_ofInt_of_le (by omega) (by omega)]) (k H locs ls hl hw hS)
theorem V_dup (C : Cx p l s m args meth c D cy z nL cc own) {v : Value} (hd : decode cc pc = .ok (.dup, 1)) (hv : v.category = 1) (k : V p l e R s m args below meth c D z nL Q cells slots M (pc + 1) lv (v :: v :: st)) : V p l e R s m args below meth c D z nL Q cells slots M pc lv (v :: st) :=
  fun H locs ls hl hw hS => lv_dup C.1 C.2.1 hd hv (k H locs ls hl hw hS)
theorem V_dup2 (C : Cx p l s m args meth c D cy z nL cc own) {v w : Value} (hd : decode cc pc = .ok (.dup2, 1)) (hv : v.category = 1) (hw' : w.category = 1) (k : V p l e R s m args below meth c D z nL Q cells slots M (pc + 1) lv (v :: w :: v :: w :: st)) : V p l e R s m args below meth c D z nL Q cells slots M pc lv (v :: w :: st) :=
  fun H locs ls hl hw hS => lv_dup2_11 C.1 C.2.1 hd hv hw' (k H locs ls hl hw hS)
theorem V_goto (C : Cx p l s m args meth c D cy z nL cc own) {off : Int} {tgt : Nat} (hd : decode cc pc = .ok (.goto off, 3)) (ht : (pc : Int) + off = (tgt : Int)) (k : V p l e R s m args below meth c D z nL Q cells slots M tgt lv st) : V p l e R s m args below meth c D z nL Q cells slots M pc lv st :=
  fun H locs ls hl hw hS => lv_goto C.1 C.2.1 hd ht (k H locs ls hl hw hS)
theorem V_if_eq (C : Cx p l s m args meth c D cy z nL cc own) {a off : Int} {tgt : Nat} (hd : decode cc pc = .ok (.ifCond .eq off, 3)) (ht : (pc : Int) + off = (tgt : Int)) (ha : -2147483648 ≤ a ∧ a < 2147483648) (f : a = 0 → V p l e R s m args below meth c D z nL Q cells slots M tgt lv st) (g : ¬ a = 0 → V p l e R s m args below meth c D z nL Q cells slots M (pc + 3) lv st) : V p l e R s m args below meth c D z nL Q cells slots M pc lv (iv a :: st) :=
  fun H locs ls hl hw hS => lv_if_eq C.1 C.2.1 hd ht (fun h => f ((oi_eq ha (by omega)).mp h) H locs ls hl hw hS) (fun h => g (fun h2 => h ((oi_eq ha (by omega)).mpr h2)) H locs ls hl hw hS)
theorem V_icmp_eq (C : Cx p l s m args meth c D cy z nL cc own) {a b off : Int} {tgt : Nat} (hd : decode cc pc = .ok (.if_icmp .eq off, 3)) (ht : (pc : Int) + off = (tgt : Int)) (ha : -2147483648 ≤ a ∧ a < 2147483648) (hb : -2147483648 ≤ b ∧ b < 2147483648) (f : a = b → V p l e R s m args below meth c D z nL Q cells slots M tgt lv st) (g : ¬ a = b → V p l e R s m args below meth c D z nL Q cells slots M (pc + 3) lv st) : V p l e R s m args below meth c D z nL Q cells slots M pc lv (iv b :: iv a :: st) :=
  fun H locs ls hl hw hS => lv_icmp_eq C.1 C.2.1 hd ht (fun h => f ((oi_eq ha hb).mp h) H locs ls hl hw hS) (fun h => g (fun h2 => h ((oi_eq ha hb).mpr h2)) H locs ls hl hw hS)
theorem V_if_ne (C : Cx p l s m args meth c D cy z nL cc own) {a off : Int} {tgt : Nat} (hd : decode cc pc = .ok (.ifCond .ne off, 3)) (ht : (pc : Int) + off = (tgt : Int)) (ha : -2147483648 ≤ a ∧ a < 2147483648) (f : ¬ a = 0 → V p l e R s m args below meth c D z nL Q cells slots M tgt lv st) (g : a = 0 → V p l e R s m args below meth c D z nL Q cells slots M (pc + 3) lv st) : V p l e R s m args below meth c D z nL Q cells slots M pc lv (iv a :: st) :=
  fun H locs ls hl hw hS => lv_if_ne C.1 C.2.1 hd ht (fun h => f (fun h2 => h ((oi_eq ha (by omega)).mpr h2)) H locs ls hl hw hS) (fun h => g ((oi_eq ha (by omega)).mp h) H locs ls hl hw hS)
theorem V_icmp_ne (C : Cx p l s m args meth c D cy z nL cc own) {a b off : Int} {tgt : Nat} (hd : decode cc pc = .ok (.if_icmp .ne off, 3)) (ht : (pc : Int) + off = (tgt : Int)) (ha : -2147483648 ≤ a ∧ a < 2147483648) (hb : -2147483648 ≤ b ∧ b < 2147483648) (f : ¬ a = b → V p l e R s m args below meth c D z nL Q cells slots M tgt lv st) (g : a = b → V p l e R s m args below meth c D z nL Q cells slots M (pc + 3) lv st) : V p l e R s m args below meth c D z nL Q cells slots M pc lv (iv b :: iv a :: st) :=
  fun H locs ls hl hw hS => lv_icmp_ne C.1 C.2.1 hd ht (fun h => f (fun h2 => h ((oi_eq ha hb).mpr h2)) H locs ls hl hw hS) (fun h => g ((oi_eq ha hb).mp h) H locs ls hl hw hS)
theorem V_if_lt (C : Cx p l s m args meth c D cy z nL cc own) {a off : Int} {tgt : Nat} (hd : decode cc pc = .ok (.ifCond .lt off, 3)) (ht : (pc : Int) + off = (tgt : Int)) (ha : -2147483648 ≤ a ∧ a < 2147483648) (f : a < 0 → V p l e R s m args below meth c D z nL Q cells slots M tgt lv st) (g : 0 ≤ a → V p l e R s m args below meth c D z nL Q cells slots M (pc + 3) lv st) : V p l e R s m args below meth c D z nL Q cells slots M pc lv (iv a :: st) :=
  fun H locs ls hl hw hS => lv_if_lt C.1 C.2.1 hd ht (fun h => f ((oi_lt ha (by omega)).mp h) H locs ls hl hw hS) (fun h => g (by have h2 : ¬ (a < 0) := fun h3 => h ((oi_lt ha (by omega)).mpr h3); omega) H locs ls hl hw hS)
theorem V_icmp_lt (C : Cx p l s m args meth c D cy z nL cc own) {a b off : Int} {tgt : Nat} (hd : decode cc pc = .ok (.if_icmp .lt off, 3)) (ht : (pc : Int) + off = (tgt : Int)) (ha : -2147483648 ≤ a ∧ a < 2147483648) (hb : -2147483648 ≤ b ∧ b < 2147483648) (f : a < b → V p l e R s m args below meth c D z nL Q cells slots M tgt lv st) (g : b ≤ a → V p l e R s m args below meth c D z nL Q cells slots M (pc + 3) lv st) : V p l e R s m args below meth c D z nL Q cells slots M pc lv (iv b :: iv a :: st) :=
  fun H locs ls hl hw hS => lv_icmp_lt C.1 C.2.1 hd ht (fun h => f ((oi_lt ha hb).mp h) H locs ls hl hw hS) (fun h => g (by have h2 := (not_congr (oi_lt ha hb)).mp h; omega) H locs ls hl hw hS)
theorem V_if_ge (C : Cx p l s m args meth c D cy z nL cc own) {a off : Int} {tgt : Nat} (hd : decode cc pc = .ok (.ifCond .ge off, 3)) (ht : (pc : Int) + off = (tgt : Int)) (ha : -2147483648 ≤ a ∧ a < 2147483648) (f : 0 ≤ a → V p l e R s m args below meth c D z nL Q cells slots M tgt lv st) (g : a < 0 → V p l e R s m args below meth c D z nL Q cells slots M (pc + 3) lv st) : V p l e R s m args below meth c D z nL Q cells slots M pc lv (iv a :: st) :=
  fun H locs ls hl hw hS => lv_if_ge C.1 C.2.1 hd ht (fun h => f ((oi_le (by omega) ha).mp h) H locs ls hl hw hS) (fun h => g (by have h2 : ¬ (0 ≤ a) := fun h3 => h ((oi_le (by omega) ha).mpr h3); omega) H locs ls hl hw hS)
theorem V_icmp_ge (C : Cx p l s m args meth c D cy z nL cc own) {a b off : Int} {tgt : Nat} (hd : decode cc pc = .ok (.if_icmp .ge off, 3)) (ht : (pc : Int) + off = (tgt : Int)) (ha : -2147483648 ≤ a ∧ a < 2147483648) (hb : -2147483648 ≤ b ∧ b < 2147483648) (f : b ≤ a → V p l e R s m args below meth c D z nL Q cells slots M tgt lv st) (g : a < b → V p l e R s m args below meth c D z nL Q cells slots M (pc + 3) lv st) : V p l e R s m args below meth c D z nL Q cells slots M pc lv (iv b :: iv a :: st) :=
  fun H locs ls hl hw hS => lv_icmp_ge C.1 C.2.1 hd ht (fun h => f ((oi_le hb ha).mp h) H locs ls hl hw hS) (fun h => g (by have h2 := (not_congr (oi_le hb ha)).mp h; omega) H locs ls hl hw hS)
theorem V_if_gt (C : Cx p l s m args meth c D cy z nL cc own) {a off : Int} {tgt : Nat} (hd : decode cc pc = .ok (.ifCond .gt off, 3)) (ht : (pc : Int) + off = (tgt : Int)) (ha : -2147483648 ≤ a ∧ a < 2147483648) (f : 0 < a → V p l e R s m args below meth c D z nL Q cells slots M tgt lv st) (g : a ≤ 0 → V p l e R s m args below meth c D z nL Q cells slots M (pc + 3) lv st) : V p l e R s m args below meth c D z nL Q cells slots M pc lv (iv a :: st) :=
  fun H locs ls hl hw hS => lv_if_gt C.1 C.2.1 hd ht (fun h => f ((oi_lt (by omega) ha).mp h) H locs ls hl hw hS) (fun h => g (by have h2 : ¬ (0 < a) := fun h3 => h ((oi_lt (by omega) ha).mpr h3); omega) H locs ls hl hw hS)
theorem V_icmp_gt (C : Cx p l s m args meth c D cy z nL cc own) {a b off : Int} {tgt : Nat} (hd : decode cc pc = .ok (.if_icmp .gt off, 3)) (ht : (pc : Int) + off = (tgt : Int)) (ha : -2147483648 ≤ a ∧ a < 2147483648) (hb : -2147483648 ≤ b ∧ b < 2147483648) (f : b < a → V p l e R s m args below meth c D z nL Q cells slots M tgt lv st) (g : a ≤ b → V p l e R s m args below meth c D z nL Q cells slots M (pc + 3) lv st) : V p l e R s m args below meth c D z nL Q cells slots M pc lv (iv b :: iv a :: st) :=
  fun H locs ls hl hw hS => lv_icmp_gt C.1 C.2.1 hd ht (fun h => f ((oi_lt hb ha).mp h) H locs ls hl hw hS) (fun h => g (by have h2 := (not_congr (oi_lt hb ha)).mp h; omega) H locs ls hl hw hS)
theorem V_if_le (C : Cx p l s m args meth c D cy z nL cc own) {a off : Int} {tgt : Nat} (hd : decode cc pc = .ok (.ifCond .le off, 3)) (ht : (pc : Int) + off = (tgt : Int)) (ha : -2147483648 ≤ a ∧ a < 2147483648) (f : a ≤ 0 → V p l e R s m args below meth c D z nL Q cells slots M tgt lv st) (g : 0 < a → V p l e R s m args below meth c D z nL Q cells slots M (pc + 3) lv st) : V p l e R s m args below meth c D z nL Q cells slots M pc lv (iv a :: st) :=
  fun H locs ls hl hw hS => lv_if_le C.1 C.2.1 hd ht (fun h => f ((oi_le ha (by omega)).mp h) H locs ls hl hw hS) (fun h => g (by have h2 : ¬ (a ≤ 0) := fun h3 => h ((oi_le ha (by omega)).mpr h3); omega) H locs ls hl hw hS)
theorem V_icmp_le (C : Cx p l s m args meth c D cy z nL cc own) {a b off : Int} {tgt : Nat} (hd : decode cc pc = .ok (.if_icmp .le off, 3)) (ht : (pc : Int) + off = (tgt : Int)) (ha : -2147483648 ≤ a ∧ a < 2147483648) (hb : -2147483648 ≤ b ∧ b < 2147483648) (f : a ≤ b → V p l e R s m args below meth c D z nL Q cells slots M tgt lv st) (g : b < a → V p l e R s m args below meth c D z nL Q cells slots M (pc + 3) lv st) : V p l e R s m args below meth c D z nL Q cells slots M pc lv (iv b :: iv a :: st) :=
  fun H locs ls hl hw hS => lv_icmp_le C.1 C.2.1 hd ht (fun h => f ((oi_le ha hb).mp h) H locs ls hl hw hS) (fun h => g (by have h2 := (not_congr (oi_le ha hb)).mp h; omega) H locs ls hl hw hS)
end VROWS
