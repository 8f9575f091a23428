/-! doubles, bits, comparisons of longs -/
theorem sh_nn {a b : Int32} (hb : b.toInt ≠ 0) : Jvm.FP.Core.val64 (FP.ddiv (FP.i2d a) (FP.i2d b)) ≠ .nan := by
  have ha := Jvm.FP.Core.i2d_int a
  have hb9 := Jvm.FP.Core.i2d_int b
  unfold Jvm.FP.Core.DInt at ha hb9
  show Jvm.FP.Core.val64 (Jvm.FP.Core.ddiv (Jvm.FP.Core.i2d a) (Jvm.FP.Core.i2d b)) ≠ .nan
  rw [Jvm.FP.Core.val64_ddiv]
  generalize Jvm.FP.Core.val64 (Jvm.FP.Core.i2d a) = x at ha ⊢
  generalize Jvm.FP.Core.val64 (Jvm.FP.Core.i2d b) = y at hb9 ⊢
  cases x with
  | nan => exact ha.elim
  | inf s => exact ha.elim
  | fin s c q =>
    cases y with
    | nan => exact hb9.elim
    | inf t => exact hb9.elim
    | fin t d r =>
      have hd : d ≠ 0 := fun o => hb ((Jvm.FP.Core.whole_zero hb9).mp o)
      show (if d = 0 then (if c = 0 then Jvm.FP.Core.Datum.nan else .inf (s != t)) else Jvm.FP.Core.roundRatio Jvm.FP.Core.b64 (s != t) c d (q - r)) ≠ .nan
      rw [if_neg hd]
      exact Jvm.FP.Core.roundRatio_ne_nan _ _ _ _ _
theorem nn_bits {r : UInt64} (h : Jvm.FP.Core.val64 r ≠ .nan) : vf_n64 r := by
  have h1 : ¬ Jvm.FP.Core.infBits Jvm.FP.Core.b64 < Jvm.FP.Core.mag Jvm.FP.Core.b64 r.toNat := fun o => h ((Jvm.FP.Core.decode_nan _).mpr o)
  unfold vf_n64
  rw [UInt64.le_iff_toNat_le, UInt64.toNat_and]
  have e1 : Jvm.FP.Core.infBits Jvm.FP.Core.b64 = 0x7ff0000000000000 := by decide +kernel
  have e2 : Jvm.FP.Core.half Jvm.FP.Core.b64 = 2 ^ 63 := by decide +kernel
  have e3 : r.toNat &&& (0x7fffffffffffffff : UInt64).toNat = r.toNat % 2 ^ 63 := Nat.and_two_pow_sub_one_eq_mod r.toNat 63
  rw [e3]
  unfold Jvm.FP.Core.mag at h1
  rw [e1, e2] at h1
  exact Nat.le_of_not_lt h1
theorem nn_self {r : UInt64} (h : Jvm.FP.Core.val64 r ≠ .nan) (o : CmpOp) : Op.cmpValue (FP.dcmp r r) o = 0 := by
  have e : FP.dcmp r r = some .eq := Jvm.FP.Core.dcmp_self h
  rw [e]; cases o <;> rfl
/-- the share of two whole numbers -/
def shr (a b : Int) : UInt64 := FP.ddiv (FP.i2d (Int32.ofInt a)) (FP.i2d (Int32.ofInt b))
theorem shr_nn {a b : Int} (hb : 1 ≤ b ∧ b < 2147483648) : Jvm.FP.Core.val64 (shr a b) ≠ .nan := sh_nn (by rw [Int32.toInt_ofInt_of_le (by omega) (by omega)]; omega)
theorem V_i2d {p : Program} {l : Launch} {e : Env} {R : Room} {s : State} {m : MethodId} {args : Array Value} {below : List Frame} {meth : Method} {c : Code} {D : va_G} {cy : Nat → ClassId} {z nL : Nat} {cc : ByteArray} {own : String} {Q : State → Prop} {cells slots : Nat} {M : Mm} {pc : Nat} {lv : List (Nat × Value)} {st : List Value} (C : Cx p l s m args meth c D cy z nL cc own) {a : Int} (hd : decode cc pc = .ok (.i2d, 1)) (k : V p l e R s m args below meth c D z nL Q cells slots M (pc + 1) lv (.double (FP.i2d (Int32.ofInt a)) :: st)) : V p l e R s m args below meth c D z nL Q cells slots M pc lv (iv a :: st) :=
  fun H locs ls hl hw hS => lv_i2d C.1 C.2.1 hd (k H locs ls hl hw hS)
theorem V_dshr {p : Program} {l : Launch} {e : Env} {R : Room} {s : State} {m : MethodId} {args : Array Value} {below : List Frame} {meth : Method} {c : Code} {D : va_G} {cy : Nat → ClassId} {z nL : Nat} {cc : ByteArray} {own : String} {Q : State → Prop} {cells slots : Nat} {M : Mm} {pc : Nat} {lv : List (Nat × Value)} {st : List Value} (C : Cx p l s m args meth c D cy z nL cc own) {a b : Int} (hb : 1 ≤ b ∧ b < 2147483648) (hd : decode cc pc = .ok (.ddiv, 1)) (k : V p l e R s m args below meth c D z nL Q cells slots M (pc + 1) lv (.double (shr a b) :: st)) : V p l e R s m args below meth c D z nL Q cells slots M pc lv (.double (FP.i2d (Int32.ofInt b)) :: .double (FP.i2d (Int32.ofInt a)) :: st) :=
  fun H locs ls hl hw hS => lv_ddiv C.1 C.2.1 hd (nn_bits (shr_nn (a := a) hb)) (k H locs ls hl hw hS)
theorem V_dconst0 {p : Program} {l : Launch} {e : Env} {R : Room} {s : State} {m : MethodId} {args : Array Value} {below : List Frame} {meth : Method} {c : Code} {D : va_G} {cy : Nat → ClassId} {z nL : Nat} {cc : ByteArray} {own : String} {Q : State → Prop} {cells slots : Nat} {M : Mm} {pc : Nat} {lv : List (Nat × Value)} {st : List Value} (C : Cx p l s m args meth c D cy z nL cc own) (hd : decode cc pc = .ok (.dconst 0, 1)) (k : V p l e R s m args below meth c D z nL Q cells slots M (pc + 1) lv (.double FP.dconst0 :: st)) : V p l e R s m args below meth c D z nL Q cells slots M pc lv st :=
  fun H locs ls hl hw hS => lv_dconst0 C.1 C.2.1 hd (k H locs ls hl hw hS)
theorem V_dcmp0 {p : Program} {l : Launch} {e : Env} {R : Room} {s : State} {m : MethodId} {args : Array Value} {below : List Frame} {meth : Method} {c : Code} {D : va_G} {cy : Nat → ClassId} {z nL : Nat} {cc : ByteArray} {own : String} {Q : State → Prop} {cells slots : Nat} {M : Mm} {pc : Nat} {lv : List (Nat × Value)} {st : List Value} (C : Cx p l s m args meth c D cy z nL cc own) {r : UInt64} {o : CmpOp} (hn : Jvm.FP.Core.val64 r ≠ .nan) (hd : decode cc pc = .ok (.dcmp o, 1)) (k : V p l e R s m args below meth c D z nL Q cells slots M (pc + 1) lv (iv 0 :: st)) : V p l e R s m args below meth c D z nL Q cells slots M pc lv (.double r :: .double r :: st) :=
  fun H locs ls hl hw hS => lv_dcmp C.1 C.2.1 hd (by rw [nn_self hn]; exact k H locs ls hl hw hS)
theorem V_dload {p : Program} {l : Launch} {e : Env} {R : Room} {s : State} {m : MethodId} {args : Array Value} {below : List Frame} {meth : Method} {c : Code} {D : va_G} {cy : Nat → ClassId} {z nL : Nat} {cc : ByteArray} {own : String} {Q : State → Prop} {cells slots : Nat} {M : Mm} {pc : Nat} {lv : List (Nat × Value)} {st : List Value} (C : Cx p l s m args meth c D cy z nL cc own) {i : Nat} {r : UInt64} (hd : decode cc pc = .ok (.dload i, 2)) (h : lv.lookup i = some (.double r)) (k : V p l e R s m args below meth c D z nL Q cells slots M (pc + 2) lv (.double r :: st)) : V p l e R s m args below meth c D z nL Q cells slots M pc lv st :=
  fun H locs ls hl hw hS => lv_dload C.1 C.2.1 hd (lk_at hl h) (k H locs ls hl hw hS)
theorem V_dstore {p : Program} {l : Launch} {e : Env} {R : Room} {s : State} {m : MethodId} {args : Array Value} {below : List Frame} {meth : Method} {c : Code} {D : va_G} {cy : Nat → ClassId} {z nL : Nat} {cc : ByteArray} {own : String} {Q : State → Prop} {cells slots : Nat} {M : Mm} {pc : Nat} {lv : List (Nat × Value)} {st : List Value} (C : Cx p l s m args meth c D cy z nL cc own) {i : Nat} {r : UInt64} (hd : decode cc pc = .ok (.dstore i, 2)) (hn : i + 1 < nL) (k : V p l e R s m args below meth c D z nL Q cells slots M (pc + 2) (ups2 i (.double r) lv) st) : V p l e R s m args below meth c D z nL Q cells slots M pc lv (.double r :: st) :=
  fun H locs ls hl hw hS => lv_dstore C.1 C.2.1 hd hl hn rfl (fun ls' hl' => k H locs ls' hl' hw hS)
theorem W_lcmp0 {p : Program} {l : Launch} {e : Env} {R : Room} {s : State} {m : MethodId} {args : Array Value} {below : List Frame} {meth : Method} {c : Code} {cc : ByteArray} {H : Heap} {locs : List Loc} {cells slots : Nat} {Q : State → Prop} {pc : Nat} {ls : Array Slot} {rest : List Value} (hexec : p.tables.exec = Jvm.exec) (hb : c.code = cc) {w : Int64} (hdg : decode cc pc = .ok (.lcmp, 1)) (k : W p l e R s m args below meth c H locs cells slots Q (F0 m (pc + 1) ls (.int 0 :: rest))) : W p l e R s m args below meth c H locs cells slots Q (F0 m pc ls (.long w :: .long w :: rest)) := by
  have hirr : ¬ (w < w) := fun o => by rw [Int64.lt_iff_toInt_lt] at o; omega
  intro T hT X
  obtain ⟨t, a, b⟩ := k T hT X
  refine ⟨t, ?_, b⟩
  jvm_step X.here [X.here.top, hexec, hb, hdg, hirr]
  exact a
theorem V_lcmp0 {p : Program} {l : Launch} {e : Env} {R : Room} {s : State} {m : MethodId} {args : Array Value} {below : List Frame} {meth : Method} {c : Code} {D : va_G} {cy : Nat → ClassId} {z nL : Nat} {cc : ByteArray} {own : String} {Q : State → Prop} {cells slots : Nat} {M : Mm} {pc : Nat} {lv : List (Nat × Value)} {st : List Value} (C : Cx p l s m args meth c D cy z nL cc own) {a b : Int} (hab : lgv a = lgv b) (hd : decode cc pc = .ok (.lcmp, 1)) (k : V p l e R s m args below meth c D z nL Q cells slots M (pc + 1) lv (iv 0 :: st)) : V p l e R s m args below meth c D z nL Q cells slots M pc lv (lgv a :: lgv b :: st) := by
  rw [hab]
  exact fun H locs ls hl hw hS => W_lcmp0 C.1 C.2.1 hd (k H locs ls hl hw hS)
theorem b9_and : ∀ n : Nat, n < 1024 → Int32.ofInt (n : Int) &&& Int32.ofInt 1 = Int32.ofInt ((n % 2 : Nat) : Int) := by decide +kernel
theorem b9_shr : ∀ n : Nat, n < 1024 → ∀ u : Nat, u < 10 → Int32.ofInt (n : Int) >>> (Int32.ofInt (u : Int) &&& 31) = Int32.ofInt ((n / 2 ^ u : Nat) : Int) := by decide +kernel
theorem b9_shl : ∀ u : Nat, u < 10 → Int32.ofInt 1 <<< (Int32.ofInt (u : Int) &&& 31) = Int32.ofInt ((2 ^ u : Nat) : Int) := by decide +kernel
/-- bit u set -/
def orB (n u : Nat) : Nat := if n / 2 ^ u % 2 = 1 then n else n + 2 ^ u
theorem b9_or : ∀ n : Nat, n < 1024 → ∀ u : Nat, u < 10 → Int32.ofInt (n : Int) ||| Int32.ofInt ((2 ^ u : Nat) : Int) = Int32.ofInt ((orB n u : Nat) : Int) := by decide +kernel
theorem b9_or0 : ∀ n : Nat, n < 1024 → Int32.ofInt (n : Int) ||| Int32.ofInt 0 = Int32.ofInt (n : Int) := by decide +kernel
theorem orB_lt : ∀ n : Nat, n < 1024 → ∀ u : Nat, u < 10 → orB n u < 1024 := by decide +kernel
theorem orB_bit : ∀ n : Nat, n < 1024 → ∀ u : Nat, u < 10 → ∀ v : Nat, v < 10 → orB n u / 2 ^ v % 2 = if v = u then 1 else n / 2 ^ v % 2 := by decide +kernel
theorem V_iand1 {p : Program} {l : Launch} {e : Env} {R : Room} {s : State} {m : MethodId} {args : Array Value} {below : List Frame} {meth : Method} {c : Code} {D : va_G} {cy : Nat → ClassId} {z nL : Nat} {cc : ByteArray} {own : String} {Q : State → Prop} {cells slots : Nat} {M : Mm} {pc : Nat} {lv : List (Nat × Value)} {st : List Value} (C : Cx p l s m args meth c D cy z nL cc own) {n : Nat} (hn : n < 1024) (hd : decode cc pc = .ok (.iand, 1)) (k : V p l e R s m args below meth c D z nL Q cells slots M (pc + 1) lv (iv ((n % 2 : Nat) : Int) :: st)) : V p l e R s m args below meth c D z nL Q cells slots M pc lv (iv 1 :: iv (n : Int) :: st) :=
  fun H locs ls hl hw hS => lv_iand C.1 C.2.1 hd (by rw [b9_and n hn]; exact k H locs ls hl hw hS)
theorem V_ishr9 {p : Program} {l : Launch} {e : Env} {R : Room} {s : State} {m : MethodId} {args : Array Value} {below : List Frame} {meth : Method} {c : Code} {D : va_G} {cy : Nat → ClassId} {z nL : Nat} {cc : ByteArray} {own : String} {Q : State → Prop} {cells slots : Nat} {M : Mm} {pc : Nat} {lv : List (Nat × Value)} {st : List Value} (C : Cx p l s m args meth c D cy z nL cc own) {n u : Nat} (hn : n < 1024) (hu : u < 10) (hd : decode cc pc = .ok (.ishr, 1)) (k : V p l e R s m args below meth c D z nL Q cells slots M (pc + 1) lv (iv ((n / 2 ^ u : Nat) : Int) :: st)) : V p l e R s m args below meth c D z nL Q cells slots M pc lv (iv (u : Int) :: iv (n : Int) :: st) :=
  fun H locs ls hl hw hS => lv_ishr C.1 C.2.1 hd (by rw [b9_shr n hn u hu]; exact k H locs ls hl hw hS)
theorem V_ishl9 {p : Program} {l : Launch} {e : Env} {R : Room} {s : State} {m : MethodId} {args : Array Value} {below : List Frame} {meth : Method} {c : Code} {D : va_G} {cy : Nat → ClassId} {z nL : Nat} {cc : ByteArray} {own : String} {Q : State → Prop} {cells slots : Nat} {M : Mm} {pc : Nat} {lv : List (Nat × Value)} {st : List Value} (C : Cx p l s m args meth c D cy z nL cc own) {u : Nat} (hu : u < 10) (hd : decode cc pc = .ok (.ishl, 1)) (k : V p l e R s m args below meth c D z nL Q cells slots M (pc + 1) lv (iv ((2 ^ u : Nat) : Int) :: st)) : V p l e R s m args below meth c D z nL Q cells slots M pc lv (iv (u : Int) :: iv 1 :: st) :=
  fun H locs ls hl hw hS => lv_ishl C.1 C.2.1 hd (by rw [b9_shl u hu]; exact k H locs ls hl hw hS)
theorem V_ior9 {p : Program} {l : Launch} {e : Env} {R : Room} {s : State} {m : MethodId} {args : Array Value} {below : List Frame} {meth : Method} {c : Code} {D : va_G} {cy : Nat → ClassId} {z nL : Nat} {cc : ByteArray} {own : String} {Q : State → Prop} {cells slots : Nat} {M : Mm} {pc : Nat} {lv : List (Nat × Value)} {st : List Value} (C : Cx p l s m args meth c D cy z nL cc own) {n u : Nat} (hn : n < 1024) (hu : u < 10) (hd : decode cc pc = .ok (.ior, 1)) (k : V p l e R s m args below meth c D z nL Q cells slots M (pc + 1) lv (iv ((orB n u : Nat) : Int) :: st)) : V p l e R s m args below meth c D z nL Q cells slots M pc lv (iv ((2 ^ u : Nat) : Int) :: iv (n : Int) :: st) :=
  fun H locs ls hl hw hS => lv_ior C.1 C.2.1 hd (by rw [b9_or n hn u hu]; exact k H locs ls hl hw hS)
theorem V_ior0 {p : Program} {l : Launch} {e : Env} {R : Room} {s : State} {m : MethodId} {args : Array Value} {below : List Frame} {meth : Method} {c : Code} {D : va_G} {cy : Nat → ClassId} {z nL : Nat} {cc : ByteArray} {own : String} {Q : State → Prop} {cells slots : Nat} {M : Mm} {pc : Nat} {lv : List (Nat × Value)} {st : List Value} (C : Cx p l s m args meth c D cy z nL cc own) {n : Nat} (hn : n < 1024) (hd : decode cc pc = .ok (.ior, 1)) (k : V p l e R s m args below meth c D z nL Q cells slots M (pc + 1) lv (iv (n : Int) :: st)) : V p l e R s m args below meth c D z nL Q cells slots M pc lv (iv 0 :: iv (n : Int) :: st) :=
  fun H locs ls hl hw hS => lv_ior C.1 C.2.1 hd (by rw [b9_or0 n hn]; exact k H locs ls hl hw hS)
