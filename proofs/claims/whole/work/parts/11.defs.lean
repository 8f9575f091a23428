/-! WHAT THE CELLS OF THE CLASS ARE, and further rows -/
section VROW2
variable {p : Program} {l : Launch} {e : Env} {R : Room} {s : State} {m : MethodId} {args : Array Value} {below : List Frame} {meth : Method} {c : Code} {D : va_G} {cy : Nat → ClassId} {z nL : Nat} {cc : ByteArray} {own : String} {Q : State → Prop} {cells slots : Nat} {M : Mm} {pc : Nat} {lv : List (Nat × Value)} {st : List Value}
theorem V_alenI (C : Cx p l s m args meth c D cy z nL cc own) {k n : Nat} {g : Nat → Int} (hd : decode cc pc = .ok (.arraylength, 1)) (hM : M.2 k = aI cy n g) (hk : k < M.1) (kk : V p l e R s m args below meth c D z nL Q cells slots M (pc + 1) lv (iv n :: st)) : V p l e R s m args below meth c D z nL Q cells slots M pc lv (.ref (z + k) :: st) := V_alen (t := 0) C rfl hd hM hk kk
theorem V_alenB (C : Cx p l s m args meth c D cy z nL cc own) {k n : Nat} {g : Nat → Int} (hd : decode cc pc = .ok (.arraylength, 1)) (hM : M.2 k = aB cy n g) (hk : k < M.1) (kk : V p l e R s m args below meth c D z nL Q cells slots M (pc + 1) lv (iv n :: st)) : V p l e R s m args below meth c D z nL Q cells slots M pc lv (.ref (z + k) :: st) := V_alen (t := 1) C rfl hd hM hk kk
theorem V_alenZ (C : Cx p l s m args meth c D cy z nL cc own) {k n : Nat} {g : Nat → Int} (hd : decode cc pc = .ok (.arraylength, 1)) (hM : M.2 k = aZ cy n g) (hk : k < M.1) (kk : V p l e R s m args below meth c D z nL Q cells slots M (pc + 1) lv (iv n :: st)) : V p l e R s m args below meth c D z nL Q cells slots M pc lv (.ref (z + k) :: st) := V_alen (t := 2) C rfl hd hM hk kk
theorem V_alenQ (C : Cx p l s m args meth c D cy z nL cc own) {k n t : Nat} {g : Nat → Option Nat} {C' : String} (ht : (tysL cy)[t]? = some (cy t, .object C')) (hd : decode cc pc = .ok (.arraylength, 1)) (hM : M.2 k = aQ (cy t) n g) (hk : k < M.1) (kk : V p l e R s m args below meth c D z nL Q cells slots M (pc + 1) lv (iv n :: st)) : V p l e R s m args below meth c D z nL Q cells slots M pc lv (.ref (z + k) :: st) := V_alen (t := t) C ht hd hM hk kk
theorem V_iald (C : Cx p l s m args meth c D cy z nL cc own) {k n j : Nat} {g : Nat → Int} {i : Int} (hd : decode cc pc = .ok (.iaload, 1)) (hM : M.2 k = aI cy n g) (hk : k < M.1) (hi : 0 ≤ i ∧ i < n) (hn : n < 2147483648) (hj : i.toNat = j) (kk : V p l e R s m args below meth c D z nL Q cells slots M (pc + 1) lv (iv (g j) :: st)) : V p l e R s m args below meth c D z nL Q cells slots M pc lv (iv i :: .ref (z + k) :: st) := by
  subst hj
  exact V_iaload C hd hM hk hi hn kk
theorem V_iast (C : Cx p l s m args meth c D cy z nL cc own) {k n j : Nat} {g : Nat → Int} {i a : Int} (hd : decode cc pc = .ok (.iastore, 1)) (hM : M.2 k = aI cy n g) (hk : k < M.1) (hi : 0 ≤ i ∧ i < n) (hn : n < 2147483648) (hj : i.toNat = j) (kk : V p l e R s m args below meth c D z nL Q cells slots (mset M k (aI cy n (va_up g j a))) (pc + 1) lv st) : V p l e R s m args below meth c D z nL Q cells slots M pc lv (iv a :: iv i :: .ref (z + k) :: st) := by
  subst hj
  exact V_iastore C hd hM hk hi hn kk
theorem V_i2lw (C : Cx p l s m args meth c D cy z nL cc own) {a : Int} (hd : decode cc pc = .ok (.i2l, 1)) (k : V p l e R s m args below meth c D z nL Q cells slots M (pc + 1) lv (lgv (Int32.ofInt a).toInt :: st)) : V p l e R s m args below meth c D z nL Q cells slots M pc lv (iv a :: st) := by
  have e : iv a = iv (Int32.ofInt a).toInt := by rw [← iv_all]; rfl
  rw [e]
  have h1 := Int32.toInt_lt (Int32.ofInt a)
  have h2 := Int32.le_toInt (Int32.ofInt a)
  exact V_i2l C hd (by omega) k
theorem V_ldc2 (C : Cx p l s m args meth c D cy z nL cc own) {idx : Nat} {v : Int64} {a : Int} (hw9 : Cond.constantLong own idx v ∈ lw_all) (hv : Int64.ofInt a = v) (hd : decode cc pc = .ok (.ldc2_w idx, 3)) (k : V p l e R s m args below meth c D z nL Q cells slots M (pc + 3) lv (lgv a :: st)) : V p l e R s m args below meth c D z nL Q cells slots M pc lv st := by
  subst hv
  exact fun H locs ls hl hw hS => lv_ldc2 C.1 C.2.1 C.2.2.2.1 (C.2.2.2.2.1 _ hw9) hd (k H locs ls hl hw hS)
theorem V_lconst (C : Cx p l s m args meth c D cy z nL cc own) {n : Fin 2} {a : Int} (hd : decode cc pc = .ok (.lconst n, 1)) (hv : Int64.ofNat (n : Nat) = Int64.ofInt a) (k : V p l e R s m args below meth c D z nL Q cells slots M (pc + 1) lv (lgv a :: st)) : V p l e R s m args below meth c D z nL Q cells slots M pc lv st :=
  fun H locs ls hl hw hS => lv_lconst C.1 C.2.1 hd hv (k H locs ls hl hw hS)
end VROW2
def HolAt (cy : Nat → ClassId) (z : Nat) (M : Mm) (k c : Nat) (h : Nat → Int) : Prop := k + 2 ≤ M.1 ∧ M.2 k = oX 1 [.ref (z + (k + 1)), iv c] ∧ M.2 (k + 1) = aI cy 6 h
def RightAt (cy : Nat → ClassId) (z : Nat) (M : Mm) (r : Nat) (F : Nat → Int) (a : Nat → Nat → Int) : Prop := r + 6 ≤ M.1 ∧ M.2 r = oX 2 [iv (F 0), iv (F 1), iv (F 2), iv (F 3), iv (F 4), iv (F 5), .ref (z + (r + 1)), .ref (z + (r + 2)), .ref (z + (r + 3)), .ref (z + (r + 4)), .ref (z + (r + 5))] ∧
  M.2 (r + 1) = aI cy 20 (a 0) ∧ M.2 (r + 2) = aI cy 20 (a 1) ∧ M.2 (r + 3) = aI cy 20 (a 2) ∧ M.2 (r + 4) = aI cy 20 (a 3) ∧ M.2 (r + 5) = aI cy 10 (a 4)
/-- rights, holidays; scalars: today, the three accounts, the four fees; holidays; the rights' scalars and rows -/
abbrev SD : Type := Nat × Nat × (Nat → Int) × (Nat → Int) × (Nat → Nat → Int) × (Nat → Nat → Nat → Int)
abbrev sN (S : SD) : Nat := S.1
abbrev sH (S : SD) : Nat := S.2.1
abbrev sc (S : SD) : Nat → Int := S.2.2.1
abbrev ho (S : SD) : Nat → Int := S.2.2.2.1
abbrev RF (S : SD) : Nat → Nat → Int := S.2.2.2.2.1
abbrev RA (S : SD) : Nat → Nat → Nat → Int := S.2.2.2.2.2
def StateAt (cy : Nat → ClassId) (z : Nat) (M : Mm) (b : Nat) (S : SD) : Prop := b + 65 ≤ M.1 ∧ M.2 b = oX 3 [iv (sc S 0), iv (sN S), iv (sc S 1), iv (sc S 2), iv (sc S 3), .ref (z + (b + 1)), .ref (z + (b + 2)), .ref (z + (b + 4))] ∧ M.2 (b + 1) = aQ (cy 3) 10 (fun j => some (z + (b + 5 + 6 * j))) ∧
  M.2 (b + 2) = oX 1 [.ref (z + (b + 3)), iv (sH S)] ∧ M.2 (b + 3) = aI cy 6 (ho S) ∧ M.2 (b + 4) = oX 0 [iv (sc S 4), iv (sc S 5), iv (sc S 6), iv (sc S 7)] ∧ ∀ i, i < 10 → RightAt cy z M (b + 5 + 6 * i) (RF S i) (RA S i)
/-- a memory that is the same but for some cells -/
def Sm (M M' : Mm) (P : Nat → Prop) : Prop := M'.1 = M.1 ∧ ∀ k, ¬ P k → M'.2 k = M.2 k
theorem Sm.rf (M : Mm) (P : Nat → Prop) : Sm M M P := ⟨rfl, fun _ _ => rfl⟩
theorem Sm.mono {M M' : Mm} {P P' : Nat → Prop} (h : Sm M M' P) (hP : ∀ k, P k → P' k) : Sm M M' P' := ⟨h.1, fun k hk => h.2 k (fun q => hk (hP k q))⟩
theorem Sm.trans {M M' M'' : Mm} {P : Nat → Prop} (h : Sm M M' P) (h' : Sm M' M'' P) : Sm M M'' P := ⟨h'.1.trans h.1, fun k hk => (h'.2 k hk).trans (h.2 k hk)⟩
theorem Sm.set {M : Mm} {k : Nat} {e : va_E} {P : Nat → Prop} (h : P k) : Sm M (mset M k e) P := ⟨rfl, fun j hj => mset_ne (fun q => hj (q ▸ h))⟩
theorem RightAt.keep {cy : Nat → ClassId} {z : Nat} {M M' : Mm} {r : Nat} {F : Nat → Int} {a : Nat → Nat → Int} {P : Nat → Prop} (h : RightAt cy z M r F a) (hs : Sm M M' P) (hP : ∀ k, r ≤ k → k < r + 6 → ¬ P k) : RightAt cy z M' r F a := by
  obtain ⟨h0, h1, h2, h3, h4, h5, h6⟩ := h
  exact ⟨by rw [hs.1]; exact h0, (hs.2 _ (hP _ (by omega) (by omega))).trans h1, (hs.2 _ (hP _ (by omega) (by omega))).trans h2, (hs.2 _ (hP _ (by omega) (by omega))).trans h3, (hs.2 _ (hP _ (by omega) (by omega))).trans h4, (hs.2 _ (hP _ (by omega) (by omega))).trans h5, (hs.2 _ (hP _ (by omega) (by omega))).trans h6⟩
theorem StateAt.keep {cy : Nat → ClassId} {z : Nat} {M M' : Mm} {b : Nat} {S : SD} {P : Nat → Prop} (h : StateAt cy z M b S) (hs : Sm M M' P) (hP : ∀ k, b ≤ k → k < b + 65 → ¬ P k) : StateAt cy z M' b S := by
  obtain ⟨h0, h1, h2, h3, h4, h5, h6⟩ := h
  exact ⟨by rw [hs.1]; exact h0, (hs.2 _ (hP _ (by omega) (by omega))).trans h1, (hs.2 _ (hP _ (by omega) (by omega))).trans h2, (hs.2 _ (hP _ (by omega) (by omega))).trans h3, (hs.2 _ (hP _ (by omega) (by omega))).trans h4, (hs.2 _ (hP _ (by omega) (by omega))).trans h5, fun i hi => (h6 i hi).keep hs (fun k h1 h2 => hP k (by omega) (by omega))⟩
theorem StateAt.hol {cy : Nat → ClassId} {z : Nat} {M : Mm} {b : Nat} {S : SD} (h : StateAt cy z M b S) : HolAt cy z M (b + 2) (sH S) (ho S) := ⟨by have := h.1; omega, h.2.2.2.1, h.2.2.2.2.1⟩
-- words of a right
def nxt (F : Nat → Int) : Int := if F 3 < 19 then F 3 + 1 else -1
def yv (g : Nat → Int) (e : Int) (y : Int) : Int := if 1 ≤ y ∧ y < 20 then g y.toNat else e
def lapR (F : Nat → Int) (a : Nat → Nat → Int) (t : Int) : Prop := F 3 < 19 ∧ yv (a 1) (-1) (F 3 + 1) < t
/-- a day in the gap of one of the years up to n -/
def gapB (a : Nat → Nat → Int) (d : Int) : Nat → Bool
  | 0 => false
  | n + 1 => gapB a d n || decide (a 0 (n + 1) < d ∧ d < a 3 (n + 1))
/-- .. by the payments -/
def payB (a : Nat → Nat → Int) (d : Int) : Nat → Bool
  | 0 => false
  | n + 1 => payB a d n || decide (a 1 (n + 1) < a 2 (n + 1) ∧ a 0 (n + 1) < d ∧ d < a 2 (n + 1))
def stoodR (F : Nat → Int) (a : Nat → Nat → Int) (d t : Int) : Prop := F 0 ≤ d ∧ d ≤ F 1 ∧ ¬ (lapR F a t ∧ yv (a 0) (-1) (F 3 + 1) < d) ∧ gapB a d (F 3).toNat = false
def covR (F : Nat → Int) (a : Nat → Nat → Int) (d t : Int) : Prop := F 0 ≤ d ∧ d ≤ F 1 ∧ ¬ (lapR F a t ∧ yv (a 0) (-1) (F 3 + 1) < d) ∧ payB a d (F 3).toNat = false
def stU (F : Nat → Int) (a : Nat → Nat → Int) (u : Nat) : Int := if a 4 u = -1 then 0 else if gapB a (a 4 u) (F 3).toNat = true then 2 else 1
def cntN (p : Nat → Bool) : Nat → Nat
  | 0 => 0
  | n + 1 => cntN p n + (if p n = true then 1 else 0)
theorem cntN_le (p : Nat → Bool) : ∀ n, cntN p n ≤ n
  | 0 => Nat.le_refl 0
  | n + 1 => by have := cntN_le p n; unfold cntN; split <;> omega
/-- the days stood within the first n years, and from which day on they aren't counted yet -/
def sdY (F : Nat → Int) (a : Nat → Nat → Int) : Nat → Int × Int
  | 0 => (0, F 0)
  | n + 1 => if 0 < a 3 (n + 1) then ((sdY F a n).1 + (if 0 < a 0 (n + 1) + 1 - (sdY F a n).2 then a 0 (n + 1) + 1 - (sdY F a n).2 else 0), a 3 (n + 1)) else sdY F a n
/-- what is known of a right's numbers -/
def RB (F : Nat → Int) (a : Nat → Nat → Int) : Prop := (0 ≤ F 0 ∧ F 0 ≤ 40000) ∧ (-1 ≤ F 1 ∧ F 1 ≤ 40000) ∧ (0 ≤ F 2 ∧ F 2 ≤ 1) ∧ (0 ≤ F 3 ∧ F 3 ≤ 19) ∧ ∀ i k, -1 ≤ a i k ∧ a i k ≤ 40000
def feeS (base step y small : Int) : Int := if small = 0 then base + step * y else (base + step * y + 1) / 2
def surS (percent fee : Int) : Int := percent * fee / 100
theorem mul_rng {a b A B : Int} (ha : 0 ≤ a ∧ a ≤ A) (hb : 0 ≤ b ∧ b ≤ B) : 0 ≤ a * b ∧ a * b ≤ A * B := ⟨Int.mul_nonneg ha.1 hb.1, Int.mul_le_mul ha.2 hb.2 hb.1 (by omega)⟩
theorem yv_rng {g : Nat → Int} {e y : Int} (h : ∀ k, -1 ≤ g k ∧ g k ≤ 40000) (he : -1 ≤ e ∧ e ≤ 40000) : -1 ≤ yv g e y ∧ yv g e y ≤ 40000 := by
  unfold yv
  split
  · exact h _
  · exact he
