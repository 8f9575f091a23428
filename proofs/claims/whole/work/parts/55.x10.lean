/-! the law: its script, what holds at its loop's head -/
theorem and31 (x : Int32) : 0 ≤ (x &&& 31).toInt ∧ (x &&& 31).toInt ≤ 31 := by
  have h1 : (x &&& 31).toBitVec.toNat ≤ 31 := by
    rw [Int32.toBitVec_and, BitVec.toNat_and]
    exact Nat.and_le_right
  have e : (x &&& 31).toInt = ((x &&& 31).toBitVec.toNat : Int) := BitVec.toInt_eq_toNat_of_lt (by omega)
  omega
section VLAW
variable {p : Program} {l : Launch} {e : Env} {R : Room} {s : State} {m : MethodId} {args : Array Value} {below : List Frame} {meth : Method} {c : Code} {D : va_G} {cy : Nat → ClassId} {z nL : Nat} {cc : ByteArray} {own : String} {Q : State → Prop} {cells slots : Nat} {M : Mm} {pc : Nat} {lv : List (Nat × Value)} {st : List Value}
theorem V_sld (C : Cx p l s m args meth c D cy z nL cc own) {b L k : Nat} {xs : Nat → Int32} {j v : Int} (hX : va_X b L xs s s.heap) (hbl : b < s.heap.size) (hbA : ¬ z ≤ b) (hi : 0 ≤ j ∧ j < L) (hL : L < 2147483648) (hj : j.toNat = k) (hv : (xs k).toInt = v) (hd : decode cc pc = .ok (.iaload, 1)) (kk : V p l e R s m args below meth c D z nL Q cells slots M (pc + 1) lv (iv v :: st)) : V p l e R s m args below meth c D z nL Q cells slots M pc lv (iv j :: .ref b :: st) := by
  intro H locs ls hl hw hS
  subst hv; subst hj
  refine va_sld C.1 C.2.1 hX hbl hbA hS (oi_in hi hL) hd ?_
  rw [oi_nat (by omega), iv_all]
  exact kk H locs ls hl hw hS
theorem V_slen (C : Cx p l s m args meth c D cy z nL cc own) {b L : Nat} {xs : Nat → Int32} (hX : va_X b L xs s s.heap) (hbl : b < s.heap.size) (hbA : ¬ z ≤ b) (hd : decode cc pc = .ok (.arraylength, 1)) (kk : V p l e R s m args below meth c D z nL Q cells slots M (pc + 1) lv (iv (L : Int) :: st)) : V p l e R s m args below meth c D z nL Q cells slots M pc lv (.ref b :: st) := by
  intro H locs ls hl hw hS
  refine va_slen C.1 C.2.1 hX hbl hbA hS hd ?_
  rw [← Int32.ofInt_eq_ofNat]
  exact kk H locs ls hl hw hS
theorem V_eqS (C : Cx p l s m args meth c D cy z nL cc own) {a b off : Int} {tgt : Nat} (hab : iv a = iv b) (hd : decode cc pc = .ok (.if_icmp .eq off, 3)) (ht : (pc : Int) + off = (tgt : Int)) (k : V p l e R s m args below meth c D z nL Q cells slots M tgt lv st) : V p l e R s m args below meth c D z nL Q cells slots M pc lv (iv b :: iv a :: st) := by
  rw [hab]
  exact fun H locs ls hl hw hS => lv_icmp_eq C.1 C.2.1 hd ht (fun _ => k H locs ls hl hw hS) (fun o => absurd rfl o)
theorem V_iand31 (C : Cx p l s m args meth c D cy z nL cc own) {a : Int} (hd : decode cc pc = .ok (.iand, 1)) (k : ∀ v : Int, 0 ≤ v ∧ v ≤ 31 → V p l e R s m args below meth c D z nL Q cells slots M (pc + 1) lv (iv v :: st)) : V p l e R s m args below meth c D z nL Q cells slots M pc lv (iv 31 :: iv a :: st) :=
  fun H locs ls hl hw hS => lv_iand C.1 C.2.1 hd (by
    rw [show Int32.ofInt a &&& Int32.ofInt 31 = Int32.ofInt (Int32.ofInt a &&& 31).toInt by rw [Int32.ofInt_toInt]; rfl]
    exact k _ (and31 _) H locs ls hl hw hS)
end VLAW
theorem DockAt.keep {cy : Nat → ClassId} {z : Nat} {M M' : Mm} {x : DD} (h : DockAt cy z M x) (hs : Sm M M' (fun j => 331 ≤ j)) : DockAt cy z M' x := by
  obtain ⟨h0, h1, h2, h3, h4, h5, h6⟩ := h
  exact ⟨by rw [hs.1]; exact h0, (hs.2 _ (by omega)).trans h1, (hs.2 _ (by omega)).trans h2, h3.keep hs (fun k h1 h2 o => by omega), h4.keep hs (fun k h1 h2 o => by omega), fun k hk => ⟨(h5 k hk).1, (h5 k hk).2.1, (h5 k hk).2.2.keep hs (fun j h1 h2 o => by have := (h5 k hk).2.1; omega)⟩, h6⟩
def LawI (cy : Nat → ClassId) (z : Nat) (M : Mm) (x : DD) (u N P A tx fr tl g9 : Nat → Int) (d9 : Nat → UInt64) : Prop := DockAt cy z M x ∧ DI x ∧ ModAt cy z M u N P A tx fr tl ∧ M.1 = 340 ∧ M.2 338 = aL cy 1 g9 ∧ M.2 339 = aD cy 1 d9 ∧ RelD x u N P tx
def LawE (cy : Nat → ClassId) (z : Nat) (M : Mm) : Prop := ∃ (x : DD) (u N P A tx fr tl g9 : Nat → Int) (d9 : Nat → UInt64), LawI cy z M x u N P A tx fr tl g9 d9
theorem LawE.mk {cy : Nat → ClassId} {z : Nat} {M2 M3 M4 : Mm} {x : DD} {u N P A tx fr tl g9 : Nat → Int} {d9 : Nat → UInt64} (hd : DockAt cy z M2 x) (sA : Sm M2 M3 (fun j => 331 ≤ j)) (s4 : Sm M3 M4 P7) (l3 : M3.1 = 340) (e8 : M3.2 338 = aL cy 1 g9) (e9 : M3.2 339 = aD cy 1 d9) (x4 : ModAt cy z M4 u N P A tx fr tl) (hI : DI x) (hr : RelD x u N P tx) : LawE cy z M4 :=
  ⟨x, u, N, P, A, tx, fr, tl, g9, d9, hd.keep (sA.trans (s4.mono (fun j hj => hj.1))), hI, x4, s4.1.trans l3, (s4.2 _ (fun o => by have := o.2; omega)).trans e8, (s4.2 _ (fun o => by have := o.2; omega)).trans e9, hr⟩
section LAWMID
variable {cy : Nat → ClassId} {z : Nat} {M M2 M3 : Mm} {x : DD} {u N P A tx fr tl g9 : Nat → Int} {d9 : Nat → UInt64}
theorem law_mid0 (h : LawI cy z M x u N P A tx fr tl g9 d9) (s2 : Sm M M2 (fun j => j < 331)) : M2.1 = 340 ∧ ModAt cy z M2 u N P A tx fr tl ∧ M2.2 338 = aL cy 1 g9 ∧ M2.2 339 = aD cy 1 d9 ∧ Sm M2 M2 (fun j => 331 ≤ j) :=
  ⟨s2.1.trans h.2.2.2.1, h.2.2.1.keep s2 (fun k h1 h2 o => by omega), (s2.2 _ (by omega)).trans h.2.2.2.2.1, (s2.2 _ (by omega)).trans h.2.2.2.2.2.1, Sm.rf _ _⟩
theorem law_mid (h : LawI cy z M x u N P A tx fr tl g9 d9) (s2 : Sm M M2 (fun j => j < 331)) {g8 : Nat → Int} (em : M3 = mset M2 338 (aL cy 1 g8)) : M3.1 = 340 ∧ ModAt cy z M3 u N P A tx fr tl ∧ M3.2 338 = aL cy 1 g8 ∧ M3.2 339 = aD cy 1 d9 ∧ Sm M2 M3 (fun j => 331 ≤ j) := by
  obtain ⟨a1, a2, a3, a4, -⟩ := law_mid0 h s2
  subst em
  exact ⟨a1, a2.keep (Sm.set (P := fun j => j = 338) rfl) (fun k h1 h2 o => by omega), mset_self _ _ _, (mset_ne (by omega)).trans a4, Sm.set (by omega)⟩
theorem law_midD (h : LawI cy z M x u N P A tx fr tl g9 d9) (s2 : Sm M M2 (fun j => j < 331)) {d8 : Nat → UInt64} (em : M3 = mset M2 339 (aD cy 1 d8)) : M3.1 = 340 ∧ ModAt cy z M3 u N P A tx fr tl ∧ M3.2 338 = aL cy 1 g9 ∧ M3.2 339 = aD cy 1 d8 ∧ Sm M2 M3 (fun j => 331 ≤ j) := by
  obtain ⟨a1, a2, a3, a4, -⟩ := law_mid0 h s2
  subst em
  exact ⟨a1, a2.keep (Sm.set (P := fun j => j = 339) rfl) (fun k h1 h2 o => by omega), (mset_ne (by omega)).trans a3, mset_self _ _ _, Sm.set (by omega)⟩
end LAWMID
theorem rv_hg {S : SD} (h : IS S) (hB : SB S) : ∀ i : Nat, i < sN S → lapR (RF S i) (RA S i) (sc S 0) → 0 ≤ yv (RA S i 1) (-1) (RF S i 3 + 1) ∧ yv (RA S i 1) (-1) (RF S i 3 + 1) ≤ 30000 := fun i hi hl => by
  have b3 := (hB.2.2.2.2.2.2.2 i (by have := hB.2.1; omega)).2.2.2.1
  have h1 := hl.1
  have h2 := hl.2
  have h3 := h.2.1
  have ri := h.2.2 i hi
  have r0 := ri.1
  rw [yv_at (by omega)] at h2 ⊢
  have e1 := RI.due_pos ri hB.2.2.1 (y := (RF S i 3 + 1).toNat) (by omega) (by omega)
  have e2 := RI.due_grace ri hB.2.2.1 (y := (RF S i 3 + 1).toNat) (by omega) (by omega)
  omega
theorem hset_no {h : Nat → Int} {v : Int} {n : Nat} (hn : ∀ j, j < n → ¬ h j = v) : hset h n v = false := by
  rcases bool_cases (hset h n v) with o | o
  · obtain ⟨j, j1, j2⟩ := hset_iff.mp o
    exact absurd j2 (hn j j1)
  · exact o
theorem shT_nn {S : SD} {i : Nat} (hB : SB S) (hi : i < 10) : Jvm.FP.Core.val64 (shT S i) ≠ .nan := by
  have b := hB.2.2.2.2.2.2.2 i hi
  have b0 := b.1
  have b1 := b.2.1
  have b2 := hB.1
  unfold shT
  by_cases h : livT (RF S i) (sc S 0) < 1
  · rw [if_pos h]; decide +kernel
  · rw [if_neg h]
    refine shr_nn ⟨by omega, ?_⟩
    unfold livT; split <;> omega
theorem gT_eq {tx bs : Nat → Int} {n : Int} (h : ∀ j : Nat, (j : Int) < n → tx j = bs j) : gT tx n = gT bs n := by
  funext i
  unfold gT
  by_cases o : 0 ≤ i ∧ i < n
  · rw [if_pos o, if_pos o]; exact h _ (by omega)
  · rw [if_neg o, if_neg o]
