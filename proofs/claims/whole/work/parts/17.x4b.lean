/-! what changes the docket's state (X4), walked -/
abbrev PB (b : Nat) : Nat → Prop := fun j => b ≤ j ∧ j < b + 65
def setSc (S : SD) (f : Nat → Int) : SD := (sN S, sH S, f, ho S, RF S, RA S)
def setN (S : SD) (n : Nat) : SD := (n, sH S, sc S, ho S, RF S, RA S)
def setR (S : SD) (i : Nat) (F : Nat → Int) (a : Nat → Nat → Int) : SD := (sN S, sH S, sc S, ho S, va_up (RF S) i F, va_up (RA S) i a)
theorem StateAt.cell {cy : Nat → ClassId} {z : Nat} {M M' : Mm} {b : Nat} {S : SD} (h : StateAt cy z M b S) (hs : Sm M M' (fun j => j = b)) {n : Nat} {f : Nat → Int} (he : M'.2 b = oX 3 [iv (f 0), iv (n : Int), iv (f 1), iv (f 2), iv (f 3), .ref (z + (b + 1)), .ref (z + (b + 2)), .ref (z + (b + 4))]) (h4 : f 4 = sc S 4) (h5 : f 5 = sc S 5) (h6 : f 6 = sc S 6) (h7 : f 7 = sc S 7) : StateAt cy z M' b (n, sH S, f, ho S, RF S, RA S) := by
  obtain ⟨c, c0, c1, c2, c3, c4, cR⟩ := h
  refine ⟨by rw [hs.1]; exact c, he, (hs.2 _ (by omega)).trans c1, (hs.2 _ (by omega)).trans c2, (hs.2 _ (by omega)).trans c3, ?_, fun i hi => (cR i hi).keep hs (fun k hk _ q => by omega)⟩
  refine (hs.2 _ (by omega)).trans (c4.trans ?_)
  show oX 0 [iv (sc S 4), iv (sc S 5), iv (sc S 6), iv (sc S 7)] = oX 0 [iv (f 4), iv (f 5), iv (f 6), iv (f 7)]
  rw [h4, h5, h6, h7]
theorem StateAt.right {cy : Nat → ClassId} {z : Nat} {M M' : Mm} {b : Nat} {S : SD} (h : StateAt cy z M b S) {i : Nat} (hi : i < 10) (hs : Sm M M' (fun j => b + 5 + 6 * i ≤ j ∧ j < b + 5 + 6 * i + 6)) {F : Nat → Int} {a : Nat → Nat → Int} (he : RightAt cy z M' (b + 5 + 6 * i) F a) : StateAt cy z M' b (setR S i F a) := by
  obtain ⟨c, c0, c1, c2, c3, c4, cR⟩ := h
  refine ⟨by rw [hs.1]; exact c, (hs.2 _ (by omega)).trans c0, (hs.2 _ (by omega)).trans c1, (hs.2 _ (by omega)).trans c2, (hs.2 _ (by omega)).trans c3, (hs.2 _ (by omega)).trans c4, fun k hk => ?_⟩
  show RightAt cy z M' (b + 5 + 6 * k) (va_up (RF S) i F k) (va_up (RA S) i a k)
  rcases Nat.decEq k i with o | o
  · rw [up_n o, up_n o]; exact (cR k hk).keep hs (fun j h1 h2 q => by omega)
  · subst o; rw [up_s, up_s]; exact he
theorem PB.cell {b : Nat} {M M' : Mm} (h : Sm M M' (fun j => j = b)) : Sm M M' (PB b) := h.mono (fun j hj => by subst hj; exact ⟨by omega, by omega⟩)
theorem PB.right {b i : Nat} {M M' : Mm} (hi : i < 10) (h : Sm M M' (fun j => b + 5 + 6 * i ≤ j ∧ j < b + 5 + 6 * i + 6)) : Sm M M' (PB b) := h.mono (fun j hj => ⟨by have := hj.1; omega, by have := hj.2; omega⟩)
theorem SB.sc {S : SD} (h : SB S) {f : Nat → Int} (h0 : 0 ≤ f 0 ∧ f 0 ≤ 30000) (h4 : f 4 = sc S 4) (h5 : f 5 = sc S 5) (h6 : f 6 = sc S 6) : SB (setSc S f) := ⟨h0, h.2.1, h.2.2.1, by show 0 ≤ f 4 ∧ f 4 ≤ 9999; rw [h4]; exact h.2.2.2.1, by show 0 ≤ f 5 ∧ f 5 ≤ 999; rw [h5]; exact h.2.2.2.2.1, by show 0 ≤ f 6 ∧ f 6 ≤ 100; rw [h6]; exact h.2.2.2.2.2.1, h.2.2.2.2.2.2.1, h.2.2.2.2.2.2.2⟩
theorem SB.setR {S : SD} (h : SB S) {i : Nat} {F : Nat → Int} {a : Nat → Nat → Int} (hB : RB F a) : SB (setR S i F a) := by
  refine ⟨h.1, h.2.1, h.2.2.1, h.2.2.2.1, h.2.2.2.2.1, h.2.2.2.2.2.1, h.2.2.2.2.2.2.1, fun k hk => ?_⟩
  show RB (va_up (RF S) i F k) (va_up (RA S) i a k)
  rcases Nat.decEq k i with o | o
  · rw [up_n o, up_n o]; exact h.2.2.2.2.2.2.2 k hk
  · subst o; rw [up_s, up_s]; exact hB
theorem SB.setN {S : SD} (h : SB S) {n : Nat} (hn : n ≤ 10) : SB (setN S n) := ⟨h.1, hn, h.2.2⟩
theorem up2_rng {a : Nat → Nat → Int} (h : ∀ i k, -1 ≤ a i k ∧ a i k ≤ 40000) (i j : Nat) {v : Int} (hv : -1 ≤ v ∧ v ≤ 40000) : ∀ i' k, -1 ≤ va_up a i (va_up (a i) j v) i' k ∧ va_up a i (va_up (a i) j v) i' k ≤ 40000 := by
  intro i' k
  rcases Nat.decEq i' i with o | o
  · rw [up_n o]; exact h i' k
  · subst o; rw [up_s]
    rcases Nat.decEq k j with o | o
    · rw [up_n o]; exact h _ k
    · subst o; rw [up_s]; exact hv
theorem surT_sc {S : SD} {f : Nat → Int} {i : Nat} {y : Int} (h0 : f 0 = sc S 0) (h4 : f 4 = sc S 4) (h5 : f 5 = sc S 5) (h6 : f 6 = sc S 6) : surT (setSc S f) i y = surT S i y := by
  show (if yv (RA S i 0) (-1) y < f 0 then surS (f 6) (feeS (f 4) (f 5) y (RF S i 2)) else 0) = _
  rw [h0, h4, h5, h6]; rfl
/-- the next year's fee of right i is paid -/
def payF (S : SD) (i : Nat) : Nat → Int := va_up (va_up (sc S) 1 (sc S 1 + priceT S i (RF S i 3 + 1))) 2 (sc S 2 + surT S i (RF S i 3 + 1))
def payS (S : SD) (i : Nat) : SD := setR (setSc S (payF S i)) i (va_up (va_up (RF S i) 4 (RF S i 4 + priceT S i (RF S i 3 + 1))) 3 (RF S i 3 + 1)) (va_up (RA S i) 2 (va_up (RA S i 2) (RF S i 3 + 1).toNat (sc S 0)))
theorem payS_B {S : SD} {i : Nat} (h : SB S) (hi : i < 10) (h9 : RF S i 3 < 19) : SB (payS S i) := by
  have hB := h.2.2.2.2.2.2.2 i hi
  have h0 := h.1
  refine SB.setR (h.sc h0 rfl rfl rfl) ⟨hB.1, hB.2.1, hB.2.2.1, ?_, up2_rng hB.2.2.2.2 2 _ (by omega)⟩
  have := hB.2.2.2.1
  show 0 ≤ RF S i 3 + 1 ∧ RF S i 3 + 1 ≤ 19
  omega
def payN (S : SD) : Nat → SD × Int
  | 0 => (S, 0)
  | n + 1 => if canPayB (payN S n).1 n = true then (payS (payN S n).1 n, (payN S n).2 + priceT (payN S n).1 n (RF (payN S n).1 n 3 + 1)) else payN S n
theorem canPay_3 {S : SD} {i : Nat} (h : canPayB S i = true) : RF S i 3 < 19 := by
  unfold canPayB at h
  simp at h
  exact h.1.1
theorem payN_t {S : SD} {n : Nat} (h : canPayB (payN S n).1 n = true) : payN S (n + 1) = (payS (payN S n).1 n, (payN S n).2 + priceT (payN S n).1 n (RF (payN S n).1 n 3 + 1)) := by rw [payN, if_pos h]
theorem payN_f {S : SD} {n : Nat} (h : canPayB (payN S n).1 n = false) : payN S (n + 1) = payN S n := by rw [payN, if_neg (by rw [h]; decide)]
theorem payN_n {S : SD} : ∀ n, sN (payN S n).1 = sN S
  | 0 => rfl
  | n + 1 => by
    rw [payN]; split
    · exact payN_n n
    · exact payN_n n
theorem payN_B {S : SD} (h : SB S) : ∀ n, n ≤ 10 → SB (payN S n).1
  | 0, _ => h
  | n + 1, hn => by
    rw [payN]; split
    · rename_i hc; exact payS_B (payN_B h n (by omega)) (by omega) (canPay_3 hc)
    · exact payN_B h n (by omega)
/-- fees are paid while the right lapses, n at most -/
def revF (i : Nat) : Nat → SD → Int → SD × Int
  | 0, S, s => (S, s)
  | n + 1, S, s => if lapB (RF S i) (RA S i) (sc S 0) = true then revF i n (payS S i) (s + priceT S i (RF S i 3 + 1)) else (S, s)
theorem revF_f {i n : Nat} {S : SD} {s : Int} (h : lapB (RF S i) (RA S i) (sc S 0) = false) : revF i n S s = (S, s) := by
  cases n with
  | zero => rfl
  | succ n => rw [revF, if_neg (by rw [h]; decide)]
theorem revF_t {i n : Nat} {S : SD} {s : Int} (h : lapB (RF S i) (RA S i) (sc S 0) = true) : revF i (n + 1) S s = revF i n (payS S i) (s + priceT S i (RF S i 3 + 1)) := by rw [revF, if_pos h]
def rvF (S : SD) : Nat → Int := va_up (va_up (sc S) 1 (sc S 1 + sc S 7)) 3 (sc S 3 + sc S 7)
def rvS (S : SD) (i : Nat) : SD := setR (setSc S (rvF S)) i (va_up (va_up (RF S i) 4 (RF S i 4 + sc S 7)) 5 (RF S i 5 + 1)) (va_up (RA S i) 3 (va_up (RA S i 3) (RF S i 3 + 1).toNat (sc S 0)))
theorem rvS_B {S : SD} {i : Nat} (h : SB S) (hi : i < 10) : SB (rvS S i) := by
  have hB := h.2.2.2.2.2.2.2 i hi
  have h0 := h.1
  exact SB.setR (h.sc h0 rfl rfl rfl) ⟨hB.1, hB.2.1, hB.2.2.1, hB.2.2.2.1, up2_rng hB.2.2.2.2 3 _ (by omega)⟩
theorem lap_3 {F : Nat → Int} {a : Nat → Nat → Int} {t : Int} (h : lapR F a t) : F 3 < 19 := h.1
def addS (S : SD) (d w : Int) : SD := setN (setR S (sN S) (stF (RF S (sN S)) d w) (stA (Hf S) d (RA S (sN S)))) (sN S + 1)
theorem st_B {F : Nat → Int} {a : Nat → Nat → Int} {H : Int → Bool} {d w : Int} (hd : 0 ≤ d ∧ d ≤ 18262) (hw : w = 0 ∨ w = 1) (h : RB F a) : RB (stF F d w) (stA H d a) := by
  have e0 := later_rng (n := 240) hd.1 (by omega)
  refine ⟨?_, ?_, ?_, ?_, ?_⟩
  · show 0 ≤ d ∧ d ≤ 40000; omega
  · show -1 ≤ later d 240 - 1 ∧ later d 240 - 1 ≤ 40000; omega
  · show 0 ≤ w ∧ w ≤ 1; omega
  · show (0 : Int) ≤ 0 ∧ (0 : Int) ≤ 19; omega
  · intro i k
    have hh := h.2.2.2.2 i k
    have hh0 := h.2.2.2.2 0 k
    have hh1 := h.2.2.2.2 1 k
    unfold stA
    split
    · unfold stDue
      split
      · have e1 := later_rng (d := d) (n := 12 * (k : Int)) hd.1 (by omega)
        have e2 := pf_rng (H := H) (d := later d (12 * (k : Int)))
        omega
      · exact hh0
    · split
      · unfold stGr
        split
        · have e1 := later_rng (d := d) (n := 12 * (k : Int) + 6) hd.1 (by omega)
          have e2 := pf_rng (H := H) (d := later d (12 * (k : Int) + 6))
          omega
        · exact hh1
      · split
        · dsimp only; omega
        · split
          · dsimp only; omega
          · split
            · dsimp only; omega
            · exact hh
theorem addS_B {S : SD} {d w : Int} (h : SB S) (hn : sN S < 10) (hd : 0 ≤ d ∧ d ≤ 18262) (hw : w = 0 ∨ w = 1) : SB (addS S d w) := SB.setN (SB.setR h (st_B hd hw (h.2.2.2.2.2.2.2 _ hn))) (by omega)
/-- a text: its bytes, its four numbers, the days and the sizes of its rights -/
def TextAt (cy : Nat → ClassId) (z : Nat) (M : Mm) (t : Nat) (T bs fl sm : Nat → Int) : Prop := t + 4 ≤ M.1 ∧ M.2 t = oX 4 [.ref (z + (t + 1)), iv (T 0), iv (T 1), iv (T 2), iv (T 3), .ref (z + (t + 2)), .ref (z + (t + 3))] ∧ M.2 (t + 1) = aB cy 100 bs ∧ M.2 (t + 2) = aI cy 10 fl ∧ M.2 (t + 3) = aZ cy 10 sm
theorem TextAt.keep {cy : Nat → ClassId} {z : Nat} {M M' : Mm} {t : Nat} {T bs fl sm : Nat → Int} {P : Nat → Prop} (h : TextAt cy z M t T bs fl sm) (hs : Sm M M' P) (hP : ∀ k, t ≤ k → k < t + 4 → ¬ P k) : TextAt cy z M' t T bs fl sm := by
  obtain ⟨h0, h1, h2, h3, h4⟩ := h
  exact ⟨by rw [hs.1]; exact h0, (hs.2 _ (hP _ (by omega) (by omega))).trans h1, (hs.2 _ (hP _ (by omega) (by omega))).trans h2, (hs.2 _ (hP _ (by omega) (by omega))).trans h3, (hs.2 _ (hP _ (by omega) (by omega))).trans h4⟩
def tk0 (S : SD) : SD := setN (setSc S (va_up (va_up (va_up (sc S) 1 0) 2 0) 3 0)) 0
def tkS (S : SD) (fl sm : Nat → Int) : Nat → SD
  | 0 => tk0 S
  | n + 1 => addS (tkS S fl sm n) (fl n) (sm n)
def mxN (fl : Nat → Int) : Nat → Int
  | 0 => 0
  | n + 1 => if mxN fl n < fl n then fl n else mxN fl n
theorem tkS_n {S : SD} {fl sm : Nat → Int} : ∀ n, sN (tkS S fl sm n) = n
  | 0 => rfl
  | n + 1 => by show sN (tkS S fl sm n) + 1 = n + 1; rw [tkS_n n]
theorem tkS_B {S : SD} {fl sm : Nat → Int} (h : SB S) : ∀ n, n ≤ 10 → (∀ j, j < n → (0 ≤ fl j ∧ fl j ≤ 18262) ∧ (sm j = 0 ∨ sm j = 1)) → SB (tkS S fl sm n)
  | 0, _, _ => SB.setN (h.sc h.1 rfl rfl rfl) (by omega)
  | n + 1, hn, hf => addS_B (tkS_B h n (by omega) (fun j hj => hf j (by omega))) (by rw [tkS_n]; omega) (hf n (by omega)).1 (hf n (by omega)).2
theorem mxN_rng {fl : Nat → Int} : ∀ n, (∀ j, j < n → 0 ≤ fl j ∧ fl j ≤ 18262) → 0 ≤ mxN fl n ∧ mxN fl n ≤ 18262
  | 0, _ => by simp [mxN]
  | n + 1, hf => by
    have h1 := mxN_rng n (fun j hj => hf j (by omega))
    have h2 := hf n (by omega)
    unfold mxN
    split <;> omega
def tkF (S : SD) (fl sm : Nat → Int) (n : Nat) : SD := if n = 0 then tkS S fl sm n else setSc (tkS S fl sm n) (va_up (sc (tkS S fl sm n)) 0 (mxN fl n))
/-- .. another state's numbers, and its first n rights -/
def cpN (S S2 : SD) (n : Nat) : SD := (sN S2, sH S2, sc S2, ho S2, fun i => if i < n then RF S2 i else RF S i, fun i => if i < n then RA S2 i else RA S i)
theorem cpN_s {cy : Nat → ClassId} {z : Nat} {M : Mm} {b : Nat} {S S2 : SD} {n : Nat} (h : StateAt cy z M b (setR (cpN S S2 n) n (RF S2 n) (RA S2 n))) : StateAt cy z M b (cpN S S2 (n + 1)) := by
  obtain ⟨c, c0, c1, c2, c3, c4, cR⟩ := h
  refine ⟨c, c0, c1, c2, c3, c4, fun k hk => ?_⟩
  have hk9 : RightAt cy z M (b + 5 + 6 * k) (va_up (cpN S S2 n).2.2.2.2.1 n (RF S2 n) k) (va_up (cpN S S2 n).2.2.2.2.2 n (RA S2 n) k) := cR k hk
  show RightAt cy z M (b + 5 + 6 * k) (if k < n + 1 then RF S2 k else RF S k) (if k < n + 1 then RA S2 k else RA S k)
  rcases Nat.decEq k n with o | o
  · rw [up_n o, up_n o] at hk9
    have hk8 : RightAt cy z M (b + 5 + 6 * k) (if k < n then RF S2 k else RF S k) (if k < n then RA S2 k else RA S k) := hk9
    rcases Nat.lt_or_ge k n with o2 | o2
    · rw [if_pos o2, if_pos o2] at hk8; rw [if_pos (by omega), if_pos (by omega)]; exact hk8
    · rw [if_neg (by omega), if_neg (by omega)] at hk8; rw [if_neg (by omega), if_neg (by omega)]; exact hk8
  · subst o; rw [up_s, up_s] at hk9; rw [if_pos (by omega), if_pos (by omega)]; exact hk9
set_option maxHeartbeats 400000 in
set_option maxRecDepth 4000 in
theorem ok_X4_payNextFee {l : Launch} {D : va_G} {cy : Nat → ClassId} {z : Nat} {M : Mm} {K : Option Value → Mm → Prop} {b : Nat} {S : SD} (hS : StateAt cy z M b S) (hB : SB S) {i : Nat} (hi : i < 10) (h9 : RF S i 3 < 19) (hK : ∀ M', Sm M M' (PB b) → StateAt cy z M' b (payS S i) → K (some (iv (priceT S i (RF S i 3 + 1)))) M') :
    MT l D cy z false yX4_payNextFee (wsy yX4_payNextFee cX4_payNextFee 4 (some .int)) 3 67 0 0 M [.ref (z + b), .ref (z + (b + 5 + 6 * i))] K := by
  refine MT_of (by decide) w_261 (Nat.le_of_ble_eq_true rfl) ?_
  intro p e s m args below meth c C hr hx0
  have hS9 := hS
  have hB9 := hB
  obtain ⟨hn, c0, c1, c2, c3, c4, cR⟩ := hS
  obtain ⟨d0, d1, d2, d4, d5, d6, dH, dR⟩ := hB
  have hR9 := cR i hi
  have hB8 := dR i hi
  have hnr := hR9.1
  have mr := hR9.2.1
  have hB7 := hB8
  obtain ⟨b0, b1, b2, b3, b4⟩ := hB7
  have y0 : ∀ y, -1 ≤ yv (RA S i 0) (-1) y ∧ yv (RA S i 0) (-1) y ≤ 40000 := fun y => yv_rng (b4 0) (by omega)
  have y1 : ∀ y, -1 ≤ yv (RA S i 1) (-1) y ∧ yv (RA S i 1) (-1) y ≤ 40000 := fun y => yv_rng (b4 1) (by omega)
  have y2 : ∀ y, -1 ≤ yv (RA S i 2) 0 y ∧ yv (RA S i 2) 0 y ≤ 40000 := fun y => yv_rng (b4 2) (by omega)
  have y3 : ∀ y, -1 ≤ yv (RA S i 3) 0 y ∧ yv (RA S i 3) 0 y ≤ 40000 := fun y => yv_rng (b4 3) (by omega)
  have hx : nxt (RF S i) = if RF S i 3 < 19 then RF S i 3 + 1 else -1 := rfl
  refine V_aload_n C dX4_payNextFee_0 rfl ?_
  refine V_callV (fr := 0) (lo := 0) (mc := 0) (ms := 0) (As := []) C yvX3_nextYear w_241 dX4_payNextFee_1 rfl rfl (by repeat (first | with_reducible assumption | with_reducible exact mset_self _ _ _ | refine (mset_ne (by omega)).trans ?_)) (by (try simp only [mset_1]); omega) rfl rfl (Nat.le_of_ble_eq_true rfl) ⟨Nat.le_of_ble_eq_true rfl, Nat.le_of_ble_eq_true rfl⟩ ⟨Nat.le_of_ble_eq_true rfl, Nat.le_of_ble_eq_true rfl⟩ ?_
  refine ok_X3_nextYear hR9 hB8 ?_
  have e9 : nxt (RF S i) = RF S i 3 + 1 := by omega
  rw [e9]
  refine V_istore_n C dX4_payNextFee_4 (by decide) ?_
  refine V_aload_n C dX4_payNextFee_5 rfl ?_
  refine V_aload_n C dX4_payNextFee_6 rfl ?_
  refine V_iload_n C dX4_payNextFee_7 rfl ?_
  refine V_callV (fr := 2) (lo := 45) (mc := 0) (ms := 0) (As := [_, _]) C yvX4_priceToday w_262 dX4_payNextFee_8 rfl rfl (by repeat (first | with_reducible assumption | with_reducible exact mset_self _ _ _ | refine (mset_ne (by omega)).trans ?_)) (by (try simp only [mset_1]); omega) rfl rfl (Nat.le_of_ble_eq_true rfl) ⟨Nat.le_of_ble_eq_true rfl, Nat.le_of_ble_eq_true rfl⟩ ⟨Nat.le_of_ble_eq_true rfl, Nat.le_of_ble_eq_true rfl⟩ ?_
  refine ok_X4_priceToday hS9 hB9 hi (by omega) ?_
  refine V_istore_n C dX4_payNextFee_11 (by decide) ?_
  refine V_aload_n C dX4_payNextFee_12 rfl ?_
  refine V_dup C dX4_payNextFee_13 rfl ?_
  refine V_get C fg_X4_18 dX4_payNextFee_14 (by repeat (first | with_reducible assumption | with_reducible exact mset_self _ _ _ | refine (mset_ne (by omega)).trans ?_)) (by (try simp only [mset_1]); omega) (by rfl) ?_
  refine V_iload_n C dX4_payNextFee_17 rfl ?_
  refine V_iadd C dX4_payNextFee_18 ?_
  refine V_put C fp_X4_18 dX4_payNextFee_19 (by repeat (first | with_reducible assumption | with_reducible exact mset_self _ _ _ | refine (mset_ne (by omega)).trans ?_)) (by (try simp only [mset_1]); omega) rfl rfl (by exact Nat.le_of_ble_eq_true rfl) ?_
  refine V_memgen (fun M1 em => ?_)
  have s1 : Sm M M1 (fun j => j = b) := by rw [em]; exact Sm.set rfl
  have x1 : M1.2 b = oX 3 [iv (sc S 0), iv (sN S), iv (sc S 1 + (priceT S i (RF S i 3 + 1))), iv (sc S 2), iv (sc S 3), .ref (z + (b + 1)), .ref (z + (b + 2)), .ref (z + (b + 4))] := by rw [em]; exact mset_self _ _ _
  clear em
  have q1 := s1.1
  have hS1 : StateAt cy z M1 b (setSc S (va_up (sc S) 1 (sc S 1 + (priceT S i (RF S i 3 + 1))))) := hS9.cell s1 x1 rfl rfl rfl rfl
  have hB1 : SB (setSc S (va_up (sc S) 1 (sc S 1 + (priceT S i (RF S i 3 + 1))))) := hB9.sc d0 rfl rfl rfl
  refine V_aload_n C dX4_payNextFee_22 rfl ?_
  refine V_dup C dX4_payNextFee_23 rfl ?_
  refine V_get C fg_X4_21 dX4_payNextFee_24 (by repeat (first | with_reducible assumption | with_reducible exact mset_self _ _ _ | refine (mset_ne (by omega)).trans ?_)) (by (try simp only [mset_1]); omega) (by rfl) ?_
  refine V_aload_n C dX4_payNextFee_27 rfl ?_
  refine V_aload_n C dX4_payNextFee_28 rfl ?_
  refine V_iload_n C dX4_payNextFee_29 rfl ?_
  refine V_callV (fr := 1) (lo := 23) (mc := 0) (ms := 0) (As := [_, _]) C yvX4_surchargeToday w_270 dX4_payNextFee_30 rfl rfl (by repeat (first | with_reducible assumption | with_reducible exact mset_self _ _ _ | refine (mset_ne (by omega)).trans ?_)) (by (try simp only [mset_1]); omega) rfl rfl (Nat.le_of_ble_eq_true rfl) ⟨Nat.le_of_ble_eq_true rfl, Nat.le_of_ble_eq_true rfl⟩ ⟨Nat.le_of_ble_eq_true rfl, Nat.le_of_ble_eq_true rfl⟩ ?_
  refine ok_X4_surchargeToday hS1 hB1 hi (by omega) ?_
  rw [show surT (setSc S (va_up (sc S) 1 (sc S 1 + (priceT S i (RF S i 3 + 1))))) i (RF S i 3 + 1) = surT S i (RF S i 3 + 1) from surT_sc rfl rfl rfl rfl]
  refine V_iadd C dX4_payNextFee_33 ?_
  refine V_put C fp_X4_21 dX4_payNextFee_34 (by repeat (first | with_reducible assumption | with_reducible exact mset_self _ _ _ | refine (mset_ne (by omega)).trans ?_)) (by (try simp only [mset_1]); omega) rfl rfl (by exact Nat.le_of_ble_eq_true rfl) ?_
  refine V_memgen (fun M2 em => ?_)
  have s2 : Sm M1 M2 (fun j => j = b) := by rw [em]; exact Sm.set rfl
  have x2 : M2.2 b = oX 3 [iv (sc S 0), iv (sN S), iv (sc S 1 + (priceT S i (RF S i 3 + 1))), iv (sc S 2 + surT S i (RF S i 3 + 1)), iv (sc S 3), .ref (z + (b + 1)), .ref (z + (b + 2)), .ref (z + (b + 4))] := by rw [em]; exact mset_self _ _ _
  clear em
  have q2 := s2.1
  have hS2 : StateAt cy z M2 b (setSc S (payF S i)) := hS1.cell s2 x2 rfl rfl rfl rfl
  have hR2 : RightAt cy z M2 (b + 5 + 6 * i) (RF S i) (RA S i) := hS2.2.2.2.2.2.2 i hi
  have m2 := hR2.2.1
  refine V_aload_n C dX4_payNextFee_37 rfl ?_
  refine V_iload_n C dX4_payNextFee_38 rfl ?_
  refine V_aload_n C dX4_payNextFee_39 rfl ?_
  refine V_get C fg_X4_9 dX4_payNextFee_40 (by repeat (first | with_reducible assumption | with_reducible exact mset_self _ _ _ | refine (mset_ne (by omega)).trans ?_)) (by (try simp only [mset_1]); omega) (by rfl) ?_
  refine V_callV (fr := 1) (lo := 20) (mc := 0) (ms := 0) (As := [_, _]) C yvX3_takePayment w_278 dX4_payNextFee_43 rfl rfl (by repeat (first | with_reducible assumption | with_reducible exact mset_self _ _ _ | refine (mset_ne (by omega)).trans ?_)) (by (try simp only [mset_1]); omega) rfl rfl (Nat.le_of_ble_eq_true rfl) ⟨Nat.le_of_ble_eq_true rfl, Nat.le_of_ble_eq_true rfl⟩ ⟨Nat.le_of_ble_eq_true rfl, Nat.le_of_ble_eq_true rfl⟩ ?_
  refine ok_X3_takePayment hR2 hB8 h9 (fun M3 s3 x3 => ?_)
  refine V_iload_n C dX4_payNextFee_46 rfl ?_
  exact V_iret C hr dX4_payNextFee_47 (hK _ (((PB.cell s1).trans (PB.cell s2)).trans (PB.right hi s3)) (hS2.right hi s3 x3))

set_option maxHeartbeats 400000 in
set_option maxRecDepth 4000 in
theorem ok_X4_payAllFees {l : Launch} {D : va_G} {cy : Nat → ClassId} {z : Nat} {M : Mm} {K : Option Value → Mm → Prop} {b : Nat} {S : SD} (hS : StateAt cy z M b S) (hB : SB S) (hK : ∀ M', Sm M M' (PB b) → StateAt cy z M' b (payN S (sN S)).1 → K (some (iv (payN S (sN S)).2)) M') :
    MT l D cy z false yX4_payAllFees (wsy yX4_payAllFees cX4_payAllFees 3 (some .int)) 4 90 0 0 M [.ref (z + b)] K := by
  refine MT_of (by decide) w_236 (Nat.le_of_ble_eq_true rfl) ?_
  intro p e s m args below meth c C hr hx0
  have hS9 := hS
  have hB9 := hB
  obtain ⟨hn, c0, c1, c2, c3, c4, cR⟩ := hS
  obtain ⟨d0, d1, d2, d4, d5, d6, dH, dR⟩ := hB
  have loop : ∀ (n : Nat) (i : Nat) (M9 : Mm), (i ≤ sN S) → (Sm M M9 (PB b)) → (StateAt cy z M9 b (payN S i).1) → 10 - i < n → V p l e { frames := 4, cells := 0, slots := 0, locals := 90 } s m args below meth c D z 3 (MQ below (qc_ D z K) args s 0 0 (fun q => z ≤ q)) 0 0 M9 4 [(0, .ref (z + b)), (1, iv ((payN S i).2)), (2, iv ((i : Int)))] [] := by
    intro n
    induction n with
    | zero => intro i M9 hi0 hi1 hi2 hfu; exact absurd hfu (Nat.not_lt_zero _)
    | succ n ih =>
      intro i M9 hi0 hi1 hi2 hfu
      have eN := payN_n (S := S) i
      have hBN := payN_B hB9 i (by omega)
      obtain ⟨hn9, e0, e1, e2, e3, e4, eR⟩ := id hi2
      refine V_iload_n C dX4_payAllFees_4 rfl ?_
      refine V_aload_n C dX4_payAllFees_5 rfl ?_
      refine V_get C fg_X4_15 dX4_payAllFees_6 (by repeat (first | with_reducible assumption | with_reducible exact mset_self _ _ _ | refine (mset_ne (by omega)).trans ?_)) (by (try simp only [mset_1]); omega) (by rfl) ?_
      refine V_icmp_ge C dX4_payAllFees_9 (tgt := 53) (by decide) (by omega) (by omega) (fun g9 => ?_) (fun g9 => ?_)
      · refine V_iload_n C dX4_payAllFees_53 rfl ?_
        exact V_iret C hr dX4_payAllFees_54 (K_of (hK _ hi1 (by rw [show sN S = i by omega]; exact hi2)) (by rw [show sN S = i by omega]))
      · have hi : i < 10 := by omega
        refine V_iload_n C dX4_payAllFees_12 rfl ?_
        refine V_aload_n C dX4_payAllFees_13 rfl ?_
        refine V_get C fg_X4_29 dX4_payAllFees_14 (by repeat (first | with_reducible assumption | with_reducible exact mset_self _ _ _ | refine (mset_ne (by omega)).trans ?_)) (by (try simp only [mset_1]); omega) (by rfl) ?_
        refine V_alenQ (t := 3) C rfl dX4_payAllFees_17 (by repeat (first | with_reducible assumption | with_reducible exact mset_self _ _ _ | refine (mset_ne (by omega)).trans ?_)) (by (try simp only [mset_1]); omega) ?_
        refine V_icmp_ge C dX4_payAllFees_18 (tgt := 53) (by decide) (by omega) (by omega) (fun g18 => ?_) (fun g18 => ?_)
        · exact absurd g18 (by omega)
        · refine V_aload_n C dX4_payAllFees_21 rfl ?_
          refine V_aload_n C dX4_payAllFees_22 rfl ?_
          refine V_get C fg_X4_29 dX4_payAllFees_23 (by repeat (first | with_reducible assumption | with_reducible exact mset_self _ _ _ | refine (mset_ne (by omega)).trans ?_)) (by (try simp only [mset_1]); omega) (by rfl) ?_
          refine V_iload_n C dX4_payAllFees_26 rfl ?_
          refine V_aaload (t := 3) C rfl dX4_payAllFees_27 (by repeat (first | with_reducible assumption | with_reducible exact mset_self _ _ _ | refine (mset_ne (by omega)).trans ?_)) (by (try simp only [mset_1]); omega) (by omega) (by omega) (by rw [Int.toNat_natCast]) ?_
          refine V_callV (fr := 2) (lo := 43) (mc := 0) (ms := 0) (As := [_]) C yvX4_canPay w_237 dX4_payAllFees_28 rfl rfl (by repeat (first | with_reducible assumption | with_reducible exact mset_self _ _ _ | refine (mset_ne (by omega)).trans ?_)) (by (try simp only [mset_1]); omega) rfl rfl (Nat.le_of_ble_eq_true rfl) ⟨Nat.le_of_ble_eq_true rfl, Nat.le_of_ble_eq_true rfl⟩ ⟨Nat.le_of_ble_eq_true rfl, Nat.le_of_ble_eq_true rfl⟩ ?_
          refine ok_X4_canPay hi2 hBN hi (fun hc => ?_) (fun hc => ?_)
          · refine V_ifeq1 C dX4_payAllFees_31 (tgt := 47) (by decide) ?_
            refine V_iload_n C dX4_payAllFees_34 rfl ?_
            refine V_aload_n C dX4_payAllFees_35 rfl ?_
            refine V_aload_n C dX4_payAllFees_36 rfl ?_
            refine V_get C fg_X4_29 dX4_payAllFees_37 (by repeat (first | with_reducible assumption | with_reducible exact mset_self _ _ _ | refine (mset_ne (by omega)).trans ?_)) (by (try simp only [mset_1]); omega) (by rfl) ?_
            refine V_iload_n C dX4_payAllFees_40 rfl ?_
            refine V_aaload (t := 3) C rfl dX4_payAllFees_41 (by repeat (first | with_reducible assumption | with_reducible exact mset_self _ _ _ | refine (mset_ne (by omega)).trans ?_)) (by (try simp only [mset_1]); omega) (by omega) (by omega) (by rw [Int.toNat_natCast]) ?_
            refine V_callV (fr := 3) (lo := 67) (mc := 0) (ms := 0) (As := [_]) C yvX4_payNextFee w_258 dX4_payAllFees_42 rfl rfl (by repeat (first | with_reducible assumption | with_reducible exact mset_self _ _ _ | refine (mset_ne (by omega)).trans ?_)) (by (try simp only [mset_1]); omega) rfl rfl (Nat.le_of_ble_eq_true rfl) ⟨Nat.le_of_ble_eq_true rfl, Nat.le_of_ble_eq_true rfl⟩ ⟨Nat.le_of_ble_eq_true rfl, Nat.le_of_ble_eq_true rfl⟩ ?_
            refine ok_X4_payNextFee hi2 hBN hi (canPay_3 hc) (fun M3 s3 x3 => ?_)
            refine V_iadd C dX4_payAllFees_45 ?_
            refine V_istore_n C dX4_payAllFees_46 (by decide) ?_
            refine V_iinc C dX4_payAllFees_47 rfl (by decide) ?_
            refine V_goto C dX4_payAllFees_50 (tgt := 4) (by decide) ?_
            refine V_lv [(0, .ref (z + b)), (1, iv ((payN S (i + 1)).2)), (2, iv (((i + 1 : Nat) : Int)))] (List.forall_mem_cons.mpr ⟨(by first | rfl | exact congrArg (fun t => some (iv t)) (by rw [payN_t hc])), (List.forall_mem_cons.mpr ⟨(by first | rfl | exact congrArg (fun t => some (iv t)) (by rw [payN_t hc])), (List.forall_mem_cons.mpr ⟨(by first | rfl | exact congrArg (fun t => some (iv t)) (by rw [payN_t hc])), (fun _ h => nomatch h)⟩)⟩)⟩) ?_
            exact ih (i + 1) _ (by omega) (hi1.trans s3) (by rw [payN_t hc]; exact x3) (by omega)
          · refine V_ifeq0 C dX4_payAllFees_31 (tgt := 47) (by decide) ?_
            refine V_iinc C dX4_payAllFees_47 rfl (by decide) ?_
            refine V_goto C dX4_payAllFees_50 (tgt := 4) (by decide) ?_
            refine V_lv [(0, .ref (z + b)), (1, iv ((payN S (i + 1)).2)), (2, iv (((i + 1 : Nat) : Int)))] (List.forall_mem_cons.mpr ⟨(by first | rfl | exact congrArg (fun t => some (iv t)) (by rw [payN_f hc])), (List.forall_mem_cons.mpr ⟨(by first | rfl | exact congrArg (fun t => some (iv t)) (by rw [payN_f hc])), (List.forall_mem_cons.mpr ⟨(by first | rfl | exact congrArg (fun t => some (iv t)) (by rw [payN_f hc])), (fun _ h => nomatch h)⟩)⟩)⟩) ?_
            exact ih (i + 1) _ (by omega) hi1 (by rw [payN_f hc]; exact hi2) (by omega)
  refine V_iconst C dX4_payAllFees_0 ?_
  refine V_istore_n C dX4_payAllFees_1 (by decide) ?_
  refine V_iconst C dX4_payAllFees_2 ?_
  refine V_istore_n C dX4_payAllFees_3 (by decide) ?_
  refine V_lv [(0, .ref (z + b)), (1, iv ((payN S 0).2)), (2, iv (((0 : Nat) : Int)))] (List.forall_mem_cons.mpr ⟨(by first | rfl | exact congrArg (fun t => some (iv t)) (by omega)), (List.forall_mem_cons.mpr ⟨(by first | rfl | exact congrArg (fun t => some (iv t)) (by omega)), (List.forall_mem_cons.mpr ⟨(by first | rfl | exact congrArg (fun t => some (iv t)) (by omega)), (fun _ h => nomatch h)⟩)⟩)⟩) ?_
  exact loop 11 0 M (by omega) (Sm.rf _ _) hS9 (by omega)

set_option maxHeartbeats 400000 in
set_option maxRecDepth 4000 in
theorem ok_X4_reviveRight {l : Launch} {D : va_G} {cy : Nat → ClassId} {z : Nat} {M : Mm} {K : Option Value → Mm → Prop} {b : Nat} {S : SD} (hS : StateAt cy z M b S) (hB : SB S) {i : Nat} (hi : i < 10) (h9 : RF S i 3 < 19) (hK : ∀ M', Sm M M' (PB b) → StateAt cy z M' b (revF i 19 (rvS S i) (sc S 7)).1 → K (some (iv (revF i 19 (rvS S i) (sc S 7)).2)) M') :
    MT l D cy z false yX4_reviveRight (wsy yX4_reviveRight cX4_reviveRight 4 (some .int)) 4 90 0 0 M [.ref (z + b), .ref (z + (b + 5 + 6 * i))] K := by
  refine MT_of (by decide) w_653 (Nat.le_of_ble_eq_true rfl) ?_
  intro p e s m args below meth c C hr hx0
  have hS9 := hS
  have hB9 := hB
  obtain ⟨hn, c0, c1, c2, c3, c4, cR⟩ := hS
  obtain ⟨d0, d1, d2, d4, d5, d6, dH, dR⟩ := hB
  have loop : ∀ (n : Nat) (S9 : SD) (s9 : Int) (j9 : Nat) (M9 : Mm), (j9 ≤ 19) → (Sm M M9 (PB b)) → (StateAt cy z M9 b S9) → (SB S9) → (revF i (19 - j9) S9 s9 = revF i 19 (rvS S i) (sc S 7)) → 19 - j9 < n → V p l e { frames := 4, cells := 0, slots := 0, locals := 90 } s m args below meth c D z 4 (MQ below (qc_ D z K) args s 0 0 (fun q => z ≤ q)) 0 0 M9 61 [(0, .ref (z + b)), (1, .ref (z + (b + 5 + 6 * i))), (2, iv (s9)), (3, iv ((j9 : Int)))] [] := by
    intro n
    induction n with
    | zero => intro S9 s9 j9 M9 hi0 hi1 hi2 hi3 hi4 hfu; exact absurd hfu (Nat.not_lt_zero _)
    | succ n ih =>
      intro S9 s9 j9 M9 hi0 hi1 hi2 hi3 hi4 hfu
      obtain ⟨hn9, e0, e1, e2, e3, e4, eR⟩ := id hi2
      obtain ⟨d0, d1, d2, d4, d5, d6, dH, dR⟩ := id hi3
      have hR9 := eR i hi
      have hB8 := dR i hi
      have hnr := hR9.1
      have mr := hR9.2.1
      refine V_iload_n C dX4_reviveRight_61 rfl ?_
      refine V_bipush C dX4_reviveRight_62 (by decide) ?_
      refine V_icmp_ge C dX4_reviveRight_64 (tgt := 92) (by decide) (by omega) (by omega) (fun g64 => ?_) (fun g64 => ?_)
      · refine V_iload_n C dX4_reviveRight_92 rfl ?_
        exact V_iret C hr dX4_reviveRight_93 (K_of (hK _ hi1 (by rw [← hi4, show 19 - j9 = 0 by omega]; exact hi2)) (by rw [← hi4, show 19 - j9 = 0 by omega]; rfl))
      · refine V_aload_n C dX4_reviveRight_67 rfl ?_
        refine V_aload_n C dX4_reviveRight_68 rfl ?_
        refine V_get C fg_X4_9 dX4_reviveRight_69 (by repeat (first | with_reducible assumption | with_reducible exact mset_self _ _ _ | refine (mset_ne (by omega)).trans ?_)) (by (try simp only [mset_1]); omega) (by rfl) ?_
        refine V_callV (fr := 1) (lo := 21) (mc := 0) (ms := 0) (As := [_]) C yvX3_isLapsed w_245 dX4_reviveRight_72 rfl rfl (by repeat (first | with_reducible assumption | with_reducible exact mset_self _ _ _ | refine (mset_ne (by omega)).trans ?_)) (by (try simp only [mset_1]); omega) rfl rfl (Nat.le_of_ble_eq_true rfl) ⟨Nat.le_of_ble_eq_true rfl, Nat.le_of_ble_eq_true rfl⟩ ⟨Nat.le_of_ble_eq_true rfl, Nat.le_of_ble_eq_true rfl⟩ ?_
        refine ok_X3_isLapsed hR9 hB8 (by omega) (fun hl => ?_) (fun hl => ?_)
        · refine V_ifeq1 C dX4_reviveRight_75 (tgt := 92) (by decide) ?_
          refine V_iload_n C dX4_reviveRight_78 rfl ?_
          refine V_aload_n C dX4_reviveRight_79 rfl ?_
          refine V_aload_n C dX4_reviveRight_80 rfl ?_
          refine V_callV (fr := 3) (lo := 67) (mc := 0) (ms := 0) (As := [_]) C yvX4_payNextFee w_258 dX4_reviveRight_81 rfl rfl (by repeat (first | with_reducible assumption | with_reducible exact mset_self _ _ _ | refine (mset_ne (by omega)).trans ?_)) (by (try simp only [mset_1]); omega) rfl rfl (Nat.le_of_ble_eq_true rfl) ⟨Nat.le_of_ble_eq_true rfl, Nat.le_of_ble_eq_true rfl⟩ ⟨Nat.le_of_ble_eq_true rfl, Nat.le_of_ble_eq_true rfl⟩ ?_
          refine ok_X4_payNextFee hi2 hi3 hi hl.1 (fun M3 s3 x3 => ?_)
          refine V_iadd C dX4_reviveRight_84 ?_
          refine V_istore_n C dX4_reviveRight_85 (by decide) ?_
          refine V_iinc C dX4_reviveRight_86 rfl (by decide) ?_
          refine V_goto C dX4_reviveRight_89 (tgt := 61) (by decide) ?_
          refine V_lv [(0, .ref (z + b)), (1, .ref (z + (b + 5 + 6 * i))), (2, iv (s9 + priceT S9 i (RF S9 i 3 + 1))), (3, iv (((j9 + 1 : Nat) : Int)))] (List.forall_mem_cons.mpr ⟨(by first | rfl | exact congrArg (fun t => some (iv t)) (by push_cast; omega)), (List.forall_mem_cons.mpr ⟨(by first | rfl | exact congrArg (fun t => some (iv t)) (by push_cast; omega)), (List.forall_mem_cons.mpr ⟨(by first | rfl | exact congrArg (fun t => some (iv t)) (by push_cast; omega)), (List.forall_mem_cons.mpr ⟨(by first | rfl | exact congrArg (fun t => some (iv t)) (by push_cast; omega)), (fun _ h => nomatch h)⟩)⟩)⟩)⟩) ?_
          exact ih (payS S9 i) (s9 + priceT S9 i (RF S9 i 3 + 1)) (j9 + 1) _ (by omega) (hi1.trans s3) x3 (payS_B hi3 hi hl.1) (by rw [← hi4, show 19 - j9 = (19 - (j9 + 1)) + 1 by omega, revF_t (lapB_t hl)]) (by omega)
        · refine V_ifeq0 C dX4_reviveRight_75 (tgt := 92) (by decide) ?_
          refine V_iload_n C dX4_reviveRight_92 rfl ?_
          exact V_iret C hr dX4_reviveRight_93 (K_of (hK _ hi1 (by rw [← hi4, revF_f (lapB_f hl)]; exact hi2)) (by rw [← hi4, revF_f (lapB_f hl)]))
  have hR9 := cR i hi
  have hB8 := dR i hi
  have hnr := hR9.1
  have mr := hR9.2.1
  have hB7 := hB8
  obtain ⟨b0, b1, b2, b3, b4⟩ := hB7
  have y0 : ∀ y, -1 ≤ yv (RA S i 0) (-1) y ∧ yv (RA S i 0) (-1) y ≤ 40000 := fun y => yv_rng (b4 0) (by omega)
  have y1 : ∀ y, -1 ≤ yv (RA S i 1) (-1) y ∧ yv (RA S i 1) (-1) y ≤ 40000 := fun y => yv_rng (b4 1) (by omega)
  have y2 : ∀ y, -1 ≤ yv (RA S i 2) 0 y ∧ yv (RA S i 2) 0 y ≤ 40000 := fun y => yv_rng (b4 2) (by omega)
  have y3 : ∀ y, -1 ≤ yv (RA S i 3) 0 y ∧ yv (RA S i 3) 0 y ≤ 40000 := fun y => yv_rng (b4 3) (by omega)
  have hx : nxt (RF S i) = if RF S i 3 < 19 then RF S i 3 + 1 else -1 := rfl
  refine V_aload_n C dX4_reviveRight_0 rfl ?_
  refine V_get C fg_X4_43 dX4_reviveRight_1 (by repeat (first | with_reducible assumption | with_reducible exact mset_self _ _ _ | refine (mset_ne (by omega)).trans ?_)) (by (try simp only [mset_1]); omega) (by rfl) ?_
  refine V_get C fg_X4_145 dX4_reviveRight_4 (by repeat (first | with_reducible assumption | with_reducible exact mset_self _ _ _ | refine (mset_ne (by omega)).trans ?_)) (by (try simp only [mset_1]); omega) (by rfl) ?_
  refine V_istore_n C dX4_reviveRight_7 (by decide) ?_
  refine V_aload_n C dX4_reviveRight_8 rfl ?_
  refine V_dup C dX4_reviveRight_9 rfl ?_
  refine V_get C fg_X4_18 dX4_reviveRight_10 (by repeat (first | with_reducible assumption | with_reducible exact mset_self _ _ _ | refine (mset_ne (by omega)).trans ?_)) (by (try simp only [mset_1]); omega) (by rfl) ?_
  refine V_aload_n C dX4_reviveRight_13 rfl ?_
  refine V_get C fg_X4_43 dX4_reviveRight_14 (by repeat (first | with_reducible assumption | with_reducible exact mset_self _ _ _ | refine (mset_ne (by omega)).trans ?_)) (by (try simp only [mset_1]); omega) (by rfl) ?_
  refine V_get C fg_X4_145 dX4_reviveRight_17 (by repeat (first | with_reducible assumption | with_reducible exact mset_self _ _ _ | refine (mset_ne (by omega)).trans ?_)) (by (try simp only [mset_1]); omega) (by rfl) ?_
  refine V_iadd C dX4_reviveRight_20 ?_
  refine V_put C fp_X4_18 dX4_reviveRight_21 (by repeat (first | with_reducible assumption | with_reducible exact mset_self _ _ _ | refine (mset_ne (by omega)).trans ?_)) (by (try simp only [mset_1]); omega) rfl rfl (by exact Nat.le_of_ble_eq_true rfl) ?_
  refine V_memgen (fun M1 em => ?_)
  have s1 : Sm M M1 (fun j => j = b) := by rw [em]; exact Sm.set rfl
  have x1 : M1.2 b = oX 3 [iv (sc S 0), iv (sN S), iv (sc S 1 + sc S 7), iv (sc S 2), iv (sc S 3), .ref (z + (b + 1)), .ref (z + (b + 2)), .ref (z + (b + 4))] := by rw [em]; exact mset_self _ _ _
  clear em
  have q1 := s1.1
  have hS1 : StateAt cy z M1 b (setSc S (va_up (sc S) 1 (sc S 1 + sc S 7))) := hS9.cell s1 x1 rfl rfl rfl rfl
  have f1 : M1.2 (b + 4) = _ := (s1.2 _ (by omega)).trans c4
  refine V_aload_n C dX4_reviveRight_24 rfl ?_
  refine V_dup C dX4_reviveRight_25 rfl ?_
  refine V_get C fg_X4_24 dX4_reviveRight_26 (by repeat (first | with_reducible assumption | with_reducible exact mset_self _ _ _ | refine (mset_ne (by omega)).trans ?_)) (by (try simp only [mset_1]); omega) (by rfl) ?_
  refine V_aload_n C dX4_reviveRight_29 rfl ?_
  refine V_get C fg_X4_43 dX4_reviveRight_30 (by repeat (first | with_reducible assumption | with_reducible exact mset_self _ _ _ | refine (mset_ne (by omega)).trans ?_)) (by (try simp only [mset_1]); omega) (by rfl) ?_
  refine V_get C fg_X4_145 dX4_reviveRight_33 (by repeat (first | with_reducible assumption | with_reducible exact mset_self _ _ _ | refine (mset_ne (by omega)).trans ?_)) (by (try simp only [mset_1]); omega) (by rfl) ?_
  refine V_iadd C dX4_reviveRight_36 ?_
  refine V_put C fp_X4_24 dX4_reviveRight_37 (by repeat (first | with_reducible assumption | with_reducible exact mset_self _ _ _ | refine (mset_ne (by omega)).trans ?_)) (by (try simp only [mset_1]); omega) rfl rfl (by exact Nat.le_of_ble_eq_true rfl) ?_
  refine V_memgen (fun M2 em => ?_)
  have s2 : Sm M1 M2 (fun j => j = b) := by rw [em]; exact Sm.set rfl
  have x2 : M2.2 b = oX 3 [iv (sc S 0), iv (sN S), iv (sc S 1 + sc S 7), iv (sc S 2), iv (sc S 3 + sc S 7), .ref (z + (b + 1)), .ref (z + (b + 2)), .ref (z + (b + 4))] := by rw [em]; exact mset_self _ _ _
  clear em
  have q2 := s2.1
  have hS2 : StateAt cy z M2 b (setSc S (rvF S)) := hS1.cell s2 x2 rfl rfl rfl rfl
  have hR2 : RightAt cy z M2 (b + 5 + 6 * i) (RF S i) (RA S i) := hS2.2.2.2.2.2.2 i hi
  have m2 := hR2.2.1
  have f2 : M2.2 (b + 4) = _ := (s2.2 _ (by omega)).trans f1
  refine V_aload_n C dX4_reviveRight_40 rfl ?_
  refine V_aload_n C dX4_reviveRight_41 rfl ?_
  refine V_callV (fr := 0) (lo := 0) (mc := 0) (ms := 0) (As := []) C yvX3_nextYear w_241 dX4_reviveRight_42 rfl rfl (by repeat (first | with_reducible assumption | with_reducible exact mset_self _ _ _ | refine (mset_ne (by omega)).trans ?_)) (by (try simp only [mset_1]); omega) rfl rfl (Nat.le_of_ble_eq_true rfl) ⟨Nat.le_of_ble_eq_true rfl, Nat.le_of_ble_eq_true rfl⟩ ⟨Nat.le_of_ble_eq_true rfl, Nat.le_of_ble_eq_true rfl⟩ ?_
  refine ok_X3_nextYear hR2 hB8 ?_
  have e9 : nxt (RF S i) = RF S i 3 + 1 := by omega
  rw [e9]
  refine V_aload_n C dX4_reviveRight_45 rfl ?_
  refine V_get C fg_X4_43 dX4_reviveRight_46 (by repeat (first | with_reducible assumption | with_reducible exact mset_self _ _ _ | refine (mset_ne (by omega)).trans ?_)) (by (try simp only [mset_1]); omega) (by rfl) ?_
  refine V_get C fg_X4_145 dX4_reviveRight_49 (by repeat (first | with_reducible assumption | with_reducible exact mset_self _ _ _ | refine (mset_ne (by omega)).trans ?_)) (by (try simp only [mset_1]); omega) (by rfl) ?_
  refine V_aload_n C dX4_reviveRight_52 rfl ?_
  refine V_get C fg_X4_9 dX4_reviveRight_53 (by repeat (first | with_reducible assumption | with_reducible exact mset_self _ _ _ | refine (mset_ne (by omega)).trans ?_)) (by (try simp only [mset_1]); omega) (by rfl) ?_
  refine V_callV (fr := 0) (lo := 0) (mc := 0) (ms := 0) (As := [_, _, _]) C yvX3_takeRevival w_654 dX4_reviveRight_56 rfl rfl (by repeat (first | with_reducible assumption | with_reducible exact mset_self _ _ _ | refine (mset_ne (by omega)).trans ?_)) (by (try simp only [mset_1]); omega) rfl rfl (Nat.le_of_ble_eq_true rfl) ⟨Nat.le_of_ble_eq_true rfl, Nat.le_of_ble_eq_true rfl⟩ ⟨Nat.le_of_ble_eq_true rfl, Nat.le_of_ble_eq_true rfl⟩ ?_
  refine ok_X3_takeRevival hR2 hB8 (by omega) (fun M3 s3 x3 => ?_)
  refine V_iconst C dX4_reviveRight_59 ?_
  refine V_istore_n C dX4_reviveRight_60 (by decide) ?_
  refine V_lv [(0, .ref (z + b)), (1, .ref (z + (b + 5 + 6 * i))), (2, iv (sc S 7)), (3, iv (((0 : Nat) : Int)))] (List.forall_mem_cons.mpr ⟨(by first | rfl | exact congrArg (fun t => some (iv t)) (by omega)), (List.forall_mem_cons.mpr ⟨(by first | rfl | exact congrArg (fun t => some (iv t)) (by omega)), (List.forall_mem_cons.mpr ⟨(by first | rfl | exact congrArg (fun t => some (iv t)) (by omega)), (List.forall_mem_cons.mpr ⟨(by first | rfl | exact congrArg (fun t => some (iv t)) (by omega)), (fun _ h => nomatch h)⟩)⟩)⟩)⟩) ?_
  exact loop 20 (rvS S i) (sc S 7) 0 M3 (by omega) (((PB.cell s1).trans (PB.cell s2)).trans (PB.right hi s3)) (hS2.right hi s3 x3) (rvS_B hB9 hi) rfl (by omega)

set_option maxHeartbeats 400000 in
set_option maxRecDepth 4000 in
theorem ok_X4_addRight {l : Launch} {D : va_G} {cy : Nat → ClassId} {z : Nat} {M : Mm} {K : Option Value → Mm → Prop} {b : Nat} {S : SD} (hS : StateAt cy z M b S) (hB : SB S) (h9 : sN S < 10) {d w : Int} (hd : 0 ≤ d ∧ d ≤ 18262) (hw : w = 0 ∨ w = 1) (hK : ∀ M', Sm M M' (PB b) → StateAt cy z M' b (addS S d w) → K none M') :
    MT l D cy z false yX4_addRight (wsy yX4_addRight cX4_addRight 3 none) 5 113 0 0 M [.ref (z + b), iv d, iv w] K := by
  refine MT_of (by decide) w_343 (Nat.le_of_ble_eq_true rfl) ?_
  intro p e s m args below meth c C hr hx0
  have hS9 := hS
  have hB9 := hB
  obtain ⟨hn, c0, c1, c2, c3, c4, cR⟩ := hS
  obtain ⟨d0, d1, d2, d4, d5, d6, dH, dR⟩ := hB
  have hi : sN S < 10 := h9
  have hR9 := cR (sN S) hi
  have hnr := hR9.1
  have mr := hR9.2.1
  refine V_aload_n C dX4_addRight_0 rfl ?_
  refine V_get C fg_X4_15 dX4_addRight_1 (by repeat (first | with_reducible assumption | with_reducible exact mset_self _ _ _ | refine (mset_ne (by omega)).trans ?_)) (by (try simp only [mset_1]); omega) (by rfl) ?_
  refine V_if_lt C dX4_addRight_4 (tgt := 47) (by decide) (by omega) (fun g4 => ?_) (fun g4 => ?_)
  · exact absurd g4 (by omega)
  · refine V_aload_n C dX4_addRight_7 rfl ?_
    refine V_get C fg_X4_15 dX4_addRight_8 (by repeat (first | with_reducible assumption | with_reducible exact mset_self _ _ _ | refine (mset_ne (by omega)).trans ?_)) (by (try simp only [mset_1]); omega) (by rfl) ?_
    refine V_aload_n C dX4_addRight_11 rfl ?_
    refine V_get C fg_X4_29 dX4_addRight_12 (by repeat (first | with_reducible assumption | with_reducible exact mset_self _ _ _ | refine (mset_ne (by omega)).trans ?_)) (by (try simp only [mset_1]); omega) (by rfl) ?_
    refine V_alenQ (t := 3) C rfl dX4_addRight_15 (by repeat (first | with_reducible assumption | with_reducible exact mset_self _ _ _ | refine (mset_ne (by omega)).trans ?_)) (by (try simp only [mset_1]); omega) ?_
    refine V_icmp_ge C dX4_addRight_16 (tgt := 47) (by decide) (by omega) (by omega) (fun g16 => ?_) (fun g16 => ?_)
    · exact absurd g16 (by omega)
    · refine V_aload_n C dX4_addRight_19 rfl ?_
      refine V_get C fg_X4_29 dX4_addRight_20 (by repeat (first | with_reducible assumption | with_reducible exact mset_self _ _ _ | refine (mset_ne (by omega)).trans ?_)) (by (try simp only [mset_1]); omega) (by rfl) ?_
      refine V_aload_n C dX4_addRight_23 rfl ?_
      refine V_get C fg_X4_15 dX4_addRight_24 (by repeat (first | with_reducible assumption | with_reducible exact mset_self _ _ _ | refine (mset_ne (by omega)).trans ?_)) (by (try simp only [mset_1]); omega) (by rfl) ?_
      refine V_aaload (t := 3) C rfl dX4_addRight_27 (by repeat (first | with_reducible assumption | with_reducible exact mset_self _ _ _ | refine (mset_ne (by omega)).trans ?_)) (by (try simp only [mset_1]); omega) (by omega) (by omega) (by rw [Int.toNat_natCast]) ?_
      refine V_iload_n C dX4_addRight_28 rfl ?_
      refine V_iload_n C dX4_addRight_29 rfl ?_
      refine V_aload_n C dX4_addRight_30 rfl ?_
      refine V_get C fg_X4_36 dX4_addRight_31 (by repeat (first | with_reducible assumption | with_reducible exact mset_self _ _ _ | refine (mset_ne (by omega)).trans ?_)) (by (try simp only [mset_1]); omega) (by rfl) ?_
      refine V_callV (fr := 4) (lo := 89) (mc := 0) (ms := 0) (As := [_, _, _]) C yvX3_start w_344 dX4_addRight_34 rfl rfl (by repeat (first | with_reducible assumption | with_reducible exact mset_self _ _ _ | refine (mset_ne (by omega)).trans ?_)) (by (try simp only [mset_1]); omega) rfl rfl (Nat.le_of_ble_eq_true rfl) ⟨Nat.le_of_ble_eq_true rfl, Nat.le_of_ble_eq_true rfl⟩ ⟨Nat.le_of_ble_eq_true rfl, Nat.le_of_ble_eq_true rfl⟩ ?_
      refine ok_X3_start hR9 hS9.hol d2 dH (by omega) hd hw (fun M3 s3 x3 => ?_)
      have q3 := s3.1
      have x0 : M3.2 b = _ := (s3.2 _ (by omega)).trans c0
      have hS3 := hS9.right hi s3 x3
      refine V_aload_n C dX4_addRight_37 rfl ?_
      refine V_dup C dX4_addRight_38 rfl ?_
      refine V_get C fg_X4_15 dX4_addRight_39 (by repeat (first | with_reducible assumption | with_reducible exact mset_self _ _ _ | refine (mset_ne (by omega)).trans ?_)) (by (try simp only [mset_1]); omega) (by rfl) ?_
      refine V_iconst C dX4_addRight_42 ?_
      refine V_iadd C dX4_addRight_43 ?_
      refine V_put C fp_X4_15 dX4_addRight_44 (by repeat (first | with_reducible assumption | with_reducible exact mset_self _ _ _ | refine (mset_ne (by omega)).trans ?_)) (by (try simp only [mset_1]); omega) rfl rfl (by exact Nat.le_of_ble_eq_true rfl) ?_
      exact V_vret C hr dX4_addRight_47 (hK _ ((PB.right hi s3).trans (PB.cell (Sm.set rfl))) (hS3.cell (n := sN S + 1) (Sm.set rfl) (mset_self _ _ _) rfl rfl rfl rfl))

set_option maxHeartbeats 400000 in
set_option maxRecDepth 4000 in
theorem ok_X4_takeRights {l : Launch} {D : va_G} {cy : Nat → ClassId} {z : Nat} {M : Mm} {K : Option Value → Mm → Prop} {b : Nat} {S : SD} (hS : StateAt cy z M b S) (hB : SB S) {t n9 : Nat} {T bs fl sm : Nat → Int} (hT : TextAt cy z M t T bs fl sm) (hd : t + 4 ≤ b ∨ b + 65 ≤ t) (h3 : T 3 = n9) (hn9 : n9 ≤ 10) (hf : ∀ j, j < n9 → (0 ≤ fl j ∧ fl j ≤ 18262) ∧ (sm j = 0 ∨ sm j = 1)) (hK : ∀ M', Sm M M' (PB b) → StateAt cy z M' b (tkF S fl sm n9) → K none M') :
    MT l D cy z false yX4_takeRights (wsy yX4_takeRights cX4_takeRights 4 none) 6 135 0 0 M [.ref (z + b), .ref (z + t)] K := by
  refine MT_of (by decide) w_339 (Nat.le_of_ble_eq_true rfl) ?_
  intro p e s m args below meth c C hr hx0
  have hS9 := hS
  have hB9 := hB
  obtain ⟨hn, c0, c1, c2, c3, c4, cR⟩ := hS
  obtain ⟨d0, d1, d2, d4, d5, d6, dH, dR⟩ := hB
  have loop : ∀ (n : Nat) (i : Nat) (M9 : Mm), (i ≤ n9) → (Sm M M9 (PB b)) → (StateAt cy z M9 b (tkS S fl sm i)) → 10 - i < n → V p l e { frames := 6, cells := 0, slots := 0, locals := 135 } s m args below meth c D z 4 (MQ below (qc_ D z K) args s 0 0 (fun q => z ≤ q)) 0 0 M9 24 [(0, .ref (z + b)), (1, .ref (z + t)), (2, iv (mxN fl i)), (3, iv ((i : Int)))] [] := by
    intro n
    induction n with
    | zero => intro i M9 hi0 hi1 hi2 hfu; exact absurd hfu (Nat.not_lt_zero _)
    | succ n ih =>
      intro i M9 hi0 hi1 hi2 hfu
      have eN := tkS_n (S := S) (fl := fl) (sm := sm) i
      have hBN := tkS_B hB9 i (by omega) (fun j hj => hf j (by omega))
      obtain ⟨hn9, e0, e1, e2, e3, e4, eR⟩ := id hi2
      have hT9 := hT.keep hi1 (fun k h1 h2 o => by have := o.1; have := o.2; omega)
      obtain ⟨tn, t0, t1, t2, t3⟩ := id hT9
      have mf0 := mxN_rng (fl := fl) i (fun j hj => (hf j (by omega)).1)
      refine V_iload_n C dX4_takeRights_24 rfl ?_
      refine V_aload_n C dX4_takeRights_25 rfl ?_
      refine V_get C fg_X4_62 dX4_takeRights_26 (by repeat (first | with_reducible assumption | with_reducible exact mset_self _ _ _ | refine (mset_ne (by omega)).trans ?_)) (by (try simp only [mset_1]); omega) (by rfl) ?_
      refine V_icmp_ge C dX4_takeRights_29 (tgt := 83) (by decide) (by omega) (by omega) (fun g29 => ?_) (fun g29 => ?_)
      · refine V_aload_n C dX4_takeRights_83 rfl ?_
        refine V_get C fg_X4_15 dX4_takeRights_84 (by repeat (first | with_reducible assumption | with_reducible exact mset_self _ _ _ | refine (mset_ne (by omega)).trans ?_)) (by (try simp only [mset_1]); omega) (by rfl) ?_
        refine V_if_le C dX4_takeRights_87 (tgt := 95) (by decide) (by omega) (fun g87 => ?_) (fun g87 => ?_)
        · exact V_vret C hr dX4_takeRights_95 (hK _ hi1 (by unfold tkF; rw [show n9 = i by omega, if_pos (by omega)]; exact hi2))
        · refine V_aload_n C dX4_takeRights_90 rfl ?_
          refine V_iload_n C dX4_takeRights_91 rfl ?_
          refine V_put C fp_X4_9 dX4_takeRights_92 (by repeat (first | with_reducible assumption | with_reducible exact mset_self _ _ _ | refine (mset_ne (by omega)).trans ?_)) (by (try simp only [mset_1]); omega) rfl rfl (by exact Nat.le_of_ble_eq_true rfl) ?_
          exact V_vret C hr dX4_takeRights_95 (hK _ (hi1.trans (PB.cell (Sm.set rfl))) (by unfold tkF; rw [show n9 = i by omega, if_neg (by omega)]; exact hi2.cell (Sm.set rfl) (mset_self _ _ _) rfl rfl rfl rfl))
      · have ff := hf i (by omega)
        have mf := mxN_rng (fl := fl) i (fun j hj => (hf j (by omega)).1)
        refine V_iload_n C dX4_takeRights_32 rfl ?_
        refine V_aload_n C dX4_takeRights_33 rfl ?_
        refine V_get C fg_X4_65 dX4_takeRights_34 (by repeat (first | with_reducible assumption | with_reducible exact mset_self _ _ _ | refine (mset_ne (by omega)).trans ?_)) (by (try simp only [mset_1]); omega) (by rfl) ?_
        refine V_alenI C dX4_takeRights_37 (by repeat (first | with_reducible assumption | with_reducible exact mset_self _ _ _ | refine (mset_ne (by omega)).trans ?_)) (by (try simp only [mset_1]); omega) ?_
        refine V_icmp_ge C dX4_takeRights_38 (tgt := 83) (by decide) (by omega) (by omega) (fun g38 => ?_) (fun g38 => ?_)
        · exact absurd g38 (by omega)
        · refine V_iload_n C dX4_takeRights_41 rfl ?_
          refine V_aload_n C dX4_takeRights_42 rfl ?_
          refine V_get C fg_X4_69 dX4_takeRights_43 (by repeat (first | with_reducible assumption | with_reducible exact mset_self _ _ _ | refine (mset_ne (by omega)).trans ?_)) (by (try simp only [mset_1]); omega) (by rfl) ?_
          refine V_alenZ C dX4_takeRights_46 (by repeat (first | with_reducible assumption | with_reducible exact mset_self _ _ _ | refine (mset_ne (by omega)).trans ?_)) (by (try simp only [mset_1]); omega) ?_
          refine V_icmp_ge C dX4_takeRights_47 (tgt := 83) (by decide) (by omega) (by omega) (fun g47 => ?_) (fun g47 => ?_)
          · exact absurd g47 (by omega)
          · refine V_aload_n C dX4_takeRights_50 rfl ?_
            refine V_aload_n C dX4_takeRights_51 rfl ?_
            refine V_get C fg_X4_65 dX4_takeRights_52 (by repeat (first | with_reducible assumption | with_reducible exact mset_self _ _ _ | refine (mset_ne (by omega)).trans ?_)) (by (try simp only [mset_1]); omega) (by rfl) ?_
            refine V_iload_n C dX4_takeRights_55 rfl ?_
            refine V_iald C dX4_takeRights_56 (by repeat (first | with_reducible assumption | with_reducible exact mset_self _ _ _ | refine (mset_ne (by omega)).trans ?_)) (by (try simp only [mset_1]); omega) (by omega) (by omega) (by first | with_reducible exact Int.toNat_natCast _ | rfl) ?_
            refine V_aload_n C dX4_takeRights_57 rfl ?_
            refine V_get C fg_X4_69 dX4_takeRights_58 (by repeat (first | with_reducible assumption | with_reducible exact mset_self _ _ _ | refine (mset_ne (by omega)).trans ?_)) (by (try simp only [mset_1]); omega) (by rfl) ?_
            refine V_iload_n C dX4_takeRights_61 rfl ?_
            refine V_zaload C dX4_takeRights_62 (by repeat (first | with_reducible assumption | with_reducible exact mset_self _ _ _ | refine (mset_ne (by omega)).trans ?_)) (by (try simp only [mset_1]); omega) (by omega) (by omega) ?_
            refine V_callV (fr := 5) (lo := 113) (mc := 0) (ms := 0) (As := [_, _]) C yvX4_addRight w_340 dX4_takeRights_63 rfl rfl (by repeat (first | with_reducible assumption | with_reducible exact mset_self _ _ _ | refine (mset_ne (by omega)).trans ?_)) (by (try simp only [mset_1]); omega) rfl rfl (Nat.le_of_ble_eq_true rfl) ⟨Nat.le_of_ble_eq_true rfl, Nat.le_of_ble_eq_true rfl⟩ ⟨Nat.le_of_ble_eq_true rfl, Nat.le_of_ble_eq_true rfl⟩ ?_
            refine ok_X4_addRight hi2 hBN (by rw [tkS_n]; omega) (hf i (by omega)).1 (hf i (by omega)).2 (fun M3 s3 x3 => ?_)
            have hT3 := hT9.keep s3 (fun k h1 h2 o => by have := o.1; have := o.2; omega)
            obtain ⟨tn3, u0, u1, u2, u3⟩ := hT3
            refine V_iload_n C dX4_takeRights_66 rfl ?_
            refine V_aload_n C dX4_takeRights_67 rfl ?_
            refine V_get C fg_X4_65 dX4_takeRights_68 (by repeat (first | with_reducible assumption | with_reducible exact mset_self _ _ _ | refine (mset_ne (by omega)).trans ?_)) (by (try simp only [mset_1]); omega) (by rfl) ?_
            refine V_iload_n C dX4_takeRights_71 rfl ?_
            refine V_iald C dX4_takeRights_72 (by repeat (first | with_reducible assumption | with_reducible exact mset_self _ _ _ | refine (mset_ne (by omega)).trans ?_)) (by (try simp only [mset_1]); omega) (by omega) (by omega) (by first | with_reducible exact Int.toNat_natCast _ | rfl) ?_
            refine V_max C w_377 w_378 w_13 w_379 dX4_takeRights_73 (by omega) (by omega) ⟨Nat.le_of_ble_eq_true rfl, Nat.le_of_ble_eq_true rfl⟩ ⟨Nat.le_of_ble_eq_true rfl, Nat.le_of_ble_eq_true rfl⟩ ?_
            refine V_istore_n C dX4_takeRights_76 (by decide) ?_
            refine V_iinc C dX4_takeRights_77 rfl (by decide) ?_
            refine V_goto C dX4_takeRights_80 (tgt := 24) (by decide) ?_
            refine V_lv [(0, .ref (z + b)), (1, .ref (z + t)), (2, iv (mxN fl (i + 1))), (3, iv (((i + 1 : Nat) : Int)))] (List.forall_mem_cons.mpr ⟨(by first | rfl | exact congrArg (fun t => some (iv t)) (by rw [mxN]; (try split) <;> omega) | exact congrArg (fun t => some (iv t)) (by push_cast; omega)), (List.forall_mem_cons.mpr ⟨(by first | rfl | exact congrArg (fun t => some (iv t)) (by rw [mxN]; (try split) <;> omega) | exact congrArg (fun t => some (iv t)) (by push_cast; omega)), (List.forall_mem_cons.mpr ⟨(by first | rfl | exact congrArg (fun t => some (iv t)) (by rw [mxN]; (try split) <;> omega) | exact congrArg (fun t => some (iv t)) (by push_cast; omega)), (List.forall_mem_cons.mpr ⟨(by first | rfl | exact congrArg (fun t => some (iv t)) (by rw [mxN]; (try split) <;> omega) | exact congrArg (fun t => some (iv t)) (by push_cast; omega)), (fun _ h => nomatch h)⟩)⟩)⟩)⟩) ?_
            exact ih (i + 1) M3 (by omega) (hi1.trans s3) x3 (by omega)
  refine V_aload_n C dX4_takeRights_0 rfl ?_
  refine V_iconst C dX4_takeRights_1 ?_
  refine V_put C fp_X4_18 dX4_takeRights_2 (by repeat (first | with_reducible assumption | with_reducible exact mset_self _ _ _ | refine (mset_ne (by omega)).trans ?_)) (by (try simp only [mset_1]); omega) rfl rfl (by exact Nat.le_of_ble_eq_true rfl) ?_
  refine V_aload_n C dX4_takeRights_5 rfl ?_
  refine V_iconst C dX4_takeRights_6 ?_
  refine V_put C fp_X4_21 dX4_takeRights_7 (by repeat (first | with_reducible assumption | with_reducible exact mset_self _ _ _ | refine (mset_ne (by omega)).trans ?_)) (by (try simp only [mset_1]); omega) rfl rfl (by exact Nat.le_of_ble_eq_true rfl) ?_
  refine V_aload_n C dX4_takeRights_10 rfl ?_
  refine V_iconst C dX4_takeRights_11 ?_
  refine V_put C fp_X4_24 dX4_takeRights_12 (by repeat (first | with_reducible assumption | with_reducible exact mset_self _ _ _ | refine (mset_ne (by omega)).trans ?_)) (by (try simp only [mset_1]); omega) rfl rfl (by exact Nat.le_of_ble_eq_true rfl) ?_
  refine V_aload_n C dX4_takeRights_15 rfl ?_
  refine V_iconst C dX4_takeRights_16 ?_
  refine V_put C fp_X4_15 dX4_takeRights_17 (by repeat (first | with_reducible assumption | with_reducible exact mset_self _ _ _ | refine (mset_ne (by omega)).trans ?_)) (by (try simp only [mset_1]); omega) rfl rfl (by exact Nat.le_of_ble_eq_true rfl) ?_
  refine V_memgen (fun M1 em => ?_)
  have s1 : Sm M M1 (fun j => j = b) := by rw [em]; exact (by repeat (first | exact Sm.rf _ _ | refine Sm.ts ?_ (by first | rfl | (simp; done) | (simp; omega) | (dsimp only; omega))))
  have x1 : M1.2 b = oX 3 [iv (sc S 0), iv 0, iv 0, iv 0, iv 0, .ref (z + (b + 1)), .ref (z + (b + 2)), .ref (z + (b + 4))] := by rw [em]; exact mset_self _ _ _
  clear em
  have hS1 : StateAt cy z M1 b (tk0 S) := hS9.cell (n := 0) s1 x1 rfl rfl rfl rfl
  refine V_iconst C dX4_takeRights_20 ?_
  refine V_istore_n C dX4_takeRights_21 (by decide) ?_
  refine V_iconst C dX4_takeRights_22 ?_
  refine V_istore_n C dX4_takeRights_23 (by decide) ?_
  refine V_lv [(0, .ref (z + b)), (1, .ref (z + t)), (2, iv (mxN fl 0)), (3, iv (((0 : Nat) : Int)))] (List.forall_mem_cons.mpr ⟨(by first | rfl | exact congrArg (fun t => some (iv t)) (by omega)), (List.forall_mem_cons.mpr ⟨(by first | rfl | exact congrArg (fun t => some (iv t)) (by omega)), (List.forall_mem_cons.mpr ⟨(by first | rfl | exact congrArg (fun t => some (iv t)) (by omega)), (List.forall_mem_cons.mpr ⟨(by first | rfl | exact congrArg (fun t => some (iv t)) (by omega)), (fun _ h => nomatch h)⟩)⟩)⟩)⟩) ?_
  exact loop 11 0 M1 (by omega) (PB.cell s1) hS1 (by omega)

set_option maxHeartbeats 400000 in
set_option maxRecDepth 4000 in
theorem ok_X4_copyFrom {l : Launch} {D : va_G} {cy : Nat → ClassId} {z : Nat} {M : Mm} {K : Option Value → Mm → Prop} {b : Nat} {S : SD} (hS : StateAt cy z M b S) (hH : sH S ≤ 6) {b2 : Nat} {S2 : SD} (hS2 : StateAt cy z M b2 S2) (hB2 : SB S2) (hd : b + 65 ≤ b2 ∨ b2 + 65 ≤ b) (hK : ∀ M', Sm M M' (PB b) → StateAt cy z M' b (cpN S S2 (sN S2)) → K none M') :
    MT l D cy z false yX4_copyFrom (wsy yX4_copyFrom cX4_copyFrom 3 none) 2 47 0 0 M [.ref (z + b), .ref (z + b2)] K := by
  refine MT_of (by decide) w_212 (Nat.le_of_ble_eq_true rfl) ?_
  intro p e s m args below meth c C hr hx0
  have hd1 := hB2.2.1
  have hd2 := hB2.2.2.1
  obtain ⟨hn, c0, c1, c2, c3, c4, cR⟩ := id hS
  obtain ⟨hn2, f0, f1, f2, f3, f4, fR⟩ := id hS2
  have loop : ∀ (n : Nat) (i : Nat) (M9 : Mm), (i ≤ sN S2) → (Sm M M9 (PB b)) → (StateAt cy z M9 b (cpN S S2 i)) → 10 - i < n → V p l e { frames := 2, cells := 0, slots := 0, locals := 47 } s m args below meth c D z 3 (MQ below (qc_ D z K) args s 0 0 (fun q => z ≤ q)) 0 0 M9 64 [(0, .ref (z + b)), (1, .ref (z + b2)), (2, iv ((i : Int)))] [] := by
    intro n
    induction n with
    | zero => intro i M9 hi0 hi1 hi2 hfu; exact absurd hfu (Nat.not_lt_zero _)
    | succ n ih =>
      intro i M9 hi0 hi1 hi2 hfu
      have eN : sN (cpN S S2 i) = sN S2 := rfl
      obtain ⟨hn9, e0, e1, e2, e3, e4, eR⟩ := id hi2
      have hS3 := hS2.keep hi1 (fun k h1 h2 o => by have := o.1; have := o.2; omega)
      obtain ⟨hn3, f0, f1, f2, f3, f4, fR⟩ := hS3
      refine V_iload_n C dX4_copyFrom_64 rfl ?_
      refine V_aload_n C dX4_copyFrom_65 rfl ?_
      refine V_get C fg_X4_15 dX4_copyFrom_66 (by first | with_reducible assumption | exact hR9.2.1 | exact hR2.2.1) (by (try simp only [mset_1]); omega) (by rfl) ?_
      refine V_icmp_ge C dX4_copyFrom_69 (tgt := 111) (by decide) (by omega) (by omega) (fun g69 => ?_) (fun g69 => ?_)
      · exact V_vret C hr dX4_copyFrom_111 (hK _ hi1 (by rw [show sN S2 = i by omega]; exact hi2))
      · have hi : i < 10 := by omega
        have hR9 := eR i hi
        have hR2 := fR i hi
        have h22 := (hB2.2.2.2.2.2.2.2 i hi).2.2.1
        refine V_iload_n C dX4_copyFrom_72 rfl ?_
        refine V_aload_n C dX4_copyFrom_73 rfl ?_
        refine V_get C fg_X4_29 dX4_copyFrom_74 (by first | with_reducible assumption | exact hR9.2.1 | exact hR2.2.1) (by (try simp only [mset_1]); omega) (by rfl) ?_
        refine V_alenQ (t := 3) C rfl dX4_copyFrom_77 (by first | with_reducible assumption | exact hR9.2.1 | exact hR2.2.1) (by (try simp only [mset_1]); omega) ?_
        refine V_icmp_ge C dX4_copyFrom_78 (tgt := 111) (by decide) (by omega) (by omega) (fun g78 => ?_) (fun g78 => ?_)
        · exact absurd g78 (by omega)
        · refine V_iload_n C dX4_copyFrom_81 rfl ?_
          refine V_aload_n C dX4_copyFrom_82 rfl ?_
          refine V_get C fg_X4_29 dX4_copyFrom_83 (by first | with_reducible assumption | exact hR9.2.1 | exact hR2.2.1) (by (try simp only [mset_1]); omega) (by rfl) ?_
          refine V_alenQ (t := 3) C rfl dX4_copyFrom_86 (by first | with_reducible assumption | exact hR9.2.1 | exact hR2.2.1) (by (try simp only [mset_1]); omega) ?_
          refine V_icmp_ge C dX4_copyFrom_87 (tgt := 111) (by decide) (by omega) (by omega) (fun g87 => ?_) (fun g87 => ?_)
          · exact absurd g87 (by omega)
          · refine V_aload_n C dX4_copyFrom_90 rfl ?_
            refine V_get C fg_X4_29 dX4_copyFrom_91 (by first | with_reducible assumption | exact hR9.2.1 | exact hR2.2.1) (by (try simp only [mset_1]); omega) (by rfl) ?_
            refine V_iload_n C dX4_copyFrom_94 rfl ?_
            refine V_aaload (t := 3) C rfl dX4_copyFrom_95 (by first | with_reducible assumption | exact hR9.2.1 | exact hR2.2.1) (by (try simp only [mset_1]); omega) (by omega) (by omega) (by rw [Int.toNat_natCast]) ?_
            refine V_aload_n C dX4_copyFrom_96 rfl ?_
            refine V_get C fg_X4_29 dX4_copyFrom_97 (by first | with_reducible assumption | exact hR9.2.1 | exact hR2.2.1) (by (try simp only [mset_1]); omega) (by rfl) ?_
            refine V_iload_n C dX4_copyFrom_100 rfl ?_
            refine V_aaload (t := 3) C rfl dX4_copyFrom_101 (by first | with_reducible assumption | exact hR9.2.1 | exact hR2.2.1) (by (try simp only [mset_1]); omega) (by omega) (by omega) (by rw [Int.toNat_natCast]) ?_
            refine V_callV (fr := 1) (lo := 26) (mc := 0) (ms := 0) (As := [_]) C yvX3_copyFrom w_228 dX4_copyFrom_102 rfl rfl (by first | with_reducible assumption | exact hR9.2.1 | exact hR2.2.1) (by (try simp only [mset_1]); omega) rfl rfl (Nat.le_of_ble_eq_true rfl) ⟨Nat.le_of_ble_eq_true rfl, Nat.le_of_ble_eq_true rfl⟩ ⟨Nat.le_of_ble_eq_true rfl, Nat.le_of_ble_eq_true rfl⟩ ?_
            refine ok_X3_copyFrom hR9 hR2 (by omega) (by omega) (fun M3 s3 x3 => ?_)
            refine V_iinc C dX4_copyFrom_105 rfl (by decide) ?_
            refine V_goto C dX4_copyFrom_108 (tgt := 64) (by decide) ?_
            refine V_lv [(0, .ref (z + b)), (1, .ref (z + b2)), (2, iv (((i + 1 : Nat) : Int)))] (List.forall_mem_cons.mpr ⟨(by first | rfl | exact congrArg (fun t => some (iv t)) (by push_cast; omega)), (List.forall_mem_cons.mpr ⟨(by first | rfl | exact congrArg (fun t => some (iv t)) (by push_cast; omega)), (List.forall_mem_cons.mpr ⟨(by first | rfl | exact congrArg (fun t => some (iv t)) (by push_cast; omega)), (fun _ h => nomatch h)⟩)⟩)⟩) ?_
            exact ih (i + 1) M3 (by omega) (hi1.trans (PB.right hi s3)) (cpN_s (hi2.right hi s3 x3)) (by omega)
  refine V_aload_n C dX4_copyFrom_0 rfl ?_
  refine V_aload_n C dX4_copyFrom_1 rfl ?_
  refine V_get C fg_X4_9 dX4_copyFrom_2 (by repeat (first | with_reducible assumption | with_reducible exact mset_self _ _ _ | refine (mset_ne (by omega)).trans ?_)) (by (try simp only [mset_1]); omega) (by rfl) ?_
  refine V_put C fp_X4_9 dX4_copyFrom_5 (by repeat (first | with_reducible assumption | with_reducible exact mset_self _ _ _ | refine (mset_ne (by omega)).trans ?_)) (by (try simp only [mset_1]); omega) rfl rfl (by exact Nat.le_of_ble_eq_true rfl) ?_
  refine V_aload_n C dX4_copyFrom_8 rfl ?_
  refine V_aload_n C dX4_copyFrom_9 rfl ?_
  refine V_get C fg_X4_18 dX4_copyFrom_10 (by repeat (first | with_reducible assumption | with_reducible exact mset_self _ _ _ | refine (mset_ne (by omega)).trans ?_)) (by (try simp only [mset_1]); omega) (by rfl) ?_
  refine V_put C fp_X4_18 dX4_copyFrom_13 (by repeat (first | with_reducible assumption | with_reducible exact mset_self _ _ _ | refine (mset_ne (by omega)).trans ?_)) (by (try simp only [mset_1]); omega) rfl rfl (by exact Nat.le_of_ble_eq_true rfl) ?_
  refine V_aload_n C dX4_copyFrom_16 rfl ?_
  refine V_aload_n C dX4_copyFrom_17 rfl ?_
  refine V_get C fg_X4_21 dX4_copyFrom_18 (by repeat (first | with_reducible assumption | with_reducible exact mset_self _ _ _ | refine (mset_ne (by omega)).trans ?_)) (by (try simp only [mset_1]); omega) (by rfl) ?_
  refine V_put C fp_X4_21 dX4_copyFrom_21 (by repeat (first | with_reducible assumption | with_reducible exact mset_self _ _ _ | refine (mset_ne (by omega)).trans ?_)) (by (try simp only [mset_1]); omega) rfl rfl (by exact Nat.le_of_ble_eq_true rfl) ?_
  refine V_aload_n C dX4_copyFrom_24 rfl ?_
  refine V_aload_n C dX4_copyFrom_25 rfl ?_
  refine V_get C fg_X4_24 dX4_copyFrom_26 (by repeat (first | with_reducible assumption | with_reducible exact mset_self _ _ _ | refine (mset_ne (by omega)).trans ?_)) (by (try simp only [mset_1]); omega) (by rfl) ?_
  refine V_put C fp_X4_24 dX4_copyFrom_29 (by repeat (first | with_reducible assumption | with_reducible exact mset_self _ _ _ | refine (mset_ne (by omega)).trans ?_)) (by (try simp only [mset_1]); omega) rfl rfl (by exact Nat.le_of_ble_eq_true rfl) ?_
  refine V_memgen (fun M1 em => ?_)
  have s1 : Sm M M1 (fun j => j = b) := by rw [em]; exact (by repeat (first | exact Sm.rf _ _ | refine Sm.ts ?_ (by first | rfl | (simp; done) | (simp; omega) | (dsimp only; omega))))
  have x1 : M1.2 b = oX 3 [iv (sc S2 0), iv (sN S), iv (sc S2 1), iv (sc S2 2), iv (sc S2 3), .ref (z + (b + 1)), .ref (z + (b + 2)), .ref (z + (b + 4))] := by rw [em]; exact mset_self _ _ _
  clear em
  have q1 := s1.1
  have g0 : M1.2 b2 = _ := (s1.2 _ (by omega)).trans f0
  have hH1 : HolAt cy z M1 (b + 2) (sH S) (ho S) := ⟨by rw [s1.1]; omega, (s1.2 _ (by omega)).trans c2, (s1.2 _ (by omega)).trans c3⟩
  have hH2 : HolAt cy z M1 (b2 + 2) (sH S2) (ho S2) := ⟨by rw [s1.1]; omega, (s1.2 _ (by omega)).trans f2, (s1.2 _ (by omega)).trans f3⟩
  have w2 := hH1.2.1
  refine V_aload_n C dX4_copyFrom_32 rfl ?_
  refine V_get C fg_X4_36 dX4_copyFrom_33 (by repeat (first | with_reducible assumption | with_reducible exact mset_self _ _ _ | refine (mset_ne (by omega)).trans ?_)) (by (try simp only [mset_1]); omega) (by rfl) ?_
  refine V_aload_n C dX4_copyFrom_36 rfl ?_
  refine V_get C fg_X4_36 dX4_copyFrom_37 (by repeat (first | with_reducible assumption | with_reducible exact mset_self _ _ _ | refine (mset_ne (by omega)).trans ?_)) (by (try simp only [mset_1]); omega) (by rfl) ?_
  refine V_callV (fr := 1) (lo := 26) (mc := 0) (ms := 0) (As := [_]) C yvX2_copyFrom w_213 dX4_copyFrom_40 rfl rfl (by repeat (first | with_reducible assumption | with_reducible exact mset_self _ _ _ | refine (mset_ne (by omega)).trans ?_)) (by (try simp only [mset_1]); omega) rfl rfl (Nat.le_of_ble_eq_true rfl) ⟨Nat.le_of_ble_eq_true rfl, Nat.le_of_ble_eq_true rfl⟩ ⟨Nat.le_of_ble_eq_true rfl, Nat.le_of_ble_eq_true rfl⟩ ?_
  refine ok_X2_copyFrom hH1 hH hH2 (by omega) (fun M2 s2 x2 => ?_)
  have q2 := s2.1
  have x1 : M2.2 b = _ := (s2.2 _ (by omega)).trans x1
  have g0 : M2.2 b2 = _ := (s2.2 _ (by omega)).trans g0
  have y1 : M2.2 (b + 4) = _ := (s2.2 _ (by omega)).trans ((s1.2 _ (by omega)).trans c4)
  have y2 : M2.2 (b2 + 4) = _ := (s2.2 _ (by omega)).trans ((s1.2 _ (by omega)).trans f4)
  refine V_aload_n C dX4_copyFrom_43 rfl ?_
  refine V_get C fg_X4_43 dX4_copyFrom_44 (by repeat (first | with_reducible assumption | with_reducible exact mset_self _ _ _ | refine (mset_ne (by omega)).trans ?_)) (by (try simp only [mset_1]); omega) (by rfl) ?_
  refine V_aload_n C dX4_copyFrom_47 rfl ?_
  refine V_get C fg_X4_43 dX4_copyFrom_48 (by repeat (first | with_reducible assumption | with_reducible exact mset_self _ _ _ | refine (mset_ne (by omega)).trans ?_)) (by (try simp only [mset_1]); omega) (by rfl) ?_
  refine V_callV (fr := 1) (lo := 24) (mc := 0) (ms := 0) (As := [_]) C yvX1_copyFrom w_220 dX4_copyFrom_51 rfl rfl (by repeat (first | with_reducible assumption | with_reducible exact mset_self _ _ _ | refine (mset_ne (by omega)).trans ?_)) (by (try simp only [mset_1]); omega) rfl rfl (Nat.le_of_ble_eq_true rfl) ⟨Nat.le_of_ble_eq_true rfl, Nat.le_of_ble_eq_true rfl⟩ ⟨Nat.le_of_ble_eq_true rfl, Nat.le_of_ble_eq_true rfl⟩ ?_
  refine ok_X1_copyFrom (by omega) y1 (by omega) y2 (fun M3 s3 x3 => ?_)
  have q3 := s3.1
  have x1 : M3.2 b = _ := (s3.2 _ (by omega)).trans x1
  have g0 : M3.2 b2 = _ := (s3.2 _ (by omega)).trans g0
  refine V_aload_n C dX4_copyFrom_54 rfl ?_
  refine V_aload_n C dX4_copyFrom_55 rfl ?_
  refine V_get C fg_X4_15 dX4_copyFrom_56 (by repeat (first | with_reducible assumption | with_reducible exact mset_self _ _ _ | refine (mset_ne (by omega)).trans ?_)) (by (try simp only [mset_1]); omega) (by rfl) ?_
  refine V_put C fp_X4_15 dX4_copyFrom_59 (by repeat (first | with_reducible assumption | with_reducible exact mset_self _ _ _ | refine (mset_ne (by omega)).trans ?_)) (by (try simp only [mset_1]); omega) rfl rfl (by exact Nat.le_of_ble_eq_true rfl) ?_
  refine V_iconst C dX4_copyFrom_62 ?_
  refine V_istore_n C dX4_copyFrom_63 (by decide) ?_
  refine V_memgen (fun M4 em => ?_)
  have s4 : Sm M3 M4 (fun j => j = b) := by rw [em]; exact Sm.set rfl
  have x4 : M4.2 b = oX 3 [iv (sc S2 0), iv (sN S2), iv (sc S2 1), iv (sc S2 2), iv (sc S2 3), .ref (z + (b + 1)), .ref (z + (b + 2)), .ref (z + (b + 4))] := by rw [em]; exact mset_self _ _ _
  clear em
  have t4 : Sm M M4 (fun j => j = b ∨ j = b + 2 ∨ j = b + 3 ∨ j = b + 4) := (((s1.mono (fun j hj => Or.inl hj)).trans (s2.mono (fun j hj => by rcases hj with o | o <;> subst o <;> simp))).trans (s3.mono (fun j hj => by have o : j = b + 4 := hj; subst o; simp))).trans (s4.mono (fun j hj => Or.inl hj))
  have hS4 : StateAt cy z M4 b (cpN S S2 0) := ⟨by rw [t4.1]; exact hn, x4, (t4.2 _ (by omega)).trans c1, (s4.2 _ (by omega)).trans ((s3.2 _ (by omega)).trans x2.2.1), (s4.2 _ (by omega)).trans ((s3.2 _ (by omega)).trans x2.2.2), (s4.2 _ (by omega)).trans x3, fun k hk => (cR k hk).keep t4 (fun j h1 h2 o => by omega)⟩
  refine V_lv [(0, .ref (z + b)), (1, .ref (z + b2)), (2, iv (((0 : Nat) : Int)))] (List.forall_mem_cons.mpr ⟨(by first | rfl | exact congrArg (fun t => some (iv t)) (by omega)), (List.forall_mem_cons.mpr ⟨(by first | rfl | exact congrArg (fun t => some (iv t)) (by omega)), (List.forall_mem_cons.mpr ⟨(by first | rfl | exact congrArg (fun t => some (iv t)) (by omega)), (fun _ h => nomatch h)⟩)⟩)⟩) ?_
  exact loop 11 0 M4 (by omega) (t4.mono (fun j hj => ⟨by rcases hj with o | o | o | o <;> subst o <;> omega, by rcases hj with o | o | o | o <;> subst o <;> omega⟩)) hS4 (by omega)

