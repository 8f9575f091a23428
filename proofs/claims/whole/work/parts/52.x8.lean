/-! the docket and its reference between two calls -/
def RelN (N : Nat → Int) (S : SD) : Prop := RowOf N S ∧ IS S ∧ ZS S ∧ NDh (ho S) (sH S)
def RelD (x : DD) (u N P tx : Nat → Int) : Prop := u 0 = (xC x : Int) ∧ u 2 = xT x 0 ∧ RelN N (xS x) ∧ (∀ k, k < xC x → RelN (fun j => P (366 * k + j)) (xV x k)) ∧ ∀ j : Nat, (j : Int) < xT x 0 → tx j = xB x j
theorem RelN.congr {N N' : Nat → Int} {S : SD} (h : RelN N S) (hB : SB S) (e : ∀ j, j < 366 → N' j = N j) : RelN N' S := ⟨RowOf_congr h.1 hB e, h.2⟩
theorem cpN_F {S S2 : SD} {n i : Nat} (h : i < n) : RF (cpN S S2 n) i = RF S2 i := if_pos h
theorem cpN_A {S S2 : SD} {n i : Nat} (h : i < n) : RA (cpN S S2 n) i = RA S2 i := if_pos h
theorem RelN.cp {N : Nat → Int} {S S0 : SD} (h : RelN N S) : RelN N (cpN S0 S (sN S)) := by
  obtain ⟨⟨e0, e1, e2, eH, eh, e9, e10, e11, e12, e13, e14, e15, eR⟩, ⟨i0, i1, i2⟩, hz, hn⟩ := h
  refine ⟨⟨e0, e1, e2, eH, eh, e9, e10, e11, e12, e13, e14, e15, fun i (hi : i < sN S) => ?_⟩, ⟨i0, i1, fun i (hi : i < sN S) => ?_⟩, fun i (hi : i < sN S) => ?_, hn⟩
  · rw [cpN_F hi, cpN_A hi]; exact eR i hi
  · rw [cpN_F hi, cpN_A hi]; exact i2 i hi
  · rw [cpN_F hi, cpN_A hi]; exact hz i hi
theorem RelD.save {x : DD} {u N N8 P tx u' N' P' : Nat → Int} {S' : SD} (h : RelD x u N P tx) (hI : DI x) (h8 : ∀ j, j < 366 → N8 j = N j) (e0 : u' 0 = (if xC x < 4 then (xC x : Int) + 1 else 4)) (e2 : u' 2 = u 2) (eP : P' = psv P N8 (xC x)) (hN : RelN N' S') : RelD (setNow (svD x) S') u' N' P' tx := by
  obtain ⟨h0, h2, hR, hV, hT⟩ := h
  obtain ⟨b1, b2, b3, b4, b5⟩ := hI
  subst eP
  by_cases hc : xC x < 4
  · have e : svD x = svD0 x := if_pos hc
    rw [if_pos hc] at e0
    rw [e]
    refine ⟨by rw [e0]; show _ = ((xC x + 1 : Nat) : Int); omega, e2.trans h2, hN, fun k (hk : k < xC x + 1) => ?_, hT⟩
    show RelN (fun j => psv P N8 (xC x) (366 * k + j)) (va_up (xV x) (xC x) (cpN (xV x (xC x)) (xS x) (sN (xS x))) k)
    have ep : psv P N8 (xC x) = svP P N8 (xC x) := if_pos hc
    rw [ep]
    rcases Nat.decEq k (xC x) with o | o
    · rw [up_n o]
      refine (hV k (by omega)).congr (b3 k) (fun j hj => ?_)
      show (if 366 * xC x ≤ 366 * k + j ∧ 366 * k + j < 366 * xC x + 366 then _ else P (366 * k + j)) = P (366 * k + j)
      rw [if_neg (by omega)]
    · rw [o, up_s]
      refine RelN.congr hR.cp (cpN_B (b3 _) b1) (fun j hj => ?_)
      show (if 366 * xC x ≤ 366 * xC x + j ∧ 366 * xC x + j < 366 * xC x + 366 then N8 (366 * xC x + j - 366 * xC x) else _) = N j
      rw [if_pos (by omega), show 366 * xC x + j - 366 * xC x = j by omega]; exact h8 j hj
  · have e : svD x = svD0 (rotD x) := if_neg hc
    have c4 : xC x = 4 := by omega
    rw [if_neg hc] at e0
    rw [e]
    refine ⟨by rw [e0]; rfl, e2.trans h2, hN, fun k (hk : k < 3 + 1) => ?_, hT⟩
    show RelN (fun j => psv P N8 (xC x) (366 * k + j)) (va_up (rotA (xV x) 3) 3 (cpN (rotA (xV x) 3 3) (xS x) (sN (xS x))) k)
    have ep : psv P N8 (xC x) = svP (shP P) N8 3 := if_neg hc
    rw [ep]
    rcases Nat.decEq k 3 with o | o
    · rw [up_n o]
      have er : rotA (xV x) 3 k = xV x (k + 1) := if_pos (by omega)
      rw [er]
      refine (hV (k + 1) (by omega)).congr (b3 _) (fun j hj => ?_)
      show (if 366 * 3 ≤ 366 * k + j ∧ 366 * k + j < 366 * 3 + 366 then _ else (if 366 * k + j < 1098 then P (366 * k + j + 366) else _)) = P (366 * (k + 1) + j)
      rw [if_neg (by omega), if_pos (by omega), show 366 * k + j + 366 = 366 * (k + 1) + j by omega]
    · rw [o, up_s]
      have er : rotA (xV x) 3 3 = xV x 0 := rfl
      rw [er]
      refine RelN.congr hR.cp (cpN_B (b3 _) b1) (fun j hj => ?_)
      show (if 366 * 3 ≤ 366 * 3 + j ∧ 366 * 3 + j < 366 * 3 + 366 then N8 (366 * 3 + j - 366 * 3) else _) = N j
      rw [if_pos (by omega), show 366 * 3 + j - 366 * 3 = j by omega]; exact h8 j hj
theorem DI.save {x : DD} (h : DI x) {S' : SD} (hB : SB S') : DI (setNow (svD x) S') := ⟨hB, (svD_I h).2⟩
theorem RelD.undo {x : DD} {u N P tx u' : Nat → Int} (h : RelD x u N P tx) (hc : 0 < xC x) (e0 : u' 0 = u 0 - 1) (e2 : u' 2 = u 2) : RelD (unD x) u' (fun j => P (366 * (xC x - 1) + j)) P tx := by
  obtain ⟨h0, h2, hR, hV, hT⟩ := h
  exact ⟨by rw [e0, h0]; show (xC x : Int) - 1 = ((xC x - 1 : Nat) : Int); omega, e2.trans h2, (hV (xC x - 1) (by omega)).cp, fun k (hk : k < xC x - 1) => hV k (by omega), hT⟩
theorem DI.undo {x : DD} (h : DI x) : DI (unD x) := ⟨cpN_B h.1 (h.2.2.1 _), by show xC x - 1 ≤ 4; have := h.2.1; omega, h.2.2⟩
theorem RelD.same {x : DD} {u N P tx u' : Nat → Int} (h : RelD x u N P tx) (e0 : u' 0 = u 0) (e2 : u' 2 = u 2) : RelD x u' N P tx := ⟨e0.trans h.1, e2.trans h.2.1, h.2.2⟩
theorem RelD.add {x : DD} {u N P tx u' : Nat → Int} {v : Int} (h : RelD x u N P tx) (hI : DI x) (e0 : u' 0 = u 0) (e2 : u' 2 = u 2 + 1) : RelD (apD x v) u' N P (va_up tx (u 2).toNat v) := by
  obtain ⟨h0, h2, hR, hV, hT⟩ := h
  refine ⟨e0.trans h0, by rw [e2, h2]; rfl, hR, hV, fun j hj => ?_⟩
  have b4 := hI.2.2.2.1
  have hj2 : (j : Int) < xT x 0 + 1 := hj
  show va_up tx (u 2).toNat v j = va_up (xB x) (xT x 0).toNat v j
  rw [h2]
  rcases Nat.decEq j (xT x 0).toNat with o | o
  · rw [up_n o, up_n o]; exact hT j (by omega)
  · rw [o, up_s, up_s]
theorem DI.add {x : DD} (h : DI x) {v : Int} (hv : 0 ≤ v ∧ v ≤ 127) (hl : xT x 0 < 100) : DI (apD x v) := by
  refine ⟨h.1, h.2.1, h.2.2.1, ?_, fun j => ?_⟩
  · have b4 := h.2.2.2.1
    show 0 ≤ xT x 0 + 1 ∧ xT x 0 + 1 ≤ 100
    omega
  · show 0 ≤ va_up (xB x) (xT x 0).toNat v j ∧ va_up (xB x) (xT x 0).toNat v j ≤ 127
    rcases Nat.decEq j (xT x 0).toNat with o | o
    · rw [up_n o]; exact h.2.2.2.2 j
    · rw [o, up_s]; exact hv
theorem RelD.clear {x : DD} {u N P tx u' : Nat → Int} (h : RelD x u N P tx) (e0 : u' 0 = u 0) (e2 : u' 2 = 0) : RelD (clD x) u' N P tx := ⟨e0.trans h.1, e2, h.2.2.1, h.2.2.2.1, fun j (hj : (j : Int) < 0) => by omega⟩
theorem DI.clear {x : DD} (h : DI x) : DI (clD x) := ⟨h.1, h.2.1, h.2.2.1, by show (0 : Int) ≤ 0 ∧ (0 : Int) ≤ 100; omega, h.2.2.2.2⟩
-- what is kept by each call that changes the docket
theorem payN_h {S : SD} : ∀ n, ho (payN S n).1 = ho S ∧ sH (payN S n).1 = sH S
  | 0 => ⟨rfl, rfl⟩
  | n + 1 => by
    rw [payN]; split
    · exact payN_h n
    · exact payN_h n
theorem revF_h {i : Nat} : ∀ (n : Nat) (S : SD) (v : Int), ho (revF i n S v).1 = ho S ∧ sH (revF i n S v).1 = sH S
  | 0, S, v => ⟨rfl, rfl⟩
  | n + 1, S, v => by
    rw [revF]; split
    · exact revF_h n (payS S i) _
    · exact ⟨rfl, rfl⟩
theorem RelN.pay {N N' : Nat → Int} {S : SD} {i : Nat} (h : RelN N S) (hB : SB S) (hi : i < sN S) (hc : canPayB S i = true) (hr : RowOf N' (payS S i)) : RelN N' (payS S i) ∧ SB (payS S i) := by
  have o := IZ_pay h.2.1 h.2.2.1 hB hi hc
  exact ⟨⟨hr, o.1, o.2, h.2.2.2⟩, payS_B hB (by have := hB.2.1; omega) (canPay_3 hc)⟩
theorem RelN.payAll {N N' : Nat → Int} {S : SD} (h : RelN N S) (hB : SB S) (hr : RowOf N' (payN S (sN S)).1) : RelN N' (payN S (sN S)).1 ∧ SB (payN S (sN S)).1 := by
  have o := payN_I h.2.1 h.2.2.1 hB (sN S) (Nat.le_refl _)
  refine ⟨⟨hr, o.1, o.2, ?_⟩, payN_B hB _ hB.2.1⟩
  rw [(payN_h (S := S) (sN S)).1, (payN_h (S := S) (sN S)).2]; exact h.2.2.2
theorem RelN.revive {N N' : Nat → Int} {S : SD} {i : Nat} {v : Int} (h : RelN N S) (hB : SB S) (hi : i < sN S) (hc : canRevR S i) (hr : RowOf N' (revF i 19 (rvS S i) v).1) : RelN N' (revF i 19 (rvS S i) v).1 ∧ SB (revF i 19 (rvS S i) v).1 := by
  have o := rev_IZ (v := v) h.2.1 h.2.2.1 hB hi hc.1
  refine ⟨⟨hr, o.2.1, o.2.2, ?_⟩, o.1⟩
  rw [(revF_h (i := i) 19 (rvS S i) v).1, (revF_h (i := i) 19 (rvS S i) v).2]; exact h.2.2.2
theorem RelN.use {N N' : Nat → Int} {S : SD} {i v : Nat} (h : RelN N S) (hB : SB S) (hi : i < sN S) (hr : RowOf N' (useS S i v)) : RelN N' (useS S i v) ∧ SB (useS S i v) := ⟨⟨hr, IS_use h.2.1, ZS_use h.2.2.1, h.2.2.2⟩, useS_B hB (by have := hB.2.1; omega)⟩
theorem RelN.file {N N' : Nat → Int} {S : SD} {w : Int} (h : RelN N S) (hB : SB S) (hw : w = 0 ∨ w = 1) (hn : sN S < 10) (hd : sc S 0 ≤ 18262) (hr : RowOf N' (addS S (sc S 0) w)) : RelN N' (addS S (sc S 0) w) ∧ SB (addS S (sc S 0) w) := ⟨⟨hr, IS_add h.2.1 ⟨hB.1.1, hd⟩, ZS_add h.2.2.1, h.2.2.2⟩, addS_B hB hn ⟨hB.1.1, hd⟩ hw⟩
theorem RelN.pass {N N' : Nat → Int} {S : SD} {k : Int} (h : RelN N S) (hB : SB S) (h1 : sc S 0 ≤ k) (h2 : k ≤ 27758) (hr : RowOf N' (setSc S (va_up (sc S) 0 k))) : RelN N' (setSc S (va_up (sc S) 0 k)) ∧ SB (setSc S (va_up (sc S) 0 k)) := by
  have o := hB.1
  exact ⟨⟨hr, h.2.1.at h1 h2, h.2.2.1, h.2.2.2⟩, hB.sc (by show 0 ≤ k ∧ k ≤ 30000; omega) rfl rfl rfl⟩
theorem RelN.fees {N N' : Nat → Int} {S : SD} {n0 n1 n2 n3 : Int} (h : RelN N S) (hB : SB S) (h0 : 0 ≤ n0 ∧ n0 ≤ 9999) (h1 : 0 ≤ n1 ∧ n1 ≤ 999) (h2 : 0 ≤ n2 ∧ n2 ≤ 100) (h3 : 0 ≤ n3 ∧ n3 ≤ 9999) (hr : RowOf N' (setF S n0 n1 n2 n3)) : RelN N' (setF S n0 n1 n2 n3) ∧ SB (setF S n0 n1 n2 n3) := ⟨⟨hr, ⟨h3, h.2.1.2.1, h.2.1.2.2⟩, h.2.2.1, h.2.2.2⟩, ⟨hB.1, hB.2.1, hB.2.2.1, h0, h1, h2, hB.2.2.2.2.2.2.1, hB.2.2.2.2.2.2.2⟩⟩
theorem RelN.hol {N N' : Nat → Int} {S : SD} {q : Nat} {g : Nat → Int} (h : RelN N S) (hB : SB S) (h0 : sN S = 0) (hq : q ≤ 6) (hg : ∀ i, -1 ≤ g i ∧ g i ≤ 40000) (hn : NDh g q) (hr : RowOf N' (setH S q g)) : RelN N' (setH S q g) ∧ SB (setH S q g) := ⟨⟨hr, ⟨h.2.1.1, h.2.1.2.1, fun i (hi : i < sN S) => absurd hi (by omega)⟩, fun i (hi : i < sN S) => absurd hi (by omega), hn⟩, ⟨hB.1, hB.2.1, hq, hB.2.2.2.1, hB.2.2.2.2.1, hB.2.2.2.2.2.1, hg, hB.2.2.2.2.2.2.2⟩⟩
theorem up_rng {g : Nat → Int} {k : Nat} {v : Int} (h : ∀ i, -1 ≤ g i ∧ g i ≤ 40000) (hv : -1 ≤ v ∧ v ≤ 40000) : ∀ i, -1 ≤ va_up g k v i ∧ va_up g k v i ≤ 40000 := fun i => by
  rcases Nat.decEq i k with o | o
  · rw [up_n o]; exact h i
  · rw [o, up_s]; exact hv
theorem mxN_le {fl : Nat → Int} : ∀ n j, j < n → fl j ≤ mxN fl n
  | 0, j, h => absurd h (by omega)
  | n + 1, j, h => by
    unfold mxN
    rcases Nat.decEq j n with o | o
    · have := mxN_le (fl := fl) n j (by omega)
      split <;> omega
    · subst o; split <;> omega
theorem tkS_R {S : SD} {fl sm : Nat → Int} {t : Int} : ∀ n, (∀ j, j < n → (0 ≤ fl j ∧ fl j ≤ 18262) ∧ fl j ≤ t) → ∀ i, i < n → RI (Hf S) t (RF (tkS S fl sm n) i) (RA (tkS S fl sm n) i) ∧ ZR (RF (tkS S fl sm n) i) (RA (tkS S fl sm n) i)
  | 0, _, i, hi => absurd hi (by omega)
  | n + 1, hf, i, hi => by
    have e0 := tkS_0 (S := S) (fl := fl) (sm := sm) n
    have en := tkS_n (S := S) (fl := fl) (sm := sm) n
    have eH : Hf (tkS S fl sm n) = Hf S := by show hset _ _ = hset _ _; rw [e0.2.2.1, e0.2.2.2]
    show RI (Hf S) t (va_up (RF (tkS S fl sm n)) (sN (tkS S fl sm n)) _ i) (va_up (RA (tkS S fl sm n)) (sN (tkS S fl sm n)) _ i) ∧ ZR (va_up (RF (tkS S fl sm n)) (sN (tkS S fl sm n)) _ i) (va_up (RA (tkS S fl sm n)) (sN (tkS S fl sm n)) _ i)
    rw [en]
    rcases Nat.decEq i n with o | o
    · rw [up_n o, up_n o]; exact tkS_R n (fun j hj => hf j (by omega)) i (by omega)
    · rw [o, up_s, up_s, eH]; exact ⟨RI_add (hf n (by omega)).1 (hf n (by omega)).2, ZR_add⟩
theorem RelN.parse {N N' fl sm : Nat → Int} {S : SD} {n : Nat} (h : RelN N S) (hB : SB S) (hn : n ≤ 10) (hf : ∀ j, j < n → (0 ≤ fl j ∧ fl j ≤ 18262) ∧ (sm j = 0 ∨ sm j = 1)) (hr : RowOf N' (tkF S fl sm n)) : RelN N' (tkF S fl sm n) ∧ SB (tkF S fl sm n) := by
  have e0 := tkS_0 (S := S) (fl := fl) (sm := sm) n
  have en := tkS_n (S := S) (fl := fl) (sm := sm) n
  have hB9 := tkS_B (fl := fl) (sm := sm) hB n hn hf
  have hmx := mxN_rng n (fun j hj => (hf j hj).1)
  have hR := tkS_R (S := S) (sm := sm) (t := mxN fl n) n (fun j hj => ⟨(hf j hj).1, mxN_le n j hj⟩)
  have eH : Hf (tkS S fl sm n) = Hf S := by show hset _ _ = hset _ _; rw [e0.2.2.1, e0.2.2.2]
  have hnd : NDh (ho (tkS S fl sm n)) (sH (tkS S fl sm n)) := by rw [e0.2.2.1, e0.2.2.2]; exact h.2.2.2
  by_cases c : n = 0
  · have e : tkF S fl sm n = tkS S fl sm n := if_pos c
    rw [e] at hr ⊢
    refine ⟨⟨hr, ⟨by rw [e0.2.1]; exact h.2.1.1, by rw [e0.1]; exact h.2.1.2.1, fun i hi => ?_⟩, fun i hi => ?_, hnd⟩, hB9⟩
    · rw [en] at hi; omega
    · rw [en] at hi; omega
  · have e : tkF S fl sm n = setSc (tkS S fl sm n) (va_up (sc (tkS S fl sm n)) 0 (mxN fl n)) := if_neg c
    rw [e] at hr ⊢
    refine ⟨⟨hr, ⟨?_, ?_, fun i (hi : i < sN (tkS S fl sm n)) => ?_⟩, fun i (hi : i < sN (tkS S fl sm n)) => ?_, hnd⟩, hB9.sc (by show 0 ≤ mxN fl n ∧ mxN fl n ≤ 30000; omega) rfl rfl rfl⟩
    · show 0 ≤ sc (tkS S fl sm n) 7 ∧ sc (tkS S fl sm n) 7 ≤ 9999
      rw [e0.2.1]; exact h.2.1.1
    · show mxN fl n ≤ 27758
      omega
    · show RI (Hf (tkS S fl sm n)) (mxN fl n) (RF (tkS S fl sm n) i) (RA (tkS S fl sm n) i)
      rw [eH]; rw [en] at hi; exact (hR i hi).1
    · rw [en] at hi; exact (hR i hi).2
