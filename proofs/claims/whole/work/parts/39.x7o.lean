/-! a right is revived (X7): what it does to the row -/
theorem or3 (x y z : Bool) : ((x || y) || z) = ((x || z) || y) := by cases x <;> cases y <;> cases z <;> rfl
theorem gapB_up3 {a : Nat → Nat → Int} {k : Nat} {t d : Int} : ∀ n, n < k → gapB (va_up a 3 (va_up (a 3) k t)) d n = gapB a d n
  | 0, _ => rfl
  | n + 1, h => by
    show (gapB (va_up a 3 (va_up (a 3) k t)) d n || decide (a 0 (n + 1) < d ∧ d < va_up (a 3) k t (n + 1))) = (gapB a d n || decide (a 0 (n + 1) < d ∧ d < a 3 (n + 1)))
    rw [gapB_up3 n (by omega), up_n (by omega)]
theorem gapB_up4 {a : Nat → Nat → Int} {k : Nat} {t d : Int} (h3 : a 3 k = 0) (hd : 0 ≤ d) (h1 : 1 ≤ k) : ∀ n, k ≤ n → gapB (va_up a 3 (va_up (a 3) k t)) d n = (gapB a d n || decide (a 0 k < d ∧ d < t))
  | 0, h => absurd h (by omega)
  | n + 1, h => by
    show (gapB (va_up a 3 (va_up (a 3) k t)) d n || decide (a 0 (n + 1) < d ∧ d < va_up (a 3) k t (n + 1))) = ((gapB a d n || decide (a 0 (n + 1) < d ∧ d < a 3 (n + 1))) || decide (a 0 k < d ∧ d < t))
    rcases Nat.decEq (n + 1) k with o | o
    · rw [gapB_up4 h3 hd h1 n (by omega), up_n o]; exact or3 _ _ _
    · rw [gapB_up3 n (by omega), o, up_s, h3, decide_eq_false (show ¬ (a 0 k < d ∧ d < 0) by omega), Bool.or_false]
theorem stV_2 {a : Nat → Nat → Int} {v : Nat} : stV a v = 2 ↔ ¬ a 4 v = -1 ∧ gapB a (a 4 v) 19 = true := by
  unfold stV
  by_cases h : a 4 v = -1
  · rw [if_pos h]; exact ⟨fun o => absurd o (by decide), fun o => absurd h o.1⟩
  · rw [if_neg h]
    by_cases g : gapB a (a 4 v) 19 = true
    · rw [if_pos g]; exact ⟨fun _ => ⟨h, g⟩, fun _ => rfl⟩
    · rw [if_neg g]; exact ⟨fun o => absurd o (by decide), fun o => absurd o.2 g⟩
theorem stV_rv {a : Nat → Nat → Int} {k v : Nat} {t : Int} (h3 : a 3 k = 0) (h1 : 1 ≤ k ∧ k ≤ 19) (h0 : 0 ≤ a 0 k) (h4 : -1 ≤ a 4 v) : stV (va_up a 3 (va_up (a 3) k t)) v = 2 ↔ stV a v = 2 ∨ (a 0 k < a 4 v ∧ a 4 v < t) := by
  rw [stV_2, stV_2]
  show ¬ a 4 v = -1 ∧ gapB (va_up a 3 (va_up (a 3) k t)) (a 4 v) 19 = true ↔ _
  by_cases h : a 4 v = -1
  · exact ⟨fun o => absurd h o.1, fun o => o.elim (fun q => absurd h q.1) (fun q => by omega)⟩
  · rw [gapB_up4 h3 (by omega) h1.1 19 h1.2]
    by_cases g : a 0 k < a 4 v ∧ a 4 v < t
    · rw [decide_eq_true g, Bool.or_true]; exact ⟨fun _ => Or.inr g, fun _ => ⟨h, rfl⟩⟩
    · rw [decide_eq_false g, Bool.or_false]; exact ⟨fun o => Or.inl o, fun o => o.elim (fun q => q) (fun q => absurd q g)⟩
theorem bit_no {n v : Nat} {p q : Nat → Prop} (h : ∀ w, w < 10 → (n / 2 ^ w % 2 = 1 ↔ p w ∨ w < v ∧ q w)) (hq : ¬ q v) : ∀ w, w < 10 → (n / 2 ^ w % 2 = 1 ↔ p w ∨ w < v + 1 ∧ q w) := by
  intro w hw
  refine (h w hw).trans ⟨fun o => o.elim Or.inl (fun c => Or.inr ⟨by omega, c.2⟩), fun o => o.elim Or.inl (fun c => Or.inr ⟨?_, c.2⟩)⟩
  rcases Nat.decEq w v with e | e
  · have := c.1; omega
  · subst e; exact absurd c.2 hq
theorem bit_yes {n v : Nat} {p q : Nat → Prop} (hn : n < 1024) (hv : v < 10) (h : ∀ w, w < 10 → (n / 2 ^ w % 2 = 1 ↔ p w ∨ w < v ∧ q w)) (hq : q v) : ∀ w, w < 10 → (orB n v / 2 ^ w % 2 = 1 ↔ p w ∨ w < v + 1 ∧ q w) := by
  intro w hw
  rw [orB_bit n hn v hv w hw]
  rcases Nat.decEq w v with e | e
  · rw [if_neg e]
    exact (h w hw).trans ⟨fun o => o.elim Or.inl (fun c => Or.inr ⟨by omega, c.2⟩), fun o => o.elim Or.inl (fun c => Or.inr ⟨by have := c.1; omega, c.2⟩)⟩
  · subst e
    rw [if_pos rfl]
    exact ⟨fun _ => Or.inr ⟨by omega, hq⟩, fun _ => rfl⟩
/-- the petition is paid, the gap counted; the years as a says -/
def rvG (S : SD) (i : Nat) (a : Nat → Nat → Int) : SD := setR (setSc S (rvF S)) i (va_up (va_up (RF S i) 4 (RF S i 4 + sc S 7)) 5 (RF S i 5 + 1)) a
def rv0 (S : SD) (i : Nat) : SD := rvG S i (RA S i)
theorem RowOf_rv {N N' : Nat → Int} {S : SD} {i : Nat} {a : Nat → Nat → Int} (h : RowOf N S) (hB : SB S) (hi : i < sN S) (h2 : a 2 = RA S i 2) (h4 : a 4 = RA S i 4) (c : ∀ j, j ≠ 16 + 35 * i + 3 → j ≠ 13 → j ≠ 15 → j ≠ 16 + 35 * i + 4 → j ≠ 16 + 35 * i + 5 → N' j = N j)
    (p3 : N' (16 + 35 * i + 3) = RF S i 4 + sc S 7) (p4 : N' (16 + 35 * i + 4) = RF S i 5 + 1) (p13 : N' 13 = sc S 1 + sc S 7) (p15 : N' 15 = sc S 3 + sc S 7) (p5 : ∃ n : Nat, n < 1024 ∧ N' (16 + 35 * i + 5) = n ∧ ∀ v, v < 10 → (n / 2 ^ v % 2 = 1 ↔ stV a v = 2)) : RowOf N' (rvG S i a) := by
  obtain ⟨e0, e1, e2, eH, eh, e9, e10, e11, e12, e13, e14, e15, eR⟩ := h
  have hq := hB.2.2.1
  have hn := hB.2.1
  have cc : ∀ j, j < 13 → N' j = N j := fun j hj => c j (by omega) (by omega) (by omega) (by omega) (by omega)
  refine ⟨(cc _ (by omega)).trans e0, (cc _ (by omega)).trans e1, (cc _ (by omega)).trans e2, fun v => (hset_congr _ (fun j (hj : j < sH S) => cc _ (by omega))).trans (eH v), fun j (hj : j < sH S) => by rw [cc _ (by omega)]; exact eh j hj, (cc _ (by omega)).trans e9, (cc _ (by omega)).trans e10, (cc _ (by omega)).trans e11, (cc _ (by omega)).trans e12, p13, (c _ (by omega) (by omega) (by omega) (by omega) (by omega)).trans e14, p15, fun r (hr : r < sN S) => ?_⟩
  show RtOf N' (16 + 35 * r) (va_up (RF S) i _ r) (va_up (RA S) i _ r)
  rcases Nat.decEq r i with o | o
  · rw [up_n o, up_n o]
    exact RtOf_congr (eR r hr) (hB.2.2.2.2.2.2.2 r (by omega)).2.2.2.1.2 (fun j h1 h2 => c j (by omega) (by omega) (by omega) (by omega) (by omega))
  · subst o
    rw [up_s, up_s]
    have b3 := (hB.2.2.2.2.2.2.2 r (by omega)).2.2.2.1
    obtain ⟨h0, h1, hh2, h3, hh4, h5, h6, h7⟩ := eR r hr
    refine ⟨(c _ (by omega) (by omega) (by omega) (by omega) (by omega)).trans h0, (c _ (by omega) (by omega) (by omega) (by omega) (by omega)).trans h1, (c _ (by omega) (by omega) (by omega) (by omega) (by omega)).trans hh2, p3, p4, p5, fun y y1 y2 => ?_, fun v hv => ?_⟩
    · have y3 : (y : Int) ≤ RF S r 3 := y2
      rw [h2]
      exact (c _ (by omega) (by omega) (by omega) (by omega) (by omega)).trans (h6 y y1 y3)
    · rw [h4]
      exact (c _ (by omega) (by omega) (by omega) (by omega) (by omega)).trans (h7 v hv)
theorem IS_rvG {S : SD} {i : Nat} {a : Nat → Nat → Int} (h : IS S) (ha : RI (Hf S) (sc S 0) (RF S i) (RA S i) → RI (Hf S) (sc S 0) (va_up (va_up (RF S i) 4 (RF S i 4 + sc S 7)) 5 (RF S i 5 + 1)) a) : IS (rvG S i a) := by
  refine ⟨h.1, h.2.1, fun r hr => ?_⟩
  show RI (Hf S) (sc S 0) (va_up (RF S) i _ r) (va_up (RA S) i _ r)
  rcases Nat.decEq r i with o | o
  · rw [up_n o, up_n o]; exact h.2.2 r hr
  · subst o; rw [up_s, up_s]; exact ha (h.2.2 r hr)
theorem IS_rv0 {S : SD} {i : Nat} (h : IS S) : IS (rv0 S i) := IS_rvG h (fun o => o)
theorem SB_rv0 {S : SD} {i : Nat} (h : SB S) (hi : i < 10) : SB (rv0 S i) := by
  have hB := h.2.2.2.2.2.2.2 i hi
  have h0 := h.1
  exact SB.setR (h.sc h0 rfl rfl rfl) ⟨hB.1, hB.2.1, hB.2.2.1, hB.2.2.2.1, hB.2.2.2.2⟩
theorem IS_rvS {S : SD} {i : Nat} (h : IS S) (h3 : 0 ≤ RF S i 3) : IS (rvS S i) := by
  refine IS_rvG h (fun o => ?_)
  obtain ⟨h0, h1, h2, h4, h5, h6, h7, h8, h9, h10⟩ := o
  refine ⟨h0, h1, h2, h4, trivial, h6, h7, fun y y1 y2 => ?_, fun y y1 y2 e => ?_, h10⟩
  · have y3 : (y : Int) ≤ RF S i 3 := y2
    show va_up (RA S i 3) (RF S i 3 + 1).toNat (sc S 0) y = 0 ∨ va_up (RA S i 3) (RF S i 3 + 1).toNat (sc S 0) y = RA S i 2 y ∧ RA S i 1 y < RA S i 2 y
    rw [up_n (by omega)]; exact h8 y y1 y3
  · have y3 : (y : Int) ≤ RF S i 3 := y2
    obtain ⟨k, k1, k2, k3⟩ := h9 y y1 y3 e
    refine ⟨k, k1, k2, ?_⟩
    show va_up (RA S i 3) (RF S i 3 + 1).toNat (sc S 0) k = RA S i 2 y
    rw [up_n (by omega)]; exact k3
/-- in the midst of a revival -/
def RvI (i : Nat) (S : SD) : Prop := SB S ∧ IS S ∧ i < sN S ∧ (∃ k : Nat, 1 ≤ k ∧ (k : Int) ≤ RF S i 3 + 1 ∧ RA S i 3 k = sc S 0) ∧ (RF S i 3 < 19 → RA S i 3 (RF S i 3 + 1).toNat = 0 ∨ RA S i 3 (RF S i 3 + 1).toNat = sc S 0) ∧ (∀ y : Nat, RF S i 3 + 1 < y → y ≤ 19 → RA S i 3 y = 0) ∧ ∀ r, r < sN S → r ≠ i → ZR (RF S r) (RA S r)
theorem pay_F3 {S : SD} {i : Nat} : RF (payS S i) i 3 = RF S i 3 + 1 := by
  show va_up (RF S) i _ i 3 = _
  rw [up_s]; rfl
theorem pay_A3 {S : SD} {i : Nat} : RA (payS S i) i 3 = RA S i 3 := by
  show va_up (RA S) i _ i 3 = _
  rw [up_s]; rfl
theorem RvI_pay {S : SD} {i : Nat} (h : RvI i S) (hl : lapR (RF S i) (RA S i) (sc S 0)) : RvI i (payS S i) ∧ ZR (RF (payS S i) i) (RA (payS S i) i) := by
  obtain ⟨hB, hI, hi, ⟨k, k1, k2, k3⟩, h4, h5, h6⟩ := h
  have b3 := (hB.2.2.2.2.2.2.2 i (by have := hB.2.1; omega)).2.2.2.1
  have h9 := hl.1
  have hg := hl.2
  rw [yv_at (by omega)] at hg
  refine ⟨⟨payS_B hB (by have := hB.2.1; omega) h9, IS_pay hI hB hi h9 ((h4 h9).elim Or.inl (fun o => Or.inr ⟨o, hg⟩)) (fun _ => ⟨k, k1, k2, k3⟩), hi, ⟨k, k1, ?_, ?_⟩, fun o => Or.inl ?_, fun y y1 y2 => ?_, fun r hr hn => ?_⟩, fun y y1 y2 => ?_⟩
  · rw [pay_F3]; omega
  · rw [pay_A3]; exact k3
  · rw [pay_F3] at o ⊢; rw [pay_A3]; exact h5 _ (by omega) (by omega)
  · rw [pay_F3] at y1; rw [pay_A3]; exact h5 y (by omega) y2
  · show ZR (va_up (RF S) i _ r) (va_up (RA S) i _ r)
    rw [up_n hn, up_n hn]; exact h6 r hr hn
  · rw [pay_F3] at y1; rw [pay_A3]; exact h5 y (by omega) y2
theorem RvI_0 {S : SD} {i : Nat} (h : IS S) (hz : ZS S) (hB : SB S) (hi : i < sN S) : RvI i (rvS S i) := by
  have hi10 : i < 10 := by have := hB.2.1; omega
  have b3 := (hB.2.2.2.2.2.2.2 i hi10).2.2.2.1
  have f3 : RF (rvS S i) i 3 = RF S i 3 := by
    show va_up (RF S) i _ i 3 = _
    rw [up_s]; rfl
  have a3 : RA (rvS S i) i 3 = va_up (RA S i 3) (RF S i 3 + 1).toNat (sc S 0) := by
    show va_up (RA S) i _ i 3 = _
    rw [up_s]; rfl
  refine ⟨rvS_B hB hi10, IS_rvS h b3.1, hi, ⟨(RF S i 3 + 1).toNat, by omega, by rw [f3]; omega, ?_⟩, fun _ => Or.inr ?_, fun y y1 y2 => ?_, fun r hr hn => ?_⟩
  · rw [a3, up_s]; rfl
  · rw [f3, a3, up_s]; rfl
  · rw [f3] at y1; rw [a3, up_n (by omega)]; exact hz i hi y (by omega) y2
  · show ZR (va_up (RF S) i _ r) (va_up (RA S) i _ r)
    rw [up_n hn, up_n hn]; exact hz r hr
theorem ZS_of {S : SD} {i : Nat} (h : RvI i S) (hz : ZR (RF S i) (RA S i)) : ZS S := fun r hr => by
  rcases Nat.decEq r i with o | o
  · exact h.2.2.2.2.2.2 r hr o
  · subst o; exact hz
theorem revF_IZ {i : Nat} : ∀ (n : Nat) (S : SD) (v : Int), RvI i S → (0 < n ∧ lapR (RF S i) (RA S i) (sc S 0) ∨ ZR (RF S i) (RA S i)) → SB (revF i n S v).1 ∧ IS (revF i n S v).1 ∧ ZS (revF i n S v).1
  | 0, S, v, h, hz => ⟨h.1, h.2.1, ZS_of h (hz.elim (fun o => absurd o.1 (by omega)) (fun o => o))⟩
  | n + 1, S, v, h, hz => by
    by_cases hl : lapR (RF S i) (RA S i) (sc S 0)
    · rw [revF_t (lapB_t hl)]
      have h2 := RvI_pay h hl
      exact revF_IZ n (payS S i) _ h2.1 (Or.inr h2.2)
    · rw [revF_f (lapB_f hl)]
      exact ⟨h.1, h.2.1, ZS_of h (hz.elim (fun o => absurd o.2 hl) (fun o => o))⟩
theorem rev_IZ {S : SD} {i : Nat} {v : Int} (h : IS S) (hz : ZS S) (hB : SB S) (hi : i < sN S) (hc : lapR (RF S i) (RA S i) (sc S 0)) : SB (revF i 19 (rvS S i) v).1 ∧ IS (revF i 19 (rvS S i) v).1 ∧ ZS (revF i 19 (rvS S i) v).1 := by
  refine revF_IZ 19 (rvS S i) v (RvI_0 h hz hB hi) (Or.inl ⟨by omega, ?_⟩)
  have b3 := (hB.2.2.2.2.2.2.2 i (by have := hB.2.1; omega)).2.2.2.1
  have h1 := hc.1
  have h2 := hc.2
  have f3 : RF (rvS S i) i 3 = RF S i 3 := by
    show va_up (RF S) i _ i 3 = _
    rw [up_s]; rfl
  have a1 : RA (rvS S i) i 1 = RA S i 1 := by
    show va_up (RA S) i _ i 1 = _
    rw [up_s]; rfl
  exact ⟨by rw [f3]; exact h1, by rw [f3, a1]; exact h2⟩
theorem lap_due {S : SD} {i : Nat} (h : IS S) (hB : SB S) (hi : i < sN S) (hl : lapR (RF S i) (RA S i) (sc S 0)) : yv (RA S i 0) (-1) (RF S i 3 + 1) < sc S 0 := by
  have b3 := (hB.2.2.2.2.2.2.2 i (by have := hB.2.1; omega)).2.2.2.1
  have h1 := hl.1
  have h2 := hl.2
  rw [yv_at (by omega)] at h2 ⊢
  have := RI.due_grace (h.2.2 i hi) hB.2.2.1 (y := (RF S i 3 + 1).toNat) (by omega) (by omega)
  omega
theorem revF_n {i : Nat} : ∀ (n : Nat) (S : SD) (v : Int), sN (revF i n S v).1 = sN S
  | 0, S, v => rfl
  | n + 1, S, v => by
    rw [revF]; split
    · exact revF_n n (payS S i) _
    · rfl
