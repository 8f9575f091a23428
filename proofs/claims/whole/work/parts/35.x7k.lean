/-! the next fee is paid (X7) -/
theorem gapB_up2 {a : Nat → Nat → Int} {x : Nat → Int} {d : Int} : ∀ n, gapB (va_up a 2 x) d n = gapB a d n
  | 0 => rfl
  | n + 1 => by
    show (gapB (va_up a 2 x) d n || decide (a 0 (n + 1) < d ∧ d < a 3 (n + 1))) = (gapB a d n || decide (a 0 (n + 1) < d ∧ d < a 3 (n + 1)))
    rw [gapB_up2 n]
theorem stV_up2 {a : Nat → Nat → Int} {x : Nat → Int} {v : Nat} : stV (va_up a 2 x) v = stV a v := by
  show (if a 4 v = -1 then (0 : Int) else if gapB (va_up a 2 x) (a 4 v) 19 = true then 2 else 1) = _
  rw [gapB_up2]; rfl
theorem RowOf_pay {N N' : Nat → Int} {S : SD} {i : Nat} (h : RowOf N S) (hB : SB S) (hi : i < sN S) (h9 : RF S i 3 < 19) (c : ∀ j, j ≠ 16 + 35 * i + 5 + (RF S i 3 + 1).toNat → j ≠ 16 + 35 * i + 2 → j ≠ 16 + 35 * i + 3 → j ≠ 13 → j ≠ 14 → N' j = N j)
    (p1 : N' (16 + 35 * i + 5 + (RF S i 3 + 1).toNat) = sc S 0) (p2 : N' (16 + 35 * i + 2) = RF S i 3 + 1) (p3 : N' (16 + 35 * i + 3) = RF S i 4 + priceT S i (RF S i 3 + 1)) (p13 : N' 13 = sc S 1 + priceT S i (RF S i 3 + 1)) (p14 : N' 14 = sc S 2 + surT S i (RF S i 3 + 1)) : RowOf N' (payS S i) := by
  obtain ⟨e0, e1, e2, eH, eh, e9, e10, e11, e12, e13, e14, e15, eR⟩ := h
  have hq := hB.2.2.1
  have hn := hB.2.1
  have b3 := (hB.2.2.2.2.2.2.2 i (by omega)).2.2.2.1
  have k1 : 1 ≤ (RF S i 3 + 1).toNat ∧ (RF S i 3 + 1).toNat ≤ 19 := by omega
  generalize hk : (RF S i 3 + 1).toNat = k at c p1 k1
  have cc : ∀ j, j < 13 → N' j = N j := fun j hj => c j (by omega) (by omega) (by omega) (by omega) (by omega)
  refine ⟨(cc _ (by omega)).trans e0, (cc _ (by omega)).trans e1, (cc _ (by omega)).trans e2, fun v => (hset_congr _ (fun j (hj : j < sH S) => cc _ (by omega))).trans (eH v), fun j (hj : j < sH S) => by rw [cc _ (by omega)]; exact eh j hj, (cc _ (by omega)).trans e9, (cc _ (by omega)).trans e10, (cc _ (by omega)).trans e11, (cc _ (by omega)).trans e12, p13, p14, (c _ (by omega) (by omega) (by omega) (by omega) (by omega)).trans e15, fun r (hr : r < sN S) => ?_⟩
  show RtOf N' (16 + 35 * r) (va_up (RF S) i _ r) (va_up (RA S) i _ r)
  rcases Nat.decEq r i with o | o
  · rw [up_n o, up_n o]
    exact RtOf_congr (eR r hr) (hB.2.2.2.2.2.2.2 r (by omega)).2.2.2.1.2 (fun j h1 h2 => c j (by omega) (by omega) (by omega) (by omega) (by omega))
  · subst o
    rw [up_s, up_s]
    obtain ⟨h0, h1, h2, h3, h4, ⟨n, n1, n2, n3⟩, h6, h7⟩ := eR r hi
    refine ⟨(c _ (by omega) (by omega) (by omega) (by omega) (by omega)).trans h0, (c _ (by omega) (by omega) (by omega) (by omega) (by omega)).trans h1, p2, p3, (c _ (by omega) (by omega) (by omega) (by omega) (by omega)).trans h4, ⟨n, n1, (c _ (by omega) (by omega) (by omega) (by omega) (by omega)).trans n2, fun v hv => by rw [stV_up2]; exact n3 v hv⟩, fun y y1 y2 => ?_, fun v hv => (c _ (by omega) (by omega) (by omega) (by omega) (by omega)).trans (h7 v hv)⟩
    have y3 : (y : Int) ≤ RF S r 3 + 1 := y2
    show N' (16 + 35 * r + 5 + y) = va_up (RA S r 2) (RF S r 3 + 1).toNat (sc S 0) y
    rw [hk]
    rcases Nat.decEq y k with q | q
    · rw [up_n q]; exact (c _ (by omega) (by omega) (by omega) (by omega) (by omega)).trans (h6 y y1 (by omega))
    · subst q; rw [up_s]; exact p1
