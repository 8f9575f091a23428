/-! a user begins, a right comes (X7): what it does to the row -/
theorem gapB_Z {F : Nat → Int} {a : Nat → Nat → Int} {d : Int} (hz : ZR F a) (hd : 0 ≤ d) : ∀ n, n ≤ 19 → (F 3).toNat ≤ n → gapB a d n = gapB a d (F 3).toNat
  | 0, _, h => by rw [show (F 3).toNat = 0 by omega]
  | n + 1, h1, h2 => by
    rcases (show (F 3).toNat = n + 1 ∨ (F 3).toNat ≤ n by omega) with o | o
    · rw [o]
    · show (gapB a d n || decide (a 0 (n + 1) < d ∧ d < a 3 (n + 1))) = _
      rw [gapB_Z hz hd n (by omega) o, hz (n + 1) (by omega) (by omega), decide_eq_false (show ¬ (a 0 (n + 1) < d ∧ d < 0) by omega), Bool.or_false]
theorem stV_Z {F : Nat → Int} {a : Nat → Nat → Int} {v : Nat} (hz : ZR F a) (h3 : 0 ≤ F 3 ∧ F 3 ≤ 19) (h4 : -1 ≤ a 4 v) : stV a v = stU F a v := by
  unfold stV stU
  by_cases h : a 4 v = -1
  · rw [if_pos h, if_pos h]
  · rw [if_neg h, if_neg h, gapB_Z hz (by omega) 19 (by omega) (by omega)]
theorem ZS.V {S : SD} (hz : ZS S) (hB : SB S) : ∀ i, i < sN S → ∀ v, v < 10 → stV (RA S i) v = stU (RF S i) (RA S i) v := fun i hi v _ => by
  have h := hB.2.2.2.2.2.2.2 i (by have := hB.2.1; omega)
  exact stV_Z (hz i hi) h.2.2.2.1 (h.2.2.2.2 4 v).1
/-- user v of right i begins today -/
def useS (S : SD) (i v : Nat) : SD := setR S i (RF S i) (va_up (RA S i) 4 (va_up (RA S i 4) v (sc S 0)))
theorem useS_B {S : SD} {i v : Nat} (h : SB S) (hi : i < 10) : SB (useS S i v) := by
  have hB := h.2.2.2.2.2.2.2 i hi
  have h0 := h.1
  exact SB.setR h ⟨hB.1, hB.2.1, hB.2.2.1, hB.2.2.2.1, up2_rng hB.2.2.2.2 4 _ (by omega)⟩
theorem gapB_up4u {a : Nat → Nat → Int} {x : Nat → Int} {d : Int} : ∀ n, gapB (va_up a 4 x) d n = gapB a d n
  | 0 => rfl
  | n + 1 => by
    show (gapB (va_up a 4 x) d n || decide (a 0 (n + 1) < d ∧ d < a 3 (n + 1))) = (gapB a d n || decide (a 0 (n + 1) < d ∧ d < a 3 (n + 1)))
    rw [gapB_up4u n]
theorem IS_use {S : SD} {i v : Nat} (h : IS S) : IS (useS S i v) := by
  refine ⟨h.1, h.2.1, fun r hr => ?_⟩
  show RI (Hf S) (sc S 0) (va_up (RF S) i _ r) (va_up (RA S) i _ r)
  rcases Nat.decEq r i with o | o
  · rw [up_n o, up_n o]; exact h.2.2 r hr
  · subst o; rw [up_s, up_s]
    obtain ⟨h0, h1, h2, h4, h5, h6, h7, h8, h9, h10⟩ := h.2.2 r hr
    refine ⟨h0, h1, h2, h4, h5, h6, h7, h8, h9, fun w hw => ?_⟩
    show va_up (RA S r 4) v (sc S 0) w ≤ sc S 0
    rcases Nat.decEq w v with q | q
    · rw [up_n q]; exact h10 w hw
    · subst q; rw [up_s]; omega
theorem ZS_use {S : SD} {i v : Nat} (h : ZS S) : ZS (useS S i v) := by
  intro r hr
  show ZR (va_up (RF S) i _ r) (va_up (RA S) i _ r)
  rcases Nat.decEq r i with o | o
  · rw [up_n o, up_n o]; exact h r hr
  · subst o; rw [up_s, up_s]; exact h r hr
theorem RowOf_use {N N' : Nat → Int} {S : SD} {i u : Nat} (h : RowOf N S) (hB : SB S) (hJ : IS S) (hz : ZS S) (hi : i < sN S) (hu : u < 10) (h1 : RA S i 4 u = -1) (c : ∀ j, j ≠ 16 + 35 * i + 25 + u → N' j = N j) (p : N' (16 + 35 * i + 25 + u) = sc S 0) : RowOf N' (useS S i u) := by
  obtain ⟨e0, e1, e2, eH, eh, e9, e10, e11, e12, e13, e14, e15, eR⟩ := h
  have hq := hB.2.2.1
  have hn := hB.2.1
  have cc : ∀ j, j < 16 → N' j = N j := fun j hj => c j (by omega)
  refine ⟨(cc _ (by omega)).trans e0, (cc _ (by omega)).trans e1, (cc _ (by omega)).trans e2, fun v => (hset_congr _ (fun j (hj : j < sH S) => cc _ (by omega))).trans (eH v), fun j (hj : j < sH S) => by rw [cc _ (by omega)]; exact eh j hj, (cc _ (by omega)).trans e9, (cc _ (by omega)).trans e10, (cc _ (by omega)).trans e11, (cc _ (by omega)).trans e12, (cc _ (by omega)).trans e13, (cc _ (by omega)).trans e14, (cc _ (by omega)).trans e15, fun r (hr : r < sN S) => ?_⟩
  show RtOf N' (16 + 35 * r) (va_up (RF S) i _ r) (va_up (RA S) i _ r)
  rcases Nat.decEq r i with o | o
  · rw [up_n o, up_n o]
    exact RtOf_congr (eR r hr) (hB.2.2.2.2.2.2.2 r (by omega)).2.2.2.1.2 (fun j h1 h2 => c j (by omega))
  · subst o
    rw [up_s, up_s]
    have b3 := (hB.2.2.2.2.2.2.2 r (by omega)).2.2.2.1
    have ri := hJ.2.2 r hr
    have t0 : 0 ≤ sc S 0 := hB.1.1
    obtain ⟨h0, hh1, h2, h3, h4, ⟨n, n1, n2, n3⟩, h6, h7⟩ := eR r hr
    refine ⟨(c _ (by omega)).trans h0, (c _ (by omega)).trans hh1, (c _ (by omega)).trans h2, (c _ (by omega)).trans h3, (c _ (by omega)).trans h4, ⟨n, n1, (c _ (by omega)).trans n2, fun v hv => (n3 v hv).trans ?_⟩, fun y y1 y2 => (c _ (by omega)).trans (h6 y y1 y2), fun v hv => ?_⟩
    · rw [stV_2, stV_2]
      show _ ↔ ¬ va_up (RA S r 4) u (sc S 0) v = -1 ∧ gapB (va_up (RA S r) 4 (va_up (RA S r 4) u (sc S 0))) (va_up (RA S r 4) u (sc S 0) v) 19 = true
      rw [gapB_up4u]
      rcases Nat.decEq v u with q | q
      · rw [up_n q]
      · subst q
        rw [up_s, gapB_Z (hz r hr) t0 19 (by omega) (by omega), RI.gap_le ri b3.2 (RF S r 3).toNat (by omega)]
        exact ⟨fun o => absurd h1 o.1, fun o => absurd o.2 (by decide)⟩
    · show N' (16 + 35 * r + 25 + v) = va_up (RA S r 4) u (sc S 0) v
      rcases Nat.decEq v u with q | q
      · rw [up_n q]; exact (c _ (by omega)).trans (h7 v hv)
      · subst q; rw [up_s]; exact p
/-- a right comes into the row -/
def cmN (N : Nat → Int) (n : Nat) (d w : Int) : Nat → Int := fun j => if j = 1 then (n : Int) + 1 else if j = 16 + 35 * n then d else if j = 16 + 35 * n + 1 then w else if 16 + 35 * n ≤ j ∧ j < 16 + 35 * n + 35 then (if j < 16 + 35 * n + 25 then 0 else -1) else N j
theorem cmN_o {N : Nat → Int} {n j : Nat} {d w : Int} (h1 : j ≠ 1) (h : j < 16 + 35 * n ∨ 16 + 35 * n + 35 ≤ j) : cmN N n d w j = N j := by
  unfold cmN; rw [if_neg h1, if_neg (by omega), if_neg (by omega), if_neg (by omega)]
theorem cmN_z {N : Nat → Int} {n j : Nat} {d w : Int} (h : 16 + 35 * n + 2 ≤ j ∧ j < 16 + 35 * n + 25) : cmN N n d w j = 0 := by
  unfold cmN; rw [if_neg (by omega), if_neg (by omega), if_neg (by omega), if_pos (by omega), if_pos (by omega)]
theorem cmN_m {N : Nat → Int} {n j : Nat} {d w : Int} (h : 16 + 35 * n + 25 ≤ j ∧ j < 16 + 35 * n + 35) : cmN N n d w j = -1 := by
  unfold cmN; rw [if_neg (by omega), if_neg (by omega), if_neg (by omega), if_pos (by omega), if_neg (by omega)]
theorem RowOf_add {N : Nat → Int} {S : SD} {d w : Int} (h : RowOf N S) (hB : SB S) (hn : sN S < 10) : RowOf (cmN N (sN S) d w) (addS S d w) := by
  obtain ⟨e0, e1, e2, eH, eh, e9, e10, e11, e12, e13, e14, e15, eR⟩ := h
  have hq := hB.2.2.1
  have cc : ∀ j, j < 16 → j ≠ 1 → cmN N (sN S) d w j = N j := fun j hj h1 => cmN_o h1 (by omega)
  refine ⟨(cc _ (by omega) (by omega)).trans e0, ?_, (cc _ (by omega) (by omega)).trans e2, fun v => (hset_congr _ (fun j (hj : j < sH S) => cc _ (by omega) (by omega))).trans (eH v), fun j (hj : j < sH S) => by rw [cc _ (by omega) (by omega)]; exact eh j hj, (cc _ (by omega) (by omega)).trans e9, (cc _ (by omega) (by omega)).trans e10, (cc _ (by omega) (by omega)).trans e11, (cc _ (by omega) (by omega)).trans e12, (cc _ (by omega) (by omega)).trans e13, (cc _ (by omega) (by omega)).trans e14, (cc _ (by omega) (by omega)).trans e15, fun r (hr : r < sN S + 1) => ?_⟩
  · show cmN N (sN S) d w 1 = ((sN S + 1 : Nat) : Int)
    unfold cmN; rw [if_pos rfl]; omega
  · show RtOf (cmN N (sN S) d w) (16 + 35 * r) (va_up (RF S) (sN S) _ r) (va_up (RA S) (sN S) _ r)
    rcases Nat.decEq r (sN S) with o | o
    · rw [up_n o, up_n o]
      exact RtOf_congr (eR r (by omega)) (hB.2.2.2.2.2.2.2 r (by omega)).2.2.2.1.2 (fun j h1 h2 => cmN_o (by omega) (by omega))
    · rw [o, up_s, up_s]
      refine ⟨?_, ?_, cmN_z (by omega), cmN_z (by omega), cmN_z (by omega), ⟨0, by omega, cmN_z (by omega), fun v hv => ?_⟩, fun y y1 (y2 : (y : Int) ≤ 0) => by omega, fun v hv => cmN_m (by omega)⟩
      · show cmN N (sN S) d w (16 + 35 * sN S) = d
        unfold cmN; rw [if_neg (by omega), if_pos rfl]
      · show cmN N (sN S) d w (16 + 35 * sN S + 1) = w
        unfold cmN; rw [if_neg (by omega), if_neg (by omega), if_pos rfl]
      · have e : stV (stA (Hf S) d (RA S (sN S))) v = 0 := if_pos rfl
        rw [e, Nat.zero_div]
        exact ⟨fun q => absurd q (by decide), fun q => absurd q (by decide)⟩
theorem RI_add {H : Int → Bool} {t d w : Int} {F : Nat → Int} {a : Nat → Nat → Int} (hd : 0 ≤ d ∧ d ≤ 18262) (ht : d ≤ t) : RI H t (stF F d w) (stA H d a) := by
  refine ⟨hd, ht, rfl, fun y y1 y2 => ⟨?_, ?_⟩, trivial, fun y y1 (y2 : (y : Int) ≤ 0) => by omega, fun y y1 (y2 : (y : Int) < 0) => by omega, fun y y1 (y2 : (y : Int) ≤ 0) => by omega, fun y y1 (y2 : (y : Int) ≤ 0) => by omega, fun v hv => ?_⟩
  · show (if 1 ≤ y ∧ y < 20 then pf H (later d (12 * (y : Int))) else a 0 y) = pf H (later d (12 * (y : Int)))
    rw [if_pos (by omega)]
  · show (if 1 ≤ y ∧ y < 20 then pf H (later d (12 * (y : Int) + 6)) else a 1 y) = pf H (later d (12 * (y : Int) + 6))
    rw [if_pos (by omega)]
  · show (-1 : Int) ≤ t
    omega
theorem ZR_add {H : Int → Bool} {d w : Int} {F : Nat → Int} {a : Nat → Nat → Int} : ZR (stF F d w) (stA H d a) := fun y y1 y2 => rfl
theorem IS_add {S : SD} {w : Int} (h : IS S) (hd : 0 ≤ sc S 0 ∧ sc S 0 ≤ 18262) : IS (addS S (sc S 0) w) := by
  refine ⟨h.1, h.2.1, fun r (hr : r < sN S + 1) => ?_⟩
  show RI (Hf S) (sc S 0) (va_up (RF S) (sN S) _ r) (va_up (RA S) (sN S) _ r)
  rcases Nat.decEq r (sN S) with o | o
  · rw [up_n o, up_n o]; exact h.2.2 r (by omega)
  · rw [o, up_s, up_s]; exact RI_add hd (by omega)
theorem ZS_add {S : SD} {d w : Int} (h : ZS S) : ZS (addS S d w) := fun r (hr : r < sN S + 1) => by
  show ZR (va_up (RF S) (sN S) _ r) (va_up (RA S) (sN S) _ r)
  rcases Nat.decEq r (sN S) with o | o
  · rw [up_n o, up_n o]; exact h r (by omega)
  · rw [o, up_s, up_s]; exact ZR_add
theorem stU_1 {F : Nat → Int} {a : Nat → Nat → Int} {u : Nat} (h : a 4 u = -1) : stU F a u = 0 := if_pos h
