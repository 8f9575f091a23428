/-! rights are read from the text (X7): the row -/
def cmL (N fl sm : Nat → Int) : Nat → (Nat → Int)
  | 0 => va_up N 1 0
  | n + 1 => cmN (cmL N fl sm n) n (fl n) (sm n)
theorem cmL_1 {N fl sm : Nat → Int} : ∀ n : Nat, cmL N fl sm n 1 = n
  | 0 => up_s _ _ _
  | n + 1 => by show cmN _ n _ _ 1 = _; unfold cmN; rw [if_pos rfl]; omega
theorem cmL_congr {N fl sm fl' sm' : Nat → Int} : ∀ n : Nat, (∀ j, j < n → fl' j = fl j ∧ sm' j = sm j) → cmL N fl' sm' n = cmL N fl sm n
  | 0, _ => rfl
  | n + 1, h => by
    show cmN (cmL N fl' sm' n) n (fl' n) (sm' n) = cmN (cmL N fl sm n) n (fl n) (sm n)
    rw [cmL_congr n (fun j hj => h j (by omega)), (h n (by omega)).1, (h n (by omega)).2]
theorem cmL_at {N fl sm : Nat → Int} {r : Nat} : ∀ n : Nat, r < n → cmL N fl sm n (16 + 35 * r) = fl r
  | 0, h => absurd h (by omega)
  | n + 1, h => by
    show cmN (cmL N fl sm n) n (fl n) (sm n) (16 + 35 * r) = fl r
    rcases Nat.decEq r n with o | o
    · rw [cmN_o (by omega) (by omega)]; exact cmL_at n (by omega)
    · subst o; unfold cmN; rw [if_neg (by omega), if_pos rfl]
theorem cmL_0 {N fl sm : Nat → Int} : ∀ n : Nat, cmL N fl sm n 0 = N 0
  | 0 => up_n (by omega)
  | n + 1 => (cmN_o (by omega) (by omega)).trans (cmL_0 n)
def zr13 (N : Nat → Int) : Nat → Int := fun j => if 13 ≤ j ∧ j < 16 then 0 else N j
theorem zr_cm {N : Nat → Int} {n : Nat} {d w : Int} : zr13 (cmN N n d w) = cmN (zr13 N) n d w := by
  funext j
  by_cases h : 13 ≤ j ∧ j < 16
  · rw [cmN_o (by omega) (by omega)]
    show (if 13 ≤ j ∧ j < 16 then 0 else _) = (if 13 ≤ j ∧ j < 16 then 0 else _)
    rw [if_pos h, if_pos h]
  · show (if 13 ≤ j ∧ j < 16 then 0 else cmN N n d w j) = _
    rw [if_neg h]
    unfold cmN zr13
    rw [if_neg h]
theorem zr_o {N : Nat → Int} {j : Nat} (h : ¬ (13 ≤ j ∧ j < 16)) : zr13 N j = N j := if_neg h
theorem zr_z {N : Nat → Int} {j : Nat} (h : 13 ≤ j ∧ j < 16) : zr13 N j = 0 := if_pos h
theorem RowOf_L {N fl sm : Nat → Int} {S : SD} (h : RowOf N S) (hB : SB S) : ∀ n : Nat, n ≤ 10 → (∀ j, j < n → (0 ≤ fl j ∧ fl j ≤ 18262) ∧ (sm j = 0 ∨ sm j = 1)) → RowOf (zr13 (cmL N fl sm n)) (tkS S fl sm n)
  | 0, _, _ => by
    obtain ⟨e0, e1, e2, eH, eh, e9, e10, e11, e12, e13, e14, e15, eR⟩ := h
    have hq := hB.2.2.1
    have cc : ∀ j, j < 13 → j ≠ 1 → zr13 (va_up N 1 0) j = N j := fun j hj h1 => (zr_o (by omega)).trans (up_n h1)
    exact ⟨(cc _ (by omega) (by omega)).trans e0, (zr_o (by omega)).trans (up_s _ _ _), (cc _ (by omega) (by omega)).trans e2, fun v => (hset_congr _ (fun j (hj : j < sH S) => cc _ (by omega) (by omega))).trans (eH v), fun j (hj : j < sH S) => by show 0 ≤ zr13 (va_up N 1 0) _ ∧ zr13 (va_up N 1 0) _ ≤ 2000; rw [cc _ (by omega) (by omega)]; exact eh j hj, (cc _ (by omega) (by omega)).trans e9, (cc _ (by omega) (by omega)).trans e10, (cc _ (by omega) (by omega)).trans e11, (cc _ (by omega) (by omega)).trans e12, zr_z (by omega), zr_z (by omega), zr_z (by omega), fun i (hi : i < 0) => absurd hi (by omega)⟩
  | n + 1, hn, hf => by
    have ih := RowOf_L h hB n (by omega) (fun j hj => hf j (by omega))
    have hB9 := tkS_B (fl := fl) (sm := sm) hB n (by omega) (fun j hj => hf j (by omega))
    have o := RowOf_add (d := fl n) (w := sm n) ih hB9 (by rw [tkS_n]; omega)
    rw [tkS_n, ← zr_cm] at o
    exact o
theorem tkS_0 {S : SD} {fl sm : Nat → Int} : ∀ n, sc (tkS S fl sm n) 0 = sc S 0 ∧ sc (tkS S fl sm n) 7 = sc S 7 ∧ ho (tkS S fl sm n) = ho S ∧ sH (tkS S fl sm n) = sH S
  | 0 => ⟨rfl, rfl, rfl, rfl⟩
  | n + 1 => tkS_0 n
/-- the latest day, none -/
def ltN (fl : Nat → Int) (n : Nat) : Int := if n = 0 then -1 else mxN fl n
theorem ltN_t {fl : Nat → Int} {n : Nat} (h0 : 0 ≤ fl n) (h : ltN fl n < fl n) : ltN fl (n + 1) = fl n := by
  show mxN fl (n + 1) = fl n
  unfold mxN
  cases n with
  | zero => show (if (0 : Int) < fl 0 then fl 0 else 0) = fl 0; split <;> omega
  | succ n => rw [if_pos (show mxN fl (n + 1) < fl (n + 1) from h)]
theorem ltN_f {fl : Nat → Int} {n : Nat} (h0 : 0 ≤ fl n) (h : ¬ ltN fl n < fl n) : ltN fl (n + 1) = ltN fl n := by
  cases n with
  | zero => exact absurd (show (-1 : Int) < fl 0 by omega) h
  | succ n =>
    show mxN fl (n + 1 + 1) = mxN fl (n + 1)
    rw [mxN, if_neg (show ¬ mxN fl (n + 1) < fl (n + 1) from h)]
theorem ltN_rng {fl : Nat → Int} {n : Nat} (h : ∀ j, j < n → 0 ≤ fl j ∧ fl j ≤ 18262) : -1 ≤ ltN fl n ∧ ltN fl n ≤ 18262 := by
  have o := mxN_rng n h
  unfold ltN; split <;> omega
theorem RowOf_tk {N fl sm N' : Nat → Int} {S : SD} {n : Nat} (h : RowOf N S) (hB : SB S) (hn : n ≤ 10) (hf : ∀ j, j < n → (0 ≤ fl j ∧ fl j ≤ 18262) ∧ (sm j = 0 ∨ sm j = 1)) (c : ∀ j, j < 366 → j ≠ 0 → N' j = zr13 (cmL N fl sm n) j) (c0 : n = 0 → N' 0 = N 0) (c1 : n ≠ 0 → N' 0 = mxN fl n) : RowOf N' (tkF S fl sm n) := by
  have o := RowOf_L h hB n hn hf
  have hB9 := tkS_B (fl := fl) (sm := sm) hB n hn hf
  unfold tkF
  by_cases e : n = 0
  · rw [if_pos e]
    refine RowOf_congr o hB9 (fun j hj => ?_)
    rcases Nat.decEq j 0 with q | q
    · exact c j hj q
    · rw [q, c0 e, zr_o (by omega), cmL_0]
  · rw [if_neg e]
    obtain ⟨e0, e1, e2, eH, eh, e9, e10, e11, e12, e13, e14, e15, eR⟩ := id o
    have hcong : RowOf (va_up (zr13 (cmL N fl sm n)) 0 (mxN fl n)) (setSc (tkS S fl sm n) (va_up (sc (tkS S fl sm n)) 0 (mxN fl n))) := RowOf_head o hB9 (fun j hj => up_n (by omega)) (up_s _ _ _) ((up_n (by omega)).trans e9) ((up_n (by omega)).trans e10) ((up_n (by omega)).trans e11) ((up_n (by omega)).trans e12) ((up_n (by omega)).trans e13) ((up_n (by omega)).trans e14) ((up_n (by omega)).trans e15)
    refine RowOf_congr hcong (hB9.sc ?_ rfl rfl rfl) (fun j hj => ?_)
    · have q := mxN_rng n (fun j hj => (hf j hj).1)
      show 0 ≤ mxN fl n ∧ mxN fl n ≤ 30000
      omega
    · rcases Nat.decEq j 0 with q | q
      · rw [up_n q]; exact c j hj q
      · rw [q, up_s]; exact c1 e
theorem rrS_t {g : Int → Int} {q : RS} (h1 : q.2.1 < 10) (h : (r4 g q.1).2 = -1) : rrS g q = (r4 g q.1, q.2.1 + 1, va_up q.2.2.1 q.2.1 (rD g q.1), va_up q.2.2.2 q.2.1 (smV g (r3 g q.1))) := by
  unfold rrS; rw [if_pos h1, if_pos h]
theorem rrS_1 {g : Int → Int} {q : RS} (h1 : q.2.1 < 10) : (rrS g q).1 = r4 g q.1 := by
  unfold rrS; rw [if_pos h1]
theorem rrS_2 {g : Int → Int} {q : RS} (h1 : ¬ q.2.1 < 10) : (rrS g q).1 = (q.1.1, q.1.1) := by
  unfold rrS; rw [if_neg h1]
theorem rdN_go {g : Int → Int} {n : Int} {k : Nat} {q : RS} (h : q.1.1 < n ∧ q.1.2 = -1) : rdN g n (k + 1) q = rdN g n k (rrS g q) := by rw [rdN, if_pos h]
