/-! holidays come and go (X7) -/
/-- no day stands twice -/
def NDh (h : Nat → Int) (q : Nat) : Prop := ∀ i j, i < j → j < q → h i ≠ h j
theorem ph_le : ∀ (q n : Nat) (g h : Nat → Int), NDh g q → (∀ i, i < q → ∃ j, j < n ∧ h j = g i) → q ≤ n
  | 0, n, g, h, _, _ => by omega
  | q + 1, n, g, h, hd, hs => by
    obtain ⟨j, j1, j2⟩ := hs q (by omega)
    have := ph_le q (n - 1) g (fun k => if k = j then h (n - 1) else h k) (fun a b ab bq => hd a b ab (by omega)) (fun i hi => by
      obtain ⟨k, k1, k2⟩ := hs i (by omega)
      have hne : k ≠ j := fun o => hd i q hi (by omega) (by rw [← k2, ← j2, o])
      rcases (show k < n - 1 ∨ k = n - 1 by omega) with o | o
      · exact ⟨k, o, by show (if k = j then h (n - 1) else h k) = g i; rw [if_neg hne]; exact k2⟩
      · exact ⟨j, by omega, by show (if j = j then h (n - 1) else h j) = g i; rw [if_pos rfl, ← o]; exact k2⟩)
    omega
theorem nd_of {q : Nat} {g h : Nat → Int} (hd : NDh g q) (hs : ∀ v, hset h q v = hset g q v) : NDh h q := by
  intro a b ab bq he
  have := ph_le q (q - 1) g (fun k => if k = b then h (q - 1) else h k) hd (fun i hi => by
    have h1 : hset h q (g i) = true := by rw [hs]; exact hset_iff.mpr ⟨i, hi, rfl⟩
    obtain ⟨j, j1, j2⟩ := hset_iff.mp h1
    rcases Nat.decEq j b with o | o
    · rcases (show j < q - 1 ∨ j = q - 1 by omega) with o2 | o2
      · exact ⟨j, o2, by show (if j = b then h (q - 1) else h j) = g i; rw [if_neg o]; exact j2⟩
      · exact ⟨b, by omega, by show (if b = b then h (q - 1) else h b) = g i; rw [if_pos rfl, ← o2]; exact j2⟩
    · exact ⟨a, by omega, by show (if a = b then h (q - 1) else h a) = g i; rw [if_neg (by omega), he, ← o]; exact j2⟩)
  omega
/-- a day is struck out of the class's holidays -/
theorem hs_rem {h : Nat → Int} {q i : Nat} {d v : Int} (hi : i < q) (e : h i = d) (hd : NDh h q) : hset (va_up h i (h (q - 1))) (q - 1) v = (hset h q v && decide (v ≠ d)) := by
  have nd : ∀ a b, a < q → b < q → a ≠ b → h a ≠ h b := fun a b ha hb hab => by
    rcases Nat.lt_or_gt_of_ne hab with o | o
    · exact hd a b o hb
    · exact fun c => hd b a o ha c.symm
  rcases bool_cases (hset (va_up h i (h (q - 1))) (q - 1) v) with o | o
  · rw [o]
    obtain ⟨j, j1, j2⟩ := hset_iff.mp o
    rcases Nat.decEq j i with c | c
    · rw [up_n c] at j2
      have n1 : v ≠ d := fun z9 => nd j i (by omega) hi c (by rw [j2, e]; exact z9)
      rw [hset_iff.mpr ⟨j, by omega, j2⟩, decide_eq_true n1]; rfl
    · rw [c, up_s] at j2
      have n1 : v ≠ d := fun z9 => nd (q - 1) i (by omega) hi (by omega) (by rw [j2, e]; exact z9)
      rw [hset_iff.mpr ⟨q - 1, by omega, j2⟩, decide_eq_true n1]; rfl
  · rw [o]
    rcases bool_cases (hset h q v) with c | c
    · obtain ⟨j, j1, j2⟩ := hset_iff.mp c
      by_cases z9 : v = d
      · rw [decide_eq_false (fun w => w z9)]; simp
      · exfalso
        have ji : j ≠ i := fun w => z9 (by rw [← j2, w]; exact e)
        have : hset (va_up h i (h (q - 1))) (q - 1) v = true := by
          rcases (show j < q - 1 ∨ j = q - 1 by omega) with w | w
          · exact hset_iff.mpr ⟨j, w, by rw [up_n ji]; exact j2⟩
          · exact hset_iff.mpr ⟨i, by omega, by rw [up_s, ← w]; exact j2⟩
        rw [this] at o
        exact absurd o (by decide)
    · rw [c]; rfl
theorem nd_rem {h : Nat → Int} {q i : Nat} (hi : i < q) (hd : NDh h q) : NDh (va_up h i (h (q - 1))) (q - 1) := by
  intro a b ab bq
  rcases Nat.decEq a i with o | o
  · rw [up_n o]
    rcases Nat.decEq b i with c | c
    · rw [up_n c]; exact hd a b ab (by omega)
    · rw [c, up_s]; exact hd a (q - 1) (by omega) (by omega)
  · rw [o, up_s, up_n (by omega)]; exact fun c => hd b (q - 1) (by omega) (by omega) c.symm
theorem nd_add {h : Nat → Int} {q : Nat} {d : Int} (hd : NDh h q) (hn : ∀ j, j < q → ¬ h j = d) : NDh (va_up h q d) (q + 1) := by
  intro a b ab bq
  rw [up_n (show a ≠ q by omega)]
  rcases Nat.decEq b q with c | c
  · rw [up_n c]; exact hd a b ab (by omega)
  · rw [c, up_s]; exact hn a (by omega)
/-- the row of the reference without a day -/
def TkR (N : Nat → Int) (q k to : Nat) (d : Int) (N9 : Nat → Int) : Prop := to ≤ k ∧ k ≤ q ∧ (∀ j, (j < 3 ∨ 3 + k ≤ j) → N9 j = N j) ∧ (∀ v, hset (rowH N9) to v = (hset (rowH N) k v && decide (v ≠ d))) ∧ (∀ j, j < to → ∃ i, i < k ∧ N9 (3 + j) = N (3 + i)) ∧ to + (if hset (rowH N) k d = true then 1 else 0) = k
theorem TkR_0 {N : Nat → Int} {q : Nat} {d : Int} : TkR N q 0 0 d N := ⟨by omega, by omega, fun _ _ => rfl, fun _ => rfl, fun j hj => absurd hj (by omega), rfl⟩
theorem TkR_n {N N9 : Nat → Int} {q k to : Nat} {d : Int} (h : TkR N q k to d N9) (hk : k < q) (hn : N (3 + k) ≠ d) : TkR N q (k + 1) (to + 1) d (va_up N9 (3 + to) (N9 (3 + k))) := by
  obtain ⟨h1, h2, h3, h4, h5, h6⟩ := h
  have e : N9 (3 + k) = N (3 + k) := h3 _ (by omega)
  have hs : ∀ v, hset (rowH N) (k + 1) v = (hset (rowH N) k v || decide (N (3 + k) = v)) := fun v => rfl
  refine ⟨by omega, by omega, fun j hj => by rw [up_n (by omega)]; exact h3 j (by omega), fun v => ?_, fun j hj => ?_, ?_⟩
  · show (hset (rowH (va_up N9 (3 + to) (N9 (3 + k)))) to v || decide (va_up N9 (3 + to) (N9 (3 + k)) (3 + to) = v)) = _
    rw [up_s, e, show hset (rowH (va_up N9 (3 + to) (N (3 + k)))) to v = hset (rowH N9) to v from hset_congr to (fun j hj => up_n (by omega)), h4 v, hs v]
    by_cases c : N (3 + k) = v
    · rw [decide_eq_true c, decide_eq_true (show v ≠ d by rw [← c]; exact hn)]; simp
    · rw [decide_eq_false c]; simp
  · rcases Nat.decEq j to with c | c
    · obtain ⟨i, i1, i2⟩ := h5 j (by omega)
      exact ⟨i, by omega, by rw [up_n (by omega)]; exact i2⟩
    · exact ⟨k, by omega, by rw [c, up_s]; exact e⟩
  · rw [hs d, decide_eq_false hn, Bool.or_false]; omega
theorem TkR_e {N N9 : Nat → Int} {q k to : Nat} {d : Int} (h : TkR N q k to d N9) (hk : k < q) (hd : NDh (rowH N) q) (hn : N (3 + k) = d) : TkR N q (k + 1) to d N9 := by
  obtain ⟨h1, h2, h3, h4, h5, h6⟩ := h
  have hs : ∀ v, hset (rowH N) (k + 1) v = (hset (rowH N) k v || decide (N (3 + k) = v)) := fun v => rfl
  have hno : ¬ hset (rowH N) k d = true := fun o => by
    obtain ⟨j, j1, j2⟩ := hset_iff.mp o
    exact hd j k j1 hk (by rw [j2]; exact hn.symm)
  rw [if_neg hno] at h6
  refine ⟨by omega, by omega, fun j hj => h3 j (by omega), fun v => ?_, fun j hj => ?_, ?_⟩
  · rw [h4 v, hs v]
    by_cases c : v = d
    · rw [decide_eq_false (show ¬ v ≠ d by exact fun w => w c)]; simp
    · rw [decide_eq_false (show ¬ N (3 + k) = v by rw [hn]; exact fun w => c w.symm), Bool.or_false]
  · obtain ⟨i, i1, i2⟩ := h5 j hj
    exact ⟨i, by omega, i2⟩
  · rw [hs d, decide_eq_true hn, Bool.or_true, if_pos rfl]; omega
theorem RowOf_hol {N N' : Nat → Int} {S : SD} {q : Nat} {h : Nat → Int} (hr : RowOf N S) (hB : SB S) (h0 : sN S = 0) (c : ∀ j, (j < 2 ∨ 9 ≤ j) → N' j = N j) (c2 : N' 2 = (q : Int)) (cs : ∀ v, hset (rowH N') q v = hset h q v) (cr : ∀ j, j < q → 0 ≤ N' (3 + j) ∧ N' (3 + j) ≤ 2000) : RowOf N' (setH S q h) := by
  obtain ⟨e0, e1, e2, eH, eh, e9, e10, e11, e12, e13, e14, e15, eR⟩ := hr
  exact ⟨(c _ (by omega)).trans e0, (c _ (by omega)).trans e1, c2, cs, cr, (c _ (by omega)).trans e9, (c _ (by omega)).trans e10, (c _ (by omega)).trans e11, (c _ (by omega)).trans e12, (c _ (by omega)).trans e13, (c _ (by omega)).trans e14, (c _ (by omega)).trans e15, fun i (hi : i < sN S) => absurd hi (by omega)⟩
