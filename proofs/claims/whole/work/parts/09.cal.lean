/-! THE CALENDAR, in whole numbers (the two rows on places are of the given laws COUNTS) -/
theorem fb_holes : ∀ (m n : Nat) (f : Nat → Nat), (∀ i, i < n → f i < m) → (∀ i j, i < j → j < n → f i ≠ f j) → n ≤ m := by
  intro m
  induction m with
  | zero =>
    intro n f h1 _
    rcases Nat.eq_zero_or_pos n with h | h
    · omega
    · exact absurd (h1 0 h) (Nat.not_lt_zero _)
  | succ m ih =>
    intro n f h1 h2
    by_cases hx : ∃ i, i < n ∧ f i = m
    · obtain ⟨a, ha, hfa⟩ := hx
      have hg := ih (n - 1) (fun i => if i < a then f i else f (i + 1)) (by
        intro i hi
        by_cases q : i < a
        · simp only [if_pos q]
          have b1 := h1 i (by omega)
          have b2 := h2 i a q ha
          omega
        · simp only [if_neg q]
          have b1 := h1 (i + 1) (by omega)
          have b2 := h2 a (i + 1) (by omega) (by omega)
          omega) (by
        intro i j hij hj
        by_cases q : i < a
        · by_cases r : j < a
          · simp only [if_pos q, if_pos r]
            exact h2 i j hij (by omega)
          · simp only [if_pos q, if_neg r]
            exact h2 i (j + 1) (by omega) (by omega)
        · have r : ¬ j < a := by omega
          simp only [if_neg q, if_neg r]
          exact h2 (i + 1) (j + 1) (by omega) (by omega))
      omega
    · have hg := ih n f (fun i hi => by
        have b1 := h1 i hi
        have b2 : f i ≠ m := fun e => hx ⟨i, hi, e⟩
        omega) h2
      omega
/-- two of them in one place -/
theorem fb_twice {m n : Nat} {f : Nat → Nat} (h : ∀ i, i < n → f i < m) (hm : m < n) : ∃ i j, i < j ∧ j < n ∧ f i = f j := by
  refine Classical.byContradiction fun hx => ?_
  have := fb_holes m n f h (fun i j hij hj e => hx ⟨i, j, hij, hj, e⟩)
  omega
def ml (y m : Int) : Int := if m = 2 then (if y % 4 = 0 then 29 else 28) else if m = 4 ∨ m = 6 ∨ m = 9 ∨ m = 11 then 30 else 31
def ny (y : Int) : Int := 365 * y + (y + 3) / 4
def lp (y : Int) : Int := if y % 4 = 0 then 1 else 0
def bef (L m : Int) : Int := if m ≤ 1 then 0 else if m = 2 then 31 else if m = 3 then 59 + L else if m = 4 then 90 + L else if m = 5 then 120 + L else if m = 6 then 151 + L else if m = 7 then 181 + L else if m = 8 then 212 + L else if m = 9 then 243 + L else if m = 10 then 273 + L else if m = 11 then 304 + L else if m = 12 then 334 + L else 365 + L
theorem twelve {m : Int} (h : 1 ≤ m ∧ m ≤ 12) : m = 1 ∨ m = 2 ∨ m = 3 ∨ m = 4 ∨ m = 5 ∨ m = 6 ∨ m = 7 ∨ m = 8 ∨ m = 9 ∨ m = 10 ∨ m = 11 ∨ m = 12 := by omega
theorem ml_bef {y m : Int} (h : 1 ≤ m ∧ m ≤ 12) : bef (lp y) m + ml y m = bef (lp y) (m + 1) := by
  unfold lp
  rcases twelve h with rfl | rfl | rfl | rfl | rfl | rfl | rfl | rfl | rfl | rfl | rfl | rfl <;> simp [bef, ml] <;> split <;> omega
theorem ml_rng (y m : Int) : 28 ≤ ml y m ∧ ml y m ≤ 31 := by unfold ml; omega
theorem lp_rng (y : Int) : lp y = 0 ∨ lp y = 1 := by unfold lp; omega
theorem bef_1 (L : Int) : bef L 1 = 0 := by simp [bef]
theorem bef_13 (L : Int) : bef L 13 = 365 + L := by simp [bef]
theorem bef_rng {L m : Int} (hL : L = 0 ∨ L = 1) (h : 1 ≤ m ∧ m ≤ 13) : 0 ≤ bef L m ∧ bef L m ≤ 365 + L := by unfold bef; omega
theorem ny_mono {a b : Int} (h : a ≤ b) : ny a ≤ ny b := by unfold ny; omega
theorem ny_step (y : Int) : ny (y + 1) = ny y + 365 + lp y := by unfold ny lp; omega
theorem ny_le {a b : Int} (h : a ≤ b) : ny a + 365 * (b - a) ≤ ny b := by unfold ny; omega
def yr (d : Int) : Int := d / 1461 * 4 + (if d % 1461 < 366 then 0 else 1 + (d % 1461 - 366) / 365)
theorem yr_spec {d : Int} (h : 0 ≤ d) : 0 ≤ yr d ∧ ny (yr d) ≤ d ∧ d < ny (yr d + 1) := by unfold yr ny; omega
theorem yr_uniq {d y : Int} (h : 0 ≤ d) (h1 : ny y ≤ d) (h2 : d < ny (y + 1)) : yr d = y := by
  obtain ⟨-, h3, h4⟩ := yr_spec h
  rcases Int.lt_trichotomy (yr d) y with q | q | q
  · have := ny_mono (show yr d + 1 ≤ y by omega); omega
  · exact q
  · have := ny_mono (show y + 1 ≤ yr d by omega); omega
def mo (L r : Int) : Int := if r < 31 then 1 else if r < 59 + L then 2 else if r < 90 + L then 3 else if r < 120 + L then 4 else if r < 151 + L then 5 else if r < 181 + L then 6 else if r < 212 + L then 7 else if r < 243 + L then 8 else if r < 273 + L then 9 else if r < 304 + L then 10 else if r < 334 + L then 11 else 12
theorem mo_rng (L r : Int) : 1 ≤ mo L r ∧ mo L r ≤ 12 := by unfold mo; omega
theorem mo_spec {L r : Int} (hL : L = 0 ∨ L = 1) (h : 0 ≤ r ∧ r < 365 + L) : bef L (mo L r) ≤ r ∧ r < bef L (mo L r + 1) := by
  have h1 := mo_rng L r
  have h2 : mo L r = mo L r := rfl
  revert h2
  conv => lhs; rhs; unfold mo
  intro h2
  rcases twelve h1 with q | q | q | q | q | q | q | q | q | q | q | q <;> rw [q] at h2 ⊢ <;> simp [bef] <;> omega
theorem mo_uniq {L r m : Int} (hL : L = 0 ∨ L = 1) (hm : 1 ≤ m ∧ m ≤ 12) (h1 : bef L m ≤ r) (h2 : r < bef L (m + 1)) : mo L r = m := by
  rcases twelve hm with rfl | rfl | rfl | rfl | rfl | rfl | rfl | rfl | rfl | rfl | rfl | rfl <;> simp [bef] at h1 h2 <;> unfold mo <;> omega
def mm (d : Int) : Int := mo (lp (yr d)) (d - ny (yr d))
def dd (d : Int) : Int := d - ny (yr d) - bef (lp (yr d)) (mm d) + 1
def date (d : Int) : Int := 10000 * yr d + 100 * mm d + dd d
def dayN (y m k : Int) : Int := ny y + bef (lp y) m + k - 1
theorem mm_rng (d : Int) : 1 ≤ mm d ∧ mm d ≤ 12 := mo_rng _ _
theorem dd_rng {d : Int} (h : 0 ≤ d) : 1 ≤ dd d ∧ dd d ≤ ml (yr d) (mm d) := by
  obtain ⟨h1, h2, h3⟩ := yr_spec h
  rw [ny_step] at h3
  obtain ⟨h4, h5⟩ := mo_spec (lp_rng (yr d)) (r := d - ny (yr d)) (by omega)
  have h6 := ml_bef (y := yr d) (mm_rng d)
  unfold dd
  show 1 ≤ d - ny (yr d) - bef (lp (yr d)) (mm d) + 1 ∧ _
  have h4' : bef (lp (yr d)) (mm d) ≤ d - ny (yr d) := h4
  have h5' : d - ny (yr d) < bef (lp (yr d)) (mm d + 1) := h5
  omega
theorem dd_31 {d : Int} (h : 0 ≤ d) : 1 ≤ dd d ∧ dd d ≤ 31 := by
  have h1 := dd_rng h
  have h2 := ml_rng (yr d) (mm d)
  omega
theorem day_date (d : Int) : dayN (yr d) (mm d) (dd d) = d := by unfold dayN dd; omega
theorem yr_le {d y : Int} (h : 0 ≤ d) (h2 : d < ny (y + 1)) : yr d ≤ y := by
  obtain ⟨-, h3, h4⟩ := yr_spec h
  rcases Int.lt_or_le y (yr d) with q | q
  · have := ny_mono (show y + 1 ≤ yr d by omega); omega
  · exact q
theorem date_yr {d : Int} (h : 0 ≤ d) : date d / 10000 = yr d := by
  have h1 := dd_31 h
  have h2 := mm_rng d
  unfold date
  omega
theorem date_mm {d : Int} (h : 0 ≤ d) : date d / 100 % 100 = mm d := by
  have h1 := dd_31 h
  have h2 := mm_rng d
  unfold date
  omega
theorem date_dd {d : Int} (h : 0 ≤ d) : date d % 100 = dd d := by
  have h1 := dd_31 h
  have h2 := mm_rng d
  unfold date
  omega
theorem date_md {d : Int} (h : 0 ≤ d) : date d % 10000 = 100 * mm d + dd d := by
  have h1 := dd_31 h
  have h2 := mm_rng d
  unfold date
  omega
theorem date_rng {d : Int} (h : 0 ≤ d ∧ d < 36500) : 0 ≤ date d ∧ date d < 1001300 := by
  have h1 := dd_31 h.1
  have h2 := mm_rng d
  have h3 := yr_spec h.1
  have h4 : yr d ≤ 99 := yr_le h.1 (by unfold ny; omega)
  unfold date
  omega
theorem dayN_yr {y m k : Int} (hy : 0 ≤ y) (hm : 1 ≤ m ∧ m ≤ 12) (hk : 1 ≤ k ∧ k ≤ ml y m) : yr (dayN y m k) = y ∧ mm (dayN y m k) = m ∧ dd (dayN y m k) = k ∧ 0 ≤ dayN y m k := by
  have h1 := ml_bef (y := y) hm
  have h2 := bef_rng (lp_rng y) (m := m) (by omega)
  have h3 := bef_rng (lp_rng y) (m := m + 1) (by omega)
  have h4 : 0 ≤ ny y := by unfold ny; omega
  have h5 : yr (dayN y m k) = y := yr_uniq (by unfold dayN; omega) (by unfold dayN; omega) (by rw [ny_step]; unfold dayN; omega)
  have h6 : mm (dayN y m k) = m := by
    unfold mm
    rw [h5]
    exact mo_uniq (lp_rng y) hm (by unfold dayN; omega) (by unfold dayN; omega)
  refine ⟨h5, h6, ?_, by unfold dayN; omega⟩
  unfold dd
  rw [h5, h6]
  unfold dayN
  omega
/-- some months behind a day -/
def later (d n : Int) : Int := dayN (yr d + (mm d - 1 + n) / 12) ((mm d - 1 + n) % 12 + 1) (if ml (yr d + (mm d - 1 + n) / 12) ((mm d - 1 + n) % 12 + 1) < dd d then ml (yr d + (mm d - 1 + n) / 12) ((mm d - 1 + n) % 12 + 1) else dd d)
/-- whether v is one of the first n of h -/
def hset (h : Nat → Int) : Nat → Int → Bool
  | 0, _ => false
  | n + 1, v => hset h n v || decide (h n = v)
theorem hset_iff {h : Nat → Int} {v : Int} : ∀ {n : Nat}, hset h n v = true ↔ ∃ i, i < n ∧ h i = v
  | 0 => by simp [hset]
  | n + 1 => by
    simp only [hset, Bool.or_eq_true, decide_eq_true_eq, hset_iff (n := n)]
    constructor
    · rintro (⟨i, h1, h2⟩ | h1)
      · exact ⟨i, by omega, h2⟩
      · exact ⟨n, by omega, h1⟩
    · rintro ⟨i, h1, h2⟩
      rcases Nat.lt_or_ge i n with q | q
      · exact Or.inl ⟨i, q, h2⟩
      · have : i = n := by omega
        subst this
        exact Or.inr h2
def work (H : Int → Bool) (d : Int) : Bool := decide (d % 7 < 5) && !H (date d % 10000)
def wf (H : Int → Bool) : Nat → Int → Int
  | 0, d => d
  | n + 1, d => if work H d = true then d else wf H n (d + 1)
/-- put off -/
def pf (H : Int → Bool) (d : Int) : Int := wf H 366 d
theorem wf_le (H : Int → Bool) : ∀ (n : Nat) (d : Int), d ≤ wf H n d ∧ wf H n d ≤ d + n
  | 0, d => by simp [wf]
  | n + 1, d => by
    unfold wf
    have := wf_le H n (d + 1)
    split <;> omega
theorem wf_work (H : Int → Bool) : ∀ (n : Nat) (d : Int) (j : Nat), j < n → work H (d + j) = true → work H (wf H n d) = true ∧ wf H n d ≤ d + j
  | 0, d, j, h, _ => absurd h (Nat.not_lt_zero j)
  | n + 1, d, j, h, hw => by
    unfold wf
    by_cases q : work H d = true
    · rw [if_pos q]
      exact ⟨q, by omega⟩
    · rw [if_neg q]
      cases j with
      | zero => exact absurd (by simpa using hw) q
      | succ j =>
        have := wf_work H n (d + 1) j (by omega) (by rw [show d + 1 + (j : Int) = d + ((j + 1 : Nat) : Int) by push_cast; omega]; exact hw)
        exact ⟨this.1, by have := this.2; push_cast; omega⟩
theorem md_inj {a b : Int} (ha : 0 ≤ a) (hab : a < b) (hb : b ≤ a + 300) : date a % 10000 ≠ date b % 10000 := by
  rw [date_md ha, date_md (by omega)]
  have h1 := dd_31 ha
  have h2 := mm_rng a
  have h3 := dd_31 (show 0 ≤ b by omega)
  have h4 := mm_rng b
  intro e
  have e1 : mm a = mm b := by omega
  have e2 : dd a = dd b := by omega
  have e3 := day_date a
  have e4 := day_date b
  have h5 := yr_spec ha
  have h6 := yr_spec (show 0 ≤ b by omega)
  have h7 : bef (lp (yr a)) (mm a) - bef (lp (yr b)) (mm b) ≤ 1 ∧ -1 ≤ bef (lp (yr a)) (mm a) - bef (lp (yr b)) (mm b) := by
    rw [e1]
    have := lp_rng (yr a)
    have := lp_rng (yr b)
    unfold bef
    omega
  unfold dayN at e3 e4
  rcases Int.lt_trichotomy (yr a) (yr b) with q | q | q
  · have := ny_le (show yr a + 1 ≤ yr b by omega)
    have := ny_step (yr a)
    have := lp_rng (yr a)
    omega
  · rw [q, e1] at e3
    omega
  · have := ny_mono (show yr b + 1 ≤ yr a by omega)
    omega
/-- seven days that are not of the weekend, by the day's residue -/
def wk (r : Nat) (i : Nat) : Nat := match r with
  | 0 => [0, 1, 2, 3, 4, 7, 8].getD i 0
  | 1 => [0, 1, 2, 3, 6, 7, 8].getD i 0
  | 2 => [0, 1, 2, 5, 6, 7, 8].getD i 0
  | 3 => [0, 1, 4, 5, 6, 7, 8].getD i 0
  | 4 => [0, 3, 4, 5, 6, 7, 10].getD i 0
  | 5 => [2, 3, 4, 5, 6, 9, 10].getD i 0
  | _ => [1, 2, 3, 4, 5, 8, 9].getD i 0
theorem wk_ok : ∀ r, r < 7 → ∀ i, i < 7 → (r + wk r i) % 7 < 5 ∧ wk r i < 11 ∧ ∀ j, j < 7 → i < j → wk r i < wk r j := by decide +kernel
theorem ex_work {h : Nat → Int} {c : Nat} (hc : c ≤ 6) {d : Int} (hd : 0 ≤ d) : ∃ j : Nat, j < 11 ∧ work (hset h c) (d + j) = true := by
  refine Classical.byContradiction fun hx => ?_
  have hr : (d % 7).toNat < 7 := by omega
  have hk : ∀ i, i < 7 → ∃ q, q < c ∧ h q = date (d + (wk (d % 7).toNat i : Nat)) % 10000 := by
    intro i hi
    obtain ⟨h1, h2, -⟩ := wk_ok _ hr i hi
    have h3 : ¬ work (hset h c) (d + (wk (d % 7).toNat i : Nat)) = true := fun h => hx ⟨_, h2, h⟩
    have h4 : (d + (wk (d % 7).toNat i : Nat)) % 7 < 5 := by omega
    have h5 : hset h c (date (d + (wk (d % 7).toNat i : Nat)) % 10000) = true := by
      simpa [work, h4] using h3
    exact hset_iff.mp h5
  have hf : ∀ i, ∃ q, i < 7 → q < c ∧ h q = date (d + (wk (d % 7).toNat i : Nat)) % 10000 := by
    intro i
    by_cases hi : i < 7
    · obtain ⟨q, hq⟩ := hk i hi
      exact ⟨q, fun _ => hq⟩
    · exact ⟨0, fun q => absurd q hi⟩
  obtain ⟨i, j, hij, hj, e⟩ := fb_twice (m := c) (n := 7) (f := fun i => Classical.choose (hf i)) (fun i hi => (Classical.choose_spec (hf i) hi).1) (by omega)
  have h1 := (Classical.choose_spec (hf i) (by omega)).2
  have h2 := (Classical.choose_spec (hf j) hj).2
  have e : Classical.choose (hf i) = Classical.choose (hf j) := e
  rw [e] at h1
  obtain ⟨-, h3, h4⟩ := wk_ok _ hr i (by omega)
  obtain ⟨-, h5, -⟩ := wk_ok _ hr j hj
  have h6 := h4 j hj hij
  exact md_inj (by omega) (show d + (wk (d % 7).toNat i : Nat) < d + (wk (d % 7).toNat j : Nat) by omega) (by omega) (h1.symm.trans h2)
theorem pf_spec {h : Nat → Int} {c : Nat} (hc : c ≤ 6) {d : Int} (hd : 0 ≤ d) : work (hset h c) (pf (hset h c) d) = true ∧ d ≤ pf (hset h c) d ∧ pf (hset h c) d ≤ d + 10 := by
  obtain ⟨j, h1, h2⟩ := ex_work (h := h) hc hd
  obtain ⟨h3, h4⟩ := wf_work (hset h c) 366 d j (by omega) h2
  have h5 := wf_le (hset h c) 366 d
  unfold pf
  exact ⟨h3, h5.1, by omega⟩
