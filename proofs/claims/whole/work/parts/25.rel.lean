/-! the row of the reference and the state of the class -/
def stV (a : Nat → Nat → Int) (v : Nat) : Int := if a 4 v = -1 then 0 else if gapB a (a 4 v) 19 = true then 2 else 1
def RtOf (N : Nat → Int) (b : Nat) (F : Nat → Int) (a : Nat → Nat → Int) : Prop :=
  N b = F 0 ∧ N (b + 1) = F 2 ∧ N (b + 2) = F 3 ∧ N (b + 3) = F 4 ∧ N (b + 4) = F 5 ∧ (∃ n : Nat, n < 1024 ∧ N (b + 5) = n ∧ ∀ v, v < 10 → (n / 2 ^ v % 2 = 1 ↔ stV a v = 2)) ∧ (∀ y : Nat, 1 ≤ y → (y : Int) ≤ F 3 → N (b + 5 + y) = a 2 y) ∧ ∀ v, v < 10 → N (b + 25 + v) = a 4 v
def RowOf (N : Nat → Int) (S : SD) : Prop :=
  N 0 = sc S 0 ∧ N 1 = (sN S : Int) ∧ N 2 = (sH S : Int) ∧ (∀ v, hset (rowH N) (sH S) v = hset (ho S) (sH S) v) ∧ (∀ j, j < sH S → 0 ≤ N (3 + j) ∧ N (3 + j) ≤ 2000) ∧ N 9 = sc S 4 ∧ N 10 = sc S 5 ∧ N 11 = sc S 6 ∧ N 12 = sc S 7 ∧ N 13 = sc S 1 ∧ N 14 = sc S 2 ∧ N 15 = sc S 3 ∧ ∀ i, i < sN S → RtOf N (16 + 35 * i) (RF S i) (RA S i)
/-- what is known of a right of the class, on day t -/
def RI (H : Int → Bool) (t : Int) (F : Nat → Int) (a : Nat → Nat → Int) : Prop :=
  (0 ≤ F 0 ∧ F 0 ≤ 18262) ∧ F 0 ≤ t ∧ F 1 = later (F 0) 240 - 1 ∧ (∀ y : Nat, 1 ≤ y → y ≤ 19 → a 0 y = pf H (later (F 0) (12 * y)) ∧ a 1 y = pf H (later (F 0) (12 * y + 6))) ∧
  True ∧ (∀ y : Nat, 1 ≤ y → (y : Int) ≤ F 3 → 0 ≤ a 2 y ∧ a 2 y ≤ t) ∧ (∀ y : Nat, 1 ≤ y → (y : Int) < F 3 → a 2 y ≤ a 2 (y + 1)) ∧
  (∀ y : Nat, 1 ≤ y → (y : Int) ≤ F 3 → a 3 y = 0 ∨ a 3 y = a 2 y ∧ a 1 y < a 2 y) ∧
  (∀ y : Nat, 1 ≤ y → (y : Int) ≤ F 3 → a 1 y < a 2 y → ∃ k : Nat, 1 ≤ k ∧ k ≤ y ∧ a 3 k = a 2 y) ∧ ∀ v, v < 10 → a 4 v ≤ t
def IS (S : SD) : Prop := (0 ≤ sc S 7 ∧ sc S 7 ≤ 9999) ∧ sc S 0 ≤ 27758 ∧ ∀ i, i < sN S → RI (Hf S) (sc S 0) (RF S i) (RA S i)
-- later days
def msN (j : Int) : Int := dayN (j / 12) (j % 12 + 1) 1
theorem msN_step (j : Int) : msN (j + 1) = msN j + ml (j / 12) (j % 12 + 1) := by
  have hb := ml_bef (y := j / 12) (m := j % 12 + 1) (by omega)
  have h13 := bef_13 (lp (j / 12))
  have h1 := bef_1 (lp (j / 12 + 1))
  have hn := ny_step (j / 12)
  unfold msN dayN
  rcases (show j % 12 = 11 ∨ j % 12 < 11 by omega) with o | o
  · rw [show (j + 1) / 12 = j / 12 + 1 by omega, show (j + 1) % 12 + 1 = 1 by omega, h1]
    rw [o] at hb ⊢
    rw [show (11 : Int) + 1 + 1 = 13 by omega, h13] at hb
    omega
  · rw [show (j + 1) / 12 = j / 12 by omega, show (j + 1) % 12 + 1 = j % 12 + 1 + 1 by omega]
    omega
theorem msN_mono : ∀ (n : Nat) (j : Int), msN j ≤ msN (j + n)
  | 0, j => by simp
  | n + 1, j => by
    have h := msN_mono n j
    have h2 := msN_step (j + n)
    have h3 := ml_rng ((j + n) / 12) ((j + n) % 12 + 1)
    rw [show j + ((n + 1 : Nat) : Int) = j + n + 1 by omega]
    omega
/-- the month of a day's date, n months later -/
def mIdx (d n : Int) : Int := 12 * yr d + (mm d - 1 + n)
theorem later_in {d n : Int} (hd : 0 ≤ d) : msN (mIdx d n) ≤ later d n ∧ later d n < msN (mIdx d n + 1) := by
  have h5 := dd_31 hd
  have h2 := msN_step (mIdx d n)
  have hl := ml_rng (yr d + (mm d - 1 + n) / 12) ((mm d - 1 + n) % 12 + 1)
  have e1 : mIdx d n / 12 = yr d + (mm d - 1 + n) / 12 := by unfold mIdx; omega
  have e2 : mIdx d n % 12 = (mm d - 1 + n) % 12 := by unfold mIdx; omega
  rw [e1, e2] at h2
  have h3 : msN (mIdx d n) = dayN (yr d + (mm d - 1 + n) / 12) ((mm d - 1 + n) % 12 + 1) 1 := by unfold msN; rw [e1, e2]
  have h4 : ∀ k, dayN (yr d + (mm d - 1 + n) / 12) ((mm d - 1 + n) % 12 + 1) k = msN (mIdx d n) + k - 1 := by intro k; rw [h3]; unfold dayN; omega
  have h6 : later d n = msN (mIdx d n) + (if ml (yr d + (mm d - 1 + n) / 12) ((mm d - 1 + n) % 12 + 1) < dd d then ml (yr d + (mm d - 1 + n) / 12) ((mm d - 1 + n) % 12 + 1) else dd d) - 1 := h4 _
  rw [h6, h2]
  split <;> omega
theorem later_lt {d n k : Int} (hd : 0 ≤ d) (h : n < k) : later d n < later d k := by
  have h1 := (later_in (n := n) hd).2
  have h2 := (later_in (n := k) hd).1
  have h3 := msN_mono (k - n - 1).toNat (mIdx d n + 1)
  rw [show mIdx d n + 1 + ((k - n - 1).toNat : Int) = mIdx d k by unfold mIdx; omega] at h3
  omega
theorem later_0 {d : Int} (hd : 0 ≤ d) : later d 0 = d := by
  have h1 := dd_rng hd
  have h2 := mm_rng d
  unfold later
  rw [show (mm d - 1 + 0) / 12 = 0 by omega, show (mm d - 1 + 0) % 12 + 1 = mm d by omega, show yr d + 0 = yr d by omega, if_neg (by omega)]
  exact day_date d
theorem pf_least {h : Nat → Int} {c : Nat} (hc : c ≤ 6) {d : Int} (hd : 0 ≤ d) {e : Int} (h1 : d ≤ e) (h2 : work (hset h c) e = true) : pf (hset h c) d ≤ e := by
  rcases (show e ≤ d + 300 ∨ d + 300 < e by omega) with o | o
  · have := (wf_work (hset h c) 366 d (e - d).toNat (by omega) (by rw [show d + ((e - d).toNat : Int) = e by omega]; exact h2)).2
    unfold pf
    omega
  · have := (pf_spec (h := h) hc hd).2.2
    omega
theorem pf_mono {h : Nat → Int} {c : Nat} (hc : c ≤ 6) {d e : Int} (hd : 0 ≤ d) (h1 : d ≤ e) : pf (hset h c) d ≤ pf (hset h c) e := by
  have h2 := pf_spec (h := h) hc (d := e) (by omega)
  exact pf_least hc hd (by omega) h2.1
section RIF
variable {S : SD} {t : Int} {F : Nat → Int} {a : Nat → Nat → Int}
theorem RI.due_lt (h : RI (Hf S) t F a) (hq : sH S ≤ 6) {y k : Nat} (hy : 1 ≤ y) (hk : k ≤ 19) (hyk : y < k) : a 0 y ≤ a 0 k := by
  have h1 := (h.2.2.2.1 y hy (by omega)).1
  have h2 := (h.2.2.2.1 k (by omega) hk).1
  have h3 := later_lt (d := F 0) (n := 12 * y) (k := 12 * k) h.1.1 (by omega)
  have h4 := (later_rng (d := F 0) (n := 12 * (y : Int)) h.1.1 (by omega)).1
  rw [h1, h2]
  exact pf_mono hq h4 (by omega)
theorem RI.grace_lt (h : RI (Hf S) t F a) (hq : sH S ≤ 6) {y k : Nat} (hy : 1 ≤ y) (hk : k ≤ 19) (hyk : y < k) : a 1 y ≤ a 1 k := by
  have h1 := (h.2.2.2.1 y hy (by omega)).2
  have h2 := (h.2.2.2.1 k (by omega) hk).2
  have h3 := later_lt (d := F 0) (n := 12 * y + 6) (k := 12 * k + 6) h.1.1 (by omega)
  have h4 := (later_rng (d := F 0) (n := 12 * (y : Int) + 6) h.1.1 (by omega)).1
  rw [h1, h2]
  exact pf_mono hq h4 (by omega)
theorem RI.due_grace (h : RI (Hf S) t F a) (hq : sH S ≤ 6) {y : Nat} (hy : 1 ≤ y) (hk : y ≤ 19) : a 0 y ≤ a 1 y := by
  have h1 := h.2.2.2.1 y hy hk
  have h3 := later_lt (d := F 0) (n := 12 * y) (k := 12 * y + 6) h.1.1 (by omega)
  have h4 := (later_rng (d := F 0) (n := 12 * (y : Int)) h.1.1 (by omega)).1
  rw [h1.1, h1.2]
  exact pf_mono hq h4 (by omega)
theorem RI.due_pos (h : RI (Hf S) t F a) (hq : sH S ≤ 6) {y : Nat} (hy : 1 ≤ y) (hk : y ≤ 19) : F 0 < a 0 y := by
  have h1 := (h.2.2.2.1 y hy hk).1
  have h3 := later_lt (d := F 0) (n := 0) (k := 12 * y) h.1.1 (by omega)
  rw [later_0 h.1.1] at h3
  have h0 := h.1.1
  have h4 := (pf_spec (h := ho S) hq (d := later (F 0) (12 * (y : Int))) (by omega)).2.1
  rw [h1]
  show F 0 < pf (hset (ho S) (sH S)) _
  omega
theorem RI.gap_le (h : RI (Hf S) t F a) (hF : F 3 ≤ 19) : ∀ n : Nat, (n : Int) ≤ F 3 → gapB a t n = false
  | 0, _ => rfl
  | n + 1, hn => by
    show (gapB a t n || decide (a 0 (n + 1) < t ∧ t < a 3 (n + 1))) = false
    rw [RI.gap_le h hF n (by omega)]
    have h1 := h.2.2.2.2.2.2.2.1 (n + 1) (by omega) (by omega)
    have h2 := h.2.2.2.2.2.1 (n + 1) (by omega) (by omega)
    have h3 : ¬ (a 0 (n + 1) < t ∧ t < a 3 (n + 1)) := by
      intro o
      have h4 := h.2.1
      have h5 := h.1.1
      rcases h1 with e | e <;> omega
    rw [decide_eq_false h3]; rfl
theorem yv_at {g : Nat → Int} {e y : Int} (h : 1 ≤ y ∧ y < 20) : yv g e y = g y.toNat := by unfold yv; rw [if_pos h]
/-- standing today -/
theorem RI.stands (h : RI (Hf S) t F a) (hq : sH S ≤ 6) (hF : 0 ≤ F 3 ∧ F 3 ≤ 19) : stoodR F a t t ↔ t ≤ F 1 ∧ ¬ lapR F a t := by
  have hg := RI.gap_le h hF.2 (F 3).toNat (by omega)
  constructor
  · rintro ⟨h1, h2, h3, h4⟩
    refine ⟨h2, fun o => h3 ⟨o, ?_⟩⟩
    have o1 := o.1
    have o2 := o.2
    rw [yv_at (by omega)] at o2 ⊢
    have := RI.due_grace h hq (y := (F 3 + 1).toNat) (by omega) (by omega)
    omega
  · rintro ⟨h1, h2⟩
    exact ⟨h.2.1, h1, fun o => h2 o.1, hg⟩
end RIF
theorem RowOf.H {N : Nat → Int} {S : SD} (h : RowOf N S) : hset (rowH N) (sH S) = hset (ho S) (sH S) := funext h.2.2.2.1
