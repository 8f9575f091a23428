/-! the share (X7): the days counted one by one are the days summed -/
theorem cntN_all {p : Nat → Bool} : ∀ n, (∀ k, k < n → p k = true) → cntN p n = n
  | 0, _ => rfl
  | n + 1, h => by rw [cntN_t (h n (by omega)), cntN_all n (fun k hk => h k (by omega))]
theorem cntN_cg {p q : Nat → Bool} : ∀ n, (∀ k, k < n → p k = q k) → cntN p n = cntN q n
  | 0, _ => rfl
  | n + 1, h => by
    show cntN p n + (if p n = true then 1 else 0) = cntN q n + (if q n = true then 1 else 0)
    rw [cntN_cg n (fun k hk => h k (by omega)), h n (by omega)]
theorem cntN_cut {p : Nat → Bool} {m : Nat} : ∀ n, m ≤ n → (∀ k, m ≤ k → k < n → p k = false) → cntN p n = cntN p m
  | 0, h, _ => by rw [show m = 0 by omega]
  | n + 1, h, hf => by
    rcases (show m = n + 1 ∨ m ≤ n by omega) with o | o
    · rw [o]
    · rw [cntN_f (hf n o (by omega)), cntN_cut n o (fun k k1 k2 => hf k k1 (by omega))]
theorem gapB_hi {a : Nat → Nat → Int} {d : Int} : ∀ n, (∀ y, 1 ≤ y → y ≤ n → a 3 y ≤ d) → gapB a d n = false
  | 0, _ => rfl
  | n + 1, h => by
    show (gapB a d n || decide (a 0 (n + 1) < d ∧ d < a 3 (n + 1))) = false
    have h1 := h (n + 1) (by omega) (by omega)
    rw [gapB_hi n (fun y y1 y2 => h y y1 (by omega)), decide_eq_false (show ¬ (a 0 (n + 1) < d ∧ d < a 3 (n + 1)) by omega)]; rfl
theorem pay_mono {H : Int → Bool} {t : Int} {F : Nat → Int} {a : Nat → Nat → Int} (h : RI H t F a) {y : Nat} (hy : 1 ≤ y) : ∀ n : Nat, y ≤ n → (n : Int) ≤ F 3 → a 2 y ≤ a 2 n
  | 0, h1, _ => absurd h1 (by omega)
  | n + 1, h1, h2 => by
    rcases (show y = n + 1 ∨ y ≤ n by omega) with o | o
    · rw [o]; exact Int.le_refl _
    · have e1 := pay_mono h hy n o (by omega)
      have e2 := h.2.2.2.2.2.2.1 n (by omega) (by omega)
      omega
theorem sd_cnt {S : SD} {t : Int} {F : Nat → Int} {a : Nat → Nat → Int} (h : RI (Hf S) t F a) (hq : sH S ≤ 6) (hF : F 3 ≤ 19) : ∀ n : Nat, (n : Int) ≤ F 3 → ∀ L : Nat, (∀ y : Nat, 1 ≤ y → y ≤ n → 0 < a 3 y → a 0 y < F 0 + L) → ((cntN (fun k => !gapB a (F 0 + (k : Int)) n) L : Nat) : Int) = (sdY F a n).1 + (if 0 < F 0 + L - (sdY F a n).2 then F 0 + L - (sdY F a n).2 else 0)
  | 0, _, L, _ => by
    rw [cntN_all (p := fun k => !gapB a (F 0 + (k : Int)) 0) L (fun k _ => rfl)]
    show (L : Int) = 0 + (if 0 < F 0 + L - F 0 then F 0 + L - F 0 else 0)
    split <;> omega
  | n + 1, hn, L, hL => by
    have ih := sd_cnt h hq hF n (by omega)
    have F0 := h.1.1
    by_cases hr : 0 < a 3 (n + 1)
    · have hD := hL (n + 1) (by omega) (by omega) hr
      have hdp := RI.due_pos h hq (y := n + 1) (by omega) (by omega)
      have hdg := RI.due_grace h hq (y := n + 1) (by omega) (by omega)
      have h8 : a 3 (n + 1) = a 2 (n + 1) ∧ a 1 (n + 1) < a 2 (n + 1) := (h.2.2.2.2.2.2.2.1 (n + 1) (by omega) (by omega)).elim (fun o => by omega) (fun o => o)
      have hrv : ∀ y : Nat, 1 ≤ y → y ≤ n → a 3 y ≤ a 3 (n + 1) := fun y y1 y2 => by
        have e1 := pay_mono h y1 (n + 1) (by omega) (by omega)
        rcases h.2.2.2.2.2.2.2.1 y y1 (by omega) with o | o <;> omega
      have ih1 := ih (a 0 (n + 1) + 1 - F 0).toNat (fun y y1 y2 y3 => by
        have e1 := RI.due_lt h hq (y := y) (k := n + 1) y1 (by omega) (by omega)
        omega)
      rw [sdY_t hr]
      have key : ∀ m : Nat, ((cntN (fun k => !gapB a (F 0 + (k : Int)) (n + 1)) ((a 0 (n + 1) + 1 - F 0).toNat + m) : Nat) : Int) = (sdY F a n).1 + (if 0 < a 0 (n + 1) + 1 - (sdY F a n).2 then a 0 (n + 1) + 1 - (sdY F a n).2 else 0) + (if 0 < F 0 + (((a 0 (n + 1) + 1 - F 0).toNat + m : Nat) : Int) - a 3 (n + 1) then F 0 + (((a 0 (n + 1) + 1 - F 0).toNat + m : Nat) : Int) - a 3 (n + 1) else 0) := by
        intro m
        induction m with
        | zero =>
          rw [cntN_cg (q := fun k => !gapB a (F 0 + (k : Int)) n) _ (fun k hk => by
            show (!(gapB a (F 0 + (k : Int)) n || decide (a 0 (n + 1) < F 0 + (k : Int) ∧ F 0 + (k : Int) < a 3 (n + 1)))) = _
            rw [decide_eq_false (show ¬ (a 0 (n + 1) < F 0 + (k : Int) ∧ F 0 + (k : Int) < a 3 (n + 1)) by omega), Bool.or_false])]
          show ((cntN (fun k => !gapB a (F 0 + (k : Int)) n) (a 0 (n + 1) + 1 - F 0).toNat : Nat) : Int) = _
          rw [ih1, show F 0 + (((a 0 (n + 1) + 1 - F 0).toNat : Nat) : Int) = a 0 (n + 1) + 1 by omega, if_neg (show ¬ 0 < F 0 + (((a 0 (n + 1) + 1 - F 0).toNat + 0 : Nat) : Int) - a 3 (n + 1) by omega)]
          omega
        | succ m im =>
          have hd : F 0 + (((a 0 (n + 1) + 1 - F 0).toNat + m : Nat) : Int) = a 0 (n + 1) + 1 + m := by omega
          show ((cntN (fun k => !gapB a (F 0 + (k : Int)) (n + 1)) ((a 0 (n + 1) + 1 - F 0).toNat + m + 1) : Nat) : Int) = _
          by_cases ho : a 0 (n + 1) + 1 + m < a 3 (n + 1)
          · rw [cntN_f (by
              show (!(gapB a (F 0 + (((a 0 (n + 1) + 1 - F 0).toNat + m : Nat) : Int)) n || decide (a 0 (n + 1) < F 0 + (((a 0 (n + 1) + 1 - F 0).toNat + m : Nat) : Int) ∧ F 0 + (((a 0 (n + 1) + 1 - F 0).toNat + m : Nat) : Int) < a 3 (n + 1)))) = false
              rw [decide_eq_true (show a 0 (n + 1) < F 0 + (((a 0 (n + 1) + 1 - F 0).toNat + m : Nat) : Int) ∧ F 0 + (((a 0 (n + 1) + 1 - F 0).toNat + m : Nat) : Int) < a 3 (n + 1) by omega), Bool.or_true]; rfl), im]
            rw [if_neg (show ¬ 0 < F 0 + (((a 0 (n + 1) + 1 - F 0).toNat + m : Nat) : Int) - a 3 (n + 1) by omega), if_neg (show ¬ 0 < F 0 + (((a 0 (n + 1) + 1 - F 0).toNat + (m + 1) : Nat) : Int) - a 3 (n + 1) by omega)]
          · rw [cntN_t (by
              show (!(gapB a (F 0 + (((a 0 (n + 1) + 1 - F 0).toNat + m : Nat) : Int)) n || decide (a 0 (n + 1) < F 0 + (((a 0 (n + 1) + 1 - F 0).toNat + m : Nat) : Int) ∧ F 0 + (((a 0 (n + 1) + 1 - F 0).toNat + m : Nat) : Int) < a 3 (n + 1)))) = true
              rw [decide_eq_false (show ¬ (a 0 (n + 1) < F 0 + (((a 0 (n + 1) + 1 - F 0).toNat + m : Nat) : Int) ∧ F 0 + (((a 0 (n + 1) + 1 - F 0).toNat + m : Nat) : Int) < a 3 (n + 1)) by omega), gapB_hi n (fun y y1 y2 => by have := hrv y y1 y2; omega)]; rfl)]
            rw [show ((cntN (fun k => !gapB a (F 0 + (k : Int)) (n + 1)) ((a 0 (n + 1) + 1 - F 0).toNat + m) + 1 : Nat) : Int) = ((cntN (fun k => !gapB a (F 0 + (k : Int)) (n + 1)) ((a 0 (n + 1) + 1 - F 0).toNat + m) : Nat) : Int) + 1 by omega, im]
            rw [if_pos (show 0 < F 0 + (((a 0 (n + 1) + 1 - F 0).toNat + (m + 1) : Nat) : Int) - a 3 (n + 1) by omega)]
            by_cases hz : 0 < F 0 + (((a 0 (n + 1) + 1 - F 0).toNat + m : Nat) : Int) - a 3 (n + 1)
            · rw [if_pos hz]; omega
            · rw [if_neg hz]; omega
      have k2 := key (L - (a 0 (n + 1) + 1 - F 0).toNat)
      rw [show (a 0 (n + 1) + 1 - F 0).toNat + (L - (a 0 (n + 1) + 1 - F 0).toNat) = L by omega] at k2
      exact k2
    · rw [sdY_f hr, ← ih L (fun y y1 y2 y3 => hL y y1 (by omega) y3)]
      rw [cntN_cg (q := fun k => !gapB a (F 0 + (k : Int)) n) L (fun k hk => by
        show (!(gapB a (F 0 + (k : Int)) n || decide (a 0 (n + 1) < F 0 + (k : Int) ∧ F 0 + (k : Int) < a 3 (n + 1)))) = _
        rw [decide_eq_false (show ¬ (a 0 (n + 1) < F 0 + (k : Int) ∧ F 0 + (k : Int) < a 3 (n + 1)) by omega), Bool.or_false])]
theorem later_12 {d n : Int} (hd : 0 ≤ d) : ∀ k : Nat, later d n + k ≤ later d (n + k)
  | 0 => by simp
  | k + 1 => by
    have h1 := later_12 (n := n) hd k
    have h2 := later_lt (d := d) (n := n + k) (k := n + ((k + 1 : Nat) : Int)) hd (by omega)
    omega
theorem RI.due_end {S : SD} {t : Int} {F : Nat → Int} {a : Nat → Nat → Int} (h : RI (Hf S) t F a) (hq : sH S ≤ 6) {y : Nat} (hy : 1 ≤ y) (hk : y ≤ 19) : a 0 y ≤ F 1 := by
  have h1 := (h.2.2.2.1 y hy hk).1
  have h0 := h.1.1
  have h4 := (later_rng (d := F 0) (n := 12 * (y : Int)) h0 (by omega)).1
  have h5 := (pf_spec (h := ho S) hq (d := later (F 0) (12 * (y : Int))) h4).2.2
  have h6 := later_12 (d := F 0) (n := 12 * (y : Int)) h0 (240 - 12 * y)
  have h7 := h.2.2.1
  rw [show 12 * (y : Int) + ((240 - 12 * y : Nat) : Int) = 240 by omega] at h6
  have h8 : a 0 y ≤ later (F 0) (12 * (y : Int)) + 10 := by rw [h1]; exact h5
  omega
def enT (F : Nat → Int) (t : Int) : Int := if F 1 < t then F 1 else t
theorem share_cnt {S : SD} {t : Int} {F : Nat → Int} {a : Nat → Nat → Int} (h : RI (Hf S) t F a) (hq : sH S ≤ 6) (hF : 0 ≤ F 3 ∧ F 3 ≤ 19) (ht : t ≤ 29219) : ((cntN (fun k => decide (F 0 + (k : Int) ≤ opT F a t) && !gapB a (F 0 + (k : Int)) (F 3).toNat) (enT F t - F 0 + 1).toNat : Nat) : Int) = dS F a t := by
  have F0 := h.1.1
  have h2 := h.2.1
  have h3 := h.2.2.1
  have hl := later_lt (d := F 0) (n := 0) (k := 240) F0 (by omega)
  rw [later_0 F0] at hl
  have he : enT F t = (if F 1 < t then F 1 else t) := rfl
  have he1 : enT F t ≤ t ∧ enT F t ≤ F 1 ∧ F 0 ≤ enT F t := by rw [he]; split <;> omega
  have hv : ∀ y : Nat, 1 ≤ y → (y : Int) ≤ F 3 → 0 < a 3 y → a 0 y ≤ enT F t := fun y y1 y2 y3 => by
    have e1 := RI.due_end h hq (y := y) y1 (by omega)
    have e2 := RI.due_grace h hq (y := y) y1 (by omega)
    have e3 := h.2.2.2.2.2.1 y y1 y2
    have e4 : a 0 y ≤ t := (h.2.2.2.2.2.2.2.1 y y1 y2).elim (fun o => by omega) (fun o => by omega)
    rw [he]; split <;> omega
  unfold dS
  rw [← he]
  by_cases hlp : lapR F a t
  · have hc : F 3 < 19 ∧ yv (a 1) (-1) (F 3 + 1) < t := hlp
    have ho : opT F a t = yv (a 0) (-1) (F 3 + 1) := by unfold opT; rw [lapB_t hlp, if_pos rfl]
    have h9 := hlp.1
    rw [if_pos hc, ho, yv_at (by omega)]
    have hdp := RI.due_pos h hq (y := (F 3 + 1).toNat) (by omega) (by omega)
    have hdl : ∀ y : Nat, 1 ≤ y → (y : Int) ≤ F 3 → a 0 y ≤ a 0 (F 3 + 1).toNat := fun y y1 y2 => RI.due_lt h hq (y := y) y1 (by omega) (by omega)
    generalize a 0 (F 3 + 1).toNat = D9 at *
    have hE : ∃ E, E = (if D9 < enT F t then D9 else enT F t) := ⟨_, rfl⟩
    obtain ⟨E, hE⟩ := hE
    have hE1 : E ≤ D9 ∧ E ≤ enT F t ∧ F 0 ≤ E ∧ (E = D9 ∨ E = enT F t) := by rw [hE]; split <;> omega
    rw [← hE, cntN_cut (m := (E - F 0 + 1).toNat) _ (by omega) (fun k k1 k2 => by rw [decide_eq_false (by omega)]; rfl),
      cntN_cg (q := fun k => !gapB a (F 0 + (k : Int)) (F 3).toNat) _ (fun k hk => by rw [decide_eq_true (by omega)]; rfl),
      sd_cnt h hq hF.2 (F 3).toNat (by omega) _ (fun y y1 y2 y3 => by have e1 := hv y y1 (by omega) y3; have e2 := hdl y y1 (by omega); omega),
      show F 0 + (((E - F 0 + 1).toNat : Nat) : Int) = E + 1 by omega]
  · have hc : ¬ (F 3 < 19 ∧ yv (a 1) (-1) (F 3 + 1) < t) := hlp
    have ho : opT F a t = 29219 := by unfold opT; rw [lapB_f hlp, if_neg (by decide)]
    rw [if_neg hc, ho, cntN_cg (q := fun k => !gapB a (F 0 + (k : Int)) (F 3).toNat) _ (fun k hk => by rw [decide_eq_true (by omega)]; rfl),
      sd_cnt h hq hF.2 (F 3).toNat (by omega) _ (fun y y1 y2 y3 => by have e1 := hv y y1 (by omega) y3; omega),
      show F 0 + (((enT F t - F 0 + 1).toNat : Nat) : Int) = enT F t + 1 by omega]
