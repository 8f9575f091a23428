/-! the docket's state (X4), its reads, walked -/
def SB (S : SD) : Prop := (0 ≤ sc S 0 ∧ sc S 0 ≤ 30000) ∧ sN S ≤ 10 ∧ sH S ≤ 6 ∧ (0 ≤ sc S 4 ∧ sc S 4 ≤ 9999) ∧ (0 ≤ sc S 5 ∧ sc S 5 ≤ 999) ∧ (0 ≤ sc S 6 ∧ sc S 6 ≤ 100) ∧ (∀ i, -1 ≤ ho S i ∧ ho S i ≤ 40000) ∧ ∀ i, i < 10 → RB (RF S i) (RA S i)
abbrev Hf (S : SD) : Int → Bool := hset (ho S) (sH S)
def lapB (F : Nat → Int) (a : Nat → Nat → Int) (t : Int) : Bool := decide (F 3 < 19 ∧ yv (a 1) (-1) (F 3 + 1) < t)
theorem lapB_t {F : Nat → Int} {a : Nat → Nat → Int} {t : Int} (h : lapR F a t) : lapB F a t = true := decide_eq_true h
theorem lapB_f {F : Nat → Int} {a : Nat → Nat → Int} {t : Int} (h : ¬ lapR F a t) : lapB F a t = false := decide_eq_false h
def stB (F : Nat → Int) (a : Nat → Nat → Int) (d t : Int) : Bool := decide (F 0 ≤ d) && decide (d ≤ F 1) && !(lapB F a t && decide (yv (a 0) (-1) (F 3 + 1) < d)) && !gapB a d (F 3).toNat
theorem stB_iff {F : Nat → Int} {a : Nat → Nat → Int} {d t : Int} : stB F a d t = true ↔ stoodR F a d t := by
  have e : lapB F a t = true ↔ lapR F a t := by simp [lapB, lapR]
  unfold stB stoodR
  cases h1 : lapB F a t <;> cases h2 : gapB a d (F 3).toNat <;> simp_all [and_assoc]
theorem stB_t {F : Nat → Int} {a : Nat → Nat → Int} {d t : Int} (h : stoodR F a d t) : stB F a d t = true := stB_iff.mpr h
theorem stB_f {F : Nat → Int} {a : Nat → Nat → Int} {d t : Int} (h : ¬ stoodR F a d t) : stB F a d t = false := bool_f (fun o => h (stB_iff.mp o))
def canPayB (S : SD) (i : Nat) : Bool := decide (RF S i 3 < 19) && !lapB (RF S i) (RA S i) (sc S 0) && decide (yv (RA S i 0) (-1) (RF S i 3 + 1) - 90 ≤ sc S 0)
def canRevR (S : SD) (i : Nat) : Prop := lapR (RF S i) (RA S i) (sc S 0) ∧ sc S 0 ≤ RF S i 1 ∧ sc S 0 ≤ pf (Hf S) (later (yv (RA S i 1) (-1) (RF S i 3 + 1)) 12)
def canUseR (S : SD) (i u : Nat) : Prop := ¬ stoodR (RF S i) (RA S i) (sc S 0) (sc S 0) ∧ sc S 0 ≤ RF S i 1 ∧ stU (RF S i) (RA S i) u = 0
def feeT (S : SD) (i : Nat) (y : Int) : Int := feeS (sc S 4) (sc S 5) y (RF S i 2)
def surT (S : SD) (i : Nat) (y : Int) : Int := if yv (RA S i 0) (-1) y < sc S 0 then surS (sc S 6) (feeT S i y) else 0
def priceT (S : SD) (i : Nat) (y : Int) : Int := if y = -1 then 0 else feeT S i y + surT S i y
theorem feeS_rng {b s y w : Int} (hb : 0 ≤ b ∧ b ≤ 9999) (hs : 0 ≤ s ∧ s ≤ 999) (hy : 0 ≤ y ∧ y ≤ 19) : 0 ≤ feeS b s y w ∧ feeS b s y w ≤ 30000 := by
  have := mul_rng hs hy
  unfold feeS
  split <;> omega
/-- the sum of the fees from year y on that are due up to e -/
def cuS (S : SD) (i : Nat) (e : Int) : Nat → Int → Int
  | 0, _ => 0
  | n + 1, y => if y ≤ 19 ∧ yv (RA S i 0) (-1) y ≤ e then priceT S i y + cuS S i e n (y + 1) else 0
def cstW (S : SD) (w : Int) : Nat → Int
  | 0 => 0
  | n + 1 => cstW S w n + (if lapB (RF S n) (RA S n) (sc S 0) = true then 0 else cuS S n (sc S 0 + w) (20 - (RF S n 3 + 1)).toNat (RF S n 3 + 1))
/-- the right that is due first among the first n, and its day -/
def fdS (S : SD) : Nat → Int × Int
  | 0 => (-1, 0)
  | n + 1 => if RF S n 3 < 19 ∧ lapB (RF S n) (RA S n) (sc S 0) = false ∧ ((fdS S n).1 = -1 ∨ yv (RA S n 0) (-1) (RF S n 3 + 1) < (fdS S n).2) then ((n : Int), yv (RA S n 0) (-1) (RF S n 3 + 1)) else fdS S n
def rvT (S : SD) (i : Nat) (w : Int) : Int := if w = 0 then RF S i 0 else if w = 1 then (if RF S i 2 = 0 then 0 else 1) else if w = 2 then RF S i 3 else if w = 3 then nxt (RF S i) else if w = 4 then yv (RA S i 0) (-1) (nxt (RF S i)) else if w = 5 then yv (RA S i 1) (-1) (nxt (RF S i)) else if w = 6 then priceT S i (nxt (RF S i)) else if w = 7 then (if lapB (RF S i) (RA S i) (sc S 0) = true then 1 else 0) else if w = 8 then RF S i 1 else if w = 9 then RF S i 5 else if w = 10 then ((cntN (fun u => decide (¬ stU (RF S i) (RA S i) u = 0)) 10 : Nat) : Int) else if w = 11 then ((cntN (fun u => decide (stU (RF S i) (RA S i) u = 2)) 10 : Nat) : Int) else RF S i 4
def standN (S : SD) : Nat := cntN (fun i => stB (RF S i) (RA S i) (sc S 0) (sc S 0)) (sN S)
def lapN (S : SD) : Nat := cntN (fun i => lapB (RF S i) (RA S i) (sc S 0)) (sN S)
def dvT (S : SD) (w : Int) : Int := if w = 0 then sc S 0 else if w = 1 then (sN S : Int) else if w = 2 then (standN S : Int) else if w = 3 then (lapN S : Int) else if w = 4 then (sH S : Int) else if w = 5 then sc S 1 else if w = 6 then sc S 2 else if w = 7 then sc S 3 else if w = 8 then sc S 4 else if w = 9 then sc S 5 else if w = 10 then sc S 6 else sc S 7
theorem cstW_t {S : SD} {w : Int} {n : Nat} (h : lapB (RF S n) (RA S n) (sc S 0) = true) : cstW S w (n + 1) = cstW S w n := by
  show cstW S w n + (if lapB (RF S n) (RA S n) (sc S 0) = true then 0 else _) = _
  rw [if_pos h]; omega
theorem cstW_f {S : SD} {w : Int} {n : Nat} (h : lapB (RF S n) (RA S n) (sc S 0) = false) : cstW S w (n + 1) = cstW S w n + cuS S n (sc S 0 + w) (20 - (RF S n 3 + 1)).toNat (RF S n 3 + 1) := by
  show cstW S w n + (if lapB (RF S n) (RA S n) (sc S 0) = true then 0 else _) = _
  rw [if_neg (by rw [h]; decide)]
theorem fdS_rng {S : SD} (hB : SB S) : ∀ n : Nat, n ≤ 10 → -1 ≤ (fdS S n).1 ∧ (fdS S n).1 ≤ n ∧ -1 ≤ (fdS S n).2 ∧ (fdS S n).2 ≤ 40000
  | 0, _ => by simp [fdS]
  | n + 1, hn => by
    have h := fdS_rng hB n (by omega)
    have h2 := yv_rng (g := RA S n 0) (e := -1) (y := RF S n 3 + 1) ((hB.2.2.2.2.2.2.2 n (by omega)).2.2.2.2 0) (by omega)
    unfold fdS
    split
    · dsimp only; omega
    · omega
theorem fdS_t {S : SD} {n : Nat} (h : RF S n 3 < 19 ∧ lapB (RF S n) (RA S n) (sc S 0) = false ∧ ((fdS S n).1 = -1 ∨ yv (RA S n 0) (-1) (RF S n 3 + 1) < (fdS S n).2)) : fdS S (n + 1) = ((n : Int), yv (RA S n 0) (-1) (RF S n 3 + 1)) := by
  rw [fdS, if_pos h]
theorem fdS_f {S : SD} {n : Nat} (h : ¬ (RF S n 3 < 19 ∧ lapB (RF S n) (RA S n) (sc S 0) = false ∧ ((fdS S n).1 = -1 ∨ yv (RA S n 0) (-1) (RF S n 3 + 1) < (fdS S n).2))) : fdS S (n + 1) = fdS S n := by
  rw [fdS, if_neg h]
set_option maxHeartbeats 400000 in
set_option maxRecDepth 4000 in
theorem ok_X4_canPay {l : Launch} {D : va_G} {cy : Nat → ClassId} {z : Nat} {M : Mm} {K : Option Value → Mm → Prop} {b : Nat} {S : SD} (hS : StateAt cy z M b S) (hB : SB S) {i : Nat} (hi : i < 10) (hT : canPayB S i = true → K (some (iv 1)) M) (hF : canPayB S i = false → K (some (iv 0)) M) :
    MT l D cy z false yX4_canPay (wsy yX4_canPay cX4_canPay 3 (some .boolean)) 2 43 0 0 M [.ref (z + b), .ref (z + (b + 5 + 6 * i))] K := by
  refine MT_of (by decide) w_240 (Nat.le_of_ble_eq_true rfl) ?_
  intro p e s m args below meth c C hr hx0
  have hS9 := hS
  have hB9 := hB
  obtain ⟨hn, c0, c1, c2, c3, c4, cR⟩ := hS
  obtain ⟨d0, d1, d2, d4, d5, d6, dH, dR⟩ := hB
  have hR9 := cR i hi
  have hB8 := dR i hi
  have hnr := hR9.1
  have mr := hR9.2.1
  have hB7 := hB8
  obtain ⟨b0, b1, b2, b3, b4⟩ := hB7
  have y0 : ∀ y, -1 ≤ yv (RA S i 0) (-1) y ∧ yv (RA S i 0) (-1) y ≤ 40000 := fun y => yv_rng (b4 0) (by omega)
  have y1 : ∀ y, -1 ≤ yv (RA S i 1) (-1) y ∧ yv (RA S i 1) (-1) y ≤ 40000 := fun y => yv_rng (b4 1) (by omega)
  have y2 : ∀ y, -1 ≤ yv (RA S i 2) 0 y ∧ yv (RA S i 2) 0 y ≤ 40000 := fun y => yv_rng (b4 2) (by omega)
  have y3 : ∀ y, -1 ≤ yv (RA S i 3) 0 y ∧ yv (RA S i 3) 0 y ≤ 40000 := fun y => yv_rng (b4 3) (by omega)
  have hx : nxt (RF S i) = if RF S i 3 < 19 then RF S i 3 + 1 else -1 := rfl
  refine V_aload_n C dX4_canPay_0 rfl ?_
  refine V_callV (fr := 0) (lo := 0) (mc := 0) (ms := 0) (As := []) C yvX3_nextYear w_241 dX4_canPay_1 rfl rfl (by repeat (first | with_reducible assumption | with_reducible exact mset_self _ _ _ | refine (mset_ne (by omega)).trans ?_)) (by (try simp only [mset_1]); omega) rfl rfl (Nat.le_of_ble_eq_true rfl) ⟨Nat.le_of_ble_eq_true rfl, Nat.le_of_ble_eq_true rfl⟩ ⟨Nat.le_of_ble_eq_true rfl, Nat.le_of_ble_eq_true rfl⟩ ?_
  refine ok_X3_nextYear hR9 hB8 ?_
  refine V_istore_n C dX4_canPay_4 (by decide) ?_
  refine V_iload_n C dX4_canPay_5 rfl ?_
  refine V_iconst C dX4_canPay_6 ?_
  refine V_icmp_eq C dX4_canPay_7 (tgt := 40) (by decide) (by omega) (by omega) (fun g7 => ?_) (fun g7 => ?_)
  · refine V_iconst C dX4_canPay_40 ?_
    exact V_zret C hr (by omega) dX4_canPay_41 (hF (by unfold canPayB; rw [decide_eq_false (by omega)]; rfl))
  · refine V_aload_n C dX4_canPay_10 rfl ?_
    refine V_aload_n C dX4_canPay_11 rfl ?_
    refine V_get C fg_X4_9 dX4_canPay_12 (by repeat (first | with_reducible assumption | with_reducible exact mset_self _ _ _ | refine (mset_ne (by omega)).trans ?_)) (by (try simp only [mset_1]); omega) (by rfl) ?_
    refine V_callV (fr := 1) (lo := 21) (mc := 0) (ms := 0) (As := [_]) C yvX3_isLapsed w_245 dX4_canPay_15 rfl rfl (by repeat (first | with_reducible assumption | with_reducible exact mset_self _ _ _ | refine (mset_ne (by omega)).trans ?_)) (by (try simp only [mset_1]); omega) rfl rfl (Nat.le_of_ble_eq_true rfl) ⟨Nat.le_of_ble_eq_true rfl, Nat.le_of_ble_eq_true rfl⟩ ⟨Nat.le_of_ble_eq_true rfl, Nat.le_of_ble_eq_true rfl⟩ ?_
    refine ok_X3_isLapsed hR9 hB8 (by omega) (fun hl => ?_) (fun hl => ?_)
    · refine V_ifne1 C dX4_canPay_18 (tgt := 40) (by decide) ?_
      refine V_iconst C dX4_canPay_40 ?_
      exact V_zret C hr (by omega) dX4_canPay_41 (hF (by unfold canPayB; rw [lapB_t hl]; simp))
    · refine V_ifne0 C dX4_canPay_18 (tgt := 40) (by decide) ?_
      refine V_aload_n C dX4_canPay_21 rfl ?_
      refine V_get C fg_X4_9 dX4_canPay_22 (by repeat (first | with_reducible assumption | with_reducible exact mset_self _ _ _ | refine (mset_ne (by omega)).trans ?_)) (by (try simp only [mset_1]); omega) (by rfl) ?_
      refine V_aload_n C dX4_canPay_25 rfl ?_
      refine V_iload_n C dX4_canPay_26 rfl ?_
      have e9 : nxt (RF S i) = RF S i 3 + 1 := by omega
      rw [e9]
      have y0e := y0 (RF S i 3 + 1)
      refine V_callV (fr := 0) (lo := 0) (mc := 0) (ms := 0) (As := [_]) C yvX3_dueOf w_254 dX4_canPay_27 rfl rfl (by repeat (first | with_reducible assumption | with_reducible exact mset_self _ _ _ | refine (mset_ne (by omega)).trans ?_)) (by (try simp only [mset_1]); omega) rfl rfl (Nat.le_of_ble_eq_true rfl) ⟨Nat.le_of_ble_eq_true rfl, Nat.le_of_ble_eq_true rfl⟩ ⟨Nat.le_of_ble_eq_true rfl, Nat.le_of_ble_eq_true rfl⟩ ?_
      refine ok_X3_dueOf hR9 hB8 (by omega) ?_
      refine V_bipush C dX4_canPay_30 (by decide) ?_
      refine V_isub C dX4_canPay_32 ?_
      refine V_icmp_lt C dX4_canPay_33 (tgt := 40) (by decide) (by omega) (by omega) (fun g33 => ?_) (fun g33 => ?_)
      · refine V_iconst C dX4_canPay_40 ?_
        exact V_zret C hr (by omega) dX4_canPay_41 (hF (by unfold canPayB; rw [decide_eq_false (show ¬ (yv (RA S i 0) (-1) (RF S i 3 + 1) - 90 ≤ sc S 0) by omega)]; simp))
      · refine V_iconst C dX4_canPay_36 ?_
        refine V_goto C dX4_canPay_37 (tgt := 41) (by decide) ?_
        exact V_zret C hr (by omega) dX4_canPay_41 (hT (by unfold canPayB; rw [decide_eq_true (by omega), lapB_f hl, decide_eq_true (by omega)]; rfl))

set_option maxHeartbeats 400000 in
set_option maxRecDepth 4000 in
theorem ok_X4_canRevive {l : Launch} {D : va_G} {cy : Nat → ClassId} {z : Nat} {M : Mm} {K : Option Value → Mm → Prop} {b : Nat} {S : SD} (hS : StateAt cy z M b S) (hB : SB S) {i : Nat} (hi : i < 10) (hg : lapR (RF S i) (RA S i) (sc S 0) → 0 ≤ yv (RA S i 1) (-1) (RF S i 3 + 1) ∧ yv (RA S i 1) (-1) (RF S i 3 + 1) ≤ 30000) (hT : canRevR S i → K (some (iv 1)) M) (hF : ¬ (canRevR S i) → K (some (iv 0)) M) :
    MT l D cy z false yX4_canRevive (wsy yX4_canRevive cX4_canRevive 3 (some .boolean)) 4 89 0 0 M [.ref (z + b), .ref (z + (b + 5 + 6 * i))] K := by
  refine MT_of (by decide) w_647 (Nat.le_of_ble_eq_true rfl) ?_
  intro p e s m args below meth c C hr hx0
  have hS9 := hS
  have hB9 := hB
  obtain ⟨hn, c0, c1, c2, c3, c4, cR⟩ := hS
  obtain ⟨d0, d1, d2, d4, d5, d6, dH, dR⟩ := hB
  have hR9 := cR i hi
  have hB8 := dR i hi
  have hnr := hR9.1
  have mr := hR9.2.1
  have hB7 := hB8
  obtain ⟨b0, b1, b2, b3, b4⟩ := hB7
  have y0 : ∀ y, -1 ≤ yv (RA S i 0) (-1) y ∧ yv (RA S i 0) (-1) y ≤ 40000 := fun y => yv_rng (b4 0) (by omega)
  have y1 : ∀ y, -1 ≤ yv (RA S i 1) (-1) y ∧ yv (RA S i 1) (-1) y ≤ 40000 := fun y => yv_rng (b4 1) (by omega)
  have y2 : ∀ y, -1 ≤ yv (RA S i 2) 0 y ∧ yv (RA S i 2) 0 y ≤ 40000 := fun y => yv_rng (b4 2) (by omega)
  have y3 : ∀ y, -1 ≤ yv (RA S i 3) 0 y ∧ yv (RA S i 3) 0 y ≤ 40000 := fun y => yv_rng (b4 3) (by omega)
  have hx : nxt (RF S i) = if RF S i 3 < 19 then RF S i 3 + 1 else -1 := rfl
  refine V_aload_n C dX4_canRevive_0 rfl ?_
  refine V_aload_n C dX4_canRevive_1 rfl ?_
  refine V_get C fg_X4_9 dX4_canRevive_2 (by repeat (first | with_reducible assumption | with_reducible exact mset_self _ _ _ | refine (mset_ne (by omega)).trans ?_)) (by (try simp only [mset_1]); omega) (by rfl) ?_
  refine V_callV (fr := 1) (lo := 21) (mc := 0) (ms := 0) (As := [_]) C yvX3_isLapsed w_245 dX4_canRevive_5 rfl rfl (by repeat (first | with_reducible assumption | with_reducible exact mset_self _ _ _ | refine (mset_ne (by omega)).trans ?_)) (by (try simp only [mset_1]); omega) rfl rfl (Nat.le_of_ble_eq_true rfl) ⟨Nat.le_of_ble_eq_true rfl, Nat.le_of_ble_eq_true rfl⟩ ⟨Nat.le_of_ble_eq_true rfl, Nat.le_of_ble_eq_true rfl⟩ ?_
  refine ok_X3_isLapsed hR9 hB8 (by omega) (fun hl => ?_) (fun hl => ?_)
  · refine V_ifeq1 C dX4_canRevive_8 (tgt := 22) (by decide) ?_
    refine V_aload_n C dX4_canRevive_11 rfl ?_
    refine V_get C fg_X4_9 dX4_canRevive_12 (by repeat (first | with_reducible assumption | with_reducible exact mset_self _ _ _ | refine (mset_ne (by omega)).trans ?_)) (by (try simp only [mset_1]); omega) (by rfl) ?_
    refine V_aload_n C dX4_canRevive_15 rfl ?_
    refine V_get C fg_X4_95 dX4_canRevive_16 (by repeat (first | with_reducible assumption | with_reducible exact mset_self _ _ _ | refine (mset_ne (by omega)).trans ?_)) (by (try simp only [mset_1]); omega) (by rfl) ?_
    refine V_icmp_le C dX4_canRevive_19 (tgt := 24) (by decide) (by omega) (by omega) (fun g19 => ?_) (fun g19 => ?_)
    · refine V_aload_n C dX4_canRevive_24 rfl ?_
      refine V_aload_n C dX4_canRevive_25 rfl ?_
      refine V_callV (fr := 0) (lo := 0) (mc := 0) (ms := 0) (As := []) C yvX3_nextYear w_241 dX4_canRevive_26 rfl rfl (by repeat (first | with_reducible assumption | with_reducible exact mset_self _ _ _ | refine (mset_ne (by omega)).trans ?_)) (by (try simp only [mset_1]); omega) rfl rfl (Nat.le_of_ble_eq_true rfl) ⟨Nat.le_of_ble_eq_true rfl, Nat.le_of_ble_eq_true rfl⟩ ⟨Nat.le_of_ble_eq_true rfl, Nat.le_of_ble_eq_true rfl⟩ ?_
      refine ok_X3_nextYear hR9 hB8 ?_
      have e9 : nxt (RF S i) = RF S i 3 + 1 := nxt_lap hl.1
      rw [e9]
      have hg9 := hg hl
      have l1 := later_rng (n := 12) hg9.1 (by omega)
      refine V_callV (fr := 0) (lo := 0) (mc := 0) (ms := 0) (As := [_]) C yvX3_graceOf w_424 dX4_canRevive_29 rfl rfl (by repeat (first | with_reducible assumption | with_reducible exact mset_self _ _ _ | refine (mset_ne (by omega)).trans ?_)) (by (try simp only [mset_1]); omega) rfl rfl (Nat.le_of_ble_eq_true rfl) ⟨Nat.le_of_ble_eq_true rfl, Nat.le_of_ble_eq_true rfl⟩ ⟨Nat.le_of_ble_eq_true rfl, Nat.le_of_ble_eq_true rfl⟩ ?_
      refine ok_X3_graceOf hR9 hB8 (by omega) ?_
      refine V_bipush C dX4_canRevive_32 (by decide) ?_
      refine V_callS (fr := 2) (lo := 45) (mc := 0) (ms := 0) (As := [_, _]) C ysX0_monthsAfter w_648 dX4_canRevive_34 rfl rfl (Nat.le_of_ble_eq_true rfl) ⟨Nat.le_of_ble_eq_true rfl, Nat.le_of_ble_eq_true rfl⟩ ⟨Nat.le_of_ble_eq_true rfl, Nat.le_of_ble_eq_true rfl⟩ ?_
      refine ok_X0_monthsAfter (by omega) (by omega) ?_
      refine V_istore_n C dX4_canRevive_37 (by decide) ?_
      refine V_aload_n C dX4_canRevive_38 rfl ?_
      refine V_get C fg_X4_9 dX4_canRevive_39 (by repeat (first | with_reducible assumption | with_reducible exact mset_self _ _ _ | refine (mset_ne (by omega)).trans ?_)) (by (try simp only [mset_1]); omega) (by rfl) ?_
      refine V_aload_n C dX4_canRevive_42 rfl ?_
      refine V_get C fg_X4_36 dX4_canRevive_43 (by repeat (first | with_reducible assumption | with_reducible exact mset_self _ _ _ | refine (mset_ne (by omega)).trans ?_)) (by (try simp only [mset_1]); omega) (by rfl) ?_
      refine V_iload_n C dX4_canRevive_46 rfl ?_
      refine V_callV (fr := 3) (lo := 66) (mc := 0) (ms := 0) (As := [_]) C yvX2_firstWorkingDay w_649 dX4_canRevive_47 rfl rfl (by repeat (first | with_reducible assumption | with_reducible exact mset_self _ _ _ | refine (mset_ne (by omega)).trans ?_)) (by (try simp only [mset_1]); omega) rfl rfl (Nat.le_of_ble_eq_true rfl) ⟨Nat.le_of_ble_eq_true rfl, Nat.le_of_ble_eq_true rfl⟩ ⟨Nat.le_of_ble_eq_true rfl, Nat.le_of_ble_eq_true rfl⟩ ?_
      refine ok_X2_firstWorkingDay hS9.hol d2 dH (by omega) ?_
      have p1 := pf_rng (H := hset (ho S) (sH S)) (d := later (yv (RA S i 1) (-1) (RF S i 3 + 1)) 12)
      refine V_icmp_gt C dX4_canRevive_50 (tgt := 57) (by decide) (by omega) (by omega) (fun g50 => ?_) (fun g50 => ?_)
      · refine V_iconst C dX4_canRevive_57 ?_
        exact V_zret C hr (by omega) dX4_canRevive_58 (hF (fun o => by have o1 : sc S 0 ≤ pf (hset (ho S) (sH S)) (later (yv (RA S i 1) (-1) (RF S i 3 + 1)) 12) := o.2.2; omega))
      · refine V_iconst C dX4_canRevive_53 ?_
        refine V_goto C dX4_canRevive_54 (tgt := 58) (by decide) ?_
        exact V_zret C hr (by omega) dX4_canRevive_58 (hT ⟨hl, by omega, by omega⟩)
    · refine V_iconst C dX4_canRevive_22 ?_
      exact V_zret C hr (by omega) dX4_canRevive_23 (hF (fun o => by have o1 := o.2.1; omega))
  · refine V_ifeq0 C dX4_canRevive_8 (tgt := 22) (by decide) ?_
    refine V_iconst C dX4_canRevive_22 ?_
    exact V_zret C hr (by omega) dX4_canRevive_23 (hF (fun o => hl o.1))

set_option maxHeartbeats 400000 in
set_option maxRecDepth 4000 in
theorem ok_X4_canUse {l : Launch} {D : va_G} {cy : Nat → ClassId} {z : Nat} {M : Mm} {K : Option Value → Mm → Prop} {b : Nat} {S : SD} (hS : StateAt cy z M b S) (hB : SB S) {i : Nat} (hi : i < 10) {u : Nat} (hu9 : u < 10) (hT : canUseR S i u → K (some (iv 1)) M) (hF : ¬ (canUseR S i u) → K (some (iv 0)) M) :
    MT l D cy z false yX4_canUse (wsy yX4_canUse cX4_canUse 3 (some .boolean)) 4 85 0 0 M [.ref (z + b), .ref (z + (b + 5 + 6 * i)), iv u] K := by
  refine MT_of (by decide) w_668 (Nat.le_of_ble_eq_true rfl) ?_
  intro p e s m args below meth c C hr hx0
  have hS9 := hS
  have hB9 := hB
  obtain ⟨hn, c0, c1, c2, c3, c4, cR⟩ := hS
  obtain ⟨d0, d1, d2, d4, d5, d6, dH, dR⟩ := hB
  have hR9 := cR i hi
  have hB8 := dR i hi
  have hnr := hR9.1
  have mr := hR9.2.1
  have hB7 := hB8
  obtain ⟨b0, b1, b2, b3, b4⟩ := hB7
  refine V_aload_n C dX4_canUse_0 rfl ?_
  refine V_aload_n C dX4_canUse_1 rfl ?_
  refine V_get C fg_X4_9 dX4_canUse_2 (by repeat (first | with_reducible assumption | with_reducible exact mset_self _ _ _ | refine (mset_ne (by omega)).trans ?_)) (by (try simp only [mset_1]); omega) (by rfl) ?_
  refine V_aload_n C dX4_canUse_5 rfl ?_
  refine V_get C fg_X4_9 dX4_canUse_6 (by repeat (first | with_reducible assumption | with_reducible exact mset_self _ _ _ | refine (mset_ne (by omega)).trans ?_)) (by (try simp only [mset_1]); omega) (by rfl) ?_
  refine V_callV (fr := 2) (lo := 43) (mc := 0) (ms := 0) (As := [_, _]) C yvX3_stoodOn w_397 dX4_canUse_9 rfl rfl (by repeat (first | with_reducible assumption | with_reducible exact mset_self _ _ _ | refine (mset_ne (by omega)).trans ?_)) (by (try simp only [mset_1]); omega) rfl rfl (Nat.le_of_ble_eq_true rfl) ⟨Nat.le_of_ble_eq_true rfl, Nat.le_of_ble_eq_true rfl⟩ ⟨Nat.le_of_ble_eq_true rfl, Nat.le_of_ble_eq_true rfl⟩ ?_
  refine ok_X3_stoodOn hR9 hB8 (by omega) (by omega) (fun hl => ?_) (fun hl => ?_)
  · refine V_ifne1 C dX4_canUse_12 (tgt := 38) (by decide) ?_
    refine V_iconst C dX4_canUse_38 ?_
    exact V_zret C hr (by omega) dX4_canUse_39 (hF (fun o => o.1 hl))
  · refine V_ifne0 C dX4_canUse_12 (tgt := 38) (by decide) ?_
    refine V_aload_n C dX4_canUse_15 rfl ?_
    refine V_get C fg_X4_9 dX4_canUse_16 (by repeat (first | with_reducible assumption | with_reducible exact mset_self _ _ _ | refine (mset_ne (by omega)).trans ?_)) (by (try simp only [mset_1]); omega) (by rfl) ?_
    refine V_aload_n C dX4_canUse_19 rfl ?_
    refine V_get C fg_X4_95 dX4_canUse_20 (by repeat (first | with_reducible assumption | with_reducible exact mset_self _ _ _ | refine (mset_ne (by omega)).trans ?_)) (by (try simp only [mset_1]); omega) (by rfl) ?_
    refine V_icmp_gt C dX4_canUse_23 (tgt := 38) (by decide) (by omega) (by omega) (fun g23 => ?_) (fun g23 => ?_)
    · refine V_iconst C dX4_canUse_38 ?_
      exact V_zret C hr (by omega) dX4_canUse_39 (hF (fun o => by have o1 := o.2.1; omega))
    · refine V_aload_n C dX4_canUse_26 rfl ?_
      refine V_iload_n C dX4_canUse_27 rfl ?_
      refine V_callV (fr := 3) (lo := 64) (mc := 0) (ms := 0) (As := [_]) C yvX3_hasBegun w_669 dX4_canUse_28 rfl rfl (by repeat (first | with_reducible assumption | with_reducible exact mset_self _ _ _ | refine (mset_ne (by omega)).trans ?_)) (by (try simp only [mset_1]); omega) rfl rfl (Nat.le_of_ble_eq_true rfl) ⟨Nat.le_of_ble_eq_true rfl, Nat.le_of_ble_eq_true rfl⟩ ⟨Nat.le_of_ble_eq_true rfl, Nat.le_of_ble_eq_true rfl⟩ ?_
      refine ok_X3_hasBegun hR9 hB8 (by omega) (fun hu => ?_) (fun hu => ?_)
      · refine V_ifne1 C dX4_canUse_31 (tgt := 38) (by decide) ?_
        refine V_iconst C dX4_canUse_38 ?_
        exact V_zret C hr (by omega) dX4_canUse_39 (hF (fun o => hu o.2.2))
      · refine V_ifne0 C dX4_canUse_31 (tgt := 38) (by decide) ?_
        refine V_iconst C dX4_canUse_34 ?_
        refine V_goto C dX4_canUse_35 (tgt := 39) (by decide) ?_
        exact V_zret C hr (by omega) dX4_canUse_39 (hT ⟨hl, by omega, hu⟩)

set_option maxHeartbeats 400000 in
set_option maxRecDepth 4000 in
theorem ok_X4_surchargeToday {l : Launch} {D : va_G} {cy : Nat → ClassId} {z : Nat} {M : Mm} {K : Option Value → Mm → Prop} {b : Nat} {S : SD} (hS : StateAt cy z M b S) (hB : SB S) {i : Nat} (hi : i < 10) {y : Int} (hy : 1 ≤ y ∧ y ≤ 19) (hK : K (some (iv (surT S i y))) M) :
    MT l D cy z false yX4_surchargeToday (wsy yX4_surchargeToday cX4_surchargeToday 3 (some .int)) 1 23 0 0 M [.ref (z + b), .ref (z + (b + 5 + 6 * i)), iv y] K := by
  refine MT_of (by decide) w_273 (Nat.le_of_ble_eq_true rfl) ?_
  intro p e s m args below meth c C hr hx0
  have hS9 := hS
  have hB9 := hB
  obtain ⟨hn, c0, c1, c2, c3, c4, cR⟩ := hS
  obtain ⟨d0, d1, d2, d4, d5, d6, dH, dR⟩ := hB
  have hR9 := cR i hi
  have hB8 := dR i hi
  have hnr := hR9.1
  have mr := hR9.2.1
  have hB7 := hB8
  obtain ⟨b0, b1, b2, b3, b4⟩ := hB7
  have y0 : ∀ y, -1 ≤ yv (RA S i 0) (-1) y ∧ yv (RA S i 0) (-1) y ≤ 40000 := fun y => yv_rng (b4 0) (by omega)
  have y1 : ∀ y, -1 ≤ yv (RA S i 1) (-1) y ∧ yv (RA S i 1) (-1) y ≤ 40000 := fun y => yv_rng (b4 1) (by omega)
  have y2 : ∀ y, -1 ≤ yv (RA S i 2) 0 y ∧ yv (RA S i 2) 0 y ≤ 40000 := fun y => yv_rng (b4 2) (by omega)
  have y3 : ∀ y, -1 ≤ yv (RA S i 3) 0 y ∧ yv (RA S i 3) 0 y ≤ 40000 := fun y => yv_rng (b4 3) (by omega)
  have hx : nxt (RF S i) = if RF S i 3 < 19 then RF S i 3 + 1 else -1 := rfl
  refine V_aload_n C dX4_surchargeToday_0 rfl ?_
  refine V_get C fg_X4_9 dX4_surchargeToday_1 (by repeat (first | with_reducible assumption | with_reducible exact mset_self _ _ _ | refine (mset_ne (by omega)).trans ?_)) (by (try simp only [mset_1]); omega) (by rfl) ?_
  refine V_aload_n C dX4_surchargeToday_4 rfl ?_
  refine V_iload_n C dX4_surchargeToday_5 rfl ?_
  refine V_callV (fr := 0) (lo := 0) (mc := 0) (ms := 0) (As := [_]) C yvX3_dueOf w_254 dX4_surchargeToday_6 rfl rfl (by repeat (first | with_reducible assumption | with_reducible exact mset_self _ _ _ | refine (mset_ne (by omega)).trans ?_)) (by (try simp only [mset_1]); omega) rfl rfl (Nat.le_of_ble_eq_true rfl) ⟨Nat.le_of_ble_eq_true rfl, Nat.le_of_ble_eq_true rfl⟩ ⟨Nat.le_of_ble_eq_true rfl, Nat.le_of_ble_eq_true rfl⟩ ?_
  refine ok_X3_dueOf hR9 hB8 (by omega) ?_
  have y0e := y0 y
  refine V_icmp_le C dX4_surchargeToday_9 (tgt := 34) (by decide) (by omega) (by omega) (fun g9 => ?_) (fun g9 => ?_)
  · refine V_iconst C dX4_surchargeToday_34 ?_
    exact V_iret C hr dX4_surchargeToday_35 (K_of hK (by unfold surT; rw [if_neg (by omega)]))
  · refine V_aload_n C dX4_surchargeToday_12 rfl ?_
    refine V_get C fg_X4_43 dX4_surchargeToday_13 (by repeat (first | with_reducible assumption | with_reducible exact mset_self _ _ _ | refine (mset_ne (by omega)).trans ?_)) (by (try simp only [mset_1]); omega) (by rfl) ?_
    refine V_aload_n C dX4_surchargeToday_16 rfl ?_
    refine V_get C fg_X4_43 dX4_surchargeToday_17 (by repeat (first | with_reducible assumption | with_reducible exact mset_self _ _ _ | refine (mset_ne (by omega)).trans ?_)) (by (try simp only [mset_1]); omega) (by rfl) ?_
    refine V_iload_n C dX4_surchargeToday_20 rfl ?_
    refine V_aload_n C dX4_surchargeToday_21 rfl ?_
    refine V_get C fg_X4_116 dX4_surchargeToday_22 (by repeat (first | with_reducible assumption | with_reducible exact mset_self _ _ _ | refine (mset_ne (by omega)).trans ?_)) (by (try simp only [mset_1]); omega) (by rfl) ?_
    refine V_callV (fr := 0) (lo := 0) (mc := 0) (ms := 0) (As := [_, _]) C yvX1_feeFor w_266 dX4_surchargeToday_25 rfl rfl (by repeat (first | with_reducible assumption | with_reducible exact mset_self _ _ _ | refine (mset_ne (by omega)).trans ?_)) (by (try simp only [mset_1]); omega) rfl rfl (Nat.le_of_ble_eq_true rfl) ⟨Nat.le_of_ble_eq_true rfl, Nat.le_of_ble_eq_true rfl⟩ ⟨Nat.le_of_ble_eq_true rfl, Nat.le_of_ble_eq_true rfl⟩ ?_
    refine ok_X1_feeFor (by omega) c4 ⟨d4, d5⟩ (by omega) (by omega) ?_
    have f9 := feeS_rng (w := RF S i 2) d4 d5 (y := y) (by omega)
    refine V_callV (fr := 0) (lo := 0) (mc := 0) (ms := 0) (As := [_]) C yvX1_surchargeOn w_274 dX4_surchargeToday_28 rfl rfl (by repeat (first | with_reducible assumption | with_reducible exact mset_self _ _ _ | refine (mset_ne (by omega)).trans ?_)) (by (try simp only [mset_1]); omega) rfl rfl (Nat.le_of_ble_eq_true rfl) ⟨Nat.le_of_ble_eq_true rfl, Nat.le_of_ble_eq_true rfl⟩ ⟨Nat.le_of_ble_eq_true rfl, Nat.le_of_ble_eq_true rfl⟩ ?_
    refine ok_X1_surchargeOn (by omega) c4 d6 (by omega) ?_
    refine V_goto C dX4_surchargeToday_31 (tgt := 35) (by decide) ?_
    exact V_iret C hr dX4_surchargeToday_35 (K_of hK (by unfold surT feeT; rw [if_pos (by omega)]))

set_option maxHeartbeats 400000 in
set_option maxRecDepth 4000 in
theorem ok_X4_priceToday {l : Launch} {D : va_G} {cy : Nat → ClassId} {z : Nat} {M : Mm} {K : Option Value → Mm → Prop} {b : Nat} {S : SD} (hS : StateAt cy z M b S) (hB : SB S) {i : Nat} (hi : i < 10) {y : Int} (hy : y = -1 ∨ 1 ≤ y ∧ y ≤ 19) (hK : K (some (iv (priceT S i y))) M) :
    MT l D cy z false yX4_priceToday (wsy yX4_priceToday cX4_priceToday 3 (some .int)) 2 45 0 0 M [.ref (z + b), .ref (z + (b + 5 + 6 * i)), iv y] K := by
  refine MT_of (by decide) w_265 (Nat.le_of_ble_eq_true rfl) ?_
  intro p e s m args below meth c C hr hx0
  have hS9 := hS
  have hB9 := hB
  obtain ⟨hn, c0, c1, c2, c3, c4, cR⟩ := hS
  obtain ⟨d0, d1, d2, d4, d5, d6, dH, dR⟩ := hB
  have hR9 := cR i hi
  have hB8 := dR i hi
  have hnr := hR9.1
  have mr := hR9.2.1
  have hB7 := hB8
  obtain ⟨b0, b1, b2, b3, b4⟩ := hB7
  have y0 : ∀ y, -1 ≤ yv (RA S i 0) (-1) y ∧ yv (RA S i 0) (-1) y ≤ 40000 := fun y => yv_rng (b4 0) (by omega)
  have y1 : ∀ y, -1 ≤ yv (RA S i 1) (-1) y ∧ yv (RA S i 1) (-1) y ≤ 40000 := fun y => yv_rng (b4 1) (by omega)
  have y2 : ∀ y, -1 ≤ yv (RA S i 2) 0 y ∧ yv (RA S i 2) 0 y ≤ 40000 := fun y => yv_rng (b4 2) (by omega)
  have y3 : ∀ y, -1 ≤ yv (RA S i 3) 0 y ∧ yv (RA S i 3) 0 y ≤ 40000 := fun y => yv_rng (b4 3) (by omega)
  have hx : nxt (RF S i) = if RF S i 3 < 19 then RF S i 3 + 1 else -1 := rfl
  refine V_iload_n C dX4_priceToday_0 rfl ?_
  refine V_iconst C dX4_priceToday_1 ?_
  refine V_icmp_ne C dX4_priceToday_2 (tgt := 9) (by decide) (by omega) (by omega) (fun g2 => ?_) (fun g2 => ?_)
  · refine V_aload_n C dX4_priceToday_9 rfl ?_
    refine V_get C fg_X4_43 dX4_priceToday_10 (by repeat (first | with_reducible assumption | with_reducible exact mset_self _ _ _ | refine (mset_ne (by omega)).trans ?_)) (by (try simp only [mset_1]); omega) (by rfl) ?_
    refine V_iload_n C dX4_priceToday_13 rfl ?_
    refine V_aload_n C dX4_priceToday_14 rfl ?_
    refine V_get C fg_X4_116 dX4_priceToday_15 (by repeat (first | with_reducible assumption | with_reducible exact mset_self _ _ _ | refine (mset_ne (by omega)).trans ?_)) (by (try simp only [mset_1]); omega) (by rfl) ?_
    refine V_callV (fr := 0) (lo := 0) (mc := 0) (ms := 0) (As := [_, _]) C yvX1_feeFor w_266 dX4_priceToday_18 rfl rfl (by repeat (first | with_reducible assumption | with_reducible exact mset_self _ _ _ | refine (mset_ne (by omega)).trans ?_)) (by (try simp only [mset_1]); omega) rfl rfl (Nat.le_of_ble_eq_true rfl) ⟨Nat.le_of_ble_eq_true rfl, Nat.le_of_ble_eq_true rfl⟩ ⟨Nat.le_of_ble_eq_true rfl, Nat.le_of_ble_eq_true rfl⟩ ?_
    refine ok_X1_feeFor (by omega) c4 ⟨d4, d5⟩ (by omega) (by omega) ?_
    refine V_aload_n C dX4_priceToday_21 rfl ?_
    refine V_aload_n C dX4_priceToday_22 rfl ?_
    refine V_iload_n C dX4_priceToday_23 rfl ?_
    refine V_callV (fr := 1) (lo := 23) (mc := 0) (ms := 0) (As := [_, _]) C yvX4_surchargeToday w_270 dX4_priceToday_24 rfl rfl (by repeat (first | with_reducible assumption | with_reducible exact mset_self _ _ _ | refine (mset_ne (by omega)).trans ?_)) (by (try simp only [mset_1]); omega) rfl rfl (Nat.le_of_ble_eq_true rfl) ⟨Nat.le_of_ble_eq_true rfl, Nat.le_of_ble_eq_true rfl⟩ ⟨Nat.le_of_ble_eq_true rfl, Nat.le_of_ble_eq_true rfl⟩ ?_
    refine ok_X4_surchargeToday hS9 hB9 hi (by omega) ?_
    refine V_iadd C dX4_priceToday_27 ?_
    exact V_iret C hr dX4_priceToday_28 (K_of hK (by unfold priceT feeT; rw [if_neg (by omega)]))
  · refine V_iconst C dX4_priceToday_5 ?_
    refine V_goto C dX4_priceToday_6 (tgt := 28) (by decide) ?_
    exact V_iret C hr dX4_priceToday_28 (K_of hK (by unfold priceT; rw [if_pos (by omega)]))

set_option maxHeartbeats 400000 in
set_option maxRecDepth 4000 in
theorem ok_X4_lapsesWithin {l : Launch} {D : va_G} {cy : Nat → ClassId} {z : Nat} {M : Mm} {K : Option Value → Mm → Prop} {b : Nat} {S : SD} (hS : StateAt cy z M b S) (hB : SB S) {w : Int} (hw : 0 ≤ w ∧ w ≤ 4000) (hK : K (some (iv ((cntN (fun i => !lapB (RF S i) (RA S i) (sc S 0) && lapB (RF S i) (RA S i) (sc S 0 + w)) (sN S) : Nat) : Int))) M) :
    MT l D cy z false yX4_lapsesWithin (wsy yX4_lapsesWithin cX4_lapsesWithin 4 (some .int)) 2 43 0 0 M [.ref (z + b), iv w] K := by
  refine MT_of (by decide) w_606 (Nat.le_of_ble_eq_true rfl) ?_
  intro p e s m args below meth c C hr hx0
  have hS9 := hS
  have hB9 := hB
  obtain ⟨hn, c0, c1, c2, c3, c4, cR⟩ := hS
  obtain ⟨d0, d1, d2, d4, d5, d6, dH, dR⟩ := hB
  have loop : ∀ (n : Nat) (i : Nat), (i ≤ sN S) → 10 - i < n → V p l e { frames := 2, cells := 0, slots := 0, locals := 43 } s m args below meth c D z 4 (MQ below (qc_ D z K) args s 0 0 (fun q => z ≤ q)) 0 0 M 4 [(0, .ref (z + b)), (1, iv w), (2, iv (((cntN (fun i => !lapB (RF S i) (RA S i) (sc S 0) && lapB (RF S i) (RA S i) (sc S 0 + w)) i : Nat) : Int))), (3, iv ((i : Int)))] [] := by
    intro n
    induction n with
    | zero => intro i hi0 hfu; exact absurd hfu (Nat.not_lt_zero _)
    | succ n ih =>
      intro i hi0 hfu
      refine V_iload_n C dX4_lapsesWithin_4 rfl ?_
      refine V_aload_n C dX4_lapsesWithin_5 rfl ?_
      refine V_get C fg_X4_15 dX4_lapsesWithin_6 (by repeat (first | with_reducible assumption | with_reducible exact mset_self _ _ _ | refine (mset_ne (by omega)).trans ?_)) (by (try simp only [mset_1]); omega) (by rfl) ?_
      refine V_icmp_ge C dX4_lapsesWithin_9 (tgt := 64) (by decide) (by omega) (by omega) (fun g9 => ?_) (fun g9 => ?_)
      · refine V_iload_n C dX4_lapsesWithin_64 rfl ?_
        exact V_iret C hr dX4_lapsesWithin_65 (K_of hK (by rw [show i = sN S by omega]))
      · have hi : i < 10 := by omega
        have hR9 := cR i hi
        have hB8 := dR i hi
        have hnr := hR9.1
        have mr := hR9.2.1
        have hB7 := hB8
        obtain ⟨b0, b1, b2, b3, b4⟩ := hB7
        refine V_iload_n C dX4_lapsesWithin_12 rfl ?_
        refine V_aload_n C dX4_lapsesWithin_13 rfl ?_
        refine V_get C fg_X4_29 dX4_lapsesWithin_14 (by repeat (first | with_reducible assumption | with_reducible exact mset_self _ _ _ | refine (mset_ne (by omega)).trans ?_)) (by (try simp only [mset_1]); omega) (by rfl) ?_
        refine V_alenQ (t := 3) C rfl dX4_lapsesWithin_17 (by repeat (first | with_reducible assumption | with_reducible exact mset_self _ _ _ | refine (mset_ne (by omega)).trans ?_)) (by (try simp only [mset_1]); omega) ?_
        refine V_icmp_ge C dX4_lapsesWithin_18 (tgt := 64) (by decide) (by omega) (by omega) (fun g18 => ?_) (fun g18 => ?_)
        · exact absurd g18 (by omega)
        · refine V_aload_n C dX4_lapsesWithin_21 rfl ?_
          refine V_get C fg_X4_29 dX4_lapsesWithin_22 (by repeat (first | with_reducible assumption | with_reducible exact mset_self _ _ _ | refine (mset_ne (by omega)).trans ?_)) (by (try simp only [mset_1]); omega) (by rfl) ?_
          refine V_iload_n C dX4_lapsesWithin_25 rfl ?_
          refine V_aaload (t := 3) C rfl dX4_lapsesWithin_26 (by repeat (first | with_reducible assumption | with_reducible exact mset_self _ _ _ | refine (mset_ne (by omega)).trans ?_)) (by (try simp only [mset_1]); omega) (by omega) (by omega) (by rw [Int.toNat_natCast]) ?_
          refine V_aload_n C dX4_lapsesWithin_27 rfl ?_
          refine V_get C fg_X4_9 dX4_lapsesWithin_28 (by repeat (first | with_reducible assumption | with_reducible exact mset_self _ _ _ | refine (mset_ne (by omega)).trans ?_)) (by (try simp only [mset_1]); omega) (by rfl) ?_
          refine V_callV (fr := 1) (lo := 21) (mc := 0) (ms := 0) (As := [_]) C yvX3_isLapsed w_245 dX4_lapsesWithin_31 rfl rfl (by repeat (first | with_reducible assumption | with_reducible exact mset_self _ _ _ | refine (mset_ne (by omega)).trans ?_)) (by (try simp only [mset_1]); omega) rfl rfl (Nat.le_of_ble_eq_true rfl) ⟨Nat.le_of_ble_eq_true rfl, Nat.le_of_ble_eq_true rfl⟩ ⟨Nat.le_of_ble_eq_true rfl, Nat.le_of_ble_eq_true rfl⟩ ?_
          refine ok_X3_isLapsed hR9 hB8 (by omega) (fun hl => ?_) (fun hl => ?_)
          · refine V_ifne1 C dX4_lapsesWithin_34 (tgt := 58) (by decide) ?_
            refine V_iinc C dX4_lapsesWithin_58 rfl (by decide) ?_
            refine V_goto C dX4_lapsesWithin_61 (tgt := 4) (by decide) ?_
            refine V_lv [(0, .ref (z + b)), (1, iv w), (2, iv (((cntN (fun i => !lapB (RF S i) (RA S i) (sc S 0) && lapB (RF S i) (RA S i) (sc S 0 + w)) (i + 1) : Nat) : Int))), (3, iv (((i + 1 : Nat) : Int)))] (List.forall_mem_cons.mpr ⟨(by first | rfl | exact congrArg (fun t => some (iv t)) (by have e8 := cntN_f (p := (fun i => !lapB (RF S i) (RA S i) (sc S 0) && lapB (RF S i) (RA S i) (sc S 0 + w))) (n := i) (by show (!lapB (RF S i) (RA S i) (sc S 0) && _) = false; rw [lapB_t hl]; rfl); push_cast; omega)), (List.forall_mem_cons.mpr ⟨(by first | rfl | exact congrArg (fun t => some (iv t)) (by have e8 := cntN_f (p := (fun i => !lapB (RF S i) (RA S i) (sc S 0) && lapB (RF S i) (RA S i) (sc S 0 + w))) (n := i) (by show (!lapB (RF S i) (RA S i) (sc S 0) && _) = false; rw [lapB_t hl]; rfl); push_cast; omega)), (List.forall_mem_cons.mpr ⟨(by first | rfl | exact congrArg (fun t => some (iv t)) (by have e8 := cntN_f (p := (fun i => !lapB (RF S i) (RA S i) (sc S 0) && lapB (RF S i) (RA S i) (sc S 0 + w))) (n := i) (by show (!lapB (RF S i) (RA S i) (sc S 0) && _) = false; rw [lapB_t hl]; rfl); push_cast; omega)), (List.forall_mem_cons.mpr ⟨(by first | rfl | exact congrArg (fun t => some (iv t)) (by have e8 := cntN_f (p := (fun i => !lapB (RF S i) (RA S i) (sc S 0) && lapB (RF S i) (RA S i) (sc S 0 + w))) (n := i) (by show (!lapB (RF S i) (RA S i) (sc S 0) && _) = false; rw [lapB_t hl]; rfl); push_cast; omega)), (fun _ h => nomatch h)⟩)⟩)⟩)⟩) ?_
            exact ih (i + 1) (by omega) (by omega)
          · refine V_ifne0 C dX4_lapsesWithin_34 (tgt := 58) (by decide) ?_
            refine V_aload_n C dX4_lapsesWithin_37 rfl ?_
            refine V_get C fg_X4_29 dX4_lapsesWithin_38 (by repeat (first | with_reducible assumption | with_reducible exact mset_self _ _ _ | refine (mset_ne (by omega)).trans ?_)) (by (try simp only [mset_1]); omega) (by rfl) ?_
            refine V_iload_n C dX4_lapsesWithin_41 rfl ?_
            refine V_aaload (t := 3) C rfl dX4_lapsesWithin_42 (by repeat (first | with_reducible assumption | with_reducible exact mset_self _ _ _ | refine (mset_ne (by omega)).trans ?_)) (by (try simp only [mset_1]); omega) (by omega) (by omega) (by rw [Int.toNat_natCast]) ?_
            refine V_aload_n C dX4_lapsesWithin_43 rfl ?_
            refine V_get C fg_X4_9 dX4_lapsesWithin_44 (by repeat (first | with_reducible assumption | with_reducible exact mset_self _ _ _ | refine (mset_ne (by omega)).trans ?_)) (by (try simp only [mset_1]); omega) (by rfl) ?_
            refine V_iload_n C dX4_lapsesWithin_47 rfl ?_
            refine V_iadd C dX4_lapsesWithin_48 ?_
            refine V_callV (fr := 1) (lo := 21) (mc := 0) (ms := 0) (As := [_]) C yvX3_isLapsed w_245 dX4_lapsesWithin_49 rfl rfl (by repeat (first | with_reducible assumption | with_reducible exact mset_self _ _ _ | refine (mset_ne (by omega)).trans ?_)) (by (try simp only [mset_1]); omega) rfl rfl (Nat.le_of_ble_eq_true rfl) ⟨Nat.le_of_ble_eq_true rfl, Nat.le_of_ble_eq_true rfl⟩ ⟨Nat.le_of_ble_eq_true rfl, Nat.le_of_ble_eq_true rfl⟩ ?_
            refine ok_X3_isLapsed hR9 hB8 (by omega) (fun hm => ?_) (fun hm => ?_)
            · refine V_ifeq1 C dX4_lapsesWithin_52 (tgt := 58) (by decide) ?_
              refine V_iinc C dX4_lapsesWithin_55 rfl (by decide) ?_
              refine V_iinc C dX4_lapsesWithin_58 rfl (by decide) ?_
              refine V_goto C dX4_lapsesWithin_61 (tgt := 4) (by decide) ?_
              refine V_lv [(0, .ref (z + b)), (1, iv w), (2, iv (((cntN (fun i => !lapB (RF S i) (RA S i) (sc S 0) && lapB (RF S i) (RA S i) (sc S 0 + w)) (i + 1) : Nat) : Int))), (3, iv (((i + 1 : Nat) : Int)))] (List.forall_mem_cons.mpr ⟨(by first | rfl | exact congrArg (fun t => some (iv t)) (by have e8 := cntN_t (p := (fun i => !lapB (RF S i) (RA S i) (sc S 0) && lapB (RF S i) (RA S i) (sc S 0 + w))) (n := i) (by show (!lapB (RF S i) (RA S i) (sc S 0) && lapB (RF S i) (RA S i) (sc S 0 + w)) = true; rw [lapB_f hl, lapB_t hm]; rfl); push_cast; omega)), (List.forall_mem_cons.mpr ⟨(by first | rfl | exact congrArg (fun t => some (iv t)) (by have e8 := cntN_t (p := (fun i => !lapB (RF S i) (RA S i) (sc S 0) && lapB (RF S i) (RA S i) (sc S 0 + w))) (n := i) (by show (!lapB (RF S i) (RA S i) (sc S 0) && lapB (RF S i) (RA S i) (sc S 0 + w)) = true; rw [lapB_f hl, lapB_t hm]; rfl); push_cast; omega)), (List.forall_mem_cons.mpr ⟨(by first | rfl | exact congrArg (fun t => some (iv t)) (by have e8 := cntN_t (p := (fun i => !lapB (RF S i) (RA S i) (sc S 0) && lapB (RF S i) (RA S i) (sc S 0 + w))) (n := i) (by show (!lapB (RF S i) (RA S i) (sc S 0) && lapB (RF S i) (RA S i) (sc S 0 + w)) = true; rw [lapB_f hl, lapB_t hm]; rfl); push_cast; omega)), (List.forall_mem_cons.mpr ⟨(by first | rfl | exact congrArg (fun t => some (iv t)) (by have e8 := cntN_t (p := (fun i => !lapB (RF S i) (RA S i) (sc S 0) && lapB (RF S i) (RA S i) (sc S 0 + w))) (n := i) (by show (!lapB (RF S i) (RA S i) (sc S 0) && lapB (RF S i) (RA S i) (sc S 0 + w)) = true; rw [lapB_f hl, lapB_t hm]; rfl); push_cast; omega)), (fun _ h => nomatch h)⟩)⟩)⟩)⟩) ?_
              exact ih (i + 1) (by omega) (by omega)
            · refine V_ifeq0 C dX4_lapsesWithin_52 (tgt := 58) (by decide) ?_
              refine V_iinc C dX4_lapsesWithin_58 rfl (by decide) ?_
              refine V_goto C dX4_lapsesWithin_61 (tgt := 4) (by decide) ?_
              refine V_lv [(0, .ref (z + b)), (1, iv w), (2, iv (((cntN (fun i => !lapB (RF S i) (RA S i) (sc S 0) && lapB (RF S i) (RA S i) (sc S 0 + w)) (i + 1) : Nat) : Int))), (3, iv (((i + 1 : Nat) : Int)))] (List.forall_mem_cons.mpr ⟨(by first | rfl | exact congrArg (fun t => some (iv t)) (by have e8 := cntN_f (p := (fun i => !lapB (RF S i) (RA S i) (sc S 0) && lapB (RF S i) (RA S i) (sc S 0 + w))) (n := i) (by show (!lapB (RF S i) (RA S i) (sc S 0) && lapB (RF S i) (RA S i) (sc S 0 + w)) = false; rw [lapB_f hl, lapB_f hm]; rfl); push_cast; omega)), (List.forall_mem_cons.mpr ⟨(by first | rfl | exact congrArg (fun t => some (iv t)) (by have e8 := cntN_f (p := (fun i => !lapB (RF S i) (RA S i) (sc S 0) && lapB (RF S i) (RA S i) (sc S 0 + w))) (n := i) (by show (!lapB (RF S i) (RA S i) (sc S 0) && lapB (RF S i) (RA S i) (sc S 0 + w)) = false; rw [lapB_f hl, lapB_f hm]; rfl); push_cast; omega)), (List.forall_mem_cons.mpr ⟨(by first | rfl | exact congrArg (fun t => some (iv t)) (by have e8 := cntN_f (p := (fun i => !lapB (RF S i) (RA S i) (sc S 0) && lapB (RF S i) (RA S i) (sc S 0 + w))) (n := i) (by show (!lapB (RF S i) (RA S i) (sc S 0) && lapB (RF S i) (RA S i) (sc S 0 + w)) = false; rw [lapB_f hl, lapB_f hm]; rfl); push_cast; omega)), (List.forall_mem_cons.mpr ⟨(by first | rfl | exact congrArg (fun t => some (iv t)) (by have e8 := cntN_f (p := (fun i => !lapB (RF S i) (RA S i) (sc S 0) && lapB (RF S i) (RA S i) (sc S 0 + w))) (n := i) (by show (!lapB (RF S i) (RA S i) (sc S 0) && lapB (RF S i) (RA S i) (sc S 0 + w)) = false; rw [lapB_f hl, lapB_f hm]; rfl); push_cast; omega)), (fun _ h => nomatch h)⟩)⟩)⟩)⟩) ?_
              exact ih (i + 1) (by omega) (by omega)
  refine V_iconst C dX4_lapsesWithin_0 ?_
  refine V_istore_n C dX4_lapsesWithin_1 (by decide) ?_
  refine V_iconst C dX4_lapsesWithin_2 ?_
  refine V_istore_n C dX4_lapsesWithin_3 (by decide) ?_
  refine V_lv [(0, .ref (z + b)), (1, iv w), (2, iv (((cntN (fun i => !lapB (RF S i) (RA S i) (sc S 0) && lapB (RF S i) (RA S i) (sc S 0 + w)) 0 : Nat) : Int))), (3, iv (((0 : Nat) : Int)))] (List.forall_mem_cons.mpr ⟨(by first | rfl | exact congrArg (fun t => some (iv t)) (by omega)), (List.forall_mem_cons.mpr ⟨(by first | rfl | exact congrArg (fun t => some (iv t)) (by omega)), (List.forall_mem_cons.mpr ⟨(by first | rfl | exact congrArg (fun t => some (iv t)) (by omega)), (List.forall_mem_cons.mpr ⟨(by first | rfl | exact congrArg (fun t => some (iv t)) (by omega)), (fun _ h => nomatch h)⟩)⟩)⟩)⟩) ?_
  exact loop 11 0 (by omega) (by omega)

set_option maxHeartbeats 400000 in
set_option maxRecDepth 4000 in
theorem ok_X4_countStanding {l : Launch} {D : va_G} {cy : Nat → ClassId} {z : Nat} {M : Mm} {K : Option Value → Mm → Prop} {b : Nat} {S : SD} (hS : StateAt cy z M b S) (hB : SB S) (hK : K (some (iv (standN S : Int))) M) :
    MT l D cy z false yX4_countStanding (wsy yX4_countStanding cX4_countStanding 3 (some .int)) 3 65 0 0 M [.ref (z + b)] K := by
  refine MT_of (by decide) w_396 (Nat.le_of_ble_eq_true rfl) ?_
  intro p e s m args below meth c C hr hx0
  have hS9 := hS
  have hB9 := hB
  obtain ⟨hn, c0, c1, c2, c3, c4, cR⟩ := hS
  obtain ⟨d0, d1, d2, d4, d5, d6, dH, dR⟩ := hB
  have loop : ∀ (n : Nat) (i : Nat), (i ≤ sN S) → 10 - i < n → V p l e { frames := 3, cells := 0, slots := 0, locals := 65 } s m args below meth c D z 3 (MQ below (qc_ D z K) args s 0 0 (fun q => z ≤ q)) 0 0 M 4 [(0, .ref (z + b)), (1, iv (((cntN (fun i => stB (RF S i) (RA S i) (sc S 0) (sc S 0)) i : Nat) : Int))), (2, iv ((i : Int)))] [] := by
    intro n
    induction n with
    | zero => intro i hi0 hfu; exact absurd hfu (Nat.not_lt_zero _)
    | succ n ih =>
      intro i hi0 hfu
      refine V_iload_n C dX4_countStanding_4 rfl ?_
      refine V_aload_n C dX4_countStanding_5 rfl ?_
      refine V_get C fg_X4_15 dX4_countStanding_6 (by repeat (first | with_reducible assumption | with_reducible exact mset_self _ _ _ | refine (mset_ne (by omega)).trans ?_)) (by (try simp only [mset_1]); omega) (by rfl) ?_
      refine V_icmp_ge C dX4_countStanding_9 (tgt := 50) (by decide) (by omega) (by omega) (fun g9 => ?_) (fun g9 => ?_)
      · refine V_iload_n C dX4_countStanding_50 rfl ?_
        exact V_iret C hr dX4_countStanding_51 (K_of hK (by unfold standN; rw [show i = sN S by omega]))
      · have hi : i < 10 := by omega
        have hR9 := cR i hi
        have hB8 := dR i hi
        have hnr := hR9.1
        have mr := hR9.2.1
        have hB7 := hB8
        obtain ⟨b0, b1, b2, b3, b4⟩ := hB7
        refine V_iload_n C dX4_countStanding_12 rfl ?_
        refine V_aload_n C dX4_countStanding_13 rfl ?_
        refine V_get C fg_X4_29 dX4_countStanding_14 (by repeat (first | with_reducible assumption | with_reducible exact mset_self _ _ _ | refine (mset_ne (by omega)).trans ?_)) (by (try simp only [mset_1]); omega) (by rfl) ?_
        refine V_alenQ (t := 3) C rfl dX4_countStanding_17 (by repeat (first | with_reducible assumption | with_reducible exact mset_self _ _ _ | refine (mset_ne (by omega)).trans ?_)) (by (try simp only [mset_1]); omega) ?_
        refine V_icmp_ge C dX4_countStanding_18 (tgt := 50) (by decide) (by omega) (by omega) (fun g18 => ?_) (fun g18 => ?_)
        · exact absurd g18 (by omega)
        · refine V_aload_n C dX4_countStanding_21 rfl ?_
          refine V_get C fg_X4_29 dX4_countStanding_22 (by repeat (first | with_reducible assumption | with_reducible exact mset_self _ _ _ | refine (mset_ne (by omega)).trans ?_)) (by (try simp only [mset_1]); omega) (by rfl) ?_
          refine V_iload_n C dX4_countStanding_25 rfl ?_
          refine V_aaload (t := 3) C rfl dX4_countStanding_26 (by repeat (first | with_reducible assumption | with_reducible exact mset_self _ _ _ | refine (mset_ne (by omega)).trans ?_)) (by (try simp only [mset_1]); omega) (by omega) (by omega) (by rw [Int.toNat_natCast]) ?_
          refine V_aload_n C dX4_countStanding_27 rfl ?_
          refine V_get C fg_X4_9 dX4_countStanding_28 (by repeat (first | with_reducible assumption | with_reducible exact mset_self _ _ _ | refine (mset_ne (by omega)).trans ?_)) (by (try simp only [mset_1]); omega) (by rfl) ?_
          refine V_aload_n C dX4_countStanding_31 rfl ?_
          refine V_get C fg_X4_9 dX4_countStanding_32 (by repeat (first | with_reducible assumption | with_reducible exact mset_self _ _ _ | refine (mset_ne (by omega)).trans ?_)) (by (try simp only [mset_1]); omega) (by rfl) ?_
          refine V_callV (fr := 2) (lo := 43) (mc := 0) (ms := 0) (As := [_, _]) C yvX3_stoodOn w_397 dX4_countStanding_35 rfl rfl (by repeat (first | with_reducible assumption | with_reducible exact mset_self _ _ _ | refine (mset_ne (by omega)).trans ?_)) (by (try simp only [mset_1]); omega) rfl rfl (Nat.le_of_ble_eq_true rfl) ⟨Nat.le_of_ble_eq_true rfl, Nat.le_of_ble_eq_true rfl⟩ ⟨Nat.le_of_ble_eq_true rfl, Nat.le_of_ble_eq_true rfl⟩ ?_
          refine ok_X3_stoodOn hR9 hB8 (by omega) (by omega) (fun hl => ?_) (fun hl => ?_)
          · refine V_ifeq1 C dX4_countStanding_38 (tgt := 44) (by decide) ?_
            refine V_iinc C dX4_countStanding_41 rfl (by decide) ?_
            refine V_iinc C dX4_countStanding_44 rfl (by decide) ?_
            refine V_goto C dX4_countStanding_47 (tgt := 4) (by decide) ?_
            refine V_lv [(0, .ref (z + b)), (1, iv (((cntN (fun i => stB (RF S i) (RA S i) (sc S 0) (sc S 0)) (i + 1) : Nat) : Int))), (2, iv (((i + 1 : Nat) : Int)))] (List.forall_mem_cons.mpr ⟨(by first | rfl | exact congrArg (fun t => some (iv t)) (by have e8 := cntN_t (p := (fun i => stB (RF S i) (RA S i) (sc S 0) (sc S 0))) (n := i) (stB_t hl); push_cast; omega)), (List.forall_mem_cons.mpr ⟨(by first | rfl | exact congrArg (fun t => some (iv t)) (by have e8 := cntN_t (p := (fun i => stB (RF S i) (RA S i) (sc S 0) (sc S 0))) (n := i) (stB_t hl); push_cast; omega)), (List.forall_mem_cons.mpr ⟨(by first | rfl | exact congrArg (fun t => some (iv t)) (by have e8 := cntN_t (p := (fun i => stB (RF S i) (RA S i) (sc S 0) (sc S 0))) (n := i) (stB_t hl); push_cast; omega)), (fun _ h => nomatch h)⟩)⟩)⟩) ?_
            exact ih (i + 1) (by omega) (by omega)
          · refine V_ifeq0 C dX4_countStanding_38 (tgt := 44) (by decide) ?_
            refine V_iinc C dX4_countStanding_44 rfl (by decide) ?_
            refine V_goto C dX4_countStanding_47 (tgt := 4) (by decide) ?_
            refine V_lv [(0, .ref (z + b)), (1, iv (((cntN (fun i => stB (RF S i) (RA S i) (sc S 0) (sc S 0)) (i + 1) : Nat) : Int))), (2, iv (((i + 1 : Nat) : Int)))] (List.forall_mem_cons.mpr ⟨(by first | rfl | exact congrArg (fun t => some (iv t)) (by have e8 := cntN_f (p := (fun i => stB (RF S i) (RA S i) (sc S 0) (sc S 0))) (n := i) (stB_f hl); push_cast; omega)), (List.forall_mem_cons.mpr ⟨(by first | rfl | exact congrArg (fun t => some (iv t)) (by have e8 := cntN_f (p := (fun i => stB (RF S i) (RA S i) (sc S 0) (sc S 0))) (n := i) (stB_f hl); push_cast; omega)), (List.forall_mem_cons.mpr ⟨(by first | rfl | exact congrArg (fun t => some (iv t)) (by have e8 := cntN_f (p := (fun i => stB (RF S i) (RA S i) (sc S 0) (sc S 0))) (n := i) (stB_f hl); push_cast; omega)), (fun _ h => nomatch h)⟩)⟩)⟩) ?_
            exact ih (i + 1) (by omega) (by omega)
  refine V_iconst C dX4_countStanding_0 ?_
  refine V_istore_n C dX4_countStanding_1 (by decide) ?_
  refine V_iconst C dX4_countStanding_2 ?_
  refine V_istore_n C dX4_countStanding_3 (by decide) ?_
  refine V_lv [(0, .ref (z + b)), (1, iv (((cntN (fun i => stB (RF S i) (RA S i) (sc S 0) (sc S 0)) 0 : Nat) : Int))), (2, iv (((0 : Nat) : Int)))] (List.forall_mem_cons.mpr ⟨(by first | rfl | exact congrArg (fun t => some (iv t)) (by omega)), (List.forall_mem_cons.mpr ⟨(by first | rfl | exact congrArg (fun t => some (iv t)) (by omega)), (List.forall_mem_cons.mpr ⟨(by first | rfl | exact congrArg (fun t => some (iv t)) (by omega)), (fun _ h => nomatch h)⟩)⟩)⟩) ?_
  exact loop 11 0 (by omega) (by omega)

set_option maxHeartbeats 400000 in
set_option maxRecDepth 4000 in
theorem ok_X4_countLapsed {l : Launch} {D : va_G} {cy : Nat → ClassId} {z : Nat} {M : Mm} {K : Option Value → Mm → Prop} {b : Nat} {S : SD} (hS : StateAt cy z M b S) (hB : SB S) (hK : K (some (iv (lapN S : Int))) M) :
    MT l D cy z false yX4_countLapsed (wsy yX4_countLapsed cX4_countLapsed 3 (some .int)) 2 43 0 0 M [.ref (z + b)] K := by
  refine MT_of (by decide) w_414 (Nat.le_of_ble_eq_true rfl) ?_
  intro p e s m args below meth c C hr hx0
  have hS9 := hS
  have hB9 := hB
  obtain ⟨hn, c0, c1, c2, c3, c4, cR⟩ := hS
  obtain ⟨d0, d1, d2, d4, d5, d6, dH, dR⟩ := hB
  have loop : ∀ (n : Nat) (i : Nat), (i ≤ sN S) → 10 - i < n → V p l e { frames := 2, cells := 0, slots := 0, locals := 43 } s m args below meth c D z 3 (MQ below (qc_ D z K) args s 0 0 (fun q => z ≤ q)) 0 0 M 4 [(0, .ref (z + b)), (1, iv (((cntN (fun i => lapB (RF S i) (RA S i) (sc S 0)) i : Nat) : Int))), (2, iv ((i : Int)))] [] := by
    intro n
    induction n with
    | zero => intro i hi0 hfu; exact absurd hfu (Nat.not_lt_zero _)
    | succ n ih =>
      intro i hi0 hfu
      refine V_iload_n C dX4_countLapsed_4 rfl ?_
      refine V_aload_n C dX4_countLapsed_5 rfl ?_
      refine V_get C fg_X4_15 dX4_countLapsed_6 (by repeat (first | with_reducible assumption | with_reducible exact mset_self _ _ _ | refine (mset_ne (by omega)).trans ?_)) (by (try simp only [mset_1]); omega) (by rfl) ?_
      refine V_icmp_ge C dX4_countLapsed_9 (tgt := 46) (by decide) (by omega) (by omega) (fun g9 => ?_) (fun g9 => ?_)
      · refine V_iload_n C dX4_countLapsed_46 rfl ?_
        exact V_iret C hr dX4_countLapsed_47 (K_of hK (by unfold lapN; rw [show i = sN S by omega]))
      · have hi : i < 10 := by omega
        have hR9 := cR i hi
        have hB8 := dR i hi
        have hnr := hR9.1
        have mr := hR9.2.1
        have hB7 := hB8
        obtain ⟨b0, b1, b2, b3, b4⟩ := hB7
        refine V_iload_n C dX4_countLapsed_12 rfl ?_
        refine V_aload_n C dX4_countLapsed_13 rfl ?_
        refine V_get C fg_X4_29 dX4_countLapsed_14 (by repeat (first | with_reducible assumption | with_reducible exact mset_self _ _ _ | refine (mset_ne (by omega)).trans ?_)) (by (try simp only [mset_1]); omega) (by rfl) ?_
        refine V_alenQ (t := 3) C rfl dX4_countLapsed_17 (by repeat (first | with_reducible assumption | with_reducible exact mset_self _ _ _ | refine (mset_ne (by omega)).trans ?_)) (by (try simp only [mset_1]); omega) ?_
        refine V_icmp_ge C dX4_countLapsed_18 (tgt := 46) (by decide) (by omega) (by omega) (fun g18 => ?_) (fun g18 => ?_)
        · exact absurd g18 (by omega)
        · refine V_aload_n C dX4_countLapsed_21 rfl ?_
          refine V_get C fg_X4_29 dX4_countLapsed_22 (by repeat (first | with_reducible assumption | with_reducible exact mset_self _ _ _ | refine (mset_ne (by omega)).trans ?_)) (by (try simp only [mset_1]); omega) (by rfl) ?_
          refine V_iload_n C dX4_countLapsed_25 rfl ?_
          refine V_aaload (t := 3) C rfl dX4_countLapsed_26 (by repeat (first | with_reducible assumption | with_reducible exact mset_self _ _ _ | refine (mset_ne (by omega)).trans ?_)) (by (try simp only [mset_1]); omega) (by omega) (by omega) (by rw [Int.toNat_natCast]) ?_
          refine V_aload_n C dX4_countLapsed_27 rfl ?_
          refine V_get C fg_X4_9 dX4_countLapsed_28 (by repeat (first | with_reducible assumption | with_reducible exact mset_self _ _ _ | refine (mset_ne (by omega)).trans ?_)) (by (try simp only [mset_1]); omega) (by rfl) ?_
          refine V_callV (fr := 1) (lo := 21) (mc := 0) (ms := 0) (As := [_]) C yvX3_isLapsed w_245 dX4_countLapsed_31 rfl rfl (by repeat (first | with_reducible assumption | with_reducible exact mset_self _ _ _ | refine (mset_ne (by omega)).trans ?_)) (by (try simp only [mset_1]); omega) rfl rfl (Nat.le_of_ble_eq_true rfl) ⟨Nat.le_of_ble_eq_true rfl, Nat.le_of_ble_eq_true rfl⟩ ⟨Nat.le_of_ble_eq_true rfl, Nat.le_of_ble_eq_true rfl⟩ ?_
          refine ok_X3_isLapsed hR9 hB8 (by omega) (fun hl => ?_) (fun hl => ?_)
          · refine V_ifeq1 C dX4_countLapsed_34 (tgt := 40) (by decide) ?_
            refine V_iinc C dX4_countLapsed_37 rfl (by decide) ?_
            refine V_iinc C dX4_countLapsed_40 rfl (by decide) ?_
            refine V_goto C dX4_countLapsed_43 (tgt := 4) (by decide) ?_
            refine V_lv [(0, .ref (z + b)), (1, iv (((cntN (fun i => lapB (RF S i) (RA S i) (sc S 0)) (i + 1) : Nat) : Int))), (2, iv (((i + 1 : Nat) : Int)))] (List.forall_mem_cons.mpr ⟨(by first | rfl | exact congrArg (fun t => some (iv t)) (by have e8 := cntN_t (p := (fun i => lapB (RF S i) (RA S i) (sc S 0))) (n := i) (lapB_t hl); push_cast; omega)), (List.forall_mem_cons.mpr ⟨(by first | rfl | exact congrArg (fun t => some (iv t)) (by have e8 := cntN_t (p := (fun i => lapB (RF S i) (RA S i) (sc S 0))) (n := i) (lapB_t hl); push_cast; omega)), (List.forall_mem_cons.mpr ⟨(by first | rfl | exact congrArg (fun t => some (iv t)) (by have e8 := cntN_t (p := (fun i => lapB (RF S i) (RA S i) (sc S 0))) (n := i) (lapB_t hl); push_cast; omega)), (fun _ h => nomatch h)⟩)⟩)⟩) ?_
            exact ih (i + 1) (by omega) (by omega)
          · refine V_ifeq0 C dX4_countLapsed_34 (tgt := 40) (by decide) ?_
            refine V_iinc C dX4_countLapsed_40 rfl (by decide) ?_
            refine V_goto C dX4_countLapsed_43 (tgt := 4) (by decide) ?_
            refine V_lv [(0, .ref (z + b)), (1, iv (((cntN (fun i => lapB (RF S i) (RA S i) (sc S 0)) (i + 1) : Nat) : Int))), (2, iv (((i + 1 : Nat) : Int)))] (List.forall_mem_cons.mpr ⟨(by first | rfl | exact congrArg (fun t => some (iv t)) (by have e8 := cntN_f (p := (fun i => lapB (RF S i) (RA S i) (sc S 0))) (n := i) (lapB_f hl); push_cast; omega)), (List.forall_mem_cons.mpr ⟨(by first | rfl | exact congrArg (fun t => some (iv t)) (by have e8 := cntN_f (p := (fun i => lapB (RF S i) (RA S i) (sc S 0))) (n := i) (lapB_f hl); push_cast; omega)), (List.forall_mem_cons.mpr ⟨(by first | rfl | exact congrArg (fun t => some (iv t)) (by have e8 := cntN_f (p := (fun i => lapB (RF S i) (RA S i) (sc S 0))) (n := i) (lapB_f hl); push_cast; omega)), (fun _ h => nomatch h)⟩)⟩)⟩) ?_
            exact ih (i + 1) (by omega) (by omega)
  refine V_iconst C dX4_countLapsed_0 ?_
  refine V_istore_n C dX4_countLapsed_1 (by decide) ?_
  refine V_iconst C dX4_countLapsed_2 ?_
  refine V_istore_n C dX4_countLapsed_3 (by decide) ?_
  refine V_lv [(0, .ref (z + b)), (1, iv (((cntN (fun i => lapB (RF S i) (RA S i) (sc S 0)) 0 : Nat) : Int))), (2, iv (((0 : Nat) : Int)))] (List.forall_mem_cons.mpr ⟨(by first | rfl | exact congrArg (fun t => some (iv t)) (by omega)), (List.forall_mem_cons.mpr ⟨(by first | rfl | exact congrArg (fun t => some (iv t)) (by omega)), (List.forall_mem_cons.mpr ⟨(by first | rfl | exact congrArg (fun t => some (iv t)) (by omega)), (fun _ h => nomatch h)⟩)⟩)⟩) ?_
  exact loop 11 0 (by omega) (by omega)

set_option maxHeartbeats 400000 in
set_option maxRecDepth 4000 in
theorem ok_X4_docketValue {l : Launch} {D : va_G} {cy : Nat → ClassId} {z : Nat} {M : Mm} {K : Option Value → Mm → Prop} {b : Nat} {S : SD} (hS : StateAt cy z M b S) (hB : SB S) {w : Int} (hw : 0 ≤ w ∧ w ≤ 11) (hK : K (some (iv (dvT S w))) M) :
    MT l D cy z false yX4_docketValue (wsy yX4_docketValue cX4_docketValue 2 (some .int)) 4 87 0 0 M [.ref (z + b), iv w] K := by
  refine MT_of (by decide) w_392 (Nat.le_of_ble_eq_true rfl) ?_
  intro p e s m args below meth c C hr hx0
  have hS9 := hS
  have hB9 := hB
  obtain ⟨hn, c0, c1, c2, c3, c4, cR⟩ := hS
  obtain ⟨d0, d1, d2, d4, d5, d6, dH, dR⟩ := hB
  refine V_iload_n C dX4_docketValue_0 rfl ?_
  rcases (show w < 0 ∨ 10 < w ∨ w = 0 ∨ w = 1 ∨ w = 2 ∨ w = 3 ∨ w = 4 ∨ w = 5 ∨ w = 6 ∨ w = 7 ∨ w = 8 ∨ w = 9 ∨ w = 10 by omega) with hsw | hsw | hsw | hsw | hsw | hsw | hsw | hsw | hsw | hsw | hsw | hsw | hsw
  · exact absurd hsw (by omega)
  · refine V_tout C dX4_docketValue_1 (by omega) (by omega) (tgt := 127) (by decide) ?_
    refine V_aload_n C dX4_docketValue_127 rfl ?_
    refine V_get C fg_X4_43 dX4_docketValue_128 (by repeat (first | with_reducible assumption | with_reducible exact mset_self _ _ _ | refine (mset_ne (by omega)).trans ?_)) (by (try simp only [mset_1]); omega) (by rfl) ?_
    refine V_get C fg_X4_145 dX4_docketValue_131 (by repeat (first | with_reducible assumption | with_reducible exact mset_self _ _ _ | refine (mset_ne (by omega)).trans ?_)) (by (try simp only [mset_1]); omega) (by rfl) ?_
    exact V_iret C hr dX4_docketValue_134 (K_of hK (by unfold dvT; rw [show w = 11 by omega]; rfl))
  · refine V_tin C (0) dX4_docketValue_1 hsw (by omega) (by decide) (by decide) (off := 59) (by rfl) (tgt := 60) (by decide) ?_
    refine V_aload_n C dX4_docketValue_60 rfl ?_
    refine V_get C fg_X4_9 dX4_docketValue_61 (by repeat (first | with_reducible assumption | with_reducible exact mset_self _ _ _ | refine (mset_ne (by omega)).trans ?_)) (by (try simp only [mset_1]); omega) (by rfl) ?_
    exact V_iret C hr dX4_docketValue_64 (K_of hK (by unfold dvT; subst hsw; rfl))
  · refine V_tin C (1) dX4_docketValue_1 hsw (by omega) (by decide) (by decide) (off := 64) (by rfl) (tgt := 65) (by decide) ?_
    refine V_aload_n C dX4_docketValue_65 rfl ?_
    refine V_get C fg_X4_15 dX4_docketValue_66 (by repeat (first | with_reducible assumption | with_reducible exact mset_self _ _ _ | refine (mset_ne (by omega)).trans ?_)) (by (try simp only [mset_1]); omega) (by rfl) ?_
    exact V_iret C hr dX4_docketValue_69 (K_of hK (by unfold dvT; subst hsw; rfl))
  · refine V_tin C (2) dX4_docketValue_1 hsw (by omega) (by decide) (by decide) (off := 69) (by rfl) (tgt := 70) (by decide) ?_
    refine V_aload_n C dX4_docketValue_70 rfl ?_
    refine V_callV (fr := 3) (lo := 65) (mc := 0) (ms := 0) (As := []) C yvX4_countStanding w_393 dX4_docketValue_71 rfl rfl (by repeat (first | with_reducible assumption | with_reducible exact mset_self _ _ _ | refine (mset_ne (by omega)).trans ?_)) (by (try simp only [mset_1]); omega) rfl rfl (Nat.le_of_ble_eq_true rfl) ⟨Nat.le_of_ble_eq_true rfl, Nat.le_of_ble_eq_true rfl⟩ ⟨Nat.le_of_ble_eq_true rfl, Nat.le_of_ble_eq_true rfl⟩ ?_
    refine ok_X4_countStanding hS9 hB9 ?_
    exact V_iret C hr dX4_docketValue_74 (K_of hK (by unfold dvT; subst hsw; rfl))
  · refine V_tin C (3) dX4_docketValue_1 hsw (by omega) (by decide) (by decide) (off := 74) (by rfl) (tgt := 75) (by decide) ?_
    refine V_aload_n C dX4_docketValue_75 rfl ?_
    refine V_callV (fr := 2) (lo := 43) (mc := 0) (ms := 0) (As := []) C yvX4_countLapsed w_411 dX4_docketValue_76 rfl rfl (by repeat (first | with_reducible assumption | with_reducible exact mset_self _ _ _ | refine (mset_ne (by omega)).trans ?_)) (by (try simp only [mset_1]); omega) rfl rfl (Nat.le_of_ble_eq_true rfl) ⟨Nat.le_of_ble_eq_true rfl, Nat.le_of_ble_eq_true rfl⟩ ⟨Nat.le_of_ble_eq_true rfl, Nat.le_of_ble_eq_true rfl⟩ ?_
    refine ok_X4_countLapsed hS9 hB9 ?_
    exact V_iret C hr dX4_docketValue_79 (K_of hK (by unfold dvT; subst hsw; rfl))
  · refine V_tin C (4) dX4_docketValue_1 hsw (by omega) (by decide) (by decide) (off := 79) (by rfl) (tgt := 80) (by decide) ?_
    refine V_aload_n C dX4_docketValue_80 rfl ?_
    refine V_get C fg_X4_36 dX4_docketValue_81 (by repeat (first | with_reducible assumption | with_reducible exact mset_self _ _ _ | refine (mset_ne (by omega)).trans ?_)) (by (try simp only [mset_1]); omega) (by rfl) ?_
    refine V_get C fg_X4_176 dX4_docketValue_84 (by repeat (first | with_reducible assumption | with_reducible exact mset_self _ _ _ | refine (mset_ne (by omega)).trans ?_)) (by (try simp only [mset_1]); omega) (by rfl) ?_
    exact V_iret C hr dX4_docketValue_87 (K_of hK (by unfold dvT; subst hsw; rfl))
  · refine V_tin C (5) dX4_docketValue_1 hsw (by omega) (by decide) (by decide) (off := 87) (by rfl) (tgt := 88) (by decide) ?_
    refine V_aload_n C dX4_docketValue_88 rfl ?_
    refine V_get C fg_X4_18 dX4_docketValue_89 (by repeat (first | with_reducible assumption | with_reducible exact mset_self _ _ _ | refine (mset_ne (by omega)).trans ?_)) (by (try simp only [mset_1]); omega) (by rfl) ?_
    exact V_iret C hr dX4_docketValue_92 (K_of hK (by unfold dvT; subst hsw; rfl))
  · refine V_tin C (6) dX4_docketValue_1 hsw (by omega) (by decide) (by decide) (off := 92) (by rfl) (tgt := 93) (by decide) ?_
    refine V_aload_n C dX4_docketValue_93 rfl ?_
    refine V_get C fg_X4_21 dX4_docketValue_94 (by repeat (first | with_reducible assumption | with_reducible exact mset_self _ _ _ | refine (mset_ne (by omega)).trans ?_)) (by (try simp only [mset_1]); omega) (by rfl) ?_
    exact V_iret C hr dX4_docketValue_97 (K_of hK (by unfold dvT; subst hsw; rfl))
  · refine V_tin C (7) dX4_docketValue_1 hsw (by omega) (by decide) (by decide) (off := 97) (by rfl) (tgt := 98) (by decide) ?_
    refine V_aload_n C dX4_docketValue_98 rfl ?_
    refine V_get C fg_X4_24 dX4_docketValue_99 (by repeat (first | with_reducible assumption | with_reducible exact mset_self _ _ _ | refine (mset_ne (by omega)).trans ?_)) (by (try simp only [mset_1]); omega) (by rfl) ?_
    exact V_iret C hr dX4_docketValue_102 (K_of hK (by unfold dvT; subst hsw; rfl))
  · refine V_tin C (8) dX4_docketValue_1 hsw (by omega) (by decide) (by decide) (off := 102) (by rfl) (tgt := 103) (by decide) ?_
    refine V_aload_n C dX4_docketValue_103 rfl ?_
    refine V_get C fg_X4_43 dX4_docketValue_104 (by repeat (first | with_reducible assumption | with_reducible exact mset_self _ _ _ | refine (mset_ne (by omega)).trans ?_)) (by (try simp only [mset_1]); omega) (by rfl) ?_
    refine V_get C fg_X4_179 dX4_docketValue_107 (by repeat (first | with_reducible assumption | with_reducible exact mset_self _ _ _ | refine (mset_ne (by omega)).trans ?_)) (by (try simp only [mset_1]); omega) (by rfl) ?_
    exact V_iret C hr dX4_docketValue_110 (K_of hK (by unfold dvT; subst hsw; rfl))
  · refine V_tin C (9) dX4_docketValue_1 hsw (by omega) (by decide) (by decide) (off := 110) (by rfl) (tgt := 111) (by decide) ?_
    refine V_aload_n C dX4_docketValue_111 rfl ?_
    refine V_get C fg_X4_43 dX4_docketValue_112 (by repeat (first | with_reducible assumption | with_reducible exact mset_self _ _ _ | refine (mset_ne (by omega)).trans ?_)) (by (try simp only [mset_1]); omega) (by rfl) ?_
    refine V_get C fg_X4_182 dX4_docketValue_115 (by repeat (first | with_reducible assumption | with_reducible exact mset_self _ _ _ | refine (mset_ne (by omega)).trans ?_)) (by (try simp only [mset_1]); omega) (by rfl) ?_
    exact V_iret C hr dX4_docketValue_118 (K_of hK (by unfold dvT; subst hsw; rfl))
  · refine V_tin C (10) dX4_docketValue_1 hsw (by omega) (by decide) (by decide) (off := 118) (by rfl) (tgt := 119) (by decide) ?_
    refine V_aload_n C dX4_docketValue_119 rfl ?_
    refine V_get C fg_X4_43 dX4_docketValue_120 (by repeat (first | with_reducible assumption | with_reducible exact mset_self _ _ _ | refine (mset_ne (by omega)).trans ?_)) (by (try simp only [mset_1]); omega) (by rfl) ?_
    refine V_get C fg_X4_185 dX4_docketValue_123 (by repeat (first | with_reducible assumption | with_reducible exact mset_self _ _ _ | refine (mset_ne (by omega)).trans ?_)) (by (try simp only [mset_1]); omega) (by rfl) ?_
    exact V_iret C hr dX4_docketValue_126 (K_of hK (by unfold dvT; subst hsw; rfl))

set_option maxHeartbeats 400000 in
set_option maxRecDepth 4000 in
theorem ok_X4_rightValue {l : Launch} {D : va_G} {cy : Nat → ClassId} {z : Nat} {M : Mm} {K : Option Value → Mm → Prop} {b : Nat} {S : SD} (hS : StateAt cy z M b S) (hB : SB S) {i : Nat} (hi : i < 10) {w : Int} (hw : 0 ≤ w ∧ w ≤ 12) (hK : K (some (iv (rvT S i w))) M) :
    MT l D cy z false yX4_rightValue (wsy yX4_rightValue cX4_rightValue 3 (some .int)) 5 107 0 0 M [.ref (z + b), .ref (z + (b + 5 + 6 * i)), iv w] K := by
  refine MT_of (by decide) w_423 (Nat.le_of_ble_eq_true rfl) ?_
  intro p e s m args below meth c C hr hx0
  have hS9 := hS
  have hB9 := hB
  obtain ⟨hn, c0, c1, c2, c3, c4, cR⟩ := hS
  obtain ⟨d0, d1, d2, d4, d5, d6, dH, dR⟩ := hB
  have hR9 := cR i hi
  have hB8 := dR i hi
  have hnr := hR9.1
  have mr := hR9.2.1
  have hB7 := hB8
  obtain ⟨b0, b1, b2, b3, b4⟩ := hB7
  have y0 : ∀ y, -1 ≤ yv (RA S i 0) (-1) y ∧ yv (RA S i 0) (-1) y ≤ 40000 := fun y => yv_rng (b4 0) (by omega)
  have y1 : ∀ y, -1 ≤ yv (RA S i 1) (-1) y ∧ yv (RA S i 1) (-1) y ≤ 40000 := fun y => yv_rng (b4 1) (by omega)
  have y2 : ∀ y, -1 ≤ yv (RA S i 2) 0 y ∧ yv (RA S i 2) 0 y ≤ 40000 := fun y => yv_rng (b4 2) (by omega)
  have y3 : ∀ y, -1 ≤ yv (RA S i 3) 0 y ∧ yv (RA S i 3) 0 y ≤ 40000 := fun y => yv_rng (b4 3) (by omega)
  have hx : nxt (RF S i) = if RF S i 3 < 19 then RF S i 3 + 1 else -1 := rfl
  refine V_iload_n C dX4_rightValue_0 rfl ?_
  rcases (show w < 0 ∨ 11 < w ∨ w = 0 ∨ w = 1 ∨ w = 2 ∨ w = 3 ∨ w = 4 ∨ w = 5 ∨ w = 6 ∨ w = 7 ∨ w = 8 ∨ w = 9 ∨ w = 10 ∨ w = 11 by omega) with hsw | hsw | hsw | hsw | hsw | hsw | hsw | hsw | hsw | hsw | hsw | hsw | hsw | hsw
  · exact absurd hsw (by omega)
  · refine V_tout C dX4_rightValue_1 (by omega) (by omega) (tgt := 157) (by decide) ?_
    refine V_aload_n C dX4_rightValue_157 rfl ?_
    refine V_get C fg_X4_169 dX4_rightValue_158 (by repeat (first | with_reducible assumption | with_reducible exact mset_self _ _ _ | refine (mset_ne (by omega)).trans ?_)) (by (try simp only [mset_1]); omega) (by rfl) ?_
    exact V_iret C hr dX4_rightValue_161 (K_of hK (by unfold rvT; rw [show w = 12 by omega]; rfl))
  · refine V_tin C (0) dX4_rightValue_1 hsw (by omega) (by decide) (by decide) (off := 63) (by rfl) (tgt := 64) (by decide) ?_
    refine V_aload_n C dX4_rightValue_64 rfl ?_
    refine V_get C fg_X4_158 dX4_rightValue_65 (by repeat (first | with_reducible assumption | with_reducible exact mset_self _ _ _ | refine (mset_ne (by omega)).trans ?_)) (by (try simp only [mset_1]); omega) (by rfl) ?_
    exact V_iret C hr dX4_rightValue_68 (K_of hK (by unfold rvT; subst hsw; rfl))
  · refine V_tin C (1) dX4_rightValue_1 hsw (by omega) (by decide) (by decide) (off := 68) (by rfl) (tgt := 69) (by decide) ?_
    refine V_aload_n C dX4_rightValue_69 rfl ?_
    refine V_get C fg_X4_116 dX4_rightValue_70 (by repeat (first | with_reducible assumption | with_reducible exact mset_self _ _ _ | refine (mset_ne (by omega)).trans ?_)) (by (try simp only [mset_1]); omega) (by rfl) ?_
    refine V_if_eq C dX4_rightValue_73 (tgt := 80) (by decide) (by omega) (fun g73 => ?_) (fun g73 => ?_)
    · refine V_iconst C dX4_rightValue_80 ?_
      exact V_iret C hr dX4_rightValue_81 (K_of hK (by unfold rvT; subst hsw; simp [g73]))
    · refine V_iconst C dX4_rightValue_76 ?_
      refine V_goto C dX4_rightValue_77 (tgt := 81) (by decide) ?_
      exact V_iret C hr dX4_rightValue_81 (K_of hK (by unfold rvT; subst hsw; simp [g73]))
  · refine V_tin C (2) dX4_rightValue_1 hsw (by omega) (by decide) (by decide) (off := 81) (by rfl) (tgt := 82) (by decide) ?_
    refine V_aload_n C dX4_rightValue_82 rfl ?_
    refine V_get C fg_X4_155 dX4_rightValue_83 (by repeat (first | with_reducible assumption | with_reducible exact mset_self _ _ _ | refine (mset_ne (by omega)).trans ?_)) (by (try simp only [mset_1]); omega) (by rfl) ?_
    exact V_iret C hr dX4_rightValue_86 (K_of hK (by unfold rvT; subst hsw; rfl))
  · refine V_tin C (3) dX4_rightValue_1 hsw (by omega) (by decide) (by decide) (off := 86) (by rfl) (tgt := 87) (by decide) ?_
    refine V_aload_n C dX4_rightValue_87 rfl ?_
    refine V_callV (fr := 0) (lo := 0) (mc := 0) (ms := 0) (As := []) C yvX3_nextYear w_241 dX4_rightValue_88 rfl rfl (by repeat (first | with_reducible assumption | with_reducible exact mset_self _ _ _ | refine (mset_ne (by omega)).trans ?_)) (by (try simp only [mset_1]); omega) rfl rfl (Nat.le_of_ble_eq_true rfl) ⟨Nat.le_of_ble_eq_true rfl, Nat.le_of_ble_eq_true rfl⟩ ⟨Nat.le_of_ble_eq_true rfl, Nat.le_of_ble_eq_true rfl⟩ ?_
    refine ok_X3_nextYear hR9 hB8 ?_
    exact V_iret C hr dX4_rightValue_91 (K_of hK (by unfold rvT; subst hsw; rfl))
  · refine V_tin C (4) dX4_rightValue_1 hsw (by omega) (by decide) (by decide) (off := 91) (by rfl) (tgt := 92) (by decide) ?_
    refine V_aload_n C dX4_rightValue_92 rfl ?_
    refine V_aload_n C dX4_rightValue_93 rfl ?_
    refine V_callV (fr := 0) (lo := 0) (mc := 0) (ms := 0) (As := []) C yvX3_nextYear w_241 dX4_rightValue_94 rfl rfl (by repeat (first | with_reducible assumption | with_reducible exact mset_self _ _ _ | refine (mset_ne (by omega)).trans ?_)) (by (try simp only [mset_1]); omega) rfl rfl (Nat.le_of_ble_eq_true rfl) ⟨Nat.le_of_ble_eq_true rfl, Nat.le_of_ble_eq_true rfl⟩ ⟨Nat.le_of_ble_eq_true rfl, Nat.le_of_ble_eq_true rfl⟩ ?_
    refine ok_X3_nextYear hR9 hB8 ?_
    refine V_callV (fr := 0) (lo := 0) (mc := 0) (ms := 0) (As := [_]) C yvX3_dueOf w_254 dX4_rightValue_97 rfl rfl (by repeat (first | with_reducible assumption | with_reducible exact mset_self _ _ _ | refine (mset_ne (by omega)).trans ?_)) (by (try simp only [mset_1]); omega) rfl rfl (Nat.le_of_ble_eq_true rfl) ⟨Nat.le_of_ble_eq_true rfl, Nat.le_of_ble_eq_true rfl⟩ ⟨Nat.le_of_ble_eq_true rfl, Nat.le_of_ble_eq_true rfl⟩ ?_
    refine ok_X3_dueOf hR9 hB8 (by omega) ?_
    exact V_iret C hr dX4_rightValue_100 (K_of hK (by unfold rvT; subst hsw; rfl))
  · refine V_tin C (5) dX4_rightValue_1 hsw (by omega) (by decide) (by decide) (off := 100) (by rfl) (tgt := 101) (by decide) ?_
    refine V_aload_n C dX4_rightValue_101 rfl ?_
    refine V_aload_n C dX4_rightValue_102 rfl ?_
    refine V_callV (fr := 0) (lo := 0) (mc := 0) (ms := 0) (As := []) C yvX3_nextYear w_241 dX4_rightValue_103 rfl rfl (by repeat (first | with_reducible assumption | with_reducible exact mset_self _ _ _ | refine (mset_ne (by omega)).trans ?_)) (by (try simp only [mset_1]); omega) rfl rfl (Nat.le_of_ble_eq_true rfl) ⟨Nat.le_of_ble_eq_true rfl, Nat.le_of_ble_eq_true rfl⟩ ⟨Nat.le_of_ble_eq_true rfl, Nat.le_of_ble_eq_true rfl⟩ ?_
    refine ok_X3_nextYear hR9 hB8 ?_
    refine V_callV (fr := 0) (lo := 0) (mc := 0) (ms := 0) (As := [_]) C yvX3_graceOf w_424 dX4_rightValue_106 rfl rfl (by repeat (first | with_reducible assumption | with_reducible exact mset_self _ _ _ | refine (mset_ne (by omega)).trans ?_)) (by (try simp only [mset_1]); omega) rfl rfl (Nat.le_of_ble_eq_true rfl) ⟨Nat.le_of_ble_eq_true rfl, Nat.le_of_ble_eq_true rfl⟩ ⟨Nat.le_of_ble_eq_true rfl, Nat.le_of_ble_eq_true rfl⟩ ?_
    refine ok_X3_graceOf hR9 hB8 (by omega) ?_
    exact V_iret C hr dX4_rightValue_109 (K_of hK (by unfold rvT; subst hsw; rfl))
  · refine V_tin C (6) dX4_rightValue_1 hsw (by omega) (by decide) (by decide) (off := 109) (by rfl) (tgt := 110) (by decide) ?_
    refine V_aload_n C dX4_rightValue_110 rfl ?_
    refine V_aload_n C dX4_rightValue_111 rfl ?_
    refine V_aload_n C dX4_rightValue_112 rfl ?_
    refine V_callV (fr := 0) (lo := 0) (mc := 0) (ms := 0) (As := []) C yvX3_nextYear w_241 dX4_rightValue_113 rfl rfl (by repeat (first | with_reducible assumption | with_reducible exact mset_self _ _ _ | refine (mset_ne (by omega)).trans ?_)) (by (try simp only [mset_1]); omega) rfl rfl (Nat.le_of_ble_eq_true rfl) ⟨Nat.le_of_ble_eq_true rfl, Nat.le_of_ble_eq_true rfl⟩ ⟨Nat.le_of_ble_eq_true rfl, Nat.le_of_ble_eq_true rfl⟩ ?_
    refine ok_X3_nextYear hR9 hB8 ?_
    refine V_callV (fr := 2) (lo := 45) (mc := 0) (ms := 0) (As := [_, _]) C yvX4_priceToday w_262 dX4_rightValue_116 rfl rfl (by repeat (first | with_reducible assumption | with_reducible exact mset_self _ _ _ | refine (mset_ne (by omega)).trans ?_)) (by (try simp only [mset_1]); omega) rfl rfl (Nat.le_of_ble_eq_true rfl) ⟨Nat.le_of_ble_eq_true rfl, Nat.le_of_ble_eq_true rfl⟩ ⟨Nat.le_of_ble_eq_true rfl, Nat.le_of_ble_eq_true rfl⟩ ?_
    refine ok_X4_priceToday hS9 hB9 hi (by omega) ?_
    exact V_iret C hr dX4_rightValue_119 (K_of hK (by unfold rvT; subst hsw; rfl))
  · refine V_tin C (7) dX4_rightValue_1 hsw (by omega) (by decide) (by decide) (off := 119) (by rfl) (tgt := 120) (by decide) ?_
    refine V_aload_n C dX4_rightValue_120 rfl ?_
    refine V_aload_n C dX4_rightValue_121 rfl ?_
    refine V_get C fg_X4_9 dX4_rightValue_122 (by repeat (first | with_reducible assumption | with_reducible exact mset_self _ _ _ | refine (mset_ne (by omega)).trans ?_)) (by (try simp only [mset_1]); omega) (by rfl) ?_
    refine V_callV (fr := 1) (lo := 21) (mc := 0) (ms := 0) (As := [_]) C yvX3_isLapsed w_245 dX4_rightValue_125 rfl rfl (by repeat (first | with_reducible assumption | with_reducible exact mset_self _ _ _ | refine (mset_ne (by omega)).trans ?_)) (by (try simp only [mset_1]); omega) rfl rfl (Nat.le_of_ble_eq_true rfl) ⟨Nat.le_of_ble_eq_true rfl, Nat.le_of_ble_eq_true rfl⟩ ⟨Nat.le_of_ble_eq_true rfl, Nat.le_of_ble_eq_true rfl⟩ ?_
    refine ok_X3_isLapsed hR9 hB8 (by omega) (fun hl => ?_) (fun hl => ?_)
    · refine V_ifeq1 C dX4_rightValue_128 (tgt := 135) (by decide) ?_
      refine V_iconst C dX4_rightValue_131 ?_
      refine V_goto C dX4_rightValue_132 (tgt := 136) (by decide) ?_
      exact V_iret C hr dX4_rightValue_136 (K_of hK (by unfold rvT; subst hsw; rw [lapB_t hl]; rfl))
    · refine V_ifeq0 C dX4_rightValue_128 (tgt := 135) (by decide) ?_
      refine V_iconst C dX4_rightValue_135 ?_
      exact V_iret C hr dX4_rightValue_136 (K_of hK (by unfold rvT; subst hsw; rw [lapB_f hl]; rfl))
  · refine V_tin C (8) dX4_rightValue_1 hsw (by omega) (by decide) (by decide) (off := 136) (by rfl) (tgt := 137) (by decide) ?_
    refine V_aload_n C dX4_rightValue_137 rfl ?_
    refine V_get C fg_X4_95 dX4_rightValue_138 (by repeat (first | with_reducible assumption | with_reducible exact mset_self _ _ _ | refine (mset_ne (by omega)).trans ?_)) (by (try simp only [mset_1]); omega) (by rfl) ?_
    exact V_iret C hr dX4_rightValue_141 (K_of hK (by unfold rvT; subst hsw; rfl))
  · refine V_tin C (9) dX4_rightValue_1 hsw (by omega) (by decide) (by decide) (off := 141) (by rfl) (tgt := 142) (by decide) ?_
    refine V_aload_n C dX4_rightValue_142 rfl ?_
    refine V_get C fg_X4_160 dX4_rightValue_143 (by repeat (first | with_reducible assumption | with_reducible exact mset_self _ _ _ | refine (mset_ne (by omega)).trans ?_)) (by (try simp only [mset_1]); omega) (by rfl) ?_
    exact V_iret C hr dX4_rightValue_146 (K_of hK (by unfold rvT; subst hsw; rfl))
  · refine V_tin C (10) dX4_rightValue_1 hsw (by omega) (by decide) (by decide) (off := 146) (by rfl) (tgt := 147) (by decide) ?_
    refine V_aload_n C dX4_rightValue_147 rfl ?_
    refine V_callV (fr := 4) (lo := 85) (mc := 0) (ms := 0) (As := []) C yvX3_countUsers w_425 dX4_rightValue_148 rfl rfl (by repeat (first | with_reducible assumption | with_reducible exact mset_self _ _ _ | refine (mset_ne (by omega)).trans ?_)) (by (try simp only [mset_1]); omega) rfl rfl (Nat.le_of_ble_eq_true rfl) ⟨Nat.le_of_ble_eq_true rfl, Nat.le_of_ble_eq_true rfl⟩ ⟨Nat.le_of_ble_eq_true rfl, Nat.le_of_ble_eq_true rfl⟩ ?_
    refine ok_X3_countUsers hR9 hB8 ?_
    exact V_iret C hr dX4_rightValue_151 (K_of hK (by unfold rvT; subst hsw; rfl))
  · refine V_tin C (11) dX4_rightValue_1 hsw (by omega) (by decide) (by decide) (off := 151) (by rfl) (tgt := 152) (by decide) ?_
    refine V_aload_n C dX4_rightValue_152 rfl ?_
    refine V_callV (fr := 3) (lo := 64) (mc := 0) (ms := 0) (As := []) C yvX3_countProtected w_437 dX4_rightValue_153 rfl rfl (by repeat (first | with_reducible assumption | with_reducible exact mset_self _ _ _ | refine (mset_ne (by omega)).trans ?_)) (by (try simp only [mset_1]); omega) rfl rfl (Nat.le_of_ble_eq_true rfl) ⟨Nat.le_of_ble_eq_true rfl, Nat.le_of_ble_eq_true rfl⟩ ⟨Nat.le_of_ble_eq_true rfl, Nat.le_of_ble_eq_true rfl⟩ ?_
    refine ok_X3_countProtected hR9 hB8 ?_
    exact V_iret C hr dX4_rightValue_156 (K_of hK (by unfold rvT; subst hsw; rfl))

set_option maxHeartbeats 400000 in
set_option maxRecDepth 4000 in
theorem ok_X4_costsUpTo {l : Launch} {D : va_G} {cy : Nat → ClassId} {z : Nat} {M : Mm} {K : Option Value → Mm → Prop} {b : Nat} {S : SD} (hS : StateAt cy z M b S) (hB : SB S) {i : Nat} (hi : i < 10) {x9 : Int} (hx9 : 0 ≤ x9 ∧ x9 ≤ 100000) (hK : K (some (iv (cuS S i x9 (20 - (RF S i 3 + 1)).toNat (RF S i 3 + 1)))) M) :
    MT l D cy z false yX4_costsUpTo (wsy yX4_costsUpTo cX4_costsUpTo 5 (some .int)) 3 67 0 0 M [.ref (z + b), .ref (z + (b + 5 + 6 * i)), iv x9] K := by
  refine MT_of (by decide) w_749 (Nat.le_of_ble_eq_true rfl) ?_
  intro p e s m args below meth c C hr hx0
  have hS9 := hS
  have hB9 := hB
  obtain ⟨hn, c0, c1, c2, c3, c4, cR⟩ := hS
  obtain ⟨d0, d1, d2, d4, d5, d6, dH, dR⟩ := hB
  have hR9 := cR i hi
  have hB8 := dR i hi
  have hnr := hR9.1
  have mr := hR9.2.1
  have hB7 := hB8
  obtain ⟨b0, b1, b2, b3, b4⟩ := hB7
  have y0 : ∀ y, -1 ≤ yv (RA S i 0) (-1) y ∧ yv (RA S i 0) (-1) y ≤ 40000 := fun y => yv_rng (b4 0) (by omega)
  have y1 : ∀ y, -1 ≤ yv (RA S i 1) (-1) y ∧ yv (RA S i 1) (-1) y ≤ 40000 := fun y => yv_rng (b4 1) (by omega)
  have y2 : ∀ y, -1 ≤ yv (RA S i 2) 0 y ∧ yv (RA S i 2) 0 y ≤ 40000 := fun y => yv_rng (b4 2) (by omega)
  have y3 : ∀ y, -1 ≤ yv (RA S i 3) 0 y ∧ yv (RA S i 3) 0 y ≤ 40000 := fun y => yv_rng (b4 3) (by omega)
  have hx : nxt (RF S i) = if RF S i 3 < 19 then RF S i 3 + 1 else -1 := rfl
  have loop : ∀ (n : Nat) (c9 y9 : Int), (1 ≤ y9 ∧ y9 ≤ 20) → (c9 + cuS S i x9 (20 - y9).toNat y9 = cuS S i x9 (20 - (RF S i 3 + 1)).toNat (RF S i 3 + 1)) → (20 - y9).toNat < n → V p l e { frames := 3, cells := 0, slots := 0, locals := 67 } s m args below meth c D z 5 (MQ below (qc_ D z K) args s 0 0 (fun q => z ≤ q)) 0 0 M 10 [(0, .ref (z + b)), (1, .ref (z + (b + 5 + 6 * i))), (2, iv x9), (3, iv (c9)), (4, iv (y9))] [] := by
    intro n
    induction n with
    | zero => intro c9 y9 hi0 hi1 hfu; exact absurd hfu (Nat.not_lt_zero _)
    | succ n ih =>
      intro c9 y9 hi0 hi1 hfu
      refine V_iload C dX4_costsUpTo_10 rfl ?_
      refine V_bipush C dX4_costsUpTo_12 (by decide) ?_
      refine V_icmp_gt C dX4_costsUpTo_14 (tgt := 43) (by decide) (by omega) (by omega) (fun g14 => ?_) (fun g14 => ?_)
      · refine V_iload_n C dX4_costsUpTo_43 rfl ?_
        exact V_iret C hr dX4_costsUpTo_44 (K_of hK (by rw [← hi1, show (20 - y9).toNat = 0 by omega]; simp [cuS]))
      · refine V_aload_n C dX4_costsUpTo_17 rfl ?_
        refine V_iload C dX4_costsUpTo_18 rfl ?_
        refine V_callV (fr := 0) (lo := 0) (mc := 0) (ms := 0) (As := [_]) C yvX3_dueOf w_254 dX4_costsUpTo_20 rfl rfl (by repeat (first | with_reducible assumption | with_reducible exact mset_self _ _ _ | refine (mset_ne (by omega)).trans ?_)) (by (try simp only [mset_1]); omega) rfl rfl (Nat.le_of_ble_eq_true rfl) ⟨Nat.le_of_ble_eq_true rfl, Nat.le_of_ble_eq_true rfl⟩ ⟨Nat.le_of_ble_eq_true rfl, Nat.le_of_ble_eq_true rfl⟩ ?_
        refine ok_X3_dueOf hR9 hB8 (by omega) ?_
        refine V_iload_n C dX4_costsUpTo_23 rfl ?_
        have y0e := y0 y9
        refine V_icmp_gt C dX4_costsUpTo_24 (tgt := 43) (by decide) (by omega) (by omega) (fun g24 => ?_) (fun g24 => ?_)
        · refine V_iload_n C dX4_costsUpTo_43 rfl ?_
          exact V_iret C hr dX4_costsUpTo_44 (K_of hK (by rw [← hi1, show (20 - y9).toNat = (19 - y9).toNat + 1 by omega, cuS, if_neg (by omega)]; omega))
        · refine V_iload_n C dX4_costsUpTo_27 rfl ?_
          refine V_aload_n C dX4_costsUpTo_28 rfl ?_
          refine V_aload_n C dX4_costsUpTo_29 rfl ?_
          refine V_iload C dX4_costsUpTo_30 rfl ?_
          refine V_callV (fr := 2) (lo := 45) (mc := 0) (ms := 0) (As := [_, _]) C yvX4_priceToday w_262 dX4_costsUpTo_32 rfl rfl (by repeat (first | with_reducible assumption | with_reducible exact mset_self _ _ _ | refine (mset_ne (by omega)).trans ?_)) (by (try simp only [mset_1]); omega) rfl rfl (Nat.le_of_ble_eq_true rfl) ⟨Nat.le_of_ble_eq_true rfl, Nat.le_of_ble_eq_true rfl⟩ ⟨Nat.le_of_ble_eq_true rfl, Nat.le_of_ble_eq_true rfl⟩ ?_
          refine ok_X4_priceToday hS9 hB9 hi (by omega) ?_
          refine V_iadd C dX4_costsUpTo_35 ?_
          refine V_istore_n C dX4_costsUpTo_36 (by decide) ?_
          refine V_iinc C dX4_costsUpTo_37 rfl (by decide) ?_
          refine V_goto C dX4_costsUpTo_40 (tgt := 10) (by decide) ?_
          refine V_lv [(0, .ref (z + b)), (1, .ref (z + (b + 5 + 6 * i))), (2, iv x9), (3, iv (c9 + priceT S i y9)), (4, iv (y9 + 1))] (List.forall_mem_cons.mpr ⟨(by first | rfl | exact congrArg (fun t => some (iv t)) (by omega)), (List.forall_mem_cons.mpr ⟨(by first | rfl | exact congrArg (fun t => some (iv t)) (by omega)), (List.forall_mem_cons.mpr ⟨(by first | rfl | exact congrArg (fun t => some (iv t)) (by omega)), (List.forall_mem_cons.mpr ⟨(by first | rfl | exact congrArg (fun t => some (iv t)) (by omega)), (List.forall_mem_cons.mpr ⟨(by first | rfl | exact congrArg (fun t => some (iv t)) (by omega)), (fun _ h => nomatch h)⟩)⟩)⟩)⟩)⟩) ?_
          exact ih (c9 + priceT S i y9) (y9 + 1) (by omega) (by rw [← hi1, show (20 - y9).toNat = (20 - (y9 + 1)).toNat + 1 by omega, cuS, if_pos ⟨by omega, by omega⟩]; omega) (by omega)
  refine V_iconst C dX4_costsUpTo_0 ?_
  refine V_istore_n C dX4_costsUpTo_1 (by decide) ?_
  refine V_aload_n C dX4_costsUpTo_2 rfl ?_
  refine V_get C fg_X4_155 dX4_costsUpTo_3 (by repeat (first | with_reducible assumption | with_reducible exact mset_self _ _ _ | refine (mset_ne (by omega)).trans ?_)) (by (try simp only [mset_1]); omega) (by rfl) ?_
  refine V_iconst C dX4_costsUpTo_6 ?_
  refine V_iadd C dX4_costsUpTo_7 ?_
  refine V_istore C dX4_costsUpTo_8 (by decide) ?_
  refine V_lv [(0, .ref (z + b)), (1, .ref (z + (b + 5 + 6 * i))), (2, iv x9), (3, iv (0)), (4, iv (RF S i 3 + 1))] (List.forall_mem_cons.mpr ⟨(by first | rfl | exact congrArg (fun t => some (iv t)) (by omega)), (List.forall_mem_cons.mpr ⟨(by first | rfl | exact congrArg (fun t => some (iv t)) (by omega)), (List.forall_mem_cons.mpr ⟨(by first | rfl | exact congrArg (fun t => some (iv t)) (by omega)), (List.forall_mem_cons.mpr ⟨(by first | rfl | exact congrArg (fun t => some (iv t)) (by omega)), (List.forall_mem_cons.mpr ⟨(by first | rfl | exact congrArg (fun t => some (iv t)) (by omega)), (fun _ h => nomatch h)⟩)⟩)⟩)⟩)⟩) ?_
  exact loop 21 0 (RF S i 3 + 1) (by omega) (by omega) (by omega)

set_option maxHeartbeats 400000 in
set_option maxRecDepth 4000 in
theorem ok_X4_costsWithin {l : Launch} {D : va_G} {cy : Nat → ClassId} {z : Nat} {M : Mm} {K : Option Value → Mm → Prop} {b : Nat} {S : SD} (hS : StateAt cy z M b S) (hB : SB S) {w : Int} (hw : 0 ≤ w ∧ w ≤ 4000) (hK : K (some (iv (cstW S w (sN S)))) M) :
    MT l D cy z false yX4_costsWithin (wsy yX4_costsWithin cX4_costsWithin 4 (some .int)) 4 91 0 0 M [.ref (z + b), iv w] K := by
  refine MT_of (by decide) w_745 (Nat.le_of_ble_eq_true rfl) ?_
  intro p e s m args below meth c C hr hx0
  have hS9 := hS
  have hB9 := hB
  obtain ⟨hn, c0, c1, c2, c3, c4, cR⟩ := hS
  obtain ⟨d0, d1, d2, d4, d5, d6, dH, dR⟩ := hB
  have loop : ∀ (n : Nat) (i : Nat), (i ≤ sN S) → 10 - i < n → V p l e { frames := 4, cells := 0, slots := 0, locals := 91 } s m args below meth c D z 4 (MQ below (qc_ D z K) args s 0 0 (fun q => z ≤ q)) 0 0 M 4 [(0, .ref (z + b)), (1, iv w), (2, iv (cstW S w i)), (3, iv ((i : Int)))] [] := by
    intro n
    induction n with
    | zero => intro i hi0 hfu; exact absurd hfu (Nat.not_lt_zero _)
    | succ n ih =>
      intro i hi0 hfu
      refine V_iload_n C dX4_costsWithin_4 rfl ?_
      refine V_aload_n C dX4_costsWithin_5 rfl ?_
      refine V_get C fg_X4_15 dX4_costsWithin_6 (by repeat (first | with_reducible assumption | with_reducible exact mset_self _ _ _ | refine (mset_ne (by omega)).trans ?_)) (by (try simp only [mset_1]); omega) (by rfl) ?_
      refine V_icmp_ge C dX4_costsWithin_9 (tgt := 62) (by decide) (by omega) (by omega) (fun g9 => ?_) (fun g9 => ?_)
      · refine V_iload_n C dX4_costsWithin_62 rfl ?_
        exact V_iret C hr dX4_costsWithin_63 (K_of hK (by rw [show i = sN S by omega]))
      · have hi : i < 10 := by omega
        have hR9 := cR i hi
        have hB8 := dR i hi
        have hnr := hR9.1
        have mr := hR9.2.1
        have hB7 := hB8
        obtain ⟨b0, b1, b2, b3, b4⟩ := hB7
        refine V_iload_n C dX4_costsWithin_12 rfl ?_
        refine V_aload_n C dX4_costsWithin_13 rfl ?_
        refine V_get C fg_X4_29 dX4_costsWithin_14 (by repeat (first | with_reducible assumption | with_reducible exact mset_self _ _ _ | refine (mset_ne (by omega)).trans ?_)) (by (try simp only [mset_1]); omega) (by rfl) ?_
        refine V_alenQ (t := 3) C rfl dX4_costsWithin_17 (by repeat (first | with_reducible assumption | with_reducible exact mset_self _ _ _ | refine (mset_ne (by omega)).trans ?_)) (by (try simp only [mset_1]); omega) ?_
        refine V_icmp_ge C dX4_costsWithin_18 (tgt := 62) (by decide) (by omega) (by omega) (fun g18 => ?_) (fun g18 => ?_)
        · exact absurd g18 (by omega)
        · refine V_aload_n C dX4_costsWithin_21 rfl ?_
          refine V_get C fg_X4_29 dX4_costsWithin_22 (by repeat (first | with_reducible assumption | with_reducible exact mset_self _ _ _ | refine (mset_ne (by omega)).trans ?_)) (by (try simp only [mset_1]); omega) (by rfl) ?_
          refine V_iload_n C dX4_costsWithin_25 rfl ?_
          refine V_aaload (t := 3) C rfl dX4_costsWithin_26 (by repeat (first | with_reducible assumption | with_reducible exact mset_self _ _ _ | refine (mset_ne (by omega)).trans ?_)) (by (try simp only [mset_1]); omega) (by omega) (by omega) (by rw [Int.toNat_natCast]) ?_
          refine V_aload_n C dX4_costsWithin_27 rfl ?_
          refine V_get C fg_X4_9 dX4_costsWithin_28 (by repeat (first | with_reducible assumption | with_reducible exact mset_self _ _ _ | refine (mset_ne (by omega)).trans ?_)) (by (try simp only [mset_1]); omega) (by rfl) ?_
          refine V_callV (fr := 1) (lo := 21) (mc := 0) (ms := 0) (As := [_]) C yvX3_isLapsed w_245 dX4_costsWithin_31 rfl rfl (by repeat (first | with_reducible assumption | with_reducible exact mset_self _ _ _ | refine (mset_ne (by omega)).trans ?_)) (by (try simp only [mset_1]); omega) rfl rfl (Nat.le_of_ble_eq_true rfl) ⟨Nat.le_of_ble_eq_true rfl, Nat.le_of_ble_eq_true rfl⟩ ⟨Nat.le_of_ble_eq_true rfl, Nat.le_of_ble_eq_true rfl⟩ ?_
          refine ok_X3_isLapsed hR9 hB8 (by omega) (fun hl => ?_) (fun hl => ?_)
          · refine V_ifne1 C dX4_costsWithin_34 (tgt := 56) (by decide) ?_
            refine V_iinc C dX4_costsWithin_56 rfl (by decide) ?_
            refine V_goto C dX4_costsWithin_59 (tgt := 4) (by decide) ?_
            refine V_lv [(0, .ref (z + b)), (1, iv w), (2, iv (cstW S w (i + 1))), (3, iv (((i + 1 : Nat) : Int)))] (List.forall_mem_cons.mpr ⟨(by first | rfl | exact congrArg (fun t => some (iv t)) (by have e8 := cstW_t (S := S) (w := w) (n := i) (lapB_t hl); push_cast; omega)), (List.forall_mem_cons.mpr ⟨(by first | rfl | exact congrArg (fun t => some (iv t)) (by have e8 := cstW_t (S := S) (w := w) (n := i) (lapB_t hl); push_cast; omega)), (List.forall_mem_cons.mpr ⟨(by first | rfl | exact congrArg (fun t => some (iv t)) (by have e8 := cstW_t (S := S) (w := w) (n := i) (lapB_t hl); push_cast; omega)), (List.forall_mem_cons.mpr ⟨(by first | rfl | exact congrArg (fun t => some (iv t)) (by have e8 := cstW_t (S := S) (w := w) (n := i) (lapB_t hl); push_cast; omega)), (fun _ h => nomatch h)⟩)⟩)⟩)⟩) ?_
            exact ih (i + 1) (by omega) (by omega)
          · refine V_ifne0 C dX4_costsWithin_34 (tgt := 56) (by decide) ?_
            refine V_iload_n C dX4_costsWithin_37 rfl ?_
            refine V_aload_n C dX4_costsWithin_38 rfl ?_
            refine V_aload_n C dX4_costsWithin_39 rfl ?_
            refine V_get C fg_X4_29 dX4_costsWithin_40 (by repeat (first | with_reducible assumption | with_reducible exact mset_self _ _ _ | refine (mset_ne (by omega)).trans ?_)) (by (try simp only [mset_1]); omega) (by rfl) ?_
            refine V_iload_n C dX4_costsWithin_43 rfl ?_
            refine V_aaload (t := 3) C rfl dX4_costsWithin_44 (by repeat (first | with_reducible assumption | with_reducible exact mset_self _ _ _ | refine (mset_ne (by omega)).trans ?_)) (by (try simp only [mset_1]); omega) (by omega) (by omega) (by rw [Int.toNat_natCast]) ?_
            refine V_aload_n C dX4_costsWithin_45 rfl ?_
            refine V_get C fg_X4_9 dX4_costsWithin_46 (by repeat (first | with_reducible assumption | with_reducible exact mset_self _ _ _ | refine (mset_ne (by omega)).trans ?_)) (by (try simp only [mset_1]); omega) (by rfl) ?_
            refine V_iload_n C dX4_costsWithin_49 rfl ?_
            refine V_iadd C dX4_costsWithin_50 ?_
            refine V_callV (fr := 3) (lo := 67) (mc := 0) (ms := 0) (As := [_, _]) C yvX4_costsUpTo w_746 dX4_costsWithin_51 rfl rfl (by repeat (first | with_reducible assumption | with_reducible exact mset_self _ _ _ | refine (mset_ne (by omega)).trans ?_)) (by (try simp only [mset_1]); omega) rfl rfl (Nat.le_of_ble_eq_true rfl) ⟨Nat.le_of_ble_eq_true rfl, Nat.le_of_ble_eq_true rfl⟩ ⟨Nat.le_of_ble_eq_true rfl, Nat.le_of_ble_eq_true rfl⟩ ?_
            refine ok_X4_costsUpTo hS9 hB9 hi (by omega) ?_
            refine V_iadd C dX4_costsWithin_54 ?_
            refine V_istore_n C dX4_costsWithin_55 (by decide) ?_
            refine V_iinc C dX4_costsWithin_56 rfl (by decide) ?_
            refine V_goto C dX4_costsWithin_59 (tgt := 4) (by decide) ?_
            refine V_lv [(0, .ref (z + b)), (1, iv w), (2, iv (cstW S w (i + 1))), (3, iv (((i + 1 : Nat) : Int)))] (List.forall_mem_cons.mpr ⟨(by first | rfl | exact congrArg (fun t => some (iv t)) (by have e8 := cstW_f (S := S) (w := w) (n := i) (lapB_f hl); push_cast; omega)), (List.forall_mem_cons.mpr ⟨(by first | rfl | exact congrArg (fun t => some (iv t)) (by have e8 := cstW_f (S := S) (w := w) (n := i) (lapB_f hl); push_cast; omega)), (List.forall_mem_cons.mpr ⟨(by first | rfl | exact congrArg (fun t => some (iv t)) (by have e8 := cstW_f (S := S) (w := w) (n := i) (lapB_f hl); push_cast; omega)), (List.forall_mem_cons.mpr ⟨(by first | rfl | exact congrArg (fun t => some (iv t)) (by have e8 := cstW_f (S := S) (w := w) (n := i) (lapB_f hl); push_cast; omega)), (fun _ h => nomatch h)⟩)⟩)⟩)⟩) ?_
            exact ih (i + 1) (by omega) (by omega)
  refine V_iconst C dX4_costsWithin_0 ?_
  refine V_istore_n C dX4_costsWithin_1 (by decide) ?_
  refine V_iconst C dX4_costsWithin_2 ?_
  refine V_istore_n C dX4_costsWithin_3 (by decide) ?_
  refine V_lv [(0, .ref (z + b)), (1, iv w), (2, iv (cstW S w 0)), (3, iv (((0 : Nat) : Int)))] (List.forall_mem_cons.mpr ⟨(by first | rfl | exact congrArg (fun t => some (iv t)) (by omega)), (List.forall_mem_cons.mpr ⟨(by first | rfl | exact congrArg (fun t => some (iv t)) (by omega)), (List.forall_mem_cons.mpr ⟨(by first | rfl | exact congrArg (fun t => some (iv t)) (by omega)), (List.forall_mem_cons.mpr ⟨(by first | rfl | exact congrArg (fun t => some (iv t)) (by omega)), (fun _ h => nomatch h)⟩)⟩)⟩)⟩) ?_
  exact loop 11 0 (by omega) (by omega)

set_option maxHeartbeats 400000 in
set_option maxRecDepth 4000 in
theorem ok_X4_rightDueFirst {l : Launch} {D : va_G} {cy : Nat → ClassId} {z : Nat} {M : Mm} {K : Option Value → Mm → Prop} {b : Nat} {S : SD} (hS : StateAt cy z M b S) (hB : SB S) (hK : K (some (iv (fdS S (sN S)).1)) M) :
    MT l D cy z false yX4_rightDueFirst (wsy yX4_rightDueFirst cX4_rightDueFirst 5 (some .int)) 2 43 0 0 M [.ref (z + b)] K := by
  refine MT_of (by decide) w_289 (Nat.le_of_ble_eq_true rfl) ?_
  intro p e s m args below meth c C hr hx0
  have hS9 := hS
  have hB9 := hB
  obtain ⟨hn, c0, c1, c2, c3, c4, cR⟩ := hS
  obtain ⟨d0, d1, d2, d4, d5, d6, dH, dR⟩ := hB
  have loop : ∀ (n : Nat) (i : Nat), (i ≤ sN S) → 10 - i < n → V p l e { frames := 2, cells := 0, slots := 0, locals := 43 } s m args below meth c D z 5 (MQ below (qc_ D z K) args s 0 0 (fun q => z ≤ q)) 0 0 M 6 [(0, .ref (z + b)), (1, iv (fdS S (i)).1), (2, iv (fdS S (i)).2), (3, iv ((i : Nat) : Int))] [] := by
    intro n
    induction n with
    | zero => intro i hi0 hfu; exact absurd hfu (Nat.not_lt_zero _)
    | succ n ih =>
      intro i hi0 hfu
      refine V_iload_n C dX4_rightDueFirst_6 rfl ?_
      refine V_aload_n C dX4_rightDueFirst_7 rfl ?_
      refine V_get C fg_X4_15 dX4_rightDueFirst_8 (by repeat (first | with_reducible assumption | with_reducible exact mset_self _ _ _ | refine (mset_ne (by omega)).trans ?_)) (by (try simp only [mset_1]); omega) (by rfl) ?_
      refine V_icmp_ge C dX4_rightDueFirst_11 (tgt := 96) (by decide) (by omega) (by omega) (fun g11 => ?_) (fun g11 => ?_)
      · refine V_iload_n C dX4_rightDueFirst_96 rfl ?_
        exact V_iret C hr dX4_rightDueFirst_97 (K_of hK (by rw [show i = sN S by omega]))
      · have hi : i < 10 := by omega
        have hR9 := cR i hi
        have hB8 := dR i hi
        have hnr := hR9.1
        have mr := hR9.2.1
        have hB7 := hB8
        obtain ⟨b0, b1, b2, b3, b4⟩ := hB7
        have y0 : ∀ y, -1 ≤ yv (RA S i 0) (-1) y ∧ yv (RA S i 0) (-1) y ≤ 40000 := fun y => yv_rng (b4 0) (by omega)
        have y1 : ∀ y, -1 ≤ yv (RA S i 1) (-1) y ∧ yv (RA S i 1) (-1) y ≤ 40000 := fun y => yv_rng (b4 1) (by omega)
        have y2 : ∀ y, -1 ≤ yv (RA S i 2) 0 y ∧ yv (RA S i 2) 0 y ≤ 40000 := fun y => yv_rng (b4 2) (by omega)
        have y3 : ∀ y, -1 ≤ yv (RA S i 3) 0 y ∧ yv (RA S i 3) 0 y ≤ 40000 := fun y => yv_rng (b4 3) (by omega)
        have hx : nxt (RF S i) = if RF S i 3 < 19 then RF S i 3 + 1 else -1 := rfl
        have hfr := fdS_rng hB9 i (by omega)
        refine V_iload_n C dX4_rightDueFirst_14 rfl ?_
        refine V_aload_n C dX4_rightDueFirst_15 rfl ?_
        refine V_get C fg_X4_29 dX4_rightDueFirst_16 (by repeat (first | with_reducible assumption | with_reducible exact mset_self _ _ _ | refine (mset_ne (by omega)).trans ?_)) (by (try simp only [mset_1]); omega) (by rfl) ?_
        refine V_alenQ (t := 3) C rfl dX4_rightDueFirst_19 (by repeat (first | with_reducible assumption | with_reducible exact mset_self _ _ _ | refine (mset_ne (by omega)).trans ?_)) (by (try simp only [mset_1]); omega) ?_
        refine V_icmp_ge C dX4_rightDueFirst_20 (tgt := 96) (by decide) (by omega) (by omega) (fun g20 => ?_) (fun g20 => ?_)
        · exact absurd g20 (by omega)
        · refine V_aload_n C dX4_rightDueFirst_23 rfl ?_
          refine V_get C fg_X4_29 dX4_rightDueFirst_24 (by repeat (first | with_reducible assumption | with_reducible exact mset_self _ _ _ | refine (mset_ne (by omega)).trans ?_)) (by (try simp only [mset_1]); omega) (by rfl) ?_
          refine V_iload_n C dX4_rightDueFirst_27 rfl ?_
          refine V_aaload (t := 3) C rfl dX4_rightDueFirst_28 (by repeat (first | with_reducible assumption | with_reducible exact mset_self _ _ _ | refine (mset_ne (by omega)).trans ?_)) (by (try simp only [mset_1]); omega) (by omega) (by omega) (by rw [Int.toNat_natCast]) ?_
          refine V_callV (fr := 0) (lo := 0) (mc := 0) (ms := 0) (As := []) C yvX3_nextYear w_241 dX4_rightDueFirst_29 rfl rfl (by repeat (first | with_reducible assumption | with_reducible exact mset_self _ _ _ | refine (mset_ne (by omega)).trans ?_)) (by (try simp only [mset_1]); omega) rfl rfl (Nat.le_of_ble_eq_true rfl) ⟨Nat.le_of_ble_eq_true rfl, Nat.le_of_ble_eq_true rfl⟩ ⟨Nat.le_of_ble_eq_true rfl, Nat.le_of_ble_eq_true rfl⟩ ?_
          refine ok_X3_nextYear hR9 hB8 ?_
          refine V_istore C dX4_rightDueFirst_32 (by decide) ?_
          refine V_iload C dX4_rightDueFirst_34 rfl ?_
          refine V_iconst C dX4_rightDueFirst_36 ?_
          refine V_icmp_eq C dX4_rightDueFirst_37 (tgt := 90) (by decide) (by omega) (by omega) (fun g37 => ?_) (fun g37 => ?_)
          · refine V_iinc C dX4_rightDueFirst_90 rfl (by decide) ?_
            refine V_goto C dX4_rightDueFirst_93 (tgt := 6) (by decide) ?_
            refine V_lv [(0, .ref (z + b)), (1, iv (fdS S (i + 1)).1), (2, iv (fdS S (i + 1)).2), (3, iv ((i + 1 : Nat) : Int))] (List.forall_mem_cons.mpr ⟨(by first | rfl | exact congrArg (fun t => some (iv t)) (by rw [fdS_f (S := S) (n := i) (fun o => by have o1 := o.1; omega)])), (List.forall_mem_cons.mpr ⟨(by first | rfl | exact congrArg (fun t => some (iv t)) (by rw [fdS_f (S := S) (n := i) (fun o => by have o1 := o.1; omega)])), (List.forall_mem_cons.mpr ⟨(by first | rfl | exact congrArg (fun t => some (iv t)) (by rw [fdS_f (S := S) (n := i) (fun o => by have o1 := o.1; omega)])), (List.forall_mem_cons.mpr ⟨(by first | rfl | exact congrArg (fun t => some (iv t)) (by rw [fdS_f (S := S) (n := i) (fun o => by have o1 := o.1; omega)])), (fun _ h => nomatch h)⟩)⟩)⟩)⟩) ?_
            exact ih (i + 1) (by omega) (by omega)
          · have e9 : nxt (RF S i) = RF S i 3 + 1 := by omega
            refine V_aload_n C dX4_rightDueFirst_40 rfl ?_
            refine V_get C fg_X4_29 dX4_rightDueFirst_41 (by repeat (first | with_reducible assumption | with_reducible exact mset_self _ _ _ | refine (mset_ne (by omega)).trans ?_)) (by (try simp only [mset_1]); omega) (by rfl) ?_
            refine V_iload_n C dX4_rightDueFirst_44 rfl ?_
            refine V_aaload (t := 3) C rfl dX4_rightDueFirst_45 (by repeat (first | with_reducible assumption | with_reducible exact mset_self _ _ _ | refine (mset_ne (by omega)).trans ?_)) (by (try simp only [mset_1]); omega) (by omega) (by omega) (by rw [Int.toNat_natCast]) ?_
            refine V_aload_n C dX4_rightDueFirst_46 rfl ?_
            refine V_get C fg_X4_9 dX4_rightDueFirst_47 (by repeat (first | with_reducible assumption | with_reducible exact mset_self _ _ _ | refine (mset_ne (by omega)).trans ?_)) (by (try simp only [mset_1]); omega) (by rfl) ?_
            refine V_callV (fr := 1) (lo := 21) (mc := 0) (ms := 0) (As := [_]) C yvX3_isLapsed w_245 dX4_rightDueFirst_50 rfl rfl (by repeat (first | with_reducible assumption | with_reducible exact mset_self _ _ _ | refine (mset_ne (by omega)).trans ?_)) (by (try simp only [mset_1]); omega) rfl rfl (Nat.le_of_ble_eq_true rfl) ⟨Nat.le_of_ble_eq_true rfl, Nat.le_of_ble_eq_true rfl⟩ ⟨Nat.le_of_ble_eq_true rfl, Nat.le_of_ble_eq_true rfl⟩ ?_
            refine ok_X3_isLapsed hR9 hB8 (by omega) (fun hl => ?_) (fun hl => ?_)
            · refine V_ifne1 C dX4_rightDueFirst_53 (tgt := 90) (by decide) ?_
              refine V_iinc C dX4_rightDueFirst_90 rfl (by decide) ?_
              refine V_goto C dX4_rightDueFirst_93 (tgt := 6) (by decide) ?_
              refine V_lv [(0, .ref (z + b)), (1, iv (fdS S (i + 1)).1), (2, iv (fdS S (i + 1)).2), (3, iv ((i + 1 : Nat) : Int))] (List.forall_mem_cons.mpr ⟨(by first | rfl | exact congrArg (fun t => some (iv t)) (by rw [fdS_f (S := S) (n := i) (fun o => by have o1 := o.2.1; rw [lapB_t hl] at o1; cases o1)])), (List.forall_mem_cons.mpr ⟨(by first | rfl | exact congrArg (fun t => some (iv t)) (by rw [fdS_f (S := S) (n := i) (fun o => by have o1 := o.2.1; rw [lapB_t hl] at o1; cases o1)])), (List.forall_mem_cons.mpr ⟨(by first | rfl | exact congrArg (fun t => some (iv t)) (by rw [fdS_f (S := S) (n := i) (fun o => by have o1 := o.2.1; rw [lapB_t hl] at o1; cases o1)])), (List.forall_mem_cons.mpr ⟨(by first | rfl | exact congrArg (fun t => some (iv t)) (by rw [fdS_f (S := S) (n := i) (fun o => by have o1 := o.2.1; rw [lapB_t hl] at o1; cases o1)])), (fun _ h => nomatch h)⟩)⟩)⟩)⟩) ?_
              exact ih (i + 1) (by omega) (by omega)
            · refine V_ifne0 C dX4_rightDueFirst_53 (tgt := 90) (by decide) ?_
              refine V_iload_n C dX4_rightDueFirst_56 rfl ?_
              refine V_iconst C dX4_rightDueFirst_57 ?_
              refine V_icmp_eq C dX4_rightDueFirst_58 (tgt := 76) (by decide) (by omega) (by omega) (fun g58 => ?_) (fun g58 => ?_)
              · refine V_iload_n C dX4_rightDueFirst_76 rfl ?_
                refine V_istore_n C dX4_rightDueFirst_77 (by decide) ?_
                refine V_aload_n C dX4_rightDueFirst_78 rfl ?_
                refine V_get C fg_X4_29 dX4_rightDueFirst_79 (by repeat (first | with_reducible assumption | with_reducible exact mset_self _ _ _ | refine (mset_ne (by omega)).trans ?_)) (by (try simp only [mset_1]); omega) (by rfl) ?_
                refine V_iload_n C dX4_rightDueFirst_82 rfl ?_
                refine V_aaload (t := 3) C rfl dX4_rightDueFirst_83 (by repeat (first | with_reducible assumption | with_reducible exact mset_self _ _ _ | refine (mset_ne (by omega)).trans ?_)) (by (try simp only [mset_1]); omega) (by omega) (by omega) (by rw [Int.toNat_natCast]) ?_
                refine V_iload C dX4_rightDueFirst_84 rfl ?_
                try rw [e9]
                refine V_callV (fr := 0) (lo := 0) (mc := 0) (ms := 0) (As := [_]) C yvX3_dueOf w_254 dX4_rightDueFirst_86 rfl rfl (by repeat (first | with_reducible assumption | with_reducible exact mset_self _ _ _ | refine (mset_ne (by omega)).trans ?_)) (by (try simp only [mset_1]); omega) rfl rfl (Nat.le_of_ble_eq_true rfl) ⟨Nat.le_of_ble_eq_true rfl, Nat.le_of_ble_eq_true rfl⟩ ⟨Nat.le_of_ble_eq_true rfl, Nat.le_of_ble_eq_true rfl⟩ ?_
                refine ok_X3_dueOf hR9 hB8 (by omega) ?_
                refine V_istore_n C dX4_rightDueFirst_89 (by decide) ?_
                refine V_iinc C dX4_rightDueFirst_90 rfl (by decide) ?_
                refine V_goto C dX4_rightDueFirst_93 (tgt := 6) (by decide) ?_
                refine V_lv [(0, .ref (z + b)), (1, iv (fdS S (i + 1)).1), (2, iv (fdS S (i + 1)).2), (3, iv ((i + 1 : Nat) : Int))] (List.forall_mem_cons.mpr ⟨(by first | rfl | exact congrArg (fun t => some (iv t)) (by rw [(fdS_t (S := S) (n := i) ⟨by omega, lapB_f hl, by omega⟩)])), (List.forall_mem_cons.mpr ⟨(by first | rfl | exact congrArg (fun t => some (iv t)) (by rw [(fdS_t (S := S) (n := i) ⟨by omega, lapB_f hl, by omega⟩)])), (List.forall_mem_cons.mpr ⟨(by first | rfl | exact congrArg (fun t => some (iv t)) (by rw [(fdS_t (S := S) (n := i) ⟨by omega, lapB_f hl, by omega⟩)])), (List.forall_mem_cons.mpr ⟨(by first | rfl | exact congrArg (fun t => some (iv t)) (by rw [(fdS_t (S := S) (n := i) ⟨by omega, lapB_f hl, by omega⟩)])), (fun _ h => nomatch h)⟩)⟩)⟩)⟩) ?_
                exact ih (i + 1) (by omega) (by omega)
              · refine V_aload_n C dX4_rightDueFirst_61 rfl ?_
                refine V_get C fg_X4_29 dX4_rightDueFirst_62 (by repeat (first | with_reducible assumption | with_reducible exact mset_self _ _ _ | refine (mset_ne (by omega)).trans ?_)) (by (try simp only [mset_1]); omega) (by rfl) ?_
                refine V_iload_n C dX4_rightDueFirst_65 rfl ?_
                refine V_aaload (t := 3) C rfl dX4_rightDueFirst_66 (by repeat (first | with_reducible assumption | with_reducible exact mset_self _ _ _ | refine (mset_ne (by omega)).trans ?_)) (by (try simp only [mset_1]); omega) (by omega) (by omega) (by rw [Int.toNat_natCast]) ?_
                refine V_iload C dX4_rightDueFirst_67 rfl ?_
                rw [e9]
                refine V_callV (fr := 0) (lo := 0) (mc := 0) (ms := 0) (As := [_]) C yvX3_dueOf w_254 dX4_rightDueFirst_69 rfl rfl (by repeat (first | with_reducible assumption | with_reducible exact mset_self _ _ _ | refine (mset_ne (by omega)).trans ?_)) (by (try simp only [mset_1]); omega) rfl rfl (Nat.le_of_ble_eq_true rfl) ⟨Nat.le_of_ble_eq_true rfl, Nat.le_of_ble_eq_true rfl⟩ ⟨Nat.le_of_ble_eq_true rfl, Nat.le_of_ble_eq_true rfl⟩ ?_
                refine ok_X3_dueOf hR9 hB8 (by omega) ?_
                refine V_iload_n C dX4_rightDueFirst_72 rfl ?_
                have y0e := y0 (RF S i 3 + 1)
                refine V_icmp_ge C dX4_rightDueFirst_73 (tgt := 90) (by decide) (by omega) (by omega) (fun g73 => ?_) (fun g73 => ?_)
                · refine V_iinc C dX4_rightDueFirst_90 rfl (by decide) ?_
                  refine V_goto C dX4_rightDueFirst_93 (tgt := 6) (by decide) ?_
                  refine V_lv [(0, .ref (z + b)), (1, iv (fdS S (i + 1)).1), (2, iv (fdS S (i + 1)).2), (3, iv ((i + 1 : Nat) : Int))] (List.forall_mem_cons.mpr ⟨(by first | rfl | exact congrArg (fun t => some (iv t)) (by rw [fdS_f (S := S) (n := i) (fun o => by have o1 := o.2.2; omega)])), (List.forall_mem_cons.mpr ⟨(by first | rfl | exact congrArg (fun t => some (iv t)) (by rw [fdS_f (S := S) (n := i) (fun o => by have o1 := o.2.2; omega)])), (List.forall_mem_cons.mpr ⟨(by first | rfl | exact congrArg (fun t => some (iv t)) (by rw [fdS_f (S := S) (n := i) (fun o => by have o1 := o.2.2; omega)])), (List.forall_mem_cons.mpr ⟨(by first | rfl | exact congrArg (fun t => some (iv t)) (by rw [fdS_f (S := S) (n := i) (fun o => by have o1 := o.2.2; omega)])), (fun _ h => nomatch h)⟩)⟩)⟩)⟩) ?_
                  exact ih (i + 1) (by omega) (by omega)
                · refine V_iload_n C dX4_rightDueFirst_76 rfl ?_
                  refine V_istore_n C dX4_rightDueFirst_77 (by decide) ?_
                  refine V_aload_n C dX4_rightDueFirst_78 rfl ?_
                  refine V_get C fg_X4_29 dX4_rightDueFirst_79 (by repeat (first | with_reducible assumption | with_reducible exact mset_self _ _ _ | refine (mset_ne (by omega)).trans ?_)) (by (try simp only [mset_1]); omega) (by rfl) ?_
                  refine V_iload_n C dX4_rightDueFirst_82 rfl ?_
                  refine V_aaload (t := 3) C rfl dX4_rightDueFirst_83 (by repeat (first | with_reducible assumption | with_reducible exact mset_self _ _ _ | refine (mset_ne (by omega)).trans ?_)) (by (try simp only [mset_1]); omega) (by omega) (by omega) (by rw [Int.toNat_natCast]) ?_
                  refine V_iload C dX4_rightDueFirst_84 rfl ?_
                  try rw [e9]
                  refine V_callV (fr := 0) (lo := 0) (mc := 0) (ms := 0) (As := [_]) C yvX3_dueOf w_254 dX4_rightDueFirst_86 rfl rfl (by repeat (first | with_reducible assumption | with_reducible exact mset_self _ _ _ | refine (mset_ne (by omega)).trans ?_)) (by (try simp only [mset_1]); omega) rfl rfl (Nat.le_of_ble_eq_true rfl) ⟨Nat.le_of_ble_eq_true rfl, Nat.le_of_ble_eq_true rfl⟩ ⟨Nat.le_of_ble_eq_true rfl, Nat.le_of_ble_eq_true rfl⟩ ?_
                  refine ok_X3_dueOf hR9 hB8 (by omega) ?_
                  refine V_istore_n C dX4_rightDueFirst_89 (by decide) ?_
                  refine V_iinc C dX4_rightDueFirst_90 rfl (by decide) ?_
                  refine V_goto C dX4_rightDueFirst_93 (tgt := 6) (by decide) ?_
                  refine V_lv [(0, .ref (z + b)), (1, iv (fdS S (i + 1)).1), (2, iv (fdS S (i + 1)).2), (3, iv ((i + 1 : Nat) : Int))] (List.forall_mem_cons.mpr ⟨(by first | rfl | exact congrArg (fun t => some (iv t)) (by rw [(fdS_t (S := S) (n := i) ⟨by omega, lapB_f hl, by omega⟩)])), (List.forall_mem_cons.mpr ⟨(by first | rfl | exact congrArg (fun t => some (iv t)) (by rw [(fdS_t (S := S) (n := i) ⟨by omega, lapB_f hl, by omega⟩)])), (List.forall_mem_cons.mpr ⟨(by first | rfl | exact congrArg (fun t => some (iv t)) (by rw [(fdS_t (S := S) (n := i) ⟨by omega, lapB_f hl, by omega⟩)])), (List.forall_mem_cons.mpr ⟨(by first | rfl | exact congrArg (fun t => some (iv t)) (by rw [(fdS_t (S := S) (n := i) ⟨by omega, lapB_f hl, by omega⟩)])), (fun _ h => nomatch h)⟩)⟩)⟩)⟩) ?_
                  exact ih (i + 1) (by omega) (by omega)
  refine V_iconst C dX4_rightDueFirst_0 ?_
  refine V_istore_n C dX4_rightDueFirst_1 (by decide) ?_
  refine V_iconst C dX4_rightDueFirst_2 ?_
  refine V_istore_n C dX4_rightDueFirst_3 (by decide) ?_
  refine V_iconst C dX4_rightDueFirst_4 ?_
  refine V_istore_n C dX4_rightDueFirst_5 (by decide) ?_
  refine V_lv [(0, .ref (z + b)), (1, iv (fdS S (0)).1), (2, iv (fdS S (0)).2), (3, iv ((0 : Nat) : Int))] (List.forall_mem_cons.mpr ⟨(by first | rfl | exact congrArg (fun t => some (iv t)) (by omega)), (List.forall_mem_cons.mpr ⟨(by first | rfl | exact congrArg (fun t => some (iv t)) (by omega)), (List.forall_mem_cons.mpr ⟨(by first | rfl | exact congrArg (fun t => some (iv t)) (by omega)), (List.forall_mem_cons.mpr ⟨(by first | rfl | exact congrArg (fun t => some (iv t)) (by omega)), (fun _ h => nomatch h)⟩)⟩)⟩)⟩) ?_
  exact loop 11 0 (by omega) (by omega)

