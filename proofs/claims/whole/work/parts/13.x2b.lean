theorem V_memgen {p : Program} {l : Launch} {e : Env} {R : Room} {s : State} {m : MethodId} {args : Array Value} {below : List Frame} {meth : Method} {c : Code} {D : va_G} {z nL : Nat} {Q : State → Prop} {cells slots : Nat} {M : Mm} {pc : Nat} {lv : List (Nat × Value)} {st : List Value} (k : ∀ M', M' = M → V p l e R s m args below meth c D z nL Q cells slots M' pc lv st) : V p l e R s m args below meth c D z nL Q cells slots M pc lv st := k M rfl
theorem wf_stop {H : Int → Bool} {n : Nat} {d : Int} (h : work H d = true) : wf H n d = d := by
  cases n with
  | zero => rfl
  | succ n => unfold wf; rw [if_pos h]
theorem wf_go {H : Int → Bool} {n : Nat} {d : Int} (h : work H d = false) : wf H (n + 1) d = wf H n (d + 1) := by
  show (if work H d = true then d else wf H n (d + 1)) = _
  rw [h]; rfl
theorem work_t {H : Int → Bool} {d : Int} (h : d % 7 < 5) (h2 : H (date d % 10000) = false) : work H d = true := by simp [work, h, h2]
theorem work_f {H : Int → Bool} {d : Int} (h : 5 ≤ d % 7) : work H d = false := by
  have : ¬ d % 7 < 5 := by omega
  simp [work, this]
theorem work_g {H : Int → Bool} {d : Int} (h2 : H (date d % 10000) = true) : work H d = false := by simp [work, h2]
def dS (F : Nat → Int) (a : Nat → Nat → Int) (t : Int) : Int := (sdY F a (F 3).toNat).1 + (if 0 < (if F 3 < 19 ∧ yv (a 1) (-1) (F 3 + 1) < t then (if yv (a 0) (-1) (F 3 + 1) < (if F 1 < t then F 1 else t) then yv (a 0) (-1) (F 3 + 1) else (if F 1 < t then F 1 else t)) else (if F 1 < t then F 1 else t)) + 1 - (sdY F a (F 3).toNat).2 then (if F 3 < 19 ∧ yv (a 1) (-1) (F 3 + 1) < t then (if yv (a 0) (-1) (F 3 + 1) < (if F 1 < t then F 1 else t) then yv (a 0) (-1) (F 3 + 1) else (if F 1 < t then F 1 else t)) else (if F 1 < t then F 1 else t)) + 1 - (sdY F a (F 3).toNat).2 else 0)
theorem sdY_rng {F : Nat → Int} {a : Nat → Nat → Int} (hB : RB F a) : ∀ n : Nat, 0 ≤ (sdY F a n).1 ∧ (sdY F a n).1 ≤ 50000 * n ∧ -1 ≤ (sdY F a n).2 ∧ (sdY F a n).2 ≤ 40000
  | 0 => by have := hB.1; simp only [sdY]; omega
  | n + 1 => by
    have h := sdY_rng hB n
    have h1 := hB.2.2.2.2 0 (n + 1)
    have h2 := hB.2.2.2.2 3 (n + 1)
    unfold sdY
    split
    · dsimp only
      split <;> omega
    · omega
theorem nxt_lap {F : Nat → Int} (h : F 3 < 19) : nxt F = F 3 + 1 := by unfold nxt; rw [if_pos h]
set_option maxHeartbeats 400000 in
set_option maxRecDepth 4000 in
theorem ok_X2_canToggle {l : Launch} {D : va_G} {cy : Nat → ClassId} {z : Nat} {M : Mm} {K : Option Value → Mm → Prop} {k q : Nat} {h : Nat → Int} (hH : HolAt cy z M k q h) (hq : q ≤ 6) (hv : ∀ i, -1 ≤ h i ∧ h i ≤ 40000) {v : Int} (hv9 : -2147483648 ≤ v ∧ v < 2147483648) (hT : (q < 6 ∨ hset h q v = true) → K (some (iv 1)) M) (hF : ¬ (q < 6 ∨ hset h q v = true) → K (some (iv 0)) M) :
    MT l D cy z false yX2_canToggle (wsy yX2_canToggle cX2_canToggle 2 (some .boolean)) 1 22 0 0 M [.ref (z + k), iv v] K := by
  refine MT_of (by decide) w_560 (Nat.le_of_ble_eq_true rfl) ?_
  intro p e s m args below meth c C hr hx0
  obtain ⟨hn, m0, m1⟩ := hH
  refine V_aload_n C dX2_canToggle_0 rfl ?_
  refine V_get C fg_X2_15 dX2_canToggle_1 (by first | assumption | exact mset_self _ _ _ | (refine (mset_ne (by omega)).trans ?_; first | assumption | exact mset_self _ _ _ | (refine (mset_ne (by omega)).trans ?_; first | assumption | exact mset_self _ _ _ | (refine (mset_ne (by omega)).trans ?_; first | assumption | exact mset_self _ _ _)))) (by (try simp only [mset_1]); omega) (by rfl) ?_
  refine V_aload_n C dX2_canToggle_4 rfl ?_
  refine V_get C fg_X2_9 dX2_canToggle_5 (by first | assumption | exact mset_self _ _ _ | (refine (mset_ne (by omega)).trans ?_; first | assumption | exact mset_self _ _ _ | (refine (mset_ne (by omega)).trans ?_; first | assumption | exact mset_self _ _ _ | (refine (mset_ne (by omega)).trans ?_; first | assumption | exact mset_self _ _ _)))) (by (try simp only [mset_1]); omega) (by rfl) ?_
  refine V_alenI C dX2_canToggle_8 (by first | assumption | exact mset_self _ _ _ | (refine (mset_ne (by omega)).trans ?_; first | assumption | exact mset_self _ _ _ | (refine (mset_ne (by omega)).trans ?_; first | assumption | exact mset_self _ _ _ | (refine (mset_ne (by omega)).trans ?_; first | assumption | exact mset_self _ _ _)))) (by (try simp only [mset_1]); omega) ?_
  refine V_icmp_lt C dX2_canToggle_9 (tgt := 21) (by decide) (by omega) (by omega) (fun g9 => ?_) (fun g9 => ?_)
  · refine V_iconst C dX2_canToggle_21 ?_
    refine V_goto C dX2_canToggle_22 (tgt := 26) (by decide) ?_
    exact V_zret C hr (by omega) dX2_canToggle_26 (hT (Or.inl (by omega)))
  · refine V_aload_n C dX2_canToggle_12 rfl ?_
    refine V_iload_n C dX2_canToggle_13 rfl ?_
    refine V_callV (fr := 0) (lo := 0) (mc := 0) (ms := 0) (As := [_]) C yvX2_find w_370 dX2_canToggle_14 rfl rfl (by first | assumption | exact mset_self _ _ _ | (refine (mset_ne (by omega)).trans ?_; first | assumption | exact mset_self _ _ _ | (refine (mset_ne (by omega)).trans ?_; first | assumption | exact mset_self _ _ _ | (refine (mset_ne (by omega)).trans ?_; first | assumption | exact mset_self _ _ _)))) (by (try simp only [mset_1]); omega) rfl rfl (Nat.le_of_ble_eq_true rfl) ⟨Nat.le_of_ble_eq_true rfl, Nat.le_of_ble_eq_true rfl⟩ ⟨Nat.le_of_ble_eq_true rfl, Nat.le_of_ble_eq_true rfl⟩ ?_
    refine ok_X2_find ⟨hn, m0, m1⟩ hq hv (by omega) (fun i hi hiv hmin => ?_) (fun hno => ?_)
    · refine V_iconst C dX2_canToggle_17 ?_
      refine V_icmp_eq C dX2_canToggle_18 (tgt := 25) (by decide) (by omega) (by omega) (fun g18 => ?_) (fun g18 => ?_)
      · exact absurd g18 (by omega)
      · refine V_iconst C dX2_canToggle_21 ?_
        refine V_goto C dX2_canToggle_22 (tgt := 26) (by decide) ?_
        exact V_zret C hr (by omega) dX2_canToggle_26 (hT (Or.inr (hset_iff.mpr ⟨i, hi, hiv⟩)))
    · refine V_iconst C dX2_canToggle_17 ?_
      refine V_icmp_eq C dX2_canToggle_18 (tgt := 25) (by decide) (by omega) (by omega) (fun g18 => ?_) (fun g18 => ?_)
      · refine V_iconst C dX2_canToggle_25 ?_
        exact V_zret C hr (by omega) dX2_canToggle_26 (hF (fun o => o.elim (fun o => by omega) (fun o => by obtain ⟨j, h1, h2⟩ := hset_iff.mp o; exact hno j h1 h2)))
      · exact absurd rfl g18

set_option maxHeartbeats 400000 in
set_option maxRecDepth 4000 in
theorem ok_X2_remove {l : Launch} {D : va_G} {cy : Nat → ClassId} {z : Nat} {M : Mm} {K : Option Value → Mm → Prop} {k q : Nat} {h : Nat → Int} (hH : HolAt cy z M k q h) (hq : q ≤ 6) (hv : ∀ i, -1 ≤ h i ∧ h i ≤ 40000) {i : Nat} (hi : i < q) (hK : ∀ M', Sm M M' (fun j => j = k ∨ j = k + 1) → HolAt cy z M' k (q - 1) (va_up h i (h (q - 1))) → K none M') :
    MT l D cy z false yX2_remove (wsy yX2_remove cX2_remove 3 none) 0 0 0 0 M [.ref (z + k), iv i] K := by
  refine MT_of (by decide) w_587 (Nat.le_of_ble_eq_true rfl) ?_
  intro p e s m args below meth c C hr hx0
  obtain ⟨hn, m0, m1⟩ := hH
  refine V_aload_n C dX2_remove_0 rfl ?_
  refine V_get C fg_X2_15 dX2_remove_1 (by first | assumption | exact mset_self _ _ _ | (refine (mset_ne (by omega)).trans ?_; first | assumption | exact mset_self _ _ _ | (refine (mset_ne (by omega)).trans ?_; first | assumption | exact mset_self _ _ _ | (refine (mset_ne (by omega)).trans ?_; first | assumption | exact mset_self _ _ _)))) (by (try simp only [mset_1]); omega) (by rfl) ?_
  refine V_iconst C dX2_remove_4 ?_
  refine V_isub C dX2_remove_5 ?_
  refine V_istore_n C dX2_remove_6 (by decide) ?_
  refine V_iload_n C dX2_remove_7 rfl ?_
  refine V_if_lt C dX2_remove_8 (tgt := 42) (by decide) (by omega) (fun g8 => ?_) (fun g8 => ?_)
  · exact absurd g8 (by omega)
  · refine V_iload_n C dX2_remove_11 rfl ?_
    refine V_iload_n C dX2_remove_12 rfl ?_
    refine V_icmp_gt C dX2_remove_13 (tgt := 42) (by decide) (by omega) (by omega) (fun g13 => ?_) (fun g13 => ?_)
    · exact absurd g13 (by omega)
    · refine V_iload_n C dX2_remove_16 rfl ?_
      refine V_aload_n C dX2_remove_17 rfl ?_
      refine V_get C fg_X2_9 dX2_remove_18 (by first | assumption | exact mset_self _ _ _ | (refine (mset_ne (by omega)).trans ?_; first | assumption | exact mset_self _ _ _ | (refine (mset_ne (by omega)).trans ?_; first | assumption | exact mset_self _ _ _ | (refine (mset_ne (by omega)).trans ?_; first | assumption | exact mset_self _ _ _)))) (by (try simp only [mset_1]); omega) (by rfl) ?_
      refine V_alenI C dX2_remove_21 (by first | assumption | exact mset_self _ _ _ | (refine (mset_ne (by omega)).trans ?_; first | assumption | exact mset_self _ _ _ | (refine (mset_ne (by omega)).trans ?_; first | assumption | exact mset_self _ _ _ | (refine (mset_ne (by omega)).trans ?_; first | assumption | exact mset_self _ _ _)))) (by (try simp only [mset_1]); omega) ?_
      refine V_icmp_ge C dX2_remove_22 (tgt := 42) (by decide) (by omega) (by omega) (fun g22 => ?_) (fun g22 => ?_)
      · exact absurd g22 (by omega)
      · refine V_aload_n C dX2_remove_25 rfl ?_
        refine V_get C fg_X2_9 dX2_remove_26 (by first | assumption | exact mset_self _ _ _ | (refine (mset_ne (by omega)).trans ?_; first | assumption | exact mset_self _ _ _ | (refine (mset_ne (by omega)).trans ?_; first | assumption | exact mset_self _ _ _ | (refine (mset_ne (by omega)).trans ?_; first | assumption | exact mset_self _ _ _)))) (by (try simp only [mset_1]); omega) (by rfl) ?_
        refine V_iload_n C dX2_remove_29 rfl ?_
        refine V_aload_n C dX2_remove_30 rfl ?_
        refine V_get C fg_X2_9 dX2_remove_31 (by first | assumption | exact mset_self _ _ _ | (refine (mset_ne (by omega)).trans ?_; first | assumption | exact mset_self _ _ _ | (refine (mset_ne (by omega)).trans ?_; first | assumption | exact mset_self _ _ _ | (refine (mset_ne (by omega)).trans ?_; first | assumption | exact mset_self _ _ _)))) (by (try simp only [mset_1]); omega) (by rfl) ?_
        refine V_iload_n C dX2_remove_34 rfl ?_
        refine V_iald C dX2_remove_35 (by first | assumption | exact mset_self _ _ _ | (refine (mset_ne (by omega)).trans ?_; first | assumption | exact mset_self _ _ _ | (refine (mset_ne (by omega)).trans ?_; first | assumption | exact mset_self _ _ _ | (refine (mset_ne (by omega)).trans ?_; first | assumption | exact mset_self _ _ _)))) (by (try simp only [mset_1]); omega) (by omega) (by omega) (show ((q : Int) - 1).toNat = q - 1 by omega) ?_
        refine V_iast C dX2_remove_36 (by first | assumption | exact mset_self _ _ _ | (refine (mset_ne (by omega)).trans ?_; first | assumption | exact mset_self _ _ _ | (refine (mset_ne (by omega)).trans ?_; first | assumption | exact mset_self _ _ _ | (refine (mset_ne (by omega)).trans ?_; first | assumption | exact mset_self _ _ _)))) (by (try simp only [mset_1]); omega) (by omega) (by omega) (by first | exact Int.toNat_natCast _ | rfl) ?_
        refine V_aload_n C dX2_remove_37 rfl ?_
        refine V_iload_n C dX2_remove_38 rfl ?_
        refine V_put C fp_X2_15 dX2_remove_39 (by first | assumption | exact mset_self _ _ _ | (refine (mset_ne (by omega)).trans ?_; first | assumption | exact mset_self _ _ _ | (refine (mset_ne (by omega)).trans ?_; first | assumption | exact mset_self _ _ _ | (refine (mset_ne (by omega)).trans ?_; first | assumption | exact mset_self _ _ _)))) (by (try simp only [mset_1]); omega) rfl rfl (by exact Nat.le_of_ble_eq_true rfl) ?_
        exact V_vret C hr dX2_remove_42 (hK _ (by repeat (first | exact Sm.rf _ _ | refine Sm.ts ?_ (by first | rfl | (simp; done) | (simp; omega) | (dsimp only; omega)))) ⟨by simp only [mset_1]; exact hn, by rw [mset_self]; show oX 1 [.ref (z + (k + 1)), iv ((q : Int) - 1)] = _; rw [show ((q : Int) - 1) = ((q - 1 : Nat) : Int) by omega], (mset_ne (by omega)).trans (mset_self _ _ _)⟩)

set_option maxHeartbeats 400000 in
set_option maxRecDepth 4000 in
theorem ok_X2_toggle {l : Launch} {D : va_G} {cy : Nat → ClassId} {z : Nat} {M : Mm} {K : Option Value → Mm → Prop} {k q : Nat} {h : Nat → Int} (hH : HolAt cy z M k q h) (hq : q ≤ 6) (hv : ∀ i, -1 ≤ h i ∧ h i ≤ 40000) {v : Int} (hv9 : -2147483648 ≤ v ∧ v < 2147483648) (hc : q < 6 ∨ hset h q v = true) (hK1 : ∀ M' i, i < q → h i = v → (∀ j, j < i → ¬ h j = v) → Sm M M' (fun j => j = k ∨ j = k + 1) → HolAt cy z M' k (q - 1) (va_up h i (h (q - 1))) → K none M') (hK2 : ∀ M', q < 6 → (∀ j, j < q → ¬ h j = v) → Sm M M' (fun j => j = k ∨ j = k + 1) → HolAt cy z M' k (q + 1) (va_up h q v) → K none M') :
    MT l D cy z false yX2_toggle (wsy yX2_toggle cX2_toggle 3 none) 1 22 0 0 M [.ref (z + k), iv v] K := by
  refine MT_of (by decide) w_583 (Nat.le_of_ble_eq_true rfl) ?_
  intro p e s m args below meth c C hr hx0
  obtain ⟨hn, m0, m1⟩ := hH
  refine V_aload_n C dX2_toggle_0 rfl ?_
  refine V_iload_n C dX2_toggle_1 rfl ?_
  refine V_callV (fr := 0) (lo := 0) (mc := 0) (ms := 0) (As := [_]) C yvX2_find w_370 dX2_toggle_2 rfl rfl (by first | assumption | exact mset_self _ _ _ | (refine (mset_ne (by omega)).trans ?_; first | assumption | exact mset_self _ _ _ | (refine (mset_ne (by omega)).trans ?_; first | assumption | exact mset_self _ _ _ | (refine (mset_ne (by omega)).trans ?_; first | assumption | exact mset_self _ _ _)))) (by (try simp only [mset_1]); omega) rfl rfl (Nat.le_of_ble_eq_true rfl) ⟨Nat.le_of_ble_eq_true rfl, Nat.le_of_ble_eq_true rfl⟩ ⟨Nat.le_of_ble_eq_true rfl, Nat.le_of_ble_eq_true rfl⟩ ?_
  refine ok_X2_find ⟨hn, m0, m1⟩ hq hv (by omega) (fun i hi hiv hmin => ?_) (fun hno => ?_)
  · refine V_istore_n C dX2_toggle_5 (by decide) ?_
    refine V_iload_n C dX2_toggle_6 rfl ?_
    refine V_iconst C dX2_toggle_7 ?_
    refine V_icmp_eq C dX2_toggle_8 (tgt := 19) (by decide) (by omega) (by omega) (fun g8 => ?_) (fun g8 => ?_)
    · exact absurd g8 (by omega)
    · refine V_aload_n C dX2_toggle_11 rfl ?_
      refine V_iload_n C dX2_toggle_12 rfl ?_
      refine V_callV (fr := 0) (lo := 0) (mc := 0) (ms := 0) (As := [_]) C yvX2_remove w_584 dX2_toggle_13 rfl rfl (by first | assumption | exact mset_self _ _ _ | (refine (mset_ne (by omega)).trans ?_; first | assumption | exact mset_self _ _ _ | (refine (mset_ne (by omega)).trans ?_; first | assumption | exact mset_self _ _ _ | (refine (mset_ne (by omega)).trans ?_; first | assumption | exact mset_self _ _ _)))) (by (try simp only [mset_1]); omega) rfl rfl (Nat.le_of_ble_eq_true rfl) ⟨Nat.le_of_ble_eq_true rfl, Nat.le_of_ble_eq_true rfl⟩ ⟨Nat.le_of_ble_eq_true rfl, Nat.le_of_ble_eq_true rfl⟩ ?_
      refine ok_X2_remove ⟨hn, m0, m1⟩ hq hv hi (fun M1 hs1 hH1 => ?_)
      refine V_goto C dX2_toggle_16 (tgt := 58) (by decide) ?_
      exact V_vret C hr dX2_toggle_58 (hK1 M1 i hi hiv hmin hs1 hH1)
  · refine V_istore_n C dX2_toggle_5 (by decide) ?_
    refine V_iload_n C dX2_toggle_6 rfl ?_
    refine V_iconst C dX2_toggle_7 ?_
    refine V_icmp_eq C dX2_toggle_8 (tgt := 19) (by decide) (by omega) (by omega) (fun g8 => ?_) (fun g8 => ?_)
    · refine V_aload_n C dX2_toggle_19 rfl ?_
      refine V_get C fg_X2_15 dX2_toggle_20 (by first | assumption | exact mset_self _ _ _ | (refine (mset_ne (by omega)).trans ?_; first | assumption | exact mset_self _ _ _ | (refine (mset_ne (by omega)).trans ?_; first | assumption | exact mset_self _ _ _ | (refine (mset_ne (by omega)).trans ?_; first | assumption | exact mset_self _ _ _)))) (by (try simp only [mset_1]); omega) (by rfl) ?_
      refine V_if_lt C dX2_toggle_23 (tgt := 58) (by decide) (by omega) (fun g23 => ?_) (fun g23 => ?_)
      · exact absurd g23 (by omega)
      · refine V_aload_n C dX2_toggle_26 rfl ?_
        refine V_get C fg_X2_15 dX2_toggle_27 (by first | assumption | exact mset_self _ _ _ | (refine (mset_ne (by omega)).trans ?_; first | assumption | exact mset_self _ _ _ | (refine (mset_ne (by omega)).trans ?_; first | assumption | exact mset_self _ _ _ | (refine (mset_ne (by omega)).trans ?_; first | assumption | exact mset_self _ _ _)))) (by (try simp only [mset_1]); omega) (by rfl) ?_
        refine V_aload_n C dX2_toggle_30 rfl ?_
        refine V_get C fg_X2_9 dX2_toggle_31 (by first | assumption | exact mset_self _ _ _ | (refine (mset_ne (by omega)).trans ?_; first | assumption | exact mset_self _ _ _ | (refine (mset_ne (by omega)).trans ?_; first | assumption | exact mset_self _ _ _ | (refine (mset_ne (by omega)).trans ?_; first | assumption | exact mset_self _ _ _)))) (by (try simp only [mset_1]); omega) (by rfl) ?_
        refine V_alenI C dX2_toggle_34 (by first | assumption | exact mset_self _ _ _ | (refine (mset_ne (by omega)).trans ?_; first | assumption | exact mset_self _ _ _ | (refine (mset_ne (by omega)).trans ?_; first | assumption | exact mset_self _ _ _ | (refine (mset_ne (by omega)).trans ?_; first | assumption | exact mset_self _ _ _)))) (by (try simp only [mset_1]); omega) ?_
        have hq6 : q < 6 := hc.elim id (fun o => by obtain ⟨j, h1, h2⟩ := hset_iff.mp o; exact absurd h2 (hno j h1))
        refine V_icmp_ge C dX2_toggle_35 (tgt := 58) (by decide) (by omega) (by omega) (fun g35 => ?_) (fun g35 => ?_)
        · exact absurd g35 (by omega)
        · refine V_aload_n C dX2_toggle_38 rfl ?_
          refine V_get C fg_X2_9 dX2_toggle_39 (by first | assumption | exact mset_self _ _ _ | (refine (mset_ne (by omega)).trans ?_; first | assumption | exact mset_self _ _ _ | (refine (mset_ne (by omega)).trans ?_; first | assumption | exact mset_self _ _ _ | (refine (mset_ne (by omega)).trans ?_; first | assumption | exact mset_self _ _ _)))) (by (try simp only [mset_1]); omega) (by rfl) ?_
          refine V_aload_n C dX2_toggle_42 rfl ?_
          refine V_get C fg_X2_15 dX2_toggle_43 (by first | assumption | exact mset_self _ _ _ | (refine (mset_ne (by omega)).trans ?_; first | assumption | exact mset_self _ _ _ | (refine (mset_ne (by omega)).trans ?_; first | assumption | exact mset_self _ _ _ | (refine (mset_ne (by omega)).trans ?_; first | assumption | exact mset_self _ _ _)))) (by (try simp only [mset_1]); omega) (by rfl) ?_
          refine V_iload_n C dX2_toggle_46 rfl ?_
          refine V_iast C dX2_toggle_47 (by first | assumption | exact mset_self _ _ _ | (refine (mset_ne (by omega)).trans ?_; first | assumption | exact mset_self _ _ _ | (refine (mset_ne (by omega)).trans ?_; first | assumption | exact mset_self _ _ _ | (refine (mset_ne (by omega)).trans ?_; first | assumption | exact mset_self _ _ _)))) (by (try simp only [mset_1]); omega) (by omega) (by omega) (by first | exact Int.toNat_natCast _ | rfl) ?_
          refine V_aload_n C dX2_toggle_48 rfl ?_
          refine V_dup C dX2_toggle_49 rfl ?_
          refine V_get C fg_X2_15 dX2_toggle_50 (by first | assumption | exact mset_self _ _ _ | (refine (mset_ne (by omega)).trans ?_; first | assumption | exact mset_self _ _ _ | (refine (mset_ne (by omega)).trans ?_; first | assumption | exact mset_self _ _ _ | (refine (mset_ne (by omega)).trans ?_; first | assumption | exact mset_self _ _ _)))) (by (try simp only [mset_1]); omega) (by rfl) ?_
          refine V_iconst C dX2_toggle_53 ?_
          refine V_iadd C dX2_toggle_54 ?_
          refine V_put C fp_X2_15 dX2_toggle_55 (by first | assumption | exact mset_self _ _ _ | (refine (mset_ne (by omega)).trans ?_; first | assumption | exact mset_self _ _ _ | (refine (mset_ne (by omega)).trans ?_; first | assumption | exact mset_self _ _ _ | (refine (mset_ne (by omega)).trans ?_; first | assumption | exact mset_self _ _ _)))) (by (try simp only [mset_1]); omega) rfl rfl (by exact Nat.le_of_ble_eq_true rfl) ?_
          exact V_vret C hr dX2_toggle_58 (hK2 _ hq6 hno (by repeat (first | exact Sm.rf _ _ | refine Sm.ts ?_ (by first | rfl | (simp; done) | (simp; omega) | (dsimp only; omega)))) ⟨by simp only [mset_1]; exact hn, by rw [mset_self]; show oX 1 [.ref (z + (k + 1)), iv ((q : Int) + 1)] = _; rw [show ((q : Int) + 1) = ((q + 1 : Nat) : Int) by omega], (mset_ne (by omega)).trans (mset_self _ _ _)⟩)
    · exact absurd rfl g8

set_option maxHeartbeats 400000 in
set_option maxRecDepth 4000 in
theorem ok_X2_firstWorkingDay {l : Launch} {D : va_G} {cy : Nat → ClassId} {z : Nat} {M : Mm} {K : Option Value → Mm → Prop} {k q : Nat} {h : Nat → Int} (hH : HolAt cy z M k q h) (hq : q ≤ 6) (hv : ∀ i, -1 ≤ h i ∧ h i ≤ 40000) {d : Int} (hd : 0 ≤ d ∧ d < 36000) (hK : K (some (iv (pf (hset h q) d))) M) :
    MT l D cy z false yX2_firstWorkingDay (wsy yX2_firstWorkingDay cX2_firstWorkingDay 4 (some .int)) 3 66 0 0 M [.ref (z + k), iv d] K := by
  refine MT_of (by decide) w_364 (Nat.le_of_ble_eq_true rfl) ?_
  intro p e s m args below meth c C hr hx0
  obtain ⟨hn, m0, m1⟩ := hH
  have loop : ∀ (n : Nat) (i : Nat), (i ≤ 366) → (wf (hset h q) (366 - i) (d + (i : Int)) = pf (hset h q) d) → 366 - i < n → V p l e { frames := 3, cells := 0, slots := 0, locals := 66 } s m args below meth c D z 4 (MQ below (qc_ D z K) args s 0 0 (fun q => z ≤ q)) 0 0 M 4 [(0, .ref (z + k)), (1, iv d), (2, iv (d + (i : Int))), (3, iv ((i : Int)))] [] := by
    intro n
    induction n with
    | zero => intro i hi0 hi1 hfu; exact absurd hfu (Nat.not_lt_zero _)
    | succ n ih =>
      intro i hi0 hi1 hfu
      refine V_iload_n C dX2_firstWorkingDay_4 rfl ?_
      refine V_sipush C dX2_firstWorkingDay_5 (by decide) ?_
      refine V_icmp_ge C dX2_firstWorkingDay_8 (tgt := 36) (by decide) (by omega) (by omega) (fun g8 => ?_) (fun g8 => ?_)
      · refine V_iload_n C dX2_firstWorkingDay_36 rfl ?_
        exact V_iret C hr dX2_firstWorkingDay_37 (K_of hK (by rw [← hi1, show 366 - i = 0 by omega]; rfl))
      · refine V_iload_n C dX2_firstWorkingDay_11 rfl ?_
        refine V_bipush C dX2_firstWorkingDay_12 (by decide) ?_
        refine V_irem C dX2_firstWorkingDay_14 (by omega) (by omega) ?_
        refine V_iconst C dX2_firstWorkingDay_15 ?_
        refine V_icmp_ge C dX2_firstWorkingDay_16 (tgt := 27) (by decide) (by omega) (by omega) (fun g16 => ?_) (fun g16 => ?_)
        · have hwf : work (hset h q) (d + (i : Int)) = false := work_f (by omega)
          refine V_iinc C dX2_firstWorkingDay_27 rfl (by decide) ?_
          refine V_iinc C dX2_firstWorkingDay_30 rfl (by decide) ?_
          refine V_goto C dX2_firstWorkingDay_33 (tgt := 4) (by decide) ?_
          refine V_lv [(0, .ref (z + k)), (1, iv d), (2, iv (d + ((i + 1 : Nat) : Int))), (3, iv (((i + 1 : Nat) : Int)))] (List.forall_mem_cons.mpr ⟨(by first | rfl | exact congrArg (fun t => some (iv t)) (by omega)), (List.forall_mem_cons.mpr ⟨(by first | rfl | exact congrArg (fun t => some (iv t)) (by omega)), (List.forall_mem_cons.mpr ⟨(by first | rfl | exact congrArg (fun t => some (iv t)) (by omega)), (List.forall_mem_cons.mpr ⟨(by first | rfl | exact congrArg (fun t => some (iv t)) (by omega)), (fun _ h => nomatch h)⟩)⟩)⟩)⟩) ?_
          exact ih (i + 1) (by omega) (by rw [← hi1]; rw [show 366 - i = (366 - (i + 1)) + 1 by omega, wf_go hwf]; congr 1; omega) (by omega)
        · refine V_aload_n C dX2_firstWorkingDay_19 rfl ?_
          refine V_iload_n C dX2_firstWorkingDay_20 rfl ?_
          refine V_callV (fr := 2) (lo := 45) (mc := 0) (ms := 0) (As := [_]) C yvX2_isHoliday w_365 dX2_firstWorkingDay_21 rfl rfl (by first | assumption | exact mset_self _ _ _ | (refine (mset_ne (by omega)).trans ?_; first | assumption | exact mset_self _ _ _ | (refine (mset_ne (by omega)).trans ?_; first | assumption | exact mset_self _ _ _ | (refine (mset_ne (by omega)).trans ?_; first | assumption | exact mset_self _ _ _)))) (by (try simp only [mset_1]); omega) rfl rfl (Nat.le_of_ble_eq_true rfl) ⟨Nat.le_of_ble_eq_true rfl, Nat.le_of_ble_eq_true rfl⟩ ⟨Nat.le_of_ble_eq_true rfl, Nat.le_of_ble_eq_true rfl⟩ ?_
          refine ok_X2_isHoliday ⟨hn, m0, m1⟩ hq hv (by omega) (fun hh => ?_) (fun hh => ?_)
          · have hwf : work (hset h q) (d + (i : Int)) = false := work_g hh
            refine V_ifeq1 C dX2_firstWorkingDay_24 (tgt := 36) (by decide) ?_
            refine V_iinc C dX2_firstWorkingDay_27 rfl (by decide) ?_
            refine V_iinc C dX2_firstWorkingDay_30 rfl (by decide) ?_
            refine V_goto C dX2_firstWorkingDay_33 (tgt := 4) (by decide) ?_
            refine V_lv [(0, .ref (z + k)), (1, iv d), (2, iv (d + ((i + 1 : Nat) : Int))), (3, iv (((i + 1 : Nat) : Int)))] (List.forall_mem_cons.mpr ⟨(by first | rfl | exact congrArg (fun t => some (iv t)) (by omega)), (List.forall_mem_cons.mpr ⟨(by first | rfl | exact congrArg (fun t => some (iv t)) (by omega)), (List.forall_mem_cons.mpr ⟨(by first | rfl | exact congrArg (fun t => some (iv t)) (by omega)), (List.forall_mem_cons.mpr ⟨(by first | rfl | exact congrArg (fun t => some (iv t)) (by omega)), (fun _ h => nomatch h)⟩)⟩)⟩)⟩) ?_
            exact ih (i + 1) (by omega) (by rw [← hi1]; rw [show 366 - i = (366 - (i + 1)) + 1 by omega, wf_go hwf]; congr 1; omega) (by omega)
          · refine V_ifeq0 C dX2_firstWorkingDay_24 (tgt := 36) (by decide) ?_
            refine V_iload_n C dX2_firstWorkingDay_36 rfl ?_
            exact V_iret C hr dX2_firstWorkingDay_37 (K_of hK (by rw [← hi1, wf_stop (work_t (by omega) hh)]))
  refine V_iload_n C dX2_firstWorkingDay_0 rfl ?_
  refine V_istore_n C dX2_firstWorkingDay_1 (by decide) ?_
  refine V_iconst C dX2_firstWorkingDay_2 ?_
  refine V_istore_n C dX2_firstWorkingDay_3 (by decide) ?_
  refine V_lv [(0, .ref (z + k)), (1, iv d), (2, iv (d + ((0 : Nat) : Int))), (3, iv (((0 : Nat) : Int)))] (List.forall_mem_cons.mpr ⟨(by first | rfl | exact congrArg (fun t => some (iv t)) (by omega)), (List.forall_mem_cons.mpr ⟨(by first | rfl | exact congrArg (fun t => some (iv t)) (by omega)), (List.forall_mem_cons.mpr ⟨(by first | rfl | exact congrArg (fun t => some (iv t)) (by omega)), (List.forall_mem_cons.mpr ⟨(by first | rfl | exact congrArg (fun t => some (iv t)) (by omega)), (fun _ h => nomatch h)⟩)⟩)⟩)⟩) ?_
  exact loop 367 0 (by omega) (by unfold pf; congr 1; omega) (by omega)

set_option maxHeartbeats 400000 in
set_option maxRecDepth 4000 in
theorem ok_X2_copyFrom {l : Launch} {D : va_G} {cy : Nat → ClassId} {z : Nat} {M : Mm} {K : Option Value → Mm → Prop} {k q : Nat} {h : Nat → Int} (hH : HolAt cy z M k q h) (hq : q ≤ 6) {k2 q2 : Nat} {h2 : Nat → Int} (hH2 : HolAt cy z M k2 q2 h2) (hd : k + 2 ≤ k2 ∨ k2 + 2 ≤ k) (hK : ∀ M', Sm M M' (fun j => j = k ∨ j = k + 1) → HolAt cy z M' k q2 h2 → K none M') :
    MT l D cy z false yX2_copyFrom (wsy yX2_copyFrom cX2_copyFrom 2 none) 1 26 0 0 M [.ref (z + k), .ref (z + k2)] K := by
  refine MT_of (by decide) w_216 (Nat.le_of_ble_eq_true rfl) ?_
  intro p e s m args below meth c C hr hx0
  obtain ⟨hn, m0, m1⟩ := hH
  obtain ⟨hn2, m2, m3⟩ := hH2
  refine V_aload_n C dX2_copyFrom_0 rfl ?_
  refine V_get C fg_X2_9 dX2_copyFrom_1 (by first | assumption | exact mset_self _ _ _ | (refine (mset_ne (by omega)).trans ?_; first | assumption | exact mset_self _ _ _ | (refine (mset_ne (by omega)).trans ?_; first | assumption | exact mset_self _ _ _ | (refine (mset_ne (by omega)).trans ?_; first | assumption | exact mset_self _ _ _)))) (by (try simp only [mset_1]); omega) (by rfl) ?_
  refine V_iconst C dX2_copyFrom_4 ?_
  refine V_aload_n C dX2_copyFrom_5 rfl ?_
  refine V_get C fg_X2_9 dX2_copyFrom_6 (by first | assumption | exact mset_self _ _ _ | (refine (mset_ne (by omega)).trans ?_; first | assumption | exact mset_self _ _ _ | (refine (mset_ne (by omega)).trans ?_; first | assumption | exact mset_self _ _ _ | (refine (mset_ne (by omega)).trans ?_; first | assumption | exact mset_self _ _ _)))) (by (try simp only [mset_1]); omega) (by rfl) ?_
  refine V_iconst C dX2_copyFrom_9 ?_
  refine V_bipush C dX2_copyFrom_10 (by decide) ?_
  refine V_copy C w_217 w_219 w_218 w_15 dX2_copyFrom_12 (by first | assumption | exact mset_self _ _ _ | (refine (mset_ne (by omega)).trans ?_; first | assumption | exact mset_self _ _ _ | (refine (mset_ne (by omega)).trans ?_; first | assumption | exact mset_self _ _ _ | (refine (mset_ne (by omega)).trans ?_; first | assumption | exact mset_self _ _ _)))) (by (try simp only [mset_1]); omega) (by first | assumption | exact mset_self _ _ _ | (refine (mset_ne (by omega)).trans ?_; first | assumption | exact mset_self _ _ _ | (refine (mset_ne (by omega)).trans ?_; first | assumption | exact mset_self _ _ _ | (refine (mset_ne (by omega)).trans ?_; first | assumption | exact mset_self _ _ _)))) (by (try simp only [mset_1]); omega) (by omega) (by omega) (by omega) (by omega) ⟨Nat.le_of_ble_eq_true rfl, Nat.le_of_ble_eq_true rfl⟩ ?_
  refine V_cellI h2 (mset_self _ _ _) (fun j hj => cpy_0 hj) ?_
  refine V_aload_n C dX2_copyFrom_15 rfl ?_
  refine V_aload_n C dX2_copyFrom_16 rfl ?_
  refine V_get C fg_X2_15 dX2_copyFrom_17 (by first | assumption | exact mset_self _ _ _ | (refine (mset_ne (by omega)).trans ?_; first | assumption | exact mset_self _ _ _ | (refine (mset_ne (by omega)).trans ?_; first | assumption | exact mset_self _ _ _ | (refine (mset_ne (by omega)).trans ?_; first | assumption | exact mset_self _ _ _)))) (by (try simp only [mset_1]); omega) (by rfl) ?_
  refine V_put C fp_X2_15 dX2_copyFrom_20 (by first | assumption | exact mset_self _ _ _ | (refine (mset_ne (by omega)).trans ?_; first | assumption | exact mset_self _ _ _ | (refine (mset_ne (by omega)).trans ?_; first | assumption | exact mset_self _ _ _ | (refine (mset_ne (by omega)).trans ?_; first | assumption | exact mset_self _ _ _)))) (by (try simp only [mset_1]); omega) rfl rfl (by exact Nat.le_of_ble_eq_true rfl) ?_
  exact V_vret C hr dX2_copyFrom_23 (hK _ (by repeat (first | exact Sm.rf _ _ | refine Sm.ts ?_ (by first | rfl | (simp; done) | (simp; omega) | (dsimp only; omega)))) ⟨by simp only [mset_1]; exact hn, mset_self _ _ _, (mset_ne (by omega)).trans (mset_self _ _ _)⟩)

