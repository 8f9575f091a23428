/-! the rights of the class (X3), walked -/
theorem stU_rng (F : Nat → Int) (a : Nat → Nat → Int) (u : Nat) : 0 ≤ stU F a u ∧ stU F a u ≤ 2 := by unfold stU; split <;> (try split) <;> omega
theorem cntN_t {p : Nat → Bool} {n : Nat} (h : p n = true) : cntN p (n + 1) = cntN p n + 1 := by
  show cntN p n + (if p n = true then 1 else 0) = _
  rw [if_pos h]
theorem cntN_f {p : Nat → Bool} {n : Nat} (h : p n = false) : cntN p (n + 1) = cntN p n := by
  show cntN p n + (if p n = true then 1 else 0) = _
  rw [if_neg (by rw [h]; decide)]; rfl
set_option maxHeartbeats 400000 in
set_option maxRecDepth 4000 in
theorem ok_X3_nextYear {l : Launch} {D : va_G} {cy : Nat → ClassId} {z : Nat} {M : Mm} {K : Option Value → Mm → Prop} {r : Nat} {F : Nat → Int} {a : Nat → Nat → Int} (hR : RightAt cy z M r F a) (hB : RB F a) (hK : K (some (iv (nxt F))) M) :
    MT l D cy z false yX3_nextYear (wsy yX3_nextYear cX3_nextYear 1 (some .int)) 0 0 0 0 M [.ref (z + r)] K := by
  refine MT_of (by decide) w_244 (Nat.le_of_ble_eq_true rfl) ?_
  intro p e s m args below meth c C hr hx0
  have hR9 := hR
  have hB9 := hB
  obtain ⟨hn, m0, m1, m2, m3, m4, m5⟩ := hR
  obtain ⟨b0, b1, b2, b3, b4⟩ := hB
  refine V_aload_n C dX3_nextYear_0 rfl ?_
  refine V_get C fg_X3_22 dX3_nextYear_1 (by first | assumption | exact mset_self _ _ _ | (refine (mset_ne (by omega)).trans ?_; first | assumption | exact mset_self _ _ _ | (refine (mset_ne (by omega)).trans ?_; first | assumption | exact mset_self _ _ _ | (refine (mset_ne (by omega)).trans ?_; first | assumption | exact mset_self _ _ _)))) (by (try simp only [mset_1]); omega) (by rfl) ?_
  refine V_bipush C dX3_nextYear_4 (by decide) ?_
  refine V_icmp_ge C dX3_nextYear_6 (tgt := 18) (by decide) (by omega) (by omega) (fun g6 => ?_) (fun g6 => ?_)
  · refine V_iconst C dX3_nextYear_18 ?_
    exact V_iret C hr dX3_nextYear_19 (K_of hK (by unfold nxt; omega))
  · refine V_aload_n C dX3_nextYear_9 rfl ?_
    refine V_get C fg_X3_22 dX3_nextYear_10 (by first | assumption | exact mset_self _ _ _ | (refine (mset_ne (by omega)).trans ?_; first | assumption | exact mset_self _ _ _ | (refine (mset_ne (by omega)).trans ?_; first | assumption | exact mset_self _ _ _ | (refine (mset_ne (by omega)).trans ?_; first | assumption | exact mset_self _ _ _)))) (by (try simp only [mset_1]); omega) (by rfl) ?_
    refine V_iconst C dX3_nextYear_13 ?_
    refine V_iadd C dX3_nextYear_14 ?_
    refine V_goto C dX3_nextYear_15 (tgt := 19) (by decide) ?_
    exact V_iret C hr dX3_nextYear_19 (K_of hK (by unfold nxt; omega))

set_option maxHeartbeats 400000 in
set_option maxRecDepth 4000 in
theorem ok_X3_dueOf {l : Launch} {D : va_G} {cy : Nat → ClassId} {z : Nat} {M : Mm} {K : Option Value → Mm → Prop} {r : Nat} {F : Nat → Int} {a : Nat → Nat → Int} (hR : RightAt cy z M r F a) (hB : RB F a) {y : Int} (hy : -2147483648 ≤ y ∧ y < 2147483648) (hK : K (some (iv (yv (a 0) (-1) y))) M) :
    MT l D cy z false yX3_dueOf (wsy yX3_dueOf cX3_dueOf 2 (some .int)) 0 0 0 0 M [.ref (z + r), iv y] K := by
  refine MT_of (by decide) w_257 (Nat.le_of_ble_eq_true rfl) ?_
  intro p e s m args below meth c C hr hx0
  have hR9 := hR
  have hB9 := hB
  obtain ⟨hn, m0, m1, m2, m3, m4, m5⟩ := hR
  obtain ⟨b0, b1, b2, b3, b4⟩ := hB
  refine V_iload_n C dX3_dueOf_0 rfl ?_
  refine V_iconst C dX3_dueOf_1 ?_
  refine V_icmp_lt C dX3_dueOf_2 (tgt := 23) (by decide) (by omega) (by omega) (fun g2 => ?_) (fun g2 => ?_)
  · refine V_iconst C dX3_dueOf_23 ?_
    exact V_iret C hr dX3_dueOf_24 (K_of hK (by unfold yv; (try rw [if_pos (by omega)]); (try rw [if_neg (by omega)])))
  · refine V_iload_n C dX3_dueOf_5 rfl ?_
    refine V_aload_n C dX3_dueOf_6 rfl ?_
    refine V_get C fg_X3_31 dX3_dueOf_7 (by first | assumption | exact mset_self _ _ _ | (refine (mset_ne (by omega)).trans ?_; first | assumption | exact mset_self _ _ _ | (refine (mset_ne (by omega)).trans ?_; first | assumption | exact mset_self _ _ _ | (refine (mset_ne (by omega)).trans ?_; first | assumption | exact mset_self _ _ _)))) (by (try simp only [mset_1]); omega) (by rfl) ?_
    refine V_alenI C dX3_dueOf_10 (by first | assumption | exact mset_self _ _ _ | (refine (mset_ne (by omega)).trans ?_; first | assumption | exact mset_self _ _ _ | (refine (mset_ne (by omega)).trans ?_; first | assumption | exact mset_self _ _ _ | (refine (mset_ne (by omega)).trans ?_; first | assumption | exact mset_self _ _ _)))) (by (try simp only [mset_1]); omega) ?_
    refine V_icmp_ge C dX3_dueOf_11 (tgt := 23) (by decide) (by omega) (by omega) (fun g11 => ?_) (fun g11 => ?_)
    · refine V_iconst C dX3_dueOf_23 ?_
      exact V_iret C hr dX3_dueOf_24 (K_of hK (by unfold yv; (try rw [if_pos (by omega)]); (try rw [if_neg (by omega)])))
    · refine V_aload_n C dX3_dueOf_14 rfl ?_
      refine V_get C fg_X3_31 dX3_dueOf_15 (by first | assumption | exact mset_self _ _ _ | (refine (mset_ne (by omega)).trans ?_; first | assumption | exact mset_self _ _ _ | (refine (mset_ne (by omega)).trans ?_; first | assumption | exact mset_self _ _ _ | (refine (mset_ne (by omega)).trans ?_; first | assumption | exact mset_self _ _ _)))) (by (try simp only [mset_1]); omega) (by rfl) ?_
      refine V_iload_n C dX3_dueOf_18 rfl ?_
      refine V_iald C dX3_dueOf_19 (by first | assumption | exact mset_self _ _ _ | (refine (mset_ne (by omega)).trans ?_; first | assumption | exact mset_self _ _ _ | (refine (mset_ne (by omega)).trans ?_; first | assumption | exact mset_self _ _ _ | (refine (mset_ne (by omega)).trans ?_; first | assumption | exact mset_self _ _ _)))) (by (try simp only [mset_1]); omega) (by omega) (by omega) (by first | with_reducible exact Int.toNat_natCast _ | rfl) ?_
      refine V_goto C dX3_dueOf_20 (tgt := 24) (by decide) ?_
      exact V_iret C hr dX3_dueOf_24 (K_of hK (by unfold yv; (try rw [if_pos (by omega)]); (try rw [if_neg (by omega)])))

set_option maxHeartbeats 400000 in
set_option maxRecDepth 4000 in
theorem ok_X3_graceOf {l : Launch} {D : va_G} {cy : Nat → ClassId} {z : Nat} {M : Mm} {K : Option Value → Mm → Prop} {r : Nat} {F : Nat → Int} {a : Nat → Nat → Int} (hR : RightAt cy z M r F a) (hB : RB F a) {y : Int} (hy : -2147483648 ≤ y ∧ y < 2147483648) (hK : K (some (iv (yv (a 1) (-1) y))) M) :
    MT l D cy z false yX3_graceOf (wsy yX3_graceOf cX3_graceOf 2 (some .int)) 0 0 0 0 M [.ref (z + r), iv y] K := by
  refine MT_of (by decide) w_253 (Nat.le_of_ble_eq_true rfl) ?_
  intro p e s m args below meth c C hr hx0
  have hR9 := hR
  have hB9 := hB
  obtain ⟨hn, m0, m1, m2, m3, m4, m5⟩ := hR
  obtain ⟨b0, b1, b2, b3, b4⟩ := hB
  refine V_iload_n C dX3_graceOf_0 rfl ?_
  refine V_iconst C dX3_graceOf_1 ?_
  refine V_icmp_lt C dX3_graceOf_2 (tgt := 23) (by decide) (by omega) (by omega) (fun g2 => ?_) (fun g2 => ?_)
  · refine V_iconst C dX3_graceOf_23 ?_
    exact V_iret C hr dX3_graceOf_24 (K_of hK (by unfold yv; (try rw [if_pos (by omega)]); (try rw [if_neg (by omega)])))
  · refine V_iload_n C dX3_graceOf_5 rfl ?_
    refine V_aload_n C dX3_graceOf_6 rfl ?_
    refine V_get C fg_X3_35 dX3_graceOf_7 (by first | assumption | exact mset_self _ _ _ | (refine (mset_ne (by omega)).trans ?_; first | assumption | exact mset_self _ _ _ | (refine (mset_ne (by omega)).trans ?_; first | assumption | exact mset_self _ _ _ | (refine (mset_ne (by omega)).trans ?_; first | assumption | exact mset_self _ _ _)))) (by (try simp only [mset_1]); omega) (by rfl) ?_
    refine V_alenI C dX3_graceOf_10 (by first | assumption | exact mset_self _ _ _ | (refine (mset_ne (by omega)).trans ?_; first | assumption | exact mset_self _ _ _ | (refine (mset_ne (by omega)).trans ?_; first | assumption | exact mset_self _ _ _ | (refine (mset_ne (by omega)).trans ?_; first | assumption | exact mset_self _ _ _)))) (by (try simp only [mset_1]); omega) ?_
    refine V_icmp_ge C dX3_graceOf_11 (tgt := 23) (by decide) (by omega) (by omega) (fun g11 => ?_) (fun g11 => ?_)
    · refine V_iconst C dX3_graceOf_23 ?_
      exact V_iret C hr dX3_graceOf_24 (K_of hK (by unfold yv; (try rw [if_pos (by omega)]); (try rw [if_neg (by omega)])))
    · refine V_aload_n C dX3_graceOf_14 rfl ?_
      refine V_get C fg_X3_35 dX3_graceOf_15 (by first | assumption | exact mset_self _ _ _ | (refine (mset_ne (by omega)).trans ?_; first | assumption | exact mset_self _ _ _ | (refine (mset_ne (by omega)).trans ?_; first | assumption | exact mset_self _ _ _ | (refine (mset_ne (by omega)).trans ?_; first | assumption | exact mset_self _ _ _)))) (by (try simp only [mset_1]); omega) (by rfl) ?_
      refine V_iload_n C dX3_graceOf_18 rfl ?_
      refine V_iald C dX3_graceOf_19 (by first | assumption | exact mset_self _ _ _ | (refine (mset_ne (by omega)).trans ?_; first | assumption | exact mset_self _ _ _ | (refine (mset_ne (by omega)).trans ?_; first | assumption | exact mset_self _ _ _ | (refine (mset_ne (by omega)).trans ?_; first | assumption | exact mset_self _ _ _)))) (by (try simp only [mset_1]); omega) (by omega) (by omega) (by first | with_reducible exact Int.toNat_natCast _ | rfl) ?_
      refine V_goto C dX3_graceOf_20 (tgt := 24) (by decide) ?_
      exact V_iret C hr dX3_graceOf_24 (K_of hK (by unfold yv; (try rw [if_pos (by omega)]); (try rw [if_neg (by omega)])))

set_option maxHeartbeats 400000 in
set_option maxRecDepth 4000 in
theorem ok_X3_paymentOf {l : Launch} {D : va_G} {cy : Nat → ClassId} {z : Nat} {M : Mm} {K : Option Value → Mm → Prop} {r : Nat} {F : Nat → Int} {a : Nat → Nat → Int} (hR : RightAt cy z M r F a) (hB : RB F a) {y : Int} (hy : -2147483648 ≤ y ∧ y < 2147483648) (hK : K (some (iv (yv (a 2) 0 y))) M) :
    MT l D cy z false yX3_paymentOf (wsy yX3_paymentOf cX3_paymentOf 2 (some .int)) 0 0 0 0 M [.ref (z + r), iv y] K := by
  refine MT_of (by decide) w_720 (Nat.le_of_ble_eq_true rfl) ?_
  intro p e s m args below meth c C hr hx0
  have hR9 := hR
  have hB9 := hB
  obtain ⟨hn, m0, m1, m2, m3, m4, m5⟩ := hR
  obtain ⟨b0, b1, b2, b3, b4⟩ := hB
  refine V_iload_n C dX3_paymentOf_0 rfl ?_
  refine V_iconst C dX3_paymentOf_1 ?_
  refine V_icmp_lt C dX3_paymentOf_2 (tgt := 23) (by decide) (by omega) (by omega) (fun g2 => ?_) (fun g2 => ?_)
  · refine V_iconst C dX3_paymentOf_23 ?_
    exact V_iret C hr dX3_paymentOf_24 (K_of hK (by unfold yv; (try rw [if_pos (by omega)]); (try rw [if_neg (by omega)])))
  · refine V_iload_n C dX3_paymentOf_5 rfl ?_
    refine V_aload_n C dX3_paymentOf_6 rfl ?_
    refine V_get C fg_X3_38 dX3_paymentOf_7 (by first | assumption | exact mset_self _ _ _ | (refine (mset_ne (by omega)).trans ?_; first | assumption | exact mset_self _ _ _ | (refine (mset_ne (by omega)).trans ?_; first | assumption | exact mset_self _ _ _ | (refine (mset_ne (by omega)).trans ?_; first | assumption | exact mset_self _ _ _)))) (by (try simp only [mset_1]); omega) (by rfl) ?_
    refine V_alenI C dX3_paymentOf_10 (by first | assumption | exact mset_self _ _ _ | (refine (mset_ne (by omega)).trans ?_; first | assumption | exact mset_self _ _ _ | (refine (mset_ne (by omega)).trans ?_; first | assumption | exact mset_self _ _ _ | (refine (mset_ne (by omega)).trans ?_; first | assumption | exact mset_self _ _ _)))) (by (try simp only [mset_1]); omega) ?_
    refine V_icmp_ge C dX3_paymentOf_11 (tgt := 23) (by decide) (by omega) (by omega) (fun g11 => ?_) (fun g11 => ?_)
    · refine V_iconst C dX3_paymentOf_23 ?_
      exact V_iret C hr dX3_paymentOf_24 (K_of hK (by unfold yv; (try rw [if_pos (by omega)]); (try rw [if_neg (by omega)])))
    · refine V_aload_n C dX3_paymentOf_14 rfl ?_
      refine V_get C fg_X3_38 dX3_paymentOf_15 (by first | assumption | exact mset_self _ _ _ | (refine (mset_ne (by omega)).trans ?_; first | assumption | exact mset_self _ _ _ | (refine (mset_ne (by omega)).trans ?_; first | assumption | exact mset_self _ _ _ | (refine (mset_ne (by omega)).trans ?_; first | assumption | exact mset_self _ _ _)))) (by (try simp only [mset_1]); omega) (by rfl) ?_
      refine V_iload_n C dX3_paymentOf_18 rfl ?_
      refine V_iald C dX3_paymentOf_19 (by first | assumption | exact mset_self _ _ _ | (refine (mset_ne (by omega)).trans ?_; first | assumption | exact mset_self _ _ _ | (refine (mset_ne (by omega)).trans ?_; first | assumption | exact mset_self _ _ _ | (refine (mset_ne (by omega)).trans ?_; first | assumption | exact mset_self _ _ _)))) (by (try simp only [mset_1]); omega) (by omega) (by omega) (by first | with_reducible exact Int.toNat_natCast _ | rfl) ?_
      refine V_goto C dX3_paymentOf_20 (tgt := 24) (by decide) ?_
      exact V_iret C hr dX3_paymentOf_24 (K_of hK (by unfold yv; (try rw [if_pos (by omega)]); (try rw [if_neg (by omega)])))

set_option maxHeartbeats 400000 in
set_option maxRecDepth 4000 in
theorem ok_X3_revivalOf {l : Launch} {D : va_G} {cy : Nat → ClassId} {z : Nat} {M : Mm} {K : Option Value → Mm → Prop} {r : Nat} {F : Nat → Int} {a : Nat → Nat → Int} (hR : RightAt cy z M r F a) (hB : RB F a) {y : Int} (hy : -2147483648 ≤ y ∧ y < 2147483648) (hK : K (some (iv (yv (a 3) 0 y))) M) :
    MT l D cy z false yX3_revivalOf (wsy yX3_revivalOf cX3_revivalOf 2 (some .int)) 0 0 0 0 M [.ref (z + r), iv y] K := by
  refine MT_of (by decide) w_410 (Nat.le_of_ble_eq_true rfl) ?_
  intro p e s m args below meth c C hr hx0
  have hR9 := hR
  have hB9 := hB
  obtain ⟨hn, m0, m1, m2, m3, m4, m5⟩ := hR
  obtain ⟨b0, b1, b2, b3, b4⟩ := hB
  refine V_iload_n C dX3_revivalOf_0 rfl ?_
  refine V_iconst C dX3_revivalOf_1 ?_
  refine V_icmp_lt C dX3_revivalOf_2 (tgt := 23) (by decide) (by omega) (by omega) (fun g2 => ?_) (fun g2 => ?_)
  · refine V_iconst C dX3_revivalOf_23 ?_
    exact V_iret C hr dX3_revivalOf_24 (K_of hK (by unfold yv; (try rw [if_pos (by omega)]); (try rw [if_neg (by omega)])))
  · refine V_iload_n C dX3_revivalOf_5 rfl ?_
    refine V_aload_n C dX3_revivalOf_6 rfl ?_
    refine V_get C fg_X3_41 dX3_revivalOf_7 (by first | assumption | exact mset_self _ _ _ | (refine (mset_ne (by omega)).trans ?_; first | assumption | exact mset_self _ _ _ | (refine (mset_ne (by omega)).trans ?_; first | assumption | exact mset_self _ _ _ | (refine (mset_ne (by omega)).trans ?_; first | assumption | exact mset_self _ _ _)))) (by (try simp only [mset_1]); omega) (by rfl) ?_
    refine V_alenI C dX3_revivalOf_10 (by first | assumption | exact mset_self _ _ _ | (refine (mset_ne (by omega)).trans ?_; first | assumption | exact mset_self _ _ _ | (refine (mset_ne (by omega)).trans ?_; first | assumption | exact mset_self _ _ _ | (refine (mset_ne (by omega)).trans ?_; first | assumption | exact mset_self _ _ _)))) (by (try simp only [mset_1]); omega) ?_
    refine V_icmp_ge C dX3_revivalOf_11 (tgt := 23) (by decide) (by omega) (by omega) (fun g11 => ?_) (fun g11 => ?_)
    · refine V_iconst C dX3_revivalOf_23 ?_
      exact V_iret C hr dX3_revivalOf_24 (K_of hK (by unfold yv; (try rw [if_pos (by omega)]); (try rw [if_neg (by omega)])))
    · refine V_aload_n C dX3_revivalOf_14 rfl ?_
      refine V_get C fg_X3_41 dX3_revivalOf_15 (by first | assumption | exact mset_self _ _ _ | (refine (mset_ne (by omega)).trans ?_; first | assumption | exact mset_self _ _ _ | (refine (mset_ne (by omega)).trans ?_; first | assumption | exact mset_self _ _ _ | (refine (mset_ne (by omega)).trans ?_; first | assumption | exact mset_self _ _ _)))) (by (try simp only [mset_1]); omega) (by rfl) ?_
      refine V_iload_n C dX3_revivalOf_18 rfl ?_
      refine V_iald C dX3_revivalOf_19 (by first | assumption | exact mset_self _ _ _ | (refine (mset_ne (by omega)).trans ?_; first | assumption | exact mset_self _ _ _ | (refine (mset_ne (by omega)).trans ?_; first | assumption | exact mset_self _ _ _ | (refine (mset_ne (by omega)).trans ?_; first | assumption | exact mset_self _ _ _)))) (by (try simp only [mset_1]); omega) (by omega) (by omega) (by first | with_reducible exact Int.toNat_natCast _ | rfl) ?_
      refine V_goto C dX3_revivalOf_20 (tgt := 24) (by decide) ?_
      exact V_iret C hr dX3_revivalOf_24 (K_of hK (by unfold yv; (try rw [if_pos (by omega)]); (try rw [if_neg (by omega)])))

set_option maxHeartbeats 400000 in
set_option maxRecDepth 4000 in
theorem ok_X3_isLapsed {l : Launch} {D : va_G} {cy : Nat → ClassId} {z : Nat} {M : Mm} {K : Option Value → Mm → Prop} {r : Nat} {F : Nat → Int} {a : Nat → Nat → Int} (hR : RightAt cy z M r F a) (hB : RB F a) {t : Int} (ht : -1 ≤ t ∧ t ≤ 100000) (hT : lapR F a t → K (some (iv 1)) M) (hF : ¬ (lapR F a t) → K (some (iv 0)) M) :
    MT l D cy z false yX3_isLapsed (wsy yX3_isLapsed cX3_isLapsed 3 (some .boolean)) 1 21 0 0 M [.ref (z + r), iv t] K := by
  refine MT_of (by decide) w_248 (Nat.le_of_ble_eq_true rfl) ?_
  intro p e s m args below meth c C hr hx0
  have hR9 := hR
  have hB9 := hB
  obtain ⟨hn, m0, m1, m2, m3, m4, m5⟩ := hR
  obtain ⟨b0, b1, b2, b3, b4⟩ := hB
  have y0 : ∀ y, -1 ≤ yv (a 0) (-1) y ∧ yv (a 0) (-1) y ≤ 40000 := fun y => yv_rng (b4 0) (by omega)
  have y1 : ∀ y, -1 ≤ yv (a 1) (-1) y ∧ yv (a 1) (-1) y ≤ 40000 := fun y => yv_rng (b4 1) (by omega)
  have y2 : ∀ y, -1 ≤ yv (a 2) 0 y ∧ yv (a 2) 0 y ≤ 40000 := fun y => yv_rng (b4 2) (by omega)
  have y3 : ∀ y, -1 ≤ yv (a 3) 0 y ∧ yv (a 3) 0 y ≤ 40000 := fun y => yv_rng (b4 3) (by omega)
  have hx : nxt F = if F 3 < 19 then F 3 + 1 else -1 := rfl
  refine V_aload_n C dX3_isLapsed_0 rfl ?_
  refine V_callV (fr := 0) (lo := 0) (mc := 0) (ms := 0) (As := []) C yvX3_nextYear w_249 dX3_isLapsed_1 rfl rfl (by first | assumption | exact mset_self _ _ _ | (refine (mset_ne (by omega)).trans ?_; first | assumption | exact mset_self _ _ _ | (refine (mset_ne (by omega)).trans ?_; first | assumption | exact mset_self _ _ _ | (refine (mset_ne (by omega)).trans ?_; first | assumption | exact mset_self _ _ _)))) (by (try simp only [mset_1]); omega) rfl rfl (Nat.le_of_ble_eq_true rfl) ⟨Nat.le_of_ble_eq_true rfl, Nat.le_of_ble_eq_true rfl⟩ ⟨Nat.le_of_ble_eq_true rfl, Nat.le_of_ble_eq_true rfl⟩ ?_
  refine ok_X3_nextYear hR9 hB9 ?_
  refine V_istore_n C dX3_isLapsed_4 (by decide) ?_
  refine V_iload_n C dX3_isLapsed_5 rfl ?_
  refine V_iconst C dX3_isLapsed_6 ?_
  refine V_icmp_eq C dX3_isLapsed_7 (tgt := 23) (by decide) (by omega) (by omega) (fun g7 => ?_) (fun g7 => ?_)
  · refine V_iconst C dX3_isLapsed_23 ?_
    exact V_zret C hr (by omega) dX3_isLapsed_24 (hF (fun o => by have o1 := o.1; omega))
  · have e9 : nxt F = F 3 + 1 := by omega
    rw [e9]
    have y1e := y1 (F 3 + 1)
    refine V_iload_n C dX3_isLapsed_10 rfl ?_
    refine V_aload_n C dX3_isLapsed_11 rfl ?_
    refine V_iload_n C dX3_isLapsed_12 rfl ?_
    refine V_callV (fr := 0) (lo := 0) (mc := 0) (ms := 0) (As := [_]) C yvX3_graceOf w_250 dX3_isLapsed_13 rfl rfl (by first | assumption | exact mset_self _ _ _ | (refine (mset_ne (by omega)).trans ?_; first | assumption | exact mset_self _ _ _ | (refine (mset_ne (by omega)).trans ?_; first | assumption | exact mset_self _ _ _ | (refine (mset_ne (by omega)).trans ?_; first | assumption | exact mset_self _ _ _)))) (by (try simp only [mset_1]); omega) rfl rfl (Nat.le_of_ble_eq_true rfl) ⟨Nat.le_of_ble_eq_true rfl, Nat.le_of_ble_eq_true rfl⟩ ⟨Nat.le_of_ble_eq_true rfl, Nat.le_of_ble_eq_true rfl⟩ ?_
    refine ok_X3_graceOf hR9 hB9 (by omega) ?_
    refine V_icmp_le C dX3_isLapsed_16 (tgt := 23) (by decide) (by omega) (by omega) (fun g16 => ?_) (fun g16 => ?_)
    · refine V_iconst C dX3_isLapsed_23 ?_
      exact V_zret C hr (by omega) dX3_isLapsed_24 (hF (fun o => by have o1 := o.2; omega))
    · refine V_iconst C dX3_isLapsed_19 ?_
      refine V_goto C dX3_isLapsed_20 (tgt := 24) (by decide) ?_
      exact V_zret C hr (by omega) dX3_isLapsed_24 (hT ⟨by omega, by omega⟩)

set_option maxHeartbeats 400000 in
set_option maxRecDepth 4000 in
theorem ok_X3_isInGap {l : Launch} {D : va_G} {cy : Nat → ClassId} {z : Nat} {M : Mm} {K : Option Value → Mm → Prop} {r : Nat} {F : Nat → Int} {a : Nat → Nat → Int} (hR : RightAt cy z M r F a) (hB : RB F a) {d : Int} (hd : -1 ≤ d ∧ d ≤ 100000) (hT : gapB a d (F 3).toNat = true → K (some (iv 1)) M) (hF : gapB a d (F 3).toNat = false → K (some (iv 0)) M) :
    MT l D cy z false yX3_isInGap (wsy yX3_isInGap cX3_isInGap 3 (some .boolean)) 1 21 0 0 M [.ref (z + r), iv d] K := by
  refine MT_of (by decide) w_406 (Nat.le_of_ble_eq_true rfl) ?_
  intro p e s m args below meth c C hr hx0
  have hR9 := hR
  have hB9 := hB
  obtain ⟨hn, m0, m1, m2, m3, m4, m5⟩ := hR
  obtain ⟨b0, b1, b2, b3, b4⟩ := hB
  have y0 : ∀ y, -1 ≤ yv (a 0) (-1) y ∧ yv (a 0) (-1) y ≤ 40000 := fun y => yv_rng (b4 0) (by omega)
  have y1 : ∀ y, -1 ≤ yv (a 1) (-1) y ∧ yv (a 1) (-1) y ≤ 40000 := fun y => yv_rng (b4 1) (by omega)
  have y2 : ∀ y, -1 ≤ yv (a 2) 0 y ∧ yv (a 2) 0 y ≤ 40000 := fun y => yv_rng (b4 2) (by omega)
  have y3 : ∀ y, -1 ≤ yv (a 3) 0 y ∧ yv (a 3) 0 y ≤ 40000 := fun y => yv_rng (b4 3) (by omega)
  have hx : nxt F = if F 3 < 19 then F 3 + 1 else -1 := rfl
  have loop : ∀ (n : Nat) (n9 : Nat), ((n9 : Int) ≤ F 3) → (gapB a d n9 = false) → 20 - n9 < n → V p l e { frames := 1, cells := 0, slots := 0, locals := 21 } s m args below meth c D z 3 (MQ below (qc_ D z K) args s 0 0 (fun q => z ≤ q)) 0 0 M 2 [(0, .ref (z + r)), (1, iv d), (2, iv (((n9 : Int) : Int) + 1))] [] := by
    intro n
    induction n with
    | zero => intro n9 hi0 hi1 hfu; exact absurd hfu (Nat.not_lt_zero _)
    | succ n ih =>
      intro n9 hi0 hi1 hfu
      refine V_iload_n C dX3_isInGap_2 rfl ?_
      refine V_aload_n C dX3_isInGap_3 rfl ?_
      refine V_get C fg_X3_22 dX3_isInGap_4 (by first | assumption | exact mset_self _ _ _ | (refine (mset_ne (by omega)).trans ?_; first | assumption | exact mset_self _ _ _ | (refine (mset_ne (by omega)).trans ?_; first | assumption | exact mset_self _ _ _ | (refine (mset_ne (by omega)).trans ?_; first | assumption | exact mset_self _ _ _)))) (by (try simp only [mset_1]); omega) (by rfl) ?_
      refine V_icmp_gt C dX3_isInGap_7 (tgt := 42) (by decide) (by omega) (by omega) (fun g7 => ?_) (fun g7 => ?_)
      · refine V_iconst C dX3_isInGap_42 ?_
        exact V_zret C hr (by omega) dX3_isInGap_43 (hF (by rw [show (F 3).toNat = n9 by omega]; exact hi1))
      · refine V_iload_n C dX3_isInGap_10 rfl ?_
        refine V_bipush C dX3_isInGap_11 (by decide) ?_
        refine V_icmp_gt C dX3_isInGap_13 (tgt := 42) (by decide) (by omega) (by omega) (fun g13 => ?_) (fun g13 => ?_)
        · exact absurd g13 (by omega)
        · refine V_iload_n C dX3_isInGap_16 rfl ?_
          refine V_aload_n C dX3_isInGap_17 rfl ?_
          refine V_iload_n C dX3_isInGap_18 rfl ?_
          refine V_callV (fr := 0) (lo := 0) (mc := 0) (ms := 0) (As := [_]) C yvX3_dueOf w_402 dX3_isInGap_19 rfl rfl (by first | assumption | exact mset_self _ _ _ | (refine (mset_ne (by omega)).trans ?_; first | assumption | exact mset_self _ _ _ | (refine (mset_ne (by omega)).trans ?_; first | assumption | exact mset_self _ _ _ | (refine (mset_ne (by omega)).trans ?_; first | assumption | exact mset_self _ _ _)))) (by (try simp only [mset_1]); omega) rfl rfl (Nat.le_of_ble_eq_true rfl) ⟨Nat.le_of_ble_eq_true rfl, Nat.le_of_ble_eq_true rfl⟩ ⟨Nat.le_of_ble_eq_true rfl, Nat.le_of_ble_eq_true rfl⟩ ?_
          refine ok_X3_dueOf hR9 hB9 (by omega) ?_
          rw [yv_nat (by omega)]
          have q0 := b4 0 (n9 + 1)
          refine V_icmp_le C dX3_isInGap_22 (tgt := 36) (by decide) (by omega) (by omega) (fun g22 => ?_) (fun g22 => ?_)
          · have hno : ¬ (a 0 (n9 + 1) < d ∧ d < a 3 (n9 + 1)) := fun o => by omega
            refine V_iinc C dX3_isInGap_36 rfl (by decide) ?_
            refine V_goto C dX3_isInGap_39 (tgt := 2) (by decide) ?_
            refine V_lv [(0, .ref (z + r)), (1, iv d), (2, iv ((((n9 + 1 : Nat) : Int) : Int) + 1))] (List.forall_mem_cons.mpr ⟨(by first | rfl | exact congrArg (fun t => some (iv t)) (by push_cast; omega)), (List.forall_mem_cons.mpr ⟨(by first | rfl | exact congrArg (fun t => some (iv t)) (by push_cast; omega)), (List.forall_mem_cons.mpr ⟨(by first | rfl | exact congrArg (fun t => some (iv t)) (by push_cast; omega)), (fun _ h => nomatch h)⟩)⟩)⟩) ?_
            exact ih (n9 + 1) (by omega) (by rw [gapB, hi1]; simpa using hno) (by omega)
          · refine V_iload_n C dX3_isInGap_25 rfl ?_
            refine V_aload_n C dX3_isInGap_26 rfl ?_
            refine V_iload_n C dX3_isInGap_27 rfl ?_
            refine V_callV (fr := 0) (lo := 0) (mc := 0) (ms := 0) (As := [_]) C yvX3_revivalOf w_407 dX3_isInGap_28 rfl rfl (by first | assumption | exact mset_self _ _ _ | (refine (mset_ne (by omega)).trans ?_; first | assumption | exact mset_self _ _ _ | (refine (mset_ne (by omega)).trans ?_; first | assumption | exact mset_self _ _ _ | (refine (mset_ne (by omega)).trans ?_; first | assumption | exact mset_self _ _ _)))) (by (try simp only [mset_1]); omega) rfl rfl (Nat.le_of_ble_eq_true rfl) ⟨Nat.le_of_ble_eq_true rfl, Nat.le_of_ble_eq_true rfl⟩ ⟨Nat.le_of_ble_eq_true rfl, Nat.le_of_ble_eq_true rfl⟩ ?_
            refine ok_X3_revivalOf hR9 hB9 (by omega) ?_
            rw [yv_nat (by omega)]
            have q3 := b4 3 (n9 + 1)
            refine V_icmp_ge C dX3_isInGap_31 (tgt := 36) (by decide) (by omega) (by omega) (fun g31 => ?_) (fun g31 => ?_)
            · have hno : ¬ (a 0 (n9 + 1) < d ∧ d < a 3 (n9 + 1)) := fun o => by omega
              refine V_iinc C dX3_isInGap_36 rfl (by decide) ?_
              refine V_goto C dX3_isInGap_39 (tgt := 2) (by decide) ?_
              refine V_lv [(0, .ref (z + r)), (1, iv d), (2, iv ((((n9 + 1 : Nat) : Int) : Int) + 1))] (List.forall_mem_cons.mpr ⟨(by first | rfl | exact congrArg (fun t => some (iv t)) (by push_cast; omega)), (List.forall_mem_cons.mpr ⟨(by first | rfl | exact congrArg (fun t => some (iv t)) (by push_cast; omega)), (List.forall_mem_cons.mpr ⟨(by first | rfl | exact congrArg (fun t => some (iv t)) (by push_cast; omega)), (fun _ h => nomatch h)⟩)⟩)⟩) ?_
              exact ih (n9 + 1) (by omega) (by rw [gapB, hi1]; simpa using hno) (by omega)
            · refine V_iconst C dX3_isInGap_34 ?_
              exact V_zret C hr (by omega) dX3_isInGap_35 (hT (gapB_iff.mpr ⟨n9, by omega, by omega, by omega⟩))
  refine V_iconst C dX3_isInGap_0 ?_
  refine V_istore_n C dX3_isInGap_1 (by decide) ?_
  refine V_lv [(0, .ref (z + r)), (1, iv d), (2, iv ((((0 : Nat) : Int) : Int) + 1))] (List.forall_mem_cons.mpr ⟨(by first | rfl | exact congrArg (fun t => some (iv t)) (by push_cast; omega)), (List.forall_mem_cons.mpr ⟨(by first | rfl | exact congrArg (fun t => some (iv t)) (by push_cast; omega)), (List.forall_mem_cons.mpr ⟨(by first | rfl | exact congrArg (fun t => some (iv t)) (by push_cast; omega)), (fun _ h => nomatch h)⟩)⟩)⟩) ?_
  exact loop 21 0 (by omega) rfl (by omega)

set_option maxHeartbeats 400000 in
set_option maxRecDepth 4000 in
theorem ok_X3_stoodOn {l : Launch} {D : va_G} {cy : Nat → ClassId} {z : Nat} {M : Mm} {K : Option Value → Mm → Prop} {r : Nat} {F : Nat → Int} {a : Nat → Nat → Int} (hR : RightAt cy z M r F a) (hB : RB F a) {d : Int} (hd : -1 ≤ d ∧ d ≤ 100000) {t : Int} (ht : -1 ≤ t ∧ t ≤ 100000) (hT : stoodR F a d t → K (some (iv 1)) M) (hF : ¬ (stoodR F a d t) → K (some (iv 0)) M) :
    MT l D cy z false yX3_stoodOn (wsy yX3_stoodOn cX3_stoodOn 3 (some .boolean)) 2 43 0 0 M [.ref (z + r), iv d, iv t] K := by
  refine MT_of (by decide) w_400 (Nat.le_of_ble_eq_true rfl) ?_
  intro p e s m args below meth c C hr hx0
  have hR9 := hR
  have hB9 := hB
  obtain ⟨hn, m0, m1, m2, m3, m4, m5⟩ := hR
  obtain ⟨b0, b1, b2, b3, b4⟩ := hB
  have y0 : ∀ y, -1 ≤ yv (a 0) (-1) y ∧ yv (a 0) (-1) y ≤ 40000 := fun y => yv_rng (b4 0) (by omega)
  have y1 : ∀ y, -1 ≤ yv (a 1) (-1) y ∧ yv (a 1) (-1) y ≤ 40000 := fun y => yv_rng (b4 1) (by omega)
  have y2 : ∀ y, -1 ≤ yv (a 2) 0 y ∧ yv (a 2) 0 y ≤ 40000 := fun y => yv_rng (b4 2) (by omega)
  have y3 : ∀ y, -1 ≤ yv (a 3) 0 y ∧ yv (a 3) 0 y ≤ 40000 := fun y => yv_rng (b4 3) (by omega)
  have hx : nxt F = if F 3 < 19 then F 3 + 1 else -1 := rfl
  refine V_iload_n C dX3_stoodOn_0 rfl ?_
  refine V_aload_n C dX3_stoodOn_1 rfl ?_
  refine V_get C fg_X3_9 dX3_stoodOn_2 (by first | assumption | exact mset_self _ _ _ | (refine (mset_ne (by omega)).trans ?_; first | assumption | exact mset_self _ _ _ | (refine (mset_ne (by omega)).trans ?_; first | assumption | exact mset_self _ _ _ | (refine (mset_ne (by omega)).trans ?_; first | assumption | exact mset_self _ _ _)))) (by (try simp only [mset_1]); omega) (by rfl) ?_
  refine V_icmp_lt C dX3_stoodOn_5 (tgt := 16) (by decide) (by omega) (by omega) (fun g5 => ?_) (fun g5 => ?_)
  · refine V_iconst C dX3_stoodOn_16 ?_
    exact V_zret C hr (by omega) dX3_stoodOn_17 (hF (fun o => by have o1 := o.1; have o2 := o.2.1; omega))
  · refine V_iload_n C dX3_stoodOn_8 rfl ?_
    refine V_aload_n C dX3_stoodOn_9 rfl ?_
    refine V_get C fg_X3_15 dX3_stoodOn_10 (by first | assumption | exact mset_self _ _ _ | (refine (mset_ne (by omega)).trans ?_; first | assumption | exact mset_self _ _ _ | (refine (mset_ne (by omega)).trans ?_; first | assumption | exact mset_self _ _ _ | (refine (mset_ne (by omega)).trans ?_; first | assumption | exact mset_self _ _ _)))) (by (try simp only [mset_1]); omega) (by rfl) ?_
    refine V_icmp_le C dX3_stoodOn_13 (tgt := 18) (by decide) (by omega) (by omega) (fun g13 => ?_) (fun g13 => ?_)
    · refine V_aload_n C dX3_stoodOn_18 rfl ?_
      refine V_iload_n C dX3_stoodOn_19 rfl ?_
      refine V_callV (fr := 1) (lo := 21) (mc := 0) (ms := 0) (As := [_]) C yvX3_isLapsed w_401 dX3_stoodOn_20 rfl rfl (by first | assumption | exact mset_self _ _ _ | (refine (mset_ne (by omega)).trans ?_; first | assumption | exact mset_self _ _ _ | (refine (mset_ne (by omega)).trans ?_; first | assumption | exact mset_self _ _ _ | (refine (mset_ne (by omega)).trans ?_; first | assumption | exact mset_self _ _ _)))) (by (try simp only [mset_1]); omega) rfl rfl (Nat.le_of_ble_eq_true rfl) ⟨Nat.le_of_ble_eq_true rfl, Nat.le_of_ble_eq_true rfl⟩ ⟨Nat.le_of_ble_eq_true rfl, Nat.le_of_ble_eq_true rfl⟩ ?_
      refine ok_X3_isLapsed hR9 hB9 (by omega) (fun hl => ?_) (fun hl => ?_)
      · refine V_ifeq1 C dX3_stoodOn_23 (tgt := 40) (by decide) ?_
        refine V_iload_n C dX3_stoodOn_26 rfl ?_
        refine V_aload_n C dX3_stoodOn_27 rfl ?_
        refine V_aload_n C dX3_stoodOn_28 rfl ?_
        refine V_callV (fr := 0) (lo := 0) (mc := 0) (ms := 0) (As := []) C yvX3_nextYear w_249 dX3_stoodOn_29 rfl rfl (by first | assumption | exact mset_self _ _ _ | (refine (mset_ne (by omega)).trans ?_; first | assumption | exact mset_self _ _ _ | (refine (mset_ne (by omega)).trans ?_; first | assumption | exact mset_self _ _ _ | (refine (mset_ne (by omega)).trans ?_; first | assumption | exact mset_self _ _ _)))) (by (try simp only [mset_1]); omega) rfl rfl (Nat.le_of_ble_eq_true rfl) ⟨Nat.le_of_ble_eq_true rfl, Nat.le_of_ble_eq_true rfl⟩ ⟨Nat.le_of_ble_eq_true rfl, Nat.le_of_ble_eq_true rfl⟩ ?_
        refine ok_X3_nextYear hR9 hB9 ?_
        have e9 : nxt F = F 3 + 1 := nxt_lap hl.1
        rw [e9]
        have y0e := y0 (F 3 + 1)
        refine V_callV (fr := 0) (lo := 0) (mc := 0) (ms := 0) (As := [_]) C yvX3_dueOf w_402 dX3_stoodOn_32 rfl rfl (by first | assumption | exact mset_self _ _ _ | (refine (mset_ne (by omega)).trans ?_; first | assumption | exact mset_self _ _ _ | (refine (mset_ne (by omega)).trans ?_; first | assumption | exact mset_self _ _ _ | (refine (mset_ne (by omega)).trans ?_; first | assumption | exact mset_self _ _ _)))) (by (try simp only [mset_1]); omega) rfl rfl (Nat.le_of_ble_eq_true rfl) ⟨Nat.le_of_ble_eq_true rfl, Nat.le_of_ble_eq_true rfl⟩ ⟨Nat.le_of_ble_eq_true rfl, Nat.le_of_ble_eq_true rfl⟩ ?_
        refine ok_X3_dueOf hR9 hB9 (by omega) ?_
        refine V_icmp_le C dX3_stoodOn_35 (tgt := 40) (by decide) (by omega) (by omega) (fun g35 => ?_) (fun g35 => ?_)
        · refine V_aload_n C dX3_stoodOn_40 rfl ?_
          refine V_iload_n C dX3_stoodOn_41 rfl ?_
          refine V_callV (fr := 1) (lo := 21) (mc := 0) (ms := 0) (As := [_]) C yvX3_isInGap w_403 dX3_stoodOn_42 rfl rfl (by first | assumption | exact mset_self _ _ _ | (refine (mset_ne (by omega)).trans ?_; first | assumption | exact mset_self _ _ _ | (refine (mset_ne (by omega)).trans ?_; first | assumption | exact mset_self _ _ _ | (refine (mset_ne (by omega)).trans ?_; first | assumption | exact mset_self _ _ _)))) (by (try simp only [mset_1]); omega) rfl rfl (Nat.le_of_ble_eq_true rfl) ⟨Nat.le_of_ble_eq_true rfl, Nat.le_of_ble_eq_true rfl⟩ ⟨Nat.le_of_ble_eq_true rfl, Nat.le_of_ble_eq_true rfl⟩ ?_
          refine ok_X3_isInGap hR9 hB9 (by omega) (fun hg => ?_) (fun hg => ?_)
          · refine V_ifne1 C dX3_stoodOn_45 (tgt := 52) (by decide) ?_
            refine V_iconst C dX3_stoodOn_52 ?_
            exact V_zret C hr (by omega) dX3_stoodOn_53 (hF (fun o => by rw [o.2.2.2] at hg; cases hg))
          · refine V_ifne0 C dX3_stoodOn_45 (tgt := 52) (by decide) ?_
            refine V_iconst C dX3_stoodOn_48 ?_
            refine V_goto C dX3_stoodOn_49 (tgt := 53) (by decide) ?_
            exact V_zret C hr (by omega) dX3_stoodOn_53 (hT ⟨by omega, by omega, fun o => by have o2 := o.2; omega, hg⟩)
        · refine V_iconst C dX3_stoodOn_38 ?_
          exact V_zret C hr (by omega) dX3_stoodOn_39 (hF (fun o => o.2.2.1 ⟨hl, by omega⟩))
      · refine V_ifeq0 C dX3_stoodOn_23 (tgt := 40) (by decide) ?_
        refine V_aload_n C dX3_stoodOn_40 rfl ?_
        refine V_iload_n C dX3_stoodOn_41 rfl ?_
        refine V_callV (fr := 1) (lo := 21) (mc := 0) (ms := 0) (As := [_]) C yvX3_isInGap w_403 dX3_stoodOn_42 rfl rfl (by first | assumption | exact mset_self _ _ _ | (refine (mset_ne (by omega)).trans ?_; first | assumption | exact mset_self _ _ _ | (refine (mset_ne (by omega)).trans ?_; first | assumption | exact mset_self _ _ _ | (refine (mset_ne (by omega)).trans ?_; first | assumption | exact mset_self _ _ _)))) (by (try simp only [mset_1]); omega) rfl rfl (Nat.le_of_ble_eq_true rfl) ⟨Nat.le_of_ble_eq_true rfl, Nat.le_of_ble_eq_true rfl⟩ ⟨Nat.le_of_ble_eq_true rfl, Nat.le_of_ble_eq_true rfl⟩ ?_
        refine ok_X3_isInGap hR9 hB9 (by omega) (fun hg => ?_) (fun hg => ?_)
        · refine V_ifne1 C dX3_stoodOn_45 (tgt := 52) (by decide) ?_
          refine V_iconst C dX3_stoodOn_52 ?_
          exact V_zret C hr (by omega) dX3_stoodOn_53 (hF (fun o => by rw [o.2.2.2] at hg; cases hg))
        · refine V_ifne0 C dX3_stoodOn_45 (tgt := 52) (by decide) ?_
          refine V_iconst C dX3_stoodOn_48 ?_
          refine V_goto C dX3_stoodOn_49 (tgt := 53) (by decide) ?_
          exact V_zret C hr (by omega) dX3_stoodOn_53 (hT ⟨by omega, by omega, fun o => hl o.1, hg⟩)
    · refine V_iconst C dX3_stoodOn_16 ?_
      exact V_zret C hr (by omega) dX3_stoodOn_17 (hF (fun o => by have o1 := o.1; have o2 := o.2.1; omega))

set_option maxHeartbeats 400000 in
set_option maxRecDepth 4000 in
theorem ok_X3_paidForOn {l : Launch} {D : va_G} {cy : Nat → ClassId} {z : Nat} {M : Mm} {K : Option Value → Mm → Prop} {r : Nat} {F : Nat → Int} {a : Nat → Nat → Int} (hR : RightAt cy z M r F a) (hB : RB F a) {d : Int} (hd : -1 ≤ d ∧ d ≤ 100000) {t : Int} (ht : -1 ≤ t ∧ t ≤ 100000) (hT : covR F a d t → K (some (iv 1)) M) (hF : ¬ (covR F a d t) → K (some (iv 0)) M) :
    MT l D cy z false yX3_paidForOn (wsy yX3_paidForOn cX3_paidForOn 6 (some .boolean)) 1 21 0 0 M [.ref (z + r), iv d, iv t] K := by
  refine MT_of (by decide) w_716 (Nat.le_of_ble_eq_true rfl) ?_
  intro p e s m args below meth c C hr hx0
  have hR9 := hR
  have hB9 := hB
  obtain ⟨hn, m0, m1, m2, m3, m4, m5⟩ := hR
  obtain ⟨b0, b1, b2, b3, b4⟩ := hB
  have y0 : ∀ y, -1 ≤ yv (a 0) (-1) y ∧ yv (a 0) (-1) y ≤ 40000 := fun y => yv_rng (b4 0) (by omega)
  have y1 : ∀ y, -1 ≤ yv (a 1) (-1) y ∧ yv (a 1) (-1) y ≤ 40000 := fun y => yv_rng (b4 1) (by omega)
  have y2 : ∀ y, -1 ≤ yv (a 2) 0 y ∧ yv (a 2) 0 y ≤ 40000 := fun y => yv_rng (b4 2) (by omega)
  have y3 : ∀ y, -1 ≤ yv (a 3) 0 y ∧ yv (a 3) 0 y ≤ 40000 := fun y => yv_rng (b4 3) (by omega)
  have hx : nxt F = if F 3 < 19 then F 3 + 1 else -1 := rfl
  have loop9 : ∀ (n : Nat) (n9 : Nat), (F 0 ≤ d ∧ d ≤ F 1) → (¬ (lapR F a t ∧ yv (a 0) (-1) (F 3 + 1) < d)) → ((n9 : Int) ≤ F 3) → (payB a d n9 = false) → 20 - n9 < n → V p l e { frames := 1, cells := 0, slots := 0, locals := 21 } s m args below meth c D z 6 (MQ below (qc_ D z K) args s 0 0 (fun q => z ≤ q)) 0 0 M 51 [(0, .ref (z + r)), (1, iv d), (2, iv t), (3, iv (nxt F)), (4, iv (((n9 : Int) : Int) + 1))] [] := by
    intro n
    induction n with
    | zero => intro n9 hi0 hi1 hi2 hi3 hfu; exact absurd hfu (Nat.not_lt_zero _)
    | succ n ih =>
      intro n9 hi0 hi1 hi2 hi3 hfu
      refine V_iload C dX3_paidForOn_51 rfl ?_
      refine V_aload_n C dX3_paidForOn_53 rfl ?_
      refine V_get C fg_X3_22 dX3_paidForOn_54 (by first | assumption | exact mset_self _ _ _ | (refine (mset_ne (by omega)).trans ?_; first | assumption | exact mset_self _ _ _ | (refine (mset_ne (by omega)).trans ?_; first | assumption | exact mset_self _ _ _ | (refine (mset_ne (by omega)).trans ?_; first | assumption | exact mset_self _ _ _)))) (by (try simp only [mset_1]); omega) (by rfl) ?_
      refine V_icmp_gt C dX3_paidForOn_57 (tgt := 110) (by decide) (by omega) (by omega) (fun g57 => ?_) (fun g57 => ?_)
      · refine V_iconst C dX3_paidForOn_110 ?_
        exact V_zret C hr (by omega) dX3_paidForOn_111 (hT ⟨by omega, by omega, hi1, by rw [show (F 3).toNat = n9 by omega]; exact hi3⟩)
      · refine V_iload C dX3_paidForOn_60 rfl ?_
        refine V_bipush C dX3_paidForOn_62 (by decide) ?_
        refine V_icmp_gt C dX3_paidForOn_64 (tgt := 110) (by decide) (by omega) (by omega) (fun g64 => ?_) (fun g64 => ?_)
        · exact absurd g64 (by omega)
        · refine V_aload_n C dX3_paidForOn_67 rfl ?_
          refine V_iload C dX3_paidForOn_68 rfl ?_
          refine V_callV (fr := 0) (lo := 0) (mc := 0) (ms := 0) (As := [_]) C yvX3_paymentOf w_717 dX3_paidForOn_70 rfl rfl (by first | assumption | exact mset_self _ _ _ | (refine (mset_ne (by omega)).trans ?_; first | assumption | exact mset_self _ _ _ | (refine (mset_ne (by omega)).trans ?_; first | assumption | exact mset_self _ _ _ | (refine (mset_ne (by omega)).trans ?_; first | assumption | exact mset_self _ _ _)))) (by (try simp only [mset_1]); omega) rfl rfl (Nat.le_of_ble_eq_true rfl) ⟨Nat.le_of_ble_eq_true rfl, Nat.le_of_ble_eq_true rfl⟩ ⟨Nat.le_of_ble_eq_true rfl, Nat.le_of_ble_eq_true rfl⟩ ?_
          refine ok_X3_paymentOf hR9 hB9 (by omega) ?_
          rw [yv_nat (by omega)]
          have q2 := b4 2 (n9 + 1)
          refine V_istore C dX3_paidForOn_73 (by decide) ?_
          refine V_iload C dX3_paidForOn_75 rfl ?_
          refine V_aload_n C dX3_paidForOn_77 rfl ?_
          refine V_iload C dX3_paidForOn_78 rfl ?_
          refine V_callV (fr := 0) (lo := 0) (mc := 0) (ms := 0) (As := [_]) C yvX3_graceOf w_250 dX3_paidForOn_80 rfl rfl (by first | assumption | exact mset_self _ _ _ | (refine (mset_ne (by omega)).trans ?_; first | assumption | exact mset_self _ _ _ | (refine (mset_ne (by omega)).trans ?_; first | assumption | exact mset_self _ _ _ | (refine (mset_ne (by omega)).trans ?_; first | assumption | exact mset_self _ _ _)))) (by (try simp only [mset_1]); omega) rfl rfl (Nat.le_of_ble_eq_true rfl) ⟨Nat.le_of_ble_eq_true rfl, Nat.le_of_ble_eq_true rfl⟩ ⟨Nat.le_of_ble_eq_true rfl, Nat.le_of_ble_eq_true rfl⟩ ?_
          refine ok_X3_graceOf hR9 hB9 (by omega) ?_
          rw [yv_nat (by omega)]
          have q1 := b4 1 (n9 + 1)
          refine V_icmp_le C dX3_paidForOn_83 (tgt := 104) (by decide) (by omega) (by omega) (fun g83 => ?_) (fun g83 => ?_)
          · have hno : ¬ (a 1 (n9 + 1) < a 2 (n9 + 1) ∧ a 0 (n9 + 1) < d ∧ d < a 2 (n9 + 1)) := fun o => by omega
            refine V_iinc C dX3_paidForOn_104 rfl (by decide) ?_
            refine V_goto C dX3_paidForOn_107 (tgt := 51) (by decide) ?_
            refine V_lv [(0, .ref (z + r)), (1, iv d), (2, iv t), (3, iv (nxt F)), (4, iv ((((n9 + 1 : Nat) : Int) : Int) + 1))] (List.forall_mem_cons.mpr ⟨(by first | rfl | exact congrArg (fun t => some (iv t)) (by push_cast; omega)), (List.forall_mem_cons.mpr ⟨(by first | rfl | exact congrArg (fun t => some (iv t)) (by push_cast; omega)), (List.forall_mem_cons.mpr ⟨(by first | rfl | exact congrArg (fun t => some (iv t)) (by push_cast; omega)), (List.forall_mem_cons.mpr ⟨(by first | rfl | exact congrArg (fun t => some (iv t)) (by push_cast; omega)), (List.forall_mem_cons.mpr ⟨(by first | rfl | exact congrArg (fun t => some (iv t)) (by push_cast; omega)), (fun _ h => nomatch h)⟩)⟩)⟩)⟩)⟩) ?_
            exact ih (n9 + 1) hi0 hi1 (by omega) (by rw [payB, hi3]; simpa using hno) (by omega)
          · refine V_iload_n C dX3_paidForOn_86 rfl ?_
            refine V_aload_n C dX3_paidForOn_87 rfl ?_
            refine V_iload C dX3_paidForOn_88 rfl ?_
            refine V_callV (fr := 0) (lo := 0) (mc := 0) (ms := 0) (As := [_]) C yvX3_dueOf w_402 dX3_paidForOn_90 rfl rfl (by first | assumption | exact mset_self _ _ _ | (refine (mset_ne (by omega)).trans ?_; first | assumption | exact mset_self _ _ _ | (refine (mset_ne (by omega)).trans ?_; first | assumption | exact mset_self _ _ _ | (refine (mset_ne (by omega)).trans ?_; first | assumption | exact mset_self _ _ _)))) (by (try simp only [mset_1]); omega) rfl rfl (Nat.le_of_ble_eq_true rfl) ⟨Nat.le_of_ble_eq_true rfl, Nat.le_of_ble_eq_true rfl⟩ ⟨Nat.le_of_ble_eq_true rfl, Nat.le_of_ble_eq_true rfl⟩ ?_
            refine ok_X3_dueOf hR9 hB9 (by omega) ?_
            rw [yv_nat (by omega)]
            have q0 := b4 0 (n9 + 1)
            refine V_icmp_le C dX3_paidForOn_93 (tgt := 104) (by decide) (by omega) (by omega) (fun g93 => ?_) (fun g93 => ?_)
            · have hno : ¬ (a 1 (n9 + 1) < a 2 (n9 + 1) ∧ a 0 (n9 + 1) < d ∧ d < a 2 (n9 + 1)) := fun o => by omega
              refine V_iinc C dX3_paidForOn_104 rfl (by decide) ?_
              refine V_goto C dX3_paidForOn_107 (tgt := 51) (by decide) ?_
              refine V_lv [(0, .ref (z + r)), (1, iv d), (2, iv t), (3, iv (nxt F)), (4, iv ((((n9 + 1 : Nat) : Int) : Int) + 1))] (List.forall_mem_cons.mpr ⟨(by first | rfl | exact congrArg (fun t => some (iv t)) (by push_cast; omega)), (List.forall_mem_cons.mpr ⟨(by first | rfl | exact congrArg (fun t => some (iv t)) (by push_cast; omega)), (List.forall_mem_cons.mpr ⟨(by first | rfl | exact congrArg (fun t => some (iv t)) (by push_cast; omega)), (List.forall_mem_cons.mpr ⟨(by first | rfl | exact congrArg (fun t => some (iv t)) (by push_cast; omega)), (List.forall_mem_cons.mpr ⟨(by first | rfl | exact congrArg (fun t => some (iv t)) (by push_cast; omega)), (fun _ h => nomatch h)⟩)⟩)⟩)⟩)⟩) ?_
              exact ih (n9 + 1) hi0 hi1 (by omega) (by rw [payB, hi3]; simpa using hno) (by omega)
            · refine V_iload_n C dX3_paidForOn_96 rfl ?_
              refine V_iload C dX3_paidForOn_97 rfl ?_
              refine V_icmp_ge C dX3_paidForOn_99 (tgt := 104) (by decide) (by omega) (by omega) (fun g99 => ?_) (fun g99 => ?_)
              · have hno : ¬ (a 1 (n9 + 1) < a 2 (n9 + 1) ∧ a 0 (n9 + 1) < d ∧ d < a 2 (n9 + 1)) := fun o => by omega
                refine V_iinc C dX3_paidForOn_104 rfl (by decide) ?_
                refine V_goto C dX3_paidForOn_107 (tgt := 51) (by decide) ?_
                refine V_lv [(0, .ref (z + r)), (1, iv d), (2, iv t), (3, iv (nxt F)), (4, iv ((((n9 + 1 : Nat) : Int) : Int) + 1))] (List.forall_mem_cons.mpr ⟨(by first | rfl | exact congrArg (fun t => some (iv t)) (by push_cast; omega)), (List.forall_mem_cons.mpr ⟨(by first | rfl | exact congrArg (fun t => some (iv t)) (by push_cast; omega)), (List.forall_mem_cons.mpr ⟨(by first | rfl | exact congrArg (fun t => some (iv t)) (by push_cast; omega)), (List.forall_mem_cons.mpr ⟨(by first | rfl | exact congrArg (fun t => some (iv t)) (by push_cast; omega)), (List.forall_mem_cons.mpr ⟨(by first | rfl | exact congrArg (fun t => some (iv t)) (by push_cast; omega)), (fun _ h => nomatch h)⟩)⟩)⟩)⟩)⟩) ?_
                exact ih (n9 + 1) hi0 hi1 (by omega) (by rw [payB, hi3]; simpa using hno) (by omega)
              · refine V_iconst C dX3_paidForOn_102 ?_
                exact V_zret C hr (by omega) dX3_paidForOn_103 (hF (fun o => by have o1 := o.2.2.2; rw [payB_iff.mpr ⟨n9, by omega, by omega, by omega, by omega⟩] at o1; cases o1))
  refine V_iload_n C dX3_paidForOn_0 rfl ?_
  refine V_aload_n C dX3_paidForOn_1 rfl ?_
  refine V_get C fg_X3_9 dX3_paidForOn_2 (by first | assumption | exact mset_self _ _ _ | (refine (mset_ne (by omega)).trans ?_; first | assumption | exact mset_self _ _ _ | (refine (mset_ne (by omega)).trans ?_; first | assumption | exact mset_self _ _ _ | (refine (mset_ne (by omega)).trans ?_; first | assumption | exact mset_self _ _ _)))) (by (try simp only [mset_1]); omega) (by rfl) ?_
  refine V_icmp_lt C dX3_paidForOn_5 (tgt := 16) (by decide) (by omega) (by omega) (fun g5 => ?_) (fun g5 => ?_)
  · refine V_iconst C dX3_paidForOn_16 ?_
    exact V_zret C hr (by omega) dX3_paidForOn_17 (hF (fun o => by have o1 := o.1; have o2 := o.2.1; omega))
  · refine V_iload_n C dX3_paidForOn_8 rfl ?_
    refine V_aload_n C dX3_paidForOn_9 rfl ?_
    refine V_get C fg_X3_15 dX3_paidForOn_10 (by first | assumption | exact mset_self _ _ _ | (refine (mset_ne (by omega)).trans ?_; first | assumption | exact mset_self _ _ _ | (refine (mset_ne (by omega)).trans ?_; first | assumption | exact mset_self _ _ _ | (refine (mset_ne (by omega)).trans ?_; first | assumption | exact mset_self _ _ _)))) (by (try simp only [mset_1]); omega) (by rfl) ?_
    refine V_icmp_le C dX3_paidForOn_13 (tgt := 18) (by decide) (by omega) (by omega) (fun g13 => ?_) (fun g13 => ?_)
    · refine V_aload_n C dX3_paidForOn_18 rfl ?_
      refine V_callV (fr := 0) (lo := 0) (mc := 0) (ms := 0) (As := []) C yvX3_nextYear w_249 dX3_paidForOn_19 rfl rfl (by first | assumption | exact mset_self _ _ _ | (refine (mset_ne (by omega)).trans ?_; first | assumption | exact mset_self _ _ _ | (refine (mset_ne (by omega)).trans ?_; first | assumption | exact mset_self _ _ _ | (refine (mset_ne (by omega)).trans ?_; first | assumption | exact mset_self _ _ _)))) (by (try simp only [mset_1]); omega) rfl rfl (Nat.le_of_ble_eq_true rfl) ⟨Nat.le_of_ble_eq_true rfl, Nat.le_of_ble_eq_true rfl⟩ ⟨Nat.le_of_ble_eq_true rfl, Nat.le_of_ble_eq_true rfl⟩ ?_
      refine ok_X3_nextYear hR9 hB9 ?_
      refine V_istore_n C dX3_paidForOn_22 (by decide) ?_
      refine V_iload_n C dX3_paidForOn_23 rfl ?_
      refine V_iconst C dX3_paidForOn_24 ?_
      refine V_icmp_eq C dX3_paidForOn_25 (tgt := 48) (by decide) (by omega) (by omega) (fun g25 => ?_) (fun g25 => ?_)
      · have hnl : ¬ (lapR F a t ∧ yv (a 0) (-1) (F 3 + 1) < d) := fun o => by have o2 := o.1.1; omega
        refine V_iconst C dX3_paidForOn_48 ?_
        refine V_istore C dX3_paidForOn_49 (by decide) ?_
        refine V_lv [(0, .ref (z + r)), (1, iv d), (2, iv t), (3, iv (nxt F)), (4, iv (((0 : Nat) : Int) + 1))] (List.forall_mem_cons.mpr ⟨(by first | rfl | exact congrArg (fun t => some (iv t)) (by push_cast; omega) | exact congrArg (fun t => some (iv t)) e9.symm), (List.forall_mem_cons.mpr ⟨(by first | rfl | exact congrArg (fun t => some (iv t)) (by push_cast; omega) | exact congrArg (fun t => some (iv t)) e9.symm), (List.forall_mem_cons.mpr ⟨(by first | rfl | exact congrArg (fun t => some (iv t)) (by push_cast; omega) | exact congrArg (fun t => some (iv t)) e9.symm), (List.forall_mem_cons.mpr ⟨(by first | rfl | exact congrArg (fun t => some (iv t)) (by push_cast; omega) | exact congrArg (fun t => some (iv t)) e9.symm), (List.forall_mem_cons.mpr ⟨(by first | rfl | exact congrArg (fun t => some (iv t)) (by push_cast; omega) | exact congrArg (fun t => some (iv t)) e9.symm), (fun _ h => nomatch h)⟩)⟩)⟩)⟩)⟩) ?_
        exact loop9 21 0 (by omega) hnl (by omega) rfl (by omega)
      · have e9 : nxt F = F 3 + 1 := by omega
        refine V_iload_n C dX3_paidForOn_28 rfl ?_
        refine V_aload_n C dX3_paidForOn_29 rfl ?_
        refine V_iload_n C dX3_paidForOn_30 rfl ?_
        refine V_callV (fr := 0) (lo := 0) (mc := 0) (ms := 0) (As := [_]) C yvX3_graceOf w_250 dX3_paidForOn_31 rfl rfl (by first | assumption | exact mset_self _ _ _ | (refine (mset_ne (by omega)).trans ?_; first | assumption | exact mset_self _ _ _ | (refine (mset_ne (by omega)).trans ?_; first | assumption | exact mset_self _ _ _ | (refine (mset_ne (by omega)).trans ?_; first | assumption | exact mset_self _ _ _)))) (by (try simp only [mset_1]); omega) rfl rfl (Nat.le_of_ble_eq_true rfl) ⟨Nat.le_of_ble_eq_true rfl, Nat.le_of_ble_eq_true rfl⟩ ⟨Nat.le_of_ble_eq_true rfl, Nat.le_of_ble_eq_true rfl⟩ ?_
        refine ok_X3_graceOf hR9 hB9 (by omega) ?_
        try rw [e9]
        have y1e := y1 (F 3 + 1)
        refine V_icmp_le C dX3_paidForOn_34 (tgt := 48) (by decide) (by omega) (by omega) (fun g34 => ?_) (fun g34 => ?_)
        · have hnl : ¬ (lapR F a t ∧ yv (a 0) (-1) (F 3 + 1) < d) := fun o => by have o2 := o.1.2; omega
          refine V_iconst C dX3_paidForOn_48 ?_
          refine V_istore C dX3_paidForOn_49 (by decide) ?_
          refine V_lv [(0, .ref (z + r)), (1, iv d), (2, iv t), (3, iv (nxt F)), (4, iv (((0 : Nat) : Int) + 1))] (List.forall_mem_cons.mpr ⟨(by first | rfl | exact congrArg (fun t => some (iv t)) (by push_cast; omega) | exact congrArg (fun t => some (iv t)) e9.symm), (List.forall_mem_cons.mpr ⟨(by first | rfl | exact congrArg (fun t => some (iv t)) (by push_cast; omega) | exact congrArg (fun t => some (iv t)) e9.symm), (List.forall_mem_cons.mpr ⟨(by first | rfl | exact congrArg (fun t => some (iv t)) (by push_cast; omega) | exact congrArg (fun t => some (iv t)) e9.symm), (List.forall_mem_cons.mpr ⟨(by first | rfl | exact congrArg (fun t => some (iv t)) (by push_cast; omega) | exact congrArg (fun t => some (iv t)) e9.symm), (List.forall_mem_cons.mpr ⟨(by first | rfl | exact congrArg (fun t => some (iv t)) (by push_cast; omega) | exact congrArg (fun t => some (iv t)) e9.symm), (fun _ h => nomatch h)⟩)⟩)⟩)⟩)⟩) ?_
          exact loop9 21 0 (by omega) hnl (by omega) rfl (by omega)
        · refine V_iload_n C dX3_paidForOn_37 rfl ?_
          refine V_aload_n C dX3_paidForOn_38 rfl ?_
          refine V_iload_n C dX3_paidForOn_39 rfl ?_
          refine V_callV (fr := 0) (lo := 0) (mc := 0) (ms := 0) (As := [_]) C yvX3_dueOf w_402 dX3_paidForOn_40 rfl rfl (by first | assumption | exact mset_self _ _ _ | (refine (mset_ne (by omega)).trans ?_; first | assumption | exact mset_self _ _ _ | (refine (mset_ne (by omega)).trans ?_; first | assumption | exact mset_self _ _ _ | (refine (mset_ne (by omega)).trans ?_; first | assumption | exact mset_self _ _ _)))) (by (try simp only [mset_1]); omega) rfl rfl (Nat.le_of_ble_eq_true rfl) ⟨Nat.le_of_ble_eq_true rfl, Nat.le_of_ble_eq_true rfl⟩ ⟨Nat.le_of_ble_eq_true rfl, Nat.le_of_ble_eq_true rfl⟩ ?_
          refine ok_X3_dueOf hR9 hB9 (by omega) ?_
          try rw [e9]
          have y0e := y0 (F 3 + 1)
          refine V_icmp_le C dX3_paidForOn_43 (tgt := 48) (by decide) (by omega) (by omega) (fun g43 => ?_) (fun g43 => ?_)
          · have hnl : ¬ (lapR F a t ∧ yv (a 0) (-1) (F 3 + 1) < d) := fun o => by have o2 := o.2; omega
            refine V_iconst C dX3_paidForOn_48 ?_
            refine V_istore C dX3_paidForOn_49 (by decide) ?_
            refine V_lv [(0, .ref (z + r)), (1, iv d), (2, iv t), (3, iv (nxt F)), (4, iv (((0 : Nat) : Int) + 1))] (List.forall_mem_cons.mpr ⟨(by first | rfl | exact congrArg (fun t => some (iv t)) (by push_cast; omega) | exact congrArg (fun t => some (iv t)) e9.symm), (List.forall_mem_cons.mpr ⟨(by first | rfl | exact congrArg (fun t => some (iv t)) (by push_cast; omega) | exact congrArg (fun t => some (iv t)) e9.symm), (List.forall_mem_cons.mpr ⟨(by first | rfl | exact congrArg (fun t => some (iv t)) (by push_cast; omega) | exact congrArg (fun t => some (iv t)) e9.symm), (List.forall_mem_cons.mpr ⟨(by first | rfl | exact congrArg (fun t => some (iv t)) (by push_cast; omega) | exact congrArg (fun t => some (iv t)) e9.symm), (List.forall_mem_cons.mpr ⟨(by first | rfl | exact congrArg (fun t => some (iv t)) (by push_cast; omega) | exact congrArg (fun t => some (iv t)) e9.symm), (fun _ h => nomatch h)⟩)⟩)⟩)⟩)⟩) ?_
            exact loop9 21 0 (by omega) hnl (by omega) rfl (by omega)
          · refine V_iconst C dX3_paidForOn_46 ?_
            exact V_zret C hr (by omega) dX3_paidForOn_47 (hF (fun o => o.2.2.1 ⟨⟨by omega, by omega⟩, by omega⟩))
    · refine V_iconst C dX3_paidForOn_16 ?_
      exact V_zret C hr (by omega) dX3_paidForOn_17 (hF (fun o => by have o1 := o.1; have o2 := o.2.1; omega))

set_option maxHeartbeats 400000 in
set_option maxRecDepth 4000 in
theorem ok_X3_daysLived {l : Launch} {D : va_G} {cy : Nat → ClassId} {z : Nat} {M : Mm} {K : Option Value → Mm → Prop} {r : Nat} {F : Nat → Int} {a : Nat → Nat → Int} (hR : RightAt cy z M r F a) (hB : RB F a) {t : Int} (ht : -1 ≤ t ∧ t ≤ 100000) (hK : K (some (iv ((if F 1 < t then F 1 else t) - F 0 + 1))) M) :
    MT l D cy z false yX3_daysLived (wsy yX3_daysLived cX3_daysLived 2 (some .int)) 1 21 0 0 M [.ref (z + r), iv t] K := by
  refine MT_of (by decide) w_767 (Nat.le_of_ble_eq_true rfl) ?_
  intro p e s m args below meth c C hr hx0
  have hR9 := hR
  have hB9 := hB
  obtain ⟨hn, m0, m1, m2, m3, m4, m5⟩ := hR
  obtain ⟨b0, b1, b2, b3, b4⟩ := hB
  refine V_iload_n C dX3_daysLived_0 rfl ?_
  refine V_aload_n C dX3_daysLived_1 rfl ?_
  refine V_get C fg_X3_15 dX3_daysLived_2 (by first | assumption | exact mset_self _ _ _ | (refine (mset_ne (by omega)).trans ?_; first | assumption | exact mset_self _ _ _ | (refine (mset_ne (by omega)).trans ?_; first | assumption | exact mset_self _ _ _ | (refine (mset_ne (by omega)).trans ?_; first | assumption | exact mset_self _ _ _)))) (by (try simp only [mset_1]); omega) (by rfl) ?_
  refine V_min C w_768 w_358 w_13 w_359 dX3_daysLived_5 (by omega) (by omega) ⟨Nat.le_of_ble_eq_true rfl, Nat.le_of_ble_eq_true rfl⟩ ⟨Nat.le_of_ble_eq_true rfl, Nat.le_of_ble_eq_true rfl⟩ ?_
  refine V_aload_n C dX3_daysLived_8 rfl ?_
  refine V_get C fg_X3_9 dX3_daysLived_9 (by first | assumption | exact mset_self _ _ _ | (refine (mset_ne (by omega)).trans ?_; first | assumption | exact mset_self _ _ _ | (refine (mset_ne (by omega)).trans ?_; first | assumption | exact mset_self _ _ _ | (refine (mset_ne (by omega)).trans ?_; first | assumption | exact mset_self _ _ _)))) (by (try simp only [mset_1]); omega) (by rfl) ?_
  refine V_isub C dX3_daysLived_12 ?_
  refine V_iconst C dX3_daysLived_13 ?_
  refine V_iadd C dX3_daysLived_14 ?_
  exact V_iret C hr dX3_daysLived_15 hK

set_option maxHeartbeats 400000 in
set_option maxRecDepth 4000 in
theorem ok_X3_standingOfUser {l : Launch} {D : va_G} {cy : Nat → ClassId} {z : Nat} {M : Mm} {K : Option Value → Mm → Prop} {r : Nat} {F : Nat → Int} {a : Nat → Nat → Int} (hR : RightAt cy z M r F a) (hB : RB F a) {u : Nat} (hu : u < 10) (hK : K (some (iv (stU F a u))) M) :
    MT l D cy z false yX3_standingOfUser (wsy yX3_standingOfUser cX3_standingOfUser 2 (some .int)) 2 43 0 0 M [.ref (z + r), iv u] K := by
  refine MT_of (by decide) w_436 (Nat.le_of_ble_eq_true rfl) ?_
  intro p e s m args below meth c C hr hx0
  have hR9 := hR
  have hB9 := hB
  obtain ⟨hn, m0, m1, m2, m3, m4, m5⟩ := hR
  obtain ⟨b0, b1, b2, b3, b4⟩ := hB
  refine V_iload_n C dX3_standingOfUser_0 rfl ?_
  refine V_if_lt C dX3_standingOfUser_1 (tgt := 23) (by decide) (by omega) (fun g1 => ?_) (fun g1 => ?_)
  · exact absurd g1 (by omega)
  · refine V_iload_n C dX3_standingOfUser_4 rfl ?_
    refine V_aload_n C dX3_standingOfUser_5 rfl ?_
    refine V_get C fg_X3_44 dX3_standingOfUser_6 (by first | assumption | exact mset_self _ _ _ | (refine (mset_ne (by omega)).trans ?_; first | assumption | exact mset_self _ _ _ | (refine (mset_ne (by omega)).trans ?_; first | assumption | exact mset_self _ _ _ | (refine (mset_ne (by omega)).trans ?_; first | assumption | exact mset_self _ _ _)))) (by (try simp only [mset_1]); omega) (by rfl) ?_
    refine V_alenI C dX3_standingOfUser_9 (by first | assumption | exact mset_self _ _ _ | (refine (mset_ne (by omega)).trans ?_; first | assumption | exact mset_self _ _ _ | (refine (mset_ne (by omega)).trans ?_; first | assumption | exact mset_self _ _ _ | (refine (mset_ne (by omega)).trans ?_; first | assumption | exact mset_self _ _ _)))) (by (try simp only [mset_1]); omega) ?_
    refine V_icmp_ge C dX3_standingOfUser_10 (tgt := 23) (by decide) (by omega) (by omega) (fun g10 => ?_) (fun g10 => ?_)
    · exact absurd g10 (by omega)
    · refine V_aload_n C dX3_standingOfUser_13 rfl ?_
      refine V_get C fg_X3_44 dX3_standingOfUser_14 (by first | assumption | exact mset_self _ _ _ | (refine (mset_ne (by omega)).trans ?_; first | assumption | exact mset_self _ _ _ | (refine (mset_ne (by omega)).trans ?_; first | assumption | exact mset_self _ _ _ | (refine (mset_ne (by omega)).trans ?_; first | assumption | exact mset_self _ _ _)))) (by (try simp only [mset_1]); omega) (by rfl) ?_
      refine V_iload_n C dX3_standingOfUser_17 rfl ?_
      refine V_iald C dX3_standingOfUser_18 (by first | assumption | exact mset_self _ _ _ | (refine (mset_ne (by omega)).trans ?_; first | assumption | exact mset_self _ _ _ | (refine (mset_ne (by omega)).trans ?_; first | assumption | exact mset_self _ _ _ | (refine (mset_ne (by omega)).trans ?_; first | assumption | exact mset_self _ _ _)))) (by (try simp only [mset_1]); omega) (by omega) (by omega) (by first | with_reducible exact Int.toNat_natCast _ | rfl) ?_
      refine V_iconst C dX3_standingOfUser_19 ?_
      have q4 := b4 4 u
      refine V_icmp_ne C dX3_standingOfUser_20 (tgt := 25) (by decide) (by omega) (by omega) (fun g20 => ?_) (fun g20 => ?_)
      · refine V_aload_n C dX3_standingOfUser_25 rfl ?_
        refine V_aload_n C dX3_standingOfUser_26 rfl ?_
        refine V_get C fg_X3_44 dX3_standingOfUser_27 (by first | assumption | exact mset_self _ _ _ | (refine (mset_ne (by omega)).trans ?_; first | assumption | exact mset_self _ _ _ | (refine (mset_ne (by omega)).trans ?_; first | assumption | exact mset_self _ _ _ | (refine (mset_ne (by omega)).trans ?_; first | assumption | exact mset_self _ _ _)))) (by (try simp only [mset_1]); omega) (by rfl) ?_
        refine V_iload_n C dX3_standingOfUser_30 rfl ?_
        refine V_iald C dX3_standingOfUser_31 (by first | assumption | exact mset_self _ _ _ | (refine (mset_ne (by omega)).trans ?_; first | assumption | exact mset_self _ _ _ | (refine (mset_ne (by omega)).trans ?_; first | assumption | exact mset_self _ _ _ | (refine (mset_ne (by omega)).trans ?_; first | assumption | exact mset_self _ _ _)))) (by (try simp only [mset_1]); omega) (by omega) (by omega) (by first | with_reducible exact Int.toNat_natCast _ | rfl) ?_
        refine V_callV (fr := 1) (lo := 21) (mc := 0) (ms := 0) (As := [_]) C yvX3_isInGap w_403 dX3_standingOfUser_32 rfl rfl (by first | assumption | exact mset_self _ _ _ | (refine (mset_ne (by omega)).trans ?_; first | assumption | exact mset_self _ _ _ | (refine (mset_ne (by omega)).trans ?_; first | assumption | exact mset_self _ _ _ | (refine (mset_ne (by omega)).trans ?_; first | assumption | exact mset_self _ _ _)))) (by (try simp only [mset_1]); omega) rfl rfl (Nat.le_of_ble_eq_true rfl) ⟨Nat.le_of_ble_eq_true rfl, Nat.le_of_ble_eq_true rfl⟩ ⟨Nat.le_of_ble_eq_true rfl, Nat.le_of_ble_eq_true rfl⟩ ?_
        refine ok_X3_isInGap hR9 hB9 (by omega) (fun hg => ?_) (fun hg => ?_)
        · refine V_ifeq1 C dX3_standingOfUser_35 (tgt := 42) (by decide) ?_
          refine V_iconst C dX3_standingOfUser_38 ?_
          refine V_goto C dX3_standingOfUser_39 (tgt := 43) (by decide) ?_
          exact V_iret C hr dX3_standingOfUser_43 (K_of hK (by unfold stU; rw [if_neg g20, if_pos hg]))
        · refine V_ifeq0 C dX3_standingOfUser_35 (tgt := 42) (by decide) ?_
          refine V_iconst C dX3_standingOfUser_42 ?_
          exact V_iret C hr dX3_standingOfUser_43 (K_of hK (by unfold stU; rw [if_neg g20, if_neg (by rw [hg]; decide)]))
      · refine V_iconst C dX3_standingOfUser_23 ?_
        exact V_iret C hr dX3_standingOfUser_24 (K_of hK (by unfold stU; rw [if_pos g20]))

set_option maxHeartbeats 400000 in
set_option maxRecDepth 4000 in
theorem ok_X3_hasBegun {l : Launch} {D : va_G} {cy : Nat → ClassId} {z : Nat} {M : Mm} {K : Option Value → Mm → Prop} {r : Nat} {F : Nat → Int} {a : Nat → Nat → Int} (hR : RightAt cy z M r F a) (hB : RB F a) {u : Nat} (hu : u < 10) (hT : ¬ stU F a u = 0 → K (some (iv 1)) M) (hF : stU F a u = 0 → K (some (iv 0)) M) :
    MT l D cy z false yX3_hasBegun (wsy yX3_hasBegun cX3_hasBegun 2 (some .boolean)) 3 64 0 0 M [.ref (z + r), iv u] K := by
  refine MT_of (by decide) w_432 (Nat.le_of_ble_eq_true rfl) ?_
  intro p e s m args below meth c C hr hx0
  have hR9 := hR
  have hB9 := hB
  obtain ⟨hn, m0, m1, m2, m3, m4, m5⟩ := hR
  obtain ⟨b0, b1, b2, b3, b4⟩ := hB
  refine V_aload_n C dX3_hasBegun_0 rfl ?_
  refine V_iload_n C dX3_hasBegun_1 rfl ?_
  refine V_callV (fr := 2) (lo := 43) (mc := 0) (ms := 0) (As := [_]) C yvX3_standingOfUser w_433 dX3_hasBegun_2 rfl rfl (by first | assumption | exact mset_self _ _ _ | (refine (mset_ne (by omega)).trans ?_; first | assumption | exact mset_self _ _ _ | (refine (mset_ne (by omega)).trans ?_; first | assumption | exact mset_self _ _ _ | (refine (mset_ne (by omega)).trans ?_; first | assumption | exact mset_self _ _ _)))) (by (try simp only [mset_1]); omega) rfl rfl (Nat.le_of_ble_eq_true rfl) ⟨Nat.le_of_ble_eq_true rfl, Nat.le_of_ble_eq_true rfl⟩ ⟨Nat.le_of_ble_eq_true rfl, Nat.le_of_ble_eq_true rfl⟩ ?_
  refine ok_X3_standingOfUser hR9 hB9 (by omega) ?_
  have q := stU_rng F a u
  refine V_if_eq C dX3_hasBegun_5 (tgt := 12) (by decide) (by omega) (fun g5 => ?_) (fun g5 => ?_)
  · refine V_iconst C dX3_hasBegun_12 ?_
    exact V_zret C hr (by omega) dX3_hasBegun_13 (hF g5)
  · refine V_iconst C dX3_hasBegun_8 ?_
    refine V_goto C dX3_hasBegun_9 (tgt := 13) (by decide) ?_
    exact V_zret C hr (by omega) dX3_hasBegun_13 (hT g5)

set_option maxHeartbeats 400000 in
set_option maxRecDepth 4000 in
theorem ok_X3_countUsers {l : Launch} {D : va_G} {cy : Nat → ClassId} {z : Nat} {M : Mm} {K : Option Value → Mm → Prop} {r : Nat} {F : Nat → Int} {a : Nat → Nat → Int} (hR : RightAt cy z M r F a) (hB : RB F a) (hK : K (some (iv ((cntN (fun u => decide (¬ stU F a u = 0)) 10 : Nat) : Int))) M) :
    MT l D cy z false yX3_countUsers (wsy yX3_countUsers cX3_countUsers 3 (some .int)) 4 85 0 0 M [.ref (z + r)] K := by
  refine MT_of (by decide) w_428 (Nat.le_of_ble_eq_true rfl) ?_
  intro p e s m args below meth c C hr hx0
  have hR9 := hR
  have hB9 := hB
  obtain ⟨hn, m0, m1, m2, m3, m4, m5⟩ := hR
  obtain ⟨b0, b1, b2, b3, b4⟩ := hB
  have loop : ∀ (n : Nat) (i : Nat), (i ≤ 10) → 10 - i < n → V p l e { frames := 4, cells := 0, slots := 0, locals := 85 } s m args below meth c D z 3 (MQ below (qc_ D z K) args s 0 0 (fun q => z ≤ q)) 0 0 M 4 [(0, .ref (z + r)), (1, iv (((cntN (fun u => decide (¬ stU F a u = 0)) i : Nat) : Int))), (2, iv ((i : Int)))] [] := by
    intro n
    induction n with
    | zero => intro i hi0 hfu; exact absurd hfu (Nat.not_lt_zero _)
    | succ n ih =>
      intro i hi0 hfu
      refine V_iload_n C dX3_countUsers_4 rfl ?_
      refine V_bipush C dX3_countUsers_5 (by decide) ?_
      refine V_icmp_ge C dX3_countUsers_7 (tgt := 27) (by decide) (by omega) (by omega) (fun g7 => ?_) (fun g7 => ?_)
      · refine V_iload_n C dX3_countUsers_27 rfl ?_
        exact V_iret C hr dX3_countUsers_28 (K_of hK (by rw [show i = 10 by omega]))
      · refine V_aload_n C dX3_countUsers_10 rfl ?_
        refine V_iload_n C dX3_countUsers_11 rfl ?_
        refine V_callV (fr := 3) (lo := 64) (mc := 0) (ms := 0) (As := [_]) C yvX3_hasBegun w_429 dX3_countUsers_12 rfl rfl (by first | assumption | exact mset_self _ _ _ | (refine (mset_ne (by omega)).trans ?_; first | assumption | exact mset_self _ _ _ | (refine (mset_ne (by omega)).trans ?_; first | assumption | exact mset_self _ _ _ | (refine (mset_ne (by omega)).trans ?_; first | assumption | exact mset_self _ _ _)))) (by (try simp only [mset_1]); omega) rfl rfl (Nat.le_of_ble_eq_true rfl) ⟨Nat.le_of_ble_eq_true rfl, Nat.le_of_ble_eq_true rfl⟩ ⟨Nat.le_of_ble_eq_true rfl, Nat.le_of_ble_eq_true rfl⟩ ?_
        refine ok_X3_hasBegun hR9 hB9 (by omega) (fun hu => ?_) (fun hu => ?_)
        · refine V_ifeq1 C dX3_countUsers_15 (tgt := 21) (by decide) ?_
          refine V_iinc C dX3_countUsers_18 rfl (by decide) ?_
          refine V_iinc C dX3_countUsers_21 rfl (by decide) ?_
          refine V_goto C dX3_countUsers_24 (tgt := 4) (by decide) ?_
          refine V_lv [(0, .ref (z + r)), (1, iv (((cntN (fun u => decide (¬ stU F a u = 0)) (i + 1) : Nat) : Int))), (2, iv (((i + 1 : Nat) : Int)))] (List.forall_mem_cons.mpr ⟨(by first | rfl | exact congrArg (fun t => some (iv t)) (by have e8 := cntN_t (p := (fun u => decide (¬ stU F a u = 0))) (n := i) (by simpa using hu); push_cast; omega)), (List.forall_mem_cons.mpr ⟨(by first | rfl | exact congrArg (fun t => some (iv t)) (by have e8 := cntN_t (p := (fun u => decide (¬ stU F a u = 0))) (n := i) (by simpa using hu); push_cast; omega)), (List.forall_mem_cons.mpr ⟨(by first | rfl | exact congrArg (fun t => some (iv t)) (by have e8 := cntN_t (p := (fun u => decide (¬ stU F a u = 0))) (n := i) (by simpa using hu); push_cast; omega)), (fun _ h => nomatch h)⟩)⟩)⟩) ?_
          exact ih (i + 1) (by omega) (by omega)
        · refine V_ifeq0 C dX3_countUsers_15 (tgt := 21) (by decide) ?_
          refine V_iinc C dX3_countUsers_21 rfl (by decide) ?_
          refine V_goto C dX3_countUsers_24 (tgt := 4) (by decide) ?_
          refine V_lv [(0, .ref (z + r)), (1, iv (((cntN (fun u => decide (¬ stU F a u = 0)) (i + 1) : Nat) : Int))), (2, iv (((i + 1 : Nat) : Int)))] (List.forall_mem_cons.mpr ⟨(by first | rfl | exact congrArg (fun t => some (iv t)) (by have e8 := cntN_f (p := (fun u => decide (¬ stU F a u = 0))) (n := i) (by simpa using hu); push_cast; omega)), (List.forall_mem_cons.mpr ⟨(by first | rfl | exact congrArg (fun t => some (iv t)) (by have e8 := cntN_f (p := (fun u => decide (¬ stU F a u = 0))) (n := i) (by simpa using hu); push_cast; omega)), (List.forall_mem_cons.mpr ⟨(by first | rfl | exact congrArg (fun t => some (iv t)) (by have e8 := cntN_f (p := (fun u => decide (¬ stU F a u = 0))) (n := i) (by simpa using hu); push_cast; omega)), (fun _ h => nomatch h)⟩)⟩)⟩) ?_
          exact ih (i + 1) (by omega) (by omega)
  refine V_iconst C dX3_countUsers_0 ?_
  refine V_istore_n C dX3_countUsers_1 (by decide) ?_
  refine V_iconst C dX3_countUsers_2 ?_
  refine V_istore_n C dX3_countUsers_3 (by decide) ?_
  refine V_lv [(0, .ref (z + r)), (1, iv (((cntN (fun u => decide (¬ stU F a u = 0)) 0 : Nat) : Int))), (2, iv (((0 : Nat) : Int)))] (List.forall_mem_cons.mpr ⟨(by first | rfl | exact congrArg (fun t => some (iv t)) (by omega)), (List.forall_mem_cons.mpr ⟨(by first | rfl | exact congrArg (fun t => some (iv t)) (by omega)), (List.forall_mem_cons.mpr ⟨(by first | rfl | exact congrArg (fun t => some (iv t)) (by omega)), (fun _ h => nomatch h)⟩)⟩)⟩) ?_
  exact loop 11 0 (by omega) (by omega)

set_option maxHeartbeats 400000 in
set_option maxRecDepth 4000 in
theorem ok_X3_countProtected {l : Launch} {D : va_G} {cy : Nat → ClassId} {z : Nat} {M : Mm} {K : Option Value → Mm → Prop} {r : Nat} {F : Nat → Int} {a : Nat → Nat → Int} (hR : RightAt cy z M r F a) (hB : RB F a) (hK : K (some (iv ((cntN (fun u => decide (stU F a u = 2)) 10 : Nat) : Int))) M) :
    MT l D cy z false yX3_countProtected (wsy yX3_countProtected cX3_countProtected 3 (some .int)) 3 64 0 0 M [.ref (z + r)] K := by
  refine MT_of (by decide) w_440 (Nat.le_of_ble_eq_true rfl) ?_
  intro p e s m args below meth c C hr hx0
  have hR9 := hR
  have hB9 := hB
  obtain ⟨hn, m0, m1, m2, m3, m4, m5⟩ := hR
  obtain ⟨b0, b1, b2, b3, b4⟩ := hB
  have loop : ∀ (n : Nat) (i : Nat), (i ≤ 10) → 10 - i < n → V p l e { frames := 3, cells := 0, slots := 0, locals := 64 } s m args below meth c D z 3 (MQ below (qc_ D z K) args s 0 0 (fun q => z ≤ q)) 0 0 M 4 [(0, .ref (z + r)), (1, iv (((cntN (fun u => decide (stU F a u = 2)) i : Nat) : Int))), (2, iv ((i : Int)))] [] := by
    intro n
    induction n with
    | zero => intro i hi0 hfu; exact absurd hfu (Nat.not_lt_zero _)
    | succ n ih =>
      intro i hi0 hfu
      refine V_iload_n C dX3_countProtected_4 rfl ?_
      refine V_bipush C dX3_countProtected_5 (by decide) ?_
      refine V_icmp_ge C dX3_countProtected_7 (tgt := 28) (by decide) (by omega) (by omega) (fun g7 => ?_) (fun g7 => ?_)
      · refine V_iload_n C dX3_countProtected_28 rfl ?_
        exact V_iret C hr dX3_countProtected_29 (K_of hK (by rw [show i = 10 by omega]))
      · refine V_aload_n C dX3_countProtected_10 rfl ?_
        refine V_iload_n C dX3_countProtected_11 rfl ?_
        refine V_callV (fr := 2) (lo := 43) (mc := 0) (ms := 0) (As := [_]) C yvX3_standingOfUser w_433 dX3_countProtected_12 rfl rfl (by first | assumption | exact mset_self _ _ _ | (refine (mset_ne (by omega)).trans ?_; first | assumption | exact mset_self _ _ _ | (refine (mset_ne (by omega)).trans ?_; first | assumption | exact mset_self _ _ _ | (refine (mset_ne (by omega)).trans ?_; first | assumption | exact mset_self _ _ _)))) (by (try simp only [mset_1]); omega) rfl rfl (Nat.le_of_ble_eq_true rfl) ⟨Nat.le_of_ble_eq_true rfl, Nat.le_of_ble_eq_true rfl⟩ ⟨Nat.le_of_ble_eq_true rfl, Nat.le_of_ble_eq_true rfl⟩ ?_
        refine ok_X3_standingOfUser hR9 hB9 (by omega) ?_
        refine V_iconst C dX3_countProtected_15 ?_
        have q := stU_rng F a i
        refine V_icmp_ne C dX3_countProtected_16 (tgt := 22) (by decide) (by omega) (by omega) (fun g16 => ?_) (fun g16 => ?_)
        · refine V_iinc C dX3_countProtected_22 rfl (by decide) ?_
          refine V_goto C dX3_countProtected_25 (tgt := 4) (by decide) ?_
          refine V_lv [(0, .ref (z + r)), (1, iv (((cntN (fun u => decide (stU F a u = 2)) (i + 1) : Nat) : Int))), (2, iv (((i + 1 : Nat) : Int)))] (List.forall_mem_cons.mpr ⟨(by first | rfl | exact congrArg (fun t => some (iv t)) (by have e8 := cntN_f (p := (fun u => decide (stU F a u = 2))) (n := i) (by simpa using g16); push_cast; omega)), (List.forall_mem_cons.mpr ⟨(by first | rfl | exact congrArg (fun t => some (iv t)) (by have e8 := cntN_f (p := (fun u => decide (stU F a u = 2))) (n := i) (by simpa using g16); push_cast; omega)), (List.forall_mem_cons.mpr ⟨(by first | rfl | exact congrArg (fun t => some (iv t)) (by have e8 := cntN_f (p := (fun u => decide (stU F a u = 2))) (n := i) (by simpa using g16); push_cast; omega)), (fun _ h => nomatch h)⟩)⟩)⟩) ?_
          exact ih (i + 1) (by omega) (by omega)
        · refine V_iinc C dX3_countProtected_19 rfl (by decide) ?_
          refine V_iinc C dX3_countProtected_22 rfl (by decide) ?_
          refine V_goto C dX3_countProtected_25 (tgt := 4) (by decide) ?_
          refine V_lv [(0, .ref (z + r)), (1, iv (((cntN (fun u => decide (stU F a u = 2)) (i + 1) : Nat) : Int))), (2, iv (((i + 1 : Nat) : Int)))] (List.forall_mem_cons.mpr ⟨(by first | rfl | exact congrArg (fun t => some (iv t)) (by have e8 := cntN_t (p := (fun u => decide (stU F a u = 2))) (n := i) (by simpa using g16); push_cast; omega)), (List.forall_mem_cons.mpr ⟨(by first | rfl | exact congrArg (fun t => some (iv t)) (by have e8 := cntN_t (p := (fun u => decide (stU F a u = 2))) (n := i) (by simpa using g16); push_cast; omega)), (List.forall_mem_cons.mpr ⟨(by first | rfl | exact congrArg (fun t => some (iv t)) (by have e8 := cntN_t (p := (fun u => decide (stU F a u = 2))) (n := i) (by simpa using g16); push_cast; omega)), (fun _ h => nomatch h)⟩)⟩)⟩) ?_
          exact ih (i + 1) (by omega) (by omega)
  refine V_iconst C dX3_countProtected_0 ?_
  refine V_istore_n C dX3_countProtected_1 (by decide) ?_
  refine V_iconst C dX3_countProtected_2 ?_
  refine V_istore_n C dX3_countProtected_3 (by decide) ?_
  refine V_lv [(0, .ref (z + r)), (1, iv (((cntN (fun u => decide (stU F a u = 2)) 0 : Nat) : Int))), (2, iv (((0 : Nat) : Int)))] (List.forall_mem_cons.mpr ⟨(by first | rfl | exact congrArg (fun t => some (iv t)) (by omega)), (List.forall_mem_cons.mpr ⟨(by first | rfl | exact congrArg (fun t => some (iv t)) (by omega)), (List.forall_mem_cons.mpr ⟨(by first | rfl | exact congrArg (fun t => some (iv t)) (by omega)), (fun _ h => nomatch h)⟩)⟩)⟩) ?_
  exact loop 11 0 (by omega) (by omega)

set_option maxHeartbeats 400000 in
set_option maxRecDepth 4000 in
theorem ok_X3_takePayment {l : Launch} {D : va_G} {cy : Nat → ClassId} {z : Nat} {M : Mm} {K : Option Value → Mm → Prop} {r : Nat} {F : Nat → Int} {a : Nat → Nat → Int} (hR : RightAt cy z M r F a) (hB : RB F a) {w d : Int} (h9 : F 3 < 19) (hK : ∀ M', Sm M M' (fun j => r ≤ j ∧ j < r + 6) → RightAt cy z M' r (va_up (va_up F 4 (F 4 + w)) 3 (F 3 + 1)) (va_up a 2 (va_up (a 2) (F 3 + 1).toNat d)) → K none M') :
    MT l D cy z false yX3_takePayment (wsy yX3_takePayment cX3_takePayment 4 none) 1 20 0 0 M [.ref (z + r), iv w, iv d] K := by
  refine MT_of (by decide) w_281 (Nat.le_of_ble_eq_true rfl) ?_
  intro p e s m args below meth c C hr hx0
  have hR9 := hR
  have hB9 := hB
  obtain ⟨hn, m0, m1, m2, m3, m4, m5⟩ := hR
  obtain ⟨b0, b1, b2, b3, b4⟩ := hB
  refine V_aload_n C dX3_takePayment_0 rfl ?_
  refine V_callV (fr := 0) (lo := 0) (mc := 0) (ms := 0) (As := []) C yvX3_nextYear w_249 dX3_takePayment_1 rfl rfl (by first | assumption | exact mset_self _ _ _ | (refine (mset_ne (by omega)).trans ?_; first | assumption | exact mset_self _ _ _ | (refine (mset_ne (by omega)).trans ?_; first | assumption | exact mset_self _ _ _ | (refine (mset_ne (by omega)).trans ?_; first | assumption | exact mset_self _ _ _ | (refine (mset_ne (by omega)).trans ?_; first | assumption | exact mset_self _ _ _ | (refine (mset_ne (by omega)).trans ?_; first | assumption | exact mset_self _ _ _ | (refine (mset_ne (by omega)).trans ?_; first | assumption | exact mset_self _ _ _ | (refine (mset_ne (by omega)).trans ?_; first | assumption | exact mset_self _ _ _ | (refine (mset_ne (by omega)).trans ?_; first | assumption | exact mset_self _ _ _ | (refine (mset_ne (by omega)).trans ?_; first | assumption | exact mset_self _ _ _ | (refine (mset_ne (by omega)).trans ?_; first | assumption | exact mset_self _ _ _))))))))))) (by (try simp only [mset_1]); omega) rfl rfl (Nat.le_of_ble_eq_true rfl) ⟨Nat.le_of_ble_eq_true rfl, Nat.le_of_ble_eq_true rfl⟩ ⟨Nat.le_of_ble_eq_true rfl, Nat.le_of_ble_eq_true rfl⟩ ?_
  refine ok_X3_nextYear hR9 hB9 ?_
  rw [nxt_lap h9]
  refine V_istore_n C dX3_takePayment_4 (by decide) ?_
  refine V_aload_n C dX3_takePayment_5 rfl ?_
  refine V_dup C dX3_takePayment_6 rfl ?_
  refine V_get C fg_X3_25 dX3_takePayment_7 (by first | assumption | exact mset_self _ _ _ | (refine (mset_ne (by omega)).trans ?_; first | assumption | exact mset_self _ _ _ | (refine (mset_ne (by omega)).trans ?_; first | assumption | exact mset_self _ _ _ | (refine (mset_ne (by omega)).trans ?_; first | assumption | exact mset_self _ _ _ | (refine (mset_ne (by omega)).trans ?_; first | assumption | exact mset_self _ _ _ | (refine (mset_ne (by omega)).trans ?_; first | assumption | exact mset_self _ _ _ | (refine (mset_ne (by omega)).trans ?_; first | assumption | exact mset_self _ _ _ | (refine (mset_ne (by omega)).trans ?_; first | assumption | exact mset_self _ _ _ | (refine (mset_ne (by omega)).trans ?_; first | assumption | exact mset_self _ _ _ | (refine (mset_ne (by omega)).trans ?_; first | assumption | exact mset_self _ _ _ | (refine (mset_ne (by omega)).trans ?_; first | assumption | exact mset_self _ _ _))))))))))) (by (try simp only [mset_1]); omega) (by rfl) ?_
  refine V_iload_n C dX3_takePayment_10 rfl ?_
  refine V_iadd C dX3_takePayment_11 ?_
  refine V_put C fp_X3_25 dX3_takePayment_12 (by first | assumption | exact mset_self _ _ _ | (refine (mset_ne (by omega)).trans ?_; first | assumption | exact mset_self _ _ _ | (refine (mset_ne (by omega)).trans ?_; first | assumption | exact mset_self _ _ _ | (refine (mset_ne (by omega)).trans ?_; first | assumption | exact mset_self _ _ _ | (refine (mset_ne (by omega)).trans ?_; first | assumption | exact mset_self _ _ _ | (refine (mset_ne (by omega)).trans ?_; first | assumption | exact mset_self _ _ _ | (refine (mset_ne (by omega)).trans ?_; first | assumption | exact mset_self _ _ _ | (refine (mset_ne (by omega)).trans ?_; first | assumption | exact mset_self _ _ _ | (refine (mset_ne (by omega)).trans ?_; first | assumption | exact mset_self _ _ _ | (refine (mset_ne (by omega)).trans ?_; first | assumption | exact mset_self _ _ _ | (refine (mset_ne (by omega)).trans ?_; first | assumption | exact mset_self _ _ _))))))))))) (by (try simp only [mset_1]); omega) rfl rfl (by exact Nat.le_of_ble_eq_true rfl) ?_
  refine V_iload_n C dX3_takePayment_15 rfl ?_
  refine V_iconst C dX3_takePayment_16 ?_
  refine V_icmp_lt C dX3_takePayment_17 (tgt := 41) (by decide) (by omega) (by omega) (fun g17 => ?_) (fun g17 => ?_)
  · exact absurd g17 (by omega)
  · refine V_iload_n C dX3_takePayment_20 rfl ?_
    refine V_aload_n C dX3_takePayment_21 rfl ?_
    refine V_get C fg_X3_38 dX3_takePayment_22 (by first | assumption | exact mset_self _ _ _ | (refine (mset_ne (by omega)).trans ?_; first | assumption | exact mset_self _ _ _ | (refine (mset_ne (by omega)).trans ?_; first | assumption | exact mset_self _ _ _ | (refine (mset_ne (by omega)).trans ?_; first | assumption | exact mset_self _ _ _ | (refine (mset_ne (by omega)).trans ?_; first | assumption | exact mset_self _ _ _ | (refine (mset_ne (by omega)).trans ?_; first | assumption | exact mset_self _ _ _ | (refine (mset_ne (by omega)).trans ?_; first | assumption | exact mset_self _ _ _ | (refine (mset_ne (by omega)).trans ?_; first | assumption | exact mset_self _ _ _ | (refine (mset_ne (by omega)).trans ?_; first | assumption | exact mset_self _ _ _ | (refine (mset_ne (by omega)).trans ?_; first | assumption | exact mset_self _ _ _ | (refine (mset_ne (by omega)).trans ?_; first | assumption | exact mset_self _ _ _))))))))))) (by (try simp only [mset_1]); omega) (by rfl) ?_
    refine V_alenI C dX3_takePayment_25 (by first | assumption | exact mset_self _ _ _ | (refine (mset_ne (by omega)).trans ?_; first | assumption | exact mset_self _ _ _ | (refine (mset_ne (by omega)).trans ?_; first | assumption | exact mset_self _ _ _ | (refine (mset_ne (by omega)).trans ?_; first | assumption | exact mset_self _ _ _ | (refine (mset_ne (by omega)).trans ?_; first | assumption | exact mset_self _ _ _ | (refine (mset_ne (by omega)).trans ?_; first | assumption | exact mset_self _ _ _ | (refine (mset_ne (by omega)).trans ?_; first | assumption | exact mset_self _ _ _ | (refine (mset_ne (by omega)).trans ?_; first | assumption | exact mset_self _ _ _ | (refine (mset_ne (by omega)).trans ?_; first | assumption | exact mset_self _ _ _ | (refine (mset_ne (by omega)).trans ?_; first | assumption | exact mset_self _ _ _ | (refine (mset_ne (by omega)).trans ?_; first | assumption | exact mset_self _ _ _))))))))))) (by (try simp only [mset_1]); omega) ?_
    refine V_icmp_ge C dX3_takePayment_26 (tgt := 41) (by decide) (by omega) (by omega) (fun g26 => ?_) (fun g26 => ?_)
    · exact absurd g26 (by omega)
    · refine V_aload_n C dX3_takePayment_29 rfl ?_
      refine V_get C fg_X3_38 dX3_takePayment_30 (by first | assumption | exact mset_self _ _ _ | (refine (mset_ne (by omega)).trans ?_; first | assumption | exact mset_self _ _ _ | (refine (mset_ne (by omega)).trans ?_; first | assumption | exact mset_self _ _ _ | (refine (mset_ne (by omega)).trans ?_; first | assumption | exact mset_self _ _ _ | (refine (mset_ne (by omega)).trans ?_; first | assumption | exact mset_self _ _ _ | (refine (mset_ne (by omega)).trans ?_; first | assumption | exact mset_self _ _ _ | (refine (mset_ne (by omega)).trans ?_; first | assumption | exact mset_self _ _ _ | (refine (mset_ne (by omega)).trans ?_; first | assumption | exact mset_self _ _ _ | (refine (mset_ne (by omega)).trans ?_; first | assumption | exact mset_self _ _ _ | (refine (mset_ne (by omega)).trans ?_; first | assumption | exact mset_self _ _ _ | (refine (mset_ne (by omega)).trans ?_; first | assumption | exact mset_self _ _ _))))))))))) (by (try simp only [mset_1]); omega) (by rfl) ?_
      refine V_iload_n C dX3_takePayment_33 rfl ?_
      refine V_iload_n C dX3_takePayment_34 rfl ?_
      refine V_iast C dX3_takePayment_35 (by first | assumption | exact mset_self _ _ _ | (refine (mset_ne (by omega)).trans ?_; first | assumption | exact mset_self _ _ _ | (refine (mset_ne (by omega)).trans ?_; first | assumption | exact mset_self _ _ _ | (refine (mset_ne (by omega)).trans ?_; first | assumption | exact mset_self _ _ _ | (refine (mset_ne (by omega)).trans ?_; first | assumption | exact mset_self _ _ _ | (refine (mset_ne (by omega)).trans ?_; first | assumption | exact mset_self _ _ _ | (refine (mset_ne (by omega)).trans ?_; first | assumption | exact mset_self _ _ _ | (refine (mset_ne (by omega)).trans ?_; first | assumption | exact mset_self _ _ _ | (refine (mset_ne (by omega)).trans ?_; first | assumption | exact mset_self _ _ _ | (refine (mset_ne (by omega)).trans ?_; first | assumption | exact mset_self _ _ _ | (refine (mset_ne (by omega)).trans ?_; first | assumption | exact mset_self _ _ _))))))))))) (by (try simp only [mset_1]); omega) (by omega) (by omega) (by first | with_reducible exact Int.toNat_natCast _ | rfl) ?_
      refine V_aload_n C dX3_takePayment_36 rfl ?_
      refine V_iload_n C dX3_takePayment_37 rfl ?_
      refine V_put C fp_X3_22 dX3_takePayment_38 (by first | assumption | exact mset_self _ _ _ | (refine (mset_ne (by omega)).trans ?_; first | assumption | exact mset_self _ _ _ | (refine (mset_ne (by omega)).trans ?_; first | assumption | exact mset_self _ _ _ | (refine (mset_ne (by omega)).trans ?_; first | assumption | exact mset_self _ _ _ | (refine (mset_ne (by omega)).trans ?_; first | assumption | exact mset_self _ _ _ | (refine (mset_ne (by omega)).trans ?_; first | assumption | exact mset_self _ _ _ | (refine (mset_ne (by omega)).trans ?_; first | assumption | exact mset_self _ _ _ | (refine (mset_ne (by omega)).trans ?_; first | assumption | exact mset_self _ _ _ | (refine (mset_ne (by omega)).trans ?_; first | assumption | exact mset_self _ _ _ | (refine (mset_ne (by omega)).trans ?_; first | assumption | exact mset_self _ _ _ | (refine (mset_ne (by omega)).trans ?_; first | assumption | exact mset_self _ _ _))))))))))) (by (try simp only [mset_1]); omega) rfl rfl (by exact Nat.le_of_ble_eq_true rfl) ?_
      exact V_vret C hr dX3_takePayment_41 (hK _ (by repeat (first | exact Sm.rf _ _ | refine Sm.ts ?_ (by first | rfl | (simp; done) | (simp; omega) | (dsimp only; omega)))) ⟨by simp only [mset_1]; exact hn, (by first | assumption | exact mset_self _ _ _ | (refine (mset_ne (by omega)).trans ?_; first | assumption | exact mset_self _ _ _ | (refine (mset_ne (by omega)).trans ?_; first | assumption | exact mset_self _ _ _ | (refine (mset_ne (by omega)).trans ?_; first | assumption | exact mset_self _ _ _ | (refine (mset_ne (by omega)).trans ?_; first | assumption | exact mset_self _ _ _ | (refine (mset_ne (by omega)).trans ?_; first | assumption | exact mset_self _ _ _ | (refine (mset_ne (by omega)).trans ?_; first | assumption | exact mset_self _ _ _ | (refine (mset_ne (by omega)).trans ?_; first | assumption | exact mset_self _ _ _ | (refine (mset_ne (by omega)).trans ?_; first | assumption | exact mset_self _ _ _ | (refine (mset_ne (by omega)).trans ?_; first | assumption | exact mset_self _ _ _ | (refine (mset_ne (by omega)).trans ?_; first | assumption | exact mset_self _ _ _))))))))))), (by first | assumption | exact mset_self _ _ _ | (refine (mset_ne (by omega)).trans ?_; first | assumption | exact mset_self _ _ _ | (refine (mset_ne (by omega)).trans ?_; first | assumption | exact mset_self _ _ _ | (refine (mset_ne (by omega)).trans ?_; first | assumption | exact mset_self _ _ _ | (refine (mset_ne (by omega)).trans ?_; first | assumption | exact mset_self _ _ _ | (refine (mset_ne (by omega)).trans ?_; first | assumption | exact mset_self _ _ _ | (refine (mset_ne (by omega)).trans ?_; first | assumption | exact mset_self _ _ _ | (refine (mset_ne (by omega)).trans ?_; first | assumption | exact mset_self _ _ _ | (refine (mset_ne (by omega)).trans ?_; first | assumption | exact mset_self _ _ _ | (refine (mset_ne (by omega)).trans ?_; first | assumption | exact mset_self _ _ _ | (refine (mset_ne (by omega)).trans ?_; first | assumption | exact mset_self _ _ _))))))))))), (by first | assumption | exact mset_self _ _ _ | (refine (mset_ne (by omega)).trans ?_; first | assumption | exact mset_self _ _ _ | (refine (mset_ne (by omega)).trans ?_; first | assumption | exact mset_self _ _ _ | (refine (mset_ne (by omega)).trans ?_; first | assumption | exact mset_self _ _ _ | (refine (mset_ne (by omega)).trans ?_; first | assumption | exact mset_self _ _ _ | (refine (mset_ne (by omega)).trans ?_; first | assumption | exact mset_self _ _ _ | (refine (mset_ne (by omega)).trans ?_; first | assumption | exact mset_self _ _ _ | (refine (mset_ne (by omega)).trans ?_; first | assumption | exact mset_self _ _ _ | (refine (mset_ne (by omega)).trans ?_; first | assumption | exact mset_self _ _ _ | (refine (mset_ne (by omega)).trans ?_; first | assumption | exact mset_self _ _ _ | (refine (mset_ne (by omega)).trans ?_; first | assumption | exact mset_self _ _ _))))))))))), (by first | assumption | exact mset_self _ _ _ | (refine (mset_ne (by omega)).trans ?_; first | assumption | exact mset_self _ _ _ | (refine (mset_ne (by omega)).trans ?_; first | assumption | exact mset_self _ _ _ | (refine (mset_ne (by omega)).trans ?_; first | assumption | exact mset_self _ _ _ | (refine (mset_ne (by omega)).trans ?_; first | assumption | exact mset_self _ _ _ | (refine (mset_ne (by omega)).trans ?_; first | assumption | exact mset_self _ _ _ | (refine (mset_ne (by omega)).trans ?_; first | assumption | exact mset_self _ _ _ | (refine (mset_ne (by omega)).trans ?_; first | assumption | exact mset_self _ _ _ | (refine (mset_ne (by omega)).trans ?_; first | assumption | exact mset_self _ _ _ | (refine (mset_ne (by omega)).trans ?_; first | assumption | exact mset_self _ _ _ | (refine (mset_ne (by omega)).trans ?_; first | assumption | exact mset_self _ _ _))))))))))), (by first | assumption | exact mset_self _ _ _ | (refine (mset_ne (by omega)).trans ?_; first | assumption | exact mset_self _ _ _ | (refine (mset_ne (by omega)).trans ?_; first | assumption | exact mset_self _ _ _ | (refine (mset_ne (by omega)).trans ?_; first | assumption | exact mset_self _ _ _ | (refine (mset_ne (by omega)).trans ?_; first | assumption | exact mset_self _ _ _ | (refine (mset_ne (by omega)).trans ?_; first | assumption | exact mset_self _ _ _ | (refine (mset_ne (by omega)).trans ?_; first | assumption | exact mset_self _ _ _ | (refine (mset_ne (by omega)).trans ?_; first | assumption | exact mset_self _ _ _ | (refine (mset_ne (by omega)).trans ?_; first | assumption | exact mset_self _ _ _ | (refine (mset_ne (by omega)).trans ?_; first | assumption | exact mset_self _ _ _ | (refine (mset_ne (by omega)).trans ?_; first | assumption | exact mset_self _ _ _))))))))))), (by first | assumption | exact mset_self _ _ _ | (refine (mset_ne (by omega)).trans ?_; first | assumption | exact mset_self _ _ _ | (refine (mset_ne (by omega)).trans ?_; first | assumption | exact mset_self _ _ _ | (refine (mset_ne (by omega)).trans ?_; first | assumption | exact mset_self _ _ _ | (refine (mset_ne (by omega)).trans ?_; first | assumption | exact mset_self _ _ _ | (refine (mset_ne (by omega)).trans ?_; first | assumption | exact mset_self _ _ _ | (refine (mset_ne (by omega)).trans ?_; first | assumption | exact mset_self _ _ _ | (refine (mset_ne (by omega)).trans ?_; first | assumption | exact mset_self _ _ _ | (refine (mset_ne (by omega)).trans ?_; first | assumption | exact mset_self _ _ _ | (refine (mset_ne (by omega)).trans ?_; first | assumption | exact mset_self _ _ _ | (refine (mset_ne (by omega)).trans ?_; first | assumption | exact mset_self _ _ _)))))))))))⟩)

set_option maxHeartbeats 400000 in
set_option maxRecDepth 4000 in
theorem ok_X3_takeRevival {l : Launch} {D : va_G} {cy : Nat → ClassId} {z : Nat} {M : Mm} {K : Option Value → Mm → Prop} {r : Nat} {F : Nat → Int} {a : Nat → Nat → Int} (hR : RightAt cy z M r F a) (hB : RB F a) {y w d : Int} (h9 : 1 ≤ y ∧ y < 20) (hK : ∀ M', Sm M M' (fun j => r ≤ j ∧ j < r + 6) → RightAt cy z M' r (va_up (va_up F 4 (F 4 + w)) 5 (F 5 + 1)) (va_up a 3 (va_up (a 3) y.toNat d)) → K none M') :
    MT l D cy z false yX3_takeRevival (wsy yX3_takeRevival cX3_takeRevival 4 none) 0 0 0 0 M [.ref (z + r), iv y, iv w, iv d] K := by
  refine MT_of (by decide) w_657 (Nat.le_of_ble_eq_true rfl) ?_
  intro p e s m args below meth c C hr hx0
  have hR9 := hR
  have hB9 := hB
  obtain ⟨hn, m0, m1, m2, m3, m4, m5⟩ := hR
  obtain ⟨b0, b1, b2, b3, b4⟩ := hB
  refine V_aload_n C dX3_takeRevival_0 rfl ?_
  refine V_dup C dX3_takeRevival_1 rfl ?_
  refine V_get C fg_X3_25 dX3_takeRevival_2 (by first | assumption | exact mset_self _ _ _ | (refine (mset_ne (by omega)).trans ?_; first | assumption | exact mset_self _ _ _ | (refine (mset_ne (by omega)).trans ?_; first | assumption | exact mset_self _ _ _ | (refine (mset_ne (by omega)).trans ?_; first | assumption | exact mset_self _ _ _ | (refine (mset_ne (by omega)).trans ?_; first | assumption | exact mset_self _ _ _ | (refine (mset_ne (by omega)).trans ?_; first | assumption | exact mset_self _ _ _ | (refine (mset_ne (by omega)).trans ?_; first | assumption | exact mset_self _ _ _ | (refine (mset_ne (by omega)).trans ?_; first | assumption | exact mset_self _ _ _ | (refine (mset_ne (by omega)).trans ?_; first | assumption | exact mset_self _ _ _ | (refine (mset_ne (by omega)).trans ?_; first | assumption | exact mset_self _ _ _ | (refine (mset_ne (by omega)).trans ?_; first | assumption | exact mset_self _ _ _))))))))))) (by (try simp only [mset_1]); omega) (by rfl) ?_
  refine V_iload_n C dX3_takeRevival_5 rfl ?_
  refine V_iadd C dX3_takeRevival_6 ?_
  refine V_put C fp_X3_25 dX3_takeRevival_7 (by first | assumption | exact mset_self _ _ _ | (refine (mset_ne (by omega)).trans ?_; first | assumption | exact mset_self _ _ _ | (refine (mset_ne (by omega)).trans ?_; first | assumption | exact mset_self _ _ _ | (refine (mset_ne (by omega)).trans ?_; first | assumption | exact mset_self _ _ _ | (refine (mset_ne (by omega)).trans ?_; first | assumption | exact mset_self _ _ _ | (refine (mset_ne (by omega)).trans ?_; first | assumption | exact mset_self _ _ _ | (refine (mset_ne (by omega)).trans ?_; first | assumption | exact mset_self _ _ _ | (refine (mset_ne (by omega)).trans ?_; first | assumption | exact mset_self _ _ _ | (refine (mset_ne (by omega)).trans ?_; first | assumption | exact mset_self _ _ _ | (refine (mset_ne (by omega)).trans ?_; first | assumption | exact mset_self _ _ _ | (refine (mset_ne (by omega)).trans ?_; first | assumption | exact mset_self _ _ _))))))))))) (by (try simp only [mset_1]); omega) rfl rfl (by exact Nat.le_of_ble_eq_true rfl) ?_
  refine V_iload_n C dX3_takeRevival_10 rfl ?_
  refine V_iconst C dX3_takeRevival_11 ?_
  refine V_icmp_lt C dX3_takeRevival_12 (tgt := 41) (by decide) (by omega) (by omega) (fun g12 => ?_) (fun g12 => ?_)
  · exact absurd g12 (by omega)
  · refine V_iload_n C dX3_takeRevival_15 rfl ?_
    refine V_aload_n C dX3_takeRevival_16 rfl ?_
    refine V_get C fg_X3_41 dX3_takeRevival_17 (by first | assumption | exact mset_self _ _ _ | (refine (mset_ne (by omega)).trans ?_; first | assumption | exact mset_self _ _ _ | (refine (mset_ne (by omega)).trans ?_; first | assumption | exact mset_self _ _ _ | (refine (mset_ne (by omega)).trans ?_; first | assumption | exact mset_self _ _ _ | (refine (mset_ne (by omega)).trans ?_; first | assumption | exact mset_self _ _ _ | (refine (mset_ne (by omega)).trans ?_; first | assumption | exact mset_self _ _ _ | (refine (mset_ne (by omega)).trans ?_; first | assumption | exact mset_self _ _ _ | (refine (mset_ne (by omega)).trans ?_; first | assumption | exact mset_self _ _ _ | (refine (mset_ne (by omega)).trans ?_; first | assumption | exact mset_self _ _ _ | (refine (mset_ne (by omega)).trans ?_; first | assumption | exact mset_self _ _ _ | (refine (mset_ne (by omega)).trans ?_; first | assumption | exact mset_self _ _ _))))))))))) (by (try simp only [mset_1]); omega) (by rfl) ?_
    refine V_alenI C dX3_takeRevival_20 (by first | assumption | exact mset_self _ _ _ | (refine (mset_ne (by omega)).trans ?_; first | assumption | exact mset_self _ _ _ | (refine (mset_ne (by omega)).trans ?_; first | assumption | exact mset_self _ _ _ | (refine (mset_ne (by omega)).trans ?_; first | assumption | exact mset_self _ _ _ | (refine (mset_ne (by omega)).trans ?_; first | assumption | exact mset_self _ _ _ | (refine (mset_ne (by omega)).trans ?_; first | assumption | exact mset_self _ _ _ | (refine (mset_ne (by omega)).trans ?_; first | assumption | exact mset_self _ _ _ | (refine (mset_ne (by omega)).trans ?_; first | assumption | exact mset_self _ _ _ | (refine (mset_ne (by omega)).trans ?_; first | assumption | exact mset_self _ _ _ | (refine (mset_ne (by omega)).trans ?_; first | assumption | exact mset_self _ _ _ | (refine (mset_ne (by omega)).trans ?_; first | assumption | exact mset_self _ _ _))))))))))) (by (try simp only [mset_1]); omega) ?_
    refine V_icmp_ge C dX3_takeRevival_21 (tgt := 41) (by decide) (by omega) (by omega) (fun g21 => ?_) (fun g21 => ?_)
    · exact absurd g21 (by omega)
    · refine V_aload_n C dX3_takeRevival_24 rfl ?_
      refine V_get C fg_X3_41 dX3_takeRevival_25 (by first | assumption | exact mset_self _ _ _ | (refine (mset_ne (by omega)).trans ?_; first | assumption | exact mset_self _ _ _ | (refine (mset_ne (by omega)).trans ?_; first | assumption | exact mset_self _ _ _ | (refine (mset_ne (by omega)).trans ?_; first | assumption | exact mset_self _ _ _ | (refine (mset_ne (by omega)).trans ?_; first | assumption | exact mset_self _ _ _ | (refine (mset_ne (by omega)).trans ?_; first | assumption | exact mset_self _ _ _ | (refine (mset_ne (by omega)).trans ?_; first | assumption | exact mset_self _ _ _ | (refine (mset_ne (by omega)).trans ?_; first | assumption | exact mset_self _ _ _ | (refine (mset_ne (by omega)).trans ?_; first | assumption | exact mset_self _ _ _ | (refine (mset_ne (by omega)).trans ?_; first | assumption | exact mset_self _ _ _ | (refine (mset_ne (by omega)).trans ?_; first | assumption | exact mset_self _ _ _))))))))))) (by (try simp only [mset_1]); omega) (by rfl) ?_
      refine V_iload_n C dX3_takeRevival_28 rfl ?_
      refine V_iload_n C dX3_takeRevival_29 rfl ?_
      refine V_iast C dX3_takeRevival_30 (by first | assumption | exact mset_self _ _ _ | (refine (mset_ne (by omega)).trans ?_; first | assumption | exact mset_self _ _ _ | (refine (mset_ne (by omega)).trans ?_; first | assumption | exact mset_self _ _ _ | (refine (mset_ne (by omega)).trans ?_; first | assumption | exact mset_self _ _ _ | (refine (mset_ne (by omega)).trans ?_; first | assumption | exact mset_self _ _ _ | (refine (mset_ne (by omega)).trans ?_; first | assumption | exact mset_self _ _ _ | (refine (mset_ne (by omega)).trans ?_; first | assumption | exact mset_self _ _ _ | (refine (mset_ne (by omega)).trans ?_; first | assumption | exact mset_self _ _ _ | (refine (mset_ne (by omega)).trans ?_; first | assumption | exact mset_self _ _ _ | (refine (mset_ne (by omega)).trans ?_; first | assumption | exact mset_self _ _ _ | (refine (mset_ne (by omega)).trans ?_; first | assumption | exact mset_self _ _ _))))))))))) (by (try simp only [mset_1]); omega) (by omega) (by omega) (by first | with_reducible exact Int.toNat_natCast _ | rfl) ?_
      refine V_aload_n C dX3_takeRevival_31 rfl ?_
      refine V_dup C dX3_takeRevival_32 rfl ?_
      refine V_get C fg_X3_28 dX3_takeRevival_33 (by first | assumption | exact mset_self _ _ _ | (refine (mset_ne (by omega)).trans ?_; first | assumption | exact mset_self _ _ _ | (refine (mset_ne (by omega)).trans ?_; first | assumption | exact mset_self _ _ _ | (refine (mset_ne (by omega)).trans ?_; first | assumption | exact mset_self _ _ _ | (refine (mset_ne (by omega)).trans ?_; first | assumption | exact mset_self _ _ _ | (refine (mset_ne (by omega)).trans ?_; first | assumption | exact mset_self _ _ _ | (refine (mset_ne (by omega)).trans ?_; first | assumption | exact mset_self _ _ _ | (refine (mset_ne (by omega)).trans ?_; first | assumption | exact mset_self _ _ _ | (refine (mset_ne (by omega)).trans ?_; first | assumption | exact mset_self _ _ _ | (refine (mset_ne (by omega)).trans ?_; first | assumption | exact mset_self _ _ _ | (refine (mset_ne (by omega)).trans ?_; first | assumption | exact mset_self _ _ _))))))))))) (by (try simp only [mset_1]); omega) (by rfl) ?_
      refine V_iconst C dX3_takeRevival_36 ?_
      refine V_iadd C dX3_takeRevival_37 ?_
      refine V_put C fp_X3_28 dX3_takeRevival_38 (by first | assumption | exact mset_self _ _ _ | (refine (mset_ne (by omega)).trans ?_; first | assumption | exact mset_self _ _ _ | (refine (mset_ne (by omega)).trans ?_; first | assumption | exact mset_self _ _ _ | (refine (mset_ne (by omega)).trans ?_; first | assumption | exact mset_self _ _ _ | (refine (mset_ne (by omega)).trans ?_; first | assumption | exact mset_self _ _ _ | (refine (mset_ne (by omega)).trans ?_; first | assumption | exact mset_self _ _ _ | (refine (mset_ne (by omega)).trans ?_; first | assumption | exact mset_self _ _ _ | (refine (mset_ne (by omega)).trans ?_; first | assumption | exact mset_self _ _ _ | (refine (mset_ne (by omega)).trans ?_; first | assumption | exact mset_self _ _ _ | (refine (mset_ne (by omega)).trans ?_; first | assumption | exact mset_self _ _ _ | (refine (mset_ne (by omega)).trans ?_; first | assumption | exact mset_self _ _ _))))))))))) (by (try simp only [mset_1]); omega) rfl rfl (by exact Nat.le_of_ble_eq_true rfl) ?_
      exact V_vret C hr dX3_takeRevival_41 (hK _ (by repeat (first | exact Sm.rf _ _ | refine Sm.ts ?_ (by first | rfl | (simp; done) | (simp; omega) | (dsimp only; omega)))) ⟨by simp only [mset_1]; exact hn, (by first | assumption | exact mset_self _ _ _ | (refine (mset_ne (by omega)).trans ?_; first | assumption | exact mset_self _ _ _ | (refine (mset_ne (by omega)).trans ?_; first | assumption | exact mset_self _ _ _ | (refine (mset_ne (by omega)).trans ?_; first | assumption | exact mset_self _ _ _ | (refine (mset_ne (by omega)).trans ?_; first | assumption | exact mset_self _ _ _ | (refine (mset_ne (by omega)).trans ?_; first | assumption | exact mset_self _ _ _ | (refine (mset_ne (by omega)).trans ?_; first | assumption | exact mset_self _ _ _ | (refine (mset_ne (by omega)).trans ?_; first | assumption | exact mset_self _ _ _ | (refine (mset_ne (by omega)).trans ?_; first | assumption | exact mset_self _ _ _ | (refine (mset_ne (by omega)).trans ?_; first | assumption | exact mset_self _ _ _ | (refine (mset_ne (by omega)).trans ?_; first | assumption | exact mset_self _ _ _))))))))))), (by first | assumption | exact mset_self _ _ _ | (refine (mset_ne (by omega)).trans ?_; first | assumption | exact mset_self _ _ _ | (refine (mset_ne (by omega)).trans ?_; first | assumption | exact mset_self _ _ _ | (refine (mset_ne (by omega)).trans ?_; first | assumption | exact mset_self _ _ _ | (refine (mset_ne (by omega)).trans ?_; first | assumption | exact mset_self _ _ _ | (refine (mset_ne (by omega)).trans ?_; first | assumption | exact mset_self _ _ _ | (refine (mset_ne (by omega)).trans ?_; first | assumption | exact mset_self _ _ _ | (refine (mset_ne (by omega)).trans ?_; first | assumption | exact mset_self _ _ _ | (refine (mset_ne (by omega)).trans ?_; first | assumption | exact mset_self _ _ _ | (refine (mset_ne (by omega)).trans ?_; first | assumption | exact mset_self _ _ _ | (refine (mset_ne (by omega)).trans ?_; first | assumption | exact mset_self _ _ _))))))))))), (by first | assumption | exact mset_self _ _ _ | (refine (mset_ne (by omega)).trans ?_; first | assumption | exact mset_self _ _ _ | (refine (mset_ne (by omega)).trans ?_; first | assumption | exact mset_self _ _ _ | (refine (mset_ne (by omega)).trans ?_; first | assumption | exact mset_self _ _ _ | (refine (mset_ne (by omega)).trans ?_; first | assumption | exact mset_self _ _ _ | (refine (mset_ne (by omega)).trans ?_; first | assumption | exact mset_self _ _ _ | (refine (mset_ne (by omega)).trans ?_; first | assumption | exact mset_self _ _ _ | (refine (mset_ne (by omega)).trans ?_; first | assumption | exact mset_self _ _ _ | (refine (mset_ne (by omega)).trans ?_; first | assumption | exact mset_self _ _ _ | (refine (mset_ne (by omega)).trans ?_; first | assumption | exact mset_self _ _ _ | (refine (mset_ne (by omega)).trans ?_; first | assumption | exact mset_self _ _ _))))))))))), (by first | assumption | exact mset_self _ _ _ | (refine (mset_ne (by omega)).trans ?_; first | assumption | exact mset_self _ _ _ | (refine (mset_ne (by omega)).trans ?_; first | assumption | exact mset_self _ _ _ | (refine (mset_ne (by omega)).trans ?_; first | assumption | exact mset_self _ _ _ | (refine (mset_ne (by omega)).trans ?_; first | assumption | exact mset_self _ _ _ | (refine (mset_ne (by omega)).trans ?_; first | assumption | exact mset_self _ _ _ | (refine (mset_ne (by omega)).trans ?_; first | assumption | exact mset_self _ _ _ | (refine (mset_ne (by omega)).trans ?_; first | assumption | exact mset_self _ _ _ | (refine (mset_ne (by omega)).trans ?_; first | assumption | exact mset_self _ _ _ | (refine (mset_ne (by omega)).trans ?_; first | assumption | exact mset_self _ _ _ | (refine (mset_ne (by omega)).trans ?_; first | assumption | exact mset_self _ _ _))))))))))), (by first | assumption | exact mset_self _ _ _ | (refine (mset_ne (by omega)).trans ?_; first | assumption | exact mset_self _ _ _ | (refine (mset_ne (by omega)).trans ?_; first | assumption | exact mset_self _ _ _ | (refine (mset_ne (by omega)).trans ?_; first | assumption | exact mset_self _ _ _ | (refine (mset_ne (by omega)).trans ?_; first | assumption | exact mset_self _ _ _ | (refine (mset_ne (by omega)).trans ?_; first | assumption | exact mset_self _ _ _ | (refine (mset_ne (by omega)).trans ?_; first | assumption | exact mset_self _ _ _ | (refine (mset_ne (by omega)).trans ?_; first | assumption | exact mset_self _ _ _ | (refine (mset_ne (by omega)).trans ?_; first | assumption | exact mset_self _ _ _ | (refine (mset_ne (by omega)).trans ?_; first | assumption | exact mset_self _ _ _ | (refine (mset_ne (by omega)).trans ?_; first | assumption | exact mset_self _ _ _))))))))))), (by first | assumption | exact mset_self _ _ _ | (refine (mset_ne (by omega)).trans ?_; first | assumption | exact mset_self _ _ _ | (refine (mset_ne (by omega)).trans ?_; first | assumption | exact mset_self _ _ _ | (refine (mset_ne (by omega)).trans ?_; first | assumption | exact mset_self _ _ _ | (refine (mset_ne (by omega)).trans ?_; first | assumption | exact mset_self _ _ _ | (refine (mset_ne (by omega)).trans ?_; first | assumption | exact mset_self _ _ _ | (refine (mset_ne (by omega)).trans ?_; first | assumption | exact mset_self _ _ _ | (refine (mset_ne (by omega)).trans ?_; first | assumption | exact mset_self _ _ _ | (refine (mset_ne (by omega)).trans ?_; first | assumption | exact mset_self _ _ _ | (refine (mset_ne (by omega)).trans ?_; first | assumption | exact mset_self _ _ _ | (refine (mset_ne (by omega)).trans ?_; first | assumption | exact mset_self _ _ _)))))))))))⟩)

set_option maxHeartbeats 400000 in
set_option maxRecDepth 4000 in
theorem ok_X3_begin {l : Launch} {D : va_G} {cy : Nat → ClassId} {z : Nat} {M : Mm} {K : Option Value → Mm → Prop} {r : Nat} {F : Nat → Int} {a : Nat → Nat → Int} (hR : RightAt cy z M r F a) (hB : RB F a) {u : Nat} {d : Int} (h9 : u < 10) (hK : ∀ M', Sm M M' (fun j => r ≤ j ∧ j < r + 6) → RightAt cy z M' r F (va_up a 4 (va_up (a 4) u d)) → K none M') :
    MT l D cy z false yX3_begin (wsy yX3_begin cX3_begin 3 none) 0 0 0 0 M [.ref (z + r), iv u, iv d] K := by
  refine MT_of (by decide) w_673 (Nat.le_of_ble_eq_true rfl) ?_
  intro p e s m args below meth c C hr hx0
  have hR9 := hR
  have hB9 := hB
  obtain ⟨hn, m0, m1, m2, m3, m4, m5⟩ := hR
  obtain ⟨b0, b1, b2, b3, b4⟩ := hB
  refine V_iload_n C dX3_begin_0 rfl ?_
  refine V_if_lt C dX3_begin_1 (tgt := 20) (by decide) (by omega) (fun g1 => ?_) (fun g1 => ?_)
  · exact absurd g1 (by omega)
  · refine V_iload_n C dX3_begin_4 rfl ?_
    refine V_aload_n C dX3_begin_5 rfl ?_
    refine V_get C fg_X3_44 dX3_begin_6 (by first | assumption | exact mset_self _ _ _ | (refine (mset_ne (by omega)).trans ?_; first | assumption | exact mset_self _ _ _ | (refine (mset_ne (by omega)).trans ?_; first | assumption | exact mset_self _ _ _ | (refine (mset_ne (by omega)).trans ?_; first | assumption | exact mset_self _ _ _ | (refine (mset_ne (by omega)).trans ?_; first | assumption | exact mset_self _ _ _ | (refine (mset_ne (by omega)).trans ?_; first | assumption | exact mset_self _ _ _ | (refine (mset_ne (by omega)).trans ?_; first | assumption | exact mset_self _ _ _ | (refine (mset_ne (by omega)).trans ?_; first | assumption | exact mset_self _ _ _ | (refine (mset_ne (by omega)).trans ?_; first | assumption | exact mset_self _ _ _ | (refine (mset_ne (by omega)).trans ?_; first | assumption | exact mset_self _ _ _ | (refine (mset_ne (by omega)).trans ?_; first | assumption | exact mset_self _ _ _))))))))))) (by (try simp only [mset_1]); omega) (by rfl) ?_
    refine V_alenI C dX3_begin_9 (by first | assumption | exact mset_self _ _ _ | (refine (mset_ne (by omega)).trans ?_; first | assumption | exact mset_self _ _ _ | (refine (mset_ne (by omega)).trans ?_; first | assumption | exact mset_self _ _ _ | (refine (mset_ne (by omega)).trans ?_; first | assumption | exact mset_self _ _ _ | (refine (mset_ne (by omega)).trans ?_; first | assumption | exact mset_self _ _ _ | (refine (mset_ne (by omega)).trans ?_; first | assumption | exact mset_self _ _ _ | (refine (mset_ne (by omega)).trans ?_; first | assumption | exact mset_self _ _ _ | (refine (mset_ne (by omega)).trans ?_; first | assumption | exact mset_self _ _ _ | (refine (mset_ne (by omega)).trans ?_; first | assumption | exact mset_self _ _ _ | (refine (mset_ne (by omega)).trans ?_; first | assumption | exact mset_self _ _ _ | (refine (mset_ne (by omega)).trans ?_; first | assumption | exact mset_self _ _ _))))))))))) (by (try simp only [mset_1]); omega) ?_
    refine V_icmp_ge C dX3_begin_10 (tgt := 20) (by decide) (by omega) (by omega) (fun g10 => ?_) (fun g10 => ?_)
    · exact absurd g10 (by omega)
    · refine V_aload_n C dX3_begin_13 rfl ?_
      refine V_get C fg_X3_44 dX3_begin_14 (by first | assumption | exact mset_self _ _ _ | (refine (mset_ne (by omega)).trans ?_; first | assumption | exact mset_self _ _ _ | (refine (mset_ne (by omega)).trans ?_; first | assumption | exact mset_self _ _ _ | (refine (mset_ne (by omega)).trans ?_; first | assumption | exact mset_self _ _ _ | (refine (mset_ne (by omega)).trans ?_; first | assumption | exact mset_self _ _ _ | (refine (mset_ne (by omega)).trans ?_; first | assumption | exact mset_self _ _ _ | (refine (mset_ne (by omega)).trans ?_; first | assumption | exact mset_self _ _ _ | (refine (mset_ne (by omega)).trans ?_; first | assumption | exact mset_self _ _ _ | (refine (mset_ne (by omega)).trans ?_; first | assumption | exact mset_self _ _ _ | (refine (mset_ne (by omega)).trans ?_; first | assumption | exact mset_self _ _ _ | (refine (mset_ne (by omega)).trans ?_; first | assumption | exact mset_self _ _ _))))))))))) (by (try simp only [mset_1]); omega) (by rfl) ?_
      refine V_iload_n C dX3_begin_17 rfl ?_
      refine V_iload_n C dX3_begin_18 rfl ?_
      refine V_iast C dX3_begin_19 (by first | assumption | exact mset_self _ _ _ | (refine (mset_ne (by omega)).trans ?_; first | assumption | exact mset_self _ _ _ | (refine (mset_ne (by omega)).trans ?_; first | assumption | exact mset_self _ _ _ | (refine (mset_ne (by omega)).trans ?_; first | assumption | exact mset_self _ _ _ | (refine (mset_ne (by omega)).trans ?_; first | assumption | exact mset_self _ _ _ | (refine (mset_ne (by omega)).trans ?_; first | assumption | exact mset_self _ _ _ | (refine (mset_ne (by omega)).trans ?_; first | assumption | exact mset_self _ _ _ | (refine (mset_ne (by omega)).trans ?_; first | assumption | exact mset_self _ _ _ | (refine (mset_ne (by omega)).trans ?_; first | assumption | exact mset_self _ _ _ | (refine (mset_ne (by omega)).trans ?_; first | assumption | exact mset_self _ _ _ | (refine (mset_ne (by omega)).trans ?_; first | assumption | exact mset_self _ _ _))))))))))) (by (try simp only [mset_1]); omega) (by omega) (by omega) (by first | with_reducible exact Int.toNat_natCast _ | rfl) ?_
      exact V_vret C hr dX3_begin_20 (hK _ (by repeat (first | exact Sm.rf _ _ | refine Sm.ts ?_ (by first | rfl | (simp; done) | (simp; omega) | (dsimp only; omega)))) ⟨by simp only [mset_1]; exact hn, (by first | assumption | exact mset_self _ _ _ | (refine (mset_ne (by omega)).trans ?_; first | assumption | exact mset_self _ _ _ | (refine (mset_ne (by omega)).trans ?_; first | assumption | exact mset_self _ _ _ | (refine (mset_ne (by omega)).trans ?_; first | assumption | exact mset_self _ _ _ | (refine (mset_ne (by omega)).trans ?_; first | assumption | exact mset_self _ _ _ | (refine (mset_ne (by omega)).trans ?_; first | assumption | exact mset_self _ _ _ | (refine (mset_ne (by omega)).trans ?_; first | assumption | exact mset_self _ _ _ | (refine (mset_ne (by omega)).trans ?_; first | assumption | exact mset_self _ _ _ | (refine (mset_ne (by omega)).trans ?_; first | assumption | exact mset_self _ _ _ | (refine (mset_ne (by omega)).trans ?_; first | assumption | exact mset_self _ _ _ | (refine (mset_ne (by omega)).trans ?_; first | assumption | exact mset_self _ _ _))))))))))), (by first | assumption | exact mset_self _ _ _ | (refine (mset_ne (by omega)).trans ?_; first | assumption | exact mset_self _ _ _ | (refine (mset_ne (by omega)).trans ?_; first | assumption | exact mset_self _ _ _ | (refine (mset_ne (by omega)).trans ?_; first | assumption | exact mset_self _ _ _ | (refine (mset_ne (by omega)).trans ?_; first | assumption | exact mset_self _ _ _ | (refine (mset_ne (by omega)).trans ?_; first | assumption | exact mset_self _ _ _ | (refine (mset_ne (by omega)).trans ?_; first | assumption | exact mset_self _ _ _ | (refine (mset_ne (by omega)).trans ?_; first | assumption | exact mset_self _ _ _ | (refine (mset_ne (by omega)).trans ?_; first | assumption | exact mset_self _ _ _ | (refine (mset_ne (by omega)).trans ?_; first | assumption | exact mset_self _ _ _ | (refine (mset_ne (by omega)).trans ?_; first | assumption | exact mset_self _ _ _))))))))))), (by first | assumption | exact mset_self _ _ _ | (refine (mset_ne (by omega)).trans ?_; first | assumption | exact mset_self _ _ _ | (refine (mset_ne (by omega)).trans ?_; first | assumption | exact mset_self _ _ _ | (refine (mset_ne (by omega)).trans ?_; first | assumption | exact mset_self _ _ _ | (refine (mset_ne (by omega)).trans ?_; first | assumption | exact mset_self _ _ _ | (refine (mset_ne (by omega)).trans ?_; first | assumption | exact mset_self _ _ _ | (refine (mset_ne (by omega)).trans ?_; first | assumption | exact mset_self _ _ _ | (refine (mset_ne (by omega)).trans ?_; first | assumption | exact mset_self _ _ _ | (refine (mset_ne (by omega)).trans ?_; first | assumption | exact mset_self _ _ _ | (refine (mset_ne (by omega)).trans ?_; first | assumption | exact mset_self _ _ _ | (refine (mset_ne (by omega)).trans ?_; first | assumption | exact mset_self _ _ _))))))))))), (by first | assumption | exact mset_self _ _ _ | (refine (mset_ne (by omega)).trans ?_; first | assumption | exact mset_self _ _ _ | (refine (mset_ne (by omega)).trans ?_; first | assumption | exact mset_self _ _ _ | (refine (mset_ne (by omega)).trans ?_; first | assumption | exact mset_self _ _ _ | (refine (mset_ne (by omega)).trans ?_; first | assumption | exact mset_self _ _ _ | (refine (mset_ne (by omega)).trans ?_; first | assumption | exact mset_self _ _ _ | (refine (mset_ne (by omega)).trans ?_; first | assumption | exact mset_self _ _ _ | (refine (mset_ne (by omega)).trans ?_; first | assumption | exact mset_self _ _ _ | (refine (mset_ne (by omega)).trans ?_; first | assumption | exact mset_self _ _ _ | (refine (mset_ne (by omega)).trans ?_; first | assumption | exact mset_self _ _ _ | (refine (mset_ne (by omega)).trans ?_; first | assumption | exact mset_self _ _ _))))))))))), (by first | assumption | exact mset_self _ _ _ | (refine (mset_ne (by omega)).trans ?_; first | assumption | exact mset_self _ _ _ | (refine (mset_ne (by omega)).trans ?_; first | assumption | exact mset_self _ _ _ | (refine (mset_ne (by omega)).trans ?_; first | assumption | exact mset_self _ _ _ | (refine (mset_ne (by omega)).trans ?_; first | assumption | exact mset_self _ _ _ | (refine (mset_ne (by omega)).trans ?_; first | assumption | exact mset_self _ _ _ | (refine (mset_ne (by omega)).trans ?_; first | assumption | exact mset_self _ _ _ | (refine (mset_ne (by omega)).trans ?_; first | assumption | exact mset_self _ _ _ | (refine (mset_ne (by omega)).trans ?_; first | assumption | exact mset_self _ _ _ | (refine (mset_ne (by omega)).trans ?_; first | assumption | exact mset_self _ _ _ | (refine (mset_ne (by omega)).trans ?_; first | assumption | exact mset_self _ _ _))))))))))), (by first | assumption | exact mset_self _ _ _ | (refine (mset_ne (by omega)).trans ?_; first | assumption | exact mset_self _ _ _ | (refine (mset_ne (by omega)).trans ?_; first | assumption | exact mset_self _ _ _ | (refine (mset_ne (by omega)).trans ?_; first | assumption | exact mset_self _ _ _ | (refine (mset_ne (by omega)).trans ?_; first | assumption | exact mset_self _ _ _ | (refine (mset_ne (by omega)).trans ?_; first | assumption | exact mset_self _ _ _ | (refine (mset_ne (by omega)).trans ?_; first | assumption | exact mset_self _ _ _ | (refine (mset_ne (by omega)).trans ?_; first | assumption | exact mset_self _ _ _ | (refine (mset_ne (by omega)).trans ?_; first | assumption | exact mset_self _ _ _ | (refine (mset_ne (by omega)).trans ?_; first | assumption | exact mset_self _ _ _ | (refine (mset_ne (by omega)).trans ?_; first | assumption | exact mset_self _ _ _)))))))))))⟩)

