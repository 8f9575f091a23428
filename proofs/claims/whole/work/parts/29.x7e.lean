/-! the reference's answers (X7), walked -/
theorem P7_331 {M M' : Mm} (h : Sm M M' (fun j => j = 331)) : Sm M M' P7 := h.mono (fun j hj => by have o : j = 331 := hj; subst o; exact ⟨by omega, by omega⟩)
set_option maxHeartbeats 400000 in
set_option maxRecDepth 4000 in
theorem ok_X7_date {l : Launch} {D : va_G} {cy : Nat → ClassId} {z : Nat} {M : Mm} {K : Option Value → Mm → Prop} {u N P A tx fr tl : Nat → Int} (hM : ModAt cy z M u N P A tx fr tl) {S : SD} (hRw : RowOf N S) (hB : SB S) (hJ : IS S) {d : Int} (hd : -2147483648 ≤ d ∧ d < 2147483648) (hX : ¬ (0 ≤ d ∧ d ≤ 29219) → ∀ M' u' fr' tl', Sm M M' P7 → ModAt cy z M' u' N P A tx fr' tl' → u' 0 = u 0 → u' 1 = 1 → u' 2 = u 2 → K (some (iv 0)) M') (hK : 0 ≤ d ∧ d ≤ 29219 → ∀ M' u' fr' tl', Sm M M' P7 → ModAt cy z M' u' N P A tx fr' tl' → u' 0 = u 0 → u' 1 = 0 → u' 2 = u 2 → K (some (iv (date d))) M') :
    MT l D cy z false yX7_date (wsy yX7_date cX7_date 2 (some .int)) 3 64 0 0 M [.ref (z + 331), iv d] K := by
  refine MT_of (by decide) w_856 (Nat.le_of_ble_eq_true rfl) ?_
  intro p e s m args below meth c C hr hx0
  have hM9 := hM
  obtain ⟨gn, g0, g1, g2, g3, g4, g5, g6⟩ := id hM
  have hB9 := hB
  have hr9 := hRw
  have hJ9 := hJ
  obtain ⟨e0, e1, e2, eH, eh, e9, e10, e11, e12, e13, e14, e15, eR⟩ := id hRw
  obtain ⟨d0, d1, d2, d4, d5, d6, dH, dR⟩ := id hB
  have dT := hJ.2.1
  refine V_aload_n C dX7_date_0 rfl ?_
  refine V_iload_n C dX7_date_1 rfl ?_
  refine V_iconst C dX7_date_2 ?_
  refine V_bipush C dX7_date_3 (by decide) ?_
  refine V_callS (fr := 1) (lo := 20) (mc := 0) (ms := 0) (As := [_]) C ysX7_lastOf w_857 dX7_date_5 rfl rfl (Nat.le_of_ble_eq_true rfl) ⟨Nat.le_of_ble_eq_true rfl, Nat.le_of_ble_eq_true rfl⟩ ⟨Nat.le_of_ble_eq_true rfl, Nat.le_of_ble_eq_true rfl⟩ ?_
  refine ok_X7_lastOf (by omega) ?_
  rw [show ny (79 + 1) - 1 = 29219 by decide]
  refine V_callS (fr := 0) (lo := 0) (mc := 0) (ms := 0) (As := [_, _, _]) C ysX7_in w_863 dX7_date_8 rfl rfl (Nat.le_of_ble_eq_true rfl) ⟨Nat.le_of_ble_eq_true rfl, Nat.le_of_ble_eq_true rfl⟩ ⟨Nat.le_of_ble_eq_true rfl, Nat.le_of_ble_eq_true rfl⟩ ?_
  refine ok_X7_in (by omega) (by omega) (by omega) (fun hw => ?_) (fun hw => ?_)
  · refine V_ifeq1 C dX7_date_11 (tgt := 18) (by decide) ?_
    refine V_iconst C dX7_date_14 ?_
    refine V_goto C dX7_date_15 (tgt := 19) (by decide) ?_
    refine V_callV (fr := 0) (lo := 0) (mc := 0) (ms := 0) (As := [_]) C yvX7_refused w_849 dX7_date_19 rfl rfl (by repeat (first | with_reducible assumption | with_reducible exact mset_self _ _ _ | refine (mset_ne (by omega)).trans ?_)) (by (try simp only [mset_1]); omega) rfl rfl (Nat.le_of_ble_eq_true rfl) ⟨Nat.le_of_ble_eq_true rfl, Nat.le_of_ble_eq_true rfl⟩ ⟨Nat.le_of_ble_eq_true rfl, Nat.le_of_ble_eq_true rfl⟩ ?_
    refine ok_X7_refused hM9 (by omega) (fun o => absurd o (by decide)) (fun _ M1 s1 x1 => ?_)
    have hM9 := x1
    obtain ⟨gn, g0, g1, g2, g3, g4, g5, g6⟩ := id hM9
    refine V_ifeq0 C dX7_date_22 (tgt := 29) (by decide) ?_
    refine V_iload_n C dX7_date_29 rfl ?_
    refine V_callS (fr := 2) (lo := 41) (mc := 0) (ms := 0) (As := [_]) C ysX7_dateOf w_866 dX7_date_30 rfl rfl (Nat.le_of_ble_eq_true rfl) ⟨Nat.le_of_ble_eq_true rfl, Nat.le_of_ble_eq_true rfl⟩ ⟨Nat.le_of_ble_eq_true rfl, Nat.le_of_ble_eq_true rfl⟩ ?_
    refine ok_X7_dateOf (by omega) ?_
    exact V_iret C hr dX7_date_33 (hK hw _ _ _ _ (P7_331 s1) x1 rfl rfl rfl)
  · refine V_ifeq0 C dX7_date_11 (tgt := 18) (by decide) ?_
    refine V_iconst C dX7_date_18 ?_
    refine V_callV (fr := 0) (lo := 0) (mc := 0) (ms := 0) (As := [_]) C yvX7_refused w_849 dX7_date_19 rfl rfl (by repeat (first | with_reducible assumption | with_reducible exact mset_self _ _ _ | refine (mset_ne (by omega)).trans ?_)) (by (try simp only [mset_1]); omega) rfl rfl (Nat.le_of_ble_eq_true rfl) ⟨Nat.le_of_ble_eq_true rfl, Nat.le_of_ble_eq_true rfl⟩ ⟨Nat.le_of_ble_eq_true rfl, Nat.le_of_ble_eq_true rfl⟩ ?_
    refine ok_X7_refused hM9 (by omega) (fun _ M1 s1 x1 => ?_) (fun o => absurd o (by decide))
    have hM9 := x1
    obtain ⟨gn, g0, g1, g2, g3, g4, g5, g6⟩ := id hM9
    refine V_ifeq1 C dX7_date_22 (tgt := 29) (by decide) ?_
    refine V_iconst C dX7_date_25 ?_
    refine V_goto C dX7_date_26 (tgt := 33) (by decide) ?_
    exact V_iret C hr dX7_date_33 (hX hw _ _ _ _ (P7_331 s1) x1 rfl rfl rfl)

set_option maxHeartbeats 400000 in
set_option maxRecDepth 4000 in
theorem ok_X7_day {l : Launch} {D : va_G} {cy : Nat → ClassId} {z : Nat} {M : Mm} {K : Option Value → Mm → Prop} {u N P A tx fr tl : Nat → Int} (hM : ModAt cy z M u N P A tx fr tl) {S : SD} (hRw : RowOf N S) (hB : SB S) (hJ : IS S) {y t k : Int} (hy : -2147483648 ≤ y ∧ y < 2147483648) (ht : -2147483648 ≤ t ∧ t < 2147483648) (hk : -2147483648 ≤ k ∧ k < 2147483648) (hX : ¬ ((0 ≤ y ∧ y ≤ 79) ∧ (1 ≤ t ∧ t ≤ 12) ∧ 1 ≤ k ∧ k ≤ ml y t) → ∀ M' u' fr' tl', Sm M M' P7 → ModAt cy z M' u' N P A tx fr' tl' → u' 0 = u 0 → u' 1 = 1 → u' 2 = u 2 → K (some (iv 0)) M') (hK : ((0 ≤ y ∧ y ≤ 79) ∧ (1 ≤ t ∧ t ≤ 12) ∧ 1 ≤ k ∧ k ≤ ml y t) → ∀ M' u' fr' tl', Sm M M' P7 → ModAt cy z M' u' N P A tx fr' tl' → u' 0 = u 0 → u' 1 = 0 → u' 2 = u 2 → K (some (iv (dayN y t k))) M') :
    MT l D cy z false yX7_day (wsy yX7_day cX7_day 5 (some .int)) 2 45 0 0 M [.ref (z + 331), iv y, iv t, iv k] K := by
  refine MT_of (by decide) w_878 (Nat.le_of_ble_eq_true rfl) ?_
  intro p e s m args below meth c C hr hx0
  have hM9 := hM
  obtain ⟨gn, g0, g1, g2, g3, g4, g5, g6⟩ := id hM
  have hB9 := hB
  have hr9 := hRw
  have hJ9 := hJ
  obtain ⟨e0, e1, e2, eH, eh, e9, e10, e11, e12, e13, e14, e15, eR⟩ := id hRw
  obtain ⟨d0, d1, d2, d4, d5, d6, dH, dR⟩ := id hB
  have dT := hJ.2.1
  refine V_iload_n C dX7_day_0 rfl ?_
  refine V_iconst C dX7_day_1 ?_
  refine V_bipush C dX7_day_2 (by decide) ?_
  refine V_callS (fr := 0) (lo := 0) (mc := 0) (ms := 0) (As := [_, _, _]) C ysX7_in w_863 dX7_day_4 rfl rfl (Nat.le_of_ble_eq_true rfl) ⟨Nat.le_of_ble_eq_true rfl, Nat.le_of_ble_eq_true rfl⟩ ⟨Nat.le_of_ble_eq_true rfl, Nat.le_of_ble_eq_true rfl⟩ ?_
  refine ok_X7_in (by omega) (by omega) (by omega) (fun hw1 => ?_) (fun hw1 => ?_)
  · refine V_ifeq1 C dX7_day_7 (tgt := 37) (by decide) ?_
    refine V_iload_n C dX7_day_10 rfl ?_
    refine V_iconst C dX7_day_11 ?_
    refine V_bipush C dX7_day_12 (by decide) ?_
    refine V_callS (fr := 0) (lo := 0) (mc := 0) (ms := 0) (As := [_, _, _]) C ysX7_in w_863 dX7_day_14 rfl rfl (Nat.le_of_ble_eq_true rfl) ⟨Nat.le_of_ble_eq_true rfl, Nat.le_of_ble_eq_true rfl⟩ ⟨Nat.le_of_ble_eq_true rfl, Nat.le_of_ble_eq_true rfl⟩ ?_
    refine ok_X7_in (by omega) (by omega) (by omega) (fun hw2 => ?_) (fun hw2 => ?_)
    · refine V_ifeq1 C dX7_day_17 (tgt := 37) (by decide) ?_
      refine V_iload_n C dX7_day_20 rfl ?_
      refine V_iconst C dX7_day_21 ?_
      refine V_iload_n C dX7_day_22 rfl ?_
      refine V_iload_n C dX7_day_23 rfl ?_
      refine V_callS (fr := 0) (lo := 0) (mc := 0) (ms := 0) (As := [_, _]) C ysX7_monthDays w_872 dX7_day_24 rfl rfl (Nat.le_of_ble_eq_true rfl) ⟨Nat.le_of_ble_eq_true rfl, Nat.le_of_ble_eq_true rfl⟩ ⟨Nat.le_of_ble_eq_true rfl, Nat.le_of_ble_eq_true rfl⟩ ?_
      refine ok_X7_monthDays (by omega) (by omega) ?_
      have mr := ml_rng y t
      refine V_callS (fr := 0) (lo := 0) (mc := 0) (ms := 0) (As := [_, _, _]) C ysX7_in w_863 dX7_day_27 rfl rfl (Nat.le_of_ble_eq_true rfl) ⟨Nat.le_of_ble_eq_true rfl, Nat.le_of_ble_eq_true rfl⟩ ⟨Nat.le_of_ble_eq_true rfl, Nat.le_of_ble_eq_true rfl⟩ ?_
      refine ok_X7_in (by omega) (by omega) (by omega) (fun hw3 => ?_) (fun hw3 => ?_)
      · refine V_ifeq1 C dX7_day_30 (tgt := 37) (by decide) ?_
        refine V_iconst C dX7_day_33 ?_
        refine V_goto C dX7_day_34 (tgt := 38) (by decide) ?_
        refine V_istore C dX7_day_38 (by decide) ?_
        refine V_aload_n C dX7_day_40 rfl ?_
        refine V_iload C dX7_day_41 rfl ?_
        refine V_if_eq C dX7_day_43 (tgt := 50) (by decide) (by omega) (fun g43 => ?_) (fun g43 => ?_)
        · exact absurd g43 (by decide)
        · refine V_iconst C dX7_day_46 ?_
          refine V_goto C dX7_day_47 (tgt := 51) (by decide) ?_
          refine V_callV (fr := 0) (lo := 0) (mc := 0) (ms := 0) (As := [_]) C yvX7_refused w_849 dX7_day_51 rfl rfl (by repeat (first | with_reducible assumption | with_reducible exact mset_self _ _ _ | refine (mset_ne (by omega)).trans ?_)) (by (try simp only [mset_1]); omega) rfl rfl (Nat.le_of_ble_eq_true rfl) ⟨Nat.le_of_ble_eq_true rfl, Nat.le_of_ble_eq_true rfl⟩ ⟨Nat.le_of_ble_eq_true rfl, Nat.le_of_ble_eq_true rfl⟩ ?_
          refine ok_X7_refused hM9 (by omega) (fun o => absurd o (by decide)) (fun _ M1 s1 x1 => ?_)
          have hM9 := x1
          obtain ⟨gn, g0, g1, g2, g3, g4, g5, g6⟩ := id hM9
          refine V_ifeq0 C dX7_day_54 (tgt := 61) (by decide) ?_
          refine V_iload_n C dX7_day_61 rfl ?_
          refine V_iload_n C dX7_day_62 rfl ?_
          refine V_iload_n C dX7_day_63 rfl ?_
          refine V_callS (fr := 1) (lo := 21) (mc := 0) (ms := 0) (As := [_, _, _]) C ysX7_dayOf w_879 dX7_day_64 rfl rfl (Nat.le_of_ble_eq_true rfl) ⟨Nat.le_of_ble_eq_true rfl, Nat.le_of_ble_eq_true rfl⟩ ⟨Nat.le_of_ble_eq_true rfl, Nat.le_of_ble_eq_true rfl⟩ ?_
          refine ok_X7_dayOf (by omega) (by omega) (by omega) ?_
          exact V_iret C hr dX7_day_67 (hK ⟨hw1, hw2, hw3⟩ _ _ _ _ (P7_331 s1) x1 rfl rfl rfl)
      · refine V_ifeq0 C dX7_day_30 (tgt := 37) (by decide) ?_
        refine V_iconst C dX7_day_37 ?_
        refine V_istore C dX7_day_38 (by decide) ?_
        refine V_aload_n C dX7_day_40 rfl ?_
        refine V_iload C dX7_day_41 rfl ?_
        refine V_if_eq C dX7_day_43 (tgt := 50) (by decide) (by omega) (fun g43 => ?_) (fun g43 => ?_)
        · refine V_iconst C dX7_day_50 ?_
          refine V_callV (fr := 0) (lo := 0) (mc := 0) (ms := 0) (As := [_]) C yvX7_refused w_849 dX7_day_51 rfl rfl (by repeat (first | with_reducible assumption | with_reducible exact mset_self _ _ _ | refine (mset_ne (by omega)).trans ?_)) (by (try simp only [mset_1]); omega) rfl rfl (Nat.le_of_ble_eq_true rfl) ⟨Nat.le_of_ble_eq_true rfl, Nat.le_of_ble_eq_true rfl⟩ ⟨Nat.le_of_ble_eq_true rfl, Nat.le_of_ble_eq_true rfl⟩ ?_
          refine ok_X7_refused hM9 (by omega) (fun _ M1 s1 x1 => ?_) (fun o => absurd o (by decide))
          have hM9 := x1
          obtain ⟨gn, g0, g1, g2, g3, g4, g5, g6⟩ := id hM9
          refine V_ifeq1 C dX7_day_54 (tgt := 61) (by decide) ?_
          refine V_iconst C dX7_day_57 ?_
          refine V_goto C dX7_day_58 (tgt := 67) (by decide) ?_
          exact V_iret C hr dX7_day_67 (hX (fun o => hw3 o.2.2) _ _ _ _ (P7_331 s1) x1 rfl rfl rfl)
        · exact absurd rfl g43
    · refine V_ifeq0 C dX7_day_17 (tgt := 37) (by decide) ?_
      refine V_iconst C dX7_day_37 ?_
      refine V_istore C dX7_day_38 (by decide) ?_
      refine V_aload_n C dX7_day_40 rfl ?_
      refine V_iload C dX7_day_41 rfl ?_
      refine V_if_eq C dX7_day_43 (tgt := 50) (by decide) (by omega) (fun g43 => ?_) (fun g43 => ?_)
      · refine V_iconst C dX7_day_50 ?_
        refine V_callV (fr := 0) (lo := 0) (mc := 0) (ms := 0) (As := [_]) C yvX7_refused w_849 dX7_day_51 rfl rfl (by repeat (first | with_reducible assumption | with_reducible exact mset_self _ _ _ | refine (mset_ne (by omega)).trans ?_)) (by (try simp only [mset_1]); omega) rfl rfl (Nat.le_of_ble_eq_true rfl) ⟨Nat.le_of_ble_eq_true rfl, Nat.le_of_ble_eq_true rfl⟩ ⟨Nat.le_of_ble_eq_true rfl, Nat.le_of_ble_eq_true rfl⟩ ?_
        refine ok_X7_refused hM9 (by omega) (fun _ M1 s1 x1 => ?_) (fun o => absurd o (by decide))
        have hM9 := x1
        obtain ⟨gn, g0, g1, g2, g3, g4, g5, g6⟩ := id hM9
        refine V_ifeq1 C dX7_day_54 (tgt := 61) (by decide) ?_
        refine V_iconst C dX7_day_57 ?_
        refine V_goto C dX7_day_58 (tgt := 67) (by decide) ?_
        exact V_iret C hr dX7_day_67 (hX (fun o => hw2 o.2.1) _ _ _ _ (P7_331 s1) x1 rfl rfl rfl)
      · exact absurd rfl g43
  · refine V_ifeq0 C dX7_day_7 (tgt := 37) (by decide) ?_
    refine V_iconst C dX7_day_37 ?_
    refine V_istore C dX7_day_38 (by decide) ?_
    refine V_aload_n C dX7_day_40 rfl ?_
    refine V_iload C dX7_day_41 rfl ?_
    refine V_if_eq C dX7_day_43 (tgt := 50) (by decide) (by omega) (fun g43 => ?_) (fun g43 => ?_)
    · refine V_iconst C dX7_day_50 ?_
      refine V_callV (fr := 0) (lo := 0) (mc := 0) (ms := 0) (As := [_]) C yvX7_refused w_849 dX7_day_51 rfl rfl (by repeat (first | with_reducible assumption | with_reducible exact mset_self _ _ _ | refine (mset_ne (by omega)).trans ?_)) (by (try simp only [mset_1]); omega) rfl rfl (Nat.le_of_ble_eq_true rfl) ⟨Nat.le_of_ble_eq_true rfl, Nat.le_of_ble_eq_true rfl⟩ ⟨Nat.le_of_ble_eq_true rfl, Nat.le_of_ble_eq_true rfl⟩ ?_
      refine ok_X7_refused hM9 (by omega) (fun _ M1 s1 x1 => ?_) (fun o => absurd o (by decide))
      have hM9 := x1
      obtain ⟨gn, g0, g1, g2, g3, g4, g5, g6⟩ := id hM9
      refine V_ifeq1 C dX7_day_54 (tgt := 61) (by decide) ?_
      refine V_iconst C dX7_day_57 ?_
      refine V_goto C dX7_day_58 (tgt := 67) (by decide) ?_
      exact V_iret C hr dX7_day_67 (hX (fun o => hw1 o.1) _ _ _ _ (P7_331 s1) x1 rfl rfl rfl)
    · exact absurd rfl g43

set_option maxHeartbeats 400000 in
set_option maxRecDepth 4000 in
theorem ok_X7_later {l : Launch} {D : va_G} {cy : Nat → ClassId} {z : Nat} {M : Mm} {K : Option Value → Mm → Prop} {u N P A tx fr tl : Nat → Int} (hM : ModAt cy z M u N P A tx fr tl) {S : SD} (hRw : RowOf N S) (hB : SB S) (hJ : IS S) {d n : Int} (hd : -2147483648 ≤ d ∧ d < 2147483648) (hn : -2147483648 ≤ n ∧ n < 2147483648) (hX : ¬ ((0 ≤ d ∧ d ≤ 18262) ∧ 0 ≤ n ∧ n ≤ 300) → ∀ M' u' fr' tl', Sm M M' P7 → ModAt cy z M' u' N P A tx fr' tl' → u' 0 = u 0 → u' 1 = 1 → u' 2 = u 2 → K (some (iv 0)) M') (hK : ((0 ≤ d ∧ d ≤ 18262) ∧ 0 ≤ n ∧ n ≤ 300) → ∀ M' u' fr' tl', Sm M M' P7 → ModAt cy z M' u' N P A tx fr' tl' → u' 0 = u 0 → u' 1 = 0 → u' 2 = u 2 → K (some (iv (later d n))) M') :
    MT l D cy z false yX7_later (wsy yX7_later cX7_later 3 (some .int)) 4 90 0 0 M [.ref (z + 331), iv d, iv n] K := by
  refine MT_of (by decide) w_885 (Nat.le_of_ble_eq_true rfl) ?_
  intro p e s m args below meth c C hr hx0
  have hM9 := hM
  obtain ⟨gn, g0, g1, g2, g3, g4, g5, g6⟩ := id hM
  have hB9 := hB
  have hr9 := hRw
  have hJ9 := hJ
  obtain ⟨e0, e1, e2, eH, eh, e9, e10, e11, e12, e13, e14, e15, eR⟩ := id hRw
  obtain ⟨d0, d1, d2, d4, d5, d6, dH, dR⟩ := id hB
  have dT := hJ.2.1
  refine V_aload_n C dX7_later_0 rfl ?_
  refine V_iload_n C dX7_later_1 rfl ?_
  refine V_iconst C dX7_later_2 ?_
  refine V_bipush C dX7_later_3 (by decide) ?_
  refine V_callS (fr := 1) (lo := 20) (mc := 0) (ms := 0) (As := [_]) C ysX7_lastOf w_857 dX7_later_5 rfl rfl (Nat.le_of_ble_eq_true rfl) ⟨Nat.le_of_ble_eq_true rfl, Nat.le_of_ble_eq_true rfl⟩ ⟨Nat.le_of_ble_eq_true rfl, Nat.le_of_ble_eq_true rfl⟩ ?_
  refine ok_X7_lastOf (by omega) ?_
  rw [show ny (49 + 1) - 1 = 18262 by decide]
  refine V_callS (fr := 0) (lo := 0) (mc := 0) (ms := 0) (As := [_, _, _]) C ysX7_in w_863 dX7_later_8 rfl rfl (Nat.le_of_ble_eq_true rfl) ⟨Nat.le_of_ble_eq_true rfl, Nat.le_of_ble_eq_true rfl⟩ ⟨Nat.le_of_ble_eq_true rfl, Nat.le_of_ble_eq_true rfl⟩ ?_
  refine ok_X7_in (by omega) (by omega) (by omega) (fun hw1 => ?_) (fun hw1 => ?_)
  · refine V_ifeq1 C dX7_later_11 (tgt := 29) (by decide) ?_
    refine V_iload_n C dX7_later_14 rfl ?_
    refine V_iconst C dX7_later_15 ?_
    refine V_sipush C dX7_later_16 (by decide) ?_
    refine V_callS (fr := 0) (lo := 0) (mc := 0) (ms := 0) (As := [_, _, _]) C ysX7_in w_863 dX7_later_19 rfl rfl (Nat.le_of_ble_eq_true rfl) ⟨Nat.le_of_ble_eq_true rfl, Nat.le_of_ble_eq_true rfl⟩ ⟨Nat.le_of_ble_eq_true rfl, Nat.le_of_ble_eq_true rfl⟩ ?_
    refine ok_X7_in (by omega) (by omega) (by omega) (fun hw2 => ?_) (fun hw2 => ?_)
    · refine V_ifeq1 C dX7_later_22 (tgt := 29) (by decide) ?_
      refine V_iconst C dX7_later_25 ?_
      refine V_goto C dX7_later_26 (tgt := 30) (by decide) ?_
      refine V_callV (fr := 0) (lo := 0) (mc := 0) (ms := 0) (As := [_]) C yvX7_refused w_849 dX7_later_30 rfl rfl (by repeat (first | with_reducible assumption | with_reducible exact mset_self _ _ _ | refine (mset_ne (by omega)).trans ?_)) (by (try simp only [mset_1]); omega) rfl rfl (Nat.le_of_ble_eq_true rfl) ⟨Nat.le_of_ble_eq_true rfl, Nat.le_of_ble_eq_true rfl⟩ ⟨Nat.le_of_ble_eq_true rfl, Nat.le_of_ble_eq_true rfl⟩ ?_
      refine ok_X7_refused hM9 (by omega) (fun o => absurd o (by decide)) (fun _ M1 s1 x1 => ?_)
      have hM9 := x1
      obtain ⟨gn, g0, g1, g2, g3, g4, g5, g6⟩ := id hM9
      refine V_ifeq0 C dX7_later_33 (tgt := 40) (by decide) ?_
      refine V_iload_n C dX7_later_40 rfl ?_
      refine V_iload_n C dX7_later_41 rfl ?_
      refine V_callS (fr := 3) (lo := 64) (mc := 0) (ms := 0) (As := [_, _]) C ysX7_behind w_886 dX7_later_42 rfl rfl (Nat.le_of_ble_eq_true rfl) ⟨Nat.le_of_ble_eq_true rfl, Nat.le_of_ble_eq_true rfl⟩ ⟨Nat.le_of_ble_eq_true rfl, Nat.le_of_ble_eq_true rfl⟩ ?_
      refine ok_X7_behind (by omega) (by omega) ?_
      exact V_iret C hr dX7_later_45 (hK ⟨hw1, hw2⟩ _ _ _ _ (P7_331 s1) x1 rfl rfl rfl)
    · refine V_ifeq0 C dX7_later_22 (tgt := 29) (by decide) ?_
      refine V_iconst C dX7_later_29 ?_
      refine V_callV (fr := 0) (lo := 0) (mc := 0) (ms := 0) (As := [_]) C yvX7_refused w_849 dX7_later_30 rfl rfl (by repeat (first | with_reducible assumption | with_reducible exact mset_self _ _ _ | refine (mset_ne (by omega)).trans ?_)) (by (try simp only [mset_1]); omega) rfl rfl (Nat.le_of_ble_eq_true rfl) ⟨Nat.le_of_ble_eq_true rfl, Nat.le_of_ble_eq_true rfl⟩ ⟨Nat.le_of_ble_eq_true rfl, Nat.le_of_ble_eq_true rfl⟩ ?_
      refine ok_X7_refused hM9 (by omega) (fun _ M1 s1 x1 => ?_) (fun o => absurd o (by decide))
      have hM9 := x1
      obtain ⟨gn, g0, g1, g2, g3, g4, g5, g6⟩ := id hM9
      refine V_ifeq1 C dX7_later_33 (tgt := 40) (by decide) ?_
      refine V_iconst C dX7_later_36 ?_
      refine V_goto C dX7_later_37 (tgt := 45) (by decide) ?_
      exact V_iret C hr dX7_later_45 (hX (fun o => hw2 o.2) _ _ _ _ (P7_331 s1) x1 rfl rfl rfl)
  · refine V_ifeq0 C dX7_later_11 (tgt := 29) (by decide) ?_
    refine V_iconst C dX7_later_29 ?_
    refine V_callV (fr := 0) (lo := 0) (mc := 0) (ms := 0) (As := [_]) C yvX7_refused w_849 dX7_later_30 rfl rfl (by repeat (first | with_reducible assumption | with_reducible exact mset_self _ _ _ | refine (mset_ne (by omega)).trans ?_)) (by (try simp only [mset_1]); omega) rfl rfl (Nat.le_of_ble_eq_true rfl) ⟨Nat.le_of_ble_eq_true rfl, Nat.le_of_ble_eq_true rfl⟩ ⟨Nat.le_of_ble_eq_true rfl, Nat.le_of_ble_eq_true rfl⟩ ?_
    refine ok_X7_refused hM9 (by omega) (fun _ M1 s1 x1 => ?_) (fun o => absurd o (by decide))
    have hM9 := x1
    obtain ⟨gn, g0, g1, g2, g3, g4, g5, g6⟩ := id hM9
    refine V_ifeq1 C dX7_later_33 (tgt := 40) (by decide) ?_
    refine V_iconst C dX7_later_36 ?_
    refine V_goto C dX7_later_37 (tgt := 45) (by decide) ?_
    exact V_iret C hr dX7_later_45 (hX (fun o => hw1 o.1) _ _ _ _ (P7_331 s1) x1 rfl rfl rfl)

set_option maxHeartbeats 400000 in
set_option maxRecDepth 4000 in
theorem ok_X7_putOff {l : Launch} {D : va_G} {cy : Nat → ClassId} {z : Nat} {M : Mm} {K : Option Value → Mm → Prop} {u N P A tx fr tl : Nat → Int} (hM : ModAt cy z M u N P A tx fr tl) {S : SD} (hRw : RowOf N S) (hB : SB S) (hJ : IS S) {d : Int} (hd : -2147483648 ≤ d ∧ d < 2147483648) (hX : ¬ (0 ≤ d ∧ d ≤ 28854) → ∀ M' u' fr' tl', Sm M M' P7 → ModAt cy z M' u' N P A tx fr' tl' → u' 0 = u 0 → u' 1 = 1 → u' 2 = u 2 → K (some (iv 0)) M') (hK : 0 ≤ d ∧ d ≤ 28854 → ∀ M' u' fr' tl', Sm M M' P7 → ModAt cy z M' u' N P A tx fr' tl' → u' 0 = u 0 → u' 1 = 0 → u' 2 = u 2 → K (some (iv (pf (Hf S) d))) M') :
    MT l D cy z false yX7_putOff (wsy yX7_putOff cX7_putOff 2 (some .int)) 4 86 0 0 M [.ref (z + 331), iv d] K := by
  refine MT_of (by decide) w_892 (Nat.le_of_ble_eq_true rfl) ?_
  intro p e s m args below meth c C hr hx0
  have hM9 := hM
  obtain ⟨gn, g0, g1, g2, g3, g4, g5, g6⟩ := id hM
  have hB9 := hB
  have hr9 := hRw
  have hJ9 := hJ
  obtain ⟨e0, e1, e2, eH, eh, e9, e10, e11, e12, e13, e14, e15, eR⟩ := id hRw
  obtain ⟨d0, d1, d2, d4, d5, d6, dH, dR⟩ := id hB
  have dT := hJ.2.1
  refine V_aload_n C dX7_putOff_0 rfl ?_
  refine V_iload_n C dX7_putOff_1 rfl ?_
  refine V_iconst C dX7_putOff_2 ?_
  refine V_bipush C dX7_putOff_3 (by decide) ?_
  refine V_callS (fr := 1) (lo := 20) (mc := 0) (ms := 0) (As := [_]) C ysX7_lastOf w_857 dX7_putOff_5 rfl rfl (Nat.le_of_ble_eq_true rfl) ⟨Nat.le_of_ble_eq_true rfl, Nat.le_of_ble_eq_true rfl⟩ ⟨Nat.le_of_ble_eq_true rfl, Nat.le_of_ble_eq_true rfl⟩ ?_
  refine ok_X7_lastOf (by omega) ?_
  rw [show ny (78 + 1) - 1 = 28854 by decide]
  refine V_callS (fr := 0) (lo := 0) (mc := 0) (ms := 0) (As := [_, _, _]) C ysX7_in w_863 dX7_putOff_8 rfl rfl (Nat.le_of_ble_eq_true rfl) ⟨Nat.le_of_ble_eq_true rfl, Nat.le_of_ble_eq_true rfl⟩ ⟨Nat.le_of_ble_eq_true rfl, Nat.le_of_ble_eq_true rfl⟩ ?_
  refine ok_X7_in (by omega) (by omega) (by omega) (fun hw => ?_) (fun hw => ?_)
  · refine V_ifeq1 C dX7_putOff_11 (tgt := 18) (by decide) ?_
    refine V_iconst C dX7_putOff_14 ?_
    refine V_goto C dX7_putOff_15 (tgt := 19) (by decide) ?_
    refine V_callV (fr := 0) (lo := 0) (mc := 0) (ms := 0) (As := [_]) C yvX7_refused w_849 dX7_putOff_19 rfl rfl (by repeat (first | with_reducible assumption | with_reducible exact mset_self _ _ _ | refine (mset_ne (by omega)).trans ?_)) (by (try simp only [mset_1]); omega) rfl rfl (Nat.le_of_ble_eq_true rfl) ⟨Nat.le_of_ble_eq_true rfl, Nat.le_of_ble_eq_true rfl⟩ ⟨Nat.le_of_ble_eq_true rfl, Nat.le_of_ble_eq_true rfl⟩ ?_
    refine ok_X7_refused hM9 (by omega) (fun o => absurd o (by decide)) (fun _ M1 s1 x1 => ?_)
    have hM9 := x1
    obtain ⟨gn, g0, g1, g2, g3, g4, g5, g6⟩ := id hM9
    refine V_ifeq0 C dX7_putOff_22 (tgt := 29) (by decide) ?_
    refine V_aload_n C dX7_putOff_29 rfl ?_
    refine V_iload_n C dX7_putOff_30 rfl ?_
    refine V_callV (fr := 3) (lo := 64) (mc := 0) (ms := 0) (As := [_]) C yvX7_worksFrom w_893 dX7_putOff_31 rfl rfl (by repeat (first | with_reducible assumption | with_reducible exact mset_self _ _ _ | refine (mset_ne (by omega)).trans ?_)) (by (try simp only [mset_1]); omega) rfl rfl (Nat.le_of_ble_eq_true rfl) ⟨Nat.le_of_ble_eq_true rfl, Nat.le_of_ble_eq_true rfl⟩ ⟨Nat.le_of_ble_eq_true rfl, Nat.le_of_ble_eq_true rfl⟩ ?_
    refine ok_X7_worksFrom hM9 e2 d2 (fun j hj => by have o := eh j hj; omega) (by omega) ?_
    rw [hRw.H]
    exact V_iret C hr dX7_putOff_34 (hK hw _ _ _ _ (P7_331 s1) x1 rfl rfl rfl)
  · refine V_ifeq0 C dX7_putOff_11 (tgt := 18) (by decide) ?_
    refine V_iconst C dX7_putOff_18 ?_
    refine V_callV (fr := 0) (lo := 0) (mc := 0) (ms := 0) (As := [_]) C yvX7_refused w_849 dX7_putOff_19 rfl rfl (by repeat (first | with_reducible assumption | with_reducible exact mset_self _ _ _ | refine (mset_ne (by omega)).trans ?_)) (by (try simp only [mset_1]); omega) rfl rfl (Nat.le_of_ble_eq_true rfl) ⟨Nat.le_of_ble_eq_true rfl, Nat.le_of_ble_eq_true rfl⟩ ⟨Nat.le_of_ble_eq_true rfl, Nat.le_of_ble_eq_true rfl⟩ ?_
    refine ok_X7_refused hM9 (by omega) (fun _ M1 s1 x1 => ?_) (fun o => absurd o (by decide))
    have hM9 := x1
    obtain ⟨gn, g0, g1, g2, g3, g4, g5, g6⟩ := id hM9
    refine V_ifeq1 C dX7_putOff_22 (tgt := 29) (by decide) ?_
    refine V_iconst C dX7_putOff_25 ?_
    refine V_goto C dX7_putOff_26 (tgt := 34) (by decide) ?_
    exact V_iret C hr dX7_putOff_34 (hX hw _ _ _ _ (P7_331 s1) x1 rfl rfl rfl)

set_option maxHeartbeats 400000 in
set_option maxRecDepth 4000 in
theorem ok_X7_right {l : Launch} {D : va_G} {cy : Nat → ClassId} {z : Nat} {M : Mm} {K : Option Value → Mm → Prop} {u N P A tx fr tl : Nat → Int} (hM : ModAt cy z M u N P A tx fr tl) {S : SD} (hRw : RowOf N S) (hB : SB S) (hJ : IS S) {r w : Int} (hZ : ∀ i, i < sN S → ∀ v, v < 10 → stV (RA S i) v = stU (RF S i) (RA S i) v) (hr32 : -2147483648 ≤ r ∧ r < 2147483648) (hw : -2147483648 ≤ w ∧ w < 2147483648) (hX1 : ¬ (0 ≤ r ∧ r < sN S) → ∀ M' u' fr' tl', Sm M M' P7 → ModAt cy z M' u' N P A tx fr' tl' → u' 0 = u 0 → u' 1 = 1 → u' 2 = u 2 → K (some (iv 0)) M') (hX2 : ∀ i : Nat, r = i → i < sN S → ¬ (0 ≤ w ∧ w ≤ 12) → ∀ M' u' fr' tl', Sm M M' P7 → ModAt cy z M' u' N P A tx fr' tl' → u' 0 = u 0 → u' 1 = 2 → u' 2 = u 2 → K (some (iv 0)) M') (hK : ∀ i : Nat, r = i → i < sN S → 0 ≤ w ∧ w ≤ 12 → ∀ M' u' fr' tl', Sm M M' P7 → ModAt cy z M' u' N P A tx fr' tl' → u' 0 = u 0 → u' 1 = 0 → u' 2 = u 2 → K (some (iv (rvT S i w))) M') :
    MT l D cy z false yX7_right (wsy yX7_right cX7_right 3 (some .int)) 8 178 0 0 M [.ref (z + 331), iv r, iv w] K := by
  refine MT_of (by decide) w_1018 (Nat.le_of_ble_eq_true rfl) ?_
  intro p e s m args below meth c C hr hx0
  have hM9 := hM
  obtain ⟨gn, g0, g1, g2, g3, g4, g5, g6⟩ := id hM
  have hB9 := hB
  have hr9 := hRw
  have hJ9 := hJ
  obtain ⟨e0, e1, e2, eH, eh, e9, e10, e11, e12, e13, e14, e15, eR⟩ := id hRw
  obtain ⟨d0, d1, d2, d4, d5, d6, dH, dR⟩ := id hB
  have dT := hJ.2.1
  refine V_aload_n C dX7_right_0 rfl ?_
  refine V_aload_n C dX7_right_1 rfl ?_
  refine V_iload_n C dX7_right_2 rfl ?_
  refine V_callV (fr := 1) (lo := 22) (mc := 0) (ms := 0) (As := [_]) C yvX7_isRight w_952 dX7_right_3 rfl rfl (by repeat (first | with_reducible assumption | with_reducible exact mset_self _ _ _ | refine (mset_ne (by omega)).trans ?_)) (by (try simp only [mset_1]); omega) rfl rfl (Nat.le_of_ble_eq_true rfl) ⟨Nat.le_of_ble_eq_true rfl, Nat.le_of_ble_eq_true rfl⟩ ⟨Nat.le_of_ble_eq_true rfl, Nat.le_of_ble_eq_true rfl⟩ ?_
  refine ok_X7_isRight hM9 hr9 hB9 hJ9 (by omega) (fun i ia hi => ?_) (fun hw9 => ?_)
  · subst ia
    have rt := eR i hi
    obtain ⟨w0, w1, w2, w3, w4, w5, w6, w7⟩ := id rt
    have ri := hJ.2.2 i hi
    have hi10 : i < 10 := by omega
    have rb := dR i hi10
    obtain ⟨b0, b1, b2, b3, b4⟩ := id rb
    have ri0 := ri.1
    have ri1 := ri.2.1
    refine V_ifne1 C dX7_right_6 (tgt := 13) (by decide) ?_
    refine V_iload_n C dX7_right_13 rfl ?_
    refine V_iconst C dX7_right_14 ?_
    refine V_bipush C dX7_right_15 (by decide) ?_
    refine V_callS (fr := 0) (lo := 0) (mc := 0) (ms := 0) (As := [_, _, _]) C ysX7_in w_863 dX7_right_17 rfl rfl (Nat.le_of_ble_eq_true rfl) ⟨Nat.le_of_ble_eq_true rfl, Nat.le_of_ble_eq_true rfl⟩ ⟨Nat.le_of_ble_eq_true rfl, Nat.le_of_ble_eq_true rfl⟩ ?_
    refine ok_X7_in (by omega) (by omega) (by omega) (fun hw => ?_) (fun hw => ?_)
    · refine V_ifeq1 C dX7_right_20 (tgt := 27) (by decide) ?_
      refine V_iconst C dX7_right_23 ?_
      refine V_goto C dX7_right_24 (tgt := 28) (by decide) ?_
      refine V_callV (fr := 0) (lo := 0) (mc := 0) (ms := 0) (As := [_]) C yvX7_refused w_849 dX7_right_28 rfl rfl (by repeat (first | with_reducible assumption | with_reducible exact mset_self _ _ _ | refine (mset_ne (by omega)).trans ?_)) (by (try simp only [mset_1]); omega) rfl rfl (Nat.le_of_ble_eq_true rfl) ⟨Nat.le_of_ble_eq_true rfl, Nat.le_of_ble_eq_true rfl⟩ ⟨Nat.le_of_ble_eq_true rfl, Nat.le_of_ble_eq_true rfl⟩ ?_
      refine ok_X7_refused hM9 (by omega) (fun o => absurd o (by decide)) (fun _ M1 s1 x1 => ?_)
      have hM9 := x1
      obtain ⟨gn, g0, g1, g2, g3, g4, g5, g6⟩ := id hM9
      refine V_ifeq0 C dX7_right_31 (tgt := 38) (by decide) ?_
      refine V_aload_n C dX7_right_38 rfl ?_
      refine V_iload_n C dX7_right_39 rfl ?_
      refine V_iload_n C dX7_right_40 rfl ?_
      refine V_callV (fr := 7) (lo := 155) (mc := 0) (ms := 0) (As := [_, _]) C yvX7_tellRight w_1019 dX7_right_41 rfl rfl (by repeat (first | with_reducible assumption | with_reducible exact mset_self _ _ _ | refine (mset_ne (by omega)).trans ?_)) (by (try simp only [mset_1]); omega) rfl rfl (Nat.le_of_ble_eq_true rfl) ⟨Nat.le_of_ble_eq_true rfl, Nat.le_of_ble_eq_true rfl⟩ ⟨Nat.le_of_ble_eq_true rfl, Nat.le_of_ble_eq_true rfl⟩ ?_
      refine ok_X7_tellRight hM9 hr9 hB9 hJ9 hi (hZ i hi) hw ?_
      exact V_iret C hr dX7_right_44 (hK i rfl hi hw _ _ _ _ (P7_331 s1) x1 rfl rfl rfl)
    · refine V_ifeq0 C dX7_right_20 (tgt := 27) (by decide) ?_
      refine V_iconst C dX7_right_27 ?_
      refine V_callV (fr := 0) (lo := 0) (mc := 0) (ms := 0) (As := [_]) C yvX7_refused w_849 dX7_right_28 rfl rfl (by repeat (first | with_reducible assumption | with_reducible exact mset_self _ _ _ | refine (mset_ne (by omega)).trans ?_)) (by (try simp only [mset_1]); omega) rfl rfl (Nat.le_of_ble_eq_true rfl) ⟨Nat.le_of_ble_eq_true rfl, Nat.le_of_ble_eq_true rfl⟩ ⟨Nat.le_of_ble_eq_true rfl, Nat.le_of_ble_eq_true rfl⟩ ?_
      refine ok_X7_refused hM9 (by omega) (fun _ M1 s1 x1 => ?_) (fun o => absurd o (by decide))
      have hM9 := x1
      obtain ⟨gn, g0, g1, g2, g3, g4, g5, g6⟩ := id hM9
      refine V_ifeq1 C dX7_right_31 (tgt := 38) (by decide) ?_
      refine V_iconst C dX7_right_34 ?_
      refine V_goto C dX7_right_35 (tgt := 44) (by decide) ?_
      exact V_iret C hr dX7_right_44 (hX2 i rfl hi hw _ _ _ _ (P7_331 s1) x1 rfl rfl rfl)
  · refine V_ifne0 C dX7_right_6 (tgt := 13) (by decide) ?_
    refine V_iconst C dX7_right_9 ?_
    refine V_goto C dX7_right_10 (tgt := 28) (by decide) ?_
    refine V_callV (fr := 0) (lo := 0) (mc := 0) (ms := 0) (As := [_]) C yvX7_refused w_849 dX7_right_28 rfl rfl (by repeat (first | with_reducible assumption | with_reducible exact mset_self _ _ _ | refine (mset_ne (by omega)).trans ?_)) (by (try simp only [mset_1]); omega) rfl rfl (Nat.le_of_ble_eq_true rfl) ⟨Nat.le_of_ble_eq_true rfl, Nat.le_of_ble_eq_true rfl⟩ ⟨Nat.le_of_ble_eq_true rfl, Nat.le_of_ble_eq_true rfl⟩ ?_
    refine ok_X7_refused hM9 (by omega) (fun _ M1 s1 x1 => ?_) (fun o => absurd o (by decide))
    have hM9 := x1
    obtain ⟨gn, g0, g1, g2, g3, g4, g5, g6⟩ := id hM9
    refine V_ifeq1 C dX7_right_31 (tgt := 38) (by decide) ?_
    refine V_iconst C dX7_right_34 ?_
    refine V_goto C dX7_right_35 (tgt := 44) (by decide) ?_
    exact V_iret C hr dX7_right_44 (hX1 hw9 _ _ _ _ (P7_331 s1) x1 rfl rfl rfl)

set_option maxHeartbeats 400000 in
set_option maxRecDepth 4000 in
theorem ok_X7_due {l : Launch} {D : va_G} {cy : Nat → ClassId} {z : Nat} {M : Mm} {K : Option Value → Mm → Prop} {u N P A tx fr tl : Nat → Int} (hM : ModAt cy z M u N P A tx fr tl) {S : SD} (hRw : RowOf N S) (hB : SB S) (hJ : IS S) {r y w : Int} (hr32 : -2147483648 ≤ r ∧ r < 2147483648) (hy : -2147483648 ≤ y ∧ y < 2147483648) (hw9 : w = 0 ∨ w = 1) (hX1 : ¬ (0 ≤ r ∧ r < sN S) → ∀ M' u' fr' tl', Sm M M' P7 → ModAt cy z M' u' N P A tx fr' tl' → u' 0 = u 0 → u' 1 = 1 → u' 2 = u 2 → K (some (iv 0)) M') (hX2 : ∀ i : Nat, r = i → i < sN S → ¬ (1 ≤ y ∧ y ≤ 19) → ∀ M' u' fr' tl', Sm M M' P7 → ModAt cy z M' u' N P A tx fr' tl' → u' 0 = u 0 → u' 1 = 2 → u' 2 = u 2 → K (some (iv 0)) M') (hK : ∀ i : Nat, r = i → i < sN S → 1 ≤ y ∧ y ≤ 19 → ∀ M' u' fr' tl', Sm M M' P7 → ModAt cy z M' u' N P A tx fr' tl' → u' 0 = u 0 → u' 1 = 0 → u' 2 = u 2 → K (some (iv (if w = 0 then RA S i 0 y.toNat else RA S i 1 y.toNat))) M') :
    MT l D cy z false yX7_due (wsy yX7_due cX7_due 4 (some .int)) 5 112 0 0 M [.ref (z + 331), iv r, iv y, iv w] K := by
  refine MT_of (by decide) w_1033 (Nat.le_of_ble_eq_true rfl) ?_
  intro p e s m args below meth c C hr hx0
  have hM9 := hM
  obtain ⟨gn, g0, g1, g2, g3, g4, g5, g6⟩ := id hM
  have hB9 := hB
  have hr9 := hRw
  have hJ9 := hJ
  obtain ⟨e0, e1, e2, eH, eh, e9, e10, e11, e12, e13, e14, e15, eR⟩ := id hRw
  obtain ⟨d0, d1, d2, d4, d5, d6, dH, dR⟩ := id hB
  have dT := hJ.2.1
  refine V_aload_n C dX7_due_0 rfl ?_
  refine V_aload_n C dX7_due_1 rfl ?_
  refine V_iload_n C dX7_due_2 rfl ?_
  refine V_callV (fr := 1) (lo := 22) (mc := 0) (ms := 0) (As := [_]) C yvX7_isRight w_952 dX7_due_3 rfl rfl (by repeat (first | with_reducible assumption | with_reducible exact mset_self _ _ _ | refine (mset_ne (by omega)).trans ?_)) (by (try simp only [mset_1]); omega) rfl rfl (Nat.le_of_ble_eq_true rfl) ⟨Nat.le_of_ble_eq_true rfl, Nat.le_of_ble_eq_true rfl⟩ ⟨Nat.le_of_ble_eq_true rfl, Nat.le_of_ble_eq_true rfl⟩ ?_
  refine ok_X7_isRight hM9 hr9 hB9 hJ9 (by omega) (fun i ia hi => ?_) (fun hw8 => ?_)
  · subst ia
    have rt := eR i hi
    obtain ⟨w0, w1, w2, w3, w4, w5, w6, w7⟩ := id rt
    have ri := hJ.2.2 i hi
    have hi10 : i < 10 := by omega
    have rb := dR i hi10
    obtain ⟨b0, b1, b2, b3, b4⟩ := id rb
    have ri0 := ri.1
    have ri1 := ri.2.1
    refine V_ifne1 C dX7_due_6 (tgt := 13) (by decide) ?_
    refine V_iload_n C dX7_due_13 rfl ?_
    refine V_iconst C dX7_due_14 ?_
    refine V_bipush C dX7_due_15 (by decide) ?_
    refine V_callS (fr := 0) (lo := 0) (mc := 0) (ms := 0) (As := [_, _, _]) C ysX7_in w_863 dX7_due_17 rfl rfl (Nat.le_of_ble_eq_true rfl) ⟨Nat.le_of_ble_eq_true rfl, Nat.le_of_ble_eq_true rfl⟩ ⟨Nat.le_of_ble_eq_true rfl, Nat.le_of_ble_eq_true rfl⟩ ?_
    refine ok_X7_in (by omega) (by omega) (by omega) (fun hw => ?_) (fun hw => ?_)
    · refine V_ifeq1 C dX7_due_20 (tgt := 27) (by decide) ?_
      refine V_iconst C dX7_due_23 ?_
      refine V_goto C dX7_due_24 (tgt := 28) (by decide) ?_
      refine V_callV (fr := 0) (lo := 0) (mc := 0) (ms := 0) (As := [_]) C yvX7_refused w_849 dX7_due_28 rfl rfl (by repeat (first | with_reducible assumption | with_reducible exact mset_self _ _ _ | refine (mset_ne (by omega)).trans ?_)) (by (try simp only [mset_1]); omega) rfl rfl (Nat.le_of_ble_eq_true rfl) ⟨Nat.le_of_ble_eq_true rfl, Nat.le_of_ble_eq_true rfl⟩ ⟨Nat.le_of_ble_eq_true rfl, Nat.le_of_ble_eq_true rfl⟩ ?_
      refine ok_X7_refused hM9 (by omega) (fun o => absurd o (by decide)) (fun _ M1 s1 x1 => ?_)
      have hM9 := x1
      obtain ⟨gn, g0, g1, g2, g3, g4, g5, g6⟩ := id hM9
      refine V_ifeq0 C dX7_due_31 (tgt := 36) (by decide) ?_
      refine V_iload_n C dX7_due_36 rfl ?_
      refine V_if_eq C dX7_due_37 (tgt := 49) (by decide) (by omega) (fun g37 => ?_) (fun g37 => ?_)
      · refine V_aload_n C dX7_due_49 rfl ?_
        refine V_iload_n C dX7_due_50 rfl ?_
        refine V_iload_n C dX7_due_51 rfl ?_
        refine V_callV (fr := 4) (lo := 90) (mc := 0) (ms := 0) (As := [_, _]) C yvX7_dueOf w_960 dX7_due_52 rfl rfl (by repeat (first | with_reducible assumption | with_reducible exact mset_self _ _ _ | refine (mset_ne (by omega)).trans ?_)) (by (try simp only [mset_1]); omega) rfl rfl (Nat.le_of_ble_eq_true rfl) ⟨Nat.le_of_ble_eq_true rfl, Nat.le_of_ble_eq_true rfl⟩ ⟨Nat.le_of_ble_eq_true rfl, Nat.le_of_ble_eq_true rfl⟩ ?_
        refine ok_X7_dueOf hM9 hr9 hB9 hJ9 hi (by omega) ?_
        exact V_iret C hr dX7_due_55 (K_of (hK i rfl hi hw _ _ _ _ (P7_331 s1) x1 rfl rfl rfl) (by rw [if_pos (show w = 0 by omega), yv_at (by omega)]))
      · refine V_aload_n C dX7_due_40 rfl ?_
        refine V_iload_n C dX7_due_41 rfl ?_
        refine V_iload_n C dX7_due_42 rfl ?_
        refine V_callV (fr := 4) (lo := 90) (mc := 0) (ms := 0) (As := [_, _]) C yvX7_graceOf w_944 dX7_due_43 rfl rfl (by repeat (first | with_reducible assumption | with_reducible exact mset_self _ _ _ | refine (mset_ne (by omega)).trans ?_)) (by (try simp only [mset_1]); omega) rfl rfl (Nat.le_of_ble_eq_true rfl) ⟨Nat.le_of_ble_eq_true rfl, Nat.le_of_ble_eq_true rfl⟩ ⟨Nat.le_of_ble_eq_true rfl, Nat.le_of_ble_eq_true rfl⟩ ?_
        refine ok_X7_graceOf hM9 hr9 hB9 hJ9 hi (by omega) ?_
        refine V_goto C dX7_due_46 (tgt := 55) (by decide) ?_
        exact V_iret C hr dX7_due_55 (K_of (hK i rfl hi hw _ _ _ _ (P7_331 s1) x1 rfl rfl rfl) (by rw [if_neg (show ¬ w = 0 by omega), yv_at (by omega)]))
    · refine V_ifeq0 C dX7_due_20 (tgt := 27) (by decide) ?_
      refine V_iconst C dX7_due_27 ?_
      refine V_callV (fr := 0) (lo := 0) (mc := 0) (ms := 0) (As := [_]) C yvX7_refused w_849 dX7_due_28 rfl rfl (by repeat (first | with_reducible assumption | with_reducible exact mset_self _ _ _ | refine (mset_ne (by omega)).trans ?_)) (by (try simp only [mset_1]); omega) rfl rfl (Nat.le_of_ble_eq_true rfl) ⟨Nat.le_of_ble_eq_true rfl, Nat.le_of_ble_eq_true rfl⟩ ⟨Nat.le_of_ble_eq_true rfl, Nat.le_of_ble_eq_true rfl⟩ ?_
      refine ok_X7_refused hM9 (by omega) (fun _ M1 s1 x1 => ?_) (fun o => absurd o (by decide))
      have hM9 := x1
      obtain ⟨gn, g0, g1, g2, g3, g4, g5, g6⟩ := id hM9
      refine V_ifeq1 C dX7_due_31 (tgt := 36) (by decide) ?_
      refine V_iconst C dX7_due_34 ?_
      exact V_iret C hr dX7_due_35 (hX2 i rfl hi hw _ _ _ _ (P7_331 s1) x1 rfl rfl rfl)
  · refine V_ifne0 C dX7_due_6 (tgt := 13) (by decide) ?_
    refine V_iconst C dX7_due_9 ?_
    refine V_goto C dX7_due_10 (tgt := 28) (by decide) ?_
    refine V_callV (fr := 0) (lo := 0) (mc := 0) (ms := 0) (As := [_]) C yvX7_refused w_849 dX7_due_28 rfl rfl (by repeat (first | with_reducible assumption | with_reducible exact mset_self _ _ _ | refine (mset_ne (by omega)).trans ?_)) (by (try simp only [mset_1]); omega) rfl rfl (Nat.le_of_ble_eq_true rfl) ⟨Nat.le_of_ble_eq_true rfl, Nat.le_of_ble_eq_true rfl⟩ ⟨Nat.le_of_ble_eq_true rfl, Nat.le_of_ble_eq_true rfl⟩ ?_
    refine ok_X7_refused hM9 (by omega) (fun _ M1 s1 x1 => ?_) (fun o => absurd o (by decide))
    have hM9 := x1
    obtain ⟨gn, g0, g1, g2, g3, g4, g5, g6⟩ := id hM9
    refine V_ifeq1 C dX7_due_31 (tgt := 36) (by decide) ?_
    refine V_iconst C dX7_due_34 ?_
    exact V_iret C hr dX7_due_35 (hX1 hw8 _ _ _ _ (P7_331 s1) x1 rfl rfl rfl)

set_option maxHeartbeats 400000 in
set_option maxRecDepth 4000 in
theorem ok_X7_stood {l : Launch} {D : va_G} {cy : Nat → ClassId} {z : Nat} {M : Mm} {K : Option Value → Mm → Prop} {u N P A tx fr tl : Nat → Int} (hM : ModAt cy z M u N P A tx fr tl) {S : SD} (hRw : RowOf N S) (hB : SB S) (hJ : IS S) {r d : Int} (hr32 : -2147483648 ≤ r ∧ r < 2147483648) (hd : -2147483648 ≤ d ∧ d < 2147483648) (hX1 : ¬ (0 ≤ r ∧ r < sN S) → ∀ M' u' fr' tl', Sm M M' P7 → ModAt cy z M' u' N P A tx fr' tl' → u' 0 = u 0 → u' 1 = 1 → u' 2 = u 2 → K (some (iv 0)) M') (hX2 : ∀ i : Nat, r = i → i < sN S → ¬ (0 ≤ d ∧ d ≤ sc S 0) → ∀ M' u' fr' tl', Sm M M' P7 → ModAt cy z M' u' N P A tx fr' tl' → u' 0 = u 0 → u' 1 = 2 → u' 2 = u 2 → K (some (iv 0)) M') (hT : ∀ i : Nat, r = i → i < sN S → 0 ≤ d ∧ d ≤ sc S 0 → stoodR (RF S i) (RA S i) d (sc S 0) → ∀ M' u' fr' tl', Sm M M' P7 → ModAt cy z M' u' N P A tx fr' tl' → u' 0 = u 0 → u' 1 = 0 → u' 2 = u 2 → K (some (iv 1)) M') (hF : ∀ i : Nat, r = i → i < sN S → 0 ≤ d ∧ d ≤ sc S 0 → ¬ stoodR (RF S i) (RA S i) d (sc S 0) → ∀ M' u' fr' tl', Sm M M' P7 → ModAt cy z M' u' N P A tx fr' tl' → u' 0 = u 0 → u' 1 = 0 → u' 2 = u 2 → K (some (iv 0)) M') :
    MT l D cy z false yX7_stood (wsy yX7_stood cX7_stood 3 (some .boolean)) 8 178 0 0 M [.ref (z + 331), iv r, iv d] K := by
  refine MT_of (by decide) w_1037 (Nat.le_of_ble_eq_true rfl) ?_
  intro p e s m args below meth c C hr hx0
  have hM9 := hM
  obtain ⟨gn, g0, g1, g2, g3, g4, g5, g6⟩ := id hM
  have hB9 := hB
  have hr9 := hRw
  have hJ9 := hJ
  obtain ⟨e0, e1, e2, eH, eh, e9, e10, e11, e12, e13, e14, e15, eR⟩ := id hRw
  obtain ⟨d0, d1, d2, d4, d5, d6, dH, dR⟩ := id hB
  have dT := hJ.2.1
  refine V_aload_n C dX7_stood_0 rfl ?_
  refine V_aload_n C dX7_stood_1 rfl ?_
  refine V_iload_n C dX7_stood_2 rfl ?_
  refine V_callV (fr := 1) (lo := 22) (mc := 0) (ms := 0) (As := [_]) C yvX7_isRight w_952 dX7_stood_3 rfl rfl (by repeat (first | with_reducible assumption | with_reducible exact mset_self _ _ _ | refine (mset_ne (by omega)).trans ?_)) (by (try simp only [mset_1]); omega) rfl rfl (Nat.le_of_ble_eq_true rfl) ⟨Nat.le_of_ble_eq_true rfl, Nat.le_of_ble_eq_true rfl⟩ ⟨Nat.le_of_ble_eq_true rfl, Nat.le_of_ble_eq_true rfl⟩ ?_
  refine ok_X7_isRight hM9 hr9 hB9 hJ9 (by omega) (fun i ia hi => ?_) (fun hw9 => ?_)
  · subst ia
    have rt := eR i hi
    obtain ⟨w0, w1, w2, w3, w4, w5, w6, w7⟩ := id rt
    have ri := hJ.2.2 i hi
    have hi10 : i < 10 := by omega
    have rb := dR i hi10
    obtain ⟨b0, b1, b2, b3, b4⟩ := id rb
    have ri0 := ri.1
    have ri1 := ri.2.1
    refine V_ifne1 C dX7_stood_6 (tgt := 13) (by decide) ?_
    refine V_iload_n C dX7_stood_13 rfl ?_
    refine V_iconst C dX7_stood_14 ?_
    refine V_aload_n C dX7_stood_15 rfl ?_
    refine V_get C fg_X7_7 dX7_stood_16 (by repeat (first | with_reducible assumption | with_reducible exact mset_self _ _ _ | refine (mset_ne (by omega)).trans ?_)) (by (try simp only [mset_1]); omega) (by rfl) ?_
    refine V_iconst C dX7_stood_19 ?_
    refine V_iald C dX7_stood_20 (by repeat (first | with_reducible assumption | with_reducible exact mset_self _ _ _ | refine (mset_ne (by omega)).trans ?_)) (by (try simp only [mset_1]); omega) (by omega) (by omega) (show ((0 : Int)).toNat = 0 from rfl) ?_
    rw [e0]
    refine V_callS (fr := 0) (lo := 0) (mc := 0) (ms := 0) (As := [_, _, _]) C ysX7_in w_863 dX7_stood_21 rfl rfl (Nat.le_of_ble_eq_true rfl) ⟨Nat.le_of_ble_eq_true rfl, Nat.le_of_ble_eq_true rfl⟩ ⟨Nat.le_of_ble_eq_true rfl, Nat.le_of_ble_eq_true rfl⟩ ?_
    refine ok_X7_in (by omega) (by omega) (by omega) (fun hw => ?_) (fun hw => ?_)
    · refine V_ifeq1 C dX7_stood_24 (tgt := 31) (by decide) ?_
      refine V_iconst C dX7_stood_27 ?_
      refine V_goto C dX7_stood_28 (tgt := 32) (by decide) ?_
      refine V_callV (fr := 0) (lo := 0) (mc := 0) (ms := 0) (As := [_]) C yvX7_refused w_849 dX7_stood_32 rfl rfl (by repeat (first | with_reducible assumption | with_reducible exact mset_self _ _ _ | refine (mset_ne (by omega)).trans ?_)) (by (try simp only [mset_1]); omega) rfl rfl (Nat.le_of_ble_eq_true rfl) ⟨Nat.le_of_ble_eq_true rfl, Nat.le_of_ble_eq_true rfl⟩ ⟨Nat.le_of_ble_eq_true rfl, Nat.le_of_ble_eq_true rfl⟩ ?_
      refine ok_X7_refused hM9 (by omega) (fun o => absurd o (by decide)) (fun _ M1 s1 x1 => ?_)
      have hM9 := x1
      obtain ⟨gn, g0, g1, g2, g3, g4, g5, g6⟩ := id hM9
      refine V_ifne0 C dX7_stood_35 (tgt := 51) (by decide) ?_
      refine V_aload_n C dX7_stood_38 rfl ?_
      refine V_iload_n C dX7_stood_39 rfl ?_
      refine V_iload_n C dX7_stood_40 rfl ?_
      refine V_callV (fr := 7) (lo := 156) (mc := 0) (ms := 0) (As := [_, _]) C yvX7_stoodOn w_1038 dX7_stood_41 rfl rfl (by repeat (first | with_reducible assumption | with_reducible exact mset_self _ _ _ | refine (mset_ne (by omega)).trans ?_)) (by (try simp only [mset_1]); omega) rfl rfl (Nat.le_of_ble_eq_true rfl) ⟨Nat.le_of_ble_eq_true rfl, Nat.le_of_ble_eq_true rfl⟩ ⟨Nat.le_of_ble_eq_true rfl, Nat.le_of_ble_eq_true rfl⟩ ?_
      refine ok_X7_stoodOn hM9 hr9 hB9 hJ9 hi (by omega) (fun hl M2 s2 x2 => ?_) (fun hl M2 s2 x2 => ?_)
      · refine V_ifeq1 C dX7_stood_44 (tgt := 51) (by decide) ?_
        refine V_iconst C dX7_stood_47 ?_
        refine V_goto C dX7_stood_48 (tgt := 52) (by decide) ?_
        exact V_zret C hr (by omega) dX7_stood_52 (hT i rfl hi hw ((RI.stood_cov ri d2 b3.2).mpr hl) _ _ _ _ ((P7_331 s1).trans s2) x2 rfl rfl rfl)
      · refine V_ifeq0 C dX7_stood_44 (tgt := 51) (by decide) ?_
        refine V_iconst C dX7_stood_51 ?_
        exact V_zret C hr (by omega) dX7_stood_52 (hF i rfl hi hw ((fun o => hl ((RI.stood_cov ri d2 b3.2).mp o))) _ _ _ _ ((P7_331 s1).trans s2) x2 rfl rfl rfl)
    · refine V_ifeq0 C dX7_stood_24 (tgt := 31) (by decide) ?_
      refine V_iconst C dX7_stood_31 ?_
      refine V_callV (fr := 0) (lo := 0) (mc := 0) (ms := 0) (As := [_]) C yvX7_refused w_849 dX7_stood_32 rfl rfl (by repeat (first | with_reducible assumption | with_reducible exact mset_self _ _ _ | refine (mset_ne (by omega)).trans ?_)) (by (try simp only [mset_1]); omega) rfl rfl (Nat.le_of_ble_eq_true rfl) ⟨Nat.le_of_ble_eq_true rfl, Nat.le_of_ble_eq_true rfl⟩ ⟨Nat.le_of_ble_eq_true rfl, Nat.le_of_ble_eq_true rfl⟩ ?_
      refine ok_X7_refused hM9 (by omega) (fun _ M1 s1 x1 => ?_) (fun o => absurd o (by decide))
      have hM9 := x1
      obtain ⟨gn, g0, g1, g2, g3, g4, g5, g6⟩ := id hM9
      refine V_ifne1 C dX7_stood_35 (tgt := 51) (by decide) ?_
      refine V_iconst C dX7_stood_51 ?_
      exact V_zret C hr (by omega) dX7_stood_52 (hX2 i rfl hi hw _ _ _ _ (P7_331 s1) x1 rfl rfl rfl)
  · refine V_ifne0 C dX7_stood_6 (tgt := 13) (by decide) ?_
    refine V_iconst C dX7_stood_9 ?_
    refine V_goto C dX7_stood_10 (tgt := 32) (by decide) ?_
    refine V_callV (fr := 0) (lo := 0) (mc := 0) (ms := 0) (As := [_]) C yvX7_refused w_849 dX7_stood_32 rfl rfl (by repeat (first | with_reducible assumption | with_reducible exact mset_self _ _ _ | refine (mset_ne (by omega)).trans ?_)) (by (try simp only [mset_1]); omega) rfl rfl (Nat.le_of_ble_eq_true rfl) ⟨Nat.le_of_ble_eq_true rfl, Nat.le_of_ble_eq_true rfl⟩ ⟨Nat.le_of_ble_eq_true rfl, Nat.le_of_ble_eq_true rfl⟩ ?_
    refine ok_X7_refused hM9 (by omega) (fun _ M1 s1 x1 => ?_) (fun o => absurd o (by decide))
    have hM9 := x1
    obtain ⟨gn, g0, g1, g2, g3, g4, g5, g6⟩ := id hM9
    refine V_ifne1 C dX7_stood_35 (tgt := 51) (by decide) ?_
    refine V_iconst C dX7_stood_51 ?_
    exact V_zret C hr (by omega) dX7_stood_52 (hX1 hw9 _ _ _ _ (P7_331 s1) x1 rfl rfl rfl)

set_option maxHeartbeats 400000 in
set_option maxRecDepth 4000 in
theorem ok_X7_covered {l : Launch} {D : va_G} {cy : Nat → ClassId} {z : Nat} {M : Mm} {K : Option Value → Mm → Prop} {u N P A tx fr tl : Nat → Int} (hM : ModAt cy z M u N P A tx fr tl) {S : SD} (hRw : RowOf N S) (hB : SB S) (hJ : IS S) {r d : Int} (hr32 : -2147483648 ≤ r ∧ r < 2147483648) (hd : -2147483648 ≤ d ∧ d < 2147483648) (hX1 : ¬ (0 ≤ r ∧ r < sN S) → ∀ M' u' fr' tl', Sm M M' P7 → ModAt cy z M' u' N P A tx fr' tl' → u' 0 = u 0 → u' 1 = 1 → u' 2 = u 2 → K (some (iv 0)) M') (hX2 : ∀ i : Nat, r = i → i < sN S → ¬ (0 ≤ d ∧ d ≤ sc S 0) → ∀ M' u' fr' tl', Sm M M' P7 → ModAt cy z M' u' N P A tx fr' tl' → u' 0 = u 0 → u' 1 = 2 → u' 2 = u 2 → K (some (iv 0)) M') (hT : ∀ i : Nat, r = i → i < sN S → 0 ≤ d ∧ d ≤ sc S 0 → covR (RF S i) (RA S i) d (sc S 0) → ∀ M' u' fr' tl', Sm M M' P7 → ModAt cy z M' u' N P A tx fr' tl' → u' 0 = u 0 → u' 1 = 0 → u' 2 = u 2 → K (some (iv 1)) M') (hF : ∀ i : Nat, r = i → i < sN S → 0 ≤ d ∧ d ≤ sc S 0 → ¬ covR (RF S i) (RA S i) d (sc S 0) → ∀ M' u' fr' tl', Sm M M' P7 → ModAt cy z M' u' N P A tx fr' tl' → u' 0 = u 0 → u' 1 = 0 → u' 2 = u 2 → K (some (iv 0)) M') :
    MT l D cy z false yX7_covered (wsy yX7_covered cX7_covered 3 (some .boolean)) 8 178 0 0 M [.ref (z + 331), iv r, iv d] K := by
  refine MT_of (by decide) w_1053 (Nat.le_of_ble_eq_true rfl) ?_
  intro p e s m args below meth c C hr hx0
  have hM9 := hM
  obtain ⟨gn, g0, g1, g2, g3, g4, g5, g6⟩ := id hM
  have hB9 := hB
  have hr9 := hRw
  have hJ9 := hJ
  obtain ⟨e0, e1, e2, eH, eh, e9, e10, e11, e12, e13, e14, e15, eR⟩ := id hRw
  obtain ⟨d0, d1, d2, d4, d5, d6, dH, dR⟩ := id hB
  have dT := hJ.2.1
  refine V_aload_n C dX7_covered_0 rfl ?_
  refine V_aload_n C dX7_covered_1 rfl ?_
  refine V_iload_n C dX7_covered_2 rfl ?_
  refine V_callV (fr := 1) (lo := 22) (mc := 0) (ms := 0) (As := [_]) C yvX7_isRight w_952 dX7_covered_3 rfl rfl (by repeat (first | with_reducible assumption | with_reducible exact mset_self _ _ _ | refine (mset_ne (by omega)).trans ?_)) (by (try simp only [mset_1]); omega) rfl rfl (Nat.le_of_ble_eq_true rfl) ⟨Nat.le_of_ble_eq_true rfl, Nat.le_of_ble_eq_true rfl⟩ ⟨Nat.le_of_ble_eq_true rfl, Nat.le_of_ble_eq_true rfl⟩ ?_
  refine ok_X7_isRight hM9 hr9 hB9 hJ9 (by omega) (fun i ia hi => ?_) (fun hw9 => ?_)
  · subst ia
    have rt := eR i hi
    obtain ⟨w0, w1, w2, w3, w4, w5, w6, w7⟩ := id rt
    have ri := hJ.2.2 i hi
    have hi10 : i < 10 := by omega
    have rb := dR i hi10
    obtain ⟨b0, b1, b2, b3, b4⟩ := id rb
    have ri0 := ri.1
    have ri1 := ri.2.1
    refine V_ifne1 C dX7_covered_6 (tgt := 13) (by decide) ?_
    refine V_iload_n C dX7_covered_13 rfl ?_
    refine V_iconst C dX7_covered_14 ?_
    refine V_aload_n C dX7_covered_15 rfl ?_
    refine V_get C fg_X7_7 dX7_covered_16 (by repeat (first | with_reducible assumption | with_reducible exact mset_self _ _ _ | refine (mset_ne (by omega)).trans ?_)) (by (try simp only [mset_1]); omega) (by rfl) ?_
    refine V_iconst C dX7_covered_19 ?_
    refine V_iald C dX7_covered_20 (by repeat (first | with_reducible assumption | with_reducible exact mset_self _ _ _ | refine (mset_ne (by omega)).trans ?_)) (by (try simp only [mset_1]); omega) (by omega) (by omega) (show ((0 : Int)).toNat = 0 from rfl) ?_
    rw [e0]
    refine V_callS (fr := 0) (lo := 0) (mc := 0) (ms := 0) (As := [_, _, _]) C ysX7_in w_863 dX7_covered_21 rfl rfl (Nat.le_of_ble_eq_true rfl) ⟨Nat.le_of_ble_eq_true rfl, Nat.le_of_ble_eq_true rfl⟩ ⟨Nat.le_of_ble_eq_true rfl, Nat.le_of_ble_eq_true rfl⟩ ?_
    refine ok_X7_in (by omega) (by omega) (by omega) (fun hw => ?_) (fun hw => ?_)
    · refine V_ifeq1 C dX7_covered_24 (tgt := 31) (by decide) ?_
      refine V_iconst C dX7_covered_27 ?_
      refine V_goto C dX7_covered_28 (tgt := 32) (by decide) ?_
      refine V_callV (fr := 0) (lo := 0) (mc := 0) (ms := 0) (As := [_]) C yvX7_refused w_849 dX7_covered_32 rfl rfl (by repeat (first | with_reducible assumption | with_reducible exact mset_self _ _ _ | refine (mset_ne (by omega)).trans ?_)) (by (try simp only [mset_1]); omega) rfl rfl (Nat.le_of_ble_eq_true rfl) ⟨Nat.le_of_ble_eq_true rfl, Nat.le_of_ble_eq_true rfl⟩ ⟨Nat.le_of_ble_eq_true rfl, Nat.le_of_ble_eq_true rfl⟩ ?_
      refine ok_X7_refused hM9 (by omega) (fun o => absurd o (by decide)) (fun _ M1 s1 x1 => ?_)
      have hM9 := x1
      obtain ⟨gn, g0, g1, g2, g3, g4, g5, g6⟩ := id hM9
      refine V_ifne0 C dX7_covered_35 (tgt := 51) (by decide) ?_
      refine V_aload_n C dX7_covered_38 rfl ?_
      refine V_iload_n C dX7_covered_39 rfl ?_
      refine V_iload_n C dX7_covered_40 rfl ?_
      refine V_callV (fr := 7) (lo := 156) (mc := 0) (ms := 0) (As := [_, _]) C yvX7_stoodOn w_1038 dX7_covered_41 rfl rfl (by repeat (first | with_reducible assumption | with_reducible exact mset_self _ _ _ | refine (mset_ne (by omega)).trans ?_)) (by (try simp only [mset_1]); omega) rfl rfl (Nat.le_of_ble_eq_true rfl) ⟨Nat.le_of_ble_eq_true rfl, Nat.le_of_ble_eq_true rfl⟩ ⟨Nat.le_of_ble_eq_true rfl, Nat.le_of_ble_eq_true rfl⟩ ?_
      refine ok_X7_stoodOn hM9 hr9 hB9 hJ9 hi (by omega) (fun hl M2 s2 x2 => ?_) (fun hl M2 s2 x2 => ?_)
      · refine V_ifeq1 C dX7_covered_44 (tgt := 51) (by decide) ?_
        refine V_iconst C dX7_covered_47 ?_
        refine V_goto C dX7_covered_48 (tgt := 52) (by decide) ?_
        exact V_zret C hr (by omega) dX7_covered_52 (hT i rfl hi hw (hl) _ _ _ _ ((P7_331 s1).trans s2) x2 rfl rfl rfl)
      · refine V_ifeq0 C dX7_covered_44 (tgt := 51) (by decide) ?_
        refine V_iconst C dX7_covered_51 ?_
        exact V_zret C hr (by omega) dX7_covered_52 (hF i rfl hi hw (hl) _ _ _ _ ((P7_331 s1).trans s2) x2 rfl rfl rfl)
    · refine V_ifeq0 C dX7_covered_24 (tgt := 31) (by decide) ?_
      refine V_iconst C dX7_covered_31 ?_
      refine V_callV (fr := 0) (lo := 0) (mc := 0) (ms := 0) (As := [_]) C yvX7_refused w_849 dX7_covered_32 rfl rfl (by repeat (first | with_reducible assumption | with_reducible exact mset_self _ _ _ | refine (mset_ne (by omega)).trans ?_)) (by (try simp only [mset_1]); omega) rfl rfl (Nat.le_of_ble_eq_true rfl) ⟨Nat.le_of_ble_eq_true rfl, Nat.le_of_ble_eq_true rfl⟩ ⟨Nat.le_of_ble_eq_true rfl, Nat.le_of_ble_eq_true rfl⟩ ?_
      refine ok_X7_refused hM9 (by omega) (fun _ M1 s1 x1 => ?_) (fun o => absurd o (by decide))
      have hM9 := x1
      obtain ⟨gn, g0, g1, g2, g3, g4, g5, g6⟩ := id hM9
      refine V_ifne1 C dX7_covered_35 (tgt := 51) (by decide) ?_
      refine V_iconst C dX7_covered_51 ?_
      exact V_zret C hr (by omega) dX7_covered_52 (hX2 i rfl hi hw _ _ _ _ (P7_331 s1) x1 rfl rfl rfl)
  · refine V_ifne0 C dX7_covered_6 (tgt := 13) (by decide) ?_
    refine V_iconst C dX7_covered_9 ?_
    refine V_goto C dX7_covered_10 (tgt := 32) (by decide) ?_
    refine V_callV (fr := 0) (lo := 0) (mc := 0) (ms := 0) (As := [_]) C yvX7_refused w_849 dX7_covered_32 rfl rfl (by repeat (first | with_reducible assumption | with_reducible exact mset_self _ _ _ | refine (mset_ne (by omega)).trans ?_)) (by (try simp only [mset_1]); omega) rfl rfl (Nat.le_of_ble_eq_true rfl) ⟨Nat.le_of_ble_eq_true rfl, Nat.le_of_ble_eq_true rfl⟩ ⟨Nat.le_of_ble_eq_true rfl, Nat.le_of_ble_eq_true rfl⟩ ?_
    refine ok_X7_refused hM9 (by omega) (fun _ M1 s1 x1 => ?_) (fun o => absurd o (by decide))
    have hM9 := x1
    obtain ⟨gn, g0, g1, g2, g3, g4, g5, g6⟩ := id hM9
    refine V_ifne1 C dX7_covered_35 (tgt := 51) (by decide) ?_
    refine V_iconst C dX7_covered_51 ?_
    exact V_zret C hr (by omega) dX7_covered_52 (hX1 hw9 _ _ _ _ (P7_331 s1) x1 rfl rfl rfl)

set_option maxHeartbeats 400000 in
set_option maxRecDepth 4000 in
theorem ok_X7_user {l : Launch} {D : va_G} {cy : Nat → ClassId} {z : Nat} {M : Mm} {K : Option Value → Mm → Prop} {u N P A tx fr tl : Nat → Int} (hM : ModAt cy z M u N P A tx fr tl) {S : SD} (hRw : RowOf N S) (hB : SB S) (hJ : IS S) {r v : Int} (hZ : ∀ i, i < sN S → ∀ v, v < 10 → stV (RA S i) v = stU (RF S i) (RA S i) v) (hr32 : -2147483648 ≤ r ∧ r < 2147483648) (hv : -2147483648 ≤ v ∧ v < 2147483648) (hX1 : ¬ (0 ≤ r ∧ r < sN S) → ∀ M' u' fr' tl', Sm M M' P7 → ModAt cy z M' u' N P A tx fr' tl' → u' 0 = u 0 → u' 1 = 1 → u' 2 = u 2 → K (some (iv 0)) M') (hX2 : ∀ i : Nat, r = i → i < sN S → ¬ (0 ≤ v ∧ v ≤ 9) → ∀ M' u' fr' tl', Sm M M' P7 → ModAt cy z M' u' N P A tx fr' tl' → u' 0 = u 0 → u' 1 = 2 → u' 2 = u 2 → K (some (iv 0)) M') (hK : ∀ i w : Nat, r = i → i < sN S → v = w → w < 10 → ∀ M' u' fr' tl', Sm M M' P7 → ModAt cy z M' u' N P A tx fr' tl' → u' 0 = u 0 → u' 1 = 0 → u' 2 = u 2 → K (some (iv (stU (RF S i) (RA S i) w))) M') :
    MT l D cy z false yX7_user (wsy yX7_user cX7_user 3 (some .int)) 3 64 0 0 M [.ref (z + 331), iv r, iv v] K := by
  refine MT_of (by decide) w_1057 (Nat.le_of_ble_eq_true rfl) ?_
  intro p e s m args below meth c C hr hx0
  have hM9 := hM
  obtain ⟨gn, g0, g1, g2, g3, g4, g5, g6⟩ := id hM
  have hB9 := hB
  have hr9 := hRw
  have hJ9 := hJ
  obtain ⟨e0, e1, e2, eH, eh, e9, e10, e11, e12, e13, e14, e15, eR⟩ := id hRw
  obtain ⟨d0, d1, d2, d4, d5, d6, dH, dR⟩ := id hB
  have dT := hJ.2.1
  refine V_aload_n C dX7_user_0 rfl ?_
  refine V_aload_n C dX7_user_1 rfl ?_
  refine V_iload_n C dX7_user_2 rfl ?_
  refine V_callV (fr := 1) (lo := 22) (mc := 0) (ms := 0) (As := [_]) C yvX7_isRight w_952 dX7_user_3 rfl rfl (by repeat (first | with_reducible assumption | with_reducible exact mset_self _ _ _ | refine (mset_ne (by omega)).trans ?_)) (by (try simp only [mset_1]); omega) rfl rfl (Nat.le_of_ble_eq_true rfl) ⟨Nat.le_of_ble_eq_true rfl, Nat.le_of_ble_eq_true rfl⟩ ⟨Nat.le_of_ble_eq_true rfl, Nat.le_of_ble_eq_true rfl⟩ ?_
  refine ok_X7_isRight hM9 hr9 hB9 hJ9 (by omega) (fun i ia hi => ?_) (fun hw9 => ?_)
  · subst ia
    have rt := eR i hi
    obtain ⟨w0, w1, w2, w3, w4, w5, w6, w7⟩ := id rt
    have ri := hJ.2.2 i hi
    have hi10 : i < 10 := by omega
    have rb := dR i hi10
    obtain ⟨b0, b1, b2, b3, b4⟩ := id rb
    have ri0 := ri.1
    have ri1 := ri.2.1
    refine V_ifne1 C dX7_user_6 (tgt := 13) (by decide) ?_
    refine V_iload_n C dX7_user_13 rfl ?_
    refine V_callS (fr := 1) (lo := 22) (mc := 0) (ms := 0) (As := [_]) C ysX7_isUser w_1000 dX7_user_14 rfl rfl (Nat.le_of_ble_eq_true rfl) ⟨Nat.le_of_ble_eq_true rfl, Nat.le_of_ble_eq_true rfl⟩ ⟨Nat.le_of_ble_eq_true rfl, Nat.le_of_ble_eq_true rfl⟩ ?_
    refine ok_X7_isUser (by omega) (fun hw => ?_) (fun hw => ?_)
    · obtain ⟨v9, rfl⟩ := Int.eq_ofNat_of_zero_le hw.1
      have hv9 : v9 < 10 := by omega
      refine V_ifeq1 C dX7_user_17 (tgt := 24) (by decide) ?_
      refine V_iconst C dX7_user_20 ?_
      refine V_goto C dX7_user_21 (tgt := 25) (by decide) ?_
      refine V_callV (fr := 0) (lo := 0) (mc := 0) (ms := 0) (As := [_]) C yvX7_refused w_849 dX7_user_25 rfl rfl (by repeat (first | with_reducible assumption | with_reducible exact mset_self _ _ _ | refine (mset_ne (by omega)).trans ?_)) (by (try simp only [mset_1]); omega) rfl rfl (Nat.le_of_ble_eq_true rfl) ⟨Nat.le_of_ble_eq_true rfl, Nat.le_of_ble_eq_true rfl⟩ ⟨Nat.le_of_ble_eq_true rfl, Nat.le_of_ble_eq_true rfl⟩ ?_
      refine ok_X7_refused hM9 (by omega) (fun o => absurd o (by decide)) (fun _ M1 s1 x1 => ?_)
      have hM9 := x1
      obtain ⟨gn, g0, g1, g2, g3, g4, g5, g6⟩ := id hM9
      refine V_ifeq0 C dX7_user_28 (tgt := 35) (by decide) ?_
      refine V_aload_n C dX7_user_35 rfl ?_
      refine V_iload_n C dX7_user_36 rfl ?_
      refine V_iload_n C dX7_user_37 rfl ?_
      refine V_callV (fr := 2) (lo := 42) (mc := 0) (ms := 0) (As := [_, _]) C yvX7_tellUser w_1058 dX7_user_38 rfl rfl (by repeat (first | with_reducible assumption | with_reducible exact mset_self _ _ _ | refine (mset_ne (by omega)).trans ?_)) (by (try simp only [mset_1]); omega) rfl rfl (Nat.le_of_ble_eq_true rfl) ⟨Nat.le_of_ble_eq_true rfl, Nat.le_of_ble_eq_true rfl⟩ ⟨Nat.le_of_ble_eq_true rfl, Nat.le_of_ble_eq_true rfl⟩ ?_
      refine ok_X7_tellUser hM9 hr9 hB9 hJ9 hi (hZ i hi) hv9 ?_
      exact V_iret C hr dX7_user_41 (hK i v9 rfl hi rfl hv9 _ _ _ _ (P7_331 s1) x1 rfl rfl rfl)
    · refine V_ifeq0 C dX7_user_17 (tgt := 24) (by decide) ?_
      refine V_iconst C dX7_user_24 ?_
      refine V_callV (fr := 0) (lo := 0) (mc := 0) (ms := 0) (As := [_]) C yvX7_refused w_849 dX7_user_25 rfl rfl (by repeat (first | with_reducible assumption | with_reducible exact mset_self _ _ _ | refine (mset_ne (by omega)).trans ?_)) (by (try simp only [mset_1]); omega) rfl rfl (Nat.le_of_ble_eq_true rfl) ⟨Nat.le_of_ble_eq_true rfl, Nat.le_of_ble_eq_true rfl⟩ ⟨Nat.le_of_ble_eq_true rfl, Nat.le_of_ble_eq_true rfl⟩ ?_
      refine ok_X7_refused hM9 (by omega) (fun _ M1 s1 x1 => ?_) (fun o => absurd o (by decide))
      have hM9 := x1
      obtain ⟨gn, g0, g1, g2, g3, g4, g5, g6⟩ := id hM9
      refine V_ifeq1 C dX7_user_28 (tgt := 35) (by decide) ?_
      refine V_iconst C dX7_user_31 ?_
      refine V_goto C dX7_user_32 (tgt := 41) (by decide) ?_
      exact V_iret C hr dX7_user_41 (hX2 i rfl hi hw _ _ _ _ (P7_331 s1) x1 rfl rfl rfl)
  · refine V_ifne0 C dX7_user_6 (tgt := 13) (by decide) ?_
    refine V_iconst C dX7_user_9 ?_
    refine V_goto C dX7_user_10 (tgt := 25) (by decide) ?_
    refine V_callV (fr := 0) (lo := 0) (mc := 0) (ms := 0) (As := [_]) C yvX7_refused w_849 dX7_user_25 rfl rfl (by repeat (first | with_reducible assumption | with_reducible exact mset_self _ _ _ | refine (mset_ne (by omega)).trans ?_)) (by (try simp only [mset_1]); omega) rfl rfl (Nat.le_of_ble_eq_true rfl) ⟨Nat.le_of_ble_eq_true rfl, Nat.le_of_ble_eq_true rfl⟩ ⟨Nat.le_of_ble_eq_true rfl, Nat.le_of_ble_eq_true rfl⟩ ?_
    refine ok_X7_refused hM9 (by omega) (fun _ M1 s1 x1 => ?_) (fun o => absurd o (by decide))
    have hM9 := x1
    obtain ⟨gn, g0, g1, g2, g3, g4, g5, g6⟩ := id hM9
    refine V_ifeq1 C dX7_user_28 (tgt := 35) (by decide) ?_
    refine V_iconst C dX7_user_31 ?_
    refine V_goto C dX7_user_32 (tgt := 41) (by decide) ?_
    exact V_iret C hr dX7_user_41 (hX1 hw9 _ _ _ _ (P7_331 s1) x1 rfl rfl rfl)

set_option maxHeartbeats 400000 in
set_option maxRecDepth 4000 in
theorem ok_X7_value {l : Launch} {D : va_G} {cy : Nat → ClassId} {z : Nat} {M : Mm} {K : Option Value → Mm → Prop} {u N P A tx fr tl : Nat → Int} (hM : ModAt cy z M u N P A tx fr tl) {S : SD} (hRw : RowOf N S) (hB : SB S) (hJ : IS S) {w : Int} (hw : -2147483648 ≤ w ∧ w < 2147483648) (hX : ¬ (0 ≤ w ∧ w ≤ 11) → ∀ M' u' fr' tl', Sm M M' P7 → ModAt cy z M' u' N P A tx fr' tl' → u' 0 = u 0 → u' 1 = 1 → u' 2 = u 2 → K (some (iv 0)) M') (hK : 0 ≤ w ∧ w ≤ 11 → ∀ M' u' fr' tl', Sm M M' P7 → ModAt cy z M' u' N P A tx fr' tl' → u' 0 = u 0 → u' 1 = 0 → u' 2 = u 2 → K (some (iv (dvT S w))) M') :
    MT l D cy z false yX7_value (wsy yX7_value cX7_value 2 (some .int)) 9 197 0 0 M [.ref (z + 331), iv w] K := by
  refine MT_of (by decide) w_1065 (Nat.le_of_ble_eq_true rfl) ?_
  intro p e s m args below meth c C hr hx0
  have hM9 := hM
  obtain ⟨gn, g0, g1, g2, g3, g4, g5, g6⟩ := id hM
  have hB9 := hB
  have hr9 := hRw
  have hJ9 := hJ
  obtain ⟨e0, e1, e2, eH, eh, e9, e10, e11, e12, e13, e14, e15, eR⟩ := id hRw
  obtain ⟨d0, d1, d2, d4, d5, d6, dH, dR⟩ := id hB
  have dT := hJ.2.1
  refine V_aload_n C dX7_value_0 rfl ?_
  refine V_iload_n C dX7_value_1 rfl ?_
  refine V_iconst C dX7_value_2 ?_
  refine V_bipush C dX7_value_3 (by decide) ?_
  refine V_callS (fr := 0) (lo := 0) (mc := 0) (ms := 0) (As := [_, _, _]) C ysX7_in w_863 dX7_value_5 rfl rfl (Nat.le_of_ble_eq_true rfl) ⟨Nat.le_of_ble_eq_true rfl, Nat.le_of_ble_eq_true rfl⟩ ⟨Nat.le_of_ble_eq_true rfl, Nat.le_of_ble_eq_true rfl⟩ ?_
  refine ok_X7_in (by omega) (by omega) (by omega) (fun hw => ?_) (fun hw => ?_)
  · refine V_ifeq1 C dX7_value_8 (tgt := 15) (by decide) ?_
    refine V_iconst C dX7_value_11 ?_
    refine V_goto C dX7_value_12 (tgt := 16) (by decide) ?_
    refine V_callV (fr := 0) (lo := 0) (mc := 0) (ms := 0) (As := [_]) C yvX7_refused w_849 dX7_value_16 rfl rfl (by repeat (first | with_reducible assumption | with_reducible exact mset_self _ _ _ | refine (mset_ne (by omega)).trans ?_)) (by (try simp only [mset_1]); omega) rfl rfl (Nat.le_of_ble_eq_true rfl) ⟨Nat.le_of_ble_eq_true rfl, Nat.le_of_ble_eq_true rfl⟩ ⟨Nat.le_of_ble_eq_true rfl, Nat.le_of_ble_eq_true rfl⟩ ?_
    refine ok_X7_refused hM9 (by omega) (fun o => absurd o (by decide)) (fun _ M1 s1 x1 => ?_)
    have hM9 := x1
    obtain ⟨gn, g0, g1, g2, g3, g4, g5, g6⟩ := id hM9
    refine V_ifeq0 C dX7_value_19 (tgt := 26) (by decide) ?_
    refine V_aload_n C dX7_value_26 rfl ?_
    refine V_iload_n C dX7_value_27 rfl ?_
    refine V_callV (fr := 8) (lo := 176) (mc := 0) (ms := 0) (As := [_]) C yvX7_tellValue w_1066 dX7_value_28 rfl rfl (by repeat (first | with_reducible assumption | with_reducible exact mset_self _ _ _ | refine (mset_ne (by omega)).trans ?_)) (by (try simp only [mset_1]); omega) rfl rfl (Nat.le_of_ble_eq_true rfl) ⟨Nat.le_of_ble_eq_true rfl, Nat.le_of_ble_eq_true rfl⟩ ⟨Nat.le_of_ble_eq_true rfl, Nat.le_of_ble_eq_true rfl⟩ ?_
    refine ok_X7_tellValue hM9 hr9 hB9 hJ9 hw ?_
    exact V_iret C hr dX7_value_31 (hK hw _ _ _ _ (P7_331 s1) x1 rfl rfl rfl)
  · refine V_ifeq0 C dX7_value_8 (tgt := 15) (by decide) ?_
    refine V_iconst C dX7_value_15 ?_
    refine V_callV (fr := 0) (lo := 0) (mc := 0) (ms := 0) (As := [_]) C yvX7_refused w_849 dX7_value_16 rfl rfl (by repeat (first | with_reducible assumption | with_reducible exact mset_self _ _ _ | refine (mset_ne (by omega)).trans ?_)) (by (try simp only [mset_1]); omega) rfl rfl (Nat.le_of_ble_eq_true rfl) ⟨Nat.le_of_ble_eq_true rfl, Nat.le_of_ble_eq_true rfl⟩ ⟨Nat.le_of_ble_eq_true rfl, Nat.le_of_ble_eq_true rfl⟩ ?_
    refine ok_X7_refused hM9 (by omega) (fun _ M1 s1 x1 => ?_) (fun o => absurd o (by decide))
    have hM9 := x1
    obtain ⟨gn, g0, g1, g2, g3, g4, g5, g6⟩ := id hM9
    refine V_ifeq1 C dX7_value_19 (tgt := 26) (by decide) ?_
    refine V_iconst C dX7_value_22 ?_
    refine V_goto C dX7_value_23 (tgt := 31) (by decide) ?_
    exact V_iret C hr dX7_value_31 (hX hw _ _ _ _ (P7_331 s1) x1 rfl rfl rfl)

set_option maxHeartbeats 400000 in
set_option maxRecDepth 4000 in
theorem ok_X7_nextDue {l : Launch} {D : va_G} {cy : Nat → ClassId} {z : Nat} {M : Mm} {K : Option Value → Mm → Prop} {u N P A tx fr tl : Nat → Int} (hM : ModAt cy z M u N P A tx fr tl) {S : SD} (hRw : RowOf N S) (hB : SB S) (hJ : IS S) (hK : ∀ M' u' fr' tl', Sm M M' P7 → ModAt cy z M' u' N P A tx fr' tl' → u' 0 = u 0 → u' 1 = 0 → u' 2 = u 2 → K (some (iv (fdS S (sN S)).1)) M') :
    MT l D cy z false yX7_nextDue (wsy yX7_nextDue cX7_nextDue 1 (some .int)) 7 158 0 0 M [.ref (z + 331)] K := by
  refine MT_of (by decide) w_1077 (Nat.le_of_ble_eq_true rfl) ?_
  intro p e s m args below meth c C hr hx0
  have hM9 := hM
  obtain ⟨gn, g0, g1, g2, g3, g4, g5, g6⟩ := id hM
  have hB9 := hB
  have hr9 := hRw
  have hJ9 := hJ
  obtain ⟨e0, e1, e2, eH, eh, e9, e10, e11, e12, e13, e14, e15, eR⟩ := id hRw
  obtain ⟨d0, d1, d2, d4, d5, d6, dH, dR⟩ := id hB
  have dT := hJ.2.1
  refine V_aload_n C dX7_nextDue_0 rfl ?_
  refine V_iconst C dX7_nextDue_1 ?_
  refine V_put C fp_X7_28 dX7_nextDue_2 (by repeat (first | with_reducible assumption | with_reducible exact mset_self _ _ _ | refine (mset_ne (by omega)).trans ?_)) (by (try simp only [mset_1]); omega) rfl rfl (by exact Nat.le_of_ble_eq_true rfl) ?_
  refine V_memgen (fun M1 em => ?_)
  have s1 : Sm M M1 (fun j => j = 331) := by rw [em]; exact Sm.set rfl
  have x1 : ModAt cy z M1 (va_up u 1 0) N P A tx fr tl := by rw [em]; exact hM9.ref (Sm.set rfl) (mset_self _ _ _)
  clear em
  have hM9 := x1
  obtain ⟨gn, g0, g1, g2, g3, g4, g5, g6⟩ := id hM9
  refine V_aload_n C dX7_nextDue_5 rfl ?_
  refine V_callV (fr := 6) (lo := 133) (mc := 0) (ms := 0) (As := []) C yvX7_firstDue w_1078 dX7_nextDue_6 rfl rfl (by repeat (first | with_reducible assumption | with_reducible exact mset_self _ _ _ | refine (mset_ne (by omega)).trans ?_)) (by (try simp only [mset_1]); omega) rfl rfl (Nat.le_of_ble_eq_true rfl) ⟨Nat.le_of_ble_eq_true rfl, Nat.le_of_ble_eq_true rfl⟩ ⟨Nat.le_of_ble_eq_true rfl, Nat.le_of_ble_eq_true rfl⟩ ?_
  refine ok_X7_firstDue hM9 hr9 hB9 hJ9 ?_
  exact V_iret C hr dX7_nextDue_9 (hK _ _ _ _ (P7_331 s1) x1 rfl rfl rfl)

set_option maxHeartbeats 400000 in
set_option maxRecDepth 4000 in
theorem ok_X7_costs {l : Launch} {D : va_G} {cy : Nat → ClassId} {z : Nat} {M : Mm} {K : Option Value → Mm → Prop} {u N P A tx fr tl : Nat → Int} (hM : ModAt cy z M u N P A tx fr tl) {S : SD} (hRw : RowOf N S) (hB : SB S) (hJ : IS S) {w : Int} (hw : -2147483648 ≤ w ∧ w < 2147483648) (hX : ¬ (0 ≤ w ∧ w ≤ 4000) → ∀ M' u' fr' tl', Sm M M' P7 → ModAt cy z M' u' N P A tx fr' tl' → u' 0 = u 0 → u' 1 = 1 → u' 2 = u 2 → K (some (iv 0)) M') (hK : 0 ≤ w ∧ w ≤ 4000 → ∀ M' u' fr' tl', Sm M M' P7 → ModAt cy z M' u' N P A tx fr' tl' → u' 0 = u 0 → u' 1 = 0 → u' 2 = u 2 → K (some (iv (cstW S w (sN S)))) M') :
    MT l D cy z false yX7_costs (wsy yX7_costs cX7_costs 4 (some .int)) 6 138 0 0 M [.ref (z + 331), iv w] K := by
  refine MT_of (by decide) w_1085 (Nat.le_of_ble_eq_true rfl) ?_
  intro p e s m args below meth c C hr hx0
  have hM9 := hM
  obtain ⟨gn, g0, g1, g2, g3, g4, g5, g6⟩ := id hM
  have hB9 := hB
  have hr9 := hRw
  have hJ9 := hJ
  obtain ⟨e0, e1, e2, eH, eh, e9, e10, e11, e12, e13, e14, e15, eR⟩ := id hRw
  obtain ⟨d0, d1, d2, d4, d5, d6, dH, dR⟩ := id hB
  have dT := hJ.2.1
  refine V_aload_n C dX7_costs_0 rfl ?_
  refine V_iload_n C dX7_costs_1 rfl ?_
  refine V_callS (fr := 1) (lo := 22) (mc := 0) (ms := 0) (As := [_]) C ysX7_areDays w_1086 dX7_costs_2 rfl rfl (Nat.le_of_ble_eq_true rfl) ⟨Nat.le_of_ble_eq_true rfl, Nat.le_of_ble_eq_true rfl⟩ ⟨Nat.le_of_ble_eq_true rfl, Nat.le_of_ble_eq_true rfl⟩ ?_
  refine ok_X7_areDays (by omega) (fun hw => ?_) (fun hw => ?_)
  · refine V_ifeq1 C dX7_costs_5 (tgt := 12) (by decide) ?_
    refine V_iconst C dX7_costs_8 ?_
    refine V_goto C dX7_costs_9 (tgt := 13) (by decide) ?_
    refine V_callV (fr := 0) (lo := 0) (mc := 0) (ms := 0) (As := [_]) C yvX7_refused w_849 dX7_costs_13 rfl rfl (by repeat (first | with_reducible assumption | with_reducible exact mset_self _ _ _ | refine (mset_ne (by omega)).trans ?_)) (by (try simp only [mset_1]); omega) rfl rfl (Nat.le_of_ble_eq_true rfl) ⟨Nat.le_of_ble_eq_true rfl, Nat.le_of_ble_eq_true rfl⟩ ⟨Nat.le_of_ble_eq_true rfl, Nat.le_of_ble_eq_true rfl⟩ ?_
    refine ok_X7_refused hM9 (by omega) (fun o => absurd o (by decide)) (fun _ M1 s1 x1 => ?_)
    have hM9 := x1
    obtain ⟨gn, g0, g1, g2, g3, g4, g5, g6⟩ := id hM9
    refine V_ifeq0 C dX7_costs_16 (tgt := 21) (by decide) ?_
    refine V_iconst C dX7_costs_21 ?_
    refine V_istore_n C dX7_costs_22 (by decide) ?_
    refine V_iconst C dX7_costs_23 ?_
    refine V_istore_n C dX7_costs_24 (by decide) ?_
    have loop : ∀ (n : Nat) (i : Nat), (i ≤ sN S) → 10 - i < n → V p l e { frames := 6, cells := 0, slots := 0, locals := 138 } s m args below meth c D z 4 (MQ below (qc_ D z K) args s 0 0 (fun q => z ≤ q)) 0 0 M1 25 [(0, .ref (z + 331)), (1, iv w), (2, iv (cstW S w i)), (3, iv ((i : Int)))] [] := by
      intro n
      induction n with
      | zero => intro i hi0 hfu; exact absurd hfu (Nat.not_lt_zero _)
      | succ n ih =>
        intro i hi0 hfu
        refine V_iload_n C dX7_costs_25 rfl ?_
        refine V_aload_n C dX7_costs_26 rfl ?_
        refine V_get C fg_X7_7 dX7_costs_27 (by repeat (first | with_reducible assumption | with_reducible exact mset_self _ _ _ | refine (mset_ne (by omega)).trans ?_)) (by (try simp only [mset_1]); omega) (by rfl) ?_
        refine V_iconst C dX7_costs_30 ?_
        refine V_iald C dX7_costs_31 (by repeat (first | with_reducible assumption | with_reducible exact mset_self _ _ _ | refine (mset_ne (by omega)).trans ?_)) (by (try simp only [mset_1]); omega) (by omega) (by omega) (show ((1 : Int)).toNat = 1 from rfl) ?_
        rw [e1]
        refine V_icmp_ge C dX7_costs_32 (tgt := 69) (by decide) (by omega) (by omega) (fun g32 => ?_) (fun g32 => ?_)
        · refine V_iload_n C dX7_costs_69 rfl ?_
          exact V_iret C hr dX7_costs_70 (K_of (hK hw _ _ _ _ (P7_331 s1) x1 rfl rfl rfl) (by rw [show sN S = i by omega]))
        · have hi : i < sN S := by omega
          refine V_iload_n C dX7_costs_35 rfl ?_
          refine V_aload_n C dX7_costs_36 rfl ?_
          refine V_iload_n C dX7_costs_37 rfl ?_
          refine V_callV (fr := 5) (lo := 112) (mc := 0) (ms := 0) (As := [_]) C yvX7_isLapsed w_932 dX7_costs_38 rfl rfl (by repeat (first | with_reducible assumption | with_reducible exact mset_self _ _ _ | refine (mset_ne (by omega)).trans ?_)) (by (try simp only [mset_1]); omega) rfl rfl (Nat.le_of_ble_eq_true rfl) ⟨Nat.le_of_ble_eq_true rfl, Nat.le_of_ble_eq_true rfl⟩ ⟨Nat.le_of_ble_eq_true rfl, Nat.le_of_ble_eq_true rfl⟩ ?_
          refine ok_X7_isLapsed hM9 hr9 hB9 hJ9 hi (fun hl => ?_) (fun hl => ?_)
          · refine V_ifeq1 C dX7_costs_41 (tgt := 48) (by decide) ?_
            refine V_iconst C dX7_costs_44 ?_
            refine V_goto C dX7_costs_45 (tgt := 61) (by decide) ?_
            refine V_iadd C dX7_costs_61 ?_
            refine V_istore_n C dX7_costs_62 (by decide) ?_
            refine V_iinc C dX7_costs_63 rfl (by decide) ?_
            refine V_goto C dX7_costs_66 (tgt := 25) (by decide) ?_
            refine V_lv [(0, .ref (z + 331)), (1, iv w), (2, iv (cstW S w (i + 1))), (3, iv (((i + 1 : Nat) : Int)))] (List.forall_mem_cons.mpr ⟨(by first | rfl | exact congrArg (fun t => some (iv t)) (by have e8 := cstW_t (S := S) (w := w) (n := i) (lapB_t hl); push_cast; omega)), (List.forall_mem_cons.mpr ⟨(by first | rfl | exact congrArg (fun t => some (iv t)) (by have e8 := cstW_t (S := S) (w := w) (n := i) (lapB_t hl); push_cast; omega)), (List.forall_mem_cons.mpr ⟨(by first | rfl | exact congrArg (fun t => some (iv t)) (by have e8 := cstW_t (S := S) (w := w) (n := i) (lapB_t hl); push_cast; omega)), (List.forall_mem_cons.mpr ⟨(by first | rfl | exact congrArg (fun t => some (iv t)) (by have e8 := cstW_t (S := S) (w := w) (n := i) (lapB_t hl); push_cast; omega)), (fun _ h => nomatch h)⟩)⟩)⟩)⟩) ?_
            exact ih (i + 1) (by omega) (by omega)
          · refine V_ifeq0 C dX7_costs_41 (tgt := 48) (by decide) ?_
            refine V_aload_n C dX7_costs_48 rfl ?_
            refine V_iload_n C dX7_costs_49 rfl ?_
            refine V_aload_n C dX7_costs_50 rfl ?_
            refine V_get C fg_X7_7 dX7_costs_51 (by repeat (first | with_reducible assumption | with_reducible exact mset_self _ _ _ | refine (mset_ne (by omega)).trans ?_)) (by (try simp only [mset_1]); omega) (by rfl) ?_
            refine V_iconst C dX7_costs_54 ?_
            refine V_iald C dX7_costs_55 (by repeat (first | with_reducible assumption | with_reducible exact mset_self _ _ _ | refine (mset_ne (by omega)).trans ?_)) (by (try simp only [mset_1]); omega) (by omega) (by omega) (show ((0 : Int)).toNat = 0 from rfl) ?_
            rw [e0]
            refine V_iload_n C dX7_costs_56 rfl ?_
            refine V_iadd C dX7_costs_57 ?_
            refine V_callV (fr := 5) (lo := 112) (mc := 0) (ms := 0) (As := [_, _]) C yvX7_costsOf w_1089 dX7_costs_58 rfl rfl (by repeat (first | with_reducible assumption | with_reducible exact mset_self _ _ _ | refine (mset_ne (by omega)).trans ?_)) (by (try simp only [mset_1]); omega) rfl rfl (Nat.le_of_ble_eq_true rfl) ⟨Nat.le_of_ble_eq_true rfl, Nat.le_of_ble_eq_true rfl⟩ ⟨Nat.le_of_ble_eq_true rfl, Nat.le_of_ble_eq_true rfl⟩ ?_
            refine ok_X7_costsOf hM9 hr9 hB9 hJ9 hi (by omega) ?_
            refine V_iadd C dX7_costs_61 ?_
            refine V_istore_n C dX7_costs_62 (by decide) ?_
            refine V_iinc C dX7_costs_63 rfl (by decide) ?_
            refine V_goto C dX7_costs_66 (tgt := 25) (by decide) ?_
            refine V_lv [(0, .ref (z + 331)), (1, iv w), (2, iv (cstW S w (i + 1))), (3, iv (((i + 1 : Nat) : Int)))] (List.forall_mem_cons.mpr ⟨(by first | rfl | exact congrArg (fun t => some (iv t)) (by have e8 := cstW_f (S := S) (w := w) (n := i) (lapB_f hl); push_cast; omega)), (List.forall_mem_cons.mpr ⟨(by first | rfl | exact congrArg (fun t => some (iv t)) (by have e8 := cstW_f (S := S) (w := w) (n := i) (lapB_f hl); push_cast; omega)), (List.forall_mem_cons.mpr ⟨(by first | rfl | exact congrArg (fun t => some (iv t)) (by have e8 := cstW_f (S := S) (w := w) (n := i) (lapB_f hl); push_cast; omega)), (List.forall_mem_cons.mpr ⟨(by first | rfl | exact congrArg (fun t => some (iv t)) (by have e8 := cstW_f (S := S) (w := w) (n := i) (lapB_f hl); push_cast; omega)), (fun _ h => nomatch h)⟩)⟩)⟩)⟩) ?_
            exact ih (i + 1) (by omega) (by omega)
    refine V_lv [(0, .ref (z + 331)), (1, iv w), (2, iv (cstW S w 0)), (3, iv (((0 : Nat) : Int)))] (List.forall_mem_cons.mpr ⟨(by first | rfl | exact congrArg (fun t => some (iv t)) (by omega)), (List.forall_mem_cons.mpr ⟨(by first | rfl | exact congrArg (fun t => some (iv t)) (by omega)), (List.forall_mem_cons.mpr ⟨(by first | rfl | exact congrArg (fun t => some (iv t)) (by omega)), (List.forall_mem_cons.mpr ⟨(by first | rfl | exact congrArg (fun t => some (iv t)) (by omega)), (fun _ h => nomatch h)⟩)⟩)⟩)⟩) ?_
    exact loop 11 0 (by omega) (by omega)
  · refine V_ifeq0 C dX7_costs_5 (tgt := 12) (by decide) ?_
    refine V_iconst C dX7_costs_12 ?_
    refine V_callV (fr := 0) (lo := 0) (mc := 0) (ms := 0) (As := [_]) C yvX7_refused w_849 dX7_costs_13 rfl rfl (by repeat (first | with_reducible assumption | with_reducible exact mset_self _ _ _ | refine (mset_ne (by omega)).trans ?_)) (by (try simp only [mset_1]); omega) rfl rfl (Nat.le_of_ble_eq_true rfl) ⟨Nat.le_of_ble_eq_true rfl, Nat.le_of_ble_eq_true rfl⟩ ⟨Nat.le_of_ble_eq_true rfl, Nat.le_of_ble_eq_true rfl⟩ ?_
    refine ok_X7_refused hM9 (by omega) (fun _ M1 s1 x1 => ?_) (fun o => absurd o (by decide))
    have hM9 := x1
    obtain ⟨gn, g0, g1, g2, g3, g4, g5, g6⟩ := id hM9
    refine V_ifeq1 C dX7_costs_16 (tgt := 21) (by decide) ?_
    refine V_iconst C dX7_costs_19 ?_
    exact V_iret C hr dX7_costs_20 (hX hw _ _ _ _ (P7_331 s1) x1 rfl rfl rfl)

set_option maxHeartbeats 400000 in
set_option maxRecDepth 4000 in
theorem ok_X7_lapsing {l : Launch} {D : va_G} {cy : Nat → ClassId} {z : Nat} {M : Mm} {K : Option Value → Mm → Prop} {u N P A tx fr tl : Nat → Int} (hM : ModAt cy z M u N P A tx fr tl) {S : SD} (hRw : RowOf N S) (hB : SB S) (hJ : IS S) {w : Int} (hw : -2147483648 ≤ w ∧ w < 2147483648) (hX : ¬ (0 ≤ w ∧ w ≤ 4000) → ∀ M' u' fr' tl', Sm M M' P7 → ModAt cy z M' u' N P A tx fr' tl' → u' 0 = u 0 → u' 1 = 1 → u' 2 = u 2 → K (some (iv 0)) M') (hK : 0 ≤ w ∧ w ≤ 4000 → ∀ M' u' fr' tl', Sm M M' P7 → ModAt cy z M' u' N P A tx fr' tl' → u' 0 = u 0 → u' 1 = 0 → u' 2 = u 2 → K (some (iv ((cntN (fun i => !lapB (RF S i) (RA S i) (sc S 0) && lapB (RF S i) (RA S i) (sc S 0 + w)) (sN S) : Nat) : Int))) M') :
    MT l D cy z false yX7_lapsing (wsy yX7_lapsing cX7_lapsing 5 (some .int)) 6 133 0 0 M [.ref (z + 331), iv w] K := by
  refine MT_of (by decide) w_1096 (Nat.le_of_ble_eq_true rfl) ?_
  intro p e s m args below meth c C hr hx0
  have hM9 := hM
  obtain ⟨gn, g0, g1, g2, g3, g4, g5, g6⟩ := id hM
  have hB9 := hB
  have hr9 := hRw
  have hJ9 := hJ
  obtain ⟨e0, e1, e2, eH, eh, e9, e10, e11, e12, e13, e14, e15, eR⟩ := id hRw
  obtain ⟨d0, d1, d2, d4, d5, d6, dH, dR⟩ := id hB
  have dT := hJ.2.1
  refine V_aload_n C dX7_lapsing_0 rfl ?_
  refine V_iload_n C dX7_lapsing_1 rfl ?_
  refine V_callS (fr := 1) (lo := 22) (mc := 0) (ms := 0) (As := [_]) C ysX7_areDays w_1086 dX7_lapsing_2 rfl rfl (Nat.le_of_ble_eq_true rfl) ⟨Nat.le_of_ble_eq_true rfl, Nat.le_of_ble_eq_true rfl⟩ ⟨Nat.le_of_ble_eq_true rfl, Nat.le_of_ble_eq_true rfl⟩ ?_
  refine ok_X7_areDays (by omega) (fun hw => ?_) (fun hw => ?_)
  · refine V_ifeq1 C dX7_lapsing_5 (tgt := 12) (by decide) ?_
    refine V_iconst C dX7_lapsing_8 ?_
    refine V_goto C dX7_lapsing_9 (tgt := 13) (by decide) ?_
    refine V_callV (fr := 0) (lo := 0) (mc := 0) (ms := 0) (As := [_]) C yvX7_refused w_849 dX7_lapsing_13 rfl rfl (by repeat (first | with_reducible assumption | with_reducible exact mset_self _ _ _ | refine (mset_ne (by omega)).trans ?_)) (by (try simp only [mset_1]); omega) rfl rfl (Nat.le_of_ble_eq_true rfl) ⟨Nat.le_of_ble_eq_true rfl, Nat.le_of_ble_eq_true rfl⟩ ⟨Nat.le_of_ble_eq_true rfl, Nat.le_of_ble_eq_true rfl⟩ ?_
    refine ok_X7_refused hM9 (by omega) (fun o => absurd o (by decide)) (fun _ M1 s1 x1 => ?_)
    have hM9 := x1
    obtain ⟨gn, g0, g1, g2, g3, g4, g5, g6⟩ := id hM9
    refine V_ifeq0 C dX7_lapsing_16 (tgt := 21) (by decide) ?_
    refine V_iconst C dX7_lapsing_21 ?_
    refine V_istore_n C dX7_lapsing_22 (by decide) ?_
    refine V_iconst C dX7_lapsing_23 ?_
    refine V_istore_n C dX7_lapsing_24 (by decide) ?_
    have loop : ∀ (n : Nat) (i : Nat), (i ≤ sN S) → 10 - i < n → V p l e { frames := 6, cells := 0, slots := 0, locals := 133 } s m args below meth c D z 5 (MQ below (qc_ D z K) args s 0 0 (fun q => z ≤ q)) 0 0 M1 25 [(0, .ref (z + 331)), (1, iv w), (2, iv (((cntN (fun i => !lapB (RF S i) (RA S i) (sc S 0) && lapB (RF S i) (RA S i) (sc S 0 + w)) i : Nat) : Int))), (3, iv ((i : Int)))] [] := by
      intro n
      induction n with
      | zero => intro i hi0 hfu; exact absurd hfu (Nat.not_lt_zero _)
      | succ n ih =>
        intro i hi0 hfu
        refine V_iload_n C dX7_lapsing_25 rfl ?_
        refine V_aload_n C dX7_lapsing_26 rfl ?_
        refine V_get C fg_X7_7 dX7_lapsing_27 (by repeat (first | with_reducible assumption | with_reducible exact mset_self _ _ _ | refine (mset_ne (by omega)).trans ?_)) (by (try simp only [mset_1]); omega) (by rfl) ?_
        refine V_iconst C dX7_lapsing_30 ?_
        refine V_iald C dX7_lapsing_31 (by repeat (first | with_reducible assumption | with_reducible exact mset_self _ _ _ | refine (mset_ne (by omega)).trans ?_)) (by (try simp only [mset_1]); omega) (by omega) (by omega) (show ((1 : Int)).toNat = 1 from rfl) ?_
        rw [e1]
        refine V_icmp_ge C dX7_lapsing_32 (tgt := 99) (by decide) (by omega) (by omega) (fun g32 => ?_) (fun g32 => ?_)
        · refine V_iload_n C dX7_lapsing_99 rfl ?_
          exact V_iret C hr dX7_lapsing_100 (K_of (hK hw _ _ _ _ (P7_331 s1) x1 rfl rfl rfl) (by rw [show sN S = i by omega]))
        · have hi : i < sN S := by omega
          have rt := eR i hi
          obtain ⟨w0, w1, w2, w3, w4, w5, w6, w7⟩ := id rt
          have ri := hJ.2.2 i hi
          have hi10 : i < 10 := by omega
          have rb := dR i hi10
          obtain ⟨b0, b1, b2, b3, b4⟩ := id rb
          have ri0 := ri.1
          have ri1 := ri.2.1
          have nx := nxt_rng (F := RF S i) b3
          have yr9 := yv_rng (g := RA S i 1) (e := -1) (y := RF S i 3 + 1) (b4 1) (by omega)
          refine V_aload_n C dX7_lapsing_35 rfl ?_
          refine V_iload_n C dX7_lapsing_36 rfl ?_
          refine V_callV (fr := 2) (lo := 42) (mc := 0) (ms := 0) (As := [_]) C yvX7_nextOf w_936 dX7_lapsing_37 rfl rfl (by repeat (first | with_reducible assumption | with_reducible exact mset_self _ _ _ | refine (mset_ne (by omega)).trans ?_)) (by (try simp only [mset_1]); omega) rfl rfl (Nat.le_of_ble_eq_true rfl) ⟨Nat.le_of_ble_eq_true rfl, Nat.le_of_ble_eq_true rfl⟩ ⟨Nat.le_of_ble_eq_true rfl, Nat.le_of_ble_eq_true rfl⟩ ?_
          refine ok_X7_nextOf hM9 hr9 hB9 hJ9 hi ?_
          refine V_iconst C dX7_lapsing_40 ?_
          refine V_icmp_eq C dX7_lapsing_41 (tgt := 77) (by decide) (by omega) (by omega) (fun g41 => ?_) (fun g41 => ?_)
          · refine V_iconst C dX7_lapsing_77 ?_
            refine V_istore C dX7_lapsing_78 (by decide) ?_
            refine V_iload_n C dX7_lapsing_80 rfl ?_
            refine V_iload C dX7_lapsing_81 rfl ?_
            refine V_if_eq C dX7_lapsing_83 (tgt := 90) (by decide) (by omega) (fun g83 => ?_) (fun g83 => ?_)
            · refine V_iconst C dX7_lapsing_90 ?_
              refine V_iadd C dX7_lapsing_91 ?_
              refine V_istore_n C dX7_lapsing_92 (by decide) ?_
              refine V_iinc C dX7_lapsing_93 rfl (by decide) ?_
              refine V_goto C dX7_lapsing_96 (tgt := 25) (by decide) ?_
              refine V_lv [(0, .ref (z + 331)), (1, iv w), (2, iv (((cntN (fun i => !lapB (RF S i) (RA S i) (sc S 0) && lapB (RF S i) (RA S i) (sc S 0 + w)) (i + 1) : Nat) : Int))), (3, iv (((i + 1 : Nat) : Int)))] (List.forall_mem_cons.mpr ⟨(by first | rfl | exact congrArg (fun t => some (iv t)) (by have e8 := cntN_f (p := (fun i => !lapB (RF S i) (RA S i) (sc S 0) && lapB (RF S i) (RA S i) (sc S 0 + w))) (n := i) (by show (!lapB (RF S i) (RA S i) (sc S 0) && lapB (RF S i) (RA S i) (sc S 0 + w)) = false; rw [lapB_f (t := sc S 0 + w) (fun o => by have o1 := o.1; omega)]; simp); push_cast; omega)), (List.forall_mem_cons.mpr ⟨(by first | rfl | exact congrArg (fun t => some (iv t)) (by have e8 := cntN_f (p := (fun i => !lapB (RF S i) (RA S i) (sc S 0) && lapB (RF S i) (RA S i) (sc S 0 + w))) (n := i) (by show (!lapB (RF S i) (RA S i) (sc S 0) && lapB (RF S i) (RA S i) (sc S 0 + w)) = false; rw [lapB_f (t := sc S 0 + w) (fun o => by have o1 := o.1; omega)]; simp); push_cast; omega)), (List.forall_mem_cons.mpr ⟨(by first | rfl | exact congrArg (fun t => some (iv t)) (by have e8 := cntN_f (p := (fun i => !lapB (RF S i) (RA S i) (sc S 0) && lapB (RF S i) (RA S i) (sc S 0 + w))) (n := i) (by show (!lapB (RF S i) (RA S i) (sc S 0) && lapB (RF S i) (RA S i) (sc S 0 + w)) = false; rw [lapB_f (t := sc S 0 + w) (fun o => by have o1 := o.1; omega)]; simp); push_cast; omega)), (List.forall_mem_cons.mpr ⟨(by first | rfl | exact congrArg (fun t => some (iv t)) (by have e8 := cntN_f (p := (fun i => !lapB (RF S i) (RA S i) (sc S 0) && lapB (RF S i) (RA S i) (sc S 0 + w))) (n := i) (by show (!lapB (RF S i) (RA S i) (sc S 0) && lapB (RF S i) (RA S i) (sc S 0 + w)) = false; rw [lapB_f (t := sc S 0 + w) (fun o => by have o1 := o.1; omega)]; simp); push_cast; omega)), (fun _ h => nomatch h)⟩)⟩)⟩)⟩) ?_
              exact ih (i + 1) (by omega) (by omega)
            · exact absurd rfl g83
          · refine V_aload_n C dX7_lapsing_44 rfl ?_
            refine V_iload_n C dX7_lapsing_45 rfl ?_
            refine V_callV (fr := 5) (lo := 112) (mc := 0) (ms := 0) (As := [_]) C yvX7_isLapsed w_932 dX7_lapsing_46 rfl rfl (by repeat (first | with_reducible assumption | with_reducible exact mset_self _ _ _ | refine (mset_ne (by omega)).trans ?_)) (by (try simp only [mset_1]); omega) rfl rfl (Nat.le_of_ble_eq_true rfl) ⟨Nat.le_of_ble_eq_true rfl, Nat.le_of_ble_eq_true rfl⟩ ⟨Nat.le_of_ble_eq_true rfl, Nat.le_of_ble_eq_true rfl⟩ ?_
            refine ok_X7_isLapsed hM9 hr9 hB9 hJ9 hi (fun hl => ?_) (fun hl => ?_)
            · refine V_ifne1 C dX7_lapsing_49 (tgt := 77) (by decide) ?_
              refine V_iconst C dX7_lapsing_77 ?_
              refine V_istore C dX7_lapsing_78 (by decide) ?_
              refine V_iload_n C dX7_lapsing_80 rfl ?_
              refine V_iload C dX7_lapsing_81 rfl ?_
              refine V_if_eq C dX7_lapsing_83 (tgt := 90) (by decide) (by omega) (fun g83 => ?_) (fun g83 => ?_)
              · refine V_iconst C dX7_lapsing_90 ?_
                refine V_iadd C dX7_lapsing_91 ?_
                refine V_istore_n C dX7_lapsing_92 (by decide) ?_
                refine V_iinc C dX7_lapsing_93 rfl (by decide) ?_
                refine V_goto C dX7_lapsing_96 (tgt := 25) (by decide) ?_
                refine V_lv [(0, .ref (z + 331)), (1, iv w), (2, iv (((cntN (fun i => !lapB (RF S i) (RA S i) (sc S 0) && lapB (RF S i) (RA S i) (sc S 0 + w)) (i + 1) : Nat) : Int))), (3, iv (((i + 1 : Nat) : Int)))] (List.forall_mem_cons.mpr ⟨(by first | rfl | exact congrArg (fun t => some (iv t)) (by have e8 := cntN_f (p := (fun i => !lapB (RF S i) (RA S i) (sc S 0) && lapB (RF S i) (RA S i) (sc S 0 + w))) (n := i) (by show (!lapB (RF S i) (RA S i) (sc S 0) && lapB (RF S i) (RA S i) (sc S 0 + w)) = false; rw [lapB_t hl]; rfl); push_cast; omega)), (List.forall_mem_cons.mpr ⟨(by first | rfl | exact congrArg (fun t => some (iv t)) (by have e8 := cntN_f (p := (fun i => !lapB (RF S i) (RA S i) (sc S 0) && lapB (RF S i) (RA S i) (sc S 0 + w))) (n := i) (by show (!lapB (RF S i) (RA S i) (sc S 0) && lapB (RF S i) (RA S i) (sc S 0 + w)) = false; rw [lapB_t hl]; rfl); push_cast; omega)), (List.forall_mem_cons.mpr ⟨(by first | rfl | exact congrArg (fun t => some (iv t)) (by have e8 := cntN_f (p := (fun i => !lapB (RF S i) (RA S i) (sc S 0) && lapB (RF S i) (RA S i) (sc S 0 + w))) (n := i) (by show (!lapB (RF S i) (RA S i) (sc S 0) && lapB (RF S i) (RA S i) (sc S 0 + w)) = false; rw [lapB_t hl]; rfl); push_cast; omega)), (List.forall_mem_cons.mpr ⟨(by first | rfl | exact congrArg (fun t => some (iv t)) (by have e8 := cntN_f (p := (fun i => !lapB (RF S i) (RA S i) (sc S 0) && lapB (RF S i) (RA S i) (sc S 0 + w))) (n := i) (by show (!lapB (RF S i) (RA S i) (sc S 0) && lapB (RF S i) (RA S i) (sc S 0 + w)) = false; rw [lapB_t hl]; rfl); push_cast; omega)), (fun _ h => nomatch h)⟩)⟩)⟩)⟩) ?_
                exact ih (i + 1) (by omega) (by omega)
              · exact absurd rfl g83
            · refine V_ifne0 C dX7_lapsing_49 (tgt := 77) (by decide) ?_
              have en : nxt (RF S i) = RF S i 3 + 1 := by omega
              refine V_aload_n C dX7_lapsing_52 rfl ?_
              refine V_iload_n C dX7_lapsing_53 rfl ?_
              refine V_aload_n C dX7_lapsing_54 rfl ?_
              refine V_iload_n C dX7_lapsing_55 rfl ?_
              refine V_callV (fr := 2) (lo := 42) (mc := 0) (ms := 0) (As := [_]) C yvX7_nextOf w_936 dX7_lapsing_56 rfl rfl (by repeat (first | with_reducible assumption | with_reducible exact mset_self _ _ _ | refine (mset_ne (by omega)).trans ?_)) (by (try simp only [mset_1]); omega) rfl rfl (Nat.le_of_ble_eq_true rfl) ⟨Nat.le_of_ble_eq_true rfl, Nat.le_of_ble_eq_true rfl⟩ ⟨Nat.le_of_ble_eq_true rfl, Nat.le_of_ble_eq_true rfl⟩ ?_
              refine ok_X7_nextOf hM9 hr9 hB9 hJ9 hi ?_
              rw [en]
              refine V_callV (fr := 4) (lo := 90) (mc := 0) (ms := 0) (As := [_, _]) C yvX7_graceOf w_944 dX7_lapsing_59 rfl rfl (by repeat (first | with_reducible assumption | with_reducible exact mset_self _ _ _ | refine (mset_ne (by omega)).trans ?_)) (by (try simp only [mset_1]); omega) rfl rfl (Nat.le_of_ble_eq_true rfl) ⟨Nat.le_of_ble_eq_true rfl, Nat.le_of_ble_eq_true rfl⟩ ⟨Nat.le_of_ble_eq_true rfl, Nat.le_of_ble_eq_true rfl⟩ ?_
              refine ok_X7_graceOf hM9 hr9 hB9 hJ9 hi (by omega) ?_
              refine V_aload_n C dX7_lapsing_62 rfl ?_
              refine V_get C fg_X7_7 dX7_lapsing_63 (by repeat (first | with_reducible assumption | with_reducible exact mset_self _ _ _ | refine (mset_ne (by omega)).trans ?_)) (by (try simp only [mset_1]); omega) (by rfl) ?_
              refine V_iconst C dX7_lapsing_66 ?_
              refine V_iald C dX7_lapsing_67 (by repeat (first | with_reducible assumption | with_reducible exact mset_self _ _ _ | refine (mset_ne (by omega)).trans ?_)) (by (try simp only [mset_1]); omega) (by omega) (by omega) (show ((0 : Int)).toNat = 0 from rfl) ?_
              rw [e0]
              refine V_iload_n C dX7_lapsing_68 rfl ?_
              refine V_iadd C dX7_lapsing_69 ?_
              refine V_icmp_ge C dX7_lapsing_70 (tgt := 77) (by decide) (by omega) (by omega) (fun g70 => ?_) (fun g70 => ?_)
              · refine V_iconst C dX7_lapsing_77 ?_
                refine V_istore C dX7_lapsing_78 (by decide) ?_
                refine V_iload_n C dX7_lapsing_80 rfl ?_
                refine V_iload C dX7_lapsing_81 rfl ?_
                refine V_if_eq C dX7_lapsing_83 (tgt := 90) (by decide) (by omega) (fun g83 => ?_) (fun g83 => ?_)
                · refine V_iconst C dX7_lapsing_90 ?_
                  refine V_iadd C dX7_lapsing_91 ?_
                  refine V_istore_n C dX7_lapsing_92 (by decide) ?_
                  refine V_iinc C dX7_lapsing_93 rfl (by decide) ?_
                  refine V_goto C dX7_lapsing_96 (tgt := 25) (by decide) ?_
                  refine V_lv [(0, .ref (z + 331)), (1, iv w), (2, iv (((cntN (fun i => !lapB (RF S i) (RA S i) (sc S 0) && lapB (RF S i) (RA S i) (sc S 0 + w)) (i + 1) : Nat) : Int))), (3, iv (((i + 1 : Nat) : Int)))] (List.forall_mem_cons.mpr ⟨(by first | rfl | exact congrArg (fun t => some (iv t)) (by have e8 := cntN_f (p := (fun i => !lapB (RF S i) (RA S i) (sc S 0) && lapB (RF S i) (RA S i) (sc S 0 + w))) (n := i) (by show (!lapB (RF S i) (RA S i) (sc S 0) && lapB (RF S i) (RA S i) (sc S 0 + w)) = false; rw [lapB_f (t := sc S 0 + w) (fun o => by have o2 := o.2; omega)]; simp); push_cast; omega)), (List.forall_mem_cons.mpr ⟨(by first | rfl | exact congrArg (fun t => some (iv t)) (by have e8 := cntN_f (p := (fun i => !lapB (RF S i) (RA S i) (sc S 0) && lapB (RF S i) (RA S i) (sc S 0 + w))) (n := i) (by show (!lapB (RF S i) (RA S i) (sc S 0) && lapB (RF S i) (RA S i) (sc S 0 + w)) = false; rw [lapB_f (t := sc S 0 + w) (fun o => by have o2 := o.2; omega)]; simp); push_cast; omega)), (List.forall_mem_cons.mpr ⟨(by first | rfl | exact congrArg (fun t => some (iv t)) (by have e8 := cntN_f (p := (fun i => !lapB (RF S i) (RA S i) (sc S 0) && lapB (RF S i) (RA S i) (sc S 0 + w))) (n := i) (by show (!lapB (RF S i) (RA S i) (sc S 0) && lapB (RF S i) (RA S i) (sc S 0 + w)) = false; rw [lapB_f (t := sc S 0 + w) (fun o => by have o2 := o.2; omega)]; simp); push_cast; omega)), (List.forall_mem_cons.mpr ⟨(by first | rfl | exact congrArg (fun t => some (iv t)) (by have e8 := cntN_f (p := (fun i => !lapB (RF S i) (RA S i) (sc S 0) && lapB (RF S i) (RA S i) (sc S 0 + w))) (n := i) (by show (!lapB (RF S i) (RA S i) (sc S 0) && lapB (RF S i) (RA S i) (sc S 0 + w)) = false; rw [lapB_f (t := sc S 0 + w) (fun o => by have o2 := o.2; omega)]; simp); push_cast; omega)), (fun _ h => nomatch h)⟩)⟩)⟩)⟩) ?_
                  exact ih (i + 1) (by omega) (by omega)
                · exact absurd rfl g83
              · refine V_iconst C dX7_lapsing_73 ?_
                refine V_goto C dX7_lapsing_74 (tgt := 78) (by decide) ?_
                refine V_istore C dX7_lapsing_78 (by decide) ?_
                refine V_iload_n C dX7_lapsing_80 rfl ?_
                refine V_iload C dX7_lapsing_81 rfl ?_
                refine V_if_eq C dX7_lapsing_83 (tgt := 90) (by decide) (by omega) (fun g83 => ?_) (fun g83 => ?_)
                · exact absurd g83 (by decide)
                · refine V_iconst C dX7_lapsing_86 ?_
                  refine V_goto C dX7_lapsing_87 (tgt := 91) (by decide) ?_
                  refine V_iadd C dX7_lapsing_91 ?_
                  refine V_istore_n C dX7_lapsing_92 (by decide) ?_
                  refine V_iinc C dX7_lapsing_93 rfl (by decide) ?_
                  refine V_goto C dX7_lapsing_96 (tgt := 25) (by decide) ?_
                  refine V_lv [(0, .ref (z + 331)), (1, iv w), (2, iv (((cntN (fun i => !lapB (RF S i) (RA S i) (sc S 0) && lapB (RF S i) (RA S i) (sc S 0 + w)) (i + 1) : Nat) : Int))), (3, iv (((i + 1 : Nat) : Int)))] (List.forall_mem_cons.mpr ⟨(by first | rfl | exact congrArg (fun t => some (iv t)) (by have e8 := cntN_t (p := (fun i => !lapB (RF S i) (RA S i) (sc S 0) && lapB (RF S i) (RA S i) (sc S 0 + w))) (n := i) (by show (!lapB (RF S i) (RA S i) (sc S 0) && lapB (RF S i) (RA S i) (sc S 0 + w)) = true; rw [lapB_f hl, lapB_t ⟨by omega, by omega⟩]; rfl); push_cast; omega)), (List.forall_mem_cons.mpr ⟨(by first | rfl | exact congrArg (fun t => some (iv t)) (by have e8 := cntN_t (p := (fun i => !lapB (RF S i) (RA S i) (sc S 0) && lapB (RF S i) (RA S i) (sc S 0 + w))) (n := i) (by show (!lapB (RF S i) (RA S i) (sc S 0) && lapB (RF S i) (RA S i) (sc S 0 + w)) = true; rw [lapB_f hl, lapB_t ⟨by omega, by omega⟩]; rfl); push_cast; omega)), (List.forall_mem_cons.mpr ⟨(by first | rfl | exact congrArg (fun t => some (iv t)) (by have e8 := cntN_t (p := (fun i => !lapB (RF S i) (RA S i) (sc S 0) && lapB (RF S i) (RA S i) (sc S 0 + w))) (n := i) (by show (!lapB (RF S i) (RA S i) (sc S 0) && lapB (RF S i) (RA S i) (sc S 0 + w)) = true; rw [lapB_f hl, lapB_t ⟨by omega, by omega⟩]; rfl); push_cast; omega)), (List.forall_mem_cons.mpr ⟨(by first | rfl | exact congrArg (fun t => some (iv t)) (by have e8 := cntN_t (p := (fun i => !lapB (RF S i) (RA S i) (sc S 0) && lapB (RF S i) (RA S i) (sc S 0 + w))) (n := i) (by show (!lapB (RF S i) (RA S i) (sc S 0) && lapB (RF S i) (RA S i) (sc S 0 + w)) = true; rw [lapB_f hl, lapB_t ⟨by omega, by omega⟩]; rfl); push_cast; omega)), (fun _ h => nomatch h)⟩)⟩)⟩)⟩) ?_
                  exact ih (i + 1) (by omega) (by omega)
    refine V_lv [(0, .ref (z + 331)), (1, iv w), (2, iv (((cntN (fun i => !lapB (RF S i) (RA S i) (sc S 0) && lapB (RF S i) (RA S i) (sc S 0 + w)) 0 : Nat) : Int))), (3, iv (((0 : Nat) : Int)))] (List.forall_mem_cons.mpr ⟨(by first | rfl | exact congrArg (fun t => some (iv t)) (by omega)), (List.forall_mem_cons.mpr ⟨(by first | rfl | exact congrArg (fun t => some (iv t)) (by omega)), (List.forall_mem_cons.mpr ⟨(by first | rfl | exact congrArg (fun t => some (iv t)) (by omega)), (List.forall_mem_cons.mpr ⟨(by first | rfl | exact congrArg (fun t => some (iv t)) (by omega)), (fun _ h => nomatch h)⟩)⟩)⟩)⟩) ?_
    exact loop 11 0 (by omega) (by omega)
  · refine V_ifeq0 C dX7_lapsing_5 (tgt := 12) (by decide) ?_
    refine V_iconst C dX7_lapsing_12 ?_
    refine V_callV (fr := 0) (lo := 0) (mc := 0) (ms := 0) (As := [_]) C yvX7_refused w_849 dX7_lapsing_13 rfl rfl (by repeat (first | with_reducible assumption | with_reducible exact mset_self _ _ _ | refine (mset_ne (by omega)).trans ?_)) (by (try simp only [mset_1]); omega) rfl rfl (Nat.le_of_ble_eq_true rfl) ⟨Nat.le_of_ble_eq_true rfl, Nat.le_of_ble_eq_true rfl⟩ ⟨Nat.le_of_ble_eq_true rfl, Nat.le_of_ble_eq_true rfl⟩ ?_
    refine ok_X7_refused hM9 (by omega) (fun _ M1 s1 x1 => ?_) (fun o => absurd o (by decide))
    have hM9 := x1
    obtain ⟨gn, g0, g1, g2, g3, g4, g5, g6⟩ := id hM9
    refine V_ifeq1 C dX7_lapsing_16 (tgt := 21) (by decide) ?_
    refine V_iconst C dX7_lapsing_19 ?_
    exact V_iret C hr dX7_lapsing_20 (hX hw _ _ _ _ (P7_331 s1) x1 rfl rfl rfl)

