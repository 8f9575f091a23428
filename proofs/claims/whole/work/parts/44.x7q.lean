/-! holiday (X7), walked -/
set_option maxHeartbeats 400000 in
set_option maxRecDepth 4000 in
theorem ok_X7_takesHoliday {l : Launch} {D : va_G} {cy : Nat → ClassId} {z : Nat} {M : Mm} {K : Option Value → Mm → Prop} {u N P A tx fr tl : Nat → Int} (hM : ModAt cy z M u N P A tx fr tl) {q : Nat} (hq : N 2 = q) (hq6 : q ≤ 6) (hnr : ∀ j, j < q → 0 ≤ N (3 + j) ∧ N (3 + j) ≤ 2000) (hnd : NDh (rowH N) q) {v : Int} (hv : -2147483648 ≤ v ∧ v < 2147483648) (hK : ∀ M' t9 N9, TkR N q q t9 v N9 → Sm M M' P7 → ModAt cy z M' u (va_up N9 2 (t9 : Int)) P A tx fr tl → K none M') :
    MT l D cy z false yX7_takesHoliday (wsy yX7_takesHoliday cX7_takesHoliday 4 none) 0 0 0 0 M [.ref (z + 331), iv v] K := by
  refine MT_of (by decide) w_912 (Nat.le_of_ble_eq_true rfl) ?_
  intro p e s m args below meth c C hr hx0
  have hM9 := hM
  obtain ⟨gn, g0, g1, g2, g3, g4, g5, g6⟩ := id hM
  refine V_iconst C dX7_takesHoliday_0 ?_
  refine V_istore_n C dX7_takesHoliday_1 (by decide) ?_
  refine V_iconst C dX7_takesHoliday_2 ?_
  refine V_istore_n C dX7_takesHoliday_3 (by decide) ?_
  have loop : ∀ (n : Nat) (k9 t9 : Nat) (N9 : Nat → Int) (M9 : Mm), (TkR N q k9 t9 v N9) → (Sm M M9 P7) → (ModAt cy z M9 u N9 P A tx fr tl) → q - k9 < n → V p l e { frames := 0, cells := 0, slots := 0, locals := 0 } s m args below meth c D z 4 (MQ below (qc_ D z K) args s 0 0 (fun q => z ≤ q)) 0 0 M9 4 [(0, .ref (z + 331)), (1, iv v), (2, iv ((t9 : Int))), (3, iv ((k9 : Int)))] [] := by
    intro n
    induction n with
    | zero => intro k9 t9 N9 M9 hi0 hi1 hi2 hfu; exact absurd hfu (Nat.not_lt_zero _)
    | succ n ih =>
      intro k9 t9 N9 M9 hi0 hi1 hi2 hfu
      have hM9 := hi2
      obtain ⟨gn, g0, g1, g2, g3, g4, g5, g6⟩ := id hM9
      have n2 : N9 2 = q := (hi0.2.2.1 _ (by omega)).trans hq
      have k91 := hi0.1
      have k92 := hi0.2.1
      refine V_iload_n C dX7_takesHoliday_4 rfl ?_
      refine V_aload_n C dX7_takesHoliday_5 rfl ?_
      refine V_get C fg_X7_7 dX7_takesHoliday_6 (by repeat (first | with_reducible assumption | with_reducible exact mset_self _ _ _ | refine (mset_ne (by omega)).trans ?_)) (by (try simp only [mset_1]); omega) (by rfl) ?_
      refine V_iconst C dX7_takesHoliday_9 ?_
      refine V_iald C dX7_takesHoliday_10 (by repeat (first | with_reducible assumption | with_reducible exact mset_self _ _ _ | refine (mset_ne (by omega)).trans ?_)) (by (try simp only [mset_1]); omega) (by omega) (by omega) (show ((2 : Int)).toNat = 2 from rfl) ?_
      rw [n2]
      refine V_icmp_ge C dX7_takesHoliday_11 (tgt := 51) (by decide) (by omega) (by omega) (fun g11 => ?_) (fun g11 => ?_)
      · refine V_aload_n C dX7_takesHoliday_51 rfl ?_
        refine V_get C fg_X7_7 dX7_takesHoliday_52 (by repeat (first | with_reducible assumption | with_reducible exact mset_self _ _ _ | refine (mset_ne (by omega)).trans ?_)) (by (try simp only [mset_1]); omega) (by rfl) ?_
        refine V_iconst C dX7_takesHoliday_55 ?_
        refine V_iload_n C dX7_takesHoliday_56 rfl ?_
        refine V_iast C dX7_takesHoliday_57 (by repeat (first | with_reducible assumption | with_reducible exact mset_self _ _ _ | refine (mset_ne (by omega)).trans ?_)) (by (try simp only [mset_1]); omega) (by omega) (by omega) (show ((2 : Int)).toNat = 2 from rfl) ?_
        exact V_vret C hr dX7_takesHoliday_58 (hK _ t9 _ ((show k9 = q by omega) ▸ hi0) (hi1.ts ⟨by omega, by omega⟩) hi2.nows)
      · have n3 : N9 (3 + k9) = N (3 + k9) := hi0.2.2.1 _ (by omega)
        have n4 := hnr k9 (by omega)
        refine V_aload_n C dX7_takesHoliday_14 rfl ?_
        refine V_get C fg_X7_7 dX7_takesHoliday_15 (by repeat (first | with_reducible assumption | with_reducible exact mset_self _ _ _ | refine (mset_ne (by omega)).trans ?_)) (by (try simp only [mset_1]); omega) (by rfl) ?_
        refine V_iconst C dX7_takesHoliday_18 ?_
        refine V_iload_n C dX7_takesHoliday_19 rfl ?_
        refine V_iadd C dX7_takesHoliday_20 ?_
        refine V_iald C dX7_takesHoliday_21 (by repeat (first | with_reducible assumption | with_reducible exact mset_self _ _ _ | refine (mset_ne (by omega)).trans ?_)) (by (try simp only [mset_1]); omega) (by omega) (by omega) (show (3 + (k9 : Int)).toNat = 3 + k9 by omega) ?_
        rw [n3]
        refine V_iload_n C dX7_takesHoliday_22 rfl ?_
        refine V_icmp_eq C dX7_takesHoliday_23 (tgt := 45) (by decide) (by omega) (by omega) (fun g23 => ?_) (fun g23 => ?_)
        · refine V_iinc C dX7_takesHoliday_45 rfl (by decide) ?_
          refine V_goto C dX7_takesHoliday_48 (tgt := 4) (by decide) ?_
          refine V_lv [(0, .ref (z + 331)), (1, iv v), (2, iv (((t9 : Nat) : Int))), (3, iv (((k9 + 1 : Nat) : Int)))] (List.forall_mem_cons.mpr ⟨(by first | rfl | exact congrArg (fun t => some (iv t)) (by push_cast; omega)), (List.forall_mem_cons.mpr ⟨(by first | rfl | exact congrArg (fun t => some (iv t)) (by push_cast; omega)), (List.forall_mem_cons.mpr ⟨(by first | rfl | exact congrArg (fun t => some (iv t)) (by push_cast; omega)), (List.forall_mem_cons.mpr ⟨(by first | rfl | exact congrArg (fun t => some (iv t)) (by push_cast; omega)), (fun _ h => nomatch h)⟩)⟩)⟩)⟩) ?_
          exact ih (k9 + 1) t9 N9 M9 (TkR_e hi0 (by omega) hnd (by omega)) hi1 hi2 (by omega)
        · refine V_aload_n C dX7_takesHoliday_26 rfl ?_
          refine V_get C fg_X7_7 dX7_takesHoliday_27 (by repeat (first | with_reducible assumption | with_reducible exact mset_self _ _ _ | refine (mset_ne (by omega)).trans ?_)) (by (try simp only [mset_1]); omega) (by rfl) ?_
          refine V_iconst C dX7_takesHoliday_30 ?_
          refine V_iload_n C dX7_takesHoliday_31 rfl ?_
          refine V_iadd C dX7_takesHoliday_32 ?_
          refine V_aload_n C dX7_takesHoliday_33 rfl ?_
          refine V_get C fg_X7_7 dX7_takesHoliday_34 (by repeat (first | with_reducible assumption | with_reducible exact mset_self _ _ _ | refine (mset_ne (by omega)).trans ?_)) (by (try simp only [mset_1]); omega) (by rfl) ?_
          refine V_iconst C dX7_takesHoliday_37 ?_
          refine V_iload_n C dX7_takesHoliday_38 rfl ?_
          refine V_iadd C dX7_takesHoliday_39 ?_
          refine V_iald C dX7_takesHoliday_40 (by repeat (first | with_reducible assumption | with_reducible exact mset_self _ _ _ | refine (mset_ne (by omega)).trans ?_)) (by (try simp only [mset_1]); omega) (by omega) (by omega) (show (3 + (k9 : Int)).toNat = 3 + k9 by omega) ?_
          refine V_iast C dX7_takesHoliday_41 (by repeat (first | with_reducible assumption | with_reducible exact mset_self _ _ _ | refine (mset_ne (by omega)).trans ?_)) (by (try simp only [mset_1]); omega) (by omega) (by omega) (show (3 + (t9 : Int)).toNat = 3 + t9 by omega) ?_
          refine V_iinc C dX7_takesHoliday_42 rfl (by decide) ?_
          refine V_iinc C dX7_takesHoliday_45 rfl (by decide) ?_
          refine V_goto C dX7_takesHoliday_48 (tgt := 4) (by decide) ?_
          refine V_lv [(0, .ref (z + 331)), (1, iv v), (2, iv (((t9 + 1 : Nat) : Int))), (3, iv (((k9 + 1 : Nat) : Int)))] (List.forall_mem_cons.mpr ⟨(by first | rfl | exact congrArg (fun t => some (iv t)) (by push_cast; omega)), (List.forall_mem_cons.mpr ⟨(by first | rfl | exact congrArg (fun t => some (iv t)) (by push_cast; omega)), (List.forall_mem_cons.mpr ⟨(by first | rfl | exact congrArg (fun t => some (iv t)) (by push_cast; omega)), (List.forall_mem_cons.mpr ⟨(by first | rfl | exact congrArg (fun t => some (iv t)) (by push_cast; omega)), (fun _ h => nomatch h)⟩)⟩)⟩)⟩) ?_
          exact ih (k9 + 1) (t9 + 1) _ _ (TkR_n hi0 (by omega) (by omega)) (hi1.ts ⟨by omega, by omega⟩) hi2.nows (by omega)
  refine V_lv [(0, .ref (z + 331)), (1, iv v), (2, iv (((0 : Nat) : Int))), (3, iv (((0 : Nat) : Int)))] (List.forall_mem_cons.mpr ⟨(by first | rfl | exact congrArg (fun t => some (iv t)) (by omega)), (List.forall_mem_cons.mpr ⟨(by first | rfl | exact congrArg (fun t => some (iv t)) (by omega)), (List.forall_mem_cons.mpr ⟨(by first | rfl | exact congrArg (fun t => some (iv t)) (by omega)), (List.forall_mem_cons.mpr ⟨(by first | rfl | exact congrArg (fun t => some (iv t)) (by omega)), (fun _ h => nomatch h)⟩)⟩)⟩)⟩) ?_
  exact loop 7 0 0 N M TkR_0 (Sm.rf _ _) hM (by omega)

set_option maxHeartbeats 1000000 in
set_option maxRecDepth 4000 in
theorem ok_X7_holiday {l : Launch} {D : va_G} {cy : Nat → ClassId} {z : Nat} {M : Mm} {K : Option Value → Mm → Prop} {u N P A tx fr tl : Nat → Int} (hM : ModAt cy z M u N P A tx fr tl) {S : SD} (hRw : RowOf N S) (hB : SB S) (hJ : IS S) {c9 : Nat} (hc : u 0 = c9) (hc9 : c9 ≤ 4) (hN : NDh (ho S) (sH S)) {t k : Int} (ht : -2147483648 ≤ t ∧ t < 2147483648) (hk : -2147483648 ≤ k ∧ k < 2147483648) (hX1 : ¬ ((1 ≤ t ∧ t ≤ 12) ∧ (1 ≤ k ∧ k ≤ ml 0 t)) → ∀ M', Sm M M' P7 → ModAt cy z M' (va_up u 1 1) N P A tx fr tl → K (some (iv 0)) M') (hX2 : ((1 ≤ t ∧ t ≤ 12) ∧ (1 ≤ k ∧ k ≤ ml 0 t)) → ¬ (sN S = 0 ∧ (sH S < 6 ∨ hset (ho S) (sH S) (100 * t + k) = true)) → ∀ M', Sm M M' P7 → ModAt cy z M' (va_up u 1 2) N P A tx fr tl → K (some (iv 0)) M') (hK1 : ((1 ≤ t ∧ t ≤ 12) ∧ (1 ≤ k ∧ k ≤ ml 0 t)) → sN S = 0 → hset (ho S) (sH S) (100 * t + k) = true → ∀ M' u' P' N', Sm M M' P7 → ModAt cy z M' u' N' P' A tx fr tl → u' 0 = (if c9 < 4 then (c9 : Int) + 1 else 4) → u' 1 = 0 → u' 2 = u 2 → P' = psv P N c9 → (∀ i, i < sH S → ho S i = (100 * t + k) → RowOf N' (setH S (sH S - 1) (va_up (ho S) i (ho S (sH S - 1))))) → K (some (iv ((sH S - 1 : Nat) : Int))) M') (hK2 : ((1 ≤ t ∧ t ≤ 12) ∧ (1 ≤ k ∧ k ≤ ml 0 t)) → sN S = 0 → sH S < 6 → hset (ho S) (sH S) (100 * t + k) = false → ∀ M' u' P' N', Sm M M' P7 → ModAt cy z M' u' N' P' A tx fr tl → u' 0 = (if c9 < 4 then (c9 : Int) + 1 else 4) → u' 1 = 0 → u' 2 = u 2 → P' = psv P N c9 → (RowOf N' (setH S (sH S + 1) (va_up (ho S) (sH S) (100 * t + k)))) → K (some (iv ((sH S + 1 : Nat) : Int))) M') :
    MT l D cy z false yX7_holiday (wsy yX7_holiday cX7_holiday 6 (some .int)) 1 23 0 0 M [.ref (z + 331), iv t, iv k] K := by
  refine MT_of (by decide) w_904 (Nat.le_of_ble_eq_true rfl) ?_
  intro p e s m args below meth c C hr hx0
  have hM9 := hM
  obtain ⟨gn, g0, g1, g2, g3, g4, g5, g6⟩ := id hM
  have hB9 := hB
  have hr9 := hRw
  have hJ9 := hJ
  obtain ⟨e0, e1, e2, eH, eh, e9, e10, e11, e12, e13, e14, e15, eR⟩ := id hRw
  obtain ⟨d0, d1, d2, d4, d5, d6, dH, dR⟩ := id hB
  have dT := hJ.2.1
  have hnd := hN
  refine V_iload_n C dX7_holiday_0 rfl ?_
  refine V_iconst C dX7_holiday_1 ?_
  refine V_bipush C dX7_holiday_2 (by decide) ?_
  refine V_callS (fr := 0) (lo := 0) (mc := 0) (ms := 0) (As := [_, _, _]) C ysX7_in w_863 dX7_holiday_4 rfl rfl (Nat.le_of_ble_eq_true rfl) ⟨Nat.le_of_ble_eq_true rfl, Nat.le_of_ble_eq_true rfl⟩ ⟨Nat.le_of_ble_eq_true rfl, Nat.le_of_ble_eq_true rfl⟩ ?_
  refine ok_X7_in (by omega) (by omega) (by omega) (fun hw1 => ?_) (fun hw1 => ?_)
  · refine V_ifeq1 C dX7_holiday_7 (tgt := 27) (by decide) ?_
    refine V_iload_n C dX7_holiday_10 rfl ?_
    refine V_iconst C dX7_holiday_11 ?_
    refine V_iconst C dX7_holiday_12 ?_
    refine V_iload_n C dX7_holiday_13 rfl ?_
    refine V_callS (fr := 0) (lo := 0) (mc := 0) (ms := 0) (As := [_, _]) C ysX7_monthDays w_872 dX7_holiday_14 rfl rfl (Nat.le_of_ble_eq_true rfl) ⟨Nat.le_of_ble_eq_true rfl, Nat.le_of_ble_eq_true rfl⟩ ⟨Nat.le_of_ble_eq_true rfl, Nat.le_of_ble_eq_true rfl⟩ ?_
    refine ok_X7_monthDays (by omega) (by omega) ?_
    have mr := ml_rng 0 t
    refine V_callS (fr := 0) (lo := 0) (mc := 0) (ms := 0) (As := [_, _, _]) C ysX7_in w_863 dX7_holiday_17 rfl rfl (Nat.le_of_ble_eq_true rfl) ⟨Nat.le_of_ble_eq_true rfl, Nat.le_of_ble_eq_true rfl⟩ ⟨Nat.le_of_ble_eq_true rfl, Nat.le_of_ble_eq_true rfl⟩ ?_
    refine ok_X7_in (by omega) (by omega) (by omega) (fun hw2 => ?_) (fun hw2 => ?_)
    · refine V_ifeq1 C dX7_holiday_20 (tgt := 27) (by decide) ?_
      refine V_iconst C dX7_holiday_23 ?_
      refine V_goto C dX7_holiday_24 (tgt := 28) (by decide) ?_
      refine V_istore_n C dX7_holiday_28 (by decide) ?_
      refine V_iload_n C dX7_holiday_29 rfl ?_
      refine V_if_eq C dX7_holiday_30 (tgt := 42) (by decide) (by omega) (fun g30 => ?_) (fun g30 => ?_)
      · exact absurd g30 (by decide)
      · refine V_bipush C dX7_holiday_33 (by decide) ?_
        refine V_iload_n C dX7_holiday_35 rfl ?_
        refine V_imul C dX7_holiday_36 ?_
        refine V_iload_n C dX7_holiday_37 rfl ?_
        refine V_iadd C dX7_holiday_38 ?_
        refine V_goto C dX7_holiday_39 (tgt := 43) (by decide) ?_
        refine V_istore C dX7_holiday_43 (by decide) ?_
        refine V_aload_n C dX7_holiday_45 rfl ?_
        refine V_get C fg_X7_7 dX7_holiday_46 (by repeat (first | with_reducible assumption | with_reducible exact mset_self _ _ _ | refine (mset_ne (by omega)).trans ?_)) (by (try simp only [mset_1]); omega) (by rfl) ?_
        refine V_iconst C dX7_holiday_49 ?_
        refine V_iald C dX7_holiday_50 (by repeat (first | with_reducible assumption | with_reducible exact mset_self _ _ _ | refine (mset_ne (by omega)).trans ?_)) (by (try simp only [mset_1]); omega) (by omega) (by omega) (show ((2 : Int)).toNat = 2 from rfl) ?_
        rw [e2]
        refine V_bipush C dX7_holiday_51 (by decide) ?_
        refine V_icmp_ne C dX7_holiday_53 (tgt := 69) (by decide) (by omega) (by omega) (fun g53 => ?_) (fun g53 => ?_)
        · refine V_iconst C dX7_holiday_69 ?_
          refine V_istore C dX7_holiday_70 (by decide) ?_
          refine V_aload_n C dX7_holiday_72 rfl ?_
          refine V_iload_n C dX7_holiday_73 rfl ?_
          refine V_if_ne C dX7_holiday_74 (tgt := 81) (by decide) (by omega) (fun g74 => ?_) (fun g74 => ?_)
          · refine V_aload_n C dX7_holiday_81 rfl ?_
            refine V_get C fg_X7_7 dX7_holiday_82 (by repeat (first | with_reducible assumption | with_reducible exact mset_self _ _ _ | refine (mset_ne (by omega)).trans ?_)) (by (try simp only [mset_1]); omega) (by rfl) ?_
            refine V_iconst C dX7_holiday_85 ?_
            refine V_iald C dX7_holiday_86 (by repeat (first | with_reducible assumption | with_reducible exact mset_self _ _ _ | refine (mset_ne (by omega)).trans ?_)) (by (try simp only [mset_1]); omega) (by omega) (by omega) (show ((1 : Int)).toNat = 1 from rfl) ?_
            rw [e1]
            refine V_if_gt C dX7_holiday_87 (tgt := 95) (by decide) (by omega) (fun g87 => ?_) (fun g87 => ?_)
            · refine V_iconst C dX7_holiday_95 ?_
              refine V_goto C dX7_holiday_96 (tgt := 100) (by decide) ?_
              refine V_callV (fr := 0) (lo := 0) (mc := 0) (ms := 0) (As := [_]) C yvX7_refused w_849 dX7_holiday_100 rfl rfl (by repeat (first | with_reducible assumption | with_reducible exact mset_self _ _ _ | refine (mset_ne (by omega)).trans ?_)) (by (try simp only [mset_1]); omega) rfl rfl (Nat.le_of_ble_eq_true rfl) ⟨Nat.le_of_ble_eq_true rfl, Nat.le_of_ble_eq_true rfl⟩ ⟨Nat.le_of_ble_eq_true rfl, Nat.le_of_ble_eq_true rfl⟩ ?_
              refine ok_X7_refused hM9 (by omega) (fun _ M1 s1 x1 => ?_) (fun o => absurd o (by decide))
              have hM9 := x1
              obtain ⟨gn, g0, g1, g2, g3, g4, g5, g6⟩ := id hM9
              refine V_ifeq1 C dX7_holiday_103 (tgt := 108) (by decide) ?_
              refine V_iconst C dX7_holiday_106 ?_
              exact V_iret C hr dX7_holiday_107 (hX2 ⟨hw1, hw2⟩ (fun o => by have o1 := o.1; omega) _ (P7_331 s1) x1)
            · refine V_iload C dX7_holiday_90 rfl ?_
              refine V_if_eq C dX7_holiday_92 (tgt := 99) (by decide) (by omega) (fun g92 => ?_) (fun g92 => ?_)
              · refine V_iconst C dX7_holiday_99 ?_
                refine V_callV (fr := 0) (lo := 0) (mc := 0) (ms := 0) (As := [_]) C yvX7_refused w_849 dX7_holiday_100 rfl rfl (by repeat (first | with_reducible assumption | with_reducible exact mset_self _ _ _ | refine (mset_ne (by omega)).trans ?_)) (by (try simp only [mset_1]); omega) rfl rfl (Nat.le_of_ble_eq_true rfl) ⟨Nat.le_of_ble_eq_true rfl, Nat.le_of_ble_eq_true rfl⟩ ⟨Nat.le_of_ble_eq_true rfl, Nat.le_of_ble_eq_true rfl⟩ ?_
                refine ok_X7_refused hM9 (by omega) (fun o => absurd o (by decide)) (fun _ M1 s1 x1 => ?_)
                have hM9 := x1
                obtain ⟨gn, g0, g1, g2, g3, g4, g5, g6⟩ := id hM9
                refine V_ifeq0 C dX7_holiday_103 (tgt := 108) (by decide) ?_
                refine V_aload_n C dX7_holiday_108 rfl ?_
                refine V_callV (fr := 0) (lo := 0) (mc := 0) (ms := 0) (As := []) C yvX7_saves w_905 dX7_holiday_109 rfl rfl (by repeat (first | with_reducible assumption | with_reducible exact mset_self _ _ _ | refine (mset_ne (by omega)).trans ?_)) (by (try simp only [mset_1]); omega) rfl rfl (Nat.le_of_ble_eq_true rfl) ⟨Nat.le_of_ble_eq_true rfl, Nat.le_of_ble_eq_true rfl⟩ ⟨Nat.le_of_ble_eq_true rfl, Nat.le_of_ble_eq_true rfl⟩ ?_
                refine ok_X7_saves hM9 hc hc9 (fun M2 u2 P2 s2 x2 a0 aj aP => ?_)
                have hM9 := x2
                obtain ⟨gn, g0, g1, g2, g3, g4, g5, g6⟩ := id hM9
                refine V_aload_n C dX7_holiday_112 rfl ?_
                refine V_iload C dX7_holiday_113 rfl ?_
                refine V_callV (fr := 0) (lo := 0) (mc := 0) (ms := 0) (As := [_]) C yvX7_isHoliday w_897 dX7_holiday_115 rfl rfl (by repeat (first | with_reducible assumption | with_reducible exact mset_self _ _ _ | refine (mset_ne (by omega)).trans ?_)) (by (try simp only [mset_1]); omega) rfl rfl (Nat.le_of_ble_eq_true rfl) ⟨Nat.le_of_ble_eq_true rfl, Nat.le_of_ble_eq_true rfl⟩ ⟨Nat.le_of_ble_eq_true rfl, Nat.le_of_ble_eq_true rfl⟩ ?_
                refine ok_X7_isHoliday hM9 e2 d2 (fun j hj => by have o := eh j hj; omega) (by omega) (fun hh2 => ?_) (fun hh2 => ?_)
                · refine V_ifeq1 C dX7_holiday_118 (tgt := 130) (by decide) ?_
                  refine V_aload_n C dX7_holiday_121 rfl ?_
                  refine V_iload C dX7_holiday_122 rfl ?_
                  refine V_callV (fr := 0) (lo := 0) (mc := 0) (ms := 0) (As := [_]) C yvX7_takesHoliday w_909 dX7_holiday_124 rfl rfl (by repeat (first | with_reducible assumption | with_reducible exact mset_self _ _ _ | refine (mset_ne (by omega)).trans ?_)) (by (try simp only [mset_1]); omega) rfl rfl (Nat.le_of_ble_eq_true rfl) ⟨Nat.le_of_ble_eq_true rfl, Nat.le_of_ble_eq_true rfl⟩ ⟨Nat.le_of_ble_eq_true rfl, Nat.le_of_ble_eq_true rfl⟩ ?_
                  refine ok_X7_takesHoliday hM9 e2 d2 eh (nd_of hN eH) (by omega) (fun M3 t9 N9 k9 s3 x3 => ?_)
                  have hM9 := x3
                  obtain ⟨gn, g0, g1, g2, g3, g4, g5, g6⟩ := id hM9
                  refine V_goto C dX7_holiday_127 (tgt := 155) (by decide) ?_
                  refine V_aload_n C dX7_holiday_155 rfl ?_
                  refine V_get C fg_X7_7 dX7_holiday_156 (by repeat (first | with_reducible assumption | with_reducible exact mset_self _ _ _ | refine (mset_ne (by omega)).trans ?_)) (by (try simp only [mset_1]); omega) (by rfl) ?_
                  refine V_iconst C dX7_holiday_159 ?_
                  refine V_iald C dX7_holiday_160 (by repeat (first | with_reducible assumption | with_reducible exact mset_self _ _ _ | refine (mset_ne (by omega)).trans ?_)) (by (try simp only [mset_1]); omega) (by omega) (by omega) (show ((2 : Int)).toNat = 2 from rfl) ?_
                  exact V_iret C hr dX7_holiday_161 (by
                      have hd9 : hset (ho S) (sH S) (100 * t + k) = true := by rw [← eH]; exact hh2
                      have tk := k9
                      have et : (t9 : Int) = ((sH S - 1 : Nat) : Int) := by have o := tk.2.2.2.2.2; rw [if_pos hh2] at o; omega
                      have et2 : t9 = sH S - 1 := by omega
                      refine K_of (hK1 ⟨hw1, hw2⟩ (by omega) hd9 _ _ _ _ (((P7_331 s1).trans s2).trans s3) x3 a0 (aj 1 (by omega)) (aj 2 (by omega)) aP (fun i hi9 hd8 => RowOf_hol hr9 hB9 (by omega) (fun j hj => ?_) (by rw [up_s]; exact et) (fun w => ?_) (fun j hj => ?_))) (by rw [up_s]; exact et)
                      · rcases (show j < 3 ∨ 3 + sH S ≤ j by omega) with o | o
                        · rw [up_n (by omega)]; exact tk.2.2.1 j (by omega)
                        · rw [up_n (by omega)]; exact tk.2.2.1 j (by omega)
                      · rw [hs_rem hi9 hd8 hnd, ← et2, show hset (rowH (va_up N9 2 (t9 : Int))) t9 w = hset (rowH N9) t9 w from hset_congr t9 (fun j hj => up_n (by omega)), tk.2.2.2.1 w, eH]
                      · rw [up_n (by omega)]
                        obtain ⟨i8, i81, i82⟩ := tk.2.2.2.2.1 j (by omega)
                        rw [i82]; exact eh i8 i81)
                · refine V_ifeq0 C dX7_holiday_118 (tgt := 130) (by decide) ?_
                  refine V_aload_n C dX7_holiday_130 rfl ?_
                  refine V_get C fg_X7_7 dX7_holiday_131 (by repeat (first | with_reducible assumption | with_reducible exact mset_self _ _ _ | refine (mset_ne (by omega)).trans ?_)) (by (try simp only [mset_1]); omega) (by rfl) ?_
                  refine V_iconst C dX7_holiday_134 ?_
                  refine V_aload_n C dX7_holiday_135 rfl ?_
                  refine V_get C fg_X7_7 dX7_holiday_136 (by repeat (first | with_reducible assumption | with_reducible exact mset_self _ _ _ | refine (mset_ne (by omega)).trans ?_)) (by (try simp only [mset_1]); omega) (by rfl) ?_
                  refine V_iconst C dX7_holiday_139 ?_
                  refine V_iald C dX7_holiday_140 (by repeat (first | with_reducible assumption | with_reducible exact mset_self _ _ _ | refine (mset_ne (by omega)).trans ?_)) (by (try simp only [mset_1]); omega) (by omega) (by omega) (show ((2 : Int)).toNat = 2 from rfl) ?_
                  rw [e2]
                  refine V_iadd C dX7_holiday_141 ?_
                  refine V_iload C dX7_holiday_142 rfl ?_
                  refine V_iast C dX7_holiday_144 (by repeat (first | with_reducible assumption | with_reducible exact mset_self _ _ _ | refine (mset_ne (by omega)).trans ?_)) (by (try simp only [mset_1]); omega) (by omega) (by omega) (show (3 + (sH S : Int)).toNat = 3 + sH S by omega) ?_
                  refine V_aload_n C dX7_holiday_145 rfl ?_
                  refine V_get C fg_X7_7 dX7_holiday_146 (by repeat (first | with_reducible assumption | with_reducible exact mset_self _ _ _ | refine (mset_ne (by omega)).trans ?_)) (by (try simp only [mset_1]); omega) (by rfl) ?_
                  refine V_iconst C dX7_holiday_149 ?_
                  refine V_dup2 C dX7_holiday_150 rfl rfl ?_
                  refine V_iald C dX7_holiday_151 (by repeat (first | with_reducible assumption | with_reducible exact mset_self _ _ _ | refine (mset_ne (by omega)).trans ?_)) (by (try simp only [mset_1]); omega) (by omega) (by omega) (show ((2 : Int)).toNat = 2 from rfl) ?_
                  refine V_iconst C dX7_holiday_152 ?_
                  refine V_iadd C dX7_holiday_153 ?_
                  refine V_iast C dX7_holiday_154 (by repeat (first | with_reducible assumption | with_reducible exact mset_self _ _ _ | refine (mset_ne (by omega)).trans ?_)) (by (try simp only [mset_1]); omega) (by omega) (by omega) (show ((2 : Int)).toNat = 2 from rfl) ?_
                  refine V_aload_n C dX7_holiday_155 rfl ?_
                  refine V_get C fg_X7_7 dX7_holiday_156 (by repeat (first | with_reducible assumption | with_reducible exact mset_self _ _ _ | refine (mset_ne (by omega)).trans ?_)) (by (try simp only [mset_1]); omega) (by rfl) ?_
                  refine V_iconst C dX7_holiday_159 ?_
                  refine V_iald C dX7_holiday_160 (by repeat (first | with_reducible assumption | with_reducible exact mset_self _ _ _ | refine (mset_ne (by omega)).trans ?_)) (by (try simp only [mset_1]); omega) (by omega) (by omega) (show ((2 : Int)).toNat = 2 from rfl) ?_
                  exact V_iret C hr dX7_holiday_161 (by
                      have q6 : sH S < 6 := by omega
                      have hd9 : hset (ho S) (sH S) (100 * t + k) = false := by rw [← eH]; exact hh2
                      refine K_of (hK2 ⟨hw1, hw2⟩ (by omega) q6 hd9 _ _ _ _ ((((P7_331 s1).trans s2).ts ⟨by omega, by omega⟩).ts ⟨by omega, by omega⟩) x2.nows.nows a0 (aj 1 (by omega)) (aj 2 (by omega)) aP (RowOf_hol hr9 hB9 (by omega) (fun j hj => (up_n (by omega)).trans (up_n (by omega))) (by rw [up_s, up_n (by omega), e2]; omega) (fun w => ?_) (fun j hj => ?_))) (by rw [up_s, up_n (by omega), e2]; omega)
                      · show (hset (rowH (va_up (va_up N (3 + sH S) (100 * t + k)) 2 _)) (sH S) w || decide (va_up (va_up N (3 + sH S) (100 * t + k)) 2 _ (3 + sH S) = w)) = (hset (va_up (ho S) (sH S) (100 * t + k)) (sH S) w || decide (va_up (ho S) (sH S) (100 * t + k) (sH S) = w))
                        have hc1 : ∀ x9, hset (rowH (va_up (va_up N (3 + sH S) (100 * t + k)) 2 x9)) (sH S) w = hset (rowH N) (sH S) w := fun x9 => hset_congr (sH S) (fun j hj => (up_n (by omega)).trans (up_n (by omega)))
                        have hc2 : hset (va_up (ho S) (sH S) (100 * t + k)) (sH S) w = hset (ho S) (sH S) w := hset_congr (sH S) (fun j hj => up_n (by omega))
                        rw [up_s, up_n (show 3 + sH S ≠ 2 by omega), up_s, hc1, hc2, eH]
                      · rw [up_n (by omega)]
                        rcases Nat.decEq j (sH S) with o | o
                        · rw [up_n (by omega)]; exact eh j (by omega)
                        · rw [o, up_s]; have mr := ml_rng 0 t; omega)
              · exact absurd rfl g92
          · exact absurd g74 (by decide)
        · refine V_aload_n C dX7_holiday_56 rfl ?_
          refine V_iload C dX7_holiday_57 rfl ?_
          refine V_callV (fr := 0) (lo := 0) (mc := 0) (ms := 0) (As := [_]) C yvX7_isHoliday w_897 dX7_holiday_59 rfl rfl (by repeat (first | with_reducible assumption | with_reducible exact mset_self _ _ _ | refine (mset_ne (by omega)).trans ?_)) (by (try simp only [mset_1]); omega) rfl rfl (Nat.le_of_ble_eq_true rfl) ⟨Nat.le_of_ble_eq_true rfl, Nat.le_of_ble_eq_true rfl⟩ ⟨Nat.le_of_ble_eq_true rfl, Nat.le_of_ble_eq_true rfl⟩ ?_
          refine ok_X7_isHoliday hM9 e2 d2 (fun j hj => by have o := eh j hj; omega) (by omega) (fun hh => ?_) (fun hh => ?_)
          · refine V_ifne1 C dX7_holiday_62 (tgt := 69) (by decide) ?_
            refine V_iconst C dX7_holiday_69 ?_
            refine V_istore C dX7_holiday_70 (by decide) ?_
            refine V_aload_n C dX7_holiday_72 rfl ?_
            refine V_iload_n C dX7_holiday_73 rfl ?_
            refine V_if_ne C dX7_holiday_74 (tgt := 81) (by decide) (by omega) (fun g74 => ?_) (fun g74 => ?_)
            · refine V_aload_n C dX7_holiday_81 rfl ?_
              refine V_get C fg_X7_7 dX7_holiday_82 (by repeat (first | with_reducible assumption | with_reducible exact mset_self _ _ _ | refine (mset_ne (by omega)).trans ?_)) (by (try simp only [mset_1]); omega) (by rfl) ?_
              refine V_iconst C dX7_holiday_85 ?_
              refine V_iald C dX7_holiday_86 (by repeat (first | with_reducible assumption | with_reducible exact mset_self _ _ _ | refine (mset_ne (by omega)).trans ?_)) (by (try simp only [mset_1]); omega) (by omega) (by omega) (show ((1 : Int)).toNat = 1 from rfl) ?_
              rw [e1]
              refine V_if_gt C dX7_holiday_87 (tgt := 95) (by decide) (by omega) (fun g87 => ?_) (fun g87 => ?_)
              · refine V_iconst C dX7_holiday_95 ?_
                refine V_goto C dX7_holiday_96 (tgt := 100) (by decide) ?_
                refine V_callV (fr := 0) (lo := 0) (mc := 0) (ms := 0) (As := [_]) C yvX7_refused w_849 dX7_holiday_100 rfl rfl (by repeat (first | with_reducible assumption | with_reducible exact mset_self _ _ _ | refine (mset_ne (by omega)).trans ?_)) (by (try simp only [mset_1]); omega) rfl rfl (Nat.le_of_ble_eq_true rfl) ⟨Nat.le_of_ble_eq_true rfl, Nat.le_of_ble_eq_true rfl⟩ ⟨Nat.le_of_ble_eq_true rfl, Nat.le_of_ble_eq_true rfl⟩ ?_
                refine ok_X7_refused hM9 (by omega) (fun _ M1 s1 x1 => ?_) (fun o => absurd o (by decide))
                have hM9 := x1
                obtain ⟨gn, g0, g1, g2, g3, g4, g5, g6⟩ := id hM9
                refine V_ifeq1 C dX7_holiday_103 (tgt := 108) (by decide) ?_
                refine V_iconst C dX7_holiday_106 ?_
                exact V_iret C hr dX7_holiday_107 (hX2 ⟨hw1, hw2⟩ (fun o => by have o1 := o.1; omega) _ (P7_331 s1) x1)
              · refine V_iload C dX7_holiday_90 rfl ?_
                refine V_if_eq C dX7_holiday_92 (tgt := 99) (by decide) (by omega) (fun g92 => ?_) (fun g92 => ?_)
                · refine V_iconst C dX7_holiday_99 ?_
                  refine V_callV (fr := 0) (lo := 0) (mc := 0) (ms := 0) (As := [_]) C yvX7_refused w_849 dX7_holiday_100 rfl rfl (by repeat (first | with_reducible assumption | with_reducible exact mset_self _ _ _ | refine (mset_ne (by omega)).trans ?_)) (by (try simp only [mset_1]); omega) rfl rfl (Nat.le_of_ble_eq_true rfl) ⟨Nat.le_of_ble_eq_true rfl, Nat.le_of_ble_eq_true rfl⟩ ⟨Nat.le_of_ble_eq_true rfl, Nat.le_of_ble_eq_true rfl⟩ ?_
                  refine ok_X7_refused hM9 (by omega) (fun o => absurd o (by decide)) (fun _ M1 s1 x1 => ?_)
                  have hM9 := x1
                  obtain ⟨gn, g0, g1, g2, g3, g4, g5, g6⟩ := id hM9
                  refine V_ifeq0 C dX7_holiday_103 (tgt := 108) (by decide) ?_
                  refine V_aload_n C dX7_holiday_108 rfl ?_
                  refine V_callV (fr := 0) (lo := 0) (mc := 0) (ms := 0) (As := []) C yvX7_saves w_905 dX7_holiday_109 rfl rfl (by repeat (first | with_reducible assumption | with_reducible exact mset_self _ _ _ | refine (mset_ne (by omega)).trans ?_)) (by (try simp only [mset_1]); omega) rfl rfl (Nat.le_of_ble_eq_true rfl) ⟨Nat.le_of_ble_eq_true rfl, Nat.le_of_ble_eq_true rfl⟩ ⟨Nat.le_of_ble_eq_true rfl, Nat.le_of_ble_eq_true rfl⟩ ?_
                  refine ok_X7_saves hM9 hc hc9 (fun M2 u2 P2 s2 x2 a0 aj aP => ?_)
                  have hM9 := x2
                  obtain ⟨gn, g0, g1, g2, g3, g4, g5, g6⟩ := id hM9
                  refine V_aload_n C dX7_holiday_112 rfl ?_
                  refine V_iload C dX7_holiday_113 rfl ?_
                  refine V_callV (fr := 0) (lo := 0) (mc := 0) (ms := 0) (As := [_]) C yvX7_isHoliday w_897 dX7_holiday_115 rfl rfl (by repeat (first | with_reducible assumption | with_reducible exact mset_self _ _ _ | refine (mset_ne (by omega)).trans ?_)) (by (try simp only [mset_1]); omega) rfl rfl (Nat.le_of_ble_eq_true rfl) ⟨Nat.le_of_ble_eq_true rfl, Nat.le_of_ble_eq_true rfl⟩ ⟨Nat.le_of_ble_eq_true rfl, Nat.le_of_ble_eq_true rfl⟩ ?_
                  refine ok_X7_isHoliday hM9 e2 d2 (fun j hj => by have o := eh j hj; omega) (by omega) (fun hh2 => ?_) (fun hh2 => ?_)
                  · refine V_ifeq1 C dX7_holiday_118 (tgt := 130) (by decide) ?_
                    refine V_aload_n C dX7_holiday_121 rfl ?_
                    refine V_iload C dX7_holiday_122 rfl ?_
                    refine V_callV (fr := 0) (lo := 0) (mc := 0) (ms := 0) (As := [_]) C yvX7_takesHoliday w_909 dX7_holiday_124 rfl rfl (by repeat (first | with_reducible assumption | with_reducible exact mset_self _ _ _ | refine (mset_ne (by omega)).trans ?_)) (by (try simp only [mset_1]); omega) rfl rfl (Nat.le_of_ble_eq_true rfl) ⟨Nat.le_of_ble_eq_true rfl, Nat.le_of_ble_eq_true rfl⟩ ⟨Nat.le_of_ble_eq_true rfl, Nat.le_of_ble_eq_true rfl⟩ ?_
                    refine ok_X7_takesHoliday hM9 e2 d2 eh (nd_of hN eH) (by omega) (fun M3 t9 N9 k9 s3 x3 => ?_)
                    have hM9 := x3
                    obtain ⟨gn, g0, g1, g2, g3, g4, g5, g6⟩ := id hM9
                    refine V_goto C dX7_holiday_127 (tgt := 155) (by decide) ?_
                    refine V_aload_n C dX7_holiday_155 rfl ?_
                    refine V_get C fg_X7_7 dX7_holiday_156 (by repeat (first | with_reducible assumption | with_reducible exact mset_self _ _ _ | refine (mset_ne (by omega)).trans ?_)) (by (try simp only [mset_1]); omega) (by rfl) ?_
                    refine V_iconst C dX7_holiday_159 ?_
                    refine V_iald C dX7_holiday_160 (by repeat (first | with_reducible assumption | with_reducible exact mset_self _ _ _ | refine (mset_ne (by omega)).trans ?_)) (by (try simp only [mset_1]); omega) (by omega) (by omega) (show ((2 : Int)).toNat = 2 from rfl) ?_
                    exact V_iret C hr dX7_holiday_161 (by
                        have hd9 : hset (ho S) (sH S) (100 * t + k) = true := by rw [← eH]; exact hh2
                        have tk := k9
                        have et : (t9 : Int) = ((sH S - 1 : Nat) : Int) := by have o := tk.2.2.2.2.2; rw [if_pos hh2] at o; omega
                        have et2 : t9 = sH S - 1 := by omega
                        refine K_of (hK1 ⟨hw1, hw2⟩ (by omega) hd9 _ _ _ _ (((P7_331 s1).trans s2).trans s3) x3 a0 (aj 1 (by omega)) (aj 2 (by omega)) aP (fun i hi9 hd8 => RowOf_hol hr9 hB9 (by omega) (fun j hj => ?_) (by rw [up_s]; exact et) (fun w => ?_) (fun j hj => ?_))) (by rw [up_s]; exact et)
                        · rcases (show j < 3 ∨ 3 + sH S ≤ j by omega) with o | o
                          · rw [up_n (by omega)]; exact tk.2.2.1 j (by omega)
                          · rw [up_n (by omega)]; exact tk.2.2.1 j (by omega)
                        · rw [hs_rem hi9 hd8 hnd, ← et2, show hset (rowH (va_up N9 2 (t9 : Int))) t9 w = hset (rowH N9) t9 w from hset_congr t9 (fun j hj => up_n (by omega)), tk.2.2.2.1 w, eH]
                        · rw [up_n (by omega)]
                          obtain ⟨i8, i81, i82⟩ := tk.2.2.2.2.1 j (by omega)
                          rw [i82]; exact eh i8 i81)
                  · refine V_ifeq0 C dX7_holiday_118 (tgt := 130) (by decide) ?_
                    refine V_aload_n C dX7_holiday_130 rfl ?_
                    refine V_get C fg_X7_7 dX7_holiday_131 (by repeat (first | with_reducible assumption | with_reducible exact mset_self _ _ _ | refine (mset_ne (by omega)).trans ?_)) (by (try simp only [mset_1]); omega) (by rfl) ?_
                    refine V_iconst C dX7_holiday_134 ?_
                    refine V_aload_n C dX7_holiday_135 rfl ?_
                    refine V_get C fg_X7_7 dX7_holiday_136 (by repeat (first | with_reducible assumption | with_reducible exact mset_self _ _ _ | refine (mset_ne (by omega)).trans ?_)) (by (try simp only [mset_1]); omega) (by rfl) ?_
                    refine V_iconst C dX7_holiday_139 ?_
                    refine V_iald C dX7_holiday_140 (by repeat (first | with_reducible assumption | with_reducible exact mset_self _ _ _ | refine (mset_ne (by omega)).trans ?_)) (by (try simp only [mset_1]); omega) (by omega) (by omega) (show ((2 : Int)).toNat = 2 from rfl) ?_
                    rw [e2]
                    refine V_iadd C dX7_holiday_141 ?_
                    refine V_iload C dX7_holiday_142 rfl ?_
                    refine V_iast C dX7_holiday_144 (by repeat (first | with_reducible assumption | with_reducible exact mset_self _ _ _ | refine (mset_ne (by omega)).trans ?_)) (by (try simp only [mset_1]); omega) (by omega) (by omega) (show (3 + (sH S : Int)).toNat = 3 + sH S by omega) ?_
                    refine V_aload_n C dX7_holiday_145 rfl ?_
                    refine V_get C fg_X7_7 dX7_holiday_146 (by repeat (first | with_reducible assumption | with_reducible exact mset_self _ _ _ | refine (mset_ne (by omega)).trans ?_)) (by (try simp only [mset_1]); omega) (by rfl) ?_
                    refine V_iconst C dX7_holiday_149 ?_
                    refine V_dup2 C dX7_holiday_150 rfl rfl ?_
                    refine V_iald C dX7_holiday_151 (by repeat (first | with_reducible assumption | with_reducible exact mset_self _ _ _ | refine (mset_ne (by omega)).trans ?_)) (by (try simp only [mset_1]); omega) (by omega) (by omega) (show ((2 : Int)).toNat = 2 from rfl) ?_
                    refine V_iconst C dX7_holiday_152 ?_
                    refine V_iadd C dX7_holiday_153 ?_
                    refine V_iast C dX7_holiday_154 (by repeat (first | with_reducible assumption | with_reducible exact mset_self _ _ _ | refine (mset_ne (by omega)).trans ?_)) (by (try simp only [mset_1]); omega) (by omega) (by omega) (show ((2 : Int)).toNat = 2 from rfl) ?_
                    refine V_aload_n C dX7_holiday_155 rfl ?_
                    refine V_get C fg_X7_7 dX7_holiday_156 (by repeat (first | with_reducible assumption | with_reducible exact mset_self _ _ _ | refine (mset_ne (by omega)).trans ?_)) (by (try simp only [mset_1]); omega) (by rfl) ?_
                    refine V_iconst C dX7_holiday_159 ?_
                    refine V_iald C dX7_holiday_160 (by repeat (first | with_reducible assumption | with_reducible exact mset_self _ _ _ | refine (mset_ne (by omega)).trans ?_)) (by (try simp only [mset_1]); omega) (by omega) (by omega) (show ((2 : Int)).toNat = 2 from rfl) ?_
                    exact V_iret C hr dX7_holiday_161 (absurd (hh.symm.trans hh2) (by decide))
                · exact absurd rfl g92
            · exact absurd g74 (by decide)
          · refine V_ifne0 C dX7_holiday_62 (tgt := 69) (by decide) ?_
            refine V_iconst C dX7_holiday_65 ?_
            refine V_goto C dX7_holiday_66 (tgt := 70) (by decide) ?_
            refine V_istore C dX7_holiday_70 (by decide) ?_
            refine V_aload_n C dX7_holiday_72 rfl ?_
            refine V_iload_n C dX7_holiday_73 rfl ?_
            refine V_if_ne C dX7_holiday_74 (tgt := 81) (by decide) (by omega) (fun g74 => ?_) (fun g74 => ?_)
            · refine V_aload_n C dX7_holiday_81 rfl ?_
              refine V_get C fg_X7_7 dX7_holiday_82 (by repeat (first | with_reducible assumption | with_reducible exact mset_self _ _ _ | refine (mset_ne (by omega)).trans ?_)) (by (try simp only [mset_1]); omega) (by rfl) ?_
              refine V_iconst C dX7_holiday_85 ?_
              refine V_iald C dX7_holiday_86 (by repeat (first | with_reducible assumption | with_reducible exact mset_self _ _ _ | refine (mset_ne (by omega)).trans ?_)) (by (try simp only [mset_1]); omega) (by omega) (by omega) (show ((1 : Int)).toNat = 1 from rfl) ?_
              rw [e1]
              refine V_if_gt C dX7_holiday_87 (tgt := 95) (by decide) (by omega) (fun g87 => ?_) (fun g87 => ?_)
              · refine V_iconst C dX7_holiday_95 ?_
                refine V_goto C dX7_holiday_96 (tgt := 100) (by decide) ?_
                refine V_callV (fr := 0) (lo := 0) (mc := 0) (ms := 0) (As := [_]) C yvX7_refused w_849 dX7_holiday_100 rfl rfl (by repeat (first | with_reducible assumption | with_reducible exact mset_self _ _ _ | refine (mset_ne (by omega)).trans ?_)) (by (try simp only [mset_1]); omega) rfl rfl (Nat.le_of_ble_eq_true rfl) ⟨Nat.le_of_ble_eq_true rfl, Nat.le_of_ble_eq_true rfl⟩ ⟨Nat.le_of_ble_eq_true rfl, Nat.le_of_ble_eq_true rfl⟩ ?_
                refine ok_X7_refused hM9 (by omega) (fun _ M1 s1 x1 => ?_) (fun o => absurd o (by decide))
                have hM9 := x1
                obtain ⟨gn, g0, g1, g2, g3, g4, g5, g6⟩ := id hM9
                refine V_ifeq1 C dX7_holiday_103 (tgt := 108) (by decide) ?_
                refine V_iconst C dX7_holiday_106 ?_
                exact V_iret C hr dX7_holiday_107 (hX2 ⟨hw1, hw2⟩ (fun o => by have o1 := o.1; omega) _ (P7_331 s1) x1)
              · refine V_iload C dX7_holiday_90 rfl ?_
                refine V_if_eq C dX7_holiday_92 (tgt := 99) (by decide) (by omega) (fun g92 => ?_) (fun g92 => ?_)
                · exact absurd g92 (by decide)
                · refine V_iconst C dX7_holiday_95 ?_
                  refine V_goto C dX7_holiday_96 (tgt := 100) (by decide) ?_
                  refine V_callV (fr := 0) (lo := 0) (mc := 0) (ms := 0) (As := [_]) C yvX7_refused w_849 dX7_holiday_100 rfl rfl (by repeat (first | with_reducible assumption | with_reducible exact mset_self _ _ _ | refine (mset_ne (by omega)).trans ?_)) (by (try simp only [mset_1]); omega) rfl rfl (Nat.le_of_ble_eq_true rfl) ⟨Nat.le_of_ble_eq_true rfl, Nat.le_of_ble_eq_true rfl⟩ ⟨Nat.le_of_ble_eq_true rfl, Nat.le_of_ble_eq_true rfl⟩ ?_
                  refine ok_X7_refused hM9 (by omega) (fun _ M1 s1 x1 => ?_) (fun o => absurd o (by decide))
                  have hM9 := x1
                  obtain ⟨gn, g0, g1, g2, g3, g4, g5, g6⟩ := id hM9
                  refine V_ifeq1 C dX7_holiday_103 (tgt := 108) (by decide) ?_
                  refine V_iconst C dX7_holiday_106 ?_
                  exact V_iret C hr dX7_holiday_107 (hX2 ⟨hw1, hw2⟩ (fun o => o.2.elim (fun c => by omega) (fun c => by rw [← eH, hh] at c; exact absurd c (by decide))) _ (P7_331 s1) x1)
            · exact absurd g74 (by decide)
    · refine V_ifeq0 C dX7_holiday_20 (tgt := 27) (by decide) ?_
      refine V_iconst C dX7_holiday_27 ?_
      refine V_istore_n C dX7_holiday_28 (by decide) ?_
      refine V_iload_n C dX7_holiday_29 rfl ?_
      refine V_if_eq C dX7_holiday_30 (tgt := 42) (by decide) (by omega) (fun g30 => ?_) (fun g30 => ?_)
      · refine V_iconst C dX7_holiday_42 ?_
        refine V_istore C dX7_holiday_43 (by decide) ?_
        refine V_aload_n C dX7_holiday_45 rfl ?_
        refine V_get C fg_X7_7 dX7_holiday_46 (by repeat (first | with_reducible assumption | with_reducible exact mset_self _ _ _ | refine (mset_ne (by omega)).trans ?_)) (by (try simp only [mset_1]); omega) (by rfl) ?_
        refine V_iconst C dX7_holiday_49 ?_
        refine V_iald C dX7_holiday_50 (by repeat (first | with_reducible assumption | with_reducible exact mset_self _ _ _ | refine (mset_ne (by omega)).trans ?_)) (by (try simp only [mset_1]); omega) (by omega) (by omega) (show ((2 : Int)).toNat = 2 from rfl) ?_
        rw [e2]
        refine V_bipush C dX7_holiday_51 (by decide) ?_
        refine V_icmp_ne C dX7_holiday_53 (tgt := 69) (by decide) (by omega) (by omega) (fun g53 => ?_) (fun g53 => ?_)
        · refine V_iconst C dX7_holiday_69 ?_
          refine V_istore C dX7_holiday_70 (by decide) ?_
          refine V_aload_n C dX7_holiday_72 rfl ?_
          refine V_iload_n C dX7_holiday_73 rfl ?_
          refine V_if_ne C dX7_holiday_74 (tgt := 81) (by decide) (by omega) (fun g74 => ?_) (fun g74 => ?_)
          · exact absurd rfl g74
          · refine V_iconst C dX7_holiday_77 ?_
            refine V_goto C dX7_holiday_78 (tgt := 100) (by decide) ?_
            refine V_callV (fr := 0) (lo := 0) (mc := 0) (ms := 0) (As := [_]) C yvX7_refused w_849 dX7_holiday_100 rfl rfl (by repeat (first | with_reducible assumption | with_reducible exact mset_self _ _ _ | refine (mset_ne (by omega)).trans ?_)) (by (try simp only [mset_1]); omega) rfl rfl (Nat.le_of_ble_eq_true rfl) ⟨Nat.le_of_ble_eq_true rfl, Nat.le_of_ble_eq_true rfl⟩ ⟨Nat.le_of_ble_eq_true rfl, Nat.le_of_ble_eq_true rfl⟩ ?_
            refine ok_X7_refused hM9 (by omega) (fun _ M1 s1 x1 => ?_) (fun o => absurd o (by decide))
            have hM9 := x1
            obtain ⟨gn, g0, g1, g2, g3, g4, g5, g6⟩ := id hM9
            refine V_ifeq1 C dX7_holiday_103 (tgt := 108) (by decide) ?_
            refine V_iconst C dX7_holiday_106 ?_
            exact V_iret C hr dX7_holiday_107 (hX1 (fun o => hw2 o.2) _ (P7_331 s1) x1)
        · refine V_aload_n C dX7_holiday_56 rfl ?_
          refine V_iload C dX7_holiday_57 rfl ?_
          refine V_callV (fr := 0) (lo := 0) (mc := 0) (ms := 0) (As := [_]) C yvX7_isHoliday w_897 dX7_holiday_59 rfl rfl (by repeat (first | with_reducible assumption | with_reducible exact mset_self _ _ _ | refine (mset_ne (by omega)).trans ?_)) (by (try simp only [mset_1]); omega) rfl rfl (Nat.le_of_ble_eq_true rfl) ⟨Nat.le_of_ble_eq_true rfl, Nat.le_of_ble_eq_true rfl⟩ ⟨Nat.le_of_ble_eq_true rfl, Nat.le_of_ble_eq_true rfl⟩ ?_
          refine ok_X7_isHoliday hM9 e2 d2 (fun j hj => by have o := eh j hj; omega) (by omega) (fun hh => ?_) (fun hh => ?_)
          · refine V_ifne1 C dX7_holiday_62 (tgt := 69) (by decide) ?_
            refine V_iconst C dX7_holiday_69 ?_
            refine V_istore C dX7_holiday_70 (by decide) ?_
            refine V_aload_n C dX7_holiday_72 rfl ?_
            refine V_iload_n C dX7_holiday_73 rfl ?_
            refine V_if_ne C dX7_holiday_74 (tgt := 81) (by decide) (by omega) (fun g74 => ?_) (fun g74 => ?_)
            · exact absurd rfl g74
            · refine V_iconst C dX7_holiday_77 ?_
              refine V_goto C dX7_holiday_78 (tgt := 100) (by decide) ?_
              refine V_callV (fr := 0) (lo := 0) (mc := 0) (ms := 0) (As := [_]) C yvX7_refused w_849 dX7_holiday_100 rfl rfl (by repeat (first | with_reducible assumption | with_reducible exact mset_self _ _ _ | refine (mset_ne (by omega)).trans ?_)) (by (try simp only [mset_1]); omega) rfl rfl (Nat.le_of_ble_eq_true rfl) ⟨Nat.le_of_ble_eq_true rfl, Nat.le_of_ble_eq_true rfl⟩ ⟨Nat.le_of_ble_eq_true rfl, Nat.le_of_ble_eq_true rfl⟩ ?_
              refine ok_X7_refused hM9 (by omega) (fun _ M1 s1 x1 => ?_) (fun o => absurd o (by decide))
              have hM9 := x1
              obtain ⟨gn, g0, g1, g2, g3, g4, g5, g6⟩ := id hM9
              refine V_ifeq1 C dX7_holiday_103 (tgt := 108) (by decide) ?_
              refine V_iconst C dX7_holiday_106 ?_
              exact V_iret C hr dX7_holiday_107 (hX1 (fun o => hw2 o.2) _ (P7_331 s1) x1)
          · refine V_ifne0 C dX7_holiday_62 (tgt := 69) (by decide) ?_
            refine V_iconst C dX7_holiday_65 ?_
            refine V_goto C dX7_holiday_66 (tgt := 70) (by decide) ?_
            refine V_istore C dX7_holiday_70 (by decide) ?_
            refine V_aload_n C dX7_holiday_72 rfl ?_
            refine V_iload_n C dX7_holiday_73 rfl ?_
            refine V_if_ne C dX7_holiday_74 (tgt := 81) (by decide) (by omega) (fun g74 => ?_) (fun g74 => ?_)
            · exact absurd rfl g74
            · refine V_iconst C dX7_holiday_77 ?_
              refine V_goto C dX7_holiday_78 (tgt := 100) (by decide) ?_
              refine V_callV (fr := 0) (lo := 0) (mc := 0) (ms := 0) (As := [_]) C yvX7_refused w_849 dX7_holiday_100 rfl rfl (by repeat (first | with_reducible assumption | with_reducible exact mset_self _ _ _ | refine (mset_ne (by omega)).trans ?_)) (by (try simp only [mset_1]); omega) rfl rfl (Nat.le_of_ble_eq_true rfl) ⟨Nat.le_of_ble_eq_true rfl, Nat.le_of_ble_eq_true rfl⟩ ⟨Nat.le_of_ble_eq_true rfl, Nat.le_of_ble_eq_true rfl⟩ ?_
              refine ok_X7_refused hM9 (by omega) (fun _ M1 s1 x1 => ?_) (fun o => absurd o (by decide))
              have hM9 := x1
              obtain ⟨gn, g0, g1, g2, g3, g4, g5, g6⟩ := id hM9
              refine V_ifeq1 C dX7_holiday_103 (tgt := 108) (by decide) ?_
              refine V_iconst C dX7_holiday_106 ?_
              exact V_iret C hr dX7_holiday_107 (hX1 (fun o => hw2 o.2) _ (P7_331 s1) x1)
      · exact absurd rfl g30
  · refine V_ifeq0 C dX7_holiday_7 (tgt := 27) (by decide) ?_
    refine V_iconst C dX7_holiday_27 ?_
    refine V_istore_n C dX7_holiday_28 (by decide) ?_
    refine V_iload_n C dX7_holiday_29 rfl ?_
    refine V_if_eq C dX7_holiday_30 (tgt := 42) (by decide) (by omega) (fun g30 => ?_) (fun g30 => ?_)
    · refine V_iconst C dX7_holiday_42 ?_
      refine V_istore C dX7_holiday_43 (by decide) ?_
      refine V_aload_n C dX7_holiday_45 rfl ?_
      refine V_get C fg_X7_7 dX7_holiday_46 (by repeat (first | with_reducible assumption | with_reducible exact mset_self _ _ _ | refine (mset_ne (by omega)).trans ?_)) (by (try simp only [mset_1]); omega) (by rfl) ?_
      refine V_iconst C dX7_holiday_49 ?_
      refine V_iald C dX7_holiday_50 (by repeat (first | with_reducible assumption | with_reducible exact mset_self _ _ _ | refine (mset_ne (by omega)).trans ?_)) (by (try simp only [mset_1]); omega) (by omega) (by omega) (show ((2 : Int)).toNat = 2 from rfl) ?_
      rw [e2]
      refine V_bipush C dX7_holiday_51 (by decide) ?_
      refine V_icmp_ne C dX7_holiday_53 (tgt := 69) (by decide) (by omega) (by omega) (fun g53 => ?_) (fun g53 => ?_)
      · refine V_iconst C dX7_holiday_69 ?_
        refine V_istore C dX7_holiday_70 (by decide) ?_
        refine V_aload_n C dX7_holiday_72 rfl ?_
        refine V_iload_n C dX7_holiday_73 rfl ?_
        refine V_if_ne C dX7_holiday_74 (tgt := 81) (by decide) (by omega) (fun g74 => ?_) (fun g74 => ?_)
        · exact absurd rfl g74
        · refine V_iconst C dX7_holiday_77 ?_
          refine V_goto C dX7_holiday_78 (tgt := 100) (by decide) ?_
          refine V_callV (fr := 0) (lo := 0) (mc := 0) (ms := 0) (As := [_]) C yvX7_refused w_849 dX7_holiday_100 rfl rfl (by repeat (first | with_reducible assumption | with_reducible exact mset_self _ _ _ | refine (mset_ne (by omega)).trans ?_)) (by (try simp only [mset_1]); omega) rfl rfl (Nat.le_of_ble_eq_true rfl) ⟨Nat.le_of_ble_eq_true rfl, Nat.le_of_ble_eq_true rfl⟩ ⟨Nat.le_of_ble_eq_true rfl, Nat.le_of_ble_eq_true rfl⟩ ?_
          refine ok_X7_refused hM9 (by omega) (fun _ M1 s1 x1 => ?_) (fun o => absurd o (by decide))
          have hM9 := x1
          obtain ⟨gn, g0, g1, g2, g3, g4, g5, g6⟩ := id hM9
          refine V_ifeq1 C dX7_holiday_103 (tgt := 108) (by decide) ?_
          refine V_iconst C dX7_holiday_106 ?_
          exact V_iret C hr dX7_holiday_107 (hX1 (fun o => hw1 o.1) _ (P7_331 s1) x1)
      · refine V_aload_n C dX7_holiday_56 rfl ?_
        refine V_iload C dX7_holiday_57 rfl ?_
        refine V_callV (fr := 0) (lo := 0) (mc := 0) (ms := 0) (As := [_]) C yvX7_isHoliday w_897 dX7_holiday_59 rfl rfl (by repeat (first | with_reducible assumption | with_reducible exact mset_self _ _ _ | refine (mset_ne (by omega)).trans ?_)) (by (try simp only [mset_1]); omega) rfl rfl (Nat.le_of_ble_eq_true rfl) ⟨Nat.le_of_ble_eq_true rfl, Nat.le_of_ble_eq_true rfl⟩ ⟨Nat.le_of_ble_eq_true rfl, Nat.le_of_ble_eq_true rfl⟩ ?_
        refine ok_X7_isHoliday hM9 e2 d2 (fun j hj => by have o := eh j hj; omega) (by omega) (fun hh => ?_) (fun hh => ?_)
        · refine V_ifne1 C dX7_holiday_62 (tgt := 69) (by decide) ?_
          refine V_iconst C dX7_holiday_69 ?_
          refine V_istore C dX7_holiday_70 (by decide) ?_
          refine V_aload_n C dX7_holiday_72 rfl ?_
          refine V_iload_n C dX7_holiday_73 rfl ?_
          refine V_if_ne C dX7_holiday_74 (tgt := 81) (by decide) (by omega) (fun g74 => ?_) (fun g74 => ?_)
          · exact absurd rfl g74
          · refine V_iconst C dX7_holiday_77 ?_
            refine V_goto C dX7_holiday_78 (tgt := 100) (by decide) ?_
            refine V_callV (fr := 0) (lo := 0) (mc := 0) (ms := 0) (As := [_]) C yvX7_refused w_849 dX7_holiday_100 rfl rfl (by repeat (first | with_reducible assumption | with_reducible exact mset_self _ _ _ | refine (mset_ne (by omega)).trans ?_)) (by (try simp only [mset_1]); omega) rfl rfl (Nat.le_of_ble_eq_true rfl) ⟨Nat.le_of_ble_eq_true rfl, Nat.le_of_ble_eq_true rfl⟩ ⟨Nat.le_of_ble_eq_true rfl, Nat.le_of_ble_eq_true rfl⟩ ?_
            refine ok_X7_refused hM9 (by omega) (fun _ M1 s1 x1 => ?_) (fun o => absurd o (by decide))
            have hM9 := x1
            obtain ⟨gn, g0, g1, g2, g3, g4, g5, g6⟩ := id hM9
            refine V_ifeq1 C dX7_holiday_103 (tgt := 108) (by decide) ?_
            refine V_iconst C dX7_holiday_106 ?_
            exact V_iret C hr dX7_holiday_107 (hX1 (fun o => hw1 o.1) _ (P7_331 s1) x1)
        · refine V_ifne0 C dX7_holiday_62 (tgt := 69) (by decide) ?_
          refine V_iconst C dX7_holiday_65 ?_
          refine V_goto C dX7_holiday_66 (tgt := 70) (by decide) ?_
          refine V_istore C dX7_holiday_70 (by decide) ?_
          refine V_aload_n C dX7_holiday_72 rfl ?_
          refine V_iload_n C dX7_holiday_73 rfl ?_
          refine V_if_ne C dX7_holiday_74 (tgt := 81) (by decide) (by omega) (fun g74 => ?_) (fun g74 => ?_)
          · exact absurd rfl g74
          · refine V_iconst C dX7_holiday_77 ?_
            refine V_goto C dX7_holiday_78 (tgt := 100) (by decide) ?_
            refine V_callV (fr := 0) (lo := 0) (mc := 0) (ms := 0) (As := [_]) C yvX7_refused w_849 dX7_holiday_100 rfl rfl (by repeat (first | with_reducible assumption | with_reducible exact mset_self _ _ _ | refine (mset_ne (by omega)).trans ?_)) (by (try simp only [mset_1]); omega) rfl rfl (Nat.le_of_ble_eq_true rfl) ⟨Nat.le_of_ble_eq_true rfl, Nat.le_of_ble_eq_true rfl⟩ ⟨Nat.le_of_ble_eq_true rfl, Nat.le_of_ble_eq_true rfl⟩ ?_
            refine ok_X7_refused hM9 (by omega) (fun _ M1 s1 x1 => ?_) (fun o => absurd o (by decide))
            have hM9 := x1
            obtain ⟨gn, g0, g1, g2, g3, g4, g5, g6⟩ := id hM9
            refine V_ifeq1 C dX7_holiday_103 (tgt := 108) (by decide) ?_
            refine V_iconst C dX7_holiday_106 ?_
            exact V_iret C hr dX7_holiday_107 (hX1 (fun o => hw1 o.1) _ (P7_331 s1) x1)
    · exact absurd rfl g30

