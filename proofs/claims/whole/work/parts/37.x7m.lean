/-! pay (X7), walked -/
set_option maxHeartbeats 400000 in
set_option maxRecDepth 4000 in
theorem ok_X7_pay {l : Launch} {D : va_G} {cy : Nat → ClassId} {z : Nat} {M : Mm} {K : Option Value → Mm → Prop} {u N P A tx fr tl : Nat → Int} (hM : ModAt cy z M u N P A tx fr tl) {S : SD} (hRw : RowOf N S) (hB : SB S) (hJ : IS S) {c9 : Nat} (hc : u 0 = c9) (hc9 : c9 ≤ 4) {r : Int} (hr32 : -2147483648 ≤ r ∧ r < 2147483648) (hX1 : ¬ (0 ≤ r ∧ r < sN S) → ∀ M', Sm M M' P7 → ModAt cy z M' (va_up u 1 1) N P A tx fr tl → K (some (iv 0)) M') (hX2 : ∀ i : Nat, r = i → i < sN S → canPayB S i = false → ∀ M', Sm M M' P7 → ModAt cy z M' (va_up u 1 2) N P A tx fr tl → K (some (iv 0)) M') (hK : ∀ i : Nat, r = i → i < sN S → canPayB S i = true → ∀ M' u' P' N', Sm M M' P7 → ModAt cy z M' u' N' P' A tx fr tl → u' 0 = (if c9 < 4 then (c9 : Int) + 1 else 4) → u' 1 = 0 → u' 2 = u 2 → P' = psv P N c9 → RowOf N' (payS S i) → K (some (iv (priceT S i (RF S i 3 + 1)))) M') :
    MT l D cy z false yX7_pay (wsy yX7_pay cX7_pay 2 (some .int)) 7 155 0 0 M [.ref (z + 331), iv r] K := by
  refine MT_of (by decide) w_951 (Nat.le_of_ble_eq_true rfl) ?_
  intro p e s m args below meth c C hr hx0
  have hM9 := hM
  obtain ⟨gn, g0, g1, g2, g3, g4, g5, g6⟩ := id hM
  have hB9 := hB
  have hr9 := hRw
  have hJ9 := hJ
  obtain ⟨e0, e1, e2, eH, eh, e9, e10, e11, e12, e13, e14, e15, eR⟩ := id hRw
  obtain ⟨d0, d1, d2, d4, d5, d6, dH, dR⟩ := id hB
  have dT := hJ.2.1
  refine V_aload_n C dX7_pay_0 rfl ?_
  refine V_aload_n C dX7_pay_1 rfl ?_
  refine V_iload_n C dX7_pay_2 rfl ?_
  refine V_callV (fr := 1) (lo := 22) (mc := 0) (ms := 0) (As := [_]) C yvX7_isRight w_952 dX7_pay_3 rfl rfl (by repeat (first | with_reducible assumption | with_reducible exact mset_self _ _ _ | refine (mset_ne (by omega)).trans ?_)) (by (try simp only [mset_1]); omega) rfl rfl (Nat.le_of_ble_eq_true rfl) ⟨Nat.le_of_ble_eq_true rfl, Nat.le_of_ble_eq_true rfl⟩ ⟨Nat.le_of_ble_eq_true rfl, Nat.le_of_ble_eq_true rfl⟩ ?_
  refine ok_X7_isRight hM9 hr9 hB9 hJ9 (by omega) (fun i ia hi => ?_) (fun hw9 => ?_)
  · subst ia
    have rt := eR i hi
    obtain ⟨w0, w1, w2, w3, w4, w5, w6, w7⟩ := id rt
    have ri := hJ.2.2 i hi
    have hi10 : i < 10 := by omega
    have rb := dR i hi10
    obtain ⟨b0, b1, b2, b3, b4⟩ := id rb
    have ri0 := ri.1
    have ri1 := ri.2.1
    refine V_ifne1 C dX7_pay_6 (tgt := 13) (by decide) ?_
    refine V_aload_n C dX7_pay_13 rfl ?_
    refine V_iload_n C dX7_pay_14 rfl ?_
    refine V_callV (fr := 6) (lo := 133) (mc := 0) (ms := 0) (As := [_]) C yvX7_canPay w_956 dX7_pay_15 rfl rfl (by repeat (first | with_reducible assumption | with_reducible exact mset_self _ _ _ | refine (mset_ne (by omega)).trans ?_)) (by (try simp only [mset_1]); omega) rfl rfl (Nat.le_of_ble_eq_true rfl) ⟨Nat.le_of_ble_eq_true rfl, Nat.le_of_ble_eq_true rfl⟩ ⟨Nat.le_of_ble_eq_true rfl, Nat.le_of_ble_eq_true rfl⟩ ?_
    refine ok_X7_canPay hM9 hr9 hB9 hJ9 hi (fun hcp => ?_) (fun hcp => ?_)
    · refine V_ifeq1 C dX7_pay_18 (tgt := 25) (by decide) ?_
      refine V_iconst C dX7_pay_21 ?_
      refine V_goto C dX7_pay_22 (tgt := 26) (by decide) ?_
      refine V_callV (fr := 0) (lo := 0) (mc := 0) (ms := 0) (As := [_]) C yvX7_refused w_849 dX7_pay_26 rfl rfl (by repeat (first | with_reducible assumption | with_reducible exact mset_self _ _ _ | refine (mset_ne (by omega)).trans ?_)) (by (try simp only [mset_1]); omega) rfl rfl (Nat.le_of_ble_eq_true rfl) ⟨Nat.le_of_ble_eq_true rfl, Nat.le_of_ble_eq_true rfl⟩ ⟨Nat.le_of_ble_eq_true rfl, Nat.le_of_ble_eq_true rfl⟩ ?_
      refine ok_X7_refused hM9 (by omega) (fun o => absurd o (by decide)) (fun _ M1 s1 x1 => ?_)
      have hM9 := x1
      obtain ⟨gn, g0, g1, g2, g3, g4, g5, g6⟩ := id hM9
      refine V_ifeq0 C dX7_pay_29 (tgt := 34) (by decide) ?_
      refine V_aload_n C dX7_pay_34 rfl ?_
      refine V_callV (fr := 0) (lo := 0) (mc := 0) (ms := 0) (As := []) C yvX7_saves w_905 dX7_pay_35 rfl rfl (by repeat (first | with_reducible assumption | with_reducible exact mset_self _ _ _ | refine (mset_ne (by omega)).trans ?_)) (by (try simp only [mset_1]); omega) rfl rfl (Nat.le_of_ble_eq_true rfl) ⟨Nat.le_of_ble_eq_true rfl, Nat.le_of_ble_eq_true rfl⟩ ⟨Nat.le_of_ble_eq_true rfl, Nat.le_of_ble_eq_true rfl⟩ ?_
      refine ok_X7_saves hM9 hc hc9 (fun M2 u2 P2 s2 x2 a0 aj aP => ?_)
      have hM9 := x2
      obtain ⟨gn, g0, g1, g2, g3, g4, g5, g6⟩ := id hM9
      have h9 := canPay_3 hcp
      refine V_aload_n C dX7_pay_38 rfl ?_
      refine V_iload_n C dX7_pay_39 rfl ?_
      refine V_aload_n C dX7_pay_40 rfl ?_
      refine V_iload_n C dX7_pay_41 rfl ?_
      refine V_callV (fr := 5) (lo := 112) (mc := 0) (ms := 0) (As := [_]) C yvX7_isLate w_964 dX7_pay_42 rfl rfl (by repeat (first | with_reducible assumption | with_reducible exact mset_self _ _ _ | refine (mset_ne (by omega)).trans ?_)) (by (try simp only [mset_1]); omega) rfl rfl (Nat.le_of_ble_eq_true rfl) ⟨Nat.le_of_ble_eq_true rfl, Nat.le_of_ble_eq_true rfl⟩ ⟨Nat.le_of_ble_eq_true rfl, Nat.le_of_ble_eq_true rfl⟩ ?_
      refine ok_X7_isLate hM9 hr9 hB9 hJ9 hi (by omega) (fun hl2 => ?_) (fun hl2 => ?_)
      · refine V_callV (fr := 3) (lo := 65) (mc := 0) (ms := 0) (As := [_, _]) C yvX7_paysNext w_968 dX7_pay_45 rfl rfl (by repeat (first | with_reducible assumption | with_reducible exact mset_self _ _ _ | refine (mset_ne (by omega)).trans ?_)) (by (try simp only [mset_1]); omega) rfl rfl (Nat.le_of_ble_eq_true rfl) ⟨Nat.le_of_ble_eq_true rfl, Nat.le_of_ble_eq_true rfl⟩ ⟨Nat.le_of_ble_eq_true rfl, Nat.le_of_ble_eq_true rfl⟩ ?_
        refine ok_X7_paysNext hM9 hr9 hB9 hJ9 hi h9 (Or.inl ⟨rfl, hl2⟩) (fun M3 N3 s3 x3 r3 => ?_)
        exact V_iret C hr dX7_pay_48 (hK i rfl hi hcp _ _ _ _ (((P7_331 s1).trans s2).trans s3) x3 a0 (aj 1 (by omega)) (aj 2 (by omega)) aP r3)
      · refine V_callV (fr := 3) (lo := 65) (mc := 0) (ms := 0) (As := [_, _]) C yvX7_paysNext w_968 dX7_pay_45 rfl rfl (by repeat (first | with_reducible assumption | with_reducible exact mset_self _ _ _ | refine (mset_ne (by omega)).trans ?_)) (by (try simp only [mset_1]); omega) rfl rfl (Nat.le_of_ble_eq_true rfl) ⟨Nat.le_of_ble_eq_true rfl, Nat.le_of_ble_eq_true rfl⟩ ⟨Nat.le_of_ble_eq_true rfl, Nat.le_of_ble_eq_true rfl⟩ ?_
        refine ok_X7_paysNext hM9 hr9 hB9 hJ9 hi h9 (Or.inr ⟨rfl, hl2⟩) (fun M3 N3 s3 x3 r3 => ?_)
        exact V_iret C hr dX7_pay_48 (hK i rfl hi hcp _ _ _ _ (((P7_331 s1).trans s2).trans s3) x3 a0 (aj 1 (by omega)) (aj 2 (by omega)) aP r3)
    · refine V_ifeq0 C dX7_pay_18 (tgt := 25) (by decide) ?_
      refine V_iconst C dX7_pay_25 ?_
      refine V_callV (fr := 0) (lo := 0) (mc := 0) (ms := 0) (As := [_]) C yvX7_refused w_849 dX7_pay_26 rfl rfl (by repeat (first | with_reducible assumption | with_reducible exact mset_self _ _ _ | refine (mset_ne (by omega)).trans ?_)) (by (try simp only [mset_1]); omega) rfl rfl (Nat.le_of_ble_eq_true rfl) ⟨Nat.le_of_ble_eq_true rfl, Nat.le_of_ble_eq_true rfl⟩ ⟨Nat.le_of_ble_eq_true rfl, Nat.le_of_ble_eq_true rfl⟩ ?_
      refine ok_X7_refused hM9 (by omega) (fun _ M1 s1 x1 => ?_) (fun o => absurd o (by decide))
      have hM9 := x1
      obtain ⟨gn, g0, g1, g2, g3, g4, g5, g6⟩ := id hM9
      refine V_ifeq1 C dX7_pay_29 (tgt := 34) (by decide) ?_
      refine V_iconst C dX7_pay_32 ?_
      exact V_iret C hr dX7_pay_33 (hX2 i rfl hi hcp _ (P7_331 s1) x1)
  · refine V_ifne0 C dX7_pay_6 (tgt := 13) (by decide) ?_
    refine V_iconst C dX7_pay_9 ?_
    refine V_goto C dX7_pay_10 (tgt := 26) (by decide) ?_
    refine V_callV (fr := 0) (lo := 0) (mc := 0) (ms := 0) (As := [_]) C yvX7_refused w_849 dX7_pay_26 rfl rfl (by repeat (first | with_reducible assumption | with_reducible exact mset_self _ _ _ | refine (mset_ne (by omega)).trans ?_)) (by (try simp only [mset_1]); omega) rfl rfl (Nat.le_of_ble_eq_true rfl) ⟨Nat.le_of_ble_eq_true rfl, Nat.le_of_ble_eq_true rfl⟩ ⟨Nat.le_of_ble_eq_true rfl, Nat.le_of_ble_eq_true rfl⟩ ?_
    refine ok_X7_refused hM9 (by omega) (fun _ M1 s1 x1 => ?_) (fun o => absurd o (by decide))
    have hM9 := x1
    obtain ⟨gn, g0, g1, g2, g3, g4, g5, g6⟩ := id hM9
    refine V_ifeq1 C dX7_pay_29 (tgt := 34) (by decide) ?_
    refine V_iconst C dX7_pay_32 ?_
    exact V_iret C hr dX7_pay_33 (hX1 hw9 _ (P7_331 s1) x1)

