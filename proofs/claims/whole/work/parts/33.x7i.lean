/-! what changes the reference's row (X7), walked -/
theorem RtOf_congr {N N' : Nat → Int} {b : Nat} {F : Nat → Int} {a : Nat → Nat → Int} (h : RtOf N b F a) (hF : F 3 ≤ 19) (e : ∀ j, b ≤ j → j < b + 35 → N' j = N j) : RtOf N' b F a := by
  obtain ⟨h0, h1, h2, h3, h4, ⟨n, n1, n2, n3⟩, h6, h7⟩ := h
  refine ⟨(e _ (by omega) (by omega)).trans h0, (e _ (by omega) (by omega)).trans h1, (e _ (by omega) (by omega)).trans h2, (e _ (by omega) (by omega)).trans h3, (e _ (by omega) (by omega)).trans h4, ⟨n, n1, (e _ (by omega) (by omega)).trans n2, n3⟩, fun y y1 y2 => (e _ (by omega) (by omega)).trans (h6 y y1 y2), fun v hv => (e _ (by omega) (by omega)).trans (h7 v hv)⟩
theorem hset_congr {f g : Nat → Int} {v : Int} : ∀ n, (∀ j, j < n → f j = g j) → hset f n v = hset g n v
  | 0, _ => rfl
  | n + 1, h => by
    show (hset f n v || decide (f n = v)) = (hset g n v || decide (g n = v))
    rw [hset_congr n (fun j hj => h j (by omega)), h n (by omega)]
theorem RowOf_congr {N N' : Nat → Int} {S : SD} (h : RowOf N S) (hB : SB S) (e : ∀ j, j < 366 → N' j = N j) : RowOf N' S := by
  obtain ⟨e0, e1, e2, eH, eh, e9, e10, e11, e12, e13, e14, e15, eR⟩ := h
  have hq := hB.2.2.1
  have hn := hB.2.1
  refine ⟨(e _ (by omega)).trans e0, (e _ (by omega)).trans e1, (e _ (by omega)).trans e2, fun v => (hset_congr _ (fun j hj => e _ (by omega))).trans (eH v), fun j hj => by rw [e _ (by omega)]; exact eh j hj, (e _ (by omega)).trans e9, (e _ (by omega)).trans e10, (e _ (by omega)).trans e11, (e _ (by omega)).trans e12, (e _ (by omega)).trans e13, (e _ (by omega)).trans e14, (e _ (by omega)).trans e15, fun i hi => RtOf_congr (eR i hi) (hB.2.2.2.2.2.2.2 i (by omega)).2.2.2.1.2 (fun j h1 h2 => e j (by omega))⟩
/-- the numbers of the docket may change; the rights' and the holidays' stay -/
theorem RowOf_head {N N' : Nat → Int} {S : SD} {f : Nat → Int} (h : RowOf N S) (hB : SB S) (e : ∀ j, (1 ≤ j ∧ j ≤ 8 ∨ 16 ≤ j) → N' j = N j) (a0 : N' 0 = f 0) (a9 : N' 9 = f 4) (a10 : N' 10 = f 5) (a11 : N' 11 = f 6) (a12 : N' 12 = f 7) (a13 : N' 13 = f 1) (a14 : N' 14 = f 2) (a15 : N' 15 = f 3) : RowOf N' (setSc S f) := by
  obtain ⟨e0, e1, e2, eH, eh, e9, e10, e11, e12, e13, e14, e15, eR⟩ := h
  have hq := hB.2.2.1
  have hn := hB.2.1
  refine ⟨a0, (e _ (by omega)).trans e1, (e _ (by omega)).trans e2, fun v => (hset_congr _ (fun j (hj : j < sH S) => e _ (by omega))).trans (eH v), fun j (hj : j < sH S) => by rw [e _ (by omega)]; exact eh j hj, a9, a10, a11, a12, a13, a14, a15, fun i (hi : i < sN S) => RtOf_congr (eR i hi) (hB.2.2.2.2.2.2.2 i (by omega)).2.2.2.1.2 (fun j h1 h2 => e j (by omega))⟩
set_option maxHeartbeats 400000 in
set_option maxRecDepth 4000 in
theorem ok_X7_setFees {l : Launch} {D : va_G} {cy : Nat → ClassId} {z : Nat} {M : Mm} {K : Option Value → Mm → Prop} {u N P A tx fr tl : Nat → Int} (hM : ModAt cy z M u N P A tx fr tl) {S : SD} (hRw : RowOf N S) (hB : SB S) (hJ : IS S) {c9 : Nat} (hc : u 0 = c9) (hc9 : c9 ≤ 4) {n0 n1 n2 n3 : Int} (hn0 : -2147483648 ≤ n0 ∧ n0 < 2147483648) (hn1 : -2147483648 ≤ n1 ∧ n1 < 2147483648) (hn2 : -2147483648 ≤ n2 ∧ n2 < 2147483648) (hn3 : -2147483648 ≤ n3 ∧ n3 < 2147483648) (hX : ¬ ((0 ≤ n0 ∧ n0 ≤ 9999) ∧ (0 ≤ n1 ∧ n1 ≤ 999) ∧ (0 ≤ n2 ∧ n2 ≤ 100) ∧ 0 ≤ n3 ∧ n3 ≤ 9999) → ∀ M', Sm M M' P7 → ModAt cy z M' (va_up u 1 1) N P A tx fr tl → K (some (iv 0)) M') (hK : ((0 ≤ n0 ∧ n0 ≤ 9999) ∧ (0 ≤ n1 ∧ n1 ≤ 999) ∧ (0 ≤ n2 ∧ n2 ≤ 100) ∧ 0 ≤ n3 ∧ n3 ≤ 9999) → ∀ M' u' P' N', Sm M M' P7 → ModAt cy z M' u' N' P' A tx fr tl → u' 0 = (if c9 < 4 then (c9 : Int) + 1 else 4) → u' 1 = 0 → u' 2 = u 2 → P' = psv P N c9 → RowOf N' (setF S n0 n1 n2 n3) → K (some (iv (sc S 4))) M') :
    MT l D cy z false yX7_setFees (wsy yX7_setFees cX7_setFees 6 (some .int)) 1 22 0 0 M [.ref (z + 331), iv n0, iv n1, iv n2, iv n3] K := by
  refine MT_of (by decide) w_1014 (Nat.le_of_ble_eq_true rfl) ?_
  intro p e s m args below meth c C hr hx0
  have hM9 := hM
  obtain ⟨gn, g0, g1, g2, g3, g4, g5, g6⟩ := id hM
  have hB9 := hB
  have hr9 := hRw
  have hJ9 := hJ
  obtain ⟨e0, e1, e2, eH, eh, e9, e10, e11, e12, e13, e14, e15, eR⟩ := id hRw
  obtain ⟨d0, d1, d2, d4, d5, d6, dH, dR⟩ := id hB
  have dT := hJ.2.1
  refine V_aload_n C dX7_setFees_0 rfl ?_
  refine V_iload_n C dX7_setFees_1 rfl ?_
  refine V_iconst C dX7_setFees_2 ?_
  refine V_sipush C dX7_setFees_3 (by decide) ?_
  refine V_callS (fr := 0) (lo := 0) (mc := 0) (ms := 0) (As := [_, _, _]) C ysX7_in w_863 dX7_setFees_6 rfl rfl (Nat.le_of_ble_eq_true rfl) ⟨Nat.le_of_ble_eq_true rfl, Nat.le_of_ble_eq_true rfl⟩ ⟨Nat.le_of_ble_eq_true rfl, Nat.le_of_ble_eq_true rfl⟩ ?_
  refine ok_X7_in (by omega) (by omega) (by omega) (fun hw0 => ?_) (fun hw0 => ?_)
  · refine V_ifeq1 C dX7_setFees_9 (tgt := 49) (by decide) ?_
    refine V_iload_n C dX7_setFees_12 rfl ?_
    refine V_iconst C dX7_setFees_13 ?_
    refine V_sipush C dX7_setFees_14 (by decide) ?_
    refine V_callS (fr := 0) (lo := 0) (mc := 0) (ms := 0) (As := [_, _, _]) C ysX7_in w_863 dX7_setFees_17 rfl rfl (Nat.le_of_ble_eq_true rfl) ⟨Nat.le_of_ble_eq_true rfl, Nat.le_of_ble_eq_true rfl⟩ ⟨Nat.le_of_ble_eq_true rfl, Nat.le_of_ble_eq_true rfl⟩ ?_
    refine ok_X7_in (by omega) (by omega) (by omega) (fun hw1 => ?_) (fun hw1 => ?_)
    · refine V_ifeq1 C dX7_setFees_20 (tgt := 49) (by decide) ?_
      refine V_iload_n C dX7_setFees_23 rfl ?_
      refine V_iconst C dX7_setFees_24 ?_
      refine V_bipush C dX7_setFees_25 (by decide) ?_
      refine V_callS (fr := 0) (lo := 0) (mc := 0) (ms := 0) (As := [_, _, _]) C ysX7_in w_863 dX7_setFees_27 rfl rfl (Nat.le_of_ble_eq_true rfl) ⟨Nat.le_of_ble_eq_true rfl, Nat.le_of_ble_eq_true rfl⟩ ⟨Nat.le_of_ble_eq_true rfl, Nat.le_of_ble_eq_true rfl⟩ ?_
      refine ok_X7_in (by omega) (by omega) (by omega) (fun hw2 => ?_) (fun hw2 => ?_)
      · refine V_ifeq1 C dX7_setFees_30 (tgt := 49) (by decide) ?_
        refine V_iload C dX7_setFees_33 rfl ?_
        refine V_iconst C dX7_setFees_35 ?_
        refine V_sipush C dX7_setFees_36 (by decide) ?_
        refine V_callS (fr := 0) (lo := 0) (mc := 0) (ms := 0) (As := [_, _, _]) C ysX7_in w_863 dX7_setFees_39 rfl rfl (Nat.le_of_ble_eq_true rfl) ⟨Nat.le_of_ble_eq_true rfl, Nat.le_of_ble_eq_true rfl⟩ ⟨Nat.le_of_ble_eq_true rfl, Nat.le_of_ble_eq_true rfl⟩ ?_
        refine ok_X7_in (by omega) (by omega) (by omega) (fun hw3 => ?_) (fun hw3 => ?_)
        · refine V_ifeq1 C dX7_setFees_42 (tgt := 49) (by decide) ?_
          refine V_iconst C dX7_setFees_45 ?_
          refine V_goto C dX7_setFees_46 (tgt := 50) (by decide) ?_
          refine V_callV (fr := 0) (lo := 0) (mc := 0) (ms := 0) (As := [_]) C yvX7_refused w_849 dX7_setFees_50 rfl rfl (by repeat (first | with_reducible assumption | with_reducible exact mset_self _ _ _ | refine (mset_ne (by omega)).trans ?_)) (by (try simp only [mset_1]); omega) rfl rfl (Nat.le_of_ble_eq_true rfl) ⟨Nat.le_of_ble_eq_true rfl, Nat.le_of_ble_eq_true rfl⟩ ⟨Nat.le_of_ble_eq_true rfl, Nat.le_of_ble_eq_true rfl⟩ ?_
          refine ok_X7_refused hM9 (by omega) (fun o => absurd o (by decide)) (fun _ M1 s1 x1 => ?_)
          have hM9 := x1
          obtain ⟨gn, g0, g1, g2, g3, g4, g5, g6⟩ := id hM9
          refine V_ifeq0 C dX7_setFees_53 (tgt := 58) (by decide) ?_
          refine V_aload_n C dX7_setFees_58 rfl ?_
          refine V_callV (fr := 0) (lo := 0) (mc := 0) (ms := 0) (As := []) C yvX7_saves w_905 dX7_setFees_59 rfl rfl (by repeat (first | with_reducible assumption | with_reducible exact mset_self _ _ _ | refine (mset_ne (by omega)).trans ?_)) (by (try simp only [mset_1]); omega) rfl rfl (Nat.le_of_ble_eq_true rfl) ⟨Nat.le_of_ble_eq_true rfl, Nat.le_of_ble_eq_true rfl⟩ ⟨Nat.le_of_ble_eq_true rfl, Nat.le_of_ble_eq_true rfl⟩ ?_
          refine ok_X7_saves hM9 hc hc9 (fun M2 u2 P2 s2 x2 a0 aj aP => ?_)
          have hM9 := x2
          obtain ⟨gn, g0, g1, g2, g3, g4, g5, g6⟩ := id hM9
          refine V_aload_n C dX7_setFees_62 rfl ?_
          refine V_get C fg_X7_7 dX7_setFees_63 (by repeat (first | with_reducible assumption | with_reducible exact mset_self _ _ _ | refine (mset_ne (by omega)).trans ?_)) (by (try simp only [mset_1]); omega) (by rfl) ?_
          refine V_bipush C dX7_setFees_66 (by decide) ?_
          refine V_iald C dX7_setFees_68 (by repeat (first | with_reducible assumption | with_reducible exact mset_self _ _ _ | refine (mset_ne (by omega)).trans ?_)) (by (try simp only [mset_1]); omega) (by omega) (by omega) (show ((9 : Int)).toNat = 9 from rfl) ?_
          rw [e9]
          refine V_istore C dX7_setFees_69 (by decide) ?_
          refine V_aload_n C dX7_setFees_71 rfl ?_
          refine V_get C fg_X7_7 dX7_setFees_72 (by repeat (first | with_reducible assumption | with_reducible exact mset_self _ _ _ | refine (mset_ne (by omega)).trans ?_)) (by (try simp only [mset_1]); omega) (by rfl) ?_
          refine V_bipush C dX7_setFees_75 (by decide) ?_
          refine V_iload_n C dX7_setFees_77 rfl ?_
          refine V_iast C dX7_setFees_78 (by repeat (first | with_reducible assumption | with_reducible exact mset_self _ _ _ | refine (mset_ne (by omega)).trans ?_)) (by (try simp only [mset_1]); omega) (by omega) (by omega) (show ((9 : Int)).toNat = 9 from rfl) ?_
          refine V_aload_n C dX7_setFees_79 rfl ?_
          refine V_get C fg_X7_7 dX7_setFees_80 (by repeat (first | with_reducible assumption | with_reducible exact mset_self _ _ _ | refine (mset_ne (by omega)).trans ?_)) (by (try simp only [mset_1]); omega) (by rfl) ?_
          refine V_bipush C dX7_setFees_83 (by decide) ?_
          refine V_iload_n C dX7_setFees_85 rfl ?_
          refine V_iast C dX7_setFees_86 (by repeat (first | with_reducible assumption | with_reducible exact mset_self _ _ _ | refine (mset_ne (by omega)).trans ?_)) (by (try simp only [mset_1]); omega) (by omega) (by omega) (show ((10 : Int)).toNat = 10 from rfl) ?_
          refine V_aload_n C dX7_setFees_87 rfl ?_
          refine V_get C fg_X7_7 dX7_setFees_88 (by repeat (first | with_reducible assumption | with_reducible exact mset_self _ _ _ | refine (mset_ne (by omega)).trans ?_)) (by (try simp only [mset_1]); omega) (by rfl) ?_
          refine V_bipush C dX7_setFees_91 (by decide) ?_
          refine V_iload_n C dX7_setFees_93 rfl ?_
          refine V_iast C dX7_setFees_94 (by repeat (first | with_reducible assumption | with_reducible exact mset_self _ _ _ | refine (mset_ne (by omega)).trans ?_)) (by (try simp only [mset_1]); omega) (by omega) (by omega) (show ((11 : Int)).toNat = 11 from rfl) ?_
          refine V_aload_n C dX7_setFees_95 rfl ?_
          refine V_get C fg_X7_7 dX7_setFees_96 (by repeat (first | with_reducible assumption | with_reducible exact mset_self _ _ _ | refine (mset_ne (by omega)).trans ?_)) (by (try simp only [mset_1]); omega) (by rfl) ?_
          refine V_bipush C dX7_setFees_99 (by decide) ?_
          refine V_iload C dX7_setFees_101 rfl ?_
          refine V_iast C dX7_setFees_103 (by repeat (first | with_reducible assumption | with_reducible exact mset_self _ _ _ | refine (mset_ne (by omega)).trans ?_)) (by (try simp only [mset_1]); omega) (by omega) (by omega) (show ((12 : Int)).toNat = 12 from rfl) ?_
          refine V_iload C dX7_setFees_104 rfl ?_
          exact V_iret C hr dX7_setFees_106 (hK ⟨hw0, hw1, hw2, hw3⟩ _ _ _ _ ((((((P7_331 s1).trans s2).ts ⟨by omega, by omega⟩).ts ⟨by omega, by omega⟩).ts ⟨by omega, by omega⟩).ts ⟨by omega, by omega⟩) x2.nows.nows.nows.nows a0 (aj 1 (by omega)) (aj 2 (by omega)) aP (RowOf_head hr9 hB9 (fun j hj => by repeat (first | rfl | refine (up_n (by omega)).trans ?_)) (by repeat (first | exact e0 | exact up_s _ _ _ | refine (up_n (by omega)).trans ?_)) (by repeat (first | exact rfl | exact up_s _ _ _ | refine (up_n (by omega)).trans ?_)) (by repeat (first | exact rfl | exact up_s _ _ _ | refine (up_n (by omega)).trans ?_)) (by repeat (first | exact rfl | exact up_s _ _ _ | refine (up_n (by omega)).trans ?_)) (by repeat (first | exact rfl | exact up_s _ _ _ | refine (up_n (by omega)).trans ?_)) (by repeat (first | exact e13 | exact up_s _ _ _ | refine (up_n (by omega)).trans ?_)) (by repeat (first | exact e14 | exact up_s _ _ _ | refine (up_n (by omega)).trans ?_)) (by repeat (first | exact e15 | exact up_s _ _ _ | refine (up_n (by omega)).trans ?_))))
        · refine V_ifeq0 C dX7_setFees_42 (tgt := 49) (by decide) ?_
          refine V_iconst C dX7_setFees_49 ?_
          refine V_callV (fr := 0) (lo := 0) (mc := 0) (ms := 0) (As := [_]) C yvX7_refused w_849 dX7_setFees_50 rfl rfl (by repeat (first | with_reducible assumption | with_reducible exact mset_self _ _ _ | refine (mset_ne (by omega)).trans ?_)) (by (try simp only [mset_1]); omega) rfl rfl (Nat.le_of_ble_eq_true rfl) ⟨Nat.le_of_ble_eq_true rfl, Nat.le_of_ble_eq_true rfl⟩ ⟨Nat.le_of_ble_eq_true rfl, Nat.le_of_ble_eq_true rfl⟩ ?_
          refine ok_X7_refused hM9 (by omega) (fun _ M1 s1 x1 => ?_) (fun o => absurd o (by decide))
          have hM9 := x1
          obtain ⟨gn, g0, g1, g2, g3, g4, g5, g6⟩ := id hM9
          refine V_ifeq1 C dX7_setFees_53 (tgt := 58) (by decide) ?_
          refine V_iconst C dX7_setFees_56 ?_
          exact V_iret C hr dX7_setFees_57 (hX (fun o => hw3 o.2.2.2) _ (P7_331 s1) x1)
      · refine V_ifeq0 C dX7_setFees_30 (tgt := 49) (by decide) ?_
        refine V_iconst C dX7_setFees_49 ?_
        refine V_callV (fr := 0) (lo := 0) (mc := 0) (ms := 0) (As := [_]) C yvX7_refused w_849 dX7_setFees_50 rfl rfl (by repeat (first | with_reducible assumption | with_reducible exact mset_self _ _ _ | refine (mset_ne (by omega)).trans ?_)) (by (try simp only [mset_1]); omega) rfl rfl (Nat.le_of_ble_eq_true rfl) ⟨Nat.le_of_ble_eq_true rfl, Nat.le_of_ble_eq_true rfl⟩ ⟨Nat.le_of_ble_eq_true rfl, Nat.le_of_ble_eq_true rfl⟩ ?_
        refine ok_X7_refused hM9 (by omega) (fun _ M1 s1 x1 => ?_) (fun o => absurd o (by decide))
        have hM9 := x1
        obtain ⟨gn, g0, g1, g2, g3, g4, g5, g6⟩ := id hM9
        refine V_ifeq1 C dX7_setFees_53 (tgt := 58) (by decide) ?_
        refine V_iconst C dX7_setFees_56 ?_
        exact V_iret C hr dX7_setFees_57 (hX (fun o => hw2 o.2.2.1) _ (P7_331 s1) x1)
    · refine V_ifeq0 C dX7_setFees_20 (tgt := 49) (by decide) ?_
      refine V_iconst C dX7_setFees_49 ?_
      refine V_callV (fr := 0) (lo := 0) (mc := 0) (ms := 0) (As := [_]) C yvX7_refused w_849 dX7_setFees_50 rfl rfl (by repeat (first | with_reducible assumption | with_reducible exact mset_self _ _ _ | refine (mset_ne (by omega)).trans ?_)) (by (try simp only [mset_1]); omega) rfl rfl (Nat.le_of_ble_eq_true rfl) ⟨Nat.le_of_ble_eq_true rfl, Nat.le_of_ble_eq_true rfl⟩ ⟨Nat.le_of_ble_eq_true rfl, Nat.le_of_ble_eq_true rfl⟩ ?_
      refine ok_X7_refused hM9 (by omega) (fun _ M1 s1 x1 => ?_) (fun o => absurd o (by decide))
      have hM9 := x1
      obtain ⟨gn, g0, g1, g2, g3, g4, g5, g6⟩ := id hM9
      refine V_ifeq1 C dX7_setFees_53 (tgt := 58) (by decide) ?_
      refine V_iconst C dX7_setFees_56 ?_
      exact V_iret C hr dX7_setFees_57 (hX (fun o => hw1 o.2.1) _ (P7_331 s1) x1)
  · refine V_ifeq0 C dX7_setFees_9 (tgt := 49) (by decide) ?_
    refine V_iconst C dX7_setFees_49 ?_
    refine V_callV (fr := 0) (lo := 0) (mc := 0) (ms := 0) (As := [_]) C yvX7_refused w_849 dX7_setFees_50 rfl rfl (by repeat (first | with_reducible assumption | with_reducible exact mset_self _ _ _ | refine (mset_ne (by omega)).trans ?_)) (by (try simp only [mset_1]); omega) rfl rfl (Nat.le_of_ble_eq_true rfl) ⟨Nat.le_of_ble_eq_true rfl, Nat.le_of_ble_eq_true rfl⟩ ⟨Nat.le_of_ble_eq_true rfl, Nat.le_of_ble_eq_true rfl⟩ ?_
    refine ok_X7_refused hM9 (by omega) (fun _ M1 s1 x1 => ?_) (fun o => absurd o (by decide))
    have hM9 := x1
    obtain ⟨gn, g0, g1, g2, g3, g4, g5, g6⟩ := id hM9
    refine V_ifeq1 C dX7_setFees_53 (tgt := 58) (by decide) ?_
    refine V_iconst C dX7_setFees_56 ?_
    exact V_iret C hr dX7_setFees_57 (hX (fun o => hw0 o.1) _ (P7_331 s1) x1)

