/-! the share (X7), walked -/
set_option maxHeartbeats 1000000 in
set_option maxRecDepth 4000 in
theorem ok_X7_share {l : Launch} {D : va_G} {cy : Nat → ClassId} {z : Nat} {M : Mm} {K : Option Value → Mm → Prop} {u N P A tx fr tl : Nat → Int} (hM : ModAt cy z M u N P A tx fr tl) {S : SD} (hRw : RowOf N S) (hB : SB S) (hJ : IS S) {r : Int} (hr32 : -2147483648 ≤ r ∧ r < 2147483648) (hX1 : ¬ (0 ≤ r ∧ r < sN S) → ∀ M' u' fr' tl', Sm M M' P7 → ModAt cy z M' u' N P A tx fr' tl' → u' 0 = u 0 → u' 1 = 1 → u' 2 = u 2 → K (some (.double (FP.dconst0))) M') (hK : ∀ i : Nat, r = i → i < sN S → ∀ M' u' fr' tl', Sm M M' P7 → ModAt cy z M' u' N P A tx fr' tl' → u' 0 = u 0 → u' 1 = 0 → u' 2 = u 2 → K (some (.double (shT S i))) M') :
    MT l D cy z false yX7_share (wsy yX7_share cX7_share 5 (some .double)) 7 156 0 0 M [.ref (z + 331), iv r] K := by
  refine MT_of (by decide) w_1100 (Nat.le_of_ble_eq_true rfl) ?_
  intro p e s m args below meth c C hr hx0
  have hM9 := hM
  obtain ⟨gn, g0, g1, g2, g3, g4, g5, g6⟩ := id hM
  have hB9 := hB
  have hr9 := hRw
  have hJ9 := hJ
  obtain ⟨e0, e1, e2, eH, eh, e9, e10, e11, e12, e13, e14, e15, eR⟩ := id hRw
  obtain ⟨d0, d1, d2, d4, d5, d6, dH, dR⟩ := id hB
  have dT := hJ.2.1
  refine V_aload_n C dX7_share_0 rfl ?_
  refine V_aload_n C dX7_share_1 rfl ?_
  refine V_iload_n C dX7_share_2 rfl ?_
  refine V_callV (fr := 1) (lo := 22) (mc := 0) (ms := 0) (As := [_]) C yvX7_isRight w_952 dX7_share_3 rfl rfl (by repeat (first | with_reducible assumption | with_reducible exact mset_self _ _ _ | refine (mset_ne (by omega)).trans ?_)) (by (try simp only [mset_1]); omega) rfl rfl (Nat.le_of_ble_eq_true rfl) ⟨Nat.le_of_ble_eq_true rfl, Nat.le_of_ble_eq_true rfl⟩ ⟨Nat.le_of_ble_eq_true rfl, Nat.le_of_ble_eq_true rfl⟩ ?_
  refine ok_X7_isRight hM9 hr9 hB9 hJ9 (by omega) (fun i ia hi => ?_) (fun hw9 => ?_)
  · subst ia
    have rt := eR i hi
    obtain ⟨w0, w1, w2, w3, w4, w5, w6, w7⟩ := id rt
    have ri := hJ.2.2 i hi
    have hi10 : i < 10 := by omega
    have rb := dR i hi10
    obtain ⟨b0, b1, b2, b3, b4⟩ := id rb
    have ri0 := ri.1
    have ri1 := ri.2.1
    refine V_ifeq1 C dX7_share_6 (tgt := 13) (by decide) ?_
    refine V_iconst C dX7_share_9 ?_
    refine V_goto C dX7_share_10 (tgt := 14) (by decide) ?_
    refine V_callV (fr := 0) (lo := 0) (mc := 0) (ms := 0) (As := [_]) C yvX7_refused w_849 dX7_share_14 rfl rfl (by repeat (first | with_reducible assumption | with_reducible exact mset_self _ _ _ | refine (mset_ne (by omega)).trans ?_)) (by (try simp only [mset_1]); omega) rfl rfl (Nat.le_of_ble_eq_true rfl) ⟨Nat.le_of_ble_eq_true rfl, Nat.le_of_ble_eq_true rfl⟩ ⟨Nat.le_of_ble_eq_true rfl, Nat.le_of_ble_eq_true rfl⟩ ?_
    refine ok_X7_refused hM9 (by omega) (fun o => absurd o (by decide)) (fun _ M1 s1 x1 => ?_)
    have hM9 := x1
    obtain ⟨gn, g0, g1, g2, g3, g4, g5, g6⟩ := id hM9
    refine V_ifeq0 C dX7_share_17 (tgt := 22) (by decide) ?_
    have enr : RF S i 0 ≤ (enT (RF S i) (sc S 0)) ∧ (enT (RF S i) (sc S 0)) ≤ sc S 0 ∧ (enT (RF S i) (sc S 0)) ≤ RF S i 1 := by
      have hl9 := later_lt (d := RF S i 0) (n := 0) (k := 240) ri0.1 (by omega)
      rw [later_0 ri0.1] at hl9
      have r3 := ri.2.2.1
      unfold enT; split <;> omega
    have yr8 := yv_rng (g := RA S i 0) (e := -1) (y := RF S i 3 + 1) (b4 0) (by omega)
    have opR : -1 ≤ opT (RF S i) (RA S i) (sc S 0) ∧ opT (RF S i) (RA S i) (sc S 0) ≤ 40000 := by unfold opT; split <;> omega
    refine V_aload_n C dX7_share_22 rfl ?_
    refine V_iload_n C dX7_share_23 rfl ?_
    refine V_callV (fr := 4) (lo := 90) (mc := 0) (ms := 0) (As := [_]) C yvX7_endOf w_992 dX7_share_24 rfl rfl (by repeat (first | with_reducible assumption | with_reducible exact mset_self _ _ _ | refine (mset_ne (by omega)).trans ?_)) (by (try simp only [mset_1]); omega) rfl rfl (Nat.le_of_ble_eq_true rfl) ⟨Nat.le_of_ble_eq_true rfl, Nat.le_of_ble_eq_true rfl⟩ ⟨Nat.le_of_ble_eq_true rfl, Nat.le_of_ble_eq_true rfl⟩ ?_
    refine ok_X7_endOf hM9 hr9 hB9 hJ9 hi ?_
    refine V_aload_n C dX7_share_27 rfl ?_
    refine V_get C fg_X7_7 dX7_share_28 (by repeat (first | with_reducible assumption | with_reducible exact mset_self _ _ _ | refine (mset_ne (by omega)).trans ?_)) (by (try simp only [mset_1]); omega) (by rfl) ?_
    refine V_iconst C dX7_share_31 ?_
    refine V_iald C dX7_share_32 (by repeat (first | with_reducible assumption | with_reducible exact mset_self _ _ _ | refine (mset_ne (by omega)).trans ?_)) (by (try simp only [mset_1]); omega) (by omega) (by omega) (show ((0 : Int)).toNat = 0 from rfl) ?_
    rw [e0]
    refine V_icmp_ge C dX7_share_33 (tgt := 44) (by decide) (by omega) (by omega) (fun g33 => ?_) (fun g33 => ?_)
    · refine V_aload_n C dX7_share_44 rfl ?_
      refine V_get C fg_X7_7 dX7_share_45 (by repeat (first | with_reducible assumption | with_reducible exact mset_self _ _ _ | refine (mset_ne (by omega)).trans ?_)) (by (try simp only [mset_1]); omega) (by rfl) ?_
      refine V_iconst C dX7_share_48 ?_
      refine V_iald C dX7_share_49 (by repeat (first | with_reducible assumption | with_reducible exact mset_self _ _ _ | refine (mset_ne (by omega)).trans ?_)) (by (try simp only [mset_1]); omega) (by omega) (by omega) (show ((0 : Int)).toNat = 0 from rfl) ?_
      rw [e0]
      have ee : sc S 0 = (enT (RF S i) (sc S 0)) := by unfold enT; rw [if_neg (by omega)]
      rw [ee]
      refine V_istore_n C dX7_share_50 (by decide) ?_
      refine V_aload_n C dX7_share_51 rfl ?_
      refine V_iload_n C dX7_share_52 rfl ?_
      refine V_callV (fr := 6) (lo := 133) (mc := 0) (ms := 0) (As := [_]) C yvX7_laysGaps w_1042 dX7_share_53 rfl rfl (by repeat (first | with_reducible assumption | with_reducible exact mset_self _ _ _ | refine (mset_ne (by omega)).trans ?_)) (by (try simp only [mset_1]); omega) rfl rfl (Nat.le_of_ble_eq_true rfl) ⟨Nat.le_of_ble_eq_true rfl, Nat.le_of_ble_eq_true rfl⟩ ⟨Nat.le_of_ble_eq_true rfl, Nat.le_of_ble_eq_true rfl⟩ ?_
      refine ok_X7_laysGaps hM9 hr9 hB9 hJ9 hi (fun M2 s2 x2 => ?_)
      obtain ⟨gn2, g0, g1, g2, g3, g4, g5, g6⟩ := id x2
      refine V_iconst C dX7_share_56 ?_
      refine V_istore_n C dX7_share_57 (by decide) ?_
      refine V_aload_n C dX7_share_58 rfl ?_
      refine V_iload_n C dX7_share_59 rfl ?_
      refine V_iconst C dX7_share_60 ?_
      refine V_callV (fr := 1) (lo := 20) (mc := 0) (ms := 0) (As := [_, _]) C yvX7_of w_940 dX7_share_61 rfl rfl (by repeat (first | with_reducible assumption | with_reducible exact mset_self _ _ _ | refine (mset_ne (by omega)).trans ?_)) (by (try simp only [mset_1]); omega) rfl rfl (Nat.le_of_ble_eq_true rfl) ⟨Nat.le_of_ble_eq_true rfl, Nat.le_of_ble_eq_true rfl⟩ ⟨Nat.le_of_ble_eq_true rfl, Nat.le_of_ble_eq_true rfl⟩ ?_
      refine ok_X7_of x2 (j := 16 + 35 * i) (by omega) (by omega) (by omega) w0 ?_
      refine V_istore C dX7_share_64 (by decide) ?_
      have loop : ∀ (n : Nat) (k9 : Nat), (k9 ≤ ((enT (RF S i) (sc S 0)) - RF S i 0 + 1).toNat) → ((enT (RF S i) (sc S 0)) - RF S i 0 + 1).toNat - k9 < n → V p l e { frames := 7, cells := 0, slots := 0, locals := 156 } s m args below meth c D z 5 (MQ below (qc_ D z K) args s 0 0 (fun q => z ≤ q)) 0 0 M2 66 [(0, .ref (z + 331)), (1, iv (i : Int)), (2, iv (enT (RF S i) (sc S 0))), (3, iv (((cntN (fun k => decide (RF S i 0 + (k : Int) ≤ opT (RF S i) (RA S i) (sc S 0)) && !gapB (RA S i) (RF S i 0 + (k : Int)) (RF S i 3).toNat) k9 : Nat) : Int))), (4, iv (RF S i 0 + (k9 : Int)))] [] := by
        intro n
        induction n with
        | zero => intro k9 hi0 hfu; exact absurd hfu (Nat.not_lt_zero _)
        | succ n ih =>
          intro k9 hi0 hfu
          have cl9 := cntN_le (fun k => decide (RF S i 0 + (k : Int) ≤ opT (RF S i) (RA S i) (sc S 0)) && !gapB (RA S i) (RF S i 0 + (k : Int)) (RF S i 3).toNat) k9
          refine V_iload C dX7_share_66 rfl ?_
          refine V_iload_n C dX7_share_68 rfl ?_
          refine V_icmp_gt C dX7_share_69 (tgt := 95) (by decide) (by omega) (by omega) (fun g69 => ?_) (fun g69 => ?_)
          · refine V_iload_n C dX7_share_95 rfl ?_
            refine V_i2d C dX7_share_96 ?_
            refine V_iload_n C dX7_share_97 rfl ?_
            refine V_aload_n C dX7_share_98 rfl ?_
            refine V_iload_n C dX7_share_99 rfl ?_
            refine V_iconst C dX7_share_100 ?_
            refine V_callV (fr := 1) (lo := 20) (mc := 0) (ms := 0) (As := [_, _]) C yvX7_of w_940 dX7_share_101 rfl rfl (by repeat (first | with_reducible assumption | with_reducible exact mset_self _ _ _ | refine (mset_ne (by omega)).trans ?_)) (by (try simp only [mset_1]); omega) rfl rfl (Nat.le_of_ble_eq_true rfl) ⟨Nat.le_of_ble_eq_true rfl, Nat.le_of_ble_eq_true rfl⟩ ⟨Nat.le_of_ble_eq_true rfl, Nat.le_of_ble_eq_true rfl⟩ ?_
            refine ok_X7_of x2 (j := 16 + 35 * i) (by omega) (by omega) (by omega) w0 ?_
            refine V_isub C dX7_share_104 ?_
            refine V_iconst C dX7_share_105 ?_
            refine V_iadd C dX7_share_106 ?_
            refine V_i2d C dX7_share_107 ?_
            refine V_dshr C (by omega) dX7_share_108 ?_
            exact V_dret C hr dX7_share_109 (by have o := hK i rfl hi _ _ _ _ ((P7_331 s1).trans s2) x2 rfl rfl rfl; unfold shT at o; rw [if_neg (show ¬ livT (RF S i) (sc S 0) < 1 by show ¬ (enT (RF S i) (sc S 0) - RF S i 0 + 1 < 1); omega), ← share_cnt ri d2 b3 (by omega)] at o; rw [show k9 = ((enT (RF S i) (sc S 0)) - RF S i 0 + 1).toNat by omega]; exact o)
          · refine V_iload_n C dX7_share_72 rfl ?_
            refine V_aload_n C dX7_share_73 rfl ?_
            refine V_iload C dX7_share_74 rfl ?_
            have cv9 : crB (opT (RF S i) (RA S i) (sc S 0)) (gpN (RA S i) fr tl (RF S i 3).toNat).2.1 (gpN (RA S i) fr tl (RF S i 3).toNat).2.2 (RF S i 0 + (k9 : Int)) (gpN (RA S i) fr tl (RF S i 3).toNat).1 = (decide (RF S i 0 + (k9 : Int) ≤ opT (RF S i) (RA S i) (sc S 0)) && !gapB (RA S i) (RF S i 0 + (k9 : Int)) (RF S i 3).toNat) := by rw [crB_gp, RI.gap_pay ri d2 b3.2]
            refine V_callV (fr := 0) (lo := 0) (mc := 0) (ms := 0) (As := [_]) C yvX7_isCovered w_1046 dX7_share_76 rfl rfl (by repeat (first | with_reducible assumption | with_reducible exact mset_self _ _ _ | refine (mset_ne (by omega)).trans ?_)) (by (try simp only [mset_1]); omega) rfl rfl (Nat.le_of_ble_eq_true rfl) ⟨Nat.le_of_ble_eq_true rfl, Nat.le_of_ble_eq_true rfl⟩ ⟨Nat.le_of_ble_eq_true rfl, Nat.le_of_ble_eq_true rfl⟩ ?_
            refine ok_X7_isCovered x2 rfl (by have := gpN_le (RA S i) fr tl (RF S i 3).toNat; omega) opR (fun k hk => gpN_rng b4 _ k hk) (by omega) (fun hcv => ?_) (fun hcv => ?_)
            · refine V_ifeq1 C dX7_share_79 (tgt := 86) (by decide) ?_
              refine V_iconst C dX7_share_82 ?_
              refine V_goto C dX7_share_83 (tgt := 87) (by decide) ?_
              refine V_iadd C dX7_share_87 ?_
              refine V_istore_n C dX7_share_88 (by decide) ?_
              refine V_iinc C dX7_share_89 rfl (by decide) ?_
              refine V_goto C dX7_share_92 (tgt := 66) (by decide) ?_
              refine V_lv [(0, .ref (z + 331)), (1, iv (i : Int)), (2, iv (enT (RF S i) (sc S 0))), (3, iv (((cntN (fun k => decide (RF S i 0 + (k : Int) ≤ opT (RF S i) (RA S i) (sc S 0)) && !gapB (RA S i) (RF S i 0 + (k : Int)) (RF S i 3).toNat) (k9 + 1) : Nat) : Int))), (4, iv (RF S i 0 + ((k9 + 1 : Nat) : Int)))] (List.forall_mem_cons.mpr ⟨(by first | rfl | exact congrArg (fun t => some (iv t)) (by have e8 := cntN_t (p := (fun k => decide (RF S i 0 + (k : Int) ≤ opT (RF S i) (RA S i) (sc S 0)) && !gapB (RA S i) (RF S i 0 + (k : Int)) (RF S i 3).toNat)) (n := k9) (cv9.symm.trans hcv); push_cast; omega)), (List.forall_mem_cons.mpr ⟨(by first | rfl | exact congrArg (fun t => some (iv t)) (by have e8 := cntN_t (p := (fun k => decide (RF S i 0 + (k : Int) ≤ opT (RF S i) (RA S i) (sc S 0)) && !gapB (RA S i) (RF S i 0 + (k : Int)) (RF S i 3).toNat)) (n := k9) (cv9.symm.trans hcv); push_cast; omega)), (List.forall_mem_cons.mpr ⟨(by first | rfl | exact congrArg (fun t => some (iv t)) (by have e8 := cntN_t (p := (fun k => decide (RF S i 0 + (k : Int) ≤ opT (RF S i) (RA S i) (sc S 0)) && !gapB (RA S i) (RF S i 0 + (k : Int)) (RF S i 3).toNat)) (n := k9) (cv9.symm.trans hcv); push_cast; omega)), (List.forall_mem_cons.mpr ⟨(by first | rfl | exact congrArg (fun t => some (iv t)) (by have e8 := cntN_t (p := (fun k => decide (RF S i 0 + (k : Int) ≤ opT (RF S i) (RA S i) (sc S 0)) && !gapB (RA S i) (RF S i 0 + (k : Int)) (RF S i 3).toNat)) (n := k9) (cv9.symm.trans hcv); push_cast; omega)), (List.forall_mem_cons.mpr ⟨(by first | rfl | exact congrArg (fun t => some (iv t)) (by have e8 := cntN_t (p := (fun k => decide (RF S i 0 + (k : Int) ≤ opT (RF S i) (RA S i) (sc S 0)) && !gapB (RA S i) (RF S i 0 + (k : Int)) (RF S i 3).toNat)) (n := k9) (cv9.symm.trans hcv); push_cast; omega)), (fun _ h => nomatch h)⟩)⟩)⟩)⟩)⟩) ?_
              exact ih (k9 + 1) (by omega) (by omega)
            · refine V_ifeq0 C dX7_share_79 (tgt := 86) (by decide) ?_
              refine V_iconst C dX7_share_86 ?_
              refine V_iadd C dX7_share_87 ?_
              refine V_istore_n C dX7_share_88 (by decide) ?_
              refine V_iinc C dX7_share_89 rfl (by decide) ?_
              refine V_goto C dX7_share_92 (tgt := 66) (by decide) ?_
              refine V_lv [(0, .ref (z + 331)), (1, iv (i : Int)), (2, iv (enT (RF S i) (sc S 0))), (3, iv (((cntN (fun k => decide (RF S i 0 + (k : Int) ≤ opT (RF S i) (RA S i) (sc S 0)) && !gapB (RA S i) (RF S i 0 + (k : Int)) (RF S i 3).toNat) (k9 + 1) : Nat) : Int))), (4, iv (RF S i 0 + ((k9 + 1 : Nat) : Int)))] (List.forall_mem_cons.mpr ⟨(by first | rfl | exact congrArg (fun t => some (iv t)) (by have e8 := cntN_f (p := (fun k => decide (RF S i 0 + (k : Int) ≤ opT (RF S i) (RA S i) (sc S 0)) && !gapB (RA S i) (RF S i 0 + (k : Int)) (RF S i 3).toNat)) (n := k9) (cv9.symm.trans hcv); push_cast; omega)), (List.forall_mem_cons.mpr ⟨(by first | rfl | exact congrArg (fun t => some (iv t)) (by have e8 := cntN_f (p := (fun k => decide (RF S i 0 + (k : Int) ≤ opT (RF S i) (RA S i) (sc S 0)) && !gapB (RA S i) (RF S i 0 + (k : Int)) (RF S i 3).toNat)) (n := k9) (cv9.symm.trans hcv); push_cast; omega)), (List.forall_mem_cons.mpr ⟨(by first | rfl | exact congrArg (fun t => some (iv t)) (by have e8 := cntN_f (p := (fun k => decide (RF S i 0 + (k : Int) ≤ opT (RF S i) (RA S i) (sc S 0)) && !gapB (RA S i) (RF S i 0 + (k : Int)) (RF S i 3).toNat)) (n := k9) (cv9.symm.trans hcv); push_cast; omega)), (List.forall_mem_cons.mpr ⟨(by first | rfl | exact congrArg (fun t => some (iv t)) (by have e8 := cntN_f (p := (fun k => decide (RF S i 0 + (k : Int) ≤ opT (RF S i) (RA S i) (sc S 0)) && !gapB (RA S i) (RF S i 0 + (k : Int)) (RF S i 3).toNat)) (n := k9) (cv9.symm.trans hcv); push_cast; omega)), (List.forall_mem_cons.mpr ⟨(by first | rfl | exact congrArg (fun t => some (iv t)) (by have e8 := cntN_f (p := (fun k => decide (RF S i 0 + (k : Int) ≤ opT (RF S i) (RA S i) (sc S 0)) && !gapB (RA S i) (RF S i 0 + (k : Int)) (RF S i 3).toNat)) (n := k9) (cv9.symm.trans hcv); push_cast; omega)), (fun _ h => nomatch h)⟩)⟩)⟩)⟩)⟩) ?_
              exact ih (k9 + 1) (by omega) (by omega)
      refine V_lv [(0, .ref (z + 331)), (1, iv (i : Int)), (2, iv (enT (RF S i) (sc S 0))), (3, iv (((cntN (fun k => decide (RF S i 0 + (k : Int) ≤ opT (RF S i) (RA S i) (sc S 0)) && !gapB (RA S i) (RF S i 0 + (k : Int)) (RF S i 3).toNat) 0 : Nat) : Int))), (4, iv (RF S i 0 + ((0 : Nat) : Int)))] (List.forall_mem_cons.mpr ⟨(by first | rfl | exact congrArg (fun t => some (iv t)) (by omega)), (List.forall_mem_cons.mpr ⟨(by first | rfl | exact congrArg (fun t => some (iv t)) (by omega)), (List.forall_mem_cons.mpr ⟨(by first | rfl | exact congrArg (fun t => some (iv t)) (by omega)), (List.forall_mem_cons.mpr ⟨(by first | rfl | exact congrArg (fun t => some (iv t)) (by omega)), (List.forall_mem_cons.mpr ⟨(by first | rfl | exact congrArg (fun t => some (iv t)) (by omega)), (fun _ h => nomatch h)⟩)⟩)⟩)⟩)⟩) ?_
      exact loop (((enT (RF S i) (sc S 0)) - RF S i 0 + 1).toNat + 1) 0 (by omega) (by omega)
    · refine V_aload_n C dX7_share_36 rfl ?_
      refine V_iload_n C dX7_share_37 rfl ?_
      refine V_callV (fr := 4) (lo := 90) (mc := 0) (ms := 0) (As := [_]) C yvX7_endOf w_992 dX7_share_38 rfl rfl (by repeat (first | with_reducible assumption | with_reducible exact mset_self _ _ _ | refine (mset_ne (by omega)).trans ?_)) (by (try simp only [mset_1]); omega) rfl rfl (Nat.le_of_ble_eq_true rfl) ⟨Nat.le_of_ble_eq_true rfl, Nat.le_of_ble_eq_true rfl⟩ ⟨Nat.le_of_ble_eq_true rfl, Nat.le_of_ble_eq_true rfl⟩ ?_
      refine ok_X7_endOf hM9 hr9 hB9 hJ9 hi ?_
      refine V_goto C dX7_share_41 (tgt := 50) (by decide) ?_
      have ee : RF S i 1 = (enT (RF S i) (sc S 0)) := by unfold enT; rw [if_pos (by omega)]
      rw [ee]
      refine V_istore_n C dX7_share_50 (by decide) ?_
      refine V_aload_n C dX7_share_51 rfl ?_
      refine V_iload_n C dX7_share_52 rfl ?_
      refine V_callV (fr := 6) (lo := 133) (mc := 0) (ms := 0) (As := [_]) C yvX7_laysGaps w_1042 dX7_share_53 rfl rfl (by repeat (first | with_reducible assumption | with_reducible exact mset_self _ _ _ | refine (mset_ne (by omega)).trans ?_)) (by (try simp only [mset_1]); omega) rfl rfl (Nat.le_of_ble_eq_true rfl) ⟨Nat.le_of_ble_eq_true rfl, Nat.le_of_ble_eq_true rfl⟩ ⟨Nat.le_of_ble_eq_true rfl, Nat.le_of_ble_eq_true rfl⟩ ?_
      refine ok_X7_laysGaps hM9 hr9 hB9 hJ9 hi (fun M2 s2 x2 => ?_)
      obtain ⟨gn2, g0, g1, g2, g3, g4, g5, g6⟩ := id x2
      refine V_iconst C dX7_share_56 ?_
      refine V_istore_n C dX7_share_57 (by decide) ?_
      refine V_aload_n C dX7_share_58 rfl ?_
      refine V_iload_n C dX7_share_59 rfl ?_
      refine V_iconst C dX7_share_60 ?_
      refine V_callV (fr := 1) (lo := 20) (mc := 0) (ms := 0) (As := [_, _]) C yvX7_of w_940 dX7_share_61 rfl rfl (by repeat (first | with_reducible assumption | with_reducible exact mset_self _ _ _ | refine (mset_ne (by omega)).trans ?_)) (by (try simp only [mset_1]); omega) rfl rfl (Nat.le_of_ble_eq_true rfl) ⟨Nat.le_of_ble_eq_true rfl, Nat.le_of_ble_eq_true rfl⟩ ⟨Nat.le_of_ble_eq_true rfl, Nat.le_of_ble_eq_true rfl⟩ ?_
      refine ok_X7_of x2 (j := 16 + 35 * i) (by omega) (by omega) (by omega) w0 ?_
      refine V_istore C dX7_share_64 (by decide) ?_
      have loop : ∀ (n : Nat) (k9 : Nat), (k9 ≤ ((enT (RF S i) (sc S 0)) - RF S i 0 + 1).toNat) → ((enT (RF S i) (sc S 0)) - RF S i 0 + 1).toNat - k9 < n → V p l e { frames := 7, cells := 0, slots := 0, locals := 156 } s m args below meth c D z 5 (MQ below (qc_ D z K) args s 0 0 (fun q => z ≤ q)) 0 0 M2 66 [(0, .ref (z + 331)), (1, iv (i : Int)), (2, iv (enT (RF S i) (sc S 0))), (3, iv (((cntN (fun k => decide (RF S i 0 + (k : Int) ≤ opT (RF S i) (RA S i) (sc S 0)) && !gapB (RA S i) (RF S i 0 + (k : Int)) (RF S i 3).toNat) k9 : Nat) : Int))), (4, iv (RF S i 0 + (k9 : Int)))] [] := by
        intro n
        induction n with
        | zero => intro k9 hi0 hfu; exact absurd hfu (Nat.not_lt_zero _)
        | succ n ih =>
          intro k9 hi0 hfu
          have cl9 := cntN_le (fun k => decide (RF S i 0 + (k : Int) ≤ opT (RF S i) (RA S i) (sc S 0)) && !gapB (RA S i) (RF S i 0 + (k : Int)) (RF S i 3).toNat) k9
          refine V_iload C dX7_share_66 rfl ?_
          refine V_iload_n C dX7_share_68 rfl ?_
          refine V_icmp_gt C dX7_share_69 (tgt := 95) (by decide) (by omega) (by omega) (fun g69 => ?_) (fun g69 => ?_)
          · refine V_iload_n C dX7_share_95 rfl ?_
            refine V_i2d C dX7_share_96 ?_
            refine V_iload_n C dX7_share_97 rfl ?_
            refine V_aload_n C dX7_share_98 rfl ?_
            refine V_iload_n C dX7_share_99 rfl ?_
            refine V_iconst C dX7_share_100 ?_
            refine V_callV (fr := 1) (lo := 20) (mc := 0) (ms := 0) (As := [_, _]) C yvX7_of w_940 dX7_share_101 rfl rfl (by repeat (first | with_reducible assumption | with_reducible exact mset_self _ _ _ | refine (mset_ne (by omega)).trans ?_)) (by (try simp only [mset_1]); omega) rfl rfl (Nat.le_of_ble_eq_true rfl) ⟨Nat.le_of_ble_eq_true rfl, Nat.le_of_ble_eq_true rfl⟩ ⟨Nat.le_of_ble_eq_true rfl, Nat.le_of_ble_eq_true rfl⟩ ?_
            refine ok_X7_of x2 (j := 16 + 35 * i) (by omega) (by omega) (by omega) w0 ?_
            refine V_isub C dX7_share_104 ?_
            refine V_iconst C dX7_share_105 ?_
            refine V_iadd C dX7_share_106 ?_
            refine V_i2d C dX7_share_107 ?_
            refine V_dshr C (by omega) dX7_share_108 ?_
            exact V_dret C hr dX7_share_109 (by have o := hK i rfl hi _ _ _ _ ((P7_331 s1).trans s2) x2 rfl rfl rfl; unfold shT at o; rw [if_neg (show ¬ livT (RF S i) (sc S 0) < 1 by show ¬ (enT (RF S i) (sc S 0) - RF S i 0 + 1 < 1); omega), ← share_cnt ri d2 b3 (by omega)] at o; rw [show k9 = ((enT (RF S i) (sc S 0)) - RF S i 0 + 1).toNat by omega]; exact o)
          · refine V_iload_n C dX7_share_72 rfl ?_
            refine V_aload_n C dX7_share_73 rfl ?_
            refine V_iload C dX7_share_74 rfl ?_
            have cv9 : crB (opT (RF S i) (RA S i) (sc S 0)) (gpN (RA S i) fr tl (RF S i 3).toNat).2.1 (gpN (RA S i) fr tl (RF S i 3).toNat).2.2 (RF S i 0 + (k9 : Int)) (gpN (RA S i) fr tl (RF S i 3).toNat).1 = (decide (RF S i 0 + (k9 : Int) ≤ opT (RF S i) (RA S i) (sc S 0)) && !gapB (RA S i) (RF S i 0 + (k9 : Int)) (RF S i 3).toNat) := by rw [crB_gp, RI.gap_pay ri d2 b3.2]
            refine V_callV (fr := 0) (lo := 0) (mc := 0) (ms := 0) (As := [_]) C yvX7_isCovered w_1046 dX7_share_76 rfl rfl (by repeat (first | with_reducible assumption | with_reducible exact mset_self _ _ _ | refine (mset_ne (by omega)).trans ?_)) (by (try simp only [mset_1]); omega) rfl rfl (Nat.le_of_ble_eq_true rfl) ⟨Nat.le_of_ble_eq_true rfl, Nat.le_of_ble_eq_true rfl⟩ ⟨Nat.le_of_ble_eq_true rfl, Nat.le_of_ble_eq_true rfl⟩ ?_
            refine ok_X7_isCovered x2 rfl (by have := gpN_le (RA S i) fr tl (RF S i 3).toNat; omega) opR (fun k hk => gpN_rng b4 _ k hk) (by omega) (fun hcv => ?_) (fun hcv => ?_)
            · refine V_ifeq1 C dX7_share_79 (tgt := 86) (by decide) ?_
              refine V_iconst C dX7_share_82 ?_
              refine V_goto C dX7_share_83 (tgt := 87) (by decide) ?_
              refine V_iadd C dX7_share_87 ?_
              refine V_istore_n C dX7_share_88 (by decide) ?_
              refine V_iinc C dX7_share_89 rfl (by decide) ?_
              refine V_goto C dX7_share_92 (tgt := 66) (by decide) ?_
              refine V_lv [(0, .ref (z + 331)), (1, iv (i : Int)), (2, iv (enT (RF S i) (sc S 0))), (3, iv (((cntN (fun k => decide (RF S i 0 + (k : Int) ≤ opT (RF S i) (RA S i) (sc S 0)) && !gapB (RA S i) (RF S i 0 + (k : Int)) (RF S i 3).toNat) (k9 + 1) : Nat) : Int))), (4, iv (RF S i 0 + ((k9 + 1 : Nat) : Int)))] (List.forall_mem_cons.mpr ⟨(by first | rfl | exact congrArg (fun t => some (iv t)) (by have e8 := cntN_t (p := (fun k => decide (RF S i 0 + (k : Int) ≤ opT (RF S i) (RA S i) (sc S 0)) && !gapB (RA S i) (RF S i 0 + (k : Int)) (RF S i 3).toNat)) (n := k9) (cv9.symm.trans hcv); push_cast; omega)), (List.forall_mem_cons.mpr ⟨(by first | rfl | exact congrArg (fun t => some (iv t)) (by have e8 := cntN_t (p := (fun k => decide (RF S i 0 + (k : Int) ≤ opT (RF S i) (RA S i) (sc S 0)) && !gapB (RA S i) (RF S i 0 + (k : Int)) (RF S i 3).toNat)) (n := k9) (cv9.symm.trans hcv); push_cast; omega)), (List.forall_mem_cons.mpr ⟨(by first | rfl | exact congrArg (fun t => some (iv t)) (by have e8 := cntN_t (p := (fun k => decide (RF S i 0 + (k : Int) ≤ opT (RF S i) (RA S i) (sc S 0)) && !gapB (RA S i) (RF S i 0 + (k : Int)) (RF S i 3).toNat)) (n := k9) (cv9.symm.trans hcv); push_cast; omega)), (List.forall_mem_cons.mpr ⟨(by first | rfl | exact congrArg (fun t => some (iv t)) (by have e8 := cntN_t (p := (fun k => decide (RF S i 0 + (k : Int) ≤ opT (RF S i) (RA S i) (sc S 0)) && !gapB (RA S i) (RF S i 0 + (k : Int)) (RF S i 3).toNat)) (n := k9) (cv9.symm.trans hcv); push_cast; omega)), (List.forall_mem_cons.mpr ⟨(by first | rfl | exact congrArg (fun t => some (iv t)) (by have e8 := cntN_t (p := (fun k => decide (RF S i 0 + (k : Int) ≤ opT (RF S i) (RA S i) (sc S 0)) && !gapB (RA S i) (RF S i 0 + (k : Int)) (RF S i 3).toNat)) (n := k9) (cv9.symm.trans hcv); push_cast; omega)), (fun _ h => nomatch h)⟩)⟩)⟩)⟩)⟩) ?_
              exact ih (k9 + 1) (by omega) (by omega)
            · refine V_ifeq0 C dX7_share_79 (tgt := 86) (by decide) ?_
              refine V_iconst C dX7_share_86 ?_
              refine V_iadd C dX7_share_87 ?_
              refine V_istore_n C dX7_share_88 (by decide) ?_
              refine V_iinc C dX7_share_89 rfl (by decide) ?_
              refine V_goto C dX7_share_92 (tgt := 66) (by decide) ?_
              refine V_lv [(0, .ref (z + 331)), (1, iv (i : Int)), (2, iv (enT (RF S i) (sc S 0))), (3, iv (((cntN (fun k => decide (RF S i 0 + (k : Int) ≤ opT (RF S i) (RA S i) (sc S 0)) && !gapB (RA S i) (RF S i 0 + (k : Int)) (RF S i 3).toNat) (k9 + 1) : Nat) : Int))), (4, iv (RF S i 0 + ((k9 + 1 : Nat) : Int)))] (List.forall_mem_cons.mpr ⟨(by first | rfl | exact congrArg (fun t => some (iv t)) (by have e8 := cntN_f (p := (fun k => decide (RF S i 0 + (k : Int) ≤ opT (RF S i) (RA S i) (sc S 0)) && !gapB (RA S i) (RF S i 0 + (k : Int)) (RF S i 3).toNat)) (n := k9) (cv9.symm.trans hcv); push_cast; omega)), (List.forall_mem_cons.mpr ⟨(by first | rfl | exact congrArg (fun t => some (iv t)) (by have e8 := cntN_f (p := (fun k => decide (RF S i 0 + (k : Int) ≤ opT (RF S i) (RA S i) (sc S 0)) && !gapB (RA S i) (RF S i 0 + (k : Int)) (RF S i 3).toNat)) (n := k9) (cv9.symm.trans hcv); push_cast; omega)), (List.forall_mem_cons.mpr ⟨(by first | rfl | exact congrArg (fun t => some (iv t)) (by have e8 := cntN_f (p := (fun k => decide (RF S i 0 + (k : Int) ≤ opT (RF S i) (RA S i) (sc S 0)) && !gapB (RA S i) (RF S i 0 + (k : Int)) (RF S i 3).toNat)) (n := k9) (cv9.symm.trans hcv); push_cast; omega)), (List.forall_mem_cons.mpr ⟨(by first | rfl | exact congrArg (fun t => some (iv t)) (by have e8 := cntN_f (p := (fun k => decide (RF S i 0 + (k : Int) ≤ opT (RF S i) (RA S i) (sc S 0)) && !gapB (RA S i) (RF S i 0 + (k : Int)) (RF S i 3).toNat)) (n := k9) (cv9.symm.trans hcv); push_cast; omega)), (List.forall_mem_cons.mpr ⟨(by first | rfl | exact congrArg (fun t => some (iv t)) (by have e8 := cntN_f (p := (fun k => decide (RF S i 0 + (k : Int) ≤ opT (RF S i) (RA S i) (sc S 0)) && !gapB (RA S i) (RF S i 0 + (k : Int)) (RF S i 3).toNat)) (n := k9) (cv9.symm.trans hcv); push_cast; omega)), (fun _ h => nomatch h)⟩)⟩)⟩)⟩)⟩) ?_
              exact ih (k9 + 1) (by omega) (by omega)
      refine V_lv [(0, .ref (z + 331)), (1, iv (i : Int)), (2, iv (enT (RF S i) (sc S 0))), (3, iv (((cntN (fun k => decide (RF S i 0 + (k : Int) ≤ opT (RF S i) (RA S i) (sc S 0)) && !gapB (RA S i) (RF S i 0 + (k : Int)) (RF S i 3).toNat) 0 : Nat) : Int))), (4, iv (RF S i 0 + ((0 : Nat) : Int)))] (List.forall_mem_cons.mpr ⟨(by first | rfl | exact congrArg (fun t => some (iv t)) (by omega)), (List.forall_mem_cons.mpr ⟨(by first | rfl | exact congrArg (fun t => some (iv t)) (by omega)), (List.forall_mem_cons.mpr ⟨(by first | rfl | exact congrArg (fun t => some (iv t)) (by omega)), (List.forall_mem_cons.mpr ⟨(by first | rfl | exact congrArg (fun t => some (iv t)) (by omega)), (List.forall_mem_cons.mpr ⟨(by first | rfl | exact congrArg (fun t => some (iv t)) (by omega)), (fun _ h => nomatch h)⟩)⟩)⟩)⟩)⟩) ?_
      exact loop (((enT (RF S i) (sc S 0)) - RF S i 0 + 1).toNat + 1) 0 (by omega) (by omega)
  · refine V_ifeq0 C dX7_share_6 (tgt := 13) (by decide) ?_
    refine V_iconst C dX7_share_13 ?_
    refine V_callV (fr := 0) (lo := 0) (mc := 0) (ms := 0) (As := [_]) C yvX7_refused w_849 dX7_share_14 rfl rfl (by repeat (first | with_reducible assumption | with_reducible exact mset_self _ _ _ | refine (mset_ne (by omega)).trans ?_)) (by (try simp only [mset_1]); omega) rfl rfl (Nat.le_of_ble_eq_true rfl) ⟨Nat.le_of_ble_eq_true rfl, Nat.le_of_ble_eq_true rfl⟩ ⟨Nat.le_of_ble_eq_true rfl, Nat.le_of_ble_eq_true rfl⟩ ?_
    refine ok_X7_refused hM9 (by omega) (fun _ M1 s1 x1 => ?_) (fun o => absurd o (by decide))
    have hM9 := x1
    obtain ⟨gn, g0, g1, g2, g3, g4, g5, g6⟩ := id hM9
    refine V_ifeq1 C dX7_share_17 (tgt := 22) (by decide) ?_
    refine V_dconst0 C dX7_share_20 ?_
    exact V_dret C hr dX7_share_21 (hX1 hw9 _ _ _ _ (P7_331 s1) x1 rfl rfl rfl)

