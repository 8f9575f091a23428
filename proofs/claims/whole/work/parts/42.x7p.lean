/-! use, comes, file (X7), walked -/
set_option maxHeartbeats 400000 in
set_option maxRecDepth 4000 in
theorem ok_X7_use {l : Launch} {D : va_G} {cy : Nat → ClassId} {z : Nat} {M : Mm} {K : Option Value → Mm → Prop} {u N P A tx fr tl : Nat → Int} (hM : ModAt cy z M u N P A tx fr tl) {S : SD} (hRw : RowOf N S) (hB : SB S) (hJ : IS S) {c9 : Nat} (hc : u 0 = c9) (hc9 : c9 ≤ 4) (hZ : ZS S) {r v : Int} (hr32 : -2147483648 ≤ r ∧ r < 2147483648) (hv : -2147483648 ≤ v ∧ v < 2147483648) (hX1 : ¬ (0 ≤ r ∧ r < sN S) → ∀ M', Sm M M' P7 → ModAt cy z M' (va_up u 1 1) N P A tx fr tl → K (some (iv 0)) M') (hX2 : ∀ i : Nat, r = i → i < sN S → ¬ (0 ≤ v ∧ v ≤ 9) → ∀ M', Sm M M' P7 → ModAt cy z M' (va_up u 1 2) N P A tx fr tl → K (some (iv 0)) M') (hX3 : ∀ i w : Nat, r = i → i < sN S → v = w → w < 10 → ¬ canUseR S i w → ∀ M', Sm M M' P7 → ModAt cy z M' (va_up u 1 3) N P A tx fr tl → K (some (iv 0)) M') (hK : ∀ i w : Nat, r = i → i < sN S → v = w → w < 10 → canUseR S i w → ∀ M' u' P' N', Sm M M' P7 → ModAt cy z M' u' N' P' A tx fr tl → u' 0 = (if c9 < 4 then (c9 : Int) + 1 else 4) → u' 1 = 0 → u' 2 = u 2 → P' = psv P N c9 → RowOf N' (useS S i w) → K (some (iv ((cntN (fun u9 => decide (¬ stU (RF S i) (va_up (RA S i) 4 (va_up (RA S i 4) w (sc S 0))) u9 = 0)) 10 : Nat) : Int))) M') :
    MT l D cy z false yX7_use (wsy yX7_use cX7_use 3 (some .int)) 7 154 0 0 M [.ref (z + 331), iv r, iv v] K := by
  refine MT_of (by decide) w_999 (Nat.le_of_ble_eq_true rfl) ?_
  intro p e s m args below meth c C hr hx0
  have hM9 := hM
  obtain ⟨gn, g0, g1, g2, g3, g4, g5, g6⟩ := id hM
  have hB9 := hB
  have hr9 := hRw
  have hJ9 := hJ
  obtain ⟨e0, e1, e2, eH, eh, e9, e10, e11, e12, e13, e14, e15, eR⟩ := id hRw
  obtain ⟨d0, d1, d2, d4, d5, d6, dH, dR⟩ := id hB
  have dT := hJ.2.1
  refine V_aload_n C dX7_use_0 rfl ?_
  refine V_aload_n C dX7_use_1 rfl ?_
  refine V_iload_n C dX7_use_2 rfl ?_
  refine V_callV (fr := 1) (lo := 22) (mc := 0) (ms := 0) (As := [_]) C yvX7_isRight w_952 dX7_use_3 rfl rfl (by repeat (first | with_reducible assumption | with_reducible exact mset_self _ _ _ | refine (mset_ne (by omega)).trans ?_)) (by (try simp only [mset_1]); omega) rfl rfl (Nat.le_of_ble_eq_true rfl) ⟨Nat.le_of_ble_eq_true rfl, Nat.le_of_ble_eq_true rfl⟩ ⟨Nat.le_of_ble_eq_true rfl, Nat.le_of_ble_eq_true rfl⟩ ?_
  refine ok_X7_isRight hM9 hr9 hB9 hJ9 (by omega) (fun i ia hi => ?_) (fun hw9 => ?_)
  · subst ia
    have rt := eR i hi
    obtain ⟨w0, w1, w2, w3, w4, w5, w6, w7⟩ := id rt
    have ri := hJ.2.2 i hi
    have hi10 : i < 10 := by omega
    have rb := dR i hi10
    obtain ⟨b0, b1, b2, b3, b4⟩ := id rb
    have ri0 := ri.1
    have ri1 := ri.2.1
    refine V_ifne1 C dX7_use_6 (tgt := 13) (by decide) ?_
    refine V_iload_n C dX7_use_13 rfl ?_
    refine V_callS (fr := 1) (lo := 22) (mc := 0) (ms := 0) (As := [_]) C ysX7_isUser w_1000 dX7_use_14 rfl rfl (Nat.le_of_ble_eq_true rfl) ⟨Nat.le_of_ble_eq_true rfl, Nat.le_of_ble_eq_true rfl⟩ ⟨Nat.le_of_ble_eq_true rfl, Nat.le_of_ble_eq_true rfl⟩ ?_
    refine ok_X7_isUser (by omega) (fun hw => ?_) (fun hw => ?_)
    · obtain ⟨v9, rfl⟩ := Int.eq_ofNat_of_zero_le hw.1
      have hv9 : v9 < 10 := by omega
      refine V_ifne1 C dX7_use_17 (tgt := 24) (by decide) ?_
      refine V_aload_n C dX7_use_24 rfl ?_
      refine V_iload_n C dX7_use_25 rfl ?_
      have bu := b4 4 v9
      refine V_callV (fr := 6) (lo := 133) (mc := 0) (ms := 0) (As := [_]) C yvX7_stands w_1003 dX7_use_26 rfl rfl (by repeat (first | with_reducible assumption | with_reducible exact mset_self _ _ _ | refine (mset_ne (by omega)).trans ?_)) (by (try simp only [mset_1]); omega) rfl rfl (Nat.le_of_ble_eq_true rfl) ⟨Nat.le_of_ble_eq_true rfl, Nat.le_of_ble_eq_true rfl⟩ ⟨Nat.le_of_ble_eq_true rfl, Nat.le_of_ble_eq_true rfl⟩ ?_
      refine ok_X7_stands hM9 hr9 hB9 hJ9 hi (fun hl => ?_) (fun hl => ?_)
      · refine V_ifne1 C dX7_use_29 (tgt := 59) (by decide) ?_
        refine V_iconst C dX7_use_59 ?_
        refine V_goto C dX7_use_60 (tgt := 64) (by decide) ?_
        refine V_callV (fr := 0) (lo := 0) (mc := 0) (ms := 0) (As := [_]) C yvX7_refused w_849 dX7_use_64 rfl rfl (by repeat (first | with_reducible assumption | with_reducible exact mset_self _ _ _ | refine (mset_ne (by omega)).trans ?_)) (by (try simp only [mset_1]); omega) rfl rfl (Nat.le_of_ble_eq_true rfl) ⟨Nat.le_of_ble_eq_true rfl, Nat.le_of_ble_eq_true rfl⟩ ⟨Nat.le_of_ble_eq_true rfl, Nat.le_of_ble_eq_true rfl⟩ ?_
        refine ok_X7_refused hM9 (by omega) (fun _ M1 s1 x1 => ?_) (fun o => absurd o (by decide))
        have hM9 := x1
        obtain ⟨gn, g0, g1, g2, g3, g4, g5, g6⟩ := id hM9
        refine V_ifeq1 C dX7_use_67 (tgt := 72) (by decide) ?_
        refine V_iconst C dX7_use_70 ?_
        exact V_iret C hr dX7_use_71 (hX3 i v9 rfl hi rfl hv9 (fun o => o.1 hl) _ (P7_331 s1) x1)
      · refine V_ifne0 C dX7_use_29 (tgt := 59) (by decide) ?_
        refine V_aload_n C dX7_use_32 rfl ?_
        refine V_get C fg_X7_7 dX7_use_33 (by repeat (first | with_reducible assumption | with_reducible exact mset_self _ _ _ | refine (mset_ne (by omega)).trans ?_)) (by (try simp only [mset_1]); omega) (by rfl) ?_
        refine V_iconst C dX7_use_36 ?_
        refine V_iald C dX7_use_37 (by repeat (first | with_reducible assumption | with_reducible exact mset_self _ _ _ | refine (mset_ne (by omega)).trans ?_)) (by (try simp only [mset_1]); omega) (by omega) (by omega) (show ((0 : Int)).toNat = 0 from rfl) ?_
        rw [e0]
        refine V_aload_n C dX7_use_38 rfl ?_
        refine V_iload_n C dX7_use_39 rfl ?_
        refine V_callV (fr := 4) (lo := 90) (mc := 0) (ms := 0) (As := [_]) C yvX7_endOf w_992 dX7_use_40 rfl rfl (by repeat (first | with_reducible assumption | with_reducible exact mset_self _ _ _ | refine (mset_ne (by omega)).trans ?_)) (by (try simp only [mset_1]); omega) rfl rfl (Nat.le_of_ble_eq_true rfl) ⟨Nat.le_of_ble_eq_true rfl, Nat.le_of_ble_eq_true rfl⟩ ⟨Nat.le_of_ble_eq_true rfl, Nat.le_of_ble_eq_true rfl⟩ ?_
        refine ok_X7_endOf hM9 hr9 hB9 hJ9 hi ?_
        refine V_icmp_gt C dX7_use_43 (tgt := 59) (by decide) (by omega) (by omega) (fun g43 => ?_) (fun g43 => ?_)
        · refine V_iconst C dX7_use_59 ?_
          refine V_goto C dX7_use_60 (tgt := 64) (by decide) ?_
          refine V_callV (fr := 0) (lo := 0) (mc := 0) (ms := 0) (As := [_]) C yvX7_refused w_849 dX7_use_64 rfl rfl (by repeat (first | with_reducible assumption | with_reducible exact mset_self _ _ _ | refine (mset_ne (by omega)).trans ?_)) (by (try simp only [mset_1]); omega) rfl rfl (Nat.le_of_ble_eq_true rfl) ⟨Nat.le_of_ble_eq_true rfl, Nat.le_of_ble_eq_true rfl⟩ ⟨Nat.le_of_ble_eq_true rfl, Nat.le_of_ble_eq_true rfl⟩ ?_
          refine ok_X7_refused hM9 (by omega) (fun _ M1 s1 x1 => ?_) (fun o => absurd o (by decide))
          have hM9 := x1
          obtain ⟨gn, g0, g1, g2, g3, g4, g5, g6⟩ := id hM9
          refine V_ifeq1 C dX7_use_67 (tgt := 72) (by decide) ?_
          refine V_iconst C dX7_use_70 ?_
          exact V_iret C hr dX7_use_71 (hX3 i v9 rfl hi rfl hv9 (fun o => by have o1 := o.2.1; omega) _ (P7_331 s1) x1)
        · refine V_aload_n C dX7_use_46 rfl ?_
          refine V_iload_n C dX7_use_47 rfl ?_
          refine V_bipush C dX7_use_48 (by decide) ?_
          refine V_iload_n C dX7_use_50 rfl ?_
          refine V_iadd C dX7_use_51 ?_
          refine V_callV (fr := 1) (lo := 20) (mc := 0) (ms := 0) (As := [_, _]) C yvX7_of w_940 dX7_use_52 rfl rfl (by repeat (first | with_reducible assumption | with_reducible exact mset_self _ _ _ | refine (mset_ne (by omega)).trans ?_)) (by (try simp only [mset_1]); omega) rfl rfl (Nat.le_of_ble_eq_true rfl) ⟨Nat.le_of_ble_eq_true rfl, Nat.le_of_ble_eq_true rfl⟩ ⟨Nat.le_of_ble_eq_true rfl, Nat.le_of_ble_eq_true rfl⟩ ?_
          refine ok_X7_of hM9 (j := 16 + 35 * i + 25 + v9) (by omega) (by omega) (by omega) (w7 v9 hv9) ?_
          refine V_iconst C dX7_use_55 ?_
          refine V_icmp_eq C dX7_use_56 (tgt := 63) (by decide) (by omega) (by omega) (fun g56 => ?_) (fun g56 => ?_)
          · refine V_iconst C dX7_use_63 ?_
            refine V_callV (fr := 0) (lo := 0) (mc := 0) (ms := 0) (As := [_]) C yvX7_refused w_849 dX7_use_64 rfl rfl (by repeat (first | with_reducible assumption | with_reducible exact mset_self _ _ _ | refine (mset_ne (by omega)).trans ?_)) (by (try simp only [mset_1]); omega) rfl rfl (Nat.le_of_ble_eq_true rfl) ⟨Nat.le_of_ble_eq_true rfl, Nat.le_of_ble_eq_true rfl⟩ ⟨Nat.le_of_ble_eq_true rfl, Nat.le_of_ble_eq_true rfl⟩ ?_
            refine ok_X7_refused hM9 (by omega) (fun o => absurd o (by decide)) (fun _ M1 s1 x1 => ?_)
            have hM9 := x1
            obtain ⟨gn, g0, g1, g2, g3, g4, g5, g6⟩ := id hM9
            refine V_ifeq0 C dX7_use_67 (tgt := 72) (by decide) ?_
            refine V_aload_n C dX7_use_72 rfl ?_
            refine V_callV (fr := 0) (lo := 0) (mc := 0) (ms := 0) (As := []) C yvX7_saves w_905 dX7_use_73 rfl rfl (by repeat (first | with_reducible assumption | with_reducible exact mset_self _ _ _ | refine (mset_ne (by omega)).trans ?_)) (by (try simp only [mset_1]); omega) rfl rfl (Nat.le_of_ble_eq_true rfl) ⟨Nat.le_of_ble_eq_true rfl, Nat.le_of_ble_eq_true rfl⟩ ⟨Nat.le_of_ble_eq_true rfl, Nat.le_of_ble_eq_true rfl⟩ ?_
            refine ok_X7_saves hM9 hc hc9 (fun M2 u2 P2 s2 x2 a0 aj aP => ?_)
            have hM9 := x2
            obtain ⟨gn, g0, g1, g2, g3, g4, g5, g6⟩ := id hM9
            refine V_aload_n C dX7_use_76 rfl ?_
            refine V_get C fg_X7_7 dX7_use_77 (by repeat (first | with_reducible assumption | with_reducible exact mset_self _ _ _ | refine (mset_ne (by omega)).trans ?_)) (by (try simp only [mset_1]); omega) (by rfl) ?_
            refine V_iload_n C dX7_use_80 rfl ?_
            refine V_callS (fr := 0) (lo := 0) (mc := 0) (ms := 0) (As := [_]) C ysX7_at w_921 dX7_use_81 rfl rfl (Nat.le_of_ble_eq_true rfl) ⟨Nat.le_of_ble_eq_true rfl, Nat.le_of_ble_eq_true rfl⟩ ⟨Nat.le_of_ble_eq_true rfl, Nat.le_of_ble_eq_true rfl⟩ ?_
            refine ok_X7_at ?_
            refine V_bipush C dX7_use_84 (by decide) ?_
            refine V_iadd C dX7_use_86 ?_
            refine V_iload_n C dX7_use_87 rfl ?_
            refine V_iadd C dX7_use_88 ?_
            refine V_aload_n C dX7_use_89 rfl ?_
            refine V_get C fg_X7_7 dX7_use_90 (by repeat (first | with_reducible assumption | with_reducible exact mset_self _ _ _ | refine (mset_ne (by omega)).trans ?_)) (by (try simp only [mset_1]); omega) (by rfl) ?_
            refine V_iconst C dX7_use_93 ?_
            refine V_iald C dX7_use_94 (by repeat (first | with_reducible assumption | with_reducible exact mset_self _ _ _ | refine (mset_ne (by omega)).trans ?_)) (by (try simp only [mset_1]); omega) (by omega) (by omega) (show ((0 : Int)).toNat = 0 from rfl) ?_
            rw [e0]
            refine V_iast C dX7_use_95 (by repeat (first | with_reducible assumption | with_reducible exact mset_self _ _ _ | refine (mset_ne (by omega)).trans ?_)) (by (try simp only [mset_1]); omega) (by omega) (by omega) (show _ = 16 + 35 * i + 25 + v9 by omega) ?_
            have hcu : canUseR S i v9 := ⟨hl, by omega, stU_1 (by omega)⟩
            have hr8 : RowOf (va_up N (16 + 35 * i + 25 + v9) (sc S 0)) (useS S i v9) := RowOf_use hr9 hB9 hJ9 hZ hi hv9 (by omega) (fun j hj => up_n hj) (up_s _ _ _)
            have hB8 : SB (useS S i v9) := useS_B hB9 hi10
            have hJ8 : IS (useS S i v9) := IS_use hJ9
            have hM8 := hM9.nows (N' := va_up N (16 + 35 * i + 25 + v9) (sc S 0))
            refine V_aload_n C dX7_use_96 rfl ?_
            refine V_iload_n C dX7_use_97 rfl ?_
            refine V_callV (fr := 2) (lo := 42) (mc := 0) (ms := 0) (As := [_]) C yvX7_usersOf w_1007 dX7_use_98 rfl rfl (by repeat (first | with_reducible assumption | with_reducible exact mset_self _ _ _ | refine (mset_ne (by omega)).trans ?_)) (by (try simp only [mset_1]); omega) rfl rfl (Nat.le_of_ble_eq_true rfl) ⟨Nat.le_of_ble_eq_true rfl, Nat.le_of_ble_eq_true rfl⟩ ⟨Nat.le_of_ble_eq_true rfl, Nat.le_of_ble_eq_true rfl⟩ ?_
            refine ok_X7_usersOf hM8 hr8 hB8 hJ8 hi ?_
            exact V_iret C hr dX7_use_101 (K_of (hK i v9 rfl hi rfl hv9 hcu _ _ _ _ (((P7_331 s1).trans s2).ts ⟨by omega, by omega⟩) hM8 a0 (aj 1 (by omega)) (aj 2 (by omega)) aP hr8) (by show ((cntN (fun u9 => decide (¬ stU (va_up (RF S) i _ i) (va_up (RA S) i _ i) u9 = 0)) 10 : Nat) : Int) = _; rw [up_s, up_s]))
          · refine V_iconst C dX7_use_59 ?_
            refine V_goto C dX7_use_60 (tgt := 64) (by decide) ?_
            refine V_callV (fr := 0) (lo := 0) (mc := 0) (ms := 0) (As := [_]) C yvX7_refused w_849 dX7_use_64 rfl rfl (by repeat (first | with_reducible assumption | with_reducible exact mset_self _ _ _ | refine (mset_ne (by omega)).trans ?_)) (by (try simp only [mset_1]); omega) rfl rfl (Nat.le_of_ble_eq_true rfl) ⟨Nat.le_of_ble_eq_true rfl, Nat.le_of_ble_eq_true rfl⟩ ⟨Nat.le_of_ble_eq_true rfl, Nat.le_of_ble_eq_true rfl⟩ ?_
            refine ok_X7_refused hM9 (by omega) (fun _ M1 s1 x1 => ?_) (fun o => absurd o (by decide))
            have hM9 := x1
            obtain ⟨gn, g0, g1, g2, g3, g4, g5, g6⟩ := id hM9
            refine V_ifeq1 C dX7_use_67 (tgt := 72) (by decide) ?_
            refine V_iconst C dX7_use_70 ?_
            exact V_iret C hr dX7_use_71 (hX3 i v9 rfl hi rfl hv9 (fun o => g56 (stU_0.mp o.2.2)) _ (P7_331 s1) x1)
    · refine V_ifne0 C dX7_use_17 (tgt := 24) (by decide) ?_
      refine V_iconst C dX7_use_20 ?_
      refine V_goto C dX7_use_21 (tgt := 64) (by decide) ?_
      refine V_callV (fr := 0) (lo := 0) (mc := 0) (ms := 0) (As := [_]) C yvX7_refused w_849 dX7_use_64 rfl rfl (by repeat (first | with_reducible assumption | with_reducible exact mset_self _ _ _ | refine (mset_ne (by omega)).trans ?_)) (by (try simp only [mset_1]); omega) rfl rfl (Nat.le_of_ble_eq_true rfl) ⟨Nat.le_of_ble_eq_true rfl, Nat.le_of_ble_eq_true rfl⟩ ⟨Nat.le_of_ble_eq_true rfl, Nat.le_of_ble_eq_true rfl⟩ ?_
      refine ok_X7_refused hM9 (by omega) (fun _ M1 s1 x1 => ?_) (fun o => absurd o (by decide))
      have hM9 := x1
      obtain ⟨gn, g0, g1, g2, g3, g4, g5, g6⟩ := id hM9
      refine V_ifeq1 C dX7_use_67 (tgt := 72) (by decide) ?_
      refine V_iconst C dX7_use_70 ?_
      exact V_iret C hr dX7_use_71 (hX2 i rfl hi hw _ (P7_331 s1) x1)
  · refine V_ifne0 C dX7_use_6 (tgt := 13) (by decide) ?_
    refine V_iconst C dX7_use_9 ?_
    refine V_goto C dX7_use_10 (tgt := 64) (by decide) ?_
    refine V_callV (fr := 0) (lo := 0) (mc := 0) (ms := 0) (As := [_]) C yvX7_refused w_849 dX7_use_64 rfl rfl (by repeat (first | with_reducible assumption | with_reducible exact mset_self _ _ _ | refine (mset_ne (by omega)).trans ?_)) (by (try simp only [mset_1]); omega) rfl rfl (Nat.le_of_ble_eq_true rfl) ⟨Nat.le_of_ble_eq_true rfl, Nat.le_of_ble_eq_true rfl⟩ ⟨Nat.le_of_ble_eq_true rfl, Nat.le_of_ble_eq_true rfl⟩ ?_
    refine ok_X7_refused hM9 (by omega) (fun _ M1 s1 x1 => ?_) (fun o => absurd o (by decide))
    have hM9 := x1
    obtain ⟨gn, g0, g1, g2, g3, g4, g5, g6⟩ := id hM9
    refine V_ifeq1 C dX7_use_67 (tgt := 72) (by decide) ?_
    refine V_iconst C dX7_use_70 ?_
    exact V_iret C hr dX7_use_71 (hX1 hw9 _ (P7_331 s1) x1)

set_option maxHeartbeats 1000000 in
set_option maxRecDepth 4000 in
theorem ok_X7_comes {l : Launch} {D : va_G} {cy : Nat → ClassId} {z : Nat} {M : Mm} {K : Option Value → Mm → Prop} {u N P A tx fr tl : Nat → Int} (hM : ModAt cy z M u N P A tx fr tl) {n9 : Nat} (hn9 : n9 < 10) (h1 : N 1 = n9) {d w : Int} (hw9 : w = 0 ∨ w = 1) (hK : ∀ M', Sm M M' P7 → ModAt cy z M' u (cmN N n9 d w) P A tx fr tl → K (some (iv (n9 : Int))) M') :
    MT l D cy z false yX7_comes (wsy yX7_comes cX7_comes 5 (some .int)) 1 20 0 0 M [.ref (z + 331), iv d, iv w] K := by
  refine MT_of (by decide) w_920 (Nat.le_of_ble_eq_true rfl) ?_
  intro p e s m args below meth c C hr hx0
  have hM9 := hM
  obtain ⟨gn, g0, g1, g2, g3, g4, g5, g6⟩ := id hM
  refine V_aload_n C dX7_comes_0 rfl ?_
  refine V_get C fg_X7_7 dX7_comes_1 (by repeat (first | with_reducible assumption | with_reducible exact mset_self _ _ _ | refine (mset_ne (by omega)).trans ?_)) (by (try simp only [mset_1]); omega) (by rfl) ?_
  refine V_iconst C dX7_comes_4 ?_
  refine V_iald C dX7_comes_5 (by repeat (first | with_reducible assumption | with_reducible exact mset_self _ _ _ | refine (mset_ne (by omega)).trans ?_)) (by (try simp only [mset_1]); omega) (by omega) (by omega) (show ((1 : Int)).toNat = 1 from rfl) ?_
  rw [h1]
  refine V_callS (fr := 0) (lo := 0) (mc := 0) (ms := 0) (As := [_]) C ysX7_at w_921 dX7_comes_6 rfl rfl (Nat.le_of_ble_eq_true rfl) ⟨Nat.le_of_ble_eq_true rfl, Nat.le_of_ble_eq_true rfl⟩ ⟨Nat.le_of_ble_eq_true rfl, Nat.le_of_ble_eq_true rfl⟩ ?_
  refine ok_X7_at ?_
  refine V_istore_n C dX7_comes_9 (by decide) ?_
  refine V_iconst C dX7_comes_10 ?_
  refine V_istore C dX7_comes_11 (by decide) ?_
  have loop : ∀ (n : Nat) (k9 : Nat) (N9 : Nat → Int) (M9 : Mm), (k9 ≤ 35) → (Sm M M9 P7) → (ModAt cy z M9 u N9 P A tx fr tl) → (∀ j, N9 j = if 16 + 35 * n9 ≤ j ∧ j < 16 + 35 * n9 + k9 then (if j < 16 + 35 * n9 + 25 then 0 else -1) else N j) → 35 - k9 < n → V p l e { frames := 1, cells := 0, slots := 0, locals := 20 } s m args below meth c D z 5 (MQ below (qc_ D z K) args s 0 0 (fun q => z ≤ q)) 0 0 M9 13 [(0, .ref (z + 331)), (1, iv d), (2, iv w), (3, iv (16 + 35 * (n9 : Int))), (4, iv ((k9 : Int)))] [] := by
    intro n
    induction n with
    | zero => intro k9 N9 M9 hi0 hi1 hi2 hi3 hfu; exact absurd hfu (Nat.not_lt_zero _)
    | succ n ih =>
      intro k9 N9 M9 hi0 hi1 hi2 hi3 hfu
      have hM9 := hi2
      obtain ⟨gn, g0, g1, g2, g3, g4, g5, g6⟩ := id hM9
      refine V_iload C dX7_comes_13 rfl ?_
      refine V_bipush C dX7_comes_15 (by decide) ?_
      refine V_icmp_ge C dX7_comes_17 (tgt := 47) (by decide) (by omega) (by omega) (fun g17 => ?_) (fun g17 => ?_)
      · have e35 : k9 = 35 := by omega
        subst e35
        refine V_memgen (fun M4 em4 => ?_)
        have x4 : ModAt cy z M4 u N9 P A tx fr tl := by rw [em4]; exact hi2
        have s4 : Sm M M4 P7 := by rw [em4]; exact hi1
        clear em4
        have hM9 := x4
        obtain ⟨gn, g0, g1, g2, g3, g4, g5, g6⟩ := id hM9
        have en9 : N9 1 = n9 := by rw [hi3 1, if_neg (by omega)]; exact h1
        have cm_eq : va_up (va_up (va_up N9 (16 + 35 * n9) d) (16 + 35 * n9 + 1) w) 1 (va_up (va_up N9 (16 + 35 * n9) d) (16 + 35 * n9 + 1) w 1 + 1) = cmN N n9 d w := by
          funext j
          rcases Nat.decEq j 1 with o | o
          · rw [up_n o]
            rcases Nat.decEq j (16 + 35 * n9 + 1) with q | q
            · rw [up_n q]
              rcases Nat.decEq j (16 + 35 * n9) with q2 | q2
              · rw [up_n q2, hi3 j]; unfold cmN; rw [if_neg o, if_neg q2, if_neg q]
              · subst q2; rw [up_s]; unfold cmN; rw [if_neg o, if_pos rfl]
            · subst q; rw [up_s]; unfold cmN; rw [if_neg o, if_neg (by omega), if_pos rfl]
          · subst o; rw [up_s, up_n (by omega), up_n (by omega), en9]; unfold cmN; rw [if_pos rfl]
        refine V_aload_n C dX7_comes_47 rfl ?_
        refine V_get C fg_X7_7 dX7_comes_48 (by repeat (first | with_reducible assumption | with_reducible exact mset_self _ _ _ | refine (mset_ne (by omega)).trans ?_)) (by (try simp only [mset_1]); omega) (by rfl) ?_
        refine V_iload_n C dX7_comes_51 rfl ?_
        refine V_iconst C dX7_comes_52 ?_
        refine V_iadd C dX7_comes_53 ?_
        refine V_iload_n C dX7_comes_54 rfl ?_
        refine V_iast C dX7_comes_55 (by repeat (first | with_reducible assumption | with_reducible exact mset_self _ _ _ | refine (mset_ne (by omega)).trans ?_)) (by (try simp only [mset_1]); omega) (by omega) (by omega) (show _ = 16 + 35 * n9 by omega) ?_
        refine V_aload_n C dX7_comes_56 rfl ?_
        refine V_get C fg_X7_7 dX7_comes_57 (by repeat (first | with_reducible assumption | with_reducible exact mset_self _ _ _ | refine (mset_ne (by omega)).trans ?_)) (by (try simp only [mset_1]); omega) (by rfl) ?_
        refine V_iload_n C dX7_comes_60 rfl ?_
        refine V_iconst C dX7_comes_61 ?_
        refine V_iadd C dX7_comes_62 ?_
        refine V_iload_n C dX7_comes_63 rfl ?_
        refine V_if_eq C dX7_comes_64 (tgt := 71) (by decide) (by omega) (fun g64 => ?_) (fun g64 => ?_)
        · refine V_iconst C dX7_comes_71 ?_
          have ew : 0 = w := by omega
          rw [ew]
          refine V_iast C dX7_comes_72 (by repeat (first | with_reducible assumption | with_reducible exact mset_self _ _ _ | refine (mset_ne (by omega)).trans ?_)) (by (try simp only [mset_1]); omega) (by omega) (by omega) (show _ = 16 + 35 * n9 + 1 by omega) ?_
          refine V_aload_n C dX7_comes_73 rfl ?_
          refine V_get C fg_X7_7 dX7_comes_74 (by repeat (first | with_reducible assumption | with_reducible exact mset_self _ _ _ | refine (mset_ne (by omega)).trans ?_)) (by (try simp only [mset_1]); omega) (by rfl) ?_
          refine V_iconst C dX7_comes_77 ?_
          refine V_dup2 C dX7_comes_78 rfl rfl ?_
          refine V_iald C dX7_comes_79 (by repeat (first | with_reducible assumption | with_reducible exact mset_self _ _ _ | refine (mset_ne (by omega)).trans ?_)) (by (try simp only [mset_1]); omega) (by omega) (by omega) (show ((1 : Int)).toNat = 1 from rfl) ?_
          refine V_iconst C dX7_comes_80 ?_
          refine V_iadd C dX7_comes_81 ?_
          refine V_iast C dX7_comes_82 (by repeat (first | with_reducible assumption | with_reducible exact mset_self _ _ _ | refine (mset_ne (by omega)).trans ?_)) (by (try simp only [mset_1]); omega) (by omega) (by omega) (show ((1 : Int)).toNat = 1 from rfl) ?_
          refine V_aload_n C dX7_comes_83 rfl ?_
          refine V_get C fg_X7_7 dX7_comes_84 (by repeat (first | with_reducible assumption | with_reducible exact mset_self _ _ _ | refine (mset_ne (by omega)).trans ?_)) (by (try simp only [mset_1]); omega) (by rfl) ?_
          refine V_iconst C dX7_comes_87 ?_
          refine V_iald C dX7_comes_88 (by repeat (first | with_reducible assumption | with_reducible exact mset_self _ _ _ | refine (mset_ne (by omega)).trans ?_)) (by (try simp only [mset_1]); omega) (by omega) (by omega) (show ((1 : Int)).toNat = 1 from rfl) ?_
          refine V_iconst C dX7_comes_89 ?_
          refine V_isub C dX7_comes_90 ?_
          exact V_iret C hr dX7_comes_91 (K_of (hK _ (((s4.ts ⟨by omega, by omega⟩).ts ⟨by omega, by omega⟩).ts ⟨by omega, by omega⟩) (cm_eq ▸ hM9.nows.nows.nows)) (by rw [up_s, up_n (by omega), up_n (by omega), en9]; omega))
        · refine V_iconst C dX7_comes_67 ?_
          refine V_goto C dX7_comes_68 (tgt := 72) (by decide) ?_
          have ew : 1 = w := by omega
          rw [ew]
          refine V_iast C dX7_comes_72 (by repeat (first | with_reducible assumption | with_reducible exact mset_self _ _ _ | refine (mset_ne (by omega)).trans ?_)) (by (try simp only [mset_1]); omega) (by omega) (by omega) (show _ = 16 + 35 * n9 + 1 by omega) ?_
          refine V_aload_n C dX7_comes_73 rfl ?_
          refine V_get C fg_X7_7 dX7_comes_74 (by repeat (first | with_reducible assumption | with_reducible exact mset_self _ _ _ | refine (mset_ne (by omega)).trans ?_)) (by (try simp only [mset_1]); omega) (by rfl) ?_
          refine V_iconst C dX7_comes_77 ?_
          refine V_dup2 C dX7_comes_78 rfl rfl ?_
          refine V_iald C dX7_comes_79 (by repeat (first | with_reducible assumption | with_reducible exact mset_self _ _ _ | refine (mset_ne (by omega)).trans ?_)) (by (try simp only [mset_1]); omega) (by omega) (by omega) (show ((1 : Int)).toNat = 1 from rfl) ?_
          refine V_iconst C dX7_comes_80 ?_
          refine V_iadd C dX7_comes_81 ?_
          refine V_iast C dX7_comes_82 (by repeat (first | with_reducible assumption | with_reducible exact mset_self _ _ _ | refine (mset_ne (by omega)).trans ?_)) (by (try simp only [mset_1]); omega) (by omega) (by omega) (show ((1 : Int)).toNat = 1 from rfl) ?_
          refine V_aload_n C dX7_comes_83 rfl ?_
          refine V_get C fg_X7_7 dX7_comes_84 (by repeat (first | with_reducible assumption | with_reducible exact mset_self _ _ _ | refine (mset_ne (by omega)).trans ?_)) (by (try simp only [mset_1]); omega) (by rfl) ?_
          refine V_iconst C dX7_comes_87 ?_
          refine V_iald C dX7_comes_88 (by repeat (first | with_reducible assumption | with_reducible exact mset_self _ _ _ | refine (mset_ne (by omega)).trans ?_)) (by (try simp only [mset_1]); omega) (by omega) (by omega) (show ((1 : Int)).toNat = 1 from rfl) ?_
          refine V_iconst C dX7_comes_89 ?_
          refine V_isub C dX7_comes_90 ?_
          exact V_iret C hr dX7_comes_91 (K_of (hK _ (((s4.ts ⟨by omega, by omega⟩).ts ⟨by omega, by omega⟩).ts ⟨by omega, by omega⟩) (cm_eq ▸ hM9.nows.nows.nows)) (by rw [up_s, up_n (by omega), up_n (by omega), en9]; omega))
      · refine V_aload_n C dX7_comes_20 rfl ?_
        refine V_get C fg_X7_7 dX7_comes_21 (by repeat (first | with_reducible assumption | with_reducible exact mset_self _ _ _ | refine (mset_ne (by omega)).trans ?_)) (by (try simp only [mset_1]); omega) (by rfl) ?_
        refine V_iload_n C dX7_comes_24 rfl ?_
        refine V_iload C dX7_comes_25 rfl ?_
        refine V_iadd C dX7_comes_27 ?_
        refine V_iload C dX7_comes_28 rfl ?_
        refine V_bipush C dX7_comes_30 (by decide) ?_
        refine V_icmp_ge C dX7_comes_32 (tgt := 39) (by decide) (by omega) (by omega) (fun g32 => ?_) (fun g32 => ?_)
        · refine V_iconst C dX7_comes_39 ?_
          refine V_iast C dX7_comes_40 (by repeat (first | with_reducible assumption | with_reducible exact mset_self _ _ _ | refine (mset_ne (by omega)).trans ?_)) (by (try simp only [mset_1]); omega) (by omega) (by omega) (show _ = 16 + 35 * n9 + k9 by omega) ?_
          refine V_iinc C dX7_comes_41 rfl (by decide) ?_
          refine V_goto C dX7_comes_44 (tgt := 13) (by decide) ?_
          refine V_lv [(0, .ref (z + 331)), (1, iv d), (2, iv w), (3, iv (16 + 35 * (n9 : Int))), (4, iv (((k9 + 1 : Nat) : Int)))] (List.forall_mem_cons.mpr ⟨(by first | rfl | exact congrArg (fun t => some (iv t)) (by push_cast; omega)), (List.forall_mem_cons.mpr ⟨(by first | rfl | exact congrArg (fun t => some (iv t)) (by push_cast; omega)), (List.forall_mem_cons.mpr ⟨(by first | rfl | exact congrArg (fun t => some (iv t)) (by push_cast; omega)), (List.forall_mem_cons.mpr ⟨(by first | rfl | exact congrArg (fun t => some (iv t)) (by push_cast; omega)), (List.forall_mem_cons.mpr ⟨(by first | rfl | exact congrArg (fun t => some (iv t)) (by push_cast; omega)), (fun _ h => nomatch h)⟩)⟩)⟩)⟩)⟩) ?_
          refine ih (k9 + 1) _ _ (by omega) (hi1.ts ⟨by omega, by omega⟩) hi2.nows (fun j => ?_) (by omega)
          rcases Nat.decEq j (16 + 35 * n9 + k9) with o | o
          · rw [up_n o, hi3 j]
            by_cases q : 16 + 35 * n9 ≤ j ∧ j < 16 + 35 * n9 + k9
            · rw [if_pos q, if_pos (show 16 + 35 * n9 ≤ j ∧ j < 16 + 35 * n9 + (k9 + 1) from ⟨q.1, by omega⟩)]
            · rw [if_neg q, if_neg (show ¬ (16 + 35 * n9 ≤ j ∧ j < 16 + 35 * n9 + (k9 + 1)) by omega)]
          · subst o; rw [up_s, if_pos (show 16 + 35 * n9 ≤ 16 + 35 * n9 + k9 ∧ 16 + 35 * n9 + k9 < 16 + 35 * n9 + (k9 + 1) from ⟨by omega, by omega⟩), if_neg (by omega)]
        · refine V_iconst C dX7_comes_35 ?_
          refine V_goto C dX7_comes_36 (tgt := 40) (by decide) ?_
          refine V_iast C dX7_comes_40 (by repeat (first | with_reducible assumption | with_reducible exact mset_self _ _ _ | refine (mset_ne (by omega)).trans ?_)) (by (try simp only [mset_1]); omega) (by omega) (by omega) (show _ = 16 + 35 * n9 + k9 by omega) ?_
          refine V_iinc C dX7_comes_41 rfl (by decide) ?_
          refine V_goto C dX7_comes_44 (tgt := 13) (by decide) ?_
          refine V_lv [(0, .ref (z + 331)), (1, iv d), (2, iv w), (3, iv (16 + 35 * (n9 : Int))), (4, iv (((k9 + 1 : Nat) : Int)))] (List.forall_mem_cons.mpr ⟨(by first | rfl | exact congrArg (fun t => some (iv t)) (by push_cast; omega)), (List.forall_mem_cons.mpr ⟨(by first | rfl | exact congrArg (fun t => some (iv t)) (by push_cast; omega)), (List.forall_mem_cons.mpr ⟨(by first | rfl | exact congrArg (fun t => some (iv t)) (by push_cast; omega)), (List.forall_mem_cons.mpr ⟨(by first | rfl | exact congrArg (fun t => some (iv t)) (by push_cast; omega)), (List.forall_mem_cons.mpr ⟨(by first | rfl | exact congrArg (fun t => some (iv t)) (by push_cast; omega)), (fun _ h => nomatch h)⟩)⟩)⟩)⟩)⟩) ?_
          refine ih (k9 + 1) _ _ (by omega) (hi1.ts ⟨by omega, by omega⟩) hi2.nows (fun j => ?_) (by omega)
          rcases Nat.decEq j (16 + 35 * n9 + k9) with o | o
          · rw [up_n o, hi3 j]
            by_cases q : 16 + 35 * n9 ≤ j ∧ j < 16 + 35 * n9 + k9
            · rw [if_pos q, if_pos (show 16 + 35 * n9 ≤ j ∧ j < 16 + 35 * n9 + (k9 + 1) from ⟨q.1, by omega⟩)]
            · rw [if_neg q, if_neg (show ¬ (16 + 35 * n9 ≤ j ∧ j < 16 + 35 * n9 + (k9 + 1)) by omega)]
          · subst o; rw [up_s, if_pos (show 16 + 35 * n9 ≤ 16 + 35 * n9 + k9 ∧ 16 + 35 * n9 + k9 < 16 + 35 * n9 + (k9 + 1) from ⟨by omega, by omega⟩), if_pos (by omega)]
  refine V_lv [(0, .ref (z + 331)), (1, iv d), (2, iv w), (3, iv (16 + 35 * (n9 : Int))), (4, iv (((0 : Nat) : Int)))] (List.forall_mem_cons.mpr ⟨(by first | rfl | exact congrArg (fun t => some (iv t)) (by omega)), (List.forall_mem_cons.mpr ⟨(by first | rfl | exact congrArg (fun t => some (iv t)) (by omega)), (List.forall_mem_cons.mpr ⟨(by first | rfl | exact congrArg (fun t => some (iv t)) (by omega)), (List.forall_mem_cons.mpr ⟨(by first | rfl | exact congrArg (fun t => some (iv t)) (by omega)), (List.forall_mem_cons.mpr ⟨(by first | rfl | exact congrArg (fun t => some (iv t)) (by omega)), (fun _ h => nomatch h)⟩)⟩)⟩)⟩)⟩) ?_
  exact loop 36 0 N M (by omega) (Sm.rf _ _) hM (fun j => by rw [if_neg (by omega)]) (by omega)

set_option maxHeartbeats 400000 in
set_option maxRecDepth 4000 in
theorem ok_X7_file {l : Launch} {D : va_G} {cy : Nat → ClassId} {z : Nat} {M : Mm} {K : Option Value → Mm → Prop} {u N P A tx fr tl : Nat → Int} (hM : ModAt cy z M u N P A tx fr tl) {S : SD} (hRw : RowOf N S) (hB : SB S) (hJ : IS S) {c9 : Nat} (hc : u 0 = c9) (hc9 : c9 ≤ 4) {w : Int} (hw9 : w = 0 ∨ w = 1) (hX : ¬ (sN S < 10 ∧ sc S 0 ≤ 18262) → ∀ M', Sm M M' P7 → ModAt cy z M' (va_up u 1 1) N P A tx fr tl → K (some (iv 0)) M') (hK : sN S < 10 ∧ sc S 0 ≤ 18262 → ∀ M' u' P' N', Sm M M' P7 → ModAt cy z M' u' N' P' A tx fr tl → u' 0 = (if c9 < 4 then (c9 : Int) + 1 else 4) → u' 1 = 0 → u' 2 = u 2 → P' = psv P N c9 → RowOf N' (addS S (sc S 0) w) → K (some (iv (sN S : Int))) M') :
    MT l D cy z false yX7_file (wsy yX7_file cX7_file 2 (some .int)) 2 44 0 0 M [.ref (z + 331), iv w] K := by
  refine MT_of (by decide) w_916 (Nat.le_of_ble_eq_true rfl) ?_
  intro p e s m args below meth c C hr hx0
  have hM9 := hM
  obtain ⟨gn, g0, g1, g2, g3, g4, g5, g6⟩ := id hM
  have hB9 := hB
  have hr9 := hRw
  have hJ9 := hJ
  obtain ⟨e0, e1, e2, eH, eh, e9, e10, e11, e12, e13, e14, e15, eR⟩ := id hRw
  obtain ⟨d0, d1, d2, d4, d5, d6, dH, dR⟩ := id hB
  have dT := hJ.2.1
  refine V_aload_n C dX7_file_0 rfl ?_
  refine V_aload_n C dX7_file_1 rfl ?_
  refine V_get C fg_X7_7 dX7_file_2 (by repeat (first | with_reducible assumption | with_reducible exact mset_self _ _ _ | refine (mset_ne (by omega)).trans ?_)) (by (try simp only [mset_1]); omega) (by rfl) ?_
  refine V_iconst C dX7_file_5 ?_
  refine V_iald C dX7_file_6 (by repeat (first | with_reducible assumption | with_reducible exact mset_self _ _ _ | refine (mset_ne (by omega)).trans ?_)) (by (try simp only [mset_1]); omega) (by omega) (by omega) (show ((1 : Int)).toNat = 1 from rfl) ?_
  rw [e1]
  refine V_bipush C dX7_file_7 (by decide) ?_
  refine V_icmp_eq C dX7_file_9 (tgt := 26) (by decide) (by omega) (by omega) (fun g9 => ?_) (fun g9 => ?_)
  · refine V_iconst C dX7_file_26 ?_
    refine V_goto C dX7_file_27 (tgt := 31) (by decide) ?_
    refine V_callV (fr := 0) (lo := 0) (mc := 0) (ms := 0) (As := [_]) C yvX7_refused w_849 dX7_file_31 rfl rfl (by repeat (first | with_reducible assumption | with_reducible exact mset_self _ _ _ | refine (mset_ne (by omega)).trans ?_)) (by (try simp only [mset_1]); omega) rfl rfl (Nat.le_of_ble_eq_true rfl) ⟨Nat.le_of_ble_eq_true rfl, Nat.le_of_ble_eq_true rfl⟩ ⟨Nat.le_of_ble_eq_true rfl, Nat.le_of_ble_eq_true rfl⟩ ?_
    refine ok_X7_refused hM9 (by omega) (fun _ M1 s1 x1 => ?_) (fun o => absurd o (by decide))
    have hM9 := x1
    obtain ⟨gn, g0, g1, g2, g3, g4, g5, g6⟩ := id hM9
    refine V_ifeq1 C dX7_file_34 (tgt := 39) (by decide) ?_
    refine V_iconst C dX7_file_37 ?_
    exact V_iret C hr dX7_file_38 (hX (fun o => by omega) _ (P7_331 s1) x1)
  · refine V_aload_n C dX7_file_12 rfl ?_
    refine V_get C fg_X7_7 dX7_file_13 (by repeat (first | with_reducible assumption | with_reducible exact mset_self _ _ _ | refine (mset_ne (by omega)).trans ?_)) (by (try simp only [mset_1]); omega) (by rfl) ?_
    refine V_iconst C dX7_file_16 ?_
    refine V_iald C dX7_file_17 (by repeat (first | with_reducible assumption | with_reducible exact mset_self _ _ _ | refine (mset_ne (by omega)).trans ?_)) (by (try simp only [mset_1]); omega) (by omega) (by omega) (show ((0 : Int)).toNat = 0 from rfl) ?_
    rw [e0]
    refine V_bipush C dX7_file_18 (by decide) ?_
    refine V_callS (fr := 1) (lo := 20) (mc := 0) (ms := 0) (As := [_]) C ysX7_lastOf w_857 dX7_file_20 rfl rfl (Nat.le_of_ble_eq_true rfl) ⟨Nat.le_of_ble_eq_true rfl, Nat.le_of_ble_eq_true rfl⟩ ⟨Nat.le_of_ble_eq_true rfl, Nat.le_of_ble_eq_true rfl⟩ ?_
    refine ok_X7_lastOf (by omega) ?_
    rw [show ny (49 + 1) - 1 = 18262 by decide]
    refine V_icmp_le C dX7_file_23 (tgt := 30) (by decide) (by omega) (by omega) (fun g23 => ?_) (fun g23 => ?_)
    · refine V_iconst C dX7_file_30 ?_
      refine V_callV (fr := 0) (lo := 0) (mc := 0) (ms := 0) (As := [_]) C yvX7_refused w_849 dX7_file_31 rfl rfl (by repeat (first | with_reducible assumption | with_reducible exact mset_self _ _ _ | refine (mset_ne (by omega)).trans ?_)) (by (try simp only [mset_1]); omega) rfl rfl (Nat.le_of_ble_eq_true rfl) ⟨Nat.le_of_ble_eq_true rfl, Nat.le_of_ble_eq_true rfl⟩ ⟨Nat.le_of_ble_eq_true rfl, Nat.le_of_ble_eq_true rfl⟩ ?_
      refine ok_X7_refused hM9 (by omega) (fun o => absurd o (by decide)) (fun _ M1 s1 x1 => ?_)
      have hM9 := x1
      obtain ⟨gn, g0, g1, g2, g3, g4, g5, g6⟩ := id hM9
      refine V_ifeq0 C dX7_file_34 (tgt := 39) (by decide) ?_
      refine V_aload_n C dX7_file_39 rfl ?_
      refine V_callV (fr := 0) (lo := 0) (mc := 0) (ms := 0) (As := []) C yvX7_saves w_905 dX7_file_40 rfl rfl (by repeat (first | with_reducible assumption | with_reducible exact mset_self _ _ _ | refine (mset_ne (by omega)).trans ?_)) (by (try simp only [mset_1]); omega) rfl rfl (Nat.le_of_ble_eq_true rfl) ⟨Nat.le_of_ble_eq_true rfl, Nat.le_of_ble_eq_true rfl⟩ ⟨Nat.le_of_ble_eq_true rfl, Nat.le_of_ble_eq_true rfl⟩ ?_
      refine ok_X7_saves hM9 hc hc9 (fun M2 u2 P2 s2 x2 a0 aj aP => ?_)
      have hM9 := x2
      obtain ⟨gn, g0, g1, g2, g3, g4, g5, g6⟩ := id hM9
      refine V_aload_n C dX7_file_43 rfl ?_
      refine V_aload_n C dX7_file_44 rfl ?_
      refine V_get C fg_X7_7 dX7_file_45 (by repeat (first | with_reducible assumption | with_reducible exact mset_self _ _ _ | refine (mset_ne (by omega)).trans ?_)) (by (try simp only [mset_1]); omega) (by rfl) ?_
      refine V_iconst C dX7_file_48 ?_
      refine V_iald C dX7_file_49 (by repeat (first | with_reducible assumption | with_reducible exact mset_self _ _ _ | refine (mset_ne (by omega)).trans ?_)) (by (try simp only [mset_1]); omega) (by omega) (by omega) (show ((0 : Int)).toNat = 0 from rfl) ?_
      rw [e0]
      refine V_iload_n C dX7_file_50 rfl ?_
      refine V_callV (fr := 1) (lo := 20) (mc := 0) (ms := 0) (As := [_, _]) C yvX7_comes w_917 dX7_file_51 rfl rfl (by repeat (first | with_reducible assumption | with_reducible exact mset_self _ _ _ | refine (mset_ne (by omega)).trans ?_)) (by (try simp only [mset_1]); omega) rfl rfl (Nat.le_of_ble_eq_true rfl) ⟨Nat.le_of_ble_eq_true rfl, Nat.le_of_ble_eq_true rfl⟩ ⟨Nat.le_of_ble_eq_true rfl, Nat.le_of_ble_eq_true rfl⟩ ?_
      refine ok_X7_comes hM9 (n9 := sN S) (by omega) e1 hw9 (fun M3 s3 x3 => ?_)
      exact V_iret C hr dX7_file_54 (hK ⟨by omega, by omega⟩ _ _ _ _ (((P7_331 s1).trans s2).trans s3) x3 a0 (aj 1 (by omega)) (aj 2 (by omega)) aP (RowOf_add hr9 hB9 (by omega)))
    · refine V_iconst C dX7_file_26 ?_
      refine V_goto C dX7_file_27 (tgt := 31) (by decide) ?_
      refine V_callV (fr := 0) (lo := 0) (mc := 0) (ms := 0) (As := [_]) C yvX7_refused w_849 dX7_file_31 rfl rfl (by repeat (first | with_reducible assumption | with_reducible exact mset_self _ _ _ | refine (mset_ne (by omega)).trans ?_)) (by (try simp only [mset_1]); omega) rfl rfl (Nat.le_of_ble_eq_true rfl) ⟨Nat.le_of_ble_eq_true rfl, Nat.le_of_ble_eq_true rfl⟩ ⟨Nat.le_of_ble_eq_true rfl, Nat.le_of_ble_eq_true rfl⟩ ?_
      refine ok_X7_refused hM9 (by omega) (fun _ M1 s1 x1 => ?_) (fun o => absurd o (by decide))
      have hM9 := x1
      obtain ⟨gn, g0, g1, g2, g3, g4, g5, g6⟩ := id hM9
      refine V_ifeq1 C dX7_file_34 (tgt := 39) (by decide) ?_
      refine V_iconst C dX7_file_37 ?_
      exact V_iret C hr dX7_file_38 (hX (fun o => by omega) _ (P7_331 s1) x1)

