/-! the next fee is paid (X7), walked -/
set_option maxHeartbeats 1000000 in
set_option maxRecDepth 4000 in
theorem ok_X7_paysNext {l : Launch} {D : va_G} {cy : Nat → ClassId} {z : Nat} {M : Mm} {K : Option Value → Mm → Prop} {u N P A tx fr tl : Nat → Int} (hM : ModAt cy z M u N P A tx fr tl) {S : SD} (hRw : RowOf N S) (hB : SB S) (hJ : IS S) {i : Nat} (hi : i < sN S) (h9 : RF S i 3 < 19) {b : Int} (hb : b = 1 ∧ yv (RA S i 0) (-1) (RF S i 3 + 1) < sc S 0 ∨ b = 0 ∧ ¬ yv (RA S i 0) (-1) (RF S i 3 + 1) < sc S 0) (hK : ∀ M' N', Sm M M' P7 → ModAt cy z M' u N' P A tx fr tl → RowOf N' (payS S i) → K (some (iv (priceT S i (RF S i 3 + 1)))) M') :
    MT l D cy z false yX7_paysNext (wsy yX7_paysNext cX7_paysNext 6 (some .int)) 3 65 0 0 M [.ref (z + 331), iv (i : Int), iv b] K := by
  refine MT_of (by decide) w_971 (Nat.le_of_ble_eq_true rfl) ?_
  intro p e s m args below meth c C hr hx0
  have hM9 := hM
  obtain ⟨gn, g0, g1, g2, g3, g4, g5, g6⟩ := id hM
  have hB9 := hB
  have hr9 := hRw
  have hJ9 := hJ
  obtain ⟨e0, e1, e2, eH, eh, e9, e10, e11, e12, e13, e14, e15, eR⟩ := id hRw
  obtain ⟨d0, d1, d2, d4, d5, d6, dH, dR⟩ := id hB
  have dT := hJ.2.1
  have rt := eR i hi
  obtain ⟨w0, w1, w2, w3, w4, w5, w6, w7⟩ := id rt
  have ri := hJ.2.2 i hi
  have hi10 : i < 10 := by omega
  have rb := dR i hi10
  obtain ⟨b0, b1, b2, b3, b4⟩ := id rb
  have ri0 := ri.1
  have ri1 := ri.2.1
  have nx := nxt_rng (F := RF S i) b3
  refine V_aload_n C dX7_paysNext_0 rfl ?_
  refine V_iload_n C dX7_paysNext_1 rfl ?_
  refine V_callV (fr := 2) (lo := 42) (mc := 0) (ms := 0) (As := [_]) C yvX7_nextOf w_936 dX7_paysNext_2 rfl rfl (by repeat (first | with_reducible assumption | with_reducible exact mset_self _ _ _ | refine (mset_ne (by omega)).trans ?_)) (by (try simp only [mset_1]); omega) rfl rfl (Nat.le_of_ble_eq_true rfl) ⟨Nat.le_of_ble_eq_true rfl, Nat.le_of_ble_eq_true rfl⟩ ⟨Nat.le_of_ble_eq_true rfl, Nat.le_of_ble_eq_true rfl⟩ ?_
  refine ok_X7_nextOf hM9 hr9 hB9 hJ9 hi ?_
  have en : nxt (RF S i) = RF S i 3 + 1 := by omega
  rw [en]
  refine V_istore_n C dX7_paysNext_5 (by decide) ?_
  refine V_aload_n C dX7_paysNext_6 rfl ?_
  refine V_iload_n C dX7_paysNext_7 rfl ?_
  refine V_iload_n C dX7_paysNext_8 rfl ?_
  refine V_callV (fr := 2) (lo := 42) (mc := 0) (ms := 0) (As := [_, _]) C yvX7_feeOf w_972 dX7_paysNext_9 rfl rfl (by repeat (first | with_reducible assumption | with_reducible exact mset_self _ _ _ | refine (mset_ne (by omega)).trans ?_)) (by (try simp only [mset_1]); omega) rfl rfl (Nat.le_of_ble_eq_true rfl) ⟨Nat.le_of_ble_eq_true rfl, Nat.le_of_ble_eq_true rfl⟩ ⟨Nat.le_of_ble_eq_true rfl, Nat.le_of_ble_eq_true rfl⟩ ?_
  refine ok_X7_feeOf hM9 hr9 hB9 hJ9 hi (by omega) ?_
  refine V_istore C dX7_paysNext_12 (by decide) ?_
  have f9 := feeS_rng (w := RF S i 2) d4 d5 (y := RF S i 3 + 1) (by omega)
  have f8 : 0 ≤ feeT S i (RF S i 3 + 1) ∧ feeT S i (RF S i 3 + 1) ≤ 30000 := f9
  refine V_iload_n C dX7_paysNext_14 rfl ?_
  refine V_if_eq C dX7_paysNext_15 (tgt := 27) (by decide) (by omega) (fun g15 => ?_) (fun g15 => ?_)
  · refine V_iconst C dX7_paysNext_27 ?_
    refine V_istore C dX7_paysNext_28 (by decide) ?_
    have pm : (0 : Int) = surT S i (RF S i 3 + 1) := by unfold surT; rw [if_neg (by omega)]
    have pe : feeT S i (RF S i 3 + 1) + (0 : Int) = priceT S i (RF S i 3 + 1) := by unfold priceT; rw [if_neg (by omega), ← pm]
    refine V_aload_n C dX7_paysNext_30 rfl ?_
    refine V_get C fg_X7_7 dX7_paysNext_31 (by repeat (first | with_reducible assumption | with_reducible exact mset_self _ _ _ | refine (mset_ne (by omega)).trans ?_)) (by (try simp only [mset_1]); omega) (by rfl) ?_
    refine V_iload_n C dX7_paysNext_34 rfl ?_
    refine V_callS (fr := 0) (lo := 0) (mc := 0) (ms := 0) (As := [_]) C ysX7_at w_921 dX7_paysNext_35 rfl rfl (Nat.le_of_ble_eq_true rfl) ⟨Nat.le_of_ble_eq_true rfl, Nat.le_of_ble_eq_true rfl⟩ ⟨Nat.le_of_ble_eq_true rfl, Nat.le_of_ble_eq_true rfl⟩ ?_
    refine ok_X7_at ?_
    refine V_bipush C dX7_paysNext_38 (by decide) ?_
    refine V_iadd C dX7_paysNext_40 ?_
    refine V_iload_n C dX7_paysNext_41 rfl ?_
    refine V_iadd C dX7_paysNext_42 ?_
    refine V_iconst C dX7_paysNext_43 ?_
    refine V_isub C dX7_paysNext_44 ?_
    refine V_aload_n C dX7_paysNext_45 rfl ?_
    refine V_get C fg_X7_7 dX7_paysNext_46 (by repeat (first | with_reducible assumption | with_reducible exact mset_self _ _ _ | refine (mset_ne (by omega)).trans ?_)) (by (try simp only [mset_1]); omega) (by rfl) ?_
    refine V_iconst C dX7_paysNext_49 ?_
    refine V_iald C dX7_paysNext_50 (by repeat (first | with_reducible assumption | with_reducible exact mset_self _ _ _ | refine (mset_ne (by omega)).trans ?_)) (by (try simp only [mset_1]); omega) (by omega) (by omega) (show ((0 : Int)).toNat = 0 from rfl) ?_
    refine V_iast C dX7_paysNext_51 (by repeat (first | with_reducible assumption | with_reducible exact mset_self _ _ _ | refine (mset_ne (by omega)).trans ?_)) (by (try simp only [mset_1]); omega) (by omega) (by omega) (show _ = 16 + 35 * i + 5 + (RF S i 3 + 1).toNat by omega) ?_
    refine V_aload_n C dX7_paysNext_52 rfl ?_
    refine V_get C fg_X7_7 dX7_paysNext_53 (by repeat (first | with_reducible assumption | with_reducible exact mset_self _ _ _ | refine (mset_ne (by omega)).trans ?_)) (by (try simp only [mset_1]); omega) (by rfl) ?_
    refine V_iload_n C dX7_paysNext_56 rfl ?_
    refine V_callS (fr := 0) (lo := 0) (mc := 0) (ms := 0) (As := [_]) C ysX7_at w_921 dX7_paysNext_57 rfl rfl (Nat.le_of_ble_eq_true rfl) ⟨Nat.le_of_ble_eq_true rfl, Nat.le_of_ble_eq_true rfl⟩ ⟨Nat.le_of_ble_eq_true rfl, Nat.le_of_ble_eq_true rfl⟩ ?_
    refine ok_X7_at ?_
    refine V_iconst C dX7_paysNext_60 ?_
    refine V_iadd C dX7_paysNext_61 ?_
    refine V_dup2 C dX7_paysNext_62 rfl rfl ?_
    refine V_iald C dX7_paysNext_63 (by repeat (first | with_reducible assumption | with_reducible exact mset_self _ _ _ | refine (mset_ne (by omega)).trans ?_)) (by (try simp only [mset_1]); omega) (by omega) (by omega) (show _ = 16 + 35 * i + 2 by omega) ?_
    refine V_iconst C dX7_paysNext_64 ?_
    refine V_iadd C dX7_paysNext_65 ?_
    refine V_iast C dX7_paysNext_66 (by repeat (first | with_reducible assumption | with_reducible exact mset_self _ _ _ | refine (mset_ne (by omega)).trans ?_)) (by (try simp only [mset_1]); omega) (by omega) (by omega) (show _ = 16 + 35 * i + 2 by omega) ?_
    refine V_aload_n C dX7_paysNext_67 rfl ?_
    refine V_get C fg_X7_7 dX7_paysNext_68 (by repeat (first | with_reducible assumption | with_reducible exact mset_self _ _ _ | refine (mset_ne (by omega)).trans ?_)) (by (try simp only [mset_1]); omega) (by rfl) ?_
    refine V_iload_n C dX7_paysNext_71 rfl ?_
    refine V_callS (fr := 0) (lo := 0) (mc := 0) (ms := 0) (As := [_]) C ysX7_at w_921 dX7_paysNext_72 rfl rfl (Nat.le_of_ble_eq_true rfl) ⟨Nat.le_of_ble_eq_true rfl, Nat.le_of_ble_eq_true rfl⟩ ⟨Nat.le_of_ble_eq_true rfl, Nat.le_of_ble_eq_true rfl⟩ ?_
    refine ok_X7_at ?_
    refine V_iconst C dX7_paysNext_75 ?_
    refine V_iadd C dX7_paysNext_76 ?_
    refine V_dup2 C dX7_paysNext_77 rfl rfl ?_
    refine V_iald C dX7_paysNext_78 (by repeat (first | with_reducible assumption | with_reducible exact mset_self _ _ _ | refine (mset_ne (by omega)).trans ?_)) (by (try simp only [mset_1]); omega) (by omega) (by omega) (show _ = 16 + 35 * i + 3 by omega) ?_
    refine V_iload C dX7_paysNext_79 rfl ?_
    refine V_iload C dX7_paysNext_81 rfl ?_
    refine V_iadd C dX7_paysNext_83 ?_
    refine V_iadd C dX7_paysNext_84 ?_
    refine V_iast C dX7_paysNext_85 (by repeat (first | with_reducible assumption | with_reducible exact mset_self _ _ _ | refine (mset_ne (by omega)).trans ?_)) (by (try simp only [mset_1]); omega) (by omega) (by omega) (show _ = 16 + 35 * i + 3 by omega) ?_
    refine V_aload_n C dX7_paysNext_86 rfl ?_
    refine V_get C fg_X7_7 dX7_paysNext_87 (by repeat (first | with_reducible assumption | with_reducible exact mset_self _ _ _ | refine (mset_ne (by omega)).trans ?_)) (by (try simp only [mset_1]); omega) (by rfl) ?_
    refine V_bipush C dX7_paysNext_90 (by decide) ?_
    refine V_dup2 C dX7_paysNext_92 rfl rfl ?_
    refine V_iald C dX7_paysNext_93 (by repeat (first | with_reducible assumption | with_reducible exact mset_self _ _ _ | refine (mset_ne (by omega)).trans ?_)) (by (try simp only [mset_1]); omega) (by omega) (by omega) (show ((13 : Int)).toNat = 13 from rfl) ?_
    refine V_iload C dX7_paysNext_94 rfl ?_
    refine V_iload C dX7_paysNext_96 rfl ?_
    refine V_iadd C dX7_paysNext_98 ?_
    refine V_iadd C dX7_paysNext_99 ?_
    refine V_iast C dX7_paysNext_100 (by repeat (first | with_reducible assumption | with_reducible exact mset_self _ _ _ | refine (mset_ne (by omega)).trans ?_)) (by (try simp only [mset_1]); omega) (by omega) (by omega) (show ((13 : Int)).toNat = 13 from rfl) ?_
    refine V_aload_n C dX7_paysNext_101 rfl ?_
    refine V_get C fg_X7_7 dX7_paysNext_102 (by repeat (first | with_reducible assumption | with_reducible exact mset_self _ _ _ | refine (mset_ne (by omega)).trans ?_)) (by (try simp only [mset_1]); omega) (by rfl) ?_
    refine V_bipush C dX7_paysNext_105 (by decide) ?_
    refine V_dup2 C dX7_paysNext_107 rfl rfl ?_
    refine V_iald C dX7_paysNext_108 (by repeat (first | with_reducible assumption | with_reducible exact mset_self _ _ _ | refine (mset_ne (by omega)).trans ?_)) (by (try simp only [mset_1]); omega) (by omega) (by omega) (show ((14 : Int)).toNat = 14 from rfl) ?_
    refine V_iload C dX7_paysNext_109 rfl ?_
    refine V_iadd C dX7_paysNext_111 ?_
    refine V_iast C dX7_paysNext_112 (by repeat (first | with_reducible assumption | with_reducible exact mset_self _ _ _ | refine (mset_ne (by omega)).trans ?_)) (by (try simp only [mset_1]); omega) (by omega) (by omega) (show ((14 : Int)).toNat = 14 from rfl) ?_
    refine V_iload C dX7_paysNext_113 rfl ?_
    refine V_iload C dX7_paysNext_115 rfl ?_
    refine V_iadd C dX7_paysNext_117 ?_
    exact V_iret C hr dX7_paysNext_118 (K_of (hK _ _ (((((Sm.set ⟨by omega, by omega⟩).ts ⟨by omega, by omega⟩).ts ⟨by omega, by omega⟩).ts ⟨by omega, by omega⟩).ts ⟨by omega, by omega⟩) hM9.nows.nows.nows.nows.nows (RowOf_pay hr9 hB9 hi h9 (fun j a b c d e => (up_n e).trans ((up_n d).trans ((up_n c).trans ((up_n b).trans (up_n a))))) ((up_n (by omega)).trans ((up_n (by omega)).trans ((up_n (by omega)).trans ((up_n (by omega)).trans ((up_s _ _ _).trans e0))))) ((up_n (by omega)).trans ((up_n (by omega)).trans ((up_n (by omega)).trans ((up_s _ _ _).trans (by rw [up_n (by omega), w2]))))) ((up_n (by omega)).trans ((up_n (by omega)).trans ((up_s _ _ _).trans (by rw [up_n (by omega), up_n (by omega), w3, pe])))) ((up_n (by omega)).trans ((up_s _ _ _).trans (by rw [up_n (by omega), up_n (by omega), up_n (by omega), e13, pe]))) ((up_s _ _ _).trans (by rw [up_n (by omega), up_n (by omega), up_n (by omega), up_n (by omega), e14, ← pm])))) pe)
  · refine V_aload_n C dX7_paysNext_18 rfl ?_
    refine V_iload C dX7_paysNext_19 rfl ?_
    refine V_callV (fr := 0) (lo := 0) (mc := 0) (ms := 0) (As := [_]) C yvX7_surchargeOn w_976 dX7_paysNext_21 rfl rfl (by repeat (first | with_reducible assumption | with_reducible exact mset_self _ _ _ | refine (mset_ne (by omega)).trans ?_)) (by (try simp only [mset_1]); omega) rfl rfl (Nat.le_of_ble_eq_true rfl) ⟨Nat.le_of_ble_eq_true rfl, Nat.le_of_ble_eq_true rfl⟩ ⟨Nat.le_of_ble_eq_true rfl, Nat.le_of_ble_eq_true rfl⟩ ?_
    refine ok_X7_surchargeOn hM9 hr9 hB9 hJ9 (by omega) ?_
    refine V_goto C dX7_paysNext_24 (tgt := 28) (by decide) ?_
    refine V_istore C dX7_paysNext_28 (by decide) ?_
    have pm : surS (sc S 6) (feeT S i (RF S i 3 + 1)) = surT S i (RF S i 3 + 1) := by unfold surT; rw [if_pos (by omega)]
    have pe : feeT S i (RF S i 3 + 1) + surS (sc S 6) (feeT S i (RF S i 3 + 1)) = priceT S i (RF S i 3 + 1) := by unfold priceT; rw [if_neg (by omega), ← pm]
    refine V_aload_n C dX7_paysNext_30 rfl ?_
    refine V_get C fg_X7_7 dX7_paysNext_31 (by repeat (first | with_reducible assumption | with_reducible exact mset_self _ _ _ | refine (mset_ne (by omega)).trans ?_)) (by (try simp only [mset_1]); omega) (by rfl) ?_
    refine V_iload_n C dX7_paysNext_34 rfl ?_
    refine V_callS (fr := 0) (lo := 0) (mc := 0) (ms := 0) (As := [_]) C ysX7_at w_921 dX7_paysNext_35 rfl rfl (Nat.le_of_ble_eq_true rfl) ⟨Nat.le_of_ble_eq_true rfl, Nat.le_of_ble_eq_true rfl⟩ ⟨Nat.le_of_ble_eq_true rfl, Nat.le_of_ble_eq_true rfl⟩ ?_
    refine ok_X7_at ?_
    refine V_bipush C dX7_paysNext_38 (by decide) ?_
    refine V_iadd C dX7_paysNext_40 ?_
    refine V_iload_n C dX7_paysNext_41 rfl ?_
    refine V_iadd C dX7_paysNext_42 ?_
    refine V_iconst C dX7_paysNext_43 ?_
    refine V_isub C dX7_paysNext_44 ?_
    refine V_aload_n C dX7_paysNext_45 rfl ?_
    refine V_get C fg_X7_7 dX7_paysNext_46 (by repeat (first | with_reducible assumption | with_reducible exact mset_self _ _ _ | refine (mset_ne (by omega)).trans ?_)) (by (try simp only [mset_1]); omega) (by rfl) ?_
    refine V_iconst C dX7_paysNext_49 ?_
    refine V_iald C dX7_paysNext_50 (by repeat (first | with_reducible assumption | with_reducible exact mset_self _ _ _ | refine (mset_ne (by omega)).trans ?_)) (by (try simp only [mset_1]); omega) (by omega) (by omega) (show ((0 : Int)).toNat = 0 from rfl) ?_
    refine V_iast C dX7_paysNext_51 (by repeat (first | with_reducible assumption | with_reducible exact mset_self _ _ _ | refine (mset_ne (by omega)).trans ?_)) (by (try simp only [mset_1]); omega) (by omega) (by omega) (show _ = 16 + 35 * i + 5 + (RF S i 3 + 1).toNat by omega) ?_
    refine V_aload_n C dX7_paysNext_52 rfl ?_
    refine V_get C fg_X7_7 dX7_paysNext_53 (by repeat (first | with_reducible assumption | with_reducible exact mset_self _ _ _ | refine (mset_ne (by omega)).trans ?_)) (by (try simp only [mset_1]); omega) (by rfl) ?_
    refine V_iload_n C dX7_paysNext_56 rfl ?_
    refine V_callS (fr := 0) (lo := 0) (mc := 0) (ms := 0) (As := [_]) C ysX7_at w_921 dX7_paysNext_57 rfl rfl (Nat.le_of_ble_eq_true rfl) ⟨Nat.le_of_ble_eq_true rfl, Nat.le_of_ble_eq_true rfl⟩ ⟨Nat.le_of_ble_eq_true rfl, Nat.le_of_ble_eq_true rfl⟩ ?_
    refine ok_X7_at ?_
    refine V_iconst C dX7_paysNext_60 ?_
    refine V_iadd C dX7_paysNext_61 ?_
    refine V_dup2 C dX7_paysNext_62 rfl rfl ?_
    refine V_iald C dX7_paysNext_63 (by repeat (first | with_reducible assumption | with_reducible exact mset_self _ _ _ | refine (mset_ne (by omega)).trans ?_)) (by (try simp only [mset_1]); omega) (by omega) (by omega) (show _ = 16 + 35 * i + 2 by omega) ?_
    refine V_iconst C dX7_paysNext_64 ?_
    refine V_iadd C dX7_paysNext_65 ?_
    refine V_iast C dX7_paysNext_66 (by repeat (first | with_reducible assumption | with_reducible exact mset_self _ _ _ | refine (mset_ne (by omega)).trans ?_)) (by (try simp only [mset_1]); omega) (by omega) (by omega) (show _ = 16 + 35 * i + 2 by omega) ?_
    refine V_aload_n C dX7_paysNext_67 rfl ?_
    refine V_get C fg_X7_7 dX7_paysNext_68 (by repeat (first | with_reducible assumption | with_reducible exact mset_self _ _ _ | refine (mset_ne (by omega)).trans ?_)) (by (try simp only [mset_1]); omega) (by rfl) ?_
    refine V_iload_n C dX7_paysNext_71 rfl ?_
    refine V_callS (fr := 0) (lo := 0) (mc := 0) (ms := 0) (As := [_]) C ysX7_at w_921 dX7_paysNext_72 rfl rfl (Nat.le_of_ble_eq_true rfl) ⟨Nat.le_of_ble_eq_true rfl, Nat.le_of_ble_eq_true rfl⟩ ⟨Nat.le_of_ble_eq_true rfl, Nat.le_of_ble_eq_true rfl⟩ ?_
    refine ok_X7_at ?_
    refine V_iconst C dX7_paysNext_75 ?_
    refine V_iadd C dX7_paysNext_76 ?_
    refine V_dup2 C dX7_paysNext_77 rfl rfl ?_
    refine V_iald C dX7_paysNext_78 (by repeat (first | with_reducible assumption | with_reducible exact mset_self _ _ _ | refine (mset_ne (by omega)).trans ?_)) (by (try simp only [mset_1]); omega) (by omega) (by omega) (show _ = 16 + 35 * i + 3 by omega) ?_
    refine V_iload C dX7_paysNext_79 rfl ?_
    refine V_iload C dX7_paysNext_81 rfl ?_
    refine V_iadd C dX7_paysNext_83 ?_
    refine V_iadd C dX7_paysNext_84 ?_
    refine V_iast C dX7_paysNext_85 (by repeat (first | with_reducible assumption | with_reducible exact mset_self _ _ _ | refine (mset_ne (by omega)).trans ?_)) (by (try simp only [mset_1]); omega) (by omega) (by omega) (show _ = 16 + 35 * i + 3 by omega) ?_
    refine V_aload_n C dX7_paysNext_86 rfl ?_
    refine V_get C fg_X7_7 dX7_paysNext_87 (by repeat (first | with_reducible assumption | with_reducible exact mset_self _ _ _ | refine (mset_ne (by omega)).trans ?_)) (by (try simp only [mset_1]); omega) (by rfl) ?_
    refine V_bipush C dX7_paysNext_90 (by decide) ?_
    refine V_dup2 C dX7_paysNext_92 rfl rfl ?_
    refine V_iald C dX7_paysNext_93 (by repeat (first | with_reducible assumption | with_reducible exact mset_self _ _ _ | refine (mset_ne (by omega)).trans ?_)) (by (try simp only [mset_1]); omega) (by omega) (by omega) (show ((13 : Int)).toNat = 13 from rfl) ?_
    refine V_iload C dX7_paysNext_94 rfl ?_
    refine V_iload C dX7_paysNext_96 rfl ?_
    refine V_iadd C dX7_paysNext_98 ?_
    refine V_iadd C dX7_paysNext_99 ?_
    refine V_iast C dX7_paysNext_100 (by repeat (first | with_reducible assumption | with_reducible exact mset_self _ _ _ | refine (mset_ne (by omega)).trans ?_)) (by (try simp only [mset_1]); omega) (by omega) (by omega) (show ((13 : Int)).toNat = 13 from rfl) ?_
    refine V_aload_n C dX7_paysNext_101 rfl ?_
    refine V_get C fg_X7_7 dX7_paysNext_102 (by repeat (first | with_reducible assumption | with_reducible exact mset_self _ _ _ | refine (mset_ne (by omega)).trans ?_)) (by (try simp only [mset_1]); omega) (by rfl) ?_
    refine V_bipush C dX7_paysNext_105 (by decide) ?_
    refine V_dup2 C dX7_paysNext_107 rfl rfl ?_
    refine V_iald C dX7_paysNext_108 (by repeat (first | with_reducible assumption | with_reducible exact mset_self _ _ _ | refine (mset_ne (by omega)).trans ?_)) (by (try simp only [mset_1]); omega) (by omega) (by omega) (show ((14 : Int)).toNat = 14 from rfl) ?_
    refine V_iload C dX7_paysNext_109 rfl ?_
    refine V_iadd C dX7_paysNext_111 ?_
    refine V_iast C dX7_paysNext_112 (by repeat (first | with_reducible assumption | with_reducible exact mset_self _ _ _ | refine (mset_ne (by omega)).trans ?_)) (by (try simp only [mset_1]); omega) (by omega) (by omega) (show ((14 : Int)).toNat = 14 from rfl) ?_
    refine V_iload C dX7_paysNext_113 rfl ?_
    refine V_iload C dX7_paysNext_115 rfl ?_
    refine V_iadd C dX7_paysNext_117 ?_
    exact V_iret C hr dX7_paysNext_118 (K_of (hK _ _ (((((Sm.set ⟨by omega, by omega⟩).ts ⟨by omega, by omega⟩).ts ⟨by omega, by omega⟩).ts ⟨by omega, by omega⟩).ts ⟨by omega, by omega⟩) hM9.nows.nows.nows.nows.nows (RowOf_pay hr9 hB9 hi h9 (fun j a b c d e => (up_n e).trans ((up_n d).trans ((up_n c).trans ((up_n b).trans (up_n a))))) ((up_n (by omega)).trans ((up_n (by omega)).trans ((up_n (by omega)).trans ((up_n (by omega)).trans ((up_s _ _ _).trans e0))))) ((up_n (by omega)).trans ((up_n (by omega)).trans ((up_n (by omega)).trans ((up_s _ _ _).trans (by rw [up_n (by omega), w2]))))) ((up_n (by omega)).trans ((up_n (by omega)).trans ((up_s _ _ _).trans (by rw [up_n (by omega), up_n (by omega), w3, pe])))) ((up_n (by omega)).trans ((up_s _ _ _).trans (by rw [up_n (by omega), up_n (by omega), up_n (by omega), e13, pe]))) ((up_s _ _ _).trans (by rw [up_n (by omega), up_n (by omega), up_n (by omega), up_n (by omega), e14, ← pm])))) pe)

