/-! a right is revived (X7), walked -/
set_option maxHeartbeats 1000000 in
set_option maxRecDepth 4000 in
theorem ok_X7_revive {l : Launch} {D : va_G} {cy : Nat → ClassId} {z : Nat} {M : Mm} {K : Option Value → Mm → Prop} {u N P A tx fr tl : Nat → Int} (hM : ModAt cy z M u N P A tx fr tl) {S : SD} (hRw : RowOf N S) (hB : SB S) (hJ : IS S) {c9 : Nat} (hc : u 0 = c9) (hc9 : c9 ≤ 4) (hZ : ZS S) {r : Int} (hr32 : -2147483648 ≤ r ∧ r < 2147483648) (hX1 : ¬ (0 ≤ r ∧ r < sN S) → ∀ M', Sm M M' P7 → ModAt cy z M' (va_up u 1 1) N P A tx fr tl → K (some (iv 0)) M') (hX2 : ∀ i : Nat, r = i → i < sN S → ¬ canRevR S i → ∀ M', Sm M M' P7 → ModAt cy z M' (va_up u 1 2) N P A tx fr tl → K (some (iv 0)) M') (hK : ∀ i : Nat, r = i → i < sN S → canRevR S i → ∀ M' u' P' N', Sm M M' P7 → ModAt cy z M' u' N' P' A tx fr tl → u' 0 = (if c9 < 4 then (c9 : Int) + 1 else 4) → u' 1 = 0 → u' 2 = u 2 → P' = psv P N c9 → RowOf N' (revF i 19 (rvS S i) (sc S 7)).1 → K (some (iv (revF i 19 (rvS S i) (sc S 7)).2)) M') :
    MT l D cy z false yX7_revive (wsy yX7_revive cX7_revive 7 (some .int)) 7 154 0 0 M [.ref (z + 331), iv r] K := by
  refine MT_of (by decide) w_987 (Nat.le_of_ble_eq_true rfl) ?_
  intro p e s m args below meth c C hr hx0
  have hM9 := hM
  obtain ⟨gn, g0, g1, g2, g3, g4, g5, g6⟩ := id hM
  have hB9 := hB
  have hr9 := hRw
  have hJ9 := hJ
  obtain ⟨e0, e1, e2, eH, eh, e9, e10, e11, e12, e13, e14, e15, eR⟩ := id hRw
  obtain ⟨d0, d1, d2, d4, d5, d6, dH, dR⟩ := id hB
  have dT := hJ.2.1
  refine V_aload_n C dX7_revive_0 rfl ?_
  refine V_aload_n C dX7_revive_1 rfl ?_
  refine V_iload_n C dX7_revive_2 rfl ?_
  refine V_callV (fr := 1) (lo := 22) (mc := 0) (ms := 0) (As := [_]) C yvX7_isRight w_952 dX7_revive_3 rfl rfl (by repeat (first | with_reducible assumption | with_reducible exact mset_self _ _ _ | refine (mset_ne (by omega)).trans ?_)) (by (try simp only [mset_1]); omega) rfl rfl (Nat.le_of_ble_eq_true rfl) ⟨Nat.le_of_ble_eq_true rfl, Nat.le_of_ble_eq_true rfl⟩ ⟨Nat.le_of_ble_eq_true rfl, Nat.le_of_ble_eq_true rfl⟩ ?_
  refine ok_X7_isRight hM9 hr9 hB9 hJ9 (by omega) (fun i ia hi => ?_) (fun hw9 => ?_)
  · subst ia
    have rt := eR i hi
    obtain ⟨w0, w1, w2, w3, w4, w5, w6, w7⟩ := id rt
    have ri := hJ.2.2 i hi
    have hi10 : i < 10 := by omega
    have rb := dR i hi10
    obtain ⟨b0, b1, b2, b3, b4⟩ := id rb
    have ri0 := ri.1
    have ri1 := ri.2.1
    refine V_ifne1 C dX7_revive_6 (tgt := 13) (by decide) ?_
    refine V_aload_n C dX7_revive_13 rfl ?_
    refine V_iload_n C dX7_revive_14 rfl ?_
    refine V_callV (fr := 6) (lo := 133) (mc := 0) (ms := 0) (As := [_]) C yvX7_canRevive w_988 dX7_revive_15 rfl rfl (by repeat (first | with_reducible assumption | with_reducible exact mset_self _ _ _ | refine (mset_ne (by omega)).trans ?_)) (by (try simp only [mset_1]); omega) rfl rfl (Nat.le_of_ble_eq_true rfl) ⟨Nat.le_of_ble_eq_true rfl, Nat.le_of_ble_eq_true rfl⟩ ⟨Nat.le_of_ble_eq_true rfl, Nat.le_of_ble_eq_true rfl⟩ ?_
    refine ok_X7_canRevive hM9 hr9 hB9 hJ9 hi (fun hcr => ?_) (fun hcr => ?_)
    · refine V_ifeq1 C dX7_revive_18 (tgt := 25) (by decide) ?_
      refine V_iconst C dX7_revive_21 ?_
      refine V_goto C dX7_revive_22 (tgt := 26) (by decide) ?_
      refine V_callV (fr := 0) (lo := 0) (mc := 0) (ms := 0) (As := [_]) C yvX7_refused w_849 dX7_revive_26 rfl rfl (by repeat (first | with_reducible assumption | with_reducible exact mset_self _ _ _ | refine (mset_ne (by omega)).trans ?_)) (by (try simp only [mset_1]); omega) rfl rfl (Nat.le_of_ble_eq_true rfl) ⟨Nat.le_of_ble_eq_true rfl, Nat.le_of_ble_eq_true rfl⟩ ⟨Nat.le_of_ble_eq_true rfl, Nat.le_of_ble_eq_true rfl⟩ ?_
      refine ok_X7_refused hM9 (by omega) (fun o => absurd o (by decide)) (fun _ M1 s1 x1 => ?_)
      have hM9 := x1
      obtain ⟨gn, g0, g1, g2, g3, g4, g5, g6⟩ := id hM9
      refine V_ifeq0 C dX7_revive_29 (tgt := 34) (by decide) ?_
      refine V_aload_n C dX7_revive_34 rfl ?_
      refine V_callV (fr := 0) (lo := 0) (mc := 0) (ms := 0) (As := []) C yvX7_saves w_905 dX7_revive_35 rfl rfl (by repeat (first | with_reducible assumption | with_reducible exact mset_self _ _ _ | refine (mset_ne (by omega)).trans ?_)) (by (try simp only [mset_1]); omega) rfl rfl (Nat.le_of_ble_eq_true rfl) ⟨Nat.le_of_ble_eq_true rfl, Nat.le_of_ble_eq_true rfl⟩ ⟨Nat.le_of_ble_eq_true rfl, Nat.le_of_ble_eq_true rfl⟩ ?_
      refine ok_X7_saves hM9 hc hc9 (fun M2 u2 P2 s2 x2 a0 aj aP => ?_)
      have hM9 := x2
      obtain ⟨gn, g0, g1, g2, g3, g4, g5, g6⟩ := id hM9
      have h9 := hcr.1.1
      refine V_iload_n C dX7_revive_38 rfl ?_
      refine V_callS (fr := 0) (lo := 0) (mc := 0) (ms := 0) (As := [_]) C ysX7_at w_921 dX7_revive_39 rfl rfl (Nat.le_of_ble_eq_true rfl) ⟨Nat.le_of_ble_eq_true rfl, Nat.le_of_ble_eq_true rfl⟩ ⟨Nat.le_of_ble_eq_true rfl, Nat.le_of_ble_eq_true rfl⟩ ?_
      refine ok_X7_at ?_
      refine V_istore_n C dX7_revive_42 (by decide) ?_
      refine V_aload_n C dX7_revive_43 rfl ?_
      refine V_get C fg_X7_7 dX7_revive_44 (by repeat (first | with_reducible assumption | with_reducible exact mset_self _ _ _ | refine (mset_ne (by omega)).trans ?_)) (by (try simp only [mset_1]); omega) (by rfl) ?_
      refine V_bipush C dX7_revive_47 (by decide) ?_
      refine V_iald C dX7_revive_49 (by repeat (first | with_reducible assumption | with_reducible exact mset_self _ _ _ | refine (mset_ne (by omega)).trans ?_)) (by (try simp only [mset_1]); omega) (by omega) (by omega) (show ((12 : Int)).toNat = 12 from rfl) ?_
      rw [e12]
      refine V_istore_n C dX7_revive_50 (by decide) ?_
      refine V_aload_n C dX7_revive_51 rfl ?_
      refine V_get C fg_X7_7 dX7_revive_52 (by repeat (first | with_reducible assumption | with_reducible exact mset_self _ _ _ | refine (mset_ne (by omega)).trans ?_)) (by (try simp only [mset_1]); omega) (by rfl) ?_
      refine V_iload_n C dX7_revive_55 rfl ?_
      refine V_iconst C dX7_revive_56 ?_
      refine V_iadd C dX7_revive_57 ?_
      refine V_dup2 C dX7_revive_58 rfl rfl ?_
      refine V_iald C dX7_revive_59 (by repeat (first | with_reducible assumption | with_reducible exact mset_self _ _ _ | refine (mset_ne (by omega)).trans ?_)) (by (try simp only [mset_1]); omega) (by omega) (by omega) (show _ = 16 + 35 * i + 3 by omega) ?_
      refine V_iload_n C dX7_revive_60 rfl ?_
      refine V_iadd C dX7_revive_61 ?_
      refine V_iast C dX7_revive_62 (by repeat (first | with_reducible assumption | with_reducible exact mset_self _ _ _ | refine (mset_ne (by omega)).trans ?_)) (by (try simp only [mset_1]); omega) (by omega) (by omega) (show _ = 16 + 35 * i + 3 by omega) ?_
      refine V_aload_n C dX7_revive_63 rfl ?_
      refine V_get C fg_X7_7 dX7_revive_64 (by repeat (first | with_reducible assumption | with_reducible exact mset_self _ _ _ | refine (mset_ne (by omega)).trans ?_)) (by (try simp only [mset_1]); omega) (by rfl) ?_
      refine V_bipush C dX7_revive_67 (by decide) ?_
      refine V_dup2 C dX7_revive_69 rfl rfl ?_
      refine V_iald C dX7_revive_70 (by repeat (first | with_reducible assumption | with_reducible exact mset_self _ _ _ | refine (mset_ne (by omega)).trans ?_)) (by (try simp only [mset_1]); omega) (by omega) (by omega) (show ((13 : Int)).toNat = 13 from rfl) ?_
      refine V_iload_n C dX7_revive_71 rfl ?_
      refine V_iadd C dX7_revive_72 ?_
      refine V_iast C dX7_revive_73 (by repeat (first | with_reducible assumption | with_reducible exact mset_self _ _ _ | refine (mset_ne (by omega)).trans ?_)) (by (try simp only [mset_1]); omega) (by omega) (by omega) (show ((13 : Int)).toNat = 13 from rfl) ?_
      refine V_aload_n C dX7_revive_74 rfl ?_
      refine V_get C fg_X7_7 dX7_revive_75 (by repeat (first | with_reducible assumption | with_reducible exact mset_self _ _ _ | refine (mset_ne (by omega)).trans ?_)) (by (try simp only [mset_1]); omega) (by rfl) ?_
      refine V_bipush C dX7_revive_78 (by decide) ?_
      refine V_dup2 C dX7_revive_80 rfl rfl ?_
      refine V_iald C dX7_revive_81 (by repeat (first | with_reducible assumption | with_reducible exact mset_self _ _ _ | refine (mset_ne (by omega)).trans ?_)) (by (try simp only [mset_1]); omega) (by omega) (by omega) (show ((15 : Int)).toNat = 15 from rfl) ?_
      refine V_iload_n C dX7_revive_82 rfl ?_
      refine V_iadd C dX7_revive_83 ?_
      refine V_iast C dX7_revive_84 (by repeat (first | with_reducible assumption | with_reducible exact mset_self _ _ _ | refine (mset_ne (by omega)).trans ?_)) (by (try simp only [mset_1]); omega) (by omega) (by omega) (show ((15 : Int)).toNat = 15 from rfl) ?_
      refine V_aload_n C dX7_revive_85 rfl ?_
      refine V_get C fg_X7_7 dX7_revive_86 (by repeat (first | with_reducible assumption | with_reducible exact mset_self _ _ _ | refine (mset_ne (by omega)).trans ?_)) (by (try simp only [mset_1]); omega) (by rfl) ?_
      refine V_iload_n C dX7_revive_89 rfl ?_
      refine V_iconst C dX7_revive_90 ?_
      refine V_iadd C dX7_revive_91 ?_
      refine V_dup2 C dX7_revive_92 rfl rfl ?_
      refine V_iald C dX7_revive_93 (by repeat (first | with_reducible assumption | with_reducible exact mset_self _ _ _ | refine (mset_ne (by omega)).trans ?_)) (by (try simp only [mset_1]); omega) (by omega) (by omega) (show _ = 16 + 35 * i + 4 by omega) ?_
      refine V_iconst C dX7_revive_94 ?_
      refine V_iadd C dX7_revive_95 ?_
      refine V_iast C dX7_revive_96 (by repeat (first | with_reducible assumption | with_reducible exact mset_self _ _ _ | refine (mset_ne (by omega)).trans ?_)) (by (try simp only [mset_1]); omega) (by omega) (by omega) (show _ = 16 + 35 * i + 4 by omega) ?_
      refine V_memgen (fun M4 em4 => ?_)
      obtain ⟨N8, x4, s4, c8, p3, p4, p13, p15⟩ : ∃ N8, ModAt cy z M4 u2 N8 P2 A tx fr tl ∧ Sm M M4 P7 ∧ (∀ j, j ≠ 16 + 35 * i + 3 → j ≠ 13 → j ≠ 15 → j ≠ 16 + 35 * i + 4 → N8 j = N j) ∧ N8 (16 + 35 * i + 3) = RF S i 4 + sc S 7 ∧ N8 (16 + 35 * i + 4) = RF S i 5 + 1 ∧ N8 13 = sc S 1 + sc S 7 ∧ N8 15 = sc S 3 + sc S 7 :=
        ⟨_, by rw [em4]; exact hM9.nows.nows.nows.nows, by rw [em4]; exact ((((((P7_331 s1).trans s2).ts ⟨by omega, by omega⟩).ts ⟨by omega, by omega⟩).ts ⟨by omega, by omega⟩).ts ⟨by omega, by omega⟩), fun j a b c d => (up_n d).trans ((up_n c).trans ((up_n b).trans (up_n a))), ((up_n (by omega)).trans ((up_n (by omega)).trans ((up_n (by omega)).trans ((up_s _ _ _).trans (by rw [w3]))))), ((up_s _ _ _).trans (by rw [up_n (by omega), up_n (by omega), up_n (by omega), w4])), ((up_n (by omega)).trans ((up_n (by omega)).trans ((up_s _ _ _).trans (by rw [up_n (by omega), e13])))), ((up_n (by omega)).trans ((up_s _ _ _).trans (by rw [up_n (by omega), up_n (by omega), e15])))⟩
      clear em4
      have k0 : (((RF S i 3 + 1).toNat : Nat) : Int) = RF S i 3 + 1 := by omega
      have hz9 : RA S i 3 (RF S i 3 + 1).toNat = 0 := hZ i hi _ (by omega) (by omega)
      have hdp := RI.due_pos ri d2 (y := (RF S i 3 + 1).toNat) (by omega) (by omega)
      have hr8 : RowOf N8 (rv0 S i) := RowOf_rv hr9 hB9 hi rfl rfl (fun j a b c d _ => c8 j a b c d) p3 p4 p13 p15 (by obtain ⟨n8, n1, n2, n3⟩ := w5; exact ⟨n8, n1, (c8 _ (by omega) (by omega) (by omega) (by omega)).trans n2, n3⟩)
      have hB8 : SB (rv0 S i) := SB_rv0 hB9 hi10
      have hJ8 : IS (rv0 S i) := IS_rv0 hJ9
      have hM8 := x4
      have en : nxt (RF (rv0 S i) i) = RF S i 3 + 1 := by
        show nxt (va_up (RF S) i _ i) = _
        rw [up_s]; exact nxt_lap (F := RF S i) hcr.1.1
      have ed : yv (RA (rv0 S i) i 0) (-1) (RF S i 3 + 1) = RA S i 0 (RF S i 3 + 1).toNat := by
        show yv (va_up (RA S) i _ i 0) (-1) (RF S i 3 + 1) = _
        rw [up_s, yv_at (by omega)]
      obtain ⟨gn, g0, g1, g2, g3, g4, g5, g6⟩ := id hM8
      refine V_aload_n C dX7_revive_97 rfl ?_
      refine V_iload_n C dX7_revive_98 rfl ?_
      refine V_aload_n C dX7_revive_99 rfl ?_
      refine V_iload_n C dX7_revive_100 rfl ?_
      refine V_callV (fr := 2) (lo := 42) (mc := 0) (ms := 0) (As := [_]) C yvX7_nextOf w_936 dX7_revive_101 rfl rfl (by repeat (first | with_reducible assumption | with_reducible exact mset_self _ _ _ | refine (mset_ne (by omega)).trans ?_)) (by (try simp only [mset_1]); omega) rfl rfl (Nat.le_of_ble_eq_true rfl) ⟨Nat.le_of_ble_eq_true rfl, Nat.le_of_ble_eq_true rfl⟩ ⟨Nat.le_of_ble_eq_true rfl, Nat.le_of_ble_eq_true rfl⟩ ?_
      refine ok_X7_nextOf hM8 hr8 hB8 hJ8 hi ?_
      rw [en]
      refine V_callV (fr := 4) (lo := 90) (mc := 0) (ms := 0) (As := [_, _]) C yvX7_dueOf w_960 dX7_revive_104 rfl rfl (by repeat (first | with_reducible assumption | with_reducible exact mset_self _ _ _ | refine (mset_ne (by omega)).trans ?_)) (by (try simp only [mset_1]); omega) rfl rfl (Nat.le_of_ble_eq_true rfl) ⟨Nat.le_of_ble_eq_true rfl, Nat.le_of_ble_eq_true rfl⟩ ⟨Nat.le_of_ble_eq_true rfl, Nat.le_of_ble_eq_true rfl⟩ ?_
      refine ok_X7_dueOf hM8 hr8 hB8 hJ8 hi (by omega) ?_
      rw [ed]
      refine V_istore C dX7_revive_107 (by decide) ?_
      refine V_iconst C dX7_revive_109 ?_
      refine V_istore C dX7_revive_110 (by decide) ?_
      have loopL : ∀ (n : Nat) (S9 : SD) (N9 : Nat → Int) (M9 : Mm) (v9 : Int) (m9 : Nat), (Sm M M9 P7) → (ModAt cy z M9 u2 N9 P2 A tx fr tl) → (RowOf N9 S9) → (RvI i S9) → (revF i m9 S9 v9 = (revF i 19 (rvS S i) (sc S 7))) → (19 - RF S9 i 3 ≤ m9) → (19 - RF S9 i 3).toNat < n → V p l e { frames := 7, cells := 0, slots := 0, locals := 154 } s m args below meth c D z 7 (MQ below (qc_ D z K) args s 0 0 (fun q => z ≤ q)) 0 0 M9 190 [(0, .ref (z + 331)), (1, iv (i : Int)), (3, iv (v9))] [] := by
        intro n
        induction n with
        | zero => intro S9 N9 M9 v9 m9 hi1 hi2 hi3 hi4 hi5 hi6 hfu; exact absurd hfu (Nat.not_lt_zero _)
        | succ n ih =>
          intro S9 N9 M9 v9 m9 hi1 hi2 hi3 hi4 hi5 hi6 hfu
          have hi0 := hi
          have hM9 := hi2
          obtain ⟨gn, g0, g1, g2, g3, g4, g5, g6⟩ := id hM9
          have hr9 := hi3
          have hB9 := hi4.1
          have hJ9 := hi4.2.1
          have hi := hi4.2.2.1
          have b39 := (hB9.2.2.2.2.2.2.2 i hi10).2.2.2.1
          
          refine V_aload_n C dX7_revive_190 rfl ?_
          refine V_iload_n C dX7_revive_191 rfl ?_
          refine V_callV (fr := 5) (lo := 112) (mc := 0) (ms := 0) (As := [_]) C yvX7_isLapsed w_932 dX7_revive_192 rfl rfl (by repeat (first | with_reducible assumption | with_reducible exact mset_self _ _ _ | refine (mset_ne (by omega)).trans ?_)) (by (try simp only [mset_1]); omega) rfl rfl (Nat.le_of_ble_eq_true rfl) ⟨Nat.le_of_ble_eq_true rfl, Nat.le_of_ble_eq_true rfl⟩ ⟨Nat.le_of_ble_eq_true rfl, Nat.le_of_ble_eq_true rfl⟩ ?_
          refine ok_X7_isLapsed hM9 hr9 hB9 hJ9 hi (fun hl => ?_) (fun hl => ?_)
          · refine V_ifeq1 C dX7_revive_195 (tgt := 210) (by decide) ?_
            refine V_iload_n C dX7_revive_198 rfl ?_
            refine V_aload_n C dX7_revive_199 rfl ?_
            refine V_iload_n C dX7_revive_200 rfl ?_
            refine V_iconst C dX7_revive_201 ?_
            refine V_callV (fr := 3) (lo := 65) (mc := 0) (ms := 0) (As := [_, _]) C yvX7_paysNext w_968 dX7_revive_202 rfl rfl (by repeat (first | with_reducible assumption | with_reducible exact mset_self _ _ _ | refine (mset_ne (by omega)).trans ?_)) (by (try simp only [mset_1]); omega) rfl rfl (Nat.le_of_ble_eq_true rfl) ⟨Nat.le_of_ble_eq_true rfl, Nat.le_of_ble_eq_true rfl⟩ ⟨Nat.le_of_ble_eq_true rfl, Nat.le_of_ble_eq_true rfl⟩ ?_
            refine ok_X7_paysNext hM9 hr9 hB9 hJ9 hi hl.1 (Or.inl ⟨rfl, lap_due hJ9 hB9 hi hl⟩) (fun M3 N3 s3 x3 r3 => ?_)
            refine V_iadd C dX7_revive_205 ?_
            refine V_istore_n C dX7_revive_206 (by decide) ?_
            refine V_goto C dX7_revive_207 (tgt := 190) (by decide) ?_
            refine V_lv [(0, .ref (z + 331)), (1, iv (i : Int)), (3, iv (v9 + priceT S9 i (RF S9 i 3 + 1)))] (List.forall_mem_cons.mpr ⟨(by first | rfl | exact congrArg (fun t => some (iv t)) (by omega)), (List.forall_mem_cons.mpr ⟨(by first | rfl | exact congrArg (fun t => some (iv t)) (by omega)), (List.forall_mem_cons.mpr ⟨(by first | rfl | exact congrArg (fun t => some (iv t)) (by omega)), (fun _ h => nomatch h)⟩)⟩)⟩) ?_
            obtain ⟨m8, rfl⟩ : ∃ m8, m9 = m8 + 1 := ⟨m9 - 1, by have := hl.1; omega⟩
            exact ih (payS S9 i) N3 M3 (v9 + priceT S9 i (RF S9 i 3 + 1)) m8 (hi1.trans s3) x3 r3 (RvI_pay hi4 hl).1 (by rw [← hi5, revF_t (lapB_t hl)]) (by rw [pay_F3]; omega) (by rw [pay_F3]; have := hl.1; omega)
          · refine V_ifeq0 C dX7_revive_195 (tgt := 210) (by decide) ?_
            refine V_iload_n C dX7_revive_210 rfl ?_
            exact V_iret C hr dX7_revive_211 (K_of (hK i rfl hi0 hcr _ _ _ _ hi1 hi2 a0 (aj 1 (by omega)) (aj 2 (by omega)) aP (by rw [← hi5, revF_f (lapB_f hl)]; exact hi3)) (by rw [← hi5, revF_f (lapB_f hl)]))
      have fin19 : ∀ (N9 : Nat → Int) (M9 : Mm), Sm M M9 P7 → ModAt cy z M9 u2 N9 P2 A tx fr tl → RowOf N9 (rvS S i) → V p l e { frames := 7, cells := 0, slots := 0, locals := 154 } s m args below meth c D z 7 (MQ below (qc_ D z K) args s 0 0 (fun q => z ≤ q)) 0 0 M9 190 [(0, .ref (z + 331)), (1, iv (i : Int)), (3, iv (sc S 7))] [] := by
        intro N9 M9 q1 q2 q3
        exact loopL 20 (rvS S i) N9 M9 (sc S 7) 19 q1 q2 q3 (RvI_0 hJ hZ hB hi) rfl (by have f3 : RF (rvS S i) i 3 = RF S i 3 := (by show va_up (RF S) i _ i 3 = _; rw [up_s]; rfl); rw [f3]; omega) (by have f3 : RF (rvS S i) i 3 = RF S i 3 := (by show va_up (RF S) i _ i 3 = _; rw [up_s]; rfl); rw [f3]; omega)
      have loopU : ∀ (n : Nat) (v : Nat) (N9 : Nat → Int) (M9 : Mm), (v ≤ 10) → (Sm M M9 P7) → (ModAt cy z M9 u2 N9 P2 A tx fr tl) → (∀ j, j ≠ 16 + 35 * i + 5 → N9 j = N8 j) → (∃ n8 : Nat, n8 < 1024 ∧ N9 (16 + 35 * i + 5) = n8 ∧ ∀ w, w < 10 → (n8 / 2 ^ w % 2 = 1 ↔ (fun w => stV (RA S i) w = 2) w ∨ w < v ∧ (fun w => RA S i 0 (RF S i 3 + 1).toNat < RA S i 4 w ∧ RA S i 4 w < sc S 0) w)) → 10 - v < n → V p l e { frames := 7, cells := 0, slots := 0, locals := 154 } s m args below meth c D z 7 (MQ below (qc_ D z K) args s 0 0 (fun q => z ≤ q)) 0 0 M9 112 [(0, .ref (z + 331)), (1, iv (i : Int)), (2, iv (16 + 35 * (i : Int))), (3, iv (sc S 7)), (4, iv (RA S i 0 (RF S i 3 + 1).toNat)), (5, iv ((v : Int)))] [] := by
        intro n
        induction n with
        | zero => intro v N9 M9 hi0 hi1 hi2 hi3 hi4 hfu; exact absurd hfu (Nat.not_lt_zero _)
        | succ n ih =>
          intro v N9 M9 hi0 hi1 hi2 hi3 hi4 hfu
          have hM9 := hi2
          obtain ⟨gn, g0, g1, g2, g3, g4, g5, g6⟩ := id hM9
          have n0 : N9 0 = sc S 0 := (hi3 _ (by omega)).trans ((c8 _ (by omega) (by omega) (by omega) (by omega)).trans e0)
          have n4 : v < 10 → N9 (16 + 35 * i + 25 + v) = RA S i 4 v := fun q => (hi3 _ (by omega)).trans ((c8 _ (by omega) (by omega) (by omega) (by omega)).trans (w7 v q))
          refine V_iload C dX7_revive_112 rfl ?_
          refine V_bipush C dX7_revive_114 (by decide) ?_
          refine V_icmp_ge C dX7_revive_116 (tgt := 190) (by decide) (by omega) (by omega) (fun g116 => ?_) (fun g116 => ?_)
          · refine V_lv [(0, .ref (z + 331)), (1, iv (i : Int)), (3, iv (sc S 7))] (List.forall_mem_cons.mpr ⟨(by first | rfl | exact congrArg (fun t => some (iv t)) (by omega)), (List.forall_mem_cons.mpr ⟨(by first | rfl | exact congrArg (fun t => some (iv t)) (by omega)), (List.forall_mem_cons.mpr ⟨(by first | rfl | exact congrArg (fun t => some (iv t)) (by omega)), (fun _ h => nomatch h)⟩)⟩)⟩) ?_
            have hr7 : RowOf N9 (rvS S i) := by
              obtain ⟨n8, n81, n82, n83⟩ := hi4
              exact RowOf_rv hr9 hB9 hi rfl rfl (fun j a b c d e => (hi3 j e).trans (c8 j a b c d)) ((hi3 _ (by omega)).trans p3) ((hi3 _ (by omega)).trans p4) ((hi3 _ (by omega)).trans p13) ((hi3 _ (by omega)).trans p15) ⟨n8, n81, n82, fun w hw => ((n83 w hw).trans ⟨fun o => o.imp (fun q => q) (fun q => q.2), fun o => o.imp (fun q => q) (fun q => ⟨by omega, q⟩)⟩).trans (stV_rv hz9 ⟨by omega, by omega⟩ (by omega) (b4 4 w).1).symm⟩
            exact fin19 N9 M9 hi1 hi2 hr7
          · refine V_aload_n C dX7_revive_119 rfl ?_
            refine V_iload_n C dX7_revive_120 rfl ?_
            refine V_bipush C dX7_revive_121 (by decide) ?_
            refine V_iload C dX7_revive_123 rfl ?_
            refine V_iadd C dX7_revive_125 ?_
            refine V_callV (fr := 1) (lo := 20) (mc := 0) (ms := 0) (As := [_, _]) C yvX7_of w_940 dX7_revive_126 rfl rfl (by repeat (first | with_reducible assumption | with_reducible exact mset_self _ _ _ | refine (mset_ne (by omega)).trans ?_)) (by (try simp only [mset_1]); omega) rfl rfl (Nat.le_of_ble_eq_true rfl) ⟨Nat.le_of_ble_eq_true rfl, Nat.le_of_ble_eq_true rfl⟩ ⟨Nat.le_of_ble_eq_true rfl, Nat.le_of_ble_eq_true rfl⟩ ?_
            refine ok_X7_of hM9 (j := 16 + 35 * i + 25 + v) (by omega) (by omega) (by omega) (n4 (by omega)) ?_
            refine V_iload C dX7_revive_129 rfl ?_
            have bq := b4 4 v
            have bd := b4 0 (RF S i 3 + 1).toNat
            refine V_icmp_le C dX7_revive_131 (tgt := 157) (by decide) (by omega) (by omega) (fun g131 => ?_) (fun g131 => ?_)
            · refine V_iconst C dX7_revive_157 ?_
              refine V_istore C dX7_revive_158 (by decide) ?_
              refine V_aload_n C dX7_revive_160 rfl ?_
              refine V_get C fg_X7_7 dX7_revive_161 (by repeat (first | with_reducible assumption | with_reducible exact mset_self _ _ _ | refine (mset_ne (by omega)).trans ?_)) (by (try simp only [mset_1]); omega) (by rfl) ?_
              refine V_iload_n C dX7_revive_164 rfl ?_
              refine V_iconst C dX7_revive_165 ?_
              refine V_iadd C dX7_revive_166 ?_
              refine V_dup2 C dX7_revive_167 rfl rfl ?_
              refine V_iald C dX7_revive_168 (by repeat (first | with_reducible assumption | with_reducible exact mset_self _ _ _ | refine (mset_ne (by omega)).trans ?_)) (by (try simp only [mset_1]); omega) (by omega) (by omega) (show _ = 16 + 35 * i + 5 by omega) ?_
              obtain ⟨n8, n81, n82, n83⟩ := hi4
              rw [n82]
              refine V_iload C dX7_revive_169 rfl ?_
              refine V_if_eq C dX7_revive_171 (tgt := 181) (by decide) (by omega) (fun g171 => ?_) (fun g171 => ?_)
              · refine V_iconst C dX7_revive_181 ?_
                refine V_ior0 C n81 dX7_revive_182 ?_
                refine V_iast C dX7_revive_183 (by repeat (first | with_reducible assumption | with_reducible exact mset_self _ _ _ | refine (mset_ne (by omega)).trans ?_)) (by (try simp only [mset_1]); omega) (by omega) (by omega) (show _ = 16 + 35 * i + 5 by omega) ?_
                refine V_iinc C dX7_revive_184 rfl (by decide) ?_
                refine V_goto C dX7_revive_187 (tgt := 112) (by decide) ?_
                refine V_lv [(0, .ref (z + 331)), (1, iv (i : Int)), (2, iv (16 + 35 * (i : Int))), (3, iv (sc S 7)), (4, iv (RA S i 0 (RF S i 3 + 1).toNat)), (5, iv (((v + 1 : Nat) : Int)))] (List.forall_mem_cons.mpr ⟨(by first | rfl | exact congrArg (fun t => some (iv t)) (by push_cast; omega)), (List.forall_mem_cons.mpr ⟨(by first | rfl | exact congrArg (fun t => some (iv t)) (by push_cast; omega)), (List.forall_mem_cons.mpr ⟨(by first | rfl | exact congrArg (fun t => some (iv t)) (by push_cast; omega)), (List.forall_mem_cons.mpr ⟨(by first | rfl | exact congrArg (fun t => some (iv t)) (by push_cast; omega)), (List.forall_mem_cons.mpr ⟨(by first | rfl | exact congrArg (fun t => some (iv t)) (by push_cast; omega)), (List.forall_mem_cons.mpr ⟨(by first | rfl | exact congrArg (fun t => some (iv t)) (by push_cast; omega)), (fun _ h => nomatch h)⟩)⟩)⟩)⟩)⟩)⟩) ?_
                exact ih (v + 1) _ _ (by omega) (hi1.ts ⟨by omega, by omega⟩) hi2.nows (fun j hj => (up_n hj).trans (hi3 j hj)) ⟨n8, n81, up_s _ _ _, bit_no (p := (fun w => stV (RA S i) w = 2)) (q := (fun w => RA S i 0 (RF S i 3 + 1).toNat < RA S i 4 w ∧ RA S i 4 w < sc S 0)) n83 (fun o => by have o1 : RA S i 0 (RF S i 3 + 1).toNat < RA S i 4 v ∧ RA S i 4 v < sc S 0 := o; omega)⟩ (by omega)
              · exact absurd rfl g171
            · refine V_aload_n C dX7_revive_134 rfl ?_
              refine V_iload_n C dX7_revive_135 rfl ?_
              refine V_bipush C dX7_revive_136 (by decide) ?_
              refine V_iload C dX7_revive_138 rfl ?_
              refine V_iadd C dX7_revive_140 ?_
              refine V_callV (fr := 1) (lo := 20) (mc := 0) (ms := 0) (As := [_, _]) C yvX7_of w_940 dX7_revive_141 rfl rfl (by repeat (first | with_reducible assumption | with_reducible exact mset_self _ _ _ | refine (mset_ne (by omega)).trans ?_)) (by (try simp only [mset_1]); omega) rfl rfl (Nat.le_of_ble_eq_true rfl) ⟨Nat.le_of_ble_eq_true rfl, Nat.le_of_ble_eq_true rfl⟩ ⟨Nat.le_of_ble_eq_true rfl, Nat.le_of_ble_eq_true rfl⟩ ?_
              refine ok_X7_of hM9 (j := 16 + 35 * i + 25 + v) (by omega) (by omega) (by omega) (n4 (by omega)) ?_
              refine V_aload_n C dX7_revive_144 rfl ?_
              refine V_get C fg_X7_7 dX7_revive_145 (by repeat (first | with_reducible assumption | with_reducible exact mset_self _ _ _ | refine (mset_ne (by omega)).trans ?_)) (by (try simp only [mset_1]); omega) (by rfl) ?_
              refine V_iconst C dX7_revive_148 ?_
              refine V_iald C dX7_revive_149 (by repeat (first | with_reducible assumption | with_reducible exact mset_self _ _ _ | refine (mset_ne (by omega)).trans ?_)) (by (try simp only [mset_1]); omega) (by omega) (by omega) (show ((0 : Int)).toNat = 0 from rfl) ?_
              rw [n0]
              refine V_icmp_ge C dX7_revive_150 (tgt := 157) (by decide) (by omega) (by omega) (fun g150 => ?_) (fun g150 => ?_)
              · refine V_iconst C dX7_revive_157 ?_
                refine V_istore C dX7_revive_158 (by decide) ?_
                refine V_aload_n C dX7_revive_160 rfl ?_
                refine V_get C fg_X7_7 dX7_revive_161 (by repeat (first | with_reducible assumption | with_reducible exact mset_self _ _ _ | refine (mset_ne (by omega)).trans ?_)) (by (try simp only [mset_1]); omega) (by rfl) ?_
                refine V_iload_n C dX7_revive_164 rfl ?_
                refine V_iconst C dX7_revive_165 ?_
                refine V_iadd C dX7_revive_166 ?_
                refine V_dup2 C dX7_revive_167 rfl rfl ?_
                refine V_iald C dX7_revive_168 (by repeat (first | with_reducible assumption | with_reducible exact mset_self _ _ _ | refine (mset_ne (by omega)).trans ?_)) (by (try simp only [mset_1]); omega) (by omega) (by omega) (show _ = 16 + 35 * i + 5 by omega) ?_
                obtain ⟨n8, n81, n82, n83⟩ := hi4
                rw [n82]
                refine V_iload C dX7_revive_169 rfl ?_
                refine V_if_eq C dX7_revive_171 (tgt := 181) (by decide) (by omega) (fun g171 => ?_) (fun g171 => ?_)
                · refine V_iconst C dX7_revive_181 ?_
                  refine V_ior0 C n81 dX7_revive_182 ?_
                  refine V_iast C dX7_revive_183 (by repeat (first | with_reducible assumption | with_reducible exact mset_self _ _ _ | refine (mset_ne (by omega)).trans ?_)) (by (try simp only [mset_1]); omega) (by omega) (by omega) (show _ = 16 + 35 * i + 5 by omega) ?_
                  refine V_iinc C dX7_revive_184 rfl (by decide) ?_
                  refine V_goto C dX7_revive_187 (tgt := 112) (by decide) ?_
                  refine V_lv [(0, .ref (z + 331)), (1, iv (i : Int)), (2, iv (16 + 35 * (i : Int))), (3, iv (sc S 7)), (4, iv (RA S i 0 (RF S i 3 + 1).toNat)), (5, iv (((v + 1 : Nat) : Int)))] (List.forall_mem_cons.mpr ⟨(by first | rfl | exact congrArg (fun t => some (iv t)) (by push_cast; omega)), (List.forall_mem_cons.mpr ⟨(by first | rfl | exact congrArg (fun t => some (iv t)) (by push_cast; omega)), (List.forall_mem_cons.mpr ⟨(by first | rfl | exact congrArg (fun t => some (iv t)) (by push_cast; omega)), (List.forall_mem_cons.mpr ⟨(by first | rfl | exact congrArg (fun t => some (iv t)) (by push_cast; omega)), (List.forall_mem_cons.mpr ⟨(by first | rfl | exact congrArg (fun t => some (iv t)) (by push_cast; omega)), (List.forall_mem_cons.mpr ⟨(by first | rfl | exact congrArg (fun t => some (iv t)) (by push_cast; omega)), (fun _ h => nomatch h)⟩)⟩)⟩)⟩)⟩)⟩) ?_
                  exact ih (v + 1) _ _ (by omega) (hi1.ts ⟨by omega, by omega⟩) hi2.nows (fun j hj => (up_n hj).trans (hi3 j hj)) ⟨n8, n81, up_s _ _ _, bit_no (p := (fun w => stV (RA S i) w = 2)) (q := (fun w => RA S i 0 (RF S i 3 + 1).toNat < RA S i 4 w ∧ RA S i 4 w < sc S 0)) n83 (fun o => by have o1 : RA S i 0 (RF S i 3 + 1).toNat < RA S i 4 v ∧ RA S i 4 v < sc S 0 := o; omega)⟩ (by omega)
                · exact absurd rfl g171
              · refine V_iconst C dX7_revive_153 ?_
                refine V_goto C dX7_revive_154 (tgt := 158) (by decide) ?_
                refine V_istore C dX7_revive_158 (by decide) ?_
                refine V_aload_n C dX7_revive_160 rfl ?_
                refine V_get C fg_X7_7 dX7_revive_161 (by repeat (first | with_reducible assumption | with_reducible exact mset_self _ _ _ | refine (mset_ne (by omega)).trans ?_)) (by (try simp only [mset_1]); omega) (by rfl) ?_
                refine V_iload_n C dX7_revive_164 rfl ?_
                refine V_iconst C dX7_revive_165 ?_
                refine V_iadd C dX7_revive_166 ?_
                refine V_dup2 C dX7_revive_167 rfl rfl ?_
                refine V_iald C dX7_revive_168 (by repeat (first | with_reducible assumption | with_reducible exact mset_self _ _ _ | refine (mset_ne (by omega)).trans ?_)) (by (try simp only [mset_1]); omega) (by omega) (by omega) (show _ = 16 + 35 * i + 5 by omega) ?_
                obtain ⟨n8, n81, n82, n83⟩ := hi4
                rw [n82]
                refine V_iload C dX7_revive_169 rfl ?_
                refine V_if_eq C dX7_revive_171 (tgt := 181) (by decide) (by omega) (fun g171 => ?_) (fun g171 => ?_)
                · exact absurd g171 (by decide)
                · refine V_iconst C dX7_revive_174 ?_
                  refine V_iload C dX7_revive_175 rfl ?_
                  refine V_ishl9 C (by omega) dX7_revive_177 ?_
                  refine V_goto C dX7_revive_178 (tgt := 182) (by decide) ?_
                  refine V_ior9 C n81 (by omega) dX7_revive_182 ?_
                  refine V_iast C dX7_revive_183 (by repeat (first | with_reducible assumption | with_reducible exact mset_self _ _ _ | refine (mset_ne (by omega)).trans ?_)) (by (try simp only [mset_1]); omega) (by omega) (by omega) (show _ = 16 + 35 * i + 5 by omega) ?_
                  refine V_iinc C dX7_revive_184 rfl (by decide) ?_
                  refine V_goto C dX7_revive_187 (tgt := 112) (by decide) ?_
                  refine V_lv [(0, .ref (z + 331)), (1, iv (i : Int)), (2, iv (16 + 35 * (i : Int))), (3, iv (sc S 7)), (4, iv (RA S i 0 (RF S i 3 + 1).toNat)), (5, iv (((v + 1 : Nat) : Int)))] (List.forall_mem_cons.mpr ⟨(by first | rfl | exact congrArg (fun t => some (iv t)) (by push_cast; omega)), (List.forall_mem_cons.mpr ⟨(by first | rfl | exact congrArg (fun t => some (iv t)) (by push_cast; omega)), (List.forall_mem_cons.mpr ⟨(by first | rfl | exact congrArg (fun t => some (iv t)) (by push_cast; omega)), (List.forall_mem_cons.mpr ⟨(by first | rfl | exact congrArg (fun t => some (iv t)) (by push_cast; omega)), (List.forall_mem_cons.mpr ⟨(by first | rfl | exact congrArg (fun t => some (iv t)) (by push_cast; omega)), (List.forall_mem_cons.mpr ⟨(by first | rfl | exact congrArg (fun t => some (iv t)) (by push_cast; omega)), (fun _ h => nomatch h)⟩)⟩)⟩)⟩)⟩)⟩) ?_
                  exact ih (v + 1) _ _ (by omega) (hi1.ts ⟨by omega, by omega⟩) hi2.nows (fun j hj => (up_n hj).trans (hi3 j hj)) ⟨orB n8 v, orB_lt n8 n81 v (by omega), up_s _ _ _, bit_yes (p := (fun w => stV (RA S i) w = 2)) (q := (fun w => RA S i 0 (RF S i 3 + 1).toNat < RA S i 4 w ∧ RA S i 4 w < sc S 0)) n81 (by omega) n83 ⟨by omega, by omega⟩⟩ (by omega)
      refine V_lv [(0, .ref (z + 331)), (1, iv (i : Int)), (2, iv (16 + 35 * (i : Int))), (3, iv (sc S 7)), (4, iv (RA S i 0 (RF S i 3 + 1).toNat)), (5, iv (((0 : Nat) : Int)))] (List.forall_mem_cons.mpr ⟨(by first | rfl | exact congrArg (fun t => some (iv t)) (by omega)), (List.forall_mem_cons.mpr ⟨(by first | rfl | exact congrArg (fun t => some (iv t)) (by omega)), (List.forall_mem_cons.mpr ⟨(by first | rfl | exact congrArg (fun t => some (iv t)) (by omega)), (List.forall_mem_cons.mpr ⟨(by first | rfl | exact congrArg (fun t => some (iv t)) (by omega)), (List.forall_mem_cons.mpr ⟨(by first | rfl | exact congrArg (fun t => some (iv t)) (by omega)), (List.forall_mem_cons.mpr ⟨(by first | rfl | exact congrArg (fun t => some (iv t)) (by omega)), (fun _ h => nomatch h)⟩)⟩)⟩)⟩)⟩)⟩) ?_
      exact loopU 11 0 N8 M4 (by omega) s4 x4 (fun j hj => rfl) (by obtain ⟨n8, n1, n2, n3⟩ := w5; exact ⟨n8, n1, (c8 _ (by omega) (by omega) (by omega) (by omega)).trans n2, fun w hw => (n3 w hw).trans ⟨Or.inl, fun o => o.elim (fun q => q) (fun q => absurd q.1 (by omega))⟩⟩) (by omega)
    · refine V_ifeq0 C dX7_revive_18 (tgt := 25) (by decide) ?_
      refine V_iconst C dX7_revive_25 ?_
      refine V_callV (fr := 0) (lo := 0) (mc := 0) (ms := 0) (As := [_]) C yvX7_refused w_849 dX7_revive_26 rfl rfl (by repeat (first | with_reducible assumption | with_reducible exact mset_self _ _ _ | refine (mset_ne (by omega)).trans ?_)) (by (try simp only [mset_1]); omega) rfl rfl (Nat.le_of_ble_eq_true rfl) ⟨Nat.le_of_ble_eq_true rfl, Nat.le_of_ble_eq_true rfl⟩ ⟨Nat.le_of_ble_eq_true rfl, Nat.le_of_ble_eq_true rfl⟩ ?_
      refine ok_X7_refused hM9 (by omega) (fun _ M1 s1 x1 => ?_) (fun o => absurd o (by decide))
      have hM9 := x1
      obtain ⟨gn, g0, g1, g2, g3, g4, g5, g6⟩ := id hM9
      refine V_ifeq1 C dX7_revive_29 (tgt := 34) (by decide) ?_
      refine V_iconst C dX7_revive_32 ?_
      exact V_iret C hr dX7_revive_33 (hX2 i rfl hi hcr _ (P7_331 s1) x1)
  · refine V_ifne0 C dX7_revive_6 (tgt := 13) (by decide) ?_
    refine V_iconst C dX7_revive_9 ?_
    refine V_goto C dX7_revive_10 (tgt := 26) (by decide) ?_
    refine V_callV (fr := 0) (lo := 0) (mc := 0) (ms := 0) (As := [_]) C yvX7_refused w_849 dX7_revive_26 rfl rfl (by repeat (first | with_reducible assumption | with_reducible exact mset_self _ _ _ | refine (mset_ne (by omega)).trans ?_)) (by (try simp only [mset_1]); omega) rfl rfl (Nat.le_of_ble_eq_true rfl) ⟨Nat.le_of_ble_eq_true rfl, Nat.le_of_ble_eq_true rfl⟩ ⟨Nat.le_of_ble_eq_true rfl, Nat.le_of_ble_eq_true rfl⟩ ?_
    refine ok_X7_refused hM9 (by omega) (fun _ M1 s1 x1 => ?_) (fun o => absurd o (by decide))
    have hM9 := x1
    obtain ⟨gn, g0, g1, g2, g3, g4, g5, g6⟩ := id hM9
    refine V_ifeq1 C dX7_revive_29 (tgt := 34) (by decide) ?_
    refine V_iconst C dX7_revive_32 ?_
    exact V_iret C hr dX7_revive_33 (hX1 hw9 _ (P7_331 s1) x1)

