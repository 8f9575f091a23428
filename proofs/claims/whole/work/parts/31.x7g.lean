/-! the text, undo and digest of the reference (X7), walked -/
set_option maxHeartbeats 400000 in
set_option maxRecDepth 4000 in
theorem ok_X7_append {l : Launch} {D : va_G} {cy : Nat → ClassId} {z : Nat} {M : Mm} {K : Option Value → Mm → Prop} {u N P A tx fr tl : Nat → Int} (hM : ModAt cy z M u N P A tx fr tl) {v : Int} (hv : -2147483648 ≤ v ∧ v < 2147483648) (hl : 0 ≤ u 2 ∧ u 2 ≤ 100) (hX1 : ¬ (0 ≤ v ∧ v ≤ 127) → ∀ M', Sm M M' P7 → ModAt cy z M' (va_up u 1 1) N P A tx fr tl → K (some (iv 0)) M') (hX2 : 0 ≤ v ∧ v ≤ 127 → u 2 = 100 → ∀ M', Sm M M' P7 → ModAt cy z M' (va_up u 1 2) N P A tx fr tl → K (some (iv 0)) M') (hK : 0 ≤ v ∧ v ≤ 127 → u 2 < 100 → ∀ M', Sm M M' P7 → ModAt cy z M' (va_up (va_up u 1 0) 2 (u 2 + 1)) N P A (va_up tx (u 2).toNat v) fr tl → K (some (iv (u 2 + 1))) M') :
    MT l D cy z false yX7_append (wsy yX7_append cX7_append 2 (some .int)) 1 22 0 0 M [.ref (z + 331), iv v] K := by
  refine MT_of (by decide) w_1104 (Nat.le_of_ble_eq_true rfl) ?_
  intro p e s m args below meth c C hr hx0
  have hM9 := hM
  obtain ⟨gn, g0, g1, g2, g3, g4, g5, g6⟩ := id hM
  refine V_aload_n C dX7_append_0 rfl ?_
  refine V_iload_n C dX7_append_1 rfl ?_
  refine V_iconst C dX7_append_2 ?_
  refine V_bipush C dX7_append_3 (by decide) ?_
  refine V_callS (fr := 0) (lo := 0) (mc := 0) (ms := 0) (As := [_, _, _]) C ysX7_in w_863 dX7_append_5 rfl rfl (Nat.le_of_ble_eq_true rfl) ⟨Nat.le_of_ble_eq_true rfl, Nat.le_of_ble_eq_true rfl⟩ ⟨Nat.le_of_ble_eq_true rfl, Nat.le_of_ble_eq_true rfl⟩ ?_
  refine ok_X7_in (by omega) (by omega) (by omega) (fun hw => ?_) (fun hw => ?_)
  · refine V_ifne1 C dX7_append_8 (tgt := 15) (by decide) ?_
    refine V_aload_n C dX7_append_15 rfl ?_
    refine V_get C fg_X7_182 dX7_append_16 (by repeat (first | with_reducible assumption | with_reducible exact mset_self _ _ _ | refine (mset_ne (by omega)).trans ?_)) (by (try simp only [mset_1]); omega) (by rfl) ?_
    refine V_bipush C dX7_append_19 (by decide) ?_
    refine V_icmp_ne C dX7_append_21 (tgt := 28) (by decide) (by omega) (by omega) (fun g21 => ?_) (fun g21 => ?_)
    · refine V_iconst C dX7_append_28 ?_
      refine V_callV (fr := 0) (lo := 0) (mc := 0) (ms := 0) (As := [_]) C yvX7_refused w_849 dX7_append_29 rfl rfl (by repeat (first | with_reducible assumption | with_reducible exact mset_self _ _ _ | refine (mset_ne (by omega)).trans ?_)) (by (try simp only [mset_1]); omega) rfl rfl (Nat.le_of_ble_eq_true rfl) ⟨Nat.le_of_ble_eq_true rfl, Nat.le_of_ble_eq_true rfl⟩ ⟨Nat.le_of_ble_eq_true rfl, Nat.le_of_ble_eq_true rfl⟩ ?_
      refine ok_X7_refused hM9 (by omega) (fun o => absurd o (by decide)) (fun _ M1 s1 x1 => ?_)
      have hM9 := x1
      obtain ⟨gn, g0, g1, g2, g3, g4, g5, g6⟩ := id hM9
      refine V_ifeq0 C dX7_append_32 (tgt := 37) (by decide) ?_
      refine V_aload_n C dX7_append_37 rfl ?_
      have u2 : va_up u 1 0 2 = u 2 := rfl
      have g0 : M1.2 331 = oX 6 [.ref (z + 332), .ref (z + 333), .ref (z + 334), iv (u 0), iv (0), .ref (z + 335), iv (u 2), .ref (z + 336), .ref (z + 337), iv (u 3), iv (u 4), iv (u 5), iv (u 6), lgv (u 7)] := g0
      refine V_get C fg_X7_19 dX7_append_38 (by repeat (first | with_reducible assumption | with_reducible exact mset_self _ _ _ | refine (mset_ne (by omega)).trans ?_)) (by (try simp only [mset_1]); omega) (by rfl) ?_
      refine V_aload_n C dX7_append_41 rfl ?_
      refine V_get C fg_X7_182 dX7_append_42 (by repeat (first | with_reducible assumption | with_reducible exact mset_self _ _ _ | refine (mset_ne (by omega)).trans ?_)) (by (try simp only [mset_1]); omega) (by rfl) ?_
      refine V_iload_n C dX7_append_45 rfl ?_
      refine V_iast C dX7_append_46 (by repeat (first | with_reducible assumption | with_reducible exact mset_self _ _ _ | refine (mset_ne (by omega)).trans ?_)) (by (try simp only [mset_1]); omega) (by omega) (by omega) rfl ?_
      refine V_aload_n C dX7_append_47 rfl ?_
      refine V_dup C dX7_append_48 rfl ?_
      refine V_get C fg_X7_182 dX7_append_49 (by repeat (first | with_reducible assumption | with_reducible exact mset_self _ _ _ | refine (mset_ne (by omega)).trans ?_)) (by (try simp only [mset_1]); omega) (by rfl) ?_
      refine V_iconst C dX7_append_52 ?_
      refine V_iadd C dX7_append_53 ?_
      refine V_put C fp_X7_182 dX7_append_54 (by repeat (first | with_reducible assumption | with_reducible exact mset_self _ _ _ | refine (mset_ne (by omega)).trans ?_)) (by (try simp only [mset_1]); omega) rfl rfl (by exact Nat.le_of_ble_eq_true rfl) ?_
      refine V_aload_n C dX7_append_57 rfl ?_
      refine V_get C fg_X7_182 dX7_append_58 (by repeat (first | with_reducible assumption | with_reducible exact mset_self _ _ _ | refine (mset_ne (by omega)).trans ?_)) (by (try simp only [mset_1]); omega) (by rfl) ?_
      exact V_iret C hr dX7_append_61 (hK hw (by omega) _ (((P7_331 s1).ts ⟨by omega, by omega⟩).ts ⟨by omega, by omega⟩) (ModAt.ref (ModAt.txt x1) (Sm.set rfl) (mset_self _ _ _)))
    · refine V_iconst C dX7_append_24 ?_
      refine V_goto C dX7_append_25 (tgt := 29) (by decide) ?_
      refine V_callV (fr := 0) (lo := 0) (mc := 0) (ms := 0) (As := [_]) C yvX7_refused w_849 dX7_append_29 rfl rfl (by repeat (first | with_reducible assumption | with_reducible exact mset_self _ _ _ | refine (mset_ne (by omega)).trans ?_)) (by (try simp only [mset_1]); omega) rfl rfl (Nat.le_of_ble_eq_true rfl) ⟨Nat.le_of_ble_eq_true rfl, Nat.le_of_ble_eq_true rfl⟩ ⟨Nat.le_of_ble_eq_true rfl, Nat.le_of_ble_eq_true rfl⟩ ?_
      refine ok_X7_refused hM9 (by omega) (fun _ M1 s1 x1 => ?_) (fun o => absurd o (by decide))
      have hM9 := x1
      obtain ⟨gn, g0, g1, g2, g3, g4, g5, g6⟩ := id hM9
      refine V_ifeq1 C dX7_append_32 (tgt := 37) (by decide) ?_
      refine V_iconst C dX7_append_35 ?_
      exact V_iret C hr dX7_append_36 (hX2 hw (by omega) _ (P7_331 s1) x1)
  · refine V_ifne0 C dX7_append_8 (tgt := 15) (by decide) ?_
    refine V_iconst C dX7_append_11 ?_
    refine V_goto C dX7_append_12 (tgt := 29) (by decide) ?_
    refine V_callV (fr := 0) (lo := 0) (mc := 0) (ms := 0) (As := [_]) C yvX7_refused w_849 dX7_append_29 rfl rfl (by repeat (first | with_reducible assumption | with_reducible exact mset_self _ _ _ | refine (mset_ne (by omega)).trans ?_)) (by (try simp only [mset_1]); omega) rfl rfl (Nat.le_of_ble_eq_true rfl) ⟨Nat.le_of_ble_eq_true rfl, Nat.le_of_ble_eq_true rfl⟩ ⟨Nat.le_of_ble_eq_true rfl, Nat.le_of_ble_eq_true rfl⟩ ?_
    refine ok_X7_refused hM9 (by omega) (fun _ M1 s1 x1 => ?_) (fun o => absurd o (by decide))
    have hM9 := x1
    obtain ⟨gn, g0, g1, g2, g3, g4, g5, g6⟩ := id hM9
    refine V_ifeq1 C dX7_append_32 (tgt := 37) (by decide) ?_
    refine V_iconst C dX7_append_35 ?_
    exact V_iret C hr dX7_append_36 (hX1 hw _ (P7_331 s1) x1)

set_option maxHeartbeats 400000 in
set_option maxRecDepth 4000 in
theorem ok_X7_clearText {l : Launch} {D : va_G} {cy : Nat → ClassId} {z : Nat} {M : Mm} {K : Option Value → Mm → Prop} {u N P A tx fr tl : Nat → Int} (hM : ModAt cy z M u N P A tx fr tl) (hK : ∀ M', Sm M M' P7 → ModAt cy z M' (va_up (va_up u 1 0) 2 0) N P A tx fr tl → K (some (iv (u 2))) M') :
    MT l D cy z false yX7_clearText (wsy yX7_clearText cX7_clearText 2 (some .int)) 0 0 0 0 M [.ref (z + 331)] K := by
  refine MT_of (by decide) w_1108 (Nat.le_of_ble_eq_true rfl) ?_
  intro p e s m args below meth c C hr hx0
  have hM9 := hM
  obtain ⟨gn, g0, g1, g2, g3, g4, g5, g6⟩ := id hM
  refine V_aload_n C dX7_clearText_0 rfl ?_
  refine V_iconst C dX7_clearText_1 ?_
  refine V_put C fp_X7_28 dX7_clearText_2 (by repeat (first | with_reducible assumption | with_reducible exact mset_self _ _ _ | refine (mset_ne (by omega)).trans ?_)) (by (try simp only [mset_1]); omega) rfl rfl (by exact Nat.le_of_ble_eq_true rfl) ?_
  refine V_aload_n C dX7_clearText_5 rfl ?_
  refine V_get C fg_X7_182 dX7_clearText_6 (by repeat (first | with_reducible assumption | with_reducible exact mset_self _ _ _ | refine (mset_ne (by omega)).trans ?_)) (by (try simp only [mset_1]); omega) (by rfl) ?_
  refine V_istore_n C dX7_clearText_9 (by decide) ?_
  refine V_aload_n C dX7_clearText_10 rfl ?_
  refine V_iconst C dX7_clearText_11 ?_
  refine V_put C fp_X7_182 dX7_clearText_12 (by repeat (first | with_reducible assumption | with_reducible exact mset_self _ _ _ | refine (mset_ne (by omega)).trans ?_)) (by (try simp only [mset_1]); omega) rfl rfl (by exact Nat.le_of_ble_eq_true rfl) ?_
  refine V_iload_n C dX7_clearText_15 rfl ?_
  exact V_iret C hr dX7_clearText_16 (hK _ ((Sm.set ⟨by omega, by omega⟩).ts ⟨by omega, by omega⟩) (ModAt.ref (v := va_up (va_up u 1 0) 2 0) (ModAt.ref (v := va_up u 1 0) hM9 (Sm.set rfl) (mset_self _ _ _)) (Sm.set rfl) (mset_self _ _ _)))

set_option maxHeartbeats 400000 in
set_option maxRecDepth 4000 in
theorem ok_X7_undo {l : Launch} {D : va_G} {cy : Nat → ClassId} {z : Nat} {M : Mm} {K : Option Value → Mm → Prop} {u N P A tx fr tl : Nat → Int} (hM : ModAt cy z M u N P A tx fr tl) {c9 : Nat} (hc : u 0 = c9) (hc9 : c9 ≤ 4) (hX : c9 = 0 → ∀ M', Sm M M' P7 → ModAt cy z M' (va_up u 1 1) N P A tx fr tl → K (some (iv 0)) M') (hK : 0 < c9 → ∀ M', Sm M M' P7 → ModAt cy z M' (va_up (va_up u 1 0) 0 (u 0 - 1)) (fun j => P (366 * (c9 - 1) + j)) P A tx fr tl → K (some (iv ((c9 - 1 : Nat) : Int))) M') :
    MT l D cy z false yX7_undo (wsy yX7_undo cX7_undo 2 (some .int)) 1 21 0 0 M [.ref (z + 331)] K := by
  refine MT_of (by decide) w_848 (Nat.le_of_ble_eq_true rfl) ?_
  intro p e s m args below meth c C hr hx0
  have hM9 := hM
  obtain ⟨gn, g0, g1, g2, g3, g4, g5, g6⟩ := id hM
  have loop : ∀ (n : Nat) (k9 : Nat) (N9 : Nat → Int) (M9 : Mm), (k9 ≤ 366) → (Sm M M9 P7) → (ModAt cy z M9 (va_up (va_up u 1 0) 0 (u 0 - 1)) N9 P A tx fr tl) → (∀ j, j < k9 → N9 j = P (366 * (c9 - 1) + j)) → (0 < c9) → 366 - k9 < n → V p l e { frames := 1, cells := 0, slots := 0, locals := 21 } s m args below meth c D z 2 (MQ below (qc_ D z K) args s 0 0 (fun q => z ≤ q)) 0 0 M9 33 [(0, .ref (z + 331)), (1, iv ((k9 : Int)))] [] := by
    intro n
    induction n with
    | zero => intro k9 N9 M9 hi0 hi1 hi2 hi3 hi4 hfu; exact absurd hfu (Nat.not_lt_zero _)
    | succ n ih =>
      intro k9 N9 M9 hi0 hi1 hi2 hi3 hi4 hfu
      obtain ⟨gn9, q0, q1, q2, q3, q4, q5, q6⟩ := id hi2
      have q0 : M9.2 331 = oX 6 [.ref (z + 332), .ref (z + 333), .ref (z + 334), iv (u 0 - 1), iv (0), .ref (z + 335), iv (u 2), .ref (z + 336), .ref (z + 337), iv (u 3), iv (u 4), iv (u 5), iv (u 6), lgv (u 7)] := q0
      refine V_iload_n C dX7_undo_33 rfl ?_
      refine V_sipush C dX7_undo_34 (by decide) ?_
      refine V_icmp_ge C dX7_undo_37 (tgt := 67) (by decide) (by omega) (by omega) (fun g37 => ?_) (fun g37 => ?_)
      · have en : k9 = 366 := by omega
        subst en
        refine V_cellI (fun j => P (366 * (c9 - 1) + j)) q1 (fun j hj => hi3 j hj) ?_
        refine V_aload_n C dX7_undo_67 rfl ?_
        refine V_get C fg_X7_32 dX7_undo_68 (by repeat (first | with_reducible assumption | with_reducible exact mset_self _ _ _ | refine (mset_ne (by omega)).trans ?_)) (by (try simp only [mset_1]); omega) (by rfl) ?_
        exact V_iret C hr dX7_undo_71 (K_of (hK hi4 _ (hi1.ts ⟨by omega, by omega⟩) hi2.nows) (by omega))
      · refine V_aload_n C dX7_undo_40 rfl ?_
        refine V_get C fg_X7_7 dX7_undo_41 (by repeat (first | with_reducible assumption | with_reducible exact mset_self _ _ _ | refine (mset_ne (by omega)).trans ?_)) (by (try simp only [mset_1]); omega) (by rfl) ?_
        refine V_iload_n C dX7_undo_44 rfl ?_
        refine V_aload_n C dX7_undo_45 rfl ?_
        refine V_get C fg_X7_13 dX7_undo_46 (by repeat (first | with_reducible assumption | with_reducible exact mset_self _ _ _ | refine (mset_ne (by omega)).trans ?_)) (by (try simp only [mset_1]); omega) (by rfl) ?_
        refine V_sipush C dX7_undo_49 (by decide) ?_
        refine V_aload_n C dX7_undo_52 rfl ?_
        refine V_get C fg_X7_32 dX7_undo_53 (by repeat (first | with_reducible assumption | with_reducible exact mset_self _ _ _ | refine (mset_ne (by omega)).trans ?_)) (by (try simp only [mset_1]); omega) (by rfl) ?_
        refine V_imul C dX7_undo_56 ?_
        refine V_iload_n C dX7_undo_57 rfl ?_
        refine V_iadd C dX7_undo_58 ?_
        rw [show u 0 - 1 = ((c9 - 1 : Nat) : Int) by omega]
        refine V_iald C dX7_undo_59 (by repeat (first | with_reducible assumption | with_reducible exact mset_self _ _ _ | refine (mset_ne (by omega)).trans ?_)) (by (try simp only [mset_1]); omega) (by omega) (by omega) (show (366 * ((c9 - 1 : Nat) : Int) + k9).toNat = 366 * (c9 - 1) + k9 by omega) ?_
        refine V_iast C dX7_undo_60 (by repeat (first | with_reducible assumption | with_reducible exact mset_self _ _ _ | refine (mset_ne (by omega)).trans ?_)) (by (try simp only [mset_1]); omega) (by omega) (by omega) rfl ?_
        refine V_iinc C dX7_undo_61 rfl (by decide) ?_
        refine V_goto C dX7_undo_64 (tgt := 33) (by decide) ?_
        refine V_lv [(0, .ref (z + 331)), (1, iv (((k9 + 1 : Nat) : Int)))] (List.forall_mem_cons.mpr ⟨(by first | rfl | exact congrArg (fun t => some (iv t)) (by push_cast; omega)), (List.forall_mem_cons.mpr ⟨(by first | rfl | exact congrArg (fun t => some (iv t)) (by push_cast; omega)), (fun _ h => nomatch h)⟩)⟩) ?_
        refine ih (k9 + 1) _ _ (by omega) (hi1.ts ⟨by omega, by omega⟩) hi2.nows (fun j hj => ?_) hi4 (by omega)
        rw [show ((k9 : Int)).toNat = k9 by omega]
        rcases Nat.decEq j k9 with o | o
        · rw [up_n o]; exact hi3 j (by omega)
        · subst o; rw [up_s]
  refine V_aload_n C dX7_undo_0 rfl ?_
  refine V_aload_n C dX7_undo_1 rfl ?_
  refine V_get C fg_X7_32 dX7_undo_2 (by repeat (first | with_reducible assumption | with_reducible exact mset_self _ _ _ | refine (mset_ne (by omega)).trans ?_)) (by (try simp only [mset_1]); omega) (by rfl) ?_
  refine V_if_ne C dX7_undo_5 (tgt := 12) (by decide) (by omega) (fun g5 => ?_) (fun g5 => ?_)
  · refine V_iconst C dX7_undo_12 ?_
    refine V_callV (fr := 0) (lo := 0) (mc := 0) (ms := 0) (As := [_]) C yvX7_refused w_849 dX7_undo_13 rfl rfl (by repeat (first | with_reducible assumption | with_reducible exact mset_self _ _ _ | refine (mset_ne (by omega)).trans ?_)) (by (try simp only [mset_1]); omega) rfl rfl (Nat.le_of_ble_eq_true rfl) ⟨Nat.le_of_ble_eq_true rfl, Nat.le_of_ble_eq_true rfl⟩ ⟨Nat.le_of_ble_eq_true rfl, Nat.le_of_ble_eq_true rfl⟩ ?_
    refine ok_X7_refused hM9 (by omega) (fun o => absurd o (by decide)) (fun _ M1 s1 x1 => ?_)
    have hM9 := x1
    obtain ⟨gn, g0, g1, g2, g3, g4, g5, g6⟩ := id hM9
    refine V_ifeq0 C dX7_undo_16 (tgt := 21) (by decide) ?_
    refine V_aload_n C dX7_undo_21 rfl ?_
    have g0 : M1.2 331 = oX 6 [.ref (z + 332), .ref (z + 333), .ref (z + 334), iv (u 0), iv (0), .ref (z + 335), iv (u 2), .ref (z + 336), .ref (z + 337), iv (u 3), iv (u 4), iv (u 5), iv (u 6), lgv (u 7)] := g0
    refine V_dup C dX7_undo_22 rfl ?_
    refine V_get C fg_X7_32 dX7_undo_23 (by repeat (first | with_reducible assumption | with_reducible exact mset_self _ _ _ | refine (mset_ne (by omega)).trans ?_)) (by (try simp only [mset_1]); omega) (by rfl) ?_
    refine V_iconst C dX7_undo_26 ?_
    refine V_isub C dX7_undo_27 ?_
    refine V_put C fp_X7_32 dX7_undo_28 (by repeat (first | with_reducible assumption | with_reducible exact mset_self _ _ _ | refine (mset_ne (by omega)).trans ?_)) (by (try simp only [mset_1]); omega) rfl rfl (by exact Nat.le_of_ble_eq_true rfl) ?_
    refine V_iconst C dX7_undo_31 ?_
    refine V_istore_n C dX7_undo_32 (by decide) ?_
    refine V_lv [(0, .ref (z + 331)), (1, iv (((0 : Nat) : Int)))] (List.forall_mem_cons.mpr ⟨(by first | rfl | exact congrArg (fun t => some (iv t)) (by omega)), (List.forall_mem_cons.mpr ⟨(by first | rfl | exact congrArg (fun t => some (iv t)) (by omega)), (fun _ h => nomatch h)⟩)⟩) ?_
    exact loop 367 0 N _ (by omega) ((P7_331 s1).ts ⟨by omega, by omega⟩) (x1.ref (Sm.set rfl) (mset_self _ _ _)) (fun j hj => absurd hj (Nat.not_lt_zero j)) (by omega) (by omega)
  · refine V_iconst C dX7_undo_8 ?_
    refine V_goto C dX7_undo_9 (tgt := 13) (by decide) ?_
    refine V_callV (fr := 0) (lo := 0) (mc := 0) (ms := 0) (As := [_]) C yvX7_refused w_849 dX7_undo_13 rfl rfl (by repeat (first | with_reducible assumption | with_reducible exact mset_self _ _ _ | refine (mset_ne (by omega)).trans ?_)) (by (try simp only [mset_1]); omega) rfl rfl (Nat.le_of_ble_eq_true rfl) ⟨Nat.le_of_ble_eq_true rfl, Nat.le_of_ble_eq_true rfl⟩ ⟨Nat.le_of_ble_eq_true rfl, Nat.le_of_ble_eq_true rfl⟩ ?_
    refine ok_X7_refused hM9 (by omega) (fun _ M1 s1 x1 => ?_) (fun o => absurd o (by decide))
    have hM9 := x1
    obtain ⟨gn, g0, g1, g2, g3, g4, g5, g6⟩ := id hM9
    refine V_ifeq1 C dX7_undo_16 (tgt := 21) (by decide) ?_
    refine V_iconst C dX7_undo_19 ?_
    exact V_iret C hr dX7_undo_20 (hX (by omega) _ (P7_331 s1) x1)

