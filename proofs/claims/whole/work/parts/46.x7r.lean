/-! the reference reads a text (X7), walked -/
set_option maxHeartbeats 400000 in
set_option maxRecDepth 4000 in
theorem ok_X7_isAt {l : Launch} {D : va_G} {cy : Nat → ClassId} {z : Nat} {M : Mm} {K : Option Value → Mm → Prop} {u N P A tx fr tl : Nat → Int} (hM : ModAt cy z M u N P A tx fr tl) {n9 p9 : Int} (hn : u 2 = n9) (hp : u 5 = p9) (hb : (0 ≤ n9 ∧ n9 ≤ 100) ∧ 0 ≤ p9 ∧ p9 ≤ n9) (htx : ∀ j : Nat, (j : Int) < n9 → 0 ≤ tx j ∧ tx j ≤ 127) {a9 b9 : Int} (ha0 : 0 ≤ a9) (ha9 : -2147483648 ≤ a9 ∧ a9 < 2147483648) (hb9 : -2147483648 ≤ b9 ∧ b9 < 2147483648) (hT : a9 ≤ (gT tx n9) p9 ∧ (gT tx n9) p9 ≤ b9 → K (some (iv 1)) M) (hF : ¬ (a9 ≤ (gT tx n9) p9 ∧ (gT tx n9) p9 ≤ b9) → K (some (iv 0)) M) :
    MT l D cy z false yX7_isAt (wsy yX7_isAt cX7_isAt 3 (some .boolean)) 1 22 0 0 M [.ref (z + 331), iv a9, iv b9] K := by
  refine MT_of (by decide) w_1124 (Nat.le_of_ble_eq_true rfl) ?_
  intro p e s m args below meth c C hr hx0
  have hM9 := hM
  obtain ⟨gn, g0, g1, g2, g3, g4, g5, g6⟩ := id hM
  refine V_aload_n C dX7_isAt_0 rfl ?_
  refine V_get C fg_X7_185 dX7_isAt_1 (by repeat (first | with_reducible assumption | with_reducible exact mset_self _ _ _ | refine (mset_ne (by omega)).trans ?_)) (by (try simp only [mset_1]); omega) (by rfl) ?_
  refine V_aload_n C dX7_isAt_4 rfl ?_
  refine V_get C fg_X7_182 dX7_isAt_5 (by repeat (first | with_reducible assumption | with_reducible exact mset_self _ _ _ | refine (mset_ne (by omega)).trans ?_)) (by (try simp only [mset_1]); omega) (by rfl) ?_
  refine V_icmp_ge C dX7_isAt_8 (tgt := 32) (by decide) (by omega) (by omega) (fun g8 => ?_) (fun g8 => ?_)
  · refine V_iconst C dX7_isAt_32 ?_
    exact V_zret C hr (by omega) dX7_isAt_33 (hF (fun o => by rw [gT_out (by omega)] at o; omega))
  · have hg : (gT tx n9) p9 = tx (u 5).toNat := by rw [gT_at ⟨by omega, by omega⟩, hp]
    have ht9 := htx (u 5).toNat (by omega)
    refine V_aload_n C dX7_isAt_11 rfl ?_
    refine V_get C fg_X7_19 dX7_isAt_12 (by repeat (first | with_reducible assumption | with_reducible exact mset_self _ _ _ | refine (mset_ne (by omega)).trans ?_)) (by (try simp only [mset_1]); omega) (by rfl) ?_
    refine V_aload_n C dX7_isAt_15 rfl ?_
    refine V_get C fg_X7_185 dX7_isAt_16 (by repeat (first | with_reducible assumption | with_reducible exact mset_self _ _ _ | refine (mset_ne (by omega)).trans ?_)) (by (try simp only [mset_1]); omega) (by rfl) ?_
    refine V_iald C dX7_isAt_19 (by repeat (first | with_reducible assumption | with_reducible exact mset_self _ _ _ | refine (mset_ne (by omega)).trans ?_)) (by (try simp only [mset_1]); omega) (by omega) (by omega) rfl ?_
    refine V_iload_n C dX7_isAt_20 rfl ?_
    refine V_iload_n C dX7_isAt_21 rfl ?_
    refine V_callS (fr := 0) (lo := 0) (mc := 0) (ms := 0) (As := [_, _, _]) C ysX7_in w_863 dX7_isAt_22 rfl rfl (Nat.le_of_ble_eq_true rfl) ⟨Nat.le_of_ble_eq_true rfl, Nat.le_of_ble_eq_true rfl⟩ ⟨Nat.le_of_ble_eq_true rfl, Nat.le_of_ble_eq_true rfl⟩ ?_
    refine ok_X7_in (by omega) (by omega) (by omega) (fun hw => ?_) (fun hw => ?_)
    · refine V_ifeq1 C dX7_isAt_25 (tgt := 32) (by decide) ?_
      refine V_iconst C dX7_isAt_28 ?_
      refine V_goto C dX7_isAt_29 (tgt := 33) (by decide) ?_
      exact V_zret C hr (by omega) dX7_isAt_33 (hT (by rw [hg]; exact hw))
    · refine V_ifeq0 C dX7_isAt_25 (tgt := 32) (by decide) ?_
      refine V_iconst C dX7_isAt_32 ?_
      exact V_zret C hr (by omega) dX7_isAt_33 (hF (fun o => hw (by rw [hg] at o; exact o)))

set_option maxHeartbeats 400000 in
set_option maxRecDepth 4000 in
theorem ok_X7_takes {l : Launch} {D : va_G} {cy : Nat → ClassId} {z : Nat} {M : Mm} {K : Option Value → Mm → Prop} {u N P A tx fr tl : Nat → Int} (hM : ModAt cy z M u N P A tx fr tl) {n9 p9 : Int} (hn : u 2 = n9) (hp : u 5 = p9) (hb : (0 ≤ n9 ∧ n9 ≤ 100) ∧ 0 ≤ p9 ∧ p9 ≤ n9) (htx : ∀ j : Nat, (j : Int) < n9 → 0 ≤ tx j ∧ tx j ≤ 127) {c9 : Int} (hc0 : 0 ≤ c9 ∧ c9 ≤ 127) (hT : ((gT tx n9) p9 = c9 → ∀ M' u', Sm M M' P7 → ModAt cy z M' u' N P A tx fr tl → u' 5 = p9 + 1 → (∀ j, j ≠ 5 → u' j = u j) → K (some (iv 1)) M')) (hF : (¬ (gT tx n9) p9 = c9 → ∀ M' u', Sm M M' P7 → ModAt cy z M' u' N P A tx fr tl → u' 5 = p9 → (∀ j, j ≠ 5 → u' j = u j) → K (some (iv 0)) M')) :
    MT l D cy z false yX7_takes (wsy yX7_takes cX7_takes 3 (some .boolean)) 2 44 0 0 M [.ref (z + 331), iv c9] K := by
  refine MT_of (by decide) w_1128 (Nat.le_of_ble_eq_true rfl) ?_
  intro p e s m args below meth c C hr hx0
  have hM9 := hM
  obtain ⟨gn, g0, g1, g2, g3, g4, g5, g6⟩ := id hM
  refine V_aload_n C dX7_takes_0 rfl ?_
  refine V_iload_n C dX7_takes_1 rfl ?_
  refine V_iload_n C dX7_takes_2 rfl ?_
  refine V_callV (fr := 1) (lo := 22) (mc := 0) (ms := 0) (As := [_, _]) C yvX7_isAt w_1121 dX7_takes_3 rfl rfl (by repeat (first | with_reducible assumption | with_reducible exact mset_self _ _ _ | refine (mset_ne (by omega)).trans ?_)) (by (try simp only [mset_1]); omega) rfl rfl (Nat.le_of_ble_eq_true rfl) ⟨Nat.le_of_ble_eq_true rfl, Nat.le_of_ble_eq_true rfl⟩ ⟨Nat.le_of_ble_eq_true rfl, Nat.le_of_ble_eq_true rfl⟩ ?_
  refine ok_X7_isAt hM9 hn hp hb htx (by omega) (by omega) (by omega) (fun hw => ?_) (fun hw => ?_)
  · refine V_istore_n C dX7_takes_6 (by decide) ?_
    refine V_aload_n C dX7_takes_7 rfl ?_
    refine V_dup C dX7_takes_8 rfl ?_
    refine V_get C fg_X7_185 dX7_takes_9 (by repeat (first | with_reducible assumption | with_reducible exact mset_self _ _ _ | refine (mset_ne (by omega)).trans ?_)) (by (try simp only [mset_1]); omega) (by rfl) ?_
    refine V_iload_n C dX7_takes_12 rfl ?_
    refine V_if_eq C dX7_takes_13 (tgt := 20) (by decide) (by omega) (fun g13 => ?_) (fun g13 => ?_)
    · exact absurd g13 (by decide)
    · refine V_iconst C dX7_takes_16 ?_
      refine V_goto C dX7_takes_17 (tgt := 21) (by decide) ?_
      refine V_iadd C dX7_takes_21 ?_
      refine V_put C fp_X7_185 dX7_takes_22 (by repeat (first | with_reducible assumption | with_reducible exact mset_self _ _ _ | refine (mset_ne (by omega)).trans ?_)) (by (try simp only [mset_1]); omega) rfl rfl (by exact Nat.le_of_ble_eq_true rfl) ?_
      refine V_iload_n C dX7_takes_25 rfl ?_
      exact V_zret C hr (by omega) dX7_takes_26 (hT (by omega) _ (va_up u 5 (u 5 + 1)) (Sm.set ⟨by omega, by omega⟩) (hM9.ref (Sm.set rfl) (mset_self _ _ _)) (by rw [up_s]; omega) (fun j hj => up_n hj))
  · refine V_istore_n C dX7_takes_6 (by decide) ?_
    refine V_aload_n C dX7_takes_7 rfl ?_
    refine V_dup C dX7_takes_8 rfl ?_
    refine V_get C fg_X7_185 dX7_takes_9 (by repeat (first | with_reducible assumption | with_reducible exact mset_self _ _ _ | refine (mset_ne (by omega)).trans ?_)) (by (try simp only [mset_1]); omega) (by rfl) ?_
    refine V_iload_n C dX7_takes_12 rfl ?_
    refine V_if_eq C dX7_takes_13 (tgt := 20) (by decide) (by omega) (fun g13 => ?_) (fun g13 => ?_)
    · refine V_iconst C dX7_takes_20 ?_
      refine V_iadd C dX7_takes_21 ?_
      refine V_put C fp_X7_185 dX7_takes_22 (by repeat (first | with_reducible assumption | with_reducible exact mset_self _ _ _ | refine (mset_ne (by omega)).trans ?_)) (by (try simp only [mset_1]); omega) rfl rfl (by exact Nat.le_of_ble_eq_true rfl) ?_
      refine V_iload_n C dX7_takes_25 rfl ?_
      exact V_zret C hr (by omega) dX7_takes_26 (hF (by omega) _ (va_up u 5 (u 5 + 0)) (Sm.set ⟨by omega, by omega⟩) (hM9.ref (Sm.set rfl) (mset_self _ _ _)) (by rw [up_s]; omega) (fun j hj => up_n hj))
    · exact absurd rfl g13

set_option maxHeartbeats 1000000 in
set_option maxRecDepth 4000 in
theorem ok_X7_takesNumber {l : Launch} {D : va_G} {cy : Nat → ClassId} {z : Nat} {M : Mm} {K : Option Value → Mm → Prop} {u N P A tx fr tl : Nat → Int} (hM : ModAt cy z M u N P A tx fr tl) {n9 p9 : Int} (hn : u 2 = n9) (hp : u 5 = p9) (hb : (0 ≤ n9 ∧ n9 ≤ 100) ∧ 0 ≤ p9 ∧ p9 ≤ n9) (htx : ∀ j : Nat, (j : Int) < n9 → 0 ≤ tx j ∧ tx j ≤ 127) {a9 b9 : Int} (ha0 : 0 ≤ a9 ∧ a9 ≤ 127) (hb0 : 0 ≤ b9 ∧ b9 ≤ 127) (hT : ((nmS (gT tx n9) a9 b9 (p9, -1)).2 = -1 → ∀ M' u', Sm M M' P7 → ModAt cy z M' u' N P A tx fr tl → u' 5 = (nmS (gT tx n9) a9 b9 (p9, -1)).1 → u' 6 = vN (gT tx n9) p9 → (∀ j, j ≠ 5 → j ≠ 6 → u' j = u j) → K (some (iv 1)) M')) (hF : (¬ (nmS (gT tx n9) a9 b9 (p9, -1)).2 = -1 → ∀ M' u', Sm M M' P7 → ModAt cy z M' u' N P A tx fr tl → u' 5 = (nmS (gT tx n9) a9 b9 (p9, -1)).2 → (∀ j, j ≠ 5 → j ≠ 6 → u' j = u j) → K (some (iv 0)) M')) :
    MT l D cy z false yX7_takesNumber (wsy yX7_takesNumber cX7_takesNumber 6 (some .boolean)) 2 44 0 0 M [.ref (z + 331), iv a9, iv b9] K := by
  refine MT_of (by decide) w_1120 (Nat.le_of_ble_eq_true rfl) ?_
  intro p e s m args below meth c C hr hx0
  have hM9 := hM
  obtain ⟨gn, g0, g1, g2, g3, g4, g5, g6⟩ := id hM
  refine V_aload_n C dX7_takesNumber_0 rfl ?_
  refine V_get C fg_X7_185 dX7_takesNumber_1 (by repeat (first | with_reducible assumption | with_reducible exact mset_self _ _ _ | refine (mset_ne (by omega)).trans ?_)) (by (try simp only [mset_1]); omega) (by rfl) ?_
  refine V_istore_n C dX7_takesNumber_4 (by decide) ?_
  refine V_iconst C dX7_takesNumber_5 ?_
  refine V_istore C dX7_takesNumber_6 (by decide) ?_
  have loop : ∀ (n : Nat) (k9 v : Int) (u9 : Nat → Int) (M9 : Mm), (Sm M M9 P7) → (ModAt cy z M9 u9 N P A tx fr tl) → (kN (gT tx n9) p9 k9 v) → (u9 2 = n9 ∧ u9 5 = p9 + k9 ∧ ∀ j, j ≠ 5 → u9 j = u j) → (p9 + k9 ≤ n9) → (3 - k9).toNat < n → V p l e { frames := 2, cells := 0, slots := 0, locals := 44 } s m args below meth c D z 6 (MQ below (qc_ D z K) args s 0 0 (fun q => z ≤ q)) 0 0 M9 8 [(0, .ref (z + 331)), (1, iv a9), (2, iv b9), (3, iv p9), (4, iv (v))] [] := by
    intro n
    induction n with
    | zero => intro k9 v u9 M9 hi0 hi1 hi2 hi3 hi4 hfu; exact absurd hfu (Nat.not_lt_zero _)
    | succ n ih =>
      intro k9 v u9 M9 hi0 hi1 hi2 hi3 hi4 hfu
      have hM9 := hi1
      obtain ⟨gn, g0, g1, g2, g3, g4, g5, g6⟩ := id hM9
      have krg := kN_rng hi2
      have h35 := hi3.2.1
      have h32 := hi3.1
      refine V_aload_n C dX7_takesNumber_8 rfl ?_
      refine V_bipush C dX7_takesNumber_9 (by decide) ?_
      refine V_bipush C dX7_takesNumber_11 (by decide) ?_
      refine V_callV (fr := 1) (lo := 22) (mc := 0) (ms := 0) (As := [_, _]) C yvX7_isAt w_1121 dX7_takesNumber_13 rfl rfl (by repeat (first | with_reducible assumption | with_reducible exact mset_self _ _ _ | refine (mset_ne (by omega)).trans ?_)) (by (try simp only [mset_1]); omega) rfl rfl (Nat.le_of_ble_eq_true rfl) ⟨Nat.le_of_ble_eq_true rfl, Nat.le_of_ble_eq_true rfl⟩ ⟨Nat.le_of_ble_eq_true rfl, Nat.le_of_ble_eq_true rfl⟩ ?_
      refine ok_X7_isAt (p9 := p9 + k9) hM9 hi3.1 hi3.2.1 (by omega) htx (by omega) (by omega) (by omega) (fun hh => ?_) (fun hh => ?_)
      · refine V_ifeq1 C dX7_takesNumber_16 (tgt := 62) (by decide) ?_
        refine V_aload_n C dX7_takesNumber_19 rfl ?_
        refine V_get C fg_X7_185 dX7_takesNumber_20 (by repeat (first | with_reducible assumption | with_reducible exact mset_self _ _ _ | refine (mset_ne (by omega)).trans ?_)) (by (try simp only [mset_1]); omega) (by rfl) ?_
        refine V_iload_n C dX7_takesNumber_23 rfl ?_
        refine V_iconst C dX7_takesNumber_24 ?_
        refine V_iadd C dX7_takesNumber_25 ?_
        refine V_icmp_ge C dX7_takesNumber_26 (tgt := 62) (by decide) (by omega) (by omega) (fun g26 => ?_) (fun g26 => ?_)
        · obtain ⟨c1, c2⟩ := kN_end hi2 (fun q => by first | exact hh | omega)
          refine V_aload_n C dX7_takesNumber_62 rfl ?_
          refine V_get C fg_X7_185 dX7_takesNumber_63 (by repeat (first | with_reducible assumption | with_reducible exact mset_self _ _ _ | refine (mset_ne (by omega)).trans ?_)) (by (try simp only [mset_1]); omega) (by rfl) ?_
          refine V_iload_n C dX7_takesNumber_66 rfl ?_
          refine V_icmp_eq C dX7_takesNumber_67 (tgt := 81) (by decide) (by omega) (by omega) (fun g67 => ?_) (fun g67 => ?_)
          · refine V_iconst C dX7_takesNumber_81 ?_
            exact V_zret C hr (by omega) dX7_takesNumber_82 (hF (by rw [nmg_x (Or.inl (by omega))]; omega) _ u9 hi0 hi1 (by rw [nmg_x (Or.inl (by omega))]; omega) (fun j h5 _ => hi3.2.2 j h5))
          · refine V_aload_n C dX7_takesNumber_70 rfl ?_
            refine V_bipush C dX7_takesNumber_71 (by decide) ?_
            refine V_bipush C dX7_takesNumber_73 (by decide) ?_
            refine V_callV (fr := 1) (lo := 22) (mc := 0) (ms := 0) (As := [_, _]) C yvX7_isAt w_1121 dX7_takesNumber_75 rfl rfl (by repeat (first | with_reducible assumption | with_reducible exact mset_self _ _ _ | refine (mset_ne (by omega)).trans ?_)) (by (try simp only [mset_1]); omega) rfl rfl (Nat.le_of_ble_eq_true rfl) ⟨Nat.le_of_ble_eq_true rfl, Nat.le_of_ble_eq_true rfl⟩ ⟨Nat.le_of_ble_eq_true rfl, Nat.le_of_ble_eq_true rfl⟩ ?_
            refine ok_X7_isAt (p9 := p9 + k9) hM9 hi3.1 hi3.2.1 (by omega) htx (by omega) (by omega) (by omega) (fun hh3 => ?_) (fun hh3 => ?_)
            · refine V_ifeq1 C dX7_takesNumber_78 (tgt := 83) (by decide) ?_
              refine V_iconst C dX7_takesNumber_81 ?_
              exact V_zret C hr (by omega) dX7_takesNumber_82 (hF (by rw [nmg_x (Or.inr (by rw [c1]; exact hh3))]; omega) _ u9 hi0 hi1 (by rw [nmg_x (Or.inr (by rw [c1]; exact hh3))]; omega) (fun j h5 _ => hi3.2.2 j h5))
            · refine V_ifeq0 C dX7_takesNumber_78 (tgt := 83) (by decide) ?_
              refine V_aload_n C dX7_takesNumber_83 rfl ?_
              refine V_iload C dX7_takesNumber_84 rfl ?_
              refine V_put C fp_X7_191 dX7_takesNumber_86 (by repeat (first | with_reducible assumption | with_reducible exact mset_self _ _ _ | refine (mset_ne (by omega)).trans ?_)) (by (try simp only [mset_1]); omega) rfl rfl (by exact Nat.le_of_ble_eq_true rfl) ?_
              refine V_iload C dX7_takesNumber_89 rfl ?_
              refine V_iload_n C dX7_takesNumber_91 rfl ?_
              refine V_iload_n C dX7_takesNumber_92 rfl ?_
              refine V_callS (fr := 0) (lo := 0) (mc := 0) (ms := 0) (As := [_, _, _]) C ysX7_in w_863 dX7_takesNumber_93 rfl rfl (Nat.le_of_ble_eq_true rfl) ⟨Nat.le_of_ble_eq_true rfl, Nat.le_of_ble_eq_true rfl⟩ ⟨Nat.le_of_ble_eq_true rfl, Nat.le_of_ble_eq_true rfl⟩ ?_
              refine ok_X7_in (by omega) (by omega) (by omega) (fun hw => ?_) (fun hw => ?_)
              · refine V_istore C dX7_takesNumber_96 (by decide) ?_
                refine V_aload_n C dX7_takesNumber_98 rfl ?_
                refine V_iload C dX7_takesNumber_99 rfl ?_
                refine V_if_eq C dX7_takesNumber_101 (tgt := 111) (by decide) (by omega) (fun g101 => ?_) (fun g101 => ?_)
                · exact absurd g101 (by decide)
                · refine V_aload_n C dX7_takesNumber_104 rfl ?_
                  refine V_get C fg_X7_185 dX7_takesNumber_105 (by repeat (first | with_reducible assumption | with_reducible exact mset_self _ _ _ | refine (mset_ne (by omega)).trans ?_)) (by (try simp only [mset_1]); omega) (by rfl) ?_
                  refine V_goto C dX7_takesNumber_108 (tgt := 112) (by decide) ?_
                  refine V_put C fp_X7_185 dX7_takesNumber_112 (by repeat (first | with_reducible assumption | with_reducible exact mset_self _ _ _ | refine (mset_ne (by omega)).trans ?_)) (by (try simp only [mset_1]); omega) rfl rfl (by exact Nat.le_of_ble_eq_true rfl) ?_
                  refine V_iload C dX7_takesNumber_115 rfl ?_
                  exact V_zret C hr (by omega) dX7_takesNumber_117 (hT (nmg_o (show ¬ (cN (gT tx n9) p9 = 0 ∨ dgR ((gT tx n9) (p9 + cN (gT tx n9) p9))) by rw [c1]; exact fun o => o.elim (fun q => by omega) (fun q => hh3 q)) (by omega)) _ (va_up (va_up u9 6 v) 5 (u9 5)) ((hi0.ts ⟨by omega, by omega⟩).ts ⟨by omega, by omega⟩) (ModAt.ref (hi1.ref (v := va_up u9 6 v) (Sm.set rfl) (mset_self _ _ _)) (Sm.set rfl) (mset_self _ _ _)) (by rw [up_s, nmg_1]; omega) (by rw [up_n (by omega), up_s]; omega) (fun j h5 h6 => (up_n h5).trans ((up_n h6).trans (hi3.2.2 j h5))))
              · refine V_istore C dX7_takesNumber_96 (by decide) ?_
                refine V_aload_n C dX7_takesNumber_98 rfl ?_
                refine V_iload C dX7_takesNumber_99 rfl ?_
                refine V_if_eq C dX7_takesNumber_101 (tgt := 111) (by decide) (by omega) (fun g101 => ?_) (fun g101 => ?_)
                · refine V_iload_n C dX7_takesNumber_111 rfl ?_
                  refine V_put C fp_X7_185 dX7_takesNumber_112 (by repeat (first | with_reducible assumption | with_reducible exact mset_self _ _ _ | refine (mset_ne (by omega)).trans ?_)) (by (try simp only [mset_1]); omega) rfl rfl (by exact Nat.le_of_ble_eq_true rfl) ?_
                  refine V_iload C dX7_takesNumber_115 rfl ?_
                  exact V_zret C hr (by omega) dX7_takesNumber_117 (hF (by rw [nmg_r (show ¬ (cN (gT tx n9) p9 = 0 ∨ dgR ((gT tx n9) (p9 + cN (gT tx n9) p9))) by rw [c1]; exact fun o => o.elim (fun q => by omega) (fun q => hh3 q)) (by omega)]; omega) _ (va_up (va_up u9 6 v) 5 (p9)) ((hi0.ts ⟨by omega, by omega⟩).ts ⟨by omega, by omega⟩) (ModAt.ref (hi1.ref (v := va_up u9 6 v) (Sm.set rfl) (mset_self _ _ _)) (Sm.set rfl) (mset_self _ _ _)) (by rw [up_s, nmg_r (show ¬ (cN (gT tx n9) p9 = 0 ∨ dgR ((gT tx n9) (p9 + cN (gT tx n9) p9))) by rw [c1]; exact fun o => o.elim (fun q => by omega) (fun q => hh3 q)) (by omega)]) (fun j h5 h6 => (up_n h5).trans ((up_n h6).trans (hi3.2.2 j h5))))
                · exact absurd rfl g101
        · refine V_bipush C dX7_takesNumber_29 (by decide) ?_
          refine V_iload C dX7_takesNumber_31 rfl ?_
          refine V_imul C dX7_takesNumber_33 ?_
          refine V_aload_n C dX7_takesNumber_34 rfl ?_
          refine V_get C fg_X7_19 dX7_takesNumber_35 (by repeat (first | with_reducible assumption | with_reducible exact mset_self _ _ _ | refine (mset_ne (by omega)).trans ?_)) (by (try simp only [mset_1]); omega) (by rfl) ?_
          refine V_aload_n C dX7_takesNumber_38 rfl ?_
          refine V_get C fg_X7_185 dX7_takesNumber_39 (by repeat (first | with_reducible assumption | with_reducible exact mset_self _ _ _ | refine (mset_ne (by omega)).trans ?_)) (by (try simp only [mset_1]); omega) (by rfl) ?_
          have hg : (gT tx n9) (p9 + k9) = tx (u9 5).toNat := by rw [gT_at (gT_dg hh), hi3.2.1]
          have hgi := gT_dg hh
          have ht9 := htx (u9 5).toNat (by omega)
          refine V_iald C dX7_takesNumber_42 (by repeat (first | with_reducible assumption | with_reducible exact mset_self _ _ _ | refine (mset_ne (by omega)).trans ?_)) (by (try simp only [mset_1]); omega) (by omega) (by omega) rfl ?_
          refine V_iadd C dX7_takesNumber_43 ?_
          refine V_bipush C dX7_takesNumber_44 (by decide) ?_
          refine V_isub C dX7_takesNumber_46 ?_
          refine V_istore C dX7_takesNumber_47 (by decide) ?_
          refine V_aload_n C dX7_takesNumber_49 rfl ?_
          refine V_dup C dX7_takesNumber_50 rfl ?_
          refine V_get C fg_X7_185 dX7_takesNumber_51 (by repeat (first | with_reducible assumption | with_reducible exact mset_self _ _ _ | refine (mset_ne (by omega)).trans ?_)) (by (try simp only [mset_1]); omega) (by rfl) ?_
          refine V_iconst C dX7_takesNumber_54 ?_
          refine V_iadd C dX7_takesNumber_55 ?_
          refine V_put C fp_X7_185 dX7_takesNumber_56 (by repeat (first | with_reducible assumption | with_reducible exact mset_self _ _ _ | refine (mset_ne (by omega)).trans ?_)) (by (try simp only [mset_1]); omega) rfl rfl (by exact Nat.le_of_ble_eq_true rfl) ?_
          refine V_goto C dX7_takesNumber_59 (tgt := 8) (by decide) ?_
          refine V_lv [(0, .ref (z + 331)), (1, iv a9), (2, iv b9), (3, iv p9), (4, iv (10 * v + (gT tx n9) (p9 + k9) - 48))] (List.forall_mem_cons.mpr ⟨(by first | rfl | exact congrArg (fun t => some (iv t)) (by omega)), (List.forall_mem_cons.mpr ⟨(by first | rfl | exact congrArg (fun t => some (iv t)) (by omega)), (List.forall_mem_cons.mpr ⟨(by first | rfl | exact congrArg (fun t => some (iv t)) (by omega)), (List.forall_mem_cons.mpr ⟨(by first | rfl | exact congrArg (fun t => some (iv t)) (by omega)), (List.forall_mem_cons.mpr ⟨(by first | rfl | exact congrArg (fun t => some (iv t)) (by omega)), (fun _ h => nomatch h)⟩)⟩)⟩)⟩)⟩) ?_
          exact ih (k9 + 1) (10 * v + (gT tx n9) (p9 + k9) - 48) (va_up u9 5 (u9 5 + 1)) _ (hi0.ts ⟨by omega, by omega⟩) (hi1.ref (Sm.set rfl) (mset_self _ _ _)) (kN_step hi2 hh (by omega)) ⟨hi3.1, by rw [up_s]; omega, fun j h5 => (up_n h5).trans (hi3.2.2 j h5)⟩ (by omega) (by omega)
      · refine V_ifeq0 C dX7_takesNumber_16 (tgt := 62) (by decide) ?_
        obtain ⟨c1, c2⟩ := kN_end hi2 (fun q => by first | exact hh | omega)
        refine V_aload_n C dX7_takesNumber_62 rfl ?_
        refine V_get C fg_X7_185 dX7_takesNumber_63 (by repeat (first | with_reducible assumption | with_reducible exact mset_self _ _ _ | refine (mset_ne (by omega)).trans ?_)) (by (try simp only [mset_1]); omega) (by rfl) ?_
        refine V_iload_n C dX7_takesNumber_66 rfl ?_
        refine V_icmp_eq C dX7_takesNumber_67 (tgt := 81) (by decide) (by omega) (by omega) (fun g67 => ?_) (fun g67 => ?_)
        · refine V_iconst C dX7_takesNumber_81 ?_
          exact V_zret C hr (by omega) dX7_takesNumber_82 (hF (by rw [nmg_x (Or.inl (by omega))]; omega) _ u9 hi0 hi1 (by rw [nmg_x (Or.inl (by omega))]; omega) (fun j h5 _ => hi3.2.2 j h5))
        · refine V_aload_n C dX7_takesNumber_70 rfl ?_
          refine V_bipush C dX7_takesNumber_71 (by decide) ?_
          refine V_bipush C dX7_takesNumber_73 (by decide) ?_
          refine V_callV (fr := 1) (lo := 22) (mc := 0) (ms := 0) (As := [_, _]) C yvX7_isAt w_1121 dX7_takesNumber_75 rfl rfl (by repeat (first | with_reducible assumption | with_reducible exact mset_self _ _ _ | refine (mset_ne (by omega)).trans ?_)) (by (try simp only [mset_1]); omega) rfl rfl (Nat.le_of_ble_eq_true rfl) ⟨Nat.le_of_ble_eq_true rfl, Nat.le_of_ble_eq_true rfl⟩ ⟨Nat.le_of_ble_eq_true rfl, Nat.le_of_ble_eq_true rfl⟩ ?_
          refine ok_X7_isAt (p9 := p9 + k9) hM9 hi3.1 hi3.2.1 (by omega) htx (by omega) (by omega) (by omega) (fun hh3 => ?_) (fun hh3 => ?_)
          · refine V_ifeq1 C dX7_takesNumber_78 (tgt := 83) (by decide) ?_
            refine V_iconst C dX7_takesNumber_81 ?_
            exact V_zret C hr (by omega) dX7_takesNumber_82 (hF (by rw [nmg_x (Or.inr (by rw [c1]; exact hh3))]; omega) _ u9 hi0 hi1 (by rw [nmg_x (Or.inr (by rw [c1]; exact hh3))]; omega) (fun j h5 _ => hi3.2.2 j h5))
          · refine V_ifeq0 C dX7_takesNumber_78 (tgt := 83) (by decide) ?_
            refine V_aload_n C dX7_takesNumber_83 rfl ?_
            refine V_iload C dX7_takesNumber_84 rfl ?_
            refine V_put C fp_X7_191 dX7_takesNumber_86 (by repeat (first | with_reducible assumption | with_reducible exact mset_self _ _ _ | refine (mset_ne (by omega)).trans ?_)) (by (try simp only [mset_1]); omega) rfl rfl (by exact Nat.le_of_ble_eq_true rfl) ?_
            refine V_iload C dX7_takesNumber_89 rfl ?_
            refine V_iload_n C dX7_takesNumber_91 rfl ?_
            refine V_iload_n C dX7_takesNumber_92 rfl ?_
            refine V_callS (fr := 0) (lo := 0) (mc := 0) (ms := 0) (As := [_, _, _]) C ysX7_in w_863 dX7_takesNumber_93 rfl rfl (Nat.le_of_ble_eq_true rfl) ⟨Nat.le_of_ble_eq_true rfl, Nat.le_of_ble_eq_true rfl⟩ ⟨Nat.le_of_ble_eq_true rfl, Nat.le_of_ble_eq_true rfl⟩ ?_
            refine ok_X7_in (by omega) (by omega) (by omega) (fun hw => ?_) (fun hw => ?_)
            · refine V_istore C dX7_takesNumber_96 (by decide) ?_
              refine V_aload_n C dX7_takesNumber_98 rfl ?_
              refine V_iload C dX7_takesNumber_99 rfl ?_
              refine V_if_eq C dX7_takesNumber_101 (tgt := 111) (by decide) (by omega) (fun g101 => ?_) (fun g101 => ?_)
              · exact absurd g101 (by decide)
              · refine V_aload_n C dX7_takesNumber_104 rfl ?_
                refine V_get C fg_X7_185 dX7_takesNumber_105 (by repeat (first | with_reducible assumption | with_reducible exact mset_self _ _ _ | refine (mset_ne (by omega)).trans ?_)) (by (try simp only [mset_1]); omega) (by rfl) ?_
                refine V_goto C dX7_takesNumber_108 (tgt := 112) (by decide) ?_
                refine V_put C fp_X7_185 dX7_takesNumber_112 (by repeat (first | with_reducible assumption | with_reducible exact mset_self _ _ _ | refine (mset_ne (by omega)).trans ?_)) (by (try simp only [mset_1]); omega) rfl rfl (by exact Nat.le_of_ble_eq_true rfl) ?_
                refine V_iload C dX7_takesNumber_115 rfl ?_
                exact V_zret C hr (by omega) dX7_takesNumber_117 (hT (nmg_o (show ¬ (cN (gT tx n9) p9 = 0 ∨ dgR ((gT tx n9) (p9 + cN (gT tx n9) p9))) by rw [c1]; exact fun o => o.elim (fun q => by omega) (fun q => hh3 q)) (by omega)) _ (va_up (va_up u9 6 v) 5 (u9 5)) ((hi0.ts ⟨by omega, by omega⟩).ts ⟨by omega, by omega⟩) (ModAt.ref (hi1.ref (v := va_up u9 6 v) (Sm.set rfl) (mset_self _ _ _)) (Sm.set rfl) (mset_self _ _ _)) (by rw [up_s, nmg_1]; omega) (by rw [up_n (by omega), up_s]; omega) (fun j h5 h6 => (up_n h5).trans ((up_n h6).trans (hi3.2.2 j h5))))
            · refine V_istore C dX7_takesNumber_96 (by decide) ?_
              refine V_aload_n C dX7_takesNumber_98 rfl ?_
              refine V_iload C dX7_takesNumber_99 rfl ?_
              refine V_if_eq C dX7_takesNumber_101 (tgt := 111) (by decide) (by omega) (fun g101 => ?_) (fun g101 => ?_)
              · refine V_iload_n C dX7_takesNumber_111 rfl ?_
                refine V_put C fp_X7_185 dX7_takesNumber_112 (by repeat (first | with_reducible assumption | with_reducible exact mset_self _ _ _ | refine (mset_ne (by omega)).trans ?_)) (by (try simp only [mset_1]); omega) rfl rfl (by exact Nat.le_of_ble_eq_true rfl) ?_
                refine V_iload C dX7_takesNumber_115 rfl ?_
                exact V_zret C hr (by omega) dX7_takesNumber_117 (hF (by rw [nmg_r (show ¬ (cN (gT tx n9) p9 = 0 ∨ dgR ((gT tx n9) (p9 + cN (gT tx n9) p9))) by rw [c1]; exact fun o => o.elim (fun q => by omega) (fun q => hh3 q)) (by omega)]; omega) _ (va_up (va_up u9 6 v) 5 (p9)) ((hi0.ts ⟨by omega, by omega⟩).ts ⟨by omega, by omega⟩) (ModAt.ref (hi1.ref (v := va_up u9 6 v) (Sm.set rfl) (mset_self _ _ _)) (Sm.set rfl) (mset_self _ _ _)) (by rw [up_s, nmg_r (show ¬ (cN (gT tx n9) p9 = 0 ∨ dgR ((gT tx n9) (p9 + cN (gT tx n9) p9))) by rw [c1]; exact fun o => o.elim (fun q => by omega) (fun q => hh3 q)) (by omega)]) (fun j h5 h6 => (up_n h5).trans ((up_n h6).trans (hi3.2.2 j h5))))
              · exact absurd rfl g101
  refine V_lv [(0, .ref (z + 331)), (1, iv a9), (2, iv b9), (3, iv p9), (4, iv (0))] (List.forall_mem_cons.mpr ⟨(by first | rfl | exact congrArg (fun t => some (iv t)) (by omega)), (List.forall_mem_cons.mpr ⟨(by first | rfl | exact congrArg (fun t => some (iv t)) (by omega)), (List.forall_mem_cons.mpr ⟨(by first | rfl | exact congrArg (fun t => some (iv t)) (by omega)), (List.forall_mem_cons.mpr ⟨(by first | rfl | exact congrArg (fun t => some (iv t)) (by omega)), (List.forall_mem_cons.mpr ⟨(by first | rfl | exact congrArg (fun t => some (iv t)) (by omega)), (fun _ h => nomatch h)⟩)⟩)⟩)⟩)⟩) ?_
  exact loop 4 0 0 u M (Sm.rf _ _) hM kN_0 ⟨hn, by omega, fun _ _ => rfl⟩ (by omega) (by omega)

