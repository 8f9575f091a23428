/-! rights are read from the text (X7), walked -/
set_option maxHeartbeats 2000000 in
set_option maxRecDepth 4000 in
theorem ok_X7_parse {l : Launch} {D : va_G} {cy : Nat → ClassId} {z : Nat} {M : Mm} {K : Option Value → Mm → Prop} {u N P A tx fr tl : Nat → Int} (hM : ModAt cy z M u N P A tx fr tl) {S : SD} (hRw : RowOf N S) (hB : SB S) (hJ : IS S) {c9 : Nat} (hc : u 0 = c9) (hc9 : c9 ≤ 4) {n9 : Int} (hn : u 2 = n9) (hb : 0 ≤ n9 ∧ n9 ≤ 100) (htx : ∀ j : Nat, (j : Int) < n9 → 0 ≤ tx j ∧ tx j ≤ 127) {F0 M0 : Nat → Int} (hK1 : ¬ (rdN (gT tx n9) n9 11 ((0, -1), 0, F0, M0)).1.2 = -1 → ∀ M' u' N' A', Sm M M' P7 → ModAt cy z M' u' N' P A' tx fr tl → (∀ j, j < 366 → N' j = N j) → u' 0 = u 0 → u' 1 = 0 → u' 2 = u 2 → K (some (iv (-10 - (rdN (gT tx n9) n9 11 ((0, -1), 0, F0, M0)).1.2))) M') (hK2 : (rdN (gT tx n9) n9 11 ((0, -1), 0, F0, M0)).1.2 = -1 → ∀ M' u' P' N' A', Sm M M' P7 → ModAt cy z M' u' N' P' A' tx fr tl → u' 0 = (if c9 < 4 then (c9 : Int) + 1 else 4) → u' 1 = 0 → u' 2 = u 2 → (∃ N8, (∀ j, j < 366 → N8 j = N j) ∧ P' = psv P N8 c9) → RowOf N' (tkF S (rdN (gT tx n9) n9 11 ((0, -1), 0, F0, M0)).2.2.1 (rdN (gT tx n9) n9 11 ((0, -1), 0, F0, M0)).2.2.2 (rdN (gT tx n9) n9 11 ((0, -1), 0, F0, M0)).2.1) → K (some (iv ((rdN (gT tx n9) n9 11 ((0, -1), 0, F0, M0)).2.1 : Int))) M') :
    MT l D cy z false yX7_parse (wsy yX7_parse cX7_parse 4 (some .int)) 4 94 0 0 M [.ref (z + 331)] K := by
  refine MT_of (by decide) w_1112 (Nat.le_of_ble_eq_true rfl) ?_
  intro p e s m args below meth c C hr hx0
  have hM9 := hM
  obtain ⟨gn, g0, g1, g2, g3, g4, g5, g6⟩ := id hM
  have hB9 := hB
  have hr9 := hRw
  have hJ9 := hJ
  obtain ⟨e0, e1, e2, eH, eh, e9, e10, e11, e12, e13, e14, e15, eR⟩ := id hRw
  obtain ⟨d0, d1, d2, d4, d5, d6, dH, dR⟩ := id hB
  have dT := hJ.2.1
  refine V_aload_n C dX7_parse_0 rfl ?_
  refine V_iconst C dX7_parse_1 ?_
  refine V_put C fp_X7_28 dX7_parse_2 (by repeat (first | with_reducible assumption | with_reducible exact mset_self _ _ _ | refine (mset_ne (by omega)).trans ?_)) (by (try simp only [mset_1]); omega) rfl rfl (by exact Nat.le_of_ble_eq_true rfl) ?_
  refine V_memgen (fun M1 em => ?_)
  have s1 : Sm M M1 (fun j => j = 331) := by rw [em]; exact Sm.set rfl
  have x1 : ModAt cy z M1 (va_up u 1 0) N P A tx fr tl := by rw [em]; exact hM9.ref (Sm.set rfl) (mset_self _ _ _)
  clear em
  have hM9 := x1
  obtain ⟨gn, g0, g1, g2, g3, g4, g5, g6⟩ := id hM9
  refine V_iconst C dX7_parse_5 ?_
  refine V_istore_n C dX7_parse_6 (by decide) ?_
  have loopA : ∀ (n : Nat) (k9 : Nat) (A9 : Nat → Int) (M9 : Mm), (k9 ≤ 366) → (Sm M M9 P7) → (ModAt cy z M9 (va_up u 1 0) N P A9 tx fr tl) → (∀ j, A9 j = if j < k9 then N j else A j) → 366 - k9 < n → V p l e { frames := 4, cells := 0, slots := 0, locals := 94 } s m args below meth c D z 4 (MQ below (qc_ D z K) args s 0 0 (fun q => z ≤ q)) 0 0 M9 7 [(0, .ref (z + 331)), (1, iv ((k9 : Int)))] [] := by
    intro n
    induction n with
    | zero => intro k9 A9 M9 hi0 hi1 hi2 hi3 hfu; exact absurd hfu (Nat.not_lt_zero _)
    | succ n ih =>
      intro k9 A9 M9 hi0 hi1 hi2 hi3 hfu
      have hM9 := hi2
      obtain ⟨gn, g0, g1, g2, g3, g4, g5, g6⟩ := id hM9
      refine V_iload_n C dX7_parse_7 rfl ?_
      refine V_sipush C dX7_parse_8 (by decide) ?_
      refine V_icmp_ge C dX7_parse_11 (tgt := 32) (by decide) (by omega) (by omega) (fun g11 => ?_) (fun g11 => ?_)
      · refine V_aload_n C dX7_parse_32 rfl ?_
        refine V_get C fg_X7_7 dX7_parse_33 (by repeat (first | with_reducible assumption | with_reducible exact mset_self _ _ _ | refine (mset_ne (by omega)).trans ?_)) (by (try simp only [mset_1]); omega) (by rfl) ?_
        refine V_iconst C dX7_parse_36 ?_
        refine V_iconst C dX7_parse_37 ?_
        have en : k9 = 366 := by omega
        subst en
        have hA9 : ∀ j, j < 366 → A9 j = N j := fun j hj => by rw [hi3 j, if_pos hj]
        refine V_iast C dX7_parse_38 (by repeat (first | with_reducible assumption | with_reducible exact mset_self _ _ _ | refine (mset_ne (by omega)).trans ?_)) (by (try simp only [mset_1]); omega) (by omega) (by omega) (show ((1 : Int)).toNat = 1 from rfl) ?_
        refine V_aload_n C dX7_parse_39 rfl ?_
        refine V_iconst C dX7_parse_40 ?_
        refine V_put C fp_X7_185 dX7_parse_41 (by repeat (first | with_reducible assumption | with_reducible exact mset_self _ _ _ | refine (mset_ne (by omega)).trans ?_)) (by (try simp only [mset_1]); omega) rfl rfl (by exact Nat.le_of_ble_eq_true rfl) ?_
        refine V_iconst C dX7_parse_44 ?_
        refine V_istore_n C dX7_parse_45 (by decide) ?_
        have loopB : ∀ (n : Nat) (k9 : Nat) (q8 : RS) (u9 N9 : Nat → Int) (M9 : Mm), (Sm M M9 P7) → (ModAt cy z M9 u9 N9 P A9 tx fr tl) → (RSok n9 q8) → (N9 = cmL N q8.2.2.1 q8.2.2.2 q8.2.1) → (u9 5 = q8.1.1) → (u9 2 = n9) → (q8.1.2 = -1) → (rdN (gT tx n9) n9 k9 q8 = (rdN (gT tx n9) n9 11 ((0, -1), 0, F0, M0))) → (k9 + q8.2.1 = 11) → (∀ j, j ≠ 5 → j ≠ 6 → u9 j = va_up u 1 0 j) → k9 < n → V p l e { frames := 4, cells := 0, slots := 0, locals := 94 } s m args below meth c D z 4 (MQ below (qc_ D z K) args s 0 0 (fun q => z ≤ q)) 0 0 M9 46 [(0, .ref (z + 331)), (1, iv 1)] [] := by
          intro n
          induction n with
          | zero => intro k9 q8 u9 N9 M9 hi0 hi1 hi2 hi3 hi4 hi5 hi6 hi7 hi8 hi9 hfu; exact absurd hfu (Nat.not_lt_zero _)
          | succ n ih =>
            intro k9 q8 u9 N9 M9 hi0 hi1 hi2 hi3 hi4 hi5 hi6 hi7 hi8 hi9 hfu
            have hM9 := hi1
            obtain ⟨gn, g0, g1, g2, g3, g4, g5, g6⟩ := id hM9
            have hin := hi2.1
            have hin10 := hi2.2.1
            have hinA := hin.1
            have hinB := hin.2.1
            refine V_iload_n C dX7_parse_46 rfl ?_
            refine V_if_eq C dX7_parse_47 (tgt := 69) (by decide) (by omega) (fun g47 => ?_) (fun g47 => ?_)
            · exact absurd g47 (by decide)
            · refine V_aload_n C dX7_parse_50 rfl ?_
              refine V_get C fg_X7_185 dX7_parse_51 (by repeat (first | with_reducible assumption | with_reducible exact mset_self _ _ _ | refine (mset_ne (by omega)).trans ?_)) (by (try simp only [mset_1]); omega) (by rfl) ?_
              refine V_aload_n C dX7_parse_54 rfl ?_
              refine V_get C fg_X7_182 dX7_parse_55 (by repeat (first | with_reducible assumption | with_reducible exact mset_self _ _ _ | refine (mset_ne (by omega)).trans ?_)) (by (try simp only [mset_1]); omega) (by rfl) ?_
              refine V_icmp_ge C dX7_parse_58 (tgt := 69) (by decide) (by omega) (by omega) (fun g58 => ?_) (fun g58 => ?_)
              · refine V_aload_n C dX7_parse_69 rfl ?_
                have hR : (rdN (gT tx n9) n9 11 ((0, -1), 0, F0, M0)) = q8 := by rw [← hi7, rdN_stop (by omega)]
                refine V_callV (fr := 0) (lo := 0) (mc := 0) (ms := 0) (As := []) C yvX7_swapsAside w_1129 dX7_parse_70 rfl rfl (by repeat (first | with_reducible assumption | with_reducible exact mset_self _ _ _ | refine (mset_ne (by omega)).trans ?_)) (by (try simp only [mset_1]); omega) rfl rfl (Nat.le_of_ble_eq_true rfl) ⟨Nat.le_of_ble_eq_true rfl, Nat.le_of_ble_eq_true rfl⟩ ⟨Nat.le_of_ble_eq_true rfl, Nat.le_of_ble_eq_true rfl⟩ ?_
                refine ok_X7_swapsAside hM9 (fun M6 s6 x6 => ?_)
                have hM9 := x6
                obtain ⟨gn, g0, g1, g2, g3, g4, g5, g6⟩ := id hM9
                refine V_iload_n C dX7_parse_73 rfl ?_
                refine V_if_ne C dX7_parse_74 (tgt := 85) (by decide) (by omega) (fun g74 => ?_) (fun g74 => ?_)
                · refine V_aload_n C dX7_parse_85 rfl ?_
                  refine V_callV (fr := 0) (lo := 0) (mc := 0) (ms := 0) (As := []) C yvX7_saves w_905 dX7_parse_86 rfl rfl (by repeat (first | with_reducible assumption | with_reducible exact mset_self _ _ _ | refine (mset_ne (by omega)).trans ?_)) (by (try simp only [mset_1]); omega) rfl rfl (Nat.le_of_ble_eq_true rfl) ⟨Nat.le_of_ble_eq_true rfl, Nat.le_of_ble_eq_true rfl⟩ ⟨Nat.le_of_ble_eq_true rfl, Nat.le_of_ble_eq_true rfl⟩ ?_
                  refine ok_X7_saves hM9 (c9 := c9) ((hi9 0 (by omega) (by omega)).trans hc) hc9 (fun M2 u2 P2 s2 x2 a0 aj aP => ?_)
                  have hM9 := x2
                  obtain ⟨gn, g0, g1, g2, g3, g4, g5, g6⟩ := id hM9
                  refine V_aload_n C dX7_parse_89 rfl ?_
                  refine V_callV (fr := 0) (lo := 0) (mc := 0) (ms := 0) (As := []) C yvX7_swapsAside w_1129 dX7_parse_90 rfl rfl (by repeat (first | with_reducible assumption | with_reducible exact mset_self _ _ _ | refine (mset_ne (by omega)).trans ?_)) (by (try simp only [mset_1]); omega) rfl rfl (Nat.le_of_ble_eq_true rfl) ⟨Nat.le_of_ble_eq_true rfl, Nat.le_of_ble_eq_true rfl⟩ ⟨Nat.le_of_ble_eq_true rfl, Nat.le_of_ble_eq_true rfl⟩ ?_
                  refine ok_X7_swapsAside hM9 (fun M7 s7_ x7 => ?_)
                  have s7 : Sm M M7 P7 := ((hi0.trans s6).trans s2).trans s7_
                  have hX9 : ∀ j, j < 366 → swp (swp N9 A9) (swp A9 N9) j = N9 j := fun j hj => by show (if j < 366 then (if j < 366 then N9 j else A9 j) else _) = N9 j; rw [if_pos hj, if_pos hj]
                  have hXA : ∀ j, j < 366 → swp A9 N9 j = N j := fun j hj => by show (if j < 366 then A9 j else N9 j) = N j; rw [if_pos hj]; exact hA9 j hj
                  have hX91 : swp (swp N9 A9) (swp A9 N9) 1 = (q8.2.1 : Int) := by rw [hX9 1 (by omega), hi3, cmL_1]
                  have hfr : ∀ j, j < q8.2.1 → 0 ≤ q8.2.2.1 j ∧ q8.2.2.1 j ≤ 18262 := fun j hj => (hi2.2.2 j hj).1
                  have hfl : ∀ j, j < q8.2.1 → swp (swp N9 A9) (swp A9 N9) (16 + 35 * j) = q8.2.2.1 j := fun j hj => by rw [hX9 _ (by omega), hi3]; exact cmL_at _ hj
                  have hu1 : u9 1 = 0 := (hi9 1 (by omega) (by omega)).trans rfl
                  obtain ⟨X9, hX9e⟩ : ∃ X9, X9 = swp (swp N9 A9) (swp A9 N9) := ⟨_, rfl⟩
                  rw [← hX9e] at x7 hX91
                  simp only [← hX9e] at hX9 hfl
                  have hM9 := x7
                  obtain ⟨gn, g0, g1, g2, g3, g4, g5, g6⟩ := id hM9
                  refine V_iconst C dX7_parse_93 ?_
                  refine V_istore_n C dX7_parse_94 (by decide) ?_
                  refine V_iconst C dX7_parse_95 ?_
                  refine V_istore_n C dX7_parse_96 (by decide) ?_
                  have loopC : ∀ (n : Nat) (i : Nat), (i ≤ q8.2.1) → 10 - i < n → V p l e { frames := 4, cells := 0, slots := 0, locals := 94 } s m args below meth c D z 4 (MQ below (qc_ D z K) args s 0 0 (fun q => z ≤ q)) 0 0 M7 97 [(0, .ref (z + 331)), (2, iv (ltN q8.2.2.1 i)), (3, iv ((i : Int)))] [] := by
                    intro n
                    induction n with
                    | zero => intro i hi0 hfu; exact absurd hfu (Nat.not_lt_zero _)
                    | succ n ih =>
                      intro i hi0 hfu
                      refine V_iload_n C dX7_parse_97 rfl ?_
                      refine V_aload_n C dX7_parse_98 rfl ?_
                      refine V_get C fg_X7_7 dX7_parse_99 (by repeat (first | with_reducible assumption | with_reducible exact mset_self _ _ _ | refine (mset_ne (by omega)).trans ?_)) (by (try simp only [mset_1]); omega) (by rfl) ?_
                      refine V_iconst C dX7_parse_102 ?_
                      refine V_iald C dX7_parse_103 (by repeat (first | with_reducible assumption | with_reducible exact mset_self _ _ _ | refine (mset_ne (by omega)).trans ?_)) (by (try simp only [mset_1]); omega) (by omega) (by omega) (show ((1 : Int)).toNat = 1 from rfl) ?_
                      rw [hX91]
                      have hlr0 := ltN_rng (fl := q8.2.2.1) (n := i) (fun j hj => hfr j (by omega))
                      refine V_icmp_ge C dX7_parse_104 (tgt := 134) (by decide) (by omega) (by omega) (fun g104 => ?_) (fun g104 => ?_)
                      · have hlr := ltN_rng (fl := q8.2.2.1) (n := q8.2.1) (fun j hj => hfr j (by omega))
                        have en9 : i = q8.2.1 := by omega
                        subst en9
                        refine V_aload_n C dX7_parse_134 rfl ?_
                        refine V_get C fg_X7_7 dX7_parse_135 (by repeat (first | with_reducible assumption | with_reducible exact mset_self _ _ _ | refine (mset_ne (by omega)).trans ?_)) (by (try simp only [mset_1]); omega) (by rfl) ?_
                        refine V_iconst C dX7_parse_138 ?_
                        refine V_iload_n C dX7_parse_139 rfl ?_
                        refine V_iconst C dX7_parse_140 ?_
                        refine V_icmp_ne C dX7_parse_141 (tgt := 153) (by decide) (by omega) (by omega) (fun g141 => ?_) (fun g141 => ?_)
                        · refine V_iload_n C dX7_parse_153 rfl ?_
                          refine V_iast C dX7_parse_154 (by repeat (first | with_reducible assumption | with_reducible exact mset_self _ _ _ | refine (mset_ne (by omega)).trans ?_)) (by (try simp only [mset_1]); omega) (by omega) (by omega) (show ((0 : Int)).toNat = 0 from rfl) ?_
                          refine V_aload_n C dX7_parse_155 rfl ?_
                          refine V_get C fg_X7_7 dX7_parse_156 (by repeat (first | with_reducible assumption | with_reducible exact mset_self _ _ _ | refine (mset_ne (by omega)).trans ?_)) (by (try simp only [mset_1]); omega) (by rfl) ?_
                          refine V_bipush C dX7_parse_159 (by decide) ?_
                          refine V_iconst C dX7_parse_161 ?_
                          refine V_iast C dX7_parse_162 (by repeat (first | with_reducible assumption | with_reducible exact mset_self _ _ _ | refine (mset_ne (by omega)).trans ?_)) (by (try simp only [mset_1]); omega) (by omega) (by omega) (show ((13 : Int)).toNat = 13 from rfl) ?_
                          refine V_aload_n C dX7_parse_163 rfl ?_
                          refine V_get C fg_X7_7 dX7_parse_164 (by repeat (first | with_reducible assumption | with_reducible exact mset_self _ _ _ | refine (mset_ne (by omega)).trans ?_)) (by (try simp only [mset_1]); omega) (by rfl) ?_
                          refine V_bipush C dX7_parse_167 (by decide) ?_
                          refine V_iconst C dX7_parse_169 ?_
                          refine V_iast C dX7_parse_170 (by repeat (first | with_reducible assumption | with_reducible exact mset_self _ _ _ | refine (mset_ne (by omega)).trans ?_)) (by (try simp only [mset_1]); omega) (by omega) (by omega) (show ((14 : Int)).toNat = 14 from rfl) ?_
                          refine V_aload_n C dX7_parse_171 rfl ?_
                          refine V_get C fg_X7_7 dX7_parse_172 (by repeat (first | with_reducible assumption | with_reducible exact mset_self _ _ _ | refine (mset_ne (by omega)).trans ?_)) (by (try simp only [mset_1]); omega) (by rfl) ?_
                          refine V_bipush C dX7_parse_175 (by decide) ?_
                          refine V_iconst C dX7_parse_177 ?_
                          refine V_iast C dX7_parse_178 (by repeat (first | with_reducible assumption | with_reducible exact mset_self _ _ _ | refine (mset_ne (by omega)).trans ?_)) (by (try simp only [mset_1]); omega) (by omega) (by omega) (show ((15 : Int)).toNat = 15 from rfl) ?_
                          refine V_aload_n C dX7_parse_179 rfl ?_
                          refine V_get C fg_X7_7 dX7_parse_180 (by repeat (first | with_reducible assumption | with_reducible exact mset_self _ _ _ | refine (mset_ne (by omega)).trans ?_)) (by (try simp only [mset_1]); omega) (by rfl) ?_
                          refine V_iconst C dX7_parse_183 ?_
                          refine V_iald C dX7_parse_184 (by repeat (first | with_reducible assumption | with_reducible exact mset_self _ _ _ | refine (mset_ne (by omega)).trans ?_)) (by (try simp only [mset_1]); omega) (by omega) (by omega) (show ((1 : Int)).toNat = 1 from rfl) ?_
                          exact V_iret C hr dX7_parse_185 (by
                              have hz : q8.2.1 ≠ 0 ↔ ltN q8.2.2.1 q8.2.1 ≠ -1 := by
                                have o := mxN_rng q8.2.1 hfr
                                unfold ltN
                                by_cases w : q8.2.1 = 0
                                · rw [if_pos w]; exact ⟨fun q => absurd w q, fun q => absurd rfl q⟩
                                · rw [if_neg w]; exact ⟨fun _ => by omega, fun _ => w⟩
                              refine K_of (hK2 (by rw [hR]; exact hi6) _ u2 P2 _ _ ((((s7.ts ⟨by omega, by omega⟩).ts ⟨by omega, by omega⟩).ts ⟨by omega, by omega⟩).ts ⟨by omega, by omega⟩) x7.nows.nows.nows.nows a0 ((aj 1 (by omega)).trans hu1) ((aj 2 (by omega)).trans (hi5.trans hn.symm)) ⟨swp A9 N9, fun j hj => (hXA j hj), aP⟩ ?_) (by rw [up_n (by omega), up_n (by omega), up_n (by omega), up_n (by omega), hX9 1 (by omega), hi3, cmL_1, hR])
                              rw [hR]
                              refine RowOf_tk hRw hB hin10 (fun j hj => hi2.2.2 j hj) (fun j hj h0 => ?_) (fun hz0 => ?_) (fun hz0 => ?_)
                              · by_cases q : 13 ≤ j ∧ j < 16
                                · rw [zr_z q]
                                  rcases (show j = 15 ∨ j = 14 ∨ j = 13 by omega) with o | o | o <;> subst o
                                  · exact up_s _ _ _
                                  · rw [up_n (by omega)]; exact up_s _ _ _
                                  · rw [up_n (by omega), up_n (by omega)]; exact up_s _ _ _
                                · rw [zr_o q, up_n (by omega), up_n (by omega), up_n (by omega), up_n h0, hX9 j hj, hi3]
                              · rw [up_n (by omega), up_n (by omega), up_n (by omega), up_s]
                                exact absurd hz0 (hz.mpr (by omega))
                              · rw [up_n (by omega), up_n (by omega), up_n (by omega), up_s]
                                show ltN q8.2.2.1 q8.2.1 = mxN q8.2.2.1 q8.2.1
                                unfold ltN; rw [if_neg hz0])
                        · refine V_aload_n C dX7_parse_144 rfl ?_
                          refine V_get C fg_X7_7 dX7_parse_145 (by repeat (first | with_reducible assumption | with_reducible exact mset_self _ _ _ | refine (mset_ne (by omega)).trans ?_)) (by (try simp only [mset_1]); omega) (by rfl) ?_
                          refine V_iconst C dX7_parse_148 ?_
                          refine V_iald C dX7_parse_149 (by repeat (first | with_reducible assumption | with_reducible exact mset_self _ _ _ | refine (mset_ne (by omega)).trans ?_)) (by (try simp only [mset_1]); omega) (by omega) (by omega) (show ((0 : Int)).toNat = 0 from rfl) ?_
                          refine V_goto C dX7_parse_150 (tgt := 154) (by decide) ?_
                          refine V_iast C dX7_parse_154 (by repeat (first | with_reducible assumption | with_reducible exact mset_self _ _ _ | refine (mset_ne (by omega)).trans ?_)) (by (try simp only [mset_1]); omega) (by omega) (by omega) (show ((0 : Int)).toNat = 0 from rfl) ?_
                          refine V_aload_n C dX7_parse_155 rfl ?_
                          refine V_get C fg_X7_7 dX7_parse_156 (by repeat (first | with_reducible assumption | with_reducible exact mset_self _ _ _ | refine (mset_ne (by omega)).trans ?_)) (by (try simp only [mset_1]); omega) (by rfl) ?_
                          refine V_bipush C dX7_parse_159 (by decide) ?_
                          refine V_iconst C dX7_parse_161 ?_
                          refine V_iast C dX7_parse_162 (by repeat (first | with_reducible assumption | with_reducible exact mset_self _ _ _ | refine (mset_ne (by omega)).trans ?_)) (by (try simp only [mset_1]); omega) (by omega) (by omega) (show ((13 : Int)).toNat = 13 from rfl) ?_
                          refine V_aload_n C dX7_parse_163 rfl ?_
                          refine V_get C fg_X7_7 dX7_parse_164 (by repeat (first | with_reducible assumption | with_reducible exact mset_self _ _ _ | refine (mset_ne (by omega)).trans ?_)) (by (try simp only [mset_1]); omega) (by rfl) ?_
                          refine V_bipush C dX7_parse_167 (by decide) ?_
                          refine V_iconst C dX7_parse_169 ?_
                          refine V_iast C dX7_parse_170 (by repeat (first | with_reducible assumption | with_reducible exact mset_self _ _ _ | refine (mset_ne (by omega)).trans ?_)) (by (try simp only [mset_1]); omega) (by omega) (by omega) (show ((14 : Int)).toNat = 14 from rfl) ?_
                          refine V_aload_n C dX7_parse_171 rfl ?_
                          refine V_get C fg_X7_7 dX7_parse_172 (by repeat (first | with_reducible assumption | with_reducible exact mset_self _ _ _ | refine (mset_ne (by omega)).trans ?_)) (by (try simp only [mset_1]); omega) (by rfl) ?_
                          refine V_bipush C dX7_parse_175 (by decide) ?_
                          refine V_iconst C dX7_parse_177 ?_
                          refine V_iast C dX7_parse_178 (by repeat (first | with_reducible assumption | with_reducible exact mset_self _ _ _ | refine (mset_ne (by omega)).trans ?_)) (by (try simp only [mset_1]); omega) (by omega) (by omega) (show ((15 : Int)).toNat = 15 from rfl) ?_
                          refine V_aload_n C dX7_parse_179 rfl ?_
                          refine V_get C fg_X7_7 dX7_parse_180 (by repeat (first | with_reducible assumption | with_reducible exact mset_self _ _ _ | refine (mset_ne (by omega)).trans ?_)) (by (try simp only [mset_1]); omega) (by rfl) ?_
                          refine V_iconst C dX7_parse_183 ?_
                          refine V_iald C dX7_parse_184 (by repeat (first | with_reducible assumption | with_reducible exact mset_self _ _ _ | refine (mset_ne (by omega)).trans ?_)) (by (try simp only [mset_1]); omega) (by omega) (by omega) (show ((1 : Int)).toNat = 1 from rfl) ?_
                          exact V_iret C hr dX7_parse_185 (by
                              have hz : q8.2.1 ≠ 0 ↔ ltN q8.2.2.1 q8.2.1 ≠ -1 := by
                                have o := mxN_rng q8.2.1 hfr
                                unfold ltN
                                by_cases w : q8.2.1 = 0
                                · rw [if_pos w]; exact ⟨fun q => absurd w q, fun q => absurd rfl q⟩
                                · rw [if_neg w]; exact ⟨fun _ => by omega, fun _ => w⟩
                              refine K_of (hK2 (by rw [hR]; exact hi6) _ u2 P2 _ _ ((((s7.ts ⟨by omega, by omega⟩).ts ⟨by omega, by omega⟩).ts ⟨by omega, by omega⟩).ts ⟨by omega, by omega⟩) x7.nows.nows.nows.nows a0 ((aj 1 (by omega)).trans hu1) ((aj 2 (by omega)).trans (hi5.trans hn.symm)) ⟨swp A9 N9, fun j hj => (hXA j hj), aP⟩ ?_) (by rw [up_n (by omega), up_n (by omega), up_n (by omega), up_n (by omega), hX9 1 (by omega), hi3, cmL_1, hR])
                              rw [hR]
                              refine RowOf_tk hRw hB hin10 (fun j hj => hi2.2.2 j hj) (fun j hj h0 => ?_) (fun hz0 => ?_) (fun hz0 => ?_)
                              · by_cases q : 13 ≤ j ∧ j < 16
                                · rw [zr_z q]
                                  rcases (show j = 15 ∨ j = 14 ∨ j = 13 by omega) with o | o | o <;> subst o
                                  · exact up_s _ _ _
                                  · rw [up_n (by omega)]; exact up_s _ _ _
                                  · rw [up_n (by omega), up_n (by omega)]; exact up_s _ _ _
                                · rw [zr_o q, up_n (by omega), up_n (by omega), up_n (by omega), up_n h0, hX9 j hj, hi3]
                              · rw [up_n (by omega), up_n (by omega), up_n (by omega), up_s]
                                rw [hX9 0 (by omega), hi3, cmL_0]
                              · rw [up_n (by omega), up_n (by omega), up_n (by omega), up_s]
                                exact absurd (show ltN q8.2.2.1 q8.2.1 = -1 by omega) (hz.mp hz0))
                      · have hf0 := hfr i (by omega)
                        refine V_aload_n C dX7_parse_107 rfl ?_
                        refine V_iload_n C dX7_parse_108 rfl ?_
                        refine V_iconst C dX7_parse_109 ?_
                        refine V_callV (fr := 1) (lo := 20) (mc := 0) (ms := 0) (As := [_, _]) C yvX7_of w_940 dX7_parse_110 rfl rfl (by repeat (first | with_reducible assumption | with_reducible exact mset_self _ _ _ | refine (mset_ne (by omega)).trans ?_)) (by (try simp only [mset_1]); omega) rfl rfl (Nat.le_of_ble_eq_true rfl) ⟨Nat.le_of_ble_eq_true rfl, Nat.le_of_ble_eq_true rfl⟩ ⟨Nat.le_of_ble_eq_true rfl, Nat.le_of_ble_eq_true rfl⟩ ?_
                        refine ok_X7_of hM9 (j := 16 + 35 * i) (by omega) (by omega) (by omega) (hfl i (by omega)) ?_
                        refine V_iload_n C dX7_parse_113 rfl ?_
                        refine V_icmp_le C dX7_parse_114 (tgt := 126) (by decide) (by omega) (by omega) (fun g114 => ?_) (fun g114 => ?_)
                        · refine V_iload_n C dX7_parse_126 rfl ?_
                          refine V_istore_n C dX7_parse_127 (by decide) ?_
                          refine V_iinc C dX7_parse_128 rfl (by decide) ?_
                          refine V_goto C dX7_parse_131 (tgt := 97) (by decide) ?_
                          refine V_lv [(0, .ref (z + 331)), (2, iv (ltN q8.2.2.1 (i + 1))), (3, iv (((i + 1 : Nat) : Int)))] (List.forall_mem_cons.mpr ⟨(by first | rfl | exact congrArg (fun t => some (iv t)) (ltN_f (hfr i (by omega)).1 (by omega)).symm | exact congrArg (fun t => some (iv t)) (by push_cast; omega)), (List.forall_mem_cons.mpr ⟨(by first | rfl | exact congrArg (fun t => some (iv t)) (ltN_f (hfr i (by omega)).1 (by omega)).symm | exact congrArg (fun t => some (iv t)) (by push_cast; omega)), (List.forall_mem_cons.mpr ⟨(by first | rfl | exact congrArg (fun t => some (iv t)) (ltN_f (hfr i (by omega)).1 (by omega)).symm | exact congrArg (fun t => some (iv t)) (by push_cast; omega)), (fun _ h => nomatch h)⟩)⟩)⟩) ?_
                          exact ih (i + 1) (by omega) (by omega)
                        · refine V_aload_n C dX7_parse_117 rfl ?_
                          refine V_iload_n C dX7_parse_118 rfl ?_
                          refine V_iconst C dX7_parse_119 ?_
                          refine V_callV (fr := 1) (lo := 20) (mc := 0) (ms := 0) (As := [_, _]) C yvX7_of w_940 dX7_parse_120 rfl rfl (by repeat (first | with_reducible assumption | with_reducible exact mset_self _ _ _ | refine (mset_ne (by omega)).trans ?_)) (by (try simp only [mset_1]); omega) rfl rfl (Nat.le_of_ble_eq_true rfl) ⟨Nat.le_of_ble_eq_true rfl, Nat.le_of_ble_eq_true rfl⟩ ⟨Nat.le_of_ble_eq_true rfl, Nat.le_of_ble_eq_true rfl⟩ ?_
                          refine ok_X7_of hM9 (j := 16 + 35 * i) (by omega) (by omega) (by omega) (hfl i (by omega)) ?_
                          refine V_goto C dX7_parse_123 (tgt := 127) (by decide) ?_
                          refine V_istore_n C dX7_parse_127 (by decide) ?_
                          refine V_iinc C dX7_parse_128 rfl (by decide) ?_
                          refine V_goto C dX7_parse_131 (tgt := 97) (by decide) ?_
                          refine V_lv [(0, .ref (z + 331)), (2, iv (ltN q8.2.2.1 (i + 1))), (3, iv (((i + 1 : Nat) : Int)))] (List.forall_mem_cons.mpr ⟨(by first | rfl | exact congrArg (fun t => some (iv t)) (ltN_t (hfr i (by omega)).1 (by omega)).symm | exact congrArg (fun t => some (iv t)) (by push_cast; omega)), (List.forall_mem_cons.mpr ⟨(by first | rfl | exact congrArg (fun t => some (iv t)) (ltN_t (hfr i (by omega)).1 (by omega)).symm | exact congrArg (fun t => some (iv t)) (by push_cast; omega)), (List.forall_mem_cons.mpr ⟨(by first | rfl | exact congrArg (fun t => some (iv t)) (ltN_t (hfr i (by omega)).1 (by omega)).symm | exact congrArg (fun t => some (iv t)) (by push_cast; omega)), (fun _ h => nomatch h)⟩)⟩)⟩) ?_
                          exact ih (i + 1) (by omega) (by omega)
                  refine V_lv [(0, .ref (z + 331)), (2, iv (ltN q8.2.2.1 0)), (3, iv (((0 : Nat) : Int)))] (List.forall_mem_cons.mpr ⟨(by first | rfl | exact congrArg (fun t => some (iv t)) (by omega)), (List.forall_mem_cons.mpr ⟨(by first | rfl | exact congrArg (fun t => some (iv t)) (by omega)), (List.forall_mem_cons.mpr ⟨(by first | rfl | exact congrArg (fun t => some (iv t)) (by omega)), (fun _ h => nomatch h)⟩)⟩)⟩) ?_
                  exact loopC 11 0 (by omega) (by omega)
                · exact absurd g74 (by decide)
              · have n1_ : N9 1 = (q8.2.1 : Int) := by rw [hi3, cmL_1]
                refine V_aload_n C dX7_parse_61 rfl ?_
                refine V_callV (fr := 3) (lo := 69) (mc := 0) (ms := 0) (As := []) C yvX7_takesRight w_1113 dX7_parse_62 rfl rfl (by repeat (first | with_reducible assumption | with_reducible exact mset_self _ _ _ | refine (mset_ne (by omega)).trans ?_)) (by (try simp only [mset_1]); omega) rfl rfl (Nat.le_of_ble_eq_true rfl) ⟨Nat.le_of_ble_eq_true rfl, Nat.le_of_ble_eq_true rfl⟩ ⟨Nat.le_of_ble_eq_true rfl, Nat.le_of_ble_eq_true rfl⟩ ?_
                refine ok_X7_takesRight (n9 := n9) (p9 := q8.1.1) (r9 := q8.2.1) hM9 hi5 hi4 ⟨hb, hin.1, hin.2.1⟩ htx n1_ hin10 (fun r10 f9 M5 u5 s5 x5 q5 o5 => ?_) (fun e9 f9 f10 e90 M5 u5 s5 x5 q5 o5 => ?_)
                · 
                  refine V_istore_n C dX7_parse_65 (by decide) ?_
                  refine V_goto C dX7_parse_66 (tgt := 46) (by decide) ?_
                  refine V_lv [(0, .ref (z + 331)), (1, iv 1)] (List.forall_mem_cons.mpr ⟨(by first | rfl | exact congrArg (fun t => some (iv t)) (by omega)), (List.forall_mem_cons.mpr ⟨(by first | rfl | exact congrArg (fun t => some (iv t)) (by omega)), (fun _ h => nomatch h)⟩)⟩) ?_
                  have hpq : q8.1 = (q8.1.1, -1) := pr_eq rfl hi6
                  have hrr : rrS (gT tx n9) q8 = (r4 (gT tx n9) (q8.1.1, -1), q8.2.1 + 1, va_up q8.2.2.1 q8.2.1 (rD (gT tx n9) (q8.1.1, -1)), va_up q8.2.2.2 q8.2.1 (smV (gT tx n9) (r3 (gT tx n9) (q8.1.1, -1)))) := by
                    rw [rrS_t r10 (by rw [hpq]; exact f9), hpq]
                  obtain ⟨k8, rfl⟩ : ∃ k8, k9 = k8 + 1 := ⟨k9 - 1, by omega⟩
                  refine ih k8 (rrS (gT tx n9) q8) u5 _ M5 (hi0.trans s5) x5 (rrS_ok hi2 hi2.1.2.1) ?_ (by rw [hrr]; exact q5) ((o5 2 (by omega) (by omega)).trans hi5) (by rw [hrr]; exact f9) (by rw [← hi7, rdN_go ⟨by omega, hi6⟩]) (by rw [hrr]; show k8 + (q8.2.1 + 1) = 11; omega) (fun j h5 h6 => (o5 j h5 h6).trans (hi9 j h5 h6)) (by omega)
                  rw [hrr, hi3]
                  show cmN (cmL N q8.2.2.1 q8.2.2.2 q8.2.1) q8.2.1 _ _ = cmN (cmL N (va_up q8.2.2.1 q8.2.1 (rD (gT tx n9) (q8.1.1, -1))) (va_up q8.2.2.2 q8.2.1 (smV (gT tx n9) (r3 (gT tx n9) (q8.1.1, -1)))) q8.2.1) q8.2.1 (va_up q8.2.2.1 q8.2.1 (rD (gT tx n9) (q8.1.1, -1)) q8.2.1) (va_up q8.2.2.2 q8.2.1 (smV (gT tx n9) (r3 (gT tx n9) (q8.1.1, -1))) q8.2.1)
                  rw [up_s, up_s, cmL_congr (fl := q8.2.2.1) (sm := q8.2.2.2) q8.2.1 (fun j hj => ⟨up_n (by omega), up_n (by omega)⟩)]
                · have hM9 := x5
                  obtain ⟨gn, g0, g1, g2, g3, g4, g5, g6⟩ := id hM9
                  refine V_istore_n C dX7_parse_65 (by decide) ?_
                  refine V_goto C dX7_parse_66 (tgt := 46) (by decide) ?_
                  refine V_iload_n C dX7_parse_46 rfl ?_
                  refine V_if_eq C dX7_parse_47 (tgt := 69) (by decide) (by omega) (fun g47 => ?_) (fun g47 => ?_)
                  · refine V_aload_n C dX7_parse_69 rfl ?_
                    have hR : (rdN (gT tx n9) n9 11 ((0, -1), 0, F0, M0)).1.2 = e9 := by
                      rw [← hi7]
                      obtain ⟨k8, rfl⟩ : ∃ k8, k9 = k8 + 1 := ⟨k9 - 1, by omega⟩
                      have hpq : q8.1 = (q8.1.1, -1) := pr_eq rfl hi6
                      have h12 : (rrS (gT tx n9) q8).1.2 = e9 := by
                        rcases (show q8.2.1 < 10 ∨ q8.2.1 = 10 by omega) with o | o
                        · rw [rrS_1 o, hpq]; exact f9 o
                        · rw [rrS_2 (by omega)]; exact (f10 o).symm
                      rw [rdN_go ⟨by omega, hi6⟩, rdN_stop (by rw [h12]; omega), h12]
                    refine V_callV (fr := 0) (lo := 0) (mc := 0) (ms := 0) (As := []) C yvX7_swapsAside w_1129 dX7_parse_70 rfl rfl (by repeat (first | with_reducible assumption | with_reducible exact mset_self _ _ _ | refine (mset_ne (by omega)).trans ?_)) (by (try simp only [mset_1]); omega) rfl rfl (Nat.le_of_ble_eq_true rfl) ⟨Nat.le_of_ble_eq_true rfl, Nat.le_of_ble_eq_true rfl⟩ ⟨Nat.le_of_ble_eq_true rfl, Nat.le_of_ble_eq_true rfl⟩ ?_
                    refine ok_X7_swapsAside hM9 (fun M6 s6 x6 => ?_)
                    have hM9 := x6
                    obtain ⟨gn, g0, g1, g2, g3, g4, g5, g6⟩ := id hM9
                    refine V_iload_n C dX7_parse_73 rfl ?_
                    refine V_if_ne C dX7_parse_74 (tgt := 85) (by decide) (by omega) (fun g74 => ?_) (fun g74 => ?_)
                    · exact absurd rfl g74
                    · refine V_bipush C dX7_parse_77 (by decide) ?_
                      refine V_aload_n C dX7_parse_79 rfl ?_
                      have e85 : u5 5 = e9 := q5
                      refine V_get C fg_X7_185 dX7_parse_80 (by repeat (first | with_reducible assumption | with_reducible exact mset_self _ _ _ | refine (mset_ne (by omega)).trans ?_)) (by (try simp only [mset_1]); omega) (by rfl) ?_
                      refine V_isub C dX7_parse_83 ?_
                      exact V_iret C hr dX7_parse_84 (K_of (hK1 (by rw [hR]; omega) _ u5 _ _ ((hi0.trans s5).trans s6) x6 (fun j hj => by show (if j < 366 then A9 j else N9 j) = N j; rw [if_pos hj]; exact hA9 j hj) ((o5 0 (by omega) (by omega)).trans ((hi9 0 (by omega) (by omega)).trans rfl)) ((o5 1 (by omega) (by omega)).trans ((hi9 1 (by omega) (by omega)).trans rfl)) ((o5 2 (by omega) (by omega)).trans (hi5.trans hn.symm))) (by rw [hR, e85]))
                  · exact absurd rfl g47
        refine V_lv [(0, .ref (z + 331)), (1, iv 1)] (List.forall_mem_cons.mpr ⟨(by first | rfl | exact congrArg (fun t => some (iv t)) (by omega)), (List.forall_mem_cons.mpr ⟨(by first | rfl | exact congrArg (fun t => some (iv t)) (by omega)), (fun _ h => nomatch h)⟩)⟩) ?_
        exact loopB 12 11 ((0, -1), 0, F0, M0) (va_up (va_up u 1 0) 5 0) (va_up N 1 0) _ ((hi1.ts ⟨by omega, by omega⟩).ts ⟨by omega, by omega⟩) (ModAt.ref hi2.nows (Sm.set rfl) (mset_self _ _ _)) ⟨⟨(by show (0 : Int) ≤ 0; omega), hb.1, (by show (-1 : Int) ≤ -1; omega), (by show (-1 : Int) ≤ n9; omega)⟩, (by show (0 : Nat) ≤ 10; omega), fun j (hj : j < 0) => absurd hj (by omega)⟩ rfl (up_s _ _ _) (show u 2 = n9 from hn) rfl rfl rfl (fun j h5 h6 => up_n h5) (by omega)
      · refine V_aload_n C dX7_parse_14 rfl ?_
        refine V_get C fg_X7_16 dX7_parse_15 (by repeat (first | with_reducible assumption | with_reducible exact mset_self _ _ _ | refine (mset_ne (by omega)).trans ?_)) (by (try simp only [mset_1]); omega) (by rfl) ?_
        refine V_iload_n C dX7_parse_18 rfl ?_
        refine V_aload_n C dX7_parse_19 rfl ?_
        refine V_get C fg_X7_7 dX7_parse_20 (by repeat (first | with_reducible assumption | with_reducible exact mset_self _ _ _ | refine (mset_ne (by omega)).trans ?_)) (by (try simp only [mset_1]); omega) (by rfl) ?_
        refine V_iload_n C dX7_parse_23 rfl ?_
        refine V_iald C dX7_parse_24 (by repeat (first | with_reducible assumption | with_reducible exact mset_self _ _ _ | refine (mset_ne (by omega)).trans ?_)) (by (try simp only [mset_1]); omega) (by omega) (by omega) (show ((k9 : Int)).toNat = k9 by omega) ?_
        refine V_iast C dX7_parse_25 (by repeat (first | with_reducible assumption | with_reducible exact mset_self _ _ _ | refine (mset_ne (by omega)).trans ?_)) (by (try simp only [mset_1]); omega) (by omega) (by omega) (show ((k9 : Int)).toNat = k9 by omega) ?_
        refine V_iinc C dX7_parse_26 rfl (by decide) ?_
        refine V_goto C dX7_parse_29 (tgt := 7) (by decide) ?_
        refine V_lv [(0, .ref (z + 331)), (1, iv (((k9 + 1 : Nat) : Int)))] (List.forall_mem_cons.mpr ⟨(by first | rfl | exact congrArg (fun t => some (iv t)) (by push_cast; omega)), (List.forall_mem_cons.mpr ⟨(by first | rfl | exact congrArg (fun t => some (iv t)) (by push_cast; omega)), (fun _ h => nomatch h)⟩)⟩) ?_
        refine ih (k9 + 1) _ _ (by omega) (hi1.ts ⟨by omega, by omega⟩) hi2.asd (fun j => ?_) (by omega)
        rcases Nat.decEq j k9 with o | o
        · rw [up_n o, hi3 j]
          by_cases q : j < k9
          · rw [if_pos q, if_pos (by omega)]
          · rw [if_neg q, if_neg (by omega)]
        · rw [o, up_s, if_pos (by omega)]
  refine V_lv [(0, .ref (z + 331)), (1, iv (((0 : Nat) : Int)))] (List.forall_mem_cons.mpr ⟨(by first | rfl | exact congrArg (fun t => some (iv t)) (by omega)), (List.forall_mem_cons.mpr ⟨(by first | rfl | exact congrArg (fun t => some (iv t)) (by omega)), (fun _ h => nomatch h)⟩)⟩) ?_
  exact loopA 367 0 A M1 (by omega) (P7_331 s1) x1 (fun j => by rw [if_neg (by omega)]) (by omega)

