/-! what the reference saves, and its text and digest (X7), walked -/
def svP (P N : Nat → Int) (c : Nat) : Nat → Int := fun k => if 366 * c ≤ k ∧ k < 366 * c + 366 then N (k - 366 * c) else P k
def shP (P : Nat → Int) : Nat → Int := fun k => if k < 1098 then P (k + 366) else P k
def psv (P N : Nat → Int) (c : Nat) : Nat → Int := if c < 4 then svP P N c else svP (shP P) N 3
theorem ModAt.past {cy : Nat → ClassId} {z : Nat} {M : Mm} {u N P P' A tx fr tl : Nat → Int} (h : ModAt cy z M u N P A tx fr tl) : ModAt cy z (mset M 333 (aI cy 1464 P')) u N P' A tx fr tl := by
  obtain ⟨h0, h1, h2, h3, h4, h5, h6, h7⟩ := h
  exact ⟨by simp only [mset_1]; exact h0, (mset_ne (by omega)).trans h1, (mset_ne (by omega)).trans h2, mset_self _ _ _, (mset_ne (by omega)).trans h4, (mset_ne (by omega)).trans h5, (mset_ne (by omega)).trans h6, (mset_ne (by omega)).trans h7⟩
theorem ModAt.nows {cy : Nat → ClassId} {z : Nat} {M : Mm} {u N N' P A tx fr tl : Nat → Int} (h : ModAt cy z M u N P A tx fr tl) : ModAt cy z (mset M 332 (aI cy 366 N')) u N' P A tx fr tl := by
  obtain ⟨h0, h1, h2, h3, h4, h5, h6, h7⟩ := h
  exact ⟨by simp only [mset_1]; exact h0, (mset_ne (by omega)).trans h1, mset_self _ _ _, (mset_ne (by omega)).trans h3, (mset_ne (by omega)).trans h4, (mset_ne (by omega)).trans h5, (mset_ne (by omega)).trans h6, (mset_ne (by omega)).trans h7⟩
theorem ModAt.txt {cy : Nat → ClassId} {z : Nat} {M : Mm} {u N P A tx tx' fr tl : Nat → Int} (h : ModAt cy z M u N P A tx fr tl) : ModAt cy z (mset M 335 (aI cy 100 tx')) u N P A tx' fr tl := by
  obtain ⟨h0, h1, h2, h3, h4, h5, h6, h7⟩ := h
  exact ⟨by simp only [mset_1]; exact h0, (mset_ne (by omega)).trans h1, (mset_ne (by omega)).trans h2, (mset_ne (by omega)).trans h3, (mset_ne (by omega)).trans h4, mset_self _ _ _, (mset_ne (by omega)).trans h6, (mset_ne (by omega)).trans h7⟩
set_option maxHeartbeats 1000000 in
set_option maxRecDepth 4000 in
theorem ok_X7_saves {l : Launch} {D : va_G} {cy : Nat → ClassId} {z : Nat} {M : Mm} {K : Option Value → Mm → Prop} {u N P A tx fr tl : Nat → Int} (hM : ModAt cy z M u N P A tx fr tl) {c9 : Nat} (hc : u 0 = c9) (hc9 : c9 ≤ 4) (hK : ∀ M' u' P', Sm M M' P7 → ModAt cy z M' u' N P' A tx fr tl → u' 0 = (if c9 < 4 then (c9 : Int) + 1 else 4) → (∀ j, j ≠ 0 → u' j = u j) → P' = psv P N c9 → K none M') :
    MT l D cy z false yX7_saves (wsy yX7_saves cX7_saves 2 none) 0 0 0 0 M [.ref (z + 331)] K := by
  refine MT_of (by decide) w_908 (Nat.le_of_ble_eq_true rfl) ?_
  intro p e s m args below meth c C hr hx0
  have hM9 := hM
  obtain ⟨gn, g0, g1, g2, g3, g4, g5, g6⟩ := id hM
  have fin : ∀ (c8 : Nat) (v9 P0 : Nat → Int) (M8 : Mm), Sm M M8 P7 → ModAt cy z M8 v9 N P0 A tx fr tl → v9 0 = c8 → c8 < 4 → (∀ M' u' P', Sm M M' P7 → ModAt cy z M' u' N P' A tx fr tl → u' 0 = (c8 : Int) + 1 → (∀ j, j ≠ 0 → u' j = v9 j) → P' = svP P0 N c8 → K none M') → V p l e { frames := 0, cells := 0, slots := 0, locals := 0 } s m args below meth c D z 2 (MQ below (qc_ D z K) args s 0 0 (fun q => z ≤ q)) 0 0 M8 49 [(0, .ref (z + 331))] [] := by
    intro c8 v9 P0 M8 hs8 hm8 hv0 hc8 hfin
    have loop2 : ∀ (n : Nat) (k9 : Nat) (P9 : Nat → Int) (M9 : Mm), (k9 ≤ 366) → (Sm M M9 P7) → (ModAt cy z M9 v9 N P9 A tx fr tl) → (∀ j, P9 j = if 366 * c8 ≤ j ∧ j < 366 * c8 + k9 then N (j - 366 * c8) else P0 j) → 366 - k9 < n → V p l e { frames := 0, cells := 0, slots := 0, locals := 0 } s m args below meth c D z 2 (MQ below (qc_ D z K) args s 0 0 (fun q => z ≤ q)) 0 0 M9 51 [(0, .ref (z + 331)), (1, iv ((k9 : Int)))] [] := by
      intro n
      induction n with
      | zero => intro k9 P9 M9 hi0 hi1 hi2 hi3 hfu; exact absurd hfu (Nat.not_lt_zero _)
      | succ n ih =>
        intro k9 P9 M9 hi0 hi1 hi2 hi3 hfu
        obtain ⟨gn, g0, g1, g2, g3, g4, g5, g6⟩ := id hi2
        have gn9 := gn
        refine V_iload_n C dX7_saves_51 rfl ?_
        refine V_sipush C dX7_saves_52 (by decide) ?_
        refine V_icmp_ge C dX7_saves_55 (tgt := 85) (by decide) (by omega) (by omega) (fun g55 => ?_) (fun g55 => ?_)
        · have en : k9 = 366 := by omega
          subst en
          refine V_aload_n C dX7_saves_85 rfl ?_
          refine V_dup C dX7_saves_86 rfl ?_
          refine V_get C fg_X7_32 dX7_saves_87 (by repeat (first | with_reducible assumption | with_reducible exact mset_self _ _ _ | refine (mset_ne (by omega)).trans ?_)) (by (try simp only [mset_1]); omega) (by rfl) ?_
          refine V_iconst C dX7_saves_90 ?_
          refine V_iadd C dX7_saves_91 ?_
          refine V_put C fp_X7_32 dX7_saves_92 (by repeat (first | with_reducible assumption | with_reducible exact mset_self _ _ _ | refine (mset_ne (by omega)).trans ?_)) (by (try simp only [mset_1]); omega) rfl rfl (by exact Nat.le_of_ble_eq_true rfl) ?_
          exact V_vret C hr dX7_saves_95 (hfin _ (va_up v9 0 (v9 0 + 1)) P9 (hi1.ts ⟨by omega, by omega⟩) (hi2.ref (Sm.set rfl) (mset_self _ _ _)) (by show v9 0 + 1 = _; rw [hv0]) (fun j hj => up_n hj) (funext fun j => (hi3 j)))
        · refine V_aload_n C dX7_saves_58 rfl ?_
          refine V_get C fg_X7_13 dX7_saves_59 (by repeat (first | with_reducible assumption | with_reducible exact mset_self _ _ _ | refine (mset_ne (by omega)).trans ?_)) (by (try simp only [mset_1]); omega) (by rfl) ?_
          refine V_sipush C dX7_saves_62 (by decide) ?_
          refine V_aload_n C dX7_saves_65 rfl ?_
          refine V_get C fg_X7_32 dX7_saves_66 (by repeat (first | with_reducible assumption | with_reducible exact mset_self _ _ _ | refine (mset_ne (by omega)).trans ?_)) (by (try simp only [mset_1]); omega) (by rfl) ?_
          rw [hv0]
          refine V_imul C dX7_saves_69 ?_
          refine V_iload_n C dX7_saves_70 rfl ?_
          refine V_iadd C dX7_saves_71 ?_
          refine V_aload_n C dX7_saves_72 rfl ?_
          refine V_get C fg_X7_7 dX7_saves_73 (by repeat (first | with_reducible assumption | with_reducible exact mset_self _ _ _ | refine (mset_ne (by omega)).trans ?_)) (by (try simp only [mset_1]); omega) (by rfl) ?_
          refine V_iload_n C dX7_saves_76 rfl ?_
          refine V_iald C dX7_saves_77 (by repeat (first | with_reducible assumption | with_reducible exact mset_self _ _ _ | refine (mset_ne (by omega)).trans ?_)) (by (try simp only [mset_1]); omega) (by omega) (by omega) (by first | with_reducible exact Int.toNat_natCast _ | rfl) ?_
          refine V_iast C dX7_saves_78 (by repeat (first | with_reducible assumption | with_reducible exact mset_self _ _ _ | refine (mset_ne (by omega)).trans ?_)) (by (try simp only [mset_1]); omega) (by omega) (by omega) rfl ?_
          refine V_iinc C dX7_saves_79 rfl (by decide) ?_
          refine V_goto C dX7_saves_82 (tgt := 51) (by decide) ?_
          refine V_lv [(0, .ref (z + 331)), (1, iv (((k9 + 1 : Nat) : Int)))] (List.forall_mem_cons.mpr ⟨(by first | rfl | exact congrArg (fun t => some (iv t)) (by push_cast; omega)), (List.forall_mem_cons.mpr ⟨(by first | rfl | exact congrArg (fun t => some (iv t)) (by push_cast; omega)), (fun _ h => nomatch h)⟩)⟩) ?_
          refine ih (k9 + 1) _ _ (by omega) (hi1.ts ⟨by omega, by omega⟩) hi2.past (fun j => ?_) (by omega)
          rw [show (366 * (c8 : Int) + k9).toNat = 366 * c8 + k9 by omega]
          rcases Nat.decEq j (366 * c8 + k9) with o | o
          · rw [up_n o, hi3 j]
            by_cases q : 366 * c8 ≤ j ∧ j < 366 * c8 + k9
            · rw [if_pos q, if_pos ⟨q.1, by omega⟩]
            · rw [if_neg q, if_neg (by omega)]
          · subst o; rw [up_s, if_pos ⟨by omega, by omega⟩, show 366 * c8 + k9 - 366 * c8 = k9 by omega]
    refine V_iconst C dX7_saves_49 ?_
    refine V_istore_n C dX7_saves_50 (by decide) ?_
    refine V_lv [(0, .ref (z + 331)), (1, iv (((0 : Nat) : Int)))] (List.forall_mem_cons.mpr ⟨(by first | rfl | exact congrArg (fun t => some (iv t)) (by omega)), (List.forall_mem_cons.mpr ⟨(by first | rfl | exact congrArg (fun t => some (iv t)) (by omega)), (fun _ h => nomatch h)⟩)⟩) ?_
    exact loop2 367 0 P0 M8 (by omega) hs8 hm8 (fun j => by rw [if_neg (by omega)]) (by omega)
  have loop1 : ∀ (n : Nat) (k9 : Nat) (P9 : Nat → Int) (M9 : Mm), (k9 ≤ 1098) → (Sm M M9 P7) → (ModAt cy z M9 u N P9 A tx fr tl) → (∀ j, P9 j = if j < k9 then P (j + 366) else P j) → (c9 = 4) → 1098 - k9 < n → V p l e { frames := 0, cells := 0, slots := 0, locals := 0 } s m args below meth c D z 2 (MQ below (qc_ D z K) args s 0 0 (fun q => z ≤ q)) 0 0 M9 10 [(0, .ref (z + 331)), (1, iv ((k9 : Int)))] [] := by
    intro n
    induction n with
    | zero => intro k9 P9 M9 hi0 hi1 hi2 hi3 hi4 hfu; exact absurd hfu (Nat.not_lt_zero _)
    | succ n ih =>
      intro k9 P9 M9 hi0 hi1 hi2 hi3 hi4 hfu
      obtain ⟨gn, g0, g1, g2, g3, g4, g5, g6⟩ := id hi2
      have gn9 := gn
      refine V_iload_n C dX7_saves_10 rfl ?_
      refine V_sipush C dX7_saves_11 (by decide) ?_
      refine V_icmp_ge C dX7_saves_14 (tgt := 39) (by decide) (by omega) (by omega) (fun g14 => ?_) (fun g14 => ?_)
      · have en : k9 = 1098 := by omega
        subst en
        refine V_aload_n C dX7_saves_39 rfl ?_
        refine V_dup C dX7_saves_40 rfl ?_
        refine V_get C fg_X7_32 dX7_saves_41 (by repeat (first | with_reducible assumption | with_reducible exact mset_self _ _ _ | refine (mset_ne (by omega)).trans ?_)) (by (try simp only [mset_1]); omega) (by rfl) ?_
        refine V_iconst C dX7_saves_44 ?_
        refine V_isub C dX7_saves_45 ?_
        refine V_put C fp_X7_32 dX7_saves_46 (by repeat (first | with_reducible assumption | with_reducible exact mset_self _ _ _ | refine (mset_ne (by omega)).trans ?_)) (by (try simp only [mset_1]); omega) rfl rfl (by exact Nat.le_of_ble_eq_true rfl) ?_
        refine V_lv [(0, .ref (z + 331))] (List.forall_mem_cons.mpr ⟨rfl, (fun _ h => nomatch h)⟩) ?_
        have e3 : va_up u 0 (u 0 - 1) 0 = ((3 : Nat) : Int) := by show u 0 - 1 = 3; omega
        exact fin 3 (va_up u 0 (u 0 - 1)) P9 _ (hi1.ts ⟨by omega, by omega⟩) (hi2.ref (Sm.set rfl) (mset_self _ _ _)) e3 (by omega) (fun M3 u3 P3 a1 a2 a3 a4 a5 => hK M3 u3 P3 a1 a2 (by rw [a3, if_neg (by omega)]; rfl) (fun j hj => (a4 j hj).trans (up_n hj)) (by rw [a5, show P9 = shP P from funext hi3]; unfold psv; rw [if_neg (by omega)]))
      · refine V_aload_n C dX7_saves_17 rfl ?_
        refine V_get C fg_X7_13 dX7_saves_18 (by repeat (first | with_reducible assumption | with_reducible exact mset_self _ _ _ | refine (mset_ne (by omega)).trans ?_)) (by (try simp only [mset_1]); omega) (by rfl) ?_
        refine V_iload_n C dX7_saves_21 rfl ?_
        refine V_aload_n C dX7_saves_22 rfl ?_
        refine V_get C fg_X7_13 dX7_saves_23 (by repeat (first | with_reducible assumption | with_reducible exact mset_self _ _ _ | refine (mset_ne (by omega)).trans ?_)) (by (try simp only [mset_1]); omega) (by rfl) ?_
        refine V_iload_n C dX7_saves_26 rfl ?_
        refine V_sipush C dX7_saves_27 (by decide) ?_
        refine V_iadd C dX7_saves_30 ?_
        refine V_iald C dX7_saves_31 (by repeat (first | with_reducible assumption | with_reducible exact mset_self _ _ _ | refine (mset_ne (by omega)).trans ?_)) (by (try simp only [mset_1]); omega) (by omega) (by omega) (show ((k9 : Int) + 366).toNat = k9 + 366 by omega) ?_
        refine V_iast C dX7_saves_32 (by repeat (first | with_reducible assumption | with_reducible exact mset_self _ _ _ | refine (mset_ne (by omega)).trans ?_)) (by (try simp only [mset_1]); omega) (by omega) (by omega) rfl ?_
        refine V_iinc C dX7_saves_33 rfl (by decide) ?_
        refine V_goto C dX7_saves_36 (tgt := 10) (by decide) ?_
        refine V_lv [(0, .ref (z + 331)), (1, iv (((k9 + 1 : Nat) : Int)))] (List.forall_mem_cons.mpr ⟨(by first | rfl | exact congrArg (fun t => some (iv t)) (by push_cast; omega)), (List.forall_mem_cons.mpr ⟨(by first | rfl | exact congrArg (fun t => some (iv t)) (by push_cast; omega)), (fun _ h => nomatch h)⟩)⟩) ?_
        refine ih (k9 + 1) _ _ (by omega) (hi1.ts ⟨by omega, by omega⟩) hi2.past (fun j => ?_) hi4 (by omega)
        rw [show ((k9 : Int)).toNat = k9 by omega]
        rcases Nat.decEq j k9 with o | o
        · rw [up_n o, hi3 j]
          by_cases q : j < k9
          · rw [if_pos q, if_pos (by omega)]
          · rw [if_neg q, if_neg (by omega)]
        · subst o; rw [up_s, if_pos (by omega), hi3, if_neg (by omega)]
  refine V_aload_n C dX7_saves_0 rfl ?_
  refine V_get C fg_X7_32 dX7_saves_1 (by repeat (first | with_reducible assumption | with_reducible exact mset_self _ _ _ | refine (mset_ne (by omega)).trans ?_)) (by (try simp only [mset_1]); omega) (by rfl) ?_
  refine V_iconst C dX7_saves_4 ?_
  refine V_icmp_ne C dX7_saves_5 (tgt := 49) (by decide) (by omega) (by omega) (fun g5 => ?_) (fun g5 => ?_)
  · refine V_lv [(0, .ref (z + 331))] (List.forall_mem_cons.mpr ⟨rfl, (fun _ h => nomatch h)⟩) ?_
    exact fin c9 u P M (Sm.rf _ _) hM9 hc (by omega) (fun M3 u3 P3 a1 a2 a3 a4 a5 => hK M3 u3 P3 a1 a2 (by rw [a3, if_pos (by omega)]) a4 (by rw [a5]; unfold psv; rw [if_pos (by omega)]))
  · refine V_iconst C dX7_saves_8 ?_
    refine V_istore_n C dX7_saves_9 (by decide) ?_
    refine V_lv [(0, .ref (z + 331)), (1, iv (((0 : Nat) : Int)))] (List.forall_mem_cons.mpr ⟨(by first | rfl | exact congrArg (fun t => some (iv t)) (by omega)), (List.forall_mem_cons.mpr ⟨(by first | rfl | exact congrArg (fun t => some (iv t)) (by omega)), (fun _ h => nomatch h)⟩)⟩) ?_
    exact loop1 1099 0 P M (by omega) (Sm.rf _ _) hM9 (fun j => by rw [if_neg (by omega)]) (by omega) (by omega)

set_option maxHeartbeats 400000 in
set_option maxRecDepth 4000 in
theorem ok_X7_mix {l : Launch} {D : va_G} {cy : Nat → ClassId} {z : Nat} {M : Mm} {K : Option Value → Mm → Prop} {u N P A tx fr tl : Nat → Int} (hM : ModAt cy z M u N P A tx fr tl) {v : Int} (hK : ∀ M', Sm M M' (fun j => j = 331) → ModAt cy z M' (va_up u 7 (31 * u 7 + w32 v)) N P A tx fr tl → K none M') :
    MT l D cy z false yX7_mix (wsy yX7_mix cX7_mix 2 none) 0 0 0 0 M [.ref (z + 331), iv v] K := by
  refine MT_of (by decide) w_1141 (Nat.le_of_ble_eq_true rfl) ?_
  intro p e s m args below meth c C hr hx0
  have hM9 := hM
  obtain ⟨gn, g0, g1, g2, g3, g4, g5, g6⟩ := id hM
  refine V_aload_n C dX7_mix_0 rfl ?_
  refine V_ldc2 (a := 31) C w_1142 rfl dX7_mix_1 ?_
  refine V_aload_n C dX7_mix_4 rfl ?_
  refine V_get C fg_X7_209 dX7_mix_5 (by repeat (first | with_reducible assumption | with_reducible exact mset_self _ _ _ | refine (mset_ne (by omega)).trans ?_)) (by (try simp only [mset_1]); omega) (by rfl) ?_
  refine V_lmul C dX7_mix_8 ?_
  refine V_iload_n C dX7_mix_9 rfl ?_
  refine V_i2lw C dX7_mix_10 ?_
  refine V_ladd C dX7_mix_11 ?_
  refine V_put C fp_X7_209 dX7_mix_12 (by repeat (first | with_reducible assumption | with_reducible exact mset_self _ _ _ | refine (mset_ne (by omega)).trans ?_)) (by (try simp only [mset_1]); omega) rfl rfl (by exact Nat.le_of_ble_eq_true rfl) ?_
  exact V_vret C hr dX7_mix_15 (hK _ (Sm.set rfl) (hM9.ref (Sm.set rfl) (mset_self _ _ _)))

