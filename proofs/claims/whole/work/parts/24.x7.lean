/-! the reference (X7): its calendar, walked -/
/-- the reference in memory: its eight numbers, its rows -/
def ModAt (cy : Nat → ClassId) (z : Nat) (M : Mm) (u N P A tx fr tl : Nat → Int) : Prop := 338 ≤ M.1 ∧ M.2 331 = oX 6 [.ref (z + 332), .ref (z + 333), .ref (z + 334), iv (u 0), iv (u 1), .ref (z + 335), iv (u 2), .ref (z + 336), .ref (z + 337), iv (u 3), iv (u 4), iv (u 5), iv (u 6), lgv (u 7)] ∧ M.2 332 = aI cy 366 N ∧ M.2 333 = aI cy 1464 P ∧ M.2 334 = aI cy 366 A ∧ M.2 335 = aI cy 100 tx ∧ M.2 336 = aI cy 19 fr ∧ M.2 337 = aI cy 19 tl
theorem ModAt.keep {cy : Nat → ClassId} {z : Nat} {M M' : Mm} {u N P A tx fr tl : Nat → Int} {Q : Nat → Prop} (h : ModAt cy z M u N P A tx fr tl) (hs : Sm M M' Q) (hQ : ∀ k, 331 ≤ k → k < 338 → ¬ Q k) : ModAt cy z M' u N P A tx fr tl := by
  obtain ⟨h0, h1, h2, h3, h4, h5, h6, h7⟩ := h
  exact ⟨by rw [hs.1]; exact h0, (hs.2 _ (hQ _ (by omega) (by omega))).trans h1, (hs.2 _ (hQ _ (by omega) (by omega))).trans h2, (hs.2 _ (hQ _ (by omega) (by omega))).trans h3, (hs.2 _ (hQ _ (by omega) (by omega))).trans h4, (hs.2 _ (hQ _ (by omega) (by omega))).trans h5, (hs.2 _ (hQ _ (by omega) (by omega))).trans h6, (hs.2 _ (hQ _ (by omega) (by omega))).trans h7⟩
theorem ModAt.ref {cy : Nat → ClassId} {z : Nat} {M M' : Mm} {u N P A tx fr tl : Nat → Int} (h : ModAt cy z M u N P A tx fr tl) (hs : Sm M M' (fun j => j = 331)) {v : Nat → Int} (he : M'.2 331 = oX 6 [.ref (z + 332), .ref (z + 333), .ref (z + 334), iv (v 0), iv (v 1), .ref (z + 335), iv (v 2), .ref (z + 336), .ref (z + 337), iv (v 3), iv (v 4), iv (v 5), iv (v 6), lgv (v 7)]) : ModAt cy z M' v N P A tx fr tl := by
  obtain ⟨h0, h1, h2, h3, h4, h5, h6, h7⟩ := h
  exact ⟨by rw [hs.1]; exact h0, he, (hs.2 _ (by omega)).trans h2, (hs.2 _ (by omega)).trans h3, (hs.2 _ (by omega)).trans h4, (hs.2 _ (by omega)).trans h5, (hs.2 _ (by omega)).trans h6, (hs.2 _ (by omega)).trans h7⟩
abbrev rowH (N : Nat → Int) : Nat → Int := fun k => N (3 + k)
theorem wf_step {H : Int → Bool} {n : Nat} {d : Int} (h : work H d = false) : wf H (n + 1) d = wf H n (d + 1) := by rw [wf, if_neg (by rw [h]; decide)]
theorem wk_t {H : Int → Bool} {d : Int} (h1 : d % 7 < 5) (h2 : H (date d % 10000) = false) : work H d = true := by unfold work; rw [decide_eq_true h1, h2]; rfl
theorem wk_f1 {H : Int → Bool} {d : Int} (h1 : ¬ d % 7 < 5) : work H d = false := by unfold work; rw [decide_eq_false h1]; rfl
theorem wk_f2 {H : Int → Bool} {d : Int} (h2 : H (date d % 10000) = true) : work H d = false := by unfold work; rw [h2]; simp
theorem bool_cases (b : Bool) : b = true ∨ b = false := by cases b <;> simp
set_option maxHeartbeats 400000 in
set_option maxRecDepth 4000 in
theorem ok_X7_in {l : Launch} {D : va_G} {cy : Nat → ClassId} {z : Nat} {M : Mm} {K : Option Value → Mm → Prop} {v a b : Int} (hv : -2147483648 ≤ v ∧ v < 2147483648) (ha : -2147483648 ≤ a ∧ a < 2147483648) (hb : -2147483648 ≤ b ∧ b < 2147483648) (hT : a ≤ v ∧ v ≤ b → K (some (iv 1)) M) (hF : ¬ (a ≤ v ∧ v ≤ b) → K (some (iv 0)) M) :
    MT l D cy z false yX7_in (wsy yX7_in cX7_in 3 (some .boolean)) 0 0 0 0 M [iv v, iv a, iv b] K := by
  refine MT_of (by decide) w_865 (Nat.le_of_ble_eq_true rfl) ?_
  intro p e s m args below meth c C hr hx0
  refine V_iload_n C dX7_in_0 rfl ?_
  refine V_iload_n C dX7_in_1 rfl ?_
  refine V_icmp_lt C dX7_in_2 (tgt := 14) (by decide) (by omega) (by omega) (fun g2 => ?_) (fun g2 => ?_)
  · refine V_iconst C dX7_in_14 ?_
    exact V_zret C hr (by omega) dX7_in_15 (hF (fun o => by omega))
  · refine V_iload_n C dX7_in_5 rfl ?_
    refine V_iload_n C dX7_in_6 rfl ?_
    refine V_icmp_gt C dX7_in_7 (tgt := 14) (by decide) (by omega) (by omega) (fun g7 => ?_) (fun g7 => ?_)
    · refine V_iconst C dX7_in_14 ?_
      exact V_zret C hr (by omega) dX7_in_15 (hF (fun o => by omega))
    · refine V_iconst C dX7_in_10 ?_
      refine V_goto C dX7_in_11 (tgt := 15) (by decide) ?_
      exact V_zret C hr (by omega) dX7_in_15 (hT ⟨by omega, by omega⟩)

set_option maxHeartbeats 400000 in
set_option maxRecDepth 4000 in
theorem ok_X7_thrown {l : Launch} {D : va_G} {cy : Nat → ClassId} {z : Nat} {M : Mm} {K : Option Value → Mm → Prop} {u N P A tx fr tl : Nat → Int} (hM : ModAt cy z M u N P A tx fr tl) (hK : K (some (iv (u 1))) M) :
    MT l D cy z false yX7_thrown (wsy yX7_thrown cX7_thrown 1 (some .int)) 0 0 0 0 M [.ref (z + 331)] K := by
  refine MT_of (by decide) w_844 (Nat.le_of_ble_eq_true rfl) ?_
  intro p e s m args below meth c C hr hx0
  have hM9 := hM
  obtain ⟨gn, g0, g1, g2, g3, g4, g5, g6⟩ := id hM
  refine V_aload_n C dX7_thrown_0 rfl ?_
  refine V_get C fg_X7_28 dX7_thrown_1 (by repeat (first | with_reducible assumption | with_reducible exact mset_self _ _ _ | refine (mset_ne (by omega)).trans ?_)) (by (try simp only [mset_1]); omega) (by rfl) ?_
  exact V_iret C hr dX7_thrown_4 hK

set_option maxHeartbeats 400000 in
set_option maxRecDepth 4000 in
theorem ok_X7_refused {l : Launch} {D : va_G} {cy : Nat → ClassId} {z : Nat} {M : Mm} {K : Option Value → Mm → Prop} {u N P A tx fr tl : Nat → Int} (hM : ModAt cy z M u N P A tx fr tl) {v : Int} (hv : -2147483648 ≤ v ∧ v < 2147483648) (hT : 0 < v → ∀ M', Sm M M' (fun j => j = 331) → ModAt cy z M' (va_up u 1 v) N P A tx fr tl → K (some (iv 1)) M') (hF : v ≤ 0 → ∀ M', Sm M M' (fun j => j = 331) → ModAt cy z M' (va_up u 1 v) N P A tx fr tl → K (some (iv 0)) M') :
    MT l D cy z false yX7_refused (wsy yX7_refused cX7_refused 2 (some .boolean)) 0 0 0 0 M [.ref (z + 331), iv v] K := by
  refine MT_of (by decide) w_852 (Nat.le_of_ble_eq_true rfl) ?_
  intro p e s m args below meth c C hr hx0
  have hM9 := hM
  obtain ⟨gn, g0, g1, g2, g3, g4, g5, g6⟩ := id hM
  refine V_aload_n C dX7_refused_0 rfl ?_
  refine V_iload_n C dX7_refused_1 rfl ?_
  refine V_put C fp_X7_28 dX7_refused_2 (by repeat (first | with_reducible assumption | with_reducible exact mset_self _ _ _ | refine (mset_ne (by omega)).trans ?_)) (by (try simp only [mset_1]); omega) rfl rfl (by exact Nat.le_of_ble_eq_true rfl) ?_
  refine V_iload_n C dX7_refused_5 rfl ?_
  refine V_if_le C dX7_refused_6 (tgt := 13) (by decide) (by omega) (fun g6 => ?_) (fun g6 => ?_)
  · refine V_iconst C dX7_refused_13 ?_
    exact V_zret C hr (by omega) dX7_refused_14 (hF (by omega) _ (Sm.set rfl) (hM9.ref (Sm.set rfl) (mset_self _ _ _)))
  · refine V_iconst C dX7_refused_9 ?_
    refine V_goto C dX7_refused_10 (tgt := 14) (by decide) ?_
    exact V_zret C hr (by omega) dX7_refused_14 (hT (by omega) _ (Sm.set rfl) (hM9.ref (Sm.set rfl) (mset_self _ _ _)))

set_option maxHeartbeats 400000 in
set_option maxRecDepth 4000 in
theorem ok_X7_monthDays {l : Launch} {D : va_G} {cy : Nat → ClassId} {z : Nat} {M : Mm} {K : Option Value → Mm → Prop} {y t : Int} (hd : 0 ≤ y ∧ y < 1000) (ht : -2147483648 ≤ t ∧ t < 2147483648) (hK : K (some (iv (ml y t))) M) :
    MT l D cy z false yX7_monthDays (wsy yX7_monthDays cX7_monthDays 2 (some .int)) 0 0 0 0 M [iv y, iv t] K := by
  refine MT_of (by decide) w_874 (Nat.le_of_ble_eq_true rfl) ?_
  intro p e s m args below meth c C hr hx0
  refine V_iload_n C dX7_monthDays_0 rfl ?_
  refine V_iconst C dX7_monthDays_1 ?_
  refine V_icmp_ne C dX7_monthDays_2 (tgt := 21) (by decide) (by omega) (by omega) (fun g2 => ?_) (fun g2 => ?_)
  · refine V_iload_n C dX7_monthDays_21 rfl ?_
    refine V_iconst C dX7_monthDays_22 ?_
    refine V_icmp_eq C dX7_monthDays_23 (tgt := 44) (by decide) (by omega) (by omega) (fun g23 => ?_) (fun g23 => ?_)
    · refine V_bipush C dX7_monthDays_44 (by decide) ?_
      refine V_goto C dX7_monthDays_46 (tgt := 51) (by decide) ?_
      exact V_iret C hr dX7_monthDays_51 (K_of hK (by unfold ml; omega))
    · refine V_iload_n C dX7_monthDays_26 rfl ?_
      refine V_bipush C dX7_monthDays_27 (by decide) ?_
      refine V_icmp_eq C dX7_monthDays_29 (tgt := 44) (by decide) (by omega) (by omega) (fun g29 => ?_) (fun g29 => ?_)
      · refine V_bipush C dX7_monthDays_44 (by decide) ?_
        refine V_goto C dX7_monthDays_46 (tgt := 51) (by decide) ?_
        exact V_iret C hr dX7_monthDays_51 (K_of hK (by unfold ml; omega))
      · refine V_iload_n C dX7_monthDays_32 rfl ?_
        refine V_bipush C dX7_monthDays_33 (by decide) ?_
        refine V_icmp_eq C dX7_monthDays_35 (tgt := 44) (by decide) (by omega) (by omega) (fun g35 => ?_) (fun g35 => ?_)
        · refine V_bipush C dX7_monthDays_44 (by decide) ?_
          refine V_goto C dX7_monthDays_46 (tgt := 51) (by decide) ?_
          exact V_iret C hr dX7_monthDays_51 (K_of hK (by unfold ml; omega))
        · refine V_iload_n C dX7_monthDays_38 rfl ?_
          refine V_bipush C dX7_monthDays_39 (by decide) ?_
          refine V_icmp_ne C dX7_monthDays_41 (tgt := 49) (by decide) (by omega) (by omega) (fun g41 => ?_) (fun g41 => ?_)
          · refine V_bipush C dX7_monthDays_49 (by decide) ?_
            exact V_iret C hr dX7_monthDays_51 (K_of hK (by unfold ml; omega))
          · refine V_bipush C dX7_monthDays_44 (by decide) ?_
            refine V_goto C dX7_monthDays_46 (tgt := 51) (by decide) ?_
            exact V_iret C hr dX7_monthDays_51 (K_of hK (by unfold ml; omega))
  · refine V_iload_n C dX7_monthDays_5 rfl ?_
    refine V_iconst C dX7_monthDays_6 ?_
    refine V_irem C dX7_monthDays_7 (by omega) (by omega) ?_
    refine V_if_ne C dX7_monthDays_8 (tgt := 16) (by decide) (by omega) (fun g8 => ?_) (fun g8 => ?_)
    · refine V_bipush C dX7_monthDays_16 (by decide) ?_
      refine V_goto C dX7_monthDays_18 (tgt := 51) (by decide) ?_
      exact V_iret C hr dX7_monthDays_51 (K_of hK (by unfold ml; omega))
    · refine V_bipush C dX7_monthDays_11 (by decide) ?_
      refine V_goto C dX7_monthDays_13 (tgt := 51) (by decide) ?_
      exact V_iret C hr dX7_monthDays_51 (K_of hK (by unfold ml; omega))

set_option maxHeartbeats 400000 in
set_option maxRecDepth 4000 in
theorem ok_X7_newYear {l : Launch} {D : va_G} {cy : Nat → ClassId} {z : Nat} {M : Mm} {K : Option Value → Mm → Prop} {y : Int} (hd : 0 ≤ y ∧ y < 1000) (hK : K (some (iv (ny y))) M) :
    MT l D cy z false yX7_newYear (wsy yX7_newYear cX7_newYear 1 (some .int)) 0 0 0 0 M [iv y] K := by
  refine MT_of (by decide) w_862 (Nat.le_of_ble_eq_true rfl) ?_
  intro p e s m args below meth c C hr hx0
  refine V_sipush C dX7_newYear_0 (by decide) ?_
  refine V_iload_n C dX7_newYear_3 rfl ?_
  refine V_imul C dX7_newYear_4 ?_
  refine V_iload_n C dX7_newYear_5 rfl ?_
  refine V_iconst C dX7_newYear_6 ?_
  refine V_iadd C dX7_newYear_7 ?_
  refine V_iconst C dX7_newYear_8 ?_
  refine V_idiv C dX7_newYear_9 (by omega) (by omega) ?_
  refine V_iadd C dX7_newYear_10 ?_
  exact V_iret C hr dX7_newYear_11 (K_of hK (by unfold ny; omega))

set_option maxHeartbeats 400000 in
set_option maxRecDepth 4000 in
theorem ok_X7_lastOf {l : Launch} {D : va_G} {cy : Nat → ClassId} {z : Nat} {M : Mm} {K : Option Value → Mm → Prop} {y : Int} (hd : 0 ≤ y ∧ y < 900) (hK : K (some (iv (ny (y + 1) - 1))) M) :
    MT l D cy z false yX7_lastOf (wsy yX7_lastOf cX7_lastOf 1 (some .int)) 1 20 0 0 M [iv y] K := by
  refine MT_of (by decide) w_859 (Nat.le_of_ble_eq_true rfl) ?_
  intro p e s m args below meth c C hr hx0
  refine V_iload_n C dX7_lastOf_0 rfl ?_
  refine V_iconst C dX7_lastOf_1 ?_
  refine V_iadd C dX7_lastOf_2 ?_
  refine V_callS (fr := 0) (lo := 0) (mc := 0) (ms := 0) (As := [_]) C ysX7_newYear w_860 dX7_lastOf_3 rfl rfl (Nat.le_of_ble_eq_true rfl) ⟨Nat.le_of_ble_eq_true rfl, Nat.le_of_ble_eq_true rfl⟩ ⟨Nat.le_of_ble_eq_true rfl, Nat.le_of_ble_eq_true rfl⟩ ?_
  refine ok_X7_newYear (by omega) ?_
  refine V_iconst C dX7_lastOf_6 ?_
  refine V_isub C dX7_lastOf_7 ?_
  exact V_iret C hr dX7_lastOf_8 hK

set_option maxHeartbeats 400000 in
set_option maxRecDepth 4000 in
theorem ok_X7_dayOf {l : Launch} {D : va_G} {cy : Nat → ClassId} {z : Nat} {M : Mm} {K : Option Value → Mm → Prop} {y t k : Int} (hd : 0 ≤ y ∧ y < 1000) (ht : 1 ≤ t ∧ t ≤ 12) (hk : -1000 ≤ k ∧ k ≤ 1000) (hK : K (some (iv (dayN y t k))) M) :
    MT l D cy z false yX7_dayOf (wsy yX7_dayOf cX7_dayOf 5 (some .int)) 1 21 0 0 M [iv y, iv t, iv k] K := by
  refine MT_of (by decide) w_881 (Nat.le_of_ble_eq_true rfl) ?_
  intro p e s m args below meth c C hr hx0
  have hL := lp_rng y
  have loop : ∀ (n : Nat) (i : Int), (1 ≤ i ∧ i ≤ t) → (12 - i).toNat < n → V p l e { frames := 1, cells := 0, slots := 0, locals := 21 } s m args below meth c D z 5 (MQ below (qc_ D z K) args s 0 0 (fun q => z ≤ q)) 0 0 M 12 [(0, iv y), (1, iv t), (2, iv k), (3, iv (ny y + k - 1 + bef (lp y) (i))), (4, iv (i))] [] := by
    intro n
    induction n with
    | zero => intro i hi0 hfu; exact absurd hfu (Nat.not_lt_zero _)
    | succ n ih =>
      intro i hi0 hfu
      have hml := ml_rng y i
      refine V_iload C dX7_dayOf_12 rfl ?_
      refine V_iload_n C dX7_dayOf_14 rfl ?_
      refine V_icmp_ge C dX7_dayOf_15 (tgt := 33) (by decide) (by omega) (by omega) (fun g15 => ?_) (fun g15 => ?_)
      · have e9 : i = t := by omega
        subst e9
        refine V_iload_n C dX7_dayOf_33 rfl ?_
        exact V_iret C hr dX7_dayOf_34 (K_of hK (by unfold dayN; omega))
      · refine V_iload_n C dX7_dayOf_18 rfl ?_
        refine V_iload_n C dX7_dayOf_19 rfl ?_
        refine V_iload C dX7_dayOf_20 rfl ?_
        refine V_callS (fr := 0) (lo := 0) (mc := 0) (ms := 0) (As := [_, _]) C ysX7_monthDays w_872 dX7_dayOf_22 rfl rfl (Nat.le_of_ble_eq_true rfl) ⟨Nat.le_of_ble_eq_true rfl, Nat.le_of_ble_eq_true rfl⟩ ⟨Nat.le_of_ble_eq_true rfl, Nat.le_of_ble_eq_true rfl⟩ ?_
        refine ok_X7_monthDays (by omega) (by omega) ?_
        refine V_iadd C dX7_dayOf_25 ?_
        refine V_istore_n C dX7_dayOf_26 (by decide) ?_
        refine V_iinc C dX7_dayOf_27 rfl (by decide) ?_
        refine V_goto C dX7_dayOf_30 (tgt := 12) (by decide) ?_
        have hb := ml_bef (y := y) (m := i) (by omega)
        refine V_lv [(0, iv y), (1, iv t), (2, iv k), (3, iv (ny y + k - 1 + bef (lp y) (i + 1))), (4, iv (i + 1))] (List.forall_mem_cons.mpr ⟨(by first | rfl | exact congrArg (fun t => some (iv t)) (by omega)), (List.forall_mem_cons.mpr ⟨(by first | rfl | exact congrArg (fun t => some (iv t)) (by omega)), (List.forall_mem_cons.mpr ⟨(by first | rfl | exact congrArg (fun t => some (iv t)) (by omega)), (List.forall_mem_cons.mpr ⟨(by first | rfl | exact congrArg (fun t => some (iv t)) (by omega)), (List.forall_mem_cons.mpr ⟨(by first | rfl | exact congrArg (fun t => some (iv t)) (by omega)), (fun _ h => nomatch h)⟩)⟩)⟩)⟩)⟩) ?_
        exact ih (i + 1) (by omega) (by omega)
  refine V_iload_n C dX7_dayOf_0 rfl ?_
  refine V_callS (fr := 0) (lo := 0) (mc := 0) (ms := 0) (As := [_]) C ysX7_newYear w_860 dX7_dayOf_1 rfl rfl (Nat.le_of_ble_eq_true rfl) ⟨Nat.le_of_ble_eq_true rfl, Nat.le_of_ble_eq_true rfl⟩ ⟨Nat.le_of_ble_eq_true rfl, Nat.le_of_ble_eq_true rfl⟩ ?_
  refine ok_X7_newYear (by omega) ?_
  refine V_iload_n C dX7_dayOf_4 rfl ?_
  refine V_iadd C dX7_dayOf_5 ?_
  refine V_iconst C dX7_dayOf_6 ?_
  refine V_isub C dX7_dayOf_7 ?_
  refine V_istore_n C dX7_dayOf_8 (by decide) ?_
  refine V_iconst C dX7_dayOf_9 ?_
  refine V_istore C dX7_dayOf_10 (by decide) ?_
  have h0 := bef_1 (lp y)
  refine V_lv [(0, iv y), (1, iv t), (2, iv k), (3, iv (ny y + k - 1 + bef (lp y) (1))), (4, iv (1))] (List.forall_mem_cons.mpr ⟨(by first | rfl | exact congrArg (fun t => some (iv t)) (by omega)), (List.forall_mem_cons.mpr ⟨(by first | rfl | exact congrArg (fun t => some (iv t)) (by omega)), (List.forall_mem_cons.mpr ⟨(by first | rfl | exact congrArg (fun t => some (iv t)) (by omega)), (List.forall_mem_cons.mpr ⟨(by first | rfl | exact congrArg (fun t => some (iv t)) (by omega)), (List.forall_mem_cons.mpr ⟨(by first | rfl | exact congrArg (fun t => some (iv t)) (by omega)), (fun _ h => nomatch h)⟩)⟩)⟩)⟩)⟩) ?_
  exact loop 12 1 (by omega) (by omega)

set_option maxHeartbeats 400000 in
set_option maxRecDepth 4000 in
theorem ok_X7_yearOf {l : Launch} {D : va_G} {cy : Nat → ClassId} {z : Nat} {M : Mm} {K : Option Value → Mm → Prop} {d : Int} (hd : 0 ≤ d ∧ d < 36500) (hK : K (some (iv (yr d))) M) :
    MT l D cy z false yX7_yearOf (wsy yX7_yearOf cX7_yearOf 2 (some .int)) 1 20 0 0 M [iv d] K := by
  refine MT_of (by decide) w_871 (Nat.le_of_ble_eq_true rfl) ?_
  intro p e s m args below meth c C hr hx0
  have loop : ∀ (n : Nat) (i : Int), (0 ≤ i ∧ i ≤ 100) → (ny i ≤ d) → (101 - i).toNat < n → V p l e { frames := 1, cells := 0, slots := 0, locals := 20 } s m args below meth c D z 2 (MQ below (qc_ D z K) args s 0 0 (fun q => z ≤ q)) 0 0 M 2 [(0, iv d), (1, iv (i))] [] := by
    intro n
    induction n with
    | zero => intro i hi0 hi1 hfu; exact absurd hfu (Nat.not_lt_zero _)
    | succ n ih =>
      intro i hi0 hi1 hfu
      refine V_iload_n C dX7_yearOf_2 rfl ?_
      refine V_iconst C dX7_yearOf_3 ?_
      refine V_iadd C dX7_yearOf_4 ?_
      have hi9 : i ≤ 99 := by have := ny_le (a := 0) (b := i) (by omega); unfold ny at *; omega
      refine V_callS (fr := 0) (lo := 0) (mc := 0) (ms := 0) (As := [_]) C ysX7_newYear w_860 dX7_yearOf_5 rfl rfl (Nat.le_of_ble_eq_true rfl) ⟨Nat.le_of_ble_eq_true rfl, Nat.le_of_ble_eq_true rfl⟩ ⟨Nat.le_of_ble_eq_true rfl, Nat.le_of_ble_eq_true rfl⟩ ?_
      refine ok_X7_newYear (by omega) ?_
      have hnr := ny_le (a := 0) (b := i + 1) (by omega)
      have hn2 : ny (i + 1) ≤ 40000 := by unfold ny; omega
      have hn0 : ny 0 = 0 := by decide
      refine V_iload_n C dX7_yearOf_8 rfl ?_
      refine V_icmp_gt C dX7_yearOf_9 (tgt := 18) (by decide) (by omega) (by omega) (fun g9 => ?_) (fun g9 => ?_)
      · refine V_iload_n C dX7_yearOf_18 rfl ?_
        exact V_iret C hr dX7_yearOf_19 (K_of hK (yr_uniq hd.1 hi1 (by omega)).symm)
      · refine V_iinc C dX7_yearOf_12 rfl (by decide) ?_
        refine V_goto C dX7_yearOf_15 (tgt := 2) (by decide) ?_
        refine V_lv [(0, iv d), (1, iv (i + 1))] (List.forall_mem_cons.mpr ⟨(by first | rfl | exact congrArg (fun t => some (iv t)) (by omega)), (List.forall_mem_cons.mpr ⟨(by first | rfl | exact congrArg (fun t => some (iv t)) (by omega)), (fun _ h => nomatch h)⟩)⟩) ?_
        exact ih (i + 1) (by omega) (by omega) (by omega)
  refine V_iconst C dX7_yearOf_0 ?_
  refine V_istore_n C dX7_yearOf_1 (by decide) ?_
  refine V_lv [(0, iv d), (1, iv (0))] (List.forall_mem_cons.mpr ⟨(by first | rfl | exact congrArg (fun t => some (iv t)) (by omega)), (List.forall_mem_cons.mpr ⟨(by first | rfl | exact congrArg (fun t => some (iv t)) (by omega)), (fun _ h => nomatch h)⟩)⟩) ?_
  exact loop 102 0 (by omega) (by unfold ny; omega) (by omega)

set_option maxHeartbeats 400000 in
set_option maxRecDepth 4000 in
theorem ok_X7_dateOf {l : Launch} {D : va_G} {cy : Nat → ClassId} {z : Nat} {M : Mm} {K : Option Value → Mm → Prop} {d : Int} (hd : 0 ≤ d ∧ d < 36500) (hK : K (some (iv (date d))) M) :
    MT l D cy z false yX7_dateOf (wsy yX7_dateOf cX7_dateOf 4 (some .int)) 2 41 0 0 M [iv d] K := by
  refine MT_of (by decide) w_868 (Nat.le_of_ble_eq_true rfl) ?_
  intro p e s m args below meth c C hr hx0
  obtain ⟨hy0, hy1, hy2⟩ := yr_spec hd.1
  have hs := ny_step (yr d)
  have hL := lp_rng (yr d)
  have hy3 : yr d ≤ 99 := yr_le hd.1 (by unfold ny; omega)
  have loop : ∀ (n : Nat) (t : Int), (1 ≤ t ∧ t ≤ 12) → (bef (lp (yr d)) t ≤ d - ny (yr d)) → (12 - t).toNat < n → V p l e { frames := 2, cells := 0, slots := 0, locals := 41 } s m args below meth c D z 4 (MQ below (qc_ D z K) args s 0 0 (fun q => z ≤ q)) 0 0 M 14 [(0, iv d), (1, iv (yr d)), (2, iv (d - ny (yr d) - bef (lp (yr d)) (t))), (3, iv (t))] [] := by
    intro n
    induction n with
    | zero => intro t hi0 hi1 hfu; exact absurd hfu (Nat.not_lt_zero _)
    | succ n ih =>
      intro t hi0 hi1 hfu
      have hbr := bef_rng hL (m := t) (by omega)
      have hml := ml_rng (yr d) t
      refine V_iload_n C dX7_dateOf_14 rfl ?_
      refine V_iload_n C dX7_dateOf_15 rfl ?_
      refine V_iload_n C dX7_dateOf_16 rfl ?_
      refine V_callS (fr := 0) (lo := 0) (mc := 0) (ms := 0) (As := [_, _]) C ysX7_monthDays w_872 dX7_dateOf_17 rfl rfl (Nat.le_of_ble_eq_true rfl) ⟨Nat.le_of_ble_eq_true rfl, Nat.le_of_ble_eq_true rfl⟩ ⟨Nat.le_of_ble_eq_true rfl, Nat.le_of_ble_eq_true rfl⟩ ?_
      refine ok_X7_monthDays (by omega) (by omega) ?_
      refine V_icmp_lt C dX7_dateOf_20 (tgt := 37) (by decide) (by omega) (by omega) (fun g20 => ?_) (fun g20 => ?_)
      · have hb := ml_bef (y := yr d) (m := t) (by omega)
        have hm : mm d = t := mo_uniq hL (by omega) (by omega) (by omega)
        refine V_sipush C dX7_dateOf_37 (by decide) ?_
        refine V_iload_n C dX7_dateOf_40 rfl ?_
        refine V_imul C dX7_dateOf_41 ?_
        refine V_bipush C dX7_dateOf_42 (by decide) ?_
        refine V_iload_n C dX7_dateOf_44 rfl ?_
        refine V_imul C dX7_dateOf_45 ?_
        refine V_iadd C dX7_dateOf_46 ?_
        refine V_iload_n C dX7_dateOf_47 rfl ?_
        refine V_iadd C dX7_dateOf_48 ?_
        refine V_iconst C dX7_dateOf_49 ?_
        refine V_iadd C dX7_dateOf_50 ?_
        exact V_iret C hr dX7_dateOf_51 (K_of hK (by unfold date dd; rw [hm]; omega))
      · refine V_iload_n C dX7_dateOf_23 rfl ?_
        refine V_iload_n C dX7_dateOf_24 rfl ?_
        refine V_iload_n C dX7_dateOf_25 rfl ?_
        refine V_callS (fr := 0) (lo := 0) (mc := 0) (ms := 0) (As := [_, _]) C ysX7_monthDays w_872 dX7_dateOf_26 rfl rfl (Nat.le_of_ble_eq_true rfl) ⟨Nat.le_of_ble_eq_true rfl, Nat.le_of_ble_eq_true rfl⟩ ⟨Nat.le_of_ble_eq_true rfl, Nat.le_of_ble_eq_true rfl⟩ ?_
        refine ok_X7_monthDays (by omega) (by omega) ?_
        refine V_isub C dX7_dateOf_29 ?_
        refine V_istore_n C dX7_dateOf_30 (by decide) ?_
        refine V_iinc C dX7_dateOf_31 rfl (by decide) ?_
        refine V_goto C dX7_dateOf_34 (tgt := 14) (by decide) ?_
        have hb := ml_bef (y := yr d) (m := t) (by omega)
        refine V_lv [(0, iv d), (1, iv (yr d)), (2, iv (d - ny (yr d) - bef (lp (yr d)) (t + 1))), (3, iv (t + 1))] (List.forall_mem_cons.mpr ⟨(by first | rfl | exact congrArg (fun t => some (iv t)) (by omega)), (List.forall_mem_cons.mpr ⟨(by first | rfl | exact congrArg (fun t => some (iv t)) (by omega)), (List.forall_mem_cons.mpr ⟨(by first | rfl | exact congrArg (fun t => some (iv t)) (by omega)), (List.forall_mem_cons.mpr ⟨(by first | rfl | exact congrArg (fun t => some (iv t)) (by omega)), (fun _ h => nomatch h)⟩)⟩)⟩)⟩) ?_
        have e13 : bef (lp (yr d)) (12 + 1) = 365 + lp (yr d) := bef_13 _
        have t12 : t < 12 := by rcases (show t = 12 ∨ t < 12 by omega) with q | q <;> first | (subst q; omega) | omega
        exact ih (t + 1) (by omega) (by omega) (by omega)
  refine V_iload_n C dX7_dateOf_0 rfl ?_
  refine V_callS (fr := 1) (lo := 20) (mc := 0) (ms := 0) (As := [_]) C ysX7_yearOf w_869 dX7_dateOf_1 rfl rfl (Nat.le_of_ble_eq_true rfl) ⟨Nat.le_of_ble_eq_true rfl, Nat.le_of_ble_eq_true rfl⟩ ⟨Nat.le_of_ble_eq_true rfl, Nat.le_of_ble_eq_true rfl⟩ ?_
  refine ok_X7_yearOf (by omega) ?_
  refine V_istore_n C dX7_dateOf_4 (by decide) ?_
  refine V_iload_n C dX7_dateOf_5 rfl ?_
  refine V_iload_n C dX7_dateOf_6 rfl ?_
  refine V_callS (fr := 0) (lo := 0) (mc := 0) (ms := 0) (As := [_]) C ysX7_newYear w_860 dX7_dateOf_7 rfl rfl (Nat.le_of_ble_eq_true rfl) ⟨Nat.le_of_ble_eq_true rfl, Nat.le_of_ble_eq_true rfl⟩ ⟨Nat.le_of_ble_eq_true rfl, Nat.le_of_ble_eq_true rfl⟩ ?_
  refine ok_X7_newYear (by omega) ?_
  refine V_isub C dX7_dateOf_10 ?_
  refine V_istore_n C dX7_dateOf_11 (by decide) ?_
  refine V_iconst C dX7_dateOf_12 ?_
  refine V_istore_n C dX7_dateOf_13 (by decide) ?_
  have h0 := bef_1 (lp (yr d))
  refine V_lv [(0, iv d), (1, iv (yr d)), (2, iv (d - ny (yr d) - bef (lp (yr d)) (1))), (3, iv (1))] (List.forall_mem_cons.mpr ⟨(by first | rfl | exact congrArg (fun t => some (iv t)) (by omega)), (List.forall_mem_cons.mpr ⟨(by first | rfl | exact congrArg (fun t => some (iv t)) (by omega)), (List.forall_mem_cons.mpr ⟨(by first | rfl | exact congrArg (fun t => some (iv t)) (by omega)), (List.forall_mem_cons.mpr ⟨(by first | rfl | exact congrArg (fun t => some (iv t)) (by omega)), (fun _ h => nomatch h)⟩)⟩)⟩)⟩) ?_
  exact loop 12 1 (by omega) (by omega) (by omega)

set_option maxHeartbeats 400000 in
set_option maxRecDepth 4000 in
theorem ok_X7_behind {l : Launch} {D : va_G} {cy : Nat → ClassId} {z : Nat} {M : Mm} {K : Option Value → Mm → Prop} {d n : Int} (hd : 0 ≤ d ∧ d < 36500) (hn : 0 ≤ n ∧ n < 1000) (hK : K (some (iv (later d n))) M) :
    MT l D cy z false yX7_behind (wsy yX7_behind cX7_behind 7 (some .int)) 3 64 0 0 M [iv d, iv n] K := by
  refine MT_of (by decide) w_888 (Nat.le_of_ble_eq_true rfl) ?_
  intro p e s m args below meth c C hr hx0
  refine V_iload_n C dX7_behind_0 rfl ?_
  refine V_callS (fr := 2) (lo := 41) (mc := 0) (ms := 0) (As := [_]) C ysX7_dateOf w_866 dX7_behind_1 rfl rfl (Nat.le_of_ble_eq_true rfl) ⟨Nat.le_of_ble_eq_true rfl, Nat.le_of_ble_eq_true rfl⟩ ⟨Nat.le_of_ble_eq_true rfl, Nat.le_of_ble_eq_true rfl⟩ ?_
  refine ok_X7_dateOf (by omega) ?_
  have e1 := date_yr hd.1
  have e2 := date_mm hd.1
  have e3 := date_dd hd.1
  have hm := mm_rng d
  have hk := dd_31 hd.1
  have hrg := date_rng hd
  have hy3 : yr d ≤ 99 := yr_le hd.1 (by unfold ny; omega)
  have hy0 := (yr_spec hd.1).1
  have eall : date d / 10000 * 12 + date d / 100 % 100 - 1 + n = yr d * 12 + (mm d - 1 + n) := by rw [e1, e2]; omega
  have ey : (yr d * 12 + (mm d - 1 + n)) / 12 = yr d + (mm d - 1 + n) / 12 := by omega
  have em : (yr d * 12 + (mm d - 1 + n)) % 12 = (mm d - 1 + n) % 12 := by omega
  refine V_istore_n C dX7_behind_4 (by decide) ?_
  refine V_iload_n C dX7_behind_5 rfl ?_
  refine V_sipush C dX7_behind_6 (by decide) ?_
  refine V_idiv C dX7_behind_9 (by omega) (by omega) ?_
  refine V_bipush C dX7_behind_10 (by decide) ?_
  refine V_imul C dX7_behind_12 ?_
  refine V_iload_n C dX7_behind_13 rfl ?_
  refine V_bipush C dX7_behind_14 (by decide) ?_
  refine V_idiv C dX7_behind_16 (by omega) (by omega) ?_
  refine V_bipush C dX7_behind_17 (by decide) ?_
  refine V_irem C dX7_behind_19 (by omega) (by omega) ?_
  refine V_iadd C dX7_behind_20 ?_
  refine V_iconst C dX7_behind_21 ?_
  refine V_isub C dX7_behind_22 ?_
  refine V_iload_n C dX7_behind_23 rfl ?_
  refine V_iadd C dX7_behind_24 ?_
  refine V_istore_n C dX7_behind_25 (by decide) ?_
  rw [eall]
  refine V_iload_n C dX7_behind_26 rfl ?_
  refine V_bipush C dX7_behind_27 (by decide) ?_
  refine V_idiv C dX7_behind_29 (by omega) (by omega) ?_
  rw [ey]
  refine V_istore C dX7_behind_30 (by decide) ?_
  refine V_iload_n C dX7_behind_32 rfl ?_
  refine V_bipush C dX7_behind_33 (by decide) ?_
  refine V_irem C dX7_behind_35 (by omega) (by omega) ?_
  rw [em]
  refine V_iconst C dX7_behind_36 ?_
  refine V_iadd C dX7_behind_37 ?_
  refine V_istore C dX7_behind_38 (by decide) ?_
  refine V_iload C dX7_behind_40 rfl ?_
  refine V_iload C dX7_behind_42 rfl ?_
  refine V_callS (fr := 0) (lo := 0) (mc := 0) (ms := 0) (As := [_, _]) C ysX7_monthDays w_872 dX7_behind_44 rfl rfl (Nat.le_of_ble_eq_true rfl) ⟨Nat.le_of_ble_eq_true rfl, Nat.le_of_ble_eq_true rfl⟩ ⟨Nat.le_of_ble_eq_true rfl, Nat.le_of_ble_eq_true rfl⟩ ?_
  refine ok_X7_monthDays (by omega) (by omega) ?_
  refine V_istore C dX7_behind_47 (by decide) ?_
  have hml := ml_rng (yr d + (mm d - 1 + n) / 12) ((mm d - 1 + n) % 12 + 1)
  refine V_iload C dX7_behind_49 rfl ?_
  refine V_iload C dX7_behind_51 rfl ?_
  refine V_iload_n C dX7_behind_53 rfl ?_
  refine V_bipush C dX7_behind_54 (by decide) ?_
  refine V_irem C dX7_behind_56 (by omega) (by omega) ?_
  refine V_iload C dX7_behind_57 rfl ?_
  refine V_icmp_ge C dX7_behind_59 (tgt := 69) (by decide) (by omega) (by omega) (fun g59 => ?_) (fun g59 => ?_)
  · refine V_iload C dX7_behind_69 rfl ?_
    refine V_callS (fr := 1) (lo := 21) (mc := 0) (ms := 0) (As := [_, _, _]) C ysX7_dayOf w_879 dX7_behind_71 rfl rfl (Nat.le_of_ble_eq_true rfl) ⟨Nat.le_of_ble_eq_true rfl, Nat.le_of_ble_eq_true rfl⟩ ⟨Nat.le_of_ble_eq_true rfl, Nat.le_of_ble_eq_true rfl⟩ ?_
    refine ok_X7_dayOf (by omega) (by omega) (by omega) ?_
    exact V_iret C hr dX7_behind_74 (K_of hK (by unfold later; congr 1; split <;> omega))
  · refine V_iload_n C dX7_behind_62 rfl ?_
    refine V_bipush C dX7_behind_63 (by decide) ?_
    refine V_irem C dX7_behind_65 (by omega) (by omega) ?_
    refine V_goto C dX7_behind_66 (tgt := 71) (by decide) ?_
    refine V_callS (fr := 1) (lo := 21) (mc := 0) (ms := 0) (As := [_, _, _]) C ysX7_dayOf w_879 dX7_behind_71 rfl rfl (Nat.le_of_ble_eq_true rfl) ⟨Nat.le_of_ble_eq_true rfl, Nat.le_of_ble_eq_true rfl⟩ ⟨Nat.le_of_ble_eq_true rfl, Nat.le_of_ble_eq_true rfl⟩ ?_
    refine ok_X7_dayOf (by omega) (by omega) (by omega) ?_
    exact V_iret C hr dX7_behind_74 (K_of hK (by unfold later; congr 1; split <;> omega))

set_option maxHeartbeats 400000 in
set_option maxRecDepth 4000 in
theorem ok_X7_isHoliday {l : Launch} {D : va_G} {cy : Nat → ClassId} {z : Nat} {M : Mm} {K : Option Value → Mm → Prop} {u N P A tx fr tl : Nat → Int} (hM : ModAt cy z M u N P A tx fr tl) {q : Nat} (hq : N 2 = q) (hq6 : q ≤ 6) (hnr : ∀ j, j < q → -2147483648 ≤ N (3 + j) ∧ N (3 + j) < 2147483648) {v : Int} (hv : -2147483648 ≤ v ∧ v < 2147483648) (hT : hset (rowH N) q v = true → K (some (iv 1)) M) (hF : hset (rowH N) q v = false → K (some (iv 0)) M) :
    MT l D cy z false yX7_isHoliday (wsy yX7_isHoliday cX7_isHoliday 4 (some .boolean)) 0 0 0 0 M [.ref (z + 331), iv v] K := by
  refine MT_of (by decide) w_900 (Nat.le_of_ble_eq_true rfl) ?_
  intro p e s m args below meth c C hr hx0
  have hM9 := hM
  obtain ⟨gn, g0, g1, g2, g3, g4, g5, g6⟩ := id hM
  have loop : ∀ (n : Nat) (k9 : Nat), (k9 ≤ q) → q - k9 < n → V p l e { frames := 0, cells := 0, slots := 0, locals := 0 } s m args below meth c D z 4 (MQ below (qc_ D z K) args s 0 0 (fun q => z ≤ q)) 0 0 M 4 [(0, .ref (z + 331)), (1, iv v), (2, iv ((if hset (rowH N) (k9) v = true then (1 : Int) else 0))), (3, iv ((k9 : Int)))] [] := by
    intro n
    induction n with
    | zero => intro k9 hi0 hfu; exact absurd hfu (Nat.not_lt_zero _)
    | succ n ih =>
      intro k9 hi0 hfu
      rcases bool_cases (hset (rowH N) k9 v) with hb | hb
      · refine V_lv [(0, .ref (z + 331)), (1, iv v), (2, iv 1), (3, iv ((k9 : Int)))] (List.forall_mem_cons.mpr ⟨(by first | rfl | exact congrArg (fun t => some (iv t)) (by rw [hb]; rfl)), (List.forall_mem_cons.mpr ⟨(by first | rfl | exact congrArg (fun t => some (iv t)) (by rw [hb]; rfl)), (List.forall_mem_cons.mpr ⟨(by first | rfl | exact congrArg (fun t => some (iv t)) (by rw [hb]; rfl)), (List.forall_mem_cons.mpr ⟨(by first | rfl | exact congrArg (fun t => some (iv t)) (by rw [hb]; rfl)), (fun _ h => nomatch h)⟩)⟩)⟩)⟩) ?_
        refine V_iload_n C dX7_isHoliday_4 rfl ?_
        refine V_aload_n C dX7_isHoliday_5 rfl ?_
        refine V_get C fg_X7_7 dX7_isHoliday_6 (by repeat (first | with_reducible assumption | with_reducible exact mset_self _ _ _ | refine (mset_ne (by omega)).trans ?_)) (by (try simp only [mset_1]); omega) (by rfl) ?_
        refine V_iconst C dX7_isHoliday_9 ?_
        refine V_iald C dX7_isHoliday_10 (by repeat (first | with_reducible assumption | with_reducible exact mset_self _ _ _ | refine (mset_ne (by omega)).trans ?_)) (by (try simp only [mset_1]); omega) (by omega) (by omega) (show ((2 : Int)).toNat = 2 from rfl) ?_
        refine V_icmp_ge C dX7_isHoliday_11 (tgt := 42) (by decide) (by omega) (by omega) (fun g11 => ?_) (fun g11 => ?_)
        · refine V_iload_n C dX7_isHoliday_42 rfl ?_
          exact V_zret C hr (by omega) dX7_isHoliday_43 (hT (by rw [show q = k9 by omega]; exact hb))
        · refine V_iload_n C dX7_isHoliday_14 rfl ?_
          refine V_if_ne C dX7_isHoliday_15 (tgt := 30) (by decide) (by omega) (fun g15 => ?_) (fun g15 => ?_)
          · refine V_iconst C dX7_isHoliday_30 ?_
            refine V_goto C dX7_isHoliday_31 (tgt := 35) (by decide) ?_
            refine V_istore_n C dX7_isHoliday_35 (by decide) ?_
            refine V_iinc C dX7_isHoliday_36 rfl (by decide) ?_
            refine V_goto C dX7_isHoliday_39 (tgt := 4) (by decide) ?_
            refine V_lv [(0, .ref (z + 331)), (1, iv v), (2, iv ((if hset (rowH N) (k9 + 1) v = true then (1 : Int) else 0))), (3, iv (((k9 + 1 : Nat) : Int)))] (List.forall_mem_cons.mpr ⟨(by first | rfl | exact congrArg (fun t => some (iv t)) (by rw [if_pos (show hset (rowH N) (k9 + 1) v = true by show (hset (rowH N) k9 v || _) = true; rw [hb]; rfl)]) | exact congrArg (fun t => some (iv t)) (by push_cast; omega)), (List.forall_mem_cons.mpr ⟨(by first | rfl | exact congrArg (fun t => some (iv t)) (by rw [if_pos (show hset (rowH N) (k9 + 1) v = true by show (hset (rowH N) k9 v || _) = true; rw [hb]; rfl)]) | exact congrArg (fun t => some (iv t)) (by push_cast; omega)), (List.forall_mem_cons.mpr ⟨(by first | rfl | exact congrArg (fun t => some (iv t)) (by rw [if_pos (show hset (rowH N) (k9 + 1) v = true by show (hset (rowH N) k9 v || _) = true; rw [hb]; rfl)]) | exact congrArg (fun t => some (iv t)) (by push_cast; omega)), (List.forall_mem_cons.mpr ⟨(by first | rfl | exact congrArg (fun t => some (iv t)) (by rw [if_pos (show hset (rowH N) (k9 + 1) v = true by show (hset (rowH N) k9 v || _) = true; rw [hb]; rfl)]) | exact congrArg (fun t => some (iv t)) (by push_cast; omega)), (fun _ h => nomatch h)⟩)⟩)⟩)⟩) ?_
            exact ih (k9 + 1) (by omega) (by omega)
          · exact absurd g15 (by decide)
      · refine V_lv [(0, .ref (z + 331)), (1, iv v), (2, iv 0), (3, iv ((k9 : Int)))] (List.forall_mem_cons.mpr ⟨(by first | rfl | exact congrArg (fun t => some (iv t)) (by rw [hb]; rfl)), (List.forall_mem_cons.mpr ⟨(by first | rfl | exact congrArg (fun t => some (iv t)) (by rw [hb]; rfl)), (List.forall_mem_cons.mpr ⟨(by first | rfl | exact congrArg (fun t => some (iv t)) (by rw [hb]; rfl)), (List.forall_mem_cons.mpr ⟨(by first | rfl | exact congrArg (fun t => some (iv t)) (by rw [hb]; rfl)), (fun _ h => nomatch h)⟩)⟩)⟩)⟩) ?_
        refine V_iload_n C dX7_isHoliday_4 rfl ?_
        refine V_aload_n C dX7_isHoliday_5 rfl ?_
        refine V_get C fg_X7_7 dX7_isHoliday_6 (by repeat (first | with_reducible assumption | with_reducible exact mset_self _ _ _ | refine (mset_ne (by omega)).trans ?_)) (by (try simp only [mset_1]); omega) (by rfl) ?_
        refine V_iconst C dX7_isHoliday_9 ?_
        refine V_iald C dX7_isHoliday_10 (by repeat (first | with_reducible assumption | with_reducible exact mset_self _ _ _ | refine (mset_ne (by omega)).trans ?_)) (by (try simp only [mset_1]); omega) (by omega) (by omega) (show ((2 : Int)).toNat = 2 from rfl) ?_
        refine V_icmp_ge C dX7_isHoliday_11 (tgt := 42) (by decide) (by omega) (by omega) (fun g11 => ?_) (fun g11 => ?_)
        · refine V_iload_n C dX7_isHoliday_42 rfl ?_
          exact V_zret C hr (by omega) dX7_isHoliday_43 (hF (by rw [show q = k9 by omega]; exact hb))
        · refine V_iload_n C dX7_isHoliday_14 rfl ?_
          refine V_if_ne C dX7_isHoliday_15 (tgt := 30) (by decide) (by omega) (fun g15 => ?_) (fun g15 => ?_)
          · exact absurd rfl g15
          · have hnv := hnr k9 (by omega)
            refine V_aload_n C dX7_isHoliday_18 rfl ?_
            refine V_get C fg_X7_7 dX7_isHoliday_19 (by repeat (first | with_reducible assumption | with_reducible exact mset_self _ _ _ | refine (mset_ne (by omega)).trans ?_)) (by (try simp only [mset_1]); omega) (by rfl) ?_
            refine V_iconst C dX7_isHoliday_22 ?_
            refine V_iload_n C dX7_isHoliday_23 rfl ?_
            refine V_iadd C dX7_isHoliday_24 ?_
            refine V_iald C dX7_isHoliday_25 (by repeat (first | with_reducible assumption | with_reducible exact mset_self _ _ _ | refine (mset_ne (by omega)).trans ?_)) (by (try simp only [mset_1]); omega) (by omega) (by omega) (show (3 + (k9 : Int)).toNat = 3 + k9 by omega) ?_
            refine V_iload_n C dX7_isHoliday_26 rfl ?_
            refine V_icmp_ne C dX7_isHoliday_27 (tgt := 34) (by decide) (by omega) (by omega) (fun g27 => ?_) (fun g27 => ?_)
            · refine V_iconst C dX7_isHoliday_34 ?_
              refine V_istore_n C dX7_isHoliday_35 (by decide) ?_
              refine V_iinc C dX7_isHoliday_36 rfl (by decide) ?_
              refine V_goto C dX7_isHoliday_39 (tgt := 4) (by decide) ?_
              refine V_lv [(0, .ref (z + 331)), (1, iv v), (2, iv ((if hset (rowH N) (k9 + 1) v = true then (1 : Int) else 0))), (3, iv (((k9 + 1 : Nat) : Int)))] (List.forall_mem_cons.mpr ⟨(by first | rfl | exact congrArg (fun t => some (iv t)) (by rw [if_neg (show ¬ hset (rowH N) (k9 + 1) v = true by show ¬ (hset (rowH N) k9 v || decide (N (3 + k9) = v)) = true; rw [hb, decide_eq_false (by omega)]; decide)]) | exact congrArg (fun t => some (iv t)) (by push_cast; omega)), (List.forall_mem_cons.mpr ⟨(by first | rfl | exact congrArg (fun t => some (iv t)) (by rw [if_neg (show ¬ hset (rowH N) (k9 + 1) v = true by show ¬ (hset (rowH N) k9 v || decide (N (3 + k9) = v)) = true; rw [hb, decide_eq_false (by omega)]; decide)]) | exact congrArg (fun t => some (iv t)) (by push_cast; omega)), (List.forall_mem_cons.mpr ⟨(by first | rfl | exact congrArg (fun t => some (iv t)) (by rw [if_neg (show ¬ hset (rowH N) (k9 + 1) v = true by show ¬ (hset (rowH N) k9 v || decide (N (3 + k9) = v)) = true; rw [hb, decide_eq_false (by omega)]; decide)]) | exact congrArg (fun t => some (iv t)) (by push_cast; omega)), (List.forall_mem_cons.mpr ⟨(by first | rfl | exact congrArg (fun t => some (iv t)) (by rw [if_neg (show ¬ hset (rowH N) (k9 + 1) v = true by show ¬ (hset (rowH N) k9 v || decide (N (3 + k9) = v)) = true; rw [hb, decide_eq_false (by omega)]; decide)]) | exact congrArg (fun t => some (iv t)) (by push_cast; omega)), (fun _ h => nomatch h)⟩)⟩)⟩)⟩) ?_
              exact ih (k9 + 1) (by omega) (by omega)
            · refine V_iconst C dX7_isHoliday_30 ?_
              refine V_goto C dX7_isHoliday_31 (tgt := 35) (by decide) ?_
              refine V_istore_n C dX7_isHoliday_35 (by decide) ?_
              refine V_iinc C dX7_isHoliday_36 rfl (by decide) ?_
              refine V_goto C dX7_isHoliday_39 (tgt := 4) (by decide) ?_
              refine V_lv [(0, .ref (z + 331)), (1, iv v), (2, iv ((if hset (rowH N) (k9 + 1) v = true then (1 : Int) else 0))), (3, iv (((k9 + 1 : Nat) : Int)))] (List.forall_mem_cons.mpr ⟨(by first | rfl | exact congrArg (fun t => some (iv t)) (by rw [if_pos (show hset (rowH N) (k9 + 1) v = true by show (_ || decide (N (3 + k9) = v)) = true; rw [decide_eq_true (by omega)]; simp)]) | exact congrArg (fun t => some (iv t)) (by push_cast; omega)), (List.forall_mem_cons.mpr ⟨(by first | rfl | exact congrArg (fun t => some (iv t)) (by rw [if_pos (show hset (rowH N) (k9 + 1) v = true by show (_ || decide (N (3 + k9) = v)) = true; rw [decide_eq_true (by omega)]; simp)]) | exact congrArg (fun t => some (iv t)) (by push_cast; omega)), (List.forall_mem_cons.mpr ⟨(by first | rfl | exact congrArg (fun t => some (iv t)) (by rw [if_pos (show hset (rowH N) (k9 + 1) v = true by show (_ || decide (N (3 + k9) = v)) = true; rw [decide_eq_true (by omega)]; simp)]) | exact congrArg (fun t => some (iv t)) (by push_cast; omega)), (List.forall_mem_cons.mpr ⟨(by first | rfl | exact congrArg (fun t => some (iv t)) (by rw [if_pos (show hset (rowH N) (k9 + 1) v = true by show (_ || decide (N (3 + k9) = v)) = true; rw [decide_eq_true (by omega)]; simp)]) | exact congrArg (fun t => some (iv t)) (by push_cast; omega)), (fun _ h => nomatch h)⟩)⟩)⟩)⟩) ?_
              exact ih (k9 + 1) (by omega) (by omega)
  refine V_iconst C dX7_isHoliday_0 ?_
  refine V_istore_n C dX7_isHoliday_1 (by decide) ?_
  refine V_iconst C dX7_isHoliday_2 ?_
  refine V_istore_n C dX7_isHoliday_3 (by decide) ?_
  refine V_lv [(0, .ref (z + 331)), (1, iv v), (2, iv ((if hset (rowH N) (0) v = true then (1 : Int) else 0))), (3, iv (((0 : Nat) : Int)))] (List.forall_mem_cons.mpr ⟨(by first | rfl | exact congrArg (fun t => some (iv t)) (by simp [hset])), (List.forall_mem_cons.mpr ⟨(by first | rfl | exact congrArg (fun t => some (iv t)) (by simp [hset])), (List.forall_mem_cons.mpr ⟨(by first | rfl | exact congrArg (fun t => some (iv t)) (by simp [hset])), (List.forall_mem_cons.mpr ⟨(by first | rfl | exact congrArg (fun t => some (iv t)) (by simp [hset])), (fun _ h => nomatch h)⟩)⟩)⟩)⟩) ?_
  exact loop 7 0 (by omega) (by omega)

set_option maxHeartbeats 400000 in
set_option maxRecDepth 4000 in
theorem ok_X7_worksFrom {l : Launch} {D : va_G} {cy : Nat → ClassId} {z : Nat} {M : Mm} {K : Option Value → Mm → Prop} {u N P A tx fr tl : Nat → Int} (hM : ModAt cy z M u N P A tx fr tl) {q : Nat} (hq : N 2 = q) (hq6 : q ≤ 6) (hnr : ∀ j, j < q → -2147483648 ≤ N (3 + j) ∧ N (3 + j) < 2147483648) {d : Int} (hd : 0 ≤ d ∧ d < 36000) (hK : K (some (iv (pf (hset (rowH N) q) d))) M) :
    MT l D cy z false yX7_worksFrom (wsy yX7_worksFrom cX7_worksFrom 3 (some .int)) 3 64 0 0 M [.ref (z + 331), iv d] K := by
  refine MT_of (by decide) w_896 (Nat.le_of_ble_eq_true rfl) ?_
  intro p e s m args below meth c C hr hx0
  have hM9 := hM
  obtain ⟨gn, g0, g1, g2, g3, g4, g5, g6⟩ := id hM
  have hps := pf_spec (h := rowH N) hq6 hd.1
  have loop : ∀ (n : Nat) (k9 : Nat), (k9 ≤ 10) → (wf (hset (rowH N) q) (366 - k9) (d + k9) = pf (hset (rowH N) q) d) → 11 - k9 < n → V p l e { frames := 3, cells := 0, slots := 0, locals := 64 } s m args below meth c D z 3 (MQ below (qc_ D z K) args s 0 0 (fun q => z ≤ q)) 0 0 M 2 [(0, .ref (z + 331)), (1, iv d), (2, iv (d + (k9 : Int)))] [] := by
    intro n
    induction n with
    | zero => intro k9 hi0 hi1 hfu; exact absurd hfu (Nat.not_lt_zero _)
    | succ n ih =>
      intro k9 hi0 hi1 hfu
      refine V_iload_n C dX7_worksFrom_2 rfl ?_
      refine V_bipush C dX7_worksFrom_3 (by decide) ?_
      refine V_irem C dX7_worksFrom_5 (by omega) (by omega) ?_
      refine V_iconst C dX7_worksFrom_6 ?_
      refine V_icmp_gt C dX7_worksFrom_7 (tgt := 25) (by decide) (by omega) (by omega) (fun g7 => ?_) (fun g7 => ?_)
      · refine V_iinc C dX7_worksFrom_25 rfl (by decide) ?_
        refine V_goto C dX7_worksFrom_28 (tgt := 2) (by decide) ?_
        have hwk := wk_f1 (H := hset (rowH N) q) (d := d + k9) (by omega)
        have hnx : wf (hset (rowH N) q) (365 - k9) (d + k9 + 1) = pf (hset (rowH N) q) d := by rw [← hi1, show 366 - k9 = (365 - k9) + 1 by omega, wf_step hwk]
        have hle := (wf_le (hset (rowH N) q) (365 - k9) (d + k9 + 1)).1
        refine V_lv [(0, .ref (z + 331)), (1, iv d), (2, iv (d + ((k9 + 1 : Nat) : Int)))] (List.forall_mem_cons.mpr ⟨(by first | rfl | exact congrArg (fun t => some (iv t)) (by push_cast; omega)), (List.forall_mem_cons.mpr ⟨(by first | rfl | exact congrArg (fun t => some (iv t)) (by push_cast; omega)), (List.forall_mem_cons.mpr ⟨(by first | rfl | exact congrArg (fun t => some (iv t)) (by push_cast; omega)), (fun _ h => nomatch h)⟩)⟩)⟩) ?_
        exact ih (k9 + 1) (by omega) (by rw [show d + ((k9 + 1 : Nat) : Int) = d + k9 + 1 by omega, show 366 - (k9 + 1) = 365 - k9 by omega]; exact hnx) (by omega)
      · refine V_aload_n C dX7_worksFrom_10 rfl ?_
        refine V_iload_n C dX7_worksFrom_11 rfl ?_
        refine V_callS (fr := 2) (lo := 41) (mc := 0) (ms := 0) (As := [_]) C ysX7_dateOf w_866 dX7_worksFrom_12 rfl rfl (Nat.le_of_ble_eq_true rfl) ⟨Nat.le_of_ble_eq_true rfl, Nat.le_of_ble_eq_true rfl⟩ ⟨Nat.le_of_ble_eq_true rfl, Nat.le_of_ble_eq_true rfl⟩ ?_
        refine ok_X7_dateOf (by omega) ?_
        have hrg := date_rng (d := d + k9) (by omega)
        refine V_sipush C dX7_worksFrom_15 (by decide) ?_
        refine V_irem C dX7_worksFrom_18 (by omega) (by omega) ?_
        refine V_callV (fr := 0) (lo := 0) (mc := 0) (ms := 0) (As := [_]) C yvX7_isHoliday w_897 dX7_worksFrom_19 rfl rfl (by repeat (first | with_reducible assumption | with_reducible exact mset_self _ _ _ | refine (mset_ne (by omega)).trans ?_)) (by (try simp only [mset_1]); omega) rfl rfl (Nat.le_of_ble_eq_true rfl) ⟨Nat.le_of_ble_eq_true rfl, Nat.le_of_ble_eq_true rfl⟩ ⟨Nat.le_of_ble_eq_true rfl, Nat.le_of_ble_eq_true rfl⟩ ?_
        refine ok_X7_isHoliday hM9 hq hq6 hnr (by omega) (fun hh => ?_) (fun hh => ?_)
        · refine V_ifeq1 C dX7_worksFrom_22 (tgt := 31) (by decide) ?_
          refine V_iinc C dX7_worksFrom_25 rfl (by decide) ?_
          refine V_goto C dX7_worksFrom_28 (tgt := 2) (by decide) ?_
          have hwk := wk_f2 (H := hset (rowH N) q) (d := d + k9) hh
          have hnx : wf (hset (rowH N) q) (365 - k9) (d + k9 + 1) = pf (hset (rowH N) q) d := by rw [← hi1, show 366 - k9 = (365 - k9) + 1 by omega, wf_step hwk]
          have hle := (wf_le (hset (rowH N) q) (365 - k9) (d + k9 + 1)).1
          refine V_lv [(0, .ref (z + 331)), (1, iv d), (2, iv (d + ((k9 + 1 : Nat) : Int)))] (List.forall_mem_cons.mpr ⟨(by first | rfl | exact congrArg (fun t => some (iv t)) (by push_cast; omega)), (List.forall_mem_cons.mpr ⟨(by first | rfl | exact congrArg (fun t => some (iv t)) (by push_cast; omega)), (List.forall_mem_cons.mpr ⟨(by first | rfl | exact congrArg (fun t => some (iv t)) (by push_cast; omega)), (fun _ h => nomatch h)⟩)⟩)⟩) ?_
          exact ih (k9 + 1) (by omega) (by rw [show d + ((k9 + 1 : Nat) : Int) = d + k9 + 1 by omega, show 366 - (k9 + 1) = 365 - k9 by omega]; exact hnx) (by omega)
        · refine V_ifeq0 C dX7_worksFrom_22 (tgt := 31) (by decide) ?_
          refine V_iload_n C dX7_worksFrom_31 rfl ?_
          exact V_iret C hr dX7_worksFrom_32 (K_of hK (by rw [← hi1, show 366 - k9 = (365 - k9) + 1 by omega, wf_stop (wk_t (by omega) hh)]))
  refine V_iload_n C dX7_worksFrom_0 rfl ?_
  refine V_istore_n C dX7_worksFrom_1 (by decide) ?_
  refine V_lv [(0, .ref (z + 331)), (1, iv d), (2, iv (d + ((0 : Nat) : Int)))] (List.forall_mem_cons.mpr ⟨(by first | rfl | exact congrArg (fun t => some (iv t)) (by push_cast; omega)), (List.forall_mem_cons.mpr ⟨(by first | rfl | exact congrArg (fun t => some (iv t)) (by push_cast; omega)), (List.forall_mem_cons.mpr ⟨(by first | rfl | exact congrArg (fun t => some (iv t)) (by push_cast; omega)), (fun _ h => nomatch h)⟩)⟩)⟩) ?_
  exact loop 12 0 (by omega) (by rw [show d + ((0 : Nat) : Int) = d by omega]; rfl) (by omega)

