/-! what stays known of the rights when fees are paid -/
/-- no revival begins with a year that isn't paid -/
def ZR (F : Nat → Int) (a : Nat → Nat → Int) : Prop := ∀ y : Nat, F 3 < y → y ≤ 19 → a 3 y = 0
def ZS (S : SD) : Prop := ∀ i, i < sN S → ZR (RF S i) (RA S i)
theorem RI_pay {H : Int → Bool} {t v : Int} {F : Nat → Int} {a : Nat → Nat → Int} (h : RI H t F a) (h3 : 0 ≤ F 3 ∧ F 3 < 19) (hA : a 3 (F 3 + 1).toNat = 0 ∨ a 3 (F 3 + 1).toNat = t ∧ a 1 (F 3 + 1).toNat < t) (hB : a 1 (F 3 + 1).toNat < t → ∃ k : Nat, 1 ≤ k ∧ (k : Int) ≤ F 3 + 1 ∧ a 3 k = t) :
    RI H t (va_up (va_up F 4 v) 3 (F 3 + 1)) (va_up a 2 (va_up (a 2) (F 3 + 1).toNat t)) := by
  obtain ⟨h0, h1, h2, h4, h5, h6, h7, h8, h9, h10⟩ := h
  have k0 : (((F 3 + 1).toNat : Nat) : Int) = F 3 + 1 := by omega
  generalize hk : (F 3 + 1).toNat = k at hA hB k0 ⊢
  clear hk
  refine ⟨h0, h1, h2, h4, trivial, fun y y1 y2 => ?_, fun y y1 y2 => ?_, fun y y1 y2 => ?_, fun y y1 y2 e => ?_, h10⟩
  · have y3 : (y : Int) ≤ F 3 + 1 := y2
    show 0 ≤ va_up (a 2) k t y ∧ va_up (a 2) k t y ≤ t
    rcases Nat.decEq y k with o | o
    · rw [up_n o]; exact h6 y y1 (by omega)
    · rw [o, up_s]; omega
  · have y3 : (y : Int) < F 3 + 1 := y2
    show va_up (a 2) k t y ≤ va_up (a 2) k t (y + 1)
    rw [up_n (show y ≠ k by omega)]
    rcases Nat.decEq (y + 1) k with o | o
    · rw [up_n o]; exact h7 y y1 (by omega)
    · rw [o, up_s]; exact (h6 y y1 (by omega)).2
  · have y3 : (y : Int) ≤ F 3 + 1 := y2
    show a 3 y = 0 ∨ a 3 y = va_up (a 2) k t y ∧ a 1 y < va_up (a 2) k t y
    rcases Nat.decEq y k with o | o
    · rw [up_n o]; exact h8 y y1 (by omega)
    · rw [o, up_s]; exact hA
  · have y3 : (y : Int) ≤ F 3 + 1 := y2
    have e3 : a 1 y < va_up (a 2) k t y := e
    show ∃ k9 : Nat, 1 ≤ k9 ∧ k9 ≤ y ∧ a 3 k9 = va_up (a 2) k t y
    rcases Nat.decEq y k with o | o
    · rw [up_n o] at e3 ⊢; exact h9 y y1 (by omega) e3
    · rw [o, up_s] at e3 ⊢
      obtain ⟨k9, q1, q2, q3⟩ := hB e3
      exact ⟨k9, q1, by omega, q3⟩
theorem IS_pay {S : SD} {i : Nat} (h : IS S) (hB : SB S) (hi : i < sN S) (h9 : RF S i 3 < 19) (hA : RA S i 3 (RF S i 3 + 1).toNat = 0 ∨ RA S i 3 (RF S i 3 + 1).toNat = sc S 0 ∧ RA S i 1 (RF S i 3 + 1).toNat < sc S 0) (hC : RA S i 1 (RF S i 3 + 1).toNat < sc S 0 → ∃ k : Nat, 1 ≤ k ∧ (k : Int) ≤ RF S i 3 + 1 ∧ RA S i 3 k = sc S 0) : IS (payS S i) := by
  have b3 := (hB.2.2.2.2.2.2.2 i (by have := hB.2.1; omega)).2.2.2.1
  refine ⟨h.1, h.2.1, fun r hr => ?_⟩
  show RI (Hf S) (sc S 0) (va_up (RF S) i _ r) (va_up (RA S) i _ r)
  rcases Nat.decEq r i with o | o
  · rw [up_n o, up_n o]; exact h.2.2 r hr
  · subst o; rw [up_s, up_s]; exact RI_pay (h.2.2 r hr) ⟨b3.1, h9⟩ hA hC
theorem ZR_pay {t v : Int} {F : Nat → Int} {a : Nat → Nat → Int} {x : Nat → Int} (h : ZR F a) : ZR (va_up (va_up F 4 v) 3 (F 3 + 1)) (va_up a 2 x) := fun y y1 y2 => h y (by have y3 : F 3 + 1 < (y : Int) := y1; omega) y2
theorem ZS_pay {S : SD} {i : Nat} (h : ZS S) : ZS (payS S i) := by
  intro r hr
  show ZR (va_up (RF S) i _ r) (va_up (RA S) i _ r)
  rcases Nat.decEq r i with o | o
  · rw [up_n o, up_n o]; exact h r hr
  · subst o; rw [up_s, up_s]; exact ZR_pay (t := 0) (h r hr)
theorem canPay_l {S : SD} {i : Nat} (h : canPayB S i = true) : ¬ lapR (RF S i) (RA S i) (sc S 0) := by
  intro o
  unfold canPayB at h
  rw [lapB_t o] at h
  simp at h
theorem IZ_pay {S : SD} {i : Nat} (h : IS S) (hz : ZS S) (hB : SB S) (hi : i < sN S) (hc : canPayB S i = true) : IS (payS S i) ∧ ZS (payS S i) := by
  have h9 := canPay_3 hc
  have b3 := (hB.2.2.2.2.2.2.2 i (by have := hB.2.1; omega)).2.2.2.1
  have hl := canPay_l hc
  refine ⟨IS_pay h hB hi h9 (Or.inl (hz i hi _ (by omega) (by omega))) (fun o => absurd ⟨h9, ?_⟩ hl), ZS_pay hz⟩
  rw [yv_at (by omega)]; exact o
theorem payN_I {S : SD} (h : IS S) (hz : ZS S) (hB : SB S) : ∀ n, n ≤ sN S → IS (payN S n).1 ∧ ZS (payN S n).1
  | 0, _ => ⟨h, hz⟩
  | n + 1, hn => by
    have ih := payN_I h hz hB n (by omega)
    rw [payN]; split
    · rename_i hc
      exact IZ_pay ih.1 ih.2 (payN_B hB n (by have := hB.2.1; omega)) (by rw [payN_n]; omega) hc
    · exact ih
set_option maxHeartbeats 400000 in
set_option maxRecDepth 4000 in
theorem ok_X7_payAll {l : Launch} {D : va_G} {cy : Nat → ClassId} {z : Nat} {M : Mm} {K : Option Value → Mm → Prop} {u N P A tx fr tl : Nat → Int} (hM : ModAt cy z M u N P A tx fr tl) {S : SD} (hRw : RowOf N S) (hB : SB S) (hJ : IS S) {c9 : Nat} (hc : u 0 = c9) (hc9 : c9 ≤ 4) (hZ : ZS S) (hK : ∀ M' u' P' N', Sm M M' P7 → ModAt cy z M' u' N' P' A tx fr tl → u' 0 = (if c9 < 4 then (c9 : Int) + 1 else 4) → u' 1 = 0 → u' 2 = u 2 → P' = psv P N c9 → RowOf N' (payN S (sN S)).1 → K (some (iv (payN S (sN S)).2)) M') :
    MT l D cy z false yX7_payAll (wsy yX7_payAll cX7_payAll 3 (some .int)) 7 155 0 0 M [.ref (z + 331)] K := by
  refine MT_of (by decide) w_983 (Nat.le_of_ble_eq_true rfl) ?_
  intro p e s m args below meth c C hr hx0
  have hM9 := hM
  obtain ⟨gn, g0, g1, g2, g3, g4, g5, g6⟩ := id hM
  have hB9 := hB
  have hr9 := hRw
  have hJ9 := hJ
  obtain ⟨e0, e1, e2, eH, eh, e9, e10, e11, e12, e13, e14, e15, eR⟩ := id hRw
  obtain ⟨d0, d1, d2, d4, d5, d6, dH, dR⟩ := id hB
  have dT := hJ.2.1
  refine V_aload_n C dX7_payAll_0 rfl ?_
  refine V_iconst C dX7_payAll_1 ?_
  refine V_put C fp_X7_28 dX7_payAll_2 (by repeat (first | with_reducible assumption | with_reducible exact mset_self _ _ _ | refine (mset_ne (by omega)).trans ?_)) (by (try simp only [mset_1]); omega) rfl rfl (by exact Nat.le_of_ble_eq_true rfl) ?_
  refine V_memgen (fun M1 em => ?_)
  have s1 : Sm M M1 (fun j => j = 331) := by rw [em]; exact Sm.set rfl
  have x1 : ModAt cy z M1 (va_up u 1 0) N P A tx fr tl := by rw [em]; exact hM9.ref (Sm.set rfl) (mset_self _ _ _)
  clear em
  have hM9 := x1
  obtain ⟨gn, g0, g1, g2, g3, g4, g5, g6⟩ := id hM9
  refine V_aload_n C dX7_payAll_5 rfl ?_
  refine V_callV (fr := 0) (lo := 0) (mc := 0) (ms := 0) (As := []) C yvX7_saves w_905 dX7_payAll_6 rfl rfl (by repeat (first | with_reducible assumption | with_reducible exact mset_self _ _ _ | refine (mset_ne (by omega)).trans ?_)) (by (try simp only [mset_1]); omega) rfl rfl (Nat.le_of_ble_eq_true rfl) ⟨Nat.le_of_ble_eq_true rfl, Nat.le_of_ble_eq_true rfl⟩ ⟨Nat.le_of_ble_eq_true rfl, Nat.le_of_ble_eq_true rfl⟩ ?_
  refine ok_X7_saves hM9 hc hc9 (fun M2 u2 P2 s2 x2 a0 aj aP => ?_)
  have hM9 := x2
  obtain ⟨gn, g0, g1, g2, g3, g4, g5, g6⟩ := id hM9
  refine V_iconst C dX7_payAll_9 ?_
  refine V_istore_n C dX7_payAll_10 (by decide) ?_
  refine V_iconst C dX7_payAll_11 ?_
  refine V_istore_n C dX7_payAll_12 (by decide) ?_
  have loop : ∀ (n : Nat) (i : Nat) (N9 : Nat → Int) (M9 : Mm), (i ≤ sN S) → (Sm M M9 P7) → (ModAt cy z M9 u2 N9 P2 A tx fr tl) → (RowOf N9 (payN S i).1) → 10 - i < n → V p l e { frames := 7, cells := 0, slots := 0, locals := 155 } s m args below meth c D z 3 (MQ below (qc_ D z K) args s 0 0 (fun q => z ≤ q)) 0 0 M9 13 [(0, .ref (z + 331)), (1, iv ((payN S i).2)), (2, iv ((i : Int)))] [] := by
    intro n
    induction n with
    | zero => intro i N9 M9 hi0 hi1 hi2 hi3 hfu; exact absurd hfu (Nat.not_lt_zero _)
    | succ n ih =>
      intro i N9 M9 hi0 hi1 hi2 hi3 hfu
      have hM9 := hi2
      obtain ⟨gn, g0, g1, g2, g3, g4, g5, g6⟩ := id hM9
      have hr9 := hi3
      have hB9 := payN_B hB i (by omega)
      have hJ9 := (payN_I hJ hZ hB i hi0).1
      obtain ⟨e0, e1, e2, eH, eh, e9, e10, e11, e12, e13, e14, e15, eR⟩ := id hr9
      refine V_iload_n C dX7_payAll_13 rfl ?_
      refine V_aload_n C dX7_payAll_14 rfl ?_
      refine V_get C fg_X7_7 dX7_payAll_15 (by repeat (first | with_reducible assumption | with_reducible exact mset_self _ _ _ | refine (mset_ne (by omega)).trans ?_)) (by (try simp only [mset_1]); omega) (by rfl) ?_
      refine V_iconst C dX7_payAll_18 ?_
      refine V_iald C dX7_payAll_19 (by repeat (first | with_reducible assumption | with_reducible exact mset_self _ _ _ | refine (mset_ne (by omega)).trans ?_)) (by (try simp only [mset_1]); omega) (by omega) (by omega) (show ((1 : Int)).toNat = 1 from rfl) ?_
      rw [e1, payN_n]
      refine V_icmp_ge C dX7_payAll_20 (tgt := 54) (by decide) (by omega) (by omega) (fun g20 => ?_) (fun g20 => ?_)
      · refine V_iload_n C dX7_payAll_54 rfl ?_
        exact V_iret C hr dX7_payAll_55 (K_of (hK _ _ _ _ hi1 hi2 a0 (aj 1 (by omega)) (aj 2 (by omega)) aP (by rw [show sN S = i by omega]; exact hi3)) (by rw [show sN S = i by omega]))
      · have hi : i < sN (payN S i).1 := by rw [payN_n]; omega
        refine V_iload_n C dX7_payAll_23 rfl ?_
        refine V_aload_n C dX7_payAll_24 rfl ?_
        refine V_iload_n C dX7_payAll_25 rfl ?_
        refine V_callV (fr := 6) (lo := 133) (mc := 0) (ms := 0) (As := [_]) C yvX7_canPay w_956 dX7_payAll_26 rfl rfl (by repeat (first | with_reducible assumption | with_reducible exact mset_self _ _ _ | refine (mset_ne (by omega)).trans ?_)) (by (try simp only [mset_1]); omega) rfl rfl (Nat.le_of_ble_eq_true rfl) ⟨Nat.le_of_ble_eq_true rfl, Nat.le_of_ble_eq_true rfl⟩ ⟨Nat.le_of_ble_eq_true rfl, Nat.le_of_ble_eq_true rfl⟩ ?_
        refine ok_X7_canPay hM9 hr9 hB9 hJ9 hi (fun hcp => ?_) (fun hcp => ?_)
        · refine V_ifeq1 C dX7_payAll_29 (tgt := 45) (by decide) ?_
          have h9 := canPay_3 hcp
          refine V_aload_n C dX7_payAll_32 rfl ?_
          refine V_iload_n C dX7_payAll_33 rfl ?_
          refine V_aload_n C dX7_payAll_34 rfl ?_
          refine V_iload_n C dX7_payAll_35 rfl ?_
          refine V_callV (fr := 5) (lo := 112) (mc := 0) (ms := 0) (As := [_]) C yvX7_isLate w_964 dX7_payAll_36 rfl rfl (by repeat (first | with_reducible assumption | with_reducible exact mset_self _ _ _ | refine (mset_ne (by omega)).trans ?_)) (by (try simp only [mset_1]); omega) rfl rfl (Nat.le_of_ble_eq_true rfl) ⟨Nat.le_of_ble_eq_true rfl, Nat.le_of_ble_eq_true rfl⟩ ⟨Nat.le_of_ble_eq_true rfl, Nat.le_of_ble_eq_true rfl⟩ ?_
          refine ok_X7_isLate hM9 hr9 hB9 hJ9 hi (by omega) (fun hl2 => ?_) (fun hl2 => ?_)
          · refine V_callV (fr := 3) (lo := 65) (mc := 0) (ms := 0) (As := [_, _]) C yvX7_paysNext w_968 dX7_payAll_39 rfl rfl (by repeat (first | with_reducible assumption | with_reducible exact mset_self _ _ _ | refine (mset_ne (by omega)).trans ?_)) (by (try simp only [mset_1]); omega) rfl rfl (Nat.le_of_ble_eq_true rfl) ⟨Nat.le_of_ble_eq_true rfl, Nat.le_of_ble_eq_true rfl⟩ ⟨Nat.le_of_ble_eq_true rfl, Nat.le_of_ble_eq_true rfl⟩ ?_
            refine ok_X7_paysNext hM9 hr9 hB9 hJ9 hi h9 (Or.inl ⟨rfl, hl2⟩) (fun M3 N3 s3 x3 r3 => ?_)
            refine V_goto C dX7_payAll_42 (tgt := 46) (by decide) ?_
            refine V_iadd C dX7_payAll_46 ?_
            refine V_istore_n C dX7_payAll_47 (by decide) ?_
            refine V_iinc C dX7_payAll_48 rfl (by decide) ?_
            refine V_goto C dX7_payAll_51 (tgt := 13) (by decide) ?_
            refine V_lv [(0, .ref (z + 331)), (1, iv ((payN S (i + 1)).2)), (2, iv (((i + 1 : Nat) : Int)))] (List.forall_mem_cons.mpr ⟨(by first | rfl | exact congrArg (fun t => some (iv t)) (by rw [payN_t hcp]) | exact congrArg (fun t => some (iv t)) (by push_cast; omega)), (List.forall_mem_cons.mpr ⟨(by first | rfl | exact congrArg (fun t => some (iv t)) (by rw [payN_t hcp]) | exact congrArg (fun t => some (iv t)) (by push_cast; omega)), (List.forall_mem_cons.mpr ⟨(by first | rfl | exact congrArg (fun t => some (iv t)) (by rw [payN_t hcp]) | exact congrArg (fun t => some (iv t)) (by push_cast; omega)), (fun _ h => nomatch h)⟩)⟩)⟩) ?_
            exact ih (i + 1) N3 M3 (by omega) (hi1.trans s3) x3 (by rw [payN_t hcp]; exact r3) (by omega)
          · refine V_callV (fr := 3) (lo := 65) (mc := 0) (ms := 0) (As := [_, _]) C yvX7_paysNext w_968 dX7_payAll_39 rfl rfl (by repeat (first | with_reducible assumption | with_reducible exact mset_self _ _ _ | refine (mset_ne (by omega)).trans ?_)) (by (try simp only [mset_1]); omega) rfl rfl (Nat.le_of_ble_eq_true rfl) ⟨Nat.le_of_ble_eq_true rfl, Nat.le_of_ble_eq_true rfl⟩ ⟨Nat.le_of_ble_eq_true rfl, Nat.le_of_ble_eq_true rfl⟩ ?_
            refine ok_X7_paysNext hM9 hr9 hB9 hJ9 hi h9 (Or.inr ⟨rfl, hl2⟩) (fun M3 N3 s3 x3 r3 => ?_)
            refine V_goto C dX7_payAll_42 (tgt := 46) (by decide) ?_
            refine V_iadd C dX7_payAll_46 ?_
            refine V_istore_n C dX7_payAll_47 (by decide) ?_
            refine V_iinc C dX7_payAll_48 rfl (by decide) ?_
            refine V_goto C dX7_payAll_51 (tgt := 13) (by decide) ?_
            refine V_lv [(0, .ref (z + 331)), (1, iv ((payN S (i + 1)).2)), (2, iv (((i + 1 : Nat) : Int)))] (List.forall_mem_cons.mpr ⟨(by first | rfl | exact congrArg (fun t => some (iv t)) (by rw [payN_t hcp]) | exact congrArg (fun t => some (iv t)) (by push_cast; omega)), (List.forall_mem_cons.mpr ⟨(by first | rfl | exact congrArg (fun t => some (iv t)) (by rw [payN_t hcp]) | exact congrArg (fun t => some (iv t)) (by push_cast; omega)), (List.forall_mem_cons.mpr ⟨(by first | rfl | exact congrArg (fun t => some (iv t)) (by rw [payN_t hcp]) | exact congrArg (fun t => some (iv t)) (by push_cast; omega)), (fun _ h => nomatch h)⟩)⟩)⟩) ?_
            exact ih (i + 1) N3 M3 (by omega) (hi1.trans s3) x3 (by rw [payN_t hcp]; exact r3) (by omega)
        · refine V_ifeq0 C dX7_payAll_29 (tgt := 45) (by decide) ?_
          refine V_iconst C dX7_payAll_45 ?_
          refine V_iadd C dX7_payAll_46 ?_
          refine V_istore_n C dX7_payAll_47 (by decide) ?_
          refine V_iinc C dX7_payAll_48 rfl (by decide) ?_
          refine V_goto C dX7_payAll_51 (tgt := 13) (by decide) ?_
          refine V_lv [(0, .ref (z + 331)), (1, iv ((payN S (i + 1)).2)), (2, iv (((i + 1 : Nat) : Int)))] (List.forall_mem_cons.mpr ⟨(by first | rfl | exact congrArg (fun t => some (iv t)) (by rw [payN_f hcp]; omega) | exact congrArg (fun t => some (iv t)) (by push_cast; omega)), (List.forall_mem_cons.mpr ⟨(by first | rfl | exact congrArg (fun t => some (iv t)) (by rw [payN_f hcp]; omega) | exact congrArg (fun t => some (iv t)) (by push_cast; omega)), (List.forall_mem_cons.mpr ⟨(by first | rfl | exact congrArg (fun t => some (iv t)) (by rw [payN_f hcp]; omega) | exact congrArg (fun t => some (iv t)) (by push_cast; omega)), (fun _ h => nomatch h)⟩)⟩)⟩) ?_
          exact ih (i + 1) N9 M9 (by omega) hi1 hi2 (by rw [payN_f hcp]; exact hi3) (by omega)
  refine V_lv [(0, .ref (z + 331)), (1, iv ((payN S 0).2)), (2, iv (((0 : Nat) : Int)))] (List.forall_mem_cons.mpr ⟨(by first | rfl | exact congrArg (fun t => some (iv t)) (by omega)), (List.forall_mem_cons.mpr ⟨(by first | rfl | exact congrArg (fun t => some (iv t)) (by omega)), (List.forall_mem_cons.mpr ⟨(by first | rfl | exact congrArg (fun t => some (iv t)) (by omega)), (fun _ h => nomatch h)⟩)⟩)⟩) ?_
  exact loop 11 0 N M2 (by omega) ((P7_331 s1).trans s2) x2 hRw (by omega)

