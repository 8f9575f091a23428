/-! time passes (X7), walked -/
theorem RI.at {H : Int → Bool} {t k : Int} {F : Nat → Int} {a : Nat → Nat → Int} (h : RI H t F a) (hk : t ≤ k) : RI H k F a := by
  obtain ⟨h0, h1, h2, h3, h4, h5, h6, h7, h8, h9⟩ := h
  exact ⟨h0, by omega, h2, h3, h4, fun y y1 y2 => ⟨(h5 y y1 y2).1, by have := (h5 y y1 y2).2; omega⟩, h6, h7, h8, fun v hv => by have := h9 v hv; omega⟩
theorem cnt_diff {q r : Nat → Bool} : ∀ n, (∀ i, i < n → q i = true → r i = true) → cntN q n + cntN (fun i => !q i && r i) n = cntN r n
  | 0, _ => rfl
  | n + 1, h => by
    have h1 := cnt_diff (q := q) (r := r) n (fun i hi => h i (by omega))
    have h2 := h n (by omega)
    show cntN q n + (if q n = true then 1 else 0) + (cntN (fun i => !q i && r i) n + (if (!q n && r n) = true then 1 else 0)) = cntN r n + (if r n = true then 1 else 0)
    rcases bool_cases (q n) with o | o
    · rw [o, h2 o]; simp; omega
    · rw [o]; simp; omega
theorem lapB_at {F : Nat → Int} {a : Nat → Nat → Int} {t k : Int} (hk : t ≤ k) (h : lapB F a t = true) : lapB F a k = true := by
  unfold lapB at h ⊢
  have o := of_decide_eq_true h
  exact decide_eq_true ⟨o.1, by have := o.2; omega⟩
theorem IS.at {S : SD} (h : IS S) {k : Int} (h1 : sc S 0 ≤ k) (h2 : k ≤ 27758) : IS (setSc S (va_up (sc S) 0 k)) := ⟨h.1, h2, fun i hi => (h.2.2 i hi).at h1⟩
set_option maxHeartbeats 400000 in
set_option maxRecDepth 4000 in
theorem ok_X7_pass {l : Launch} {D : va_G} {cy : Nat → ClassId} {z : Nat} {M : Mm} {K : Option Value → Mm → Prop} {u N P A tx fr tl : Nat → Int} (hM : ModAt cy z M u N P A tx fr tl) {S : SD} (hRw : RowOf N S) (hB : SB S) (hJ : IS S) {c9 : Nat} (hc : u 0 = c9) (hc9 : c9 ≤ 4) {w : Int} (hw : -2147483648 ≤ w ∧ w < 2147483648) (hX1 : ¬ (1 ≤ w ∧ w ≤ 4000) → ∀ M', Sm M M' P7 → ModAt cy z M' (va_up u 1 1) N P A tx fr tl → K (some (iv 0)) M') (hX2 : 1 ≤ w ∧ w ≤ 4000 → ¬ sc S 0 + w ≤ 27758 → ∀ M', Sm M M' P7 → ModAt cy z M' (va_up u 1 2) N P A tx fr tl → K (some (iv 0)) M') (hK : 1 ≤ w ∧ w ≤ 4000 → sc S 0 + w ≤ 27758 → ∀ M' u' P' N', Sm M M' P7 → ModAt cy z M' u' N' P' A tx fr tl → u' 0 = (if c9 < 4 then (c9 : Int) + 1 else 4) → u' 1 = 0 → u' 2 = u 2 → P' = psv P N c9 → RowOf N' (setSc S (va_up (sc S) 0 (sc S 0 + w))) → K (some (iv ((cntN (fun i => !lapB (RF S i) (RA S i) (sc S 0) && lapB (RF S i) (RA S i) (sc S 0 + w)) (sN S) : Nat) : Int))) M') :
    MT l D cy z false yX7_pass (wsy yX7_pass cX7_pass 3 (some .int)) 7 155 0 0 M [.ref (z + 331), iv w] K := by
  refine MT_of (by decide) w_927 (Nat.le_of_ble_eq_true rfl) ?_
  intro p e s m args below meth c C hr hx0
  have hM9 := hM
  obtain ⟨gn, g0, g1, g2, g3, g4, g5, g6⟩ := id hM
  have hB9 := hB
  have hr9 := hRw
  have hJ9 := hJ
  obtain ⟨e0, e1, e2, eH, eh, e9, e10, e11, e12, e13, e14, e15, eR⟩ := id hRw
  obtain ⟨d0, d1, d2, d4, d5, d6, dH, dR⟩ := id hB
  have dT := hJ.2.1
  refine V_aload_n C dX7_pass_0 rfl ?_
  refine V_iload_n C dX7_pass_1 rfl ?_
  refine V_iconst C dX7_pass_2 ?_
  refine V_sipush C dX7_pass_3 (by decide) ?_
  refine V_callS (fr := 0) (lo := 0) (mc := 0) (ms := 0) (As := [_, _, _]) C ysX7_in w_863 dX7_pass_6 rfl rfl (Nat.le_of_ble_eq_true rfl) ⟨Nat.le_of_ble_eq_true rfl, Nat.le_of_ble_eq_true rfl⟩ ⟨Nat.le_of_ble_eq_true rfl, Nat.le_of_ble_eq_true rfl⟩ ?_
  refine ok_X7_in (by omega) (by omega) (by omega) (fun hw => ?_) (fun hw => ?_)
  · refine V_ifne1 C dX7_pass_9 (tgt := 16) (by decide) ?_
    refine V_aload_n C dX7_pass_16 rfl ?_
    refine V_get C fg_X7_7 dX7_pass_17 (by repeat (first | with_reducible assumption | with_reducible exact mset_self _ _ _ | refine (mset_ne (by omega)).trans ?_)) (by (try simp only [mset_1]); omega) (by rfl) ?_
    refine V_iconst C dX7_pass_20 ?_
    refine V_iald C dX7_pass_21 (by repeat (first | with_reducible assumption | with_reducible exact mset_self _ _ _ | refine (mset_ne (by omega)).trans ?_)) (by (try simp only [mset_1]); omega) (by omega) (by omega) (show ((0 : Int)).toNat = 0 from rfl) ?_
    rw [e0]
    refine V_iload_n C dX7_pass_22 rfl ?_
    refine V_iadd C dX7_pass_23 ?_
    refine V_bipush C dX7_pass_24 (by decide) ?_
    refine V_callS (fr := 1) (lo := 20) (mc := 0) (ms := 0) (As := [_]) C ysX7_lastOf w_857 dX7_pass_26 rfl rfl (Nat.le_of_ble_eq_true rfl) ⟨Nat.le_of_ble_eq_true rfl, Nat.le_of_ble_eq_true rfl⟩ ⟨Nat.le_of_ble_eq_true rfl, Nat.le_of_ble_eq_true rfl⟩ ?_
    refine ok_X7_lastOf (by omega) ?_
    rw [show ny (75 + 1) - 1 = 27758 by decide]
    refine V_icmp_le C dX7_pass_29 (tgt := 36) (by decide) (by omega) (by omega) (fun g29 => ?_) (fun g29 => ?_)
    · refine V_iconst C dX7_pass_36 ?_
      refine V_callV (fr := 0) (lo := 0) (mc := 0) (ms := 0) (As := [_]) C yvX7_refused w_849 dX7_pass_37 rfl rfl (by repeat (first | with_reducible assumption | with_reducible exact mset_self _ _ _ | refine (mset_ne (by omega)).trans ?_)) (by (try simp only [mset_1]); omega) rfl rfl (Nat.le_of_ble_eq_true rfl) ⟨Nat.le_of_ble_eq_true rfl, Nat.le_of_ble_eq_true rfl⟩ ⟨Nat.le_of_ble_eq_true rfl, Nat.le_of_ble_eq_true rfl⟩ ?_
      refine ok_X7_refused hM9 (by omega) (fun o => absurd o (by decide)) (fun _ M1 s1 x1 => ?_)
      have hM9 := x1
      obtain ⟨gn, g0, g1, g2, g3, g4, g5, g6⟩ := id hM9
      refine V_ifeq0 C dX7_pass_40 (tgt := 45) (by decide) ?_
      refine V_aload_n C dX7_pass_45 rfl ?_
      refine V_callV (fr := 0) (lo := 0) (mc := 0) (ms := 0) (As := []) C yvX7_saves w_905 dX7_pass_46 rfl rfl (by repeat (first | with_reducible assumption | with_reducible exact mset_self _ _ _ | refine (mset_ne (by omega)).trans ?_)) (by (try simp only [mset_1]); omega) rfl rfl (Nat.le_of_ble_eq_true rfl) ⟨Nat.le_of_ble_eq_true rfl, Nat.le_of_ble_eq_true rfl⟩ ⟨Nat.le_of_ble_eq_true rfl, Nat.le_of_ble_eq_true rfl⟩ ?_
      refine ok_X7_saves hM9 hc hc9 (fun M2 u2 P2 s2 x2 a0 aj aP => ?_)
      have hM9 := x2
      obtain ⟨gn, g0, g1, g2, g3, g4, g5, g6⟩ := id hM9
      refine V_aload_n C dX7_pass_49 rfl ?_
      refine V_callV (fr := 6) (lo := 133) (mc := 0) (ms := 0) (As := []) C yvX7_lapsedOnes w_928 dX7_pass_50 rfl rfl (by repeat (first | with_reducible assumption | with_reducible exact mset_self _ _ _ | refine (mset_ne (by omega)).trans ?_)) (by (try simp only [mset_1]); omega) rfl rfl (Nat.le_of_ble_eq_true rfl) ⟨Nat.le_of_ble_eq_true rfl, Nat.le_of_ble_eq_true rfl⟩ ⟨Nat.le_of_ble_eq_true rfl, Nat.le_of_ble_eq_true rfl⟩ ?_
      refine ok_X7_lapsedOnes hM9 hr9 hB9 hJ9 ?_
      refine V_istore_n C dX7_pass_53 (by decide) ?_
      refine V_aload_n C dX7_pass_54 rfl ?_
      refine V_get C fg_X7_7 dX7_pass_55 (by repeat (first | with_reducible assumption | with_reducible exact mset_self _ _ _ | refine (mset_ne (by omega)).trans ?_)) (by (try simp only [mset_1]); omega) (by rfl) ?_
      refine V_iconst C dX7_pass_58 ?_
      refine V_dup2 C dX7_pass_59 rfl rfl ?_
      refine V_iald C dX7_pass_60 (by repeat (first | with_reducible assumption | with_reducible exact mset_self _ _ _ | refine (mset_ne (by omega)).trans ?_)) (by (try simp only [mset_1]); omega) (by omega) (by omega) (show ((0 : Int)).toNat = 0 from rfl) ?_
      rw [e0]
      refine V_iload_n C dX7_pass_61 rfl ?_
      refine V_iadd C dX7_pass_62 ?_
      have t9 : sc S 0 + w ≤ 27758 := by omega
      refine V_iast C dX7_pass_63 (by repeat (first | with_reducible assumption | with_reducible exact mset_self _ _ _ | refine (mset_ne (by omega)).trans ?_)) (by (try simp only [mset_1]); omega) (by omega) (by omega) (show ((0 : Int)).toNat = 0 from rfl) ?_
      have hB8 : SB (setSc S (va_up (sc S) 0 (sc S 0 + w))) := hB9.sc (by show 0 ≤ sc S 0 + w ∧ sc S 0 + w ≤ 30000; omega) rfl rfl rfl
      have hr8 : RowOf (va_up N 0 (sc S 0 + w)) (setSc S (va_up (sc S) 0 (sc S 0 + w))) := RowOf_head hr9 hB9 (fun j hj => up_n (by omega)) (up_s _ _ _) e9 e10 e11 e12 e13 e14 e15
      have hJ8 : IS (setSc S (va_up (sc S) 0 (sc S 0 + w))) := hJ9.at (by omega) t9
      have hM8 := hM9.nows (N' := va_up N 0 (sc S 0 + w))
      refine V_aload_n C dX7_pass_64 rfl ?_
      refine V_callV (fr := 6) (lo := 133) (mc := 0) (ms := 0) (As := []) C yvX7_lapsedOnes w_928 dX7_pass_65 rfl rfl (by repeat (first | with_reducible assumption | with_reducible exact mset_self _ _ _ | refine (mset_ne (by omega)).trans ?_)) (by (try simp only [mset_1]); omega) rfl rfl (Nat.le_of_ble_eq_true rfl) ⟨Nat.le_of_ble_eq_true rfl, Nat.le_of_ble_eq_true rfl⟩ ⟨Nat.le_of_ble_eq_true rfl, Nat.le_of_ble_eq_true rfl⟩ ?_
      refine ok_X7_lapsedOnes hM8 hr8 hB8 hJ8 ?_
      refine V_iload_n C dX7_pass_68 rfl ?_
      refine V_isub C dX7_pass_69 ?_
      exact V_iret C hr dX7_pass_70 (K_of (hK hw t9 _ _ _ _ (((P7_331 s1).trans s2).ts ⟨by omega, by omega⟩) hM8 a0 (aj 1 (by omega)) (aj 2 (by omega)) aP hr8) (by have o := cnt_diff (q := fun i => lapB (RF S i) (RA S i) (sc S 0)) (r := fun i => lapB (RF S i) (RA S i) (sc S 0 + w)) (sN S) (fun i _ h => lapB_at (by omega) h); show ((cntN (fun i => lapB (RF S i) (RA S i) (sc S 0 + w)) (sN S) : Nat) : Int) - ((cntN (fun i => lapB (RF S i) (RA S i) (sc S 0)) (sN S) : Nat) : Int) = _; omega))
    · refine V_iconst C dX7_pass_32 ?_
      refine V_goto C dX7_pass_33 (tgt := 37) (by decide) ?_
      refine V_callV (fr := 0) (lo := 0) (mc := 0) (ms := 0) (As := [_]) C yvX7_refused w_849 dX7_pass_37 rfl rfl (by repeat (first | with_reducible assumption | with_reducible exact mset_self _ _ _ | refine (mset_ne (by omega)).trans ?_)) (by (try simp only [mset_1]); omega) rfl rfl (Nat.le_of_ble_eq_true rfl) ⟨Nat.le_of_ble_eq_true rfl, Nat.le_of_ble_eq_true rfl⟩ ⟨Nat.le_of_ble_eq_true rfl, Nat.le_of_ble_eq_true rfl⟩ ?_
      refine ok_X7_refused hM9 (by omega) (fun _ M1 s1 x1 => ?_) (fun o => absurd o (by decide))
      have hM9 := x1
      obtain ⟨gn, g0, g1, g2, g3, g4, g5, g6⟩ := id hM9
      refine V_ifeq1 C dX7_pass_40 (tgt := 45) (by decide) ?_
      refine V_iconst C dX7_pass_43 ?_
      exact V_iret C hr dX7_pass_44 (hX2 hw (by omega) _ (P7_331 s1) x1)
  · refine V_ifne0 C dX7_pass_9 (tgt := 16) (by decide) ?_
    refine V_iconst C dX7_pass_12 ?_
    refine V_goto C dX7_pass_13 (tgt := 37) (by decide) ?_
    refine V_callV (fr := 0) (lo := 0) (mc := 0) (ms := 0) (As := [_]) C yvX7_refused w_849 dX7_pass_37 rfl rfl (by repeat (first | with_reducible assumption | with_reducible exact mset_self _ _ _ | refine (mset_ne (by omega)).trans ?_)) (by (try simp only [mset_1]); omega) rfl rfl (Nat.le_of_ble_eq_true rfl) ⟨Nat.le_of_ble_eq_true rfl, Nat.le_of_ble_eq_true rfl⟩ ⟨Nat.le_of_ble_eq_true rfl, Nat.le_of_ble_eq_true rfl⟩ ?_
    refine ok_X7_refused hM9 (by omega) (fun _ M1 s1 x1 => ?_) (fun o => absurd o (by decide))
    have hM9 := x1
    obtain ⟨gn, g0, g1, g2, g3, g4, g5, g6⟩ := id hM9
    refine V_ifeq1 C dX7_pass_40 (tgt := 45) (by decide) ?_
    refine V_iconst C dX7_pass_43 ?_
    exact V_iret C hr dX7_pass_44 (hX1 hw _ (P7_331 s1) x1)

