/-! one right is read (X7), walked -/
def swp (a b : Nat → Int) : Nat → Int := fun j => if j < 366 then a j else b j
theorem ModAt.asd {cy : Nat → ClassId} {z : Nat} {M : Mm} {u N P A A' tx fr tl : Nat → Int} (h : ModAt cy z M u N P A tx fr tl) : ModAt cy z (mset M 334 (aI cy 366 A')) u N P A' tx fr tl := by
  obtain ⟨h0, h1, h2, h3, h4, h5, h6, h7⟩ := h
  exact ⟨by simp only [mset_1]; exact h0, (mset_ne (by omega)).trans h1, (mset_ne (by omega)).trans h2, (mset_ne (by omega)).trans h3, mset_self _ _ _, (mset_ne (by omega)).trans h5, (mset_ne (by omega)).trans h6, (mset_ne (by omega)).trans h7⟩
set_option maxHeartbeats 2000000 in
set_option maxRecDepth 4000 in
theorem ok_X7_takesRight {l : Launch} {D : va_G} {cy : Nat → ClassId} {z : Nat} {M : Mm} {K : Option Value → Mm → Prop} {u N P A tx fr tl : Nat → Int} (hM : ModAt cy z M u N P A tx fr tl) {n9 p9 : Int} (hn : u 2 = n9) (hp : u 5 = p9) (hb : (0 ≤ n9 ∧ n9 ≤ 100) ∧ 0 ≤ p9 ∧ p9 ≤ n9) (htx : ∀ j : Nat, (j : Int) < n9 → 0 ≤ tx j ∧ tx j ≤ 127) {r9 : Nat} (h1 : N 1 = r9) (h10 : r9 ≤ 10) (hT : r9 < 10 → (r4 (gT tx n9) (p9, -1)).2 = -1 → ∀ M' u', Sm M M' P7 → ModAt cy z M' u' (cmN N r9 (rD (gT tx n9) (p9, -1)) (smV (gT tx n9) (r3 (gT tx n9) (p9, -1)))) P A tx fr tl → u' 5 = (r4 (gT tx n9) (p9, -1)).1 → (∀ j, j ≠ 5 → j ≠ 6 → u' j = u j) → K (some (iv 1)) M') (hF : ∀ e9 : Int, (r9 < 10 → (r4 (gT tx n9) (p9, -1)).2 = e9) → (r9 = 10 → e9 = p9) → 0 ≤ e9 → ∀ M' u', Sm M M' P7 → ModAt cy z M' u' N P A tx fr tl → u' 5 = e9 → (∀ j, j ≠ 5 → j ≠ 6 → u' j = u j) → K (some (iv 0)) M') :
    MT l D cy z false yX7_takesRight (wsy yX7_takesRight cX7_takesRight 6 (some .boolean)) 3 69 0 0 M [.ref (z + 331)] K := by
  refine MT_of (by decide) w_1116 (Nat.le_of_ble_eq_true rfl) ?_
  intro p e s m args below meth c C hr hx0
  have hM9 := hM
  obtain ⟨gn, g0, g1, g2, g3, g4, g5, g6⟩ := id hM
  refine V_aload_n C dX7_takesRight_0 rfl ?_
  refine V_get C fg_X7_7 dX7_takesRight_1 (by repeat (first | with_reducible assumption | with_reducible exact mset_self _ _ _ | refine (mset_ne (by omega)).trans ?_)) (by (try simp only [mset_1]); omega) (by rfl) ?_
  refine V_iconst C dX7_takesRight_4 ?_
  refine V_iald C dX7_takesRight_5 (by repeat (first | with_reducible assumption | with_reducible exact mset_self _ _ _ | refine (mset_ne (by omega)).trans ?_)) (by (try simp only [mset_1]); omega) (by omega) (by omega) (show ((1 : Int)).toNat = 1 from rfl) ?_
  rw [h1]
  refine V_bipush C dX7_takesRight_6 (by decide) ?_
  refine V_icmp_eq C dX7_takesRight_8 (tgt := 21) (by decide) (by omega) (by omega) (fun g8 => ?_) (fun g8 => ?_)
  · refine V_iconst C dX7_takesRight_21 ?_
    exact V_zret C hr (by omega) dX7_takesRight_22 (hF p9 (fun o => by omega) (fun _ => rfl) (by omega) _ u (Sm.rf _ _) hM9 hp (fun _ _ _ => rfl))
  · refine V_aload_n C dX7_takesRight_11 rfl ?_
    refine V_iconst C dX7_takesRight_12 ?_
    refine V_bipush C dX7_takesRight_13 (by decide) ?_
    have hr10 : r9 < 10 := by omega
    refine V_callV (fr := 2) (lo := 44) (mc := 0) (ms := 0) (As := [_, _]) C yvX7_takesNumber w_1117 dX7_takesRight_15 rfl rfl (by repeat (first | with_reducible assumption | with_reducible exact mset_self _ _ _ | refine (mset_ne (by omega)).trans ?_)) (by (try simp only [mset_1]); omega) rfl rfl (Nat.le_of_ble_eq_true rfl) ⟨Nat.le_of_ble_eq_true rfl, Nat.le_of_ble_eq_true rfl⟩ ⟨Nat.le_of_ble_eq_true rfl, Nat.le_of_ble_eq_true rfl⟩ ?_
    refine ok_X7_takesNumber (n9 := n9) (p9 := p9) hM9 hn hp hb htx (by omega) (by omega) (fun f1 M1 u1 s1 x1 q1 v1 o1 => ?_) (fun f1 M1 u1 s1 x1 q1 o1 => ?_)
    · have hM9 := x1
      obtain ⟨gn, g0, g1, g2, g3, g4, g5, g6⟩ := id hM9
      have n1_ : u1 2 = n9 := (o1 2 (by omega) (by omega)).trans hn
      have w1_ : nmS (gT tx n9) 0 49 (p9, -1) = (u1 5, -1) := pr_eq q1.symm f1
      have hb9 := nmS_in (bs := tx) (lo := 0) (hi := 49) (n := n9) (s := (p9, -1)) ⟨hb.2.1, hb.2.2, by show -1 ≤ (-1 : Int); omega, by show (-1 : Int) ≤ n9; omega⟩
      rw [w1_] at hb9
      have bb1 : 0 ≤ u1 5 ∧ u1 5 ≤ n9 := ⟨hb9.1, hb9.2.1⟩
      refine V_ifne1 C dX7_takesRight_18 (tgt := 23) (by decide) ?_
      refine V_aload_n C dX7_takesRight_23 rfl ?_
      refine V_get C fg_X7_191 dX7_takesRight_24 (by repeat (first | with_reducible assumption | with_reducible exact mset_self _ _ _ | refine (mset_ne (by omega)).trans ?_)) (by (try simp only [mset_1]); omega) (by rfl) ?_
      rw [v1]
      have vr1 := vN_rng (g := (gT tx n9)) (p := p9)
      refine V_istore_n C dX7_takesRight_27 (by decide) ?_
      refine V_aload_n C dX7_takesRight_28 rfl ?_
      refine V_bipush C dX7_takesRight_29 (by decide) ?_
      refine V_callV (fr := 2) (lo := 44) (mc := 0) (ms := 0) (As := [_]) C yvX7_takes w_1125 dX7_takesRight_31 rfl rfl (by repeat (first | with_reducible assumption | with_reducible exact mset_self _ _ _ | refine (mset_ne (by omega)).trans ?_)) (by (try simp only [mset_1]); omega) rfl rfl (Nat.le_of_ble_eq_true rfl) ⟨Nat.le_of_ble_eq_true rfl, Nat.le_of_ble_eq_true rfl⟩ ⟨Nat.le_of_ble_eq_true rfl, Nat.le_of_ble_eq_true rfl⟩ ?_
      refine ok_X7_takes (n9 := n9) (p9 := u1 5) hM9 n1_ rfl ⟨hb.1, bb1.1, bb1.2⟩ htx (by omega) (fun f2 M2 u2 s2 x2 q2 o2 => ?_) (fun f2 M2 u2 s2 x2 q2 o2 => ?_)
      · have hM9 := x2
        obtain ⟨gn, g0, g1, g2, g3, g4, g5, g6⟩ := id hM9
        have n2_ : u2 2 = n9 := (o2 2 (by omega)).trans n1_
        have m1 : r1 (gT tx n9) (p9, -1) = (u2 5, -1) := by unfold r1; rw [w1_, sg_y f2, q2]
        have hb9 := r1_in (bs := tx) (n := n9) (s := (p9, -1)) ⟨hb.2.1, hb.2.2, by show -1 ≤ (-1 : Int); omega, by show (-1 : Int) ≤ n9; omega⟩
        rw [m1] at hb9
        have bb2 : 0 ≤ u2 5 ∧ u2 5 ≤ n9 := ⟨hb9.1, hb9.2.1⟩
        refine V_ifeq1 C dX7_takesRight_34 (tgt := 47) (by decide) ?_
        refine V_aload_n C dX7_takesRight_37 rfl ?_
        refine V_iconst C dX7_takesRight_38 ?_
        refine V_bipush C dX7_takesRight_39 (by decide) ?_
        refine V_callV (fr := 2) (lo := 44) (mc := 0) (ms := 0) (As := [_, _]) C yvX7_takesNumber w_1117 dX7_takesRight_41 rfl rfl (by repeat (first | with_reducible assumption | with_reducible exact mset_self _ _ _ | refine (mset_ne (by omega)).trans ?_)) (by (try simp only [mset_1]); omega) rfl rfl (Nat.le_of_ble_eq_true rfl) ⟨Nat.le_of_ble_eq_true rfl, Nat.le_of_ble_eq_true rfl⟩ ⟨Nat.le_of_ble_eq_true rfl, Nat.le_of_ble_eq_true rfl⟩ ?_
        refine ok_X7_takesNumber (n9 := n9) (p9 := u2 5) hM9 n2_ rfl ⟨hb.1, bb2.1, bb2.2⟩ htx (by omega) (by omega) (fun f3 M3 u3 s3 x3 q3 v3 o3 => ?_) (fun f3 M3 u3 s3 x3 q3 o3 => ?_)
        · have hM9 := x3
          obtain ⟨gn, g0, g1, g2, g3, g4, g5, g6⟩ := id hM9
          have n3_ : u3 2 = n9 := (o3 2 (by omega) (by omega)).trans n2_
          have w2_ : nmS (gT tx n9) 1 12 (r1 (gT tx n9) (p9, -1)) = (u3 5, -1) := by rw [m1]; exact pr_eq q3.symm f3
          have hb9 := nmS_in (bs := tx) (lo := 1) (hi := 12) (n := n9) (s := r1 (gT tx n9) (p9, -1)) (r1_in ⟨hb.2.1, hb.2.2, by show -1 ≤ (-1 : Int); omega, by show (-1 : Int) ≤ n9; omega⟩)
          rw [w2_] at hb9
          have bb3 : 0 ≤ u3 5 ∧ u3 5 ≤ n9 := ⟨hb9.1, hb9.2.1⟩
          refine V_ifne1 C dX7_takesRight_44 (tgt := 49) (by decide) ?_
          refine V_aload_n C dX7_takesRight_49 rfl ?_
          refine V_get C fg_X7_191 dX7_takesRight_50 (by repeat (first | with_reducible assumption | with_reducible exact mset_self _ _ _ | refine (mset_ne (by omega)).trans ?_)) (by (try simp only [mset_1]); omega) (by rfl) ?_
          rw [v3]
          have vr2 := vN_rng (g := (gT tx n9)) (p := u2 5)
          refine V_istore_n C dX7_takesRight_53 (by decide) ?_
          refine V_aload_n C dX7_takesRight_54 rfl ?_
          refine V_bipush C dX7_takesRight_55 (by decide) ?_
          refine V_callV (fr := 2) (lo := 44) (mc := 0) (ms := 0) (As := [_]) C yvX7_takes w_1125 dX7_takesRight_57 rfl rfl (by repeat (first | with_reducible assumption | with_reducible exact mset_self _ _ _ | refine (mset_ne (by omega)).trans ?_)) (by (try simp only [mset_1]); omega) rfl rfl (Nat.le_of_ble_eq_true rfl) ⟨Nat.le_of_ble_eq_true rfl, Nat.le_of_ble_eq_true rfl⟩ ⟨Nat.le_of_ble_eq_true rfl, Nat.le_of_ble_eq_true rfl⟩ ?_
          refine ok_X7_takes (n9 := n9) (p9 := u3 5) hM9 n3_ rfl ⟨hb.1, bb3.1, bb3.2⟩ htx (by omega) (fun f4 M4 u4 s4 x4 q4 o4 => ?_) (fun f4 M4 u4 s4 x4 q4 o4 => ?_)
          · have hM9 := x4
            obtain ⟨gn, g0, g1, g2, g3, g4, g5, g6⟩ := id hM9
            have n4_ : u4 2 = n9 := (o4 2 (by omega)).trans n3_
            have m2 : r2 (gT tx n9) (p9, -1) = (u4 5, -1) := by unfold r2; rw [w2_, sg_y f4, q4]
            have hb9 := r2_in (bs := tx) (n := n9) (s := (p9, -1)) ⟨hb.2.1, hb.2.2, by show -1 ≤ (-1 : Int); omega, by show (-1 : Int) ≤ n9; omega⟩
            rw [m2] at hb9
            have bb4 : 0 ≤ u4 5 ∧ u4 5 ≤ n9 := ⟨hb9.1, hb9.2.1⟩
            refine V_ifeq1 C dX7_takesRight_60 (tgt := 76) (by decide) ?_
            refine V_aload_n C dX7_takesRight_63 rfl ?_
            refine V_iconst C dX7_takesRight_64 ?_
            refine V_iload_n C dX7_takesRight_65 rfl ?_
            refine V_iload_n C dX7_takesRight_66 rfl ?_
            refine V_callS (fr := 0) (lo := 0) (mc := 0) (ms := 0) (As := [_, _]) C ysX7_monthDays w_872 dX7_takesRight_67 rfl rfl (Nat.le_of_ble_eq_true rfl) ⟨Nat.le_of_ble_eq_true rfl, Nat.le_of_ble_eq_true rfl⟩ ⟨Nat.le_of_ble_eq_true rfl, Nat.le_of_ble_eq_true rfl⟩ ?_
            refine ok_X7_monthDays (by omega) (by omega) ?_
            have mlr0 := ml_rng (vN (gT tx n9) p9) (vN (gT tx n9) (u2 5))
            have e3 : r3 (gT tx n9) (p9, -1) = nmS (gT tx n9) 1 (ml (vN (gT tx n9) p9) (vN (gT tx n9) (u2 5))) (u4 5, -1) := by unfold r3; rw [m1, m2, nmV_1, nmV_1]
            refine V_callV (fr := 2) (lo := 44) (mc := 0) (ms := 0) (As := [_, _]) C yvX7_takesNumber w_1117 dX7_takesRight_70 rfl rfl (by repeat (first | with_reducible assumption | with_reducible exact mset_self _ _ _ | refine (mset_ne (by omega)).trans ?_)) (by (try simp only [mset_1]); omega) rfl rfl (Nat.le_of_ble_eq_true rfl) ⟨Nat.le_of_ble_eq_true rfl, Nat.le_of_ble_eq_true rfl⟩ ⟨Nat.le_of_ble_eq_true rfl, Nat.le_of_ble_eq_true rfl⟩ ?_
            refine ok_X7_takesNumber (n9 := n9) (p9 := u4 5) hM9 n4_ rfl ⟨hb.1, bb4.1, bb4.2⟩ htx (by omega) (by omega) (fun f5 M5 u5 s5 x5 q5 v5 o5 => ?_) (fun f5 M5 u5 s5 x5 q5 o5 => ?_)
            · have hM9 := x5
              obtain ⟨gn, g0, g1, g2, g3, g4, g5, g6⟩ := id hM9
              have n5_ : u5 2 = n9 := (o5 2 (by omega) (by omega)).trans n4_
              have w3_ : r3 (gT tx n9) (p9, -1) = (u5 5, -1) := by rw [e3]; exact pr_eq q5.symm f5
              have hb9 := r3_in (bs := tx) (n := n9) (s := (p9, -1)) ⟨hb.2.1, hb.2.2, by show -1 ≤ (-1 : Int); omega, by show (-1 : Int) ≤ n9; omega⟩
              rw [w3_] at hb9
              have bb5 : 0 ≤ u5 5 ∧ u5 5 ≤ n9 := ⟨hb9.1, hb9.2.1⟩
              refine V_ifne1 C dX7_takesRight_73 (tgt := 78) (by decide) ?_
              refine V_aload_n C dX7_takesRight_78 rfl ?_
              refine V_get C fg_X7_191 dX7_takesRight_79 (by repeat (first | with_reducible assumption | with_reducible exact mset_self _ _ _ | refine (mset_ne (by omega)).trans ?_)) (by (try simp only [mset_1]); omega) (by rfl) ?_
              rw [v5]
              refine V_istore_n C dX7_takesRight_82 (by decide) ?_
              refine V_aload_n C dX7_takesRight_83 rfl ?_
              refine V_bipush C dX7_takesRight_84 (by decide) ?_
              refine V_callV (fr := 2) (lo := 44) (mc := 0) (ms := 0) (As := [_]) C yvX7_takes w_1125 dX7_takesRight_86 rfl rfl (by repeat (first | with_reducible assumption | with_reducible exact mset_self _ _ _ | refine (mset_ne (by omega)).trans ?_)) (by (try simp only [mset_1]); omega) rfl rfl (Nat.le_of_ble_eq_true rfl) ⟨Nat.le_of_ble_eq_true rfl, Nat.le_of_ble_eq_true rfl⟩ ⟨Nat.le_of_ble_eq_true rfl, Nat.le_of_ble_eq_true rfl⟩ ?_
              refine ok_X7_takes (n9 := n9) (p9 := u5 5) hM9 n5_ rfl ⟨hb.1, bb5.1, bb5.2⟩ htx (by omega) (fun f6 M6 u6 s6 x6 q6 o6 => ?_) (fun f6 M6 u6 s6 x6 q6 o6 => ?_)
              · have hM9 := x6
                obtain ⟨gn, g0, g1, g2, g3, g4, g5, g6⟩ := id hM9
                have n6_ : u6 2 = n9 := (o6 2 (by omega)).trans n5_
                have m3 : smS (gT tx n9) (r3 (gT tx n9) (p9, -1)) = (u6 5, -1) := by rw [w3_, sm_y f6, q6]
                have ev : smV (gT tx n9) (r3 (gT tx n9) (p9, -1)) = 1 := by rw [w3_]; exact smV_y f6
                have hb9 := smS_in (bs := tx) (n := n9) (s := r3 (gT tx n9) (p9, -1)) (r3_in ⟨hb.2.1, hb.2.2, by show -1 ≤ (-1 : Int); omega, by show (-1 : Int) ≤ n9; omega⟩)
                rw [m3] at hb9
                have bb6 : 0 ≤ u6 5 ∧ u6 5 ≤ n9 := ⟨hb9.1, hb9.2.1⟩
                refine V_istore C dX7_takesRight_89 (by decide) ?_
                refine V_aload_n C dX7_takesRight_91 rfl ?_
                refine V_bipush C dX7_takesRight_92 (by decide) ?_
                refine V_callV (fr := 2) (lo := 44) (mc := 0) (ms := 0) (As := [_]) C yvX7_takes w_1125 dX7_takesRight_94 rfl rfl (by repeat (first | with_reducible assumption | with_reducible exact mset_self _ _ _ | refine (mset_ne (by omega)).trans ?_)) (by (try simp only [mset_1]); omega) rfl rfl (Nat.le_of_ble_eq_true rfl) ⟨Nat.le_of_ble_eq_true rfl, Nat.le_of_ble_eq_true rfl⟩ ⟨Nat.le_of_ble_eq_true rfl, Nat.le_of_ble_eq_true rfl⟩ ?_
                refine ok_X7_takes (n9 := n9) (p9 := u6 5) hM9 n6_ rfl ⟨hb.1, bb6.1, bb6.2⟩ htx (by omega) (fun f7 M7 u7 s7 x7 q7 o7 => ?_) (fun f7 M7 u7 s7 x7 q7 o7 => ?_)
                · have hM9 := x7
                  obtain ⟨gn, g0, g1, g2, g3, g4, g5, g6⟩ := id hM9
                  have n7_ : u7 2 = n9 := (o7 2 (by omega)).trans n6_
                  have m4 : r4 (gT tx n9) (p9, -1) = (u7 5, -1) := by unfold r4; rw [m3, sg_y f7, q7]
                  have hok := r4_ok (bs := tx) (n := n9) (s := (p9, -1)) ⟨hb.2.1, hb.2.2, by show -1 ≤ (-1 : Int); omega, by show (-1 : Int) ≤ n9; omega⟩ (by rw [m4])
                  rw [m1, m2, nmV_1, nmV_1, nmV_1] at hok
                  have eD : rD (gT tx n9) (p9, -1) = dayN (vN (gT tx n9) p9) (vN (gT tx n9) (u2 5)) (vN (gT tx n9) (u4 5)) := by unfold rD; rw [m1, m2, nmV_1, nmV_1, nmV_1]
                  have mlr := ml_rng (vN (gT tx n9) p9) (vN (gT tx n9) (u2 5))
                  have hok1 := hok.2.1
                  have hok2 := hok.2.2.1
                  have hok3 := hok.2.2.2
                  have hb9 := r4_in (bs := tx) (n := n9) (s := (p9, -1)) ⟨hb.2.1, hb.2.2, by show -1 ≤ (-1 : Int); omega, by show (-1 : Int) ≤ n9; omega⟩
                  rw [m4] at hb9
                  have bb7 : 0 ≤ u7 5 ∧ u7 5 ≤ n9 := ⟨hb9.1, hb9.2.1⟩
                  refine V_ifne1 C dX7_takesRight_97 (tgt := 102) (by decide) ?_
                  refine V_aload_n C dX7_takesRight_102 rfl ?_
                  refine V_iload_n C dX7_takesRight_103 rfl ?_
                  refine V_iload_n C dX7_takesRight_104 rfl ?_
                  refine V_iload_n C dX7_takesRight_105 rfl ?_
                  refine V_callS (fr := 1) (lo := 21) (mc := 0) (ms := 0) (As := [_, _, _]) C ysX7_dayOf w_879 dX7_takesRight_106 rfl rfl (Nat.le_of_ble_eq_true rfl) ⟨Nat.le_of_ble_eq_true rfl, Nat.le_of_ble_eq_true rfl⟩ ⟨Nat.le_of_ble_eq_true rfl, Nat.le_of_ble_eq_true rfl⟩ ?_
                  refine ok_X7_dayOf (by omega) (by omega) (by omega) ?_
                  refine V_iload C dX7_takesRight_109 rfl ?_
                  refine V_callV (fr := 1) (lo := 20) (mc := 0) (ms := 0) (As := [_, _]) C yvX7_comes w_917 dX7_takesRight_111 rfl rfl (by repeat (first | with_reducible assumption | with_reducible exact mset_self _ _ _ | refine (mset_ne (by omega)).trans ?_)) (by (try simp only [mset_1]); omega) rfl rfl (Nat.le_of_ble_eq_true rfl) ⟨Nat.le_of_ble_eq_true rfl, Nat.le_of_ble_eq_true rfl⟩ ⟨Nat.le_of_ble_eq_true rfl, Nat.le_of_ble_eq_true rfl⟩ ?_
                  refine ok_X7_comes hM9 hr10 h1 (by omega) (fun M8 s8 x8 => ?_)
                  refine V_istore C dX7_takesRight_114 (by decide) ?_
                  refine V_iconst C dX7_takesRight_116 ?_
                  exact V_zret C hr (by omega) dX7_takesRight_117 (hT hr10 (by rw [m4]) _ u7 (((((((s1.trans s2).trans s3).trans s4).trans s5).trans s6).trans s7).trans s8) (by rw [eD, ev]; exact x8) (by rw [m4]) (fun j h5 h6 => ((o7 j h5).trans ((o6 j h5).trans ((o5 j h5 h6).trans ((o4 j h5).trans ((o3 j h5 h6).trans ((o2 j h5).trans (o1 j h5 h6)))))))))
                · refine V_ifne0 C dX7_takesRight_97 (tgt := 102) (by decide) ?_
                  refine V_iconst C dX7_takesRight_100 ?_
                  exact V_zret C hr (by omega) dX7_takesRight_101 (hF (u6 5) (fun _ => by unfold r4; rw [m3, sg_n f7]) (fun _ => by omega) bb6.1 _ u7 ((((((s1.trans s2).trans s3).trans s4).trans s5).trans s6).trans s7) x7 q7 (fun j h5 h6 => ((o7 j h5).trans ((o6 j h5).trans ((o5 j h5 h6).trans ((o4 j h5).trans ((o3 j h5 h6).trans ((o2 j h5).trans (o1 j h5 h6)))))))))
              · have hM9 := x6
                obtain ⟨gn, g0, g1, g2, g3, g4, g5, g6⟩ := id hM9
                have n6_ : u6 2 = n9 := (o6 2 (by omega)).trans n5_
                have m3 : smS (gT tx n9) (r3 (gT tx n9) (p9, -1)) = (u6 5, -1) := by rw [w3_, sm_n f6, q6]
                have ev : smV (gT tx n9) (r3 (gT tx n9) (p9, -1)) = 0 := by rw [w3_]; exact smV_n f6
                have hb9 := smS_in (bs := tx) (n := n9) (s := r3 (gT tx n9) (p9, -1)) (r3_in ⟨hb.2.1, hb.2.2, by show -1 ≤ (-1 : Int); omega, by show (-1 : Int) ≤ n9; omega⟩)
                rw [m3] at hb9
                have bb6 : 0 ≤ u6 5 ∧ u6 5 ≤ n9 := ⟨hb9.1, hb9.2.1⟩
                refine V_istore C dX7_takesRight_89 (by decide) ?_
                refine V_aload_n C dX7_takesRight_91 rfl ?_
                refine V_bipush C dX7_takesRight_92 (by decide) ?_
                refine V_callV (fr := 2) (lo := 44) (mc := 0) (ms := 0) (As := [_]) C yvX7_takes w_1125 dX7_takesRight_94 rfl rfl (by repeat (first | with_reducible assumption | with_reducible exact mset_self _ _ _ | refine (mset_ne (by omega)).trans ?_)) (by (try simp only [mset_1]); omega) rfl rfl (Nat.le_of_ble_eq_true rfl) ⟨Nat.le_of_ble_eq_true rfl, Nat.le_of_ble_eq_true rfl⟩ ⟨Nat.le_of_ble_eq_true rfl, Nat.le_of_ble_eq_true rfl⟩ ?_
                refine ok_X7_takes (n9 := n9) (p9 := u6 5) hM9 n6_ rfl ⟨hb.1, bb6.1, bb6.2⟩ htx (by omega) (fun f7 M7 u7 s7 x7 q7 o7 => ?_) (fun f7 M7 u7 s7 x7 q7 o7 => ?_)
                · have hM9 := x7
                  obtain ⟨gn, g0, g1, g2, g3, g4, g5, g6⟩ := id hM9
                  have n7_ : u7 2 = n9 := (o7 2 (by omega)).trans n6_
                  have m4 : r4 (gT tx n9) (p9, -1) = (u7 5, -1) := by unfold r4; rw [m3, sg_y f7, q7]
                  have hok := r4_ok (bs := tx) (n := n9) (s := (p9, -1)) ⟨hb.2.1, hb.2.2, by show -1 ≤ (-1 : Int); omega, by show (-1 : Int) ≤ n9; omega⟩ (by rw [m4])
                  rw [m1, m2, nmV_1, nmV_1, nmV_1] at hok
                  have eD : rD (gT tx n9) (p9, -1) = dayN (vN (gT tx n9) p9) (vN (gT tx n9) (u2 5)) (vN (gT tx n9) (u4 5)) := by unfold rD; rw [m1, m2, nmV_1, nmV_1, nmV_1]
                  have mlr := ml_rng (vN (gT tx n9) p9) (vN (gT tx n9) (u2 5))
                  have hok1 := hok.2.1
                  have hok2 := hok.2.2.1
                  have hok3 := hok.2.2.2
                  have hb9 := r4_in (bs := tx) (n := n9) (s := (p9, -1)) ⟨hb.2.1, hb.2.2, by show -1 ≤ (-1 : Int); omega, by show (-1 : Int) ≤ n9; omega⟩
                  rw [m4] at hb9
                  have bb7 : 0 ≤ u7 5 ∧ u7 5 ≤ n9 := ⟨hb9.1, hb9.2.1⟩
                  refine V_ifne1 C dX7_takesRight_97 (tgt := 102) (by decide) ?_
                  refine V_aload_n C dX7_takesRight_102 rfl ?_
                  refine V_iload_n C dX7_takesRight_103 rfl ?_
                  refine V_iload_n C dX7_takesRight_104 rfl ?_
                  refine V_iload_n C dX7_takesRight_105 rfl ?_
                  refine V_callS (fr := 1) (lo := 21) (mc := 0) (ms := 0) (As := [_, _, _]) C ysX7_dayOf w_879 dX7_takesRight_106 rfl rfl (Nat.le_of_ble_eq_true rfl) ⟨Nat.le_of_ble_eq_true rfl, Nat.le_of_ble_eq_true rfl⟩ ⟨Nat.le_of_ble_eq_true rfl, Nat.le_of_ble_eq_true rfl⟩ ?_
                  refine ok_X7_dayOf (by omega) (by omega) (by omega) ?_
                  refine V_iload C dX7_takesRight_109 rfl ?_
                  refine V_callV (fr := 1) (lo := 20) (mc := 0) (ms := 0) (As := [_, _]) C yvX7_comes w_917 dX7_takesRight_111 rfl rfl (by repeat (first | with_reducible assumption | with_reducible exact mset_self _ _ _ | refine (mset_ne (by omega)).trans ?_)) (by (try simp only [mset_1]); omega) rfl rfl (Nat.le_of_ble_eq_true rfl) ⟨Nat.le_of_ble_eq_true rfl, Nat.le_of_ble_eq_true rfl⟩ ⟨Nat.le_of_ble_eq_true rfl, Nat.le_of_ble_eq_true rfl⟩ ?_
                  refine ok_X7_comes hM9 hr10 h1 (by omega) (fun M8 s8 x8 => ?_)
                  refine V_istore C dX7_takesRight_114 (by decide) ?_
                  refine V_iconst C dX7_takesRight_116 ?_
                  exact V_zret C hr (by omega) dX7_takesRight_117 (hT hr10 (by rw [m4]) _ u7 (((((((s1.trans s2).trans s3).trans s4).trans s5).trans s6).trans s7).trans s8) (by rw [eD, ev]; exact x8) (by rw [m4]) (fun j h5 h6 => ((o7 j h5).trans ((o6 j h5).trans ((o5 j h5 h6).trans ((o4 j h5).trans ((o3 j h5 h6).trans ((o2 j h5).trans (o1 j h5 h6)))))))))
                · refine V_ifne0 C dX7_takesRight_97 (tgt := 102) (by decide) ?_
                  refine V_iconst C dX7_takesRight_100 ?_
                  exact V_zret C hr (by omega) dX7_takesRight_101 (hF (u6 5) (fun _ => by unfold r4; rw [m3, sg_n f7]) (fun _ => by omega) bb6.1 _ u7 ((((((s1.trans s2).trans s3).trans s4).trans s5).trans s6).trans s7) x7 q7 (fun j h5 h6 => ((o7 j h5).trans ((o6 j h5).trans ((o5 j h5 h6).trans ((o4 j h5).trans ((o3 j h5 h6).trans ((o2 j h5).trans (o1 j h5 h6)))))))))
            · refine V_ifne0 C dX7_takesRight_73 (tgt := 78) (by decide) ?_
              refine V_iconst C dX7_takesRight_76 ?_
              exact V_zret C hr (by omega) dX7_takesRight_77 (hF (r3 (gT tx n9) (p9, -1)).2 (fun _ => by rw [r4_k3 (by rw [e3]; exact f5)]) (fun _ => by omega) (by have o := (r3_in (bs := tx) (n := n9) (s := (p9, -1)) ⟨hb.2.1, hb.2.2, by show -1 ≤ (-1 : Int); omega, by show (-1 : Int) ≤ n9; omega⟩).2.2.1; have o2 := f5; rw [← e3] at o2; omega) _ u5 ((((s1.trans s2).trans s3).trans s4).trans s5) x5 (by rw [e3]; exact q5) (fun j h5 h6 => ((o5 j h5 h6).trans ((o4 j h5).trans ((o3 j h5 h6).trans ((o2 j h5).trans (o1 j h5 h6)))))))
          · refine V_ifeq0 C dX7_takesRight_60 (tgt := 76) (by decide) ?_
            refine V_iconst C dX7_takesRight_76 ?_
            exact V_zret C hr (by omega) dX7_takesRight_77 (hF (u3 5) (fun _ => by rw [r4_k2 (show ¬ (r2 (gT tx n9) (p9, -1)).2 = -1 by unfold r2; rw [w2_, sg_n f4]; show ¬ u3 5 = -1; omega)]; unfold r2; rw [w2_, sg_n f4]) (fun _ => by omega) bb3.1 _ u4 (((s1.trans s2).trans s3).trans s4) x4 q4 (fun j h5 h6 => ((o4 j h5).trans ((o3 j h5 h6).trans ((o2 j h5).trans (o1 j h5 h6))))))
        · refine V_ifne0 C dX7_takesRight_44 (tgt := 49) (by decide) ?_
          refine V_iconst C dX7_takesRight_47 ?_
          exact V_zret C hr (by omega) dX7_takesRight_48 (hF (nmS (gT tx n9) 1 12 (u2 5, -1)).2 (fun _ => by rw [r4_k1 (show ¬ (nmS (gT tx n9) 1 12 (r1 (gT tx n9) (p9, -1))).2 = -1 by rw [m1]; exact f3), m1]) (fun _ => by omega) (by have o := (nmS_in (bs := tx) (lo := 1) (hi := 12) (n := n9) (s := r1 (gT tx n9) (p9, -1)) (r1_in ⟨hb.2.1, hb.2.2, by show -1 ≤ (-1 : Int); omega, by show (-1 : Int) ≤ n9; omega⟩)).2.2.1; rw [m1] at o; omega) _ u3 ((s1.trans s2).trans s3) x3 q3 (fun j h5 h6 => ((o3 j h5 h6).trans ((o2 j h5).trans (o1 j h5 h6)))))
      · refine V_ifeq0 C dX7_takesRight_34 (tgt := 47) (by decide) ?_
        refine V_iconst C dX7_takesRight_47 ?_
        exact V_zret C hr (by omega) dX7_takesRight_48 (hF (u1 5) (fun _ => by rw [r4_k0 (show ¬ (r1 (gT tx n9) (p9, -1)).2 = -1 by unfold r1; rw [w1_, sg_n f2]; show ¬ u1 5 = -1; omega)]; unfold r1; rw [w1_, sg_n f2]) (fun _ => by omega) bb1.1 _ u2 (s1.trans s2) x2 q2 (fun j h5 h6 => ((o2 j h5).trans (o1 j h5 h6))))
    · refine V_ifne0 C dX7_takesRight_18 (tgt := 23) (by decide) ?_
      refine V_iconst C dX7_takesRight_21 ?_
      exact V_zret C hr (by omega) dX7_takesRight_22 (hF (nmS (gT tx n9) 0 49 (p9, -1)).2 (fun _ => by rw [r4_kn f1]) (fun _ => by omega) (by have o := (nmS_in (bs := tx) (lo := 0) (hi := 49) (n := n9) (s := (p9, -1)) ⟨hb.2.1, hb.2.2, by show -1 ≤ (-1 : Int); omega, by show (-1 : Int) ≤ n9; omega⟩).2.2.1; omega) _ u1 s1 x1 q1 (fun j h5 h6 => (o1 j h5 h6)))

set_option maxHeartbeats 400000 in
set_option maxRecDepth 4000 in
theorem ok_X7_swapsAside {l : Launch} {D : va_G} {cy : Nat → ClassId} {z : Nat} {M : Mm} {K : Option Value → Mm → Prop} {u N P A tx fr tl : Nat → Int} (hM : ModAt cy z M u N P A tx fr tl) (hK : ∀ M', Sm M M' P7 → ModAt cy z M' u (swp A N) P (swp N A) tx fr tl → K none M') :
    MT l D cy z false yX7_swapsAside (wsy yX7_swapsAside cX7_swapsAside 3 none) 0 0 0 0 M [.ref (z + 331)] K := by
  refine MT_of (by decide) w_1132 (Nat.le_of_ble_eq_true rfl) ?_
  intro p e s m args below meth c C hr hx0
  have hM9 := hM
  obtain ⟨gn, g0, g1, g2, g3, g4, g5, g6⟩ := id hM
  refine V_iconst C dX7_swapsAside_0 ?_
  refine V_istore_n C dX7_swapsAside_1 (by decide) ?_
  have loop : ∀ (n : Nat) (k9 : Nat) (N9 A9 : Nat → Int) (M9 : Mm), (k9 ≤ 366) → (Sm M M9 P7) → (ModAt cy z M9 u N9 P A9 tx fr tl) → (∀ j, N9 j = if j < k9 then A j else N j) → (∀ j, A9 j = if j < k9 then N j else A j) → 366 - k9 < n → V p l e { frames := 0, cells := 0, slots := 0, locals := 0 } s m args below meth c D z 3 (MQ below (qc_ D z K) args s 0 0 (fun q => z ≤ q)) 0 0 M9 2 [(0, .ref (z + 331)), (1, iv ((k9 : Int)))] [] := by
    intro n
    induction n with
    | zero => intro k9 N9 A9 M9 hi0 hi1 hi2 hi3 hi4 hfu; exact absurd hfu (Nat.not_lt_zero _)
    | succ n ih =>
      intro k9 N9 A9 M9 hi0 hi1 hi2 hi3 hi4 hfu
      have hM9 := hi2
      obtain ⟨gn, g0, g1, g2, g3, g4, g5, g6⟩ := id hM9
      refine V_iload_n C dX7_swapsAside_2 rfl ?_
      refine V_sipush C dX7_swapsAside_3 (by decide) ?_
      refine V_icmp_ge C dX7_swapsAside_6 (tgt := 41) (by decide) (by omega) (by omega) (fun g6 => ?_) (fun g6 => ?_)
      · have en : k9 = 366 := by omega
        subst en
        have xs : ModAt cy z M9 u (swp A N) P (swp N A) tx fr tl := by
          rw [show swp A N = N9 from funext fun j => (hi3 j).symm, show swp N A = A9 from funext fun j => (hi4 j).symm]
          exact hi2
        exact V_vret C hr dX7_swapsAside_41 (hK _ hi1 xs)
      · refine V_aload_n C dX7_swapsAside_9 rfl ?_
        refine V_get C fg_X7_7 dX7_swapsAside_10 (by repeat (first | with_reducible assumption | with_reducible exact mset_self _ _ _ | refine (mset_ne (by omega)).trans ?_)) (by (try simp only [mset_1]); omega) (by rfl) ?_
        refine V_iload_n C dX7_swapsAside_13 rfl ?_
        refine V_iald C dX7_swapsAside_14 (by repeat (first | with_reducible assumption | with_reducible exact mset_self _ _ _ | refine (mset_ne (by omega)).trans ?_)) (by (try simp only [mset_1]); omega) (by omega) (by omega) (show ((k9 : Int)).toNat = k9 by omega) ?_
        refine V_istore_n C dX7_swapsAside_15 (by decide) ?_
        refine V_aload_n C dX7_swapsAside_16 rfl ?_
        refine V_get C fg_X7_7 dX7_swapsAside_17 (by repeat (first | with_reducible assumption | with_reducible exact mset_self _ _ _ | refine (mset_ne (by omega)).trans ?_)) (by (try simp only [mset_1]); omega) (by rfl) ?_
        refine V_iload_n C dX7_swapsAside_20 rfl ?_
        refine V_aload_n C dX7_swapsAside_21 rfl ?_
        refine V_get C fg_X7_16 dX7_swapsAside_22 (by repeat (first | with_reducible assumption | with_reducible exact mset_self _ _ _ | refine (mset_ne (by omega)).trans ?_)) (by (try simp only [mset_1]); omega) (by rfl) ?_
        refine V_iload_n C dX7_swapsAside_25 rfl ?_
        refine V_iald C dX7_swapsAside_26 (by repeat (first | with_reducible assumption | with_reducible exact mset_self _ _ _ | refine (mset_ne (by omega)).trans ?_)) (by (try simp only [mset_1]); omega) (by omega) (by omega) (show ((k9 : Int)).toNat = k9 by omega) ?_
        refine V_iast C dX7_swapsAside_27 (by repeat (first | with_reducible assumption | with_reducible exact mset_self _ _ _ | refine (mset_ne (by omega)).trans ?_)) (by (try simp only [mset_1]); omega) (by omega) (by omega) (show ((k9 : Int)).toNat = k9 by omega) ?_
        refine V_aload_n C dX7_swapsAside_28 rfl ?_
        refine V_get C fg_X7_16 dX7_swapsAside_29 (by repeat (first | with_reducible assumption | with_reducible exact mset_self _ _ _ | refine (mset_ne (by omega)).trans ?_)) (by (try simp only [mset_1]); omega) (by rfl) ?_
        refine V_iload_n C dX7_swapsAside_32 rfl ?_
        refine V_iload_n C dX7_swapsAside_33 rfl ?_
        refine V_iast C dX7_swapsAside_34 (by repeat (first | with_reducible assumption | with_reducible exact mset_self _ _ _ | refine (mset_ne (by omega)).trans ?_)) (by (try simp only [mset_1]); omega) (by omega) (by omega) (show ((k9 : Int)).toNat = k9 by omega) ?_
        refine V_iinc C dX7_swapsAside_35 rfl (by decide) ?_
        refine V_goto C dX7_swapsAside_38 (tgt := 2) (by decide) ?_
        refine V_lv [(0, .ref (z + 331)), (1, iv (((k9 + 1 : Nat) : Int)))] (List.forall_mem_cons.mpr ⟨(by first | rfl | exact congrArg (fun t => some (iv t)) (by push_cast; omega)), (List.forall_mem_cons.mpr ⟨(by first | rfl | exact congrArg (fun t => some (iv t)) (by push_cast; omega)), (fun _ h => nomatch h)⟩)⟩) ?_
        refine ih (k9 + 1) _ _ _ (by omega) ((hi1.ts ⟨by omega, by omega⟩).ts ⟨by omega, by omega⟩) hi2.nows.asd (fun j => ?_) (fun j => ?_) (by omega)
        · rcases Nat.decEq j k9 with o | o
          · rw [up_n o, hi3 j]
            by_cases q : j < k9
            · rw [if_pos q, if_pos (by omega)]
            · rw [if_neg q, if_neg (by omega)]
          · rw [o, up_s, if_pos (by omega), hi4 k9, if_neg (by omega)]
        · rcases Nat.decEq j k9 with o | o
          · rw [up_n o, hi4 j]
            by_cases q : j < k9
            · rw [if_pos q, if_pos (by omega)]
            · rw [if_neg q, if_neg (by omega)]
          · rw [o, up_s, if_pos (by omega), hi3 k9, if_neg (by omega)]
  refine V_lv [(0, .ref (z + 331)), (1, iv (((0 : Nat) : Int)))] (List.forall_mem_cons.mpr ⟨(by first | rfl | exact congrArg (fun t => some (iv t)) (by omega)), (List.forall_mem_cons.mpr ⟨(by first | rfl | exact congrArg (fun t => some (iv t)) (by omega)), (fun _ h => nomatch h)⟩)⟩) ?_
  exact loop 367 0 N A M (by omega) (Sm.rf _ _) hM (fun j => by rw [if_neg (by omega)]) (fun j => by rw [if_neg (by omega)]) (by omega)

