/-! what the reference reads (X7), walked -/
theorem nxt_rng {F : Nat → Int} (h : 0 ≤ F 3 ∧ F 3 ≤ 19) : nxt F = -1 ∧ F 3 = 19 ∨ nxt F = F 3 + 1 ∧ F 3 < 19 := by unfold nxt; omega
set_option maxHeartbeats 400000 in
set_option maxRecDepth 4000 in
theorem ok_X7_at {l : Launch} {D : va_G} {cy : Nat → ClassId} {z : Nat} {M : Mm} {K : Option Value → Mm → Prop} {r : Int} (hK : K (some (iv (16 + 35 * r))) M) :
    MT l D cy z false yX7_at (wsy yX7_at cX7_at 1 (some .int)) 0 0 0 0 M [iv r] K := by
  refine MT_of (by decide) w_923 (Nat.le_of_ble_eq_true rfl) ?_
  intro p e s m args below meth c C hr hx0
  refine V_bipush C dX7_at_0 (by decide) ?_
  refine V_bipush C dX7_at_2 (by decide) ?_
  refine V_iload_n C dX7_at_4 rfl ?_
  refine V_imul C dX7_at_5 ?_
  refine V_iadd C dX7_at_6 ?_
  exact V_iret C hr dX7_at_7 hK

set_option maxHeartbeats 400000 in
set_option maxRecDepth 4000 in
theorem ok_X7_of {l : Launch} {D : va_G} {cy : Nat → ClassId} {z : Nat} {M : Mm} {K : Option Value → Mm → Prop} {u N P A tx fr tl : Nat → Int} (hM : ModAt cy z M u N P A tx fr tl) {r w v : Int} {j : Nat} (hj : (16 + 35 * r + w).toNat = j) (hj0 : 0 ≤ 16 + 35 * r + w) (hj1 : 16 + 35 * r + w < 366) (hv : N j = v) (hK : K (some (iv v)) M) :
    MT l D cy z false yX7_of (wsy yX7_of cX7_of 3 (some .int)) 1 20 0 0 M [.ref (z + 331), iv r, iv w] K := by
  refine MT_of (by decide) w_943 (Nat.le_of_ble_eq_true rfl) ?_
  intro p e s m args below meth c C hr hx0
  have hM9 := hM
  obtain ⟨gn, g0, g1, g2, g3, g4, g5, g6⟩ := id hM
  refine V_aload_n C dX7_of_0 rfl ?_
  refine V_get C fg_X7_7 dX7_of_1 (by repeat (first | with_reducible assumption | with_reducible exact mset_self _ _ _ | refine (mset_ne (by omega)).trans ?_)) (by (try simp only [mset_1]); omega) (by rfl) ?_
  refine V_iload_n C dX7_of_4 rfl ?_
  refine V_callS (fr := 0) (lo := 0) (mc := 0) (ms := 0) (As := [_]) C ysX7_at w_921 dX7_of_5 rfl rfl (Nat.le_of_ble_eq_true rfl) ⟨Nat.le_of_ble_eq_true rfl, Nat.le_of_ble_eq_true rfl⟩ ⟨Nat.le_of_ble_eq_true rfl, Nat.le_of_ble_eq_true rfl⟩ ?_
  refine ok_X7_at ?_
  refine V_iload_n C dX7_of_8 rfl ?_
  refine V_iadd C dX7_of_9 ?_
  refine V_iald C dX7_of_10 (by repeat (first | with_reducible assumption | with_reducible exact mset_self _ _ _ | refine (mset_ne (by omega)).trans ?_)) (by (try simp only [mset_1]); omega) (by omega) (by omega) hj ?_
  exact V_iret C hr dX7_of_11 (K_of hK hv)

set_option maxHeartbeats 400000 in
set_option maxRecDepth 4000 in
theorem ok_X7_isRight {l : Launch} {D : va_G} {cy : Nat → ClassId} {z : Nat} {M : Mm} {K : Option Value → Mm → Prop} {u N P A tx fr tl : Nat → Int} (hM : ModAt cy z M u N P A tx fr tl) {S : SD} (hRw : RowOf N S) (hB : SB S) (hJ : IS S)  {r : Int} (hr : -2147483648 ≤ r ∧ r < 2147483648) (hT : ∀ i : Nat, r = i → i < sN S → K (some (iv 1)) M) (hF : ¬ (0 ≤ r ∧ r < sN S) → K (some (iv 0)) M) :
    MT l D cy z false yX7_isRight (wsy yX7_isRight cX7_isRight 2 (some .boolean)) 1 22 0 0 M [.ref (z + 331), iv r] K := by
  refine MT_of (by decide) w_955 (Nat.le_of_ble_eq_true rfl) ?_
  intro p e s m args below meth c C hr hx0
  have hM9 := hM
  obtain ⟨gn, g0, g1, g2, g3, g4, g5, g6⟩ := id hM
  have hB9 := hB
  have hr9 := hRw
  have hJ9 := hJ
  obtain ⟨e0, e1, e2, eH, eh, e9, e10, e11, e12, e13, e14, e15, eR⟩ := id hRw
  obtain ⟨d0, d1, d2, d4, d5, d6, dH, dR⟩ := id hB
  have dT := hJ.2.1
  refine V_iload_n C dX7_isRight_0 rfl ?_
  refine V_iconst C dX7_isRight_1 ?_
  refine V_aload_n C dX7_isRight_2 rfl ?_
  refine V_get C fg_X7_7 dX7_isRight_3 (by repeat (first | with_reducible assumption | with_reducible exact mset_self _ _ _ | refine (mset_ne (by omega)).trans ?_)) (by (try simp only [mset_1]); omega) (by rfl) ?_
  refine V_iconst C dX7_isRight_6 ?_
  refine V_iald C dX7_isRight_7 (by repeat (first | with_reducible assumption | with_reducible exact mset_self _ _ _ | refine (mset_ne (by omega)).trans ?_)) (by (try simp only [mset_1]); omega) (by omega) (by omega) (show ((1 : Int)).toNat = 1 from rfl) ?_
  rw [e1]
  refine V_iconst C dX7_isRight_8 ?_
  refine V_isub C dX7_isRight_9 ?_
  refine V_callS (fr := 0) (lo := 0) (mc := 0) (ms := 0) (As := [_, _, _]) C ysX7_in w_863 dX7_isRight_10 rfl rfl (Nat.le_of_ble_eq_true rfl) ⟨Nat.le_of_ble_eq_true rfl, Nat.le_of_ble_eq_true rfl⟩ ⟨Nat.le_of_ble_eq_true rfl, Nat.le_of_ble_eq_true rfl⟩ ?_
  refine ok_X7_in (by omega) (by omega) (by omega) (fun hw => ?_) (fun hw => ?_)
  · exact V_zret C hr (by omega) dX7_isRight_13 (hT r.toNat (by omega) (by omega))
  · exact V_zret C hr (by omega) dX7_isRight_13 (hF (fun o => hw (by omega)))

set_option maxHeartbeats 400000 in
set_option maxRecDepth 4000 in
theorem ok_X7_dueOf {l : Launch} {D : va_G} {cy : Nat → ClassId} {z : Nat} {M : Mm} {K : Option Value → Mm → Prop} {u N P A tx fr tl : Nat → Int} (hM : ModAt cy z M u N P A tx fr tl) {S : SD} (hRw : RowOf N S) (hB : SB S) (hJ : IS S) {i : Nat} (hi : i < sN S) {y : Int} (hy : 1 ≤ y ∧ y ≤ 19) (hK : K (some (iv (yv (RA S i 0) (-1) y))) M) :
    MT l D cy z false yX7_dueOf (wsy yX7_dueOf cX7_dueOf 3 (some .int)) 4 90 0 0 M [.ref (z + 331), iv (i : Int), iv y] K := by
  refine MT_of (by decide) w_963 (Nat.le_of_ble_eq_true rfl) ?_
  intro p e s m args below meth c C hr hx0
  have hM9 := hM
  obtain ⟨gn, g0, g1, g2, g3, g4, g5, g6⟩ := id hM
  have hB9 := hB
  have hr9 := hRw
  have hJ9 := hJ
  obtain ⟨e0, e1, e2, eH, eh, e9, e10, e11, e12, e13, e14, e15, eR⟩ := id hRw
  obtain ⟨d0, d1, d2, d4, d5, d6, dH, dR⟩ := id hB
  have dT := hJ.2.1
  have rt := eR i hi
  obtain ⟨w0, w1, w2, w3, w4, w5, w6, w7⟩ := id rt
  have ri := hJ.2.2 i hi
  have hi10 : i < 10 := by omega
  have rb := dR i hi10
  obtain ⟨b0, b1, b2, b3, b4⟩ := id rb
  have ri0 := ri.1
  have ri1 := ri.2.1
  refine V_aload_n C dX7_dueOf_0 rfl ?_
  refine V_aload_n C dX7_dueOf_1 rfl ?_
  refine V_iload_n C dX7_dueOf_2 rfl ?_
  refine V_iconst C dX7_dueOf_3 ?_
  refine V_callV (fr := 1) (lo := 20) (mc := 0) (ms := 0) (As := [_, _]) C yvX7_of w_940 dX7_dueOf_4 rfl rfl (by repeat (first | with_reducible assumption | with_reducible exact mset_self _ _ _ | refine (mset_ne (by omega)).trans ?_)) (by (try simp only [mset_1]); omega) rfl rfl (Nat.le_of_ble_eq_true rfl) ⟨Nat.le_of_ble_eq_true rfl, Nat.le_of_ble_eq_true rfl⟩ ⟨Nat.le_of_ble_eq_true rfl, Nat.le_of_ble_eq_true rfl⟩ ?_
  refine ok_X7_of hM9 (j := 16 + 35 * i) (by omega) (by omega) (by omega) w0 ?_
  refine V_bipush C dX7_dueOf_7 (by decide) ?_
  refine V_iload_n C dX7_dueOf_9 rfl ?_
  refine V_imul C dX7_dueOf_10 ?_
  have l1 := later_rng (d := RF S i 0) (n := 12 * y) ri0.1 (by omega)
  refine V_callS (fr := 3) (lo := 64) (mc := 0) (ms := 0) (As := [_, _]) C ysX7_behind w_886 dX7_dueOf_11 rfl rfl (Nat.le_of_ble_eq_true rfl) ⟨Nat.le_of_ble_eq_true rfl, Nat.le_of_ble_eq_true rfl⟩ ⟨Nat.le_of_ble_eq_true rfl, Nat.le_of_ble_eq_true rfl⟩ ?_
  refine ok_X7_behind (by omega) (by omega) ?_
  refine V_callV (fr := 3) (lo := 64) (mc := 0) (ms := 0) (As := [_]) C yvX7_worksFrom w_893 dX7_dueOf_14 rfl rfl (by repeat (first | with_reducible assumption | with_reducible exact mset_self _ _ _ | refine (mset_ne (by omega)).trans ?_)) (by (try simp only [mset_1]); omega) rfl rfl (Nat.le_of_ble_eq_true rfl) ⟨Nat.le_of_ble_eq_true rfl, Nat.le_of_ble_eq_true rfl⟩ ⟨Nat.le_of_ble_eq_true rfl, Nat.le_of_ble_eq_true rfl⟩ ?_
  refine ok_X7_worksFrom hM9 e2 d2 (fun j hj => by have o := eh j hj; omega) (by omega) ?_
  exact V_iret C hr dX7_dueOf_17 (K_of hK (by rw [yv_at (by omega), hRw.H]; have o := (ri.2.2.2.1 y.toNat (by omega) (by omega)).1; rw [o, show ((y.toNat : Nat) : Int) = y by omega]))

set_option maxHeartbeats 400000 in
set_option maxRecDepth 4000 in
theorem ok_X7_graceOf {l : Launch} {D : va_G} {cy : Nat → ClassId} {z : Nat} {M : Mm} {K : Option Value → Mm → Prop} {u N P A tx fr tl : Nat → Int} (hM : ModAt cy z M u N P A tx fr tl) {S : SD} (hRw : RowOf N S) (hB : SB S) (hJ : IS S) {i : Nat} (hi : i < sN S) {y : Int} (hy : 1 ≤ y ∧ y ≤ 19) (hK : K (some (iv (yv (RA S i 1) (-1) y))) M) :
    MT l D cy z false yX7_graceOf (wsy yX7_graceOf cX7_graceOf 3 (some .int)) 4 90 0 0 M [.ref (z + 331), iv (i : Int), iv y] K := by
  refine MT_of (by decide) w_947 (Nat.le_of_ble_eq_true rfl) ?_
  intro p e s m args below meth c C hr hx0
  have hM9 := hM
  obtain ⟨gn, g0, g1, g2, g3, g4, g5, g6⟩ := id hM
  have hB9 := hB
  have hr9 := hRw
  have hJ9 := hJ
  obtain ⟨e0, e1, e2, eH, eh, e9, e10, e11, e12, e13, e14, e15, eR⟩ := id hRw
  obtain ⟨d0, d1, d2, d4, d5, d6, dH, dR⟩ := id hB
  have dT := hJ.2.1
  have rt := eR i hi
  obtain ⟨w0, w1, w2, w3, w4, w5, w6, w7⟩ := id rt
  have ri := hJ.2.2 i hi
  have hi10 : i < 10 := by omega
  have rb := dR i hi10
  obtain ⟨b0, b1, b2, b3, b4⟩ := id rb
  have ri0 := ri.1
  have ri1 := ri.2.1
  refine V_aload_n C dX7_graceOf_0 rfl ?_
  refine V_aload_n C dX7_graceOf_1 rfl ?_
  refine V_iload_n C dX7_graceOf_2 rfl ?_
  refine V_iconst C dX7_graceOf_3 ?_
  refine V_callV (fr := 1) (lo := 20) (mc := 0) (ms := 0) (As := [_, _]) C yvX7_of w_940 dX7_graceOf_4 rfl rfl (by repeat (first | with_reducible assumption | with_reducible exact mset_self _ _ _ | refine (mset_ne (by omega)).trans ?_)) (by (try simp only [mset_1]); omega) rfl rfl (Nat.le_of_ble_eq_true rfl) ⟨Nat.le_of_ble_eq_true rfl, Nat.le_of_ble_eq_true rfl⟩ ⟨Nat.le_of_ble_eq_true rfl, Nat.le_of_ble_eq_true rfl⟩ ?_
  refine ok_X7_of hM9 (j := 16 + 35 * i) (by omega) (by omega) (by omega) w0 ?_
  refine V_bipush C dX7_graceOf_7 (by decide) ?_
  refine V_iload_n C dX7_graceOf_9 rfl ?_
  refine V_imul C dX7_graceOf_10 ?_
  refine V_bipush C dX7_graceOf_11 (by decide) ?_
  refine V_iadd C dX7_graceOf_13 ?_
  have l1 := later_rng (d := RF S i 0) (n := 12 * y + 6) ri0.1 (by omega)
  refine V_callS (fr := 3) (lo := 64) (mc := 0) (ms := 0) (As := [_, _]) C ysX7_behind w_886 dX7_graceOf_14 rfl rfl (Nat.le_of_ble_eq_true rfl) ⟨Nat.le_of_ble_eq_true rfl, Nat.le_of_ble_eq_true rfl⟩ ⟨Nat.le_of_ble_eq_true rfl, Nat.le_of_ble_eq_true rfl⟩ ?_
  refine ok_X7_behind (by omega) (by omega) ?_
  refine V_callV (fr := 3) (lo := 64) (mc := 0) (ms := 0) (As := [_]) C yvX7_worksFrom w_893 dX7_graceOf_17 rfl rfl (by repeat (first | with_reducible assumption | with_reducible exact mset_self _ _ _ | refine (mset_ne (by omega)).trans ?_)) (by (try simp only [mset_1]); omega) rfl rfl (Nat.le_of_ble_eq_true rfl) ⟨Nat.le_of_ble_eq_true rfl, Nat.le_of_ble_eq_true rfl⟩ ⟨Nat.le_of_ble_eq_true rfl, Nat.le_of_ble_eq_true rfl⟩ ?_
  refine ok_X7_worksFrom hM9 e2 d2 (fun j hj => by have o := eh j hj; omega) (by omega) ?_
  exact V_iret C hr dX7_graceOf_20 (K_of hK (by rw [yv_at (by omega), hRw.H]; have o := (ri.2.2.2.1 y.toNat (by omega) (by omega)).2; rw [o, show ((y.toNat : Nat) : Int) = y by omega]))

set_option maxHeartbeats 400000 in
set_option maxRecDepth 4000 in
theorem ok_X7_endOf {l : Launch} {D : va_G} {cy : Nat → ClassId} {z : Nat} {M : Mm} {K : Option Value → Mm → Prop} {u N P A tx fr tl : Nat → Int} (hM : ModAt cy z M u N P A tx fr tl) {S : SD} (hRw : RowOf N S) (hB : SB S) (hJ : IS S) {i : Nat} (hi : i < sN S) (hK : K (some (iv (RF S i 1))) M) :
    MT l D cy z false yX7_endOf (wsy yX7_endOf cX7_endOf 2 (some .int)) 4 90 0 0 M [.ref (z + 331), iv (i : Int)] K := by
  refine MT_of (by decide) w_995 (Nat.le_of_ble_eq_true rfl) ?_
  intro p e s m args below meth c C hr hx0
  have hM9 := hM
  obtain ⟨gn, g0, g1, g2, g3, g4, g5, g6⟩ := id hM
  have hB9 := hB
  have hr9 := hRw
  have hJ9 := hJ
  obtain ⟨e0, e1, e2, eH, eh, e9, e10, e11, e12, e13, e14, e15, eR⟩ := id hRw
  obtain ⟨d0, d1, d2, d4, d5, d6, dH, dR⟩ := id hB
  have dT := hJ.2.1
  have rt := eR i hi
  obtain ⟨w0, w1, w2, w3, w4, w5, w6, w7⟩ := id rt
  have ri := hJ.2.2 i hi
  have hi10 : i < 10 := by omega
  have rb := dR i hi10
  obtain ⟨b0, b1, b2, b3, b4⟩ := id rb
  have ri0 := ri.1
  have ri1 := ri.2.1
  refine V_aload_n C dX7_endOf_0 rfl ?_
  refine V_iload_n C dX7_endOf_1 rfl ?_
  refine V_iconst C dX7_endOf_2 ?_
  refine V_callV (fr := 1) (lo := 20) (mc := 0) (ms := 0) (As := [_, _]) C yvX7_of w_940 dX7_endOf_3 rfl rfl (by repeat (first | with_reducible assumption | with_reducible exact mset_self _ _ _ | refine (mset_ne (by omega)).trans ?_)) (by (try simp only [mset_1]); omega) rfl rfl (Nat.le_of_ble_eq_true rfl) ⟨Nat.le_of_ble_eq_true rfl, Nat.le_of_ble_eq_true rfl⟩ ⟨Nat.le_of_ble_eq_true rfl, Nat.le_of_ble_eq_true rfl⟩ ?_
  refine ok_X7_of hM9 (j := 16 + 35 * i) (by omega) (by omega) (by omega) w0 ?_
  refine V_sipush C dX7_endOf_6 (by decide) ?_
  refine V_callS (fr := 3) (lo := 64) (mc := 0) (ms := 0) (As := [_, _]) C ysX7_behind w_886 dX7_endOf_9 rfl rfl (Nat.le_of_ble_eq_true rfl) ⟨Nat.le_of_ble_eq_true rfl, Nat.le_of_ble_eq_true rfl⟩ ⟨Nat.le_of_ble_eq_true rfl, Nat.le_of_ble_eq_true rfl⟩ ?_
  refine ok_X7_behind (by omega) (by omega) ?_
  refine V_iconst C dX7_endOf_12 ?_
  refine V_isub C dX7_endOf_13 ?_
  exact V_iret C hr dX7_endOf_14 (K_of hK ri.2.2.1.symm)

set_option maxHeartbeats 400000 in
set_option maxRecDepth 4000 in
theorem ok_X7_nextOf {l : Launch} {D : va_G} {cy : Nat → ClassId} {z : Nat} {M : Mm} {K : Option Value → Mm → Prop} {u N P A tx fr tl : Nat → Int} (hM : ModAt cy z M u N P A tx fr tl) {S : SD} (hRw : RowOf N S) (hB : SB S) (hJ : IS S) {i : Nat} (hi : i < sN S) (hK : K (some (iv (nxt (RF S i)))) M) :
    MT l D cy z false yX7_nextOf (wsy yX7_nextOf cX7_nextOf 2 (some .int)) 2 42 0 0 M [.ref (z + 331), iv (i : Int)] K := by
  refine MT_of (by decide) w_939 (Nat.le_of_ble_eq_true rfl) ?_
  intro p e s m args below meth c C hr hx0
  have hM9 := hM
  obtain ⟨gn, g0, g1, g2, g3, g4, g5, g6⟩ := id hM
  have hB9 := hB
  have hr9 := hRw
  have hJ9 := hJ
  obtain ⟨e0, e1, e2, eH, eh, e9, e10, e11, e12, e13, e14, e15, eR⟩ := id hRw
  obtain ⟨d0, d1, d2, d4, d5, d6, dH, dR⟩ := id hB
  have dT := hJ.2.1
  have rt := eR i hi
  obtain ⟨w0, w1, w2, w3, w4, w5, w6, w7⟩ := id rt
  have ri := hJ.2.2 i hi
  have hi10 : i < 10 := by omega
  have rb := dR i hi10
  obtain ⟨b0, b1, b2, b3, b4⟩ := id rb
  have ri0 := ri.1
  have ri1 := ri.2.1
  refine V_aload_n C dX7_nextOf_0 rfl ?_
  refine V_iload_n C dX7_nextOf_1 rfl ?_
  refine V_iconst C dX7_nextOf_2 ?_
  refine V_callV (fr := 1) (lo := 20) (mc := 0) (ms := 0) (As := [_, _]) C yvX7_of w_940 dX7_nextOf_3 rfl rfl (by repeat (first | with_reducible assumption | with_reducible exact mset_self _ _ _ | refine (mset_ne (by omega)).trans ?_)) (by (try simp only [mset_1]); omega) rfl rfl (Nat.le_of_ble_eq_true rfl) ⟨Nat.le_of_ble_eq_true rfl, Nat.le_of_ble_eq_true rfl⟩ ⟨Nat.le_of_ble_eq_true rfl, Nat.le_of_ble_eq_true rfl⟩ ?_
  refine ok_X7_of hM9 (j := 16 + 35 * i + 2) (by omega) (by omega) (by omega) w2 ?_
  refine V_bipush C dX7_nextOf_6 (by decide) ?_
  refine V_icmp_ne C dX7_nextOf_8 (tgt := 15) (by decide) (by omega) (by omega) (fun g8 => ?_) (fun g8 => ?_)
  · refine V_aload_n C dX7_nextOf_15 rfl ?_
    refine V_iload_n C dX7_nextOf_16 rfl ?_
    refine V_iconst C dX7_nextOf_17 ?_
    refine V_callV (fr := 1) (lo := 20) (mc := 0) (ms := 0) (As := [_, _]) C yvX7_of w_940 dX7_nextOf_18 rfl rfl (by repeat (first | with_reducible assumption | with_reducible exact mset_self _ _ _ | refine (mset_ne (by omega)).trans ?_)) (by (try simp only [mset_1]); omega) rfl rfl (Nat.le_of_ble_eq_true rfl) ⟨Nat.le_of_ble_eq_true rfl, Nat.le_of_ble_eq_true rfl⟩ ⟨Nat.le_of_ble_eq_true rfl, Nat.le_of_ble_eq_true rfl⟩ ?_
    refine ok_X7_of hM9 (j := 16 + 35 * i + 2) (by omega) (by omega) (by omega) w2 ?_
    refine V_iconst C dX7_nextOf_21 ?_
    refine V_iadd C dX7_nextOf_22 ?_
    exact V_iret C hr dX7_nextOf_23 (K_of hK (by unfold nxt; omega))
  · refine V_iconst C dX7_nextOf_11 ?_
    refine V_goto C dX7_nextOf_12 (tgt := 23) (by decide) ?_
    exact V_iret C hr dX7_nextOf_23 (K_of hK (by unfold nxt; omega))

set_option maxHeartbeats 400000 in
set_option maxRecDepth 4000 in
theorem ok_X7_isLapsed {l : Launch} {D : va_G} {cy : Nat → ClassId} {z : Nat} {M : Mm} {K : Option Value → Mm → Prop} {u N P A tx fr tl : Nat → Int} (hM : ModAt cy z M u N P A tx fr tl) {S : SD} (hRw : RowOf N S) (hB : SB S) (hJ : IS S) {i : Nat} (hi : i < sN S) (hT : lapR (RF S i) (RA S i) (sc S 0) → K (some (iv 1)) M) (hF : ¬ lapR (RF S i) (RA S i) (sc S 0) → K (some (iv 0)) M) :
    MT l D cy z false yX7_isLapsed (wsy yX7_isLapsed cX7_isLapsed 2 (some .boolean)) 5 112 0 0 M [.ref (z + 331), iv (i : Int)] K := by
  refine MT_of (by decide) w_935 (Nat.le_of_ble_eq_true rfl) ?_
  intro p e s m args below meth c C hr hx0
  have hM9 := hM
  obtain ⟨gn, g0, g1, g2, g3, g4, g5, g6⟩ := id hM
  have hB9 := hB
  have hr9 := hRw
  have hJ9 := hJ
  obtain ⟨e0, e1, e2, eH, eh, e9, e10, e11, e12, e13, e14, e15, eR⟩ := id hRw
  obtain ⟨d0, d1, d2, d4, d5, d6, dH, dR⟩ := id hB
  have dT := hJ.2.1
  have rt := eR i hi
  obtain ⟨w0, w1, w2, w3, w4, w5, w6, w7⟩ := id rt
  have ri := hJ.2.2 i hi
  have hi10 : i < 10 := by omega
  have rb := dR i hi10
  obtain ⟨b0, b1, b2, b3, b4⟩ := id rb
  have ri0 := ri.1
  have ri1 := ri.2.1
  have nx := nxt_rng (F := RF S i) b3
  have yr9 := yv_rng (g := RA S i 1) (e := -1) (y := RF S i 3 + 1) (b4 1) (by omega)
  refine V_aload_n C dX7_isLapsed_0 rfl ?_
  refine V_iload_n C dX7_isLapsed_1 rfl ?_
  refine V_callV (fr := 2) (lo := 42) (mc := 0) (ms := 0) (As := [_]) C yvX7_nextOf w_936 dX7_isLapsed_2 rfl rfl (by repeat (first | with_reducible assumption | with_reducible exact mset_self _ _ _ | refine (mset_ne (by omega)).trans ?_)) (by (try simp only [mset_1]); omega) rfl rfl (Nat.le_of_ble_eq_true rfl) ⟨Nat.le_of_ble_eq_true rfl, Nat.le_of_ble_eq_true rfl⟩ ⟨Nat.le_of_ble_eq_true rfl, Nat.le_of_ble_eq_true rfl⟩ ?_
  refine ok_X7_nextOf hM9 hr9 hB9 hJ9 hi ?_
  refine V_iconst C dX7_isLapsed_5 ?_
  refine V_icmp_eq C dX7_isLapsed_6 (tgt := 32) (by decide) (by omega) (by omega) (fun g6 => ?_) (fun g6 => ?_)
  · refine V_iconst C dX7_isLapsed_32 ?_
    exact V_zret C hr (by omega) dX7_isLapsed_33 (hF (fun o => by have o1 := o.1; omega))
  · have en : nxt (RF S i) = RF S i 3 + 1 := by omega
    refine V_aload_n C dX7_isLapsed_9 rfl ?_
    refine V_get C fg_X7_7 dX7_isLapsed_10 (by repeat (first | with_reducible assumption | with_reducible exact mset_self _ _ _ | refine (mset_ne (by omega)).trans ?_)) (by (try simp only [mset_1]); omega) (by rfl) ?_
    refine V_iconst C dX7_isLapsed_13 ?_
    refine V_iald C dX7_isLapsed_14 (by repeat (first | with_reducible assumption | with_reducible exact mset_self _ _ _ | refine (mset_ne (by omega)).trans ?_)) (by (try simp only [mset_1]); omega) (by omega) (by omega) (show ((0 : Int)).toNat = 0 from rfl) ?_
    refine V_aload_n C dX7_isLapsed_15 rfl ?_
    refine V_iload_n C dX7_isLapsed_16 rfl ?_
    refine V_aload_n C dX7_isLapsed_17 rfl ?_
    refine V_iload_n C dX7_isLapsed_18 rfl ?_
    refine V_callV (fr := 2) (lo := 42) (mc := 0) (ms := 0) (As := [_]) C yvX7_nextOf w_936 dX7_isLapsed_19 rfl rfl (by repeat (first | with_reducible assumption | with_reducible exact mset_self _ _ _ | refine (mset_ne (by omega)).trans ?_)) (by (try simp only [mset_1]); omega) rfl rfl (Nat.le_of_ble_eq_true rfl) ⟨Nat.le_of_ble_eq_true rfl, Nat.le_of_ble_eq_true rfl⟩ ⟨Nat.le_of_ble_eq_true rfl, Nat.le_of_ble_eq_true rfl⟩ ?_
    refine ok_X7_nextOf hM9 hr9 hB9 hJ9 hi ?_
    rw [en]
    refine V_callV (fr := 4) (lo := 90) (mc := 0) (ms := 0) (As := [_, _]) C yvX7_graceOf w_944 dX7_isLapsed_22 rfl rfl (by repeat (first | with_reducible assumption | with_reducible exact mset_self _ _ _ | refine (mset_ne (by omega)).trans ?_)) (by (try simp only [mset_1]); omega) rfl rfl (Nat.le_of_ble_eq_true rfl) ⟨Nat.le_of_ble_eq_true rfl, Nat.le_of_ble_eq_true rfl⟩ ⟨Nat.le_of_ble_eq_true rfl, Nat.le_of_ble_eq_true rfl⟩ ?_
    refine ok_X7_graceOf hM9 hr9 hB9 hJ9 hi (by omega) ?_
    refine V_icmp_le C dX7_isLapsed_25 (tgt := 32) (by decide) (by omega) (by omega) (fun g25 => ?_) (fun g25 => ?_)
    · refine V_iconst C dX7_isLapsed_32 ?_
      exact V_zret C hr (by omega) dX7_isLapsed_33 (hF (fun o => by have o1 := o.2; omega))
    · refine V_iconst C dX7_isLapsed_28 ?_
      refine V_goto C dX7_isLapsed_29 (tgt := 33) (by decide) ?_
      exact V_zret C hr (by omega) dX7_isLapsed_33 (hT ⟨by omega, by omega⟩)

set_option maxHeartbeats 400000 in
set_option maxRecDepth 4000 in
theorem ok_X7_stands {l : Launch} {D : va_G} {cy : Nat → ClassId} {z : Nat} {M : Mm} {K : Option Value → Mm → Prop} {u N P A tx fr tl : Nat → Int} (hM : ModAt cy z M u N P A tx fr tl) {S : SD} (hRw : RowOf N S) (hB : SB S) (hJ : IS S) {i : Nat} (hi : i < sN S) (hT : stoodR (RF S i) (RA S i) (sc S 0) (sc S 0) → K (some (iv 1)) M) (hF : ¬ stoodR (RF S i) (RA S i) (sc S 0) (sc S 0) → K (some (iv 0)) M) :
    MT l D cy z false yX7_stands (wsy yX7_stands cX7_stands 2 (some .boolean)) 6 133 0 0 M [.ref (z + 331), iv (i : Int)] K := by
  refine MT_of (by decide) w_1006 (Nat.le_of_ble_eq_true rfl) ?_
  intro p e s m args below meth c C hr hx0
  have hM9 := hM
  obtain ⟨gn, g0, g1, g2, g3, g4, g5, g6⟩ := id hM
  have hB9 := hB
  have hr9 := hRw
  have hJ9 := hJ
  obtain ⟨e0, e1, e2, eH, eh, e9, e10, e11, e12, e13, e14, e15, eR⟩ := id hRw
  obtain ⟨d0, d1, d2, d4, d5, d6, dH, dR⟩ := id hB
  have dT := hJ.2.1
  have rt := eR i hi
  obtain ⟨w0, w1, w2, w3, w4, w5, w6, w7⟩ := id rt
  have ri := hJ.2.2 i hi
  have hi10 : i < 10 := by omega
  have rb := dR i hi10
  obtain ⟨b0, b1, b2, b3, b4⟩ := id rb
  have ri0 := ri.1
  have ri1 := ri.2.1
  have st9 := RI.stands ri d2 b3
  refine V_aload_n C dX7_stands_0 rfl ?_
  refine V_iload_n C dX7_stands_1 rfl ?_
  refine V_callV (fr := 5) (lo := 112) (mc := 0) (ms := 0) (As := [_]) C yvX7_isLapsed w_932 dX7_stands_2 rfl rfl (by repeat (first | with_reducible assumption | with_reducible exact mset_self _ _ _ | refine (mset_ne (by omega)).trans ?_)) (by (try simp only [mset_1]); omega) rfl rfl (Nat.le_of_ble_eq_true rfl) ⟨Nat.le_of_ble_eq_true rfl, Nat.le_of_ble_eq_true rfl⟩ ⟨Nat.le_of_ble_eq_true rfl, Nat.le_of_ble_eq_true rfl⟩ ?_
  refine ok_X7_isLapsed hM9 hr9 hB9 hJ9 hi (fun hl => ?_) (fun hl => ?_)
  · refine V_ifne1 C dX7_stands_5 (tgt := 35) (by decide) ?_
    refine V_iconst C dX7_stands_35 ?_
    exact V_zret C hr (by omega) dX7_stands_36 (hF (fun o => (st9.mp o).2 hl))
  · refine V_ifne0 C dX7_stands_5 (tgt := 35) (by decide) ?_
    refine V_aload_n C dX7_stands_8 rfl ?_
    refine V_get C fg_X7_7 dX7_stands_9 (by repeat (first | with_reducible assumption | with_reducible exact mset_self _ _ _ | refine (mset_ne (by omega)).trans ?_)) (by (try simp only [mset_1]); omega) (by rfl) ?_
    refine V_iconst C dX7_stands_12 ?_
    refine V_iald C dX7_stands_13 (by repeat (first | with_reducible assumption | with_reducible exact mset_self _ _ _ | refine (mset_ne (by omega)).trans ?_)) (by (try simp only [mset_1]); omega) (by omega) (by omega) (show ((0 : Int)).toNat = 0 from rfl) ?_
    refine V_aload_n C dX7_stands_14 rfl ?_
    refine V_iload_n C dX7_stands_15 rfl ?_
    refine V_iconst C dX7_stands_16 ?_
    refine V_callV (fr := 1) (lo := 20) (mc := 0) (ms := 0) (As := [_, _]) C yvX7_of w_940 dX7_stands_17 rfl rfl (by repeat (first | with_reducible assumption | with_reducible exact mset_self _ _ _ | refine (mset_ne (by omega)).trans ?_)) (by (try simp only [mset_1]); omega) rfl rfl (Nat.le_of_ble_eq_true rfl) ⟨Nat.le_of_ble_eq_true rfl, Nat.le_of_ble_eq_true rfl⟩ ⟨Nat.le_of_ble_eq_true rfl, Nat.le_of_ble_eq_true rfl⟩ ?_
    refine ok_X7_of hM9 (j := 16 + 35 * i) (by omega) (by omega) (by omega) w0 ?_
    refine V_aload_n C dX7_stands_20 rfl ?_
    refine V_iload_n C dX7_stands_21 rfl ?_
    refine V_callV (fr := 4) (lo := 90) (mc := 0) (ms := 0) (As := [_]) C yvX7_endOf w_992 dX7_stands_22 rfl rfl (by repeat (first | with_reducible assumption | with_reducible exact mset_self _ _ _ | refine (mset_ne (by omega)).trans ?_)) (by (try simp only [mset_1]); omega) rfl rfl (Nat.le_of_ble_eq_true rfl) ⟨Nat.le_of_ble_eq_true rfl, Nat.le_of_ble_eq_true rfl⟩ ⟨Nat.le_of_ble_eq_true rfl, Nat.le_of_ble_eq_true rfl⟩ ?_
    refine ok_X7_endOf hM9 hr9 hB9 hJ9 hi ?_
    refine V_callS (fr := 0) (lo := 0) (mc := 0) (ms := 0) (As := [_, _, _]) C ysX7_in w_863 dX7_stands_25 rfl rfl (Nat.le_of_ble_eq_true rfl) ⟨Nat.le_of_ble_eq_true rfl, Nat.le_of_ble_eq_true rfl⟩ ⟨Nat.le_of_ble_eq_true rfl, Nat.le_of_ble_eq_true rfl⟩ ?_
    refine ok_X7_in (by omega) (by omega) (by omega) (fun hw => ?_) (fun hw => ?_)
    · refine V_ifeq1 C dX7_stands_28 (tgt := 35) (by decide) ?_
      refine V_iconst C dX7_stands_31 ?_
      refine V_goto C dX7_stands_32 (tgt := 36) (by decide) ?_
      exact V_zret C hr (by omega) dX7_stands_36 (hT (st9.mpr ⟨by omega, hl⟩))
    · refine V_ifeq0 C dX7_stands_28 (tgt := 35) (by decide) ?_
      refine V_iconst C dX7_stands_35 ?_
      exact V_zret C hr (by omega) dX7_stands_36 (hF (fun o => hw (by have o1 := (st9.mp o).1; omega)))

set_option maxHeartbeats 400000 in
set_option maxRecDepth 4000 in
theorem ok_X7_lapsedOnes {l : Launch} {D : va_G} {cy : Nat → ClassId} {z : Nat} {M : Mm} {K : Option Value → Mm → Prop} {u N P A tx fr tl : Nat → Int} (hM : ModAt cy z M u N P A tx fr tl) {S : SD} (hRw : RowOf N S) (hB : SB S) (hJ : IS S) (hK : K (some (iv ((cntN (fun i => lapB (RF S i) (RA S i) (sc S 0)) (sN S) : Nat) : Int))) M) :
    MT l D cy z false yX7_lapsedOnes (wsy yX7_lapsedOnes cX7_lapsedOnes 3 (some .int)) 6 133 0 0 M [.ref (z + 331)] K := by
  refine MT_of (by decide) w_931 (Nat.le_of_ble_eq_true rfl) ?_
  intro p e s m args below meth c C hr hx0
  have hM9 := hM
  obtain ⟨gn, g0, g1, g2, g3, g4, g5, g6⟩ := id hM
  have hB9 := hB
  have hr9 := hRw
  have hJ9 := hJ
  obtain ⟨e0, e1, e2, eH, eh, e9, e10, e11, e12, e13, e14, e15, eR⟩ := id hRw
  obtain ⟨d0, d1, d2, d4, d5, d6, dH, dR⟩ := id hB
  have dT := hJ.2.1
  have loop : ∀ (n : Nat) (i : Nat), (i ≤ sN S) → 10 - i < n → V p l e { frames := 6, cells := 0, slots := 0, locals := 133 } s m args below meth c D z 3 (MQ below (qc_ D z K) args s 0 0 (fun q => z ≤ q)) 0 0 M 4 [(0, .ref (z + 331)), (1, iv (((cntN (fun i => lapB (RF S i) (RA S i) (sc S 0)) i : Nat) : Int))), (2, iv ((i : Int)))] [] := by
    intro n
    induction n with
    | zero => intro i hi0 hfu; exact absurd hfu (Nat.not_lt_zero _)
    | succ n ih =>
      intro i hi0 hfu
      refine V_iload_n C dX7_lapsedOnes_4 rfl ?_
      refine V_aload_n C dX7_lapsedOnes_5 rfl ?_
      refine V_get C fg_X7_7 dX7_lapsedOnes_6 (by repeat (first | with_reducible assumption | with_reducible exact mset_self _ _ _ | refine (mset_ne (by omega)).trans ?_)) (by (try simp only [mset_1]); omega) (by rfl) ?_
      refine V_iconst C dX7_lapsedOnes_9 ?_
      refine V_iald C dX7_lapsedOnes_10 (by repeat (first | with_reducible assumption | with_reducible exact mset_self _ _ _ | refine (mset_ne (by omega)).trans ?_)) (by (try simp only [mset_1]); omega) (by omega) (by omega) (show ((1 : Int)).toNat = 1 from rfl) ?_
      rw [e1]
      refine V_icmp_ge C dX7_lapsedOnes_11 (tgt := 36) (by decide) (by omega) (by omega) (fun g11 => ?_) (fun g11 => ?_)
      · refine V_iload_n C dX7_lapsedOnes_36 rfl ?_
        exact V_iret C hr dX7_lapsedOnes_37 (K_of hK (by rw [show sN S = i by omega]))
      · have hi : i < sN S := by omega
        refine V_iload_n C dX7_lapsedOnes_14 rfl ?_
        refine V_aload_n C dX7_lapsedOnes_15 rfl ?_
        refine V_iload_n C dX7_lapsedOnes_16 rfl ?_
        refine V_callV (fr := 5) (lo := 112) (mc := 0) (ms := 0) (As := [_]) C yvX7_isLapsed w_932 dX7_lapsedOnes_17 rfl rfl (by repeat (first | with_reducible assumption | with_reducible exact mset_self _ _ _ | refine (mset_ne (by omega)).trans ?_)) (by (try simp only [mset_1]); omega) rfl rfl (Nat.le_of_ble_eq_true rfl) ⟨Nat.le_of_ble_eq_true rfl, Nat.le_of_ble_eq_true rfl⟩ ⟨Nat.le_of_ble_eq_true rfl, Nat.le_of_ble_eq_true rfl⟩ ?_
        refine ok_X7_isLapsed hM9 hr9 hB9 hJ9 hi (fun hl => ?_) (fun hl => ?_)
        · refine V_ifeq1 C dX7_lapsedOnes_20 (tgt := 27) (by decide) ?_
          refine V_iconst C dX7_lapsedOnes_23 ?_
          refine V_goto C dX7_lapsedOnes_24 (tgt := 28) (by decide) ?_
          refine V_iadd C dX7_lapsedOnes_28 ?_
          refine V_istore_n C dX7_lapsedOnes_29 (by decide) ?_
          refine V_iinc C dX7_lapsedOnes_30 rfl (by decide) ?_
          refine V_goto C dX7_lapsedOnes_33 (tgt := 4) (by decide) ?_
          refine V_lv [(0, .ref (z + 331)), (1, iv (((cntN (fun i => lapB (RF S i) (RA S i) (sc S 0)) (i + 1) : Nat) : Int))), (2, iv (((i + 1 : Nat) : Int)))] (List.forall_mem_cons.mpr ⟨(by first | rfl | exact congrArg (fun t => some (iv t)) (by have e8 := cntN_t (p := (fun i => lapB (RF S i) (RA S i) (sc S 0))) (n := i) (lapB_t hl); push_cast; omega)), (List.forall_mem_cons.mpr ⟨(by first | rfl | exact congrArg (fun t => some (iv t)) (by have e8 := cntN_t (p := (fun i => lapB (RF S i) (RA S i) (sc S 0))) (n := i) (lapB_t hl); push_cast; omega)), (List.forall_mem_cons.mpr ⟨(by first | rfl | exact congrArg (fun t => some (iv t)) (by have e8 := cntN_t (p := (fun i => lapB (RF S i) (RA S i) (sc S 0))) (n := i) (lapB_t hl); push_cast; omega)), (fun _ h => nomatch h)⟩)⟩)⟩) ?_
          exact ih (i + 1) (by omega) (by omega)
        · refine V_ifeq0 C dX7_lapsedOnes_20 (tgt := 27) (by decide) ?_
          refine V_iconst C dX7_lapsedOnes_27 ?_
          refine V_iadd C dX7_lapsedOnes_28 ?_
          refine V_istore_n C dX7_lapsedOnes_29 (by decide) ?_
          refine V_iinc C dX7_lapsedOnes_30 rfl (by decide) ?_
          refine V_goto C dX7_lapsedOnes_33 (tgt := 4) (by decide) ?_
          refine V_lv [(0, .ref (z + 331)), (1, iv (((cntN (fun i => lapB (RF S i) (RA S i) (sc S 0)) (i + 1) : Nat) : Int))), (2, iv (((i + 1 : Nat) : Int)))] (List.forall_mem_cons.mpr ⟨(by first | rfl | exact congrArg (fun t => some (iv t)) (by have e8 := cntN_f (p := (fun i => lapB (RF S i) (RA S i) (sc S 0))) (n := i) (lapB_f hl); push_cast; omega)), (List.forall_mem_cons.mpr ⟨(by first | rfl | exact congrArg (fun t => some (iv t)) (by have e8 := cntN_f (p := (fun i => lapB (RF S i) (RA S i) (sc S 0))) (n := i) (lapB_f hl); push_cast; omega)), (List.forall_mem_cons.mpr ⟨(by first | rfl | exact congrArg (fun t => some (iv t)) (by have e8 := cntN_f (p := (fun i => lapB (RF S i) (RA S i) (sc S 0))) (n := i) (lapB_f hl); push_cast; omega)), (fun _ h => nomatch h)⟩)⟩)⟩) ?_
          exact ih (i + 1) (by omega) (by omega)
  refine V_iconst C dX7_lapsedOnes_0 ?_
  refine V_istore_n C dX7_lapsedOnes_1 (by decide) ?_
  refine V_iconst C dX7_lapsedOnes_2 ?_
  refine V_istore_n C dX7_lapsedOnes_3 (by decide) ?_
  refine V_lv [(0, .ref (z + 331)), (1, iv (((cntN (fun i => lapB (RF S i) (RA S i) (sc S 0)) 0 : Nat) : Int))), (2, iv (((0 : Nat) : Int)))] (List.forall_mem_cons.mpr ⟨(by first | rfl | exact congrArg (fun t => some (iv t)) (by omega)), (List.forall_mem_cons.mpr ⟨(by first | rfl | exact congrArg (fun t => some (iv t)) (by omega)), (List.forall_mem_cons.mpr ⟨(by first | rfl | exact congrArg (fun t => some (iv t)) (by omega)), (fun _ h => nomatch h)⟩)⟩)⟩) ?_
  exact loop 11 0 (by omega) (by omega)

set_option maxHeartbeats 400000 in
set_option maxRecDepth 4000 in
theorem ok_X7_standing {l : Launch} {D : va_G} {cy : Nat → ClassId} {z : Nat} {M : Mm} {K : Option Value → Mm → Prop} {u N P A tx fr tl : Nat → Int} (hM : ModAt cy z M u N P A tx fr tl) {S : SD} (hRw : RowOf N S) (hB : SB S) (hJ : IS S) (hK : K (some (iv ((cntN (fun i => stB (RF S i) (RA S i) (sc S 0) (sc S 0)) (sN S) : Nat) : Int))) M) :
    MT l D cy z false yX7_standing (wsy yX7_standing cX7_standing 3 (some .int)) 7 154 0 0 M [.ref (z + 331)] K := by
  refine MT_of (by decide) w_1073 (Nat.le_of_ble_eq_true rfl) ?_
  intro p e s m args below meth c C hr hx0
  have hM9 := hM
  obtain ⟨gn, g0, g1, g2, g3, g4, g5, g6⟩ := id hM
  have hB9 := hB
  have hr9 := hRw
  have hJ9 := hJ
  obtain ⟨e0, e1, e2, eH, eh, e9, e10, e11, e12, e13, e14, e15, eR⟩ := id hRw
  obtain ⟨d0, d1, d2, d4, d5, d6, dH, dR⟩ := id hB
  have dT := hJ.2.1
  have loop : ∀ (n : Nat) (i : Nat), (i ≤ sN S) → 10 - i < n → V p l e { frames := 7, cells := 0, slots := 0, locals := 154 } s m args below meth c D z 3 (MQ below (qc_ D z K) args s 0 0 (fun q => z ≤ q)) 0 0 M 4 [(0, .ref (z + 331)), (1, iv (((cntN (fun i => stB (RF S i) (RA S i) (sc S 0) (sc S 0)) i : Nat) : Int))), (2, iv ((i : Int)))] [] := by
    intro n
    induction n with
    | zero => intro i hi0 hfu; exact absurd hfu (Nat.not_lt_zero _)
    | succ n ih =>
      intro i hi0 hfu
      refine V_iload_n C dX7_standing_4 rfl ?_
      refine V_aload_n C dX7_standing_5 rfl ?_
      refine V_get C fg_X7_7 dX7_standing_6 (by repeat (first | with_reducible assumption | with_reducible exact mset_self _ _ _ | refine (mset_ne (by omega)).trans ?_)) (by (try simp only [mset_1]); omega) (by rfl) ?_
      refine V_iconst C dX7_standing_9 ?_
      refine V_iald C dX7_standing_10 (by repeat (first | with_reducible assumption | with_reducible exact mset_self _ _ _ | refine (mset_ne (by omega)).trans ?_)) (by (try simp only [mset_1]); omega) (by omega) (by omega) (show ((1 : Int)).toNat = 1 from rfl) ?_
      rw [e1]
      refine V_icmp_ge C dX7_standing_11 (tgt := 36) (by decide) (by omega) (by omega) (fun g11 => ?_) (fun g11 => ?_)
      · refine V_iload_n C dX7_standing_36 rfl ?_
        exact V_iret C hr dX7_standing_37 (K_of hK (by rw [show sN S = i by omega]))
      · have hi : i < sN S := by omega
        refine V_iload_n C dX7_standing_14 rfl ?_
        refine V_aload_n C dX7_standing_15 rfl ?_
        refine V_iload_n C dX7_standing_16 rfl ?_
        refine V_callV (fr := 6) (lo := 133) (mc := 0) (ms := 0) (As := [_]) C yvX7_stands w_1003 dX7_standing_17 rfl rfl (by repeat (first | with_reducible assumption | with_reducible exact mset_self _ _ _ | refine (mset_ne (by omega)).trans ?_)) (by (try simp only [mset_1]); omega) rfl rfl (Nat.le_of_ble_eq_true rfl) ⟨Nat.le_of_ble_eq_true rfl, Nat.le_of_ble_eq_true rfl⟩ ⟨Nat.le_of_ble_eq_true rfl, Nat.le_of_ble_eq_true rfl⟩ ?_
        refine ok_X7_stands hM9 hr9 hB9 hJ9 hi (fun hl => ?_) (fun hl => ?_)
        · refine V_ifeq1 C dX7_standing_20 (tgt := 27) (by decide) ?_
          refine V_iconst C dX7_standing_23 ?_
          refine V_goto C dX7_standing_24 (tgt := 28) (by decide) ?_
          refine V_iadd C dX7_standing_28 ?_
          refine V_istore_n C dX7_standing_29 (by decide) ?_
          refine V_iinc C dX7_standing_30 rfl (by decide) ?_
          refine V_goto C dX7_standing_33 (tgt := 4) (by decide) ?_
          refine V_lv [(0, .ref (z + 331)), (1, iv (((cntN (fun i => stB (RF S i) (RA S i) (sc S 0) (sc S 0)) (i + 1) : Nat) : Int))), (2, iv (((i + 1 : Nat) : Int)))] (List.forall_mem_cons.mpr ⟨(by first | rfl | exact congrArg (fun t => some (iv t)) (by have e8 := cntN_t (p := (fun i => stB (RF S i) (RA S i) (sc S 0) (sc S 0))) (n := i) (stB_t hl); push_cast; omega)), (List.forall_mem_cons.mpr ⟨(by first | rfl | exact congrArg (fun t => some (iv t)) (by have e8 := cntN_t (p := (fun i => stB (RF S i) (RA S i) (sc S 0) (sc S 0))) (n := i) (stB_t hl); push_cast; omega)), (List.forall_mem_cons.mpr ⟨(by first | rfl | exact congrArg (fun t => some (iv t)) (by have e8 := cntN_t (p := (fun i => stB (RF S i) (RA S i) (sc S 0) (sc S 0))) (n := i) (stB_t hl); push_cast; omega)), (fun _ h => nomatch h)⟩)⟩)⟩) ?_
          exact ih (i + 1) (by omega) (by omega)
        · refine V_ifeq0 C dX7_standing_20 (tgt := 27) (by decide) ?_
          refine V_iconst C dX7_standing_27 ?_
          refine V_iadd C dX7_standing_28 ?_
          refine V_istore_n C dX7_standing_29 (by decide) ?_
          refine V_iinc C dX7_standing_30 rfl (by decide) ?_
          refine V_goto C dX7_standing_33 (tgt := 4) (by decide) ?_
          refine V_lv [(0, .ref (z + 331)), (1, iv (((cntN (fun i => stB (RF S i) (RA S i) (sc S 0) (sc S 0)) (i + 1) : Nat) : Int))), (2, iv (((i + 1 : Nat) : Int)))] (List.forall_mem_cons.mpr ⟨(by first | rfl | exact congrArg (fun t => some (iv t)) (by have e8 := cntN_f (p := (fun i => stB (RF S i) (RA S i) (sc S 0) (sc S 0))) (n := i) (stB_f hl); push_cast; omega)), (List.forall_mem_cons.mpr ⟨(by first | rfl | exact congrArg (fun t => some (iv t)) (by have e8 := cntN_f (p := (fun i => stB (RF S i) (RA S i) (sc S 0) (sc S 0))) (n := i) (stB_f hl); push_cast; omega)), (List.forall_mem_cons.mpr ⟨(by first | rfl | exact congrArg (fun t => some (iv t)) (by have e8 := cntN_f (p := (fun i => stB (RF S i) (RA S i) (sc S 0) (sc S 0))) (n := i) (stB_f hl); push_cast; omega)), (fun _ h => nomatch h)⟩)⟩)⟩) ?_
          exact ih (i + 1) (by omega) (by omega)
  refine V_iconst C dX7_standing_0 ?_
  refine V_istore_n C dX7_standing_1 (by decide) ?_
  refine V_iconst C dX7_standing_2 ?_
  refine V_istore_n C dX7_standing_3 (by decide) ?_
  refine V_lv [(0, .ref (z + 331)), (1, iv (((cntN (fun i => stB (RF S i) (RA S i) (sc S 0) (sc S 0)) 0 : Nat) : Int))), (2, iv (((0 : Nat) : Int)))] (List.forall_mem_cons.mpr ⟨(by first | rfl | exact congrArg (fun t => some (iv t)) (by omega)), (List.forall_mem_cons.mpr ⟨(by first | rfl | exact congrArg (fun t => some (iv t)) (by omega)), (List.forall_mem_cons.mpr ⟨(by first | rfl | exact congrArg (fun t => some (iv t)) (by omega)), (fun _ h => nomatch h)⟩)⟩)⟩) ?_
  exact loop 11 0 (by omega) (by omega)

set_option maxHeartbeats 400000 in
set_option maxRecDepth 4000 in
theorem ok_X7_feeOf {l : Launch} {D : va_G} {cy : Nat → ClassId} {z : Nat} {M : Mm} {K : Option Value → Mm → Prop} {u N P A tx fr tl : Nat → Int} (hM : ModAt cy z M u N P A tx fr tl) {S : SD} (hRw : RowOf N S) (hB : SB S) (hJ : IS S) {i : Nat} (hi : i < sN S) {y : Int} (hy : 1 ≤ y ∧ y ≤ 19) (hK : K (some (iv (feeT S i y))) M) :
    MT l D cy z false yX7_feeOf (wsy yX7_feeOf cX7_feeOf 4 (some .int)) 2 42 0 0 M [.ref (z + 331), iv (i : Int), iv y] K := by
  refine MT_of (by decide) w_975 (Nat.le_of_ble_eq_true rfl) ?_
  intro p e s m args below meth c C hr hx0
  have hM9 := hM
  obtain ⟨gn, g0, g1, g2, g3, g4, g5, g6⟩ := id hM
  have hB9 := hB
  have hr9 := hRw
  have hJ9 := hJ
  obtain ⟨e0, e1, e2, eH, eh, e9, e10, e11, e12, e13, e14, e15, eR⟩ := id hRw
  obtain ⟨d0, d1, d2, d4, d5, d6, dH, dR⟩ := id hB
  have dT := hJ.2.1
  have rt := eR i hi
  obtain ⟨w0, w1, w2, w3, w4, w5, w6, w7⟩ := id rt
  have ri := hJ.2.2 i hi
  have hi10 : i < 10 := by omega
  have rb := dR i hi10
  obtain ⟨b0, b1, b2, b3, b4⟩ := id rb
  have ri0 := ri.1
  have ri1 := ri.2.1
  refine V_aload_n C dX7_feeOf_0 rfl ?_
  refine V_get C fg_X7_7 dX7_feeOf_1 (by repeat (first | with_reducible assumption | with_reducible exact mset_self _ _ _ | refine (mset_ne (by omega)).trans ?_)) (by (try simp only [mset_1]); omega) (by rfl) ?_
  refine V_bipush C dX7_feeOf_4 (by decide) ?_
  refine V_iald C dX7_feeOf_6 (by repeat (first | with_reducible assumption | with_reducible exact mset_self _ _ _ | refine (mset_ne (by omega)).trans ?_)) (by (try simp only [mset_1]); omega) (by omega) (by omega) (show ((9 : Int)).toNat = 9 from rfl) ?_
  refine V_aload_n C dX7_feeOf_7 rfl ?_
  refine V_get C fg_X7_7 dX7_feeOf_8 (by repeat (first | with_reducible assumption | with_reducible exact mset_self _ _ _ | refine (mset_ne (by omega)).trans ?_)) (by (try simp only [mset_1]); omega) (by rfl) ?_
  refine V_bipush C dX7_feeOf_11 (by decide) ?_
  refine V_iald C dX7_feeOf_13 (by repeat (first | with_reducible assumption | with_reducible exact mset_self _ _ _ | refine (mset_ne (by omega)).trans ?_)) (by (try simp only [mset_1]); omega) (by omega) (by omega) (show ((10 : Int)).toNat = 10 from rfl) ?_
  refine V_iload_n C dX7_feeOf_14 rfl ?_
  refine V_imul C dX7_feeOf_15 ?_
  refine V_iadd C dX7_feeOf_16 ?_
  rw [e9, e10]
  have f9 := mul_rng d5 (b := y) (B := 19) (by omega)
  refine V_istore_n C dX7_feeOf_17 (by decide) ?_
  refine V_aload_n C dX7_feeOf_18 rfl ?_
  refine V_iload_n C dX7_feeOf_19 rfl ?_
  refine V_iconst C dX7_feeOf_20 ?_
  refine V_callV (fr := 1) (lo := 20) (mc := 0) (ms := 0) (As := [_, _]) C yvX7_of w_940 dX7_feeOf_21 rfl rfl (by repeat (first | with_reducible assumption | with_reducible exact mset_self _ _ _ | refine (mset_ne (by omega)).trans ?_)) (by (try simp only [mset_1]); omega) rfl rfl (Nat.le_of_ble_eq_true rfl) ⟨Nat.le_of_ble_eq_true rfl, Nat.le_of_ble_eq_true rfl⟩ ⟨Nat.le_of_ble_eq_true rfl, Nat.le_of_ble_eq_true rfl⟩ ?_
  refine ok_X7_of hM9 (j := 16 + 35 * i + 1) (by omega) (by omega) (by omega) w1 ?_
  refine V_iconst C dX7_feeOf_24 ?_
  refine V_icmp_ne C dX7_feeOf_25 (tgt := 36) (by decide) (by omega) (by omega) (fun g25 => ?_) (fun g25 => ?_)
  · refine V_iload_n C dX7_feeOf_36 rfl ?_
    exact V_iret C hr dX7_feeOf_37 (K_of hK (by unfold feeT feeS; rw [if_pos (by omega)]))
  · refine V_iload_n C dX7_feeOf_28 rfl ?_
    refine V_iconst C dX7_feeOf_29 ?_
    refine V_iadd C dX7_feeOf_30 ?_
    refine V_iconst C dX7_feeOf_31 ?_
    refine V_idiv C dX7_feeOf_32 (by omega) (by omega) ?_
    refine V_goto C dX7_feeOf_33 (tgt := 37) (by decide) ?_
    exact V_iret C hr dX7_feeOf_37 (K_of hK (by unfold feeT feeS; rw [if_neg (by omega)]))

set_option maxHeartbeats 400000 in
set_option maxRecDepth 4000 in
theorem ok_X7_surchargeOn {l : Launch} {D : va_G} {cy : Nat → ClassId} {z : Nat} {M : Mm} {K : Option Value → Mm → Prop} {u N P A tx fr tl : Nat → Int} (hM : ModAt cy z M u N P A tx fr tl) {S : SD} (hRw : RowOf N S) (hB : SB S) (hJ : IS S)  {f : Int} (hf : 0 ≤ f ∧ f ≤ 100000) (hK : K (some (iv (surS (sc S 6) f))) M) :
    MT l D cy z false yX7_surchargeOn (wsy yX7_surchargeOn cX7_surchargeOn 2 (some .int)) 0 0 0 0 M [.ref (z + 331), iv f] K := by
  refine MT_of (by decide) w_979 (Nat.le_of_ble_eq_true rfl) ?_
  intro p e s m args below meth c C hr hx0
  have hM9 := hM
  obtain ⟨gn, g0, g1, g2, g3, g4, g5, g6⟩ := id hM
  have hB9 := hB
  have hr9 := hRw
  have hJ9 := hJ
  obtain ⟨e0, e1, e2, eH, eh, e9, e10, e11, e12, e13, e14, e15, eR⟩ := id hRw
  obtain ⟨d0, d1, d2, d4, d5, d6, dH, dR⟩ := id hB
  have dT := hJ.2.1
  refine V_aload_n C dX7_surchargeOn_0 rfl ?_
  refine V_get C fg_X7_7 dX7_surchargeOn_1 (by repeat (first | with_reducible assumption | with_reducible exact mset_self _ _ _ | refine (mset_ne (by omega)).trans ?_)) (by (try simp only [mset_1]); omega) (by rfl) ?_
  refine V_bipush C dX7_surchargeOn_4 (by decide) ?_
  refine V_iald C dX7_surchargeOn_6 (by repeat (first | with_reducible assumption | with_reducible exact mset_self _ _ _ | refine (mset_ne (by omega)).trans ?_)) (by (try simp only [mset_1]); omega) (by omega) (by omega) (show ((11 : Int)).toNat = 11 from rfl) ?_
  rw [e11]
  have f9 := mul_rng d6 hf
  refine V_iload_n C dX7_surchargeOn_7 rfl ?_
  refine V_imul C dX7_surchargeOn_8 ?_
  refine V_bipush C dX7_surchargeOn_9 (by decide) ?_
  refine V_idiv C dX7_surchargeOn_11 (by omega) (by omega) ?_
  exact V_iret C hr dX7_surchargeOn_12 (K_of hK (by unfold surS; rfl))

set_option maxHeartbeats 400000 in
set_option maxRecDepth 4000 in
theorem ok_X7_isLate {l : Launch} {D : va_G} {cy : Nat → ClassId} {z : Nat} {M : Mm} {K : Option Value → Mm → Prop} {u N P A tx fr tl : Nat → Int} (hM : ModAt cy z M u N P A tx fr tl) {S : SD} (hRw : RowOf N S) (hB : SB S) (hJ : IS S) {i : Nat} (hi : i < sN S) (h9 : RF S i 3 < 19) (hT : yv (RA S i 0) (-1) (RF S i 3 + 1) < sc S 0 → K (some (iv 1)) M) (hF : ¬ yv (RA S i 0) (-1) (RF S i 3 + 1) < sc S 0 → K (some (iv 0)) M) :
    MT l D cy z false yX7_isLate (wsy yX7_isLate cX7_isLate 2 (some .boolean)) 5 112 0 0 M [.ref (z + 331), iv (i : Int)] K := by
  refine MT_of (by decide) w_967 (Nat.le_of_ble_eq_true rfl) ?_
  intro p e s m args below meth c C hr hx0
  have hM9 := hM
  obtain ⟨gn, g0, g1, g2, g3, g4, g5, g6⟩ := id hM
  have hB9 := hB
  have hr9 := hRw
  have hJ9 := hJ
  obtain ⟨e0, e1, e2, eH, eh, e9, e10, e11, e12, e13, e14, e15, eR⟩ := id hRw
  obtain ⟨d0, d1, d2, d4, d5, d6, dH, dR⟩ := id hB
  have dT := hJ.2.1
  have rt := eR i hi
  obtain ⟨w0, w1, w2, w3, w4, w5, w6, w7⟩ := id rt
  have ri := hJ.2.2 i hi
  have hi10 : i < 10 := by omega
  have rb := dR i hi10
  obtain ⟨b0, b1, b2, b3, b4⟩ := id rb
  have ri0 := ri.1
  have ri1 := ri.2.1
  have nx := nxt_rng (F := RF S i) b3
  have yr8 := yv_rng (g := RA S i 0) (e := -1) (y := RF S i 3 + 1) (b4 0) (by omega)
  refine V_aload_n C dX7_isLate_0 rfl ?_
  refine V_get C fg_X7_7 dX7_isLate_1 (by repeat (first | with_reducible assumption | with_reducible exact mset_self _ _ _ | refine (mset_ne (by omega)).trans ?_)) (by (try simp only [mset_1]); omega) (by rfl) ?_
  refine V_iconst C dX7_isLate_4 ?_
  refine V_iald C dX7_isLate_5 (by repeat (first | with_reducible assumption | with_reducible exact mset_self _ _ _ | refine (mset_ne (by omega)).trans ?_)) (by (try simp only [mset_1]); omega) (by omega) (by omega) (show ((0 : Int)).toNat = 0 from rfl) ?_
  refine V_aload_n C dX7_isLate_6 rfl ?_
  refine V_iload_n C dX7_isLate_7 rfl ?_
  refine V_aload_n C dX7_isLate_8 rfl ?_
  refine V_iload_n C dX7_isLate_9 rfl ?_
  refine V_callV (fr := 2) (lo := 42) (mc := 0) (ms := 0) (As := [_]) C yvX7_nextOf w_936 dX7_isLate_10 rfl rfl (by repeat (first | with_reducible assumption | with_reducible exact mset_self _ _ _ | refine (mset_ne (by omega)).trans ?_)) (by (try simp only [mset_1]); omega) rfl rfl (Nat.le_of_ble_eq_true rfl) ⟨Nat.le_of_ble_eq_true rfl, Nat.le_of_ble_eq_true rfl⟩ ⟨Nat.le_of_ble_eq_true rfl, Nat.le_of_ble_eq_true rfl⟩ ?_
  refine ok_X7_nextOf hM9 hr9 hB9 hJ9 hi ?_
  have en : nxt (RF S i) = RF S i 3 + 1 := by omega
  rw [en]
  refine V_callV (fr := 4) (lo := 90) (mc := 0) (ms := 0) (As := [_, _]) C yvX7_dueOf w_960 dX7_isLate_13 rfl rfl (by repeat (first | with_reducible assumption | with_reducible exact mset_self _ _ _ | refine (mset_ne (by omega)).trans ?_)) (by (try simp only [mset_1]); omega) rfl rfl (Nat.le_of_ble_eq_true rfl) ⟨Nat.le_of_ble_eq_true rfl, Nat.le_of_ble_eq_true rfl⟩ ⟨Nat.le_of_ble_eq_true rfl, Nat.le_of_ble_eq_true rfl⟩ ?_
  refine ok_X7_dueOf hM9 hr9 hB9 hJ9 hi (by omega) ?_
  refine V_icmp_le C dX7_isLate_16 (tgt := 23) (by decide) (by omega) (by omega) (fun g16 => ?_) (fun g16 => ?_)
  · refine V_iconst C dX7_isLate_23 ?_
    exact V_zret C hr (by omega) dX7_isLate_24 (hF (by omega))
  · refine V_iconst C dX7_isLate_19 ?_
    refine V_goto C dX7_isLate_20 (tgt := 24) (by decide) ?_
    exact V_zret C hr (by omega) dX7_isLate_24 (hT (by omega))

set_option maxHeartbeats 400000 in
set_option maxRecDepth 4000 in
theorem ok_X7_canPay {l : Launch} {D : va_G} {cy : Nat → ClassId} {z : Nat} {M : Mm} {K : Option Value → Mm → Prop} {u N P A tx fr tl : Nat → Int} (hM : ModAt cy z M u N P A tx fr tl) {S : SD} (hRw : RowOf N S) (hB : SB S) (hJ : IS S) {i : Nat} (hi : i < sN S) (hT : canPayB S i = true → K (some (iv 1)) M) (hF : canPayB S i = false → K (some (iv 0)) M) :
    MT l D cy z false yX7_canPay (wsy yX7_canPay cX7_canPay 3 (some .boolean)) 6 133 0 0 M [.ref (z + 331), iv (i : Int)] K := by
  refine MT_of (by decide) w_959 (Nat.le_of_ble_eq_true rfl) ?_
  intro p e s m args below meth c C hr hx0
  have hM9 := hM
  obtain ⟨gn, g0, g1, g2, g3, g4, g5, g6⟩ := id hM
  have hB9 := hB
  have hr9 := hRw
  have hJ9 := hJ
  obtain ⟨e0, e1, e2, eH, eh, e9, e10, e11, e12, e13, e14, e15, eR⟩ := id hRw
  obtain ⟨d0, d1, d2, d4, d5, d6, dH, dR⟩ := id hB
  have dT := hJ.2.1
  have rt := eR i hi
  obtain ⟨w0, w1, w2, w3, w4, w5, w6, w7⟩ := id rt
  have ri := hJ.2.2 i hi
  have hi10 : i < 10 := by omega
  have rb := dR i hi10
  obtain ⟨b0, b1, b2, b3, b4⟩ := id rb
  have ri0 := ri.1
  have ri1 := ri.2.1
  have nx := nxt_rng (F := RF S i) b3
  have yr8 := yv_rng (g := RA S i 0) (e := -1) (y := RF S i 3 + 1) (b4 0) (by omega)
  refine V_aload_n C dX7_canPay_0 rfl ?_
  refine V_iload_n C dX7_canPay_1 rfl ?_
  refine V_callV (fr := 2) (lo := 42) (mc := 0) (ms := 0) (As := [_]) C yvX7_nextOf w_936 dX7_canPay_2 rfl rfl (by repeat (first | with_reducible assumption | with_reducible exact mset_self _ _ _ | refine (mset_ne (by omega)).trans ?_)) (by (try simp only [mset_1]); omega) rfl rfl (Nat.le_of_ble_eq_true rfl) ⟨Nat.le_of_ble_eq_true rfl, Nat.le_of_ble_eq_true rfl⟩ ⟨Nat.le_of_ble_eq_true rfl, Nat.le_of_ble_eq_true rfl⟩ ?_
  refine ok_X7_nextOf hM9 hr9 hB9 hJ9 hi ?_
  refine V_istore_n C dX7_canPay_5 (by decide) ?_
  refine V_iload_n C dX7_canPay_6 rfl ?_
  refine V_iconst C dX7_canPay_7 ?_
  refine V_icmp_eq C dX7_canPay_8 (tgt := 41) (by decide) (by omega) (by omega) (fun g8 => ?_) (fun g8 => ?_)
  · refine V_iconst C dX7_canPay_41 ?_
    exact V_zret C hr (by omega) dX7_canPay_42 (hF (by unfold canPayB; rw [decide_eq_false (by omega)]; rfl))
  · have en : nxt (RF S i) = RF S i 3 + 1 := by omega
    rw [en]
    refine V_aload_n C dX7_canPay_11 rfl ?_
    refine V_iload_n C dX7_canPay_12 rfl ?_
    refine V_callV (fr := 5) (lo := 112) (mc := 0) (ms := 0) (As := [_]) C yvX7_isLapsed w_932 dX7_canPay_13 rfl rfl (by repeat (first | with_reducible assumption | with_reducible exact mset_self _ _ _ | refine (mset_ne (by omega)).trans ?_)) (by (try simp only [mset_1]); omega) rfl rfl (Nat.le_of_ble_eq_true rfl) ⟨Nat.le_of_ble_eq_true rfl, Nat.le_of_ble_eq_true rfl⟩ ⟨Nat.le_of_ble_eq_true rfl, Nat.le_of_ble_eq_true rfl⟩ ?_
    refine ok_X7_isLapsed hM9 hr9 hB9 hJ9 hi (fun hl => ?_) (fun hl => ?_)
    · refine V_ifne1 C dX7_canPay_16 (tgt := 41) (by decide) ?_
      refine V_iconst C dX7_canPay_41 ?_
      exact V_zret C hr (by omega) dX7_canPay_42 (hF (by unfold canPayB; rw [lapB_t hl]; simp))
    · refine V_ifne0 C dX7_canPay_16 (tgt := 41) (by decide) ?_
      refine V_aload_n C dX7_canPay_19 rfl ?_
      refine V_get C fg_X7_7 dX7_canPay_20 (by repeat (first | with_reducible assumption | with_reducible exact mset_self _ _ _ | refine (mset_ne (by omega)).trans ?_)) (by (try simp only [mset_1]); omega) (by rfl) ?_
      refine V_iconst C dX7_canPay_23 ?_
      refine V_iald C dX7_canPay_24 (by repeat (first | with_reducible assumption | with_reducible exact mset_self _ _ _ | refine (mset_ne (by omega)).trans ?_)) (by (try simp only [mset_1]); omega) (by omega) (by omega) (show ((0 : Int)).toNat = 0 from rfl) ?_
      refine V_aload_n C dX7_canPay_25 rfl ?_
      refine V_iload_n C dX7_canPay_26 rfl ?_
      refine V_iload_n C dX7_canPay_27 rfl ?_
      refine V_callV (fr := 4) (lo := 90) (mc := 0) (ms := 0) (As := [_, _]) C yvX7_dueOf w_960 dX7_canPay_28 rfl rfl (by repeat (first | with_reducible assumption | with_reducible exact mset_self _ _ _ | refine (mset_ne (by omega)).trans ?_)) (by (try simp only [mset_1]); omega) rfl rfl (Nat.le_of_ble_eq_true rfl) ⟨Nat.le_of_ble_eq_true rfl, Nat.le_of_ble_eq_true rfl⟩ ⟨Nat.le_of_ble_eq_true rfl, Nat.le_of_ble_eq_true rfl⟩ ?_
      refine ok_X7_dueOf hM9 hr9 hB9 hJ9 hi (by omega) ?_
      refine V_bipush C dX7_canPay_31 (by decide) ?_
      refine V_isub C dX7_canPay_33 ?_
      refine V_icmp_lt C dX7_canPay_34 (tgt := 41) (by decide) (by omega) (by omega) (fun g34 => ?_) (fun g34 => ?_)
      · refine V_iconst C dX7_canPay_41 ?_
        exact V_zret C hr (by omega) dX7_canPay_42 (hF (by unfold canPayB; rw [decide_eq_false (show ¬ (yv (RA S i 0) (-1) (RF S i 3 + 1) - 90 ≤ sc S 0) by omega)]; simp))
      · refine V_iconst C dX7_canPay_37 ?_
        refine V_goto C dX7_canPay_38 (tgt := 42) (by decide) ?_
        exact V_zret C hr (by omega) dX7_canPay_42 (hT (by unfold canPayB; rw [decide_eq_true (by omega), lapB_f hl, decide_eq_true (by omega)]; rfl))

set_option maxHeartbeats 400000 in
set_option maxRecDepth 4000 in
theorem ok_X7_canRevive {l : Launch} {D : va_G} {cy : Nat → ClassId} {z : Nat} {M : Mm} {K : Option Value → Mm → Prop} {u N P A tx fr tl : Nat → Int} (hM : ModAt cy z M u N P A tx fr tl) {S : SD} (hRw : RowOf N S) (hB : SB S) (hJ : IS S) {i : Nat} (hi : i < sN S) (hT : canRevR S i → K (some (iv 1)) M) (hF : ¬ canRevR S i → K (some (iv 0)) M) :
    MT l D cy z false yX7_canRevive (wsy yX7_canRevive cX7_canRevive 2 (some .boolean)) 6 133 0 0 M [.ref (z + 331), iv (i : Int)] K := by
  refine MT_of (by decide) w_991 (Nat.le_of_ble_eq_true rfl) ?_
  intro p e s m args below meth c C hr hx0
  have hM9 := hM
  obtain ⟨gn, g0, g1, g2, g3, g4, g5, g6⟩ := id hM
  have hB9 := hB
  have hr9 := hRw
  have hJ9 := hJ
  obtain ⟨e0, e1, e2, eH, eh, e9, e10, e11, e12, e13, e14, e15, eR⟩ := id hRw
  obtain ⟨d0, d1, d2, d4, d5, d6, dH, dR⟩ := id hB
  have dT := hJ.2.1
  have rt := eR i hi
  obtain ⟨w0, w1, w2, w3, w4, w5, w6, w7⟩ := id rt
  have ri := hJ.2.2 i hi
  have hi10 : i < 10 := by omega
  have rb := dR i hi10
  obtain ⟨b0, b1, b2, b3, b4⟩ := id rb
  have ri0 := ri.1
  have ri1 := ri.2.1
  have yr9 := yv_rng (g := RA S i 1) (e := -1) (y := RF S i 3 + 1) (b4 1) (by omega)
  refine V_aload_n C dX7_canRevive_0 rfl ?_
  refine V_iload_n C dX7_canRevive_1 rfl ?_
  refine V_callV (fr := 5) (lo := 112) (mc := 0) (ms := 0) (As := [_]) C yvX7_isLapsed w_932 dX7_canRevive_2 rfl rfl (by repeat (first | with_reducible assumption | with_reducible exact mset_self _ _ _ | refine (mset_ne (by omega)).trans ?_)) (by (try simp only [mset_1]); omega) rfl rfl (Nat.le_of_ble_eq_true rfl) ⟨Nat.le_of_ble_eq_true rfl, Nat.le_of_ble_eq_true rfl⟩ ⟨Nat.le_of_ble_eq_true rfl, Nat.le_of_ble_eq_true rfl⟩ ?_
  refine ok_X7_isLapsed hM9 hr9 hB9 hJ9 hi (fun hl => ?_) (fun hl => ?_)
  · refine V_ifeq1 C dX7_canRevive_5 (tgt := 54) (by decide) ?_
    have en : nxt (RF S i) = RF S i 3 + 1 := nxt_lap hl.1
    have l3 := hl.1
    have l4 := hl.2
    have lg : 0 ≤ yv (RA S i 1) (-1) (RF S i 3 + 1) := by
      rw [yv_at (by omega)]
      have o := RI.due_pos ri d2 (y := (RF S i 3 + 1).toNat) (by omega) (by omega)
      have o2 := RI.due_grace ri d2 (y := (RF S i 3 + 1).toNat) (by omega) (by omega)
      omega
    have l1 := later_rng (d := yv (RA S i 1) (-1) (RF S i 3 + 1)) (n := 12) lg (by omega)
    refine V_aload_n C dX7_canRevive_8 rfl ?_
    refine V_get C fg_X7_7 dX7_canRevive_9 (by repeat (first | with_reducible assumption | with_reducible exact mset_self _ _ _ | refine (mset_ne (by omega)).trans ?_)) (by (try simp only [mset_1]); omega) (by rfl) ?_
    refine V_iconst C dX7_canRevive_12 ?_
    refine V_iald C dX7_canRevive_13 (by repeat (first | with_reducible assumption | with_reducible exact mset_self _ _ _ | refine (mset_ne (by omega)).trans ?_)) (by (try simp only [mset_1]); omega) (by omega) (by omega) (show ((0 : Int)).toNat = 0 from rfl) ?_
    refine V_aload_n C dX7_canRevive_14 rfl ?_
    refine V_iload_n C dX7_canRevive_15 rfl ?_
    refine V_callV (fr := 4) (lo := 90) (mc := 0) (ms := 0) (As := [_]) C yvX7_endOf w_992 dX7_canRevive_16 rfl rfl (by repeat (first | with_reducible assumption | with_reducible exact mset_self _ _ _ | refine (mset_ne (by omega)).trans ?_)) (by (try simp only [mset_1]); omega) rfl rfl (Nat.le_of_ble_eq_true rfl) ⟨Nat.le_of_ble_eq_true rfl, Nat.le_of_ble_eq_true rfl⟩ ⟨Nat.le_of_ble_eq_true rfl, Nat.le_of_ble_eq_true rfl⟩ ?_
    refine ok_X7_endOf hM9 hr9 hB9 hJ9 hi ?_
    refine V_icmp_gt C dX7_canRevive_19 (tgt := 54) (by decide) (by omega) (by omega) (fun g19 => ?_) (fun g19 => ?_)
    · refine V_iconst C dX7_canRevive_54 ?_
      exact V_zret C hr (by omega) dX7_canRevive_55 (hF (fun o => by have o1 := o.2.1; omega))
    · refine V_aload_n C dX7_canRevive_22 rfl ?_
      refine V_get C fg_X7_7 dX7_canRevive_23 (by repeat (first | with_reducible assumption | with_reducible exact mset_self _ _ _ | refine (mset_ne (by omega)).trans ?_)) (by (try simp only [mset_1]); omega) (by rfl) ?_
      refine V_iconst C dX7_canRevive_26 ?_
      refine V_iald C dX7_canRevive_27 (by repeat (first | with_reducible assumption | with_reducible exact mset_self _ _ _ | refine (mset_ne (by omega)).trans ?_)) (by (try simp only [mset_1]); omega) (by omega) (by omega) (show ((0 : Int)).toNat = 0 from rfl) ?_
      refine V_aload_n C dX7_canRevive_28 rfl ?_
      refine V_aload_n C dX7_canRevive_29 rfl ?_
      refine V_iload_n C dX7_canRevive_30 rfl ?_
      refine V_aload_n C dX7_canRevive_31 rfl ?_
      refine V_iload_n C dX7_canRevive_32 rfl ?_
      refine V_callV (fr := 2) (lo := 42) (mc := 0) (ms := 0) (As := [_]) C yvX7_nextOf w_936 dX7_canRevive_33 rfl rfl (by repeat (first | with_reducible assumption | with_reducible exact mset_self _ _ _ | refine (mset_ne (by omega)).trans ?_)) (by (try simp only [mset_1]); omega) rfl rfl (Nat.le_of_ble_eq_true rfl) ⟨Nat.le_of_ble_eq_true rfl, Nat.le_of_ble_eq_true rfl⟩ ⟨Nat.le_of_ble_eq_true rfl, Nat.le_of_ble_eq_true rfl⟩ ?_
      refine ok_X7_nextOf hM9 hr9 hB9 hJ9 hi ?_
      rw [en]
      refine V_callV (fr := 4) (lo := 90) (mc := 0) (ms := 0) (As := [_, _]) C yvX7_graceOf w_944 dX7_canRevive_36 rfl rfl (by repeat (first | with_reducible assumption | with_reducible exact mset_self _ _ _ | refine (mset_ne (by omega)).trans ?_)) (by (try simp only [mset_1]); omega) rfl rfl (Nat.le_of_ble_eq_true rfl) ⟨Nat.le_of_ble_eq_true rfl, Nat.le_of_ble_eq_true rfl⟩ ⟨Nat.le_of_ble_eq_true rfl, Nat.le_of_ble_eq_true rfl⟩ ?_
      refine ok_X7_graceOf hM9 hr9 hB9 hJ9 hi (by omega) ?_
      refine V_bipush C dX7_canRevive_39 (by decide) ?_
      refine V_callS (fr := 3) (lo := 64) (mc := 0) (ms := 0) (As := [_, _]) C ysX7_behind w_886 dX7_canRevive_41 rfl rfl (Nat.le_of_ble_eq_true rfl) ⟨Nat.le_of_ble_eq_true rfl, Nat.le_of_ble_eq_true rfl⟩ ⟨Nat.le_of_ble_eq_true rfl, Nat.le_of_ble_eq_true rfl⟩ ?_
      refine ok_X7_behind (by omega) (by omega) ?_
      refine V_callV (fr := 3) (lo := 64) (mc := 0) (ms := 0) (As := [_]) C yvX7_worksFrom w_893 dX7_canRevive_44 rfl rfl (by repeat (first | with_reducible assumption | with_reducible exact mset_self _ _ _ | refine (mset_ne (by omega)).trans ?_)) (by (try simp only [mset_1]); omega) rfl rfl (Nat.le_of_ble_eq_true rfl) ⟨Nat.le_of_ble_eq_true rfl, Nat.le_of_ble_eq_true rfl⟩ ⟨Nat.le_of_ble_eq_true rfl, Nat.le_of_ble_eq_true rfl⟩ ?_
      refine ok_X7_worksFrom hM9 e2 d2 (fun j hj => by have o := eh j hj; omega) (by omega) ?_
      rw [hRw.H]
      have p1 := pf_rng (H := hset (ho S) (sH S)) (d := later (yv (RA S i 1) (-1) (RF S i 3 + 1)) 12)
      refine V_icmp_gt C dX7_canRevive_47 (tgt := 54) (by decide) (by omega) (by omega) (fun g47 => ?_) (fun g47 => ?_)
      · refine V_iconst C dX7_canRevive_54 ?_
        exact V_zret C hr (by omega) dX7_canRevive_55 (hF (fun o => by have o1 : sc S 0 ≤ pf (hset (ho S) (sH S)) (later (yv (RA S i 1) (-1) (RF S i 3 + 1)) 12) := o.2.2; omega))
      · refine V_iconst C dX7_canRevive_50 ?_
        refine V_goto C dX7_canRevive_51 (tgt := 55) (by decide) ?_
        exact V_zret C hr (by omega) dX7_canRevive_55 (hT ⟨hl, by omega, (show sc S 0 ≤ pf (hset (ho S) (sH S)) (later (yv (RA S i 1) (-1) (RF S i 3 + 1)) 12) by omega)⟩)
  · refine V_ifeq0 C dX7_canRevive_5 (tgt := 54) (by decide) ?_
    refine V_iconst C dX7_canRevive_54 ?_
    exact V_zret C hr (by omega) dX7_canRevive_55 (hF (fun o => hl o.1))

