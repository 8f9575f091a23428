/-! the docket's answers (X6) -/
theorem undo_at {cy : Nat → ClassId} {z : Nat} {M M0 M3 : Mm} {y : DD} (h : DockAt cy z M y) (hc : 0 < xC y) (h0 : Sm M M0 (fun j => j = 0)) (e0 : M0.2 0 = oX 5 [.ref (z + 1), .ref (z + 66), iv ((xC y : Int) - 1), .ref (z + 67)]) {S : SD} (hs : Sm M0 M3 (PB 1)) (hS : StateAt cy z M3 1 S) : DockAt cy z M3 (S, xC y - 1, y.2.2) := by
  obtain ⟨g0, g1, g2, g3, g4, g5, g6⟩ := h
  have hs0 := hs.1
  have ht : Sm M M3 (fun j => j < 66) := (h0.mono (fun j hj => by have o : j = 0 := hj; omega)).trans (hs.mono (fun j hj => by have := hj.2; omega))
  refine ⟨by rw [ht.1]; exact g0, (hs.2 _ (fun o => by have := o.1; omega)).trans (e0.trans ?_), (ht.2 _ (by omega)).trans g2, g3.keep ht (fun k h1 h2 o => by omega), hS, fun k hk => ⟨(g5 k hk).1, (g5 k hk).2.1, (g5 k hk).2.2.keep ht (fun j h1 h2 o => by have := (g5 k hk).1; omega)⟩, g6⟩
  show oX 5 [.ref (z + 1), .ref (z + 66), iv ((xC y : Int) - 1), .ref (z + 67)] = oX 5 [.ref (z + 1), .ref (z + 66), iv ((xC y - 1 : Nat) : Int), .ref (z + 67)]
  rw [show ((xC y - 1 : Nat) : Int) = (xC y : Int) - 1 by omega]
theorem DockAt.txt {cy : Nat → ClassId} {z : Nat} {M M3 : Mm} {y : DD} (h : DockAt cy z M y) (hs : Sm M M3 (fun j => 67 ≤ j ∧ j < 67 + 4)) {T bs fl sm : Nat → Int} (hT : TextAt cy z M3 67 T bs fl sm) : DockAt cy z M3 (xS y, xC y, xV y, xA y, T, bs, fl, sm) := by
  obtain ⟨g0, g1, g2, g3, g4, g5, g6⟩ := h
  exact ⟨by rw [hs.1]; exact g0, (hs.2 _ (by omega)).trans g1, (hs.2 _ (by omega)).trans g2, hT, g4.keep hs (fun k h1 h2 o => by omega), fun k hk => ⟨(g5 k hk).1, (g5 k hk).2.1, (g5 k hk).2.2.keep hs (fun j h1 h2 o => by have := (g5 k hk).1; omega)⟩, g6⟩
/-- the text read: what is then in it -/
def rdD (x : DD) : RS := rdN (gT (xB x) (xT x 0)) (xT x 0) 11 ((0, -1), 0, xF x, xM x)
def txD (x : DD) : DD := (xS x, xC x, xV x, xA x, (fun j => if j = 0 then xT x 0 else if j = 1 then (rdD x).1.1 else if j = 2 then (rdD x).1.2 else ((rdD x).2.1 : Int)), xB x, (rdD x).2.2.1, (rdD x).2.2.2)
theorem rdD_ok {x : DD} (h : DI x) : RSok (xT x 0) (rdD x) := rdN_ok 11 _ ⟨⟨by dsimp only; omega, h.2.2.2.1.1, by dsimp only; omega, by dsimp only; have := h.2.2.2.1.1; omega⟩, by dsimp only; omega, fun j hj => absurd hj (Nat.not_lt_zero j)⟩
theorem txD_I {x : DD} (h : DI x) : DI (txD x) := ⟨h.1, h.2.1, h.2.2.1, h.2.2.2.1, h.2.2.2.2⟩
def clD (x : DD) : DD := (xS x, xC x, xV x, xA x, va_up (xT x) 0 0, xB x, xF x, xM x)
def apD (x : DD) (v : Int) : DD := (xS x, xC x, xV x, xA x, va_up (xT x) 0 (xT x 0 + 1), va_up (xB x) (xT x 0).toNat v, xF x, xM x)
set_option maxHeartbeats 400000 in
set_option maxRecDepth 4000 in
theorem ok_X6_right {l : Launch} {D : va_G} {cy : Nat → ClassId} {z : Nat} {M : Mm} {K : Option Value → Mm → Prop} {KX : String → Prop} {x : DD} (hD : DockAt cy z M x) (hI : DI x) (hlt : l.stackTraces = false) {a w : Int} (ha : -2147483648 ≤ a ∧ a < 2147483648) (hw : -2147483648 ≤ w ∧ w < 2147483648) (hK : ∀ i : Nat, a = i → i < sN (xS x) → (0 ≤ w ∧ w ≤ 12) → K (some (iv (rvT (xS x) i w))) M) (hXi : (a < 0 ∨ (sN (xS x) : Int) ≤ a) → KX eI) (hX1 : ∀ i : Nat, a = i → i < sN (xS x) → ¬ (0 ≤ w ∧ w ≤ 12) → KX eA) :
    MX l D cy z false yX6_right (wsy yX6_right cX6_right 4 (some .int)) 7 129 2 12 M [.ref (z + 0), iv a, iv w] K KX := by
  refine MX_of (by decide) w_689 (Nat.le_of_ble_eq_true rfl) ?_
  intro p e s m args below meth c C hr hxt
  have hD9 := hD
  have hI9 := hI
  obtain ⟨gn, g0, g1, gX, hS9, gA, gJ⟩ := id hD
  obtain ⟨hB9, hC9, hV9, hL9, hb9⟩ := id hI
  obtain ⟨hn, c0, c1, c2, c3, c4, cR⟩ := id hS9
  obtain ⟨d0, d1, d2, d4, d5, d6, dH, dR⟩ := id hB9
  obtain ⟨tn, t0, t1, t2, t3⟩ := id gX
  refine V_aload_n C dX6_right_0 rfl ?_
  refine V_iload_n C dX6_right_1 rfl ?_
  refine V_callVX (fr := 6) (lo := 90) (mc := 1) (ms := 6) (As := [_]) C hxt yvX6_existingRight w_615 dX6_right_2 rfl rfl (by repeat (first | with_reducible assumption | with_reducible exact mset_self _ _ _ | refine (mset_ne (by omega)).trans ?_)) (by (try simp only [mset_1]); omega) rfl rfl (Nat.le_of_ble_eq_true rfl) ⟨Nat.le_of_ble_eq_true rfl, Nat.le_of_ble_eq_true rfl⟩ ⟨Nat.le_of_ble_eq_true rfl, Nat.le_of_ble_eq_true rfl⟩ (fun _ h => h) ⟨by omega, by omega⟩ ?_
  refine ok_X6_existingRight hD9 hI9 hlt (by omega) (fun i ia hi9 => ?_) (fun o => hXi o)
  subst ia
  have hi : i < 10 := by omega
  have hR9 := cR i hi
  have hB8 := dR i hi
  have hnr := hR9.1
  have mr := hR9.2.1
  have hB7 := hB8
  obtain ⟨b0, b1, b2, b3, b4⟩ := hB7
  refine V_astore_n C dX6_right_5 (by decide) ?_
  refine V_iload_n C dX6_right_6 rfl ?_
  refine V_iconst C dX6_right_7 ?_
  refine V_bipush C dX6_right_8 (by decide) ?_
  refine V_callS (fr := 0) (lo := 0) (mc := 0) (ms := 0) (As := [_, _, _]) C ysX6_isWithin w_451 dX6_right_10 rfl rfl (Nat.le_of_ble_eq_true rfl) ⟨Nat.le_of_ble_eq_true rfl, Nat.le_of_ble_eq_true rfl⟩ ⟨Nat.le_of_ble_eq_true rfl, Nat.le_of_ble_eq_true rfl⟩ ?_
  refine ok_X6_isWithin (by omega) (by omega) (by omega) (fun hw => ?_) (fun hw => ?_)
  · refine V_callSX (fr := 6) (lo := 90) (mc := 1) (ms := 6) (As := [_]) C hxt ysX6_checkArgument w_454 dX6_right_13 rfl rfl (Nat.le_of_ble_eq_true rfl) ⟨Nat.le_of_ble_eq_true rfl, Nat.le_of_ble_eq_true rfl⟩ ⟨Nat.le_of_ble_eq_true rfl, Nat.le_of_ble_eq_true rfl⟩ (fun _ h => h) ⟨by omega, by omega⟩ ?_
    refine ok_X6_checkArgument hlt (fun _ => ?_) (fun o => absurd o (by decide))
    refine V_aload_n C dX6_right_16 rfl ?_
    refine V_get C fg_X6_10 dX6_right_17 (by repeat (first | with_reducible assumption | with_reducible exact mset_self _ _ _ | refine (mset_ne (by omega)).trans ?_)) (by (try simp only [mset_1]); omega) (by rfl) ?_
    refine V_aload_n C dX6_right_20 rfl ?_
    refine V_iload_n C dX6_right_21 rfl ?_
    refine V_callV (fr := 5) (lo := 107) (mc := 0) (ms := 0) (As := [_, _]) C yvX4_rightValue w_420 dX6_right_22 rfl rfl (by repeat (first | with_reducible assumption | with_reducible exact mset_self _ _ _ | refine (mset_ne (by omega)).trans ?_)) (by (try simp only [mset_1]); omega) rfl rfl (Nat.le_of_ble_eq_true rfl) ⟨Nat.le_of_ble_eq_true rfl, Nat.le_of_ble_eq_true rfl⟩ ⟨Nat.le_of_ble_eq_true rfl, Nat.le_of_ble_eq_true rfl⟩ ?_
    refine ok_X4_rightValue hS9 hB9 hi hw ?_
    refine V_ret ?_
    refine V_widen (k := 2) (n := 12) (by omega) (by omega) ?_
    exact V_iret C hr dX6_right_25 (hK i rfl hi9 hw)
  · refine V_callSX (fr := 6) (lo := 90) (mc := 1) (ms := 6) (As := [_]) C hxt ysX6_checkArgument w_454 dX6_right_13 rfl rfl (Nat.le_of_ble_eq_true rfl) ⟨Nat.le_of_ble_eq_true rfl, Nat.le_of_ble_eq_true rfl⟩ ⟨Nat.le_of_ble_eq_true rfl, Nat.le_of_ble_eq_true rfl⟩ (fun _ h => h) ⟨by omega, by omega⟩ ?_
    refine ok_X6_checkArgument hlt (fun o => absurd o (by decide)) (fun _ => (hX1 i rfl hi9 hw))
    done

set_option maxHeartbeats 400000 in
set_option maxRecDepth 4000 in
theorem ok_X6_due {l : Launch} {D : va_G} {cy : Nat → ClassId} {z : Nat} {M : Mm} {K : Option Value → Mm → Prop} {KX : String → Prop} {x : DD} (hD : DockAt cy z M x) (hI : DI x) (hlt : l.stackTraces = false) {a y w : Int} (ha : -2147483648 ≤ a ∧ a < 2147483648) (hy : -2147483648 ≤ y ∧ y < 2147483648) (hw9 : w = 0 ∨ w = 1) (hK : ∀ i : Nat, a = i → i < sN (xS x) → (1 ≤ y ∧ y ≤ 19) → K (some (iv (if w = 0 then RA (xS x) i 0 y.toNat else RA (xS x) i 1 y.toNat))) M) (hXi : (a < 0 ∨ (sN (xS x) : Int) ≤ a) → KX eI) (hX1 : ∀ i : Nat, a = i → i < sN (xS x) → ¬ (1 ≤ y ∧ y ≤ 19) → KX eA) :
    MX l D cy z false yX6_due (wsy yX6_due cX6_due 5 (some .int)) 7 111 2 12 M [.ref (z + 0), iv a, iv y, iv w] K KX := by
  refine MX_of (by decide) w_696 (Nat.le_of_ble_eq_true rfl) ?_
  intro p e s m args below meth c C hr hxt
  have hD9 := hD
  have hI9 := hI
  obtain ⟨gn, g0, g1, gX, hS9, gA, gJ⟩ := id hD
  obtain ⟨hB9, hC9, hV9, hL9, hb9⟩ := id hI
  obtain ⟨hn, c0, c1, c2, c3, c4, cR⟩ := id hS9
  obtain ⟨d0, d1, d2, d4, d5, d6, dH, dR⟩ := id hB9
  obtain ⟨tn, t0, t1, t2, t3⟩ := id gX
  refine V_aload_n C dX6_due_0 rfl ?_
  refine V_iload_n C dX6_due_1 rfl ?_
  refine V_callVX (fr := 6) (lo := 90) (mc := 1) (ms := 6) (As := [_]) C hxt yvX6_existingRight w_615 dX6_due_2 rfl rfl (by repeat (first | with_reducible assumption | with_reducible exact mset_self _ _ _ | refine (mset_ne (by omega)).trans ?_)) (by (try simp only [mset_1]); omega) rfl rfl (Nat.le_of_ble_eq_true rfl) ⟨Nat.le_of_ble_eq_true rfl, Nat.le_of_ble_eq_true rfl⟩ ⟨Nat.le_of_ble_eq_true rfl, Nat.le_of_ble_eq_true rfl⟩ (fun _ h => h) ⟨by omega, by omega⟩ ?_
  refine ok_X6_existingRight hD9 hI9 hlt (by omega) (fun i ia hi9 => ?_) (fun o => hXi o)
  subst ia
  have hi : i < 10 := by omega
  have hR9 := cR i hi
  have hB8 := dR i hi
  have hnr := hR9.1
  have mr := hR9.2.1
  have hB7 := hB8
  obtain ⟨b0, b1, b2, b3, b4⟩ := hB7
  refine V_astore C dX6_due_5 (by decide) ?_
  refine V_iload_n C dX6_due_7 rfl ?_
  refine V_iconst C dX6_due_8 ?_
  refine V_bipush C dX6_due_9 (by decide) ?_
  refine V_callS (fr := 0) (lo := 0) (mc := 0) (ms := 0) (As := [_, _, _]) C ysX6_isWithin w_451 dX6_due_11 rfl rfl (Nat.le_of_ble_eq_true rfl) ⟨Nat.le_of_ble_eq_true rfl, Nat.le_of_ble_eq_true rfl⟩ ⟨Nat.le_of_ble_eq_true rfl, Nat.le_of_ble_eq_true rfl⟩ ?_
  refine ok_X6_isWithin (by omega) (by omega) (by omega) (fun hw => ?_) (fun hw => ?_)
  · refine V_callSX (fr := 6) (lo := 90) (mc := 1) (ms := 6) (As := [_]) C hxt ysX6_checkArgument w_454 dX6_due_14 rfl rfl (Nat.le_of_ble_eq_true rfl) ⟨Nat.le_of_ble_eq_true rfl, Nat.le_of_ble_eq_true rfl⟩ ⟨Nat.le_of_ble_eq_true rfl, Nat.le_of_ble_eq_true rfl⟩ (fun _ h => h) ⟨by omega, by omega⟩ ?_
    refine ok_X6_checkArgument hlt (fun _ => ?_) (fun o => absurd o (by decide))
    refine V_iload_n C dX6_due_17 rfl ?_
    refine V_if_eq C dX6_due_18 (tgt := 30) (by decide) (by omega) (fun g18 => ?_) (fun g18 => ?_)
    · refine V_aload C dX6_due_30 rfl ?_
      refine V_iload_n C dX6_due_32 rfl ?_
      refine V_callV (fr := 0) (lo := 0) (mc := 0) (ms := 0) (As := [_]) C yvX3_dueOf w_698 dX6_due_33 rfl rfl (by repeat (first | with_reducible assumption | with_reducible exact mset_self _ _ _ | refine (mset_ne (by omega)).trans ?_)) (by (try simp only [mset_1]); omega) rfl rfl (Nat.le_of_ble_eq_true rfl) ⟨Nat.le_of_ble_eq_true rfl, Nat.le_of_ble_eq_true rfl⟩ ⟨Nat.le_of_ble_eq_true rfl, Nat.le_of_ble_eq_true rfl⟩ ?_
      refine ok_X3_dueOf hR9 hB8 (by omega) ?_
      refine V_ret ?_
      refine V_widen (k := 2) (n := 12) (by omega) (by omega) ?_
      exact V_iret C hr dX6_due_36 (K_of (hK i rfl hi9 hw) (by rw [if_pos (show w = 0 by omega)]; unfold yv; rw [if_pos (by omega)]))
    · refine V_aload C dX6_due_21 rfl ?_
      refine V_iload_n C dX6_due_23 rfl ?_
      refine V_callV (fr := 0) (lo := 0) (mc := 0) (ms := 0) (As := [_]) C yvX3_graceOf w_697 dX6_due_24 rfl rfl (by repeat (first | with_reducible assumption | with_reducible exact mset_self _ _ _ | refine (mset_ne (by omega)).trans ?_)) (by (try simp only [mset_1]); omega) rfl rfl (Nat.le_of_ble_eq_true rfl) ⟨Nat.le_of_ble_eq_true rfl, Nat.le_of_ble_eq_true rfl⟩ ⟨Nat.le_of_ble_eq_true rfl, Nat.le_of_ble_eq_true rfl⟩ ?_
      refine ok_X3_graceOf hR9 hB8 (by omega) ?_
      refine V_goto C dX6_due_27 (tgt := 36) (by decide) ?_
      refine V_ret ?_
      refine V_widen (k := 2) (n := 12) (by omega) (by omega) ?_
      exact V_iret C hr dX6_due_36 (K_of (hK i rfl hi9 hw) (by rw [if_neg (show ¬ w = 0 by omega)]; unfold yv; rw [if_pos (by omega)]))
  · refine V_callSX (fr := 6) (lo := 90) (mc := 1) (ms := 6) (As := [_]) C hxt ysX6_checkArgument w_454 dX6_due_14 rfl rfl (Nat.le_of_ble_eq_true rfl) ⟨Nat.le_of_ble_eq_true rfl, Nat.le_of_ble_eq_true rfl⟩ ⟨Nat.le_of_ble_eq_true rfl, Nat.le_of_ble_eq_true rfl⟩ (fun _ h => h) ⟨by omega, by omega⟩ ?_
    refine ok_X6_checkArgument hlt (fun o => absurd o (by decide)) (fun _ => (hX1 i rfl hi9 hw))
    done

set_option maxHeartbeats 400000 in
set_option maxRecDepth 4000 in
theorem ok_X6_stood {l : Launch} {D : va_G} {cy : Nat → ClassId} {z : Nat} {M : Mm} {K : Option Value → Mm → Prop} {KX : String → Prop} {x : DD} (hD : DockAt cy z M x) (hI : DI x) (hlt : l.stackTraces = false) {a d : Int} (ha : -2147483648 ≤ a ∧ a < 2147483648) (hd : -2147483648 ≤ d ∧ d < 2147483648) (hT : ∀ i : Nat, a = i → i < sN (xS x) → (0 ≤ d ∧ d ≤ sc (xS x) 0) → stoodR (RF (xS x) i) (RA (xS x) i) d (sc (xS x) 0) → K (some (iv 1)) M) (hF : ∀ i : Nat, a = i → i < sN (xS x) → (0 ≤ d ∧ d ≤ sc (xS x) 0) → ¬ stoodR (RF (xS x) i) (RA (xS x) i) d (sc (xS x) 0) → K (some (iv 0)) M) (hXi : (a < 0 ∨ (sN (xS x) : Int) ≤ a) → KX eI) (hX1 : ∀ i : Nat, a = i → i < sN (xS x) → ¬ (0 ≤ d ∧ d ≤ sc (xS x) 0) → KX eA) :
    MX l D cy z false yX6_stood (wsy yX6_stood cX6_stood 4 (some .boolean)) 7 111 2 12 M [.ref (z + 0), iv a, iv d] K KX := by
  refine MX_of (by decide) w_705 (Nat.le_of_ble_eq_true rfl) ?_
  intro p e s m args below meth c C hr hxt
  have hD9 := hD
  have hI9 := hI
  obtain ⟨gn, g0, g1, gX, hS9, gA, gJ⟩ := id hD
  obtain ⟨hB9, hC9, hV9, hL9, hb9⟩ := id hI
  obtain ⟨hn, c0, c1, c2, c3, c4, cR⟩ := id hS9
  obtain ⟨d0, d1, d2, d4, d5, d6, dH, dR⟩ := id hB9
  obtain ⟨tn, t0, t1, t2, t3⟩ := id gX
  refine V_aload_n C dX6_stood_0 rfl ?_
  refine V_iload_n C dX6_stood_1 rfl ?_
  refine V_callVX (fr := 6) (lo := 90) (mc := 1) (ms := 6) (As := [_]) C hxt yvX6_existingRight w_615 dX6_stood_2 rfl rfl (by repeat (first | with_reducible assumption | with_reducible exact mset_self _ _ _ | refine (mset_ne (by omega)).trans ?_)) (by (try simp only [mset_1]); omega) rfl rfl (Nat.le_of_ble_eq_true rfl) ⟨Nat.le_of_ble_eq_true rfl, Nat.le_of_ble_eq_true rfl⟩ ⟨Nat.le_of_ble_eq_true rfl, Nat.le_of_ble_eq_true rfl⟩ (fun _ h => h) ⟨by omega, by omega⟩ ?_
  refine ok_X6_existingRight hD9 hI9 hlt (by omega) (fun i ia hi9 => ?_) (fun o => hXi o)
  subst ia
  have hi : i < 10 := by omega
  have hR9 := cR i hi
  have hB8 := dR i hi
  have hnr := hR9.1
  have mr := hR9.2.1
  have hB7 := hB8
  obtain ⟨b0, b1, b2, b3, b4⟩ := hB7
  refine V_astore_n C dX6_stood_5 (by decide) ?_
  refine V_iload_n C dX6_stood_6 rfl ?_
  refine V_iconst C dX6_stood_7 ?_
  refine V_aload_n C dX6_stood_8 rfl ?_
  refine V_get C fg_X6_10 dX6_stood_9 (by repeat (first | with_reducible assumption | with_reducible exact mset_self _ _ _ | refine (mset_ne (by omega)).trans ?_)) (by (try simp only [mset_1]); omega) (by rfl) ?_
  refine V_get C fg_X6_85 dX6_stood_12 (by repeat (first | with_reducible assumption | with_reducible exact mset_self _ _ _ | refine (mset_ne (by omega)).trans ?_)) (by (try simp only [mset_1]); omega) (by rfl) ?_
  refine V_callS (fr := 0) (lo := 0) (mc := 0) (ms := 0) (As := [_, _, _]) C ysX6_isWithin w_451 dX6_stood_15 rfl rfl (Nat.le_of_ble_eq_true rfl) ⟨Nat.le_of_ble_eq_true rfl, Nat.le_of_ble_eq_true rfl⟩ ⟨Nat.le_of_ble_eq_true rfl, Nat.le_of_ble_eq_true rfl⟩ ?_
  refine ok_X6_isWithin (by omega) (by omega) (by omega) (fun hw => ?_) (fun hw => ?_)
  · refine V_callSX (fr := 6) (lo := 90) (mc := 1) (ms := 6) (As := [_]) C hxt ysX6_checkArgument w_454 dX6_stood_18 rfl rfl (Nat.le_of_ble_eq_true rfl) ⟨Nat.le_of_ble_eq_true rfl, Nat.le_of_ble_eq_true rfl⟩ ⟨Nat.le_of_ble_eq_true rfl, Nat.le_of_ble_eq_true rfl⟩ (fun _ h => h) ⟨by omega, by omega⟩ ?_
    refine ok_X6_checkArgument hlt (fun _ => ?_) (fun o => absurd o (by decide))
    refine V_aload_n C dX6_stood_21 rfl ?_
    refine V_iload_n C dX6_stood_22 rfl ?_
    refine V_aload_n C dX6_stood_23 rfl ?_
    refine V_get C fg_X6_10 dX6_stood_24 (by repeat (first | with_reducible assumption | with_reducible exact mset_self _ _ _ | refine (mset_ne (by omega)).trans ?_)) (by (try simp only [mset_1]); omega) (by rfl) ?_
    refine V_get C fg_X6_85 dX6_stood_27 (by repeat (first | with_reducible assumption | with_reducible exact mset_self _ _ _ | refine (mset_ne (by omega)).trans ?_)) (by (try simp only [mset_1]); omega) (by rfl) ?_
    refine V_callV (fr := 2) (lo := 43) (mc := 0) (ms := 0) (As := [_, _]) C yvX3_stoodOn w_442 dX6_stood_30 rfl rfl (by repeat (first | with_reducible assumption | with_reducible exact mset_self _ _ _ | refine (mset_ne (by omega)).trans ?_)) (by (try simp only [mset_1]); omega) rfl rfl (Nat.le_of_ble_eq_true rfl) ⟨Nat.le_of_ble_eq_true rfl, Nat.le_of_ble_eq_true rfl⟩ ⟨Nat.le_of_ble_eq_true rfl, Nat.le_of_ble_eq_true rfl⟩ ?_
    refine ok_X3_stoodOn hR9 hB8 (by omega) (by omega) (fun hl => ?_) (fun hl => ?_)
    · refine V_ret ?_
      refine V_widen (k := 2) (n := 12) (by omega) (by omega) ?_
      exact V_zret C hr (by omega) dX6_stood_33 (hT i rfl hi9 hw hl)
    · refine V_ret ?_
      refine V_widen (k := 2) (n := 12) (by omega) (by omega) ?_
      exact V_zret C hr (by omega) dX6_stood_33 (hF i rfl hi9 hw hl)
  · refine V_callSX (fr := 6) (lo := 90) (mc := 1) (ms := 6) (As := [_]) C hxt ysX6_checkArgument w_454 dX6_stood_18 rfl rfl (Nat.le_of_ble_eq_true rfl) ⟨Nat.le_of_ble_eq_true rfl, Nat.le_of_ble_eq_true rfl⟩ ⟨Nat.le_of_ble_eq_true rfl, Nat.le_of_ble_eq_true rfl⟩ (fun _ h => h) ⟨by omega, by omega⟩ ?_
    refine ok_X6_checkArgument hlt (fun o => absurd o (by decide)) (fun _ => (hX1 i rfl hi9 hw))
    done

set_option maxHeartbeats 400000 in
set_option maxRecDepth 4000 in
theorem ok_X6_covered {l : Launch} {D : va_G} {cy : Nat → ClassId} {z : Nat} {M : Mm} {K : Option Value → Mm → Prop} {KX : String → Prop} {x : DD} (hD : DockAt cy z M x) (hI : DI x) (hlt : l.stackTraces = false) {a d : Int} (ha : -2147483648 ≤ a ∧ a < 2147483648) (hd : -2147483648 ≤ d ∧ d < 2147483648) (hT : ∀ i : Nat, a = i → i < sN (xS x) → (0 ≤ d ∧ d ≤ sc (xS x) 0) → covR (RF (xS x) i) (RA (xS x) i) d (sc (xS x) 0) → K (some (iv 1)) M) (hF : ∀ i : Nat, a = i → i < sN (xS x) → (0 ≤ d ∧ d ≤ sc (xS x) 0) → ¬ covR (RF (xS x) i) (RA (xS x) i) d (sc (xS x) 0) → K (some (iv 0)) M) (hXi : (a < 0 ∨ (sN (xS x) : Int) ≤ a) → KX eI) (hX1 : ∀ i : Nat, a = i → i < sN (xS x) → ¬ (0 ≤ d ∧ d ≤ sc (xS x) 0) → KX eA) :
    MX l D cy z false yX6_covered (wsy yX6_covered cX6_covered 4 (some .boolean)) 7 111 2 12 M [.ref (z + 0), iv a, iv d] K KX := by
  refine MX_of (by decide) w_712 (Nat.le_of_ble_eq_true rfl) ?_
  intro p e s m args below meth c C hr hxt
  have hD9 := hD
  have hI9 := hI
  obtain ⟨gn, g0, g1, gX, hS9, gA, gJ⟩ := id hD
  obtain ⟨hB9, hC9, hV9, hL9, hb9⟩ := id hI
  obtain ⟨hn, c0, c1, c2, c3, c4, cR⟩ := id hS9
  obtain ⟨d0, d1, d2, d4, d5, d6, dH, dR⟩ := id hB9
  obtain ⟨tn, t0, t1, t2, t3⟩ := id gX
  refine V_aload_n C dX6_covered_0 rfl ?_
  refine V_iload_n C dX6_covered_1 rfl ?_
  refine V_callVX (fr := 6) (lo := 90) (mc := 1) (ms := 6) (As := [_]) C hxt yvX6_existingRight w_615 dX6_covered_2 rfl rfl (by repeat (first | with_reducible assumption | with_reducible exact mset_self _ _ _ | refine (mset_ne (by omega)).trans ?_)) (by (try simp only [mset_1]); omega) rfl rfl (Nat.le_of_ble_eq_true rfl) ⟨Nat.le_of_ble_eq_true rfl, Nat.le_of_ble_eq_true rfl⟩ ⟨Nat.le_of_ble_eq_true rfl, Nat.le_of_ble_eq_true rfl⟩ (fun _ h => h) ⟨by omega, by omega⟩ ?_
  refine ok_X6_existingRight hD9 hI9 hlt (by omega) (fun i ia hi9 => ?_) (fun o => hXi o)
  subst ia
  have hi : i < 10 := by omega
  have hR9 := cR i hi
  have hB8 := dR i hi
  have hnr := hR9.1
  have mr := hR9.2.1
  have hB7 := hB8
  obtain ⟨b0, b1, b2, b3, b4⟩ := hB7
  refine V_astore_n C dX6_covered_5 (by decide) ?_
  refine V_iload_n C dX6_covered_6 rfl ?_
  refine V_iconst C dX6_covered_7 ?_
  refine V_aload_n C dX6_covered_8 rfl ?_
  refine V_get C fg_X6_10 dX6_covered_9 (by repeat (first | with_reducible assumption | with_reducible exact mset_self _ _ _ | refine (mset_ne (by omega)).trans ?_)) (by (try simp only [mset_1]); omega) (by rfl) ?_
  refine V_get C fg_X6_85 dX6_covered_12 (by repeat (first | with_reducible assumption | with_reducible exact mset_self _ _ _ | refine (mset_ne (by omega)).trans ?_)) (by (try simp only [mset_1]); omega) (by rfl) ?_
  refine V_callS (fr := 0) (lo := 0) (mc := 0) (ms := 0) (As := [_, _, _]) C ysX6_isWithin w_451 dX6_covered_15 rfl rfl (Nat.le_of_ble_eq_true rfl) ⟨Nat.le_of_ble_eq_true rfl, Nat.le_of_ble_eq_true rfl⟩ ⟨Nat.le_of_ble_eq_true rfl, Nat.le_of_ble_eq_true rfl⟩ ?_
  refine ok_X6_isWithin (by omega) (by omega) (by omega) (fun hw => ?_) (fun hw => ?_)
  · refine V_callSX (fr := 6) (lo := 90) (mc := 1) (ms := 6) (As := [_]) C hxt ysX6_checkArgument w_454 dX6_covered_18 rfl rfl (Nat.le_of_ble_eq_true rfl) ⟨Nat.le_of_ble_eq_true rfl, Nat.le_of_ble_eq_true rfl⟩ ⟨Nat.le_of_ble_eq_true rfl, Nat.le_of_ble_eq_true rfl⟩ (fun _ h => h) ⟨by omega, by omega⟩ ?_
    refine ok_X6_checkArgument hlt (fun _ => ?_) (fun o => absurd o (by decide))
    refine V_aload_n C dX6_covered_21 rfl ?_
    refine V_iload_n C dX6_covered_22 rfl ?_
    refine V_aload_n C dX6_covered_23 rfl ?_
    refine V_get C fg_X6_10 dX6_covered_24 (by repeat (first | with_reducible assumption | with_reducible exact mset_self _ _ _ | refine (mset_ne (by omega)).trans ?_)) (by (try simp only [mset_1]); omega) (by rfl) ?_
    refine V_get C fg_X6_85 dX6_covered_27 (by repeat (first | with_reducible assumption | with_reducible exact mset_self _ _ _ | refine (mset_ne (by omega)).trans ?_)) (by (try simp only [mset_1]); omega) (by rfl) ?_
    refine V_callV (fr := 1) (lo := 21) (mc := 0) (ms := 0) (As := [_, _]) C yvX3_paidForOn w_713 dX6_covered_30 rfl rfl (by repeat (first | with_reducible assumption | with_reducible exact mset_self _ _ _ | refine (mset_ne (by omega)).trans ?_)) (by (try simp only [mset_1]); omega) rfl rfl (Nat.le_of_ble_eq_true rfl) ⟨Nat.le_of_ble_eq_true rfl, Nat.le_of_ble_eq_true rfl⟩ ⟨Nat.le_of_ble_eq_true rfl, Nat.le_of_ble_eq_true rfl⟩ ?_
    refine ok_X3_paidForOn hR9 hB8 (by omega) (by omega) (fun hl => ?_) (fun hl => ?_)
    · refine V_ret ?_
      refine V_widen (k := 2) (n := 12) (by omega) (by omega) ?_
      exact V_zret C hr (by omega) dX6_covered_33 (hT i rfl hi9 hw hl)
    · refine V_ret ?_
      refine V_widen (k := 2) (n := 12) (by omega) (by omega) ?_
      exact V_zret C hr (by omega) dX6_covered_33 (hF i rfl hi9 hw hl)
  · refine V_callSX (fr := 6) (lo := 90) (mc := 1) (ms := 6) (As := [_]) C hxt ysX6_checkArgument w_454 dX6_covered_18 rfl rfl (Nat.le_of_ble_eq_true rfl) ⟨Nat.le_of_ble_eq_true rfl, Nat.le_of_ble_eq_true rfl⟩ ⟨Nat.le_of_ble_eq_true rfl, Nat.le_of_ble_eq_true rfl⟩ (fun _ h => h) ⟨by omega, by omega⟩ ?_
    refine ok_X6_checkArgument hlt (fun o => absurd o (by decide)) (fun _ => (hX1 i rfl hi9 hw))
    done

set_option maxHeartbeats 400000 in
set_option maxRecDepth 4000 in
theorem ok_X6_user {l : Launch} {D : va_G} {cy : Nat → ClassId} {z : Nat} {M : Mm} {K : Option Value → Mm → Prop} {KX : String → Prop} {x : DD} (hD : DockAt cy z M x) (hI : DI x) (hlt : l.stackTraces = false) {a v : Int} (ha : -2147483648 ≤ a ∧ a < 2147483648) (hv : -2147483648 ≤ v ∧ v < 2147483648) (hK : ∀ i u : Nat, a = i → i < sN (xS x) → v = u → u < 10 → K (some (iv (stU (RF (xS x) i) (RA (xS x) i) u))) M) (hXi : (a < 0 ∨ (sN (xS x) : Int) ≤ a) → KX eI) (hX1 : ∀ i : Nat, a = i → i < sN (xS x) → ¬ (0 ≤ v ∧ v ≤ 9) → KX eA) :
    MX l D cy z false yX6_user (wsy yX6_user cX6_user 4 (some .int)) 7 111 2 12 M [.ref (z + 0), iv a, iv v] K KX := by
  refine MX_of (by decide) w_727 (Nat.le_of_ble_eq_true rfl) ?_
  intro p e s m args below meth c C hr hxt
  have hD9 := hD
  have hI9 := hI
  obtain ⟨gn, g0, g1, gX, hS9, gA, gJ⟩ := id hD
  obtain ⟨hB9, hC9, hV9, hL9, hb9⟩ := id hI
  obtain ⟨hn, c0, c1, c2, c3, c4, cR⟩ := id hS9
  obtain ⟨d0, d1, d2, d4, d5, d6, dH, dR⟩ := id hB9
  obtain ⟨tn, t0, t1, t2, t3⟩ := id gX
  refine V_aload_n C dX6_user_0 rfl ?_
  refine V_iload_n C dX6_user_1 rfl ?_
  refine V_callVX (fr := 6) (lo := 90) (mc := 1) (ms := 6) (As := [_]) C hxt yvX6_existingRight w_615 dX6_user_2 rfl rfl (by repeat (first | with_reducible assumption | with_reducible exact mset_self _ _ _ | refine (mset_ne (by omega)).trans ?_)) (by (try simp only [mset_1]); omega) rfl rfl (Nat.le_of_ble_eq_true rfl) ⟨Nat.le_of_ble_eq_true rfl, Nat.le_of_ble_eq_true rfl⟩ ⟨Nat.le_of_ble_eq_true rfl, Nat.le_of_ble_eq_true rfl⟩ (fun _ h => h) ⟨by omega, by omega⟩ ?_
  refine ok_X6_existingRight hD9 hI9 hlt (by omega) (fun i ia hi9 => ?_) (fun o => hXi o)
  subst ia
  have hi : i < 10 := by omega
  have hR9 := cR i hi
  have hB8 := dR i hi
  have hnr := hR9.1
  have mr := hR9.2.1
  have hB7 := hB8
  obtain ⟨b0, b1, b2, b3, b4⟩ := hB7
  refine V_astore_n C dX6_user_5 (by decide) ?_
  refine V_iload_n C dX6_user_6 rfl ?_
  refine V_iconst C dX6_user_7 ?_
  refine V_bipush C dX6_user_8 (by decide) ?_
  refine V_callS (fr := 0) (lo := 0) (mc := 0) (ms := 0) (As := [_, _, _]) C ysX6_isWithin w_451 dX6_user_10 rfl rfl (Nat.le_of_ble_eq_true rfl) ⟨Nat.le_of_ble_eq_true rfl, Nat.le_of_ble_eq_true rfl⟩ ⟨Nat.le_of_ble_eq_true rfl, Nat.le_of_ble_eq_true rfl⟩ ?_
  refine ok_X6_isWithin (by omega) (by omega) (by omega) (fun hw => ?_) (fun hw => ?_)
  · refine V_callSX (fr := 6) (lo := 90) (mc := 1) (ms := 6) (As := [_]) C hxt ysX6_checkArgument w_454 dX6_user_13 rfl rfl (Nat.le_of_ble_eq_true rfl) ⟨Nat.le_of_ble_eq_true rfl, Nat.le_of_ble_eq_true rfl⟩ ⟨Nat.le_of_ble_eq_true rfl, Nat.le_of_ble_eq_true rfl⟩ (fun _ h => h) ⟨by omega, by omega⟩ ?_
    refine ok_X6_checkArgument hlt (fun _ => ?_) (fun o => absurd o (by decide))
    obtain ⟨u, rfl⟩ := Int.eq_ofNat_of_zero_le (show 0 ≤ v from hw.1)
    have hu9 : u < 10 := by omega
    refine V_aload_n C dX6_user_16 rfl ?_
    refine V_iload_n C dX6_user_17 rfl ?_
    refine V_callV (fr := 2) (lo := 43) (mc := 0) (ms := 0) (As := [_]) C yvX3_standingOfUser w_441 dX6_user_18 rfl rfl (by repeat (first | with_reducible assumption | with_reducible exact mset_self _ _ _ | refine (mset_ne (by omega)).trans ?_)) (by (try simp only [mset_1]); omega) rfl rfl (Nat.le_of_ble_eq_true rfl) ⟨Nat.le_of_ble_eq_true rfl, Nat.le_of_ble_eq_true rfl⟩ ⟨Nat.le_of_ble_eq_true rfl, Nat.le_of_ble_eq_true rfl⟩ ?_
    refine ok_X3_standingOfUser hR9 hB8 hu9 ?_
    refine V_ret ?_
    refine V_widen (k := 2) (n := 12) (by omega) (by omega) ?_
    exact V_iret C hr dX6_user_21 (hK i u rfl hi9 rfl hu9)
  · refine V_callSX (fr := 6) (lo := 90) (mc := 1) (ms := 6) (As := [_]) C hxt ysX6_checkArgument w_454 dX6_user_13 rfl rfl (Nat.le_of_ble_eq_true rfl) ⟨Nat.le_of_ble_eq_true rfl, Nat.le_of_ble_eq_true rfl⟩ ⟨Nat.le_of_ble_eq_true rfl, Nat.le_of_ble_eq_true rfl⟩ (fun _ h => h) ⟨by omega, by omega⟩ ?_
    refine ok_X6_checkArgument hlt (fun o => absurd o (by decide)) (fun _ => (hX1 i rfl hi9 hw))
    done

set_option maxHeartbeats 400000 in
set_option maxRecDepth 4000 in
theorem ok_X6_value {l : Launch} {D : va_G} {cy : Nat → ClassId} {z : Nat} {M : Mm} {K : Option Value → Mm → Prop} {KX : String → Prop} {x : DD} (hD : DockAt cy z M x) (hI : DI x) (hlt : l.stackTraces = false) {w : Int} (hw : -2147483648 ≤ w ∧ w < 2147483648) (hK : 0 ≤ w ∧ w ≤ 11 → K (some (iv (dvT (xS x) w))) M) (hX : ¬ (0 ≤ w ∧ w ≤ 11) → KX eA) :
    MX l D cy z false yX6_value (wsy yX6_value cX6_value 2 (some .int)) 7 110 1 6 M [.ref (z + 0), iv w] K KX := by
  refine MX_of (by decide) w_734 (Nat.le_of_ble_eq_true rfl) ?_
  intro p e s m args below meth c C hr hxt
  have hD9 := hD
  have hI9 := hI
  obtain ⟨gn, g0, g1, gX, hS9, gA, gJ⟩ := id hD
  obtain ⟨hB9, hC9, hV9, hL9, hb9⟩ := id hI
  obtain ⟨hn, c0, c1, c2, c3, c4, cR⟩ := id hS9
  obtain ⟨d0, d1, d2, d4, d5, d6, dH, dR⟩ := id hB9
  obtain ⟨tn, t0, t1, t2, t3⟩ := id gX
  refine V_iload_n C dX6_value_0 rfl ?_
  refine V_iconst C dX6_value_1 ?_
  refine V_bipush C dX6_value_2 (by decide) ?_
  refine V_callS (fr := 0) (lo := 0) (mc := 0) (ms := 0) (As := [_, _, _]) C ysX6_isWithin w_451 dX6_value_4 rfl rfl (Nat.le_of_ble_eq_true rfl) ⟨Nat.le_of_ble_eq_true rfl, Nat.le_of_ble_eq_true rfl⟩ ⟨Nat.le_of_ble_eq_true rfl, Nat.le_of_ble_eq_true rfl⟩ ?_
  refine ok_X6_isWithin (by omega) (by omega) (by omega) (fun hw => ?_) (fun hw => ?_)
  · refine V_callSX (fr := 6) (lo := 90) (mc := 1) (ms := 6) (As := [_]) C hxt ysX6_checkArgument w_454 dX6_value_7 rfl rfl (Nat.le_of_ble_eq_true rfl) ⟨Nat.le_of_ble_eq_true rfl, Nat.le_of_ble_eq_true rfl⟩ ⟨Nat.le_of_ble_eq_true rfl, Nat.le_of_ble_eq_true rfl⟩ (fun _ h => h) ⟨by omega, by omega⟩ ?_
    refine ok_X6_checkArgument hlt (fun _ => ?_) (fun o => absurd o (by decide))
    refine V_aload_n C dX6_value_10 rfl ?_
    refine V_get C fg_X6_10 dX6_value_11 (by repeat (first | with_reducible assumption | with_reducible exact mset_self _ _ _ | refine (mset_ne (by omega)).trans ?_)) (by (try simp only [mset_1]); omega) (by rfl) ?_
    refine V_iload_n C dX6_value_14 rfl ?_
    refine V_callV (fr := 4) (lo := 87) (mc := 0) (ms := 0) (As := [_]) C yvX4_docketValue w_389 dX6_value_15 rfl rfl (by repeat (first | with_reducible assumption | with_reducible exact mset_self _ _ _ | refine (mset_ne (by omega)).trans ?_)) (by (try simp only [mset_1]); omega) rfl rfl (Nat.le_of_ble_eq_true rfl) ⟨Nat.le_of_ble_eq_true rfl, Nat.le_of_ble_eq_true rfl⟩ ⟨Nat.le_of_ble_eq_true rfl, Nat.le_of_ble_eq_true rfl⟩ ?_
    refine ok_X4_docketValue hS9 hB9 hw ?_
    refine V_ret ?_
    refine V_widen (k := 1) (n := 6) (by omega) (by omega) ?_
    exact V_iret C hr dX6_value_18 (hK hw)
  · refine V_callSX (fr := 6) (lo := 90) (mc := 1) (ms := 6) (As := [_]) C hxt ysX6_checkArgument w_454 dX6_value_7 rfl rfl (Nat.le_of_ble_eq_true rfl) ⟨Nat.le_of_ble_eq_true rfl, Nat.le_of_ble_eq_true rfl⟩ ⟨Nat.le_of_ble_eq_true rfl, Nat.le_of_ble_eq_true rfl⟩ (fun _ h => h) ⟨by omega, by omega⟩ ?_
    refine ok_X6_checkArgument hlt (fun o => absurd o (by decide)) (fun _ => (hX hw))
    done

set_option maxHeartbeats 400000 in
set_option maxRecDepth 4000 in
theorem ok_X6_nextDue {l : Launch} {D : va_G} {cy : Nat → ClassId} {z : Nat} {M : Mm} {K : Option Value → Mm → Prop}  {x : DD} (hD : DockAt cy z M x) (hI : DI x)  (hK : K (some (iv (fdS (xS x) (sN (xS x))).1)) M) :
    MT l D cy z false yX6_nextDue (wsy yX6_nextDue cX6_nextDue 1 (some .int)) 3 67 0 0 M [.ref (z + 0)] K := by
  refine MT_of (by decide) w_285 (Nat.le_of_ble_eq_true rfl) ?_
  intro p e s m args below meth c C hr hx0
  have hD9 := hD
  have hI9 := hI
  obtain ⟨gn, g0, g1, gX, hS9, gA, gJ⟩ := id hD
  obtain ⟨hB9, hC9, hV9, hL9, hb9⟩ := id hI
  obtain ⟨hn, c0, c1, c2, c3, c4, cR⟩ := id hS9
  obtain ⟨d0, d1, d2, d4, d5, d6, dH, dR⟩ := id hB9
  obtain ⟨tn, t0, t1, t2, t3⟩ := id gX
  refine V_aload_n C dX6_nextDue_0 rfl ?_
  refine V_get C fg_X6_10 dX6_nextDue_1 (by repeat (first | with_reducible assumption | with_reducible exact mset_self _ _ _ | refine (mset_ne (by omega)).trans ?_)) (by (try simp only [mset_1]); omega) (by rfl) ?_
  refine V_callV (fr := 2) (lo := 43) (mc := 0) (ms := 0) (As := []) C yvX4_rightDueFirst w_286 dX6_nextDue_4 rfl rfl (by repeat (first | with_reducible assumption | with_reducible exact mset_self _ _ _ | refine (mset_ne (by omega)).trans ?_)) (by (try simp only [mset_1]); omega) rfl rfl (Nat.le_of_ble_eq_true rfl) ⟨Nat.le_of_ble_eq_true rfl, Nat.le_of_ble_eq_true rfl⟩ ⟨Nat.le_of_ble_eq_true rfl, Nat.le_of_ble_eq_true rfl⟩ ?_
  refine ok_X4_rightDueFirst hS9 hB9 ?_
  exact V_iret C hr dX6_nextDue_7 hK

set_option maxHeartbeats 400000 in
set_option maxRecDepth 4000 in
theorem ok_X6_costs {l : Launch} {D : va_G} {cy : Nat → ClassId} {z : Nat} {M : Mm} {K : Option Value → Mm → Prop} {KX : String → Prop} {x : DD} (hD : DockAt cy z M x) (hI : DI x) (hlt : l.stackTraces = false) {w : Int} (hw : -2147483648 ≤ w ∧ w < 2147483648) (hK : 0 ≤ w ∧ w ≤ 4000 → K (some (iv (cstW (xS x) w (sN (xS x))))) M) (hX : ¬ (0 ≤ w ∧ w ≤ 4000) → KX eA) :
    MX l D cy z false yX6_costs (wsy yX6_costs cX6_costs 2 (some .int)) 7 114 1 6 M [.ref (z + 0), iv w] K KX := by
  refine MX_of (by decide) w_741 (Nat.le_of_ble_eq_true rfl) ?_
  intro p e s m args below meth c C hr hxt
  have hD9 := hD
  have hI9 := hI
  obtain ⟨gn, g0, g1, gX, hS9, gA, gJ⟩ := id hD
  obtain ⟨hB9, hC9, hV9, hL9, hb9⟩ := id hI
  obtain ⟨hn, c0, c1, c2, c3, c4, cR⟩ := id hS9
  obtain ⟨d0, d1, d2, d4, d5, d6, dH, dR⟩ := id hB9
  obtain ⟨tn, t0, t1, t2, t3⟩ := id gX
  refine V_iload_n C dX6_costs_0 rfl ?_
  refine V_iconst C dX6_costs_1 ?_
  refine V_sipush C dX6_costs_2 (by decide) ?_
  refine V_callS (fr := 0) (lo := 0) (mc := 0) (ms := 0) (As := [_, _, _]) C ysX6_isWithin w_451 dX6_costs_5 rfl rfl (Nat.le_of_ble_eq_true rfl) ⟨Nat.le_of_ble_eq_true rfl, Nat.le_of_ble_eq_true rfl⟩ ⟨Nat.le_of_ble_eq_true rfl, Nat.le_of_ble_eq_true rfl⟩ ?_
  refine ok_X6_isWithin (by omega) (by omega) (by omega) (fun hw => ?_) (fun hw => ?_)
  · refine V_callSX (fr := 6) (lo := 90) (mc := 1) (ms := 6) (As := [_]) C hxt ysX6_checkArgument w_454 dX6_costs_8 rfl rfl (Nat.le_of_ble_eq_true rfl) ⟨Nat.le_of_ble_eq_true rfl, Nat.le_of_ble_eq_true rfl⟩ ⟨Nat.le_of_ble_eq_true rfl, Nat.le_of_ble_eq_true rfl⟩ (fun _ h => h) ⟨by omega, by omega⟩ ?_
    refine ok_X6_checkArgument hlt (fun _ => ?_) (fun o => absurd o (by decide))
    refine V_aload_n C dX6_costs_11 rfl ?_
    refine V_get C fg_X6_10 dX6_costs_12 (by repeat (first | with_reducible assumption | with_reducible exact mset_self _ _ _ | refine (mset_ne (by omega)).trans ?_)) (by (try simp only [mset_1]); omega) (by rfl) ?_
    refine V_iload_n C dX6_costs_15 rfl ?_
    refine V_callV (fr := 4) (lo := 91) (mc := 0) (ms := 0) (As := [_]) C yvX4_costsWithin w_742 dX6_costs_16 rfl rfl (by repeat (first | with_reducible assumption | with_reducible exact mset_self _ _ _ | refine (mset_ne (by omega)).trans ?_)) (by (try simp only [mset_1]); omega) rfl rfl (Nat.le_of_ble_eq_true rfl) ⟨Nat.le_of_ble_eq_true rfl, Nat.le_of_ble_eq_true rfl⟩ ⟨Nat.le_of_ble_eq_true rfl, Nat.le_of_ble_eq_true rfl⟩ ?_
    refine ok_X4_costsWithin hS9 hB9 hw ?_
    refine V_ret ?_
    refine V_widen (k := 1) (n := 6) (by omega) (by omega) ?_
    exact V_iret C hr dX6_costs_19 (hK hw)
  · refine V_callSX (fr := 6) (lo := 90) (mc := 1) (ms := 6) (As := [_]) C hxt ysX6_checkArgument w_454 dX6_costs_8 rfl rfl (Nat.le_of_ble_eq_true rfl) ⟨Nat.le_of_ble_eq_true rfl, Nat.le_of_ble_eq_true rfl⟩ ⟨Nat.le_of_ble_eq_true rfl, Nat.le_of_ble_eq_true rfl⟩ (fun _ h => h) ⟨by omega, by omega⟩ ?_
    refine ok_X6_checkArgument hlt (fun o => absurd o (by decide)) (fun _ => (hX hw))
    done

set_option maxHeartbeats 400000 in
set_option maxRecDepth 4000 in
theorem ok_X6_lapsing {l : Launch} {D : va_G} {cy : Nat → ClassId} {z : Nat} {M : Mm} {K : Option Value → Mm → Prop} {KX : String → Prop} {x : DD} (hD : DockAt cy z M x) (hI : DI x) (hlt : l.stackTraces = false) {w : Int} (hw : -2147483648 ≤ w ∧ w < 2147483648) (hK : 0 ≤ w ∧ w ≤ 4000 → K (some (iv ((cntN (fun i => !lapB (RF (xS x) i) (RA (xS x) i) (sc (xS x) 0) && lapB (RF (xS x) i) (RA (xS x) i) (sc (xS x) 0 + w)) (sN (xS x)) : Nat) : Int))) M) (hX : ¬ (0 ≤ w ∧ w ≤ 4000) → KX eA) :
    MX l D cy z false yX6_lapsing (wsy yX6_lapsing cX6_lapsing 2 (some .int)) 7 110 1 6 M [.ref (z + 0), iv w] K KX := by
  refine MX_of (by decide) w_756 (Nat.le_of_ble_eq_true rfl) ?_
  intro p e s m args below meth c C hr hxt
  have hD9 := hD
  have hI9 := hI
  obtain ⟨gn, g0, g1, gX, hS9, gA, gJ⟩ := id hD
  obtain ⟨hB9, hC9, hV9, hL9, hb9⟩ := id hI
  obtain ⟨hn, c0, c1, c2, c3, c4, cR⟩ := id hS9
  obtain ⟨d0, d1, d2, d4, d5, d6, dH, dR⟩ := id hB9
  obtain ⟨tn, t0, t1, t2, t3⟩ := id gX
  refine V_iload_n C dX6_lapsing_0 rfl ?_
  refine V_iconst C dX6_lapsing_1 ?_
  refine V_sipush C dX6_lapsing_2 (by decide) ?_
  refine V_callS (fr := 0) (lo := 0) (mc := 0) (ms := 0) (As := [_, _, _]) C ysX6_isWithin w_451 dX6_lapsing_5 rfl rfl (Nat.le_of_ble_eq_true rfl) ⟨Nat.le_of_ble_eq_true rfl, Nat.le_of_ble_eq_true rfl⟩ ⟨Nat.le_of_ble_eq_true rfl, Nat.le_of_ble_eq_true rfl⟩ ?_
  refine ok_X6_isWithin (by omega) (by omega) (by omega) (fun hw => ?_) (fun hw => ?_)
  · refine V_callSX (fr := 6) (lo := 90) (mc := 1) (ms := 6) (As := [_]) C hxt ysX6_checkArgument w_454 dX6_lapsing_8 rfl rfl (Nat.le_of_ble_eq_true rfl) ⟨Nat.le_of_ble_eq_true rfl, Nat.le_of_ble_eq_true rfl⟩ ⟨Nat.le_of_ble_eq_true rfl, Nat.le_of_ble_eq_true rfl⟩ (fun _ h => h) ⟨by omega, by omega⟩ ?_
    refine ok_X6_checkArgument hlt (fun _ => ?_) (fun o => absurd o (by decide))
    refine V_aload_n C dX6_lapsing_11 rfl ?_
    refine V_get C fg_X6_10 dX6_lapsing_12 (by repeat (first | with_reducible assumption | with_reducible exact mset_self _ _ _ | refine (mset_ne (by omega)).trans ?_)) (by (try simp only [mset_1]); omega) (by rfl) ?_
    refine V_iload_n C dX6_lapsing_15 rfl ?_
    refine V_callV (fr := 2) (lo := 43) (mc := 0) (ms := 0) (As := [_]) C yvX4_lapsesWithin w_603 dX6_lapsing_16 rfl rfl (by repeat (first | with_reducible assumption | with_reducible exact mset_self _ _ _ | refine (mset_ne (by omega)).trans ?_)) (by (try simp only [mset_1]); omega) rfl rfl (Nat.le_of_ble_eq_true rfl) ⟨Nat.le_of_ble_eq_true rfl, Nat.le_of_ble_eq_true rfl⟩ ⟨Nat.le_of_ble_eq_true rfl, Nat.le_of_ble_eq_true rfl⟩ ?_
    refine ok_X4_lapsesWithin hS9 hB9 hw ?_
    refine V_ret ?_
    refine V_widen (k := 1) (n := 6) (by omega) (by omega) ?_
    exact V_iret C hr dX6_lapsing_19 (hK hw)
  · refine V_callSX (fr := 6) (lo := 90) (mc := 1) (ms := 6) (As := [_]) C hxt ysX6_checkArgument w_454 dX6_lapsing_8 rfl rfl (Nat.le_of_ble_eq_true rfl) ⟨Nat.le_of_ble_eq_true rfl, Nat.le_of_ble_eq_true rfl⟩ ⟨Nat.le_of_ble_eq_true rfl, Nat.le_of_ble_eq_true rfl⟩ (fun _ h => h) ⟨by omega, by omega⟩ ?_
    refine ok_X6_checkArgument hlt (fun o => absurd o (by decide)) (fun _ => (hX hw))
    done

set_option maxHeartbeats 400000 in
set_option maxRecDepth 4000 in
theorem ok_X6_append {l : Launch} {D : va_G} {cy : Nat → ClassId} {z : Nat} {M : Mm} {K : Option Value → Mm → Prop} {KX : String → Prop} {x : DD} (hD : DockAt cy z M x) (hI : DI x) (hlt : l.stackTraces = false) {v : Int} (hv : -2147483648 ≤ v ∧ v < 2147483648) (hK : 0 ≤ v ∧ v ≤ 127 → xT x 0 < 100 → ∀ M', Sm M M' (fun j => j < 331) → DockAt cy z M' (apD x v) → K (some (iv (xT x 0 + 1))) M') (hX1 : ¬ (0 ≤ v ∧ v ≤ 127) → KX eA) (hX2 : 0 ≤ v ∧ v ≤ 127 → ¬ xT x 0 < 100 → KX eS) :
    MX l D cy z false yX6_append (wsy yX6_append cX6_append 2 (some .int)) 7 110 2 12 M [.ref (z + 0), iv v] K KX := by
  refine MX_of (by decide) w_780 (Nat.le_of_ble_eq_true rfl) ?_
  intro p e s m args below meth c C hr hxt
  have hD9 := hD
  have hI9 := hI
  obtain ⟨gn, g0, g1, gX, hS9, gA, gJ⟩ := id hD
  obtain ⟨hB9, hC9, hV9, hL9, hb9⟩ := id hI
  obtain ⟨hn, c0, c1, c2, c3, c4, cR⟩ := id hS9
  obtain ⟨d0, d1, d2, d4, d5, d6, dH, dR⟩ := id hB9
  obtain ⟨tn, t0, t1, t2, t3⟩ := id gX
  refine V_iload_n C dX6_append_0 rfl ?_
  refine V_iconst C dX6_append_1 ?_
  refine V_bipush C dX6_append_2 (by decide) ?_
  refine V_callS (fr := 0) (lo := 0) (mc := 0) (ms := 0) (As := [_, _, _]) C ysX6_isWithin w_451 dX6_append_4 rfl rfl (Nat.le_of_ble_eq_true rfl) ⟨Nat.le_of_ble_eq_true rfl, Nat.le_of_ble_eq_true rfl⟩ ⟨Nat.le_of_ble_eq_true rfl, Nat.le_of_ble_eq_true rfl⟩ ?_
  refine ok_X6_isWithin (by omega) (by omega) (by omega) (fun hw => ?_) (fun hw => ?_)
  · refine V_callSX (fr := 6) (lo := 90) (mc := 1) (ms := 6) (As := [_]) C hxt ysX6_checkArgument w_454 dX6_append_7 rfl rfl (Nat.le_of_ble_eq_true rfl) ⟨Nat.le_of_ble_eq_true rfl, Nat.le_of_ble_eq_true rfl⟩ ⟨Nat.le_of_ble_eq_true rfl, Nat.le_of_ble_eq_true rfl⟩ (fun _ h => h) ⟨by omega, by omega⟩ ?_
    refine ok_X6_checkArgument hlt (fun _ => ?_) (fun o => absurd o (by decide))
    refine V_aload_n C dX6_append_10 rfl ?_
    refine V_get C fg_X6_27 dX6_append_11 (by repeat (first | with_reducible assumption | with_reducible exact mset_self _ _ _ | refine (mset_ne (by omega)).trans ?_)) (by (try simp only [mset_1]); omega) (by rfl) ?_
    refine V_get C fg_X6_178 dX6_append_14 (by repeat (first | with_reducible assumption | with_reducible exact mset_self _ _ _ | refine (mset_ne (by omega)).trans ?_)) (by (try simp only [mset_1]); omega) (by rfl) ?_
    refine V_bipush C dX6_append_17 (by decide) ?_
    refine V_icmp_ge C dX6_append_19 (tgt := 26) (by decide) (by omega) (by omega) (fun g19 => ?_) (fun g19 => ?_)
    · refine V_iconst C dX6_append_26 ?_
      refine V_callSX (fr := 6) (lo := 90) (mc := 1) (ms := 6) (As := [_]) C hxt ysX6_checkState w_561 dX6_append_27 rfl rfl (Nat.le_of_ble_eq_true rfl) ⟨Nat.le_of_ble_eq_true rfl, Nat.le_of_ble_eq_true rfl⟩ ⟨Nat.le_of_ble_eq_true rfl, Nat.le_of_ble_eq_true rfl⟩ (fun _ h => h) ⟨by omega, by omega⟩ ?_
      refine ok_X6_checkState hlt (fun o => absurd o (by decide)) (fun _ => (hX2 hw (by omega)))
      done
    · refine V_iconst C dX6_append_22 ?_
      refine V_goto C dX6_append_23 (tgt := 27) (by decide) ?_
      refine V_callSX (fr := 6) (lo := 90) (mc := 1) (ms := 6) (As := [_]) C hxt ysX6_checkState w_561 dX6_append_27 rfl rfl (Nat.le_of_ble_eq_true rfl) ⟨Nat.le_of_ble_eq_true rfl, Nat.le_of_ble_eq_true rfl⟩ ⟨Nat.le_of_ble_eq_true rfl, Nat.le_of_ble_eq_true rfl⟩ (fun _ h => h) ⟨by omega, by omega⟩ ?_
      refine ok_X6_checkState hlt (fun _ => ?_) (fun o => absurd o (by decide))
      refine V_aload_n C dX6_append_30 rfl ?_
      refine V_get C fg_X6_27 dX6_append_31 (by repeat (first | with_reducible assumption | with_reducible exact mset_self _ _ _ | refine (mset_ne (by omega)).trans ?_)) (by (try simp only [mset_1]); omega) (by rfl) ?_
      refine V_iload_n C dX6_append_34 rfl ?_
      refine V_callV (fr := 0) (lo := 0) (mc := 0) (ms := 0) (As := [_]) C yvX5_add w_781 dX6_append_35 rfl rfl (by repeat (first | with_reducible assumption | with_reducible exact mset_self _ _ _ | refine (mset_ne (by omega)).trans ?_)) (by (try simp only [mset_1]); omega) rfl rfl (Nat.le_of_ble_eq_true rfl) ⟨Nat.le_of_ble_eq_true rfl, Nat.le_of_ble_eq_true rfl⟩ ⟨Nat.le_of_ble_eq_true rfl, Nat.le_of_ble_eq_true rfl⟩ ?_
      refine ok_X5_add tn t0 t1 hL9 hw (by omega) (fun M3 s3 x3 x4 => ?_)
      have q3 := s3.1
      have z0 : M3.2 0 = _ := (s3.2 _ (by simp)).trans g0
      refine V_aload_n C dX6_append_38 rfl ?_
      refine V_get C fg_X6_27 dX6_append_39 (by repeat (first | with_reducible assumption | with_reducible exact mset_self _ _ _ | refine (mset_ne (by omega)).trans ?_)) (by (try simp only [mset_1]); omega) (by rfl) ?_
      refine V_get C fg_X6_178 dX6_append_42 (by repeat (first | with_reducible assumption | with_reducible exact mset_self _ _ _ | refine (mset_ne (by omega)).trans ?_)) (by (try simp only [mset_1]); omega) (by rfl) ?_
      refine V_ret ?_
      refine V_widen (k := 2) (n := 12) (by omega) (by omega) ?_
      exact V_iret C hr dX6_append_45 (hK hw (by omega) _ (s3.mono (fun j hj => by rcases hj with o | o <;> omega)) (hD9.txt (s3.mono (fun j hj => ⟨by rcases hj with o | o <;> omega, by rcases hj with o | o <;> omega⟩)) ⟨by rw [s3.1]; exact tn, x3, x4, (s3.2 _ (by simp)).trans t2, (s3.2 _ (by simp)).trans t3⟩))
  · refine V_callSX (fr := 6) (lo := 90) (mc := 1) (ms := 6) (As := [_]) C hxt ysX6_checkArgument w_454 dX6_append_7 rfl rfl (Nat.le_of_ble_eq_true rfl) ⟨Nat.le_of_ble_eq_true rfl, Nat.le_of_ble_eq_true rfl⟩ ⟨Nat.le_of_ble_eq_true rfl, Nat.le_of_ble_eq_true rfl⟩ (fun _ h => h) ⟨by omega, by omega⟩ ?_
    refine ok_X6_checkArgument hlt (fun o => absurd o (by decide)) (fun _ => (hX1 hw))
    done

set_option maxHeartbeats 400000 in
set_option maxRecDepth 4000 in
theorem ok_X6_clearText {l : Launch} {D : va_G} {cy : Nat → ClassId} {z : Nat} {M : Mm} {K : Option Value → Mm → Prop}  {x : DD} (hD : DockAt cy z M x) (hI : DI x)  (hK : ∀ M', Sm M M' (fun j => j < 331) → DockAt cy z M' (clD x) → K (some (iv (xT x 0))) M') :
    MT l D cy z false yX6_clearText (wsy yX6_clearText cX6_clearText 2 (some .int)) 0 0 0 0 M [.ref (z + 0)] K := by
  refine MT_of (by decide) w_293 (Nat.le_of_ble_eq_true rfl) ?_
  intro p e s m args below meth c C hr hx0
  have hD9 := hD
  have hI9 := hI
  obtain ⟨gn, g0, g1, gX, hS9, gA, gJ⟩ := id hD
  obtain ⟨hB9, hC9, hV9, hL9, hb9⟩ := id hI
  obtain ⟨hn, c0, c1, c2, c3, c4, cR⟩ := id hS9
  obtain ⟨d0, d1, d2, d4, d5, d6, dH, dR⟩ := id hB9
  obtain ⟨tn, t0, t1, t2, t3⟩ := id gX
  refine V_aload_n C dX6_clearText_0 rfl ?_
  refine V_get C fg_X6_27 dX6_clearText_1 (by repeat (first | with_reducible assumption | with_reducible exact mset_self _ _ _ | refine (mset_ne (by omega)).trans ?_)) (by (try simp only [mset_1]); omega) (by rfl) ?_
  refine V_get C fg_X6_178 dX6_clearText_4 (by repeat (first | with_reducible assumption | with_reducible exact mset_self _ _ _ | refine (mset_ne (by omega)).trans ?_)) (by (try simp only [mset_1]); omega) (by rfl) ?_
  refine V_istore_n C dX6_clearText_7 (by decide) ?_
  refine V_aload_n C dX6_clearText_8 rfl ?_
  refine V_get C fg_X6_27 dX6_clearText_9 (by repeat (first | with_reducible assumption | with_reducible exact mset_self _ _ _ | refine (mset_ne (by omega)).trans ?_)) (by (try simp only [mset_1]); omega) (by rfl) ?_
  refine V_iconst C dX6_clearText_12 ?_
  refine V_put C fp_X6_178 dX6_clearText_13 (by repeat (first | with_reducible assumption | with_reducible exact mset_self _ _ _ | refine (mset_ne (by omega)).trans ?_)) (by (try simp only [mset_1]); omega) rfl rfl (by exact Nat.le_of_ble_eq_true rfl) ?_
  refine V_iload_n C dX6_clearText_16 rfl ?_
  exact V_iret C hr dX6_clearText_17 (hK _ (Sm.set (by simp)) (hD9.txt (Sm.set ⟨by omega, by omega⟩) ⟨by simp only [mset_1]; exact tn, mset_self _ _ _, (mset_ne (by omega)).trans t1, (mset_ne (by omega)).trans t2, (mset_ne (by omega)).trans t3⟩))

set_option maxHeartbeats 400000 in
set_option maxRecDepth 4000 in
theorem ok_X6_parse {l : Launch} {D : va_G} {cy : Nat → ClassId} {z : Nat} {M : Mm} {K : Option Value → Mm → Prop}  {x : DD} (hD : DockAt cy z M x) (hI : DI x)  (hK1 : ¬ (rdD x).1.2 = -1 → ∀ M', Sm M M' (fun j => j < 331) → DockAt cy z M' (txD x) → K (some (iv (-10 - (rdD x).1.2))) M') (hK2 : (rdD x).1.2 = -1 → ∀ M', Sm M M' (fun j => j < 331) → DockAt cy z M' (setNow (svD (txD x)) (tkF (xS x) (rdD x).2.2.1 (rdD x).2.2.2 (rdD x).2.1)) → K (some (iv (((rdD x).2.1 : Nat) : Int))) M') :
    MT l D cy z false yX6_parse (wsy yX6_parse cX6_parse 2 (some .int)) 7 158 0 0 M [.ref (z + 0)] K := by
  refine MT_of (by decide) w_297 (Nat.le_of_ble_eq_true rfl) ?_
  intro p e s m args below meth c C hr hx0
  have hD9 := hD
  have hI9 := hI
  obtain ⟨gn, g0, g1, gX, hS9, gA, gJ⟩ := id hD
  obtain ⟨hB9, hC9, hV9, hL9, hb9⟩ := id hI
  obtain ⟨hn, c0, c1, c2, c3, c4, cR⟩ := id hS9
  obtain ⟨d0, d1, d2, d4, d5, d6, dH, dR⟩ := id hB9
  obtain ⟨tn, t0, t1, t2, t3⟩ := id gX
  refine V_aload_n C dX6_parse_0 rfl ?_
  refine V_get C fg_X6_27 dX6_parse_1 (by repeat (first | with_reducible assumption | with_reducible exact mset_self _ _ _ | refine (mset_ne (by omega)).trans ?_)) (by (try simp only [mset_1]); omega) (by rfl) ?_
  refine V_callV (fr := 4) (lo := 90) (mc := 0) (ms := 0) (As := []) C yvX5_read w_298 dX6_parse_4 rfl rfl (by repeat (first | with_reducible assumption | with_reducible exact mset_self _ _ _ | refine (mset_ne (by omega)).trans ?_)) (by (try simp only [mset_1]); omega) rfl rfl (Nat.le_of_ble_eq_true rfl) ⟨Nat.le_of_ble_eq_true rfl, Nat.le_of_ble_eq_true rfl⟩ ⟨Nat.le_of_ble_eq_true rfl, Nat.le_of_ble_eq_true rfl⟩ ?_
  refine ok_X5_read tn t0 t1 t2 t3 hL9 hb9 (fun M1 s1 x1 x2 x3 x4 => ?_)
  have rk := rdD_ok hI9
  have hD1 : DockAt cy z M1 (txD x) := hD9.txt s1 ⟨by rw [s1.1]; exact tn, x1, x2, x3, x4⟩
  have w1 : Sm M M1 (fun j => j < 331) := s1.mono (fun j hj => by have := hj.2; omega)
  have z0 : M1.2 0 = _ := hD1.2.1
  have zn := hD1.1
  have r1' := rk.1.2.2.1
  have r2' := rk.1.2.2.2
  rw [show (rdN (gT (xB x) (xT x 0)) (xT x 0) 11 ((0, -1), 0, xF x, xM x)).1.2 = (rdD x).1.2 from rfl]
  refine V_istore_n C dX6_parse_7 (by decide) ?_
  refine V_iload_n C dX6_parse_8 rfl ?_
  refine V_iconst C dX6_parse_9 ?_
  refine V_icmp_eq C dX6_parse_10 (tgt := 18) (by decide) (by omega) (by omega) (fun g10 => ?_) (fun g10 => ?_)
  · refine V_aload_n C dX6_parse_18 rfl ?_
    refine V_callV (fr := 3) (lo := 69) (mc := 0) (ms := 0) (As := []) C yvX6_save w_201 dX6_parse_19 rfl rfl (by repeat (first | with_reducible assumption | with_reducible exact mset_self _ _ _ | refine (mset_ne (by omega)).trans ?_)) (by (try simp only [mset_1]); omega) rfl rfl (Nat.le_of_ble_eq_true rfl) ⟨Nat.le_of_ble_eq_true rfl, Nat.le_of_ble_eq_true rfl⟩ ⟨Nat.le_of_ble_eq_true rfl, Nat.le_of_ble_eq_true rfl⟩ ?_
    refine ok_X6_save hD1 (txD_I hI9) (fun M2 s2 y2 => ?_)
    have y9 := svD_now (x := txD x)
    have b1 : StateAt cy z M2 1 (xS x) := by have o := y2.2.2.2.2.1; rw [y9] at o; exact o
    have q0 : M2.2 0 = _ := y2.2.1
    have qn := y2.1
    have k0 := b1.2.1
    have k9 : TextAt cy z M2 67 (xT (txD x)) (xB x) (rdD x).2.2.1 (rdD x).2.2.2 := by have o := y2.2.2.2.1; unfold svD at o; split at o <;> exact o
    refine V_aload_n C dX6_parse_22 rfl ?_
    refine V_get C fg_X6_10 dX6_parse_23 (by repeat (first | with_reducible assumption | with_reducible exact mset_self _ _ _ | refine (mset_ne (by omega)).trans ?_)) (by (try simp only [mset_1]); omega) (by rfl) ?_
    refine V_aload_n C dX6_parse_26 rfl ?_
    refine V_get C fg_X6_27 dX6_parse_27 (by repeat (first | with_reducible assumption | with_reducible exact mset_self _ _ _ | refine (mset_ne (by omega)).trans ?_)) (by (try simp only [mset_1]); omega) (by rfl) ?_
    refine V_callV (fr := 6) (lo := 135) (mc := 0) (ms := 0) (As := [_]) C yvX4_takeRights w_336 dX6_parse_30 rfl rfl (by repeat (first | with_reducible assumption | with_reducible exact mset_self _ _ _ | refine (mset_ne (by omega)).trans ?_)) (by (try simp only [mset_1]); omega) rfl rfl (Nat.le_of_ble_eq_true rfl) ⟨Nat.le_of_ble_eq_true rfl, Nat.le_of_ble_eq_true rfl⟩ ⟨Nat.le_of_ble_eq_true rfl, Nat.le_of_ble_eq_true rfl⟩ ?_
    refine ok_X4_takeRights b1 hB9 k9 (by omega) rfl rk.2.1 rk.2.2 (fun M3 s3 x3 => ?_)
    have q3 := s3.1
    have z3 : M3.2 0 = _ := (s3.2 _ (by simp)).trans q0
    have k3 := x3.2.1
    refine V_aload_n C dX6_parse_33 rfl ?_
    refine V_get C fg_X6_10 dX6_parse_34 (by repeat (first | with_reducible assumption | with_reducible exact mset_self _ _ _ | refine (mset_ne (by omega)).trans ?_)) (by (try simp only [mset_1]); omega) (by rfl) ?_
    refine V_get C fg_X6_65 dX6_parse_37 (by repeat (first | with_reducible assumption | with_reducible exact mset_self _ _ _ | refine (mset_ne (by omega)).trans ?_)) (by (try simp only [mset_1]); omega) (by rfl) ?_
    exact V_iret C hr dX6_parse_40 (K_of (hK2 g10 _ ((w1.trans s2).trans (PB_331 s3)) (y2.now s3 x3)) (by congr 3; unfold tkF; split <;> exact tkS_n _))
  · refine V_bipush C dX6_parse_13 (by decide) ?_
    refine V_iload_n C dX6_parse_15 rfl ?_
    refine V_isub C dX6_parse_16 ?_
    exact V_iret C hr dX6_parse_17 (hK1 g10 _ w1 hD1)

set_option maxHeartbeats 400000 in
set_option maxRecDepth 4000 in
theorem ok_X6_undo {l : Launch} {D : va_G} {cy : Nat → ClassId} {z : Nat} {M : Mm} {K : Option Value → Mm → Prop} {KX : String → Prop} {x : DD} (hD : DockAt cy z M x) (hI : DI x) (hlt : l.stackTraces = false) (hK : 0 < xC x → ∀ M', Sm M M' (fun j => j < 331) → DockAt cy z M' (unD x) → K (some (iv ((xC x - 1 : Nat) : Int))) M') (hX : xC x = 0 → KX eS) :
    MX l D cy z false yX6_undo (wsy yX6_undo cX6_undo 1 (some .int)) 7 110 1 6 M [.ref (z + 0)] K KX := by
  refine MX_of (by decide) w_791 (Nat.le_of_ble_eq_true rfl) ?_
  intro p e s m args below meth c C hr hxt
  have hD9 := hD
  have hI9 := hI
  obtain ⟨gn, g0, g1, gX, hS9, gA, gJ⟩ := id hD
  obtain ⟨hB9, hC9, hV9, hL9, hb9⟩ := id hI
  obtain ⟨hn, c0, c1, c2, c3, c4, cR⟩ := id hS9
  obtain ⟨d0, d1, d2, d4, d5, d6, dH, dR⟩ := id hB9
  obtain ⟨tn, t0, t1, t2, t3⟩ := id gX
  refine V_aload_n C dX6_undo_0 rfl ?_
  refine V_get C fg_X6_20 dX6_undo_1 (by repeat (first | with_reducible assumption | with_reducible exact mset_self _ _ _ | refine (mset_ne (by omega)).trans ?_)) (by (try simp only [mset_1]); omega) (by rfl) ?_
  refine V_if_le C dX6_undo_4 (tgt := 23) (by decide) (by omega) (fun g4 => ?_) (fun g4 => ?_)
  · refine V_iconst C dX6_undo_23 ?_
    refine V_callSX (fr := 6) (lo := 90) (mc := 1) (ms := 6) (As := [_]) C hxt ysX6_checkState w_561 dX6_undo_24 rfl rfl (Nat.le_of_ble_eq_true rfl) ⟨Nat.le_of_ble_eq_true rfl, Nat.le_of_ble_eq_true rfl⟩ ⟨Nat.le_of_ble_eq_true rfl, Nat.le_of_ble_eq_true rfl⟩ (fun _ h => h) ⟨by omega, by omega⟩ ?_
    refine ok_X6_checkState hlt (fun o => absurd o (by decide)) (fun _ => (hX (by omega)))
    done
  · refine V_aload_n C dX6_undo_7 rfl ?_
    refine V_get C fg_X6_20 dX6_undo_8 (by repeat (first | with_reducible assumption | with_reducible exact mset_self _ _ _ | refine (mset_ne (by omega)).trans ?_)) (by (try simp only [mset_1]); omega) (by rfl) ?_
    refine V_aload_n C dX6_undo_11 rfl ?_
    refine V_get C fg_X6_16 dX6_undo_12 (by repeat (first | with_reducible assumption | with_reducible exact mset_self _ _ _ | refine (mset_ne (by omega)).trans ?_)) (by (try simp only [mset_1]); omega) (by rfl) ?_
    refine V_alenQ (t := 4) C rfl dX6_undo_15 (by repeat (first | with_reducible assumption | with_reducible exact mset_self _ _ _ | refine (mset_ne (by omega)).trans ?_)) (by (try simp only [mset_1]); omega) ?_
    refine V_icmp_gt C dX6_undo_16 (tgt := 23) (by decide) (by omega) (by omega) (fun g16 => ?_) (fun g16 => ?_)
    · refine V_iconst C dX6_undo_23 ?_
      refine V_callSX (fr := 6) (lo := 90) (mc := 1) (ms := 6) (As := [_]) C hxt ysX6_checkState w_561 dX6_undo_24 rfl rfl (Nat.le_of_ble_eq_true rfl) ⟨Nat.le_of_ble_eq_true rfl, Nat.le_of_ble_eq_true rfl⟩ ⟨Nat.le_of_ble_eq_true rfl, Nat.le_of_ble_eq_true rfl⟩ (fun _ h => h) ⟨by omega, by omega⟩ ?_
      refine ok_X6_checkState hlt (fun o => absurd o (by decide)) (fun _ => (hX (by omega)))
      done
    · refine V_iconst C dX6_undo_19 ?_
      refine V_goto C dX6_undo_20 (tgt := 24) (by decide) ?_
      refine V_callSX (fr := 6) (lo := 90) (mc := 1) (ms := 6) (As := [_]) C hxt ysX6_checkState w_561 dX6_undo_24 rfl rfl (Nat.le_of_ble_eq_true rfl) ⟨Nat.le_of_ble_eq_true rfl, Nat.le_of_ble_eq_true rfl⟩ ⟨Nat.le_of_ble_eq_true rfl, Nat.le_of_ble_eq_true rfl⟩ (fun _ h => h) ⟨by omega, by omega⟩ ?_
      refine ok_X6_checkState hlt (fun _ => ?_) (fun o => absurd o (by decide))
      refine V_aload_n C dX6_undo_27 rfl ?_
      refine V_dup C dX6_undo_28 rfl ?_
      refine V_get C fg_X6_20 dX6_undo_29 (by repeat (first | with_reducible assumption | with_reducible exact mset_self _ _ _ | refine (mset_ne (by omega)).trans ?_)) (by (try simp only [mset_1]); omega) (by rfl) ?_
      refine V_iconst C dX6_undo_32 ?_
      refine V_isub C dX6_undo_33 ?_
      refine V_put C fp_X6_20 dX6_undo_34 (by repeat (first | with_reducible assumption | with_reducible exact mset_self _ _ _ | refine (mset_ne (by omega)).trans ?_)) (by (try simp only [mset_1]); omega) rfl rfl (by exact Nat.le_of_ble_eq_true rfl) ?_
      refine V_memgen (fun M0 em => ?_)
      have s0 : Sm M M0 (fun j => j = 0) := by rw [em]; exact Sm.set rfl
      have e0 : M0.2 0 = oX 5 [.ref (z + 1), .ref (z + 66), iv ((xC x : Int) - 1), .ref (z + 67)] := by rw [em]; exact mset_self _ _ _
      clear em
      have q0 := s0.1
      have w0 : M0.2 66 = _ := (s0.2 _ (by omega)).trans g1
      have hc : 0 < xC x := by omega
      have hA := gA (xC x - 1) (by omega)
      have hSv : StateAt cy z M0 (xA x (xC x - 1)) (xV x (xC x - 1)) := hA.2.2.keep s0 (fun k h1 h2 o => by have := hA.1; omega)
      have hSn : StateAt cy z M0 1 (xS x) := hS9.keep s0 (fun k h1 h2 o => by omega)
      have v1 := hSv.2.1
      have v2 := hSn.2.1
      refine V_aload_n C dX6_undo_37 rfl ?_
      refine V_get C fg_X6_10 dX6_undo_38 (by repeat (first | with_reducible assumption | with_reducible exact mset_self _ _ _ | refine (mset_ne (by omega)).trans ?_)) (by (try simp only [mset_1]); omega) (by rfl) ?_
      refine V_aload_n C dX6_undo_41 rfl ?_
      refine V_get C fg_X6_16 dX6_undo_42 (by repeat (first | with_reducible assumption | with_reducible exact mset_self _ _ _ | refine (mset_ne (by omega)).trans ?_)) (by (try simp only [mset_1]); omega) (by rfl) ?_
      refine V_aload_n C dX6_undo_45 rfl ?_
      refine V_get C fg_X6_20 dX6_undo_46 (by repeat (first | with_reducible assumption | with_reducible exact mset_self _ _ _ | refine (mset_ne (by omega)).trans ?_)) (by (try simp only [mset_1]); omega) (by rfl) ?_
      refine V_aaload (t := 4) C rfl dX6_undo_49 (by repeat (first | with_reducible assumption | with_reducible exact mset_self _ _ _ | refine (mset_ne (by omega)).trans ?_)) (by (try simp only [mset_1]); omega) (by omega) (by omega) (by rw [show ((xC x : Int) - 1).toNat = xC x - 1 by omega]) ?_
      refine V_callV (fr := 2) (lo := 47) (mc := 0) (ms := 0) (As := [_]) C yvX4_copyFrom w_209 dX6_undo_50 rfl rfl (by repeat (first | with_reducible assumption | with_reducible exact mset_self _ _ _ | refine (mset_ne (by omega)).trans ?_)) (by (try simp only [mset_1]); omega) rfl rfl (Nat.le_of_ble_eq_true rfl) ⟨Nat.le_of_ble_eq_true rfl, Nat.le_of_ble_eq_true rfl⟩ ⟨Nat.le_of_ble_eq_true rfl, Nat.le_of_ble_eq_true rfl⟩ ?_
      refine ok_X4_copyFrom hSn d2 hSv (hV9 _) (by omega) (fun M3 s3 x3 => ?_)
      have q3 := s3.1
      have z3 : M3.2 0 = _ := (s3.2 _ (by simp)).trans e0
      refine V_aload_n C dX6_undo_53 rfl ?_
      refine V_get C fg_X6_20 dX6_undo_54 (by repeat (first | with_reducible assumption | with_reducible exact mset_self _ _ _ | refine (mset_ne (by omega)).trans ?_)) (by (try simp only [mset_1]); omega) (by rfl) ?_
      refine V_ret ?_
      refine V_widen (k := 1) (n := 6) (by omega) (by omega) ?_
      exact V_iret C hr dX6_undo_57 (K_of (hK hc _ ((s0.mono (fun j hj => by have o : j = 0 := hj; omega)).trans (PB_331 s3)) (undo_at hD9 hc s0 e0 s3 x3)) (by congr 2; omega))

set_option maxHeartbeats 400000 in
set_option maxRecDepth 4000 in
theorem ok_X6_mixed {l : Launch} {D : va_G} {cy : Nat → ClassId} {z : Nat} {M : Mm} {K : Option Value → Mm → Prop} {h v : Int} (hK : K (some (lgv (31 * h + v))) M) :
    MT l D cy z false yX6_mixed (wsy yX6_mixed cX6_mixed 4 (some .long)) 0 0 0 0 M [lgv h, lgv v] K := by
  refine MT_of (by decide) w_387 (Nat.le_of_ble_eq_true rfl) ?_
  intro p e s m args below meth c C hr hx0
  refine V_ldc2 (a := 31) C w_388 rfl dX6_mixed_0 ?_
  refine V_lload_n C dX6_mixed_3 rfl ?_
  refine V_lmul C dX6_mixed_4 ?_
  refine V_lload_n C dX6_mixed_5 rfl ?_
  refine V_ladd C dX6_mixed_6 ?_
  exact V_lret C hr dX6_mixed_7 hK

set_option maxHeartbeats 400000 in
set_option maxRecDepth 4000 in
theorem ok_X6_mixedWithRight {l : Launch} {D : va_G} {cy : Nat → ClassId} {z : Nat} {M : Mm} {K : Option Value → Mm → Prop} {x : DD} (hD : DockAt cy z M x) (hI : DI x) {i : Nat} (hi : i < 10) {h : Int} (hK : K (some (lgv (mxR (xS x) i h))) M) :
    MT l D cy z false yX6_mixedWithRight (wsy yX6_mixedWithRight cX6_mixedWithRight 7 (some .long)) 6 129 0 0 M [.ref (z + 0), lgv h, .ref (z + (1 + 5 + 6 * i))] K := by
  refine MT_of (by decide) w_419 (Nat.le_of_ble_eq_true rfl) ?_
  intro p e s m args below meth c C hr hx0
  have hD9 := hD
  have hI9 := hI
  obtain ⟨gn, g0, g1, gX, hS9, gA, gJ⟩ := id hD
  obtain ⟨hB9, hC9, hV9, hL9, hb9⟩ := id hI
  obtain ⟨hn, c0, c1, c2, c3, c4, cR⟩ := id hS9
  obtain ⟨d0, d1, d2, d4, d5, d6, dH, dR⟩ := id hB9
  obtain ⟨tn, t0, t1, t2, t3⟩ := id gX
  have hR9 := cR i hi
  have hB8 := dR i hi
  have hnr := hR9.1
  have mr := hR9.2.1
  have hB7 := hB8
  obtain ⟨b0, b1, b2, b3, b4⟩ := hB7
  have loop2 : ∀ (n : Nat) (n9 : Nat), (n9 ≤ 10) → 10 - n9 < n → V p l e { frames := 6, cells := 0, slots := 0, locals := 129 } s m args below meth c D z 7 (MQ below (qc_ D z K) args s 0 0 (fun q => z ≤ q)) 0 0 M 40 [(0, .ref (z + 0)), (1, lgv h), (3, .ref (z + (1 + 5 + 6 * i))), (4, lgv (mxF (fun u => stU (RF (xS x) i) (RA (xS x) i) u) n9 (mxF (fun w : Nat => rvT (xS x) i w) 13 h))), (6, iv ((n9 : Int)))] [] := by
    intro n
    induction n with
    | zero => intro n9 hi0 hfu; exact absurd hfu (Nat.not_lt_zero _)
    | succ n ih =>
      intro n9 hi0 hfu
      refine V_iload C dX6_mixedWithRight_40 rfl ?_
      refine V_bipush C dX6_mixedWithRight_42 (by decide) ?_
      refine V_icmp_ge C dX6_mixedWithRight_44 (tgt := 67) (by decide) (by omega) (by omega) (fun g44 => ?_) (fun g44 => ?_)
      · have en : n9 = 10 := by omega
        subst en
        refine V_lload C dX6_mixedWithRight_67 rfl ?_
        refine V_aload_n C dX6_mixedWithRight_69 rfl ?_
        refine V_aload_n C dX6_mixedWithRight_70 rfl ?_
        refine V_get C fg_X6_10 dX6_mixedWithRight_71 (by repeat (first | with_reducible assumption | with_reducible exact mset_self _ _ _ | refine (mset_ne (by omega)).trans ?_)) (by (try simp only [mset_1]); omega) (by rfl) ?_
        refine V_get C fg_X6_85 dX6_mixedWithRight_74 (by repeat (first | with_reducible assumption | with_reducible exact mset_self _ _ _ | refine (mset_ne (by omega)).trans ?_)) (by (try simp only [mset_1]); omega) (by rfl) ?_
        refine V_aload_n C dX6_mixedWithRight_77 rfl ?_
        refine V_get C fg_X6_10 dX6_mixedWithRight_78 (by repeat (first | with_reducible assumption | with_reducible exact mset_self _ _ _ | refine (mset_ne (by omega)).trans ?_)) (by (try simp only [mset_1]); omega) (by rfl) ?_
        refine V_get C fg_X6_85 dX6_mixedWithRight_81 (by repeat (first | with_reducible assumption | with_reducible exact mset_self _ _ _ | refine (mset_ne (by omega)).trans ?_)) (by (try simp only [mset_1]); omega) (by rfl) ?_
        refine V_callV (fr := 2) (lo := 43) (mc := 0) (ms := 0) (As := [_, _]) C yvX3_stoodOn w_442 dX6_mixedWithRight_84 rfl rfl (by repeat (first | with_reducible assumption | with_reducible exact mset_self _ _ _ | refine (mset_ne (by omega)).trans ?_)) (by (try simp only [mset_1]); omega) rfl rfl (Nat.le_of_ble_eq_true rfl) ⟨Nat.le_of_ble_eq_true rfl, Nat.le_of_ble_eq_true rfl⟩ ⟨Nat.le_of_ble_eq_true rfl, Nat.le_of_ble_eq_true rfl⟩ ?_
        refine ok_X3_stoodOn hR9 hB8 (by omega) (by omega) (fun hl => ?_) (fun hl => ?_)
        · refine V_ifeq1 C dX6_mixedWithRight_87 (tgt := 94) (by decide) ?_
          refine V_lconst (a := 1) C dX6_mixedWithRight_90 rfl ?_
          refine V_goto C dX6_mixedWithRight_91 (tgt := 95) (by decide) ?_
          refine V_callS (fr := 0) (lo := 0) (mc := 0) (ms := 0) (As := [_, _]) C ysX6_mixed w_385 dX6_mixedWithRight_95 rfl rfl (Nat.le_of_ble_eq_true rfl) ⟨Nat.le_of_ble_eq_true rfl, Nat.le_of_ble_eq_true rfl⟩ ⟨Nat.le_of_ble_eq_true rfl, Nat.le_of_ble_eq_true rfl⟩ ?_
          refine ok_X6_mixed ?_
          exact V_lret C hr dX6_mixedWithRight_98 (by have hK2 := hK; unfold mxR at hK2; rw [if_pos (stB_t hl)] at hK2; exact hK2)
        · refine V_ifeq0 C dX6_mixedWithRight_87 (tgt := 94) (by decide) ?_
          refine V_lconst (a := 0) C dX6_mixedWithRight_94 rfl ?_
          refine V_callS (fr := 0) (lo := 0) (mc := 0) (ms := 0) (As := [_, _]) C ysX6_mixed w_385 dX6_mixedWithRight_95 rfl rfl (Nat.le_of_ble_eq_true rfl) ⟨Nat.le_of_ble_eq_true rfl, Nat.le_of_ble_eq_true rfl⟩ ⟨Nat.le_of_ble_eq_true rfl, Nat.le_of_ble_eq_true rfl⟩ ?_
          refine ok_X6_mixed ?_
          exact V_lret C hr dX6_mixedWithRight_98 (by have hK2 := hK; unfold mxR at hK2; rw [if_neg (by rw [stB_f hl]; decide)] at hK2; exact hK2)
      · refine V_lload C dX6_mixedWithRight_47 rfl ?_
        refine V_aload_n C dX6_mixedWithRight_49 rfl ?_
        refine V_iload C dX6_mixedWithRight_50 rfl ?_
        refine V_callV (fr := 2) (lo := 43) (mc := 0) (ms := 0) (As := [_]) C yvX3_standingOfUser w_441 dX6_mixedWithRight_52 rfl rfl (by repeat (first | with_reducible assumption | with_reducible exact mset_self _ _ _ | refine (mset_ne (by omega)).trans ?_)) (by (try simp only [mset_1]); omega) rfl rfl (Nat.le_of_ble_eq_true rfl) ⟨Nat.le_of_ble_eq_true rfl, Nat.le_of_ble_eq_true rfl⟩ ⟨Nat.le_of_ble_eq_true rfl, Nat.le_of_ble_eq_true rfl⟩ ?_
        refine ok_X3_standingOfUser hR9 hB8 (by omega) ?_
        refine V_i2lw C dX6_mixedWithRight_55 ?_
        refine V_callS (fr := 0) (lo := 0) (mc := 0) (ms := 0) (As := [_, _]) C ysX6_mixed w_385 dX6_mixedWithRight_56 rfl rfl (Nat.le_of_ble_eq_true rfl) ⟨Nat.le_of_ble_eq_true rfl, Nat.le_of_ble_eq_true rfl⟩ ⟨Nat.le_of_ble_eq_true rfl, Nat.le_of_ble_eq_true rfl⟩ ?_
        refine ok_X6_mixed ?_
        refine V_lstore C dX6_mixedWithRight_59 (by decide) ?_
        refine V_iinc C dX6_mixedWithRight_61 rfl (by decide) ?_
        refine V_goto C dX6_mixedWithRight_64 (tgt := 40) (by decide) ?_
        refine V_lv [(0, .ref (z + 0)), (1, lgv h), (3, .ref (z + (1 + 5 + 6 * i))), (4, lgv (mxF (fun u => stU (RF (xS x) i) (RA (xS x) i) u) (n9 + 1) (mxF (fun w : Nat => rvT (xS x) i w) 13 h))), (6, iv (((n9 + 1 : Nat) : Int)))] (List.forall_mem_cons.mpr ⟨(by first | rfl | exact congrArg (fun t => some (iv t)) (by push_cast; omega)), (List.forall_mem_cons.mpr ⟨(by first | rfl | exact congrArg (fun t => some (iv t)) (by push_cast; omega)), (List.forall_mem_cons.mpr ⟨(by first | rfl | exact congrArg (fun t => some (iv t)) (by push_cast; omega)), (List.forall_mem_cons.mpr ⟨(by first | rfl | exact congrArg (fun t => some (iv t)) (by push_cast; omega)), (List.forall_mem_cons.mpr ⟨(by first | rfl | exact congrArg (fun t => some (iv t)) (by push_cast; omega)), (fun _ h => nomatch h)⟩)⟩)⟩)⟩)⟩) ?_
        exact ih (n9 + 1) (by omega) (by omega)
  have loop1 : ∀ (n : Nat) (n9 : Nat), (n9 ≤ 13) → 13 - n9 < n → V p l e { frames := 6, cells := 0, slots := 0, locals := 129 } s m args below meth c D z 7 (MQ below (qc_ D z K) args s 0 0 (fun q => z ≤ q)) 0 0 M 6 [(0, .ref (z + 0)), (1, lgv h), (3, .ref (z + (1 + 5 + 6 * i))), (4, lgv (mxF (fun w : Nat => rvT (xS x) i w) n9 h)), (6, iv ((n9 : Int)))] [] := by
    intro n
    induction n with
    | zero => intro n9 hi0 hfu; exact absurd hfu (Nat.not_lt_zero _)
    | succ n ih =>
      intro n9 hi0 hfu
      refine V_iload C dX6_mixedWithRight_6 rfl ?_
      refine V_bipush C dX6_mixedWithRight_8 (by decide) ?_
      refine V_icmp_ge C dX6_mixedWithRight_10 (tgt := 37) (by decide) (by omega) (by omega) (fun g10 => ?_) (fun g10 => ?_)
      · have en : n9 = 13 := by omega
        subst en
        refine V_iconst C dX6_mixedWithRight_37 ?_
        refine V_istore C dX6_mixedWithRight_38 (by decide) ?_
        refine V_lv [(0, .ref (z + 0)), (1, lgv h), (3, .ref (z + (1 + 5 + 6 * i))), (4, lgv (mxF (fun u => stU (RF (xS x) i) (RA (xS x) i) u) 0 (mxF (fun w : Nat => rvT (xS x) i w) 13 h))), (6, iv (((0 : Nat) : Int)))] (List.forall_mem_cons.mpr ⟨(by first | rfl | exact congrArg (fun t => some (iv t)) (by omega)), (List.forall_mem_cons.mpr ⟨(by first | rfl | exact congrArg (fun t => some (iv t)) (by omega)), (List.forall_mem_cons.mpr ⟨(by first | rfl | exact congrArg (fun t => some (iv t)) (by omega)), (List.forall_mem_cons.mpr ⟨(by first | rfl | exact congrArg (fun t => some (iv t)) (by omega)), (List.forall_mem_cons.mpr ⟨(by first | rfl | exact congrArg (fun t => some (iv t)) (by omega)), (fun _ h => nomatch h)⟩)⟩)⟩)⟩)⟩) ?_
        exact loop2 11 0 (by omega) (by omega)
      · refine V_lload C dX6_mixedWithRight_13 rfl ?_
        refine V_aload_n C dX6_mixedWithRight_15 rfl ?_
        refine V_get C fg_X6_10 dX6_mixedWithRight_16 (by repeat (first | with_reducible assumption | with_reducible exact mset_self _ _ _ | refine (mset_ne (by omega)).trans ?_)) (by (try simp only [mset_1]); omega) (by rfl) ?_
        refine V_aload_n C dX6_mixedWithRight_19 rfl ?_
        refine V_iload C dX6_mixedWithRight_20 rfl ?_
        refine V_callV (fr := 5) (lo := 107) (mc := 0) (ms := 0) (As := [_, _]) C yvX4_rightValue w_420 dX6_mixedWithRight_22 rfl rfl (by repeat (first | with_reducible assumption | with_reducible exact mset_self _ _ _ | refine (mset_ne (by omega)).trans ?_)) (by (try simp only [mset_1]); omega) rfl rfl (Nat.le_of_ble_eq_true rfl) ⟨Nat.le_of_ble_eq_true rfl, Nat.le_of_ble_eq_true rfl⟩ ⟨Nat.le_of_ble_eq_true rfl, Nat.le_of_ble_eq_true rfl⟩ ?_
        refine ok_X4_rightValue hS9 hB9 hi (by omega) ?_
        refine V_i2lw C dX6_mixedWithRight_25 ?_
        refine V_callS (fr := 0) (lo := 0) (mc := 0) (ms := 0) (As := [_, _]) C ysX6_mixed w_385 dX6_mixedWithRight_26 rfl rfl (Nat.le_of_ble_eq_true rfl) ⟨Nat.le_of_ble_eq_true rfl, Nat.le_of_ble_eq_true rfl⟩ ⟨Nat.le_of_ble_eq_true rfl, Nat.le_of_ble_eq_true rfl⟩ ?_
        refine ok_X6_mixed ?_
        refine V_lstore C dX6_mixedWithRight_29 (by decide) ?_
        refine V_iinc C dX6_mixedWithRight_31 rfl (by decide) ?_
        refine V_goto C dX6_mixedWithRight_34 (tgt := 6) (by decide) ?_
        refine V_lv [(0, .ref (z + 0)), (1, lgv h), (3, .ref (z + (1 + 5 + 6 * i))), (4, lgv (mxF (fun w : Nat => rvT (xS x) i w) (n9 + 1) h)), (6, iv (((n9 + 1 : Nat) : Int)))] (List.forall_mem_cons.mpr ⟨(by first | rfl | exact congrArg (fun t => some (iv t)) (by push_cast; omega)), (List.forall_mem_cons.mpr ⟨(by first | rfl | exact congrArg (fun t => some (iv t)) (by push_cast; omega)), (List.forall_mem_cons.mpr ⟨(by first | rfl | exact congrArg (fun t => some (iv t)) (by push_cast; omega)), (List.forall_mem_cons.mpr ⟨(by first | rfl | exact congrArg (fun t => some (iv t)) (by push_cast; omega)), (List.forall_mem_cons.mpr ⟨(by first | rfl | exact congrArg (fun t => some (iv t)) (by push_cast; omega)), (fun _ h => nomatch h)⟩)⟩)⟩)⟩)⟩) ?_
        exact ih (n9 + 1) (by omega) (by omega)
  refine V_lload_n C dX6_mixedWithRight_0 rfl ?_
  refine V_lstore C dX6_mixedWithRight_1 (by decide) ?_
  refine V_iconst C dX6_mixedWithRight_3 ?_
  refine V_istore C dX6_mixedWithRight_4 (by decide) ?_
  refine V_lv [(0, .ref (z + 0)), (1, lgv h), (3, .ref (z + (1 + 5 + 6 * i))), (4, lgv (mxF (fun w : Nat => rvT (xS x) i w) 0 h)), (6, iv (((0 : Nat) : Int)))] (List.forall_mem_cons.mpr ⟨(by first | rfl | exact congrArg (fun t => some (iv t)) (by omega)), (List.forall_mem_cons.mpr ⟨(by first | rfl | exact congrArg (fun t => some (iv t)) (by omega)), (List.forall_mem_cons.mpr ⟨(by first | rfl | exact congrArg (fun t => some (iv t)) (by omega)), (List.forall_mem_cons.mpr ⟨(by first | rfl | exact congrArg (fun t => some (iv t)) (by omega)), (List.forall_mem_cons.mpr ⟨(by first | rfl | exact congrArg (fun t => some (iv t)) (by omega)), (fun _ h => nomatch h)⟩)⟩)⟩)⟩)⟩) ?_
  exact loop1 14 0 (by omega) (by omega)

set_option maxHeartbeats 400000 in
set_option maxRecDepth 4000 in
theorem ok_X6_digest {l : Launch} {D : va_G} {cy : Nat → ClassId} {z : Nat} {M : Mm} {K : Option Value → Mm → Prop} {x : DD} (hD : DockAt cy z M x) (hI : DI x) (hK : K (some (lgv (dgD x))) M) :
    MT l D cy z false yX6_digest (wsy yX6_digest cX6_digest 4 (some .long)) 7 155 0 0 M [.ref (z + 0)] K := by
  refine MT_of (by decide) w_383 (Nat.le_of_ble_eq_true rfl) ?_
  intro p e s m args below meth c C hr hx0
  have hD9 := hD
  have hI9 := hI
  obtain ⟨gn, g0, g1, gX, hS9, gA, gJ⟩ := id hD
  obtain ⟨hB9, hC9, hV9, hL9, hb9⟩ := id hI
  obtain ⟨hn, c0, c1, c2, c3, c4, cR⟩ := id hS9
  obtain ⟨d0, d1, d2, d4, d5, d6, dH, dR⟩ := id hB9
  obtain ⟨tn, t0, t1, t2, t3⟩ := id gX
  have loop2 : ∀ (n : Nat) (n9 : Nat), (n9 ≤ sN (xS x)) → 10 - n9 < n → V p l e { frames := 7, cells := 0, slots := 0, locals := 155 } s m args below meth c D z 4 (MQ below (qc_ D z K) args s 0 0 (fun q => z ≤ q)) 0 0 M 61 [(0, .ref (z + 0)), (1, lgv (mxN9 (xS x) n9 (31 * mxF (fun w : Nat => dvT (xS x) w) 12 (31 * 3469 + w32 (xT x 0)) + w32 (date (sc (xS x) 0))))), (3, iv ((n9 : Int)))] [] := by
    intro n
    induction n with
    | zero => intro n9 hi0 hfu; exact absurd hfu (Nat.not_lt_zero _)
    | succ n ih =>
      intro n9 hi0 hfu
      refine V_iload_n C dX6_digest_61 rfl ?_
      refine V_aload_n C dX6_digest_62 rfl ?_
      refine V_get C fg_X6_10 dX6_digest_63 (by repeat (first | with_reducible assumption | with_reducible exact mset_self _ _ _ | refine (mset_ne (by omega)).trans ?_)) (by (try simp only [mset_1]); omega) (by rfl) ?_
      refine V_get C fg_X6_65 dX6_digest_66 (by repeat (first | with_reducible assumption | with_reducible exact mset_self _ _ _ | refine (mset_ne (by omega)).trans ?_)) (by (try simp only [mset_1]); omega) (by rfl) ?_
      refine V_icmp_ge C dX6_digest_69 (tgt := 105) (by decide) (by omega) (by omega) (fun g69 => ?_) (fun g69 => ?_)
      · refine V_lload_n C dX6_digest_105 rfl ?_
        refine V_aload_n C dX6_digest_106 rfl ?_
        refine V_get C fg_X6_10 dX6_digest_107 (by repeat (first | with_reducible assumption | with_reducible exact mset_self _ _ _ | refine (mset_ne (by omega)).trans ?_)) (by (try simp only [mset_1]); omega) (by rfl) ?_
        have en : n9 = sN (xS x) := by omega
        subst en
        refine V_callV (fr := 2) (lo := 43) (mc := 0) (ms := 0) (As := []) C yvX4_rightDueFirst w_286 dX6_digest_110 rfl rfl (by repeat (first | with_reducible assumption | with_reducible exact mset_self _ _ _ | refine (mset_ne (by omega)).trans ?_)) (by (try simp only [mset_1]); omega) rfl rfl (Nat.le_of_ble_eq_true rfl) ⟨Nat.le_of_ble_eq_true rfl, Nat.le_of_ble_eq_true rfl⟩ ⟨Nat.le_of_ble_eq_true rfl, Nat.le_of_ble_eq_true rfl⟩ ?_
        refine ok_X4_rightDueFirst hS9 hB9 ?_
        refine V_i2lw C dX6_digest_113 ?_
        refine V_callS (fr := 0) (lo := 0) (mc := 0) (ms := 0) (As := [_, _]) C ysX6_mixed w_385 dX6_digest_114 rfl rfl (Nat.le_of_ble_eq_true rfl) ⟨Nat.le_of_ble_eq_true rfl, Nat.le_of_ble_eq_true rfl⟩ ⟨Nat.le_of_ble_eq_true rfl, Nat.le_of_ble_eq_true rfl⟩ ?_
        refine ok_X6_mixed ?_
        refine V_lstore_n C dX6_digest_117 (by decide) ?_
        refine V_lload_n C dX6_digest_118 rfl ?_
        refine V_aload_n C dX6_digest_119 rfl ?_
        refine V_get C fg_X6_20 dX6_digest_120 (by repeat (first | with_reducible assumption | with_reducible exact mset_self _ _ _ | refine (mset_ne (by omega)).trans ?_)) (by (try simp only [mset_1]); omega) (by rfl) ?_
        refine V_i2lw C dX6_digest_123 ?_
        refine V_callS (fr := 0) (lo := 0) (mc := 0) (ms := 0) (As := [_, _]) C ysX6_mixed w_385 dX6_digest_124 rfl rfl (Nat.le_of_ble_eq_true rfl) ⟨Nat.le_of_ble_eq_true rfl, Nat.le_of_ble_eq_true rfl⟩ ⟨Nat.le_of_ble_eq_true rfl, Nat.le_of_ble_eq_true rfl⟩ ?_
        refine ok_X6_mixed ?_
        exact V_lret C hr dX6_digest_127 hK
      · refine V_iload_n C dX6_digest_72 rfl ?_
        refine V_aload_n C dX6_digest_73 rfl ?_
        refine V_get C fg_X6_10 dX6_digest_74 (by repeat (first | with_reducible assumption | with_reducible exact mset_self _ _ _ | refine (mset_ne (by omega)).trans ?_)) (by (try simp only [mset_1]); omega) (by rfl) ?_
        refine V_get C fg_X6_201 dX6_digest_77 (by repeat (first | with_reducible assumption | with_reducible exact mset_self _ _ _ | refine (mset_ne (by omega)).trans ?_)) (by (try simp only [mset_1]); omega) (by rfl) ?_
        refine V_alenQ (t := 3) C rfl dX6_digest_80 (by repeat (first | with_reducible assumption | with_reducible exact mset_self _ _ _ | refine (mset_ne (by omega)).trans ?_)) (by (try simp only [mset_1]); omega) ?_
        refine V_icmp_ge C dX6_digest_81 (tgt := 105) (by decide) (by omega) (by omega) (fun g81 => ?_) (fun g81 => ?_)
        · exact absurd g81 (by omega)
        · refine V_aload_n C dX6_digest_84 rfl ?_
          refine V_lload_n C dX6_digest_85 rfl ?_
          refine V_aload_n C dX6_digest_86 rfl ?_
          refine V_get C fg_X6_10 dX6_digest_87 (by repeat (first | with_reducible assumption | with_reducible exact mset_self _ _ _ | refine (mset_ne (by omega)).trans ?_)) (by (try simp only [mset_1]); omega) (by rfl) ?_
          refine V_get C fg_X6_201 dX6_digest_90 (by repeat (first | with_reducible assumption | with_reducible exact mset_self _ _ _ | refine (mset_ne (by omega)).trans ?_)) (by (try simp only [mset_1]); omega) (by rfl) ?_
          refine V_iload_n C dX6_digest_93 rfl ?_
          refine V_aaload (t := 3) C rfl dX6_digest_94 (by repeat (first | with_reducible assumption | with_reducible exact mset_self _ _ _ | refine (mset_ne (by omega)).trans ?_)) (by (try simp only [mset_1]); omega) (by omega) (by omega) (by rw [Int.toNat_natCast]) ?_
          refine V_callV (fr := 6) (lo := 129) (mc := 0) (ms := 0) (As := [_, _]) C yvX6_mixedWithRight w_416 dX6_digest_95 rfl rfl (by repeat (first | with_reducible assumption | with_reducible exact mset_self _ _ _ | refine (mset_ne (by omega)).trans ?_)) (by (try simp only [mset_1]); omega) rfl rfl (Nat.le_of_ble_eq_true rfl) ⟨Nat.le_of_ble_eq_true rfl, Nat.le_of_ble_eq_true rfl⟩ ⟨Nat.le_of_ble_eq_true rfl, Nat.le_of_ble_eq_true rfl⟩ ?_
          refine ok_X6_mixedWithRight hD9 hI9 (by omega) ?_
          refine V_lstore_n C dX6_digest_98 (by decide) ?_
          refine V_iinc C dX6_digest_99 rfl (by decide) ?_
          refine V_goto C dX6_digest_102 (tgt := 61) (by decide) ?_
          refine V_lv [(0, .ref (z + 0)), (1, lgv (mxN9 (xS x) (n9 + 1) (31 * mxF (fun w : Nat => dvT (xS x) w) 12 (31 * 3469 + w32 (xT x 0)) + w32 (date (sc (xS x) 0))))), (3, iv (((n9 + 1 : Nat) : Int)))] (List.forall_mem_cons.mpr ⟨(by first | rfl | exact congrArg (fun t => some (iv t)) (by push_cast; omega)), (List.forall_mem_cons.mpr ⟨(by first | rfl | exact congrArg (fun t => some (iv t)) (by push_cast; omega)), (List.forall_mem_cons.mpr ⟨(by first | rfl | exact congrArg (fun t => some (iv t)) (by push_cast; omega)), (fun _ h => nomatch h)⟩)⟩)⟩) ?_
          exact ih (n9 + 1) (by omega) (by omega)
  have loop1 : ∀ (n : Nat) (n9 : Nat), (n9 ≤ 12) → 12 - n9 < n → V p l e { frames := 7, cells := 0, slots := 0, locals := 155 } s m args below meth c D z 4 (MQ below (qc_ D z K) args s 0 0 (fun q => z ≤ q)) 0 0 M 17 [(0, .ref (z + 0)), (1, lgv (mxF (fun w : Nat => dvT (xS x) w) n9 (31 * 3469 + w32 (xT x 0)))), (3, iv ((n9 : Int)))] [] := by
    intro n
    induction n with
    | zero => intro n9 hi0 hfu; exact absurd hfu (Nat.not_lt_zero _)
    | succ n ih =>
      intro n9 hi0 hfu
      refine V_iload_n C dX6_digest_17 rfl ?_
      refine V_bipush C dX6_digest_18 (by decide) ?_
      refine V_icmp_ge C dX6_digest_20 (tgt := 43) (by decide) (by omega) (by omega) (fun g20 => ?_) (fun g20 => ?_)
      · have en : n9 = 12 := by omega
        subst en
        refine V_lload_n C dX6_digest_43 rfl ?_
        refine V_aload_n C dX6_digest_44 rfl ?_
        refine V_get C fg_X6_10 dX6_digest_45 (by repeat (first | with_reducible assumption | with_reducible exact mset_self _ _ _ | refine (mset_ne (by omega)).trans ?_)) (by (try simp only [mset_1]); omega) (by rfl) ?_
        refine V_get C fg_X6_85 dX6_digest_48 (by repeat (first | with_reducible assumption | with_reducible exact mset_self _ _ _ | refine (mset_ne (by omega)).trans ?_)) (by (try simp only [mset_1]); omega) (by rfl) ?_
        refine V_callS (fr := 1) (lo := 22) (mc := 0) (ms := 0) (As := [_]) C ysX0_dateOf w_415 dX6_digest_51 rfl rfl (Nat.le_of_ble_eq_true rfl) ⟨Nat.le_of_ble_eq_true rfl, Nat.le_of_ble_eq_true rfl⟩ ⟨Nat.le_of_ble_eq_true rfl, Nat.le_of_ble_eq_true rfl⟩ ?_
        refine ok_X0_dateOf (by omega) ?_
        refine V_i2lw C dX6_digest_54 ?_
        refine V_callS (fr := 0) (lo := 0) (mc := 0) (ms := 0) (As := [_, _]) C ysX6_mixed w_385 dX6_digest_55 rfl rfl (Nat.le_of_ble_eq_true rfl) ⟨Nat.le_of_ble_eq_true rfl, Nat.le_of_ble_eq_true rfl⟩ ⟨Nat.le_of_ble_eq_true rfl, Nat.le_of_ble_eq_true rfl⟩ ?_
        refine ok_X6_mixed ?_
        refine V_lstore_n C dX6_digest_58 (by decide) ?_
        refine V_iconst C dX6_digest_59 ?_
        refine V_istore_n C dX6_digest_60 (by decide) ?_
        refine V_lv [(0, .ref (z + 0)), (1, lgv (mxN9 (xS x) 0 (31 * mxF (fun w : Nat => dvT (xS x) w) 12 (31 * 3469 + w32 (xT x 0)) + w32 (date (sc (xS x) 0))))), (3, iv (((0 : Nat) : Int)))] (List.forall_mem_cons.mpr ⟨(by first | rfl | exact congrArg (fun t => some (iv t)) (by omega)), (List.forall_mem_cons.mpr ⟨(by first | rfl | exact congrArg (fun t => some (iv t)) (by omega)), (List.forall_mem_cons.mpr ⟨(by first | rfl | exact congrArg (fun t => some (iv t)) (by omega)), (fun _ h => nomatch h)⟩)⟩)⟩) ?_
        exact loop2 11 0 (by omega) (by omega)
      · refine V_lload_n C dX6_digest_23 rfl ?_
        refine V_aload_n C dX6_digest_24 rfl ?_
        refine V_get C fg_X6_10 dX6_digest_25 (by repeat (first | with_reducible assumption | with_reducible exact mset_self _ _ _ | refine (mset_ne (by omega)).trans ?_)) (by (try simp only [mset_1]); omega) (by rfl) ?_
        refine V_iload_n C dX6_digest_28 rfl ?_
        refine V_callV (fr := 4) (lo := 87) (mc := 0) (ms := 0) (As := [_]) C yvX4_docketValue w_389 dX6_digest_29 rfl rfl (by repeat (first | with_reducible assumption | with_reducible exact mset_self _ _ _ | refine (mset_ne (by omega)).trans ?_)) (by (try simp only [mset_1]); omega) rfl rfl (Nat.le_of_ble_eq_true rfl) ⟨Nat.le_of_ble_eq_true rfl, Nat.le_of_ble_eq_true rfl⟩ ⟨Nat.le_of_ble_eq_true rfl, Nat.le_of_ble_eq_true rfl⟩ ?_
        refine ok_X4_docketValue hS9 hB9 (by omega) ?_
        refine V_i2lw C dX6_digest_32 ?_
        refine V_callS (fr := 0) (lo := 0) (mc := 0) (ms := 0) (As := [_, _]) C ysX6_mixed w_385 dX6_digest_33 rfl rfl (Nat.le_of_ble_eq_true rfl) ⟨Nat.le_of_ble_eq_true rfl, Nat.le_of_ble_eq_true rfl⟩ ⟨Nat.le_of_ble_eq_true rfl, Nat.le_of_ble_eq_true rfl⟩ ?_
        refine ok_X6_mixed ?_
        refine V_lstore_n C dX6_digest_36 (by decide) ?_
        refine V_iinc C dX6_digest_37 rfl (by decide) ?_
        refine V_goto C dX6_digest_40 (tgt := 17) (by decide) ?_
        refine V_lv [(0, .ref (z + 0)), (1, lgv (mxF (fun w : Nat => dvT (xS x) w) (n9 + 1) (31 * 3469 + w32 (xT x 0)))), (3, iv (((n9 + 1 : Nat) : Int)))] (List.forall_mem_cons.mpr ⟨(by first | rfl | exact congrArg (fun t => some (iv t)) (by push_cast; omega)), (List.forall_mem_cons.mpr ⟨(by first | rfl | exact congrArg (fun t => some (iv t)) (by push_cast; omega)), (List.forall_mem_cons.mpr ⟨(by first | rfl | exact congrArg (fun t => some (iv t)) (by push_cast; omega)), (fun _ h => nomatch h)⟩)⟩)⟩) ?_
        exact ih (n9 + 1) (by omega) (by omega)
  refine V_ldc2 (a := 3469) C w_384 rfl dX6_digest_0 ?_
  refine V_aload_n C dX6_digest_3 rfl ?_
  refine V_get C fg_X6_27 dX6_digest_4 (by repeat (first | with_reducible assumption | with_reducible exact mset_self _ _ _ | refine (mset_ne (by omega)).trans ?_)) (by (try simp only [mset_1]); omega) (by rfl) ?_
  refine V_get C fg_X6_178 dX6_digest_7 (by repeat (first | with_reducible assumption | with_reducible exact mset_self _ _ _ | refine (mset_ne (by omega)).trans ?_)) (by (try simp only [mset_1]); omega) (by rfl) ?_
  refine V_i2lw C dX6_digest_10 ?_
  refine V_callS (fr := 0) (lo := 0) (mc := 0) (ms := 0) (As := [_, _]) C ysX6_mixed w_385 dX6_digest_11 rfl rfl (Nat.le_of_ble_eq_true rfl) ⟨Nat.le_of_ble_eq_true rfl, Nat.le_of_ble_eq_true rfl⟩ ⟨Nat.le_of_ble_eq_true rfl, Nat.le_of_ble_eq_true rfl⟩ ?_
  refine ok_X6_mixed ?_
  refine V_lstore_n C dX6_digest_14 (by decide) ?_
  refine V_iconst C dX6_digest_15 ?_
  refine V_istore_n C dX6_digest_16 (by decide) ?_
  refine V_lv [(0, .ref (z + 0)), (1, lgv (mxF (fun w : Nat => dvT (xS x) w) 0 (31 * 3469 + w32 (xT x 0)))), (3, iv (((0 : Nat) : Int)))] (List.forall_mem_cons.mpr ⟨(by first | rfl | exact congrArg (fun t => some (iv t)) (by omega)), (List.forall_mem_cons.mpr ⟨(by first | rfl | exact congrArg (fun t => some (iv t)) (by omega)), (List.forall_mem_cons.mpr ⟨(by first | rfl | exact congrArg (fun t => some (iv t)) (by omega)), (fun _ h => nomatch h)⟩)⟩)⟩) ?_
  exact loop1 13 0 (by omega) (by omega)

