/-! the docket's share (X6) -/
def livT (F : Nat → Int) (t : Int) : Int := (if F 1 < t then F 1 else t) - F 0 + 1
def shT (S : SD) (i : Nat) : UInt64 := if livT (RF S i) (sc S 0) < 1 then FP.dconst0 else shr (dS (RF S i) (RA S i) (sc S 0)) (livT (RF S i) (sc S 0))
set_option maxHeartbeats 400000 in
set_option maxRecDepth 4000 in
theorem ok_X6_share {l : Launch} {D : va_G} {cy : Nat → ClassId} {z : Nat} {M : Mm} {K : Option Value → Mm → Prop} {KX : String → Prop} {x : DD} (hD : DockAt cy z M x) (hI : DI x) (hlt : l.stackTraces = false) {a : Int} (ha : -2147483648 ≤ a ∧ a < 2147483648) (hK : ∀ i : Nat, a = i → i < sN (xS x) → K (some (.double (shT (xS x) i))) M) (hXi : (a < 0 ∨ (sN (xS x) : Int) ≤ a) → KX eI) :
    MX l D cy z false yX6_share (wsy yX6_share cX6_share 4 (some .double)) 7 111 1 6 M [.ref (z + 0), iv a] K KX := by
  refine MX_of (by decide) w_763 (Nat.le_of_ble_eq_true rfl) ?_
  intro p e s m args below meth c C hr hxt
  have hD9 := hD
  have hI9 := hI
  obtain ⟨gn, g0, g1, gX, hS9, gA, gJ⟩ := id hD
  obtain ⟨hB9, hC9, hV9, hL9, hb9⟩ := id hI
  obtain ⟨hn, c0, c1, c2, c3, c4, cR⟩ := id hS9
  obtain ⟨d0, d1, d2, d4, d5, d6, dH, dR⟩ := id hB9
  obtain ⟨tn, t0, t1, t2, t3⟩ := id gX
  refine V_aload_n C dX6_share_0 rfl ?_
  refine V_iload_n C dX6_share_1 rfl ?_
  refine V_callVX (fr := 6) (lo := 90) (mc := 1) (ms := 6) (As := [_]) C hxt yvX6_existingRight w_615 dX6_share_2 rfl rfl (by repeat (first | with_reducible assumption | with_reducible exact mset_self _ _ _ | refine (mset_ne (by omega)).trans ?_)) (by (try simp only [mset_1]); omega) rfl rfl (Nat.le_of_ble_eq_true rfl) ⟨Nat.le_of_ble_eq_true rfl, Nat.le_of_ble_eq_true rfl⟩ ⟨Nat.le_of_ble_eq_true rfl, Nat.le_of_ble_eq_true rfl⟩ (fun _ h => h) ⟨by omega, by omega⟩ ?_
  refine ok_X6_existingRight hD9 hI9 hlt (by omega) (fun i ia hi9 => ?_) (fun o => hXi o)
  subst ia
  have hi : i < 10 := by omega
  have hR9 := cR i hi
  have hB8 := dR i hi
  have hnr := hR9.1
  have mr := hR9.2.1
  have hB7 := hB8
  obtain ⟨b0, b1, b2, b3, b4⟩ := hB7
  refine V_astore_n C dX6_share_5 (by decide) ?_
  refine V_aload_n C dX6_share_6 rfl ?_
  refine V_aload_n C dX6_share_7 rfl ?_
  refine V_get C fg_X6_10 dX6_share_8 (by repeat (first | with_reducible assumption | with_reducible exact mset_self _ _ _ | refine (mset_ne (by omega)).trans ?_)) (by (try simp only [mset_1]); omega) (by rfl) ?_
  refine V_get C fg_X6_85 dX6_share_11 (by repeat (first | with_reducible assumption | with_reducible exact mset_self _ _ _ | refine (mset_ne (by omega)).trans ?_)) (by (try simp only [mset_1]); omega) (by rfl) ?_
  refine V_callV (fr := 1) (lo := 21) (mc := 0) (ms := 0) (As := [_]) C yvX3_daysLived w_764 dX6_share_14 rfl rfl (by repeat (first | with_reducible assumption | with_reducible exact mset_self _ _ _ | refine (mset_ne (by omega)).trans ?_)) (by (try simp only [mset_1]); omega) rfl rfl (Nat.le_of_ble_eq_true rfl) ⟨Nat.le_of_ble_eq_true rfl, Nat.le_of_ble_eq_true rfl⟩ ⟨Nat.le_of_ble_eq_true rfl, Nat.le_of_ble_eq_true rfl⟩ ?_
  refine ok_X3_daysLived hR9 hB8 (by omega) ?_
  have el : (if RF (xS x) i 1 < sc (xS x) 0 then RF (xS x) i 1 else sc (xS x) 0) - RF (xS x) i 0 + 1 = livT (RF (xS x) i) (sc (xS x) 0) := rfl
  rw [el]
  have lr : -50000 ≤ livT (RF (xS x) i) (sc (xS x) 0) ∧ livT (RF (xS x) i) (sc (xS x) 0) ≤ 50000 := by rw [← el]; split <;> omega
  refine V_istore_n C dX6_share_17 (by decide) ?_
  refine V_iload_n C dX6_share_18 rfl ?_
  refine V_iconst C dX6_share_19 ?_
  refine V_icmp_ge C dX6_share_20 (tgt := 25) (by decide) (by omega) (by omega) (fun g20 => ?_) (fun g20 => ?_)
  · refine V_aload_n C dX6_share_25 rfl ?_
    refine V_aload_n C dX6_share_26 rfl ?_
    refine V_get C fg_X6_10 dX6_share_27 (by repeat (first | with_reducible assumption | with_reducible exact mset_self _ _ _ | refine (mset_ne (by omega)).trans ?_)) (by (try simp only [mset_1]); omega) (by rfl) ?_
    refine V_get C fg_X6_85 dX6_share_30 (by repeat (first | with_reducible assumption | with_reducible exact mset_self _ _ _ | refine (mset_ne (by omega)).trans ?_)) (by (try simp only [mset_1]); omega) (by rfl) ?_
    refine V_callV (fr := 2) (lo := 43) (mc := 0) (ms := 0) (As := [_]) C yvX3_daysStood w_769 dX6_share_33 rfl rfl (by repeat (first | with_reducible assumption | with_reducible exact mset_self _ _ _ | refine (mset_ne (by omega)).trans ?_)) (by (try simp only [mset_1]); omega) rfl rfl (Nat.le_of_ble_eq_true rfl) ⟨Nat.le_of_ble_eq_true rfl, Nat.le_of_ble_eq_true rfl⟩ ⟨Nat.le_of_ble_eq_true rfl, Nat.le_of_ble_eq_true rfl⟩ ?_
    refine ok_X3_daysStood hR9 hB8 (by omega) ?_
    refine V_i2d C dX6_share_36 ?_
    refine V_iload_n C dX6_share_37 rfl ?_
    refine V_i2d C dX6_share_38 ?_
    refine V_dshr C (by omega) dX6_share_39 ?_
    refine V_ret ?_
    refine V_widen (k := 1) (n := 6) (by omega) (by omega) ?_
    exact V_dret C hr dX6_share_40 (by have o := hK i rfl hi9; unfold shT at o; rw [if_neg (by omega)] at o; exact o)
  · refine V_dconst0 C dX6_share_23 ?_
    refine V_ret ?_
    refine V_widen (k := 1) (n := 6) (by omega) (by omega) ?_
    exact V_dret C hr dX6_share_24 (by have o := hK i rfl hi9; unfold shT at o; rw [if_pos g20] at o; exact o)

