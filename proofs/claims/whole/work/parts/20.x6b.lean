/-! the docket's calls (X6) -/
theorem DockAt.saved {cy : Nat → ClassId} {z : Nat} {M M3 : Mm} {y : DD} (h : DockAt cy z M y) (hk : xC y < 4) (hs : Sm M M3 (PB (xA y (xC y)))) (hS : StateAt cy z M3 (xA y (xC y)) (cpN (xV y (xC y)) (xS y) (sN (xS y)))) : DockAt cy z (mset M3 0 (oX 5 [.ref (z + 1), .ref (z + 66), iv ((xC y : Int) + 1), .ref (z + 67)])) (svD0 y) ∧ Sm M (mset M3 0 (oX 5 [.ref (z + 1), .ref (z + 66), iv ((xC y : Int) + 1), .ref (z + 67)])) (fun j => j < 331) := by
  obtain ⟨h0, h1, h2, h3, h4, h5, h6⟩ := h
  have hA := h5 (xC y) hk
  have ht : Sm M (mset M3 0 (oX 5 [.ref (z + 1), .ref (z + 66), iv ((xC y : Int) + 1), .ref (z + 67)])) (fun j => j = 0 ∨ (xA y (xC y) ≤ j ∧ j < xA y (xC y) + 65)) := (hs.mono (fun j hj => Or.inr hj)).ts (Or.inl rfl)
  refine ⟨⟨by rw [ht.1]; exact h0, mset_self _ _ _, (ht.2 _ (by omega)).trans h2, h3.keep ht (fun k h1 h2 o => by omega), h4.keep ht (fun k h1 h2 o => by omega), fun k hk9 => ?_, h6⟩, ht.mono (fun j hj => by omega)⟩
  show 71 ≤ xA y k ∧ xA y k + 65 ≤ 331 ∧ StateAt cy z _ (xA y k) (va_up (xV y) (xC y) (cpN (xV y (xC y)) (xS y) (sN (xS y))) k)
  refine ⟨(h5 k hk9).1, (h5 k hk9).2.1, ?_⟩
  rcases Nat.decEq k (xC y) with o | o
  · rw [up_n o]
    have := h6 k (xC y) hk9 hk o
    exact (h5 k hk9).2.2.keep ht (fun j h1 h2 q => by have := (h5 k hk9).1; omega)
  · subst o; rw [up_s]; exact hS.keep (Sm.set (P := fun j => j = 0) rfl) (fun j h1 h2 q => by omega)
def unD (x : DD) : DD := (cpN (xS x) (xV x (xC x - 1)) (sN (xV x (xC x - 1))), xC x - 1, x.2.2)
def w32 (a : Int) : Int := (Int32.ofInt a).toInt
def mxF (f : Nat → Int) : Nat → Int → Int
  | 0, h => h
  | n + 1, h => 31 * mxF f n h + w32 (f n)
def mxR (S : SD) (i : Nat) (h : Int) : Int := 31 * mxF (fun u => stU (RF S i) (RA S i) u) 10 (mxF (fun w => rvT S i w) 13 h) + (if stB (RF S i) (RA S i) (sc S 0) (sc S 0) = true then 1 else 0)
def mxN9 (S : SD) : Nat → Int → Int
  | 0, h => h
  | n + 1, h => mxR S n (mxN9 S n h)
def dgD (x : DD) : Int := 31 * (31 * mxN9 (xS x) (sN (xS x)) (31 * mxF (fun w => dvT (xS x) w) 12 (31 * 3469 + w32 (xT x 0)) + w32 (date (sc (xS x) 0))) + w32 (fdS (xS x) (sN (xS x))).1) + w32 (xC x : Int)
set_option maxHeartbeats 400000 in
set_option maxRecDepth 4000 in
theorem ok_X6_save {l : Launch} {D : va_G} {cy : Nat → ClassId} {z : Nat} {M : Mm} {K : Option Value → Mm → Prop} {x : DD} (hD : DockAt cy z M x) (hI : DI x) (hK : ∀ M', Sm M M' (fun j => j < 331) → DockAt cy z M' (svD x) → K none M') :
    MT l D cy z false yX6_save (wsy yX6_save cX6_save 1 none) 3 69 0 0 M [.ref (z + 0)] K := by
  refine MT_of (by decide) w_204 (Nat.le_of_ble_eq_true rfl) ?_
  intro p e s m args below meth c C hr hx0
  have hD9 := hD
  have hI9 := hI
  obtain ⟨gn, g0, g1, gT, hS9, gA, gJ⟩ := id hD
  obtain ⟨hB9, hC9, hV9, hL9, hb9⟩ := id hI
  obtain ⟨hn, c0, c1, c2, c3, c4, cR⟩ := id hS9
  obtain ⟨d0, d1, d2, d4, d5, d6, dH, dR⟩ := id hB9
  obtain ⟨tn, t0, t1, t2, t3⟩ := id gT
  have fin : ∀ (y : DD) (M9 : Mm), Sm M M9 (fun j => j < 331) → DockAt cy z M9 y → DI y → xC y < 4 → svD x = svD0 y → V p l e { frames := 3, cells := 0, slots := 0, locals := 69 } s m args below meth c D z 1 (MQ below (qc_ D z K) args s 0 0 (fun q => z ≤ q)) 0 0 M9 16 [(0, .ref (z + 0))] [] := by
    intro y M9 hs hy hI9 hc he
    have gn9 : 331 ≤ M9.1 := hy.1
    obtain ⟨qn, q0, q1, qT, qS, qA, qJ⟩ := id hy
    obtain ⟨hB9, hC9, hV9, hL9, hb9⟩ := id hI9
    have hA9 := qA (xC y) hc
    have v1 := hA9.2.2.2.1
    have v2 := qS.2.1
    have v3 := qS.1
    refine V_aload_n C dX6_save_16 rfl ?_
    refine V_get C fg_X6_20 dX6_save_17 (by repeat (first | with_reducible assumption | with_reducible exact mset_self _ _ _ | refine (mset_ne (by omega)).trans ?_)) (by (try simp only [mset_1]); omega) (by rfl) ?_
    refine V_if_lt C dX6_save_20 (tgt := 61) (by decide) (by omega) (fun g20 => ?_) (fun g20 => ?_)
    · exact absurd g20 (by omega)
    · refine V_aload_n C dX6_save_23 rfl ?_
      refine V_get C fg_X6_20 dX6_save_24 (by repeat (first | with_reducible assumption | with_reducible exact mset_self _ _ _ | refine (mset_ne (by omega)).trans ?_)) (by (try simp only [mset_1]); omega) (by rfl) ?_
      refine V_aload_n C dX6_save_27 rfl ?_
      refine V_get C fg_X6_16 dX6_save_28 (by repeat (first | with_reducible assumption | with_reducible exact mset_self _ _ _ | refine (mset_ne (by omega)).trans ?_)) (by (try simp only [mset_1]); omega) (by rfl) ?_
      refine V_alenQ (t := 4) C rfl dX6_save_31 (by repeat (first | with_reducible assumption | with_reducible exact mset_self _ _ _ | refine (mset_ne (by omega)).trans ?_)) (by (try simp only [mset_1]); omega) ?_
      refine V_icmp_ge C dX6_save_32 (tgt := 61) (by decide) (by omega) (by omega) (fun g32 => ?_) (fun g32 => ?_)
      · exact absurd g32 (by omega)
      · refine V_aload_n C dX6_save_35 rfl ?_
        refine V_get C fg_X6_16 dX6_save_36 (by repeat (first | with_reducible assumption | with_reducible exact mset_self _ _ _ | refine (mset_ne (by omega)).trans ?_)) (by (try simp only [mset_1]); omega) (by rfl) ?_
        refine V_aload_n C dX6_save_39 rfl ?_
        refine V_get C fg_X6_20 dX6_save_40 (by repeat (first | with_reducible assumption | with_reducible exact mset_self _ _ _ | refine (mset_ne (by omega)).trans ?_)) (by (try simp only [mset_1]); omega) (by rfl) ?_
        refine V_aaload (t := 4) C rfl dX6_save_43 (by repeat (first | with_reducible assumption | with_reducible exact mset_self _ _ _ | refine (mset_ne (by omega)).trans ?_)) (by (try simp only [mset_1]); omega) (by omega) (by omega) (by rw [Int.toNat_natCast]) ?_
        refine V_aload_n C dX6_save_44 rfl ?_
        refine V_get C fg_X6_10 dX6_save_45 (by repeat (first | with_reducible assumption | with_reducible exact mset_self _ _ _ | refine (mset_ne (by omega)).trans ?_)) (by (try simp only [mset_1]); omega) (by rfl) ?_
        refine V_callV (fr := 2) (lo := 47) (mc := 0) (ms := 0) (As := [_]) C yvX4_copyFrom w_209 dX6_save_48 rfl rfl (by repeat (first | with_reducible assumption | with_reducible exact mset_self _ _ _ | refine (mset_ne (by omega)).trans ?_)) (by (try simp only [mset_1]); omega) rfl rfl (Nat.le_of_ble_eq_true rfl) ⟨Nat.le_of_ble_eq_true rfl, Nat.le_of_ble_eq_true rfl⟩ ⟨Nat.le_of_ble_eq_true rfl, Nat.le_of_ble_eq_true rfl⟩ ?_
        refine ok_X4_copyFrom hA9.2.2 (hV9 (xC y)).2.2.1 qS hB9 (by omega) (fun M3 s3 x3 => ?_)
        have q3 := s3.1
        have z0 : M3.2 0 = _ := (s3.2 _ (fun o => by have := o.1; omega)).trans q0
        have hfin := DockAt.saved hy hc s3 x3
        refine V_aload_n C dX6_save_51 rfl ?_
        refine V_dup C dX6_save_52 rfl ?_
        refine V_get C fg_X6_20 dX6_save_53 (by repeat (first | with_reducible assumption | with_reducible exact mset_self _ _ _ | refine (mset_ne (by omega)).trans ?_)) (by (try simp only [mset_1]); omega) (by rfl) ?_
        refine V_iconst C dX6_save_56 ?_
        refine V_iadd C dX6_save_57 ?_
        refine V_put C fp_X6_20 dX6_save_58 (by repeat (first | with_reducible assumption | with_reducible exact mset_self _ _ _ | refine (mset_ne (by omega)).trans ?_)) (by (try simp only [mset_1]); omega) rfl rfl (by exact Nat.le_of_ble_eq_true rfl) ?_
        exact V_vret C hr dX6_save_61 (hK _ (hs.trans hfin.2) (by rw [he]; exact hfin.1))
  refine V_aload_n C dX6_save_0 rfl ?_
  refine V_get C fg_X6_20 dX6_save_1 (by repeat (first | with_reducible assumption | with_reducible exact mset_self _ _ _ | refine (mset_ne (by omega)).trans ?_)) (by (try simp only [mset_1]); omega) (by rfl) ?_
  refine V_aload_n C dX6_save_4 rfl ?_
  refine V_get C fg_X6_16 dX6_save_5 (by repeat (first | with_reducible assumption | with_reducible exact mset_self _ _ _ | refine (mset_ne (by omega)).trans ?_)) (by (try simp only [mset_1]); omega) (by rfl) ?_
  refine V_alenQ (t := 4) C rfl dX6_save_8 (by repeat (first | with_reducible assumption | with_reducible exact mset_self _ _ _ | refine (mset_ne (by omega)).trans ?_)) (by (try simp only [mset_1]); omega) ?_
  refine V_icmp_lt C dX6_save_9 (tgt := 16) (by decide) (by omega) (by omega) (fun g9 => ?_) (fun g9 => ?_)
  · refine V_lv [(0, .ref (z + 0))] (List.forall_mem_cons.mpr ⟨rfl, (fun _ h => nomatch h)⟩) ?_
    exact fin x M (Sm.rf _ _) hD9 hI9 (by omega) (by unfold svD; rw [if_pos (by omega)])
  · refine V_aload_n C dX6_save_12 rfl ?_
    refine V_callV (fr := 0) (lo := 0) (mc := 0) (ms := 0) (As := []) C yvX6_dropOldest w_205 dX6_save_13 rfl rfl (by repeat (first | with_reducible assumption | with_reducible exact mset_self _ _ _ | refine (mset_ne (by omega)).trans ?_)) (by (try simp only [mset_1]); omega) rfl rfl (Nat.le_of_ble_eq_true rfl) ⟨Nat.le_of_ble_eq_true rfl, Nat.le_of_ble_eq_true rfl⟩ ⟨Nat.le_of_ble_eq_true rfl, Nat.le_of_ble_eq_true rfl⟩ ?_
    refine ok_X6_dropOldest hD9 hI9 (by omega) (fun M3 s3 x3 => ?_)
    refine V_lv [(0, .ref (z + 0))] (List.forall_mem_cons.mpr ⟨rfl, (fun _ h => nomatch h)⟩) ?_
    exact fin (rotD x) M3 s3 x3 ⟨hI9.1, by show 3 ≤ 4; omega, fun k => by show SB (rotA (xV x) 3 k); unfold rotA; split <;> first | exact hV9 _ | (split <;> exact hV9 _), hI9.2.2.2⟩ (by show 3 < 4; omega) (by unfold svD; rw [if_neg (by omega)])

set_option maxHeartbeats 400000 in
set_option maxRecDepth 4000 in
theorem ok_X6_existingRight {l : Launch} {D : va_G} {cy : Nat → ClassId} {z : Nat} {M : Mm} {K : Option Value → Mm → Prop} {KX : String → Prop} {x : DD} (hD : DockAt cy z M x) (hI : DI x) (hlt : l.stackTraces = false) {a : Int} (ha : -2147483648 ≤ a ∧ a < 2147483648) (hT : ∀ i : Nat, a = i → i < sN (xS x) → K (some (.ref (z + (1 + 5 + 6 * i)))) M) (hX : (a < 0 ∨ (sN (xS x) : Int) ≤ a) → KX eI) :
    MX l D cy z false yX6_existingRight (wsy yX6_existingRight cX6_existingRight 2 (some (.object "FeeDocket$Right"))) 6 90 1 6 M [.ref (z + 0), iv a] K KX := by
  refine MX_of (by decide) w_618 (Nat.le_of_ble_eq_true rfl) ?_
  intro p e s m args below meth c C hr hxt
  have hD9 := hD
  have hI9 := hI
  obtain ⟨gn, g0, g1, gT, hS9, gA, gJ⟩ := id hD
  obtain ⟨hB9, hC9, hV9, hL9, hb9⟩ := id hI
  obtain ⟨hn, c0, c1, c2, c3, c4, cR⟩ := id hS9
  obtain ⟨d0, d1, d2, d4, d5, d6, dH, dR⟩ := id hB9
  obtain ⟨tn, t0, t1, t2, t3⟩ := id gT
  refine V_iload_n C dX6_existingRight_0 rfl ?_
  refine V_if_lt C dX6_existingRight_1 (tgt := 27) (by decide) (by omega) (fun g1 => ?_) (fun g1 => ?_)
  · exact V_throw_eI C hlt hxt trivial dX6_existingRight_27 dX6_existingRight_30 dX6_existingRight_31 dX6_existingRight_33 dX6_existingRight_36 ⟨Nat.le_of_ble_eq_true rfl, Nat.le_of_ble_eq_true rfl⟩ ⟨Nat.le_of_ble_eq_true rfl, Nat.le_of_ble_eq_true rfl⟩ ⟨by omega, by omega⟩ (hX (by omega))
  · refine V_iload_n C dX6_existingRight_4 rfl ?_
    refine V_aload_n C dX6_existingRight_5 rfl ?_
    refine V_get C fg_X6_10 dX6_existingRight_6 (by repeat (first | with_reducible assumption | with_reducible exact mset_self _ _ _ | refine (mset_ne (by omega)).trans ?_)) (by (try simp only [mset_1]); omega) (by rfl) ?_
    refine V_get C fg_X6_65 dX6_existingRight_9 (by repeat (first | with_reducible assumption | with_reducible exact mset_self _ _ _ | refine (mset_ne (by omega)).trans ?_)) (by (try simp only [mset_1]); omega) (by rfl) ?_
    refine V_icmp_ge C dX6_existingRight_12 (tgt := 27) (by decide) (by omega) (by omega) (fun g12 => ?_) (fun g12 => ?_)
    · exact V_throw_eI C hlt hxt trivial dX6_existingRight_27 dX6_existingRight_30 dX6_existingRight_31 dX6_existingRight_33 dX6_existingRight_36 ⟨Nat.le_of_ble_eq_true rfl, Nat.le_of_ble_eq_true rfl⟩ ⟨Nat.le_of_ble_eq_true rfl, Nat.le_of_ble_eq_true rfl⟩ ⟨by omega, by omega⟩ (hX (by omega))
    · refine V_iload_n C dX6_existingRight_15 rfl ?_
      refine V_aload_n C dX6_existingRight_16 rfl ?_
      refine V_get C fg_X6_10 dX6_existingRight_17 (by repeat (first | with_reducible assumption | with_reducible exact mset_self _ _ _ | refine (mset_ne (by omega)).trans ?_)) (by (try simp only [mset_1]); omega) (by rfl) ?_
      refine V_get C fg_X6_201 dX6_existingRight_20 (by repeat (first | with_reducible assumption | with_reducible exact mset_self _ _ _ | refine (mset_ne (by omega)).trans ?_)) (by (try simp only [mset_1]); omega) (by rfl) ?_
      refine V_alenQ (t := 3) C rfl dX6_existingRight_23 (by repeat (first | with_reducible assumption | with_reducible exact mset_self _ _ _ | refine (mset_ne (by omega)).trans ?_)) (by (try simp only [mset_1]); omega) ?_
      refine V_icmp_lt C dX6_existingRight_24 (tgt := 37) (by decide) (by omega) (by omega) (fun g24 => ?_) (fun g24 => ?_)
      · refine V_aload_n C dX6_existingRight_37 rfl ?_
        refine V_get C fg_X6_10 dX6_existingRight_38 (by repeat (first | with_reducible assumption | with_reducible exact mset_self _ _ _ | refine (mset_ne (by omega)).trans ?_)) (by (try simp only [mset_1]); omega) (by rfl) ?_
        refine V_get C fg_X6_201 dX6_existingRight_41 (by repeat (first | with_reducible assumption | with_reducible exact mset_self _ _ _ | refine (mset_ne (by omega)).trans ?_)) (by (try simp only [mset_1]); omega) (by rfl) ?_
        refine V_iload_n C dX6_existingRight_44 rfl ?_
        refine V_aaload (t := 3) C rfl dX6_existingRight_45 (by repeat (first | with_reducible assumption | with_reducible exact mset_self _ _ _ | refine (mset_ne (by omega)).trans ?_)) (by (try simp only [mset_1]); omega) (by omega) (by omega) (by rfl) ?_
        refine V_ret ?_
        refine V_widen (k := 1) (n := 6) (by omega) (by omega) ?_
        exact V_aret C hr dX6_existingRight_46 (hT a.toNat (by omega) (by omega))
      · exact absurd g24 (by omega)

set_option maxHeartbeats 400000 in
set_option maxRecDepth 4000 in
theorem ok_X6_date {l : Launch} {D : va_G} {cy : Nat → ClassId} {z : Nat} {M : Mm} {K : Option Value → Mm → Prop} {KX : String → Prop} {x : DD} (hD : DockAt cy z M x) (hI : DI x) (hlt : l.stackTraces = false) {d : Int} (hd : -2147483648 ≤ d ∧ d < 2147483648) (hK : 0 ≤ d ∧ d ≤ 29219 → K (some (iv (date d))) M) (hX : ¬ (0 ≤ d ∧ d ≤ 29219) → KX eA) :
    MX l D cy z false yX6_date (wsy yX6_date cX6_date 2 (some .int)) 7 110 1 6 M [.ref (z + 0), iv d] K KX := by
  refine MX_of (by decide) w_450 (Nat.le_of_ble_eq_true rfl) ?_
  intro p e s m args below meth c C hr hxt
  have hD9 := hD
  have hI9 := hI
  obtain ⟨gn, g0, g1, gT, hS9, gA, gJ⟩ := id hD
  obtain ⟨hB9, hC9, hV9, hL9, hb9⟩ := id hI
  obtain ⟨hn, c0, c1, c2, c3, c4, cR⟩ := id hS9
  obtain ⟨d0, d1, d2, d4, d5, d6, dH, dR⟩ := id hB9
  obtain ⟨tn, t0, t1, t2, t3⟩ := id gT
  refine V_iload_n C dX6_date_0 rfl ?_
  refine V_iconst C dX6_date_1 ?_
  refine V_sipush C dX6_date_2 (by decide) ?_
  refine V_callS (fr := 0) (lo := 0) (mc := 0) (ms := 0) (As := [_, _, _]) C ysX6_isWithin w_451 dX6_date_5 rfl rfl (Nat.le_of_ble_eq_true rfl) ⟨Nat.le_of_ble_eq_true rfl, Nat.le_of_ble_eq_true rfl⟩ ⟨Nat.le_of_ble_eq_true rfl, Nat.le_of_ble_eq_true rfl⟩ ?_
  refine ok_X6_isWithin (by omega) (by omega) (by omega) (fun hw => ?_) (fun hw => ?_)
  · refine V_callSX (fr := 6) (lo := 90) (mc := 1) (ms := 6) (As := [_]) C hxt ysX6_checkArgument w_454 dX6_date_8 rfl rfl (Nat.le_of_ble_eq_true rfl) ⟨Nat.le_of_ble_eq_true rfl, Nat.le_of_ble_eq_true rfl⟩ ⟨Nat.le_of_ble_eq_true rfl, Nat.le_of_ble_eq_true rfl⟩ (fun _ h => h) ⟨by omega, by omega⟩ ?_
    refine ok_X6_checkArgument hlt (fun _ => ?_) (fun o => absurd o (by decide))
    refine V_iload_n C dX6_date_11 rfl ?_
    refine V_callS (fr := 1) (lo := 22) (mc := 0) (ms := 0) (As := [_]) C ysX0_dateOf w_415 dX6_date_12 rfl rfl (Nat.le_of_ble_eq_true rfl) ⟨Nat.le_of_ble_eq_true rfl, Nat.le_of_ble_eq_true rfl⟩ ⟨Nat.le_of_ble_eq_true rfl, Nat.le_of_ble_eq_true rfl⟩ ?_
    refine ok_X0_dateOf (by omega) ?_
    refine V_ret ?_
    refine V_widen (k := 1) (n := 6) (by omega) (by omega) ?_
    exact V_iret C hr dX6_date_15 (hK hw)
  · refine V_callSX (fr := 6) (lo := 90) (mc := 1) (ms := 6) (As := [_]) C hxt ysX6_checkArgument w_454 dX6_date_8 rfl rfl (Nat.le_of_ble_eq_true rfl) ⟨Nat.le_of_ble_eq_true rfl, Nat.le_of_ble_eq_true rfl⟩ ⟨Nat.le_of_ble_eq_true rfl, Nat.le_of_ble_eq_true rfl⟩ (fun _ h => h) ⟨by omega, by omega⟩ ?_
    refine ok_X6_checkArgument hlt (fun o => absurd o (by decide)) (fun _ => (hX hw))
    done

set_option maxHeartbeats 400000 in
set_option maxRecDepth 4000 in
theorem ok_X6_day {l : Launch} {D : va_G} {cy : Nat → ClassId} {z : Nat} {M : Mm} {K : Option Value → Mm → Prop} {KX : String → Prop} {x : DD} (hD : DockAt cy z M x) (hI : DI x) (hlt : l.stackTraces = false) {y t k : Int} (hy : -2147483648 ≤ y ∧ y < 2147483648) (ht : -2147483648 ≤ t ∧ t < 2147483648) (hk : -2147483648 ≤ k ∧ k < 2147483648) (hK : (0 ≤ y ∧ y ≤ 79) ∧ (1 ≤ t ∧ t ≤ 12) ∧ 1 ≤ k ∧ k ≤ ml y t → K (some (iv (dayN y t k))) M) (hX : ¬ ((0 ≤ y ∧ y ≤ 79) ∧ (1 ≤ t ∧ t ≤ 12) ∧ 1 ≤ k ∧ k ≤ ml y t) → KX eA) :
    MX l D cy z false yX6_day (wsy yX6_day cX6_day 4 (some .int)) 7 110 3 18 M [.ref (z + 0), iv y, iv t, iv k] K KX := by
  refine MX_of (by decide) w_530 (Nat.le_of_ble_eq_true rfl) ?_
  intro p e s m args below meth c C hr hxt
  have hD9 := hD
  have hI9 := hI
  obtain ⟨gn, g0, g1, gT, hS9, gA, gJ⟩ := id hD
  obtain ⟨hB9, hC9, hV9, hL9, hb9⟩ := id hI
  obtain ⟨hn, c0, c1, c2, c3, c4, cR⟩ := id hS9
  obtain ⟨d0, d1, d2, d4, d5, d6, dH, dR⟩ := id hB9
  obtain ⟨tn, t0, t1, t2, t3⟩ := id gT
  refine V_iload_n C dX6_day_0 rfl ?_
  refine V_iconst C dX6_day_1 ?_
  refine V_bipush C dX6_day_2 (by decide) ?_
  refine V_callS (fr := 0) (lo := 0) (mc := 0) (ms := 0) (As := [_, _, _]) C ysX6_isWithin w_451 dX6_day_4 rfl rfl (Nat.le_of_ble_eq_true rfl) ⟨Nat.le_of_ble_eq_true rfl, Nat.le_of_ble_eq_true rfl⟩ ⟨Nat.le_of_ble_eq_true rfl, Nat.le_of_ble_eq_true rfl⟩ ?_
  refine ok_X6_isWithin (by omega) (by omega) (by omega) (fun hw1 => ?_) (fun hw1 => ?_)
  · refine V_callSX (fr := 6) (lo := 90) (mc := 1) (ms := 6) (As := [_]) C hxt ysX6_checkArgument w_454 dX6_day_7 rfl rfl (Nat.le_of_ble_eq_true rfl) ⟨Nat.le_of_ble_eq_true rfl, Nat.le_of_ble_eq_true rfl⟩ ⟨Nat.le_of_ble_eq_true rfl, Nat.le_of_ble_eq_true rfl⟩ (fun _ h => h) ⟨by omega, by omega⟩ ?_
    refine ok_X6_checkArgument hlt (fun _ => ?_) (fun o => absurd o (by decide))
    refine V_iload_n C dX6_day_10 rfl ?_
    refine V_iconst C dX6_day_11 ?_
    refine V_bipush C dX6_day_12 (by decide) ?_
    refine V_callS (fr := 0) (lo := 0) (mc := 0) (ms := 0) (As := [_, _, _]) C ysX6_isWithin w_451 dX6_day_14 rfl rfl (Nat.le_of_ble_eq_true rfl) ⟨Nat.le_of_ble_eq_true rfl, Nat.le_of_ble_eq_true rfl⟩ ⟨Nat.le_of_ble_eq_true rfl, Nat.le_of_ble_eq_true rfl⟩ ?_
    refine ok_X6_isWithin (by omega) (by omega) (by omega) (fun hw2 => ?_) (fun hw2 => ?_)
    · refine V_callSX (fr := 6) (lo := 90) (mc := 1) (ms := 6) (As := [_]) C hxt ysX6_checkArgument w_454 dX6_day_17 rfl rfl (Nat.le_of_ble_eq_true rfl) ⟨Nat.le_of_ble_eq_true rfl, Nat.le_of_ble_eq_true rfl⟩ ⟨Nat.le_of_ble_eq_true rfl, Nat.le_of_ble_eq_true rfl⟩ (fun _ h => h) ⟨by omega, by omega⟩ ?_
      refine ok_X6_checkArgument hlt (fun _ => ?_) (fun o => absurd o (by decide))
      refine V_iload_n C dX6_day_20 rfl ?_
      refine V_iconst C dX6_day_21 ?_
      refine V_iload_n C dX6_day_22 rfl ?_
      refine V_iload_n C dX6_day_23 rfl ?_
      refine V_callS (fr := 0) (lo := 0) (mc := 0) (ms := 0) (As := [_, _]) C ysX0_monthLength w_531 dX6_day_24 rfl rfl (Nat.le_of_ble_eq_true rfl) ⟨Nat.le_of_ble_eq_true rfl, Nat.le_of_ble_eq_true rfl⟩ ⟨Nat.le_of_ble_eq_true rfl, Nat.le_of_ble_eq_true rfl⟩ ?_
      refine ok_X0_monthLength (by omega) (by omega) ?_
      have mr := ml_rng y t
      refine V_callS (fr := 0) (lo := 0) (mc := 0) (ms := 0) (As := [_, _, _]) C ysX6_isWithin w_451 dX6_day_27 rfl rfl (Nat.le_of_ble_eq_true rfl) ⟨Nat.le_of_ble_eq_true rfl, Nat.le_of_ble_eq_true rfl⟩ ⟨Nat.le_of_ble_eq_true rfl, Nat.le_of_ble_eq_true rfl⟩ ?_
      refine ok_X6_isWithin (by omega) (by omega) (by omega) (fun hw3 => ?_) (fun hw3 => ?_)
      · refine V_callSX (fr := 6) (lo := 90) (mc := 1) (ms := 6) (As := [_]) C hxt ysX6_checkArgument w_454 dX6_day_30 rfl rfl (Nat.le_of_ble_eq_true rfl) ⟨Nat.le_of_ble_eq_true rfl, Nat.le_of_ble_eq_true rfl⟩ ⟨Nat.le_of_ble_eq_true rfl, Nat.le_of_ble_eq_true rfl⟩ (fun _ h => h) ⟨by omega, by omega⟩ ?_
        refine ok_X6_checkArgument hlt (fun _ => ?_) (fun o => absurd o (by decide))
        refine V_iload_n C dX6_day_33 rfl ?_
        refine V_iload_n C dX6_day_34 rfl ?_
        refine V_iload_n C dX6_day_35 rfl ?_
        refine V_callS (fr := 1) (lo := 21) (mc := 0) (ms := 0) (As := [_, _, _]) C ysX0_dayOf w_532 dX6_day_36 rfl rfl (Nat.le_of_ble_eq_true rfl) ⟨Nat.le_of_ble_eq_true rfl, Nat.le_of_ble_eq_true rfl⟩ ⟨Nat.le_of_ble_eq_true rfl, Nat.le_of_ble_eq_true rfl⟩ ?_
        refine ok_X0_dayOf (by omega) (by omega) (by omega) ?_
        refine V_ret ?_
        refine V_widen (k := 3) (n := 18) (by omega) (by omega) ?_
        exact V_iret C hr dX6_day_39 (hK ⟨hw1, hw2, hw3⟩)
      · refine V_callSX (fr := 6) (lo := 90) (mc := 1) (ms := 6) (As := [_]) C hxt ysX6_checkArgument w_454 dX6_day_30 rfl rfl (Nat.le_of_ble_eq_true rfl) ⟨Nat.le_of_ble_eq_true rfl, Nat.le_of_ble_eq_true rfl⟩ ⟨Nat.le_of_ble_eq_true rfl, Nat.le_of_ble_eq_true rfl⟩ (fun _ h => h) ⟨by omega, by omega⟩ ?_
        refine ok_X6_checkArgument hlt (fun o => absurd o (by decide)) (fun _ => (hX (fun o => hw3 o.2.2)))
        done
    · refine V_callSX (fr := 6) (lo := 90) (mc := 1) (ms := 6) (As := [_]) C hxt ysX6_checkArgument w_454 dX6_day_17 rfl rfl (Nat.le_of_ble_eq_true rfl) ⟨Nat.le_of_ble_eq_true rfl, Nat.le_of_ble_eq_true rfl⟩ ⟨Nat.le_of_ble_eq_true rfl, Nat.le_of_ble_eq_true rfl⟩ (fun _ h => h) ⟨by omega, by omega⟩ ?_
      refine ok_X6_checkArgument hlt (fun o => absurd o (by decide)) (fun _ => (hX (fun o => hw2 o.2.1)))
      done
  · refine V_callSX (fr := 6) (lo := 90) (mc := 1) (ms := 6) (As := [_]) C hxt ysX6_checkArgument w_454 dX6_day_7 rfl rfl (Nat.le_of_ble_eq_true rfl) ⟨Nat.le_of_ble_eq_true rfl, Nat.le_of_ble_eq_true rfl⟩ ⟨Nat.le_of_ble_eq_true rfl, Nat.le_of_ble_eq_true rfl⟩ (fun _ h => h) ⟨by omega, by omega⟩ ?_
    refine ok_X6_checkArgument hlt (fun o => absurd o (by decide)) (fun _ => (hX (fun o => hw1 o.1)))
    done

set_option maxHeartbeats 400000 in
set_option maxRecDepth 4000 in
theorem ok_X6_later {l : Launch} {D : va_G} {cy : Nat → ClassId} {z : Nat} {M : Mm} {K : Option Value → Mm → Prop} {KX : String → Prop} {x : DD} (hD : DockAt cy z M x) (hI : DI x) (hlt : l.stackTraces = false) {d n : Int} (hd : -2147483648 ≤ d ∧ d < 2147483648) (hn : -2147483648 ≤ n ∧ n < 2147483648) (hK : (0 ≤ d ∧ d ≤ 18262) ∧ 0 ≤ n ∧ n ≤ 300 → K (some (iv (later d n))) M) (hX : ¬ ((0 ≤ d ∧ d ≤ 18262) ∧ 0 ≤ n ∧ n ≤ 300) → KX eA) :
    MX l D cy z false yX6_later (wsy yX6_later cX6_later 3 (some .int)) 7 110 2 12 M [.ref (z + 0), iv d, iv n] K KX := by
  refine MX_of (by decide) w_539 (Nat.le_of_ble_eq_true rfl) ?_
  intro p e s m args below meth c C hr hxt
  have hD9 := hD
  have hI9 := hI
  obtain ⟨gn, g0, g1, gT, hS9, gA, gJ⟩ := id hD
  obtain ⟨hB9, hC9, hV9, hL9, hb9⟩ := id hI
  obtain ⟨hn, c0, c1, c2, c3, c4, cR⟩ := id hS9
  obtain ⟨d0, d1, d2, d4, d5, d6, dH, dR⟩ := id hB9
  obtain ⟨tn, t0, t1, t2, t3⟩ := id gT
  refine V_iload_n C dX6_later_0 rfl ?_
  refine V_iconst C dX6_later_1 ?_
  refine V_sipush C dX6_later_2 (by decide) ?_
  refine V_callS (fr := 0) (lo := 0) (mc := 0) (ms := 0) (As := [_, _, _]) C ysX6_isWithin w_451 dX6_later_5 rfl rfl (Nat.le_of_ble_eq_true rfl) ⟨Nat.le_of_ble_eq_true rfl, Nat.le_of_ble_eq_true rfl⟩ ⟨Nat.le_of_ble_eq_true rfl, Nat.le_of_ble_eq_true rfl⟩ ?_
  refine ok_X6_isWithin (by omega) (by omega) (by omega) (fun hw1 => ?_) (fun hw1 => ?_)
  · refine V_callSX (fr := 6) (lo := 90) (mc := 1) (ms := 6) (As := [_]) C hxt ysX6_checkArgument w_454 dX6_later_8 rfl rfl (Nat.le_of_ble_eq_true rfl) ⟨Nat.le_of_ble_eq_true rfl, Nat.le_of_ble_eq_true rfl⟩ ⟨Nat.le_of_ble_eq_true rfl, Nat.le_of_ble_eq_true rfl⟩ (fun _ h => h) ⟨by omega, by omega⟩ ?_
    refine ok_X6_checkArgument hlt (fun _ => ?_) (fun o => absurd o (by decide))
    refine V_iload_n C dX6_later_11 rfl ?_
    refine V_iconst C dX6_later_12 ?_
    refine V_sipush C dX6_later_13 (by decide) ?_
    refine V_callS (fr := 0) (lo := 0) (mc := 0) (ms := 0) (As := [_, _, _]) C ysX6_isWithin w_451 dX6_later_16 rfl rfl (Nat.le_of_ble_eq_true rfl) ⟨Nat.le_of_ble_eq_true rfl, Nat.le_of_ble_eq_true rfl⟩ ⟨Nat.le_of_ble_eq_true rfl, Nat.le_of_ble_eq_true rfl⟩ ?_
    refine ok_X6_isWithin (by omega) (by omega) (by omega) (fun hw2 => ?_) (fun hw2 => ?_)
    · refine V_callSX (fr := 6) (lo := 90) (mc := 1) (ms := 6) (As := [_]) C hxt ysX6_checkArgument w_454 dX6_later_19 rfl rfl (Nat.le_of_ble_eq_true rfl) ⟨Nat.le_of_ble_eq_true rfl, Nat.le_of_ble_eq_true rfl⟩ ⟨Nat.le_of_ble_eq_true rfl, Nat.le_of_ble_eq_true rfl⟩ (fun _ h => h) ⟨by omega, by omega⟩ ?_
      refine ok_X6_checkArgument hlt (fun _ => ?_) (fun o => absurd o (by decide))
      refine V_iload_n C dX6_later_22 rfl ?_
      refine V_iload_n C dX6_later_23 rfl ?_
      refine V_callS (fr := 2) (lo := 45) (mc := 0) (ms := 0) (As := [_, _]) C ysX0_monthsAfter w_540 dX6_later_24 rfl rfl (Nat.le_of_ble_eq_true rfl) ⟨Nat.le_of_ble_eq_true rfl, Nat.le_of_ble_eq_true rfl⟩ ⟨Nat.le_of_ble_eq_true rfl, Nat.le_of_ble_eq_true rfl⟩ ?_
      refine ok_X0_monthsAfter (by omega) (by omega) ?_
      refine V_ret ?_
      refine V_widen (k := 2) (n := 12) (by omega) (by omega) ?_
      exact V_iret C hr dX6_later_27 (hK ⟨hw1, hw2⟩)
    · refine V_callSX (fr := 6) (lo := 90) (mc := 1) (ms := 6) (As := [_]) C hxt ysX6_checkArgument w_454 dX6_later_19 rfl rfl (Nat.le_of_ble_eq_true rfl) ⟨Nat.le_of_ble_eq_true rfl, Nat.le_of_ble_eq_true rfl⟩ ⟨Nat.le_of_ble_eq_true rfl, Nat.le_of_ble_eq_true rfl⟩ (fun _ h => h) ⟨by omega, by omega⟩ ?_
      refine ok_X6_checkArgument hlt (fun o => absurd o (by decide)) (fun _ => (hX (fun o => hw2 o.2)))
      done
  · refine V_callSX (fr := 6) (lo := 90) (mc := 1) (ms := 6) (As := [_]) C hxt ysX6_checkArgument w_454 dX6_later_8 rfl rfl (Nat.le_of_ble_eq_true rfl) ⟨Nat.le_of_ble_eq_true rfl, Nat.le_of_ble_eq_true rfl⟩ ⟨Nat.le_of_ble_eq_true rfl, Nat.le_of_ble_eq_true rfl⟩ (fun _ h => h) ⟨by omega, by omega⟩ ?_
    refine ok_X6_checkArgument hlt (fun o => absurd o (by decide)) (fun _ => (hX (fun o => hw1 o.1)))
    done

set_option maxHeartbeats 400000 in
set_option maxRecDepth 4000 in
theorem ok_X6_putOff {l : Launch} {D : va_G} {cy : Nat → ClassId} {z : Nat} {M : Mm} {K : Option Value → Mm → Prop} {KX : String → Prop} {x : DD} (hD : DockAt cy z M x) (hI : DI x) (hlt : l.stackTraces = false) {d : Int} (hd : -2147483648 ≤ d ∧ d < 2147483648) (hK : 0 ≤ d ∧ d ≤ 28854 → K (some (iv (pf (Hf (xS x)) d))) M) (hX : ¬ (0 ≤ d ∧ d ≤ 28854) → KX eA) :
    MX l D cy z false yX6_putOff (wsy yX6_putOff cX6_putOff 2 (some .int)) 7 110 1 6 M [.ref (z + 0), iv d] K KX := by
  refine MX_of (by decide) w_547 (Nat.le_of_ble_eq_true rfl) ?_
  intro p e s m args below meth c C hr hxt
  have hD9 := hD
  have hI9 := hI
  obtain ⟨gn, g0, g1, gT, hS9, gA, gJ⟩ := id hD
  obtain ⟨hB9, hC9, hV9, hL9, hb9⟩ := id hI
  obtain ⟨hn, c0, c1, c2, c3, c4, cR⟩ := id hS9
  obtain ⟨d0, d1, d2, d4, d5, d6, dH, dR⟩ := id hB9
  obtain ⟨tn, t0, t1, t2, t3⟩ := id gT
  refine V_iload_n C dX6_putOff_0 rfl ?_
  refine V_iconst C dX6_putOff_1 ?_
  refine V_sipush C dX6_putOff_2 (by decide) ?_
  refine V_callS (fr := 0) (lo := 0) (mc := 0) (ms := 0) (As := [_, _, _]) C ysX6_isWithin w_451 dX6_putOff_5 rfl rfl (Nat.le_of_ble_eq_true rfl) ⟨Nat.le_of_ble_eq_true rfl, Nat.le_of_ble_eq_true rfl⟩ ⟨Nat.le_of_ble_eq_true rfl, Nat.le_of_ble_eq_true rfl⟩ ?_
  refine ok_X6_isWithin (by omega) (by omega) (by omega) (fun hw => ?_) (fun hw => ?_)
  · refine V_callSX (fr := 6) (lo := 90) (mc := 1) (ms := 6) (As := [_]) C hxt ysX6_checkArgument w_454 dX6_putOff_8 rfl rfl (Nat.le_of_ble_eq_true rfl) ⟨Nat.le_of_ble_eq_true rfl, Nat.le_of_ble_eq_true rfl⟩ ⟨Nat.le_of_ble_eq_true rfl, Nat.le_of_ble_eq_true rfl⟩ (fun _ h => h) ⟨by omega, by omega⟩ ?_
    refine ok_X6_checkArgument hlt (fun _ => ?_) (fun o => absurd o (by decide))
    refine V_aload_n C dX6_putOff_11 rfl ?_
    refine V_get C fg_X6_10 dX6_putOff_12 (by repeat (first | with_reducible assumption | with_reducible exact mset_self _ _ _ | refine (mset_ne (by omega)).trans ?_)) (by (try simp only [mset_1]); omega) (by rfl) ?_
    refine V_get C fg_X6_56 dX6_putOff_15 (by repeat (first | with_reducible assumption | with_reducible exact mset_self _ _ _ | refine (mset_ne (by omega)).trans ?_)) (by (try simp only [mset_1]); omega) (by rfl) ?_
    refine V_iload_n C dX6_putOff_18 rfl ?_
    refine V_callV (fr := 3) (lo := 66) (mc := 0) (ms := 0) (As := [_]) C yvX2_firstWorkingDay w_548 dX6_putOff_19 rfl rfl (by repeat (first | with_reducible assumption | with_reducible exact mset_self _ _ _ | refine (mset_ne (by omega)).trans ?_)) (by (try simp only [mset_1]); omega) rfl rfl (Nat.le_of_ble_eq_true rfl) ⟨Nat.le_of_ble_eq_true rfl, Nat.le_of_ble_eq_true rfl⟩ ⟨Nat.le_of_ble_eq_true rfl, Nat.le_of_ble_eq_true rfl⟩ ?_
    refine ok_X2_firstWorkingDay hS9.hol d2 dH (by omega) ?_
    refine V_ret ?_
    refine V_widen (k := 1) (n := 6) (by omega) (by omega) ?_
    exact V_iret C hr dX6_putOff_22 (hK hw)
  · refine V_callSX (fr := 6) (lo := 90) (mc := 1) (ms := 6) (As := [_]) C hxt ysX6_checkArgument w_454 dX6_putOff_8 rfl rfl (Nat.le_of_ble_eq_true rfl) ⟨Nat.le_of_ble_eq_true rfl, Nat.le_of_ble_eq_true rfl⟩ ⟨Nat.le_of_ble_eq_true rfl, Nat.le_of_ble_eq_true rfl⟩ (fun _ h => h) ⟨by omega, by omega⟩ ?_
    refine ok_X6_checkArgument hlt (fun o => absurd o (by decide)) (fun _ => (hX hw))
    done

set_option maxHeartbeats 400000 in
set_option maxRecDepth 4000 in
theorem ok_X6_file {l : Launch} {D : va_G} {cy : Nat → ClassId} {z : Nat} {M : Mm} {K : Option Value → Mm → Prop} {KX : String → Prop} {x : DD} (hD : DockAt cy z M x) (hI : DI x) (hlt : l.stackTraces = false) {w : Int} (hw9 : w = 0 ∨ w = 1) (hK : sN (xS x) < 10 ∧ sc (xS x) 0 ≤ 18262 → ∀ M', Sm M M' (fun j => j < 331) → DockAt cy z M' (setNow (svD x) (addS (xS x) (sc (xS x) 0) w)) → K (some (iv (sN (xS x) : Int))) M') (hX : ¬ (sN (xS x) < 10 ∧ sc (xS x) 0 ≤ 18262) → KX eS) :
    MX l D cy z false yX6_file (wsy yX6_file cX6_file 2 (some .int)) 7 135 1 6 M [.ref (z + 0), iv w] K KX := by
  refine MX_of (by decide) w_594 (Nat.le_of_ble_eq_true rfl) ?_
  intro p e s m args below meth c C hr hxt
  have hD9 := hD
  have hI9 := hI
  obtain ⟨gn, g0, g1, gT, hS9, gA, gJ⟩ := id hD
  obtain ⟨hB9, hC9, hV9, hL9, hb9⟩ := id hI
  obtain ⟨hn, c0, c1, c2, c3, c4, cR⟩ := id hS9
  obtain ⟨d0, d1, d2, d4, d5, d6, dH, dR⟩ := id hB9
  obtain ⟨tn, t0, t1, t2, t3⟩ := id gT
  refine V_aload_n C dX6_file_0 rfl ?_
  refine V_get C fg_X6_10 dX6_file_1 (by repeat (first | with_reducible assumption | with_reducible exact mset_self _ _ _ | refine (mset_ne (by omega)).trans ?_)) (by (try simp only [mset_1]); omega) (by rfl) ?_
  refine V_get C fg_X6_65 dX6_file_4 (by repeat (first | with_reducible assumption | with_reducible exact mset_self _ _ _ | refine (mset_ne (by omega)).trans ?_)) (by (try simp only [mset_1]); omega) (by rfl) ?_
  refine V_bipush C dX6_file_7 (by decide) ?_
  refine V_icmp_ge C dX6_file_9 (tgt := 29) (by decide) (by omega) (by omega) (fun g9 => ?_) (fun g9 => ?_)
  · refine V_iconst C dX6_file_29 ?_
    refine V_callSX (fr := 6) (lo := 90) (mc := 1) (ms := 6) (As := [_]) C hxt ysX6_checkState w_561 dX6_file_30 rfl rfl (Nat.le_of_ble_eq_true rfl) ⟨Nat.le_of_ble_eq_true rfl, Nat.le_of_ble_eq_true rfl⟩ ⟨Nat.le_of_ble_eq_true rfl, Nat.le_of_ble_eq_true rfl⟩ (fun _ h => h) ⟨by omega, by omega⟩ ?_
    refine ok_X6_checkState hlt (fun o => absurd o (by decide)) (fun _ => (hX (fun o => by omega)))
    done
  · refine V_aload_n C dX6_file_12 rfl ?_
    refine V_get C fg_X6_10 dX6_file_13 (by repeat (first | with_reducible assumption | with_reducible exact mset_self _ _ _ | refine (mset_ne (by omega)).trans ?_)) (by (try simp only [mset_1]); omega) (by rfl) ?_
    refine V_get C fg_X6_85 dX6_file_16 (by repeat (first | with_reducible assumption | with_reducible exact mset_self _ _ _ | refine (mset_ne (by omega)).trans ?_)) (by (try simp only [mset_1]); omega) (by rfl) ?_
    refine V_sipush C dX6_file_19 (by decide) ?_
    refine V_icmp_gt C dX6_file_22 (tgt := 29) (by decide) (by omega) (by omega) (fun g22 => ?_) (fun g22 => ?_)
    · refine V_iconst C dX6_file_29 ?_
      refine V_callSX (fr := 6) (lo := 90) (mc := 1) (ms := 6) (As := [_]) C hxt ysX6_checkState w_561 dX6_file_30 rfl rfl (Nat.le_of_ble_eq_true rfl) ⟨Nat.le_of_ble_eq_true rfl, Nat.le_of_ble_eq_true rfl⟩ ⟨Nat.le_of_ble_eq_true rfl, Nat.le_of_ble_eq_true rfl⟩ (fun _ h => h) ⟨by omega, by omega⟩ ?_
      refine ok_X6_checkState hlt (fun o => absurd o (by decide)) (fun _ => (hX (fun o => by omega)))
      done
    · refine V_iconst C dX6_file_25 ?_
      refine V_goto C dX6_file_26 (tgt := 30) (by decide) ?_
      refine V_callSX (fr := 6) (lo := 90) (mc := 1) (ms := 6) (As := [_]) C hxt ysX6_checkState w_561 dX6_file_30 rfl rfl (Nat.le_of_ble_eq_true rfl) ⟨Nat.le_of_ble_eq_true rfl, Nat.le_of_ble_eq_true rfl⟩ ⟨Nat.le_of_ble_eq_true rfl, Nat.le_of_ble_eq_true rfl⟩ (fun _ h => h) ⟨by omega, by omega⟩ ?_
      refine ok_X6_checkState hlt (fun _ => ?_) (fun o => absurd o (by decide))
      refine V_aload_n C dX6_file_33 rfl ?_
      refine V_callV (fr := 3) (lo := 69) (mc := 0) (ms := 0) (As := []) C yvX6_save w_201 dX6_file_34 rfl rfl (by repeat (first | with_reducible assumption | with_reducible exact mset_self _ _ _ | refine (mset_ne (by omega)).trans ?_)) (by (try simp only [mset_1]); omega) rfl rfl (Nat.le_of_ble_eq_true rfl) ⟨Nat.le_of_ble_eq_true rfl, Nat.le_of_ble_eq_true rfl⟩ ⟨Nat.le_of_ble_eq_true rfl, Nat.le_of_ble_eq_true rfl⟩ ?_
      refine ok_X6_save hD9 hI9 (fun M1 s1 x1 => ?_)
      have y9 := svD_now (x := x)
      have b1 : StateAt cy z M1 1 (xS x) := by rw [← y9]; exact x1.2.2.2.2.1
      have q0 : M1.2 0 = _ := x1.2.1
      have qn := x1.1
      have k0 := b1.2.1
      refine V_aload_n C dX6_file_37 rfl ?_
      refine V_get C fg_X6_10 dX6_file_38 (by repeat (first | with_reducible assumption | with_reducible exact mset_self _ _ _ | refine (mset_ne (by omega)).trans ?_)) (by (try simp only [mset_1]); omega) (by rfl) ?_
      refine V_aload_n C dX6_file_41 rfl ?_
      refine V_get C fg_X6_10 dX6_file_42 (by repeat (first | with_reducible assumption | with_reducible exact mset_self _ _ _ | refine (mset_ne (by omega)).trans ?_)) (by (try simp only [mset_1]); omega) (by rfl) ?_
      refine V_get C fg_X6_85 dX6_file_45 (by repeat (first | with_reducible assumption | with_reducible exact mset_self _ _ _ | refine (mset_ne (by omega)).trans ?_)) (by (try simp only [mset_1]); omega) (by rfl) ?_
      refine V_iload_n C dX6_file_48 rfl ?_
      refine V_callV (fr := 5) (lo := 113) (mc := 0) (ms := 0) (As := [_, _]) C yvX4_addRight w_595 dX6_file_49 rfl rfl (by repeat (first | with_reducible assumption | with_reducible exact mset_self _ _ _ | refine (mset_ne (by omega)).trans ?_)) (by (try simp only [mset_1]); omega) rfl rfl (Nat.le_of_ble_eq_true rfl) ⟨Nat.le_of_ble_eq_true rfl, Nat.le_of_ble_eq_true rfl⟩ ⟨Nat.le_of_ble_eq_true rfl, Nat.le_of_ble_eq_true rfl⟩ ?_
      refine ok_X4_addRight b1 hB9 (by omega) (by omega) hw9 (fun M3 s3 x3 => ?_)
      have z0 : M3.2 0 = _ := (s3.2 _ (by simp)).trans q0
      have q3 := s3.1
      have k3 := x3.2.1
      refine V_aload_n C dX6_file_52 rfl ?_
      refine V_get C fg_X6_10 dX6_file_53 (by repeat (first | with_reducible assumption | with_reducible exact mset_self _ _ _ | refine (mset_ne (by omega)).trans ?_)) (by (try simp only [mset_1]); omega) (by rfl) ?_
      refine V_get C fg_X6_65 dX6_file_56 (by repeat (first | with_reducible assumption | with_reducible exact mset_self _ _ _ | refine (mset_ne (by omega)).trans ?_)) (by (try simp only [mset_1]); omega) (by rfl) ?_
      refine V_iconst C dX6_file_59 ?_
      refine V_isub C dX6_file_60 ?_
      refine V_ret ?_
      refine V_widen (k := 1) (n := 6) (by omega) (by omega) ?_
      exact V_iret C hr dX6_file_61 (K_of (hK ⟨by omega, by omega⟩ _ (s1.trans (PB_331 s3)) (x1.now s3 x3)) (by show ((sN (xS x) + 1 : Nat) : Int) - 1 = _; omega))

set_option maxHeartbeats 400000 in
set_option maxRecDepth 4000 in
theorem ok_X6_pass {l : Launch} {D : va_G} {cy : Nat → ClassId} {z : Nat} {M : Mm} {K : Option Value → Mm → Prop} {KX : String → Prop} {x : DD} (hD : DockAt cy z M x) (hI : DI x) (hlt : l.stackTraces = false) {w : Int} (hw : -2147483648 ≤ w ∧ w < 2147483648) (hK : (1 ≤ w ∧ w ≤ 4000) ∧ sc (xS x) 0 + w ≤ 27758 → ∀ M', Sm M M' (fun j => j < 331) → DockAt cy z M' (setNow (svD x) (setSc (xS x) (va_up (sc (xS x)) 0 (sc (xS x) 0 + w)))) → K (some (iv ((cntN (fun i => !lapB (RF (xS x) i) (RA (xS x) i) (sc (xS x) 0) && lapB (RF (xS x) i) (RA (xS x) i) (sc (xS x) 0 + w)) (sN (xS x)) : Nat) : Int))) M') (hX1 : ¬ (1 ≤ w ∧ w ≤ 4000) → KX eA) (hX2 : 1 ≤ w ∧ w ≤ 4000 → ¬ sc (xS x) 0 + w ≤ 27758 → KX eS) :
    MX l D cy z false yX6_pass (wsy yX6_pass cX6_pass 3 (some .int)) 7 110 2 12 M [.ref (z + 0), iv w] K KX := by
  refine MX_of (by decide) w_602 (Nat.le_of_ble_eq_true rfl) ?_
  intro p e s m args below meth c C hr hxt
  have hD9 := hD
  have hI9 := hI
  obtain ⟨gn, g0, g1, gT, hS9, gA, gJ⟩ := id hD
  obtain ⟨hB9, hC9, hV9, hL9, hb9⟩ := id hI
  obtain ⟨hn, c0, c1, c2, c3, c4, cR⟩ := id hS9
  obtain ⟨d0, d1, d2, d4, d5, d6, dH, dR⟩ := id hB9
  obtain ⟨tn, t0, t1, t2, t3⟩ := id gT
  refine V_iload_n C dX6_pass_0 rfl ?_
  refine V_iconst C dX6_pass_1 ?_
  refine V_sipush C dX6_pass_2 (by decide) ?_
  refine V_callS (fr := 0) (lo := 0) (mc := 0) (ms := 0) (As := [_, _, _]) C ysX6_isWithin w_451 dX6_pass_5 rfl rfl (Nat.le_of_ble_eq_true rfl) ⟨Nat.le_of_ble_eq_true rfl, Nat.le_of_ble_eq_true rfl⟩ ⟨Nat.le_of_ble_eq_true rfl, Nat.le_of_ble_eq_true rfl⟩ ?_
  refine ok_X6_isWithin (by omega) (by omega) (by omega) (fun hw => ?_) (fun hw => ?_)
  · refine V_callSX (fr := 6) (lo := 90) (mc := 1) (ms := 6) (As := [_]) C hxt ysX6_checkArgument w_454 dX6_pass_8 rfl rfl (Nat.le_of_ble_eq_true rfl) ⟨Nat.le_of_ble_eq_true rfl, Nat.le_of_ble_eq_true rfl⟩ ⟨Nat.le_of_ble_eq_true rfl, Nat.le_of_ble_eq_true rfl⟩ (fun _ h => h) ⟨by omega, by omega⟩ ?_
    refine ok_X6_checkArgument hlt (fun _ => ?_) (fun o => absurd o (by decide))
    refine V_aload_n C dX6_pass_11 rfl ?_
    refine V_get C fg_X6_10 dX6_pass_12 (by repeat (first | with_reducible assumption | with_reducible exact mset_self _ _ _ | refine (mset_ne (by omega)).trans ?_)) (by (try simp only [mset_1]); omega) (by rfl) ?_
    refine V_get C fg_X6_85 dX6_pass_15 (by repeat (first | with_reducible assumption | with_reducible exact mset_self _ _ _ | refine (mset_ne (by omega)).trans ?_)) (by (try simp only [mset_1]); omega) (by rfl) ?_
    refine V_iload_n C dX6_pass_18 rfl ?_
    refine V_iadd C dX6_pass_19 ?_
    refine V_sipush C dX6_pass_20 (by decide) ?_
    refine V_icmp_gt C dX6_pass_23 (tgt := 30) (by decide) (by omega) (by omega) (fun g23 => ?_) (fun g23 => ?_)
    · refine V_iconst C dX6_pass_30 ?_
      refine V_callSX (fr := 6) (lo := 90) (mc := 1) (ms := 6) (As := [_]) C hxt ysX6_checkState w_561 dX6_pass_31 rfl rfl (Nat.le_of_ble_eq_true rfl) ⟨Nat.le_of_ble_eq_true rfl, Nat.le_of_ble_eq_true rfl⟩ ⟨Nat.le_of_ble_eq_true rfl, Nat.le_of_ble_eq_true rfl⟩ (fun _ h => h) ⟨by omega, by omega⟩ ?_
      refine ok_X6_checkState hlt (fun o => absurd o (by decide)) (fun _ => (hX2 hw (by omega)))
      done
    · refine V_iconst C dX6_pass_26 ?_
      refine V_goto C dX6_pass_27 (tgt := 31) (by decide) ?_
      refine V_callSX (fr := 6) (lo := 90) (mc := 1) (ms := 6) (As := [_]) C hxt ysX6_checkState w_561 dX6_pass_31 rfl rfl (Nat.le_of_ble_eq_true rfl) ⟨Nat.le_of_ble_eq_true rfl, Nat.le_of_ble_eq_true rfl⟩ ⟨Nat.le_of_ble_eq_true rfl, Nat.le_of_ble_eq_true rfl⟩ (fun _ h => h) ⟨by omega, by omega⟩ ?_
      refine ok_X6_checkState hlt (fun _ => ?_) (fun o => absurd o (by decide))
      refine V_aload_n C dX6_pass_34 rfl ?_
      refine V_callV (fr := 3) (lo := 69) (mc := 0) (ms := 0) (As := []) C yvX6_save w_201 dX6_pass_35 rfl rfl (by repeat (first | with_reducible assumption | with_reducible exact mset_self _ _ _ | refine (mset_ne (by omega)).trans ?_)) (by (try simp only [mset_1]); omega) rfl rfl (Nat.le_of_ble_eq_true rfl) ⟨Nat.le_of_ble_eq_true rfl, Nat.le_of_ble_eq_true rfl⟩ ⟨Nat.le_of_ble_eq_true rfl, Nat.le_of_ble_eq_true rfl⟩ ?_
      refine ok_X6_save hD9 hI9 (fun M1 s1 x1 => ?_)
      have y9 := svD_now (x := x)
      have b1 : StateAt cy z M1 1 (xS x) := by rw [← y9]; exact x1.2.2.2.2.1
      have q0 : M1.2 0 = _ := x1.2.1
      have qn := x1.1
      have k0 := b1.2.1
      refine V_aload_n C dX6_pass_38 rfl ?_
      refine V_get C fg_X6_10 dX6_pass_39 (by repeat (first | with_reducible assumption | with_reducible exact mset_self _ _ _ | refine (mset_ne (by omega)).trans ?_)) (by (try simp only [mset_1]); omega) (by rfl) ?_
      refine V_iload_n C dX6_pass_42 rfl ?_
      refine V_callV (fr := 2) (lo := 43) (mc := 0) (ms := 0) (As := [_]) C yvX4_lapsesWithin w_603 dX6_pass_43 rfl rfl (by repeat (first | with_reducible assumption | with_reducible exact mset_self _ _ _ | refine (mset_ne (by omega)).trans ?_)) (by (try simp only [mset_1]); omega) rfl rfl (Nat.le_of_ble_eq_true rfl) ⟨Nat.le_of_ble_eq_true rfl, Nat.le_of_ble_eq_true rfl⟩ ⟨Nat.le_of_ble_eq_true rfl, Nat.le_of_ble_eq_true rfl⟩ ?_
      refine ok_X4_lapsesWithin b1 hB9 (by omega) ?_
      refine V_istore_n C dX6_pass_46 (by decide) ?_
      refine V_aload_n C dX6_pass_47 rfl ?_
      refine V_get C fg_X6_10 dX6_pass_48 (by repeat (first | with_reducible assumption | with_reducible exact mset_self _ _ _ | refine (mset_ne (by omega)).trans ?_)) (by (try simp only [mset_1]); omega) (by rfl) ?_
      refine V_dup C dX6_pass_51 rfl ?_
      refine V_get C fg_X6_85 dX6_pass_52 (by repeat (first | with_reducible assumption | with_reducible exact mset_self _ _ _ | refine (mset_ne (by omega)).trans ?_)) (by (try simp only [mset_1]); omega) (by rfl) ?_
      refine V_iload_n C dX6_pass_55 rfl ?_
      refine V_iadd C dX6_pass_56 ?_
      refine V_put C fp_X6_85 dX6_pass_57 (by repeat (first | with_reducible assumption | with_reducible exact mset_self _ _ _ | refine (mset_ne (by omega)).trans ?_)) (by (try simp only [mset_1]); omega) rfl rfl (by exact Nat.le_of_ble_eq_true rfl) ?_
      refine V_iload_n C dX6_pass_60 rfl ?_
      refine V_ret ?_
      refine V_widen (k := 2) (n := 12) (by omega) (by omega) ?_
      exact V_iret C hr dX6_pass_61 (hK ⟨hw, by omega⟩ _ ((s1.trans (PB_331 (PB.cell (Sm.set rfl))))) (x1.now (PB.cell (Sm.set rfl)) (b1.cell (n := sN (xS x)) (Sm.set rfl) (mset_self _ _ _) rfl rfl rfl rfl)))
  · refine V_callSX (fr := 6) (lo := 90) (mc := 1) (ms := 6) (As := [_]) C hxt ysX6_checkArgument w_454 dX6_pass_8 rfl rfl (Nat.le_of_ble_eq_true rfl) ⟨Nat.le_of_ble_eq_true rfl, Nat.le_of_ble_eq_true rfl⟩ ⟨Nat.le_of_ble_eq_true rfl, Nat.le_of_ble_eq_true rfl⟩ (fun _ h => h) ⟨by omega, by omega⟩ ?_
    refine ok_X6_checkArgument hlt (fun o => absurd o (by decide)) (fun _ => (hX1 hw))
    done

set_option maxHeartbeats 400000 in
set_option maxRecDepth 4000 in
theorem ok_X6_pay {l : Launch} {D : va_G} {cy : Nat → ClassId} {z : Nat} {M : Mm} {K : Option Value → Mm → Prop} {KX : String → Prop} {x : DD} (hD : DockAt cy z M x) (hI : DI x) (hlt : l.stackTraces = false) {a : Int} (ha : -2147483648 ≤ a ∧ a < 2147483648) (hK : ∀ i : Nat, a = i → i < sN (xS x) → canPayB (xS x) i = true → ∀ M', Sm M M' (fun j => j < 331) → DockAt cy z M' (setNow (svD x) (payS (xS x) i)) → K (some (iv (priceT (xS x) i (RF (xS x) i 3 + 1)))) M') (hXi : (a < 0 ∨ (sN (xS x) : Int) ≤ a) → KX eI) (hX2 : ∀ i : Nat, a = i → i < sN (xS x) → canPayB (xS x) i = false → KX eS) :
    MX l D cy z false yX6_pay (wsy yX6_pay cX6_pay 3 (some .int)) 7 111 2 12 M [.ref (z + 0), iv a] K KX := by
  refine MX_of (by decide) w_614 (Nat.le_of_ble_eq_true rfl) ?_
  intro p e s m args below meth c C hr hxt
  have hD9 := hD
  have hI9 := hI
  obtain ⟨gn, g0, g1, gT, hS9, gA, gJ⟩ := id hD
  obtain ⟨hB9, hC9, hV9, hL9, hb9⟩ := id hI
  obtain ⟨hn, c0, c1, c2, c3, c4, cR⟩ := id hS9
  obtain ⟨d0, d1, d2, d4, d5, d6, dH, dR⟩ := id hB9
  obtain ⟨tn, t0, t1, t2, t3⟩ := id gT
  refine V_aload_n C dX6_pay_0 rfl ?_
  refine V_iload_n C dX6_pay_1 rfl ?_
  refine V_callVX (fr := 6) (lo := 90) (mc := 1) (ms := 6) (As := [_]) C hxt yvX6_existingRight w_615 dX6_pay_2 rfl rfl (by repeat (first | with_reducible assumption | with_reducible exact mset_self _ _ _ | refine (mset_ne (by omega)).trans ?_)) (by (try simp only [mset_1]); omega) rfl rfl (Nat.le_of_ble_eq_true rfl) ⟨Nat.le_of_ble_eq_true rfl, Nat.le_of_ble_eq_true rfl⟩ ⟨Nat.le_of_ble_eq_true rfl, Nat.le_of_ble_eq_true rfl⟩ (fun _ h => h) ⟨by omega, by omega⟩ ?_
  refine ok_X6_existingRight hD9 hI9 hlt (by omega) (fun i ia hi9 => ?_) (fun o => hXi o)
  subst ia
  have hi : i < 10 := by omega
  have hR9 := cR i hi
  have hB8 := dR i hi
  have hnr := hR9.1
  have mr := hR9.2.1
  have hB7 := hB8
  obtain ⟨b0, b1, b2, b3, b4⟩ := hB7
  refine V_astore_n C dX6_pay_5 (by decide) ?_
  refine V_aload_n C dX6_pay_6 rfl ?_
  refine V_get C fg_X6_10 dX6_pay_7 (by repeat (first | with_reducible assumption | with_reducible exact mset_self _ _ _ | refine (mset_ne (by omega)).trans ?_)) (by (try simp only [mset_1]); omega) (by rfl) ?_
  refine V_aload_n C dX6_pay_10 rfl ?_
  refine V_callV (fr := 2) (lo := 43) (mc := 0) (ms := 0) (As := [_]) C yvX4_canPay w_635 dX6_pay_11 rfl rfl (by repeat (first | with_reducible assumption | with_reducible exact mset_self _ _ _ | refine (mset_ne (by omega)).trans ?_)) (by (try simp only [mset_1]); omega) rfl rfl (Nat.le_of_ble_eq_true rfl) ⟨Nat.le_of_ble_eq_true rfl, Nat.le_of_ble_eq_true rfl⟩ ⟨Nat.le_of_ble_eq_true rfl, Nat.le_of_ble_eq_true rfl⟩ ?_
  refine ok_X4_canPay hS9 hB9 hi (fun hc => ?_) (fun hc => ?_)
  · refine V_callSX (fr := 6) (lo := 90) (mc := 1) (ms := 6) (As := [_]) C hxt ysX6_checkState w_561 dX6_pay_14 rfl rfl (Nat.le_of_ble_eq_true rfl) ⟨Nat.le_of_ble_eq_true rfl, Nat.le_of_ble_eq_true rfl⟩ ⟨Nat.le_of_ble_eq_true rfl, Nat.le_of_ble_eq_true rfl⟩ (fun _ h => h) ⟨by omega, by omega⟩ ?_
    refine ok_X6_checkState hlt (fun _ => ?_) (fun o => absurd o (by decide))
    refine V_aload_n C dX6_pay_17 rfl ?_
    refine V_callV (fr := 3) (lo := 69) (mc := 0) (ms := 0) (As := []) C yvX6_save w_201 dX6_pay_18 rfl rfl (by repeat (first | with_reducible assumption | with_reducible exact mset_self _ _ _ | refine (mset_ne (by omega)).trans ?_)) (by (try simp only [mset_1]); omega) rfl rfl (Nat.le_of_ble_eq_true rfl) ⟨Nat.le_of_ble_eq_true rfl, Nat.le_of_ble_eq_true rfl⟩ ⟨Nat.le_of_ble_eq_true rfl, Nat.le_of_ble_eq_true rfl⟩ ?_
    refine ok_X6_save hD9 hI9 (fun M1 s1 x1 => ?_)
    have y9 := svD_now (x := x)
    have b1 : StateAt cy z M1 1 (xS x) := by rw [← y9]; exact x1.2.2.2.2.1
    have q0 : M1.2 0 = _ := x1.2.1
    have qn := x1.1
    have k0 := b1.2.1
    refine V_aload_n C dX6_pay_21 rfl ?_
    refine V_get C fg_X6_10 dX6_pay_22 (by repeat (first | with_reducible assumption | with_reducible exact mset_self _ _ _ | refine (mset_ne (by omega)).trans ?_)) (by (try simp only [mset_1]); omega) (by rfl) ?_
    refine V_aload_n C dX6_pay_25 rfl ?_
    refine V_callV (fr := 3) (lo := 67) (mc := 0) (ms := 0) (As := [_]) C yvX4_payNextFee w_636 dX6_pay_26 rfl rfl (by repeat (first | with_reducible assumption | with_reducible exact mset_self _ _ _ | refine (mset_ne (by omega)).trans ?_)) (by (try simp only [mset_1]); omega) rfl rfl (Nat.le_of_ble_eq_true rfl) ⟨Nat.le_of_ble_eq_true rfl, Nat.le_of_ble_eq_true rfl⟩ ⟨Nat.le_of_ble_eq_true rfl, Nat.le_of_ble_eq_true rfl⟩ ?_
    refine ok_X4_payNextFee b1 hB9 hi (canPay_3 hc) (fun M3 s3 x3 => ?_)
    refine V_ret ?_
    refine V_widen (k := 2) (n := 12) (by omega) (by omega) ?_
    exact V_iret C hr dX6_pay_29 (hK i rfl hi9 hc _ (s1.trans (PB_331 s3)) (x1.now s3 x3))
  · refine V_callSX (fr := 6) (lo := 90) (mc := 1) (ms := 6) (As := [_]) C hxt ysX6_checkState w_561 dX6_pay_14 rfl rfl (Nat.le_of_ble_eq_true rfl) ⟨Nat.le_of_ble_eq_true rfl, Nat.le_of_ble_eq_true rfl⟩ ⟨Nat.le_of_ble_eq_true rfl, Nat.le_of_ble_eq_true rfl⟩ (fun _ h => h) ⟨by omega, by omega⟩ ?_
    refine ok_X6_checkState hlt (fun o => absurd o (by decide)) (fun _ => (hX2 i rfl hi9 hc))
    done

set_option maxHeartbeats 400000 in
set_option maxRecDepth 4000 in
theorem ok_X6_payAll {l : Launch} {D : va_G} {cy : Nat → ClassId} {z : Nat} {M : Mm} {K : Option Value → Mm → Prop}  {x : DD} (hD : DockAt cy z M x) (hI : DI x)  (hK : ∀ M', Sm M M' (fun j => j < 331) → DockAt cy z M' (setNow (svD x) (payN (xS x) (sN (xS x))).1) → K (some (iv (payN (xS x) (sN (xS x))).2)) M') :
    MT l D cy z false yX6_payAll (wsy yX6_payAll cX6_payAll 1 (some .int)) 5 112 0 0 M [.ref (z + 0)] K := by
  refine MT_of (by decide) w_200 (Nat.le_of_ble_eq_true rfl) ?_
  intro p e s m args below meth c C hr hx0
  have hD9 := hD
  have hI9 := hI
  obtain ⟨gn, g0, g1, gT, hS9, gA, gJ⟩ := id hD
  obtain ⟨hB9, hC9, hV9, hL9, hb9⟩ := id hI
  obtain ⟨hn, c0, c1, c2, c3, c4, cR⟩ := id hS9
  obtain ⟨d0, d1, d2, d4, d5, d6, dH, dR⟩ := id hB9
  obtain ⟨tn, t0, t1, t2, t3⟩ := id gT
  refine V_aload_n C dX6_payAll_0 rfl ?_
  refine V_callV (fr := 3) (lo := 69) (mc := 0) (ms := 0) (As := []) C yvX6_save w_201 dX6_payAll_1 rfl rfl (by repeat (first | with_reducible assumption | with_reducible exact mset_self _ _ _ | refine (mset_ne (by omega)).trans ?_)) (by (try simp only [mset_1]); omega) rfl rfl (Nat.le_of_ble_eq_true rfl) ⟨Nat.le_of_ble_eq_true rfl, Nat.le_of_ble_eq_true rfl⟩ ⟨Nat.le_of_ble_eq_true rfl, Nat.le_of_ble_eq_true rfl⟩ ?_
  refine ok_X6_save hD9 hI9 (fun M1 s1 x1 => ?_)
  have y9 := svD_now (x := x)
  have b1 : StateAt cy z M1 1 (xS x) := by rw [← y9]; exact x1.2.2.2.2.1
  have q0 : M1.2 0 = _ := x1.2.1
  have qn := x1.1
  have k0 := b1.2.1
  refine V_aload_n C dX6_payAll_4 rfl ?_
  refine V_get C fg_X6_10 dX6_payAll_5 (by repeat (first | with_reducible assumption | with_reducible exact mset_self _ _ _ | refine (mset_ne (by omega)).trans ?_)) (by (try simp only [mset_1]); omega) (by rfl) ?_
  refine V_callV (fr := 4) (lo := 90) (mc := 0) (ms := 0) (As := []) C yvX4_payAllFees w_233 dX6_payAll_8 rfl rfl (by repeat (first | with_reducible assumption | with_reducible exact mset_self _ _ _ | refine (mset_ne (by omega)).trans ?_)) (by (try simp only [mset_1]); omega) rfl rfl (Nat.le_of_ble_eq_true rfl) ⟨Nat.le_of_ble_eq_true rfl, Nat.le_of_ble_eq_true rfl⟩ ⟨Nat.le_of_ble_eq_true rfl, Nat.le_of_ble_eq_true rfl⟩ ?_
  refine ok_X4_payAllFees b1 hB9 (fun M3 s3 x3 => ?_)
  exact V_iret C hr dX6_payAll_11 (hK _ (s1.trans (PB_331 s3)) (x1.now s3 x3))

set_option maxHeartbeats 400000 in
set_option maxRecDepth 4000 in
theorem ok_X6_revive {l : Launch} {D : va_G} {cy : Nat → ClassId} {z : Nat} {M : Mm} {K : Option Value → Mm → Prop} {KX : String → Prop} {x : DD} (hD : DockAt cy z M x) (hI : DI x) (hlt : l.stackTraces = false) {a : Int} (ha : -2147483648 ≤ a ∧ a < 2147483648) (hg : ∀ i : Nat, i < sN (xS x) → lapR (RF (xS x) i) (RA (xS x) i) (sc (xS x) 0) → 0 ≤ yv (RA (xS x) i 1) (-1) (RF (xS x) i 3 + 1) ∧ yv (RA (xS x) i 1) (-1) (RF (xS x) i 3 + 1) ≤ 30000) (hK : ∀ i : Nat, a = i → i < sN (xS x) → canRevR (xS x) i → ∀ M', Sm M M' (fun j => j < 331) → DockAt cy z M' (setNow (svD x) (revF i 19 (rvS (xS x) i) (sc (xS x) 7)).1) → K (some (iv (revF i 19 (rvS (xS x) i) (sc (xS x) 7)).2)) M') (hXi : (a < 0 ∨ (sN (xS x) : Int) ≤ a) → KX eI) (hX2 : ∀ i : Nat, a = i → i < sN (xS x) → ¬ canRevR (xS x) i → KX eS) :
    MX l D cy z false yX6_revive (wsy yX6_revive cX6_revive 3 (some .int)) 7 113 2 12 M [.ref (z + 0), iv a] K KX := by
  refine MX_of (by decide) w_643 (Nat.le_of_ble_eq_true rfl) ?_
  intro p e s m args below meth c C hr hxt
  have hD9 := hD
  have hI9 := hI
  obtain ⟨gn, g0, g1, gT, hS9, gA, gJ⟩ := id hD
  obtain ⟨hB9, hC9, hV9, hL9, hb9⟩ := id hI
  obtain ⟨hn, c0, c1, c2, c3, c4, cR⟩ := id hS9
  obtain ⟨d0, d1, d2, d4, d5, d6, dH, dR⟩ := id hB9
  obtain ⟨tn, t0, t1, t2, t3⟩ := id gT
  refine V_aload_n C dX6_revive_0 rfl ?_
  refine V_iload_n C dX6_revive_1 rfl ?_
  refine V_callVX (fr := 6) (lo := 90) (mc := 1) (ms := 6) (As := [_]) C hxt yvX6_existingRight w_615 dX6_revive_2 rfl rfl (by repeat (first | with_reducible assumption | with_reducible exact mset_self _ _ _ | refine (mset_ne (by omega)).trans ?_)) (by (try simp only [mset_1]); omega) rfl rfl (Nat.le_of_ble_eq_true rfl) ⟨Nat.le_of_ble_eq_true rfl, Nat.le_of_ble_eq_true rfl⟩ ⟨Nat.le_of_ble_eq_true rfl, Nat.le_of_ble_eq_true rfl⟩ (fun _ h => h) ⟨by omega, by omega⟩ ?_
  refine ok_X6_existingRight hD9 hI9 hlt (by omega) (fun i ia hi9 => ?_) (fun o => hXi o)
  subst ia
  have hi : i < 10 := by omega
  have hR9 := cR i hi
  have hB8 := dR i hi
  have hnr := hR9.1
  have mr := hR9.2.1
  have hB7 := hB8
  obtain ⟨b0, b1, b2, b3, b4⟩ := hB7
  refine V_astore_n C dX6_revive_5 (by decide) ?_
  refine V_aload_n C dX6_revive_6 rfl ?_
  refine V_get C fg_X6_10 dX6_revive_7 (by repeat (first | with_reducible assumption | with_reducible exact mset_self _ _ _ | refine (mset_ne (by omega)).trans ?_)) (by (try simp only [mset_1]); omega) (by rfl) ?_
  refine V_aload_n C dX6_revive_10 rfl ?_
  refine V_callV (fr := 4) (lo := 89) (mc := 0) (ms := 0) (As := [_]) C yvX4_canRevive w_644 dX6_revive_11 rfl rfl (by repeat (first | with_reducible assumption | with_reducible exact mset_self _ _ _ | refine (mset_ne (by omega)).trans ?_)) (by (try simp only [mset_1]); omega) rfl rfl (Nat.le_of_ble_eq_true rfl) ⟨Nat.le_of_ble_eq_true rfl, Nat.le_of_ble_eq_true rfl⟩ ⟨Nat.le_of_ble_eq_true rfl, Nat.le_of_ble_eq_true rfl⟩ ?_
  refine ok_X4_canRevive hS9 hB9 hi (hg i hi9) (fun hc => ?_) (fun hc => ?_)
  · refine V_callSX (fr := 6) (lo := 90) (mc := 1) (ms := 6) (As := [_]) C hxt ysX6_checkState w_561 dX6_revive_14 rfl rfl (Nat.le_of_ble_eq_true rfl) ⟨Nat.le_of_ble_eq_true rfl, Nat.le_of_ble_eq_true rfl⟩ ⟨Nat.le_of_ble_eq_true rfl, Nat.le_of_ble_eq_true rfl⟩ (fun _ h => h) ⟨by omega, by omega⟩ ?_
    refine ok_X6_checkState hlt (fun _ => ?_) (fun o => absurd o (by decide))
    refine V_aload_n C dX6_revive_17 rfl ?_
    refine V_callV (fr := 3) (lo := 69) (mc := 0) (ms := 0) (As := []) C yvX6_save w_201 dX6_revive_18 rfl rfl (by repeat (first | with_reducible assumption | with_reducible exact mset_self _ _ _ | refine (mset_ne (by omega)).trans ?_)) (by (try simp only [mset_1]); omega) rfl rfl (Nat.le_of_ble_eq_true rfl) ⟨Nat.le_of_ble_eq_true rfl, Nat.le_of_ble_eq_true rfl⟩ ⟨Nat.le_of_ble_eq_true rfl, Nat.le_of_ble_eq_true rfl⟩ ?_
    refine ok_X6_save hD9 hI9 (fun M1 s1 x1 => ?_)
    have y9 := svD_now (x := x)
    have b1 : StateAt cy z M1 1 (xS x) := by rw [← y9]; exact x1.2.2.2.2.1
    have q0 : M1.2 0 = _ := x1.2.1
    have qn := x1.1
    have k0 := b1.2.1
    refine V_aload_n C dX6_revive_21 rfl ?_
    refine V_get C fg_X6_10 dX6_revive_22 (by repeat (first | with_reducible assumption | with_reducible exact mset_self _ _ _ | refine (mset_ne (by omega)).trans ?_)) (by (try simp only [mset_1]); omega) (by rfl) ?_
    refine V_aload_n C dX6_revive_25 rfl ?_
    refine V_callV (fr := 4) (lo := 90) (mc := 0) (ms := 0) (As := [_]) C yvX4_reviveRight w_650 dX6_revive_26 rfl rfl (by repeat (first | with_reducible assumption | with_reducible exact mset_self _ _ _ | refine (mset_ne (by omega)).trans ?_)) (by (try simp only [mset_1]); omega) rfl rfl (Nat.le_of_ble_eq_true rfl) ⟨Nat.le_of_ble_eq_true rfl, Nat.le_of_ble_eq_true rfl⟩ ⟨Nat.le_of_ble_eq_true rfl, Nat.le_of_ble_eq_true rfl⟩ ?_
    refine ok_X4_reviveRight b1 hB9 hi hc.1.1 (fun M3 s3 x3 => ?_)
    refine V_ret ?_
    refine V_widen (k := 2) (n := 12) (by omega) (by omega) ?_
    exact V_iret C hr dX6_revive_29 (hK i rfl hi9 hc _ (s1.trans (PB_331 s3)) (x1.now s3 x3))
  · refine V_callSX (fr := 6) (lo := 90) (mc := 1) (ms := 6) (As := [_]) C hxt ysX6_checkState w_561 dX6_revive_14 rfl rfl (Nat.le_of_ble_eq_true rfl) ⟨Nat.le_of_ble_eq_true rfl, Nat.le_of_ble_eq_true rfl⟩ ⟨Nat.le_of_ble_eq_true rfl, Nat.le_of_ble_eq_true rfl⟩ (fun _ h => h) ⟨by omega, by omega⟩ ?_
    refine ok_X6_checkState hlt (fun o => absurd o (by decide)) (fun _ => (hX2 i rfl hi9 hc))
    done

set_option maxHeartbeats 400000 in
set_option maxRecDepth 4000 in
theorem ok_X6_use {l : Launch} {D : va_G} {cy : Nat → ClassId} {z : Nat} {M : Mm} {K : Option Value → Mm → Prop} {KX : String → Prop} {x : DD} (hD : DockAt cy z M x) (hI : DI x) (hlt : l.stackTraces = false) {a v : Int} (ha : -2147483648 ≤ a ∧ a < 2147483648) (hv : -2147483648 ≤ v ∧ v < 2147483648) (hK : ∀ i u : Nat, a = i → i < sN (xS x) → v = u → u < 10 → canUseR (xS x) i u → ∀ M', Sm M M' (fun j => j < 331) → DockAt cy z M' (setNow (svD x) (setR (xS x) i (RF (xS x) i) (va_up (RA (xS x) i) 4 (va_up (RA (xS x) i 4) u (sc (xS x) 0))))) → K (some (iv ((cntN (fun u9 => decide (¬ stU (RF (xS x) i) (va_up (RA (xS x) i) 4 (va_up (RA (xS x) i 4) u (sc (xS x) 0))) u9 = 0)) 10 : Nat) : Int))) M') (hXi : (a < 0 ∨ (sN (xS x) : Int) ≤ a) → KX eI) (hX1 : ∀ i : Nat, a = i → i < sN (xS x) → ¬ (0 ≤ v ∧ v ≤ 9) → KX eA) (hX2 : ∀ i u : Nat, a = i → i < sN (xS x) → v = u → u < 10 → ¬ canUseR (xS x) i u → KX eS) :
    MX l D cy z false yX6_use (wsy yX6_use cX6_use 4 (some .int)) 7 111 3 18 M [.ref (z + 0), iv a, iv v] K KX := by
  refine MX_of (by decide) w_664 (Nat.le_of_ble_eq_true rfl) ?_
  intro p e s m args below meth c C hr hxt
  have hD9 := hD
  have hI9 := hI
  obtain ⟨gn, g0, g1, gT, hS9, gA, gJ⟩ := id hD
  obtain ⟨hB9, hC9, hV9, hL9, hb9⟩ := id hI
  obtain ⟨hn, c0, c1, c2, c3, c4, cR⟩ := id hS9
  obtain ⟨d0, d1, d2, d4, d5, d6, dH, dR⟩ := id hB9
  obtain ⟨tn, t0, t1, t2, t3⟩ := id gT
  refine V_aload_n C dX6_use_0 rfl ?_
  refine V_iload_n C dX6_use_1 rfl ?_
  refine V_callVX (fr := 6) (lo := 90) (mc := 1) (ms := 6) (As := [_]) C hxt yvX6_existingRight w_615 dX6_use_2 rfl rfl (by repeat (first | with_reducible assumption | with_reducible exact mset_self _ _ _ | refine (mset_ne (by omega)).trans ?_)) (by (try simp only [mset_1]); omega) rfl rfl (Nat.le_of_ble_eq_true rfl) ⟨Nat.le_of_ble_eq_true rfl, Nat.le_of_ble_eq_true rfl⟩ ⟨Nat.le_of_ble_eq_true rfl, Nat.le_of_ble_eq_true rfl⟩ (fun _ h => h) ⟨by omega, by omega⟩ ?_
  refine ok_X6_existingRight hD9 hI9 hlt (by omega) (fun i ia hi9 => ?_) (fun o => hXi o)
  subst ia
  have hi : i < 10 := by omega
  have hR9 := cR i hi
  have hB8 := dR i hi
  have hnr := hR9.1
  have mr := hR9.2.1
  have hB7 := hB8
  obtain ⟨b0, b1, b2, b3, b4⟩ := hB7
  refine V_astore_n C dX6_use_5 (by decide) ?_
  refine V_iload_n C dX6_use_6 rfl ?_
  refine V_iconst C dX6_use_7 ?_
  refine V_bipush C dX6_use_8 (by decide) ?_
  refine V_callS (fr := 0) (lo := 0) (mc := 0) (ms := 0) (As := [_, _, _]) C ysX6_isWithin w_451 dX6_use_10 rfl rfl (Nat.le_of_ble_eq_true rfl) ⟨Nat.le_of_ble_eq_true rfl, Nat.le_of_ble_eq_true rfl⟩ ⟨Nat.le_of_ble_eq_true rfl, Nat.le_of_ble_eq_true rfl⟩ ?_
  refine ok_X6_isWithin (by omega) (by omega) (by omega) (fun hw => ?_) (fun hw => ?_)
  · refine V_callSX (fr := 6) (lo := 90) (mc := 1) (ms := 6) (As := [_]) C hxt ysX6_checkArgument w_454 dX6_use_13 rfl rfl (Nat.le_of_ble_eq_true rfl) ⟨Nat.le_of_ble_eq_true rfl, Nat.le_of_ble_eq_true rfl⟩ ⟨Nat.le_of_ble_eq_true rfl, Nat.le_of_ble_eq_true rfl⟩ (fun _ h => h) ⟨by omega, by omega⟩ ?_
    refine ok_X6_checkArgument hlt (fun _ => ?_) (fun o => absurd o (by decide))
    obtain ⟨u, rfl⟩ := Int.eq_ofNat_of_zero_le (show 0 ≤ v from hw.1)
    have hu9 : u < 10 := by omega
    refine V_aload_n C dX6_use_16 rfl ?_
    refine V_get C fg_X6_10 dX6_use_17 (by repeat (first | with_reducible assumption | with_reducible exact mset_self _ _ _ | refine (mset_ne (by omega)).trans ?_)) (by (try simp only [mset_1]); omega) (by rfl) ?_
    refine V_aload_n C dX6_use_20 rfl ?_
    refine V_iload_n C dX6_use_21 rfl ?_
    refine V_callV (fr := 4) (lo := 85) (mc := 0) (ms := 0) (As := [_, _]) C yvX4_canUse w_665 dX6_use_22 rfl rfl (by repeat (first | with_reducible assumption | with_reducible exact mset_self _ _ _ | refine (mset_ne (by omega)).trans ?_)) (by (try simp only [mset_1]); omega) rfl rfl (Nat.le_of_ble_eq_true rfl) ⟨Nat.le_of_ble_eq_true rfl, Nat.le_of_ble_eq_true rfl⟩ ⟨Nat.le_of_ble_eq_true rfl, Nat.le_of_ble_eq_true rfl⟩ ?_
    refine ok_X4_canUse hS9 hB9 hi hu9 (fun hc => ?_) (fun hc => ?_)
    · refine V_callSX (fr := 6) (lo := 90) (mc := 1) (ms := 6) (As := [_]) C hxt ysX6_checkState w_561 dX6_use_25 rfl rfl (Nat.le_of_ble_eq_true rfl) ⟨Nat.le_of_ble_eq_true rfl, Nat.le_of_ble_eq_true rfl⟩ ⟨Nat.le_of_ble_eq_true rfl, Nat.le_of_ble_eq_true rfl⟩ (fun _ h => h) ⟨by omega, by omega⟩ ?_
      refine ok_X6_checkState hlt (fun _ => ?_) (fun o => absurd o (by decide))
      refine V_aload_n C dX6_use_28 rfl ?_
      refine V_callV (fr := 3) (lo := 69) (mc := 0) (ms := 0) (As := []) C yvX6_save w_201 dX6_use_29 rfl rfl (by repeat (first | with_reducible assumption | with_reducible exact mset_self _ _ _ | refine (mset_ne (by omega)).trans ?_)) (by (try simp only [mset_1]); omega) rfl rfl (Nat.le_of_ble_eq_true rfl) ⟨Nat.le_of_ble_eq_true rfl, Nat.le_of_ble_eq_true rfl⟩ ⟨Nat.le_of_ble_eq_true rfl, Nat.le_of_ble_eq_true rfl⟩ ?_
      refine ok_X6_save hD9 hI9 (fun M1 s1 x1 => ?_)
      have y9 := svD_now (x := x)
      have b1 : StateAt cy z M1 1 (xS x) := by rw [← y9]; exact x1.2.2.2.2.1
      have q0 : M1.2 0 = _ := x1.2.1
      have qn := x1.1
      have k0 := b1.2.1
      have rr := b1.2.2.2.2.2.2 i hi
      have rm := rr.2.1
      have rn := rr.1
      refine V_aload_n C dX6_use_32 rfl ?_
      refine V_iload_n C dX6_use_33 rfl ?_
      refine V_aload_n C dX6_use_34 rfl ?_
      refine V_get C fg_X6_10 dX6_use_35 (by repeat (first | with_reducible assumption | with_reducible exact mset_self _ _ _ | refine (mset_ne (by omega)).trans ?_)) (by (try simp only [mset_1]); omega) (by rfl) ?_
      refine V_get C fg_X6_85 dX6_use_38 (by repeat (first | with_reducible assumption | with_reducible exact mset_self _ _ _ | refine (mset_ne (by omega)).trans ?_)) (by (try simp only [mset_1]); omega) (by rfl) ?_
      refine V_callV (fr := 0) (lo := 0) (mc := 0) (ms := 0) (As := [_, _]) C yvX3_begin w_670 dX6_use_41 rfl rfl (by repeat (first | with_reducible assumption | with_reducible exact mset_self _ _ _ | refine (mset_ne (by omega)).trans ?_)) (by (try simp only [mset_1]); omega) rfl rfl (Nat.le_of_ble_eq_true rfl) ⟨Nat.le_of_ble_eq_true rfl, Nat.le_of_ble_eq_true rfl⟩ ⟨Nat.le_of_ble_eq_true rfl, Nat.le_of_ble_eq_true rfl⟩ ?_
      refine ok_X3_begin rr hB8 hu9 (fun M3 s3 x3 => ?_)
      have q3 := s3.1
      have y3 := x3.2.1
      have n3 := x3.1
      refine V_aload_n C dX6_use_44 rfl ?_
      refine V_callV (fr := 4) (lo := 85) (mc := 0) (ms := 0) (As := []) C yvX3_countUsers w_674 dX6_use_45 rfl rfl (by repeat (first | with_reducible assumption | with_reducible exact mset_self _ _ _ | refine (mset_ne (by omega)).trans ?_)) (by (try simp only [mset_1]); omega) rfl rfl (Nat.le_of_ble_eq_true rfl) ⟨Nat.le_of_ble_eq_true rfl, Nat.le_of_ble_eq_true rfl⟩ ⟨Nat.le_of_ble_eq_true rfl, Nat.le_of_ble_eq_true rfl⟩ ?_
      refine ok_X3_countUsers x3 (show RB _ _ from ⟨hB8.1, hB8.2.1, hB8.2.2.1, hB8.2.2.2.1, up2_rng hB8.2.2.2.2 4 u (by omega)⟩) ?_
      refine V_ret ?_
      refine V_widen (k := 3) (n := 18) (by omega) (by omega) ?_
      exact V_iret C hr dX6_use_48 (hK i u rfl hi9 rfl hu9 hc _ (s1.trans (PB_331 (PB.right hi s3))) (x1.now (PB.right hi s3) (b1.right hi s3 x3)))
    · refine V_callSX (fr := 6) (lo := 90) (mc := 1) (ms := 6) (As := [_]) C hxt ysX6_checkState w_561 dX6_use_25 rfl rfl (Nat.le_of_ble_eq_true rfl) ⟨Nat.le_of_ble_eq_true rfl, Nat.le_of_ble_eq_true rfl⟩ ⟨Nat.le_of_ble_eq_true rfl, Nat.le_of_ble_eq_true rfl⟩ (fun _ h => h) ⟨by omega, by omega⟩ ?_
      refine ok_X6_checkState hlt (fun o => absurd o (by decide)) (fun _ => (hX2 i u rfl hi9 rfl hu9 hc))
      done
  · refine V_callSX (fr := 6) (lo := 90) (mc := 1) (ms := 6) (As := [_]) C hxt ysX6_checkArgument w_454 dX6_use_13 rfl rfl (Nat.le_of_ble_eq_true rfl) ⟨Nat.le_of_ble_eq_true rfl, Nat.le_of_ble_eq_true rfl⟩ ⟨Nat.le_of_ble_eq_true rfl, Nat.le_of_ble_eq_true rfl⟩ (fun _ h => h) ⟨by omega, by omega⟩ ?_
    refine ok_X6_checkArgument hlt (fun o => absurd o (by decide)) (fun _ => (hX1 i rfl hi9 hw))
    done

set_option maxHeartbeats 400000 in
set_option maxRecDepth 4000 in
theorem ok_X6_setFees {l : Launch} {D : va_G} {cy : Nat → ClassId} {z : Nat} {M : Mm} {K : Option Value → Mm → Prop} {KX : String → Prop} {x : DD} (hD : DockAt cy z M x) (hI : DI x) (hlt : l.stackTraces = false) {n0 n1 n2 n3 : Int} (hn0 : -2147483648 ≤ n0 ∧ n0 < 2147483648) (hn1 : -2147483648 ≤ n1 ∧ n1 < 2147483648) (hn2 : -2147483648 ≤ n2 ∧ n2 < 2147483648) (hn3 : -2147483648 ≤ n3 ∧ n3 < 2147483648) (hK : ((0 ≤ n0 ∧ n0 ≤ 9999) ∧ (0 ≤ n1 ∧ n1 ≤ 999) ∧ (0 ≤ n2 ∧ n2 ≤ 100) ∧ 0 ≤ n3 ∧ n3 ≤ 9999) → ∀ M', Sm M M' (fun j => j < 331) → DockAt cy z M' (setNow (svD x) (setF (xS x) n0 n1 n2 n3)) → K (some (iv (sc (xS x) 4))) M') (hX : ¬ ((0 ≤ n0 ∧ n0 ≤ 9999) ∧ (0 ≤ n1 ∧ n1 ≤ 999) ∧ (0 ≤ n2 ∧ n2 ≤ 100) ∧ 0 ≤ n3 ∧ n3 ≤ 9999) → KX eA) :
    MX l D cy z false yX6_setFees (wsy yX6_setFees cX6_setFees 6 (some .int)) 7 110 4 24 M [.ref (z + 0), iv n0, iv n1, iv n2, iv n3] K KX := by
  refine MX_of (by decide) w_681 (Nat.le_of_ble_eq_true rfl) ?_
  intro p e s m args below meth c C hr hxt
  have hD9 := hD
  have hI9 := hI
  obtain ⟨gn, g0, g1, gT, hS9, gA, gJ⟩ := id hD
  obtain ⟨hB9, hC9, hV9, hL9, hb9⟩ := id hI
  obtain ⟨hn, c0, c1, c2, c3, c4, cR⟩ := id hS9
  obtain ⟨d0, d1, d2, d4, d5, d6, dH, dR⟩ := id hB9
  obtain ⟨tn, t0, t1, t2, t3⟩ := id gT
  refine V_iload_n C dX6_setFees_0 rfl ?_
  refine V_iconst C dX6_setFees_1 ?_
  refine V_sipush C dX6_setFees_2 (by decide) ?_
  refine V_callS (fr := 0) (lo := 0) (mc := 0) (ms := 0) (As := [_, _, _]) C ysX6_isWithin w_451 dX6_setFees_5 rfl rfl (Nat.le_of_ble_eq_true rfl) ⟨Nat.le_of_ble_eq_true rfl, Nat.le_of_ble_eq_true rfl⟩ ⟨Nat.le_of_ble_eq_true rfl, Nat.le_of_ble_eq_true rfl⟩ ?_
  refine ok_X6_isWithin (by omega) (by omega) (by omega) (fun hw0 => ?_) (fun hw0 => ?_)
  · refine V_callSX (fr := 6) (lo := 90) (mc := 1) (ms := 6) (As := [_]) C hxt ysX6_checkArgument w_454 dX6_setFees_8 rfl rfl (Nat.le_of_ble_eq_true rfl) ⟨Nat.le_of_ble_eq_true rfl, Nat.le_of_ble_eq_true rfl⟩ ⟨Nat.le_of_ble_eq_true rfl, Nat.le_of_ble_eq_true rfl⟩ (fun _ h => h) ⟨by omega, by omega⟩ ?_
    refine ok_X6_checkArgument hlt (fun _ => ?_) (fun o => absurd o (by decide))
    refine V_iload_n C dX6_setFees_11 rfl ?_
    refine V_iconst C dX6_setFees_12 ?_
    refine V_sipush C dX6_setFees_13 (by decide) ?_
    refine V_callS (fr := 0) (lo := 0) (mc := 0) (ms := 0) (As := [_, _, _]) C ysX6_isWithin w_451 dX6_setFees_16 rfl rfl (Nat.le_of_ble_eq_true rfl) ⟨Nat.le_of_ble_eq_true rfl, Nat.le_of_ble_eq_true rfl⟩ ⟨Nat.le_of_ble_eq_true rfl, Nat.le_of_ble_eq_true rfl⟩ ?_
    refine ok_X6_isWithin (by omega) (by omega) (by omega) (fun hw1 => ?_) (fun hw1 => ?_)
    · refine V_callSX (fr := 6) (lo := 90) (mc := 1) (ms := 6) (As := [_]) C hxt ysX6_checkArgument w_454 dX6_setFees_19 rfl rfl (Nat.le_of_ble_eq_true rfl) ⟨Nat.le_of_ble_eq_true rfl, Nat.le_of_ble_eq_true rfl⟩ ⟨Nat.le_of_ble_eq_true rfl, Nat.le_of_ble_eq_true rfl⟩ (fun _ h => h) ⟨by omega, by omega⟩ ?_
      refine ok_X6_checkArgument hlt (fun _ => ?_) (fun o => absurd o (by decide))
      refine V_iload_n C dX6_setFees_22 rfl ?_
      refine V_iconst C dX6_setFees_23 ?_
      refine V_bipush C dX6_setFees_24 (by decide) ?_
      refine V_callS (fr := 0) (lo := 0) (mc := 0) (ms := 0) (As := [_, _, _]) C ysX6_isWithin w_451 dX6_setFees_26 rfl rfl (Nat.le_of_ble_eq_true rfl) ⟨Nat.le_of_ble_eq_true rfl, Nat.le_of_ble_eq_true rfl⟩ ⟨Nat.le_of_ble_eq_true rfl, Nat.le_of_ble_eq_true rfl⟩ ?_
      refine ok_X6_isWithin (by omega) (by omega) (by omega) (fun hw2 => ?_) (fun hw2 => ?_)
      · refine V_callSX (fr := 6) (lo := 90) (mc := 1) (ms := 6) (As := [_]) C hxt ysX6_checkArgument w_454 dX6_setFees_29 rfl rfl (Nat.le_of_ble_eq_true rfl) ⟨Nat.le_of_ble_eq_true rfl, Nat.le_of_ble_eq_true rfl⟩ ⟨Nat.le_of_ble_eq_true rfl, Nat.le_of_ble_eq_true rfl⟩ (fun _ h => h) ⟨by omega, by omega⟩ ?_
        refine ok_X6_checkArgument hlt (fun _ => ?_) (fun o => absurd o (by decide))
        refine V_iload C dX6_setFees_32 rfl ?_
        refine V_iconst C dX6_setFees_34 ?_
        refine V_sipush C dX6_setFees_35 (by decide) ?_
        refine V_callS (fr := 0) (lo := 0) (mc := 0) (ms := 0) (As := [_, _, _]) C ysX6_isWithin w_451 dX6_setFees_38 rfl rfl (Nat.le_of_ble_eq_true rfl) ⟨Nat.le_of_ble_eq_true rfl, Nat.le_of_ble_eq_true rfl⟩ ⟨Nat.le_of_ble_eq_true rfl, Nat.le_of_ble_eq_true rfl⟩ ?_
        refine ok_X6_isWithin (by omega) (by omega) (by omega) (fun hw3 => ?_) (fun hw3 => ?_)
        · refine V_callSX (fr := 6) (lo := 90) (mc := 1) (ms := 6) (As := [_]) C hxt ysX6_checkArgument w_454 dX6_setFees_41 rfl rfl (Nat.le_of_ble_eq_true rfl) ⟨Nat.le_of_ble_eq_true rfl, Nat.le_of_ble_eq_true rfl⟩ ⟨Nat.le_of_ble_eq_true rfl, Nat.le_of_ble_eq_true rfl⟩ (fun _ h => h) ⟨by omega, by omega⟩ ?_
          refine ok_X6_checkArgument hlt (fun _ => ?_) (fun o => absurd o (by decide))
          refine V_aload_n C dX6_setFees_44 rfl ?_
          refine V_callV (fr := 3) (lo := 69) (mc := 0) (ms := 0) (As := []) C yvX6_save w_201 dX6_setFees_45 rfl rfl (by repeat (first | with_reducible assumption | with_reducible exact mset_self _ _ _ | refine (mset_ne (by omega)).trans ?_)) (by (try simp only [mset_1]); omega) rfl rfl (Nat.le_of_ble_eq_true rfl) ⟨Nat.le_of_ble_eq_true rfl, Nat.le_of_ble_eq_true rfl⟩ ⟨Nat.le_of_ble_eq_true rfl, Nat.le_of_ble_eq_true rfl⟩ ?_
          refine ok_X6_save hD9 hI9 (fun M1 s1 x1 => ?_)
          have y9 := svD_now (x := x)
          have b1 : StateAt cy z M1 1 (xS x) := by rw [← y9]; exact x1.2.2.2.2.1
          have q0 : M1.2 0 = _ := x1.2.1
          have qn := x1.1
          have k0 := b1.2.1
          have f4 := b1.2.2.2.2.2.1
          refine V_aload_n C dX6_setFees_48 rfl ?_
          refine V_get C fg_X6_10 dX6_setFees_49 (by repeat (first | with_reducible assumption | with_reducible exact mset_self _ _ _ | refine (mset_ne (by omega)).trans ?_)) (by (try simp only [mset_1]); omega) (by rfl) ?_
          refine V_get C fg_X6_130 dX6_setFees_52 (by repeat (first | with_reducible assumption | with_reducible exact mset_self _ _ _ | refine (mset_ne (by omega)).trans ?_)) (by (try simp only [mset_1]); omega) (by rfl) ?_
          refine V_get C fg_X6_134 dX6_setFees_55 (by repeat (first | with_reducible assumption | with_reducible exact mset_self _ _ _ | refine (mset_ne (by omega)).trans ?_)) (by (try simp only [mset_1]); omega) (by rfl) ?_
          refine V_istore C dX6_setFees_58 (by decide) ?_
          refine V_aload_n C dX6_setFees_60 rfl ?_
          refine V_get C fg_X6_10 dX6_setFees_61 (by repeat (first | with_reducible assumption | with_reducible exact mset_self _ _ _ | refine (mset_ne (by omega)).trans ?_)) (by (try simp only [mset_1]); omega) (by rfl) ?_
          refine V_get C fg_X6_130 dX6_setFees_64 (by repeat (first | with_reducible assumption | with_reducible exact mset_self _ _ _ | refine (mset_ne (by omega)).trans ?_)) (by (try simp only [mset_1]); omega) (by rfl) ?_
          refine V_iload_n C dX6_setFees_67 rfl ?_
          refine V_iload_n C dX6_setFees_68 rfl ?_
          refine V_iload_n C dX6_setFees_69 rfl ?_
          refine V_iload C dX6_setFees_70 rfl ?_
          refine V_callV (fr := 0) (lo := 0) (mc := 0) (ms := 0) (As := [_, _, _, _]) C yvX1_set w_682 dX6_setFees_72 rfl rfl (by repeat (first | with_reducible assumption | with_reducible exact mset_self _ _ _ | refine (mset_ne (by omega)).trans ?_)) (by (try simp only [mset_1]); omega) rfl rfl (Nat.le_of_ble_eq_true rfl) ⟨Nat.le_of_ble_eq_true rfl, Nat.le_of_ble_eq_true rfl⟩ ⟨Nat.le_of_ble_eq_true rfl, Nat.le_of_ble_eq_true rfl⟩ ?_
          refine ok_X1_set (by omega) f4 (fun M3 s3 x3 => ?_)
          refine V_iload C dX6_setFees_75 rfl ?_
          refine V_ret ?_
          refine V_widen (k := 4) (n := 24) (by omega) (by omega) ?_
          exact V_iret C hr dX6_setFees_77 (hK ⟨hw0, hw1, hw2, hw3⟩ _ (s1.trans (s3.mono (fun j hj => by have o : j = 1 + 4 := hj; omega))) (x1.now (s3.mono (fun j hj => by have o : j = 1 + 4 := hj; exact ⟨by omega, by omega⟩)) (b1.fees s3 x3 rfl rfl rfl rfl)))
        · refine V_callSX (fr := 6) (lo := 90) (mc := 1) (ms := 6) (As := [_]) C hxt ysX6_checkArgument w_454 dX6_setFees_41 rfl rfl (Nat.le_of_ble_eq_true rfl) ⟨Nat.le_of_ble_eq_true rfl, Nat.le_of_ble_eq_true rfl⟩ ⟨Nat.le_of_ble_eq_true rfl, Nat.le_of_ble_eq_true rfl⟩ (fun _ h => h) ⟨by omega, by omega⟩ ?_
          refine ok_X6_checkArgument hlt (fun o => absurd o (by decide)) (fun _ => (hX (fun o => hw3 o.2.2.2)))
          done
      · refine V_callSX (fr := 6) (lo := 90) (mc := 1) (ms := 6) (As := [_]) C hxt ysX6_checkArgument w_454 dX6_setFees_29 rfl rfl (Nat.le_of_ble_eq_true rfl) ⟨Nat.le_of_ble_eq_true rfl, Nat.le_of_ble_eq_true rfl⟩ ⟨Nat.le_of_ble_eq_true rfl, Nat.le_of_ble_eq_true rfl⟩ (fun _ h => h) ⟨by omega, by omega⟩ ?_
        refine ok_X6_checkArgument hlt (fun o => absurd o (by decide)) (fun _ => (hX (fun o => hw2 o.2.2.1)))
        done
    · refine V_callSX (fr := 6) (lo := 90) (mc := 1) (ms := 6) (As := [_]) C hxt ysX6_checkArgument w_454 dX6_setFees_19 rfl rfl (Nat.le_of_ble_eq_true rfl) ⟨Nat.le_of_ble_eq_true rfl, Nat.le_of_ble_eq_true rfl⟩ ⟨Nat.le_of_ble_eq_true rfl, Nat.le_of_ble_eq_true rfl⟩ (fun _ h => h) ⟨by omega, by omega⟩ ?_
      refine ok_X6_checkArgument hlt (fun o => absurd o (by decide)) (fun _ => (hX (fun o => hw1 o.2.1)))
      done
  · refine V_callSX (fr := 6) (lo := 90) (mc := 1) (ms := 6) (As := [_]) C hxt ysX6_checkArgument w_454 dX6_setFees_8 rfl rfl (Nat.le_of_ble_eq_true rfl) ⟨Nat.le_of_ble_eq_true rfl, Nat.le_of_ble_eq_true rfl⟩ ⟨Nat.le_of_ble_eq_true rfl, Nat.le_of_ble_eq_true rfl⟩ (fun _ h => h) ⟨by omega, by omega⟩ ?_
    refine ok_X6_checkArgument hlt (fun o => absurd o (by decide)) (fun _ => (hX (fun o => hw0 o.1)))
    done

set_option maxHeartbeats 800000 in
set_option maxRecDepth 4000 in
theorem ok_X6_holiday {l : Launch} {D : va_G} {cy : Nat → ClassId} {z : Nat} {M : Mm} {K : Option Value → Mm → Prop} {KX : String → Prop} {x : DD} (hD : DockAt cy z M x) (hI : DI x) (hlt : l.stackTraces = false) {t k : Int} (ht : -2147483648 ≤ t ∧ t < 2147483648) (hk : -2147483648 ≤ k ∧ k < 2147483648) (hK1 : (1 ≤ t ∧ t ≤ 12) ∧ (1 ≤ k ∧ k ≤ ml 0 t) → sN (xS x) = 0 → ∀ M' (i : Nat), i < sH (xS x) → ho (xS x) i = 100 * t + k → (∀ j, j < i → ¬ ho (xS x) j = 100 * t + k) → Sm M M' (fun j => j < 331) → DockAt cy z M' (setNow (svD x) (setH (xS x) (sH (xS x) - 1) (va_up (ho (xS x)) i (ho (xS x) (sH (xS x) - 1))))) → K (some (iv ((sH (xS x) - 1 : Nat) : Int))) M') (hK2 : (1 ≤ t ∧ t ≤ 12) ∧ (1 ≤ k ∧ k ≤ ml 0 t) → sN (xS x) = 0 → ∀ M', sH (xS x) < 6 → (∀ j, j < sH (xS x) → ¬ ho (xS x) j = 100 * t + k) → Sm M M' (fun j => j < 331) → DockAt cy z M' (setNow (svD x) (setH (xS x) (sH (xS x) + 1) (va_up (ho (xS x)) (sH (xS x)) (100 * t + k)))) → K (some (iv ((sH (xS x) + 1 : Nat) : Int))) M') (hX1 : ¬ ((1 ≤ t ∧ t ≤ 12) ∧ (1 ≤ k ∧ k ≤ ml 0 t)) → KX eA) (hX2 : (1 ≤ t ∧ t ≤ 12) ∧ (1 ≤ k ∧ k ≤ ml 0 t) → ¬ (sN (xS x) = 0 ∧ (sH (xS x) < 6 ∨ hset (ho (xS x)) (sH (xS x)) (100 * t + k) = true)) → KX eS) :
    MX l D cy z false yX6_holiday (wsy yX6_holiday cX6_holiday 4 (some .int)) 7 110 3 18 M [.ref (z + 0), iv t, iv k] K KX := by
  refine MX_of (by decide) w_556 (Nat.le_of_ble_eq_true rfl) ?_
  intro p e s m args below meth c C hr hxt
  have hD9 := hD
  have hI9 := hI
  obtain ⟨gn, g0, g1, gT, hS9, gA, gJ⟩ := id hD
  obtain ⟨hB9, hC9, hV9, hL9, hb9⟩ := id hI
  obtain ⟨hn, c0, c1, c2, c3, c4, cR⟩ := id hS9
  obtain ⟨d0, d1, d2, d4, d5, d6, dH, dR⟩ := id hB9
  obtain ⟨tn, t0, t1, t2, t3⟩ := id gT
  refine V_iload_n C dX6_holiday_0 rfl ?_
  refine V_iconst C dX6_holiday_1 ?_
  refine V_bipush C dX6_holiday_2 (by decide) ?_
  refine V_callS (fr := 0) (lo := 0) (mc := 0) (ms := 0) (As := [_, _, _]) C ysX6_isWithin w_451 dX6_holiday_4 rfl rfl (Nat.le_of_ble_eq_true rfl) ⟨Nat.le_of_ble_eq_true rfl, Nat.le_of_ble_eq_true rfl⟩ ⟨Nat.le_of_ble_eq_true rfl, Nat.le_of_ble_eq_true rfl⟩ ?_
  refine ok_X6_isWithin (by omega) (by omega) (by omega) (fun hw1 => ?_) (fun hw1 => ?_)
  · refine V_callSX (fr := 6) (lo := 90) (mc := 1) (ms := 6) (As := [_]) C hxt ysX6_checkArgument w_454 dX6_holiday_7 rfl rfl (Nat.le_of_ble_eq_true rfl) ⟨Nat.le_of_ble_eq_true rfl, Nat.le_of_ble_eq_true rfl⟩ ⟨Nat.le_of_ble_eq_true rfl, Nat.le_of_ble_eq_true rfl⟩ (fun _ h => h) ⟨by omega, by omega⟩ ?_
    refine ok_X6_checkArgument hlt (fun _ => ?_) (fun o => absurd o (by decide))
    refine V_iload_n C dX6_holiday_10 rfl ?_
    refine V_iconst C dX6_holiday_11 ?_
    refine V_iconst C dX6_holiday_12 ?_
    refine V_iload_n C dX6_holiday_13 rfl ?_
    refine V_callS (fr := 0) (lo := 0) (mc := 0) (ms := 0) (As := [_, _]) C ysX0_monthLength w_531 dX6_holiday_14 rfl rfl (Nat.le_of_ble_eq_true rfl) ⟨Nat.le_of_ble_eq_true rfl, Nat.le_of_ble_eq_true rfl⟩ ⟨Nat.le_of_ble_eq_true rfl, Nat.le_of_ble_eq_true rfl⟩ ?_
    refine ok_X0_monthLength (by omega) (by omega) ?_
    have mr := ml_rng 0 t
    refine V_callS (fr := 0) (lo := 0) (mc := 0) (ms := 0) (As := [_, _, _]) C ysX6_isWithin w_451 dX6_holiday_17 rfl rfl (Nat.le_of_ble_eq_true rfl) ⟨Nat.le_of_ble_eq_true rfl, Nat.le_of_ble_eq_true rfl⟩ ⟨Nat.le_of_ble_eq_true rfl, Nat.le_of_ble_eq_true rfl⟩ ?_
    refine ok_X6_isWithin (by omega) (by omega) (by omega) (fun hw2 => ?_) (fun hw2 => ?_)
    · refine V_callSX (fr := 6) (lo := 90) (mc := 1) (ms := 6) (As := [_]) C hxt ysX6_checkArgument w_454 dX6_holiday_20 rfl rfl (Nat.le_of_ble_eq_true rfl) ⟨Nat.le_of_ble_eq_true rfl, Nat.le_of_ble_eq_true rfl⟩ ⟨Nat.le_of_ble_eq_true rfl, Nat.le_of_ble_eq_true rfl⟩ (fun _ h => h) ⟨by omega, by omega⟩ ?_
      refine ok_X6_checkArgument hlt (fun _ => ?_) (fun o => absurd o (by decide))
      refine V_bipush C dX6_holiday_23 (by decide) ?_
      refine V_iload_n C dX6_holiday_25 rfl ?_
      refine V_imul C dX6_holiday_26 ?_
      refine V_iload_n C dX6_holiday_27 rfl ?_
      refine V_iadd C dX6_holiday_28 ?_
      refine V_istore_n C dX6_holiday_29 (by decide) ?_
      refine V_aload_n C dX6_holiday_30 rfl ?_
      refine V_get C fg_X6_10 dX6_holiday_31 (by repeat (first | with_reducible assumption | with_reducible exact mset_self _ _ _ | refine (mset_ne (by omega)).trans ?_)) (by (try simp only [mset_1]); omega) (by rfl) ?_
      refine V_get C fg_X6_65 dX6_holiday_34 (by repeat (first | with_reducible assumption | with_reducible exact mset_self _ _ _ | refine (mset_ne (by omega)).trans ?_)) (by (try simp only [mset_1]); omega) (by rfl) ?_
      refine V_if_ne C dX6_holiday_37 (tgt := 58) (by decide) (by omega) (fun g37 => ?_) (fun g37 => ?_)
      · refine V_iconst C dX6_holiday_58 ?_
        refine V_callSX (fr := 6) (lo := 90) (mc := 1) (ms := 6) (As := [_]) C hxt ysX6_checkState w_561 dX6_holiday_59 rfl rfl (Nat.le_of_ble_eq_true rfl) ⟨Nat.le_of_ble_eq_true rfl, Nat.le_of_ble_eq_true rfl⟩ ⟨Nat.le_of_ble_eq_true rfl, Nat.le_of_ble_eq_true rfl⟩ (fun _ h => h) ⟨by omega, by omega⟩ ?_
        refine ok_X6_checkState hlt (fun o => absurd o (by decide)) (fun _ => (hX2 ⟨hw1, hw2⟩ (fun o => by have o1 := o.1; omega)))
        done
      · refine V_aload_n C dX6_holiday_40 rfl ?_
        refine V_get C fg_X6_10 dX6_holiday_41 (by repeat (first | with_reducible assumption | with_reducible exact mset_self _ _ _ | refine (mset_ne (by omega)).trans ?_)) (by (try simp only [mset_1]); omega) (by rfl) ?_
        refine V_get C fg_X6_56 dX6_holiday_44 (by repeat (first | with_reducible assumption | with_reducible exact mset_self _ _ _ | refine (mset_ne (by omega)).trans ?_)) (by (try simp only [mset_1]); omega) (by rfl) ?_
        refine V_iload_n C dX6_holiday_47 rfl ?_
        refine V_callV (fr := 1) (lo := 22) (mc := 0) (ms := 0) (As := [_]) C yvX2_canToggle w_557 dX6_holiday_48 rfl rfl (by repeat (first | with_reducible assumption | with_reducible exact mset_self _ _ _ | refine (mset_ne (by omega)).trans ?_)) (by (try simp only [mset_1]); omega) rfl rfl (Nat.le_of_ble_eq_true rfl) ⟨Nat.le_of_ble_eq_true rfl, Nat.le_of_ble_eq_true rfl⟩ ⟨Nat.le_of_ble_eq_true rfl, Nat.le_of_ble_eq_true rfl⟩ ?_
        refine ok_X2_canToggle hS9.hol d2 dH (by omega) (fun hc => ?_) (fun hc => ?_)
        · refine V_ifeq1 C dX6_holiday_51 (tgt := 58) (by decide) ?_
          refine V_iconst C dX6_holiday_54 ?_
          refine V_goto C dX6_holiday_55 (tgt := 59) (by decide) ?_
          refine V_callSX (fr := 6) (lo := 90) (mc := 1) (ms := 6) (As := [_]) C hxt ysX6_checkState w_561 dX6_holiday_59 rfl rfl (Nat.le_of_ble_eq_true rfl) ⟨Nat.le_of_ble_eq_true rfl, Nat.le_of_ble_eq_true rfl⟩ ⟨Nat.le_of_ble_eq_true rfl, Nat.le_of_ble_eq_true rfl⟩ (fun _ h => h) ⟨by omega, by omega⟩ ?_
          refine ok_X6_checkState hlt (fun _ => ?_) (fun o => absurd o (by decide))
          refine V_aload_n C dX6_holiday_62 rfl ?_
          refine V_callV (fr := 3) (lo := 69) (mc := 0) (ms := 0) (As := []) C yvX6_save w_201 dX6_holiday_63 rfl rfl (by repeat (first | with_reducible assumption | with_reducible exact mset_self _ _ _ | refine (mset_ne (by omega)).trans ?_)) (by (try simp only [mset_1]); omega) rfl rfl (Nat.le_of_ble_eq_true rfl) ⟨Nat.le_of_ble_eq_true rfl, Nat.le_of_ble_eq_true rfl⟩ ⟨Nat.le_of_ble_eq_true rfl, Nat.le_of_ble_eq_true rfl⟩ ?_
          refine ok_X6_save hD9 hI9 (fun M1 s1 x1 => ?_)
          have y9 := svD_now (x := x)
          have b1 : StateAt cy z M1 1 (xS x) := by rw [← y9]; exact x1.2.2.2.2.1
          have q0 : M1.2 0 = _ := x1.2.1
          have qn := x1.1
          have k0 := b1.2.1
          have h2 := b1.hol.2.1
          have h3 := b1.hol.1
          refine V_aload_n C dX6_holiday_66 rfl ?_
          refine V_get C fg_X6_10 dX6_holiday_67 (by repeat (first | with_reducible assumption | with_reducible exact mset_self _ _ _ | refine (mset_ne (by omega)).trans ?_)) (by (try simp only [mset_1]); omega) (by rfl) ?_
          refine V_get C fg_X6_56 dX6_holiday_70 (by repeat (first | with_reducible assumption | with_reducible exact mset_self _ _ _ | refine (mset_ne (by omega)).trans ?_)) (by (try simp only [mset_1]); omega) (by rfl) ?_
          refine V_iload_n C dX6_holiday_73 rfl ?_
          refine V_callV (fr := 1) (lo := 22) (mc := 0) (ms := 0) (As := [_]) C yvX2_toggle w_580 dX6_holiday_74 rfl rfl (by repeat (first | with_reducible assumption | with_reducible exact mset_self _ _ _ | refine (mset_ne (by omega)).trans ?_)) (by (try simp only [mset_1]); omega) rfl rfl (Nat.le_of_ble_eq_true rfl) ⟨Nat.le_of_ble_eq_true rfl, Nat.le_of_ble_eq_true rfl⟩ ⟨Nat.le_of_ble_eq_true rfl, Nat.le_of_ble_eq_true rfl⟩ ?_
          refine ok_X2_toggle b1.hol d2 dH (by omega) hc (fun M3 i g1 g2 g3 s3 x3 => ?_) (fun M3 g1 g2 s3 x3 => ?_)
          · have q3 := s3.1
            have z0 : M3.2 0 = _ := (s3.2 _ (by simp)).trans q0
            have z1 : M3.2 1 = _ := (s3.2 _ (by simp)).trans k0
            have z2 := x3.2.1
            refine V_aload_n C dX6_holiday_77 rfl ?_
            refine V_get C fg_X6_10 dX6_holiday_78 (by repeat (first | with_reducible assumption | with_reducible exact mset_self _ _ _ | refine (mset_ne (by omega)).trans ?_)) (by (try simp only [mset_1]); omega) (by rfl) ?_
            refine V_get C fg_X6_56 dX6_holiday_81 (by repeat (first | with_reducible assumption | with_reducible exact mset_self _ _ _ | refine (mset_ne (by omega)).trans ?_)) (by (try simp only [mset_1]); omega) (by rfl) ?_
            refine V_get C fg_X6_82 dX6_holiday_84 (by repeat (first | with_reducible assumption | with_reducible exact mset_self _ _ _ | refine (mset_ne (by omega)).trans ?_)) (by (try simp only [mset_1]); omega) (by rfl) ?_
            refine V_ret ?_
            refine V_widen (k := 3) (n := 18) (by omega) (by omega) ?_
            exact V_iret C hr dX6_holiday_87 (hK1 ⟨hw1, hw2⟩ (by omega) _ i g1 g2 g3 (s1.trans (PB_331 (s3.mono (fun j hj => ⟨by rcases hj with o | o <;> omega, by rcases hj with o | o <;> omega⟩)))) (x1.now (s3.mono (fun j hj => ⟨by rcases hj with o | o <;> omega, by rcases hj with o | o <;> omega⟩)) (b1.holi s3 x3)))
          · have q3 := s3.1
            have z0 : M3.2 0 = _ := (s3.2 _ (by simp)).trans q0
            have z1 : M3.2 1 = _ := (s3.2 _ (by simp)).trans k0
            have z2 := x3.2.1
            refine V_aload_n C dX6_holiday_77 rfl ?_
            refine V_get C fg_X6_10 dX6_holiday_78 (by repeat (first | with_reducible assumption | with_reducible exact mset_self _ _ _ | refine (mset_ne (by omega)).trans ?_)) (by (try simp only [mset_1]); omega) (by rfl) ?_
            refine V_get C fg_X6_56 dX6_holiday_81 (by repeat (first | with_reducible assumption | with_reducible exact mset_self _ _ _ | refine (mset_ne (by omega)).trans ?_)) (by (try simp only [mset_1]); omega) (by rfl) ?_
            refine V_get C fg_X6_82 dX6_holiday_84 (by repeat (first | with_reducible assumption | with_reducible exact mset_self _ _ _ | refine (mset_ne (by omega)).trans ?_)) (by (try simp only [mset_1]); omega) (by rfl) ?_
            refine V_ret ?_
            refine V_widen (k := 3) (n := 18) (by omega) (by omega) ?_
            exact V_iret C hr dX6_holiday_87 (hK2 ⟨hw1, hw2⟩ (by omega) _ g1 g2 (s1.trans (PB_331 (s3.mono (fun j hj => ⟨by rcases hj with o | o <;> omega, by rcases hj with o | o <;> omega⟩)))) (x1.now (s3.mono (fun j hj => ⟨by rcases hj with o | o <;> omega, by rcases hj with o | o <;> omega⟩)) (b1.holi s3 x3)))
        · refine V_ifeq0 C dX6_holiday_51 (tgt := 58) (by decide) ?_
          refine V_iconst C dX6_holiday_58 ?_
          refine V_callSX (fr := 6) (lo := 90) (mc := 1) (ms := 6) (As := [_]) C hxt ysX6_checkState w_561 dX6_holiday_59 rfl rfl (Nat.le_of_ble_eq_true rfl) ⟨Nat.le_of_ble_eq_true rfl, Nat.le_of_ble_eq_true rfl⟩ ⟨Nat.le_of_ble_eq_true rfl, Nat.le_of_ble_eq_true rfl⟩ (fun _ h => h) ⟨by omega, by omega⟩ ?_
          refine ok_X6_checkState hlt (fun o => absurd o (by decide)) (fun _ => (hX2 ⟨hw1, hw2⟩ (fun o => hc o.2)))
          done
    · refine V_callSX (fr := 6) (lo := 90) (mc := 1) (ms := 6) (As := [_]) C hxt ysX6_checkArgument w_454 dX6_holiday_20 rfl rfl (Nat.le_of_ble_eq_true rfl) ⟨Nat.le_of_ble_eq_true rfl, Nat.le_of_ble_eq_true rfl⟩ ⟨Nat.le_of_ble_eq_true rfl, Nat.le_of_ble_eq_true rfl⟩ (fun _ h => h) ⟨by omega, by omega⟩ ?_
      refine ok_X6_checkArgument hlt (fun o => absurd o (by decide)) (fun _ => (hX1 (fun o => hw2 o.2)))
      done
  · refine V_callSX (fr := 6) (lo := 90) (mc := 1) (ms := 6) (As := [_]) C hxt ysX6_checkArgument w_454 dX6_holiday_7 rfl rfl (Nat.le_of_ble_eq_true rfl) ⟨Nat.le_of_ble_eq_true rfl, Nat.le_of_ble_eq_true rfl⟩ ⟨Nat.le_of_ble_eq_true rfl, Nat.le_of_ble_eq_true rfl⟩ (fun _ h => h) ⟨by omega, by omega⟩ ?_
    refine ok_X6_checkArgument hlt (fun o => absurd o (by decide)) (fun _ => (hX1 (fun o => hw1 o.1)))
    done

