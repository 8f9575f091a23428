/-! the calendar of the class (X0), walked -/
theorem K_of {K : Option Value → Mm → Prop} {M : Mm} {a b : Int} (h : K (some (iv b)) M) (e : a = b) : K (some (iv a)) M := e ▸ h
section VSW
variable {p : Program} {l : Launch} {e : Env} {R : Room} {s : State} {m : MethodId} {args : Array Value} {below : List Frame} {meth : Method} {c : Code} {D : va_G} {cy : Nat → ClassId} {z nL : Nat} {cc : ByteArray} {own : String} {Q : State → Prop} {cells slots : Nat} {M : Mm} {pc : Nat} {lv : List (Nat × Value)} {st : List Value}
theorem V_tout (C : Cx p l s m args meth c D cy z nL cc own) {dflt lo hi a : Int} {offs : Array Int} {len tgt : Nat} (hd : decode cc pc = .ok (.tableswitch dflt lo hi offs, len)) (ha : -2147483648 ≤ a ∧ a < 2147483648) (h : a < lo ∨ hi < a) (ht : (pc : Int) + dflt = (tgt : Int)) (k : V p l e R s m args below meth c D z nL Q cells slots M tgt lv st) : V p l e R s m args below meth c D z nL Q cells slots M pc lv (iv a :: st) :=
  fun H locs ls hl hw hS => lv_tableOut C.1 C.2.1 hd (by rw [oi_toInt ha]; exact h) ht (k H locs ls hl hw hS)
theorem V_tin (C : Cx p l s m args meth c D cy z nL cc own) {dflt lo hi a off : Int} {offs : Array Int} {len tgt : Nat} (v : Int) (hd : decode cc pc = .ok (.tableswitch dflt lo hi offs, len)) (hv : a = v) (hr : -2147483648 ≤ v ∧ v < 2147483648) (h1 : ¬ v < lo) (h2 : ¬ hi < v) (ho : offs[(v - lo).toNat]? = some off) (ht : (pc : Int) + off = (tgt : Int)) (k : V p l e R s m args below meth c D z nL Q cells slots M tgt lv st) : V p l e R s m args below meth c D z nL Q cells slots M pc lv (iv a :: st) := by
  subst hv
  exact fun H locs ls hl hw hS => lv_tableIn C.1 C.2.1 hd (by rw [oi_toInt hr]; exact h1) (by rw [oi_toInt hr]; exact h2) (by rw [oi_toInt hr]; exact ho) ht (k H locs ls hl hw hS)
end VSW
set_option maxHeartbeats 400000 in
set_option maxRecDepth 4000 in
theorem ok_X0_yearOf {l : Launch} {D : va_G} {cy : Nat → ClassId} {z : Nat} {M : Mm} {K : Option Value → Mm → Prop} {d : Int} (hd : 0 ≤ d ∧ d < 2147483648) (hK : K (some (iv (yr d))) M) :
    MT l D cy z false yX0_yearOf (wsy yX0_yearOf cX0_yearOf 3 (some .int)) 0 0 0 0 M [iv d] K := by
  refine MT_of (by decide) w_356 (Nat.le_of_ble_eq_true rfl) ?_
  intro p e s m args below meth c C hr hx0
  refine V_iload_n C dX0_yearOf_0 rfl ?_
  refine V_sipush C dX0_yearOf_1 (by decide) ?_
  refine V_irem C dX0_yearOf_4 (by omega) (by omega) ?_
  refine V_istore_n C dX0_yearOf_5 (by decide) ?_
  refine V_iload_n C dX0_yearOf_6 rfl ?_
  refine V_sipush C dX0_yearOf_7 (by decide) ?_
  refine V_icmp_ge C dX0_yearOf_10 (tgt := 17) (by decide) (by omega) (by omega) (fun g10 => ?_) (fun g10 => ?_)
  · refine V_iconst C dX0_yearOf_17 ?_
    refine V_iload_n C dX0_yearOf_18 rfl ?_
    refine V_sipush C dX0_yearOf_19 (by decide) ?_
    refine V_isub C dX0_yearOf_22 ?_
    refine V_sipush C dX0_yearOf_23 (by decide) ?_
    refine V_idiv C dX0_yearOf_26 (by omega) (by omega) ?_
    refine V_iadd C dX0_yearOf_27 ?_
    refine V_istore_n C dX0_yearOf_28 (by decide) ?_
    refine V_iload_n C dX0_yearOf_29 rfl ?_
    refine V_sipush C dX0_yearOf_30 (by decide) ?_
    refine V_idiv C dX0_yearOf_33 (by omega) (by omega) ?_
    refine V_iconst C dX0_yearOf_34 ?_
    refine V_imul C dX0_yearOf_35 ?_
    refine V_iload_n C dX0_yearOf_36 rfl ?_
    refine V_iadd C dX0_yearOf_37 ?_
    exact V_iret C hr dX0_yearOf_38 (K_of hK (by unfold yr; omega))
  · refine V_iconst C dX0_yearOf_13 ?_
    refine V_goto C dX0_yearOf_14 (tgt := 28) (by decide) ?_
    refine V_istore_n C dX0_yearOf_28 (by decide) ?_
    refine V_iload_n C dX0_yearOf_29 rfl ?_
    refine V_sipush C dX0_yearOf_30 (by decide) ?_
    refine V_idiv C dX0_yearOf_33 (by omega) (by omega) ?_
    refine V_iconst C dX0_yearOf_34 ?_
    refine V_imul C dX0_yearOf_35 ?_
    refine V_iload_n C dX0_yearOf_36 rfl ?_
    refine V_iadd C dX0_yearOf_37 ?_
    exact V_iret C hr dX0_yearOf_38 (K_of hK (by unfold yr; omega))

set_option maxHeartbeats 400000 in
set_option maxRecDepth 4000 in
theorem ok_X0_firstDayOf {l : Launch} {D : va_G} {cy : Nat → ClassId} {z : Nat} {M : Mm} {K : Option Value → Mm → Prop} {y : Int} (hd : 0 ≤ y ∧ y < 1000) (hK : K (some (iv (ny y))) M) :
    MT l D cy z false yX0_firstDayOf (wsy yX0_firstDayOf cX0_firstDayOf 1 (some .int)) 0 0 0 0 M [iv y] K := by
  refine MT_of (by decide) w_334 (Nat.le_of_ble_eq_true rfl) ?_
  intro p e s m args below meth c C hr hx0
  refine V_sipush C dX0_firstDayOf_0 (by decide) ?_
  refine V_iload_n C dX0_firstDayOf_3 rfl ?_
  refine V_imul C dX0_firstDayOf_4 ?_
  refine V_iload_n C dX0_firstDayOf_5 rfl ?_
  refine V_iconst C dX0_firstDayOf_6 ?_
  refine V_iadd C dX0_firstDayOf_7 ?_
  refine V_iconst C dX0_firstDayOf_8 ?_
  refine V_idiv C dX0_firstDayOf_9 (by omega) (by omega) ?_
  refine V_iadd C dX0_firstDayOf_10 ?_
  exact V_iret C hr dX0_firstDayOf_11 (K_of hK (by unfold ny; omega))

set_option maxHeartbeats 400000 in
set_option maxRecDepth 4000 in
theorem ok_X0_monthLength {l : Launch} {D : va_G} {cy : Nat → ClassId} {z : Nat} {M : Mm} {K : Option Value → Mm → Prop} {y t : Int} (hd : 0 ≤ y ∧ y < 1000) (ht : -2147483648 ≤ t ∧ t < 2147483648) (hK : K (some (iv (ml y t))) M) :
    MT l D cy z false yX0_monthLength (wsy yX0_monthLength cX0_monthLength 2 (some .int)) 0 0 0 0 M [iv y, iv t] K := by
  refine MT_of (by decide) w_324 (Nat.le_of_ble_eq_true rfl) ?_
  intro p e s m args below meth c C hr hx0
  refine V_iload_n C dX0_monthLength_0 rfl ?_
  rcases (show t < 2 ∨ 11 < t ∨ t = 2 ∨ t = 3 ∨ t = 4 ∨ t = 5 ∨ t = 6 ∨ t = 7 ∨ t = 8 ∨ t = 9 ∨ t = 10 ∨ t = 11 by omega) with hsw | hsw | hsw | hsw | hsw | hsw | hsw | hsw | hsw | hsw | hsw | hsw
  · refine V_tout C dX0_monthLength_1 (by omega) (by omega) (tgt := 73) (by decide) ?_
    refine V_bipush C dX0_monthLength_73 (by decide) ?_
    exact V_iret C hr dX0_monthLength_75 (K_of hK (by unfold ml; omega))
  · refine V_tout C dX0_monthLength_1 (by omega) (by omega) (tgt := 73) (by decide) ?_
    refine V_bipush C dX0_monthLength_73 (by decide) ?_
    exact V_iret C hr dX0_monthLength_75 (K_of hK (by unfold ml; omega))
  · refine V_tin C (2) dX0_monthLength_1 hsw (by omega) (by decide) (by decide) (off := 55) (by rfl) (tgt := 56) (by decide) ?_
    refine V_iload_n C dX0_monthLength_56 rfl ?_
    refine V_iconst C dX0_monthLength_57 ?_
    refine V_irem C dX0_monthLength_58 (by omega) (by omega) ?_
    refine V_if_ne C dX0_monthLength_59 (tgt := 67) (by decide) (by omega) (fun g59 => ?_) (fun g59 => ?_)
    · refine V_bipush C dX0_monthLength_67 (by decide) ?_
      exact V_iret C hr dX0_monthLength_69 (K_of hK (by unfold ml; omega))
    · refine V_bipush C dX0_monthLength_62 (by decide) ?_
      refine V_goto C dX0_monthLength_64 (tgt := 69) (by decide) ?_
      exact V_iret C hr dX0_monthLength_69 (K_of hK (by unfold ml; omega))
  · refine V_tin C (3) dX0_monthLength_1 hsw (by omega) (by decide) (by decide) (off := 72) (by rfl) (tgt := 73) (by decide) ?_
    refine V_bipush C dX0_monthLength_73 (by decide) ?_
    exact V_iret C hr dX0_monthLength_75 (K_of hK (by unfold ml; omega))
  · refine V_tin C (4) dX0_monthLength_1 hsw (by omega) (by decide) (by decide) (off := 69) (by rfl) (tgt := 70) (by decide) ?_
    refine V_bipush C dX0_monthLength_70 (by decide) ?_
    exact V_iret C hr dX0_monthLength_72 (K_of hK (by unfold ml; omega))
  · refine V_tin C (5) dX0_monthLength_1 hsw (by omega) (by decide) (by decide) (off := 72) (by rfl) (tgt := 73) (by decide) ?_
    refine V_bipush C dX0_monthLength_73 (by decide) ?_
    exact V_iret C hr dX0_monthLength_75 (K_of hK (by unfold ml; omega))
  · refine V_tin C (6) dX0_monthLength_1 hsw (by omega) (by decide) (by decide) (off := 69) (by rfl) (tgt := 70) (by decide) ?_
    refine V_bipush C dX0_monthLength_70 (by decide) ?_
    exact V_iret C hr dX0_monthLength_72 (K_of hK (by unfold ml; omega))
  · refine V_tin C (7) dX0_monthLength_1 hsw (by omega) (by decide) (by decide) (off := 72) (by rfl) (tgt := 73) (by decide) ?_
    refine V_bipush C dX0_monthLength_73 (by decide) ?_
    exact V_iret C hr dX0_monthLength_75 (K_of hK (by unfold ml; omega))
  · refine V_tin C (8) dX0_monthLength_1 hsw (by omega) (by decide) (by decide) (off := 72) (by rfl) (tgt := 73) (by decide) ?_
    refine V_bipush C dX0_monthLength_73 (by decide) ?_
    exact V_iret C hr dX0_monthLength_75 (K_of hK (by unfold ml; omega))
  · refine V_tin C (9) dX0_monthLength_1 hsw (by omega) (by decide) (by decide) (off := 69) (by rfl) (tgt := 70) (by decide) ?_
    refine V_bipush C dX0_monthLength_70 (by decide) ?_
    exact V_iret C hr dX0_monthLength_72 (K_of hK (by unfold ml; omega))
  · refine V_tin C (10) dX0_monthLength_1 hsw (by omega) (by decide) (by decide) (off := 72) (by rfl) (tgt := 73) (by decide) ?_
    refine V_bipush C dX0_monthLength_73 (by decide) ?_
    exact V_iret C hr dX0_monthLength_75 (K_of hK (by unfold ml; omega))
  · refine V_tin C (11) dX0_monthLength_1 hsw (by omega) (by decide) (by decide) (off := 69) (by rfl) (tgt := 70) (by decide) ?_
    refine V_bipush C dX0_monthLength_70 (by decide) ?_
    exact V_iret C hr dX0_monthLength_72 (K_of hK (by unfold ml; omega))

set_option maxHeartbeats 400000 in
set_option maxRecDepth 4000 in
theorem ok_X0_dateOf {l : Launch} {D : va_G} {cy : Nat → ClassId} {z : Nat} {M : Mm} {K : Option Value → Mm → Prop} {d : Int} (hd : 0 ≤ d ∧ d < 36500) (hK : K (some (iv (date d))) M) :
    MT l D cy z false yX0_dateOf (wsy yX0_dateOf cX0_dateOf 4 (some .int)) 1 22 0 0 M [iv d] K := by
  refine MT_of (by decide) w_353 (Nat.le_of_ble_eq_true rfl) ?_
  intro p e s m args below meth c C hr hx0
  obtain ⟨hy0, hy1, hy2⟩ := yr_spec hd.1
  have hs := ny_step (yr d)
  have hL := lp_rng (yr d)
  have hy3 : yr d ≤ 99 := yr_le hd.1 (by unfold ny; omega)
  have loop : ∀ (n : Nat) (t : Int), (1 ≤ t ∧ t ≤ 12) → (bef (lp (yr d)) t ≤ d - ny (yr d)) → (12 - t).toNat < n → V p l e { frames := 1, cells := 0, slots := 0, locals := 22 } s m args below meth c D z 4 (MQ below (qc_ D z K) args s 0 0 (fun q => z ≤ q)) 0 0 M 14 [(0, iv d), (1, iv (yr d)), (2, iv (d - ny (yr d) - bef (lp (yr d)) (t))), (3, iv (t))] [] := by
    intro n
    induction n with
    | zero => intro t hi0 hi1 hn; exact absurd hn (Nat.not_lt_zero _)
    | succ n ih =>
      intro t hi0 hi1 hn
      have hbr := bef_rng hL (m := t) (by omega)
      have hml := ml_rng (yr d) t
      refine V_iload_n C dX0_dateOf_14 rfl ?_
      refine V_bipush C dX0_dateOf_15 (by decide) ?_
      refine V_icmp_ge C dX0_dateOf_17 (tgt := 43) (by decide) (by omega) (by omega) (fun g17 => ?_) (fun g17 => ?_)
      · have hb := ml_bef (y := yr d) (m := t) (by omega)
        have hm : mm d = t := mo_uniq hL (by omega) (by omega) (by have e13 : bef (lp (yr d)) (12 + 1) = 365 + lp (yr d) := bef_13 _; rcases (show t = 12 ∨ t < 12 by omega) with q | q <;> first | (subst q; omega) | omega)
        refine V_sipush C dX0_dateOf_43 (by decide) ?_
        refine V_iload_n C dX0_dateOf_46 rfl ?_
        refine V_imul C dX0_dateOf_47 ?_
        refine V_bipush C dX0_dateOf_48 (by decide) ?_
        refine V_iload_n C dX0_dateOf_50 rfl ?_
        refine V_imul C dX0_dateOf_51 ?_
        refine V_iadd C dX0_dateOf_52 ?_
        refine V_iload_n C dX0_dateOf_53 rfl ?_
        refine V_iadd C dX0_dateOf_54 ?_
        refine V_iconst C dX0_dateOf_55 ?_
        refine V_iadd C dX0_dateOf_56 ?_
        exact V_iret C hr dX0_dateOf_57 (K_of hK (by unfold date dd; rw [hm]; omega))
      · refine V_iload_n C dX0_dateOf_20 rfl ?_
        refine V_iload_n C dX0_dateOf_21 rfl ?_
        refine V_iload_n C dX0_dateOf_22 rfl ?_
        refine V_callS (fr := 0) (lo := 0) (mc := 0) (ms := 0) (As := [_, _]) C ysX0_monthLength w_335 dX0_dateOf_23 rfl rfl (Nat.le_of_ble_eq_true rfl) ⟨Nat.le_of_ble_eq_true rfl, Nat.le_of_ble_eq_true rfl⟩ ⟨Nat.le_of_ble_eq_true rfl, Nat.le_of_ble_eq_true rfl⟩ ?_
        refine ok_X0_monthLength (by omega) (by omega) ?_
        refine V_icmp_lt C dX0_dateOf_26 (tgt := 43) (by decide) (by omega) (by omega) (fun g26 => ?_) (fun g26 => ?_)
        · have hb := ml_bef (y := yr d) (m := t) (by omega)
          have hm : mm d = t := mo_uniq hL (by omega) (by omega) (by have e13 : bef (lp (yr d)) (12 + 1) = 365 + lp (yr d) := bef_13 _; rcases (show t = 12 ∨ t < 12 by omega) with q | q <;> first | (subst q; omega) | omega)
          refine V_sipush C dX0_dateOf_43 (by decide) ?_
          refine V_iload_n C dX0_dateOf_46 rfl ?_
          refine V_imul C dX0_dateOf_47 ?_
          refine V_bipush C dX0_dateOf_48 (by decide) ?_
          refine V_iload_n C dX0_dateOf_50 rfl ?_
          refine V_imul C dX0_dateOf_51 ?_
          refine V_iadd C dX0_dateOf_52 ?_
          refine V_iload_n C dX0_dateOf_53 rfl ?_
          refine V_iadd C dX0_dateOf_54 ?_
          refine V_iconst C dX0_dateOf_55 ?_
          refine V_iadd C dX0_dateOf_56 ?_
          exact V_iret C hr dX0_dateOf_57 (K_of hK (by unfold date dd; rw [hm]; omega))
        · refine V_iload_n C dX0_dateOf_29 rfl ?_
          refine V_iload_n C dX0_dateOf_30 rfl ?_
          refine V_iload_n C dX0_dateOf_31 rfl ?_
          refine V_callS (fr := 0) (lo := 0) (mc := 0) (ms := 0) (As := [_, _]) C ysX0_monthLength w_335 dX0_dateOf_32 rfl rfl (Nat.le_of_ble_eq_true rfl) ⟨Nat.le_of_ble_eq_true rfl, Nat.le_of_ble_eq_true rfl⟩ ⟨Nat.le_of_ble_eq_true rfl, Nat.le_of_ble_eq_true rfl⟩ ?_
          refine ok_X0_monthLength (by omega) (by omega) ?_
          refine V_isub C dX0_dateOf_35 ?_
          refine V_istore_n C dX0_dateOf_36 (by decide) ?_
          refine V_iinc C dX0_dateOf_37 rfl (by decide) ?_
          refine V_goto C dX0_dateOf_40 (tgt := 14) (by decide) ?_
          have hb := ml_bef (y := yr d) (m := t) (by omega)
          refine V_lv [(0, iv d), (1, iv (yr d)), (2, iv (d - ny (yr d) - bef (lp (yr d)) (t + 1))), (3, iv (t + 1))] (List.forall_mem_cons.mpr ⟨(by first | rfl | exact congrArg (fun t => some (iv t)) (by omega)), (List.forall_mem_cons.mpr ⟨(by first | rfl | exact congrArg (fun t => some (iv t)) (by omega)), (List.forall_mem_cons.mpr ⟨(by first | rfl | exact congrArg (fun t => some (iv t)) (by omega)), (List.forall_mem_cons.mpr ⟨(by first | rfl | exact congrArg (fun t => some (iv t)) (by omega)), (fun _ h => nomatch h)⟩)⟩)⟩)⟩) ?_
          exact ih (t + 1) (by omega) (by omega) (by omega)
  refine V_iload_n C dX0_dateOf_0 rfl ?_
  refine V_callS (fr := 0) (lo := 0) (mc := 0) (ms := 0) (As := [_]) C ysX0_yearOf w_354 dX0_dateOf_1 rfl rfl (Nat.le_of_ble_eq_true rfl) ⟨Nat.le_of_ble_eq_true rfl, Nat.le_of_ble_eq_true rfl⟩ ⟨Nat.le_of_ble_eq_true rfl, Nat.le_of_ble_eq_true rfl⟩ ?_
  refine ok_X0_yearOf (by omega) ?_
  refine V_istore_n C dX0_dateOf_4 (by decide) ?_
  refine V_iload_n C dX0_dateOf_5 rfl ?_
  refine V_iload_n C dX0_dateOf_6 rfl ?_
  refine V_callS (fr := 0) (lo := 0) (mc := 0) (ms := 0) (As := [_]) C ysX0_firstDayOf w_332 dX0_dateOf_7 rfl rfl (Nat.le_of_ble_eq_true rfl) ⟨Nat.le_of_ble_eq_true rfl, Nat.le_of_ble_eq_true rfl⟩ ⟨Nat.le_of_ble_eq_true rfl, Nat.le_of_ble_eq_true rfl⟩ ?_
  refine ok_X0_firstDayOf (by omega) ?_
  refine V_isub C dX0_dateOf_10 ?_
  refine V_istore_n C dX0_dateOf_11 (by decide) ?_
  refine V_iconst C dX0_dateOf_12 ?_
  refine V_istore_n C dX0_dateOf_13 (by decide) ?_
  have h0 := bef_1 (lp (yr d))
  refine V_lv [(0, iv d), (1, iv (yr d)), (2, iv (d - ny (yr d) - bef (lp (yr d)) (1))), (3, iv (1))] (List.forall_mem_cons.mpr ⟨(by first | rfl | exact congrArg (fun t => some (iv t)) (by omega)), (List.forall_mem_cons.mpr ⟨(by first | rfl | exact congrArg (fun t => some (iv t)) (by omega)), (List.forall_mem_cons.mpr ⟨(by first | rfl | exact congrArg (fun t => some (iv t)) (by omega)), (List.forall_mem_cons.mpr ⟨(by first | rfl | exact congrArg (fun t => some (iv t)) (by omega)), (fun _ h => nomatch h)⟩)⟩)⟩)⟩) ?_
  exact loop 12 1 (by omega) (by omega) (by omega)

set_option maxHeartbeats 400000 in
set_option maxRecDepth 4000 in
theorem ok_X0_dayOf {l : Launch} {D : va_G} {cy : Nat → ClassId} {z : Nat} {M : Mm} {K : Option Value → Mm → Prop} {y t k : Int} (hd : 0 ≤ y ∧ y < 1000) (ht : 1 ≤ t ∧ t ≤ 12) (hk : -1000 ≤ k ∧ k ≤ 1000) (hK : K (some (iv (dayN y t k))) M) :
    MT l D cy z false yX0_dayOf (wsy yX0_dayOf cX0_dayOf 5 (some .int)) 1 21 0 0 M [iv y, iv t, iv k] K := by
  refine MT_of (by decide) w_331 (Nat.le_of_ble_eq_true rfl) ?_
  intro p e s m args below meth c C hr hx0
  have hL := lp_rng y
  have loop : ∀ (n : Nat) (i : Int), (1 ≤ i ∧ i ≤ t) → (12 - i).toNat < n → V p l e { frames := 1, cells := 0, slots := 0, locals := 21 } s m args below meth c D z 5 (MQ below (qc_ D z K) args s 0 0 (fun q => z ≤ q)) 0 0 M 12 [(0, iv y), (1, iv t), (2, iv k), (3, iv (ny y + k - 1 + bef (lp y) (i))), (4, iv (i))] [] := by
    intro n
    induction n with
    | zero => intro i hi0 hn; exact absurd hn (Nat.not_lt_zero _)
    | succ n ih =>
      intro i hi0 hn
      have hml := ml_rng y i
      refine V_iload C dX0_dayOf_12 rfl ?_
      refine V_iload_n C dX0_dayOf_14 rfl ?_
      refine V_icmp_ge C dX0_dayOf_15 (tgt := 33) (by decide) (by omega) (by omega) (fun g15 => ?_) (fun g15 => ?_)
      · have e9 : i = t := by omega
        subst e9
        refine V_iload_n C dX0_dayOf_33 rfl ?_
        exact V_iret C hr dX0_dayOf_34 (K_of hK (by unfold dayN; omega))
      · refine V_iload_n C dX0_dayOf_18 rfl ?_
        refine V_iload_n C dX0_dayOf_19 rfl ?_
        refine V_iload C dX0_dayOf_20 rfl ?_
        refine V_callS (fr := 0) (lo := 0) (mc := 0) (ms := 0) (As := [_, _]) C ysX0_monthLength w_335 dX0_dayOf_22 rfl rfl (Nat.le_of_ble_eq_true rfl) ⟨Nat.le_of_ble_eq_true rfl, Nat.le_of_ble_eq_true rfl⟩ ⟨Nat.le_of_ble_eq_true rfl, Nat.le_of_ble_eq_true rfl⟩ ?_
        refine ok_X0_monthLength (by omega) (by omega) ?_
        refine V_iadd C dX0_dayOf_25 ?_
        refine V_istore_n C dX0_dayOf_26 (by decide) ?_
        refine V_iinc C dX0_dayOf_27 rfl (by decide) ?_
        refine V_goto C dX0_dayOf_30 (tgt := 12) (by decide) ?_
        have hb := ml_bef (y := y) (m := i) (by omega)
        refine V_lv [(0, iv y), (1, iv t), (2, iv k), (3, iv (ny y + k - 1 + bef (lp y) (i + 1))), (4, iv (i + 1))] (List.forall_mem_cons.mpr ⟨(by first | rfl | exact congrArg (fun t => some (iv t)) (by omega)), (List.forall_mem_cons.mpr ⟨(by first | rfl | exact congrArg (fun t => some (iv t)) (by omega)), (List.forall_mem_cons.mpr ⟨(by first | rfl | exact congrArg (fun t => some (iv t)) (by omega)), (List.forall_mem_cons.mpr ⟨(by first | rfl | exact congrArg (fun t => some (iv t)) (by omega)), (List.forall_mem_cons.mpr ⟨(by first | rfl | exact congrArg (fun t => some (iv t)) (by omega)), (fun _ h => nomatch h)⟩)⟩)⟩)⟩)⟩) ?_
        exact ih (i + 1) (by omega) (by omega)
  refine V_iload_n C dX0_dayOf_0 rfl ?_
  refine V_callS (fr := 0) (lo := 0) (mc := 0) (ms := 0) (As := [_]) C ysX0_firstDayOf w_332 dX0_dayOf_1 rfl rfl (Nat.le_of_ble_eq_true rfl) ⟨Nat.le_of_ble_eq_true rfl, Nat.le_of_ble_eq_true rfl⟩ ⟨Nat.le_of_ble_eq_true rfl, Nat.le_of_ble_eq_true rfl⟩ ?_
  refine ok_X0_firstDayOf (by omega) ?_
  refine V_iload_n C dX0_dayOf_4 rfl ?_
  refine V_iadd C dX0_dayOf_5 ?_
  refine V_iconst C dX0_dayOf_6 ?_
  refine V_isub C dX0_dayOf_7 ?_
  refine V_istore_n C dX0_dayOf_8 (by decide) ?_
  refine V_iconst C dX0_dayOf_9 ?_
  refine V_istore C dX0_dayOf_10 (by decide) ?_
  have h0 := bef_1 (lp y)
  refine V_lv [(0, iv y), (1, iv t), (2, iv k), (3, iv (ny y + k - 1 + bef (lp y) (1))), (4, iv (1))] (List.forall_mem_cons.mpr ⟨(by first | rfl | exact congrArg (fun t => some (iv t)) (by omega)), (List.forall_mem_cons.mpr ⟨(by first | rfl | exact congrArg (fun t => some (iv t)) (by omega)), (List.forall_mem_cons.mpr ⟨(by first | rfl | exact congrArg (fun t => some (iv t)) (by omega)), (List.forall_mem_cons.mpr ⟨(by first | rfl | exact congrArg (fun t => some (iv t)) (by omega)), (List.forall_mem_cons.mpr ⟨(by first | rfl | exact congrArg (fun t => some (iv t)) (by omega)), (fun _ h => nomatch h)⟩)⟩)⟩)⟩)⟩) ?_
  exact loop 12 1 (by omega) (by omega)

set_option maxHeartbeats 400000 in
set_option maxRecDepth 4000 in
theorem ok_X0_monthsAfter {l : Launch} {D : va_G} {cy : Nat → ClassId} {z : Nat} {M : Mm} {K : Option Value → Mm → Prop} {d n : Int} (hd : 0 ≤ d ∧ d < 36500) (hn : 0 ≤ n ∧ n < 1000) (hK : K (some (iv (later d n))) M) :
    MT l D cy z false yX0_monthsAfter (wsy yX0_monthsAfter cX0_monthsAfter 6 (some .int)) 2 45 0 0 M [iv d, iv n] K := by
  refine MT_of (by decide) w_350 (Nat.le_of_ble_eq_true rfl) ?_
  intro p e s m args below meth c C hr hx0
  refine V_iload_n C dX0_monthsAfter_0 rfl ?_
  refine V_callS (fr := 1) (lo := 22) (mc := 0) (ms := 0) (As := [_]) C ysX0_dateOf w_351 dX0_monthsAfter_1 rfl rfl (Nat.le_of_ble_eq_true rfl) ⟨Nat.le_of_ble_eq_true rfl, Nat.le_of_ble_eq_true rfl⟩ ⟨Nat.le_of_ble_eq_true rfl, Nat.le_of_ble_eq_true rfl⟩ ?_
  refine ok_X0_dateOf (by omega) ?_
  refine V_istore_n C dX0_monthsAfter_4 (by decide) ?_
  have e1 := date_yr hd.1
  have e2 := date_mm hd.1
  have e3 := date_dd hd.1
  have hm := mm_rng d
  have hk := dd_31 hd.1
  have hrg := date_rng hd
  have hy3 : yr d ≤ 99 := yr_le hd.1 (by unfold ny; omega)
  have hy0 := (yr_spec hd.1).1
  refine V_iload_n C dX0_monthsAfter_5 rfl ?_
  refine V_bipush C dX0_monthsAfter_6 (by decide) ?_
  refine V_idiv C dX0_monthsAfter_8 (by omega) (by omega) ?_
  refine V_bipush C dX0_monthsAfter_9 (by decide) ?_
  refine V_irem C dX0_monthsAfter_11 (by omega) (by omega) ?_
  refine V_iconst C dX0_monthsAfter_12 ?_
  refine V_isub C dX0_monthsAfter_13 ?_
  refine V_iload_n C dX0_monthsAfter_14 rfl ?_
  refine V_iadd C dX0_monthsAfter_15 ?_
  refine V_istore_n C dX0_monthsAfter_16 (by decide) ?_
  refine V_iload_n C dX0_monthsAfter_17 rfl ?_
  refine V_sipush C dX0_monthsAfter_18 (by decide) ?_
  refine V_idiv C dX0_monthsAfter_21 (by omega) (by omega) ?_
  refine V_iload_n C dX0_monthsAfter_22 rfl ?_
  refine V_bipush C dX0_monthsAfter_23 (by decide) ?_
  refine V_idiv C dX0_monthsAfter_25 (by omega) (by omega) ?_
  refine V_iadd C dX0_monthsAfter_26 ?_
  refine V_istore C dX0_monthsAfter_27 (by decide) ?_
  refine V_iload_n C dX0_monthsAfter_29 rfl ?_
  refine V_bipush C dX0_monthsAfter_30 (by decide) ?_
  refine V_irem C dX0_monthsAfter_32 (by omega) (by omega) ?_
  refine V_iconst C dX0_monthsAfter_33 ?_
  refine V_iadd C dX0_monthsAfter_34 ?_
  refine V_istore C dX0_monthsAfter_35 (by decide) ?_
  refine V_iload C dX0_monthsAfter_37 rfl ?_
  refine V_iload C dX0_monthsAfter_39 rfl ?_
  refine V_iload_n C dX0_monthsAfter_41 rfl ?_
  refine V_bipush C dX0_monthsAfter_42 (by decide) ?_
  refine V_irem C dX0_monthsAfter_44 (by omega) (by omega) ?_
  refine V_iload C dX0_monthsAfter_45 rfl ?_
  refine V_iload C dX0_monthsAfter_47 rfl ?_
  refine V_callS (fr := 0) (lo := 0) (mc := 0) (ms := 0) (As := [_, _]) C ysX0_monthLength w_335 dX0_monthsAfter_49 rfl rfl (Nat.le_of_ble_eq_true rfl) ⟨Nat.le_of_ble_eq_true rfl, Nat.le_of_ble_eq_true rfl⟩ ⟨Nat.le_of_ble_eq_true rfl, Nat.le_of_ble_eq_true rfl⟩ ?_
  refine ok_X0_monthLength (by omega) (by omega) ?_
  have hml := ml_rng (date d / 10000 + (date d / 100 % 100 - 1 + n) / 12) ((date d / 100 % 100 - 1 + n) % 12 + 1)
  refine V_min C w_357 w_358 w_13 w_359 dX0_monthsAfter_52 (by omega) (by omega) ⟨Nat.le_of_ble_eq_true rfl, Nat.le_of_ble_eq_true rfl⟩ ⟨Nat.le_of_ble_eq_true rfl, Nat.le_of_ble_eq_true rfl⟩ ?_
  refine V_callS (fr := 1) (lo := 21) (mc := 0) (ms := 0) (As := [_, _, _]) C ysX0_dayOf w_360 dX0_monthsAfter_55 rfl rfl (Nat.le_of_ble_eq_true rfl) ⟨Nat.le_of_ble_eq_true rfl, Nat.le_of_ble_eq_true rfl⟩ ⟨Nat.le_of_ble_eq_true rfl, Nat.le_of_ble_eq_true rfl⟩ ?_
  refine ok_X0_dayOf (by omega) (by omega) (by omega) ?_
  exact V_iret C hr dX0_monthsAfter_58 (K_of hK (by unfold later; rw [e1, e2, e3]))

