/-! the law's helpers: a call, and what it throws, told by a number -/
theorem ywL_date : YW yL_date cL_date 4 (some .int) 3 [(0, 9, 12, 13)] := ⟨w_444, w_0, w_445, by decide +kernel, by decide +kernel, by decide +kernel⟩
set_option maxHeartbeats 400000 in
set_option maxRecDepth 4000 in
theorem ok_L_date {l : Launch} {D : va_G} {cy : Nat → ClassId} {z : Nat} {M : Mm} {K : Option Value → Mm → Prop} {fs : List Value} (h0 : M.2 0 = oX 5 fs) (hM1 : 339 < M.1) {d : Int} {g9 : Nat → Int} {G9 : Int → Mm → Prop} {GX : String → Prop} (hC : ∀ {K0 : Option Value → Mm → Prop} {KX0 : String → Prop}, (∀ a M', G9 a M' → K0 (some (iv a)) M') → (∀ E, GX E → KX0 E) → MX l D cy z false yX6_date (wsy yX6_date cX6_date 2 (some .int)) 7 110 1 6 M [.ref (z + 0), iv d] K0 KX0) (hG : ∀ a M', G9 a M' → M'.2 338 = aL cy 1 g9 ∧ 338 < M'.1 ∧ K (some (iv 0)) (mset M' 338 (aL cy 1 (va_up g9 0 (w32 a))))) (hX : ∀ E, GX E → E = eA ∧ K (some (iv 1)) M) :
    MT l D cy z false yL_date (wsh yL_date cL_date 4 (some .int) [(0, 9, 12, 13)]) 8 131 1 6 M [.ref (z + 0), iv d, .ref (z + 338)] K := by
  refine MH_of (by decide) w_445 (Nat.le_of_ble_eq_true rfl) ?_
  intro p e s m args below meth c C hr ht
  refine V_aload_n C dL_date_0 rfl ?_
  refine V_iconst C dL_date_1 ?_
  refine V_aload_n C dL_date_2 rfl ?_
  refine V_iload_n C dL_date_3 rfl ?_
  refine V_callVC (KX := GX) (fr := 7) (lo := 110) (mc := 1) (ms := 6) (As := [_]) C ht yvX6_date w_447 dL_date_4 rfl rfl (by repeat (first | with_reducible assumption | with_reducible exact mset_self _ _ _ | refine (mset_ne (by omega)).trans ?_)) (by (try simp only [mset_1]); omega) rfl rfl (Nat.le_of_ble_eq_true rfl) ⟨Nat.le_of_ble_eq_true rfl, Nat.le_of_ble_eq_true rfl⟩ ⟨Nat.le_of_ble_eq_true rfl, Nat.le_of_ble_eq_true rfl⟩ ?_ ?_
  · intro E hE
    rcases hX E hE with ⟨rfl, hk9⟩
    · refine ⟨12, ⟨[], ⟨0, 9, 12, 13⟩, [], "java/lang/IllegalArgumentException", rfl, (fun _ h => nomatch h), by decide, by decide, rfl, w_446, List.mem_of_getElem? (i := 26) rfl⟩, fun q9 => ?_⟩
      refine V_astore_n C dL_date_12 (by decide) ?_
      refine V_iconst C dL_date_13 ?_
      refine V_widen (k := 1) (n := 6) (by omega) (by omega) ?_
      exact V_iret C hr dL_date_14 hk9
  refine hC (fun a M2 hg => ?_) (fun _ h => h)
  refine V_i2lw C dL_date_7 ?_
  have hg9 := hG _ M2 hg
  have hgm := hg9.1
  have hgl := hg9.2.1
  refine V_lastore C dL_date_8 (by repeat (first | with_reducible assumption | with_reducible exact mset_self _ _ _ | refine (mset_ne (by omega)).trans ?_)) (by (try simp only [mset_1]); omega) (by omega) (by omega) ?_
  refine V_goto C dL_date_9 (tgt := 15) (by decide) ?_
  refine V_iconst C dL_date_15 ?_
  refine V_widen (k := 1) (n := 6) (by omega) (by omega) ?_
  exact V_iret C hr dL_date_16 hg9.2.2

theorem ywL_day : YW yL_day cL_day 6 (some .int) 5 [(0, 12, 15, 13)] := ⟨w_525, w_0, w_526, by decide +kernel, by decide +kernel, by decide +kernel⟩
set_option maxHeartbeats 400000 in
set_option maxRecDepth 4000 in
theorem ok_L_day {l : Launch} {D : va_G} {cy : Nat → ClassId} {z : Nat} {M : Mm} {K : Option Value → Mm → Prop} {fs : List Value} (h0 : M.2 0 = oX 5 fs) (hM1 : 339 < M.1) {d t k : Int} {g9 : Nat → Int} {G9 : Int → Mm → Prop} {GX : String → Prop} (hC : ∀ {K0 : Option Value → Mm → Prop} {KX0 : String → Prop}, (∀ a M', G9 a M' → K0 (some (iv a)) M') → (∀ E, GX E → KX0 E) → MX l D cy z false yX6_day (wsy yX6_day cX6_day 4 (some .int)) 7 110 3 18 M [.ref (z + 0), iv d, iv t, iv k] K0 KX0) (hG : ∀ a M', G9 a M' → M'.2 338 = aL cy 1 g9 ∧ 338 < M'.1 ∧ K (some (iv 0)) (mset M' 338 (aL cy 1 (va_up g9 0 (w32 a))))) (hX : ∀ E, GX E → E = eA ∧ K (some (iv 1)) M) :
    MT l D cy z false yL_day (wsh yL_day cL_day 6 (some .int) [(0, 12, 15, 13)]) 8 133 3 18 M [.ref (z + 0), iv d, iv t, iv k, .ref (z + 338)] K := by
  refine MH_of (by decide) w_526 (Nat.le_of_ble_eq_true rfl) ?_
  intro p e s m args below meth c C hr ht
  refine V_aload C dL_day_0 rfl ?_
  refine V_iconst C dL_day_2 ?_
  refine V_aload_n C dL_day_3 rfl ?_
  refine V_iload_n C dL_day_4 rfl ?_
  refine V_iload_n C dL_day_5 rfl ?_
  refine V_iload_n C dL_day_6 rfl ?_
  refine V_callVC (KX := GX) (fr := 7) (lo := 110) (mc := 3) (ms := 18) (As := [_, _, _]) C ht yvX6_day w_527 dL_day_7 rfl rfl (by repeat (first | with_reducible assumption | with_reducible exact mset_self _ _ _ | refine (mset_ne (by omega)).trans ?_)) (by (try simp only [mset_1]); omega) rfl rfl (Nat.le_of_ble_eq_true rfl) ⟨Nat.le_of_ble_eq_true rfl, Nat.le_of_ble_eq_true rfl⟩ ⟨Nat.le_of_ble_eq_true rfl, Nat.le_of_ble_eq_true rfl⟩ ?_ ?_
  · intro E hE
    rcases hX E hE with ⟨rfl, hk9⟩
    · refine ⟨15, ⟨[], ⟨0, 12, 15, 13⟩, [], "java/lang/IllegalArgumentException", rfl, (fun _ h => nomatch h), by decide, by decide, rfl, w_446, List.mem_of_getElem? (i := 26) rfl⟩, fun q9 => ?_⟩
      refine V_astore C dL_day_15 (by decide) ?_
      refine V_iconst C dL_day_17 ?_
      refine V_widen (k := 3) (n := 18) (by omega) (by omega) ?_
      exact V_iret C hr dL_day_18 hk9
  refine hC (fun a M2 hg => ?_) (fun _ h => h)
  refine V_i2lw C dL_day_10 ?_
  have hg9 := hG _ M2 hg
  have hgm := hg9.1
  have hgl := hg9.2.1
  refine V_lastore C dL_day_11 (by repeat (first | with_reducible assumption | with_reducible exact mset_self _ _ _ | refine (mset_ne (by omega)).trans ?_)) (by (try simp only [mset_1]); omega) (by omega) (by omega) ?_
  refine V_goto C dL_day_12 (tgt := 19) (by decide) ?_
  refine V_iconst C dL_day_19 ?_
  refine V_widen (k := 3) (n := 18) (by omega) (by omega) ?_
  exact V_iret C hr dL_day_20 hg9.2.2

theorem ywL_later : YW yL_later cL_later 5 (some .int) 4 [(0, 10, 13, 13)] := ⟨w_534, w_0, w_535, by decide +kernel, by decide +kernel, by decide +kernel⟩
set_option maxHeartbeats 400000 in
set_option maxRecDepth 4000 in
theorem ok_L_later {l : Launch} {D : va_G} {cy : Nat → ClassId} {z : Nat} {M : Mm} {K : Option Value → Mm → Prop} {fs : List Value} (h0 : M.2 0 = oX 5 fs) (hM1 : 339 < M.1) {d t : Int} {g9 : Nat → Int} {G9 : Int → Mm → Prop} {GX : String → Prop} (hC : ∀ {K0 : Option Value → Mm → Prop} {KX0 : String → Prop}, (∀ a M', G9 a M' → K0 (some (iv a)) M') → (∀ E, GX E → KX0 E) → MX l D cy z false yX6_later (wsy yX6_later cX6_later 3 (some .int)) 7 110 2 12 M [.ref (z + 0), iv d, iv t] K0 KX0) (hG : ∀ a M', G9 a M' → M'.2 338 = aL cy 1 g9 ∧ 338 < M'.1 ∧ K (some (iv 0)) (mset M' 338 (aL cy 1 (va_up g9 0 (w32 a))))) (hX : ∀ E, GX E → E = eA ∧ K (some (iv 1)) M) :
    MT l D cy z false yL_later (wsh yL_later cL_later 5 (some .int) [(0, 10, 13, 13)]) 8 132 2 12 M [.ref (z + 0), iv d, iv t, .ref (z + 338)] K := by
  refine MH_of (by decide) w_535 (Nat.le_of_ble_eq_true rfl) ?_
  intro p e s m args below meth c C hr ht
  refine V_aload_n C dL_later_0 rfl ?_
  refine V_iconst C dL_later_1 ?_
  refine V_aload_n C dL_later_2 rfl ?_
  refine V_iload_n C dL_later_3 rfl ?_
  refine V_iload_n C dL_later_4 rfl ?_
  refine V_callVC (KX := GX) (fr := 7) (lo := 110) (mc := 2) (ms := 12) (As := [_, _]) C ht yvX6_later w_536 dL_later_5 rfl rfl (by repeat (first | with_reducible assumption | with_reducible exact mset_self _ _ _ | refine (mset_ne (by omega)).trans ?_)) (by (try simp only [mset_1]); omega) rfl rfl (Nat.le_of_ble_eq_true rfl) ⟨Nat.le_of_ble_eq_true rfl, Nat.le_of_ble_eq_true rfl⟩ ⟨Nat.le_of_ble_eq_true rfl, Nat.le_of_ble_eq_true rfl⟩ ?_ ?_
  · intro E hE
    rcases hX E hE with ⟨rfl, hk9⟩
    · refine ⟨13, ⟨[], ⟨0, 10, 13, 13⟩, [], "java/lang/IllegalArgumentException", rfl, (fun _ h => nomatch h), by decide, by decide, rfl, w_446, List.mem_of_getElem? (i := 26) rfl⟩, fun q9 => ?_⟩
      refine V_astore C dL_later_13 (by decide) ?_
      refine V_iconst C dL_later_15 ?_
      refine V_widen (k := 2) (n := 12) (by omega) (by omega) ?_
      exact V_iret C hr dL_later_16 hk9
  refine hC (fun a M2 hg => ?_) (fun _ h => h)
  refine V_i2lw C dL_later_8 ?_
  have hg9 := hG _ M2 hg
  have hgm := hg9.1
  have hgl := hg9.2.1
  refine V_lastore C dL_later_9 (by repeat (first | with_reducible assumption | with_reducible exact mset_self _ _ _ | refine (mset_ne (by omega)).trans ?_)) (by (try simp only [mset_1]); omega) (by omega) (by omega) ?_
  refine V_goto C dL_later_10 (tgt := 17) (by decide) ?_
  refine V_iconst C dL_later_17 ?_
  refine V_widen (k := 2) (n := 12) (by omega) (by omega) ?_
  exact V_iret C hr dL_later_18 hg9.2.2

theorem ywL_putOff : YW yL_putOff cL_putOff 4 (some .int) 3 [(0, 9, 12, 13)] := ⟨w_542, w_0, w_543, by decide +kernel, by decide +kernel, by decide +kernel⟩
set_option maxHeartbeats 400000 in
set_option maxRecDepth 4000 in
theorem ok_L_putOff {l : Launch} {D : va_G} {cy : Nat → ClassId} {z : Nat} {M : Mm} {K : Option Value → Mm → Prop} {fs : List Value} (h0 : M.2 0 = oX 5 fs) (hM1 : 339 < M.1) {d : Int} {g9 : Nat → Int} {G9 : Int → Mm → Prop} {GX : String → Prop} (hC : ∀ {K0 : Option Value → Mm → Prop} {KX0 : String → Prop}, (∀ a M', G9 a M' → K0 (some (iv a)) M') → (∀ E, GX E → KX0 E) → MX l D cy z false yX6_putOff (wsy yX6_putOff cX6_putOff 2 (some .int)) 7 110 1 6 M [.ref (z + 0), iv d] K0 KX0) (hG : ∀ a M', G9 a M' → M'.2 338 = aL cy 1 g9 ∧ 338 < M'.1 ∧ K (some (iv 0)) (mset M' 338 (aL cy 1 (va_up g9 0 (w32 a))))) (hX : ∀ E, GX E → E = eA ∧ K (some (iv 1)) M) :
    MT l D cy z false yL_putOff (wsh yL_putOff cL_putOff 4 (some .int) [(0, 9, 12, 13)]) 8 131 1 6 M [.ref (z + 0), iv d, .ref (z + 338)] K := by
  refine MH_of (by decide) w_543 (Nat.le_of_ble_eq_true rfl) ?_
  intro p e s m args below meth c C hr ht
  refine V_aload_n C dL_putOff_0 rfl ?_
  refine V_iconst C dL_putOff_1 ?_
  refine V_aload_n C dL_putOff_2 rfl ?_
  refine V_iload_n C dL_putOff_3 rfl ?_
  refine V_callVC (KX := GX) (fr := 7) (lo := 110) (mc := 1) (ms := 6) (As := [_]) C ht yvX6_putOff w_544 dL_putOff_4 rfl rfl (by repeat (first | with_reducible assumption | with_reducible exact mset_self _ _ _ | refine (mset_ne (by omega)).trans ?_)) (by (try simp only [mset_1]); omega) rfl rfl (Nat.le_of_ble_eq_true rfl) ⟨Nat.le_of_ble_eq_true rfl, Nat.le_of_ble_eq_true rfl⟩ ⟨Nat.le_of_ble_eq_true rfl, Nat.le_of_ble_eq_true rfl⟩ ?_ ?_
  · intro E hE
    rcases hX E hE with ⟨rfl, hk9⟩
    · refine ⟨12, ⟨[], ⟨0, 9, 12, 13⟩, [], "java/lang/IllegalArgumentException", rfl, (fun _ h => nomatch h), by decide, by decide, rfl, w_446, List.mem_of_getElem? (i := 26) rfl⟩, fun q9 => ?_⟩
      refine V_astore_n C dL_putOff_12 (by decide) ?_
      refine V_iconst C dL_putOff_13 ?_
      refine V_widen (k := 1) (n := 6) (by omega) (by omega) ?_
      exact V_iret C hr dL_putOff_14 hk9
  refine hC (fun a M2 hg => ?_) (fun _ h => h)
  refine V_i2lw C dL_putOff_7 ?_
  have hg9 := hG _ M2 hg
  have hgm := hg9.1
  have hgl := hg9.2.1
  refine V_lastore C dL_putOff_8 (by repeat (first | with_reducible assumption | with_reducible exact mset_self _ _ _ | refine (mset_ne (by omega)).trans ?_)) (by (try simp only [mset_1]); omega) (by omega) (by omega) ?_
  refine V_goto C dL_putOff_9 (tgt := 15) (by decide) ?_
  refine V_iconst C dL_putOff_15 ?_
  refine V_widen (k := 1) (n := 6) (by omega) (by omega) ?_
  exact V_iret C hr dL_putOff_16 hg9.2.2

theorem ywL_holiday : YW yL_holiday cL_holiday 5 (some .int) 4 [(0, 10, 13, 13), (0, 10, 17, 29)] := ⟨w_550, w_0, w_551, by decide +kernel, by decide +kernel, by decide +kernel⟩
set_option maxHeartbeats 400000 in
set_option maxRecDepth 4000 in
theorem ok_L_holiday {l : Launch} {D : va_G} {cy : Nat → ClassId} {z : Nat} {M : Mm} {K : Option Value → Mm → Prop} {fs : List Value} (h0 : M.2 0 = oX 5 fs) (hM1 : 339 < M.1) {d t : Int} {g9 : Nat → Int} {G9 : Int → Mm → Prop} {GX : String → Prop} (hC : ∀ {K0 : Option Value → Mm → Prop} {KX0 : String → Prop}, (∀ a M', G9 a M' → K0 (some (iv a)) M') → (∀ E, GX E → KX0 E) → MX l D cy z false yX6_holiday (wsy yX6_holiday cX6_holiday 4 (some .int)) 7 110 3 18 M [.ref (z + 0), iv d, iv t] K0 KX0) (hG : ∀ a M', G9 a M' → M'.2 338 = aL cy 1 g9 ∧ 338 < M'.1 ∧ K (some (iv 0)) (mset M' 338 (aL cy 1 (va_up g9 0 (w32 a))))) (hX : ∀ E, GX E → E = eA ∧ K (some (iv 1)) M ∨ E = eS ∧ K (some (iv 2)) M) :
    MT l D cy z false yL_holiday (wsh yL_holiday cL_holiday 5 (some .int) [(0, 10, 13, 13), (0, 10, 17, 29)]) 8 133 3 18 M [.ref (z + 0), iv d, iv t, .ref (z + 338)] K := by
  refine MH_of (by decide) w_551 (Nat.le_of_ble_eq_true rfl) ?_
  intro p e s m args below meth c C hr ht
  refine V_aload_n C dL_holiday_0 rfl ?_
  refine V_iconst C dL_holiday_1 ?_
  refine V_aload_n C dL_holiday_2 rfl ?_
  refine V_iload_n C dL_holiday_3 rfl ?_
  refine V_iload_n C dL_holiday_4 rfl ?_
  refine V_callVC (KX := GX) (fr := 7) (lo := 110) (mc := 3) (ms := 18) (As := [_, _]) C ht yvX6_holiday w_553 dL_holiday_5 rfl rfl (by repeat (first | with_reducible assumption | with_reducible exact mset_self _ _ _ | refine (mset_ne (by omega)).trans ?_)) (by (try simp only [mset_1]); omega) rfl rfl (Nat.le_of_ble_eq_true rfl) ⟨Nat.le_of_ble_eq_true rfl, Nat.le_of_ble_eq_true rfl⟩ ⟨Nat.le_of_ble_eq_true rfl, Nat.le_of_ble_eq_true rfl⟩ ?_ ?_
  · intro E hE
    rcases hX E hE with ⟨rfl, hk9⟩ | ⟨rfl, hk9⟩
    · refine ⟨13, ⟨[], ⟨0, 10, 13, 13⟩, [⟨0, 10, 17, 29⟩], "java/lang/IllegalArgumentException", rfl, (fun _ h => nomatch h), by decide, by decide, rfl, w_446, List.mem_of_getElem? (i := 26) rfl⟩, fun q9 => ?_⟩
      refine V_astore C dL_holiday_13 (by decide) ?_
      refine V_iconst C dL_holiday_15 ?_
      refine V_widen (k := 3) (n := 18) (by omega) (by omega) ?_
      exact V_iret C hr dL_holiday_16 hk9
    · refine ⟨17, ⟨[⟨0, 10, 13, 13⟩], ⟨0, 10, 17, 29⟩, [], "java/lang/IllegalStateException", rfl, (List.forall_mem_cons.mpr ⟨Or.inr ⟨by decide, _, w_446, List.mem_of_getElem? (i := 0) rfl⟩, (fun _ h => nomatch h)⟩), by decide, by decide, rfl, w_552, List.mem_of_getElem? (i := 33) rfl⟩, fun q9 => ?_⟩
      refine V_astore C dL_holiday_17 (by decide) ?_
      refine V_iconst C dL_holiday_19 ?_
      refine V_widen (k := 3) (n := 18) (by omega) (by omega) ?_
      exact V_iret C hr dL_holiday_20 hk9
  refine hC (fun a M2 hg => ?_) (fun _ h => h)
  refine V_i2lw C dL_holiday_8 ?_
  have hg9 := hG _ M2 hg
  have hgm := hg9.1
  have hgl := hg9.2.1
  refine V_lastore C dL_holiday_9 (by repeat (first | with_reducible assumption | with_reducible exact mset_self _ _ _ | refine (mset_ne (by omega)).trans ?_)) (by (try simp only [mset_1]); omega) (by omega) (by omega) ?_
  refine V_goto C dL_holiday_10 (tgt := 21) (by decide) ?_
  refine V_iconst C dL_holiday_21 ?_
  refine V_widen (k := 3) (n := 18) (by omega) (by omega) ?_
  exact V_iret C hr dL_holiday_22 hg9.2.2

theorem ywL_file : YW yL_file cL_file 4 (some .int) 3 [(0, 9, 12, 29)] := ⟨w_589, w_0, w_590, by decide +kernel, by decide +kernel, by decide +kernel⟩
set_option maxHeartbeats 400000 in
set_option maxRecDepth 4000 in
theorem ok_L_file {l : Launch} {D : va_G} {cy : Nat → ClassId} {z : Nat} {M : Mm} {K : Option Value → Mm → Prop} {fs : List Value} (h0 : M.2 0 = oX 5 fs) (hM1 : 339 < M.1) {d : Int} {g9 : Nat → Int} {G9 : Int → Mm → Prop} {GX : String → Prop} (hC : ∀ {K0 : Option Value → Mm → Prop} {KX0 : String → Prop}, (∀ a M', G9 a M' → K0 (some (iv a)) M') → (∀ E, GX E → KX0 E) → MX l D cy z false yX6_file (wsy yX6_file cX6_file 2 (some .int)) 7 135 1 6 M [.ref (z + 0), iv d] K0 KX0) (hG : ∀ a M', G9 a M' → M'.2 338 = aL cy 1 g9 ∧ 338 < M'.1 ∧ K (some (iv 0)) (mset M' 338 (aL cy 1 (va_up g9 0 (w32 a))))) (hX : ∀ E, GX E → E = eS ∧ K (some (iv 1)) M) :
    MT l D cy z false yL_file (wsh yL_file cL_file 4 (some .int) [(0, 9, 12, 29)]) 8 156 1 6 M [.ref (z + 0), iv d, .ref (z + 338)] K := by
  refine MH_of (by decide) w_590 (Nat.le_of_ble_eq_true rfl) ?_
  intro p e s m args below meth c C hr ht
  refine V_aload_n C dL_file_0 rfl ?_
  refine V_iconst C dL_file_1 ?_
  refine V_aload_n C dL_file_2 rfl ?_
  refine V_iload_n C dL_file_3 rfl ?_
  refine V_callVC (KX := GX) (fr := 7) (lo := 135) (mc := 1) (ms := 6) (As := [_]) C ht yvX6_file w_591 dL_file_4 rfl rfl (by repeat (first | with_reducible assumption | with_reducible exact mset_self _ _ _ | refine (mset_ne (by omega)).trans ?_)) (by (try simp only [mset_1]); omega) rfl rfl (Nat.le_of_ble_eq_true rfl) ⟨Nat.le_of_ble_eq_true rfl, Nat.le_of_ble_eq_true rfl⟩ ⟨Nat.le_of_ble_eq_true rfl, Nat.le_of_ble_eq_true rfl⟩ ?_ ?_
  · intro E hE
    rcases hX E hE with ⟨rfl, hk9⟩
    · refine ⟨12, ⟨[], ⟨0, 9, 12, 29⟩, [], "java/lang/IllegalStateException", rfl, (fun _ h => nomatch h), by decide, by decide, rfl, w_552, List.mem_of_getElem? (i := 33) rfl⟩, fun q9 => ?_⟩
      refine V_astore_n C dL_file_12 (by decide) ?_
      refine V_iconst C dL_file_13 ?_
      refine V_widen (k := 1) (n := 6) (by omega) (by omega) ?_
      exact V_iret C hr dL_file_14 hk9
  refine hC (fun a M2 hg => ?_) (fun _ h => h)
  refine V_i2lw C dL_file_7 ?_
  have hg9 := hG _ M2 hg
  have hgm := hg9.1
  have hgl := hg9.2.1
  refine V_lastore C dL_file_8 (by repeat (first | with_reducible assumption | with_reducible exact mset_self _ _ _ | refine (mset_ne (by omega)).trans ?_)) (by (try simp only [mset_1]); omega) (by omega) (by omega) ?_
  refine V_goto C dL_file_9 (tgt := 15) (by decide) ?_
  refine V_iconst C dL_file_15 ?_
  refine V_widen (k := 1) (n := 6) (by omega) (by omega) ?_
  exact V_iret C hr dL_file_16 hg9.2.2

theorem ywL_pass : YW yL_pass cL_pass 4 (some .int) 3 [(0, 9, 12, 13), (0, 9, 15, 29)] := ⟨w_597, w_0, w_598, by decide +kernel, by decide +kernel, by decide +kernel⟩
set_option maxHeartbeats 400000 in
set_option maxRecDepth 4000 in
theorem ok_L_pass {l : Launch} {D : va_G} {cy : Nat → ClassId} {z : Nat} {M : Mm} {K : Option Value → Mm → Prop} {fs : List Value} (h0 : M.2 0 = oX 5 fs) (hM1 : 339 < M.1) {d : Int} {g9 : Nat → Int} {G9 : Int → Mm → Prop} {GX : String → Prop} (hC : ∀ {K0 : Option Value → Mm → Prop} {KX0 : String → Prop}, (∀ a M', G9 a M' → K0 (some (iv a)) M') → (∀ E, GX E → KX0 E) → MX l D cy z false yX6_pass (wsy yX6_pass cX6_pass 3 (some .int)) 7 110 2 12 M [.ref (z + 0), iv d] K0 KX0) (hG : ∀ a M', G9 a M' → M'.2 338 = aL cy 1 g9 ∧ 338 < M'.1 ∧ K (some (iv 0)) (mset M' 338 (aL cy 1 (va_up g9 0 (w32 a))))) (hX : ∀ E, GX E → E = eA ∧ K (some (iv 1)) M ∨ E = eS ∧ K (some (iv 2)) M) :
    MT l D cy z false yL_pass (wsh yL_pass cL_pass 4 (some .int) [(0, 9, 12, 13), (0, 9, 15, 29)]) 8 132 2 12 M [.ref (z + 0), iv d, .ref (z + 338)] K := by
  refine MH_of (by decide) w_598 (Nat.le_of_ble_eq_true rfl) ?_
  intro p e s m args below meth c C hr ht
  refine V_aload_n C dL_pass_0 rfl ?_
  refine V_iconst C dL_pass_1 ?_
  refine V_aload_n C dL_pass_2 rfl ?_
  refine V_iload_n C dL_pass_3 rfl ?_
  refine V_callVC (KX := GX) (fr := 7) (lo := 110) (mc := 2) (ms := 12) (As := [_]) C ht yvX6_pass w_599 dL_pass_4 rfl rfl (by repeat (first | with_reducible assumption | with_reducible exact mset_self _ _ _ | refine (mset_ne (by omega)).trans ?_)) (by (try simp only [mset_1]); omega) rfl rfl (Nat.le_of_ble_eq_true rfl) ⟨Nat.le_of_ble_eq_true rfl, Nat.le_of_ble_eq_true rfl⟩ ⟨Nat.le_of_ble_eq_true rfl, Nat.le_of_ble_eq_true rfl⟩ ?_ ?_
  · intro E hE
    rcases hX E hE with ⟨rfl, hk9⟩ | ⟨rfl, hk9⟩
    · refine ⟨12, ⟨[], ⟨0, 9, 12, 13⟩, [⟨0, 9, 15, 29⟩], "java/lang/IllegalArgumentException", rfl, (fun _ h => nomatch h), by decide, by decide, rfl, w_446, List.mem_of_getElem? (i := 26) rfl⟩, fun q9 => ?_⟩
      refine V_astore_n C dL_pass_12 (by decide) ?_
      refine V_iconst C dL_pass_13 ?_
      refine V_widen (k := 2) (n := 12) (by omega) (by omega) ?_
      exact V_iret C hr dL_pass_14 hk9
    · refine ⟨15, ⟨[⟨0, 9, 12, 13⟩], ⟨0, 9, 15, 29⟩, [], "java/lang/IllegalStateException", rfl, (List.forall_mem_cons.mpr ⟨Or.inr ⟨by decide, _, w_446, List.mem_of_getElem? (i := 0) rfl⟩, (fun _ h => nomatch h)⟩), by decide, by decide, rfl, w_552, List.mem_of_getElem? (i := 33) rfl⟩, fun q9 => ?_⟩
      refine V_astore_n C dL_pass_15 (by decide) ?_
      refine V_iconst C dL_pass_16 ?_
      refine V_widen (k := 2) (n := 12) (by omega) (by omega) ?_
      exact V_iret C hr dL_pass_17 hk9
  refine hC (fun a M2 hg => ?_) (fun _ h => h)
  refine V_i2lw C dL_pass_7 ?_
  have hg9 := hG _ M2 hg
  have hgm := hg9.1
  have hgl := hg9.2.1
  refine V_lastore C dL_pass_8 (by repeat (first | with_reducible assumption | with_reducible exact mset_self _ _ _ | refine (mset_ne (by omega)).trans ?_)) (by (try simp only [mset_1]); omega) (by omega) (by omega) ?_
  refine V_goto C dL_pass_9 (tgt := 18) (by decide) ?_
  refine V_iconst C dL_pass_18 ?_
  refine V_widen (k := 2) (n := 12) (by omega) (by omega) ?_
  exact V_iret C hr dL_pass_19 hg9.2.2

theorem ywL_pay : YW yL_pay cL_pay 4 (some .int) 3 [(0, 9, 12, 41), (0, 9, 15, 29)] := ⟨w_608, w_0, w_609, by decide +kernel, by decide +kernel, by decide +kernel⟩
set_option maxHeartbeats 400000 in
set_option maxRecDepth 4000 in
theorem ok_L_pay {l : Launch} {D : va_G} {cy : Nat → ClassId} {z : Nat} {M : Mm} {K : Option Value → Mm → Prop} {fs : List Value} (h0 : M.2 0 = oX 5 fs) (hM1 : 339 < M.1) {d : Int} {g9 : Nat → Int} {G9 : Int → Mm → Prop} {GX : String → Prop} (hC : ∀ {K0 : Option Value → Mm → Prop} {KX0 : String → Prop}, (∀ a M', G9 a M' → K0 (some (iv a)) M') → (∀ E, GX E → KX0 E) → MX l D cy z false yX6_pay (wsy yX6_pay cX6_pay 3 (some .int)) 7 111 2 12 M [.ref (z + 0), iv d] K0 KX0) (hG : ∀ a M', G9 a M' → M'.2 338 = aL cy 1 g9 ∧ 338 < M'.1 ∧ K (some (iv 0)) (mset M' 338 (aL cy 1 (va_up g9 0 (w32 a))))) (hX : ∀ E, GX E → E = eI ∧ K (some (iv 1)) M ∨ E = eS ∧ K (some (iv 2)) M) :
    MT l D cy z false yL_pay (wsh yL_pay cL_pay 4 (some .int) [(0, 9, 12, 41), (0, 9, 15, 29)]) 8 133 2 12 M [.ref (z + 0), iv d, .ref (z + 338)] K := by
  refine MH_of (by decide) w_609 (Nat.le_of_ble_eq_true rfl) ?_
  intro p e s m args below meth c C hr ht
  refine V_aload_n C dL_pay_0 rfl ?_
  refine V_iconst C dL_pay_1 ?_
  refine V_aload_n C dL_pay_2 rfl ?_
  refine V_iload_n C dL_pay_3 rfl ?_
  refine V_callVC (KX := GX) (fr := 7) (lo := 111) (mc := 2) (ms := 12) (As := [_]) C ht yvX6_pay w_611 dL_pay_4 rfl rfl (by repeat (first | with_reducible assumption | with_reducible exact mset_self _ _ _ | refine (mset_ne (by omega)).trans ?_)) (by (try simp only [mset_1]); omega) rfl rfl (Nat.le_of_ble_eq_true rfl) ⟨Nat.le_of_ble_eq_true rfl, Nat.le_of_ble_eq_true rfl⟩ ⟨Nat.le_of_ble_eq_true rfl, Nat.le_of_ble_eq_true rfl⟩ ?_ ?_
  · intro E hE
    rcases hX E hE with ⟨rfl, hk9⟩ | ⟨rfl, hk9⟩
    · refine ⟨12, ⟨[], ⟨0, 9, 12, 41⟩, [⟨0, 9, 15, 29⟩], "java/lang/IndexOutOfBoundsException", rfl, (fun _ h => nomatch h), by decide, by decide, rfl, w_610, List.mem_of_getElem? (i := 34) rfl⟩, fun q9 => ?_⟩
      refine V_astore_n C dL_pay_12 (by decide) ?_
      refine V_iconst C dL_pay_13 ?_
      refine V_widen (k := 2) (n := 12) (by omega) (by omega) ?_
      exact V_iret C hr dL_pay_14 hk9
    · refine ⟨15, ⟨[⟨0, 9, 12, 41⟩], ⟨0, 9, 15, 29⟩, [], "java/lang/IllegalStateException", rfl, (List.forall_mem_cons.mpr ⟨Or.inr ⟨by decide, _, w_610, List.mem_of_getElem? (i := 2) rfl⟩, (fun _ h => nomatch h)⟩), by decide, by decide, rfl, w_552, List.mem_of_getElem? (i := 33) rfl⟩, fun q9 => ?_⟩
      refine V_astore_n C dL_pay_15 (by decide) ?_
      refine V_iconst C dL_pay_16 ?_
      refine V_widen (k := 2) (n := 12) (by omega) (by omega) ?_
      exact V_iret C hr dL_pay_17 hk9
  refine hC (fun a M2 hg => ?_) (fun _ h => h)
  refine V_i2lw C dL_pay_7 ?_
  have hg9 := hG _ M2 hg
  have hgm := hg9.1
  have hgl := hg9.2.1
  refine V_lastore C dL_pay_8 (by repeat (first | with_reducible assumption | with_reducible exact mset_self _ _ _ | refine (mset_ne (by omega)).trans ?_)) (by (try simp only [mset_1]); omega) (by omega) (by omega) ?_
  refine V_goto C dL_pay_9 (tgt := 18) (by decide) ?_
  refine V_iconst C dL_pay_18 ?_
  refine V_widen (k := 2) (n := 12) (by omega) (by omega) ?_
  exact V_iret C hr dL_pay_19 hg9.2.2

theorem ywL_revive : YW yL_revive cL_revive 4 (some .int) 3 [(0, 9, 12, 41), (0, 9, 15, 29)] := ⟨w_638, w_0, w_639, by decide +kernel, by decide +kernel, by decide +kernel⟩
set_option maxHeartbeats 400000 in
set_option maxRecDepth 4000 in
theorem ok_L_revive {l : Launch} {D : va_G} {cy : Nat → ClassId} {z : Nat} {M : Mm} {K : Option Value → Mm → Prop} {fs : List Value} (h0 : M.2 0 = oX 5 fs) (hM1 : 339 < M.1) {d : Int} {g9 : Nat → Int} {G9 : Int → Mm → Prop} {GX : String → Prop} (hC : ∀ {K0 : Option Value → Mm → Prop} {KX0 : String → Prop}, (∀ a M', G9 a M' → K0 (some (iv a)) M') → (∀ E, GX E → KX0 E) → MX l D cy z false yX6_revive (wsy yX6_revive cX6_revive 3 (some .int)) 7 113 2 12 M [.ref (z + 0), iv d] K0 KX0) (hG : ∀ a M', G9 a M' → M'.2 338 = aL cy 1 g9 ∧ 338 < M'.1 ∧ K (some (iv 0)) (mset M' 338 (aL cy 1 (va_up g9 0 (w32 a))))) (hX : ∀ E, GX E → E = eI ∧ K (some (iv 1)) M ∨ E = eS ∧ K (some (iv 2)) M) :
    MT l D cy z false yL_revive (wsh yL_revive cL_revive 4 (some .int) [(0, 9, 12, 41), (0, 9, 15, 29)]) 8 135 2 12 M [.ref (z + 0), iv d, .ref (z + 338)] K := by
  refine MH_of (by decide) w_639 (Nat.le_of_ble_eq_true rfl) ?_
  intro p e s m args below meth c C hr ht
  refine V_aload_n C dL_revive_0 rfl ?_
  refine V_iconst C dL_revive_1 ?_
  refine V_aload_n C dL_revive_2 rfl ?_
  refine V_iload_n C dL_revive_3 rfl ?_
  refine V_callVC (KX := GX) (fr := 7) (lo := 113) (mc := 2) (ms := 12) (As := [_]) C ht yvX6_revive w_640 dL_revive_4 rfl rfl (by repeat (first | with_reducible assumption | with_reducible exact mset_self _ _ _ | refine (mset_ne (by omega)).trans ?_)) (by (try simp only [mset_1]); omega) rfl rfl (Nat.le_of_ble_eq_true rfl) ⟨Nat.le_of_ble_eq_true rfl, Nat.le_of_ble_eq_true rfl⟩ ⟨Nat.le_of_ble_eq_true rfl, Nat.le_of_ble_eq_true rfl⟩ ?_ ?_
  · intro E hE
    rcases hX E hE with ⟨rfl, hk9⟩ | ⟨rfl, hk9⟩
    · refine ⟨12, ⟨[], ⟨0, 9, 12, 41⟩, [⟨0, 9, 15, 29⟩], "java/lang/IndexOutOfBoundsException", rfl, (fun _ h => nomatch h), by decide, by decide, rfl, w_610, List.mem_of_getElem? (i := 34) rfl⟩, fun q9 => ?_⟩
      refine V_astore_n C dL_revive_12 (by decide) ?_
      refine V_iconst C dL_revive_13 ?_
      refine V_widen (k := 2) (n := 12) (by omega) (by omega) ?_
      exact V_iret C hr dL_revive_14 hk9
    · refine ⟨15, ⟨[⟨0, 9, 12, 41⟩], ⟨0, 9, 15, 29⟩, [], "java/lang/IllegalStateException", rfl, (List.forall_mem_cons.mpr ⟨Or.inr ⟨by decide, _, w_610, List.mem_of_getElem? (i := 2) rfl⟩, (fun _ h => nomatch h)⟩), by decide, by decide, rfl, w_552, List.mem_of_getElem? (i := 33) rfl⟩, fun q9 => ?_⟩
      refine V_astore_n C dL_revive_15 (by decide) ?_
      refine V_iconst C dL_revive_16 ?_
      refine V_widen (k := 2) (n := 12) (by omega) (by omega) ?_
      exact V_iret C hr dL_revive_17 hk9
  refine hC (fun a M2 hg => ?_) (fun _ h => h)
  refine V_i2lw C dL_revive_7 ?_
  have hg9 := hG _ M2 hg
  have hgm := hg9.1
  have hgl := hg9.2.1
  refine V_lastore C dL_revive_8 (by repeat (first | with_reducible assumption | with_reducible exact mset_self _ _ _ | refine (mset_ne (by omega)).trans ?_)) (by (try simp only [mset_1]); omega) (by omega) (by omega) ?_
  refine V_goto C dL_revive_9 (tgt := 18) (by decide) ?_
  refine V_iconst C dL_revive_18 ?_
  refine V_widen (k := 2) (n := 12) (by omega) (by omega) ?_
  exact V_iret C hr dL_revive_19 hg9.2.2

theorem ywL_use : YW yL_use cL_use 5 (some .int) 4 [(0, 10, 13, 41), (0, 10, 17, 13), (0, 10, 21, 29)] := ⟨w_659, w_0, w_660, by decide +kernel, by decide +kernel, by decide +kernel⟩
set_option maxHeartbeats 400000 in
set_option maxRecDepth 4000 in
theorem ok_L_use {l : Launch} {D : va_G} {cy : Nat → ClassId} {z : Nat} {M : Mm} {K : Option Value → Mm → Prop} {fs : List Value} (h0 : M.2 0 = oX 5 fs) (hM1 : 339 < M.1) {d t : Int} {g9 : Nat → Int} {G9 : Int → Mm → Prop} {GX : String → Prop} (hC : ∀ {K0 : Option Value → Mm → Prop} {KX0 : String → Prop}, (∀ a M', G9 a M' → K0 (some (iv a)) M') → (∀ E, GX E → KX0 E) → MX l D cy z false yX6_use (wsy yX6_use cX6_use 4 (some .int)) 7 111 3 18 M [.ref (z + 0), iv d, iv t] K0 KX0) (hG : ∀ a M', G9 a M' → M'.2 338 = aL cy 1 g9 ∧ 338 < M'.1 ∧ K (some (iv 0)) (mset M' 338 (aL cy 1 (va_up g9 0 (w32 a))))) (hX : ∀ E, GX E → E = eI ∧ K (some (iv 1)) M ∨ E = eA ∧ K (some (iv 2)) M ∨ E = eS ∧ K (some (iv 3)) M) :
    MT l D cy z false yL_use (wsh yL_use cL_use 5 (some .int) [(0, 10, 13, 41), (0, 10, 17, 13), (0, 10, 21, 29)]) 8 134 3 18 M [.ref (z + 0), iv d, iv t, .ref (z + 338)] K := by
  refine MH_of (by decide) w_660 (Nat.le_of_ble_eq_true rfl) ?_
  intro p e s m args below meth c C hr ht
  refine V_aload_n C dL_use_0 rfl ?_
  refine V_iconst C dL_use_1 ?_
  refine V_aload_n C dL_use_2 rfl ?_
  refine V_iload_n C dL_use_3 rfl ?_
  refine V_iload_n C dL_use_4 rfl ?_
  refine V_callVC (KX := GX) (fr := 7) (lo := 111) (mc := 3) (ms := 18) (As := [_, _]) C ht yvX6_use w_661 dL_use_5 rfl rfl (by repeat (first | with_reducible assumption | with_reducible exact mset_self _ _ _ | refine (mset_ne (by omega)).trans ?_)) (by (try simp only [mset_1]); omega) rfl rfl (Nat.le_of_ble_eq_true rfl) ⟨Nat.le_of_ble_eq_true rfl, Nat.le_of_ble_eq_true rfl⟩ ⟨Nat.le_of_ble_eq_true rfl, Nat.le_of_ble_eq_true rfl⟩ ?_ ?_
  · intro E hE
    rcases hX E hE with ⟨rfl, hk9⟩ | ⟨rfl, hk9⟩ | ⟨rfl, hk9⟩
    · refine ⟨13, ⟨[], ⟨0, 10, 13, 41⟩, [⟨0, 10, 17, 13⟩, ⟨0, 10, 21, 29⟩], "java/lang/IndexOutOfBoundsException", rfl, (fun _ h => nomatch h), by decide, by decide, rfl, w_610, List.mem_of_getElem? (i := 34) rfl⟩, fun q9 => ?_⟩
      refine V_astore C dL_use_13 (by decide) ?_
      refine V_iconst C dL_use_15 ?_
      refine V_widen (k := 3) (n := 18) (by omega) (by omega) ?_
      exact V_iret C hr dL_use_16 hk9
    · refine ⟨17, ⟨[⟨0, 10, 13, 41⟩], ⟨0, 10, 17, 13⟩, [⟨0, 10, 21, 29⟩], "java/lang/IllegalArgumentException", rfl, (List.forall_mem_cons.mpr ⟨Or.inr ⟨by decide, _, w_610, List.mem_of_getElem? (i := 1) rfl⟩, (fun _ h => nomatch h)⟩), by decide, by decide, rfl, w_446, List.mem_of_getElem? (i := 26) rfl⟩, fun q9 => ?_⟩
      refine V_astore C dL_use_17 (by decide) ?_
      refine V_iconst C dL_use_19 ?_
      refine V_widen (k := 3) (n := 18) (by omega) (by omega) ?_
      exact V_iret C hr dL_use_20 hk9
    · refine ⟨21, ⟨[⟨0, 10, 13, 41⟩, ⟨0, 10, 17, 13⟩], ⟨0, 10, 21, 29⟩, [], "java/lang/IllegalStateException", rfl, (List.forall_mem_cons.mpr ⟨Or.inr ⟨by decide, _, w_610, List.mem_of_getElem? (i := 2) rfl⟩, (List.forall_mem_cons.mpr ⟨Or.inr ⟨by decide, _, w_446, List.mem_of_getElem? (i := 0) rfl⟩, (fun _ h => nomatch h)⟩)⟩), by decide, by decide, rfl, w_552, List.mem_of_getElem? (i := 33) rfl⟩, fun q9 => ?_⟩
      refine V_astore C dL_use_21 (by decide) ?_
      refine V_iconst C dL_use_23 ?_
      refine V_widen (k := 3) (n := 18) (by omega) (by omega) ?_
      exact V_iret C hr dL_use_24 hk9
  refine hC (fun a M2 hg => ?_) (fun _ h => h)
  refine V_i2lw C dL_use_8 ?_
  have hg9 := hG _ M2 hg
  have hgm := hg9.1
  have hgl := hg9.2.1
  refine V_lastore C dL_use_9 (by repeat (first | with_reducible assumption | with_reducible exact mset_self _ _ _ | refine (mset_ne (by omega)).trans ?_)) (by (try simp only [mset_1]); omega) (by omega) (by omega) ?_
  refine V_goto C dL_use_10 (tgt := 25) (by decide) ?_
  refine V_iconst C dL_use_25 ?_
  refine V_widen (k := 3) (n := 18) (by omega) (by omega) ?_
  exact V_iret C hr dL_use_26 hg9.2.2

theorem ywL_setFees : YW yL_setFees cL_setFees 7 (some .int) 6 [(0, 14, 17, 13)] := ⟨w_676, w_0, w_677, by decide +kernel, by decide +kernel, by decide +kernel⟩
set_option maxHeartbeats 400000 in
set_option maxRecDepth 4000 in
theorem ok_L_setFees {l : Launch} {D : va_G} {cy : Nat → ClassId} {z : Nat} {M : Mm} {K : Option Value → Mm → Prop} {fs : List Value} (h0 : M.2 0 = oX 5 fs) (hM1 : 339 < M.1) {d t k w : Int} {g9 : Nat → Int} {G9 : Int → Mm → Prop} {GX : String → Prop} (hC : ∀ {K0 : Option Value → Mm → Prop} {KX0 : String → Prop}, (∀ a M', G9 a M' → K0 (some (iv a)) M') → (∀ E, GX E → KX0 E) → MX l D cy z false yX6_setFees (wsy yX6_setFees cX6_setFees 6 (some .int)) 7 110 4 24 M [.ref (z + 0), iv d, iv t, iv k, iv w] K0 KX0) (hG : ∀ a M', G9 a M' → M'.2 338 = aL cy 1 g9 ∧ 338 < M'.1 ∧ K (some (iv 0)) (mset M' 338 (aL cy 1 (va_up g9 0 (w32 a))))) (hX : ∀ E, GX E → E = eA ∧ K (some (iv 1)) M) :
    MT l D cy z false yL_setFees (wsh yL_setFees cL_setFees 7 (some .int) [(0, 14, 17, 13)]) 8 135 4 24 M [.ref (z + 0), iv d, iv t, iv k, iv w, .ref (z + 338)] K := by
  refine MH_of (by decide) w_677 (Nat.le_of_ble_eq_true rfl) ?_
  intro p e s m args below meth c C hr ht
  refine V_aload C dL_setFees_0 rfl ?_
  refine V_iconst C dL_setFees_2 ?_
  refine V_aload_n C dL_setFees_3 rfl ?_
  refine V_iload_n C dL_setFees_4 rfl ?_
  refine V_iload_n C dL_setFees_5 rfl ?_
  refine V_iload_n C dL_setFees_6 rfl ?_
  refine V_iload C dL_setFees_7 rfl ?_
  refine V_callVC (KX := GX) (fr := 7) (lo := 110) (mc := 4) (ms := 24) (As := [_, _, _, _]) C ht yvX6_setFees w_678 dL_setFees_9 rfl rfl (by repeat (first | with_reducible assumption | with_reducible exact mset_self _ _ _ | refine (mset_ne (by omega)).trans ?_)) (by (try simp only [mset_1]); omega) rfl rfl (Nat.le_of_ble_eq_true rfl) ⟨Nat.le_of_ble_eq_true rfl, Nat.le_of_ble_eq_true rfl⟩ ⟨Nat.le_of_ble_eq_true rfl, Nat.le_of_ble_eq_true rfl⟩ ?_ ?_
  · intro E hE
    rcases hX E hE with ⟨rfl, hk9⟩
    · refine ⟨17, ⟨[], ⟨0, 14, 17, 13⟩, [], "java/lang/IllegalArgumentException", rfl, (fun _ h => nomatch h), by decide, by decide, rfl, w_446, List.mem_of_getElem? (i := 26) rfl⟩, fun q9 => ?_⟩
      refine V_astore C dL_setFees_17 (by decide) ?_
      refine V_iconst C dL_setFees_19 ?_
      refine V_widen (k := 4) (n := 24) (by omega) (by omega) ?_
      exact V_iret C hr dL_setFees_20 hk9
  refine hC (fun a M2 hg => ?_) (fun _ h => h)
  refine V_i2lw C dL_setFees_12 ?_
  have hg9 := hG _ M2 hg
  have hgm := hg9.1
  have hgl := hg9.2.1
  refine V_lastore C dL_setFees_13 (by repeat (first | with_reducible assumption | with_reducible exact mset_self _ _ _ | refine (mset_ne (by omega)).trans ?_)) (by (try simp only [mset_1]); omega) (by omega) (by omega) ?_
  refine V_goto C dL_setFees_14 (tgt := 21) (by decide) ?_
  refine V_iconst C dL_setFees_21 ?_
  refine V_widen (k := 4) (n := 24) (by omega) (by omega) ?_
  exact V_iret C hr dL_setFees_22 hg9.2.2

theorem ywL_right : YW yL_right cL_right 5 (some .int) 4 [(0, 10, 13, 41), (0, 10, 17, 13)] := ⟨w_684, w_0, w_685, by decide +kernel, by decide +kernel, by decide +kernel⟩
set_option maxHeartbeats 400000 in
set_option maxRecDepth 4000 in
theorem ok_L_right {l : Launch} {D : va_G} {cy : Nat → ClassId} {z : Nat} {M : Mm} {K : Option Value → Mm → Prop} {fs : List Value} (h0 : M.2 0 = oX 5 fs) (hM1 : 339 < M.1) {d t : Int} {g9 : Nat → Int} {G9 : Int → Mm → Prop} {GX : String → Prop} (hC : ∀ {K0 : Option Value → Mm → Prop} {KX0 : String → Prop}, (∀ a M', G9 a M' → K0 (some (iv a)) M') → (∀ E, GX E → KX0 E) → MX l D cy z false yX6_right (wsy yX6_right cX6_right 4 (some .int)) 7 129 2 12 M [.ref (z + 0), iv d, iv t] K0 KX0) (hG : ∀ a M', G9 a M' → M'.2 338 = aL cy 1 g9 ∧ 338 < M'.1 ∧ K (some (iv 0)) (mset M' 338 (aL cy 1 (va_up g9 0 (w32 a))))) (hX : ∀ E, GX E → E = eI ∧ K (some (iv 1)) M ∨ E = eA ∧ K (some (iv 2)) M) :
    MT l D cy z false yL_right (wsh yL_right cL_right 5 (some .int) [(0, 10, 13, 41), (0, 10, 17, 13)]) 8 152 2 12 M [.ref (z + 0), iv d, iv t, .ref (z + 338)] K := by
  refine MH_of (by decide) w_685 (Nat.le_of_ble_eq_true rfl) ?_
  intro p e s m args below meth c C hr ht
  refine V_aload_n C dL_right_0 rfl ?_
  refine V_iconst C dL_right_1 ?_
  refine V_aload_n C dL_right_2 rfl ?_
  refine V_iload_n C dL_right_3 rfl ?_
  refine V_iload_n C dL_right_4 rfl ?_
  refine V_callVC (KX := GX) (fr := 7) (lo := 129) (mc := 2) (ms := 12) (As := [_, _]) C ht yvX6_right w_686 dL_right_5 rfl rfl (by repeat (first | with_reducible assumption | with_reducible exact mset_self _ _ _ | refine (mset_ne (by omega)).trans ?_)) (by (try simp only [mset_1]); omega) rfl rfl (Nat.le_of_ble_eq_true rfl) ⟨Nat.le_of_ble_eq_true rfl, Nat.le_of_ble_eq_true rfl⟩ ⟨Nat.le_of_ble_eq_true rfl, Nat.le_of_ble_eq_true rfl⟩ ?_ ?_
  · intro E hE
    rcases hX E hE with ⟨rfl, hk9⟩ | ⟨rfl, hk9⟩
    · refine ⟨13, ⟨[], ⟨0, 10, 13, 41⟩, [⟨0, 10, 17, 13⟩], "java/lang/IndexOutOfBoundsException", rfl, (fun _ h => nomatch h), by decide, by decide, rfl, w_610, List.mem_of_getElem? (i := 34) rfl⟩, fun q9 => ?_⟩
      refine V_astore C dL_right_13 (by decide) ?_
      refine V_iconst C dL_right_15 ?_
      refine V_widen (k := 2) (n := 12) (by omega) (by omega) ?_
      exact V_iret C hr dL_right_16 hk9
    · refine ⟨17, ⟨[⟨0, 10, 13, 41⟩], ⟨0, 10, 17, 13⟩, [], "java/lang/IllegalArgumentException", rfl, (List.forall_mem_cons.mpr ⟨Or.inr ⟨by decide, _, w_610, List.mem_of_getElem? (i := 1) rfl⟩, (fun _ h => nomatch h)⟩), by decide, by decide, rfl, w_446, List.mem_of_getElem? (i := 26) rfl⟩, fun q9 => ?_⟩
      refine V_astore C dL_right_17 (by decide) ?_
      refine V_iconst C dL_right_19 ?_
      refine V_widen (k := 2) (n := 12) (by omega) (by omega) ?_
      exact V_iret C hr dL_right_20 hk9
  refine hC (fun a M2 hg => ?_) (fun _ h => h)
  refine V_i2lw C dL_right_8 ?_
  have hg9 := hG _ M2 hg
  have hgm := hg9.1
  have hgl := hg9.2.1
  refine V_lastore C dL_right_9 (by repeat (first | with_reducible assumption | with_reducible exact mset_self _ _ _ | refine (mset_ne (by omega)).trans ?_)) (by (try simp only [mset_1]); omega) (by omega) (by omega) ?_
  refine V_goto C dL_right_10 (tgt := 21) (by decide) ?_
  refine V_iconst C dL_right_21 ?_
  refine V_widen (k := 2) (n := 12) (by omega) (by omega) ?_
  exact V_iret C hr dL_right_22 hg9.2.2

theorem ywL_due : YW yL_due cL_due 6 (some .int) 5 [(0, 12, 15, 41), (0, 12, 19, 13)] := ⟨w_691, w_0, w_692, by decide +kernel, by decide +kernel, by decide +kernel⟩
set_option maxHeartbeats 400000 in
set_option maxRecDepth 4000 in
theorem ok_L_due {l : Launch} {D : va_G} {cy : Nat → ClassId} {z : Nat} {M : Mm} {K : Option Value → Mm → Prop} {fs : List Value} (h0 : M.2 0 = oX 5 fs) (hM1 : 339 < M.1) {d t k : Int} {g9 : Nat → Int} {G9 : Int → Mm → Prop} {GX : String → Prop} (hC : ∀ {K0 : Option Value → Mm → Prop} {KX0 : String → Prop}, (∀ a M', G9 a M' → K0 (some (iv a)) M') → (∀ E, GX E → KX0 E) → MX l D cy z false yX6_due (wsy yX6_due cX6_due 5 (some .int)) 7 111 2 12 M [.ref (z + 0), iv d, iv t, iv k] K0 KX0) (hG : ∀ a M', G9 a M' → M'.2 338 = aL cy 1 g9 ∧ 338 < M'.1 ∧ K (some (iv 0)) (mset M' 338 (aL cy 1 (va_up g9 0 (w32 a))))) (hX : ∀ E, GX E → E = eI ∧ K (some (iv 1)) M ∨ E = eA ∧ K (some (iv 2)) M) :
    MT l D cy z false yL_due (wsh yL_due cL_due 6 (some .int) [(0, 12, 15, 41), (0, 12, 19, 13)]) 8 135 2 12 M [.ref (z + 0), iv d, iv t, iv k, .ref (z + 338)] K := by
  refine MH_of (by decide) w_692 (Nat.le_of_ble_eq_true rfl) ?_
  intro p e s m args below meth c C hr ht
  refine V_aload C dL_due_0 rfl ?_
  refine V_iconst C dL_due_2 ?_
  refine V_aload_n C dL_due_3 rfl ?_
  refine V_iload_n C dL_due_4 rfl ?_
  refine V_iload_n C dL_due_5 rfl ?_
  refine V_iload_n C dL_due_6 rfl ?_
  refine V_callVC (KX := GX) (fr := 7) (lo := 111) (mc := 2) (ms := 12) (As := [_, _, _]) C ht yvX6_due w_693 dL_due_7 rfl rfl (by repeat (first | with_reducible assumption | with_reducible exact mset_self _ _ _ | refine (mset_ne (by omega)).trans ?_)) (by (try simp only [mset_1]); omega) rfl rfl (Nat.le_of_ble_eq_true rfl) ⟨Nat.le_of_ble_eq_true rfl, Nat.le_of_ble_eq_true rfl⟩ ⟨Nat.le_of_ble_eq_true rfl, Nat.le_of_ble_eq_true rfl⟩ ?_ ?_
  · intro E hE
    rcases hX E hE with ⟨rfl, hk9⟩ | ⟨rfl, hk9⟩
    · refine ⟨15, ⟨[], ⟨0, 12, 15, 41⟩, [⟨0, 12, 19, 13⟩], "java/lang/IndexOutOfBoundsException", rfl, (fun _ h => nomatch h), by decide, by decide, rfl, w_610, List.mem_of_getElem? (i := 34) rfl⟩, fun q9 => ?_⟩
      refine V_astore C dL_due_15 (by decide) ?_
      refine V_iconst C dL_due_17 ?_
      refine V_widen (k := 2) (n := 12) (by omega) (by omega) ?_
      exact V_iret C hr dL_due_18 hk9
    · refine ⟨19, ⟨[⟨0, 12, 15, 41⟩], ⟨0, 12, 19, 13⟩, [], "java/lang/IllegalArgumentException", rfl, (List.forall_mem_cons.mpr ⟨Or.inr ⟨by decide, _, w_610, List.mem_of_getElem? (i := 1) rfl⟩, (fun _ h => nomatch h)⟩), by decide, by decide, rfl, w_446, List.mem_of_getElem? (i := 26) rfl⟩, fun q9 => ?_⟩
      refine V_astore C dL_due_19 (by decide) ?_
      refine V_iconst C dL_due_21 ?_
      refine V_widen (k := 2) (n := 12) (by omega) (by omega) ?_
      exact V_iret C hr dL_due_22 hk9
  refine hC (fun a M2 hg => ?_) (fun _ h => h)
  refine V_i2lw C dL_due_10 ?_
  have hg9 := hG _ M2 hg
  have hgm := hg9.1
  have hgl := hg9.2.1
  refine V_lastore C dL_due_11 (by repeat (first | with_reducible assumption | with_reducible exact mset_self _ _ _ | refine (mset_ne (by omega)).trans ?_)) (by (try simp only [mset_1]); omega) (by omega) (by omega) ?_
  refine V_goto C dL_due_12 (tgt := 23) (by decide) ?_
  refine V_iconst C dL_due_23 ?_
  refine V_widen (k := 2) (n := 12) (by omega) (by omega) ?_
  exact V_iret C hr dL_due_24 hg9.2.2

theorem ywL_stood : YW yL_stood cL_stood 5 (some .int) 4 [(0, 17, 20, 41), (0, 17, 24, 13)] := ⟨w_700, w_0, w_701, by decide +kernel, by decide +kernel, by decide +kernel⟩
set_option maxHeartbeats 400000 in
set_option maxRecDepth 4000 in
theorem ok_L_stood {l : Launch} {D : va_G} {cy : Nat → ClassId} {z : Nat} {M : Mm} {K : Option Value → Mm → Prop} {fs : List Value} (h0 : M.2 0 = oX 5 fs) (hM1 : 339 < M.1) {d t : Int} {g9 : Nat → Int} {G9 : Int → Mm → Prop} {GX : String → Prop} (hC : ∀ {K0 : Option Value → Mm → Prop} {KX0 : String → Prop}, (∀ a M', G9 a M' → K0 (some (iv a)) M') → (∀ E, GX E → KX0 E) → MX l D cy z false yX6_stood (wsy yX6_stood cX6_stood 4 (some .boolean)) 7 111 2 12 M [.ref (z + 0), iv d, iv t] K0 KX0) (hG : ∀ a M', G9 a M' → (a = 0 ∨ a = 1) ∧ M'.2 338 = aL cy 1 g9 ∧ 338 < M'.1 ∧ K (some (iv 0)) (mset M' 338 (aL cy 1 (va_up g9 0 a)))) (hX : ∀ E, GX E → E = eI ∧ K (some (iv 1)) M ∨ E = eA ∧ K (some (iv 2)) M) :
    MT l D cy z false yL_stood (wsh yL_stood cL_stood 5 (some .int) [(0, 17, 20, 41), (0, 17, 24, 13)]) 8 134 2 12 M [.ref (z + 0), iv d, iv t, .ref (z + 338)] K := by
  refine MH_of (by decide) w_701 (Nat.le_of_ble_eq_true rfl) ?_
  intro p e s m args below meth c C hr ht
  refine V_aload_n C dL_stood_0 rfl ?_
  refine V_iconst C dL_stood_1 ?_
  refine V_aload_n C dL_stood_2 rfl ?_
  refine V_iload_n C dL_stood_3 rfl ?_
  refine V_iload_n C dL_stood_4 rfl ?_
  refine V_callVC (KX := GX) (fr := 7) (lo := 111) (mc := 2) (ms := 12) (As := [_, _]) C ht yvX6_stood w_702 dL_stood_5 rfl rfl (by repeat (first | with_reducible assumption | with_reducible exact mset_self _ _ _ | refine (mset_ne (by omega)).trans ?_)) (by (try simp only [mset_1]); omega) rfl rfl (Nat.le_of_ble_eq_true rfl) ⟨Nat.le_of_ble_eq_true rfl, Nat.le_of_ble_eq_true rfl⟩ ⟨Nat.le_of_ble_eq_true rfl, Nat.le_of_ble_eq_true rfl⟩ ?_ ?_
  · intro E hE
    rcases hX E hE with ⟨rfl, hk9⟩ | ⟨rfl, hk9⟩
    · refine ⟨20, ⟨[], ⟨0, 17, 20, 41⟩, [⟨0, 17, 24, 13⟩], "java/lang/IndexOutOfBoundsException", rfl, (fun _ h => nomatch h), by decide, by decide, rfl, w_610, List.mem_of_getElem? (i := 34) rfl⟩, fun q9 => ?_⟩
      refine V_astore C dL_stood_20 (by decide) ?_
      refine V_iconst C dL_stood_22 ?_
      refine V_widen (k := 2) (n := 12) (by omega) (by omega) ?_
      exact V_iret C hr dL_stood_23 hk9
    · refine ⟨24, ⟨[⟨0, 17, 20, 41⟩], ⟨0, 17, 24, 13⟩, [], "java/lang/IllegalArgumentException", rfl, (List.forall_mem_cons.mpr ⟨Or.inr ⟨by decide, _, w_610, List.mem_of_getElem? (i := 1) rfl⟩, (fun _ h => nomatch h)⟩), by decide, by decide, rfl, w_446, List.mem_of_getElem? (i := 26) rfl⟩, fun q9 => ?_⟩
      refine V_astore C dL_stood_24 (by decide) ?_
      refine V_iconst C dL_stood_26 ?_
      refine V_widen (k := 2) (n := 12) (by omega) (by omega) ?_
      exact V_iret C hr dL_stood_27 hk9
  refine hC (fun a M2 hg => ?_) (fun _ h => h)
  have hb9 := (hG a M2 hg).1
  refine V_if_eq C dL_stood_8 (tgt := 15) (by decide) (by omega) (fun g8 => ?_) (fun g8 => ?_)
  · have ea : a = 0 := by omega
    subst ea
    refine V_lconst (a := 0) C dL_stood_15 rfl ?_
    have hg9 := hG _ M2 hg
    have hgm := hg9.2.1
    have hgl := hg9.2.2.1
    refine V_lastore C dL_stood_16 (by repeat (first | with_reducible assumption | with_reducible exact mset_self _ _ _ | refine (mset_ne (by omega)).trans ?_)) (by (try simp only [mset_1]); omega) (by omega) (by omega) ?_
    refine V_goto C dL_stood_17 (tgt := 28) (by decide) ?_
    refine V_iconst C dL_stood_28 ?_
    refine V_widen (k := 2) (n := 12) (by omega) (by omega) ?_
    exact V_iret C hr dL_stood_29 hg9.2.2.2
  · have ea : a = 1 := by omega
    subst ea
    refine V_lconst (a := 1) C dL_stood_11 rfl ?_
    refine V_goto C dL_stood_12 (tgt := 16) (by decide) ?_
    have hg9 := hG _ M2 hg
    have hgm := hg9.2.1
    have hgl := hg9.2.2.1
    refine V_lastore C dL_stood_16 (by repeat (first | with_reducible assumption | with_reducible exact mset_self _ _ _ | refine (mset_ne (by omega)).trans ?_)) (by (try simp only [mset_1]); omega) (by omega) (by omega) ?_
    refine V_goto C dL_stood_17 (tgt := 28) (by decide) ?_
    refine V_iconst C dL_stood_28 ?_
    refine V_widen (k := 2) (n := 12) (by omega) (by omega) ?_
    exact V_iret C hr dL_stood_29 hg9.2.2.2

theorem ywL_covered : YW yL_covered cL_covered 5 (some .int) 4 [(0, 17, 20, 41), (0, 17, 24, 13)] := ⟨w_707, w_0, w_708, by decide +kernel, by decide +kernel, by decide +kernel⟩
set_option maxHeartbeats 400000 in
set_option maxRecDepth 4000 in
theorem ok_L_covered {l : Launch} {D : va_G} {cy : Nat → ClassId} {z : Nat} {M : Mm} {K : Option Value → Mm → Prop} {fs : List Value} (h0 : M.2 0 = oX 5 fs) (hM1 : 339 < M.1) {d t : Int} {g9 : Nat → Int} {G9 : Int → Mm → Prop} {GX : String → Prop} (hC : ∀ {K0 : Option Value → Mm → Prop} {KX0 : String → Prop}, (∀ a M', G9 a M' → K0 (some (iv a)) M') → (∀ E, GX E → KX0 E) → MX l D cy z false yX6_covered (wsy yX6_covered cX6_covered 4 (some .boolean)) 7 111 2 12 M [.ref (z + 0), iv d, iv t] K0 KX0) (hG : ∀ a M', G9 a M' → (a = 0 ∨ a = 1) ∧ M'.2 338 = aL cy 1 g9 ∧ 338 < M'.1 ∧ K (some (iv 0)) (mset M' 338 (aL cy 1 (va_up g9 0 a)))) (hX : ∀ E, GX E → E = eI ∧ K (some (iv 1)) M ∨ E = eA ∧ K (some (iv 2)) M) :
    MT l D cy z false yL_covered (wsh yL_covered cL_covered 5 (some .int) [(0, 17, 20, 41), (0, 17, 24, 13)]) 8 134 2 12 M [.ref (z + 0), iv d, iv t, .ref (z + 338)] K := by
  refine MH_of (by decide) w_708 (Nat.le_of_ble_eq_true rfl) ?_
  intro p e s m args below meth c C hr ht
  refine V_aload_n C dL_covered_0 rfl ?_
  refine V_iconst C dL_covered_1 ?_
  refine V_aload_n C dL_covered_2 rfl ?_
  refine V_iload_n C dL_covered_3 rfl ?_
  refine V_iload_n C dL_covered_4 rfl ?_
  refine V_callVC (KX := GX) (fr := 7) (lo := 111) (mc := 2) (ms := 12) (As := [_, _]) C ht yvX6_covered w_709 dL_covered_5 rfl rfl (by repeat (first | with_reducible assumption | with_reducible exact mset_self _ _ _ | refine (mset_ne (by omega)).trans ?_)) (by (try simp only [mset_1]); omega) rfl rfl (Nat.le_of_ble_eq_true rfl) ⟨Nat.le_of_ble_eq_true rfl, Nat.le_of_ble_eq_true rfl⟩ ⟨Nat.le_of_ble_eq_true rfl, Nat.le_of_ble_eq_true rfl⟩ ?_ ?_
  · intro E hE
    rcases hX E hE with ⟨rfl, hk9⟩ | ⟨rfl, hk9⟩
    · refine ⟨20, ⟨[], ⟨0, 17, 20, 41⟩, [⟨0, 17, 24, 13⟩], "java/lang/IndexOutOfBoundsException", rfl, (fun _ h => nomatch h), by decide, by decide, rfl, w_610, List.mem_of_getElem? (i := 34) rfl⟩, fun q9 => ?_⟩
      refine V_astore C dL_covered_20 (by decide) ?_
      refine V_iconst C dL_covered_22 ?_
      refine V_widen (k := 2) (n := 12) (by omega) (by omega) ?_
      exact V_iret C hr dL_covered_23 hk9
    · refine ⟨24, ⟨[⟨0, 17, 20, 41⟩], ⟨0, 17, 24, 13⟩, [], "java/lang/IllegalArgumentException", rfl, (List.forall_mem_cons.mpr ⟨Or.inr ⟨by decide, _, w_610, List.mem_of_getElem? (i := 1) rfl⟩, (fun _ h => nomatch h)⟩), by decide, by decide, rfl, w_446, List.mem_of_getElem? (i := 26) rfl⟩, fun q9 => ?_⟩
      refine V_astore C dL_covered_24 (by decide) ?_
      refine V_iconst C dL_covered_26 ?_
      refine V_widen (k := 2) (n := 12) (by omega) (by omega) ?_
      exact V_iret C hr dL_covered_27 hk9
  refine hC (fun a M2 hg => ?_) (fun _ h => h)
  have hb9 := (hG a M2 hg).1
  refine V_if_eq C dL_covered_8 (tgt := 15) (by decide) (by omega) (fun g8 => ?_) (fun g8 => ?_)
  · have ea : a = 0 := by omega
    subst ea
    refine V_lconst (a := 0) C dL_covered_15 rfl ?_
    have hg9 := hG _ M2 hg
    have hgm := hg9.2.1
    have hgl := hg9.2.2.1
    refine V_lastore C dL_covered_16 (by repeat (first | with_reducible assumption | with_reducible exact mset_self _ _ _ | refine (mset_ne (by omega)).trans ?_)) (by (try simp only [mset_1]); omega) (by omega) (by omega) ?_
    refine V_goto C dL_covered_17 (tgt := 28) (by decide) ?_
    refine V_iconst C dL_covered_28 ?_
    refine V_widen (k := 2) (n := 12) (by omega) (by omega) ?_
    exact V_iret C hr dL_covered_29 hg9.2.2.2
  · have ea : a = 1 := by omega
    subst ea
    refine V_lconst (a := 1) C dL_covered_11 rfl ?_
    refine V_goto C dL_covered_12 (tgt := 16) (by decide) ?_
    have hg9 := hG _ M2 hg
    have hgm := hg9.2.1
    have hgl := hg9.2.2.1
    refine V_lastore C dL_covered_16 (by repeat (first | with_reducible assumption | with_reducible exact mset_self _ _ _ | refine (mset_ne (by omega)).trans ?_)) (by (try simp only [mset_1]); omega) (by omega) (by omega) ?_
    refine V_goto C dL_covered_17 (tgt := 28) (by decide) ?_
    refine V_iconst C dL_covered_28 ?_
    refine V_widen (k := 2) (n := 12) (by omega) (by omega) ?_
    exact V_iret C hr dL_covered_29 hg9.2.2.2

theorem ywL_user : YW yL_user cL_user 5 (some .int) 4 [(0, 10, 13, 41), (0, 10, 17, 13)] := ⟨w_722, w_0, w_723, by decide +kernel, by decide +kernel, by decide +kernel⟩
set_option maxHeartbeats 400000 in
set_option maxRecDepth 4000 in
theorem ok_L_user {l : Launch} {D : va_G} {cy : Nat → ClassId} {z : Nat} {M : Mm} {K : Option Value → Mm → Prop} {fs : List Value} (h0 : M.2 0 = oX 5 fs) (hM1 : 339 < M.1) {d t : Int} {g9 : Nat → Int} {G9 : Int → Mm → Prop} {GX : String → Prop} (hC : ∀ {K0 : Option Value → Mm → Prop} {KX0 : String → Prop}, (∀ a M', G9 a M' → K0 (some (iv a)) M') → (∀ E, GX E → KX0 E) → MX l D cy z false yX6_user (wsy yX6_user cX6_user 4 (some .int)) 7 111 2 12 M [.ref (z + 0), iv d, iv t] K0 KX0) (hG : ∀ a M', G9 a M' → M'.2 338 = aL cy 1 g9 ∧ 338 < M'.1 ∧ K (some (iv 0)) (mset M' 338 (aL cy 1 (va_up g9 0 (w32 a))))) (hX : ∀ E, GX E → E = eI ∧ K (some (iv 1)) M ∨ E = eA ∧ K (some (iv 2)) M) :
    MT l D cy z false yL_user (wsh yL_user cL_user 5 (some .int) [(0, 10, 13, 41), (0, 10, 17, 13)]) 8 134 2 12 M [.ref (z + 0), iv d, iv t, .ref (z + 338)] K := by
  refine MH_of (by decide) w_723 (Nat.le_of_ble_eq_true rfl) ?_
  intro p e s m args below meth c C hr ht
  refine V_aload_n C dL_user_0 rfl ?_
  refine V_iconst C dL_user_1 ?_
  refine V_aload_n C dL_user_2 rfl ?_
  refine V_iload_n C dL_user_3 rfl ?_
  refine V_iload_n C dL_user_4 rfl ?_
  refine V_callVC (KX := GX) (fr := 7) (lo := 111) (mc := 2) (ms := 12) (As := [_, _]) C ht yvX6_user w_724 dL_user_5 rfl rfl (by repeat (first | with_reducible assumption | with_reducible exact mset_self _ _ _ | refine (mset_ne (by omega)).trans ?_)) (by (try simp only [mset_1]); omega) rfl rfl (Nat.le_of_ble_eq_true rfl) ⟨Nat.le_of_ble_eq_true rfl, Nat.le_of_ble_eq_true rfl⟩ ⟨Nat.le_of_ble_eq_true rfl, Nat.le_of_ble_eq_true rfl⟩ ?_ ?_
  · intro E hE
    rcases hX E hE with ⟨rfl, hk9⟩ | ⟨rfl, hk9⟩
    · refine ⟨13, ⟨[], ⟨0, 10, 13, 41⟩, [⟨0, 10, 17, 13⟩], "java/lang/IndexOutOfBoundsException", rfl, (fun _ h => nomatch h), by decide, by decide, rfl, w_610, List.mem_of_getElem? (i := 34) rfl⟩, fun q9 => ?_⟩
      refine V_astore C dL_user_13 (by decide) ?_
      refine V_iconst C dL_user_15 ?_
      refine V_widen (k := 2) (n := 12) (by omega) (by omega) ?_
      exact V_iret C hr dL_user_16 hk9
    · refine ⟨17, ⟨[⟨0, 10, 13, 41⟩], ⟨0, 10, 17, 13⟩, [], "java/lang/IllegalArgumentException", rfl, (List.forall_mem_cons.mpr ⟨Or.inr ⟨by decide, _, w_610, List.mem_of_getElem? (i := 1) rfl⟩, (fun _ h => nomatch h)⟩), by decide, by decide, rfl, w_446, List.mem_of_getElem? (i := 26) rfl⟩, fun q9 => ?_⟩
      refine V_astore C dL_user_17 (by decide) ?_
      refine V_iconst C dL_user_19 ?_
      refine V_widen (k := 2) (n := 12) (by omega) (by omega) ?_
      exact V_iret C hr dL_user_20 hk9
  refine hC (fun a M2 hg => ?_) (fun _ h => h)
  refine V_i2lw C dL_user_8 ?_
  have hg9 := hG _ M2 hg
  have hgm := hg9.1
  have hgl := hg9.2.1
  refine V_lastore C dL_user_9 (by repeat (first | with_reducible assumption | with_reducible exact mset_self _ _ _ | refine (mset_ne (by omega)).trans ?_)) (by (try simp only [mset_1]); omega) (by omega) (by omega) ?_
  refine V_goto C dL_user_10 (tgt := 21) (by decide) ?_
  refine V_iconst C dL_user_21 ?_
  refine V_widen (k := 2) (n := 12) (by omega) (by omega) ?_
  exact V_iret C hr dL_user_22 hg9.2.2

theorem ywL_value : YW yL_value cL_value 4 (some .int) 3 [(0, 9, 12, 13)] := ⟨w_729, w_0, w_730, by decide +kernel, by decide +kernel, by decide +kernel⟩
set_option maxHeartbeats 400000 in
set_option maxRecDepth 4000 in
theorem ok_L_value {l : Launch} {D : va_G} {cy : Nat → ClassId} {z : Nat} {M : Mm} {K : Option Value → Mm → Prop} {fs : List Value} (h0 : M.2 0 = oX 5 fs) (hM1 : 339 < M.1) {d : Int} {g9 : Nat → Int} {G9 : Int → Mm → Prop} {GX : String → Prop} (hC : ∀ {K0 : Option Value → Mm → Prop} {KX0 : String → Prop}, (∀ a M', G9 a M' → K0 (some (iv a)) M') → (∀ E, GX E → KX0 E) → MX l D cy z false yX6_value (wsy yX6_value cX6_value 2 (some .int)) 7 110 1 6 M [.ref (z + 0), iv d] K0 KX0) (hG : ∀ a M', G9 a M' → M'.2 338 = aL cy 1 g9 ∧ 338 < M'.1 ∧ K (some (iv 0)) (mset M' 338 (aL cy 1 (va_up g9 0 (w32 a))))) (hX : ∀ E, GX E → E = eA ∧ K (some (iv 1)) M) :
    MT l D cy z false yL_value (wsh yL_value cL_value 4 (some .int) [(0, 9, 12, 13)]) 8 131 1 6 M [.ref (z + 0), iv d, .ref (z + 338)] K := by
  refine MH_of (by decide) w_730 (Nat.le_of_ble_eq_true rfl) ?_
  intro p e s m args below meth c C hr ht
  refine V_aload_n C dL_value_0 rfl ?_
  refine V_iconst C dL_value_1 ?_
  refine V_aload_n C dL_value_2 rfl ?_
  refine V_iload_n C dL_value_3 rfl ?_
  refine V_callVC (KX := GX) (fr := 7) (lo := 110) (mc := 1) (ms := 6) (As := [_]) C ht yvX6_value w_731 dL_value_4 rfl rfl (by repeat (first | with_reducible assumption | with_reducible exact mset_self _ _ _ | refine (mset_ne (by omega)).trans ?_)) (by (try simp only [mset_1]); omega) rfl rfl (Nat.le_of_ble_eq_true rfl) ⟨Nat.le_of_ble_eq_true rfl, Nat.le_of_ble_eq_true rfl⟩ ⟨Nat.le_of_ble_eq_true rfl, Nat.le_of_ble_eq_true rfl⟩ ?_ ?_
  · intro E hE
    rcases hX E hE with ⟨rfl, hk9⟩
    · refine ⟨12, ⟨[], ⟨0, 9, 12, 13⟩, [], "java/lang/IllegalArgumentException", rfl, (fun _ h => nomatch h), by decide, by decide, rfl, w_446, List.mem_of_getElem? (i := 26) rfl⟩, fun q9 => ?_⟩
      refine V_astore_n C dL_value_12 (by decide) ?_
      refine V_iconst C dL_value_13 ?_
      refine V_widen (k := 1) (n := 6) (by omega) (by omega) ?_
      exact V_iret C hr dL_value_14 hk9
  refine hC (fun a M2 hg => ?_) (fun _ h => h)
  refine V_i2lw C dL_value_7 ?_
  have hg9 := hG _ M2 hg
  have hgm := hg9.1
  have hgl := hg9.2.1
  refine V_lastore C dL_value_8 (by repeat (first | with_reducible assumption | with_reducible exact mset_self _ _ _ | refine (mset_ne (by omega)).trans ?_)) (by (try simp only [mset_1]); omega) (by omega) (by omega) ?_
  refine V_goto C dL_value_9 (tgt := 15) (by decide) ?_
  refine V_iconst C dL_value_15 ?_
  refine V_widen (k := 1) (n := 6) (by omega) (by omega) ?_
  exact V_iret C hr dL_value_16 hg9.2.2

theorem ywL_costs : YW yL_costs cL_costs 4 (some .int) 3 [(0, 9, 12, 13)] := ⟨w_736, w_0, w_737, by decide +kernel, by decide +kernel, by decide +kernel⟩
set_option maxHeartbeats 400000 in
set_option maxRecDepth 4000 in
theorem ok_L_costs {l : Launch} {D : va_G} {cy : Nat → ClassId} {z : Nat} {M : Mm} {K : Option Value → Mm → Prop} {fs : List Value} (h0 : M.2 0 = oX 5 fs) (hM1 : 339 < M.1) {d : Int} {g9 : Nat → Int} {G9 : Int → Mm → Prop} {GX : String → Prop} (hC : ∀ {K0 : Option Value → Mm → Prop} {KX0 : String → Prop}, (∀ a M', G9 a M' → K0 (some (iv a)) M') → (∀ E, GX E → KX0 E) → MX l D cy z false yX6_costs (wsy yX6_costs cX6_costs 2 (some .int)) 7 114 1 6 M [.ref (z + 0), iv d] K0 KX0) (hG : ∀ a M', G9 a M' → M'.2 338 = aL cy 1 g9 ∧ 338 < M'.1 ∧ K (some (iv 0)) (mset M' 338 (aL cy 1 (va_up g9 0 (w32 a))))) (hX : ∀ E, GX E → E = eA ∧ K (some (iv 1)) M) :
    MT l D cy z false yL_costs (wsh yL_costs cL_costs 4 (some .int) [(0, 9, 12, 13)]) 8 135 1 6 M [.ref (z + 0), iv d, .ref (z + 338)] K := by
  refine MH_of (by decide) w_737 (Nat.le_of_ble_eq_true rfl) ?_
  intro p e s m args below meth c C hr ht
  refine V_aload_n C dL_costs_0 rfl ?_
  refine V_iconst C dL_costs_1 ?_
  refine V_aload_n C dL_costs_2 rfl ?_
  refine V_iload_n C dL_costs_3 rfl ?_
  refine V_callVC (KX := GX) (fr := 7) (lo := 114) (mc := 1) (ms := 6) (As := [_]) C ht yvX6_costs w_738 dL_costs_4 rfl rfl (by repeat (first | with_reducible assumption | with_reducible exact mset_self _ _ _ | refine (mset_ne (by omega)).trans ?_)) (by (try simp only [mset_1]); omega) rfl rfl (Nat.le_of_ble_eq_true rfl) ⟨Nat.le_of_ble_eq_true rfl, Nat.le_of_ble_eq_true rfl⟩ ⟨Nat.le_of_ble_eq_true rfl, Nat.le_of_ble_eq_true rfl⟩ ?_ ?_
  · intro E hE
    rcases hX E hE with ⟨rfl, hk9⟩
    · refine ⟨12, ⟨[], ⟨0, 9, 12, 13⟩, [], "java/lang/IllegalArgumentException", rfl, (fun _ h => nomatch h), by decide, by decide, rfl, w_446, List.mem_of_getElem? (i := 26) rfl⟩, fun q9 => ?_⟩
      refine V_astore_n C dL_costs_12 (by decide) ?_
      refine V_iconst C dL_costs_13 ?_
      refine V_widen (k := 1) (n := 6) (by omega) (by omega) ?_
      exact V_iret C hr dL_costs_14 hk9
  refine hC (fun a M2 hg => ?_) (fun _ h => h)
  refine V_i2lw C dL_costs_7 ?_
  have hg9 := hG _ M2 hg
  have hgm := hg9.1
  have hgl := hg9.2.1
  refine V_lastore C dL_costs_8 (by repeat (first | with_reducible assumption | with_reducible exact mset_self _ _ _ | refine (mset_ne (by omega)).trans ?_)) (by (try simp only [mset_1]); omega) (by omega) (by omega) ?_
  refine V_goto C dL_costs_9 (tgt := 15) (by decide) ?_
  refine V_iconst C dL_costs_15 ?_
  refine V_widen (k := 1) (n := 6) (by omega) (by omega) ?_
  exact V_iret C hr dL_costs_16 hg9.2.2

theorem ywL_lapsing : YW yL_lapsing cL_lapsing 4 (some .int) 3 [(0, 9, 12, 13)] := ⟨w_751, w_0, w_752, by decide +kernel, by decide +kernel, by decide +kernel⟩
set_option maxHeartbeats 400000 in
set_option maxRecDepth 4000 in
theorem ok_L_lapsing {l : Launch} {D : va_G} {cy : Nat → ClassId} {z : Nat} {M : Mm} {K : Option Value → Mm → Prop} {fs : List Value} (h0 : M.2 0 = oX 5 fs) (hM1 : 339 < M.1) {d : Int} {g9 : Nat → Int} {G9 : Int → Mm → Prop} {GX : String → Prop} (hC : ∀ {K0 : Option Value → Mm → Prop} {KX0 : String → Prop}, (∀ a M', G9 a M' → K0 (some (iv a)) M') → (∀ E, GX E → KX0 E) → MX l D cy z false yX6_lapsing (wsy yX6_lapsing cX6_lapsing 2 (some .int)) 7 110 1 6 M [.ref (z + 0), iv d] K0 KX0) (hG : ∀ a M', G9 a M' → M'.2 338 = aL cy 1 g9 ∧ 338 < M'.1 ∧ K (some (iv 0)) (mset M' 338 (aL cy 1 (va_up g9 0 (w32 a))))) (hX : ∀ E, GX E → E = eA ∧ K (some (iv 1)) M) :
    MT l D cy z false yL_lapsing (wsh yL_lapsing cL_lapsing 4 (some .int) [(0, 9, 12, 13)]) 8 131 1 6 M [.ref (z + 0), iv d, .ref (z + 338)] K := by
  refine MH_of (by decide) w_752 (Nat.le_of_ble_eq_true rfl) ?_
  intro p e s m args below meth c C hr ht
  refine V_aload_n C dL_lapsing_0 rfl ?_
  refine V_iconst C dL_lapsing_1 ?_
  refine V_aload_n C dL_lapsing_2 rfl ?_
  refine V_iload_n C dL_lapsing_3 rfl ?_
  refine V_callVC (KX := GX) (fr := 7) (lo := 110) (mc := 1) (ms := 6) (As := [_]) C ht yvX6_lapsing w_753 dL_lapsing_4 rfl rfl (by repeat (first | with_reducible assumption | with_reducible exact mset_self _ _ _ | refine (mset_ne (by omega)).trans ?_)) (by (try simp only [mset_1]); omega) rfl rfl (Nat.le_of_ble_eq_true rfl) ⟨Nat.le_of_ble_eq_true rfl, Nat.le_of_ble_eq_true rfl⟩ ⟨Nat.le_of_ble_eq_true rfl, Nat.le_of_ble_eq_true rfl⟩ ?_ ?_
  · intro E hE
    rcases hX E hE with ⟨rfl, hk9⟩
    · refine ⟨12, ⟨[], ⟨0, 9, 12, 13⟩, [], "java/lang/IllegalArgumentException", rfl, (fun _ h => nomatch h), by decide, by decide, rfl, w_446, List.mem_of_getElem? (i := 26) rfl⟩, fun q9 => ?_⟩
      refine V_astore_n C dL_lapsing_12 (by decide) ?_
      refine V_iconst C dL_lapsing_13 ?_
      refine V_widen (k := 1) (n := 6) (by omega) (by omega) ?_
      exact V_iret C hr dL_lapsing_14 hk9
  refine hC (fun a M2 hg => ?_) (fun _ h => h)
  refine V_i2lw C dL_lapsing_7 ?_
  have hg9 := hG _ M2 hg
  have hgm := hg9.1
  have hgl := hg9.2.1
  refine V_lastore C dL_lapsing_8 (by repeat (first | with_reducible assumption | with_reducible exact mset_self _ _ _ | refine (mset_ne (by omega)).trans ?_)) (by (try simp only [mset_1]); omega) (by omega) (by omega) ?_
  refine V_goto C dL_lapsing_9 (tgt := 15) (by decide) ?_
  refine V_iconst C dL_lapsing_15 ?_
  refine V_widen (k := 1) (n := 6) (by omega) (by omega) ?_
  exact V_iret C hr dL_lapsing_16 hg9.2.2

theorem ywL_share : YW yL_share cL_share 4 (some .int) 3 [(0, 8, 11, 41)] := ⟨w_758, w_0, w_759, by decide +kernel, by decide +kernel, by decide +kernel⟩
set_option maxHeartbeats 400000 in
set_option maxRecDepth 4000 in
theorem ok_L_share {l : Launch} {D : va_G} {cy : Nat → ClassId} {z : Nat} {M : Mm} {K : Option Value → Mm → Prop} {fs : List Value} (h0 : M.2 0 = oX 5 fs) (hM1 : 339 < M.1) {d : Int} {d9 : Nat → UInt64} {G9 : UInt64 → Mm → Prop} {GX : String → Prop} (hC : ∀ {K0 : Option Value → Mm → Prop} {KX0 : String → Prop}, (∀ a M', G9 a M' → K0 (some (.double a)) M') → (∀ E, GX E → KX0 E) → MX l D cy z false yX6_share (wsy yX6_share cX6_share 4 (some .double)) 7 111 1 6 M [.ref (z + 0), iv d] K0 KX0) (hG : ∀ a M', G9 a M' → M'.2 339 = aD cy 1 d9 ∧ 339 < M'.1 ∧ K (some (iv 0)) (mset M' 339 (aD cy 1 (vf_upd d9 0 a)))) (hX : ∀ E, GX E → E = eI ∧ K (some (iv 1)) M) :
    MT l D cy z false yL_share (wsh yL_share cL_share 4 (some .int) [(0, 8, 11, 41)]) 8 134 1 6 M [.ref (z + 0), iv d, .ref (z + 339)] K := by
  refine MH_of (by decide) w_759 (Nat.le_of_ble_eq_true rfl) ?_
  intro p e s m args below meth c C hr ht
  refine V_aload_n C dL_share_0 rfl ?_
  refine V_iconst C dL_share_1 ?_
  refine V_aload_n C dL_share_2 rfl ?_
  refine V_iload_n C dL_share_3 rfl ?_
  refine V_callVC (KX := GX) (fr := 7) (lo := 111) (mc := 1) (ms := 6) (As := [_]) C ht yvX6_share w_760 dL_share_4 rfl rfl (by repeat (first | with_reducible assumption | with_reducible exact mset_self _ _ _ | refine (mset_ne (by omega)).trans ?_)) (by (try simp only [mset_1]); omega) rfl rfl (Nat.le_of_ble_eq_true rfl) ⟨Nat.le_of_ble_eq_true rfl, Nat.le_of_ble_eq_true rfl⟩ ⟨Nat.le_of_ble_eq_true rfl, Nat.le_of_ble_eq_true rfl⟩ ?_ ?_
  · intro E hE
    rcases hX E hE with ⟨rfl, hk9⟩
    · refine ⟨11, ⟨[], ⟨0, 8, 11, 41⟩, [], "java/lang/IndexOutOfBoundsException", rfl, (fun _ h => nomatch h), by decide, by decide, rfl, w_610, List.mem_of_getElem? (i := 34) rfl⟩, fun q9 => ?_⟩
      refine V_astore_n C dL_share_11 (by decide) ?_
      refine V_iconst C dL_share_12 ?_
      refine V_widen (k := 1) (n := 6) (by omega) (by omega) ?_
      exact V_iret C hr dL_share_13 hk9
  refine hC (fun a M2 hg => ?_) (fun _ h => h)
  have hg9 := hG _ M2 hg
  have hgm := hg9.1
  have hgl := hg9.2.1
  refine V_dastore C dL_share_7 (by repeat (first | with_reducible assumption | with_reducible exact mset_self _ _ _ | refine (mset_ne (by omega)).trans ?_)) (by (try simp only [mset_1]); omega) (by omega) (by omega) ?_
  refine V_goto C dL_share_8 (tgt := 14) (by decide) ?_
  refine V_iconst C dL_share_14 ?_
  refine V_widen (k := 1) (n := 6) (by omega) (by omega) ?_
  exact V_iret C hr dL_share_15 hg9.2.2

theorem ywL_append : YW yL_append cL_append 4 (some .int) 3 [(0, 9, 12, 13), (0, 9, 15, 29)] := ⟨w_775, w_0, w_776, by decide +kernel, by decide +kernel, by decide +kernel⟩
set_option maxHeartbeats 400000 in
set_option maxRecDepth 4000 in
theorem ok_L_append {l : Launch} {D : va_G} {cy : Nat → ClassId} {z : Nat} {M : Mm} {K : Option Value → Mm → Prop} {fs : List Value} (h0 : M.2 0 = oX 5 fs) (hM1 : 339 < M.1) {d : Int} {g9 : Nat → Int} {G9 : Int → Mm → Prop} {GX : String → Prop} (hC : ∀ {K0 : Option Value → Mm → Prop} {KX0 : String → Prop}, (∀ a M', G9 a M' → K0 (some (iv a)) M') → (∀ E, GX E → KX0 E) → MX l D cy z false yX6_append (wsy yX6_append cX6_append 2 (some .int)) 7 110 2 12 M [.ref (z + 0), iv d] K0 KX0) (hG : ∀ a M', G9 a M' → M'.2 338 = aL cy 1 g9 ∧ 338 < M'.1 ∧ K (some (iv 0)) (mset M' 338 (aL cy 1 (va_up g9 0 (w32 a))))) (hX : ∀ E, GX E → E = eA ∧ K (some (iv 1)) M ∨ E = eS ∧ K (some (iv 2)) M) :
    MT l D cy z false yL_append (wsh yL_append cL_append 4 (some .int) [(0, 9, 12, 13), (0, 9, 15, 29)]) 8 131 2 12 M [.ref (z + 0), iv d, .ref (z + 338)] K := by
  refine MH_of (by decide) w_776 (Nat.le_of_ble_eq_true rfl) ?_
  intro p e s m args below meth c C hr ht
  refine V_aload_n C dL_append_0 rfl ?_
  refine V_iconst C dL_append_1 ?_
  refine V_aload_n C dL_append_2 rfl ?_
  refine V_iload_n C dL_append_3 rfl ?_
  refine V_callVC (KX := GX) (fr := 7) (lo := 110) (mc := 2) (ms := 12) (As := [_]) C ht yvX6_append w_777 dL_append_4 rfl rfl (by repeat (first | with_reducible assumption | with_reducible exact mset_self _ _ _ | refine (mset_ne (by omega)).trans ?_)) (by (try simp only [mset_1]); omega) rfl rfl (Nat.le_of_ble_eq_true rfl) ⟨Nat.le_of_ble_eq_true rfl, Nat.le_of_ble_eq_true rfl⟩ ⟨Nat.le_of_ble_eq_true rfl, Nat.le_of_ble_eq_true rfl⟩ ?_ ?_
  · intro E hE
    rcases hX E hE with ⟨rfl, hk9⟩ | ⟨rfl, hk9⟩
    · refine ⟨12, ⟨[], ⟨0, 9, 12, 13⟩, [⟨0, 9, 15, 29⟩], "java/lang/IllegalArgumentException", rfl, (fun _ h => nomatch h), by decide, by decide, rfl, w_446, List.mem_of_getElem? (i := 26) rfl⟩, fun q9 => ?_⟩
      refine V_astore_n C dL_append_12 (by decide) ?_
      refine V_iconst C dL_append_13 ?_
      refine V_widen (k := 2) (n := 12) (by omega) (by omega) ?_
      exact V_iret C hr dL_append_14 hk9
    · refine ⟨15, ⟨[⟨0, 9, 12, 13⟩], ⟨0, 9, 15, 29⟩, [], "java/lang/IllegalStateException", rfl, (List.forall_mem_cons.mpr ⟨Or.inr ⟨by decide, _, w_446, List.mem_of_getElem? (i := 0) rfl⟩, (fun _ h => nomatch h)⟩), by decide, by decide, rfl, w_552, List.mem_of_getElem? (i := 33) rfl⟩, fun q9 => ?_⟩
      refine V_astore_n C dL_append_15 (by decide) ?_
      refine V_iconst C dL_append_16 ?_
      refine V_widen (k := 2) (n := 12) (by omega) (by omega) ?_
      exact V_iret C hr dL_append_17 hk9
  refine hC (fun a M2 hg => ?_) (fun _ h => h)
  refine V_i2lw C dL_append_7 ?_
  have hg9 := hG _ M2 hg
  have hgm := hg9.1
  have hgl := hg9.2.1
  refine V_lastore C dL_append_8 (by repeat (first | with_reducible assumption | with_reducible exact mset_self _ _ _ | refine (mset_ne (by omega)).trans ?_)) (by (try simp only [mset_1]); omega) (by omega) (by omega) ?_
  refine V_goto C dL_append_9 (tgt := 18) (by decide) ?_
  refine V_iconst C dL_append_18 ?_
  refine V_widen (k := 2) (n := 12) (by omega) (by omega) ?_
  exact V_iret C hr dL_append_19 hg9.2.2

theorem ywL_undo : YW yL_undo cL_undo 3 (some .int) 2 [(0, 8, 11, 29)] := ⟨w_786, w_0, w_787, by decide +kernel, by decide +kernel, by decide +kernel⟩
set_option maxHeartbeats 400000 in
set_option maxRecDepth 4000 in
theorem ok_L_undo {l : Launch} {D : va_G} {cy : Nat → ClassId} {z : Nat} {M : Mm} {K : Option Value → Mm → Prop} {fs : List Value} (h0 : M.2 0 = oX 5 fs) (hM1 : 339 < M.1)  {g9 : Nat → Int} {G9 : Int → Mm → Prop} {GX : String → Prop} (hC : ∀ {K0 : Option Value → Mm → Prop} {KX0 : String → Prop}, (∀ a M', G9 a M' → K0 (some (iv a)) M') → (∀ E, GX E → KX0 E) → MX l D cy z false yX6_undo (wsy yX6_undo cX6_undo 1 (some .int)) 7 110 1 6 M [.ref (z + 0)] K0 KX0) (hG : ∀ a M', G9 a M' → M'.2 338 = aL cy 1 g9 ∧ 338 < M'.1 ∧ K (some (iv 0)) (mset M' 338 (aL cy 1 (va_up g9 0 (w32 a))))) (hX : ∀ E, GX E → E = eS ∧ K (some (iv 1)) M) :
    MT l D cy z false yL_undo (wsh yL_undo cL_undo 3 (some .int) [(0, 8, 11, 29)]) 8 130 1 6 M [.ref (z + 0), .ref (z + 338)] K := by
  refine MH_of (by decide) w_787 (Nat.le_of_ble_eq_true rfl) ?_
  intro p e s m args below meth c C hr ht
  refine V_aload_n C dL_undo_0 rfl ?_
  refine V_iconst C dL_undo_1 ?_
  refine V_aload_n C dL_undo_2 rfl ?_
  refine V_callVC (KX := GX) (fr := 7) (lo := 110) (mc := 1) (ms := 6) (As := []) C ht yvX6_undo w_788 dL_undo_3 rfl rfl (by repeat (first | with_reducible assumption | with_reducible exact mset_self _ _ _ | refine (mset_ne (by omega)).trans ?_)) (by (try simp only [mset_1]); omega) rfl rfl (Nat.le_of_ble_eq_true rfl) ⟨Nat.le_of_ble_eq_true rfl, Nat.le_of_ble_eq_true rfl⟩ ⟨Nat.le_of_ble_eq_true rfl, Nat.le_of_ble_eq_true rfl⟩ ?_ ?_
  · intro E hE
    rcases hX E hE with ⟨rfl, hk9⟩
    · refine ⟨11, ⟨[], ⟨0, 8, 11, 29⟩, [], "java/lang/IllegalStateException", rfl, (fun _ h => nomatch h), by decide, by decide, rfl, w_552, List.mem_of_getElem? (i := 33) rfl⟩, fun q9 => ?_⟩
      refine V_astore_n C dL_undo_11 (by decide) ?_
      refine V_iconst C dL_undo_12 ?_
      refine V_widen (k := 1) (n := 6) (by omega) (by omega) ?_
      exact V_iret C hr dL_undo_13 hk9
  refine hC (fun a M2 hg => ?_) (fun _ h => h)
  refine V_i2lw C dL_undo_6 ?_
  have hg9 := hG _ M2 hg
  have hgm := hg9.1
  have hgl := hg9.2.1
  refine V_lastore C dL_undo_7 (by repeat (first | with_reducible assumption | with_reducible exact mset_self _ _ _ | refine (mset_ne (by omega)).trans ?_)) (by (try simp only [mset_1]); omega) (by omega) (by omega) ?_
  refine V_goto C dL_undo_8 (tgt := 14) (by decide) ?_
  refine V_iconst C dL_undo_14 ?_
  refine V_widen (k := 1) (n := 6) (by omega) (by omega) ?_
  exact V_iret C hr dL_undo_15 hg9.2.2

