/-! what the reference reads (X7), further -/
theorem stU_0 {F : Nat → Int} {a : Nat → Nat → Int} {v : Nat} : stU F a v = 0 ↔ a 4 v = -1 := by
  unfold stU
  constructor
  · intro h
    split at h
    · assumption
    · split at h <;> omega
  · intro h; rw [if_pos h]
theorem stU_012 {F : Nat → Int} {a : Nat → Nat → Int} {v : Nat} : stU F a v = 0 ∨ stU F a v = 1 ∨ stU F a v = 2 := by
  unfold stU
  split
  · exact Or.inl rfl
  · split
    · exact Or.inr (Or.inr rfl)
    · exact Or.inr (Or.inl rfl)
def bitS (n : Nat) : Nat → Nat
  | 0 => 0
  | k + 1 => bitS n k + n / 2 ^ k % 2
theorem bitS_le (n : Nat) : ∀ k, bitS n k ≤ k
  | 0 => Nat.le_refl 0
  | k + 1 => by have := bitS_le n k; unfold bitS; omega
theorem bitS_0 {n k : Nat} (h : n / 2 ^ k = 0) : ∀ j, bitS n (k + j) = bitS n k
  | 0 => rfl
  | j + 1 => by
    have h2 : n / 2 ^ (k + j) = 0 := by rw [Nat.pow_add, ← Nat.div_div_eq_div_mul, h, Nat.zero_div]
    show bitS n (k + j) + n / 2 ^ (k + j) % 2 = _
    rw [bitS_0 h j, h2]; simp
theorem bitS_cnt {n : Nat} {q : Nat → Bool} : ∀ k, (∀ v, v < k → (n / 2 ^ v % 2 = 1 ↔ q v = true)) → bitS n k = cntN q k
  | 0, _ => rfl
  | k + 1, h => by
    have h1 := bitS_cnt (n := n) (q := q) k (fun v hv => h v (by omega))
    have h2 := h k (by omega)
    show bitS n k + n / 2 ^ k % 2 = cntN q k + (if q k = true then 1 else 0)
    rw [h1]
    by_cases o : q k = true
    · rw [if_pos o, h2.mpr o]
    · rw [if_neg o]; have : ¬ n / 2 ^ k % 2 = 1 := fun e => o (h2.mp e); omega
theorem cuS_0 {S : SD} {i : Nat} {e : Int} {t : Int} (h : RI (Hf S) t (RF S i) (RA S i)) (hq : sH S ≤ 6) : ∀ (n : Nat) (y : Int), 1 ≤ y → y ≤ 20 → (y ≤ 19 → e < yv (RA S i 0) (-1) y) → cuS S i e n y = 0
  | 0, _, _, _, _ => rfl
  | n + 1, y, h1, h2, h3 => by
    unfold cuS
    rw [if_neg (fun o => by have := h3 o.1; omega)]
set_option maxHeartbeats 400000 in
set_option maxRecDepth 4000 in
theorem ok_X7_usersOf {l : Launch} {D : va_G} {cy : Nat → ClassId} {z : Nat} {M : Mm} {K : Option Value → Mm → Prop} {u N P A tx fr tl : Nat → Int} (hM : ModAt cy z M u N P A tx fr tl) {S : SD} (hRw : RowOf N S) (hB : SB S) (hJ : IS S) {i : Nat} (hi : i < sN S) (hK : K (some (iv ((cntN (fun v => decide (¬ stU (RF S i) (RA S i) v = 0)) 10 : Nat) : Int))) M) :
    MT l D cy z false yX7_usersOf (wsy yX7_usersOf cX7_usersOf 4 (some .int)) 2 42 0 0 M [.ref (z + 331), iv (i : Int)] K := by
  refine MT_of (by decide) w_1010 (Nat.le_of_ble_eq_true rfl) ?_
  intro p e s m args below meth c C hr hx0
  have hM9 := hM
  obtain ⟨gn, g0, g1, g2, g3, g4, g5, g6⟩ := id hM
  have hB9 := hB
  have hr9 := hRw
  have hJ9 := hJ
  obtain ⟨e0, e1, e2, eH, eh, e9, e10, e11, e12, e13, e14, e15, eR⟩ := id hRw
  obtain ⟨d0, d1, d2, d4, d5, d6, dH, dR⟩ := id hB
  have dT := hJ.2.1
  have rt := eR i hi
  obtain ⟨w0, w1, w2, w3, w4, w5, w6, w7⟩ := id rt
  have ri := hJ.2.2 i hi
  have hi10 : i < 10 := by omega
  have rb := dR i hi10
  obtain ⟨b0, b1, b2, b3, b4⟩ := id rb
  have ri0 := ri.1
  have ri1 := ri.2.1
  have loop : ∀ (n : Nat) (k9 : Nat), (k9 ≤ 10) → 10 - k9 < n → V p l e { frames := 2, cells := 0, slots := 0, locals := 42 } s m args below meth c D z 4 (MQ below (qc_ D z K) args s 0 0 (fun q => z ≤ q)) 0 0 M 4 [(0, .ref (z + 331)), (1, iv (i : Int)), (2, iv (((cntN (fun v => decide (¬ stU (RF S i) (RA S i) v = 0)) k9 : Nat) : Int))), (3, iv ((k9 : Int)))] [] := by
    intro n
    induction n with
    | zero => intro k9 hi0 hfu; exact absurd hfu (Nat.not_lt_zero _)
    | succ n ih =>
      intro k9 hi0 hfu
      refine V_iload_n C dX7_usersOf_4 rfl ?_
      refine V_bipush C dX7_usersOf_5 (by decide) ?_
      refine V_icmp_ge C dX7_usersOf_7 (tgt := 37) (by decide) (by omega) (by omega) (fun g7 => ?_) (fun g7 => ?_)
      · refine V_iload_n C dX7_usersOf_37 rfl ?_
        exact V_iret C hr dX7_usersOf_38 (K_of hK (by rw [show k9 = 10 by omega]))
      · refine V_iload_n C dX7_usersOf_10 rfl ?_
        refine V_aload_n C dX7_usersOf_11 rfl ?_
        refine V_iload_n C dX7_usersOf_12 rfl ?_
        refine V_bipush C dX7_usersOf_13 (by decide) ?_
        refine V_iload_n C dX7_usersOf_15 rfl ?_
        refine V_iadd C dX7_usersOf_16 ?_
        refine V_callV (fr := 1) (lo := 20) (mc := 0) (ms := 0) (As := [_, _]) C yvX7_of w_940 dX7_usersOf_17 rfl rfl (by repeat (first | with_reducible assumption | with_reducible exact mset_self _ _ _ | refine (mset_ne (by omega)).trans ?_)) (by (try simp only [mset_1]); omega) rfl rfl (Nat.le_of_ble_eq_true rfl) ⟨Nat.le_of_ble_eq_true rfl, Nat.le_of_ble_eq_true rfl⟩ ⟨Nat.le_of_ble_eq_true rfl, Nat.le_of_ble_eq_true rfl⟩ ?_
        refine ok_X7_of hM9 (j := 16 + 35 * i + 25 + k9) (by omega) (by omega) (by omega) (w7 k9 (by omega)) ?_
        have r4 := b4 4 k9
        refine V_iconst C dX7_usersOf_20 ?_
        refine V_icmp_ne C dX7_usersOf_21 (tgt := 28) (by decide) (by omega) (by omega) (fun g21 => ?_) (fun g21 => ?_)
        · refine V_iconst C dX7_usersOf_28 ?_
          refine V_iadd C dX7_usersOf_29 ?_
          refine V_istore_n C dX7_usersOf_30 (by decide) ?_
          refine V_iinc C dX7_usersOf_31 rfl (by decide) ?_
          refine V_goto C dX7_usersOf_34 (tgt := 4) (by decide) ?_
          refine V_lv [(0, .ref (z + 331)), (1, iv (i : Int)), (2, iv (((cntN (fun v => decide (¬ stU (RF S i) (RA S i) v = 0)) (k9 + 1) : Nat) : Int))), (3, iv (((k9 + 1 : Nat) : Int)))] (List.forall_mem_cons.mpr ⟨(by first | rfl | exact congrArg (fun t => some (iv t)) (by have e8 := cntN_t (p := (fun v => decide (¬ stU (RF S i) (RA S i) v = 0))) (n := k9) (decide_eq_true (fun o => g21 (stU_0.mp o))); push_cast; omega)), (List.forall_mem_cons.mpr ⟨(by first | rfl | exact congrArg (fun t => some (iv t)) (by have e8 := cntN_t (p := (fun v => decide (¬ stU (RF S i) (RA S i) v = 0))) (n := k9) (decide_eq_true (fun o => g21 (stU_0.mp o))); push_cast; omega)), (List.forall_mem_cons.mpr ⟨(by first | rfl | exact congrArg (fun t => some (iv t)) (by have e8 := cntN_t (p := (fun v => decide (¬ stU (RF S i) (RA S i) v = 0))) (n := k9) (decide_eq_true (fun o => g21 (stU_0.mp o))); push_cast; omega)), (List.forall_mem_cons.mpr ⟨(by first | rfl | exact congrArg (fun t => some (iv t)) (by have e8 := cntN_t (p := (fun v => decide (¬ stU (RF S i) (RA S i) v = 0))) (n := k9) (decide_eq_true (fun o => g21 (stU_0.mp o))); push_cast; omega)), (fun _ h => nomatch h)⟩)⟩)⟩)⟩) ?_
          exact ih (k9 + 1) (by omega) (by omega)
        · refine V_iconst C dX7_usersOf_24 ?_
          refine V_goto C dX7_usersOf_25 (tgt := 29) (by decide) ?_
          refine V_iadd C dX7_usersOf_29 ?_
          refine V_istore_n C dX7_usersOf_30 (by decide) ?_
          refine V_iinc C dX7_usersOf_31 rfl (by decide) ?_
          refine V_goto C dX7_usersOf_34 (tgt := 4) (by decide) ?_
          refine V_lv [(0, .ref (z + 331)), (1, iv (i : Int)), (2, iv (((cntN (fun v => decide (¬ stU (RF S i) (RA S i) v = 0)) (k9 + 1) : Nat) : Int))), (3, iv (((k9 + 1 : Nat) : Int)))] (List.forall_mem_cons.mpr ⟨(by first | rfl | exact congrArg (fun t => some (iv t)) (by have e8 := cntN_f (p := (fun v => decide (¬ stU (RF S i) (RA S i) v = 0))) (n := k9) (decide_eq_false (fun o => o (stU_0.mpr g21))); push_cast; omega)), (List.forall_mem_cons.mpr ⟨(by first | rfl | exact congrArg (fun t => some (iv t)) (by have e8 := cntN_f (p := (fun v => decide (¬ stU (RF S i) (RA S i) v = 0))) (n := k9) (decide_eq_false (fun o => o (stU_0.mpr g21))); push_cast; omega)), (List.forall_mem_cons.mpr ⟨(by first | rfl | exact congrArg (fun t => some (iv t)) (by have e8 := cntN_f (p := (fun v => decide (¬ stU (RF S i) (RA S i) v = 0))) (n := k9) (decide_eq_false (fun o => o (stU_0.mpr g21))); push_cast; omega)), (List.forall_mem_cons.mpr ⟨(by first | rfl | exact congrArg (fun t => some (iv t)) (by have e8 := cntN_f (p := (fun v => decide (¬ stU (RF S i) (RA S i) v = 0))) (n := k9) (decide_eq_false (fun o => o (stU_0.mpr g21))); push_cast; omega)), (fun _ h => nomatch h)⟩)⟩)⟩)⟩) ?_
          exact ih (k9 + 1) (by omega) (by omega)
  refine V_iconst C dX7_usersOf_0 ?_
  refine V_istore_n C dX7_usersOf_1 (by decide) ?_
  refine V_iconst C dX7_usersOf_2 ?_
  refine V_istore_n C dX7_usersOf_3 (by decide) ?_
  refine V_lv [(0, .ref (z + 331)), (1, iv (i : Int)), (2, iv (((cntN (fun v => decide (¬ stU (RF S i) (RA S i) v = 0)) 0 : Nat) : Int))), (3, iv (((0 : Nat) : Int)))] (List.forall_mem_cons.mpr ⟨(by first | rfl | exact congrArg (fun t => some (iv t)) (by omega)), (List.forall_mem_cons.mpr ⟨(by first | rfl | exact congrArg (fun t => some (iv t)) (by omega)), (List.forall_mem_cons.mpr ⟨(by first | rfl | exact congrArg (fun t => some (iv t)) (by omega)), (List.forall_mem_cons.mpr ⟨(by first | rfl | exact congrArg (fun t => some (iv t)) (by omega)), (fun _ h => nomatch h)⟩)⟩)⟩)⟩) ?_
  exact loop 11 0 (by omega) (by omega)

set_option maxHeartbeats 400000 in
set_option maxRecDepth 4000 in
theorem ok_X7_isUser {l : Launch} {D : va_G} {cy : Nat → ClassId} {z : Nat} {M : Mm} {K : Option Value → Mm → Prop} {v : Int} (hv : -2147483648 ≤ v ∧ v < 2147483648) (hT : 0 ≤ v ∧ v ≤ 9 → K (some (iv 1)) M) (hF : ¬ (0 ≤ v ∧ v ≤ 9) → K (some (iv 0)) M) :
    MT l D cy z false yX7_isUser (wsy yX7_isUser cX7_isUser 1 (some .boolean)) 1 22 0 0 M [iv v] K := by
  refine MT_of (by decide) w_1002 (Nat.le_of_ble_eq_true rfl) ?_
  intro p e s m args below meth c C hr hx0
  refine V_iload_n C dX7_isUser_0 rfl ?_
  refine V_iconst C dX7_isUser_1 ?_
  refine V_bipush C dX7_isUser_2 (by decide) ?_
  refine V_callS (fr := 0) (lo := 0) (mc := 0) (ms := 0) (As := [_, _, _]) C ysX7_in w_863 dX7_isUser_4 rfl rfl (Nat.le_of_ble_eq_true rfl) ⟨Nat.le_of_ble_eq_true rfl, Nat.le_of_ble_eq_true rfl⟩ ⟨Nat.le_of_ble_eq_true rfl, Nat.le_of_ble_eq_true rfl⟩ ?_
  refine ok_X7_in (by omega) (by omega) (by omega) (fun hw => ?_) (fun hw => ?_)
  · exact V_zret C hr (by omega) dX7_isUser_7 (hT hw)
  · exact V_zret C hr (by omega) dX7_isUser_7 (hF hw)

set_option maxHeartbeats 400000 in
set_option maxRecDepth 4000 in
theorem ok_X7_areDays {l : Launch} {D : va_G} {cy : Nat → ClassId} {z : Nat} {M : Mm} {K : Option Value → Mm → Prop} {v : Int} (hv : -2147483648 ≤ v ∧ v < 2147483648) (hT : 0 ≤ v ∧ v ≤ 4000 → K (some (iv 1)) M) (hF : ¬ (0 ≤ v ∧ v ≤ 4000) → K (some (iv 0)) M) :
    MT l D cy z false yX7_areDays (wsy yX7_areDays cX7_areDays 1 (some .boolean)) 1 22 0 0 M [iv v] K := by
  refine MT_of (by decide) w_1088 (Nat.le_of_ble_eq_true rfl) ?_
  intro p e s m args below meth c C hr hx0
  refine V_iload_n C dX7_areDays_0 rfl ?_
  refine V_iconst C dX7_areDays_1 ?_
  refine V_sipush C dX7_areDays_2 (by decide) ?_
  refine V_callS (fr := 0) (lo := 0) (mc := 0) (ms := 0) (As := [_, _, _]) C ysX7_in w_863 dX7_areDays_5 rfl rfl (Nat.le_of_ble_eq_true rfl) ⟨Nat.le_of_ble_eq_true rfl, Nat.le_of_ble_eq_true rfl⟩ ⟨Nat.le_of_ble_eq_true rfl, Nat.le_of_ble_eq_true rfl⟩ ?_
  refine ok_X7_in (by omega) (by omega) (by omega) (fun hw => ?_) (fun hw => ?_)
  · exact V_zret C hr (by omega) dX7_areDays_8 (hT hw)
  · exact V_zret C hr (by omega) dX7_areDays_8 (hF hw)

set_option maxHeartbeats 400000 in
set_option maxRecDepth 4000 in
theorem ok_X7_bits {l : Launch} {D : va_G} {cy : Nat → ClassId} {z : Nat} {M : Mm} {K : Option Value → Mm → Prop} {n6 : Nat} (hn : n6 < 1024) (hK : K (some (iv ((bitS n6 10 : Nat) : Int))) M) :
    MT l D cy z false yX7_bits (wsy yX7_bits cX7_bits 3 (some .int)) 0 0 0 0 M [iv (n6 : Int)] K := by
  refine MT_of (by decide) w_1029 (Nat.le_of_ble_eq_true rfl) ?_
  intro p e s m args below meth c C hr hx0
  have loop : ∀ (n : Nat) (k9 : Nat), (k9 ≤ 10) → 11 - k9 < n → V p l e { frames := 0, cells := 0, slots := 0, locals := 0 } s m args below meth c D z 3 (MQ below (qc_ D z K) args s 0 0 (fun q => z ≤ q)) 0 0 M 4 [(0, iv (n6 : Int)), (1, iv (((bitS n6 k9 : Nat) : Int))), (2, iv (((n6 / 2 ^ k9 : Nat) : Int)))] [] := by
    intro n
    induction n with
    | zero => intro k9 hi0 hfu; exact absurd hfu (Nat.not_lt_zero _)
    | succ n ih =>
      intro k9 hi0 hfu
      obtain ⟨q9, hq9⟩ : ∃ q9 : Nat, q9 = n6 / 2 ^ k9 := ⟨_, rfl⟩
      have hdl : q9 ≤ n6 := by rw [hq9]; exact Nat.div_le_self n6 (2 ^ k9)
      rw [← hq9]
      refine V_iload_n C dX7_bits_4 rfl ?_
      refine V_if_le C dX7_bits_5 (tgt := 21) (by decide) (by omega) (fun g5 => ?_) (fun g5 => ?_)
      · refine V_iload_n C dX7_bits_21 rfl ?_
        exact V_iret C hr dX7_bits_22 (K_of hK (by have o := bitS_0 (n := n6) (k := k9) (by omega) (10 - k9); rw [show k9 + (10 - k9) = 10 by omega] at o; rw [o]))
      · refine V_iload_n C dX7_bits_8 rfl ?_
        refine V_iload_n C dX7_bits_9 rfl ?_
        refine V_iconst C dX7_bits_10 ?_
        refine V_iand1 (n := q9) C (by omega) dX7_bits_11 ?_
        refine V_iadd C dX7_bits_12 ?_
        refine V_istore_n C dX7_bits_13 (by decide) ?_
        refine V_iload_n C dX7_bits_14 rfl ?_
        refine V_iconst C dX7_bits_15 ?_
        refine V_ishr9 (n := q9) (u := 1) C (by omega) (by omega) dX7_bits_16 ?_
        refine V_istore_n C dX7_bits_17 (by decide) ?_
        refine V_goto C dX7_bits_18 (tgt := 4) (by decide) ?_
        refine V_lv [(0, iv (n6 : Int)), (1, iv (((bitS n6 (k9 + 1) : Nat) : Int))), (2, iv (((n6 / 2 ^ (k9 + 1) : Nat) : Int)))] (List.forall_mem_cons.mpr ⟨(by first | rfl | exact congrArg (fun t => some (iv t)) (by rw [bitS, ← hq9]; push_cast; rfl) | exact congrArg (fun t => some (iv t)) (by rw [Nat.pow_add, ← Nat.div_div_eq_div_mul, ← hq9])), (List.forall_mem_cons.mpr ⟨(by first | rfl | exact congrArg (fun t => some (iv t)) (by rw [bitS, ← hq9]; push_cast; rfl) | exact congrArg (fun t => some (iv t)) (by rw [Nat.pow_add, ← Nat.div_div_eq_div_mul, ← hq9])), (List.forall_mem_cons.mpr ⟨(by first | rfl | exact congrArg (fun t => some (iv t)) (by rw [bitS, ← hq9]; push_cast; rfl) | exact congrArg (fun t => some (iv t)) (by rw [Nat.pow_add, ← Nat.div_div_eq_div_mul, ← hq9])), (fun _ h => nomatch h)⟩)⟩)⟩) ?_
        exact ih (k9 + 1) (by rcases Nat.decEq k9 10 with o | o; omega; subst o; have := Nat.div_eq_of_lt (show n6 < 2 ^ 10 by omega); omega) (by omega)
  refine V_iconst C dX7_bits_0 ?_
  refine V_istore_n C dX7_bits_1 (by decide) ?_
  refine V_iload_n C dX7_bits_2 rfl ?_
  refine V_istore_n C dX7_bits_3 (by decide) ?_
  refine V_lv [(0, iv (n6 : Int)), (1, iv (((bitS n6 0 : Nat) : Int))), (2, iv (((n6 / 2 ^ 0 : Nat) : Int)))] (List.forall_mem_cons.mpr ⟨(by first | rfl | exact congrArg (fun t => some (iv t)) (by simp)), (List.forall_mem_cons.mpr ⟨(by first | rfl | exact congrArg (fun t => some (iv t)) (by simp)), (List.forall_mem_cons.mpr ⟨(by first | rfl | exact congrArg (fun t => some (iv t)) (by simp)), (fun _ h => nomatch h)⟩)⟩)⟩) ?_
  exact loop 12 0 (by omega) (by omega)

set_option maxHeartbeats 400000 in
set_option maxRecDepth 4000 in
theorem ok_X7_costNow {l : Launch} {D : va_G} {cy : Nat → ClassId} {z : Nat} {M : Mm} {K : Option Value → Mm → Prop} {u N P A tx fr tl : Nat → Int} (hM : ModAt cy z M u N P A tx fr tl) {S : SD} (hRw : RowOf N S) (hB : SB S) (hJ : IS S) {i : Nat} (hi : i < sN S) (hK : K (some (iv (priceT S i (nxt (RF S i))))) M) :
    MT l D cy z false yX7_costNow (wsy yX7_costNow cX7_costNow 3 (some .int)) 6 133 0 0 M [.ref (z + 331), iv (i : Int)] K := by
  refine MT_of (by decide) w_1026 (Nat.le_of_ble_eq_true rfl) ?_
  intro p e s m args below meth c C hr hx0
  have hM9 := hM
  obtain ⟨gn, g0, g1, g2, g3, g4, g5, g6⟩ := id hM
  have hB9 := hB
  have hr9 := hRw
  have hJ9 := hJ
  obtain ⟨e0, e1, e2, eH, eh, e9, e10, e11, e12, e13, e14, e15, eR⟩ := id hRw
  obtain ⟨d0, d1, d2, d4, d5, d6, dH, dR⟩ := id hB
  have dT := hJ.2.1
  have rt := eR i hi
  obtain ⟨w0, w1, w2, w3, w4, w5, w6, w7⟩ := id rt
  have ri := hJ.2.2 i hi
  have hi10 : i < 10 := by omega
  have rb := dR i hi10
  obtain ⟨b0, b1, b2, b3, b4⟩ := id rb
  have ri0 := ri.1
  have ri1 := ri.2.1
  have nx := nxt_rng (F := RF S i) b3
  refine V_aload_n C dX7_costNow_0 rfl ?_
  refine V_iload_n C dX7_costNow_1 rfl ?_
  refine V_callV (fr := 2) (lo := 42) (mc := 0) (ms := 0) (As := [_]) C yvX7_nextOf w_936 dX7_costNow_2 rfl rfl (by repeat (first | with_reducible assumption | with_reducible exact mset_self _ _ _ | refine (mset_ne (by omega)).trans ?_)) (by (try simp only [mset_1]); omega) rfl rfl (Nat.le_of_ble_eq_true rfl) ⟨Nat.le_of_ble_eq_true rfl, Nat.le_of_ble_eq_true rfl⟩ ⟨Nat.le_of_ble_eq_true rfl, Nat.le_of_ble_eq_true rfl⟩ ?_
  refine ok_X7_nextOf hM9 hr9 hB9 hJ9 hi ?_
  refine V_iconst C dX7_costNow_5 ?_
  refine V_icmp_ne C dX7_costNow_6 (tgt := 11) (by decide) (by omega) (by omega) (fun g6 => ?_) (fun g6 => ?_)
  · have en : nxt (RF S i) = RF S i 3 + 1 := by omega
    have f9 := feeS_rng (w := RF S i 2) d4 d5 (y := RF S i 3 + 1) (by omega)
    refine V_aload_n C dX7_costNow_11 rfl ?_
    refine V_iload_n C dX7_costNow_12 rfl ?_
    refine V_aload_n C dX7_costNow_13 rfl ?_
    refine V_iload_n C dX7_costNow_14 rfl ?_
    refine V_callV (fr := 2) (lo := 42) (mc := 0) (ms := 0) (As := [_]) C yvX7_nextOf w_936 dX7_costNow_15 rfl rfl (by repeat (first | with_reducible assumption | with_reducible exact mset_self _ _ _ | refine (mset_ne (by omega)).trans ?_)) (by (try simp only [mset_1]); omega) rfl rfl (Nat.le_of_ble_eq_true rfl) ⟨Nat.le_of_ble_eq_true rfl, Nat.le_of_ble_eq_true rfl⟩ ⟨Nat.le_of_ble_eq_true rfl, Nat.le_of_ble_eq_true rfl⟩ ?_
    refine ok_X7_nextOf hM9 hr9 hB9 hJ9 hi ?_
    rw [en]
    refine V_callV (fr := 2) (lo := 42) (mc := 0) (ms := 0) (As := [_, _]) C yvX7_feeOf w_972 dX7_costNow_18 rfl rfl (by repeat (first | with_reducible assumption | with_reducible exact mset_self _ _ _ | refine (mset_ne (by omega)).trans ?_)) (by (try simp only [mset_1]); omega) rfl rfl (Nat.le_of_ble_eq_true rfl) ⟨Nat.le_of_ble_eq_true rfl, Nat.le_of_ble_eq_true rfl⟩ ⟨Nat.le_of_ble_eq_true rfl, Nat.le_of_ble_eq_true rfl⟩ ?_
    refine ok_X7_feeOf hM9 hr9 hB9 hJ9 hi (by omega) ?_
    refine V_istore_n C dX7_costNow_21 (by decide) ?_
    refine V_aload_n C dX7_costNow_22 rfl ?_
    refine V_iload_n C dX7_costNow_23 rfl ?_
    refine V_callV (fr := 5) (lo := 112) (mc := 0) (ms := 0) (As := [_]) C yvX7_isLate w_964 dX7_costNow_24 rfl rfl (by repeat (first | with_reducible assumption | with_reducible exact mset_self _ _ _ | refine (mset_ne (by omega)).trans ?_)) (by (try simp only [mset_1]); omega) rfl rfl (Nat.le_of_ble_eq_true rfl) ⟨Nat.le_of_ble_eq_true rfl, Nat.le_of_ble_eq_true rfl⟩ ⟨Nat.le_of_ble_eq_true rfl, Nat.le_of_ble_eq_true rfl⟩ ?_
    refine ok_X7_isLate hM9 hr9 hB9 hJ9 hi (by omega) (fun hl2 => ?_) (fun hl2 => ?_)
    · refine V_ifeq1 C dX7_costNow_27 (tgt := 40) (by decide) ?_
      refine V_iload_n C dX7_costNow_30 rfl ?_
      refine V_aload_n C dX7_costNow_31 rfl ?_
      refine V_iload_n C dX7_costNow_32 rfl ?_
      refine V_callV (fr := 0) (lo := 0) (mc := 0) (ms := 0) (As := [_]) C yvX7_surchargeOn w_976 dX7_costNow_33 rfl rfl (by repeat (first | with_reducible assumption | with_reducible exact mset_self _ _ _ | refine (mset_ne (by omega)).trans ?_)) (by (try simp only [mset_1]); omega) rfl rfl (Nat.le_of_ble_eq_true rfl) ⟨Nat.le_of_ble_eq_true rfl, Nat.le_of_ble_eq_true rfl⟩ ⟨Nat.le_of_ble_eq_true rfl, Nat.le_of_ble_eq_true rfl⟩ ?_
      refine ok_X7_surchargeOn hM9 hr9 hB9 hJ9 (show 0 ≤ feeT S i (RF S i 3 + 1) ∧ feeT S i (RF S i 3 + 1) ≤ 100000 from ⟨f9.1, by have o : feeT S i (RF S i 3 + 1) ≤ 30000 := f9.2; omega⟩) ?_
      refine V_iadd C dX7_costNow_36 ?_
      refine V_goto C dX7_costNow_37 (tgt := 41) (by decide) ?_
      exact V_iret C hr dX7_costNow_41 (K_of hK (by rw [en]; unfold priceT surT; rw [if_neg (by omega), if_pos hl2]))
    · refine V_ifeq0 C dX7_costNow_27 (tgt := 40) (by decide) ?_
      refine V_iload_n C dX7_costNow_40 rfl ?_
      exact V_iret C hr dX7_costNow_41 (K_of hK (by rw [en]; unfold priceT surT; rw [if_neg (by omega), if_neg hl2]; omega))
  · refine V_iconst C dX7_costNow_9 ?_
    exact V_iret C hr dX7_costNow_10 (K_of hK (by unfold priceT; rw [if_pos (by omega)]))

set_option maxHeartbeats 400000 in
set_option maxRecDepth 4000 in
theorem ok_X7_tellRight {l : Launch} {D : va_G} {cy : Nat → ClassId} {z : Nat} {M : Mm} {K : Option Value → Mm → Prop} {u N P A tx fr tl : Nat → Int} (hM : ModAt cy z M u N P A tx fr tl) {S : SD} (hRw : RowOf N S) (hB : SB S) (hJ : IS S) {i : Nat} (hi : i < sN S) {w : Int} (hZ : ∀ v, v < 10 → stV (RA S i) v = stU (RF S i) (RA S i) v) (hw : 0 ≤ w ∧ w ≤ 12) (hK : K (some (iv (rvT S i w))) M) :
    MT l D cy z false yX7_tellRight (wsy yX7_tellRight cX7_tellRight 4 (some .int)) 7 155 0 0 M [.ref (z + 331), iv (i : Int), iv w] K := by
  refine MT_of (by decide) w_1022 (Nat.le_of_ble_eq_true rfl) ?_
  intro p e s m args below meth c C hr hx0
  have hM9 := hM
  obtain ⟨gn, g0, g1, g2, g3, g4, g5, g6⟩ := id hM
  have hB9 := hB
  have hr9 := hRw
  have hJ9 := hJ
  obtain ⟨e0, e1, e2, eH, eh, e9, e10, e11, e12, e13, e14, e15, eR⟩ := id hRw
  obtain ⟨d0, d1, d2, d4, d5, d6, dH, dR⟩ := id hB
  have dT := hJ.2.1
  have rt := eR i hi
  obtain ⟨w0, w1, w2, w3, w4, w5, w6, w7⟩ := id rt
  have ri := hJ.2.2 i hi
  have hi10 : i < 10 := by omega
  have rb := dR i hi10
  obtain ⟨b0, b1, b2, b3, b4⟩ := id rb
  have ri0 := ri.1
  have ri1 := ri.2.1
  have nx := nxt_rng (F := RF S i) b3
  obtain ⟨n5, hn5, hv5, hb4⟩ := id w5
  have hb5 : ∀ v, v < 10 → (n5 / 2 ^ v % 2 = 1 ↔ stU (RF S i) (RA S i) v = 2) := fun v hv => by rw [← hZ v hv]; exact hb4 v hv
  refine V_aload_n C dX7_tellRight_0 rfl ?_
  refine V_iload_n C dX7_tellRight_1 rfl ?_
  refine V_callV (fr := 2) (lo := 42) (mc := 0) (ms := 0) (As := [_]) C yvX7_nextOf w_936 dX7_tellRight_2 rfl rfl (by repeat (first | with_reducible assumption | with_reducible exact mset_self _ _ _ | refine (mset_ne (by omega)).trans ?_)) (by (try simp only [mset_1]); omega) rfl rfl (Nat.le_of_ble_eq_true rfl) ⟨Nat.le_of_ble_eq_true rfl, Nat.le_of_ble_eq_true rfl⟩ ⟨Nat.le_of_ble_eq_true rfl, Nat.le_of_ble_eq_true rfl⟩ ?_
  refine ok_X7_nextOf hM9 hr9 hB9 hJ9 hi ?_
  refine V_istore_n C dX7_tellRight_5 (by decide) ?_
  refine V_iload_n C dX7_tellRight_6 rfl ?_
  rcases (show w < 0 ∨ 11 < w ∨ w = 0 ∨ w = 1 ∨ w = 2 ∨ w = 3 ∨ w = 4 ∨ w = 5 ∨ w = 6 ∨ w = 7 ∨ w = 8 ∨ w = 9 ∨ w = 10 ∨ w = 11 by omega) with hsw | hsw | hsw | hsw | hsw | hsw | hsw | hsw | hsw | hsw | hsw | hsw | hsw | hsw
  · exact absurd hsw (by omega)
  · refine V_tout C dX7_tellRight_7 (by omega) (by omega) (tgt := 158) (by decide) ?_
    refine V_aload_n C dX7_tellRight_158 rfl ?_
    refine V_iload_n C dX7_tellRight_159 rfl ?_
    refine V_iconst C dX7_tellRight_160 ?_
    refine V_callV (fr := 1) (lo := 20) (mc := 0) (ms := 0) (As := [_, _]) C yvX7_of w_940 dX7_tellRight_161 rfl rfl (by repeat (first | with_reducible assumption | with_reducible exact mset_self _ _ _ | refine (mset_ne (by omega)).trans ?_)) (by (try simp only [mset_1]); omega) rfl rfl (Nat.le_of_ble_eq_true rfl) ⟨Nat.le_of_ble_eq_true rfl, Nat.le_of_ble_eq_true rfl⟩ ⟨Nat.le_of_ble_eq_true rfl, Nat.le_of_ble_eq_true rfl⟩ ?_
    refine ok_X7_of hM9 (j := 16 + 35 * i + 3) (by omega) (by omega) (by omega) w3 ?_
    exact V_iret C hr dX7_tellRight_164 (K_of hK (by unfold rvT; rw [show w = 12 by omega]; rfl))
  · refine V_tin C (0) dX7_tellRight_7 hsw (by omega) (by decide) (by decide) (off := 61) (by rfl) (tgt := 68) (by decide) ?_
    refine V_aload_n C dX7_tellRight_68 rfl ?_
    refine V_iload_n C dX7_tellRight_69 rfl ?_
    refine V_iload_n C dX7_tellRight_70 rfl ?_
    refine V_callV (fr := 1) (lo := 20) (mc := 0) (ms := 0) (As := [_, _]) C yvX7_of w_940 dX7_tellRight_71 rfl rfl (by repeat (first | with_reducible assumption | with_reducible exact mset_self _ _ _ | refine (mset_ne (by omega)).trans ?_)) (by (try simp only [mset_1]); omega) rfl rfl (Nat.le_of_ble_eq_true rfl) ⟨Nat.le_of_ble_eq_true rfl, Nat.le_of_ble_eq_true rfl⟩ ⟨Nat.le_of_ble_eq_true rfl, Nat.le_of_ble_eq_true rfl⟩ ?_
    refine ok_X7_of hM9 (j := (16 + 35 * i + w.toNat)) (by omega) (by omega) (by omega) rfl ?_
    exact V_iret C hr dX7_tellRight_74 (K_of hK (by unfold rvT; rcases (show w = 0 ∨ w = 1 ∨ w = 2 by omega) with o | o | o <;> subst o <;> first | exact w0 | exact w1.trans (by show RF S i 2 = if RF S i 2 = 0 then 0 else 1; split <;> omega) | exact w2))
  · refine V_tin C (1) dX7_tellRight_7 hsw (by omega) (by decide) (by decide) (off := 61) (by rfl) (tgt := 68) (by decide) ?_
    refine V_aload_n C dX7_tellRight_68 rfl ?_
    refine V_iload_n C dX7_tellRight_69 rfl ?_
    refine V_iload_n C dX7_tellRight_70 rfl ?_
    refine V_callV (fr := 1) (lo := 20) (mc := 0) (ms := 0) (As := [_, _]) C yvX7_of w_940 dX7_tellRight_71 rfl rfl (by repeat (first | with_reducible assumption | with_reducible exact mset_self _ _ _ | refine (mset_ne (by omega)).trans ?_)) (by (try simp only [mset_1]); omega) rfl rfl (Nat.le_of_ble_eq_true rfl) ⟨Nat.le_of_ble_eq_true rfl, Nat.le_of_ble_eq_true rfl⟩ ⟨Nat.le_of_ble_eq_true rfl, Nat.le_of_ble_eq_true rfl⟩ ?_
    refine ok_X7_of hM9 (j := (16 + 35 * i + w.toNat)) (by omega) (by omega) (by omega) rfl ?_
    exact V_iret C hr dX7_tellRight_74 (K_of hK (by unfold rvT; rcases (show w = 0 ∨ w = 1 ∨ w = 2 by omega) with o | o | o <;> subst o <;> first | exact w0 | exact w1.trans (by show RF S i 2 = if RF S i 2 = 0 then 0 else 1; split <;> omega) | exact w2))
  · refine V_tin C (2) dX7_tellRight_7 hsw (by omega) (by decide) (by decide) (off := 61) (by rfl) (tgt := 68) (by decide) ?_
    refine V_aload_n C dX7_tellRight_68 rfl ?_
    refine V_iload_n C dX7_tellRight_69 rfl ?_
    refine V_iload_n C dX7_tellRight_70 rfl ?_
    refine V_callV (fr := 1) (lo := 20) (mc := 0) (ms := 0) (As := [_, _]) C yvX7_of w_940 dX7_tellRight_71 rfl rfl (by repeat (first | with_reducible assumption | with_reducible exact mset_self _ _ _ | refine (mset_ne (by omega)).trans ?_)) (by (try simp only [mset_1]); omega) rfl rfl (Nat.le_of_ble_eq_true rfl) ⟨Nat.le_of_ble_eq_true rfl, Nat.le_of_ble_eq_true rfl⟩ ⟨Nat.le_of_ble_eq_true rfl, Nat.le_of_ble_eq_true rfl⟩ ?_
    refine ok_X7_of hM9 (j := (16 + 35 * i + w.toNat)) (by omega) (by omega) (by omega) rfl ?_
    exact V_iret C hr dX7_tellRight_74 (K_of hK (by unfold rvT; rcases (show w = 0 ∨ w = 1 ∨ w = 2 by omega) with o | o | o <;> subst o <;> first | exact w0 | exact w1.trans (by show RF S i 2 = if RF S i 2 = 0 then 0 else 1; split <;> omega) | exact w2))
  · refine V_tin C (3) dX7_tellRight_7 hsw (by omega) (by decide) (by decide) (off := 68) (by rfl) (tgt := 75) (by decide) ?_
    refine V_iload_n C dX7_tellRight_75 rfl ?_
    exact V_iret C hr dX7_tellRight_76 (K_of hK (by unfold rvT; subst hsw; rfl))
  · refine V_tin C (4) dX7_tellRight_7 hsw (by omega) (by decide) (by decide) (off := 70) (by rfl) (tgt := 77) (by decide) ?_
    refine V_iload_n C dX7_tellRight_77 rfl ?_
    refine V_iconst C dX7_tellRight_78 ?_
    refine V_icmp_ne C dX7_tellRight_79 (tgt := 86) (by decide) (by omega) (by omega) (fun g79 => ?_) (fun g79 => ?_)
    · refine V_aload_n C dX7_tellRight_86 rfl ?_
      refine V_iload_n C dX7_tellRight_87 rfl ?_
      refine V_iload_n C dX7_tellRight_88 rfl ?_
      refine V_callV (fr := 4) (lo := 90) (mc := 0) (ms := 0) (As := [_, _]) C yvX7_dueOf w_960 dX7_tellRight_89 rfl rfl (by repeat (first | with_reducible assumption | with_reducible exact mset_self _ _ _ | refine (mset_ne (by omega)).trans ?_)) (by (try simp only [mset_1]); omega) rfl rfl (Nat.le_of_ble_eq_true rfl) ⟨Nat.le_of_ble_eq_true rfl, Nat.le_of_ble_eq_true rfl⟩ ⟨Nat.le_of_ble_eq_true rfl, Nat.le_of_ble_eq_true rfl⟩ ?_
      refine ok_X7_dueOf hM9 hr9 hB9 hJ9 hi (by omega) ?_
      exact V_iret C hr dX7_tellRight_92 (K_of hK (by unfold rvT; subst hsw; show yv (RA S i 0) (-1) (nxt (RF S i)) = _; rfl))
    · refine V_iconst C dX7_tellRight_82 ?_
      refine V_goto C dX7_tellRight_83 (tgt := 92) (by decide) ?_
      exact V_iret C hr dX7_tellRight_92 (K_of hK (by unfold rvT; subst hsw; show -1 = yv (RA S i 0) (-1) (nxt (RF S i)); unfold yv; rw [if_neg (by omega)]))
  · refine V_tin C (5) dX7_tellRight_7 hsw (by omega) (by decide) (by decide) (off := 86) (by rfl) (tgt := 93) (by decide) ?_
    refine V_iload_n C dX7_tellRight_93 rfl ?_
    refine V_iconst C dX7_tellRight_94 ?_
    refine V_icmp_ne C dX7_tellRight_95 (tgt := 102) (by decide) (by omega) (by omega) (fun g95 => ?_) (fun g95 => ?_)
    · refine V_aload_n C dX7_tellRight_102 rfl ?_
      refine V_iload_n C dX7_tellRight_103 rfl ?_
      refine V_iload_n C dX7_tellRight_104 rfl ?_
      refine V_callV (fr := 4) (lo := 90) (mc := 0) (ms := 0) (As := [_, _]) C yvX7_graceOf w_944 dX7_tellRight_105 rfl rfl (by repeat (first | with_reducible assumption | with_reducible exact mset_self _ _ _ | refine (mset_ne (by omega)).trans ?_)) (by (try simp only [mset_1]); omega) rfl rfl (Nat.le_of_ble_eq_true rfl) ⟨Nat.le_of_ble_eq_true rfl, Nat.le_of_ble_eq_true rfl⟩ ⟨Nat.le_of_ble_eq_true rfl, Nat.le_of_ble_eq_true rfl⟩ ?_
      refine ok_X7_graceOf hM9 hr9 hB9 hJ9 hi (by omega) ?_
      exact V_iret C hr dX7_tellRight_108 (K_of hK (by unfold rvT; subst hsw; show yv (RA S i 1) (-1) (nxt (RF S i)) = _; rfl))
    · refine V_iconst C dX7_tellRight_98 ?_
      refine V_goto C dX7_tellRight_99 (tgt := 108) (by decide) ?_
      exact V_iret C hr dX7_tellRight_108 (K_of hK (by unfold rvT; subst hsw; show -1 = yv (RA S i 1) (-1) (nxt (RF S i)); unfold yv; rw [if_neg (by omega)]))
  · refine V_tin C (6) dX7_tellRight_7 hsw (by omega) (by decide) (by decide) (off := 102) (by rfl) (tgt := 109) (by decide) ?_
    refine V_aload_n C dX7_tellRight_109 rfl ?_
    refine V_iload_n C dX7_tellRight_110 rfl ?_
    refine V_callV (fr := 6) (lo := 133) (mc := 0) (ms := 0) (As := [_]) C yvX7_costNow w_1023 dX7_tellRight_111 rfl rfl (by repeat (first | with_reducible assumption | with_reducible exact mset_self _ _ _ | refine (mset_ne (by omega)).trans ?_)) (by (try simp only [mset_1]); omega) rfl rfl (Nat.le_of_ble_eq_true rfl) ⟨Nat.le_of_ble_eq_true rfl, Nat.le_of_ble_eq_true rfl⟩ ⟨Nat.le_of_ble_eq_true rfl, Nat.le_of_ble_eq_true rfl⟩ ?_
    refine ok_X7_costNow hM9 hr9 hB9 hJ9 hi ?_
    exact V_iret C hr dX7_tellRight_114 (K_of hK (by unfold rvT; subst hsw; rfl))
  · refine V_tin C (7) dX7_tellRight_7 hsw (by omega) (by decide) (by decide) (off := 108) (by rfl) (tgt := 115) (by decide) ?_
    refine V_aload_n C dX7_tellRight_115 rfl ?_
    refine V_iload_n C dX7_tellRight_116 rfl ?_
    refine V_callV (fr := 5) (lo := 112) (mc := 0) (ms := 0) (As := [_]) C yvX7_isLapsed w_932 dX7_tellRight_117 rfl rfl (by repeat (first | with_reducible assumption | with_reducible exact mset_self _ _ _ | refine (mset_ne (by omega)).trans ?_)) (by (try simp only [mset_1]); omega) rfl rfl (Nat.le_of_ble_eq_true rfl) ⟨Nat.le_of_ble_eq_true rfl, Nat.le_of_ble_eq_true rfl⟩ ⟨Nat.le_of_ble_eq_true rfl, Nat.le_of_ble_eq_true rfl⟩ ?_
    refine ok_X7_isLapsed hM9 hr9 hB9 hJ9 hi (fun hl => ?_) (fun hl => ?_)
    · refine V_ifeq1 C dX7_tellRight_120 (tgt := 127) (by decide) ?_
      refine V_iconst C dX7_tellRight_123 ?_
      refine V_goto C dX7_tellRight_124 (tgt := 128) (by decide) ?_
      exact V_iret C hr dX7_tellRight_128 (K_of hK (by unfold rvT; subst hsw; show 1 = (if lapB (RF S i) (RA S i) (sc S 0) = true then (1 : Int) else 0); rw [if_pos (lapB_t hl)]))
    · refine V_ifeq0 C dX7_tellRight_120 (tgt := 127) (by decide) ?_
      refine V_iconst C dX7_tellRight_127 ?_
      exact V_iret C hr dX7_tellRight_128 (K_of hK (by unfold rvT; subst hsw; show 0 = (if lapB (RF S i) (RA S i) (sc S 0) = true then (1 : Int) else 0); rw [if_neg (by rw [lapB_f hl]; decide)]))
  · refine V_tin C (8) dX7_tellRight_7 hsw (by omega) (by decide) (by decide) (off := 122) (by rfl) (tgt := 129) (by decide) ?_
    refine V_aload_n C dX7_tellRight_129 rfl ?_
    refine V_iload_n C dX7_tellRight_130 rfl ?_
    refine V_callV (fr := 4) (lo := 90) (mc := 0) (ms := 0) (As := [_]) C yvX7_endOf w_992 dX7_tellRight_131 rfl rfl (by repeat (first | with_reducible assumption | with_reducible exact mset_self _ _ _ | refine (mset_ne (by omega)).trans ?_)) (by (try simp only [mset_1]); omega) rfl rfl (Nat.le_of_ble_eq_true rfl) ⟨Nat.le_of_ble_eq_true rfl, Nat.le_of_ble_eq_true rfl⟩ ⟨Nat.le_of_ble_eq_true rfl, Nat.le_of_ble_eq_true rfl⟩ ?_
    refine ok_X7_endOf hM9 hr9 hB9 hJ9 hi ?_
    exact V_iret C hr dX7_tellRight_134 (K_of hK (by unfold rvT; subst hsw; rfl))
  · refine V_tin C (9) dX7_tellRight_7 hsw (by omega) (by decide) (by decide) (off := 128) (by rfl) (tgt := 135) (by decide) ?_
    refine V_aload_n C dX7_tellRight_135 rfl ?_
    refine V_iload_n C dX7_tellRight_136 rfl ?_
    refine V_iconst C dX7_tellRight_137 ?_
    refine V_callV (fr := 1) (lo := 20) (mc := 0) (ms := 0) (As := [_, _]) C yvX7_of w_940 dX7_tellRight_138 rfl rfl (by repeat (first | with_reducible assumption | with_reducible exact mset_self _ _ _ | refine (mset_ne (by omega)).trans ?_)) (by (try simp only [mset_1]); omega) rfl rfl (Nat.le_of_ble_eq_true rfl) ⟨Nat.le_of_ble_eq_true rfl, Nat.le_of_ble_eq_true rfl⟩ ⟨Nat.le_of_ble_eq_true rfl, Nat.le_of_ble_eq_true rfl⟩ ?_
    refine ok_X7_of hM9 (j := 16 + 35 * i + 4) (by omega) (by omega) (by omega) w4 ?_
    exact V_iret C hr dX7_tellRight_141 (K_of hK (by unfold rvT; subst hsw; rfl))
  · refine V_tin C (10) dX7_tellRight_7 hsw (by omega) (by decide) (by decide) (off := 135) (by rfl) (tgt := 142) (by decide) ?_
    refine V_aload_n C dX7_tellRight_142 rfl ?_
    refine V_iload_n C dX7_tellRight_143 rfl ?_
    refine V_callV (fr := 2) (lo := 42) (mc := 0) (ms := 0) (As := [_]) C yvX7_usersOf w_1007 dX7_tellRight_144 rfl rfl (by repeat (first | with_reducible assumption | with_reducible exact mset_self _ _ _ | refine (mset_ne (by omega)).trans ?_)) (by (try simp only [mset_1]); omega) rfl rfl (Nat.le_of_ble_eq_true rfl) ⟨Nat.le_of_ble_eq_true rfl, Nat.le_of_ble_eq_true rfl⟩ ⟨Nat.le_of_ble_eq_true rfl, Nat.le_of_ble_eq_true rfl⟩ ?_
    refine ok_X7_usersOf hM9 hr9 hB9 hJ9 hi ?_
    exact V_iret C hr dX7_tellRight_147 (K_of hK (by unfold rvT; subst hsw; rfl))
  · refine V_tin C (11) dX7_tellRight_7 hsw (by omega) (by decide) (by decide) (off := 141) (by rfl) (tgt := 148) (by decide) ?_
    refine V_aload_n C dX7_tellRight_148 rfl ?_
    refine V_iload_n C dX7_tellRight_149 rfl ?_
    refine V_iconst C dX7_tellRight_150 ?_
    refine V_callV (fr := 1) (lo := 20) (mc := 0) (ms := 0) (As := [_, _]) C yvX7_of w_940 dX7_tellRight_151 rfl rfl (by repeat (first | with_reducible assumption | with_reducible exact mset_self _ _ _ | refine (mset_ne (by omega)).trans ?_)) (by (try simp only [mset_1]); omega) rfl rfl (Nat.le_of_ble_eq_true rfl) ⟨Nat.le_of_ble_eq_true rfl, Nat.le_of_ble_eq_true rfl⟩ ⟨Nat.le_of_ble_eq_true rfl, Nat.le_of_ble_eq_true rfl⟩ ?_
    refine ok_X7_of hM9 (j := 16 + 35 * i + 5) (by omega) (by omega) (by omega) hv5 ?_
    refine V_callS (fr := 0) (lo := 0) (mc := 0) (ms := 0) (As := [_]) C ysX7_bits w_1027 dX7_tellRight_154 rfl rfl (Nat.le_of_ble_eq_true rfl) ⟨Nat.le_of_ble_eq_true rfl, Nat.le_of_ble_eq_true rfl⟩ ⟨Nat.le_of_ble_eq_true rfl, Nat.le_of_ble_eq_true rfl⟩ ?_
    refine ok_X7_bits hn5 ?_
    exact V_iret C hr dX7_tellRight_157 (K_of hK (by unfold rvT; subst hsw; show ((bitS n5 10 : Nat) : Int) = ((cntN (fun u => decide (stU (RF S i) (RA S i) u = 2)) 10 : Nat) : Int); rw [bitS_cnt (n := n5) 10 (fun v hv => (hb5 v hv).trans (decide_eq_true_iff).symm)]))

set_option maxHeartbeats 400000 in
set_option maxRecDepth 4000 in
theorem ok_X7_tellUser {l : Launch} {D : va_G} {cy : Nat → ClassId} {z : Nat} {M : Mm} {K : Option Value → Mm → Prop} {u N P A tx fr tl : Nat → Int} (hM : ModAt cy z M u N P A tx fr tl) {S : SD} (hRw : RowOf N S) (hB : SB S) (hJ : IS S) {i : Nat} (hi : i < sN S) {v : Nat} (hZ : ∀ v, v < 10 → stV (RA S i) v = stU (RF S i) (RA S i) v) (hv : v < 10) (hK : K (some (iv (stU (RF S i) (RA S i) v))) M) :
    MT l D cy z false yX7_tellUser (wsy yX7_tellUser cX7_tellUser 3 (some .int)) 2 42 0 0 M [.ref (z + 331), iv (i : Int), iv (v : Int)] K := by
  refine MT_of (by decide) w_1061 (Nat.le_of_ble_eq_true rfl) ?_
  intro p e s m args below meth c C hr hx0
  have hM9 := hM
  obtain ⟨gn, g0, g1, g2, g3, g4, g5, g6⟩ := id hM
  have hB9 := hB
  have hr9 := hRw
  have hJ9 := hJ
  obtain ⟨e0, e1, e2, eH, eh, e9, e10, e11, e12, e13, e14, e15, eR⟩ := id hRw
  obtain ⟨d0, d1, d2, d4, d5, d6, dH, dR⟩ := id hB
  have dT := hJ.2.1
  have rt := eR i hi
  obtain ⟨w0, w1, w2, w3, w4, w5, w6, w7⟩ := id rt
  have ri := hJ.2.2 i hi
  have hi10 : i < 10 := by omega
  have rb := dR i hi10
  obtain ⟨b0, b1, b2, b3, b4⟩ := id rb
  have ri0 := ri.1
  have ri1 := ri.2.1
  obtain ⟨n5, hn5, hv5, hb4⟩ := id w5
  have hb5 : ∀ v, v < 10 → (n5 / 2 ^ v % 2 = 1 ↔ stU (RF S i) (RA S i) v = 2) := fun v hv => by rw [← hZ v hv]; exact hb4 v hv
  refine V_aload_n C dX7_tellUser_0 rfl ?_
  refine V_iload_n C dX7_tellUser_1 rfl ?_
  refine V_bipush C dX7_tellUser_2 (by decide) ?_
  refine V_iload_n C dX7_tellUser_4 rfl ?_
  refine V_iadd C dX7_tellUser_5 ?_
  refine V_callV (fr := 1) (lo := 20) (mc := 0) (ms := 0) (As := [_, _]) C yvX7_of w_940 dX7_tellUser_6 rfl rfl (by repeat (first | with_reducible assumption | with_reducible exact mset_self _ _ _ | refine (mset_ne (by omega)).trans ?_)) (by (try simp only [mset_1]); omega) rfl rfl (Nat.le_of_ble_eq_true rfl) ⟨Nat.le_of_ble_eq_true rfl, Nat.le_of_ble_eq_true rfl⟩ ⟨Nat.le_of_ble_eq_true rfl, Nat.le_of_ble_eq_true rfl⟩ ?_
  refine ok_X7_of hM9 (j := 16 + 35 * i + 25 + v) (by omega) (by omega) (by omega) (w7 v (by omega)) ?_
  have r4 := b4 4 v
  refine V_iconst C dX7_tellUser_9 ?_
  refine V_icmp_ne C dX7_tellUser_10 (tgt := 17) (by decide) (by omega) (by omega) (fun g10 => ?_) (fun g10 => ?_)
  · refine V_aload_n C dX7_tellUser_17 rfl ?_
    refine V_iload_n C dX7_tellUser_18 rfl ?_
    refine V_iconst C dX7_tellUser_19 ?_
    refine V_callV (fr := 1) (lo := 20) (mc := 0) (ms := 0) (As := [_, _]) C yvX7_of w_940 dX7_tellUser_20 rfl rfl (by repeat (first | with_reducible assumption | with_reducible exact mset_self _ _ _ | refine (mset_ne (by omega)).trans ?_)) (by (try simp only [mset_1]); omega) rfl rfl (Nat.le_of_ble_eq_true rfl) ⟨Nat.le_of_ble_eq_true rfl, Nat.le_of_ble_eq_true rfl⟩ ⟨Nat.le_of_ble_eq_true rfl, Nat.le_of_ble_eq_true rfl⟩ ?_
    refine ok_X7_of hM9 (j := 16 + 35 * i + 5) (by omega) (by omega) (by omega) hv5 ?_
    refine V_iload_n C dX7_tellUser_23 rfl ?_
    refine V_ishr9 (n := n5) (u := v) C hn5 hv dX7_tellUser_24 ?_
    refine V_iconst C dX7_tellUser_25 ?_
    refine V_iand1 (n := n5 / 2 ^ v) C (by have := Nat.div_le_self n5 (2 ^ v); omega) dX7_tellUser_26 ?_
    refine V_iconst C dX7_tellUser_27 ?_
    refine V_icmp_ne C dX7_tellUser_28 (tgt := 35) (by decide) (by omega) (by omega) (fun g28 => ?_) (fun g28 => ?_)
    · refine V_iconst C dX7_tellUser_35 ?_
      exact V_iret C hr dX7_tellUser_36 (K_of hK (by have o := hb5 v hv; have o2 : ¬ stU (RF S i) (RA S i) v = 2 := fun q => (by have := o.mpr q; omega); have o3 := stU_012 (F := RF S i) (a := RA S i) (v := v); have o4 : ¬ stU (RF S i) (RA S i) v = 0 := fun q => g10 (stU_0.mp q); omega))
    · refine V_iconst C dX7_tellUser_31 ?_
      refine V_goto C dX7_tellUser_32 (tgt := 36) (by decide) ?_
      exact V_iret C hr dX7_tellUser_36 (K_of hK (by rw [(hb5 v hv).mp (by omega)]))
  · refine V_iconst C dX7_tellUser_13 ?_
    refine V_goto C dX7_tellUser_14 (tgt := 36) (by decide) ?_
    exact V_iret C hr dX7_tellUser_36 (K_of hK (by rw [stU_0.mpr (by omega)]))

set_option maxHeartbeats 400000 in
set_option maxRecDepth 4000 in
theorem ok_X7_tellValue {l : Launch} {D : va_G} {cy : Nat → ClassId} {z : Nat} {M : Mm} {K : Option Value → Mm → Prop} {u N P A tx fr tl : Nat → Int} (hM : ModAt cy z M u N P A tx fr tl) {S : SD} (hRw : RowOf N S) (hB : SB S) (hJ : IS S)  {w : Int} (hw : 0 ≤ w ∧ w ≤ 11) (hK : K (some (iv (dvT S w))) M) :
    MT l D cy z false yX7_tellValue (wsy yX7_tellValue cX7_tellValue 2 (some .int)) 8 176 0 0 M [.ref (z + 331), iv w] K := by
  refine MT_of (by decide) w_1069 (Nat.le_of_ble_eq_true rfl) ?_
  intro p e s m args below meth c C hr hx0
  have hM9 := hM
  obtain ⟨gn, g0, g1, g2, g3, g4, g5, g6⟩ := id hM
  have hB9 := hB
  have hr9 := hRw
  have hJ9 := hJ
  obtain ⟨e0, e1, e2, eH, eh, e9, e10, e11, e12, e13, e14, e15, eR⟩ := id hRw
  obtain ⟨d0, d1, d2, d4, d5, d6, dH, dR⟩ := id hB
  have dT := hJ.2.1
  refine V_iload_n C dX7_tellValue_0 rfl ?_
  rcases (show w < 0 ∨ 7 < w ∨ w = 0 ∨ w = 1 ∨ w = 2 ∨ w = 3 ∨ w = 4 ∨ w = 5 ∨ w = 6 ∨ w = 7 by omega) with hsw | hsw | hsw | hsw | hsw | hsw | hsw | hsw | hsw | hsw
  · exact absurd hsw (by omega)
  · refine V_tout C dX7_tellValue_1 (by omega) (by omega) (tgt := 84) (by decide) ?_
    refine V_aload_n C dX7_tellValue_84 rfl ?_
    refine V_get C fg_X7_7 dX7_tellValue_85 (by repeat (first | with_reducible assumption | with_reducible exact mset_self _ _ _ | refine (mset_ne (by omega)).trans ?_)) (by (try simp only [mset_1]); omega) (by rfl) ?_
    refine V_bipush C dX7_tellValue_88 (by decide) ?_
    refine V_iload_n C dX7_tellValue_90 rfl ?_
    refine V_iadd C dX7_tellValue_91 ?_
    refine V_bipush C dX7_tellValue_92 (by decide) ?_
    refine V_isub C dX7_tellValue_94 ?_
    refine V_iald C dX7_tellValue_95 (by repeat (first | with_reducible assumption | with_reducible exact mset_self _ _ _ | refine (mset_ne (by omega)).trans ?_)) (by (try simp only [mset_1]); omega) (by omega) (by omega) (j := (9 + w - 8).toNat) rfl ?_
    exact V_iret C hr dX7_tellValue_96 (K_of hK (by unfold dvT; rcases (show w = 8 ∨ w = 9 ∨ w = 10 ∨ w = 11 by omega) with o | o | o | o <;> subst o <;> first | exact e9 | exact e10 | exact e11 | exact e12))
  · refine V_tin C (0) dX7_tellValue_1 hsw (by omega) (by decide) (by decide) (off := 47) (by rfl) (tgt := 48) (by decide) ?_
    refine V_aload_n C dX7_tellValue_48 rfl ?_
    refine V_get C fg_X7_7 dX7_tellValue_49 (by repeat (first | with_reducible assumption | with_reducible exact mset_self _ _ _ | refine (mset_ne (by omega)).trans ?_)) (by (try simp only [mset_1]); omega) (by rfl) ?_
    refine V_iload_n C dX7_tellValue_52 rfl ?_
    refine V_iald C dX7_tellValue_53 (by repeat (first | with_reducible assumption | with_reducible exact mset_self _ _ _ | refine (mset_ne (by omega)).trans ?_)) (by (try simp only [mset_1]); omega) (by omega) (by omega) (j := w.toNat) rfl ?_
    exact V_iret C hr dX7_tellValue_54 (K_of hK (by unfold dvT; subst hsw; first | exact e0 | exact e1))
  · refine V_tin C (1) dX7_tellValue_1 hsw (by omega) (by decide) (by decide) (off := 47) (by rfl) (tgt := 48) (by decide) ?_
    refine V_aload_n C dX7_tellValue_48 rfl ?_
    refine V_get C fg_X7_7 dX7_tellValue_49 (by repeat (first | with_reducible assumption | with_reducible exact mset_self _ _ _ | refine (mset_ne (by omega)).trans ?_)) (by (try simp only [mset_1]); omega) (by rfl) ?_
    refine V_iload_n C dX7_tellValue_52 rfl ?_
    refine V_iald C dX7_tellValue_53 (by repeat (first | with_reducible assumption | with_reducible exact mset_self _ _ _ | refine (mset_ne (by omega)).trans ?_)) (by (try simp only [mset_1]); omega) (by omega) (by omega) (j := w.toNat) rfl ?_
    exact V_iret C hr dX7_tellValue_54 (K_of hK (by unfold dvT; subst hsw; first | exact e0 | exact e1))
  · refine V_tin C (2) dX7_tellValue_1 hsw (by omega) (by decide) (by decide) (off := 54) (by rfl) (tgt := 55) (by decide) ?_
    refine V_aload_n C dX7_tellValue_55 rfl ?_
    refine V_callV (fr := 7) (lo := 154) (mc := 0) (ms := 0) (As := []) C yvX7_standing w_1070 dX7_tellValue_56 rfl rfl (by repeat (first | with_reducible assumption | with_reducible exact mset_self _ _ _ | refine (mset_ne (by omega)).trans ?_)) (by (try simp only [mset_1]); omega) rfl rfl (Nat.le_of_ble_eq_true rfl) ⟨Nat.le_of_ble_eq_true rfl, Nat.le_of_ble_eq_true rfl⟩ ⟨Nat.le_of_ble_eq_true rfl, Nat.le_of_ble_eq_true rfl⟩ ?_
    refine ok_X7_standing hM9 hr9 hB9 hJ9 ?_
    exact V_iret C hr dX7_tellValue_59 (K_of hK (by unfold dvT; subst hsw; rfl))
  · refine V_tin C (3) dX7_tellValue_1 hsw (by omega) (by decide) (by decide) (off := 59) (by rfl) (tgt := 60) (by decide) ?_
    refine V_aload_n C dX7_tellValue_60 rfl ?_
    refine V_callV (fr := 6) (lo := 133) (mc := 0) (ms := 0) (As := []) C yvX7_lapsedOnes w_928 dX7_tellValue_61 rfl rfl (by repeat (first | with_reducible assumption | with_reducible exact mset_self _ _ _ | refine (mset_ne (by omega)).trans ?_)) (by (try simp only [mset_1]); omega) rfl rfl (Nat.le_of_ble_eq_true rfl) ⟨Nat.le_of_ble_eq_true rfl, Nat.le_of_ble_eq_true rfl⟩ ⟨Nat.le_of_ble_eq_true rfl, Nat.le_of_ble_eq_true rfl⟩ ?_
    refine ok_X7_lapsedOnes hM9 hr9 hB9 hJ9 ?_
    exact V_iret C hr dX7_tellValue_64 (K_of hK (by unfold dvT; subst hsw; rfl))
  · refine V_tin C (4) dX7_tellValue_1 hsw (by omega) (by decide) (by decide) (off := 64) (by rfl) (tgt := 65) (by decide) ?_
    refine V_aload_n C dX7_tellValue_65 rfl ?_
    refine V_get C fg_X7_7 dX7_tellValue_66 (by repeat (first | with_reducible assumption | with_reducible exact mset_self _ _ _ | refine (mset_ne (by omega)).trans ?_)) (by (try simp only [mset_1]); omega) (by rfl) ?_
    refine V_iconst C dX7_tellValue_69 ?_
    refine V_iald C dX7_tellValue_70 (by repeat (first | with_reducible assumption | with_reducible exact mset_self _ _ _ | refine (mset_ne (by omega)).trans ?_)) (by (try simp only [mset_1]); omega) (by omega) (by omega) (show ((2 : Int)).toNat = 2 from rfl) ?_
    exact V_iret C hr dX7_tellValue_71 (K_of hK (by unfold dvT; subst hsw; exact e2))
  · refine V_tin C (5) dX7_tellValue_1 hsw (by omega) (by decide) (by decide) (off := 71) (by rfl) (tgt := 72) (by decide) ?_
    refine V_aload_n C dX7_tellValue_72 rfl ?_
    refine V_get C fg_X7_7 dX7_tellValue_73 (by repeat (first | with_reducible assumption | with_reducible exact mset_self _ _ _ | refine (mset_ne (by omega)).trans ?_)) (by (try simp only [mset_1]); omega) (by rfl) ?_
    refine V_bipush C dX7_tellValue_76 (by decide) ?_
    refine V_iload_n C dX7_tellValue_78 rfl ?_
    refine V_iadd C dX7_tellValue_79 ?_
    refine V_iconst C dX7_tellValue_80 ?_
    refine V_isub C dX7_tellValue_81 ?_
    refine V_iald C dX7_tellValue_82 (by repeat (first | with_reducible assumption | with_reducible exact mset_self _ _ _ | refine (mset_ne (by omega)).trans ?_)) (by (try simp only [mset_1]); omega) (by omega) (by omega) (j := (13 + w - 5).toNat) rfl ?_
    exact V_iret C hr dX7_tellValue_83 (K_of hK (by unfold dvT; subst hsw; first | exact e13 | exact e14 | exact e15))
  · refine V_tin C (6) dX7_tellValue_1 hsw (by omega) (by decide) (by decide) (off := 71) (by rfl) (tgt := 72) (by decide) ?_
    refine V_aload_n C dX7_tellValue_72 rfl ?_
    refine V_get C fg_X7_7 dX7_tellValue_73 (by repeat (first | with_reducible assumption | with_reducible exact mset_self _ _ _ | refine (mset_ne (by omega)).trans ?_)) (by (try simp only [mset_1]); omega) (by rfl) ?_
    refine V_bipush C dX7_tellValue_76 (by decide) ?_
    refine V_iload_n C dX7_tellValue_78 rfl ?_
    refine V_iadd C dX7_tellValue_79 ?_
    refine V_iconst C dX7_tellValue_80 ?_
    refine V_isub C dX7_tellValue_81 ?_
    refine V_iald C dX7_tellValue_82 (by repeat (first | with_reducible assumption | with_reducible exact mset_self _ _ _ | refine (mset_ne (by omega)).trans ?_)) (by (try simp only [mset_1]); omega) (by omega) (by omega) (j := (13 + w - 5).toNat) rfl ?_
    exact V_iret C hr dX7_tellValue_83 (K_of hK (by unfold dvT; subst hsw; first | exact e13 | exact e14 | exact e15))
  · refine V_tin C (7) dX7_tellValue_1 hsw (by omega) (by decide) (by decide) (off := 71) (by rfl) (tgt := 72) (by decide) ?_
    refine V_aload_n C dX7_tellValue_72 rfl ?_
    refine V_get C fg_X7_7 dX7_tellValue_73 (by repeat (first | with_reducible assumption | with_reducible exact mset_self _ _ _ | refine (mset_ne (by omega)).trans ?_)) (by (try simp only [mset_1]); omega) (by rfl) ?_
    refine V_bipush C dX7_tellValue_76 (by decide) ?_
    refine V_iload_n C dX7_tellValue_78 rfl ?_
    refine V_iadd C dX7_tellValue_79 ?_
    refine V_iconst C dX7_tellValue_80 ?_
    refine V_isub C dX7_tellValue_81 ?_
    refine V_iald C dX7_tellValue_82 (by repeat (first | with_reducible assumption | with_reducible exact mset_self _ _ _ | refine (mset_ne (by omega)).trans ?_)) (by (try simp only [mset_1]); omega) (by omega) (by omega) (j := (13 + w - 5).toNat) rfl ?_
    exact V_iret C hr dX7_tellValue_83 (K_of hK (by unfold dvT; subst hsw; first | exact e13 | exact e14 | exact e15))

set_option maxHeartbeats 400000 in
set_option maxRecDepth 4000 in
theorem ok_X7_costsOf {l : Launch} {D : va_G} {cy : Nat → ClassId} {z : Nat} {M : Mm} {K : Option Value → Mm → Prop} {u N P A tx fr tl : Nat → Int} (hM : ModAt cy z M u N P A tx fr tl) {S : SD} (hRw : RowOf N S) (hB : SB S) (hJ : IS S) {i : Nat} (hi : i < sN S) {x9 : Int} (hx9 : 0 ≤ x9 ∧ x9 ≤ 100000) (hK : K (some (iv (cuS S i x9 (20 - (RF S i 3 + 1)).toNat (RF S i 3 + 1)))) M) :
    MT l D cy z false yX7_costsOf (wsy yX7_costsOf cX7_costsOf 7 (some .int)) 5 112 0 0 M [.ref (z + 331), iv (i : Int), iv x9] K := by
  refine MT_of (by decide) w_1092 (Nat.le_of_ble_eq_true rfl) ?_
  intro p e s m args below meth c C hr hx0
  have hM9 := hM
  obtain ⟨gn, g0, g1, g2, g3, g4, g5, g6⟩ := id hM
  have hB9 := hB
  have hr9 := hRw
  have hJ9 := hJ
  obtain ⟨e0, e1, e2, eH, eh, e9, e10, e11, e12, e13, e14, e15, eR⟩ := id hRw
  obtain ⟨d0, d1, d2, d4, d5, d6, dH, dR⟩ := id hB
  have dT := hJ.2.1
  have rt := eR i hi
  obtain ⟨w0, w1, w2, w3, w4, w5, w6, w7⟩ := id rt
  have ri := hJ.2.2 i hi
  have hi10 : i < 10 := by omega
  have rb := dR i hi10
  obtain ⟨b0, b1, b2, b3, b4⟩ := id rb
  have ri0 := ri.1
  have ri1 := ri.2.1
  have loop : ∀ (n : Nat) (c9 y9 : Int), (1 ≤ y9 ∧ y9 ≤ 20) → (c9 + cuS S i x9 (20 - y9).toNat y9 = cuS S i x9 (20 - (RF S i 3 + 1)).toNat (RF S i 3 + 1)) → (20 - y9).toNat < n → V p l e { frames := 5, cells := 0, slots := 0, locals := 112 } s m args below meth c D z 7 (MQ below (qc_ D z K) args s 0 0 (fun q => z ≤ q)) 0 0 M 12 [(0, .ref (z + 331)), (1, iv (i : Int)), (2, iv x9), (3, iv (c9)), (4, iv (y9))] [] := by
    intro n
    induction n with
    | zero => intro c9 y9 hi0 hi1 hfu; exact absurd hfu (Nat.not_lt_zero _)
    | succ n ih =>
      intro c9 y9 hi0 hi1 hfu
      refine V_iload C dX7_costsOf_12 rfl ?_
      refine V_bipush C dX7_costsOf_14 (by decide) ?_
      refine V_icmp_gt C dX7_costsOf_16 (tgt := 81) (by decide) (by omega) (by omega) (fun g16 => ?_) (fun g16 => ?_)
      · refine V_iload_n C dX7_costsOf_81 rfl ?_
        exact V_iret C hr dX7_costsOf_82 (K_of hK (by rw [← hi1, show (20 - y9).toNat = 0 by omega]; simp [cuS]))
      · have y0e := yv_rng (g := RA S i 0) (e := -1) (y := y9) (b4 0) (by omega)
        have f9 := feeS_rng (w := RF S i 2) d4 d5 (y := y9) (by omega)
        have f8 : 0 ≤ feeT S i y9 ∧ feeT S i y9 ≤ 30000 := f9
        refine V_aload_n C dX7_costsOf_19 rfl ?_
        refine V_iload_n C dX7_costsOf_20 rfl ?_
        refine V_iload C dX7_costsOf_21 rfl ?_
        refine V_callV (fr := 4) (lo := 90) (mc := 0) (ms := 0) (As := [_, _]) C yvX7_dueOf w_960 dX7_costsOf_23 rfl rfl (by repeat (first | with_reducible assumption | with_reducible exact mset_self _ _ _ | refine (mset_ne (by omega)).trans ?_)) (by (try simp only [mset_1]); omega) rfl rfl (Nat.le_of_ble_eq_true rfl) ⟨Nat.le_of_ble_eq_true rfl, Nat.le_of_ble_eq_true rfl⟩ ⟨Nat.le_of_ble_eq_true rfl, Nat.le_of_ble_eq_true rfl⟩ ?_
        refine ok_X7_dueOf hM9 hr9 hB9 hJ9 hi (by omega) ?_
        refine V_istore C dX7_costsOf_26 (by decide) ?_
        refine V_aload_n C dX7_costsOf_28 rfl ?_
        refine V_iload_n C dX7_costsOf_29 rfl ?_
        refine V_iload C dX7_costsOf_30 rfl ?_
        refine V_callV (fr := 2) (lo := 42) (mc := 0) (ms := 0) (As := [_, _]) C yvX7_feeOf w_972 dX7_costsOf_32 rfl rfl (by repeat (first | with_reducible assumption | with_reducible exact mset_self _ _ _ | refine (mset_ne (by omega)).trans ?_)) (by (try simp only [mset_1]); omega) rfl rfl (Nat.le_of_ble_eq_true rfl) ⟨Nat.le_of_ble_eq_true rfl, Nat.le_of_ble_eq_true rfl⟩ ⟨Nat.le_of_ble_eq_true rfl, Nat.le_of_ble_eq_true rfl⟩ ?_
        refine ok_X7_feeOf hM9 hr9 hB9 hJ9 hi (by omega) ?_
        refine V_istore C dX7_costsOf_35 (by decide) ?_
        refine V_iload_n C dX7_costsOf_37 rfl ?_
        refine V_iload C dX7_costsOf_38 rfl ?_
        refine V_iload_n C dX7_costsOf_40 rfl ?_
        refine V_icmp_le C dX7_costsOf_41 (tgt := 48) (by decide) (by omega) (by omega) (fun g41 => ?_) (fun g41 => ?_)
        · refine V_iload C dX7_costsOf_48 rfl ?_
          refine V_aload_n C dX7_costsOf_50 rfl ?_
          refine V_get C fg_X7_7 dX7_costsOf_51 (by repeat (first | with_reducible assumption | with_reducible exact mset_self _ _ _ | refine (mset_ne (by omega)).trans ?_)) (by (try simp only [mset_1]); omega) (by rfl) ?_
          refine V_iconst C dX7_costsOf_54 ?_
          refine V_iald C dX7_costsOf_55 (by repeat (first | with_reducible assumption | with_reducible exact mset_self _ _ _ | refine (mset_ne (by omega)).trans ?_)) (by (try simp only [mset_1]); omega) (by omega) (by omega) (show ((0 : Int)).toNat = 0 from rfl) ?_
          refine V_icmp_ge C dX7_costsOf_56 (tgt := 71) (by decide) (by omega) (by omega) (fun g56 => ?_) (fun g56 => ?_)
          · refine V_iload C dX7_costsOf_71 rfl ?_
            refine V_iadd C dX7_costsOf_73 ?_
            refine V_istore_n C dX7_costsOf_74 (by decide) ?_
            refine V_iinc C dX7_costsOf_75 rfl (by decide) ?_
            refine V_goto C dX7_costsOf_78 (tgt := 12) (by decide) ?_
            have pe : priceT S i y9 = feeT S i y9 + 0 := by unfold priceT surT; rw [if_neg (by omega), if_neg (by omega)]
            refine V_lv [(0, .ref (z + 331)), (1, iv (i : Int)), (2, iv x9), (3, iv (c9 + priceT S i y9)), (4, iv (y9 + 1))] (List.forall_mem_cons.mpr ⟨(by first | rfl | exact congrArg (fun t => some (iv t)) (by omega)), (List.forall_mem_cons.mpr ⟨(by first | rfl | exact congrArg (fun t => some (iv t)) (by omega)), (List.forall_mem_cons.mpr ⟨(by first | rfl | exact congrArg (fun t => some (iv t)) (by omega)), (List.forall_mem_cons.mpr ⟨(by first | rfl | exact congrArg (fun t => some (iv t)) (by omega)), (List.forall_mem_cons.mpr ⟨(by first | rfl | exact congrArg (fun t => some (iv t)) (by omega)), (fun _ h => nomatch h)⟩)⟩)⟩)⟩)⟩) ?_
            exact ih (c9 + priceT S i y9) (y9 + 1) (by omega) (by rw [← hi1, show (20 - y9).toNat = (20 - (y9 + 1)).toNat + 1 by omega, cuS, if_pos ⟨by omega, by omega⟩]; omega) (by omega)
          · refine V_iload C dX7_costsOf_59 rfl ?_
            refine V_aload_n C dX7_costsOf_61 rfl ?_
            refine V_iload C dX7_costsOf_62 rfl ?_
            refine V_callV (fr := 0) (lo := 0) (mc := 0) (ms := 0) (As := [_]) C yvX7_surchargeOn w_976 dX7_costsOf_64 rfl rfl (by repeat (first | with_reducible assumption | with_reducible exact mset_self _ _ _ | refine (mset_ne (by omega)).trans ?_)) (by (try simp only [mset_1]); omega) rfl rfl (Nat.le_of_ble_eq_true rfl) ⟨Nat.le_of_ble_eq_true rfl, Nat.le_of_ble_eq_true rfl⟩ ⟨Nat.le_of_ble_eq_true rfl, Nat.le_of_ble_eq_true rfl⟩ ?_
            refine ok_X7_surchargeOn hM9 hr9 hB9 hJ9 (by omega) ?_
            refine V_iadd C dX7_costsOf_67 ?_
            refine V_goto C dX7_costsOf_68 (tgt := 73) (by decide) ?_
            refine V_iadd C dX7_costsOf_73 ?_
            refine V_istore_n C dX7_costsOf_74 (by decide) ?_
            refine V_iinc C dX7_costsOf_75 rfl (by decide) ?_
            refine V_goto C dX7_costsOf_78 (tgt := 12) (by decide) ?_
            have pe : priceT S i y9 = feeT S i y9 + surS (sc S 6) (feeT S i y9) := by unfold priceT surT; rw [if_neg (by omega), if_pos (by omega)]
            refine V_lv [(0, .ref (z + 331)), (1, iv (i : Int)), (2, iv x9), (3, iv (c9 + priceT S i y9)), (4, iv (y9 + 1))] (List.forall_mem_cons.mpr ⟨(by first | rfl | exact congrArg (fun t => some (iv t)) (by omega)), (List.forall_mem_cons.mpr ⟨(by first | rfl | exact congrArg (fun t => some (iv t)) (by omega)), (List.forall_mem_cons.mpr ⟨(by first | rfl | exact congrArg (fun t => some (iv t)) (by omega)), (List.forall_mem_cons.mpr ⟨(by first | rfl | exact congrArg (fun t => some (iv t)) (by omega)), (List.forall_mem_cons.mpr ⟨(by first | rfl | exact congrArg (fun t => some (iv t)) (by omega)), (fun _ h => nomatch h)⟩)⟩)⟩)⟩)⟩) ?_
            exact ih (c9 + priceT S i y9) (y9 + 1) (by omega) (by rw [← hi1, show (20 - y9).toNat = (20 - (y9 + 1)).toNat + 1 by omega, cuS, if_pos ⟨by omega, by omega⟩]; omega) (by omega)
        · refine V_iconst C dX7_costsOf_44 ?_
          refine V_goto C dX7_costsOf_45 (tgt := 73) (by decide) ?_
          refine V_iadd C dX7_costsOf_73 ?_
          refine V_istore_n C dX7_costsOf_74 (by decide) ?_
          refine V_iinc C dX7_costsOf_75 rfl (by decide) ?_
          refine V_goto C dX7_costsOf_78 (tgt := 12) (by decide) ?_
          refine V_lv [(0, .ref (z + 331)), (1, iv (i : Int)), (2, iv x9), (3, iv (c9)), (4, iv (y9 + 1))] (List.forall_mem_cons.mpr ⟨(by first | rfl | exact congrArg (fun t => some (iv t)) (by omega)), (List.forall_mem_cons.mpr ⟨(by first | rfl | exact congrArg (fun t => some (iv t)) (by omega)), (List.forall_mem_cons.mpr ⟨(by first | rfl | exact congrArg (fun t => some (iv t)) (by omega)), (List.forall_mem_cons.mpr ⟨(by first | rfl | exact congrArg (fun t => some (iv t)) (by omega)), (List.forall_mem_cons.mpr ⟨(by first | rfl | exact congrArg (fun t => some (iv t)) (by omega)), (fun _ h => nomatch h)⟩)⟩)⟩)⟩)⟩) ?_
          exact ih c9 (y9 + 1) (by omega) (by rw [← hi1, cuS_0 ri d2 (20 - y9).toNat y9 (by omega) (by omega) (fun _ => by omega), cuS_0 ri d2 (20 - (y9 + 1)).toNat (y9 + 1) (by omega) (by omega) (fun _ => by rw [yv_at (by omega)] at g41 y0e ⊢; have o := RI.due_lt ri d2 (y := y9.toNat) (k := (y9 + 1).toNat) (by omega) (by omega) (by omega); omega)]) (by omega)
  refine V_iconst C dX7_costsOf_0 ?_
  refine V_istore_n C dX7_costsOf_1 (by decide) ?_
  refine V_aload_n C dX7_costsOf_2 rfl ?_
  refine V_iload_n C dX7_costsOf_3 rfl ?_
  refine V_iconst C dX7_costsOf_4 ?_
  refine V_callV (fr := 1) (lo := 20) (mc := 0) (ms := 0) (As := [_, _]) C yvX7_of w_940 dX7_costsOf_5 rfl rfl (by repeat (first | with_reducible assumption | with_reducible exact mset_self _ _ _ | refine (mset_ne (by omega)).trans ?_)) (by (try simp only [mset_1]); omega) rfl rfl (Nat.le_of_ble_eq_true rfl) ⟨Nat.le_of_ble_eq_true rfl, Nat.le_of_ble_eq_true rfl⟩ ⟨Nat.le_of_ble_eq_true rfl, Nat.le_of_ble_eq_true rfl⟩ ?_
  refine ok_X7_of hM9 (j := 16 + 35 * i + 2) (by omega) (by omega) (by omega) w2 ?_
  refine V_iconst C dX7_costsOf_8 ?_
  refine V_iadd C dX7_costsOf_9 ?_
  refine V_istore C dX7_costsOf_10 (by decide) ?_
  refine V_lv [(0, .ref (z + 331)), (1, iv (i : Int)), (2, iv x9), (3, iv (0)), (4, iv (RF S i 3 + 1))] (List.forall_mem_cons.mpr ⟨(by first | rfl | exact congrArg (fun t => some (iv t)) (by omega)), (List.forall_mem_cons.mpr ⟨(by first | rfl | exact congrArg (fun t => some (iv t)) (by omega)), (List.forall_mem_cons.mpr ⟨(by first | rfl | exact congrArg (fun t => some (iv t)) (by omega)), (List.forall_mem_cons.mpr ⟨(by first | rfl | exact congrArg (fun t => some (iv t)) (by omega)), (List.forall_mem_cons.mpr ⟨(by first | rfl | exact congrArg (fun t => some (iv t)) (by omega)), (fun _ h => nomatch h)⟩)⟩)⟩)⟩)⟩) ?_
  exact loop 21 0 (RF S i 3 + 1) (by omega) (by omega) (by omega)

