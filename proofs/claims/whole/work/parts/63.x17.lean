/-! the docket's constructor, walked -/
set_option maxHeartbeats 2000000 in
set_option maxRecDepth 4000 in
theorem ok_X6_init {l : Launch} {D : va_G} {cy : Nat → ClassId} {z : Nat} {M : Mm} {K : Option Value → Mm → Prop} (hk : M.1 = 1) (h0 : M.2 0 = oX 5 [.null, .null, iv 0, .null]) (hK : ∀ M', M'.1 = 331 → DockAt cy z M' x00 → K none M') :
    MT l D cy z true yX6_init (wsy yX6_init cX6_init 2 none) 3 61 330 5331 M [.ref (z + 0)] K := by
  refine MT_of (by decide) w_22 (Nat.le_of_ble_eq_true rfl) ?_
  intro p e s m args below meth c C hr hx0
  have hin := (hx0 rfl).2
  have hz0 := (hx0 rfl).1
  refine V_aload_n C dX6_init_0 rfl ?_
  refine V_objInit C w_23 w_24 w_25 dX6_init_1 ⟨Nat.le_of_ble_eq_true rfl, Nat.le_of_ble_eq_true rfl⟩ ?_
  refine V_aload_n C dX6_init_4 rfl ?_
  refine V_new (ci := 3) (fs := [iv 0, iv 0, iv 0, iv 0, iv 0, .null, .null, .null]) C tyX4 in_X4 tyX4_ok w_26 w_27 w_2 rfl (fun j hj => by rcases (show j = 0 ∨ j = 1 ∨ j = 2 ∨ j = 3 ∨ j = 4 ∨ j = 5 ∨ j = 6 ∨ j = 7 by omega) with rfl | rfl | rfl | rfl | rfl | rfl | rfl | rfl <;> rfl) dX6_init_5 (k9 := 1) hk (by omega) ⟨by show _ + 1 ≤ 330; omega, by show _ + 8 ≤ 5331; omega⟩ (fun M1 em => ?_)
  have f1 : M1.1 = 2 := by rw [em, mpush_1, hk]
  have f2 : M1.2 1 = oX 3 [iv 0, iv 0, iv 0, iv 0, iv 0, .null, .null, .null] := by
    have q := mpush_self M (oX 3 [iv 0, iv 0, iv 0, iv 0, iv 0, .null, .null, .null])
    rw [hk] at q
    rw [em]; exact q
  have f3 : M1.2 0 = oX 5 [.null, .null, iv 0, .null] := by rw [em, mpush_ne (by omega)]; exact h0
  clear em
  refine V_dup C dX6_init_8 rfl ?_
  refine V_callI (k := 1) (fr := 2) (lo := 40) (mc := 64) (ms := 1032) (As := []) C yiX4_init (Or.inl w_28) dX6_init_9 rfl rfl (Nat.le_of_ble_eq_true rfl) ⟨Nat.le_of_ble_eq_true rfl, Nat.le_of_ble_eq_true rfl⟩ ⟨by show _ + 64 ≤ 330; omega, by show _ + 1032 ≤ 5331; omega⟩ (by omega) ?_
  refine ok_X4_init (k := 1) f1 f2 (fun M2 l2 hS2 k2 => ?_)
  have o2 : M2.2 0 = oX 5 [.null, .null, iv 0, .null] := (k2 0 (by omega)).trans f3
  refine V_putF C hin ff_X6_10 dX6_init_12 o2 (by omega) rfl rfl (Nat.le_of_ble_eq_true rfl) ?_
  refine V_memgen (fun M3 em => ?_)
  have l3 : M3.1 = M2.1 := by rw [em]; rfl
  have o3 : M3.2 0 = oX 5 [.ref (z + 1), .null, iv 0, .null] := by rw [em]; exact mset_self _ _ _
  have e3 : ∀ j, j ≠ 0 → M3.2 j = M2.2 j := fun j hj => by rw [em]; exact mset_ne hj
  clear em
  have S3 : StateAt cy z M3 1 S00 := hS2.gr (by omega) (fun j q1 q2 => e3 j (by omega))
  refine V_aload_n C dX6_init_15 rfl ?_
  refine V_iconst C dX6_init_16 ?_
  refine V_newref (t := 4) (N := 4) C rfl w_26 C.2.2.2.2.2.1.2.2.2.2.2.1 (by omega) rfl (Nat.le_of_ble_eq_true rfl) dX6_init_17 (k9 := 66) (by omega) (by omega) ⟨by show _ + 1 ≤ 330; omega, by show _ + 4 ≤ 5331; omega⟩ (fun M4 em => ?_)
  have l4 : M4.1 = 67 := by rw [em, mpush_1]; omega
  have q4 : M4.2 66 = aQ (cy 4) 4 (fun _ => none) := by rw [em]; have q := mpush_self M3 (aQ (cy 4) 4 (fun _ => none)); rw [show M3.1 = 66 by omega] at q; exact q
  have e4 : ∀ j, j < 66 → M4.2 j = M3.2 j := fun j hj => by rw [em]; exact mpush_ne (by omega)
  clear em
  have o4 := (e4 0 (by omega)).trans o3
  refine V_putF C hin ff_X6_16 dX6_init_20 o4 (by omega) rfl rfl (Nat.le_of_ble_eq_true rfl) ?_
  refine V_memgen (fun M5 em => ?_)
  have l5 : M5.1 = M4.1 := by rw [em]; rfl
  have o5 : M5.2 0 = oX 5 [.ref (z + 1), .ref (z + 66), iv 0, .null] := by rw [em]; exact mset_self _ _ _
  have e5 : ∀ j, j ≠ 0 → M5.2 j = M4.2 j := fun j hj => by rw [em]; exact mset_ne hj
  clear em
  refine V_aload_n C dX6_init_23 rfl ?_
  refine V_iconst C dX6_init_24 ?_
  refine V_put C fp_X6_20 dX6_init_25 o5 (by omega) rfl rfl (Nat.le_of_ble_eq_true rfl) ?_
  refine V_memgen (fun M6 em => ?_)
  have l6 : M6.1 = M5.1 := by rw [em]; rfl
  have o6 : M6.2 0 = oX 5 [.ref (z + 1), .ref (z + 66), iv 0, .null] := by rw [em]; exact mset_self _ _ _
  have e6 : ∀ j, j ≠ 0 → M6.2 j = M5.2 j := fun j hj => by rw [em]; exact mset_ne hj
  clear em
  refine V_aload_n C dX6_init_28 rfl ?_
  refine V_new (ci := 4) (fs := [.null, iv 0, iv 0, iv 0, iv 0, .null, .null]) C tyX5 in_X5 tyX5_ok w_150 w_151 w_6 rfl (fun j hj => by rcases (show j = 0 ∨ j = 1 ∨ j = 2 ∨ j = 3 ∨ j = 4 ∨ j = 5 ∨ j = 6 by omega) with rfl | rfl | rfl | rfl | rfl | rfl | rfl <;> rfl) dX6_init_29 (k9 := 67) (by omega) (by omega) ⟨by show _ + 1 ≤ 330; omega, by show _ + 7 ≤ 5331; omega⟩ (fun M7 em => ?_)
  have l7 : M7.1 = 68 := by rw [em, mpush_1]; omega
  have q7 : M7.2 67 = oX 4 [.null, iv 0, iv 0, iv 0, iv 0, .null, .null] := by rw [em]; have q := mpush_self M6 (oX 4 [.null, iv 0, iv 0, iv 0, iv 0, .null, .null]); rw [show M6.1 = 67 by omega] at q; exact q
  have e7 : ∀ j, j < 67 → M7.2 j = M6.2 j := fun j hj => by rw [em]; exact mpush_ne (by omega)
  clear em
  refine V_dup C dX6_init_32 rfl ?_
  refine V_callI (k := 67) (fr := 1) (lo := 20) (mc := 3) (ms := 120) (As := []) C yiX5_init (Or.inr ⟨"FeeDocket", List.mem_of_getElem? (i := 21) rfl⟩) dX6_init_33 rfl rfl (Nat.le_of_ble_eq_true rfl) ⟨Nat.le_of_ble_eq_true rfl, Nat.le_of_ble_eq_true rfl⟩ ⟨by show _ + 3 ≤ 330; omega, by show _ + 120 ≤ 5331; omega⟩ (by omega) ?_
  refine ok_X5_init (k := 67) l7 q7 (fun M8 hB => ?_)
  have l8 := hB.1
  simp only [List.length] at l8
  have e8 : ∀ j, j < 67 → M8.2 j = M7.2 j := hB.2.2
  have o8 := (e8 0 (by omega)).trans ((e7 0 (by omega)).trans o6)
  refine V_putF C hin ff_X6_27 dX6_init_36 o8 (by omega) rfl rfl (Nat.le_of_ble_eq_true rfl) ?_
  refine V_memgen (fun M9 em => ?_)
  have l9 : M9.1 = M8.1 := by rw [em]; rfl
  have o9 : M9.2 0 = oX 5 [.ref (z + 1), .ref (z + 66), iv 0, .ref (z + 67)] := by rw [em]; exact mset_self _ _ _
  have e9 : ∀ j, j ≠ 0 → M9.2 j = M8.2 j := fun j hj => by rw [em]; exact mset_ne hj
  clear em
  have c9 : ∀ j, j ≠ 0 → j < 66 → M9.2 j = M3.2 j := fun j h1 h2 => (e9 j h1).trans ((e8 j (by omega)).trans ((e7 j (by omega)).trans ((e6 j h1).trans ((e5 j h1).trans (e4 j h2)))))
  have S9 : StateAt cy z M9 1 S00 := S3.gr (by omega) (fun j q1 q2 => c9 j (by omega) (by omega))
  have q9 : M9.2 66 = aQ (cy 4) 4 (fun _ => none) := (e9 66 (by omega)).trans ((e8 66 (by omega)).trans ((e7 66 (by omega)).trans ((e6 66 (by omega)).trans ((e5 66 (by omega)).trans q4))))
  have t9 : TextAt cy z M9 67 T00 (fun _ => 0) (fun _ => 0) (fun _ => 0) := ⟨by omega, (e9 67 (by omega)).trans (hB.2.1 0 _ rfl), (e9 68 (by omega)).trans (hB.2.1 1 _ rfl), (e9 69 (by omega)).trans (hB.2.1 2 _ rfl), (e9 70 (by omega)).trans (hB.2.1 3 _ rfl)⟩
  refine V_iconst C dX6_init_39 ?_
  refine V_istore_n C dX6_init_40 (by decide) ?_
  have loop : ∀ (n : Nat) (i : Nat) (g : Nat → Option Nat) (N9 : Mm), (i ≤ 4) → (N9.1 = 71 + 65 * i) → (N9.2 0 = oX 5 [.ref (z + 1), .ref (z + 66), iv 0, .ref (z + 67)]) → (StateAt cy z N9 1 S00) → (N9.2 66 = aQ (cy 4) 4 g) → (TextAt cy z N9 67 T00 (fun _ => 0) (fun _ => 0) (fun _ => 0)) → (∀ j, j < i → g j = some (z + (71 + 65 * j))) → (∀ j, j < i → StateAt cy z N9 (71 + 65 * j) S00) → 4 - i < n → V p l e { frames := 3, cells := 330, slots := 5331, locals := 61 } s m args below meth c D z 2 (MQ below (qc_ D z K) args s 330 5331 (fun q => z ≤ q)) (70 + 65 * i) (1171 + 1040 * i) N9 41 [(0, .ref (z + 0)), (1, iv (i : Int))] [] := by
    intro n
    induction n with
    | zero => intro i g N9 _ _ _ _ _ _ _ _ hfu; exact absurd hfu (Nat.not_lt_zero _)
    | succ n ih =>
      intro i g N9 h0 h1 h2 h3 h4 h5 h6 h7 hfu
      refine V_iload_n C dX6_init_41 rfl ?_
      refine V_aload_n C dX6_init_42 rfl ?_
      refine V_get C fg_X6_16 dX6_init_43 h2 (by omega) (by rfl) ?_
      refine V_alenQ (t := 4) C rfl dX6_init_46 h4 (by omega) ?_
      refine V_icmp_ge C dX6_init_47 (tgt := 69) (by decide) (by omega) (by omega) (fun g47 => ?_) (fun g47 => ?_)
      · have e10 : i = 4 := by omega
        subst e10
        refine V_cellQ (fun j => some (z + (71 + 65 * j))) h4 h6 ?_
        have hs9 : Sm N9 (mset N9 66 (aQ (cy 4) 4 (fun j => some (z + (71 + 65 * j))))) (fun j => j = 66) := Sm.set rfl
        refine V_vret C hr dX6_init_69 (hK _ (by rw [mset_1]; omega) ⟨by rw [mset_1]; omega, (mset_ne (by omega)).trans h2, mset_self _ _ _, h5.keep hs9 (fun q q1 q2 w => by omega), h3.keep hs9 (fun q q1 q2 w => by omega), fun j hj => ⟨by show 71 ≤ 71 + 65 * j; omega, by show 71 + 65 * j + 65 ≤ 331; omega, (h7 j hj).keep hs9 (fun q q1 q2 w => by omega)⟩, fun j q hj hq hne => by show 71 + 65 * j + 65 ≤ 71 + 65 * q ∨ 71 + 65 * q + 65 ≤ 71 + 65 * j; omega⟩)
      · refine V_aload_n C dX6_init_50 rfl ?_
        refine V_get C fg_X6_16 dX6_init_51 h2 (by omega) (by rfl) ?_
        refine V_iload_n C dX6_init_54 rfl ?_
        refine V_new (ci := 3) (fs := [iv 0, iv 0, iv 0, iv 0, iv 0, .null, .null, .null]) C tyX4 in_X4 tyX4_ok w_26 w_27 w_2 rfl (fun j hj => by rcases (show j = 0 ∨ j = 1 ∨ j = 2 ∨ j = 3 ∨ j = 4 ∨ j = 5 ∨ j = 6 ∨ j = 7 by omega) with rfl | rfl | rfl | rfl | rfl | rfl | rfl | rfl <;> rfl) dX6_init_55 (k9 := 71 + 65 * i) h1 (by omega) ⟨by show _ + 1 ≤ 330; omega, by show _ + 8 ≤ 5331; omega⟩ (fun M11 em => ?_)
        have f1 : M11.1 = 71 + 65 * i + 1 := by rw [em, mpush_1, h1]
        have f2 : M11.2 (71 + 65 * i) = oX 3 [iv 0, iv 0, iv 0, iv 0, iv 0, .null, .null, .null] := by rw [em, ← h1]; exact mpush_self _ _
        have f3 : ∀ j, j < 71 + 65 * i → M11.2 j = N9.2 j := fun j hj => by rw [em]; exact mpush_ne (by omega)
        clear em
        refine V_dup C dX6_init_58 rfl ?_
        refine V_callI (k := 71 + 65 * i) (fr := 2) (lo := 40) (mc := 64) (ms := 1032) (As := []) C yiX4_init (Or.inl w_28) dX6_init_59 rfl rfl (Nat.le_of_ble_eq_true rfl) ⟨Nat.le_of_ble_eq_true rfl, Nat.le_of_ble_eq_true rfl⟩ ⟨by show _ + 64 ≤ 330; omega, by show _ + 1032 ≤ 5331; omega⟩ (by omega) ?_
        refine ok_X4_init (k := 71 + 65 * i) f1 f2 (fun M12 b1 bS b2 => ?_)
        have b3 : ∀ j, j < 71 + 65 * i → M12.2 j = N9.2 j := fun j hj => (b2 j hj).trans (f3 j hj)
        refine V_aastore (t := 4) (ci := 3) C rfl rfl dX6_init_62 ((b3 _ (by omega)).trans h4) (by omega) (by omega) (by omega) bS.2.1 (by omega) ?_
        refine V_memgen (fun M13 em => ?_)
        have c1 : M13.1 = 71 + 65 * (i + 1) := by rw [em, mset_1]; omega
        have c3 : ∀ j, j ≠ 66 → M13.2 j = M12.2 j := fun j hj => by rw [em]; exact mset_ne hj
        have c4 : M13.2 66 = aQ (cy 4) 4 (va_up g ((i : Int)).toNat (some (z + (71 + 65 * i)))) := by rw [em]; exact mset_self _ _ _
        rw [show ((i : Int)).toNat = i by omega] at c4
        have cs : Sm M12 M13 (fun j => j = 66) := by rw [em]; exact Sm.set rfl
        clear em
        refine V_iinc C dX6_init_63 rfl (by decide) ?_
        refine V_goto C dX6_init_66 (tgt := 41) (by decide) ?_
        refine V_widen (k := 70 + 65 * (i + 1)) (n := 1171 + 1040 * (i + 1)) (by omega) (by omega) ?_
        refine V_lv [(0, .ref (z + 0)), (1, iv ((i + 1 : Nat) : Int))] (List.forall_mem_cons.mpr ⟨(by first | rfl | exact congrArg (fun t => some (iv t)) (by push_cast; omega)), (List.forall_mem_cons.mpr ⟨(by first | rfl | exact congrArg (fun t => some (iv t)) (by push_cast; omega)), (fun _ h => nomatch h)⟩)⟩) ?_
        refine ih (i + 1) _ M13 (by omega) c1 ((c3 _ (by omega)).trans ((b3 _ (by omega)).trans h2)) ((h3.gr (by omega) (fun q q1 q2 => b3 q (by omega))).keep cs (fun q q1 q2 w => by omega)) c4 ((h5.gr (by omega) (fun q q1 q2 => b3 q (by omega))).keep cs (fun q q1 q2 w => by omega)) (fun j hj => ?_) (fun j hj => ?_) (by omega)
        · rcases Nat.decEq j i with o | o
          · rw [up_n o]; exact h6 j (by omega)
          · rw [o, up_s]
        · rcases Nat.decEq j i with o | o
          · exact ((h7 j (by omega)).gr (by omega) (fun q q1 q2 => b3 q (by omega))).keep cs (fun q q1 q2 w => by omega)
          · rw [o]; exact bS.keep cs (fun q q1 q2 w => by omega)
  refine V_lv [(0, .ref (z + 0)), (1, iv ((0 : Nat) : Int))] (List.forall_mem_cons.mpr ⟨(by first | rfl | exact congrArg (fun t => some (iv t)) (by omega)), (List.forall_mem_cons.mpr ⟨(by first | rfl | exact congrArg (fun t => some (iv t)) (by omega)), (fun _ h => nomatch h)⟩)⟩) ?_
  exact loop 5 0 (fun _ => none) M9 (by omega) (by omega) o9 S9 q9 t9 (fun j hj => absurd hj (by omega)) (fun j hj => absurd hj (by omega)) (by omega)

