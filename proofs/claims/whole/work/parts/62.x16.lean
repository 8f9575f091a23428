/-! constructors of the state and the docket, walked -/
def fS0 : Nat → Int := fun j => if j = 4 then 100 else if j = 5 then 20 else if j = 6 then 50 else if j = 7 then 300 else 0
def S00 : SD := (0, 0, fS0, fun _ => 0, fun _ _ => 0, fun _ _ _ => 0)
def T00 : Nat → Int := fun j => if j = 2 then -1 else 0
def x00 : DD := (S00, 0, fun _ => S00, fun j => 71 + 65 * j, T00, fun _ => 0, fun _ => 0, fun _ => 0)
set_option maxHeartbeats 2000000 in
set_option maxRecDepth 4000 in
theorem ok_X4_init {l : Launch} {D : va_G} {cy : Nat → ClassId} {z : Nat} {M : Mm} {K : Option Value → Mm → Prop} {k : Nat} (hk : M.1 = k + 1) (h0 : M.2 k = oX 3 [iv 0, iv 0, iv 0, iv 0, iv 0, .null, .null, .null]) (hK : ∀ M', M'.1 = k + 65 → StateAt cy z M' k S00 → (∀ j, j < k → M'.2 j = M.2 j) → K none M') :
    MT l D cy z true yX4_init (wsy yX4_init cX4_init 2 none) 2 40 64 1032 M [.ref (z + k)] K := by
  refine MT_of (by decide) w_30 (Nat.le_of_ble_eq_true rfl) ?_
  intro p e s m args below meth c C hr hx0
  have hin := (hx0 rfl).2
  have hz0 := (hx0 rfl).1
  have hA : At9 M M k [oX 3 [iv 0, iv 0, iv 0, iv 0, iv 0, .null, .null, .null]] := At9.one hk h0
  refine V_aload_n C dX4_init_0 rfl ?_
  refine V_objInit C w_31 w_24 w_25 dX4_init_1 ⟨Nat.le_of_ble_eq_true rfl, Nat.le_of_ble_eq_true rfl⟩ ?_
  refine V_aload_n C dX4_init_4 rfl ?_
  refine V_iconst C dX4_init_5 ?_
  refine V_putA C fp_X4_9 dX4_init_6 (i := 0) hA rfl rfl rfl (Nat.le_of_ble_eq_true rfl) (fun M1 hA2 => ?_)
  have hA : At9 M M1 k [oX 3 [iv 0, iv 0, iv 0, iv 0, iv 0, .null, .null, .null]] := hA2
  clear hA2
  refine V_aload_n C dX4_init_9 rfl ?_
  refine V_iconst C dX4_init_10 ?_
  refine V_putA C fp_X4_15 dX4_init_11 (i := 0) hA rfl rfl rfl (Nat.le_of_ble_eq_true rfl) (fun M2 hA2 => ?_)
  have hA : At9 M M2 k [oX 3 [iv 0, iv 0, iv 0, iv 0, iv 0, .null, .null, .null]] := hA2
  clear hA2
  refine V_aload_n C dX4_init_14 rfl ?_
  refine V_iconst C dX4_init_15 ?_
  refine V_putA C fp_X4_18 dX4_init_16 (i := 0) hA rfl rfl rfl (Nat.le_of_ble_eq_true rfl) (fun M3 hA2 => ?_)
  have hA : At9 M M3 k [oX 3 [iv 0, iv 0, iv 0, iv 0, iv 0, .null, .null, .null]] := hA2
  clear hA2
  refine V_aload_n C dX4_init_19 rfl ?_
  refine V_iconst C dX4_init_20 ?_
  refine V_putA C fp_X4_21 dX4_init_21 (i := 0) hA rfl rfl rfl (Nat.le_of_ble_eq_true rfl) (fun M4 hA2 => ?_)
  have hA : At9 M M4 k [oX 3 [iv 0, iv 0, iv 0, iv 0, iv 0, .null, .null, .null]] := hA2
  clear hA2
  refine V_aload_n C dX4_init_24 rfl ?_
  refine V_iconst C dX4_init_25 ?_
  refine V_putA C fp_X4_24 dX4_init_26 (i := 0) hA rfl rfl rfl (Nat.le_of_ble_eq_true rfl) (fun M5 hA2 => ?_)
  have hA : At9 M M5 k [oX 3 [iv 0, iv 0, iv 0, iv 0, iv 0, .null, .null, .null]] := hA2
  clear hA2
  refine V_aload_n C dX4_init_29 rfl ?_
  refine V_bipush C dX4_init_30 (by decide) ?_
  refine V_newref (t := 3) (N := 10) C rfl w_32 C.2.2.2.2.2.1.2.2.2.2.1 (by omega) rfl (Nat.le_of_ble_eq_true rfl) dX4_init_32 (k9 := k + 1) hA.1 (by omega) ⟨by show _ + 1 ≤ 64; omega, by show _ + 10 ≤ 1032; omega⟩ (fun M6 em => ?_)
  have hA : At9 M M6 k [oX 3 [iv 0, iv 0, iv 0, iv 0, iv 0, .null, .null, .null], aQ (cy 3) 10 (fun _ => none)] := by rw [em]; exact hA.push
  clear em
  refine V_putFA C hin ff_X4_29 dX4_init_35 (i := 0) hA rfl rfl rfl (Nat.le_of_ble_eq_true rfl) (fun M7 hA2 => ?_)
  have hA : At9 M M7 k [oX 3 [iv 0, iv 0, iv 0, iv 0, iv 0, .ref (z + (k + 1)), .null, .null], aQ (cy 3) 10 (fun _ => none)] := hA2
  clear hA2
  refine V_aload_n C dX4_init_38 rfl ?_
  refine V_new (ci := 1) (fs := [.null, iv 0]) C tyX2 in_X2 tyX2_ok w_34 w_35 w_3 rfl (fun j hj => by rcases (show j = 0 ∨ j = 1 by omega) with rfl | rfl <;> rfl) dX4_init_39 (k9 := k + 2) hA.1 (by omega) ⟨by show _ + 1 ≤ 64; omega, by show _ + 2 ≤ 1032; omega⟩ (fun M8 em => ?_)
  have hA : At9 M M8 k [oX 3 [iv 0, iv 0, iv 0, iv 0, iv 0, .ref (z + (k + 1)), .null, .null], aQ (cy 3) 10 (fun _ => none), oX 1 [.null, iv 0]] := by rw [em]; exact hA.push
  clear em
  have hA1 := hA.1
  simp only [List.length] at hA1
  refine V_dup C dX4_init_42 rfl ?_
  refine V_callI (k := k + 2) (fr := 1) (lo := 20) (mc := 1) (ms := 6) (As := []) C yiX2_init (Or.inr ⟨"FeeDocket", List.mem_of_getElem? (i := 0) rfl⟩) dX4_init_43 rfl rfl (Nat.le_of_ble_eq_true rfl) ⟨Nat.le_of_ble_eq_true rfl, Nat.le_of_ble_eq_true rfl⟩ ⟨by show _ + 1 ≤ 64; omega, by show _ + 6 ≤ 1032; omega⟩ (by omega) ?_
  refine ok_X2_init (k := k + 2) hA1 (hA.2.1 2 _ rfl) (fun M9 hB => ?_)
  have hA : At9 M M9 k [oX 3 [iv 0, iv 0, iv 0, iv 0, iv 0, .ref (z + (k + 1)), .null, .null], aQ (cy 3) 10 (fun _ => none), oX 1 [.ref (z + (k + 2 + 1)), iv 0], aI cy 6 (fun _ => 0)] := At9.call (es := [oX 3 [iv 0, iv 0, iv 0, iv 0, iv 0, .ref (z + (k + 1)), .null, .null], aQ (cy 3) 10 (fun _ => none)]) (e0 := oX 1 [.null, iv 0]) hA hB rfl
  clear hB
  have hA1 := hA.1
  simp only [List.length] at hA1
  refine V_putFA C hin ff_X4_36 dX4_init_46 (i := 0) hA rfl rfl rfl (Nat.le_of_ble_eq_true rfl) (fun M10 hA2 => ?_)
  have hA : At9 M M10 k [oX 3 [iv 0, iv 0, iv 0, iv 0, iv 0, .ref (z + (k + 1)), .ref (z + (k + 2)), .null], aQ (cy 3) 10 (fun _ => none), oX 1 [.ref (z + (k + 2 + 1)), iv 0], aI cy 6 (fun _ => 0)] := hA2
  clear hA2
  refine V_aload_n C dX4_init_49 rfl ?_
  refine V_new (ci := 0) (fs := [iv 0, iv 0, iv 0, iv 0]) C tyX1 in_X1 tyX1_ok w_50 w_51 w_4 rfl (fun j hj => by rcases (show j = 0 ∨ j = 1 ∨ j = 2 ∨ j = 3 by omega) with rfl | rfl | rfl | rfl <;> rfl) dX4_init_50 (k9 := k + 4) hA.1 (by omega) ⟨by show _ + 1 ≤ 64; omega, by show _ + 4 ≤ 1032; omega⟩ (fun M11 em => ?_)
  have hA : At9 M M11 k [oX 3 [iv 0, iv 0, iv 0, iv 0, iv 0, .ref (z + (k + 1)), .ref (z + (k + 2)), .null], aQ (cy 3) 10 (fun _ => none), oX 1 [.ref (z + (k + 2 + 1)), iv 0], aI cy 6 (fun _ => 0), oX 0 [iv 0, iv 0, iv 0, iv 0]] := by rw [em]; exact hA.push
  clear em
  have hA1 := hA.1
  simp only [List.length] at hA1
  refine V_dup C dX4_init_53 rfl ?_
  refine V_callI (k := k + 4) (fr := 1) (lo := 20) (mc := 0) (ms := 0) (As := []) C yiX1_init (Or.inr ⟨"FeeDocket", List.mem_of_getElem? (i := 3) rfl⟩) dX4_init_54 rfl rfl (Nat.le_of_ble_eq_true rfl) ⟨Nat.le_of_ble_eq_true rfl, Nat.le_of_ble_eq_true rfl⟩ ⟨by show _ + 0 ≤ 64; omega, by show _ + 0 ≤ 1032; omega⟩ (by omega) ?_
  refine ok_X1_init (k := k + 4) hA1 (hA.2.1 4 _ rfl) (fun M12 hB => ?_)
  have hA : At9 M M12 k [oX 3 [iv 0, iv 0, iv 0, iv 0, iv 0, .ref (z + (k + 1)), .ref (z + (k + 2)), .null], aQ (cy 3) 10 (fun _ => none), oX 1 [.ref (z + (k + 2 + 1)), iv 0], aI cy 6 (fun _ => 0), oX 0 [iv 100, iv 20, iv 50, iv 300]] := At9.call (es := [oX 3 [iv 0, iv 0, iv 0, iv 0, iv 0, .ref (z + (k + 1)), .ref (z + (k + 2)), .null], aQ (cy 3) 10 (fun _ => none), oX 1 [.ref (z + (k + 2 + 1)), iv 0], aI cy 6 (fun _ => 0)]) (e0 := oX 0 [iv 0, iv 0, iv 0, iv 0]) hA hB rfl
  clear hB
  have hA1 := hA.1
  simp only [List.length] at hA1
  refine V_putFA C hin ff_X4_43 dX4_init_57 (i := 0) hA rfl rfl rfl (Nat.le_of_ble_eq_true rfl) (fun M13 hA2 => ?_)
  have hA : At9 M M13 k [oX 3 [iv 0, iv 0, iv 0, iv 0, iv 0, .ref (z + (k + 1)), .ref (z + (k + 2)), .ref (z + (k + 4))], aQ (cy 3) 10 (fun _ => none), oX 1 [.ref (z + (k + 2 + 1)), iv 0], aI cy 6 (fun _ => 0), oX 0 [iv 100, iv 20, iv 50, iv 300]] := hA2
  clear hA2
  have hA1 := hA.1
  simp only [List.length] at hA1
  refine V_iconst C dX4_init_60 ?_
  refine V_istore_n C dX4_init_61 (by decide) ?_
  have loop : ∀ (n : Nat) (i : Nat) (g : Nat → Option Nat) (M9 : Mm), (i ≤ 10) → (M9.1 = k + 5 + 6 * i) → (M9.2 k = oX 3 [iv 0, iv 0, iv 0, iv 0, iv 0, .ref (z + (k + 1)), .ref (z + (k + 2)), .ref (z + (k + 4))]) → (M9.2 (k + 1) = aQ (cy 3) 10 g) → (M9.2 (k + 2) = oX 1 [.ref (z + (k + 2 + 1)), iv 0]) → (M9.2 (k + 3) = aI cy 6 (fun _ => 0)) → (M9.2 (k + 4) = oX 0 [iv 100, iv 20, iv 50, iv 300]) → (∀ j, j < i → g j = some (z + (k + 5 + 6 * j))) → (∀ j, j < i → RightAt cy z M9 (k + 5 + 6 * j) (fun _ => 0) (fun _ _ => 0)) → (∀ j, j < k → M9.2 j = M.2 j) → 10 - i < n → V p l e { frames := 2, cells := 64, slots := 1032, locals := 40 } s m args below meth c D z 2 (MQ below (qc_ D z K) args s 64 1032 (fun q => z ≤ q)) (4 + 6 * i) (22 + 101 * i) M9 62 [(0, .ref (z + k)), (1, iv (i : Int))] [] := by
    intro n
    induction n with
    | zero => intro i g M9 _ _ _ _ _ _ _ _ _ _ hfu; exact absurd hfu (Nat.not_lt_zero _)
    | succ n ih =>
      intro i g M9 h0 h1 h2 h3 h4 h5 h6 h7 h8 h9 hfu
      refine V_iload_n C dX4_init_62 rfl ?_
      refine V_aload_n C dX4_init_63 rfl ?_
      refine V_get C fg_X4_29 dX4_init_64 h2 (by omega) (by rfl) ?_
      refine V_alenQ (t := 3) C rfl dX4_init_67 h3 (by omega) ?_
      refine V_icmp_ge C dX4_init_68 (tgt := 90) (by decide) (by omega) (by omega) (fun g68 => ?_) (fun g68 => ?_)
      · have e10 : i = 10 := by omega
        subst e10
        refine V_cellQ (fun j => some (z + (k + 5 + 6 * j))) h3 h7 ?_
        have hs9 : Sm M9 (mset M9 (k + 1) (aQ (cy 3) 10 (fun j => some (z + (k + 5 + 6 * j))))) (fun j => j = k + 1) := Sm.set rfl
        refine V_vret C hr dX4_init_90 (hK _ (by rw [mset_1]; omega) ⟨by rw [mset_1]; omega, (mset_ne (by omega)).trans h2, mset_self _ _ _, (mset_ne (by omega)).trans h4, (mset_ne (by omega)).trans h5, (mset_ne (by omega)).trans h6, fun j hj => (h8 j hj).keep hs9 (fun q q1 q2 o => by omega)⟩ (fun j hj => (mset_ne (by omega)).trans (h9 j hj)))
      · refine V_aload_n C dX4_init_71 rfl ?_
        refine V_get C fg_X4_29 dX4_init_72 h2 (by omega) (by rfl) ?_
        refine V_iload_n C dX4_init_75 rfl ?_
        refine V_new (ci := 2) (fs := [iv 0, iv 0, iv 0, iv 0, iv 0, iv 0, .null, .null, .null, .null, .null]) C tyX3 in_X3 tyX3_ok w_32 w_74 w_5 rfl (fun j hj => by rcases (show j = 0 ∨ j = 1 ∨ j = 2 ∨ j = 3 ∨ j = 4 ∨ j = 5 ∨ j = 6 ∨ j = 7 ∨ j = 8 ∨ j = 9 ∨ j = 10 by omega) with rfl | rfl | rfl | rfl | rfl | rfl | rfl | rfl | rfl | rfl | rfl <;> rfl) dX4_init_76 (k9 := k + 5 + 6 * i) h1 (by omega) ⟨by show _ + 1 ≤ 64; omega, by show _ + 11 ≤ 1032; omega⟩ (fun M1 em => ?_)
        have f1 : M1.1 = k + 5 + 6 * i + 1 := by rw [em, mpush_1, h1]
        have f2 : M1.2 (k + 5 + 6 * i) = oX 2 [iv 0, iv 0, iv 0, iv 0, iv 0, iv 0, .null, .null, .null, .null, .null] := by rw [em, ← h1]; exact mpush_self _ _
        have f3 : ∀ j, j < k + 5 + 6 * i → M1.2 j = M9.2 j := fun j hj => by rw [em]; exact mpush_ne (by omega)
        clear em
        refine V_dup C dX4_init_79 rfl ?_
        refine V_callI (k := k + 5 + 6 * i) (fr := 1) (lo := 20) (mc := 5) (ms := 90) (As := []) C yiX3_init (Or.inr ⟨"FeeDocket", List.mem_of_getElem? (i := 9) rfl⟩) dX4_init_80 rfl rfl (Nat.le_of_ble_eq_true rfl) ⟨Nat.le_of_ble_eq_true rfl, Nat.le_of_ble_eq_true rfl⟩ ⟨by show _ + 5 ≤ 64; omega, by show _ + 90 ≤ 1032; omega⟩ (by omega) ?_
        refine ok_X3_init (k := k + 5 + 6 * i) f1 f2 (fun M2 hB => ?_)
        have b1 := hB.1
        simp only [List.length] at b1
        have b3 : ∀ j, j < k + 5 + 6 * i → M2.2 j = M9.2 j := fun j hj => (hB.2.2 j hj).trans (f3 j hj)
        have bR : RightAt cy z M2 (k + 5 + 6 * i) (fun _ => 0) (fun _ _ => 0) := ⟨by omega, hB.2.1 0 _ rfl, hB.2.1 1 _ rfl, hB.2.1 2 _ rfl, hB.2.1 3 _ rfl, hB.2.1 4 _ rfl, hB.2.1 5 _ rfl⟩
        refine V_aastore (t := 3) (ci := 2) C rfl rfl dX4_init_83 ((b3 _ (by omega)).trans h3) (by omega) (by omega) (by omega) (hB.2.1 0 _ rfl) (by omega) ?_
        refine V_memgen (fun M3 em => ?_)
        have c1 : M3.1 = k + 5 + 6 * (i + 1) := by rw [em, mset_1]; omega
        have c3 : ∀ j, j ≠ k + 1 → M3.2 j = M2.2 j := fun j hj => by rw [em]; exact mset_ne hj
        have c4 : M3.2 (k + 1) = aQ (cy 3) 10 (va_up g ((i : Int)).toNat (some (z + (k + 5 + 6 * i)))) := by rw [em]; exact mset_self _ _ _
        rw [show ((i : Int)).toNat = i by omega] at c4
        have cs : Sm M2 M3 (fun j => j = k + 1) := by rw [em]; exact Sm.set rfl
        clear em
        refine V_iinc C dX4_init_84 rfl (by decide) ?_
        refine V_goto C dX4_init_87 (tgt := 62) (by decide) ?_
        refine V_widen (k := 4 + 6 * (i + 1)) (n := 22 + 101 * (i + 1)) (by omega) (by omega) ?_
        refine V_lv [(0, .ref (z + k)), (1, iv ((i + 1 : Nat) : Int))] (List.forall_mem_cons.mpr ⟨(by first | rfl | exact congrArg (fun t => some (iv t)) (by push_cast; omega)), (List.forall_mem_cons.mpr ⟨(by first | rfl | exact congrArg (fun t => some (iv t)) (by push_cast; omega)), (fun _ h => nomatch h)⟩)⟩) ?_
        refine ih (i + 1) _ M3 (by omega) c1 ((c3 _ (by omega)).trans ((b3 _ (by omega)).trans h2)) c4 ((c3 _ (by omega)).trans ((b3 _ (by omega)).trans h4)) ((c3 _ (by omega)).trans ((b3 _ (by omega)).trans h5)) ((c3 _ (by omega)).trans ((b3 _ (by omega)).trans h6)) (fun j hj => ?_) (fun j hj => ?_) (fun j hj => (c3 _ (by omega)).trans ((b3 _ (by omega)).trans (h9 j hj))) (by omega)
        · rcases Nat.decEq j i with o | o
          · rw [up_n o]; exact h7 j (by omega)
          · rw [o, up_s]
        · rcases Nat.decEq j i with o | o
          · exact ((h8 j (by omega)).gr (by omega) (fun q q1 q2 => b3 q (by omega))).keep cs (fun q q1 q2 w => by omega)
          · rw [o]; exact bR.keep cs (fun q q1 q2 w => by omega)
  refine V_lv [(0, .ref (z + k)), (1, iv ((0 : Nat) : Int))] (List.forall_mem_cons.mpr ⟨(by first | rfl | exact congrArg (fun t => some (iv t)) (by omega)), (List.forall_mem_cons.mpr ⟨(by first | rfl | exact congrArg (fun t => some (iv t)) (by omega)), (fun _ h => nomatch h)⟩)⟩) ?_
  exact loop 11 0 (fun _ => none) _ (by omega) hA1 (hA.2.1 0 _ rfl) (hA.2.1 1 _ rfl) (hA.2.1 2 _ rfl) (hA.2.1 3 _ rfl) (hA.2.1 4 _ rfl) (fun j hj => absurd hj (by omega)) (fun j hj => absurd hj (by omega)) hA.2.2 (by omega)

