/-! the docket (X6), walked -/
theorem sdY_t {F : Nat → Int} {a : Nat → Nat → Int} {n : Nat} (h : 0 < a 3 (n + 1)) : sdY F a (n + 1) = ((sdY F a n).1 + (if 0 < a 0 (n + 1) + 1 - (sdY F a n).2 then a 0 (n + 1) + 1 - (sdY F a n).2 else 0), a 3 (n + 1)) := by rw [sdY, if_pos h]
theorem sdY_f {F : Nat → Int} {a : Nat → Nat → Int} {n : Nat} (h : ¬ 0 < a 3 (n + 1)) : sdY F a (n + 1) = sdY F a n := by rw [sdY, if_neg h]
theorem Cx_s1 {p : Program} {l : Launch} {s : State} {m : MethodId} {args : Array Value} {meth : Method} {c : Code} {D : va_G} {cy : Nat → ClassId} {z nL : Nat} {cc : ByteArray} {own : String} (C : Cx p l s m args meth c D cy z nL cc own) : ∃ sa, vk_R RX6 213 "an argument is out of range" sa s := C.2.2.2.2.2.1.2.2.2.2.2.2.2.1
theorem Cx_s2 {p : Program} {l : Launch} {s : State} {m : MethodId} {args : Array Value} {meth : Method} {c : Code} {D : va_G} {cy : Nat → ClassId} {z nL : Nat} {cc : ByteArray} {own : String} (C : Cx p l s m args meth c D cy z nL cc own) : ∃ sa, vk_R RX6 220 "the docket does not allow this call now" sa s := C.2.2.2.2.2.1.2.2.2.2.2.2.2.2.1
theorem Cx_s3 {p : Program} {l : Launch} {s : State} {m : MethodId} {args : Array Value} {meth : Method} {c : Code} {D : va_G} {cy : Nat → ClassId} {z nL : Nat} {cc : ByteArray} {own : String} (C : Cx p l s m args meth c D cy z nL cc own) : ∃ sa, vk_R RX6 225 "there is no such right" sa s := C.2.2.2.2.2.1.2.2.2.2.2.2.2.2.2
abbrev eA : String := "java/lang/IllegalArgumentException"
abbrev eS : String := "java/lang/IllegalStateException"
abbrev eI : String := "java/lang/IndexOutOfBoundsException"
def eN : List String := ["java/lang/RuntimeException", "java/lang/Exception"]
theorem eN_fit : ∀ n ∈ eN, Bundle.fit n = true := by decide +kernel
theorem eA_fit : Bundle.fit eA = true := by decide +kernel
theorem eS_fit : Bundle.fit eS = true := by decide +kernel
theorem eI_fit : Bundle.fit eI = true := by decide +kernel
theorem eA_at : ∀ w ∈ vx_atS RX6 215 eA eN, w ∈ lw_all ∨ w ∈ nw_all := by decide +kernel
theorem eS_at : ∀ w ∈ vx_atS RX6 222 eS eN, w ∈ lw_all ∨ w ∈ nw_all := by decide +kernel
theorem eI_at : ∀ w ∈ vx_atS RX6 227 eI eN, w ∈ lw_all ∨ w ∈ nw_all := by decide +kernel
theorem eA_good : ∀ w ∈ Cond.classLink RX6 211 eA :: Cond.initialized eA :: vx_atS RX6 215 eA eN, vx_ot w = true := by decide +kernel
theorem eS_good : ∀ w ∈ Cond.classLink RX6 218 eS :: Cond.initialized eS :: vx_atS RX6 222 eS eN, vx_ot w = true := by decide +kernel
theorem eI_good : ∀ w ∈ Cond.classLink RX6 223 eI :: Cond.initialized eI :: vx_atS RX6 227 eI eN, vx_ot w = true := by decide +kernel
theorem V_throw_eA {p : Program} {l : Launch} {e : Env} {R : Room} {s : State} {m : MethodId} {args : Array Value} {below : List Frame} {meth : Method} {c : Code} {D : va_G} {cy : Nat → ClassId} {z nL : Nat} {cc : ByteArray} {cells slots mc ms : Nat} {M : Mm} {pc : Nat} {lv : List (Nat × Value)} {st : List Value} {K : Option Value → Mm → Prop} {KX : String → Prop} (C : Cx p l s m args meth c D cy z nL cc RX6) (hlt : l.stackTraces = false) (hxt : ∀ x ∈ c.exceptionTable.toList, False) (hstr : True) (d0 : decode cc pc = .ok (.new 211, 3)) (d3 : decode cc (pc + 3) = .ok (.dup, 1)) (d4 : decode cc (pc + 4) = .ok (.ldc 213, 2)) (d6 : decode cc (pc + 6) = .ok (.invokespecial 215, 3)) (d9 : decode cc (pc + 9) = .ok (.athrow, 1)) (hR : 5 < R.frames ∧ (st.map fun v => v.category).sum + 82 ≤ R.locals) (hf : cells + 1 ≤ R.cells ∧ slots + 6 ≤ R.slots) (hcs : cells + 1 ≤ mc ∧ slots + 6 ≤ ms) (hKX : KX eA) :
    V p l e R s m args below meth c D z nL (vx_MQ below (qc_ D z K) (xc_ D z M KX) args s mc ms (fun q => z ≤ q)) cells slots M pc lv st :=
  V_throw (names := eN) C hlt hxt eA_fit eN_fit w_457 w_11 (Cx_s1 C) eA_at eA_good d0 d3 d4 d6 d9 hR hf hcs hKX
theorem V_throw_eS {p : Program} {l : Launch} {e : Env} {R : Room} {s : State} {m : MethodId} {args : Array Value} {below : List Frame} {meth : Method} {c : Code} {D : va_G} {cy : Nat → ClassId} {z nL : Nat} {cc : ByteArray} {cells slots mc ms : Nat} {M : Mm} {pc : Nat} {lv : List (Nat × Value)} {st : List Value} {K : Option Value → Mm → Prop} {KX : String → Prop} (C : Cx p l s m args meth c D cy z nL cc RX6) (hlt : l.stackTraces = false) (hxt : ∀ x ∈ c.exceptionTable.toList, False) (hstr : True) (d0 : decode cc pc = .ok (.new 218, 3)) (d3 : decode cc (pc + 3) = .ok (.dup, 1)) (d4 : decode cc (pc + 4) = .ok (.ldc 220, 2)) (d6 : decode cc (pc + 6) = .ok (.invokespecial 222, 3)) (d9 : decode cc (pc + 9) = .ok (.athrow, 1)) (hR : 5 < R.frames ∧ (st.map fun v => v.category).sum + 82 ≤ R.locals) (hf : cells + 1 ≤ R.cells ∧ slots + 6 ≤ R.slots) (hcs : cells + 1 ≤ mc ∧ slots + 6 ≤ ms) (hKX : KX eS) :
    V p l e R s m args below meth c D z nL (vx_MQ below (qc_ D z K) (xc_ D z M KX) args s mc ms (fun q => z ≤ q)) cells slots M pc lv st :=
  V_throw (names := eN) C hlt hxt eS_fit eN_fit w_564 w_14 (Cx_s2 C) eS_at eS_good d0 d3 d4 d6 d9 hR hf hcs hKX
theorem V_throw_eI {p : Program} {l : Launch} {e : Env} {R : Room} {s : State} {m : MethodId} {args : Array Value} {below : List Frame} {meth : Method} {c : Code} {D : va_G} {cy : Nat → ClassId} {z nL : Nat} {cc : ByteArray} {cells slots mc ms : Nat} {M : Mm} {pc : Nat} {lv : List (Nat × Value)} {st : List Value} {K : Option Value → Mm → Prop} {KX : String → Prop} (C : Cx p l s m args meth c D cy z nL cc RX6) (hlt : l.stackTraces = false) (hxt : ∀ x ∈ c.exceptionTable.toList, False) (hstr : True) (d0 : decode cc pc = .ok (.new 223, 3)) (d3 : decode cc (pc + 3) = .ok (.dup, 1)) (d4 : decode cc (pc + 4) = .ok (.ldc 225, 2)) (d6 : decode cc (pc + 6) = .ok (.invokespecial 227, 3)) (d9 : decode cc (pc + 9) = .ok (.athrow, 1)) (hR : 5 < R.frames ∧ (st.map fun v => v.category).sum + 82 ≤ R.locals) (hf : cells + 1 ≤ R.cells ∧ slots + 6 ≤ R.slots) (hcs : cells + 1 ≤ mc ∧ slots + 6 ≤ ms) (hKX : KX eI) :
    V p l e R s m args below meth c D z nL (vx_MQ below (qc_ D z K) (xc_ D z M KX) args s mc ms (fun q => z ≤ q)) cells slots M pc lv st :=
  V_throw (names := eN) C hlt hxt eI_fit eN_fit w_619 w_17 (Cx_s3 C) eI_at eI_good d0 d3 d4 d6 d9 hR hf hcs hKX
set_option maxHeartbeats 800000 in
set_option maxRecDepth 4000 in
theorem ok_X3_daysStood {l : Launch} {D : va_G} {cy : Nat → ClassId} {z : Nat} {M : Mm} {K : Option Value → Mm → Prop} {r : Nat} {F : Nat → Int} {a : Nat → Nat → Int} (hR : RightAt cy z M r F a) (hB : RB F a) {t : Int} (ht : 0 ≤ t ∧ t ≤ 40000) (hK : K (some (iv (dS F a t))) M) :
    MT l D cy z false yX3_daysStood (wsy yX3_daysStood cX3_daysStood 5 (some .int)) 2 43 0 0 M [.ref (z + r), iv t] K := by
  refine MT_of (by decide) w_772 (Nat.le_of_ble_eq_true rfl) ?_
  intro p e s m args below meth c C hr hx0
  have hR9 := hR
  have hB9 := hB
  obtain ⟨hn, m0, m1, m2, m3, m4, m5⟩ := hR
  obtain ⟨b0, b1, b2, b3, b4⟩ := hB
  have y0 : ∀ y, -1 ≤ yv (a 0) (-1) y ∧ yv (a 0) (-1) y ≤ 40000 := fun y => yv_rng (b4 0) (by omega)
  have y1 : ∀ y, -1 ≤ yv (a 1) (-1) y ∧ yv (a 1) (-1) y ≤ 40000 := fun y => yv_rng (b4 1) (by omega)
  have y2 : ∀ y, -1 ≤ yv (a 2) 0 y ∧ yv (a 2) 0 y ≤ 40000 := fun y => yv_rng (b4 2) (by omega)
  have y3 : ∀ y, -1 ≤ yv (a 3) 0 y ∧ yv (a 3) 0 y ≤ 40000 := fun y => yv_rng (b4 3) (by omega)
  have hx : nxt F = if F 3 < 19 then F 3 + 1 else -1 := rfl
  have loop : ∀ (n : Nat) (n9 : Nat), ((n9 : Int) ≤ F 3) → 20 - n9 < n → V p l e { frames := 2, cells := 0, slots := 0, locals := 43 } s m args below meth c D z 5 (MQ below (qc_ D z K) args s 0 0 (fun q => z ≤ q)) 0 0 M 10 [(0, .ref (z + r)), (1, iv t), (2, iv (sdY F a (n9)).1), (3, iv (sdY F a (n9)).2), (4, iv (((n9 : Nat) : Int) + 1))] [] := by
    intro n
    induction n with
    | zero => intro n9 hi0 hfu; exact absurd hfu (Nat.not_lt_zero _)
    | succ n ih =>
      intro n9 hi0 hfu
      refine V_iload C dX3_daysStood_10 rfl ?_
      refine V_aload_n C dX3_daysStood_12 rfl ?_
      refine V_get C fg_X3_22 dX3_daysStood_13 (by repeat (first | with_reducible assumption | with_reducible exact mset_self _ _ _ | refine (mset_ne (by omega)).trans ?_)) (by (try simp only [mset_1]); omega) (by rfl) ?_
      refine V_icmp_gt C dX3_daysStood_16 (tgt := 65) (by decide) (by omega) (by omega) (fun g16 => ?_) (fun g16 => ?_)
      · have en : (F 3).toNat = n9 := by omega
        have qs := sdY_rng hB9 n9
        refine V_iload_n C dX3_daysStood_65 rfl ?_
        refine V_aload_n C dX3_daysStood_66 rfl ?_
        refine V_get C fg_X3_15 dX3_daysStood_67 (by repeat (first | with_reducible assumption | with_reducible exact mset_self _ _ _ | refine (mset_ne (by omega)).trans ?_)) (by (try simp only [mset_1]); omega) (by rfl) ?_
        refine V_min C w_768 w_358 w_13 w_359 dX3_daysStood_70 (by omega) (by omega) ⟨Nat.le_of_ble_eq_true rfl, Nat.le_of_ble_eq_true rfl⟩ ⟨Nat.le_of_ble_eq_true rfl, Nat.le_of_ble_eq_true rfl⟩ ?_
        refine V_istore C dX3_daysStood_73 (by decide) ?_
        refine V_aload_n C dX3_daysStood_75 rfl ?_
        refine V_iload_n C dX3_daysStood_76 rfl ?_
        refine V_callV (fr := 1) (lo := 21) (mc := 0) (ms := 0) (As := [_]) C yvX3_isLapsed w_401 dX3_daysStood_77 rfl rfl (by repeat (first | with_reducible assumption | with_reducible exact mset_self _ _ _ | refine (mset_ne (by omega)).trans ?_)) (by (try simp only [mset_1]); omega) rfl rfl (Nat.le_of_ble_eq_true rfl) ⟨Nat.le_of_ble_eq_true rfl, Nat.le_of_ble_eq_true rfl⟩ ⟨Nat.le_of_ble_eq_true rfl, Nat.le_of_ble_eq_true rfl⟩ ?_
        refine ok_X3_isLapsed hR9 hB9 (by omega) (fun hl => ?_) (fun hl => ?_)
        · refine V_ifeq1 C dX3_daysStood_80 (tgt := 98) (by decide) ?_
          have e9 : nxt F = F 3 + 1 := nxt_lap hl.1
          have y0e := y0 (F 3 + 1)
          refine V_iload C dX3_daysStood_83 rfl ?_
          refine V_aload_n C dX3_daysStood_85 rfl ?_
          refine V_aload_n C dX3_daysStood_86 rfl ?_
          refine V_callV (fr := 0) (lo := 0) (mc := 0) (ms := 0) (As := []) C yvX3_nextYear w_249 dX3_daysStood_87 rfl rfl (by repeat (first | with_reducible assumption | with_reducible exact mset_self _ _ _ | refine (mset_ne (by omega)).trans ?_)) (by (try simp only [mset_1]); omega) rfl rfl (Nat.le_of_ble_eq_true rfl) ⟨Nat.le_of_ble_eq_true rfl, Nat.le_of_ble_eq_true rfl⟩ ⟨Nat.le_of_ble_eq_true rfl, Nat.le_of_ble_eq_true rfl⟩ ?_
          refine ok_X3_nextYear hR9 hB9 ?_
          refine V_callV (fr := 0) (lo := 0) (mc := 0) (ms := 0) (As := [_]) C yvX3_dueOf w_402 dX3_daysStood_90 rfl rfl (by repeat (first | with_reducible assumption | with_reducible exact mset_self _ _ _ | refine (mset_ne (by omega)).trans ?_)) (by (try simp only [mset_1]); omega) rfl rfl (Nat.le_of_ble_eq_true rfl) ⟨Nat.le_of_ble_eq_true rfl, Nat.le_of_ble_eq_true rfl⟩ ⟨Nat.le_of_ble_eq_true rfl, Nat.le_of_ble_eq_true rfl⟩ ?_
          refine ok_X3_dueOf hR9 hB9 (by omega) ?_
          rw [e9]
          refine V_min C w_768 w_358 w_13 w_359 dX3_daysStood_93 (by omega) (by omega) ⟨Nat.le_of_ble_eq_true rfl, Nat.le_of_ble_eq_true rfl⟩ ⟨Nat.le_of_ble_eq_true rfl, Nat.le_of_ble_eq_true rfl⟩ ?_
          refine V_istore C dX3_daysStood_96 (by decide) ?_
          refine V_iload_n C dX3_daysStood_98 rfl ?_
          refine V_iconst C dX3_daysStood_99 ?_
          refine V_iload C dX3_daysStood_100 rfl ?_
          refine V_iconst C dX3_daysStood_102 ?_
          refine V_iadd C dX3_daysStood_103 ?_
          refine V_iload_n C dX3_daysStood_104 rfl ?_
          refine V_isub C dX3_daysStood_105 ?_
          refine V_max C w_773 w_378 w_13 w_379 dX3_daysStood_106 (by omega) (by omega) ⟨Nat.le_of_ble_eq_true rfl, Nat.le_of_ble_eq_true rfl⟩ ⟨Nat.le_of_ble_eq_true rfl, Nat.le_of_ble_eq_true rfl⟩ ?_
          refine V_iadd C dX3_daysStood_109 ?_
          exact V_iret C hr dX3_daysStood_110 (K_of hK (by unfold dS; rw [en, if_pos (show F 3 < 19 ∧ yv (a 1) (-1) (F 3 + 1) < t from hl)]))
        · refine V_ifeq0 C dX3_daysStood_80 (tgt := 98) (by decide) ?_
          refine V_iload_n C dX3_daysStood_98 rfl ?_
          refine V_iconst C dX3_daysStood_99 ?_
          refine V_iload C dX3_daysStood_100 rfl ?_
          refine V_iconst C dX3_daysStood_102 ?_
          refine V_iadd C dX3_daysStood_103 ?_
          refine V_iload_n C dX3_daysStood_104 rfl ?_
          refine V_isub C dX3_daysStood_105 ?_
          refine V_max C w_773 w_378 w_13 w_379 dX3_daysStood_106 (by omega) (by omega) ⟨Nat.le_of_ble_eq_true rfl, Nat.le_of_ble_eq_true rfl⟩ ⟨Nat.le_of_ble_eq_true rfl, Nat.le_of_ble_eq_true rfl⟩ ?_
          refine V_iadd C dX3_daysStood_109 ?_
          exact V_iret C hr dX3_daysStood_110 (K_of hK (by unfold dS; rw [en, if_neg (show ¬ (F 3 < 19 ∧ yv (a 1) (-1) (F 3 + 1) < t) from hl)]))
      · have q0 := b4 0 (n9 + 1)
        have q3 := b4 3 (n9 + 1)
        have qs := sdY_rng hB9 n9
        refine V_iload C dX3_daysStood_19 rfl ?_
        refine V_bipush C dX3_daysStood_21 (by decide) ?_
        refine V_icmp_gt C dX3_daysStood_23 (tgt := 65) (by decide) (by omega) (by omega) (fun g23 => ?_) (fun g23 => ?_)
        · exact absurd g23 (by omega)
        · refine V_aload_n C dX3_daysStood_26 rfl ?_
          refine V_iload C dX3_daysStood_27 rfl ?_
          refine V_callV (fr := 0) (lo := 0) (mc := 0) (ms := 0) (As := [_]) C yvX3_revivalOf w_407 dX3_daysStood_29 rfl rfl (by repeat (first | with_reducible assumption | with_reducible exact mset_self _ _ _ | refine (mset_ne (by omega)).trans ?_)) (by (try simp only [mset_1]); omega) rfl rfl (Nat.le_of_ble_eq_true rfl) ⟨Nat.le_of_ble_eq_true rfl, Nat.le_of_ble_eq_true rfl⟩ ⟨Nat.le_of_ble_eq_true rfl, Nat.le_of_ble_eq_true rfl⟩ ?_
          refine ok_X3_revivalOf hR9 hB9 (by omega) ?_
          rw [yv_nat (by omega)]
          refine V_if_le C dX3_daysStood_32 (tgt := 59) (by decide) (by omega) (fun g32 => ?_) (fun g32 => ?_)
          · refine V_iinc C dX3_daysStood_59 rfl (by decide) ?_
            refine V_goto C dX3_daysStood_62 (tgt := 10) (by decide) ?_
            refine V_lv [(0, .ref (z + r)), (1, iv t), (2, iv (sdY F a (n9 + 1)).1), (3, iv (sdY F a (n9 + 1)).2), (4, iv (((n9 + 1 : Nat) : Int) + 1))] (List.forall_mem_cons.mpr ⟨(by first | rfl | exact congrArg (fun t => some (iv t)) (by rw [sdY_f (F := F) (a := a) (n := n9) (by omega)]) | exact congrArg (fun t => some (iv t)) (by push_cast; omega)), (List.forall_mem_cons.mpr ⟨(by first | rfl | exact congrArg (fun t => some (iv t)) (by rw [sdY_f (F := F) (a := a) (n := n9) (by omega)]) | exact congrArg (fun t => some (iv t)) (by push_cast; omega)), (List.forall_mem_cons.mpr ⟨(by first | rfl | exact congrArg (fun t => some (iv t)) (by rw [sdY_f (F := F) (a := a) (n := n9) (by omega)]) | exact congrArg (fun t => some (iv t)) (by push_cast; omega)), (List.forall_mem_cons.mpr ⟨(by first | rfl | exact congrArg (fun t => some (iv t)) (by rw [sdY_f (F := F) (a := a) (n := n9) (by omega)]) | exact congrArg (fun t => some (iv t)) (by push_cast; omega)), (List.forall_mem_cons.mpr ⟨(by first | rfl | exact congrArg (fun t => some (iv t)) (by rw [sdY_f (F := F) (a := a) (n := n9) (by omega)]) | exact congrArg (fun t => some (iv t)) (by push_cast; omega)), (fun _ h => nomatch h)⟩)⟩)⟩)⟩)⟩) ?_
            exact ih (n9 + 1) (by omega) (by omega)
          · refine V_iload_n C dX3_daysStood_35 rfl ?_
            refine V_iconst C dX3_daysStood_36 ?_
            refine V_aload_n C dX3_daysStood_37 rfl ?_
            refine V_iload C dX3_daysStood_38 rfl ?_
            refine V_callV (fr := 0) (lo := 0) (mc := 0) (ms := 0) (As := [_]) C yvX3_dueOf w_402 dX3_daysStood_40 rfl rfl (by repeat (first | with_reducible assumption | with_reducible exact mset_self _ _ _ | refine (mset_ne (by omega)).trans ?_)) (by (try simp only [mset_1]); omega) rfl rfl (Nat.le_of_ble_eq_true rfl) ⟨Nat.le_of_ble_eq_true rfl, Nat.le_of_ble_eq_true rfl⟩ ⟨Nat.le_of_ble_eq_true rfl, Nat.le_of_ble_eq_true rfl⟩ ?_
            refine ok_X3_dueOf hR9 hB9 (by omega) ?_
            rw [yv_nat (by omega)]
            refine V_iconst C dX3_daysStood_43 ?_
            refine V_iadd C dX3_daysStood_44 ?_
            refine V_iload_n C dX3_daysStood_45 rfl ?_
            refine V_isub C dX3_daysStood_46 ?_
            refine V_max C w_773 w_378 w_13 w_379 dX3_daysStood_47 (by omega) (by omega) ⟨Nat.le_of_ble_eq_true rfl, Nat.le_of_ble_eq_true rfl⟩ ⟨Nat.le_of_ble_eq_true rfl, Nat.le_of_ble_eq_true rfl⟩ ?_
            refine V_iadd C dX3_daysStood_50 ?_
            refine V_istore_n C dX3_daysStood_51 (by decide) ?_
            refine V_aload_n C dX3_daysStood_52 rfl ?_
            refine V_iload C dX3_daysStood_53 rfl ?_
            refine V_callV (fr := 0) (lo := 0) (mc := 0) (ms := 0) (As := [_]) C yvX3_revivalOf w_407 dX3_daysStood_55 rfl rfl (by repeat (first | with_reducible assumption | with_reducible exact mset_self _ _ _ | refine (mset_ne (by omega)).trans ?_)) (by (try simp only [mset_1]); omega) rfl rfl (Nat.le_of_ble_eq_true rfl) ⟨Nat.le_of_ble_eq_true rfl, Nat.le_of_ble_eq_true rfl⟩ ⟨Nat.le_of_ble_eq_true rfl, Nat.le_of_ble_eq_true rfl⟩ ?_
            refine ok_X3_revivalOf hR9 hB9 (by omega) ?_
            rw [yv_nat (by omega)]
            refine V_istore_n C dX3_daysStood_58 (by decide) ?_
            refine V_iinc C dX3_daysStood_59 rfl (by decide) ?_
            refine V_goto C dX3_daysStood_62 (tgt := 10) (by decide) ?_
            refine V_lv [(0, .ref (z + r)), (1, iv t), (2, iv (sdY F a (n9 + 1)).1), (3, iv (sdY F a (n9 + 1)).2), (4, iv (((n9 + 1 : Nat) : Int) + 1))] (List.forall_mem_cons.mpr ⟨(by first | rfl | exact congrArg (fun t => some (iv t)) (by rw [sdY_t (F := F) (a := a) (n := n9) (by omega)]) | exact congrArg (fun t => some (iv t)) (by push_cast; omega)), (List.forall_mem_cons.mpr ⟨(by first | rfl | exact congrArg (fun t => some (iv t)) (by rw [sdY_t (F := F) (a := a) (n := n9) (by omega)]) | exact congrArg (fun t => some (iv t)) (by push_cast; omega)), (List.forall_mem_cons.mpr ⟨(by first | rfl | exact congrArg (fun t => some (iv t)) (by rw [sdY_t (F := F) (a := a) (n := n9) (by omega)]) | exact congrArg (fun t => some (iv t)) (by push_cast; omega)), (List.forall_mem_cons.mpr ⟨(by first | rfl | exact congrArg (fun t => some (iv t)) (by rw [sdY_t (F := F) (a := a) (n := n9) (by omega)]) | exact congrArg (fun t => some (iv t)) (by push_cast; omega)), (List.forall_mem_cons.mpr ⟨(by first | rfl | exact congrArg (fun t => some (iv t)) (by rw [sdY_t (F := F) (a := a) (n := n9) (by omega)]) | exact congrArg (fun t => some (iv t)) (by push_cast; omega)), (fun _ h => nomatch h)⟩)⟩)⟩)⟩)⟩) ?_
            exact ih (n9 + 1) (by omega) (by omega)
  refine V_iconst C dX3_daysStood_0 ?_
  refine V_istore_n C dX3_daysStood_1 (by decide) ?_
  refine V_aload_n C dX3_daysStood_2 rfl ?_
  refine V_get C fg_X3_9 dX3_daysStood_3 (by repeat (first | with_reducible assumption | with_reducible exact mset_self _ _ _ | refine (mset_ne (by omega)).trans ?_)) (by (try simp only [mset_1]); omega) (by rfl) ?_
  refine V_istore_n C dX3_daysStood_6 (by decide) ?_
  refine V_iconst C dX3_daysStood_7 ?_
  refine V_istore C dX3_daysStood_8 (by decide) ?_
  refine V_lv [(0, .ref (z + r)), (1, iv t), (2, iv (sdY F a (0)).1), (3, iv (sdY F a (0)).2), (4, iv (((0 : Nat) : Int) + 1))] (List.forall_mem_cons.mpr ⟨(by first | rfl | exact congrArg (fun t => some (iv t)) (by push_cast; omega)), (List.forall_mem_cons.mpr ⟨(by first | rfl | exact congrArg (fun t => some (iv t)) (by push_cast; omega)), (List.forall_mem_cons.mpr ⟨(by first | rfl | exact congrArg (fun t => some (iv t)) (by push_cast; omega)), (List.forall_mem_cons.mpr ⟨(by first | rfl | exact congrArg (fun t => some (iv t)) (by push_cast; omega)), (List.forall_mem_cons.mpr ⟨(by first | rfl | exact congrArg (fun t => some (iv t)) (by push_cast; omega)), (fun _ h => nomatch h)⟩)⟩)⟩)⟩)⟩) ?_
  exact loop 21 0 (by omega) (by omega)

set_option maxHeartbeats 400000 in
set_option maxRecDepth 4000 in
theorem ok_X6_isWithin {l : Launch} {D : va_G} {cy : Nat → ClassId} {z : Nat} {M : Mm} {K : Option Value → Mm → Prop} {v a b : Int} (hv : -2147483648 ≤ v ∧ v < 2147483648) (ha : -2147483648 ≤ a ∧ a < 2147483648) (hb : -2147483648 ≤ b ∧ b < 2147483648) (hT : a ≤ v ∧ v ≤ b → K (some (iv 1)) M) (hF : ¬ (a ≤ v ∧ v ≤ b) → K (some (iv 0)) M) :
    MT l D cy z false yX6_isWithin (wsy yX6_isWithin cX6_isWithin 3 (some .boolean)) 0 0 0 0 M [iv v, iv a, iv b] K := by
  refine MT_of (by decide) w_453 (Nat.le_of_ble_eq_true rfl) ?_
  intro p e s m args below meth c C hr hx0
  refine V_iload_n C dX6_isWithin_0 rfl ?_
  refine V_iload_n C dX6_isWithin_1 rfl ?_
  refine V_icmp_lt C dX6_isWithin_2 (tgt := 14) (by decide) (by omega) (by omega) (fun g2 => ?_) (fun g2 => ?_)
  · refine V_iconst C dX6_isWithin_14 ?_
    exact V_zret C hr (by omega) dX6_isWithin_15 (hF (fun o => by omega))
  · refine V_iload_n C dX6_isWithin_5 rfl ?_
    refine V_iload_n C dX6_isWithin_6 rfl ?_
    refine V_icmp_gt C dX6_isWithin_7 (tgt := 14) (by decide) (by omega) (by omega) (fun g7 => ?_) (fun g7 => ?_)
    · refine V_iconst C dX6_isWithin_14 ?_
      exact V_zret C hr (by omega) dX6_isWithin_15 (hF (fun o => by omega))
    · refine V_iconst C dX6_isWithin_10 ?_
      refine V_goto C dX6_isWithin_11 (tgt := 15) (by decide) ?_
      exact V_zret C hr (by omega) dX6_isWithin_15 (hT ⟨by omega, by omega⟩)

set_option maxHeartbeats 400000 in
set_option maxRecDepth 4000 in
theorem ok_X6_checkArgument {l : Launch} {D : va_G} {cy : Nat → ClassId} {z : Nat} {M : Mm} {K : Option Value → Mm → Prop} {KX : String → Prop} (hlt : l.stackTraces = false) {b : Int} (hT : b = 1 → K none M) (hX : b = 0 → KX eA) (hb : b = 0 ∨ b = 1 := by decide) :
    MX l D cy z false yX6_checkArgument (wsy yX6_checkArgument cX6_checkArgument 1 none) 6 90 1 6 M [iv b] K KX := by
  refine MX_of (by decide) w_456 (Nat.le_of_ble_eq_true rfl) ?_
  intro p e s m args below meth c C hr hxt
  refine V_iload_n C dX6_checkArgument_0 rfl ?_
  refine V_if_ne C dX6_checkArgument_1 (tgt := 14) (by decide) (by omega) (fun g1 => ?_) (fun g1 => ?_)
  · refine V_ret ?_
    refine V_widen (k := 1) (n := 6) (by omega) (by omega) ?_
    exact V_vret C hr dX6_checkArgument_14 (hT (by omega))
  · exact V_throw_eA C hlt hxt trivial dX6_checkArgument_4 dX6_checkArgument_7 dX6_checkArgument_8 dX6_checkArgument_10 dX6_checkArgument_13 ⟨Nat.le_of_ble_eq_true rfl, Nat.le_of_ble_eq_true rfl⟩ ⟨Nat.le_of_ble_eq_true rfl, Nat.le_of_ble_eq_true rfl⟩ ⟨by omega, by omega⟩ (hX (by omega))

set_option maxHeartbeats 400000 in
set_option maxRecDepth 4000 in
theorem ok_X6_checkState {l : Launch} {D : va_G} {cy : Nat → ClassId} {z : Nat} {M : Mm} {K : Option Value → Mm → Prop} {KX : String → Prop} (hlt : l.stackTraces = false) {b : Int} (hT : b = 1 → K none M) (hX : b = 0 → KX eS) (hb : b = 0 ∨ b = 1 := by decide) :
    MX l D cy z false yX6_checkState (wsy yX6_checkState cX6_checkState 1 none) 6 90 1 6 M [iv b] K KX := by
  refine MX_of (by decide) w_563 (Nat.le_of_ble_eq_true rfl) ?_
  intro p e s m args below meth c C hr hxt
  refine V_iload_n C dX6_checkState_0 rfl ?_
  refine V_if_ne C dX6_checkState_1 (tgt := 14) (by decide) (by omega) (fun g1 => ?_) (fun g1 => ?_)
  · refine V_ret ?_
    refine V_widen (k := 1) (n := 6) (by omega) (by omega) ?_
    exact V_vret C hr dX6_checkState_14 (hT (by omega))
  · exact V_throw_eS C hlt hxt trivial dX6_checkState_4 dX6_checkState_7 dX6_checkState_8 dX6_checkState_10 dX6_checkState_13 ⟨Nat.le_of_ble_eq_true rfl, Nat.le_of_ble_eq_true rfl⟩ ⟨Nat.le_of_ble_eq_true rfl, Nat.le_of_ble_eq_true rfl⟩ ⟨by omega, by omega⟩ (hX (by omega))

/-- now, how many are saved, the saved states and where they lie; the text -/
abbrev DD : Type := SD × Nat × (Nat → SD) × (Nat → Nat) × (Nat → Int) × (Nat → Int) × (Nat → Int) × (Nat → Int)
abbrev xS (x : DD) : SD := x.1
abbrev xC (x : DD) : Nat := x.2.1
abbrev xV (x : DD) : Nat → SD := x.2.2.1
abbrev xA (x : DD) : Nat → Nat := x.2.2.2.1
abbrev xT (x : DD) : Nat → Int := x.2.2.2.2.1
abbrev xB (x : DD) : Nat → Int := x.2.2.2.2.2.1
abbrev xF (x : DD) : Nat → Int := x.2.2.2.2.2.2.1
abbrev xM (x : DD) : Nat → Int := x.2.2.2.2.2.2.2
def DockAt (cy : Nat → ClassId) (z : Nat) (M : Mm) (x : DD) : Prop := 331 ≤ M.1 ∧ M.2 0 = oX 5 [.ref (z + 1), .ref (z + 66), iv (xC x : Int), .ref (z + 67)] ∧ M.2 66 = aQ (cy 4) 4 (fun j => some (z + xA x j)) ∧ TextAt cy z M 67 (xT x) (xB x) (xF x) (xM x) ∧ StateAt cy z M 1 (xS x) ∧
  (∀ k, k < 4 → 71 ≤ xA x k ∧ xA x k + 65 ≤ 331 ∧ StateAt cy z M (xA x k) (xV x k)) ∧ ∀ j k, j < 4 → k < 4 → j ≠ k → xA x j + 65 ≤ xA x k ∨ xA x k + 65 ≤ xA x j
def DI (x : DD) : Prop := SB (xS x) ∧ xC x ≤ 4 ∧ (∀ k, SB (xV x k)) ∧ (0 ≤ xT x 0 ∧ xT x 0 ≤ 100) ∧ ∀ j, 0 ≤ xB x j ∧ xB x j ≤ 127
def setNow (x : DD) (S : SD) : DD := (S, x.2)
def rotA {α : Type} (f : Nat → α) (n : Nat) : Nat → α := fun k => if k < n then f (k + 1) else if k = n then f 0 else f k
def rotD (x : DD) : DD := (xS x, 3, rotA (xV x) 3, rotA (xA x) 3, x.2.2.2.2)
def svD0 (x : DD) : DD := (xS x, xC x + 1, va_up (xV x) (xC x) (cpN (xV x (xC x)) (xS x) (sN (xS x))), xA x, x.2.2.2.2)
def svD (x : DD) : DD := if xC x < 4 then svD0 x else svD0 (rotD x)
theorem DockAt.now {cy : Nat → ClassId} {z : Nat} {M M' : Mm} {x : DD} (h : DockAt cy z M x) {S : SD} (hs : Sm M M' (PB 1)) (hS : StateAt cy z M' 1 S) : DockAt cy z M' (setNow x S) := by
  obtain ⟨h0, h1, h2, h3, h4, h5, h6⟩ := h
  exact ⟨by rw [hs.1]; exact h0, (hs.2 _ (fun o => by have := o.1; omega)).trans h1, (hs.2 _ (fun o => by have := o.2; omega)).trans h2, h3.keep hs (fun k h1 h2 o => by have := o.2; omega), hS, fun k hk => ⟨(h5 k hk).1, (h5 k hk).2.1, (h5 k hk).2.2.keep hs (fun j h1 h2 o => by have := o.2; have := (h5 k hk).1; omega)⟩, h6⟩
theorem PB_331 {M M' : Mm} (h : Sm M M' (PB 1)) : Sm M M' (fun j => j < 331) := h.mono (fun j hj => by have := hj.2; omega)
theorem cpN_B {S S2 : SD} {n : Nat} (h : SB S) (h2 : SB S2) : SB (cpN S S2 n) := by
  refine ⟨h2.1, h2.2.1, h2.2.2.1, h2.2.2.2.1, h2.2.2.2.2.1, h2.2.2.2.2.2.1, h2.2.2.2.2.2.2.1, fun i hi => ?_⟩
  show RB (if i < n then RF S2 i else RF S i) (if i < n then RA S2 i else RA S i)
  split
  · exact h2.2.2.2.2.2.2.2 i hi
  · exact h.2.2.2.2.2.2.2 i hi
theorem svD_I {x : DD} (h : DI x) : DI (svD x) := by
  have aux : ∀ y : DD, DI y → xC y < 4 → DI (svD0 y) := by
    intro y hy hc
    refine ⟨hy.1, by show xC y + 1 ≤ 4; omega, fun k => ?_, hy.2.2.2⟩
    show SB (va_up (xV y) (xC y) (cpN (xV y (xC y)) (xS y) (sN (xS y))) k)
    rcases Nat.decEq k (xC y) with o | o
    · rw [up_n o]; exact hy.2.2.1 k
    · subst o; rw [up_s]; exact cpN_B (hy.2.2.1 _) hy.1
  unfold svD
  split
  · rename_i hc; exact aux x h hc
  · refine aux (rotD x) ⟨h.1, by show 3 ≤ 4; omega, fun k => ?_, h.2.2.2⟩ (by show 3 < 4; omega)
    show SB (rotA (xV x) 3 k)
    unfold rotA
    split
    · exact h.2.2.1 _
    · split <;> exact h.2.2.1 _
theorem svD_now {x : DD} : xS (svD x) = xS x := by unfold svD; split <;> rfl
theorem rot_step {α : Type} (f : Nat → α) {n : Nat} : va_up (va_up (rotA f n) n (f (n + 1))) (n + 1) (f 0) = rotA f (n + 1) := by
  funext k
  rcases Nat.decEq k (n + 1) with o | o
  · rw [up_n o]
    rcases Nat.decEq k n with o2 | o2
    · rw [up_n o2]; unfold rotA
      by_cases h : k < n
      · rw [if_pos h, if_pos (by omega)]
      · rw [if_neg h, if_neg o2, if_neg (by omega), if_neg o]
    · subst o2; rw [up_s]; unfold rotA; rw [if_pos (by omega)]
  · subst o; rw [up_s]; unfold rotA; rw [if_neg (by omega), if_pos rfl]
theorem rot_0 {α : Type} (f : Nat → α) : rotA f 0 = f := by
  funext k; unfold rotA; rw [if_neg (by omega)]; split
  · rename_i h; rw [h]
  · rfl
theorem rot_at {α : Type} (f : Nat → α) {n : Nat} : rotA f n (n + 1) = f (n + 1) ∧ rotA f n n = f 0 := by unfold rotA; rw [if_neg (by omega), if_neg (by omega), if_neg (by omega), if_pos rfl]; exact ⟨rfl, rfl⟩
theorem StateAt.fees {cy : Nat → ClassId} {z : Nat} {M M' : Mm} {b : Nat} {S : SD} (h : StateAt cy z M b S) (hs : Sm M M' (fun j => j = b + 4)) {f : Nat → Int} (he : M'.2 (b + 4) = oX 0 [iv (f 4), iv (f 5), iv (f 6), iv (f 7)]) (h0 : f 0 = sc S 0) (h1 : f 1 = sc S 1) (h2 : f 2 = sc S 2) (h3 : f 3 = sc S 3) : StateAt cy z M' b (setSc S f) := by
  obtain ⟨c, c0, c1, c2, c3, c4, cR⟩ := h
  refine ⟨by rw [hs.1]; exact c, ?_, (hs.2 _ (by omega)).trans c1, (hs.2 _ (by omega)).trans c2, (hs.2 _ (by omega)).trans c3, he, fun i hi => (cR i hi).keep hs (fun k hk _ q => by omega)⟩
  refine (hs.2 _ (by omega)).trans (c0.trans ?_)
  show oX 3 [iv (sc S 0), iv (sN S), iv (sc S 1), iv (sc S 2), iv (sc S 3), _, _, _] = oX 3 [iv (f 0), iv (sN S), iv (f 1), iv (f 2), iv (f 3), _, _, _]
  rw [h0, h1, h2, h3]
def setF (S : SD) (n0 n1 n2 n3 : Int) : SD := setSc S (fun j => if j = 4 then n0 else if j = 5 then n1 else if j = 6 then n2 else if j = 7 then n3 else sc S j)
def setH (S : SD) (q : Nat) (h : Nat → Int) : SD := (sN S, q, sc S, h, RF S, RA S)
theorem StateAt.holi {cy : Nat → ClassId} {z : Nat} {M M' : Mm} {b q : Nat} {h9 : Nat → Int} {S : SD} (h : StateAt cy z M b S) (hs : Sm M M' (fun j => j = b + 2 ∨ j = b + 2 + 1)) (he : HolAt cy z M' (b + 2) q h9) : StateAt cy z M' b (setH S q h9) := by
  obtain ⟨c, c0, c1, c2, c3, c4, cR⟩ := h
  exact ⟨by rw [hs.1]; exact c, (hs.2 _ (by omega)).trans c0, (hs.2 _ (by omega)).trans c1, he.2.1, he.2.2, (hs.2 _ (by omega)).trans c4, fun i hi => (cR i hi).keep hs (fun k hk _ q => by omega)⟩
set_option maxHeartbeats 400000 in
set_option maxRecDepth 4000 in
theorem ok_X6_dropOldest {l : Launch} {D : va_G} {cy : Nat → ClassId} {z : Nat} {M : Mm} {K : Option Value → Mm → Prop} {x : DD} (hD : DockAt cy z M x) (hI : DI x) (h4 : xC x = 4) (hK : ∀ M', Sm M M' (fun j => j < 331) → DockAt cy z M' (rotD x) → K none M') :
    MT l D cy z false yX6_dropOldest (wsy yX6_dropOldest cX6_dropOldest 3 none) 0 0 0 0 M [.ref (z + 0)] K := by
  refine MT_of (by decide) w_208 (Nat.le_of_ble_eq_true rfl) ?_
  intro p e s m args below meth c C hr hx0
  have hD9 := hD
  have hI9 := hI
  obtain ⟨gn, g0, g1, gT, hS9, gA, gJ⟩ := id hD
  obtain ⟨hB9, hC9, hV9, hL9, hb9⟩ := id hI
  obtain ⟨hn, c0, c1, c2, c3, c4, cR⟩ := id hS9
  obtain ⟨d0, d1, d2, d4, d5, d6, dH, dR⟩ := id hB9
  obtain ⟨tn, t0, t1, t2, t3⟩ := id gT
  have loop : ∀ (n : Nat) (i : Nat) (M9 : Mm), (i ≤ 3) → (Sm M M9 (fun j => j = 66)) → (M9.2 66 = aQ (cy 4) 4 (rotA (fun j => some (z + xA x j)) i)) → 4 - i < n → V p l e { frames := 0, cells := 0, slots := 0, locals := 0 } s m args below meth c D z 3 (MQ below (qc_ D z K) args s 0 0 (fun q => z ≤ q)) 0 0 M9 2 [(0, .ref (z + 0)), (1, iv (((i : Nat) : Int) + 1))] [] := by
    intro n
    induction n with
    | zero => intro i M9 hi0 hi1 hi2 hfu; exact absurd hfu (Nat.not_lt_zero _)
    | succ n ih =>
      intro i M9 hi0 hi1 hi2 hfu
      have gn9 : 331 ≤ M9.1 := by rw [hi1.1]; exact gn
      have f0 : M9.2 0 = _ := (hi1.2 _ (by omega)).trans g0
      refine V_iload_n C dX6_dropOldest_2 rfl ?_
      refine V_aload_n C dX6_dropOldest_3 rfl ?_
      refine V_get C fg_X6_16 dX6_dropOldest_4 (by repeat (first | with_reducible assumption | with_reducible exact mset_self _ _ _ | refine (mset_ne (by omega)).trans ?_)) (by (try simp only [mset_1]); omega) (by rfl) ?_
      refine V_alenQ (t := 4) C rfl dX6_dropOldest_7 (by repeat (first | with_reducible assumption | with_reducible exact mset_self _ _ _ | refine (mset_ne (by omega)).trans ?_)) (by (try simp only [mset_1]); omega) ?_
      refine V_icmp_ge C dX6_dropOldest_8 (tgt := 47) (by decide) (by omega) (by omega) (fun g8 => ?_) (fun g8 => ?_)
      · have en : i = 3 := by omega
        subst en
        have hfin : DockAt cy z (mset M9 0 (oX 5 [.ref (z + 1), .ref (z + 66), iv ((4 : Nat) - 1 : Int), .ref (z + 67)])) (rotD x) := by
          have hs : Sm M (mset M9 0 (oX 5 [.ref (z + 1), .ref (z + 66), iv ((4 : Nat) - 1 : Int), .ref (z + 67)])) (fun j => j = 66 ∨ j = 0) := (hi1.mono (fun j hj => Or.inl hj)).ts (Or.inr rfl)
          have hr : ∀ k, k < 4 → ∃ j, j < 4 ∧ rotA (xA x) 3 k = xA x j ∧ rotA (xV x) 3 k = xV x j ∧ j = (if k < 3 then k + 1 else 0) := by
            intro k hk
            unfold rotA
            by_cases o : k < 3
            · exact ⟨k + 1, by omega, by rw [if_pos o], by rw [if_pos o], by rw [if_pos o]⟩
            · exact ⟨0, by omega, by rw [if_neg o, if_pos (by omega)], by rw [if_neg o, if_pos (by omega)], by rw [if_neg o]⟩
          refine ⟨by rw [hs.1]; exact gn, mset_self _ _ _, (mset_ne (by omega)).trans (hi2.trans (congrArg (aQ (cy 4) 4) (by funext k; show rotA (fun j => some (z + xA x j)) 3 k = some (z + rotA (xA x) 3 k); unfold rotA; split <;> first | rfl | (split <;> rfl)))), gT.keep hs (fun k h1 h2 o => by omega), hS9.keep hs (fun k h1 h2 o => by omega), fun k hk => ?_, fun j k hj hk hjk => ?_⟩
          · obtain ⟨j, hj, e1, e2, -⟩ := hr k hk
            show 71 ≤ rotA (xA x) 3 k ∧ rotA (xA x) 3 k + 65 ≤ 331 ∧ StateAt cy z _ (rotA (xA x) 3 k) (rotA (xV x) 3 k)
            rw [e1, e2]
            have := gA j hj
            exact ⟨this.1, this.2.1, this.2.2.keep hs (fun i h1 h2 o => by omega)⟩
          · obtain ⟨j1, hj1, e1, -, e2⟩ := hr j hj
            obtain ⟨k1, hk1, e3, -, e4⟩ := hr k hk
            show rotA (xA x) 3 j + 65 ≤ rotA (xA x) 3 k ∨ rotA (xA x) 3 k + 65 ≤ rotA (xA x) 3 j
            rw [e1, e3]
            exact gJ j1 k1 hj1 hk1 (by intro o; rw [e2, e4] at o; split at o <;> split at o <;> omega)
        refine V_aload_n C dX6_dropOldest_47 rfl ?_
        refine V_aload_n C dX6_dropOldest_48 rfl ?_
        refine V_get C fg_X6_16 dX6_dropOldest_49 (by repeat (first | with_reducible assumption | with_reducible exact mset_self _ _ _ | refine (mset_ne (by omega)).trans ?_)) (by (try simp only [mset_1]); omega) (by rfl) ?_
        refine V_alenQ (t := 4) C rfl dX6_dropOldest_52 (by repeat (first | with_reducible assumption | with_reducible exact mset_self _ _ _ | refine (mset_ne (by omega)).trans ?_)) (by (try simp only [mset_1]); omega) ?_
        refine V_iconst C dX6_dropOldest_53 ?_
        refine V_isub C dX6_dropOldest_54 ?_
        refine V_put C fp_X6_20 dX6_dropOldest_55 (by repeat (first | with_reducible assumption | with_reducible exact mset_self _ _ _ | refine (mset_ne (by omega)).trans ?_)) (by (try simp only [mset_1]); omega) rfl rfl (by exact Nat.le_of_ble_eq_true rfl) ?_
        exact V_vret C hr dX6_dropOldest_58 (hK _ (((hi1.mono (fun j hj => by have o : j = 66 := hj; omega)).ts (by omega))) hfin)
      · have hA1 := gA (i + 1) (by omega)
        have hA0 := gA 0 (by omega)
        have v1 : M9.2 (xA x (i + 1)) = _ := (hi1.2 _ (by omega)).trans hA1.2.2.2.1
        have v0 : M9.2 (xA x 0) = _ := (hi1.2 _ (by omega)).trans hA0.2.2.2.1
        have q0 : M9.2 0 = _ := (hi1.2 _ (by omega)).trans g0
        have ra := rot_at (fun j => some (z + xA x j)) (n := i)
        refine V_aload_n C dX6_dropOldest_11 rfl ?_
        refine V_get C fg_X6_16 dX6_dropOldest_12 (by repeat (first | with_reducible assumption | with_reducible exact mset_self _ _ _ | refine (mset_ne (by omega)).trans ?_)) (by (try simp only [mset_1]); omega) (by rfl) ?_
        refine V_iload_n C dX6_dropOldest_15 rfl ?_
        refine V_iconst C dX6_dropOldest_16 ?_
        refine V_isub C dX6_dropOldest_17 ?_
        refine V_aaload (t := 4) C rfl dX6_dropOldest_18 (by repeat (first | with_reducible assumption | with_reducible exact mset_self _ _ _ | refine (mset_ne (by omega)).trans ?_)) (by (try simp only [mset_1]); omega) (by omega) (by omega) (by rw [show ((i : Int) + 1 - 1).toNat = i by omega]; exact ra.2) ?_
        refine V_astore_n C dX6_dropOldest_19 (by decide) ?_
        refine V_aload_n C dX6_dropOldest_20 rfl ?_
        refine V_get C fg_X6_16 dX6_dropOldest_21 (by repeat (first | with_reducible assumption | with_reducible exact mset_self _ _ _ | refine (mset_ne (by omega)).trans ?_)) (by (try simp only [mset_1]); omega) (by rfl) ?_
        refine V_iload_n C dX6_dropOldest_24 rfl ?_
        refine V_iconst C dX6_dropOldest_25 ?_
        refine V_isub C dX6_dropOldest_26 ?_
        refine V_aload_n C dX6_dropOldest_27 rfl ?_
        refine V_get C fg_X6_16 dX6_dropOldest_28 (by repeat (first | with_reducible assumption | with_reducible exact mset_self _ _ _ | refine (mset_ne (by omega)).trans ?_)) (by (try simp only [mset_1]); omega) (by rfl) ?_
        refine V_iload_n C dX6_dropOldest_31 rfl ?_
        refine V_aaload (t := 4) C rfl dX6_dropOldest_32 (by repeat (first | with_reducible assumption | with_reducible exact mset_self _ _ _ | refine (mset_ne (by omega)).trans ?_)) (by (try simp only [mset_1]); omega) (by omega) (by omega) (by rw [show ((i : Int) + 1).toNat = i + 1 by omega]; exact ra.1) ?_
        refine V_aastore (t := 4) (ci := 3) C rfl rfl dX6_dropOldest_33 (by repeat (first | with_reducible assumption | with_reducible exact mset_self _ _ _ | refine (mset_ne (by omega)).trans ?_)) (by (try simp only [mset_1]); omega) (by omega) (by omega) (by repeat (first | with_reducible assumption | with_reducible exact mset_self _ _ _ | refine (mset_ne (by omega)).trans ?_)) (by (try simp only [mset_1]); omega) ?_
        refine V_aload_n C dX6_dropOldest_34 rfl ?_
        refine V_get C fg_X6_16 dX6_dropOldest_35 (by repeat (first | with_reducible assumption | with_reducible exact mset_self _ _ _ | refine (mset_ne (by omega)).trans ?_)) (by (try simp only [mset_1]); omega) (by rfl) ?_
        refine V_iload_n C dX6_dropOldest_38 rfl ?_
        refine V_aload_n C dX6_dropOldest_39 rfl ?_
        refine V_aastore (t := 4) (ci := 3) C rfl rfl dX6_dropOldest_40 (by repeat (first | with_reducible assumption | with_reducible exact mset_self _ _ _ | refine (mset_ne (by omega)).trans ?_)) (by (try simp only [mset_1]); omega) (by omega) (by omega) (by repeat (first | with_reducible assumption | with_reducible exact mset_self _ _ _ | refine (mset_ne (by omega)).trans ?_)) (by (try simp only [mset_1]); omega) ?_
        refine V_iinc C dX6_dropOldest_41 rfl (by decide) ?_
        refine V_goto C dX6_dropOldest_44 (tgt := 2) (by decide) ?_
        refine V_lv [(0, .ref (z + 0)), (1, iv (((i + 1 : Nat) : Int) + 1))] (List.forall_mem_cons.mpr ⟨(by first | rfl | exact congrArg (fun t => some (iv t)) (by push_cast; omega)), (List.forall_mem_cons.mpr ⟨(by first | rfl | exact congrArg (fun t => some (iv t)) (by push_cast; omega)), (fun _ h => nomatch h)⟩)⟩) ?_
        exact ih (i + 1) _ (by omega) ((hi1.ts rfl).ts rfl) ((mset_self _ _ _).trans (by rw [← rot_step (fun j => some (z + xA x j)) (n := i)]; simp only [show ((i : Int) + 1 - 1).toNat = i by omega, show ((i : Int) + 1).toNat = i + 1 by omega])) (by omega)
  refine V_iconst C dX6_dropOldest_0 ?_
  refine V_istore_n C dX6_dropOldest_1 (by decide) ?_
  refine V_lv [(0, .ref (z + 0)), (1, iv (((0 : Nat) : Int) + 1))] (List.forall_mem_cons.mpr ⟨(by first | rfl | exact congrArg (fun t => some (iv t)) (by push_cast; omega)), (List.forall_mem_cons.mpr ⟨(by first | rfl | exact congrArg (fun t => some (iv t)) (by push_cast; omega)), (fun _ h => nomatch h)⟩)⟩) ?_
  exact loop 5 0 M (by omega) (Sm.rf _ _) (g1.trans (by rw [rot_0])) (by omega)

