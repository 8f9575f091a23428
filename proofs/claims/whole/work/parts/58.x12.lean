/-! the law's cases that can't throw -/
set_option maxHeartbeats 1000000 in
set_option maxRecDepth 4000 in
theorem law_c8 {p : Program} {l : Launch} {e : Env} {s : State} {m : MethodId} {args : Array Value} {below : List Frame} {meth : Method} {c : Code} {D : va_G} {cy : Nat → ClassId} {z : Nat} {Q : State → Prop} {cells slots : Nat} {M : Mm} (C : Cx p l s m args meth c D cy z 9 cL_law RL) (hlt : l.stackTraces = false) {b L : Nat} {xs : Nat → Int32} (hX : va_X b L xs s s.heap) (hbl : b < s.heap.size) (hbA : ¬ z ≤ b) (hL : L ≤ 2560) {i : Nat} (hi : i + 5 ≤ L) (hcs : cells + 4 ≤ 601024 ∧ slots + 24 ≤ 7293034) {x : DD} {u N P A tx fr tl g9 : Nat → Int} {d9 : Nat → UInt64} (hI : LawI cy z M x u N P A tx fr tl g9 d9) (hk : ∀ M', LawE cy z M' → V p l e room_1 s m args below meth c D z 9 Q (cells + 4) (slots + 24) M' 1689 [(0, .ref b), (1, .ref (z + 0)), (2, .ref (z + 331)), (3, .ref (z + 338)), (4, .ref (z + 339)), (5, iv (i : Int))] []) : V p l e room_1 s m args below meth c D z 9 Q cells slots M 680 [(0, .ref b), (1, .ref (z + 0)), (2, .ref (z + 331)), (3, .ref (z + 338)), (4, .ref (z + 339)), (5, iv (i : Int))] [] := by
  obtain ⟨hD, hDI, hM, hM1, h338, h339, hR⟩ := id hI
  obtain ⟨r0, r2, rN, rV, rT⟩ := id hR
  obtain ⟨rw9, rI, rZ, rH⟩ := id rN
  have hB := hDI.1
  have hDc := hDI.2.1
  have hDt := hDI.2.2.2.1
  have hq6 := hB.2.2.1
  have hn10 := hB.2.1
  have hD0 := hD.2.1
  refine V_aload_n C dL_law_680 rfl ?_
  refine V_callV (fr := 5) (lo := 112) (mc := 0) (ms := 0) (As := []) C yvX6_payAll w_197 dL_law_681 rfl rfl (by repeat (first | with_reducible assumption | with_reducible exact mset_self _ _ _ | refine (mset_ne (by omega)).trans ?_)) (by (try simp only [mset_1]); omega) rfl rfl (Nat.le_of_ble_eq_true rfl) ⟨Nat.le_of_ble_eq_true rfl, Nat.le_of_ble_eq_true rfl⟩ ⟨by show _ + 0 ≤ 601024; omega, by show _ + 0 ≤ 7293034; omega⟩ ?_
  refine ok_X6_payAll hD hDI (fun M2 s2 d2 => ?_)
  obtain ⟨l3, x3, e8, e9, sA⟩ := law_mid0 hI s2
  obtain ⟨gn, g0, g1, g2, g3, g4, g5, g6⟩ := id x3
  refine V_aload_n C dL_law_684 rfl ?_
  refine V_callV (fr := 7) (lo := 155) (mc := 0) (ms := 0) (As := []) C yvX7_payAll w_980 dL_law_685 rfl rfl (by repeat (first | with_reducible assumption | with_reducible exact mset_self _ _ _ | refine (mset_ne (by omega)).trans ?_)) (by (try simp only [mset_1]); omega) rfl rfl (Nat.le_of_ble_eq_true rfl) ⟨Nat.le_of_ble_eq_true rfl, Nat.le_of_ble_eq_true rfl⟩ ⟨by show _ + 0 ≤ 601024; omega, by show _ + 0 ≤ 7293034; omega⟩ ?_
  refine ok_X7_payAll x3 rw9 hB rI r0 hDc rZ (fun M4 u4 P4 N4 s4 x4 a4 b4 c4 p4 n4 => ?_)
  obtain ⟨gn, g0, g1, g2, g3, g4, g5, g6⟩ := id x4
  have f1 := s4.1.trans l3
  refine V_eqS C (by rfl) dL_law_688 (tgt := 1689) (by decide) ?_
  refine V_lv [(0, .ref b), (1, .ref (z + 0)), (2, .ref (z + 331)), (3, .ref (z + 338)), (4, .ref (z + 339)), (5, iv (i : Int))] (List.forall_mem_cons.mpr ⟨(by first | rfl | exact congrArg (fun t => some (iv t)) (by omega)), (List.forall_mem_cons.mpr ⟨(by first | rfl | exact congrArg (fun t => some (iv t)) (by omega)), (List.forall_mem_cons.mpr ⟨(by first | rfl | exact congrArg (fun t => some (iv t)) (by omega)), (List.forall_mem_cons.mpr ⟨(by first | rfl | exact congrArg (fun t => some (iv t)) (by omega)), (List.forall_mem_cons.mpr ⟨(by first | rfl | exact congrArg (fun t => some (iv t)) (by omega)), (List.forall_mem_cons.mpr ⟨(by first | rfl | exact congrArg (fun t => some (iv t)) (by omega)), (fun _ h => nomatch h)⟩)⟩)⟩)⟩)⟩)⟩) ?_
  refine V_widen (k := cells + 4) (n := slots + 24) (by omega) (by omega) ?_
  exact hk _ (LawE.mk d2 sA s4 l3 e8 e9 x4 (DI.save hDI (RelN.payAll rN hB n4).2) (hR.save hDI (fun _ _ => rfl) a4 c4 p4 (RelN.payAll rN hB n4).1))

set_option maxHeartbeats 1000000 in
set_option maxRecDepth 4000 in
theorem law_c18 {p : Program} {l : Launch} {e : Env} {s : State} {m : MethodId} {args : Array Value} {below : List Frame} {meth : Method} {c : Code} {D : va_G} {cy : Nat → ClassId} {z : Nat} {Q : State → Prop} {cells slots : Nat} {M : Mm} (C : Cx p l s m args meth c D cy z 9 cL_law RL) (hlt : l.stackTraces = false) {b L : Nat} {xs : Nat → Int32} (hX : va_X b L xs s s.heap) (hbl : b < s.heap.size) (hbA : ¬ z ≤ b) (hL : L ≤ 2560) {i : Nat} (hi : i + 5 ≤ L) (hcs : cells + 4 ≤ 601024 ∧ slots + 24 ≤ 7293034) {x : DD} {u N P A tx fr tl g9 : Nat → Int} {d9 : Nat → UInt64} (hI : LawI cy z M x u N P A tx fr tl g9 d9) (hk : ∀ M', LawE cy z M' → V p l e room_1 s m args below meth c D z 9 Q (cells + 4) (slots + 24) M' 1689 [(0, .ref b), (1, .ref (z + 0)), (2, .ref (z + 331)), (3, .ref (z + 338)), (4, .ref (z + 339)), (5, iv (i : Int))] []) : V p l e room_1 s m args below meth c D z 9 Q cells slots M 1347 [(0, .ref b), (1, .ref (z + 0)), (2, .ref (z + 331)), (3, .ref (z + 338)), (4, .ref (z + 339)), (5, iv (i : Int))] [] := by
  obtain ⟨hD, hDI, hM, hM1, h338, h339, hR⟩ := id hI
  obtain ⟨r0, r2, rN, rV, rT⟩ := id hR
  obtain ⟨rw9, rI, rZ, rH⟩ := id rN
  have hB := hDI.1
  have hDc := hDI.2.1
  have hDt := hDI.2.2.2.1
  have hq6 := hB.2.2.1
  have hn10 := hB.2.1
  have hD0 := hD.2.1
  refine V_aload_n C dL_law_1347 rfl ?_
  refine V_callV (fr := 3) (lo := 67) (mc := 0) (ms := 0) (As := []) C yvX6_nextDue w_282 dL_law_1348 rfl rfl (by repeat (first | with_reducible assumption | with_reducible exact mset_self _ _ _ | refine (mset_ne (by omega)).trans ?_)) (by (try simp only [mset_1]); omega) rfl rfl (Nat.le_of_ble_eq_true rfl) ⟨Nat.le_of_ble_eq_true rfl, Nat.le_of_ble_eq_true rfl⟩ ⟨by show _ + 0 ≤ 601024; omega, by show _ + 0 ≤ 7293034; omega⟩ ?_
  refine ok_X6_nextDue hD hDI ?_
  have x3 := hM
  have l3 := hM1
  have e8 := h338
  have e9 := h339
  have sA : Sm M M (fun j => 331 ≤ j) := Sm.rf _ _
  have d2 := hD
  obtain ⟨gn, g0, g1, g2, g3, g4, g5, g6⟩ := id x3
  refine V_aload_n C dL_law_1351 rfl ?_
  refine V_callV (fr := 7) (lo := 158) (mc := 0) (ms := 0) (As := []) C yvX7_nextDue w_1074 dL_law_1352 rfl rfl (by repeat (first | with_reducible assumption | with_reducible exact mset_self _ _ _ | refine (mset_ne (by omega)).trans ?_)) (by (try simp only [mset_1]); omega) rfl rfl (Nat.le_of_ble_eq_true rfl) ⟨Nat.le_of_ble_eq_true rfl, Nat.le_of_ble_eq_true rfl⟩ ⟨by show _ + 0 ≤ 601024; omega, by show _ + 0 ≤ 7293034; omega⟩ ?_
  refine ok_X7_nextDue x3 rw9 hB rI (fun M4 u4 fr4 tl4 s4 x4 a4 b4 c4 => ?_)
  obtain ⟨gn, g0, g1, g2, g3, g4, g5, g6⟩ := id x4
  have f1 := s4.1.trans l3
  refine V_eqS C (by rfl) dL_law_1355 (tgt := 1689) (by decide) ?_
  refine V_lv [(0, .ref b), (1, .ref (z + 0)), (2, .ref (z + 331)), (3, .ref (z + 338)), (4, .ref (z + 339)), (5, iv (i : Int))] (List.forall_mem_cons.mpr ⟨(by first | rfl | exact congrArg (fun t => some (iv t)) (by omega)), (List.forall_mem_cons.mpr ⟨(by first | rfl | exact congrArg (fun t => some (iv t)) (by omega)), (List.forall_mem_cons.mpr ⟨(by first | rfl | exact congrArg (fun t => some (iv t)) (by omega)), (List.forall_mem_cons.mpr ⟨(by first | rfl | exact congrArg (fun t => some (iv t)) (by omega)), (List.forall_mem_cons.mpr ⟨(by first | rfl | exact congrArg (fun t => some (iv t)) (by omega)), (List.forall_mem_cons.mpr ⟨(by first | rfl | exact congrArg (fun t => some (iv t)) (by omega)), (fun _ h => nomatch h)⟩)⟩)⟩)⟩)⟩)⟩) ?_
  refine V_widen (k := cells + 4) (n := slots + 24) (by omega) (by omega) ?_
  exact hk _ (LawE.mk d2 sA s4 l3 e8 e9 x4 hDI (hR.same a4 c4))

set_option maxHeartbeats 1000000 in
set_option maxRecDepth 4000 in
theorem law_c23 {p : Program} {l : Launch} {e : Env} {s : State} {m : MethodId} {args : Array Value} {below : List Frame} {meth : Method} {c : Code} {D : va_G} {cy : Nat → ClassId} {z : Nat} {Q : State → Prop} {cells slots : Nat} {M : Mm} (C : Cx p l s m args meth c D cy z 9 cL_law RL) (hlt : l.stackTraces = false) {b L : Nat} {xs : Nat → Int32} (hX : va_X b L xs s s.heap) (hbl : b < s.heap.size) (hbA : ¬ z ≤ b) (hL : L ≤ 2560) {i : Nat} (hi : i + 5 ≤ L) (hcs : cells + 4 ≤ 601024 ∧ slots + 24 ≤ 7293034) {x : DD} {u N P A tx fr tl g9 : Nat → Int} {d9 : Nat → UInt64} (hI : LawI cy z M x u N P A tx fr tl g9 d9) (hk : ∀ M', LawE cy z M' → V p l e room_1 s m args below meth c D z 9 Q (cells + 4) (slots + 24) M' 1689 [(0, .ref b), (1, .ref (z + 0)), (2, .ref (z + 331)), (3, .ref (z + 338)), (4, .ref (z + 339)), (5, iv (i : Int))] []) : V p l e room_1 s m args below meth c D z 9 Q cells slots M 1605 [(0, .ref b), (1, .ref (z + 0)), (2, .ref (z + 331)), (3, .ref (z + 338)), (4, .ref (z + 339)), (5, iv (i : Int))] [] := by
  obtain ⟨hD, hDI, hM, hM1, h338, h339, hR⟩ := id hI
  obtain ⟨r0, r2, rN, rV, rT⟩ := id hR
  obtain ⟨rw9, rI, rZ, rH⟩ := id rN
  have hB := hDI.1
  have hDc := hDI.2.1
  have hDt := hDI.2.2.2.1
  have hq6 := hB.2.2.1
  have hn10 := hB.2.1
  have hD0 := hD.2.1
  refine V_aload_n C dL_law_1605 rfl ?_
  refine V_callV (fr := 0) (lo := 0) (mc := 0) (ms := 0) (As := []) C yvX6_clearText w_290 dL_law_1606 rfl rfl (by repeat (first | with_reducible assumption | with_reducible exact mset_self _ _ _ | refine (mset_ne (by omega)).trans ?_)) (by (try simp only [mset_1]); omega) rfl rfl (Nat.le_of_ble_eq_true rfl) ⟨Nat.le_of_ble_eq_true rfl, Nat.le_of_ble_eq_true rfl⟩ ⟨by show _ + 0 ≤ 601024; omega, by show _ + 0 ≤ 7293034; omega⟩ ?_
  refine ok_X6_clearText hD hDI (fun M2 s2 d2 => ?_)
  obtain ⟨l3, x3, e8, e9, sA⟩ := law_mid0 hI s2
  obtain ⟨gn, g0, g1, g2, g3, g4, g5, g6⟩ := id x3
  refine V_aload_n C dL_law_1609 rfl ?_
  refine V_callV (fr := 0) (lo := 0) (mc := 0) (ms := 0) (As := []) C yvX7_clearText w_1105 dL_law_1610 rfl rfl (by repeat (first | with_reducible assumption | with_reducible exact mset_self _ _ _ | refine (mset_ne (by omega)).trans ?_)) (by (try simp only [mset_1]); omega) rfl rfl (Nat.le_of_ble_eq_true rfl) ⟨Nat.le_of_ble_eq_true rfl, Nat.le_of_ble_eq_true rfl⟩ ⟨by show _ + 0 ≤ 601024; omega, by show _ + 0 ≤ 7293034; omega⟩ ?_
  refine ok_X7_clearText x3 (fun M4 s4 x4 => ?_)
  obtain ⟨gn, g0, g1, g2, g3, g4, g5, g6⟩ := id x4
  have f1 := s4.1.trans l3
  refine V_eqS C (by rw [r2]) dL_law_1613 (tgt := 1689) (by decide) ?_
  refine V_lv [(0, .ref b), (1, .ref (z + 0)), (2, .ref (z + 331)), (3, .ref (z + 338)), (4, .ref (z + 339)), (5, iv (i : Int))] (List.forall_mem_cons.mpr ⟨(by first | rfl | exact congrArg (fun t => some (iv t)) (by omega)), (List.forall_mem_cons.mpr ⟨(by first | rfl | exact congrArg (fun t => some (iv t)) (by omega)), (List.forall_mem_cons.mpr ⟨(by first | rfl | exact congrArg (fun t => some (iv t)) (by omega)), (List.forall_mem_cons.mpr ⟨(by first | rfl | exact congrArg (fun t => some (iv t)) (by omega)), (List.forall_mem_cons.mpr ⟨(by first | rfl | exact congrArg (fun t => some (iv t)) (by omega)), (List.forall_mem_cons.mpr ⟨(by first | rfl | exact congrArg (fun t => some (iv t)) (by omega)), (fun _ h => nomatch h)⟩)⟩)⟩)⟩)⟩)⟩) ?_
  refine V_widen (k := cells + 4) (n := slots + 24) (by omega) (by omega) ?_
  exact hk _ (LawE.mk d2 sA s4 l3 e8 e9 x4 hDI.clear (hR.clear rfl rfl))

set_option maxHeartbeats 1000000 in
set_option maxRecDepth 4000 in
theorem law_c26 {p : Program} {l : Launch} {e : Env} {s : State} {m : MethodId} {args : Array Value} {below : List Frame} {meth : Method} {c : Code} {D : va_G} {cy : Nat → ClassId} {z : Nat} {Q : State → Prop} {cells slots : Nat} {M : Mm} (C : Cx p l s m args meth c D cy z 9 cL_law RL) (hlt : l.stackTraces = false) {b L : Nat} {xs : Nat → Int32} (hX : va_X b L xs s s.heap) (hbl : b < s.heap.size) (hbA : ¬ z ≤ b) (hL : L ≤ 2560) {i : Nat} (hi : i + 5 ≤ L) (hcs : cells + 4 ≤ 601024 ∧ slots + 24 ≤ 7293034) {x : DD} {u N P A tx fr tl g9 : Nat → Int} {d9 : Nat → UInt64} (hI : LawI cy z M x u N P A tx fr tl g9 d9) (hk : ∀ M', LawE cy z M' → V p l e room_1 s m args below meth c D z 9 Q (cells + 4) (slots + 24) M' 1689 [(0, .ref b), (1, .ref (z + 0)), (2, .ref (z + 331)), (3, .ref (z + 338)), (4, .ref (z + 339)), (5, iv (i : Int))] []) : V p l e room_1 s m args below meth c D z 9 Q cells slots M 1675 [(0, .ref b), (1, .ref (z + 0)), (2, .ref (z + 331)), (3, .ref (z + 338)), (4, .ref (z + 339)), (5, iv (i : Int))] [] := by
  obtain ⟨hD, hDI, hM, hM1, h338, h339, hR⟩ := id hI
  obtain ⟨r0, r2, rN, rV, rT⟩ := id hR
  obtain ⟨rw9, rI, rZ, rH⟩ := id rN
  have hB := hDI.1
  have hDc := hDI.2.1
  have hDt := hDI.2.2.2.1
  have hq6 := hB.2.2.1
  have hn10 := hB.2.1
  have hD0 := hD.2.1
  refine V_aload_n C dL_law_1675 rfl ?_
  refine V_callV (fr := 7) (lo := 155) (mc := 0) (ms := 0) (As := []) C yvX6_digest w_380 dL_law_1676 rfl rfl (by repeat (first | with_reducible assumption | with_reducible exact mset_self _ _ _ | refine (mset_ne (by omega)).trans ?_)) (by (try simp only [mset_1]); omega) rfl rfl (Nat.le_of_ble_eq_true rfl) ⟨Nat.le_of_ble_eq_true rfl, Nat.le_of_ble_eq_true rfl⟩ ⟨by show _ + 0 ≤ 601024; omega, by show _ + 0 ≤ 7293034; omega⟩ ?_
  refine ok_X6_digest hD hDI ?_
  have x3 := hM
  have l3 := hM1
  have e8 := h338
  have e9 := h339
  have sA : Sm M M (fun j => 331 ≤ j) := Sm.rf _ _
  have d2 := hD
  obtain ⟨gn, g0, g1, g2, g3, g4, g5, g6⟩ := id x3
  refine V_aload_n C dL_law_1679 rfl ?_
  refine V_callV (fr := 9) (lo := 197) (mc := 0) (ms := 0) (As := []) C yvX7_digest w_1133 dL_law_1680 rfl rfl (by repeat (first | with_reducible assumption | with_reducible exact mset_self _ _ _ | refine (mset_ne (by omega)).trans ?_)) (by (try simp only [mset_1]); omega) rfl rfl (Nat.le_of_ble_eq_true rfl) ⟨Nat.le_of_ble_eq_true rfl, Nat.le_of_ble_eq_true rfl⟩ ⟨by show _ + 0 ≤ 601024; omega, by show _ + 0 ≤ 7293034; omega⟩ ?_
  refine ok_X7_digest x3 rw9 hB rI (rZ.V hB) (fun M4 u4 fr4 tl4 s4 x4 a4 b4 c4 => ?_)
  obtain ⟨gn, g0, g1, g2, g3, g4, g5, g6⟩ := id x4
  have f1 := s4.1.trans l3
  refine V_lcmp0 C (by rw [r0, r2]; rfl) dL_law_1683 ?_
  refine V_ifeq0 C dL_law_1684 (tgt := 1689) (by decide) ?_
  refine V_lv [(0, .ref b), (1, .ref (z + 0)), (2, .ref (z + 331)), (3, .ref (z + 338)), (4, .ref (z + 339)), (5, iv (i : Int))] (List.forall_mem_cons.mpr ⟨(by first | rfl | exact congrArg (fun t => some (iv t)) (by omega)), (List.forall_mem_cons.mpr ⟨(by first | rfl | exact congrArg (fun t => some (iv t)) (by omega)), (List.forall_mem_cons.mpr ⟨(by first | rfl | exact congrArg (fun t => some (iv t)) (by omega)), (List.forall_mem_cons.mpr ⟨(by first | rfl | exact congrArg (fun t => some (iv t)) (by omega)), (List.forall_mem_cons.mpr ⟨(by first | rfl | exact congrArg (fun t => some (iv t)) (by omega)), (List.forall_mem_cons.mpr ⟨(by first | rfl | exact congrArg (fun t => some (iv t)) (by omega)), (fun _ h => nomatch h)⟩)⟩)⟩)⟩)⟩)⟩) ?_
  refine V_widen (k := cells + 4) (n := slots + 24) (by omega) (by omega) ?_
  exact hk _ (LawE.mk d2 sA s4 l3 e8 e9 x4 hDI (hR.same a4 c4))

set_option maxHeartbeats 1000000 in
set_option maxRecDepth 4000 in
theorem law_c24 {p : Program} {l : Launch} {e : Env} {s : State} {m : MethodId} {args : Array Value} {below : List Frame} {meth : Method} {c : Code} {D : va_G} {cy : Nat → ClassId} {z : Nat} {Q : State → Prop} {cells slots : Nat} {M : Mm} (C : Cx p l s m args meth c D cy z 9 cL_law RL) (hlt : l.stackTraces = false) {b L : Nat} {xs : Nat → Int32} (hX : va_X b L xs s s.heap) (hbl : b < s.heap.size) (hbA : ¬ z ≤ b) (hL : L ≤ 2560) {i : Nat} (hi : i + 5 ≤ L) (hcs : cells + 4 ≤ 601024 ∧ slots + 24 ≤ 7293034) {x : DD} {u N P A tx fr tl g9 : Nat → Int} {d9 : Nat → UInt64} (hI : LawI cy z M x u N P A tx fr tl g9 d9) (hk : ∀ M', LawE cy z M' → V p l e room_1 s m args below meth c D z 9 Q (cells + 4) (slots + 24) M' 1689 [(0, .ref b), (1, .ref (z + 0)), (2, .ref (z + 331)), (3, .ref (z + 338)), (4, .ref (z + 339)), (5, iv (i : Int))] []) : V p l e room_1 s m args below meth c D z 9 Q cells slots M 1618 [(0, .ref b), (1, .ref (z + 0)), (2, .ref (z + 331)), (3, .ref (z + 338)), (4, .ref (z + 339)), (5, iv (i : Int))] [] := by
  obtain ⟨hD, hDI, hM, hM1, h338, h339, hR⟩ := id hI
  obtain ⟨r0, r2, rN, rV, rT⟩ := id hR
  obtain ⟨rw9, rI, rZ, rH⟩ := id rN
  have hB := hDI.1
  have hDc := hDI.2.1
  have hDt := hDI.2.2.2.1
  have hq6 := hB.2.2.1
  have hn10 := hB.2.1
  have hD0 := hD.2.1
  refine V_aload_n C dL_law_1618 rfl ?_
  refine V_callV (fr := 7) (lo := 158) (mc := 0) (ms := 0) (As := []) C yvX6_parse w_294 dL_law_1619 rfl rfl (by repeat (first | with_reducible assumption | with_reducible exact mset_self _ _ _ | refine (mset_ne (by omega)).trans ?_)) (by (try simp only [mset_1]); omega) rfl rfl (Nat.le_of_ble_eq_true rfl) ⟨Nat.le_of_ble_eq_true rfl, Nat.le_of_ble_eq_true rfl⟩ ⟨by show _ + 0 ≤ 601024; omega, by show _ + 0 ≤ 7293034; omega⟩ ?_
  refine ok_X6_parse hD hDI (fun hc M2 s2 d2 => ?_) (fun hc M2 s2 d2 => ?_)
  · have eR : rdN (gT tx (xT x 0)) (xT x 0) 11 ((0, -1), 0, xF x, xM x) = rdD x := by unfold rdD; rw [gT_eq rT]
    obtain ⟨l3, x3, e8, e9, sA⟩ := law_mid0 hI s2
    obtain ⟨gn, g0, g1, g2, g3, g4, g5, g6⟩ := id x3
    refine V_aload_n C dL_law_1622 rfl ?_
    refine V_callV (fr := 4) (lo := 94) (mc := 0) (ms := 0) (As := []) C yvX7_parse w_1109 dL_law_1623 rfl rfl (by repeat (first | with_reducible assumption | with_reducible exact mset_self _ _ _ | refine (mset_ne (by omega)).trans ?_)) (by (try simp only [mset_1]); omega) rfl rfl (Nat.le_of_ble_eq_true rfl) ⟨Nat.le_of_ble_eq_true rfl, Nat.le_of_ble_eq_true rfl⟩ ⟨by show _ + 0 ≤ 601024; omega, by show _ + 0 ≤ 7293034; omega⟩ ?_
    refine ok_X7_parse x3 rw9 hB rI r0 hDc (n9 := xT x 0) r2 hDt (fun j hj => by rw [rT j hj]; exact hDI.2.2.2.2 j) (F0 := xF x) (M0 := xM x) (fun _ M4 u4 N4 A4 s4 x4 n4 a4 b4 c4 => ?_) (fun o => absurd (by rw [← eR]; exact o) hc)
    obtain ⟨gn, g0, g1, g2, g3, g4, g5, g6⟩ := id x4
    have f1 := s4.1.trans l3
    refine V_eqS C (by rw [eR]) dL_law_1626 (tgt := 1689) (by decide) ?_
    refine V_lv [(0, .ref b), (1, .ref (z + 0)), (2, .ref (z + 331)), (3, .ref (z + 338)), (4, .ref (z + 339)), (5, iv (i : Int))] (List.forall_mem_cons.mpr ⟨(by first | rfl | exact congrArg (fun t => some (iv t)) (by omega)), (List.forall_mem_cons.mpr ⟨(by first | rfl | exact congrArg (fun t => some (iv t)) (by omega)), (List.forall_mem_cons.mpr ⟨(by first | rfl | exact congrArg (fun t => some (iv t)) (by omega)), (List.forall_mem_cons.mpr ⟨(by first | rfl | exact congrArg (fun t => some (iv t)) (by omega)), (List.forall_mem_cons.mpr ⟨(by first | rfl | exact congrArg (fun t => some (iv t)) (by omega)), (List.forall_mem_cons.mpr ⟨(by first | rfl | exact congrArg (fun t => some (iv t)) (by omega)), (fun _ h => nomatch h)⟩)⟩)⟩)⟩)⟩)⟩) ?_
    refine V_widen (k := cells + 4) (n := slots + 24) (by omega) (by omega) ?_
    exact hk _ (LawE.mk d2 sA s4 l3 e8 e9 x4 (txD_I hDI) (show RelD (txD x) u4 N4 P tx from ⟨a4.trans r0, c4.trans r2, rN.congr hB n4, rV, rT⟩))
  · have eR : rdN (gT tx (xT x 0)) (xT x 0) 11 ((0, -1), 0, xF x, xM x) = rdD x := by unfold rdD; rw [gT_eq rT]
    obtain ⟨l3, x3, e8, e9, sA⟩ := law_mid0 hI s2
    obtain ⟨gn, g0, g1, g2, g3, g4, g5, g6⟩ := id x3
    refine V_aload_n C dL_law_1622 rfl ?_
    refine V_callV (fr := 4) (lo := 94) (mc := 0) (ms := 0) (As := []) C yvX7_parse w_1109 dL_law_1623 rfl rfl (by repeat (first | with_reducible assumption | with_reducible exact mset_self _ _ _ | refine (mset_ne (by omega)).trans ?_)) (by (try simp only [mset_1]); omega) rfl rfl (Nat.le_of_ble_eq_true rfl) ⟨Nat.le_of_ble_eq_true rfl, Nat.le_of_ble_eq_true rfl⟩ ⟨by show _ + 0 ≤ 601024; omega, by show _ + 0 ≤ 7293034; omega⟩ ?_
    refine ok_X7_parse x3 rw9 hB rI r0 hDc (n9 := xT x 0) r2 hDt (fun j hj => by rw [rT j hj]; exact hDI.2.2.2.2 j) (F0 := xF x) (M0 := xM x) (fun o => absurd (by rw [eR]; exact hc) o) (fun _ M4 u4 P4 N4 A4 s4 x4 a4 b4 c4 p4 n4 => ?_)
    obtain ⟨N8, h8, p5⟩ := p4
    have n5 := n4
    rw [eR] at n5
    obtain ⟨gn, g0, g1, g2, g3, g4, g5, g6⟩ := id x4
    have f1 := s4.1.trans l3
    refine V_eqS C (by rw [eR]) dL_law_1626 (tgt := 1689) (by decide) ?_
    refine V_lv [(0, .ref b), (1, .ref (z + 0)), (2, .ref (z + 331)), (3, .ref (z + 338)), (4, .ref (z + 339)), (5, iv (i : Int))] (List.forall_mem_cons.mpr ⟨(by first | rfl | exact congrArg (fun t => some (iv t)) (by omega)), (List.forall_mem_cons.mpr ⟨(by first | rfl | exact congrArg (fun t => some (iv t)) (by omega)), (List.forall_mem_cons.mpr ⟨(by first | rfl | exact congrArg (fun t => some (iv t)) (by omega)), (List.forall_mem_cons.mpr ⟨(by first | rfl | exact congrArg (fun t => some (iv t)) (by omega)), (List.forall_mem_cons.mpr ⟨(by first | rfl | exact congrArg (fun t => some (iv t)) (by omega)), (List.forall_mem_cons.mpr ⟨(by first | rfl | exact congrArg (fun t => some (iv t)) (by omega)), (fun _ h => nomatch h)⟩)⟩)⟩)⟩)⟩)⟩) ?_
    refine V_widen (k := cells + 4) (n := slots + 24) (by omega) (by omega) ?_
    exact hk _ (LawE.mk d2 sA s4 l3 e8 e9 x4 (DI.save (txD_I hDI) (RelN.parse rN hB (rdD_ok hDI).2.1 (rdD_ok hDI).2.2 n5).2) ((RelD.save (x := txD x) hR (txD_I hDI) h8 a4 c4 p5 (RelN.parse rN hB (rdD_ok hDI).2.1 (rdD_ok hDI).2.2 n5).1)))

