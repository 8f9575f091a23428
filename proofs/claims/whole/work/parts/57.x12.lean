/-! the law's cases that change the docket -/
set_option maxHeartbeats 1000000 in
set_option maxRecDepth 4000 in
theorem law_c4 {p : Program} {l : Launch} {e : Env} {s : State} {m : MethodId} {args : Array Value} {below : List Frame} {meth : Method} {c : Code} {D : va_G} {cy : Nat → ClassId} {z : Nat} {Q : State → Prop} {cells slots : Nat} {M : Mm} (C : Cx p l s m args meth c D cy z 9 cL_law RL) (hlt : l.stackTraces = false) {b L : Nat} {xs : Nat → Int32} (hX : va_X b L xs s s.heap) (hbl : b < s.heap.size) (hbA : ¬ z ≤ b) (hL : L ≤ 2560) {i : Nat} (hi : i + 5 ≤ L) (hcs : cells + 4 ≤ 601024 ∧ slots + 24 ≤ 7293034) {x : DD} {u N P A tx fr tl g9 : Nat → Int} {d9 : Nat → UInt64} (hI : LawI cy z M x u N P A tx fr tl g9 d9) (hk : ∀ M', LawE cy z M' → V p l e room_1 s m args below meth c D z 9 Q (cells + 4) (slots + 24) M' 1689 [(0, .ref b), (1, .ref (z + 0)), (2, .ref (z + 331)), (3, .ref (z + 338)), (4, .ref (z + 339)), (5, iv (i : Int))] []) : V p l e room_1 s m args below meth c D z 9 Q cells slots M 428 [(0, .ref b), (1, .ref (z + 0)), (2, .ref (z + 331)), (3, .ref (z + 338)), (4, .ref (z + 339)), (5, iv (i : Int))] [] := by
  obtain ⟨hD, hDI, hM, hM1, h338, h339, hR⟩ := id hI
  obtain ⟨r0, r2, rN, rV, rT⟩ := id hR
  obtain ⟨rw9, rI, rZ, rH⟩ := id rN
  have hB := hDI.1
  have hDc := hDI.2.1
  have hDt := hDI.2.2.2.1
  have hq6 := hB.2.2.1
  have hn10 := hB.2.1
  obtain ⟨v1, ev1⟩ : ∃ v, (xs (i + 1)).toInt = v := ⟨_, rfl⟩
  have rv1 : -2147483648 ≤ v1 ∧ v1 < 2147483648 := by rw [← ev1]; exact ⟨Int32.le_toInt _, Int32.toInt_lt _⟩
  obtain ⟨v2, ev2⟩ : ∃ v, (xs (i + 2)).toInt = v := ⟨_, rfl⟩
  have rv2 : -2147483648 ≤ v2 ∧ v2 < 2147483648 := by rw [← ev2]; exact ⟨Int32.le_toInt _, Int32.toInt_lt _⟩
  refine V_aload_n C dL_law_428 rfl ?_
  refine V_aload_n C dL_law_429 rfl ?_
  refine V_iload C dL_law_430 rfl ?_
  refine V_iconst C dL_law_432 ?_
  refine V_iadd C dL_law_433 ?_
  refine V_sld C hX hbl hbA (by omega) (by omega) (show _ = i + 1 by omega) ev1 dL_law_434 ?_
  refine V_aload_n C dL_law_435 rfl ?_
  refine V_iload C dL_law_436 rfl ?_
  refine V_iconst C dL_law_438 ?_
  refine V_iadd C dL_law_439 ?_
  refine V_sld C hX hbl hbA (by omega) (by omega) (show _ = i + 2 by omega) ev2 dL_law_440 ?_
  refine V_aload_n C dL_law_441 rfl ?_
  refine V_callW (fr := 8) (lo := 133) (mc := 3) (ms := 18) (As := [_, _, _, _]) C ywL_holiday w_549 dL_law_442 rfl rfl (Nat.le_of_ble_eq_true rfl) ⟨Nat.le_of_ble_eq_true rfl, Nat.le_of_ble_eq_true rfl⟩ ⟨by show _ + 3 ≤ 601024; omega, by show _ + 18 ≤ 7293034; omega⟩ ?_
  refine ok_L_holiday (g9 := g9) (G9 := fun a M2 => (∃ q : Nat, ((1 ≤ v1 ∧ v1 ≤ 12) ∧ (1 ≤ v2 ∧ v2 ≤ ml 0 v1)) ∧ sN (xS x) = 0 ∧ q < sH (xS x) ∧ ho (xS x) q = (100 * v1 + v2) ∧ a = ((sH (xS x) - 1 : Nat) : Int) ∧ Sm M M2 (fun q => q < 331) ∧ DockAt cy z M2 (setNow (svD x) (setH (xS x) (sH (xS x) - 1) (va_up (ho (xS x)) q (ho (xS x) (sH (xS x) - 1)))))) ∨ (((1 ≤ v1 ∧ v1 ≤ 12) ∧ (1 ≤ v2 ∧ v2 ≤ ml 0 v1)) ∧ sN (xS x) = 0 ∧ sH (xS x) < 6 ∧ (∀ j, j < sH (xS x) → ¬ ho (xS x) j = (100 * v1 + v2)) ∧ a = ((sH (xS x) + 1 : Nat) : Int) ∧ Sm M M2 (fun q => q < 331) ∧ DockAt cy z M2 (setNow (svD x) (setH (xS x) (sH (xS x) + 1) (va_up (ho (xS x)) (sH (xS x)) (100 * v1 + v2)))))) (GX := fun E => (¬ ((1 ≤ v1 ∧ v1 ≤ 12) ∧ (1 ≤ v2 ∧ v2 ≤ ml 0 v1)) ∧ E = eA) ∨ (((1 ≤ v1 ∧ v1 ≤ 12) ∧ (1 ≤ v2 ∧ v2 ≤ ml 0 v1)) ∧ ¬ (sN (xS x) = 0 ∧ (sH (xS x) < 6 ∨ hset (ho (xS x)) (sH (xS x)) (100 * v1 + v2) = true)) ∧ E = eS)) hD.2.1 (by omega) (fun h hx => ok_X6_holiday hD hDI hlt rv1 rv2 (fun c0 n0 M2 q hq hqe hqn s2 d2 => h _ M2 (Or.inl ⟨q, c0, n0, hq, hqe, rfl, s2, d2⟩)) (fun c0 n0 M2 h6 hno s2 d2 => h _ M2 (Or.inr ⟨c0, n0, h6, hno, rfl, s2, d2⟩)) (fun o => hx _ (Or.inl ⟨o, rfl⟩)) (fun c0 no => hx _ (Or.inr ⟨c0, no, rfl⟩))) (fun a M2 hg => ?_) (fun E hE => ?_)
  · rcases hg with ⟨q, c0, n0, hq, hqe, rfl, s2, d2⟩ | ⟨c0, n0, h6, hno, rfl, s2, d2⟩
    · have hs9 : hset (ho (xS x)) (sH (xS x)) (100 * v1 + v2) = true := hset_iff.mpr ⟨q, hq, hqe⟩
      refine ⟨(s2.2 _ (by omega)).trans h338, by have := s2.1; omega, ?_⟩
      refine V_memgen (fun M3 em3 => ?_)
      obtain ⟨l3, x3, e8, e9, sA⟩ := law_mid hI s2 em3
      clear em3
      obtain ⟨gn, g0, g1, g2, g3, g4, g5, g6⟩ := id x3
      refine V_istore C dL_law_445 (by decide) ?_
      refine V_aload_n C dL_law_447 rfl ?_
      refine V_aload_n C dL_law_448 rfl ?_
      refine V_iload C dL_law_449 rfl ?_
      refine V_iconst C dL_law_451 ?_
      refine V_iadd C dL_law_452 ?_
      refine V_sld C hX hbl hbA (by omega) (by omega) (show _ = i + 1 by omega) ev1 dL_law_453 ?_
      refine V_aload_n C dL_law_454 rfl ?_
      refine V_iload C dL_law_455 rfl ?_
      refine V_iconst C dL_law_457 ?_
      refine V_iadd C dL_law_458 ?_
      refine V_sld C hX hbl hbA (by omega) (by omega) (show _ = i + 2 by omega) ev2 dL_law_459 ?_
      refine V_callV (fr := 1) (lo := 23) (mc := 0) (ms := 0) (As := [_, _]) C yvX7_holiday w_901 dL_law_460 rfl rfl (by repeat (first | with_reducible assumption | with_reducible exact mset_self _ _ _ | refine (mset_ne (by omega)).trans ?_)) (by (try simp only [mset_1]); omega) rfl rfl (Nat.le_of_ble_eq_true rfl) ⟨Nat.le_of_ble_eq_true rfl, Nat.le_of_ble_eq_true rfl⟩ ⟨by show _ + 0 ≤ 601024; omega, by show _ + 0 ≤ 7293034; omega⟩ ?_
      refine ok_X7_holiday x3 rw9 hB rI r0 hDc rH rv1 rv2 (fun o => absurd c0 o) (fun _ no => absurd ⟨n0, Or.inr hs9⟩ no) (fun _ _ _ M4 u4 P4 N4 s4 x4 a4 b4 c4 p4 n4f => ?_) (fun _ _ _ hf => absurd (hs9.symm.trans hf) (by decide))
      have n4 := n4f q hq hqe
      obtain ⟨gn, g0, g1, g2, g3, g4, g5, g6⟩ := id x4
      have f8 := (s4.2 338 (fun o => by have := o.2; omega)).trans e8
      have f9 := (s4.2 339 (fun o => by have := o.2; omega)).trans e9
      have f1 := s4.1.trans l3
      refine V_istore C dL_law_463 (by decide) ?_
      refine V_aload_n C dL_law_465 rfl ?_
      refine V_callV (fr := 0) (lo := 0) (mc := 0) (ms := 0) (As := []) C yvX7_thrown w_841 dL_law_466 rfl rfl (by repeat (first | with_reducible assumption | with_reducible exact mset_self _ _ _ | refine (mset_ne (by omega)).trans ?_)) (by (try simp only [mset_1]); omega) rfl rfl (Nat.le_of_ble_eq_true rfl) ⟨Nat.le_of_ble_eq_true rfl, Nat.le_of_ble_eq_true rfl⟩ ⟨by show _ + 0 ≤ 601024; omega, by show _ + 0 ≤ 7293034; omega⟩ ?_
      refine ok_X7_thrown x4 ?_
      rw [b4]
      refine V_iload C dL_law_469 rfl ?_
      refine V_icmp_eq C dL_law_471 (tgt := 476) (by decide) (by omega) (by omega) (fun g471 => ?_) (fun g471 => ?_)
      · refine V_iload C dL_law_476 rfl ?_
        refine V_if_ne C dL_law_478 (tgt := 493) (by decide) (by omega) (fun g478 => ?_) (fun g478 => ?_)
        · exact absurd rfl g478
        · refine V_aload_n C dL_law_481 rfl ?_
          refine V_iconst C dL_law_482 ?_
          refine V_laload C dL_law_483 f8 (by (try simp only [mset_1]); omega) (by omega) (by omega) ?_
          refine V_iload C dL_law_484 rfl ?_
          refine V_i2lw C dL_law_486 ?_
          refine V_lcmp0 C (congrArg lgv (up_s _ 0 _).symm) dL_law_487 ?_
          refine V_ifeq0 C dL_law_488 (tgt := 493) (by decide) ?_
          refine V_goto C dL_law_493 (tgt := 1689) (by decide) ?_
          refine V_lv [(0, .ref b), (1, .ref (z + 0)), (2, .ref (z + 331)), (3, .ref (z + 338)), (4, .ref (z + 339)), (5, iv (i : Int))] (List.forall_mem_cons.mpr ⟨(by first | rfl | exact congrArg (fun t => some (iv t)) (by omega)), (List.forall_mem_cons.mpr ⟨(by first | rfl | exact congrArg (fun t => some (iv t)) (by omega)), (List.forall_mem_cons.mpr ⟨(by first | rfl | exact congrArg (fun t => some (iv t)) (by omega)), (List.forall_mem_cons.mpr ⟨(by first | rfl | exact congrArg (fun t => some (iv t)) (by omega)), (List.forall_mem_cons.mpr ⟨(by first | rfl | exact congrArg (fun t => some (iv t)) (by omega)), (List.forall_mem_cons.mpr ⟨(by first | rfl | exact congrArg (fun t => some (iv t)) (by omega)), (fun _ h => nomatch h)⟩)⟩)⟩)⟩)⟩)⟩) ?_
          refine V_widen (k := cells + 4) (n := slots + 24) (by omega) (by omega) ?_
          exact hk _ (LawE.mk d2 sA s4 l3 e8 e9 x4 (DI.save hDI (RelN.hol rN hB n0 (by omega) (up_rng hB.2.2.2.2.2.2.1 (hB.2.2.2.2.2.2.1 _)) (nd_rem hq rH) n4).2) (hR.save hDI (fun _ _ => rfl) a4 c4 p4 (RelN.hol rN hB n0 (by omega) (up_rng hB.2.2.2.2.2.2.1 (hB.2.2.2.2.2.2.1 _)) (nd_rem hq rH) n4).1))
      · exact absurd rfl g471
    · have hs9 := hset_no (v := (100 * v1 + v2)) hno
      refine ⟨(s2.2 _ (by omega)).trans h338, by have := s2.1; omega, ?_⟩
      refine V_memgen (fun M3 em3 => ?_)
      obtain ⟨l3, x3, e8, e9, sA⟩ := law_mid hI s2 em3
      clear em3
      obtain ⟨gn, g0, g1, g2, g3, g4, g5, g6⟩ := id x3
      refine V_istore C dL_law_445 (by decide) ?_
      refine V_aload_n C dL_law_447 rfl ?_
      refine V_aload_n C dL_law_448 rfl ?_
      refine V_iload C dL_law_449 rfl ?_
      refine V_iconst C dL_law_451 ?_
      refine V_iadd C dL_law_452 ?_
      refine V_sld C hX hbl hbA (by omega) (by omega) (show _ = i + 1 by omega) ev1 dL_law_453 ?_
      refine V_aload_n C dL_law_454 rfl ?_
      refine V_iload C dL_law_455 rfl ?_
      refine V_iconst C dL_law_457 ?_
      refine V_iadd C dL_law_458 ?_
      refine V_sld C hX hbl hbA (by omega) (by omega) (show _ = i + 2 by omega) ev2 dL_law_459 ?_
      refine V_callV (fr := 1) (lo := 23) (mc := 0) (ms := 0) (As := [_, _]) C yvX7_holiday w_901 dL_law_460 rfl rfl (by repeat (first | with_reducible assumption | with_reducible exact mset_self _ _ _ | refine (mset_ne (by omega)).trans ?_)) (by (try simp only [mset_1]); omega) rfl rfl (Nat.le_of_ble_eq_true rfl) ⟨Nat.le_of_ble_eq_true rfl, Nat.le_of_ble_eq_true rfl⟩ ⟨by show _ + 0 ≤ 601024; omega, by show _ + 0 ≤ 7293034; omega⟩ ?_
      refine ok_X7_holiday x3 rw9 hB rI r0 hDc rH rv1 rv2 (fun o => absurd c0 o) (fun _ no => absurd ⟨n0, Or.inl h6⟩ no) (fun _ _ hf => absurd (hs9.symm.trans hf) (by decide)) (fun _ _ _ _ M4 u4 P4 N4 s4 x4 a4 b4 c4 p4 n4 => ?_)
      obtain ⟨gn, g0, g1, g2, g3, g4, g5, g6⟩ := id x4
      have f8 := (s4.2 338 (fun o => by have := o.2; omega)).trans e8
      have f9 := (s4.2 339 (fun o => by have := o.2; omega)).trans e9
      have f1 := s4.1.trans l3
      refine V_istore C dL_law_463 (by decide) ?_
      refine V_aload_n C dL_law_465 rfl ?_
      refine V_callV (fr := 0) (lo := 0) (mc := 0) (ms := 0) (As := []) C yvX7_thrown w_841 dL_law_466 rfl rfl (by repeat (first | with_reducible assumption | with_reducible exact mset_self _ _ _ | refine (mset_ne (by omega)).trans ?_)) (by (try simp only [mset_1]); omega) rfl rfl (Nat.le_of_ble_eq_true rfl) ⟨Nat.le_of_ble_eq_true rfl, Nat.le_of_ble_eq_true rfl⟩ ⟨by show _ + 0 ≤ 601024; omega, by show _ + 0 ≤ 7293034; omega⟩ ?_
      refine ok_X7_thrown x4 ?_
      rw [b4]
      refine V_iload C dL_law_469 rfl ?_
      refine V_icmp_eq C dL_law_471 (tgt := 476) (by decide) (by omega) (by omega) (fun g471 => ?_) (fun g471 => ?_)
      · refine V_iload C dL_law_476 rfl ?_
        refine V_if_ne C dL_law_478 (tgt := 493) (by decide) (by omega) (fun g478 => ?_) (fun g478 => ?_)
        · exact absurd rfl g478
        · refine V_aload_n C dL_law_481 rfl ?_
          refine V_iconst C dL_law_482 ?_
          refine V_laload C dL_law_483 f8 (by (try simp only [mset_1]); omega) (by omega) (by omega) ?_
          refine V_iload C dL_law_484 rfl ?_
          refine V_i2lw C dL_law_486 ?_
          refine V_lcmp0 C (congrArg lgv (up_s _ 0 _).symm) dL_law_487 ?_
          refine V_ifeq0 C dL_law_488 (tgt := 493) (by decide) ?_
          refine V_goto C dL_law_493 (tgt := 1689) (by decide) ?_
          refine V_lv [(0, .ref b), (1, .ref (z + 0)), (2, .ref (z + 331)), (3, .ref (z + 338)), (4, .ref (z + 339)), (5, iv (i : Int))] (List.forall_mem_cons.mpr ⟨(by first | rfl | exact congrArg (fun t => some (iv t)) (by omega)), (List.forall_mem_cons.mpr ⟨(by first | rfl | exact congrArg (fun t => some (iv t)) (by omega)), (List.forall_mem_cons.mpr ⟨(by first | rfl | exact congrArg (fun t => some (iv t)) (by omega)), (List.forall_mem_cons.mpr ⟨(by first | rfl | exact congrArg (fun t => some (iv t)) (by omega)), (List.forall_mem_cons.mpr ⟨(by first | rfl | exact congrArg (fun t => some (iv t)) (by omega)), (List.forall_mem_cons.mpr ⟨(by first | rfl | exact congrArg (fun t => some (iv t)) (by omega)), (fun _ h => nomatch h)⟩)⟩)⟩)⟩)⟩)⟩) ?_
          refine V_widen (k := cells + 4) (n := slots + 24) (by omega) (by omega) ?_
          exact hk _ (LawE.mk d2 sA s4 l3 e8 e9 x4 (DI.save hDI (RelN.hol rN hB n0 (by omega) (up_rng hB.2.2.2.2.2.2.1 (by have := ml_rng 0 v1; omega)) (nd_add rH hno) n4).2) (hR.save hDI (fun _ _ => rfl) a4 c4 p4 (RelN.hol rN hB n0 (by omega) (up_rng hB.2.2.2.2.2.2.1 (by have := ml_rng 0 v1; omega)) (nd_add rH hno) n4).1))
      · exact absurd rfl g471
  · rcases hE with ⟨hc, rfl⟩ | ⟨c0, no, rfl⟩
    · refine Or.inl ⟨rfl, ?_⟩
      have x3 := hM
      have l3 := hM1
      have e8 := h338
      have e9 := h339
      have s2 : Sm M M (fun j => j < 331) := Sm.rf _ _
      have sA : Sm M M (fun j => 331 ≤ j) := Sm.rf _ _
      have d2 := hD
      obtain ⟨gn, g0, g1, g2, g3, g4, g5, g6⟩ := id x3
      refine V_istore C dL_law_445 (by decide) ?_
      refine V_aload_n C dL_law_447 rfl ?_
      refine V_aload_n C dL_law_448 rfl ?_
      refine V_iload C dL_law_449 rfl ?_
      refine V_iconst C dL_law_451 ?_
      refine V_iadd C dL_law_452 ?_
      refine V_sld C hX hbl hbA (by omega) (by omega) (show _ = i + 1 by omega) ev1 dL_law_453 ?_
      refine V_aload_n C dL_law_454 rfl ?_
      refine V_iload C dL_law_455 rfl ?_
      refine V_iconst C dL_law_457 ?_
      refine V_iadd C dL_law_458 ?_
      refine V_sld C hX hbl hbA (by omega) (by omega) (show _ = i + 2 by omega) ev2 dL_law_459 ?_
      refine V_callV (fr := 1) (lo := 23) (mc := 0) (ms := 0) (As := [_, _]) C yvX7_holiday w_901 dL_law_460 rfl rfl (by repeat (first | with_reducible assumption | with_reducible exact mset_self _ _ _ | refine (mset_ne (by omega)).trans ?_)) (by (try simp only [mset_1]); omega) rfl rfl (Nat.le_of_ble_eq_true rfl) ⟨Nat.le_of_ble_eq_true rfl, Nat.le_of_ble_eq_true rfl⟩ ⟨by show _ + 0 ≤ 601024; omega, by show _ + 0 ≤ 7293034; omega⟩ ?_
      refine ok_X7_holiday x3 rw9 hB rI r0 hDc rH rv1 rv2 (fun _ M4 s4 x4 => ?_) (fun c0 _ => absurd c0 hc) (fun c0 _ _ => absurd c0 hc) (fun c0 _ _ _ => absurd c0 hc)
      have b4 : va_up u 1 1 1 = 1 := up_s _ _ _
      obtain ⟨gn, g0, g1, g2, g3, g4, g5, g6⟩ := id x4
      have f8 := (s4.2 338 (fun o => by have := o.2; omega)).trans e8
      have f9 := (s4.2 339 (fun o => by have := o.2; omega)).trans e9
      have f1 := s4.1.trans l3
      refine V_istore C dL_law_463 (by decide) ?_
      refine V_aload_n C dL_law_465 rfl ?_
      refine V_callV (fr := 0) (lo := 0) (mc := 0) (ms := 0) (As := []) C yvX7_thrown w_841 dL_law_466 rfl rfl (by repeat (first | with_reducible assumption | with_reducible exact mset_self _ _ _ | refine (mset_ne (by omega)).trans ?_)) (by (try simp only [mset_1]); omega) rfl rfl (Nat.le_of_ble_eq_true rfl) ⟨Nat.le_of_ble_eq_true rfl, Nat.le_of_ble_eq_true rfl⟩ ⟨by show _ + 0 ≤ 601024; omega, by show _ + 0 ≤ 7293034; omega⟩ ?_
      refine ok_X7_thrown x4 ?_
      rw [b4]
      refine V_iload C dL_law_469 rfl ?_
      refine V_icmp_eq C dL_law_471 (tgt := 476) (by decide) (by omega) (by omega) (fun g471 => ?_) (fun g471 => ?_)
      · refine V_iload C dL_law_476 rfl ?_
        refine V_if_ne C dL_law_478 (tgt := 493) (by decide) (by omega) (fun g478 => ?_) (fun g478 => ?_)
        · refine V_goto C dL_law_493 (tgt := 1689) (by decide) ?_
          refine V_lv [(0, .ref b), (1, .ref (z + 0)), (2, .ref (z + 331)), (3, .ref (z + 338)), (4, .ref (z + 339)), (5, iv (i : Int))] (List.forall_mem_cons.mpr ⟨(by first | rfl | exact congrArg (fun t => some (iv t)) (by omega)), (List.forall_mem_cons.mpr ⟨(by first | rfl | exact congrArg (fun t => some (iv t)) (by omega)), (List.forall_mem_cons.mpr ⟨(by first | rfl | exact congrArg (fun t => some (iv t)) (by omega)), (List.forall_mem_cons.mpr ⟨(by first | rfl | exact congrArg (fun t => some (iv t)) (by omega)), (List.forall_mem_cons.mpr ⟨(by first | rfl | exact congrArg (fun t => some (iv t)) (by omega)), (List.forall_mem_cons.mpr ⟨(by first | rfl | exact congrArg (fun t => some (iv t)) (by omega)), (fun _ h => nomatch h)⟩)⟩)⟩)⟩)⟩)⟩) ?_
          refine V_widen (k := cells + 4) (n := slots + 24) (by omega) (by omega) ?_
          exact hk _ (LawE.mk d2 sA s4 l3 e8 e9 x4 hDI (hR.same rfl rfl))
        · exact absurd g478 (by decide)
      · exact absurd rfl g471
    · refine Or.inr  ⟨rfl, ?_⟩
      have x3 := hM
      have l3 := hM1
      have e8 := h338
      have e9 := h339
      have s2 : Sm M M (fun j => j < 331) := Sm.rf _ _
      have sA : Sm M M (fun j => 331 ≤ j) := Sm.rf _ _
      have d2 := hD
      obtain ⟨gn, g0, g1, g2, g3, g4, g5, g6⟩ := id x3
      refine V_istore C dL_law_445 (by decide) ?_
      refine V_aload_n C dL_law_447 rfl ?_
      refine V_aload_n C dL_law_448 rfl ?_
      refine V_iload C dL_law_449 rfl ?_
      refine V_iconst C dL_law_451 ?_
      refine V_iadd C dL_law_452 ?_
      refine V_sld C hX hbl hbA (by omega) (by omega) (show _ = i + 1 by omega) ev1 dL_law_453 ?_
      refine V_aload_n C dL_law_454 rfl ?_
      refine V_iload C dL_law_455 rfl ?_
      refine V_iconst C dL_law_457 ?_
      refine V_iadd C dL_law_458 ?_
      refine V_sld C hX hbl hbA (by omega) (by omega) (show _ = i + 2 by omega) ev2 dL_law_459 ?_
      refine V_callV (fr := 1) (lo := 23) (mc := 0) (ms := 0) (As := [_, _]) C yvX7_holiday w_901 dL_law_460 rfl rfl (by repeat (first | with_reducible assumption | with_reducible exact mset_self _ _ _ | refine (mset_ne (by omega)).trans ?_)) (by (try simp only [mset_1]); omega) rfl rfl (Nat.le_of_ble_eq_true rfl) ⟨Nat.le_of_ble_eq_true rfl, Nat.le_of_ble_eq_true rfl⟩ ⟨by show _ + 0 ≤ 601024; omega, by show _ + 0 ≤ 7293034; omega⟩ ?_
      refine ok_X7_holiday x3 rw9 hB rI r0 hDc rH rv1 rv2 (fun o => absurd c0 o) (fun _ _ M4 s4 x4 => ?_) (fun _ n0 hs => absurd ⟨n0, Or.inr hs⟩ no) (fun _ n0 h6 _ => absurd ⟨n0, Or.inl h6⟩ no)
      have b4 : va_up u 1 2 1 = 2 := up_s _ _ _
      obtain ⟨gn, g0, g1, g2, g3, g4, g5, g6⟩ := id x4
      have f8 := (s4.2 338 (fun o => by have := o.2; omega)).trans e8
      have f9 := (s4.2 339 (fun o => by have := o.2; omega)).trans e9
      have f1 := s4.1.trans l3
      refine V_istore C dL_law_463 (by decide) ?_
      refine V_aload_n C dL_law_465 rfl ?_
      refine V_callV (fr := 0) (lo := 0) (mc := 0) (ms := 0) (As := []) C yvX7_thrown w_841 dL_law_466 rfl rfl (by repeat (first | with_reducible assumption | with_reducible exact mset_self _ _ _ | refine (mset_ne (by omega)).trans ?_)) (by (try simp only [mset_1]); omega) rfl rfl (Nat.le_of_ble_eq_true rfl) ⟨Nat.le_of_ble_eq_true rfl, Nat.le_of_ble_eq_true rfl⟩ ⟨by show _ + 0 ≤ 601024; omega, by show _ + 0 ≤ 7293034; omega⟩ ?_
      refine ok_X7_thrown x4 ?_
      rw [b4]
      refine V_iload C dL_law_469 rfl ?_
      refine V_icmp_eq C dL_law_471 (tgt := 476) (by decide) (by omega) (by omega) (fun g471 => ?_) (fun g471 => ?_)
      · refine V_iload C dL_law_476 rfl ?_
        refine V_if_ne C dL_law_478 (tgt := 493) (by decide) (by omega) (fun g478 => ?_) (fun g478 => ?_)
        · refine V_goto C dL_law_493 (tgt := 1689) (by decide) ?_
          refine V_lv [(0, .ref b), (1, .ref (z + 0)), (2, .ref (z + 331)), (3, .ref (z + 338)), (4, .ref (z + 339)), (5, iv (i : Int))] (List.forall_mem_cons.mpr ⟨(by first | rfl | exact congrArg (fun t => some (iv t)) (by omega)), (List.forall_mem_cons.mpr ⟨(by first | rfl | exact congrArg (fun t => some (iv t)) (by omega)), (List.forall_mem_cons.mpr ⟨(by first | rfl | exact congrArg (fun t => some (iv t)) (by omega)), (List.forall_mem_cons.mpr ⟨(by first | rfl | exact congrArg (fun t => some (iv t)) (by omega)), (List.forall_mem_cons.mpr ⟨(by first | rfl | exact congrArg (fun t => some (iv t)) (by omega)), (List.forall_mem_cons.mpr ⟨(by first | rfl | exact congrArg (fun t => some (iv t)) (by omega)), (fun _ h => nomatch h)⟩)⟩)⟩)⟩)⟩)⟩) ?_
          refine V_widen (k := cells + 4) (n := slots + 24) (by omega) (by omega) ?_
          exact hk _ (LawE.mk d2 sA s4 l3 e8 e9 x4 hDI (hR.same rfl rfl))
        · exact absurd g478 (by decide)
      · exact absurd rfl g471

set_option maxHeartbeats 1000000 in
set_option maxRecDepth 4000 in
theorem law_c5 {p : Program} {l : Launch} {e : Env} {s : State} {m : MethodId} {args : Array Value} {below : List Frame} {meth : Method} {c : Code} {D : va_G} {cy : Nat → ClassId} {z : Nat} {Q : State → Prop} {cells slots : Nat} {M : Mm} (C : Cx p l s m args meth c D cy z 9 cL_law RL) (hlt : l.stackTraces = false) {b L : Nat} {xs : Nat → Int32} (hX : va_X b L xs s s.heap) (hbl : b < s.heap.size) (hbA : ¬ z ≤ b) (hL : L ≤ 2560) {i : Nat} (hi : i + 5 ≤ L) (hcs : cells + 4 ≤ 601024 ∧ slots + 24 ≤ 7293034) {x : DD} {u N P A tx fr tl g9 : Nat → Int} {d9 : Nat → UInt64} (hI : LawI cy z M x u N P A tx fr tl g9 d9) (hk : ∀ M', LawE cy z M' → V p l e room_1 s m args below meth c D z 9 Q (cells + 4) (slots + 24) M' 1689 [(0, .ref b), (1, .ref (z + 0)), (2, .ref (z + 331)), (3, .ref (z + 338)), (4, .ref (z + 339)), (5, iv (i : Int))] []) : V p l e room_1 s m args below meth c D z 9 Q cells slots M 496 [(0, .ref b), (1, .ref (z + 0)), (2, .ref (z + 331)), (3, .ref (z + 338)), (4, .ref (z + 339)), (5, iv (i : Int))] [] := by
  obtain ⟨hD, hDI, hM, hM1, h338, h339, hR⟩ := id hI
  obtain ⟨r0, r2, rN, rV, rT⟩ := id hR
  obtain ⟨rw9, rI, rZ, rH⟩ := id rN
  have hB := hDI.1
  have hDc := hDI.2.1
  have hDt := hDI.2.2.2.1
  have hq6 := hB.2.2.1
  have hn10 := hB.2.1
  obtain ⟨v1, ev1⟩ : ∃ v, (xs (i + 1)).toInt = v := ⟨_, rfl⟩
  have rv1 : -2147483648 ≤ v1 ∧ v1 < 2147483648 := by rw [← ev1]; exact ⟨Int32.le_toInt _, Int32.toInt_lt _⟩
  refine V_aload_n C dL_law_496 rfl ?_
  refine V_aload_n C dL_law_497 rfl ?_
  refine V_iload C dL_law_498 rfl ?_
  refine V_iconst C dL_law_500 ?_
  refine V_iadd C dL_law_501 ?_
  refine V_sld C hX hbl hbA (by omega) (by omega) (show _ = i + 1 by omega) ev1 dL_law_502 ?_
  refine V_if_eq C dL_law_503 (tgt := 510) (by decide) (by omega) (fun g503 => ?_) (fun g503 => ?_)
  · refine V_iconst C dL_law_510 ?_
    refine V_aload_n C dL_law_511 rfl ?_
    refine V_callW (fr := 8) (lo := 156) (mc := 1) (ms := 6) (As := [_, _, _]) C ywL_file w_588 dL_law_512 rfl rfl (Nat.le_of_ble_eq_true rfl) ⟨Nat.le_of_ble_eq_true rfl, Nat.le_of_ble_eq_true rfl⟩ ⟨by show _ + 1 ≤ 601024; omega, by show _ + 6 ≤ 7293034; omega⟩ ?_
    refine ok_L_file (g9 := g9) (G9 := fun a M2 => (sN (xS x) < 10 ∧ sc (xS x) 0 ≤ 18262) ∧ a = (sN (xS x) : Int) ∧ Sm M M2 (fun q => q < 331) ∧ DockAt cy z M2 (setNow (svD x) (addS (xS x) (sc (xS x) 0) 0))) (GX := fun E => ¬ (sN (xS x) < 10 ∧ sc (xS x) 0 ≤ 18262) ∧ E = eS) hD.2.1 (by omega) (fun h hx => ok_X6_file hD hDI hlt (w := 0) (by omega) (fun o M2 s2 d2 => h _ M2 ⟨o, rfl, s2, d2⟩) (fun o => hx _ ⟨o, rfl⟩)) (fun a M2 hg => ?_) (fun E hE => ?_)
    · rcases hg with ⟨hc, rfl, s2, d2⟩
      · refine ⟨(s2.2 _ (by omega)).trans h338, by have := s2.1; omega, ?_⟩
        refine V_memgen (fun M3 em3 => ?_)
        obtain ⟨l3, x3, e8, e9, sA⟩ := law_mid hI s2 em3
        clear em3
        obtain ⟨gn, g0, g1, g2, g3, g4, g5, g6⟩ := id x3
        refine V_istore C dL_law_515 (by decide) ?_
        refine V_aload_n C dL_law_517 rfl ?_
        refine V_aload_n C dL_law_518 rfl ?_
        refine V_iload C dL_law_519 rfl ?_
        refine V_iconst C dL_law_521 ?_
        refine V_iadd C dL_law_522 ?_
        refine V_sld C hX hbl hbA (by omega) (by omega) (show _ = i + 1 by omega) ev1 dL_law_523 ?_
        refine V_if_eq C dL_law_524 (tgt := 531) (by decide) (by omega) (fun g524 => ?_) (fun g524 => ?_)
        · refine V_iconst C dL_law_531 ?_
          refine V_callV (fr := 2) (lo := 44) (mc := 0) (ms := 0) (As := [_]) C yvX7_file w_913 dL_law_532 rfl rfl (by repeat (first | with_reducible assumption | with_reducible exact mset_self _ _ _ | refine (mset_ne (by omega)).trans ?_)) (by (try simp only [mset_1]); omega) rfl rfl (Nat.le_of_ble_eq_true rfl) ⟨Nat.le_of_ble_eq_true rfl, Nat.le_of_ble_eq_true rfl⟩ ⟨by show _ + 0 ≤ 601024; omega, by show _ + 0 ≤ 7293034; omega⟩ ?_
          refine ok_X7_file x3 rw9 hB rI r0 hDc (w := 0) (by omega) (fun o => absurd hc o) (fun _ M4 u4 P4 N4 s4 x4 a4 b4 c4 p4 n4 => ?_)
          obtain ⟨gn, g0, g1, g2, g3, g4, g5, g6⟩ := id x4
          have f8 := (s4.2 338 (fun o => by have := o.2; omega)).trans e8
          have f9 := (s4.2 339 (fun o => by have := o.2; omega)).trans e9
          have f1 := s4.1.trans l3
          refine V_istore C dL_law_535 (by decide) ?_
          refine V_aload_n C dL_law_537 rfl ?_
          refine V_callV (fr := 0) (lo := 0) (mc := 0) (ms := 0) (As := []) C yvX7_thrown w_841 dL_law_538 rfl rfl (by repeat (first | with_reducible assumption | with_reducible exact mset_self _ _ _ | refine (mset_ne (by omega)).trans ?_)) (by (try simp only [mset_1]); omega) rfl rfl (Nat.le_of_ble_eq_true rfl) ⟨Nat.le_of_ble_eq_true rfl, Nat.le_of_ble_eq_true rfl⟩ ⟨by show _ + 0 ≤ 601024; omega, by show _ + 0 ≤ 7293034; omega⟩ ?_
          refine ok_X7_thrown x4 ?_
          rw [b4]
          refine V_iload C dL_law_541 rfl ?_
          refine V_icmp_eq C dL_law_543 (tgt := 548) (by decide) (by omega) (by omega) (fun g543 => ?_) (fun g543 => ?_)
          · refine V_iload C dL_law_548 rfl ?_
            refine V_if_ne C dL_law_550 (tgt := 565) (by decide) (by omega) (fun g550 => ?_) (fun g550 => ?_)
            · exact absurd rfl g550
            · refine V_aload_n C dL_law_553 rfl ?_
              refine V_iconst C dL_law_554 ?_
              refine V_laload C dL_law_555 f8 (by (try simp only [mset_1]); omega) (by omega) (by omega) ?_
              refine V_iload C dL_law_556 rfl ?_
              refine V_i2lw C dL_law_558 ?_
              refine V_lcmp0 C (congrArg lgv (up_s _ 0 _).symm) dL_law_559 ?_
              refine V_ifeq0 C dL_law_560 (tgt := 565) (by decide) ?_
              refine V_goto C dL_law_565 (tgt := 1689) (by decide) ?_
              refine V_lv [(0, .ref b), (1, .ref (z + 0)), (2, .ref (z + 331)), (3, .ref (z + 338)), (4, .ref (z + 339)), (5, iv (i : Int))] (List.forall_mem_cons.mpr ⟨(by first | rfl | exact congrArg (fun t => some (iv t)) (by omega)), (List.forall_mem_cons.mpr ⟨(by first | rfl | exact congrArg (fun t => some (iv t)) (by omega)), (List.forall_mem_cons.mpr ⟨(by first | rfl | exact congrArg (fun t => some (iv t)) (by omega)), (List.forall_mem_cons.mpr ⟨(by first | rfl | exact congrArg (fun t => some (iv t)) (by omega)), (List.forall_mem_cons.mpr ⟨(by first | rfl | exact congrArg (fun t => some (iv t)) (by omega)), (List.forall_mem_cons.mpr ⟨(by first | rfl | exact congrArg (fun t => some (iv t)) (by omega)), (fun _ h => nomatch h)⟩)⟩)⟩)⟩)⟩)⟩) ?_
              refine V_widen (k := cells + 4) (n := slots + 24) (by omega) (by omega) ?_
              exact hk _ (LawE.mk d2 sA s4 l3 e8 e9 x4 (DI.save hDI (RelN.file (w := 0) rN hB (by omega) hc.1 hc.2 n4).2) (hR.save hDI (fun _ _ => rfl) a4 c4 p4 (RelN.file (w := 0) rN hB (by omega) hc.1 hc.2 n4).1))
          · exact absurd rfl g543
        · exact absurd g503 g524
    · rcases hE with ⟨hc, rfl⟩
      · refine ⟨rfl, ?_⟩
        have x3 := hM
        have l3 := hM1
        have e8 := h338
        have e9 := h339
        have s2 : Sm M M (fun j => j < 331) := Sm.rf _ _
        have sA : Sm M M (fun j => 331 ≤ j) := Sm.rf _ _
        have d2 := hD
        obtain ⟨gn, g0, g1, g2, g3, g4, g5, g6⟩ := id x3
        refine V_istore C dL_law_515 (by decide) ?_
        refine V_aload_n C dL_law_517 rfl ?_
        refine V_aload_n C dL_law_518 rfl ?_
        refine V_iload C dL_law_519 rfl ?_
        refine V_iconst C dL_law_521 ?_
        refine V_iadd C dL_law_522 ?_
        refine V_sld C hX hbl hbA (by omega) (by omega) (show _ = i + 1 by omega) ev1 dL_law_523 ?_
        refine V_if_eq C dL_law_524 (tgt := 531) (by decide) (by omega) (fun g524 => ?_) (fun g524 => ?_)
        · refine V_iconst C dL_law_531 ?_
          refine V_callV (fr := 2) (lo := 44) (mc := 0) (ms := 0) (As := [_]) C yvX7_file w_913 dL_law_532 rfl rfl (by repeat (first | with_reducible assumption | with_reducible exact mset_self _ _ _ | refine (mset_ne (by omega)).trans ?_)) (by (try simp only [mset_1]); omega) rfl rfl (Nat.le_of_ble_eq_true rfl) ⟨Nat.le_of_ble_eq_true rfl, Nat.le_of_ble_eq_true rfl⟩ ⟨by show _ + 0 ≤ 601024; omega, by show _ + 0 ≤ 7293034; omega⟩ ?_
          refine ok_X7_file x3 rw9 hB rI r0 hDc (w := 0) (by omega) (fun _ M4 s4 x4 => ?_) (fun o => absurd o hc)
          have b4 : va_up u 1 1 1 = 1 := up_s _ _ _
          obtain ⟨gn, g0, g1, g2, g3, g4, g5, g6⟩ := id x4
          have f8 := (s4.2 338 (fun o => by have := o.2; omega)).trans e8
          have f9 := (s4.2 339 (fun o => by have := o.2; omega)).trans e9
          have f1 := s4.1.trans l3
          refine V_istore C dL_law_535 (by decide) ?_
          refine V_aload_n C dL_law_537 rfl ?_
          refine V_callV (fr := 0) (lo := 0) (mc := 0) (ms := 0) (As := []) C yvX7_thrown w_841 dL_law_538 rfl rfl (by repeat (first | with_reducible assumption | with_reducible exact mset_self _ _ _ | refine (mset_ne (by omega)).trans ?_)) (by (try simp only [mset_1]); omega) rfl rfl (Nat.le_of_ble_eq_true rfl) ⟨Nat.le_of_ble_eq_true rfl, Nat.le_of_ble_eq_true rfl⟩ ⟨by show _ + 0 ≤ 601024; omega, by show _ + 0 ≤ 7293034; omega⟩ ?_
          refine ok_X7_thrown x4 ?_
          rw [b4]
          refine V_iload C dL_law_541 rfl ?_
          refine V_icmp_eq C dL_law_543 (tgt := 548) (by decide) (by omega) (by omega) (fun g543 => ?_) (fun g543 => ?_)
          · refine V_iload C dL_law_548 rfl ?_
            refine V_if_ne C dL_law_550 (tgt := 565) (by decide) (by omega) (fun g550 => ?_) (fun g550 => ?_)
            · refine V_goto C dL_law_565 (tgt := 1689) (by decide) ?_
              refine V_lv [(0, .ref b), (1, .ref (z + 0)), (2, .ref (z + 331)), (3, .ref (z + 338)), (4, .ref (z + 339)), (5, iv (i : Int))] (List.forall_mem_cons.mpr ⟨(by first | rfl | exact congrArg (fun t => some (iv t)) (by omega)), (List.forall_mem_cons.mpr ⟨(by first | rfl | exact congrArg (fun t => some (iv t)) (by omega)), (List.forall_mem_cons.mpr ⟨(by first | rfl | exact congrArg (fun t => some (iv t)) (by omega)), (List.forall_mem_cons.mpr ⟨(by first | rfl | exact congrArg (fun t => some (iv t)) (by omega)), (List.forall_mem_cons.mpr ⟨(by first | rfl | exact congrArg (fun t => some (iv t)) (by omega)), (List.forall_mem_cons.mpr ⟨(by first | rfl | exact congrArg (fun t => some (iv t)) (by omega)), (fun _ h => nomatch h)⟩)⟩)⟩)⟩)⟩)⟩) ?_
              refine V_widen (k := cells + 4) (n := slots + 24) (by omega) (by omega) ?_
              exact hk _ (LawE.mk d2 sA s4 l3 e8 e9 x4 hDI (hR.same rfl rfl))
            · exact absurd g550 (by decide)
          · exact absurd rfl g543
        · exact absurd g503 g524
  · refine V_iconst C dL_law_506 ?_
    refine V_goto C dL_law_507 (tgt := 511) (by decide) ?_
    refine V_aload_n C dL_law_511 rfl ?_
    refine V_callW (fr := 8) (lo := 156) (mc := 1) (ms := 6) (As := [_, _, _]) C ywL_file w_588 dL_law_512 rfl rfl (Nat.le_of_ble_eq_true rfl) ⟨Nat.le_of_ble_eq_true rfl, Nat.le_of_ble_eq_true rfl⟩ ⟨by show _ + 1 ≤ 601024; omega, by show _ + 6 ≤ 7293034; omega⟩ ?_
    refine ok_L_file (g9 := g9) (G9 := fun a M2 => (sN (xS x) < 10 ∧ sc (xS x) 0 ≤ 18262) ∧ a = (sN (xS x) : Int) ∧ Sm M M2 (fun q => q < 331) ∧ DockAt cy z M2 (setNow (svD x) (addS (xS x) (sc (xS x) 0) 1))) (GX := fun E => ¬ (sN (xS x) < 10 ∧ sc (xS x) 0 ≤ 18262) ∧ E = eS) hD.2.1 (by omega) (fun h hx => ok_X6_file hD hDI hlt (w := 1) (by omega) (fun o M2 s2 d2 => h _ M2 ⟨o, rfl, s2, d2⟩) (fun o => hx _ ⟨o, rfl⟩)) (fun a M2 hg => ?_) (fun E hE => ?_)
    · rcases hg with ⟨hc, rfl, s2, d2⟩
      · refine ⟨(s2.2 _ (by omega)).trans h338, by have := s2.1; omega, ?_⟩
        refine V_memgen (fun M3 em3 => ?_)
        obtain ⟨l3, x3, e8, e9, sA⟩ := law_mid hI s2 em3
        clear em3
        obtain ⟨gn, g0, g1, g2, g3, g4, g5, g6⟩ := id x3
        refine V_istore C dL_law_515 (by decide) ?_
        refine V_aload_n C dL_law_517 rfl ?_
        refine V_aload_n C dL_law_518 rfl ?_
        refine V_iload C dL_law_519 rfl ?_
        refine V_iconst C dL_law_521 ?_
        refine V_iadd C dL_law_522 ?_
        refine V_sld C hX hbl hbA (by omega) (by omega) (show _ = i + 1 by omega) ev1 dL_law_523 ?_
        refine V_if_eq C dL_law_524 (tgt := 531) (by decide) (by omega) (fun g524 => ?_) (fun g524 => ?_)
        · exact absurd g524 g503
        · refine V_iconst C dL_law_527 ?_
          refine V_goto C dL_law_528 (tgt := 532) (by decide) ?_
          refine V_callV (fr := 2) (lo := 44) (mc := 0) (ms := 0) (As := [_]) C yvX7_file w_913 dL_law_532 rfl rfl (by repeat (first | with_reducible assumption | with_reducible exact mset_self _ _ _ | refine (mset_ne (by omega)).trans ?_)) (by (try simp only [mset_1]); omega) rfl rfl (Nat.le_of_ble_eq_true rfl) ⟨Nat.le_of_ble_eq_true rfl, Nat.le_of_ble_eq_true rfl⟩ ⟨by show _ + 0 ≤ 601024; omega, by show _ + 0 ≤ 7293034; omega⟩ ?_
          refine ok_X7_file x3 rw9 hB rI r0 hDc (w := 1) (by omega) (fun o => absurd hc o) (fun _ M4 u4 P4 N4 s4 x4 a4 b4 c4 p4 n4 => ?_)
          obtain ⟨gn, g0, g1, g2, g3, g4, g5, g6⟩ := id x4
          have f8 := (s4.2 338 (fun o => by have := o.2; omega)).trans e8
          have f9 := (s4.2 339 (fun o => by have := o.2; omega)).trans e9
          have f1 := s4.1.trans l3
          refine V_istore C dL_law_535 (by decide) ?_
          refine V_aload_n C dL_law_537 rfl ?_
          refine V_callV (fr := 0) (lo := 0) (mc := 0) (ms := 0) (As := []) C yvX7_thrown w_841 dL_law_538 rfl rfl (by repeat (first | with_reducible assumption | with_reducible exact mset_self _ _ _ | refine (mset_ne (by omega)).trans ?_)) (by (try simp only [mset_1]); omega) rfl rfl (Nat.le_of_ble_eq_true rfl) ⟨Nat.le_of_ble_eq_true rfl, Nat.le_of_ble_eq_true rfl⟩ ⟨by show _ + 0 ≤ 601024; omega, by show _ + 0 ≤ 7293034; omega⟩ ?_
          refine ok_X7_thrown x4 ?_
          rw [b4]
          refine V_iload C dL_law_541 rfl ?_
          refine V_icmp_eq C dL_law_543 (tgt := 548) (by decide) (by omega) (by omega) (fun g543 => ?_) (fun g543 => ?_)
          · refine V_iload C dL_law_548 rfl ?_
            refine V_if_ne C dL_law_550 (tgt := 565) (by decide) (by omega) (fun g550 => ?_) (fun g550 => ?_)
            · exact absurd rfl g550
            · refine V_aload_n C dL_law_553 rfl ?_
              refine V_iconst C dL_law_554 ?_
              refine V_laload C dL_law_555 f8 (by (try simp only [mset_1]); omega) (by omega) (by omega) ?_
              refine V_iload C dL_law_556 rfl ?_
              refine V_i2lw C dL_law_558 ?_
              refine V_lcmp0 C (congrArg lgv (up_s _ 0 _).symm) dL_law_559 ?_
              refine V_ifeq0 C dL_law_560 (tgt := 565) (by decide) ?_
              refine V_goto C dL_law_565 (tgt := 1689) (by decide) ?_
              refine V_lv [(0, .ref b), (1, .ref (z + 0)), (2, .ref (z + 331)), (3, .ref (z + 338)), (4, .ref (z + 339)), (5, iv (i : Int))] (List.forall_mem_cons.mpr ⟨(by first | rfl | exact congrArg (fun t => some (iv t)) (by omega)), (List.forall_mem_cons.mpr ⟨(by first | rfl | exact congrArg (fun t => some (iv t)) (by omega)), (List.forall_mem_cons.mpr ⟨(by first | rfl | exact congrArg (fun t => some (iv t)) (by omega)), (List.forall_mem_cons.mpr ⟨(by first | rfl | exact congrArg (fun t => some (iv t)) (by omega)), (List.forall_mem_cons.mpr ⟨(by first | rfl | exact congrArg (fun t => some (iv t)) (by omega)), (List.forall_mem_cons.mpr ⟨(by first | rfl | exact congrArg (fun t => some (iv t)) (by omega)), (fun _ h => nomatch h)⟩)⟩)⟩)⟩)⟩)⟩) ?_
              refine V_widen (k := cells + 4) (n := slots + 24) (by omega) (by omega) ?_
              exact hk _ (LawE.mk d2 sA s4 l3 e8 e9 x4 (DI.save hDI (RelN.file (w := 1) rN hB (by omega) hc.1 hc.2 n4).2) (hR.save hDI (fun _ _ => rfl) a4 c4 p4 (RelN.file (w := 1) rN hB (by omega) hc.1 hc.2 n4).1))
          · exact absurd rfl g543
    · rcases hE with ⟨hc, rfl⟩
      · refine ⟨rfl, ?_⟩
        have x3 := hM
        have l3 := hM1
        have e8 := h338
        have e9 := h339
        have s2 : Sm M M (fun j => j < 331) := Sm.rf _ _
        have sA : Sm M M (fun j => 331 ≤ j) := Sm.rf _ _
        have d2 := hD
        obtain ⟨gn, g0, g1, g2, g3, g4, g5, g6⟩ := id x3
        refine V_istore C dL_law_515 (by decide) ?_
        refine V_aload_n C dL_law_517 rfl ?_
        refine V_aload_n C dL_law_518 rfl ?_
        refine V_iload C dL_law_519 rfl ?_
        refine V_iconst C dL_law_521 ?_
        refine V_iadd C dL_law_522 ?_
        refine V_sld C hX hbl hbA (by omega) (by omega) (show _ = i + 1 by omega) ev1 dL_law_523 ?_
        refine V_if_eq C dL_law_524 (tgt := 531) (by decide) (by omega) (fun g524 => ?_) (fun g524 => ?_)
        · exact absurd g524 g503
        · refine V_iconst C dL_law_527 ?_
          refine V_goto C dL_law_528 (tgt := 532) (by decide) ?_
          refine V_callV (fr := 2) (lo := 44) (mc := 0) (ms := 0) (As := [_]) C yvX7_file w_913 dL_law_532 rfl rfl (by repeat (first | with_reducible assumption | with_reducible exact mset_self _ _ _ | refine (mset_ne (by omega)).trans ?_)) (by (try simp only [mset_1]); omega) rfl rfl (Nat.le_of_ble_eq_true rfl) ⟨Nat.le_of_ble_eq_true rfl, Nat.le_of_ble_eq_true rfl⟩ ⟨by show _ + 0 ≤ 601024; omega, by show _ + 0 ≤ 7293034; omega⟩ ?_
          refine ok_X7_file x3 rw9 hB rI r0 hDc (w := 1) (by omega) (fun _ M4 s4 x4 => ?_) (fun o => absurd o hc)
          have b4 : va_up u 1 1 1 = 1 := up_s _ _ _
          obtain ⟨gn, g0, g1, g2, g3, g4, g5, g6⟩ := id x4
          have f8 := (s4.2 338 (fun o => by have := o.2; omega)).trans e8
          have f9 := (s4.2 339 (fun o => by have := o.2; omega)).trans e9
          have f1 := s4.1.trans l3
          refine V_istore C dL_law_535 (by decide) ?_
          refine V_aload_n C dL_law_537 rfl ?_
          refine V_callV (fr := 0) (lo := 0) (mc := 0) (ms := 0) (As := []) C yvX7_thrown w_841 dL_law_538 rfl rfl (by repeat (first | with_reducible assumption | with_reducible exact mset_self _ _ _ | refine (mset_ne (by omega)).trans ?_)) (by (try simp only [mset_1]); omega) rfl rfl (Nat.le_of_ble_eq_true rfl) ⟨Nat.le_of_ble_eq_true rfl, Nat.le_of_ble_eq_true rfl⟩ ⟨by show _ + 0 ≤ 601024; omega, by show _ + 0 ≤ 7293034; omega⟩ ?_
          refine ok_X7_thrown x4 ?_
          rw [b4]
          refine V_iload C dL_law_541 rfl ?_
          refine V_icmp_eq C dL_law_543 (tgt := 548) (by decide) (by omega) (by omega) (fun g543 => ?_) (fun g543 => ?_)
          · refine V_iload C dL_law_548 rfl ?_
            refine V_if_ne C dL_law_550 (tgt := 565) (by decide) (by omega) (fun g550 => ?_) (fun g550 => ?_)
            · refine V_goto C dL_law_565 (tgt := 1689) (by decide) ?_
              refine V_lv [(0, .ref b), (1, .ref (z + 0)), (2, .ref (z + 331)), (3, .ref (z + 338)), (4, .ref (z + 339)), (5, iv (i : Int))] (List.forall_mem_cons.mpr ⟨(by first | rfl | exact congrArg (fun t => some (iv t)) (by omega)), (List.forall_mem_cons.mpr ⟨(by first | rfl | exact congrArg (fun t => some (iv t)) (by omega)), (List.forall_mem_cons.mpr ⟨(by first | rfl | exact congrArg (fun t => some (iv t)) (by omega)), (List.forall_mem_cons.mpr ⟨(by first | rfl | exact congrArg (fun t => some (iv t)) (by omega)), (List.forall_mem_cons.mpr ⟨(by first | rfl | exact congrArg (fun t => some (iv t)) (by omega)), (List.forall_mem_cons.mpr ⟨(by first | rfl | exact congrArg (fun t => some (iv t)) (by omega)), (fun _ h => nomatch h)⟩)⟩)⟩)⟩)⟩)⟩) ?_
              refine V_widen (k := cells + 4) (n := slots + 24) (by omega) (by omega) ?_
              exact hk _ (LawE.mk d2 sA s4 l3 e8 e9 x4 hDI (hR.same rfl rfl))
            · exact absurd g550 (by decide)
          · exact absurd rfl g543

set_option maxHeartbeats 1000000 in
set_option maxRecDepth 4000 in
theorem law_c6 {p : Program} {l : Launch} {e : Env} {s : State} {m : MethodId} {args : Array Value} {below : List Frame} {meth : Method} {c : Code} {D : va_G} {cy : Nat → ClassId} {z : Nat} {Q : State → Prop} {cells slots : Nat} {M : Mm} (C : Cx p l s m args meth c D cy z 9 cL_law RL) (hlt : l.stackTraces = false) {b L : Nat} {xs : Nat → Int32} (hX : va_X b L xs s s.heap) (hbl : b < s.heap.size) (hbA : ¬ z ≤ b) (hL : L ≤ 2560) {i : Nat} (hi : i + 5 ≤ L) (hcs : cells + 4 ≤ 601024 ∧ slots + 24 ≤ 7293034) {x : DD} {u N P A tx fr tl g9 : Nat → Int} {d9 : Nat → UInt64} (hI : LawI cy z M x u N P A tx fr tl g9 d9) (hk : ∀ M', LawE cy z M' → V p l e room_1 s m args below meth c D z 9 Q (cells + 4) (slots + 24) M' 1689 [(0, .ref b), (1, .ref (z + 0)), (2, .ref (z + 331)), (3, .ref (z + 338)), (4, .ref (z + 339)), (5, iv (i : Int))] []) : V p l e room_1 s m args below meth c D z 9 Q cells slots M 568 [(0, .ref b), (1, .ref (z + 0)), (2, .ref (z + 331)), (3, .ref (z + 338)), (4, .ref (z + 339)), (5, iv (i : Int))] [] := by
  obtain ⟨hD, hDI, hM, hM1, h338, h339, hR⟩ := id hI
  obtain ⟨r0, r2, rN, rV, rT⟩ := id hR
  obtain ⟨rw9, rI, rZ, rH⟩ := id rN
  have hB := hDI.1
  have hDc := hDI.2.1
  have hDt := hDI.2.2.2.1
  have hq6 := hB.2.2.1
  have hn10 := hB.2.1
  obtain ⟨v1, ev1⟩ : ∃ v, (xs (i + 1)).toInt = v := ⟨_, rfl⟩
  have rv1 : -2147483648 ≤ v1 ∧ v1 < 2147483648 := by rw [← ev1]; exact ⟨Int32.le_toInt _, Int32.toInt_lt _⟩
  refine V_aload_n C dL_law_568 rfl ?_
  refine V_aload_n C dL_law_569 rfl ?_
  refine V_iload C dL_law_570 rfl ?_
  refine V_iconst C dL_law_572 ?_
  refine V_iadd C dL_law_573 ?_
  refine V_sld C hX hbl hbA (by omega) (by omega) (show _ = i + 1 by omega) ev1 dL_law_574 ?_
  refine V_aload_n C dL_law_575 rfl ?_
  refine V_callW (fr := 8) (lo := 132) (mc := 2) (ms := 12) (As := [_, _, _]) C ywL_pass w_596 dL_law_576 rfl rfl (Nat.le_of_ble_eq_true rfl) ⟨Nat.le_of_ble_eq_true rfl, Nat.le_of_ble_eq_true rfl⟩ ⟨by show _ + 2 ≤ 601024; omega, by show _ + 12 ≤ 7293034; omega⟩ ?_
  refine ok_L_pass (g9 := g9) (G9 := fun a M2 => ((1 ≤ v1 ∧ v1 ≤ 4000) ∧ sc (xS x) 0 + v1 ≤ 27758) ∧ a = ((cntN (fun i => !lapB (RF (xS x) i) (RA (xS x) i) (sc (xS x) 0) && lapB (RF (xS x) i) (RA (xS x) i) (sc (xS x) 0 + v1)) (sN (xS x)) : Nat) : Int) ∧ Sm M M2 (fun q => q < 331) ∧ DockAt cy z M2 (setNow (svD x) (setSc (xS x) (va_up (sc (xS x)) 0 (sc (xS x) 0 + v1))))) (GX := fun E => (¬ (1 ≤ v1 ∧ v1 ≤ 4000) ∧ E = eA) ∨ ((1 ≤ v1 ∧ v1 ≤ 4000) ∧ ¬ sc (xS x) 0 + v1 ≤ 27758 ∧ E = eS)) hD.2.1 (by omega) (fun h hx => ok_X6_pass hD hDI hlt rv1 (fun o M2 s2 d2 => h _ M2 ⟨o, rfl, s2, d2⟩) (fun o => hx _ (Or.inl ⟨o, rfl⟩)) (fun o1 o2 => hx _ (Or.inr ⟨o1, o2, rfl⟩))) (fun a M2 hg => ?_) (fun E hE => ?_)
  · rcases hg with ⟨hc, rfl, s2, d2⟩
    · refine ⟨(s2.2 _ (by omega)).trans h338, by have := s2.1; omega, ?_⟩
      refine V_memgen (fun M3 em3 => ?_)
      obtain ⟨l3, x3, e8, e9, sA⟩ := law_mid hI s2 em3
      clear em3
      obtain ⟨gn, g0, g1, g2, g3, g4, g5, g6⟩ := id x3
      refine V_istore C dL_law_579 (by decide) ?_
      refine V_aload_n C dL_law_581 rfl ?_
      refine V_aload_n C dL_law_582 rfl ?_
      refine V_iload C dL_law_583 rfl ?_
      refine V_iconst C dL_law_585 ?_
      refine V_iadd C dL_law_586 ?_
      refine V_sld C hX hbl hbA (by omega) (by omega) (show _ = i + 1 by omega) ev1 dL_law_587 ?_
      refine V_callV (fr := 7) (lo := 155) (mc := 0) (ms := 0) (As := [_]) C yvX7_pass w_924 dL_law_588 rfl rfl (by repeat (first | with_reducible assumption | with_reducible exact mset_self _ _ _ | refine (mset_ne (by omega)).trans ?_)) (by (try simp only [mset_1]); omega) rfl rfl (Nat.le_of_ble_eq_true rfl) ⟨Nat.le_of_ble_eq_true rfl, Nat.le_of_ble_eq_true rfl⟩ ⟨by show _ + 0 ≤ 601024; omega, by show _ + 0 ≤ 7293034; omega⟩ ?_
      refine ok_X7_pass x3 rw9 hB rI r0 hDc rv1 (fun o => absurd hc.1 o) (fun _ o => absurd hc.2 o) (fun _ _ M4 u4 P4 N4 s4 x4 a4 b4 c4 p4 n4 => ?_)
      obtain ⟨gn, g0, g1, g2, g3, g4, g5, g6⟩ := id x4
      have f8 := (s4.2 338 (fun o => by have := o.2; omega)).trans e8
      have f9 := (s4.2 339 (fun o => by have := o.2; omega)).trans e9
      have f1 := s4.1.trans l3
      refine V_istore C dL_law_591 (by decide) ?_
      refine V_aload_n C dL_law_593 rfl ?_
      refine V_callV (fr := 0) (lo := 0) (mc := 0) (ms := 0) (As := []) C yvX7_thrown w_841 dL_law_594 rfl rfl (by repeat (first | with_reducible assumption | with_reducible exact mset_self _ _ _ | refine (mset_ne (by omega)).trans ?_)) (by (try simp only [mset_1]); omega) rfl rfl (Nat.le_of_ble_eq_true rfl) ⟨Nat.le_of_ble_eq_true rfl, Nat.le_of_ble_eq_true rfl⟩ ⟨by show _ + 0 ≤ 601024; omega, by show _ + 0 ≤ 7293034; omega⟩ ?_
      refine ok_X7_thrown x4 ?_
      rw [b4]
      refine V_iload C dL_law_597 rfl ?_
      refine V_icmp_eq C dL_law_599 (tgt := 604) (by decide) (by omega) (by omega) (fun g599 => ?_) (fun g599 => ?_)
      · refine V_iload C dL_law_604 rfl ?_
        refine V_if_ne C dL_law_606 (tgt := 621) (by decide) (by omega) (fun g606 => ?_) (fun g606 => ?_)
        · exact absurd rfl g606
        · refine V_aload_n C dL_law_609 rfl ?_
          refine V_iconst C dL_law_610 ?_
          refine V_laload C dL_law_611 f8 (by (try simp only [mset_1]); omega) (by omega) (by omega) ?_
          refine V_iload C dL_law_612 rfl ?_
          refine V_i2lw C dL_law_614 ?_
          refine V_lcmp0 C (congrArg lgv (up_s _ 0 _).symm) dL_law_615 ?_
          refine V_ifeq0 C dL_law_616 (tgt := 621) (by decide) ?_
          refine V_goto C dL_law_621 (tgt := 1689) (by decide) ?_
          refine V_lv [(0, .ref b), (1, .ref (z + 0)), (2, .ref (z + 331)), (3, .ref (z + 338)), (4, .ref (z + 339)), (5, iv (i : Int))] (List.forall_mem_cons.mpr ⟨(by first | rfl | exact congrArg (fun t => some (iv t)) (by omega)), (List.forall_mem_cons.mpr ⟨(by first | rfl | exact congrArg (fun t => some (iv t)) (by omega)), (List.forall_mem_cons.mpr ⟨(by first | rfl | exact congrArg (fun t => some (iv t)) (by omega)), (List.forall_mem_cons.mpr ⟨(by first | rfl | exact congrArg (fun t => some (iv t)) (by omega)), (List.forall_mem_cons.mpr ⟨(by first | rfl | exact congrArg (fun t => some (iv t)) (by omega)), (List.forall_mem_cons.mpr ⟨(by first | rfl | exact congrArg (fun t => some (iv t)) (by omega)), (fun _ h => nomatch h)⟩)⟩)⟩)⟩)⟩)⟩) ?_
          refine V_widen (k := cells + 4) (n := slots + 24) (by omega) (by omega) ?_
          exact hk _ (LawE.mk d2 sA s4 l3 e8 e9 x4 (DI.save hDI (RelN.pass rN hB (by omega) hc.2 n4).2) (hR.save hDI (fun _ _ => rfl) a4 c4 p4 (RelN.pass rN hB (by omega) hc.2 n4).1))
      · exact absurd rfl g599
  · rcases hE with ⟨hc, rfl⟩ | ⟨c1, hc, rfl⟩
    · refine Or.inl ⟨rfl, ?_⟩
      have x3 := hM
      have l3 := hM1
      have e8 := h338
      have e9 := h339
      have s2 : Sm M M (fun j => j < 331) := Sm.rf _ _
      have sA : Sm M M (fun j => 331 ≤ j) := Sm.rf _ _
      have d2 := hD
      obtain ⟨gn, g0, g1, g2, g3, g4, g5, g6⟩ := id x3
      refine V_istore C dL_law_579 (by decide) ?_
      refine V_aload_n C dL_law_581 rfl ?_
      refine V_aload_n C dL_law_582 rfl ?_
      refine V_iload C dL_law_583 rfl ?_
      refine V_iconst C dL_law_585 ?_
      refine V_iadd C dL_law_586 ?_
      refine V_sld C hX hbl hbA (by omega) (by omega) (show _ = i + 1 by omega) ev1 dL_law_587 ?_
      refine V_callV (fr := 7) (lo := 155) (mc := 0) (ms := 0) (As := [_]) C yvX7_pass w_924 dL_law_588 rfl rfl (by repeat (first | with_reducible assumption | with_reducible exact mset_self _ _ _ | refine (mset_ne (by omega)).trans ?_)) (by (try simp only [mset_1]); omega) rfl rfl (Nat.le_of_ble_eq_true rfl) ⟨Nat.le_of_ble_eq_true rfl, Nat.le_of_ble_eq_true rfl⟩ ⟨by show _ + 0 ≤ 601024; omega, by show _ + 0 ≤ 7293034; omega⟩ ?_
      refine ok_X7_pass x3 rw9 hB rI r0 hDc rv1 (fun _ M4 s4 x4 => ?_) (fun o _ => absurd o hc) (fun o _ => absurd o hc)
      have b4 : va_up u 1 1 1 = 1 := up_s _ _ _
      obtain ⟨gn, g0, g1, g2, g3, g4, g5, g6⟩ := id x4
      have f8 := (s4.2 338 (fun o => by have := o.2; omega)).trans e8
      have f9 := (s4.2 339 (fun o => by have := o.2; omega)).trans e9
      have f1 := s4.1.trans l3
      refine V_istore C dL_law_591 (by decide) ?_
      refine V_aload_n C dL_law_593 rfl ?_
      refine V_callV (fr := 0) (lo := 0) (mc := 0) (ms := 0) (As := []) C yvX7_thrown w_841 dL_law_594 rfl rfl (by repeat (first | with_reducible assumption | with_reducible exact mset_self _ _ _ | refine (mset_ne (by omega)).trans ?_)) (by (try simp only [mset_1]); omega) rfl rfl (Nat.le_of_ble_eq_true rfl) ⟨Nat.le_of_ble_eq_true rfl, Nat.le_of_ble_eq_true rfl⟩ ⟨by show _ + 0 ≤ 601024; omega, by show _ + 0 ≤ 7293034; omega⟩ ?_
      refine ok_X7_thrown x4 ?_
      rw [b4]
      refine V_iload C dL_law_597 rfl ?_
      refine V_icmp_eq C dL_law_599 (tgt := 604) (by decide) (by omega) (by omega) (fun g599 => ?_) (fun g599 => ?_)
      · refine V_iload C dL_law_604 rfl ?_
        refine V_if_ne C dL_law_606 (tgt := 621) (by decide) (by omega) (fun g606 => ?_) (fun g606 => ?_)
        · refine V_goto C dL_law_621 (tgt := 1689) (by decide) ?_
          refine V_lv [(0, .ref b), (1, .ref (z + 0)), (2, .ref (z + 331)), (3, .ref (z + 338)), (4, .ref (z + 339)), (5, iv (i : Int))] (List.forall_mem_cons.mpr ⟨(by first | rfl | exact congrArg (fun t => some (iv t)) (by omega)), (List.forall_mem_cons.mpr ⟨(by first | rfl | exact congrArg (fun t => some (iv t)) (by omega)), (List.forall_mem_cons.mpr ⟨(by first | rfl | exact congrArg (fun t => some (iv t)) (by omega)), (List.forall_mem_cons.mpr ⟨(by first | rfl | exact congrArg (fun t => some (iv t)) (by omega)), (List.forall_mem_cons.mpr ⟨(by first | rfl | exact congrArg (fun t => some (iv t)) (by omega)), (List.forall_mem_cons.mpr ⟨(by first | rfl | exact congrArg (fun t => some (iv t)) (by omega)), (fun _ h => nomatch h)⟩)⟩)⟩)⟩)⟩)⟩) ?_
          refine V_widen (k := cells + 4) (n := slots + 24) (by omega) (by omega) ?_
          exact hk _ (LawE.mk d2 sA s4 l3 e8 e9 x4 hDI (hR.same rfl rfl))
        · exact absurd g606 (by decide)
      · exact absurd rfl g599
    · refine Or.inr  ⟨rfl, ?_⟩
      have x3 := hM
      have l3 := hM1
      have e8 := h338
      have e9 := h339
      have s2 : Sm M M (fun j => j < 331) := Sm.rf _ _
      have sA : Sm M M (fun j => 331 ≤ j) := Sm.rf _ _
      have d2 := hD
      obtain ⟨gn, g0, g1, g2, g3, g4, g5, g6⟩ := id x3
      refine V_istore C dL_law_579 (by decide) ?_
      refine V_aload_n C dL_law_581 rfl ?_
      refine V_aload_n C dL_law_582 rfl ?_
      refine V_iload C dL_law_583 rfl ?_
      refine V_iconst C dL_law_585 ?_
      refine V_iadd C dL_law_586 ?_
      refine V_sld C hX hbl hbA (by omega) (by omega) (show _ = i + 1 by omega) ev1 dL_law_587 ?_
      refine V_callV (fr := 7) (lo := 155) (mc := 0) (ms := 0) (As := [_]) C yvX7_pass w_924 dL_law_588 rfl rfl (by repeat (first | with_reducible assumption | with_reducible exact mset_self _ _ _ | refine (mset_ne (by omega)).trans ?_)) (by (try simp only [mset_1]); omega) rfl rfl (Nat.le_of_ble_eq_true rfl) ⟨Nat.le_of_ble_eq_true rfl, Nat.le_of_ble_eq_true rfl⟩ ⟨by show _ + 0 ≤ 601024; omega, by show _ + 0 ≤ 7293034; omega⟩ ?_
      refine ok_X7_pass x3 rw9 hB rI r0 hDc rv1 (fun o => absurd c1 o) (fun _ _ M4 s4 x4 => ?_) (fun _ o => absurd o hc)
      have b4 : va_up u 1 2 1 = 2 := up_s _ _ _
      obtain ⟨gn, g0, g1, g2, g3, g4, g5, g6⟩ := id x4
      have f8 := (s4.2 338 (fun o => by have := o.2; omega)).trans e8
      have f9 := (s4.2 339 (fun o => by have := o.2; omega)).trans e9
      have f1 := s4.1.trans l3
      refine V_istore C dL_law_591 (by decide) ?_
      refine V_aload_n C dL_law_593 rfl ?_
      refine V_callV (fr := 0) (lo := 0) (mc := 0) (ms := 0) (As := []) C yvX7_thrown w_841 dL_law_594 rfl rfl (by repeat (first | with_reducible assumption | with_reducible exact mset_self _ _ _ | refine (mset_ne (by omega)).trans ?_)) (by (try simp only [mset_1]); omega) rfl rfl (Nat.le_of_ble_eq_true rfl) ⟨Nat.le_of_ble_eq_true rfl, Nat.le_of_ble_eq_true rfl⟩ ⟨by show _ + 0 ≤ 601024; omega, by show _ + 0 ≤ 7293034; omega⟩ ?_
      refine ok_X7_thrown x4 ?_
      rw [b4]
      refine V_iload C dL_law_597 rfl ?_
      refine V_icmp_eq C dL_law_599 (tgt := 604) (by decide) (by omega) (by omega) (fun g599 => ?_) (fun g599 => ?_)
      · refine V_iload C dL_law_604 rfl ?_
        refine V_if_ne C dL_law_606 (tgt := 621) (by decide) (by omega) (fun g606 => ?_) (fun g606 => ?_)
        · refine V_goto C dL_law_621 (tgt := 1689) (by decide) ?_
          refine V_lv [(0, .ref b), (1, .ref (z + 0)), (2, .ref (z + 331)), (3, .ref (z + 338)), (4, .ref (z + 339)), (5, iv (i : Int))] (List.forall_mem_cons.mpr ⟨(by first | rfl | exact congrArg (fun t => some (iv t)) (by omega)), (List.forall_mem_cons.mpr ⟨(by first | rfl | exact congrArg (fun t => some (iv t)) (by omega)), (List.forall_mem_cons.mpr ⟨(by first | rfl | exact congrArg (fun t => some (iv t)) (by omega)), (List.forall_mem_cons.mpr ⟨(by first | rfl | exact congrArg (fun t => some (iv t)) (by omega)), (List.forall_mem_cons.mpr ⟨(by first | rfl | exact congrArg (fun t => some (iv t)) (by omega)), (List.forall_mem_cons.mpr ⟨(by first | rfl | exact congrArg (fun t => some (iv t)) (by omega)), (fun _ h => nomatch h)⟩)⟩)⟩)⟩)⟩)⟩) ?_
          refine V_widen (k := cells + 4) (n := slots + 24) (by omega) (by omega) ?_
          exact hk _ (LawE.mk d2 sA s4 l3 e8 e9 x4 hDI (hR.same rfl rfl))
        · exact absurd g606 (by decide)
      · exact absurd rfl g599

set_option maxHeartbeats 1000000 in
set_option maxRecDepth 4000 in
theorem law_c7 {p : Program} {l : Launch} {e : Env} {s : State} {m : MethodId} {args : Array Value} {below : List Frame} {meth : Method} {c : Code} {D : va_G} {cy : Nat → ClassId} {z : Nat} {Q : State → Prop} {cells slots : Nat} {M : Mm} (C : Cx p l s m args meth c D cy z 9 cL_law RL) (hlt : l.stackTraces = false) {b L : Nat} {xs : Nat → Int32} (hX : va_X b L xs s s.heap) (hbl : b < s.heap.size) (hbA : ¬ z ≤ b) (hL : L ≤ 2560) {i : Nat} (hi : i + 5 ≤ L) (hcs : cells + 4 ≤ 601024 ∧ slots + 24 ≤ 7293034) {x : DD} {u N P A tx fr tl g9 : Nat → Int} {d9 : Nat → UInt64} (hI : LawI cy z M x u N P A tx fr tl g9 d9) (hk : ∀ M', LawE cy z M' → V p l e room_1 s m args below meth c D z 9 Q (cells + 4) (slots + 24) M' 1689 [(0, .ref b), (1, .ref (z + 0)), (2, .ref (z + 331)), (3, .ref (z + 338)), (4, .ref (z + 339)), (5, iv (i : Int))] []) : V p l e room_1 s m args below meth c D z 9 Q cells slots M 624 [(0, .ref b), (1, .ref (z + 0)), (2, .ref (z + 331)), (3, .ref (z + 338)), (4, .ref (z + 339)), (5, iv (i : Int))] [] := by
  obtain ⟨hD, hDI, hM, hM1, h338, h339, hR⟩ := id hI
  obtain ⟨r0, r2, rN, rV, rT⟩ := id hR
  obtain ⟨rw9, rI, rZ, rH⟩ := id rN
  have hB := hDI.1
  have hDc := hDI.2.1
  have hDt := hDI.2.2.2.1
  have hq6 := hB.2.2.1
  have hn10 := hB.2.1
  obtain ⟨v1, ev1⟩ : ∃ v, (xs (i + 1)).toInt = v := ⟨_, rfl⟩
  have rv1 : -2147483648 ≤ v1 ∧ v1 < 2147483648 := by rw [← ev1]; exact ⟨Int32.le_toInt _, Int32.toInt_lt _⟩
  refine V_aload_n C dL_law_624 rfl ?_
  refine V_aload_n C dL_law_625 rfl ?_
  refine V_iload C dL_law_626 rfl ?_
  refine V_iconst C dL_law_628 ?_
  refine V_iadd C dL_law_629 ?_
  refine V_sld C hX hbl hbA (by omega) (by omega) (show _ = i + 1 by omega) ev1 dL_law_630 ?_
  refine V_aload_n C dL_law_631 rfl ?_
  refine V_callW (fr := 8) (lo := 133) (mc := 2) (ms := 12) (As := [_, _, _]) C ywL_pay w_607 dL_law_632 rfl rfl (Nat.le_of_ble_eq_true rfl) ⟨Nat.le_of_ble_eq_true rfl, Nat.le_of_ble_eq_true rfl⟩ ⟨by show _ + 2 ≤ 601024; omega, by show _ + 12 ≤ 7293034; omega⟩ ?_
  refine ok_L_pay (g9 := g9) (G9 := fun a M2 => ∃ j : Nat, v1 = j ∧ j < sN (xS x) ∧ canPayB (xS x) j = true ∧ a = priceT (xS x) j (RF (xS x) j 3 + 1) ∧ Sm M M2 (fun q => q < 331) ∧ DockAt cy z M2 (setNow (svD x) (payS (xS x) j))) (GX := fun E => ((v1 < 0 ∨ (sN (xS x) : Int) ≤ v1) ∧ E = eI) ∨ ∃ j : Nat, v1 = j ∧ j < sN (xS x) ∧ canPayB (xS x) j = false ∧ E = eS) hD.2.1 (by omega) (fun h hx => ok_X6_pay hD hDI hlt rv1 (fun j ja hj hc M2 s2 d2 => h _ M2 ⟨j, ja, hj, hc, rfl, s2, d2⟩) (fun o => hx _ (Or.inl ⟨o, rfl⟩)) (fun j ja hj hc => hx _ (Or.inr ⟨j, ja, hj, hc, rfl⟩))) (fun a M2 hg => ?_) (fun E hE => ?_)
  · rcases hg with ⟨j, ja, hj, hc, rfl, s2, d2⟩
    · refine ⟨(s2.2 _ (by omega)).trans h338, by have := s2.1; omega, ?_⟩
      refine V_memgen (fun M3 em3 => ?_)
      obtain ⟨l3, x3, e8, e9, sA⟩ := law_mid hI s2 em3
      clear em3
      obtain ⟨gn, g0, g1, g2, g3, g4, g5, g6⟩ := id x3
      refine V_istore C dL_law_635 (by decide) ?_
      refine V_aload_n C dL_law_637 rfl ?_
      refine V_aload_n C dL_law_638 rfl ?_
      refine V_iload C dL_law_639 rfl ?_
      refine V_iconst C dL_law_641 ?_
      refine V_iadd C dL_law_642 ?_
      refine V_sld C hX hbl hbA (by omega) (by omega) (show _ = i + 1 by omega) ev1 dL_law_643 ?_
      refine V_callV (fr := 7) (lo := 155) (mc := 0) (ms := 0) (As := [_]) C yvX7_pay w_948 dL_law_644 rfl rfl (by repeat (first | with_reducible assumption | with_reducible exact mset_self _ _ _ | refine (mset_ne (by omega)).trans ?_)) (by (try simp only [mset_1]); omega) rfl rfl (Nat.le_of_ble_eq_true rfl) ⟨Nat.le_of_ble_eq_true rfl, Nat.le_of_ble_eq_true rfl⟩ ⟨by show _ + 0 ≤ 601024; omega, by show _ + 0 ≤ 7293034; omega⟩ ?_
      refine ok_X7_pay x3 rw9 hB rI r0 hDc rv1 (fun o => absurd (show 0 ≤ v1 ∧ v1 < (sN (xS x) : Int) by omega) o) (fun j2 ja2 hj2 hc2 => (by have e9_ : j2 = j := (by omega); subst e9_; exact absurd (hc.symm.trans hc2) (by decide))) (fun j2 ja2 hj2 _ M4 u4 P4 N4 s4 x4 a4 b4 c4 p4 n4 => ?_)
      have e9_ : j2 = j := by omega
      subst e9_
      obtain ⟨gn, g0, g1, g2, g3, g4, g5, g6⟩ := id x4
      have f8 := (s4.2 338 (fun o => by have := o.2; omega)).trans e8
      have f9 := (s4.2 339 (fun o => by have := o.2; omega)).trans e9
      have f1 := s4.1.trans l3
      refine V_istore C dL_law_647 (by decide) ?_
      refine V_aload_n C dL_law_649 rfl ?_
      refine V_callV (fr := 0) (lo := 0) (mc := 0) (ms := 0) (As := []) C yvX7_thrown w_841 dL_law_650 rfl rfl (by repeat (first | with_reducible assumption | with_reducible exact mset_self _ _ _ | refine (mset_ne (by omega)).trans ?_)) (by (try simp only [mset_1]); omega) rfl rfl (Nat.le_of_ble_eq_true rfl) ⟨Nat.le_of_ble_eq_true rfl, Nat.le_of_ble_eq_true rfl⟩ ⟨by show _ + 0 ≤ 601024; omega, by show _ + 0 ≤ 7293034; omega⟩ ?_
      refine ok_X7_thrown x4 ?_
      rw [b4]
      refine V_iload C dL_law_653 rfl ?_
      refine V_icmp_eq C dL_law_655 (tgt := 660) (by decide) (by omega) (by omega) (fun g655 => ?_) (fun g655 => ?_)
      · refine V_iload C dL_law_660 rfl ?_
        refine V_if_ne C dL_law_662 (tgt := 677) (by decide) (by omega) (fun g662 => ?_) (fun g662 => ?_)
        · exact absurd rfl g662
        · refine V_aload_n C dL_law_665 rfl ?_
          refine V_iconst C dL_law_666 ?_
          refine V_laload C dL_law_667 f8 (by (try simp only [mset_1]); omega) (by omega) (by omega) ?_
          refine V_iload C dL_law_668 rfl ?_
          refine V_i2lw C dL_law_670 ?_
          refine V_lcmp0 C (congrArg lgv (up_s _ 0 _).symm) dL_law_671 ?_
          refine V_ifeq0 C dL_law_672 (tgt := 677) (by decide) ?_
          refine V_goto C dL_law_677 (tgt := 1689) (by decide) ?_
          refine V_lv [(0, .ref b), (1, .ref (z + 0)), (2, .ref (z + 331)), (3, .ref (z + 338)), (4, .ref (z + 339)), (5, iv (i : Int))] (List.forall_mem_cons.mpr ⟨(by first | rfl | exact congrArg (fun t => some (iv t)) (by omega)), (List.forall_mem_cons.mpr ⟨(by first | rfl | exact congrArg (fun t => some (iv t)) (by omega)), (List.forall_mem_cons.mpr ⟨(by first | rfl | exact congrArg (fun t => some (iv t)) (by omega)), (List.forall_mem_cons.mpr ⟨(by first | rfl | exact congrArg (fun t => some (iv t)) (by omega)), (List.forall_mem_cons.mpr ⟨(by first | rfl | exact congrArg (fun t => some (iv t)) (by omega)), (List.forall_mem_cons.mpr ⟨(by first | rfl | exact congrArg (fun t => some (iv t)) (by omega)), (fun _ h => nomatch h)⟩)⟩)⟩)⟩)⟩)⟩) ?_
          refine V_widen (k := cells + 4) (n := slots + 24) (by omega) (by omega) ?_
          exact hk _ (LawE.mk d2 sA s4 l3 e8 e9 x4 (DI.save hDI (RelN.pay rN hB hj hc n4).2) (hR.save hDI (fun _ _ => rfl) a4 c4 p4 (RelN.pay rN hB hj hc n4).1))
      · exact absurd rfl g655
  · rcases hE with ⟨hc, rfl⟩ | ⟨j, ja, hj, hc, rfl⟩
    · refine Or.inl ⟨rfl, ?_⟩
      have x3 := hM
      have l3 := hM1
      have e8 := h338
      have e9 := h339
      have s2 : Sm M M (fun j => j < 331) := Sm.rf _ _
      have sA : Sm M M (fun j => 331 ≤ j) := Sm.rf _ _
      have d2 := hD
      obtain ⟨gn, g0, g1, g2, g3, g4, g5, g6⟩ := id x3
      refine V_istore C dL_law_635 (by decide) ?_
      refine V_aload_n C dL_law_637 rfl ?_
      refine V_aload_n C dL_law_638 rfl ?_
      refine V_iload C dL_law_639 rfl ?_
      refine V_iconst C dL_law_641 ?_
      refine V_iadd C dL_law_642 ?_
      refine V_sld C hX hbl hbA (by omega) (by omega) (show _ = i + 1 by omega) ev1 dL_law_643 ?_
      refine V_callV (fr := 7) (lo := 155) (mc := 0) (ms := 0) (As := [_]) C yvX7_pay w_948 dL_law_644 rfl rfl (by repeat (first | with_reducible assumption | with_reducible exact mset_self _ _ _ | refine (mset_ne (by omega)).trans ?_)) (by (try simp only [mset_1]); omega) rfl rfl (Nat.le_of_ble_eq_true rfl) ⟨Nat.le_of_ble_eq_true rfl, Nat.le_of_ble_eq_true rfl⟩ ⟨by show _ + 0 ≤ 601024; omega, by show _ + 0 ≤ 7293034; omega⟩ ?_
      refine ok_X7_pay x3 rw9 hB rI r0 hDc rv1 (fun _ M4 s4 x4 => ?_) (fun j2 ja2 hj2 _ => absurd hc (by omega)) (fun j2 ja2 hj2 _ => absurd hc (by omega))
      have b4 : va_up u 1 1 1 = 1 := up_s _ _ _
      obtain ⟨gn, g0, g1, g2, g3, g4, g5, g6⟩ := id x4
      have f8 := (s4.2 338 (fun o => by have := o.2; omega)).trans e8
      have f9 := (s4.2 339 (fun o => by have := o.2; omega)).trans e9
      have f1 := s4.1.trans l3
      refine V_istore C dL_law_647 (by decide) ?_
      refine V_aload_n C dL_law_649 rfl ?_
      refine V_callV (fr := 0) (lo := 0) (mc := 0) (ms := 0) (As := []) C yvX7_thrown w_841 dL_law_650 rfl rfl (by repeat (first | with_reducible assumption | with_reducible exact mset_self _ _ _ | refine (mset_ne (by omega)).trans ?_)) (by (try simp only [mset_1]); omega) rfl rfl (Nat.le_of_ble_eq_true rfl) ⟨Nat.le_of_ble_eq_true rfl, Nat.le_of_ble_eq_true rfl⟩ ⟨by show _ + 0 ≤ 601024; omega, by show _ + 0 ≤ 7293034; omega⟩ ?_
      refine ok_X7_thrown x4 ?_
      rw [b4]
      refine V_iload C dL_law_653 rfl ?_
      refine V_icmp_eq C dL_law_655 (tgt := 660) (by decide) (by omega) (by omega) (fun g655 => ?_) (fun g655 => ?_)
      · refine V_iload C dL_law_660 rfl ?_
        refine V_if_ne C dL_law_662 (tgt := 677) (by decide) (by omega) (fun g662 => ?_) (fun g662 => ?_)
        · refine V_goto C dL_law_677 (tgt := 1689) (by decide) ?_
          refine V_lv [(0, .ref b), (1, .ref (z + 0)), (2, .ref (z + 331)), (3, .ref (z + 338)), (4, .ref (z + 339)), (5, iv (i : Int))] (List.forall_mem_cons.mpr ⟨(by first | rfl | exact congrArg (fun t => some (iv t)) (by omega)), (List.forall_mem_cons.mpr ⟨(by first | rfl | exact congrArg (fun t => some (iv t)) (by omega)), (List.forall_mem_cons.mpr ⟨(by first | rfl | exact congrArg (fun t => some (iv t)) (by omega)), (List.forall_mem_cons.mpr ⟨(by first | rfl | exact congrArg (fun t => some (iv t)) (by omega)), (List.forall_mem_cons.mpr ⟨(by first | rfl | exact congrArg (fun t => some (iv t)) (by omega)), (List.forall_mem_cons.mpr ⟨(by first | rfl | exact congrArg (fun t => some (iv t)) (by omega)), (fun _ h => nomatch h)⟩)⟩)⟩)⟩)⟩)⟩) ?_
          refine V_widen (k := cells + 4) (n := slots + 24) (by omega) (by omega) ?_
          exact hk _ (LawE.mk d2 sA s4 l3 e8 e9 x4 hDI (hR.same rfl rfl))
        · exact absurd g662 (by decide)
      · exact absurd rfl g655
    · refine Or.inr  ⟨rfl, ?_⟩
      have x3 := hM
      have l3 := hM1
      have e8 := h338
      have e9 := h339
      have s2 : Sm M M (fun j => j < 331) := Sm.rf _ _
      have sA : Sm M M (fun j => 331 ≤ j) := Sm.rf _ _
      have d2 := hD
      obtain ⟨gn, g0, g1, g2, g3, g4, g5, g6⟩ := id x3
      refine V_istore C dL_law_635 (by decide) ?_
      refine V_aload_n C dL_law_637 rfl ?_
      refine V_aload_n C dL_law_638 rfl ?_
      refine V_iload C dL_law_639 rfl ?_
      refine V_iconst C dL_law_641 ?_
      refine V_iadd C dL_law_642 ?_
      refine V_sld C hX hbl hbA (by omega) (by omega) (show _ = i + 1 by omega) ev1 dL_law_643 ?_
      refine V_callV (fr := 7) (lo := 155) (mc := 0) (ms := 0) (As := [_]) C yvX7_pay w_948 dL_law_644 rfl rfl (by repeat (first | with_reducible assumption | with_reducible exact mset_self _ _ _ | refine (mset_ne (by omega)).trans ?_)) (by (try simp only [mset_1]); omega) rfl rfl (Nat.le_of_ble_eq_true rfl) ⟨Nat.le_of_ble_eq_true rfl, Nat.le_of_ble_eq_true rfl⟩ ⟨by show _ + 0 ≤ 601024; omega, by show _ + 0 ≤ 7293034; omega⟩ ?_
      refine ok_X7_pay x3 rw9 hB rI r0 hDc rv1 (fun o => absurd (show 0 ≤ v1 ∧ v1 < (sN (xS x) : Int) by omega) o) (fun j2 ja2 hj2 _ M4 s4 x4 => ?_) (fun j2 ja2 hj2 hc2 => (by have e9_ : j2 = j := (by omega); subst e9_; exact absurd (hc.symm.trans hc2) (by decide)))
      have b4 : va_up u 1 2 1 = 2 := up_s _ _ _
      obtain ⟨gn, g0, g1, g2, g3, g4, g5, g6⟩ := id x4
      have f8 := (s4.2 338 (fun o => by have := o.2; omega)).trans e8
      have f9 := (s4.2 339 (fun o => by have := o.2; omega)).trans e9
      have f1 := s4.1.trans l3
      refine V_istore C dL_law_647 (by decide) ?_
      refine V_aload_n C dL_law_649 rfl ?_
      refine V_callV (fr := 0) (lo := 0) (mc := 0) (ms := 0) (As := []) C yvX7_thrown w_841 dL_law_650 rfl rfl (by repeat (first | with_reducible assumption | with_reducible exact mset_self _ _ _ | refine (mset_ne (by omega)).trans ?_)) (by (try simp only [mset_1]); omega) rfl rfl (Nat.le_of_ble_eq_true rfl) ⟨Nat.le_of_ble_eq_true rfl, Nat.le_of_ble_eq_true rfl⟩ ⟨by show _ + 0 ≤ 601024; omega, by show _ + 0 ≤ 7293034; omega⟩ ?_
      refine ok_X7_thrown x4 ?_
      rw [b4]
      refine V_iload C dL_law_653 rfl ?_
      refine V_icmp_eq C dL_law_655 (tgt := 660) (by decide) (by omega) (by omega) (fun g655 => ?_) (fun g655 => ?_)
      · refine V_iload C dL_law_660 rfl ?_
        refine V_if_ne C dL_law_662 (tgt := 677) (by decide) (by omega) (fun g662 => ?_) (fun g662 => ?_)
        · refine V_goto C dL_law_677 (tgt := 1689) (by decide) ?_
          refine V_lv [(0, .ref b), (1, .ref (z + 0)), (2, .ref (z + 331)), (3, .ref (z + 338)), (4, .ref (z + 339)), (5, iv (i : Int))] (List.forall_mem_cons.mpr ⟨(by first | rfl | exact congrArg (fun t => some (iv t)) (by omega)), (List.forall_mem_cons.mpr ⟨(by first | rfl | exact congrArg (fun t => some (iv t)) (by omega)), (List.forall_mem_cons.mpr ⟨(by first | rfl | exact congrArg (fun t => some (iv t)) (by omega)), (List.forall_mem_cons.mpr ⟨(by first | rfl | exact congrArg (fun t => some (iv t)) (by omega)), (List.forall_mem_cons.mpr ⟨(by first | rfl | exact congrArg (fun t => some (iv t)) (by omega)), (List.forall_mem_cons.mpr ⟨(by first | rfl | exact congrArg (fun t => some (iv t)) (by omega)), (fun _ h => nomatch h)⟩)⟩)⟩)⟩)⟩)⟩) ?_
          refine V_widen (k := cells + 4) (n := slots + 24) (by omega) (by omega) ?_
          exact hk _ (LawE.mk d2 sA s4 l3 e8 e9 x4 hDI (hR.same rfl rfl))
        · exact absurd g662 (by decide)
      · exact absurd rfl g655

set_option maxHeartbeats 1000000 in
set_option maxRecDepth 4000 in
theorem law_c9 {p : Program} {l : Launch} {e : Env} {s : State} {m : MethodId} {args : Array Value} {below : List Frame} {meth : Method} {c : Code} {D : va_G} {cy : Nat → ClassId} {z : Nat} {Q : State → Prop} {cells slots : Nat} {M : Mm} (C : Cx p l s m args meth c D cy z 9 cL_law RL) (hlt : l.stackTraces = false) {b L : Nat} {xs : Nat → Int32} (hX : va_X b L xs s s.heap) (hbl : b < s.heap.size) (hbA : ¬ z ≤ b) (hL : L ≤ 2560) {i : Nat} (hi : i + 5 ≤ L) (hcs : cells + 4 ≤ 601024 ∧ slots + 24 ≤ 7293034) {x : DD} {u N P A tx fr tl g9 : Nat → Int} {d9 : Nat → UInt64} (hI : LawI cy z M x u N P A tx fr tl g9 d9) (hk : ∀ M', LawE cy z M' → V p l e room_1 s m args below meth c D z 9 Q (cells + 4) (slots + 24) M' 1689 [(0, .ref b), (1, .ref (z + 0)), (2, .ref (z + 331)), (3, .ref (z + 338)), (4, .ref (z + 339)), (5, iv (i : Int))] []) : V p l e room_1 s m args below meth c D z 9 Q cells slots M 693 [(0, .ref b), (1, .ref (z + 0)), (2, .ref (z + 331)), (3, .ref (z + 338)), (4, .ref (z + 339)), (5, iv (i : Int))] [] := by
  obtain ⟨hD, hDI, hM, hM1, h338, h339, hR⟩ := id hI
  obtain ⟨r0, r2, rN, rV, rT⟩ := id hR
  obtain ⟨rw9, rI, rZ, rH⟩ := id rN
  have hB := hDI.1
  have hDc := hDI.2.1
  have hDt := hDI.2.2.2.1
  have hq6 := hB.2.2.1
  have hn10 := hB.2.1
  obtain ⟨v1, ev1⟩ : ∃ v, (xs (i + 1)).toInt = v := ⟨_, rfl⟩
  have rv1 : -2147483648 ≤ v1 ∧ v1 < 2147483648 := by rw [← ev1]; exact ⟨Int32.le_toInt _, Int32.toInt_lt _⟩
  refine V_aload_n C dL_law_693 rfl ?_
  refine V_aload_n C dL_law_694 rfl ?_
  refine V_iload C dL_law_695 rfl ?_
  refine V_iconst C dL_law_697 ?_
  refine V_iadd C dL_law_698 ?_
  refine V_sld C hX hbl hbA (by omega) (by omega) (show _ = i + 1 by omega) ev1 dL_law_699 ?_
  refine V_aload_n C dL_law_700 rfl ?_
  refine V_callW (fr := 8) (lo := 135) (mc := 2) (ms := 12) (As := [_, _, _]) C ywL_revive w_637 dL_law_701 rfl rfl (Nat.le_of_ble_eq_true rfl) ⟨Nat.le_of_ble_eq_true rfl, Nat.le_of_ble_eq_true rfl⟩ ⟨by show _ + 2 ≤ 601024; omega, by show _ + 12 ≤ 7293034; omega⟩ ?_
  refine ok_L_revive (g9 := g9) (G9 := fun a M2 => ∃ j : Nat, v1 = j ∧ j < sN (xS x) ∧ canRevR (xS x) j ∧ a = (revF j 19 (rvS (xS x) j) (sc (xS x) 7)).2 ∧ Sm M M2 (fun q => q < 331) ∧ DockAt cy z M2 (setNow (svD x) (revF j 19 (rvS (xS x) j) (sc (xS x) 7)).1)) (GX := fun E => ((v1 < 0 ∨ (sN (xS x) : Int) ≤ v1) ∧ E = eI) ∨ ∃ j : Nat, v1 = j ∧ j < sN (xS x) ∧ ¬ canRevR (xS x) j ∧ E = eS) hD.2.1 (by omega) (fun h hx => ok_X6_revive hD hDI hlt rv1 (rv_hg rI hB) (fun j ja hj hc M2 s2 d2 => h _ M2 ⟨j, ja, hj, hc, rfl, s2, d2⟩) (fun o => hx _ (Or.inl ⟨o, rfl⟩)) (fun j ja hj hc => hx _ (Or.inr ⟨j, ja, hj, hc, rfl⟩))) (fun a M2 hg => ?_) (fun E hE => ?_)
  · rcases hg with ⟨j, ja, hj, hc, rfl, s2, d2⟩
    · refine ⟨(s2.2 _ (by omega)).trans h338, by have := s2.1; omega, ?_⟩
      refine V_memgen (fun M3 em3 => ?_)
      obtain ⟨l3, x3, e8, e9, sA⟩ := law_mid hI s2 em3
      clear em3
      obtain ⟨gn, g0, g1, g2, g3, g4, g5, g6⟩ := id x3
      refine V_istore C dL_law_704 (by decide) ?_
      refine V_aload_n C dL_law_706 rfl ?_
      refine V_aload_n C dL_law_707 rfl ?_
      refine V_iload C dL_law_708 rfl ?_
      refine V_iconst C dL_law_710 ?_
      refine V_iadd C dL_law_711 ?_
      refine V_sld C hX hbl hbA (by omega) (by omega) (show _ = i + 1 by omega) ev1 dL_law_712 ?_
      refine V_callV (fr := 7) (lo := 154) (mc := 0) (ms := 0) (As := [_]) C yvX7_revive w_984 dL_law_713 rfl rfl (by repeat (first | with_reducible assumption | with_reducible exact mset_self _ _ _ | refine (mset_ne (by omega)).trans ?_)) (by (try simp only [mset_1]); omega) rfl rfl (Nat.le_of_ble_eq_true rfl) ⟨Nat.le_of_ble_eq_true rfl, Nat.le_of_ble_eq_true rfl⟩ ⟨by show _ + 0 ≤ 601024; omega, by show _ + 0 ≤ 7293034; omega⟩ ?_
      refine ok_X7_revive x3 rw9 hB rI r0 hDc rZ rv1 (fun o => absurd (show 0 ≤ v1 ∧ v1 < (sN (xS x) : Int) by omega) o) (fun j2 ja2 hj2 hc2 => (by have e9_ : j2 = j := (by omega); subst e9_; exact absurd hc hc2)) (fun j2 ja2 hj2 _ M4 u4 P4 N4 s4 x4 a4 b4 c4 p4 n4 => ?_)
      have e9_ : j2 = j := by omega
      subst e9_
      obtain ⟨gn, g0, g1, g2, g3, g4, g5, g6⟩ := id x4
      have f8 := (s4.2 338 (fun o => by have := o.2; omega)).trans e8
      have f9 := (s4.2 339 (fun o => by have := o.2; omega)).trans e9
      have f1 := s4.1.trans l3
      refine V_istore C dL_law_716 (by decide) ?_
      refine V_aload_n C dL_law_718 rfl ?_
      refine V_callV (fr := 0) (lo := 0) (mc := 0) (ms := 0) (As := []) C yvX7_thrown w_841 dL_law_719 rfl rfl (by repeat (first | with_reducible assumption | with_reducible exact mset_self _ _ _ | refine (mset_ne (by omega)).trans ?_)) (by (try simp only [mset_1]); omega) rfl rfl (Nat.le_of_ble_eq_true rfl) ⟨Nat.le_of_ble_eq_true rfl, Nat.le_of_ble_eq_true rfl⟩ ⟨by show _ + 0 ≤ 601024; omega, by show _ + 0 ≤ 7293034; omega⟩ ?_
      refine ok_X7_thrown x4 ?_
      rw [b4]
      refine V_iload C dL_law_722 rfl ?_
      refine V_icmp_eq C dL_law_724 (tgt := 729) (by decide) (by omega) (by omega) (fun g724 => ?_) (fun g724 => ?_)
      · refine V_iload C dL_law_729 rfl ?_
        refine V_if_ne C dL_law_731 (tgt := 746) (by decide) (by omega) (fun g731 => ?_) (fun g731 => ?_)
        · exact absurd rfl g731
        · refine V_aload_n C dL_law_734 rfl ?_
          refine V_iconst C dL_law_735 ?_
          refine V_laload C dL_law_736 f8 (by (try simp only [mset_1]); omega) (by omega) (by omega) ?_
          refine V_iload C dL_law_737 rfl ?_
          refine V_i2lw C dL_law_739 ?_
          refine V_lcmp0 C (congrArg lgv (up_s _ 0 _).symm) dL_law_740 ?_
          refine V_ifeq0 C dL_law_741 (tgt := 746) (by decide) ?_
          refine V_goto C dL_law_746 (tgt := 1689) (by decide) ?_
          refine V_lv [(0, .ref b), (1, .ref (z + 0)), (2, .ref (z + 331)), (3, .ref (z + 338)), (4, .ref (z + 339)), (5, iv (i : Int))] (List.forall_mem_cons.mpr ⟨(by first | rfl | exact congrArg (fun t => some (iv t)) (by omega)), (List.forall_mem_cons.mpr ⟨(by first | rfl | exact congrArg (fun t => some (iv t)) (by omega)), (List.forall_mem_cons.mpr ⟨(by first | rfl | exact congrArg (fun t => some (iv t)) (by omega)), (List.forall_mem_cons.mpr ⟨(by first | rfl | exact congrArg (fun t => some (iv t)) (by omega)), (List.forall_mem_cons.mpr ⟨(by first | rfl | exact congrArg (fun t => some (iv t)) (by omega)), (List.forall_mem_cons.mpr ⟨(by first | rfl | exact congrArg (fun t => some (iv t)) (by omega)), (fun _ h => nomatch h)⟩)⟩)⟩)⟩)⟩)⟩) ?_
          refine V_widen (k := cells + 4) (n := slots + 24) (by omega) (by omega) ?_
          exact hk _ (LawE.mk d2 sA s4 l3 e8 e9 x4 (DI.save hDI (RelN.revive (v := sc (xS x) 7) rN hB hj hc n4).2) (hR.save hDI (fun _ _ => rfl) a4 c4 p4 (RelN.revive (v := sc (xS x) 7) rN hB hj hc n4).1))
      · exact absurd rfl g724
  · rcases hE with ⟨hc, rfl⟩ | ⟨j, ja, hj, hc, rfl⟩
    · refine Or.inl ⟨rfl, ?_⟩
      have x3 := hM
      have l3 := hM1
      have e8 := h338
      have e9 := h339
      have s2 : Sm M M (fun j => j < 331) := Sm.rf _ _
      have sA : Sm M M (fun j => 331 ≤ j) := Sm.rf _ _
      have d2 := hD
      obtain ⟨gn, g0, g1, g2, g3, g4, g5, g6⟩ := id x3
      refine V_istore C dL_law_704 (by decide) ?_
      refine V_aload_n C dL_law_706 rfl ?_
      refine V_aload_n C dL_law_707 rfl ?_
      refine V_iload C dL_law_708 rfl ?_
      refine V_iconst C dL_law_710 ?_
      refine V_iadd C dL_law_711 ?_
      refine V_sld C hX hbl hbA (by omega) (by omega) (show _ = i + 1 by omega) ev1 dL_law_712 ?_
      refine V_callV (fr := 7) (lo := 154) (mc := 0) (ms := 0) (As := [_]) C yvX7_revive w_984 dL_law_713 rfl rfl (by repeat (first | with_reducible assumption | with_reducible exact mset_self _ _ _ | refine (mset_ne (by omega)).trans ?_)) (by (try simp only [mset_1]); omega) rfl rfl (Nat.le_of_ble_eq_true rfl) ⟨Nat.le_of_ble_eq_true rfl, Nat.le_of_ble_eq_true rfl⟩ ⟨by show _ + 0 ≤ 601024; omega, by show _ + 0 ≤ 7293034; omega⟩ ?_
      refine ok_X7_revive x3 rw9 hB rI r0 hDc rZ rv1 (fun _ M4 s4 x4 => ?_) (fun j2 ja2 hj2 _ => absurd hc (by omega)) (fun j2 ja2 hj2 _ => absurd hc (by omega))
      have b4 : va_up u 1 1 1 = 1 := up_s _ _ _
      obtain ⟨gn, g0, g1, g2, g3, g4, g5, g6⟩ := id x4
      have f8 := (s4.2 338 (fun o => by have := o.2; omega)).trans e8
      have f9 := (s4.2 339 (fun o => by have := o.2; omega)).trans e9
      have f1 := s4.1.trans l3
      refine V_istore C dL_law_716 (by decide) ?_
      refine V_aload_n C dL_law_718 rfl ?_
      refine V_callV (fr := 0) (lo := 0) (mc := 0) (ms := 0) (As := []) C yvX7_thrown w_841 dL_law_719 rfl rfl (by repeat (first | with_reducible assumption | with_reducible exact mset_self _ _ _ | refine (mset_ne (by omega)).trans ?_)) (by (try simp only [mset_1]); omega) rfl rfl (Nat.le_of_ble_eq_true rfl) ⟨Nat.le_of_ble_eq_true rfl, Nat.le_of_ble_eq_true rfl⟩ ⟨by show _ + 0 ≤ 601024; omega, by show _ + 0 ≤ 7293034; omega⟩ ?_
      refine ok_X7_thrown x4 ?_
      rw [b4]
      refine V_iload C dL_law_722 rfl ?_
      refine V_icmp_eq C dL_law_724 (tgt := 729) (by decide) (by omega) (by omega) (fun g724 => ?_) (fun g724 => ?_)
      · refine V_iload C dL_law_729 rfl ?_
        refine V_if_ne C dL_law_731 (tgt := 746) (by decide) (by omega) (fun g731 => ?_) (fun g731 => ?_)
        · refine V_goto C dL_law_746 (tgt := 1689) (by decide) ?_
          refine V_lv [(0, .ref b), (1, .ref (z + 0)), (2, .ref (z + 331)), (3, .ref (z + 338)), (4, .ref (z + 339)), (5, iv (i : Int))] (List.forall_mem_cons.mpr ⟨(by first | rfl | exact congrArg (fun t => some (iv t)) (by omega)), (List.forall_mem_cons.mpr ⟨(by first | rfl | exact congrArg (fun t => some (iv t)) (by omega)), (List.forall_mem_cons.mpr ⟨(by first | rfl | exact congrArg (fun t => some (iv t)) (by omega)), (List.forall_mem_cons.mpr ⟨(by first | rfl | exact congrArg (fun t => some (iv t)) (by omega)), (List.forall_mem_cons.mpr ⟨(by first | rfl | exact congrArg (fun t => some (iv t)) (by omega)), (List.forall_mem_cons.mpr ⟨(by first | rfl | exact congrArg (fun t => some (iv t)) (by omega)), (fun _ h => nomatch h)⟩)⟩)⟩)⟩)⟩)⟩) ?_
          refine V_widen (k := cells + 4) (n := slots + 24) (by omega) (by omega) ?_
          exact hk _ (LawE.mk d2 sA s4 l3 e8 e9 x4 hDI (hR.same rfl rfl))
        · exact absurd g731 (by decide)
      · exact absurd rfl g724
    · refine Or.inr  ⟨rfl, ?_⟩
      have x3 := hM
      have l3 := hM1
      have e8 := h338
      have e9 := h339
      have s2 : Sm M M (fun j => j < 331) := Sm.rf _ _
      have sA : Sm M M (fun j => 331 ≤ j) := Sm.rf _ _
      have d2 := hD
      obtain ⟨gn, g0, g1, g2, g3, g4, g5, g6⟩ := id x3
      refine V_istore C dL_law_704 (by decide) ?_
      refine V_aload_n C dL_law_706 rfl ?_
      refine V_aload_n C dL_law_707 rfl ?_
      refine V_iload C dL_law_708 rfl ?_
      refine V_iconst C dL_law_710 ?_
      refine V_iadd C dL_law_711 ?_
      refine V_sld C hX hbl hbA (by omega) (by omega) (show _ = i + 1 by omega) ev1 dL_law_712 ?_
      refine V_callV (fr := 7) (lo := 154) (mc := 0) (ms := 0) (As := [_]) C yvX7_revive w_984 dL_law_713 rfl rfl (by repeat (first | with_reducible assumption | with_reducible exact mset_self _ _ _ | refine (mset_ne (by omega)).trans ?_)) (by (try simp only [mset_1]); omega) rfl rfl (Nat.le_of_ble_eq_true rfl) ⟨Nat.le_of_ble_eq_true rfl, Nat.le_of_ble_eq_true rfl⟩ ⟨by show _ + 0 ≤ 601024; omega, by show _ + 0 ≤ 7293034; omega⟩ ?_
      refine ok_X7_revive x3 rw9 hB rI r0 hDc rZ rv1 (fun o => absurd (show 0 ≤ v1 ∧ v1 < (sN (xS x) : Int) by omega) o) (fun j2 ja2 hj2 _ M4 s4 x4 => ?_) (fun j2 ja2 hj2 hc2 => (by have e9_ : j2 = j := (by omega); subst e9_; exact absurd hc2 hc))
      have b4 : va_up u 1 2 1 = 2 := up_s _ _ _
      obtain ⟨gn, g0, g1, g2, g3, g4, g5, g6⟩ := id x4
      have f8 := (s4.2 338 (fun o => by have := o.2; omega)).trans e8
      have f9 := (s4.2 339 (fun o => by have := o.2; omega)).trans e9
      have f1 := s4.1.trans l3
      refine V_istore C dL_law_716 (by decide) ?_
      refine V_aload_n C dL_law_718 rfl ?_
      refine V_callV (fr := 0) (lo := 0) (mc := 0) (ms := 0) (As := []) C yvX7_thrown w_841 dL_law_719 rfl rfl (by repeat (first | with_reducible assumption | with_reducible exact mset_self _ _ _ | refine (mset_ne (by omega)).trans ?_)) (by (try simp only [mset_1]); omega) rfl rfl (Nat.le_of_ble_eq_true rfl) ⟨Nat.le_of_ble_eq_true rfl, Nat.le_of_ble_eq_true rfl⟩ ⟨by show _ + 0 ≤ 601024; omega, by show _ + 0 ≤ 7293034; omega⟩ ?_
      refine ok_X7_thrown x4 ?_
      rw [b4]
      refine V_iload C dL_law_722 rfl ?_
      refine V_icmp_eq C dL_law_724 (tgt := 729) (by decide) (by omega) (by omega) (fun g724 => ?_) (fun g724 => ?_)
      · refine V_iload C dL_law_729 rfl ?_
        refine V_if_ne C dL_law_731 (tgt := 746) (by decide) (by omega) (fun g731 => ?_) (fun g731 => ?_)
        · refine V_goto C dL_law_746 (tgt := 1689) (by decide) ?_
          refine V_lv [(0, .ref b), (1, .ref (z + 0)), (2, .ref (z + 331)), (3, .ref (z + 338)), (4, .ref (z + 339)), (5, iv (i : Int))] (List.forall_mem_cons.mpr ⟨(by first | rfl | exact congrArg (fun t => some (iv t)) (by omega)), (List.forall_mem_cons.mpr ⟨(by first | rfl | exact congrArg (fun t => some (iv t)) (by omega)), (List.forall_mem_cons.mpr ⟨(by first | rfl | exact congrArg (fun t => some (iv t)) (by omega)), (List.forall_mem_cons.mpr ⟨(by first | rfl | exact congrArg (fun t => some (iv t)) (by omega)), (List.forall_mem_cons.mpr ⟨(by first | rfl | exact congrArg (fun t => some (iv t)) (by omega)), (List.forall_mem_cons.mpr ⟨(by first | rfl | exact congrArg (fun t => some (iv t)) (by omega)), (fun _ h => nomatch h)⟩)⟩)⟩)⟩)⟩)⟩) ?_
          refine V_widen (k := cells + 4) (n := slots + 24) (by omega) (by omega) ?_
          exact hk _ (LawE.mk d2 sA s4 l3 e8 e9 x4 hDI (hR.same rfl rfl))
        · exact absurd g731 (by decide)
      · exact absurd rfl g724

set_option maxHeartbeats 1000000 in
set_option maxRecDepth 4000 in
theorem law_c10 {p : Program} {l : Launch} {e : Env} {s : State} {m : MethodId} {args : Array Value} {below : List Frame} {meth : Method} {c : Code} {D : va_G} {cy : Nat → ClassId} {z : Nat} {Q : State → Prop} {cells slots : Nat} {M : Mm} (C : Cx p l s m args meth c D cy z 9 cL_law RL) (hlt : l.stackTraces = false) {b L : Nat} {xs : Nat → Int32} (hX : va_X b L xs s s.heap) (hbl : b < s.heap.size) (hbA : ¬ z ≤ b) (hL : L ≤ 2560) {i : Nat} (hi : i + 5 ≤ L) (hcs : cells + 4 ≤ 601024 ∧ slots + 24 ≤ 7293034) {x : DD} {u N P A tx fr tl g9 : Nat → Int} {d9 : Nat → UInt64} (hI : LawI cy z M x u N P A tx fr tl g9 d9) (hk : ∀ M', LawE cy z M' → V p l e room_1 s m args below meth c D z 9 Q (cells + 4) (slots + 24) M' 1689 [(0, .ref b), (1, .ref (z + 0)), (2, .ref (z + 331)), (3, .ref (z + 338)), (4, .ref (z + 339)), (5, iv (i : Int))] []) : V p l e room_1 s m args below meth c D z 9 Q cells slots M 749 [(0, .ref b), (1, .ref (z + 0)), (2, .ref (z + 331)), (3, .ref (z + 338)), (4, .ref (z + 339)), (5, iv (i : Int))] [] := by
  obtain ⟨hD, hDI, hM, hM1, h338, h339, hR⟩ := id hI
  obtain ⟨r0, r2, rN, rV, rT⟩ := id hR
  obtain ⟨rw9, rI, rZ, rH⟩ := id rN
  have hB := hDI.1
  have hDc := hDI.2.1
  have hDt := hDI.2.2.2.1
  have hq6 := hB.2.2.1
  have hn10 := hB.2.1
  obtain ⟨v1, ev1⟩ : ∃ v, (xs (i + 1)).toInt = v := ⟨_, rfl⟩
  have rv1 : -2147483648 ≤ v1 ∧ v1 < 2147483648 := by rw [← ev1]; exact ⟨Int32.le_toInt _, Int32.toInt_lt _⟩
  obtain ⟨v2, ev2⟩ : ∃ v, (xs (i + 2)).toInt = v := ⟨_, rfl⟩
  have rv2 : -2147483648 ≤ v2 ∧ v2 < 2147483648 := by rw [← ev2]; exact ⟨Int32.le_toInt _, Int32.toInt_lt _⟩
  refine V_aload_n C dL_law_749 rfl ?_
  refine V_aload_n C dL_law_750 rfl ?_
  refine V_iload C dL_law_751 rfl ?_
  refine V_iconst C dL_law_753 ?_
  refine V_iadd C dL_law_754 ?_
  refine V_sld C hX hbl hbA (by omega) (by omega) (show _ = i + 1 by omega) ev1 dL_law_755 ?_
  refine V_aload_n C dL_law_756 rfl ?_
  refine V_iload C dL_law_757 rfl ?_
  refine V_iconst C dL_law_759 ?_
  refine V_iadd C dL_law_760 ?_
  refine V_sld C hX hbl hbA (by omega) (by omega) (show _ = i + 2 by omega) ev2 dL_law_761 ?_
  refine V_aload_n C dL_law_762 rfl ?_
  refine V_callW (fr := 8) (lo := 134) (mc := 3) (ms := 18) (As := [_, _, _, _]) C ywL_use w_658 dL_law_763 rfl rfl (Nat.le_of_ble_eq_true rfl) ⟨Nat.le_of_ble_eq_true rfl, Nat.le_of_ble_eq_true rfl⟩ ⟨by show _ + 3 ≤ 601024; omega, by show _ + 18 ≤ 7293034; omega⟩ ?_
  refine ok_L_use (g9 := g9) (G9 := fun a M2 => ∃ j w : Nat, v1 = j ∧ j < sN (xS x) ∧ v2 = w ∧ w < 10 ∧ canUseR (xS x) j w ∧ a = ((cntN (fun u9 => decide (¬ stU (RF (xS x) j) (va_up (RA (xS x) j) 4 (va_up (RA (xS x) j 4) w (sc (xS x) 0))) u9 = 0)) 10 : Nat) : Int) ∧ Sm M M2 (fun q => q < 331) ∧ DockAt cy z M2 (setNow (svD x) (useS (xS x) j w))) (GX := fun E => ((v1 < 0 ∨ (sN (xS x) : Int) ≤ v1) ∧ E = eI) ∨ (∃ j : Nat, v1 = j ∧ j < sN (xS x) ∧ ¬ (0 ≤ v2 ∧ v2 ≤ 9) ∧ E = eA) ∨ ∃ j w : Nat, v1 = j ∧ j < sN (xS x) ∧ v2 = w ∧ w < 10 ∧ ¬ canUseR (xS x) j w ∧ E = eS) hD.2.1 (by omega) (fun h hx => ok_X6_use hD hDI hlt rv1 rv2 (fun j w ja hj jw hw hc M2 s2 d2 => h _ M2 ⟨j, w, ja, hj, jw, hw, hc, rfl, s2, d2⟩) (fun o => hx _ (Or.inl ⟨o, rfl⟩)) (fun j ja hj hc => hx _ (Or.inr (Or.inl ⟨j, ja, hj, hc, rfl⟩))) (fun j w ja hj jw hw hc => hx _ (Or.inr (Or.inr ⟨j, w, ja, hj, jw, hw, hc, rfl⟩)))) (fun a M2 hg => ?_) (fun E hE => ?_)
  · rcases hg with ⟨j, w, ja, hj, jw, hw, hc, rfl, s2, d2⟩
    · refine ⟨(s2.2 _ (by omega)).trans h338, by have := s2.1; omega, ?_⟩
      refine V_memgen (fun M3 em3 => ?_)
      obtain ⟨l3, x3, e8, e9, sA⟩ := law_mid hI s2 em3
      clear em3
      obtain ⟨gn, g0, g1, g2, g3, g4, g5, g6⟩ := id x3
      refine V_istore C dL_law_766 (by decide) ?_
      refine V_aload_n C dL_law_768 rfl ?_
      refine V_aload_n C dL_law_769 rfl ?_
      refine V_iload C dL_law_770 rfl ?_
      refine V_iconst C dL_law_772 ?_
      refine V_iadd C dL_law_773 ?_
      refine V_sld C hX hbl hbA (by omega) (by omega) (show _ = i + 1 by omega) ev1 dL_law_774 ?_
      refine V_aload_n C dL_law_775 rfl ?_
      refine V_iload C dL_law_776 rfl ?_
      refine V_iconst C dL_law_778 ?_
      refine V_iadd C dL_law_779 ?_
      refine V_sld C hX hbl hbA (by omega) (by omega) (show _ = i + 2 by omega) ev2 dL_law_780 ?_
      refine V_callV (fr := 7) (lo := 154) (mc := 0) (ms := 0) (As := [_, _]) C yvX7_use w_996 dL_law_781 rfl rfl (by repeat (first | with_reducible assumption | with_reducible exact mset_self _ _ _ | refine (mset_ne (by omega)).trans ?_)) (by (try simp only [mset_1]); omega) rfl rfl (Nat.le_of_ble_eq_true rfl) ⟨Nat.le_of_ble_eq_true rfl, Nat.le_of_ble_eq_true rfl⟩ ⟨by show _ + 0 ≤ 601024; omega, by show _ + 0 ≤ 7293034; omega⟩ ?_
      refine ok_X7_use x3 rw9 hB rI r0 hDc rZ rv1 rv2 (fun o => absurd (show 0 ≤ v1 ∧ v1 < (sN (xS x) : Int) by omega) o) (fun j2 ja2 hj2 hc2 => absurd (show 0 ≤ v2 ∧ v2 ≤ 9 by omega) hc2) (fun j2 w2 ja2 hj2 jw2 hw2 hc2 => (by have e9_ : j2 = j := (by omega); subst e9_; have e8_ : w2 = w := (by omega); subst e8_; exact absurd hc hc2)) (fun j2 w2 ja2 hj2 jw2 hw2 _ M4 u4 P4 N4 s4 x4 a4 b4 c4 p4 n4 => ?_)
      have e9_ : j2 = j := by omega
      subst e9_
      have e8_ : w2 = w := by omega
      subst e8_
      obtain ⟨gn, g0, g1, g2, g3, g4, g5, g6⟩ := id x4
      have f8 := (s4.2 338 (fun o => by have := o.2; omega)).trans e8
      have f9 := (s4.2 339 (fun o => by have := o.2; omega)).trans e9
      have f1 := s4.1.trans l3
      refine V_istore C dL_law_784 (by decide) ?_
      refine V_aload_n C dL_law_786 rfl ?_
      refine V_callV (fr := 0) (lo := 0) (mc := 0) (ms := 0) (As := []) C yvX7_thrown w_841 dL_law_787 rfl rfl (by repeat (first | with_reducible assumption | with_reducible exact mset_self _ _ _ | refine (mset_ne (by omega)).trans ?_)) (by (try simp only [mset_1]); omega) rfl rfl (Nat.le_of_ble_eq_true rfl) ⟨Nat.le_of_ble_eq_true rfl, Nat.le_of_ble_eq_true rfl⟩ ⟨by show _ + 0 ≤ 601024; omega, by show _ + 0 ≤ 7293034; omega⟩ ?_
      refine ok_X7_thrown x4 ?_
      rw [b4]
      refine V_iload C dL_law_790 rfl ?_
      refine V_icmp_eq C dL_law_792 (tgt := 797) (by decide) (by omega) (by omega) (fun g792 => ?_) (fun g792 => ?_)
      · refine V_iload C dL_law_797 rfl ?_
        refine V_if_ne C dL_law_799 (tgt := 814) (by decide) (by omega) (fun g799 => ?_) (fun g799 => ?_)
        · exact absurd rfl g799
        · refine V_aload_n C dL_law_802 rfl ?_
          refine V_iconst C dL_law_803 ?_
          refine V_laload C dL_law_804 f8 (by (try simp only [mset_1]); omega) (by omega) (by omega) ?_
          refine V_iload C dL_law_805 rfl ?_
          refine V_i2lw C dL_law_807 ?_
          refine V_lcmp0 C (congrArg lgv (up_s _ 0 _).symm) dL_law_808 ?_
          refine V_ifeq0 C dL_law_809 (tgt := 814) (by decide) ?_
          refine V_goto C dL_law_814 (tgt := 1689) (by decide) ?_
          refine V_lv [(0, .ref b), (1, .ref (z + 0)), (2, .ref (z + 331)), (3, .ref (z + 338)), (4, .ref (z + 339)), (5, iv (i : Int))] (List.forall_mem_cons.mpr ⟨(by first | rfl | exact congrArg (fun t => some (iv t)) (by omega)), (List.forall_mem_cons.mpr ⟨(by first | rfl | exact congrArg (fun t => some (iv t)) (by omega)), (List.forall_mem_cons.mpr ⟨(by first | rfl | exact congrArg (fun t => some (iv t)) (by omega)), (List.forall_mem_cons.mpr ⟨(by first | rfl | exact congrArg (fun t => some (iv t)) (by omega)), (List.forall_mem_cons.mpr ⟨(by first | rfl | exact congrArg (fun t => some (iv t)) (by omega)), (List.forall_mem_cons.mpr ⟨(by first | rfl | exact congrArg (fun t => some (iv t)) (by omega)), (fun _ h => nomatch h)⟩)⟩)⟩)⟩)⟩)⟩) ?_
          refine V_widen (k := cells + 4) (n := slots + 24) (by omega) (by omega) ?_
          exact hk _ (LawE.mk d2 sA s4 l3 e8 e9 x4 (DI.save hDI (RelN.use rN hB hj n4).2) (hR.save hDI (fun _ _ => rfl) a4 c4 p4 (RelN.use rN hB hj n4).1))
      · exact absurd rfl g792
  · rcases hE with ⟨hc, rfl⟩ | ⟨j, ja, hj, hc, rfl⟩ | ⟨j, w, ja, hj, jw, hw, hc, rfl⟩
    · refine Or.inl ⟨rfl, ?_⟩
      have x3 := hM
      have l3 := hM1
      have e8 := h338
      have e9 := h339
      have s2 : Sm M M (fun j => j < 331) := Sm.rf _ _
      have sA : Sm M M (fun j => 331 ≤ j) := Sm.rf _ _
      have d2 := hD
      obtain ⟨gn, g0, g1, g2, g3, g4, g5, g6⟩ := id x3
      refine V_istore C dL_law_766 (by decide) ?_
      refine V_aload_n C dL_law_768 rfl ?_
      refine V_aload_n C dL_law_769 rfl ?_
      refine V_iload C dL_law_770 rfl ?_
      refine V_iconst C dL_law_772 ?_
      refine V_iadd C dL_law_773 ?_
      refine V_sld C hX hbl hbA (by omega) (by omega) (show _ = i + 1 by omega) ev1 dL_law_774 ?_
      refine V_aload_n C dL_law_775 rfl ?_
      refine V_iload C dL_law_776 rfl ?_
      refine V_iconst C dL_law_778 ?_
      refine V_iadd C dL_law_779 ?_
      refine V_sld C hX hbl hbA (by omega) (by omega) (show _ = i + 2 by omega) ev2 dL_law_780 ?_
      refine V_callV (fr := 7) (lo := 154) (mc := 0) (ms := 0) (As := [_, _]) C yvX7_use w_996 dL_law_781 rfl rfl (by repeat (first | with_reducible assumption | with_reducible exact mset_self _ _ _ | refine (mset_ne (by omega)).trans ?_)) (by (try simp only [mset_1]); omega) rfl rfl (Nat.le_of_ble_eq_true rfl) ⟨Nat.le_of_ble_eq_true rfl, Nat.le_of_ble_eq_true rfl⟩ ⟨by show _ + 0 ≤ 601024; omega, by show _ + 0 ≤ 7293034; omega⟩ ?_
      refine ok_X7_use x3 rw9 hB rI r0 hDc rZ rv1 rv2 (fun _ M4 s4 x4 => ?_) (fun j2 ja2 hj2 _ => absurd hc (by omega)) (fun j2 w2 ja2 hj2 _ _ _ => absurd hc (by omega)) (fun j2 w2 ja2 hj2 _ _ _ => absurd hc (by omega))
      have b4 : va_up u 1 1 1 = 1 := up_s _ _ _
      obtain ⟨gn, g0, g1, g2, g3, g4, g5, g6⟩ := id x4
      have f8 := (s4.2 338 (fun o => by have := o.2; omega)).trans e8
      have f9 := (s4.2 339 (fun o => by have := o.2; omega)).trans e9
      have f1 := s4.1.trans l3
      refine V_istore C dL_law_784 (by decide) ?_
      refine V_aload_n C dL_law_786 rfl ?_
      refine V_callV (fr := 0) (lo := 0) (mc := 0) (ms := 0) (As := []) C yvX7_thrown w_841 dL_law_787 rfl rfl (by repeat (first | with_reducible assumption | with_reducible exact mset_self _ _ _ | refine (mset_ne (by omega)).trans ?_)) (by (try simp only [mset_1]); omega) rfl rfl (Nat.le_of_ble_eq_true rfl) ⟨Nat.le_of_ble_eq_true rfl, Nat.le_of_ble_eq_true rfl⟩ ⟨by show _ + 0 ≤ 601024; omega, by show _ + 0 ≤ 7293034; omega⟩ ?_
      refine ok_X7_thrown x4 ?_
      rw [b4]
      refine V_iload C dL_law_790 rfl ?_
      refine V_icmp_eq C dL_law_792 (tgt := 797) (by decide) (by omega) (by omega) (fun g792 => ?_) (fun g792 => ?_)
      · refine V_iload C dL_law_797 rfl ?_
        refine V_if_ne C dL_law_799 (tgt := 814) (by decide) (by omega) (fun g799 => ?_) (fun g799 => ?_)
        · refine V_goto C dL_law_814 (tgt := 1689) (by decide) ?_
          refine V_lv [(0, .ref b), (1, .ref (z + 0)), (2, .ref (z + 331)), (3, .ref (z + 338)), (4, .ref (z + 339)), (5, iv (i : Int))] (List.forall_mem_cons.mpr ⟨(by first | rfl | exact congrArg (fun t => some (iv t)) (by omega)), (List.forall_mem_cons.mpr ⟨(by first | rfl | exact congrArg (fun t => some (iv t)) (by omega)), (List.forall_mem_cons.mpr ⟨(by first | rfl | exact congrArg (fun t => some (iv t)) (by omega)), (List.forall_mem_cons.mpr ⟨(by first | rfl | exact congrArg (fun t => some (iv t)) (by omega)), (List.forall_mem_cons.mpr ⟨(by first | rfl | exact congrArg (fun t => some (iv t)) (by omega)), (List.forall_mem_cons.mpr ⟨(by first | rfl | exact congrArg (fun t => some (iv t)) (by omega)), (fun _ h => nomatch h)⟩)⟩)⟩)⟩)⟩)⟩) ?_
          refine V_widen (k := cells + 4) (n := slots + 24) (by omega) (by omega) ?_
          exact hk _ (LawE.mk d2 sA s4 l3 e8 e9 x4 hDI (hR.same rfl rfl))
        · exact absurd g799 (by decide)
      · exact absurd rfl g792
    · refine Or.inr (Or.inl ⟨rfl, ?_⟩)
      have x3 := hM
      have l3 := hM1
      have e8 := h338
      have e9 := h339
      have s2 : Sm M M (fun j => j < 331) := Sm.rf _ _
      have sA : Sm M M (fun j => 331 ≤ j) := Sm.rf _ _
      have d2 := hD
      obtain ⟨gn, g0, g1, g2, g3, g4, g5, g6⟩ := id x3
      refine V_istore C dL_law_766 (by decide) ?_
      refine V_aload_n C dL_law_768 rfl ?_
      refine V_aload_n C dL_law_769 rfl ?_
      refine V_iload C dL_law_770 rfl ?_
      refine V_iconst C dL_law_772 ?_
      refine V_iadd C dL_law_773 ?_
      refine V_sld C hX hbl hbA (by omega) (by omega) (show _ = i + 1 by omega) ev1 dL_law_774 ?_
      refine V_aload_n C dL_law_775 rfl ?_
      refine V_iload C dL_law_776 rfl ?_
      refine V_iconst C dL_law_778 ?_
      refine V_iadd C dL_law_779 ?_
      refine V_sld C hX hbl hbA (by omega) (by omega) (show _ = i + 2 by omega) ev2 dL_law_780 ?_
      refine V_callV (fr := 7) (lo := 154) (mc := 0) (ms := 0) (As := [_, _]) C yvX7_use w_996 dL_law_781 rfl rfl (by repeat (first | with_reducible assumption | with_reducible exact mset_self _ _ _ | refine (mset_ne (by omega)).trans ?_)) (by (try simp only [mset_1]); omega) rfl rfl (Nat.le_of_ble_eq_true rfl) ⟨Nat.le_of_ble_eq_true rfl, Nat.le_of_ble_eq_true rfl⟩ ⟨by show _ + 0 ≤ 601024; omega, by show _ + 0 ≤ 7293034; omega⟩ ?_
      refine ok_X7_use x3 rw9 hB rI r0 hDc rZ rv1 rv2 (fun o => absurd (show 0 ≤ v1 ∧ v1 < (sN (xS x) : Int) by omega) o) (fun j2 ja2 hj2 _ M4 s4 x4 => ?_) (fun j2 w2 ja2 hj2 jw2 hw2 _ => absurd (show 0 ≤ v2 ∧ v2 ≤ 9 by omega) hc) (fun j2 w2 ja2 hj2 jw2 hw2 _ => absurd (show 0 ≤ v2 ∧ v2 ≤ 9 by omega) hc)
      have b4 : va_up u 1 2 1 = 2 := up_s _ _ _
      obtain ⟨gn, g0, g1, g2, g3, g4, g5, g6⟩ := id x4
      have f8 := (s4.2 338 (fun o => by have := o.2; omega)).trans e8
      have f9 := (s4.2 339 (fun o => by have := o.2; omega)).trans e9
      have f1 := s4.1.trans l3
      refine V_istore C dL_law_784 (by decide) ?_
      refine V_aload_n C dL_law_786 rfl ?_
      refine V_callV (fr := 0) (lo := 0) (mc := 0) (ms := 0) (As := []) C yvX7_thrown w_841 dL_law_787 rfl rfl (by repeat (first | with_reducible assumption | with_reducible exact mset_self _ _ _ | refine (mset_ne (by omega)).trans ?_)) (by (try simp only [mset_1]); omega) rfl rfl (Nat.le_of_ble_eq_true rfl) ⟨Nat.le_of_ble_eq_true rfl, Nat.le_of_ble_eq_true rfl⟩ ⟨by show _ + 0 ≤ 601024; omega, by show _ + 0 ≤ 7293034; omega⟩ ?_
      refine ok_X7_thrown x4 ?_
      rw [b4]
      refine V_iload C dL_law_790 rfl ?_
      refine V_icmp_eq C dL_law_792 (tgt := 797) (by decide) (by omega) (by omega) (fun g792 => ?_) (fun g792 => ?_)
      · refine V_iload C dL_law_797 rfl ?_
        refine V_if_ne C dL_law_799 (tgt := 814) (by decide) (by omega) (fun g799 => ?_) (fun g799 => ?_)
        · refine V_goto C dL_law_814 (tgt := 1689) (by decide) ?_
          refine V_lv [(0, .ref b), (1, .ref (z + 0)), (2, .ref (z + 331)), (3, .ref (z + 338)), (4, .ref (z + 339)), (5, iv (i : Int))] (List.forall_mem_cons.mpr ⟨(by first | rfl | exact congrArg (fun t => some (iv t)) (by omega)), (List.forall_mem_cons.mpr ⟨(by first | rfl | exact congrArg (fun t => some (iv t)) (by omega)), (List.forall_mem_cons.mpr ⟨(by first | rfl | exact congrArg (fun t => some (iv t)) (by omega)), (List.forall_mem_cons.mpr ⟨(by first | rfl | exact congrArg (fun t => some (iv t)) (by omega)), (List.forall_mem_cons.mpr ⟨(by first | rfl | exact congrArg (fun t => some (iv t)) (by omega)), (List.forall_mem_cons.mpr ⟨(by first | rfl | exact congrArg (fun t => some (iv t)) (by omega)), (fun _ h => nomatch h)⟩)⟩)⟩)⟩)⟩)⟩) ?_
          refine V_widen (k := cells + 4) (n := slots + 24) (by omega) (by omega) ?_
          exact hk _ (LawE.mk d2 sA s4 l3 e8 e9 x4 hDI (hR.same rfl rfl))
        · exact absurd g799 (by decide)
      · exact absurd rfl g792
    · refine Or.inr (Or.inr (⟨rfl, ?_⟩))
      have x3 := hM
      have l3 := hM1
      have e8 := h338
      have e9 := h339
      have s2 : Sm M M (fun j => j < 331) := Sm.rf _ _
      have sA : Sm M M (fun j => 331 ≤ j) := Sm.rf _ _
      have d2 := hD
      obtain ⟨gn, g0, g1, g2, g3, g4, g5, g6⟩ := id x3
      refine V_istore C dL_law_766 (by decide) ?_
      refine V_aload_n C dL_law_768 rfl ?_
      refine V_aload_n C dL_law_769 rfl ?_
      refine V_iload C dL_law_770 rfl ?_
      refine V_iconst C dL_law_772 ?_
      refine V_iadd C dL_law_773 ?_
      refine V_sld C hX hbl hbA (by omega) (by omega) (show _ = i + 1 by omega) ev1 dL_law_774 ?_
      refine V_aload_n C dL_law_775 rfl ?_
      refine V_iload C dL_law_776 rfl ?_
      refine V_iconst C dL_law_778 ?_
      refine V_iadd C dL_law_779 ?_
      refine V_sld C hX hbl hbA (by omega) (by omega) (show _ = i + 2 by omega) ev2 dL_law_780 ?_
      refine V_callV (fr := 7) (lo := 154) (mc := 0) (ms := 0) (As := [_, _]) C yvX7_use w_996 dL_law_781 rfl rfl (by repeat (first | with_reducible assumption | with_reducible exact mset_self _ _ _ | refine (mset_ne (by omega)).trans ?_)) (by (try simp only [mset_1]); omega) rfl rfl (Nat.le_of_ble_eq_true rfl) ⟨Nat.le_of_ble_eq_true rfl, Nat.le_of_ble_eq_true rfl⟩ ⟨by show _ + 0 ≤ 601024; omega, by show _ + 0 ≤ 7293034; omega⟩ ?_
      refine ok_X7_use x3 rw9 hB rI r0 hDc rZ rv1 rv2 (fun o => absurd (show 0 ≤ v1 ∧ v1 < (sN (xS x) : Int) by omega) o) (fun j2 ja2 hj2 hc2 => absurd (show 0 ≤ v2 ∧ v2 ≤ 9 by omega) hc2) (fun j2 w2 ja2 hj2 jw2 hw2 _ M4 s4 x4 => ?_) (fun j2 w2 ja2 hj2 jw2 hw2 hc2 => (by have e9_ : j2 = j := (by omega); subst e9_; have e8_ : w2 = w := (by omega); subst e8_; exact absurd hc2 hc))
      have b4 : va_up u 1 3 1 = 3 := up_s _ _ _
      obtain ⟨gn, g0, g1, g2, g3, g4, g5, g6⟩ := id x4
      have f8 := (s4.2 338 (fun o => by have := o.2; omega)).trans e8
      have f9 := (s4.2 339 (fun o => by have := o.2; omega)).trans e9
      have f1 := s4.1.trans l3
      refine V_istore C dL_law_784 (by decide) ?_
      refine V_aload_n C dL_law_786 rfl ?_
      refine V_callV (fr := 0) (lo := 0) (mc := 0) (ms := 0) (As := []) C yvX7_thrown w_841 dL_law_787 rfl rfl (by repeat (first | with_reducible assumption | with_reducible exact mset_self _ _ _ | refine (mset_ne (by omega)).trans ?_)) (by (try simp only [mset_1]); omega) rfl rfl (Nat.le_of_ble_eq_true rfl) ⟨Nat.le_of_ble_eq_true rfl, Nat.le_of_ble_eq_true rfl⟩ ⟨by show _ + 0 ≤ 601024; omega, by show _ + 0 ≤ 7293034; omega⟩ ?_
      refine ok_X7_thrown x4 ?_
      rw [b4]
      refine V_iload C dL_law_790 rfl ?_
      refine V_icmp_eq C dL_law_792 (tgt := 797) (by decide) (by omega) (by omega) (fun g792 => ?_) (fun g792 => ?_)
      · refine V_iload C dL_law_797 rfl ?_
        refine V_if_ne C dL_law_799 (tgt := 814) (by decide) (by omega) (fun g799 => ?_) (fun g799 => ?_)
        · refine V_goto C dL_law_814 (tgt := 1689) (by decide) ?_
          refine V_lv [(0, .ref b), (1, .ref (z + 0)), (2, .ref (z + 331)), (3, .ref (z + 338)), (4, .ref (z + 339)), (5, iv (i : Int))] (List.forall_mem_cons.mpr ⟨(by first | rfl | exact congrArg (fun t => some (iv t)) (by omega)), (List.forall_mem_cons.mpr ⟨(by first | rfl | exact congrArg (fun t => some (iv t)) (by omega)), (List.forall_mem_cons.mpr ⟨(by first | rfl | exact congrArg (fun t => some (iv t)) (by omega)), (List.forall_mem_cons.mpr ⟨(by first | rfl | exact congrArg (fun t => some (iv t)) (by omega)), (List.forall_mem_cons.mpr ⟨(by first | rfl | exact congrArg (fun t => some (iv t)) (by omega)), (List.forall_mem_cons.mpr ⟨(by first | rfl | exact congrArg (fun t => some (iv t)) (by omega)), (fun _ h => nomatch h)⟩)⟩)⟩)⟩)⟩)⟩) ?_
          refine V_widen (k := cells + 4) (n := slots + 24) (by omega) (by omega) ?_
          exact hk _ (LawE.mk d2 sA s4 l3 e8 e9 x4 hDI (hR.same rfl rfl))
        · exact absurd g799 (by decide)
      · exact absurd rfl g792

set_option maxHeartbeats 1000000 in
set_option maxRecDepth 4000 in
theorem law_c11 {p : Program} {l : Launch} {e : Env} {s : State} {m : MethodId} {args : Array Value} {below : List Frame} {meth : Method} {c : Code} {D : va_G} {cy : Nat → ClassId} {z : Nat} {Q : State → Prop} {cells slots : Nat} {M : Mm} (C : Cx p l s m args meth c D cy z 9 cL_law RL) (hlt : l.stackTraces = false) {b L : Nat} {xs : Nat → Int32} (hX : va_X b L xs s s.heap) (hbl : b < s.heap.size) (hbA : ¬ z ≤ b) (hL : L ≤ 2560) {i : Nat} (hi : i + 5 ≤ L) (hcs : cells + 4 ≤ 601024 ∧ slots + 24 ≤ 7293034) {x : DD} {u N P A tx fr tl g9 : Nat → Int} {d9 : Nat → UInt64} (hI : LawI cy z M x u N P A tx fr tl g9 d9) (hk : ∀ M', LawE cy z M' → V p l e room_1 s m args below meth c D z 9 Q (cells + 4) (slots + 24) M' 1689 [(0, .ref b), (1, .ref (z + 0)), (2, .ref (z + 331)), (3, .ref (z + 338)), (4, .ref (z + 339)), (5, iv (i : Int))] []) : V p l e room_1 s m args below meth c D z 9 Q cells slots M 817 [(0, .ref b), (1, .ref (z + 0)), (2, .ref (z + 331)), (3, .ref (z + 338)), (4, .ref (z + 339)), (5, iv (i : Int))] [] := by
  obtain ⟨hD, hDI, hM, hM1, h338, h339, hR⟩ := id hI
  obtain ⟨r0, r2, rN, rV, rT⟩ := id hR
  obtain ⟨rw9, rI, rZ, rH⟩ := id rN
  have hB := hDI.1
  have hDc := hDI.2.1
  have hDt := hDI.2.2.2.1
  have hq6 := hB.2.2.1
  have hn10 := hB.2.1
  obtain ⟨v1, ev1⟩ : ∃ v, (xs (i + 1)).toInt = v := ⟨_, rfl⟩
  have rv1 : -2147483648 ≤ v1 ∧ v1 < 2147483648 := by rw [← ev1]; exact ⟨Int32.le_toInt _, Int32.toInt_lt _⟩
  obtain ⟨v2, ev2⟩ : ∃ v, (xs (i + 2)).toInt = v := ⟨_, rfl⟩
  have rv2 : -2147483648 ≤ v2 ∧ v2 < 2147483648 := by rw [← ev2]; exact ⟨Int32.le_toInt _, Int32.toInt_lt _⟩
  obtain ⟨v3, ev3⟩ : ∃ v, (xs (i + 3)).toInt = v := ⟨_, rfl⟩
  have rv3 : -2147483648 ≤ v3 ∧ v3 < 2147483648 := by rw [← ev3]; exact ⟨Int32.le_toInt _, Int32.toInt_lt _⟩
  obtain ⟨v4, ev4⟩ : ∃ v, (xs (i + 4)).toInt = v := ⟨_, rfl⟩
  have rv4 : -2147483648 ≤ v4 ∧ v4 < 2147483648 := by rw [← ev4]; exact ⟨Int32.le_toInt _, Int32.toInt_lt _⟩
  refine V_aload_n C dL_law_817 rfl ?_
  refine V_aload_n C dL_law_818 rfl ?_
  refine V_iload C dL_law_819 rfl ?_
  refine V_iconst C dL_law_821 ?_
  refine V_iadd C dL_law_822 ?_
  refine V_sld C hX hbl hbA (by omega) (by omega) (show _ = i + 1 by omega) ev1 dL_law_823 ?_
  refine V_aload_n C dL_law_824 rfl ?_
  refine V_iload C dL_law_825 rfl ?_
  refine V_iconst C dL_law_827 ?_
  refine V_iadd C dL_law_828 ?_
  refine V_sld C hX hbl hbA (by omega) (by omega) (show _ = i + 2 by omega) ev2 dL_law_829 ?_
  refine V_aload_n C dL_law_830 rfl ?_
  refine V_iload C dL_law_831 rfl ?_
  refine V_iconst C dL_law_833 ?_
  refine V_iadd C dL_law_834 ?_
  refine V_sld C hX hbl hbA (by omega) (by omega) (show _ = i + 3 by omega) ev3 dL_law_835 ?_
  refine V_aload_n C dL_law_836 rfl ?_
  refine V_iload C dL_law_837 rfl ?_
  refine V_iconst C dL_law_839 ?_
  refine V_iadd C dL_law_840 ?_
  refine V_sld C hX hbl hbA (by omega) (by omega) (show _ = i + 4 by omega) ev4 dL_law_841 ?_
  refine V_aload_n C dL_law_842 rfl ?_
  refine V_callW (fr := 8) (lo := 135) (mc := 4) (ms := 24) (As := [_, _, _, _, _, _]) C ywL_setFees w_675 dL_law_843 rfl rfl (Nat.le_of_ble_eq_true rfl) ⟨Nat.le_of_ble_eq_true rfl, Nat.le_of_ble_eq_true rfl⟩ ⟨by show _ + 4 ≤ 601024; omega, by show _ + 24 ≤ 7293034; omega⟩ ?_
  refine ok_L_setFees (g9 := g9) (G9 := fun a M2 => ((0 ≤ v1 ∧ v1 ≤ 9999) ∧ (0 ≤ v2 ∧ v2 ≤ 999) ∧ (0 ≤ v3 ∧ v3 ≤ 100) ∧ 0 ≤ v4 ∧ v4 ≤ 9999) ∧ a = sc (xS x) 4 ∧ Sm M M2 (fun q => q < 331) ∧ DockAt cy z M2 (setNow (svD x) (setF (xS x) v1 v2 v3 v4))) (GX := fun E => ¬ ((0 ≤ v1 ∧ v1 ≤ 9999) ∧ (0 ≤ v2 ∧ v2 ≤ 999) ∧ (0 ≤ v3 ∧ v3 ≤ 100) ∧ 0 ≤ v4 ∧ v4 ≤ 9999) ∧ E = eA) hD.2.1 (by omega) (fun h hx => ok_X6_setFees hD hDI hlt rv1 rv2 rv3 rv4 (fun o M2 s2 d2 => h _ M2 ⟨o, rfl, s2, d2⟩) (fun o => hx _ ⟨o, rfl⟩)) (fun a M2 hg => ?_) (fun E hE => ?_)
  · rcases hg with ⟨hc, rfl, s2, d2⟩
    · refine ⟨(s2.2 _ (by omega)).trans h338, by have := s2.1; omega, ?_⟩
      refine V_memgen (fun M3 em3 => ?_)
      obtain ⟨l3, x3, e8, e9, sA⟩ := law_mid hI s2 em3
      clear em3
      obtain ⟨gn, g0, g1, g2, g3, g4, g5, g6⟩ := id x3
      refine V_istore C dL_law_846 (by decide) ?_
      refine V_aload_n C dL_law_848 rfl ?_
      refine V_aload_n C dL_law_849 rfl ?_
      refine V_iload C dL_law_850 rfl ?_
      refine V_iconst C dL_law_852 ?_
      refine V_iadd C dL_law_853 ?_
      refine V_sld C hX hbl hbA (by omega) (by omega) (show _ = i + 1 by omega) ev1 dL_law_854 ?_
      refine V_aload_n C dL_law_855 rfl ?_
      refine V_iload C dL_law_856 rfl ?_
      refine V_iconst C dL_law_858 ?_
      refine V_iadd C dL_law_859 ?_
      refine V_sld C hX hbl hbA (by omega) (by omega) (show _ = i + 2 by omega) ev2 dL_law_860 ?_
      refine V_aload_n C dL_law_861 rfl ?_
      refine V_iload C dL_law_862 rfl ?_
      refine V_iconst C dL_law_864 ?_
      refine V_iadd C dL_law_865 ?_
      refine V_sld C hX hbl hbA (by omega) (by omega) (show _ = i + 3 by omega) ev3 dL_law_866 ?_
      refine V_aload_n C dL_law_867 rfl ?_
      refine V_iload C dL_law_868 rfl ?_
      refine V_iconst C dL_law_870 ?_
      refine V_iadd C dL_law_871 ?_
      refine V_sld C hX hbl hbA (by omega) (by omega) (show _ = i + 4 by omega) ev4 dL_law_872 ?_
      refine V_callV (fr := 1) (lo := 22) (mc := 0) (ms := 0) (As := [_, _, _, _]) C yvX7_setFees w_1011 dL_law_873 rfl rfl (by repeat (first | with_reducible assumption | with_reducible exact mset_self _ _ _ | refine (mset_ne (by omega)).trans ?_)) (by (try simp only [mset_1]); omega) rfl rfl (Nat.le_of_ble_eq_true rfl) ⟨Nat.le_of_ble_eq_true rfl, Nat.le_of_ble_eq_true rfl⟩ ⟨by show _ + 0 ≤ 601024; omega, by show _ + 0 ≤ 7293034; omega⟩ ?_
      refine ok_X7_setFees x3 rw9 hB rI r0 hDc rv1 rv2 rv3 rv4 (fun o => absurd hc o) (fun _ M4 u4 P4 N4 s4 x4 a4 b4 c4 p4 n4 => ?_)
      obtain ⟨gn, g0, g1, g2, g3, g4, g5, g6⟩ := id x4
      have f8 := (s4.2 338 (fun o => by have := o.2; omega)).trans e8
      have f9 := (s4.2 339 (fun o => by have := o.2; omega)).trans e9
      have f1 := s4.1.trans l3
      refine V_istore C dL_law_876 (by decide) ?_
      refine V_aload_n C dL_law_878 rfl ?_
      refine V_callV (fr := 0) (lo := 0) (mc := 0) (ms := 0) (As := []) C yvX7_thrown w_841 dL_law_879 rfl rfl (by repeat (first | with_reducible assumption | with_reducible exact mset_self _ _ _ | refine (mset_ne (by omega)).trans ?_)) (by (try simp only [mset_1]); omega) rfl rfl (Nat.le_of_ble_eq_true rfl) ⟨Nat.le_of_ble_eq_true rfl, Nat.le_of_ble_eq_true rfl⟩ ⟨by show _ + 0 ≤ 601024; omega, by show _ + 0 ≤ 7293034; omega⟩ ?_
      refine ok_X7_thrown x4 ?_
      rw [b4]
      refine V_iload C dL_law_882 rfl ?_
      refine V_icmp_eq C dL_law_884 (tgt := 889) (by decide) (by omega) (by omega) (fun g884 => ?_) (fun g884 => ?_)
      · refine V_iload C dL_law_889 rfl ?_
        refine V_if_ne C dL_law_891 (tgt := 906) (by decide) (by omega) (fun g891 => ?_) (fun g891 => ?_)
        · exact absurd rfl g891
        · refine V_aload_n C dL_law_894 rfl ?_
          refine V_iconst C dL_law_895 ?_
          refine V_laload C dL_law_896 f8 (by (try simp only [mset_1]); omega) (by omega) (by omega) ?_
          refine V_iload C dL_law_897 rfl ?_
          refine V_i2lw C dL_law_899 ?_
          refine V_lcmp0 C (congrArg lgv (up_s _ 0 _).symm) dL_law_900 ?_
          refine V_ifeq0 C dL_law_901 (tgt := 906) (by decide) ?_
          refine V_goto C dL_law_906 (tgt := 1689) (by decide) ?_
          refine V_lv [(0, .ref b), (1, .ref (z + 0)), (2, .ref (z + 331)), (3, .ref (z + 338)), (4, .ref (z + 339)), (5, iv (i : Int))] (List.forall_mem_cons.mpr ⟨(by first | rfl | exact congrArg (fun t => some (iv t)) (by omega)), (List.forall_mem_cons.mpr ⟨(by first | rfl | exact congrArg (fun t => some (iv t)) (by omega)), (List.forall_mem_cons.mpr ⟨(by first | rfl | exact congrArg (fun t => some (iv t)) (by omega)), (List.forall_mem_cons.mpr ⟨(by first | rfl | exact congrArg (fun t => some (iv t)) (by omega)), (List.forall_mem_cons.mpr ⟨(by first | rfl | exact congrArg (fun t => some (iv t)) (by omega)), (List.forall_mem_cons.mpr ⟨(by first | rfl | exact congrArg (fun t => some (iv t)) (by omega)), (fun _ h => nomatch h)⟩)⟩)⟩)⟩)⟩)⟩) ?_
          refine V_widen (k := cells + 4) (n := slots + 24) (by omega) (by omega) ?_
          exact hk _ (LawE.mk d2 sA s4 l3 e8 e9 x4 (DI.save hDI (RelN.fees rN hB hc.1 hc.2.1 hc.2.2.1 hc.2.2.2 n4).2) (hR.save hDI (fun _ _ => rfl) a4 c4 p4 (RelN.fees rN hB hc.1 hc.2.1 hc.2.2.1 hc.2.2.2 n4).1))
      · exact absurd rfl g884
  · rcases hE with ⟨hc, rfl⟩
    · refine ⟨rfl, ?_⟩
      have x3 := hM
      have l3 := hM1
      have e8 := h338
      have e9 := h339
      have s2 : Sm M M (fun j => j < 331) := Sm.rf _ _
      have sA : Sm M M (fun j => 331 ≤ j) := Sm.rf _ _
      have d2 := hD
      obtain ⟨gn, g0, g1, g2, g3, g4, g5, g6⟩ := id x3
      refine V_istore C dL_law_846 (by decide) ?_
      refine V_aload_n C dL_law_848 rfl ?_
      refine V_aload_n C dL_law_849 rfl ?_
      refine V_iload C dL_law_850 rfl ?_
      refine V_iconst C dL_law_852 ?_
      refine V_iadd C dL_law_853 ?_
      refine V_sld C hX hbl hbA (by omega) (by omega) (show _ = i + 1 by omega) ev1 dL_law_854 ?_
      refine V_aload_n C dL_law_855 rfl ?_
      refine V_iload C dL_law_856 rfl ?_
      refine V_iconst C dL_law_858 ?_
      refine V_iadd C dL_law_859 ?_
      refine V_sld C hX hbl hbA (by omega) (by omega) (show _ = i + 2 by omega) ev2 dL_law_860 ?_
      refine V_aload_n C dL_law_861 rfl ?_
      refine V_iload C dL_law_862 rfl ?_
      refine V_iconst C dL_law_864 ?_
      refine V_iadd C dL_law_865 ?_
      refine V_sld C hX hbl hbA (by omega) (by omega) (show _ = i + 3 by omega) ev3 dL_law_866 ?_
      refine V_aload_n C dL_law_867 rfl ?_
      refine V_iload C dL_law_868 rfl ?_
      refine V_iconst C dL_law_870 ?_
      refine V_iadd C dL_law_871 ?_
      refine V_sld C hX hbl hbA (by omega) (by omega) (show _ = i + 4 by omega) ev4 dL_law_872 ?_
      refine V_callV (fr := 1) (lo := 22) (mc := 0) (ms := 0) (As := [_, _, _, _]) C yvX7_setFees w_1011 dL_law_873 rfl rfl (by repeat (first | with_reducible assumption | with_reducible exact mset_self _ _ _ | refine (mset_ne (by omega)).trans ?_)) (by (try simp only [mset_1]); omega) rfl rfl (Nat.le_of_ble_eq_true rfl) ⟨Nat.le_of_ble_eq_true rfl, Nat.le_of_ble_eq_true rfl⟩ ⟨by show _ + 0 ≤ 601024; omega, by show _ + 0 ≤ 7293034; omega⟩ ?_
      refine ok_X7_setFees x3 rw9 hB rI r0 hDc rv1 rv2 rv3 rv4 (fun _ M4 s4 x4 => ?_) (fun o => absurd o hc)
      have b4 : va_up u 1 1 1 = 1 := up_s _ _ _
      obtain ⟨gn, g0, g1, g2, g3, g4, g5, g6⟩ := id x4
      have f8 := (s4.2 338 (fun o => by have := o.2; omega)).trans e8
      have f9 := (s4.2 339 (fun o => by have := o.2; omega)).trans e9
      have f1 := s4.1.trans l3
      refine V_istore C dL_law_876 (by decide) ?_
      refine V_aload_n C dL_law_878 rfl ?_
      refine V_callV (fr := 0) (lo := 0) (mc := 0) (ms := 0) (As := []) C yvX7_thrown w_841 dL_law_879 rfl rfl (by repeat (first | with_reducible assumption | with_reducible exact mset_self _ _ _ | refine (mset_ne (by omega)).trans ?_)) (by (try simp only [mset_1]); omega) rfl rfl (Nat.le_of_ble_eq_true rfl) ⟨Nat.le_of_ble_eq_true rfl, Nat.le_of_ble_eq_true rfl⟩ ⟨by show _ + 0 ≤ 601024; omega, by show _ + 0 ≤ 7293034; omega⟩ ?_
      refine ok_X7_thrown x4 ?_
      rw [b4]
      refine V_iload C dL_law_882 rfl ?_
      refine V_icmp_eq C dL_law_884 (tgt := 889) (by decide) (by omega) (by omega) (fun g884 => ?_) (fun g884 => ?_)
      · refine V_iload C dL_law_889 rfl ?_
        refine V_if_ne C dL_law_891 (tgt := 906) (by decide) (by omega) (fun g891 => ?_) (fun g891 => ?_)
        · refine V_goto C dL_law_906 (tgt := 1689) (by decide) ?_
          refine V_lv [(0, .ref b), (1, .ref (z + 0)), (2, .ref (z + 331)), (3, .ref (z + 338)), (4, .ref (z + 339)), (5, iv (i : Int))] (List.forall_mem_cons.mpr ⟨(by first | rfl | exact congrArg (fun t => some (iv t)) (by omega)), (List.forall_mem_cons.mpr ⟨(by first | rfl | exact congrArg (fun t => some (iv t)) (by omega)), (List.forall_mem_cons.mpr ⟨(by first | rfl | exact congrArg (fun t => some (iv t)) (by omega)), (List.forall_mem_cons.mpr ⟨(by first | rfl | exact congrArg (fun t => some (iv t)) (by omega)), (List.forall_mem_cons.mpr ⟨(by first | rfl | exact congrArg (fun t => some (iv t)) (by omega)), (List.forall_mem_cons.mpr ⟨(by first | rfl | exact congrArg (fun t => some (iv t)) (by omega)), (fun _ h => nomatch h)⟩)⟩)⟩)⟩)⟩)⟩) ?_
          refine V_widen (k := cells + 4) (n := slots + 24) (by omega) (by omega) ?_
          exact hk _ (LawE.mk d2 sA s4 l3 e8 e9 x4 hDI (hR.same rfl rfl))
        · exact absurd g891 (by decide)
      · exact absurd rfl g884

set_option maxHeartbeats 1000000 in
set_option maxRecDepth 4000 in
theorem law_c22 {p : Program} {l : Launch} {e : Env} {s : State} {m : MethodId} {args : Array Value} {below : List Frame} {meth : Method} {c : Code} {D : va_G} {cy : Nat → ClassId} {z : Nat} {Q : State → Prop} {cells slots : Nat} {M : Mm} (C : Cx p l s m args meth c D cy z 9 cL_law RL) (hlt : l.stackTraces = false) {b L : Nat} {xs : Nat → Int32} (hX : va_X b L xs s s.heap) (hbl : b < s.heap.size) (hbA : ¬ z ≤ b) (hL : L ≤ 2560) {i : Nat} (hi : i + 5 ≤ L) (hcs : cells + 4 ≤ 601024 ∧ slots + 24 ≤ 7293034) {x : DD} {u N P A tx fr tl g9 : Nat → Int} {d9 : Nat → UInt64} (hI : LawI cy z M x u N P A tx fr tl g9 d9) (hk : ∀ M', LawE cy z M' → V p l e room_1 s m args below meth c D z 9 Q (cells + 4) (slots + 24) M' 1689 [(0, .ref b), (1, .ref (z + 0)), (2, .ref (z + 331)), (3, .ref (z + 338)), (4, .ref (z + 339)), (5, iv (i : Int))] []) : V p l e room_1 s m args below meth c D z 9 Q cells slots M 1549 [(0, .ref b), (1, .ref (z + 0)), (2, .ref (z + 331)), (3, .ref (z + 338)), (4, .ref (z + 339)), (5, iv (i : Int))] [] := by
  obtain ⟨hD, hDI, hM, hM1, h338, h339, hR⟩ := id hI
  obtain ⟨r0, r2, rN, rV, rT⟩ := id hR
  obtain ⟨rw9, rI, rZ, rH⟩ := id rN
  have hB := hDI.1
  have hDc := hDI.2.1
  have hDt := hDI.2.2.2.1
  have hq6 := hB.2.2.1
  have hn10 := hB.2.1
  obtain ⟨v1, ev1⟩ : ∃ v, (xs (i + 1)).toInt = v := ⟨_, rfl⟩
  have rv1 : -2147483648 ≤ v1 ∧ v1 < 2147483648 := by rw [← ev1]; exact ⟨Int32.le_toInt _, Int32.toInt_lt _⟩
  refine V_aload_n C dL_law_1549 rfl ?_
  refine V_aload_n C dL_law_1550 rfl ?_
  refine V_iload C dL_law_1551 rfl ?_
  refine V_iconst C dL_law_1553 ?_
  refine V_iadd C dL_law_1554 ?_
  refine V_sld C hX hbl hbA (by omega) (by omega) (show _ = i + 1 by omega) ev1 dL_law_1555 ?_
  refine V_aload_n C dL_law_1556 rfl ?_
  refine V_callW (fr := 8) (lo := 131) (mc := 2) (ms := 12) (As := [_, _, _]) C ywL_append w_774 dL_law_1557 rfl rfl (Nat.le_of_ble_eq_true rfl) ⟨Nat.le_of_ble_eq_true rfl, Nat.le_of_ble_eq_true rfl⟩ ⟨by show _ + 2 ≤ 601024; omega, by show _ + 12 ≤ 7293034; omega⟩ ?_
  refine ok_L_append (g9 := g9) (G9 := fun a M2 => (0 ≤ v1 ∧ v1 ≤ 127) ∧ xT x 0 < 100 ∧ a = xT x 0 + 1 ∧ Sm M M2 (fun q => q < 331) ∧ DockAt cy z M2 (apD x v1)) (GX := fun E => (¬ (0 ≤ v1 ∧ v1 ≤ 127) ∧ E = eA) ∨ ((0 ≤ v1 ∧ v1 ≤ 127) ∧ ¬ xT x 0 < 100 ∧ E = eS)) hD.2.1 (by omega) (fun h hx => ok_X6_append hD hDI hlt rv1 (fun o o2 M2 s2 d2 => h _ M2 ⟨o, o2, rfl, s2, d2⟩) (fun o => hx _ (Or.inl ⟨o, rfl⟩)) (fun o o2 => hx _ (Or.inr ⟨o, o2, rfl⟩))) (fun a M2 hg => ?_) (fun E hE => ?_)
  · rcases hg with ⟨hc, hl9, rfl, s2, d2⟩
    · refine ⟨(s2.2 _ (by omega)).trans h338, by have := s2.1; omega, ?_⟩
      refine V_memgen (fun M3 em3 => ?_)
      obtain ⟨l3, x3, e8, e9, sA⟩ := law_mid hI s2 em3
      clear em3
      obtain ⟨gn, g0, g1, g2, g3, g4, g5, g6⟩ := id x3
      refine V_istore C dL_law_1560 (by decide) ?_
      refine V_aload_n C dL_law_1562 rfl ?_
      refine V_aload_n C dL_law_1563 rfl ?_
      refine V_iload C dL_law_1564 rfl ?_
      refine V_iconst C dL_law_1566 ?_
      refine V_iadd C dL_law_1567 ?_
      refine V_sld C hX hbl hbA (by omega) (by omega) (show _ = i + 1 by omega) ev1 dL_law_1568 ?_
      refine V_callV (fr := 1) (lo := 22) (mc := 0) (ms := 0) (As := [_]) C yvX7_append w_1101 dL_law_1569 rfl rfl (by repeat (first | with_reducible assumption | with_reducible exact mset_self _ _ _ | refine (mset_ne (by omega)).trans ?_)) (by (try simp only [mset_1]); omega) rfl rfl (Nat.le_of_ble_eq_true rfl) ⟨Nat.le_of_ble_eq_true rfl, Nat.le_of_ble_eq_true rfl⟩ ⟨by show _ + 0 ≤ 601024; omega, by show _ + 0 ≤ 7293034; omega⟩ ?_
      refine ok_X7_append x3 rv1 (by omega) (fun o => absurd hc o) (fun _ o => absurd o (by omega)) (fun _ _ M4 s4 x4 => ?_)
      have b4 : va_up (va_up u 1 0) 2 (u 2 + 1) 1 = 0 := rfl
      obtain ⟨gn, g0, g1, g2, g3, g4, g5, g6⟩ := id x4
      have f8 := (s4.2 338 (fun o => by have := o.2; omega)).trans e8
      have f9 := (s4.2 339 (fun o => by have := o.2; omega)).trans e9
      have f1 := s4.1.trans l3
      refine V_istore C dL_law_1572 (by decide) ?_
      refine V_aload_n C dL_law_1574 rfl ?_
      refine V_callV (fr := 0) (lo := 0) (mc := 0) (ms := 0) (As := []) C yvX7_thrown w_841 dL_law_1575 rfl rfl (by repeat (first | with_reducible assumption | with_reducible exact mset_self _ _ _ | refine (mset_ne (by omega)).trans ?_)) (by (try simp only [mset_1]); omega) rfl rfl (Nat.le_of_ble_eq_true rfl) ⟨Nat.le_of_ble_eq_true rfl, Nat.le_of_ble_eq_true rfl⟩ ⟨by show _ + 0 ≤ 601024; omega, by show _ + 0 ≤ 7293034; omega⟩ ?_
      refine ok_X7_thrown x4 ?_
      rw [b4]
      refine V_iload C dL_law_1578 rfl ?_
      refine V_icmp_eq C dL_law_1580 (tgt := 1585) (by decide) (by omega) (by omega) (fun g1580 => ?_) (fun g1580 => ?_)
      · refine V_iload C dL_law_1585 rfl ?_
        refine V_if_ne C dL_law_1587 (tgt := 1602) (by decide) (by omega) (fun g1587 => ?_) (fun g1587 => ?_)
        · exact absurd rfl g1587
        · refine V_aload_n C dL_law_1590 rfl ?_
          refine V_iconst C dL_law_1591 ?_
          refine V_laload C dL_law_1592 f8 (by (try simp only [mset_1]); omega) (by omega) (by omega) ?_
          refine V_iload C dL_law_1593 rfl ?_
          refine V_i2lw C dL_law_1595 ?_
          refine V_lcmp0 C (by rw [r2]; exact congrArg lgv (up_s _ 0 _).symm) dL_law_1596 ?_
          refine V_ifeq0 C dL_law_1597 (tgt := 1602) (by decide) ?_
          refine V_goto C dL_law_1602 (tgt := 1689) (by decide) ?_
          refine V_lv [(0, .ref b), (1, .ref (z + 0)), (2, .ref (z + 331)), (3, .ref (z + 338)), (4, .ref (z + 339)), (5, iv (i : Int))] (List.forall_mem_cons.mpr ⟨(by first | rfl | exact congrArg (fun t => some (iv t)) (by omega)), (List.forall_mem_cons.mpr ⟨(by first | rfl | exact congrArg (fun t => some (iv t)) (by omega)), (List.forall_mem_cons.mpr ⟨(by first | rfl | exact congrArg (fun t => some (iv t)) (by omega)), (List.forall_mem_cons.mpr ⟨(by first | rfl | exact congrArg (fun t => some (iv t)) (by omega)), (List.forall_mem_cons.mpr ⟨(by first | rfl | exact congrArg (fun t => some (iv t)) (by omega)), (List.forall_mem_cons.mpr ⟨(by first | rfl | exact congrArg (fun t => some (iv t)) (by omega)), (fun _ h => nomatch h)⟩)⟩)⟩)⟩)⟩)⟩) ?_
          refine V_widen (k := cells + 4) (n := slots + 24) (by omega) (by omega) ?_
          exact hk _ (LawE.mk d2 sA s4 l3 e8 e9 x4 (hDI.add hc hl9) (hR.add hDI rfl rfl))
      · exact absurd rfl g1580
  · rcases hE with ⟨hc, rfl⟩ | ⟨hc, hl9, rfl⟩
    · refine Or.inl ⟨rfl, ?_⟩
      have x3 := hM
      have l3 := hM1
      have e8 := h338
      have e9 := h339
      have s2 : Sm M M (fun j => j < 331) := Sm.rf _ _
      have sA : Sm M M (fun j => 331 ≤ j) := Sm.rf _ _
      have d2 := hD
      obtain ⟨gn, g0, g1, g2, g3, g4, g5, g6⟩ := id x3
      refine V_istore C dL_law_1560 (by decide) ?_
      refine V_aload_n C dL_law_1562 rfl ?_
      refine V_aload_n C dL_law_1563 rfl ?_
      refine V_iload C dL_law_1564 rfl ?_
      refine V_iconst C dL_law_1566 ?_
      refine V_iadd C dL_law_1567 ?_
      refine V_sld C hX hbl hbA (by omega) (by omega) (show _ = i + 1 by omega) ev1 dL_law_1568 ?_
      refine V_callV (fr := 1) (lo := 22) (mc := 0) (ms := 0) (As := [_]) C yvX7_append w_1101 dL_law_1569 rfl rfl (by repeat (first | with_reducible assumption | with_reducible exact mset_self _ _ _ | refine (mset_ne (by omega)).trans ?_)) (by (try simp only [mset_1]); omega) rfl rfl (Nat.le_of_ble_eq_true rfl) ⟨Nat.le_of_ble_eq_true rfl, Nat.le_of_ble_eq_true rfl⟩ ⟨by show _ + 0 ≤ 601024; omega, by show _ + 0 ≤ 7293034; omega⟩ ?_
      refine ok_X7_append x3 rv1 (by omega) (fun _ M4 s4 x4 => ?_) (fun o _ => absurd o hc) (fun o _ => absurd o hc)
      have b4 : va_up u 1 1 1 = 1 := up_s _ _ _
      obtain ⟨gn, g0, g1, g2, g3, g4, g5, g6⟩ := id x4
      have f8 := (s4.2 338 (fun o => by have := o.2; omega)).trans e8
      have f9 := (s4.2 339 (fun o => by have := o.2; omega)).trans e9
      have f1 := s4.1.trans l3
      refine V_istore C dL_law_1572 (by decide) ?_
      refine V_aload_n C dL_law_1574 rfl ?_
      refine V_callV (fr := 0) (lo := 0) (mc := 0) (ms := 0) (As := []) C yvX7_thrown w_841 dL_law_1575 rfl rfl (by repeat (first | with_reducible assumption | with_reducible exact mset_self _ _ _ | refine (mset_ne (by omega)).trans ?_)) (by (try simp only [mset_1]); omega) rfl rfl (Nat.le_of_ble_eq_true rfl) ⟨Nat.le_of_ble_eq_true rfl, Nat.le_of_ble_eq_true rfl⟩ ⟨by show _ + 0 ≤ 601024; omega, by show _ + 0 ≤ 7293034; omega⟩ ?_
      refine ok_X7_thrown x4 ?_
      rw [b4]
      refine V_iload C dL_law_1578 rfl ?_
      refine V_icmp_eq C dL_law_1580 (tgt := 1585) (by decide) (by omega) (by omega) (fun g1580 => ?_) (fun g1580 => ?_)
      · refine V_iload C dL_law_1585 rfl ?_
        refine V_if_ne C dL_law_1587 (tgt := 1602) (by decide) (by omega) (fun g1587 => ?_) (fun g1587 => ?_)
        · refine V_goto C dL_law_1602 (tgt := 1689) (by decide) ?_
          refine V_lv [(0, .ref b), (1, .ref (z + 0)), (2, .ref (z + 331)), (3, .ref (z + 338)), (4, .ref (z + 339)), (5, iv (i : Int))] (List.forall_mem_cons.mpr ⟨(by first | rfl | exact congrArg (fun t => some (iv t)) (by omega)), (List.forall_mem_cons.mpr ⟨(by first | rfl | exact congrArg (fun t => some (iv t)) (by omega)), (List.forall_mem_cons.mpr ⟨(by first | rfl | exact congrArg (fun t => some (iv t)) (by omega)), (List.forall_mem_cons.mpr ⟨(by first | rfl | exact congrArg (fun t => some (iv t)) (by omega)), (List.forall_mem_cons.mpr ⟨(by first | rfl | exact congrArg (fun t => some (iv t)) (by omega)), (List.forall_mem_cons.mpr ⟨(by first | rfl | exact congrArg (fun t => some (iv t)) (by omega)), (fun _ h => nomatch h)⟩)⟩)⟩)⟩)⟩)⟩) ?_
          refine V_widen (k := cells + 4) (n := slots + 24) (by omega) (by omega) ?_
          exact hk _ (LawE.mk d2 sA s4 l3 e8 e9 x4 hDI (hR.same rfl rfl))
        · exact absurd g1587 (by decide)
      · exact absurd rfl g1580
    · refine Or.inr  ⟨rfl, ?_⟩
      have x3 := hM
      have l3 := hM1
      have e8 := h338
      have e9 := h339
      have s2 : Sm M M (fun j => j < 331) := Sm.rf _ _
      have sA : Sm M M (fun j => 331 ≤ j) := Sm.rf _ _
      have d2 := hD
      obtain ⟨gn, g0, g1, g2, g3, g4, g5, g6⟩ := id x3
      refine V_istore C dL_law_1560 (by decide) ?_
      refine V_aload_n C dL_law_1562 rfl ?_
      refine V_aload_n C dL_law_1563 rfl ?_
      refine V_iload C dL_law_1564 rfl ?_
      refine V_iconst C dL_law_1566 ?_
      refine V_iadd C dL_law_1567 ?_
      refine V_sld C hX hbl hbA (by omega) (by omega) (show _ = i + 1 by omega) ev1 dL_law_1568 ?_
      refine V_callV (fr := 1) (lo := 22) (mc := 0) (ms := 0) (As := [_]) C yvX7_append w_1101 dL_law_1569 rfl rfl (by repeat (first | with_reducible assumption | with_reducible exact mset_self _ _ _ | refine (mset_ne (by omega)).trans ?_)) (by (try simp only [mset_1]); omega) rfl rfl (Nat.le_of_ble_eq_true rfl) ⟨Nat.le_of_ble_eq_true rfl, Nat.le_of_ble_eq_true rfl⟩ ⟨by show _ + 0 ≤ 601024; omega, by show _ + 0 ≤ 7293034; omega⟩ ?_
      refine ok_X7_append x3 rv1 (by omega) (fun o => absurd hc o) (fun _ _ M4 s4 x4 => ?_) (fun _ o => absurd o (by omega))
      have b4 : va_up u 1 2 1 = 2 := up_s _ _ _
      obtain ⟨gn, g0, g1, g2, g3, g4, g5, g6⟩ := id x4
      have f8 := (s4.2 338 (fun o => by have := o.2; omega)).trans e8
      have f9 := (s4.2 339 (fun o => by have := o.2; omega)).trans e9
      have f1 := s4.1.trans l3
      refine V_istore C dL_law_1572 (by decide) ?_
      refine V_aload_n C dL_law_1574 rfl ?_
      refine V_callV (fr := 0) (lo := 0) (mc := 0) (ms := 0) (As := []) C yvX7_thrown w_841 dL_law_1575 rfl rfl (by repeat (first | with_reducible assumption | with_reducible exact mset_self _ _ _ | refine (mset_ne (by omega)).trans ?_)) (by (try simp only [mset_1]); omega) rfl rfl (Nat.le_of_ble_eq_true rfl) ⟨Nat.le_of_ble_eq_true rfl, Nat.le_of_ble_eq_true rfl⟩ ⟨by show _ + 0 ≤ 601024; omega, by show _ + 0 ≤ 7293034; omega⟩ ?_
      refine ok_X7_thrown x4 ?_
      rw [b4]
      refine V_iload C dL_law_1578 rfl ?_
      refine V_icmp_eq C dL_law_1580 (tgt := 1585) (by decide) (by omega) (by omega) (fun g1580 => ?_) (fun g1580 => ?_)
      · refine V_iload C dL_law_1585 rfl ?_
        refine V_if_ne C dL_law_1587 (tgt := 1602) (by decide) (by omega) (fun g1587 => ?_) (fun g1587 => ?_)
        · refine V_goto C dL_law_1602 (tgt := 1689) (by decide) ?_
          refine V_lv [(0, .ref b), (1, .ref (z + 0)), (2, .ref (z + 331)), (3, .ref (z + 338)), (4, .ref (z + 339)), (5, iv (i : Int))] (List.forall_mem_cons.mpr ⟨(by first | rfl | exact congrArg (fun t => some (iv t)) (by omega)), (List.forall_mem_cons.mpr ⟨(by first | rfl | exact congrArg (fun t => some (iv t)) (by omega)), (List.forall_mem_cons.mpr ⟨(by first | rfl | exact congrArg (fun t => some (iv t)) (by omega)), (List.forall_mem_cons.mpr ⟨(by first | rfl | exact congrArg (fun t => some (iv t)) (by omega)), (List.forall_mem_cons.mpr ⟨(by first | rfl | exact congrArg (fun t => some (iv t)) (by omega)), (List.forall_mem_cons.mpr ⟨(by first | rfl | exact congrArg (fun t => some (iv t)) (by omega)), (fun _ h => nomatch h)⟩)⟩)⟩)⟩)⟩)⟩) ?_
          refine V_widen (k := cells + 4) (n := slots + 24) (by omega) (by omega) ?_
          exact hk _ (LawE.mk d2 sA s4 l3 e8 e9 x4 hDI (hR.same rfl rfl))
        · exact absurd g1587 (by decide)
      · exact absurd rfl g1580

set_option maxHeartbeats 1000000 in
set_option maxRecDepth 4000 in
theorem law_c25 {p : Program} {l : Launch} {e : Env} {s : State} {m : MethodId} {args : Array Value} {below : List Frame} {meth : Method} {c : Code} {D : va_G} {cy : Nat → ClassId} {z : Nat} {Q : State → Prop} {cells slots : Nat} {M : Mm} (C : Cx p l s m args meth c D cy z 9 cL_law RL) (hlt : l.stackTraces = false) {b L : Nat} {xs : Nat → Int32} (hX : va_X b L xs s s.heap) (hbl : b < s.heap.size) (hbA : ¬ z ≤ b) (hL : L ≤ 2560) {i : Nat} (hi : i + 5 ≤ L) (hcs : cells + 4 ≤ 601024 ∧ slots + 24 ≤ 7293034) {x : DD} {u N P A tx fr tl g9 : Nat → Int} {d9 : Nat → UInt64} (hI : LawI cy z M x u N P A tx fr tl g9 d9) (hk : ∀ M', LawE cy z M' → V p l e room_1 s m args below meth c D z 9 Q (cells + 4) (slots + 24) M' 1689 [(0, .ref b), (1, .ref (z + 0)), (2, .ref (z + 331)), (3, .ref (z + 338)), (4, .ref (z + 339)), (5, iv (i : Int))] []) : V p l e room_1 s m args below meth c D z 9 Q cells slots M 1631 [(0, .ref b), (1, .ref (z + 0)), (2, .ref (z + 331)), (3, .ref (z + 338)), (4, .ref (z + 339)), (5, iv (i : Int))] [] := by
  obtain ⟨hD, hDI, hM, hM1, h338, h339, hR⟩ := id hI
  obtain ⟨r0, r2, rN, rV, rT⟩ := id hR
  obtain ⟨rw9, rI, rZ, rH⟩ := id rN
  have hB := hDI.1
  have hDc := hDI.2.1
  have hDt := hDI.2.2.2.1
  have hq6 := hB.2.2.1
  have hn10 := hB.2.1
  
  refine V_aload_n C dL_law_1631 rfl ?_
  refine V_aload_n C dL_law_1632 rfl ?_
  refine V_callW (fr := 8) (lo := 130) (mc := 1) (ms := 6) (As := [_, _]) C ywL_undo w_785 dL_law_1633 rfl rfl (Nat.le_of_ble_eq_true rfl) ⟨Nat.le_of_ble_eq_true rfl, Nat.le_of_ble_eq_true rfl⟩ ⟨by show _ + 1 ≤ 601024; omega, by show _ + 6 ≤ 7293034; omega⟩ ?_
  refine ok_L_undo (g9 := g9) (G9 := fun a M2 => 0 < xC x ∧ a = ((xC x - 1 : Nat) : Int) ∧ Sm M M2 (fun q => q < 331) ∧ DockAt cy z M2 (unD x)) (GX := fun E => xC x = 0 ∧ E = eS) hD.2.1 (by omega) (fun h hx => ok_X6_undo hD hDI hlt (fun o M2 s2 d2 => h _ M2 ⟨o, rfl, s2, d2⟩) (fun o => hx _ ⟨o, rfl⟩)) (fun a M2 hg => ?_) (fun E hE => ?_)
  · rcases hg with ⟨hc, rfl, s2, d2⟩
    · refine ⟨(s2.2 _ (by omega)).trans h338, by have := s2.1; omega, ?_⟩
      refine V_memgen (fun M3 em3 => ?_)
      obtain ⟨l3, x3, e8, e9, sA⟩ := law_mid hI s2 em3
      clear em3
      obtain ⟨gn, g0, g1, g2, g3, g4, g5, g6⟩ := id x3
      refine V_istore C dL_law_1636 (by decide) ?_
      refine V_aload_n C dL_law_1638 rfl ?_
      refine V_callV (fr := 1) (lo := 21) (mc := 0) (ms := 0) (As := []) C yvX7_undo w_845 dL_law_1639 rfl rfl (by repeat (first | with_reducible assumption | with_reducible exact mset_self _ _ _ | refine (mset_ne (by omega)).trans ?_)) (by (try simp only [mset_1]); omega) rfl rfl (Nat.le_of_ble_eq_true rfl) ⟨Nat.le_of_ble_eq_true rfl, Nat.le_of_ble_eq_true rfl⟩ ⟨by show _ + 0 ≤ 601024; omega, by show _ + 0 ≤ 7293034; omega⟩ ?_
      refine ok_X7_undo x3 r0 hDc (fun o => absurd hc (by omega)) (fun _ M4 s4 x4 => ?_)
      have b4 : va_up (va_up u 1 0) 0 (u 0 - 1) 1 = 0 := rfl
      obtain ⟨gn, g0, g1, g2, g3, g4, g5, g6⟩ := id x4
      have f8 := (s4.2 338 (fun o => by have := o.2; omega)).trans e8
      have f9 := (s4.2 339 (fun o => by have := o.2; omega)).trans e9
      have f1 := s4.1.trans l3
      refine V_istore C dL_law_1642 (by decide) ?_
      refine V_aload_n C dL_law_1644 rfl ?_
      refine V_callV (fr := 0) (lo := 0) (mc := 0) (ms := 0) (As := []) C yvX7_thrown w_841 dL_law_1645 rfl rfl (by repeat (first | with_reducible assumption | with_reducible exact mset_self _ _ _ | refine (mset_ne (by omega)).trans ?_)) (by (try simp only [mset_1]); omega) rfl rfl (Nat.le_of_ble_eq_true rfl) ⟨Nat.le_of_ble_eq_true rfl, Nat.le_of_ble_eq_true rfl⟩ ⟨by show _ + 0 ≤ 601024; omega, by show _ + 0 ≤ 7293034; omega⟩ ?_
      refine ok_X7_thrown x4 ?_
      rw [b4]
      refine V_iload C dL_law_1648 rfl ?_
      refine V_icmp_eq C dL_law_1650 (tgt := 1655) (by decide) (by omega) (by omega) (fun g1650 => ?_) (fun g1650 => ?_)
      · refine V_iload C dL_law_1655 rfl ?_
        refine V_if_ne C dL_law_1657 (tgt := 1672) (by decide) (by omega) (fun g1657 => ?_) (fun g1657 => ?_)
        · exact absurd rfl g1657
        · refine V_aload_n C dL_law_1660 rfl ?_
          refine V_iconst C dL_law_1661 ?_
          refine V_laload C dL_law_1662 f8 (by (try simp only [mset_1]); omega) (by omega) (by omega) ?_
          refine V_iload C dL_law_1663 rfl ?_
          refine V_i2lw C dL_law_1665 ?_
          refine V_lcmp0 C (congrArg lgv (up_s _ 0 _).symm) dL_law_1666 ?_
          refine V_ifeq0 C dL_law_1667 (tgt := 1672) (by decide) ?_
          refine V_goto C dL_law_1672 (tgt := 1689) (by decide) ?_
          refine V_lv [(0, .ref b), (1, .ref (z + 0)), (2, .ref (z + 331)), (3, .ref (z + 338)), (4, .ref (z + 339)), (5, iv (i : Int))] (List.forall_mem_cons.mpr ⟨(by first | rfl | exact congrArg (fun t => some (iv t)) (by omega)), (List.forall_mem_cons.mpr ⟨(by first | rfl | exact congrArg (fun t => some (iv t)) (by omega)), (List.forall_mem_cons.mpr ⟨(by first | rfl | exact congrArg (fun t => some (iv t)) (by omega)), (List.forall_mem_cons.mpr ⟨(by first | rfl | exact congrArg (fun t => some (iv t)) (by omega)), (List.forall_mem_cons.mpr ⟨(by first | rfl | exact congrArg (fun t => some (iv t)) (by omega)), (List.forall_mem_cons.mpr ⟨(by first | rfl | exact congrArg (fun t => some (iv t)) (by omega)), (fun _ h => nomatch h)⟩)⟩)⟩)⟩)⟩)⟩) ?_
          refine V_widen (k := cells + 4) (n := slots + 24) (by omega) (by omega) ?_
          exact hk _ (LawE.mk d2 sA s4 l3 e8 e9 x4 hDI.undo (hR.undo hc rfl rfl))
      · exact absurd rfl g1650
  · rcases hE with ⟨hc, rfl⟩
    · refine ⟨rfl, ?_⟩
      have x3 := hM
      have l3 := hM1
      have e8 := h338
      have e9 := h339
      have s2 : Sm M M (fun j => j < 331) := Sm.rf _ _
      have sA : Sm M M (fun j => 331 ≤ j) := Sm.rf _ _
      have d2 := hD
      obtain ⟨gn, g0, g1, g2, g3, g4, g5, g6⟩ := id x3
      refine V_istore C dL_law_1636 (by decide) ?_
      refine V_aload_n C dL_law_1638 rfl ?_
      refine V_callV (fr := 1) (lo := 21) (mc := 0) (ms := 0) (As := []) C yvX7_undo w_845 dL_law_1639 rfl rfl (by repeat (first | with_reducible assumption | with_reducible exact mset_self _ _ _ | refine (mset_ne (by omega)).trans ?_)) (by (try simp only [mset_1]); omega) rfl rfl (Nat.le_of_ble_eq_true rfl) ⟨Nat.le_of_ble_eq_true rfl, Nat.le_of_ble_eq_true rfl⟩ ⟨by show _ + 0 ≤ 601024; omega, by show _ + 0 ≤ 7293034; omega⟩ ?_
      refine ok_X7_undo x3 r0 hDc (fun _ M4 s4 x4 => ?_) (fun o => absurd o (by omega))
      have b4 : va_up u 1 1 1 = 1 := up_s _ _ _
      obtain ⟨gn, g0, g1, g2, g3, g4, g5, g6⟩ := id x4
      have f8 := (s4.2 338 (fun o => by have := o.2; omega)).trans e8
      have f9 := (s4.2 339 (fun o => by have := o.2; omega)).trans e9
      have f1 := s4.1.trans l3
      refine V_istore C dL_law_1642 (by decide) ?_
      refine V_aload_n C dL_law_1644 rfl ?_
      refine V_callV (fr := 0) (lo := 0) (mc := 0) (ms := 0) (As := []) C yvX7_thrown w_841 dL_law_1645 rfl rfl (by repeat (first | with_reducible assumption | with_reducible exact mset_self _ _ _ | refine (mset_ne (by omega)).trans ?_)) (by (try simp only [mset_1]); omega) rfl rfl (Nat.le_of_ble_eq_true rfl) ⟨Nat.le_of_ble_eq_true rfl, Nat.le_of_ble_eq_true rfl⟩ ⟨by show _ + 0 ≤ 601024; omega, by show _ + 0 ≤ 7293034; omega⟩ ?_
      refine ok_X7_thrown x4 ?_
      rw [b4]
      refine V_iload C dL_law_1648 rfl ?_
      refine V_icmp_eq C dL_law_1650 (tgt := 1655) (by decide) (by omega) (by omega) (fun g1650 => ?_) (fun g1650 => ?_)
      · refine V_iload C dL_law_1655 rfl ?_
        refine V_if_ne C dL_law_1657 (tgt := 1672) (by decide) (by omega) (fun g1657 => ?_) (fun g1657 => ?_)
        · refine V_goto C dL_law_1672 (tgt := 1689) (by decide) ?_
          refine V_lv [(0, .ref b), (1, .ref (z + 0)), (2, .ref (z + 331)), (3, .ref (z + 338)), (4, .ref (z + 339)), (5, iv (i : Int))] (List.forall_mem_cons.mpr ⟨(by first | rfl | exact congrArg (fun t => some (iv t)) (by omega)), (List.forall_mem_cons.mpr ⟨(by first | rfl | exact congrArg (fun t => some (iv t)) (by omega)), (List.forall_mem_cons.mpr ⟨(by first | rfl | exact congrArg (fun t => some (iv t)) (by omega)), (List.forall_mem_cons.mpr ⟨(by first | rfl | exact congrArg (fun t => some (iv t)) (by omega)), (List.forall_mem_cons.mpr ⟨(by first | rfl | exact congrArg (fun t => some (iv t)) (by omega)), (List.forall_mem_cons.mpr ⟨(by first | rfl | exact congrArg (fun t => some (iv t)) (by omega)), (fun _ h => nomatch h)⟩)⟩)⟩)⟩)⟩)⟩) ?_
          refine V_widen (k := cells + 4) (n := slots + 24) (by omega) (by omega) ?_
          exact hk _ (LawE.mk d2 sA s4 l3 e8 e9 x4 hDI (hR.same rfl rfl))
        · exact absurd g1657 (by decide)
      · exact absurd rfl g1650

