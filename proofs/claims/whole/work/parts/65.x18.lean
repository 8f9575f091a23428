/-! the law, from its entry -/
theorem DockAt.gr {cy : Nat → ClassId} {z : Nat} {M M' : Mm} {x : DD} (h : DockAt cy z M x) (hM : M.1 ≤ M'.1) (e : ∀ j, j < 331 → M'.2 j = M.2 j) : DockAt cy z M' x := by
  obtain ⟨h0, h1, h2, h3, h4, h5, h6⟩ := h
  exact ⟨by omega, (e _ (by omega)).trans h1, (e _ (by omega)).trans h2, h3.gr hM (fun j q1 q2 => e j (by omega)), h4.gr hM (fun j q1 q2 => e j (by omega)), fun k hk => ⟨(h5 k hk).1, (h5 k hk).2.1, (h5 k hk).2.2.gr hM (fun j q1 q2 => e j (by have := (h5 k hk).2.1; omega))⟩, h6⟩
def N00 : Nat → Int := va_up (va_up (va_up (va_up (fun _ => 0) 9 100) 10 20) 11 50) 12 300
theorem S00_B : SB S00 := ⟨by decide, by decide, by decide, by decide, by decide, by decide, fun i => ⟨by show (-1 : Int) ≤ 0; omega, by show (0 : Int) ≤ 40000; omega⟩, fun i hi => ⟨(by show (0 : Int) ≤ 0 ∧ (0 : Int) ≤ 40000; omega), (by show (-1 : Int) ≤ 0 ∧ (0 : Int) ≤ 40000; omega), (by show (0 : Int) ≤ 0 ∧ (0 : Int) ≤ 1; omega), (by show (0 : Int) ≤ 0 ∧ (0 : Int) ≤ 19; omega), fun i k => ⟨by show (-1 : Int) ≤ 0; omega, by show (0 : Int) ≤ 40000; omega⟩⟩⟩
theorem x00_I : DI x00 := ⟨S00_B, by decide, fun k => S00_B, by decide, fun j => ⟨by show (0 : Int) ≤ 0; omega, by show (0 : Int) ≤ 127; omega⟩⟩
theorem x00_R : RelD x00 (fun _ => 0) N00 (fun _ => 0) (fun _ => 0) := by
  refine ⟨rfl, rfl, ⟨⟨rfl, rfl, rfl, fun v => rfl, fun j (hj : j < 0) => absurd hj (by omega), rfl, rfl, rfl, rfl, rfl, rfl, rfl, fun i (hi : i < 0) => absurd hi (by omega)⟩, ⟨by decide, by decide, fun i (hi : i < 0) => absurd hi (by omega)⟩, fun i (hi : i < 0) => absurd hi (by omega), fun i j hij (hj : j < 0) => absurd hj (by omega)⟩, fun k (hk : k < 0) => absurd hk (by omega), fun j (hj : (j : Int) < 0) => by omega⟩
set_option maxHeartbeats 2000000 in
set_option maxRecDepth 4000 in
theorem law_V {p : Program} {l : Launch} {e : Env} {s : State} {m : MethodId} {below : List Frame} {meth : Method} {c : Code} {D : va_G} {cy : Nat → ClassId} {z b L : Nat} {xs : Nat → Int32} (C : Cx p l s m #[Value.ref b] meth c D cy z 9 cL_law RL) (hr : meth.sig.returnType = ret) (hz : z = s.heap.size) (hlt : l.stackTraces = false) (hX : va_X b L xs s s.heap) (hbl : b < s.heap.size) (hbA : ¬ z ≤ b) (hL : L ≤ 2560) : V p l e room_1 s m #[Value.ref b] below meth c D z 9 (lw_Z below #[Value.ref b] s) 0 0 (0, fun _ => .inr (0, [])) 0 (lv_args 0 [.ref b]) [] := by
  refine V_new (ci := 5) (fs := [.null, .null, iv 0, .null]) C tyX6 in_X6 tyX6_ok w_18 w_19 w_1 rfl (fun j hj => by rcases (show j = 0 ∨ j = 1 ∨ j = 2 ∨ j = 3 by omega) with rfl | rfl | rfl | rfl <;> rfl) dL_law_0 (k9 := 0) rfl (by omega) ⟨by show _ + 1 ≤ 601024; omega, by show _ + 4 ≤ 7293034; omega⟩ (fun M1 em => ?_)
  have f1 : M1.1 = 1 := by rw [em]; rfl
  have f2 : M1.2 0 = oX 5 [.null, .null, iv 0, .null] := by rw [em]; exact mpush_self (0, fun _ => .inr (0, [])) _
  clear em
  refine V_dup C dL_law_3 rfl ?_
  refine V_callI (k := 0) (fr := 3) (lo := 61) (mc := 330) (ms := 5331) (As := []) C yiX6_init (Or.inl w_20) dL_law_4 rfl rfl (Nat.le_of_ble_eq_true rfl) ⟨Nat.le_of_ble_eq_true rfl, Nat.le_of_ble_eq_true rfl⟩ ⟨by show _ + 330 ≤ 601024; omega, by show _ + 5331 ≤ 7293034; omega⟩ (by omega) ?_
  refine ok_X6_init f1 f2 (fun M2 l2 hD2 => ?_)
  refine V_astore_n C dL_law_7 (by decide) ?_
  refine V_new (ci := 6) (fs := [.null, .null, .null, iv 0, iv 0, .null, iv 0, .null, .null, iv 0, iv 0, iv 0, iv 0, lgv 0]) C tyX7 in_X7 tyX7_ok w_792 w_793 w_7 rfl (fun j hj => by rcases (show j = 0 ∨ j = 1 ∨ j = 2 ∨ j = 3 ∨ j = 4 ∨ j = 5 ∨ j = 6 ∨ j = 7 ∨ j = 8 ∨ j = 9 ∨ j = 10 ∨ j = 11 ∨ j = 12 ∨ j = 13 by omega) with rfl | rfl | rfl | rfl | rfl | rfl | rfl | rfl | rfl | rfl | rfl | rfl | rfl | rfl <;> rfl) dL_law_8 (k9 := 331) l2 (by omega) ⟨by show _ + 1 ≤ 601024; omega, by show _ + 14 ≤ 7293034; omega⟩ (fun M3 em => ?_)
  have f3 : M3.1 = 332 := by rw [em, mpush_1, l2]
  have f4 : M3.2 331 = oX 6 [.null, .null, .null, iv 0, iv 0, .null, iv 0, .null, .null, iv 0, iv 0, iv 0, iv 0, lgv 0] := by
    have q := mpush_self M2 (oX 6 [.null, .null, .null, iv 0, iv 0, .null, iv 0, .null, .null, iv 0, iv 0, iv 0, iv 0, lgv 0])
    rw [l2] at q
    rw [em]; exact q
  have f5 : ∀ j, j < 331 → M3.2 j = M2.2 j := fun j hj => by rw [em]; exact mpush_ne (by omega)
  clear em
  refine V_dup C dL_law_11 rfl ?_
  refine V_callI (k := 331) (fr := 1) (lo := 20) (mc := 6) (ms := 2334) (As := []) C yiX7_init (Or.inl w_794) dL_law_12 rfl rfl (Nat.le_of_ble_eq_true rfl) ⟨Nat.le_of_ble_eq_true rfl, Nat.le_of_ble_eq_true rfl⟩ ⟨by show _ + 6 ≤ 601024; omega, by show _ + 2334 ≤ 7293034; omega⟩ (by omega) ?_
  refine ok_X7_init f3 f4 (fun M4 hB => ?_)
  have l4 : M4.1 = 338 := hB.1
  refine V_astore_n C dL_law_15 (by decide) ?_
  refine V_iconst C dL_law_16 ?_
  refine V_newarr (t := 5) (N := 1) (ty := .long) (a0 := (1, .inr (.inl (fun _ => Int64.ofInt 0)))) C rfl rfl (fun h => h) w_1143 rfl (by omega) rfl (Nat.le_of_ble_eq_true rfl) dL_law_17 (k9 := 338) l4 (by omega) ⟨by show _ + 1 ≤ 601024; omega, by show _ + 1 ≤ 7293034; omega⟩ (fun M5 em => ?_)
  have l5 : M5.1 = 339 := by rw [em, mpush_1, l4]
  have f6 : M5.2 338 = aL cy 1 (fun _ => 0) := by
    have q := mpush_self M4 (aL cy 1 (fun _ => 0))
    rw [l4] at q
    rw [em]; exact q
  have f7 : ∀ j, j < 338 → M5.2 j = M4.2 j := fun j hj => by rw [em]; exact mpush_ne (by omega)
  clear em
  refine V_astore_n C dL_law_19 (by decide) ?_
  refine V_iconst C dL_law_20 ?_
  refine V_newarr (t := 6) (N := 1) (ty := .double) (a0 := (1, .inr (.inr (.inr (.inl (fun _ => 0)))))) C rfl rfl (fun h => h) w_1144 rfl (by omega) rfl (Nat.le_of_ble_eq_true rfl) dL_law_21 (k9 := 339) l5 (by omega) ⟨by show _ + 1 ≤ 601024; omega, by show _ + 1 ≤ 7293034; omega⟩ (fun M6 em => ?_)
  have l6 : M6.1 = 340 := by rw [em, mpush_1, l5]
  have f8 : M6.2 339 = aD cy 1 (fun _ => 0) := by
    have q := mpush_self M5 (aD cy 1 (fun _ => 0))
    rw [l5] at q
    rw [em]; exact q
  have f9 : ∀ j, j < 339 → M6.2 j = M5.2 j := fun j hj => by rw [em]; exact mpush_ne (by omega)
  clear em
  refine V_astore C dL_law_23 (by decide) ?_
  refine V_iconst C dL_law_25 ?_
  refine V_istore C dL_law_26 (by decide) ?_
  have e4 : ∀ j, j < 338 → M6.2 j = M4.2 j := fun j hj => (f9 j (by omega)).trans (f7 j hj)
  have eD : ∀ j, j < 331 → M6.2 j = M2.2 j := fun j hj => (e4 j (by omega)).trans ((hB.2.2 j hj).trans (f5 j hj))
  have hE : LawE cy z M6 := ⟨x00, fun _ => 0, N00, fun _ => 0, fun _ => 0, fun _ => 0, fun _ => 0, fun _ => 0, fun _ => 0, fun _ => 0, hD2.gr (by omega) eD, x00_I, ⟨by omega, (e4 331 (by omega)).trans (hB.2.1 0 _ rfl), (e4 332 (by omega)).trans (hB.2.1 1 _ rfl), (e4 333 (by omega)).trans (hB.2.1 2 _ rfl), (e4 334 (by omega)).trans (hB.2.1 3 _ rfl), (e4 335 (by omega)).trans (hB.2.1 4 _ rfl), (e4 336 (by omega)).trans (hB.2.1 5 _ rfl), (e4 337 (by omega)).trans (hB.2.1 6 _ rfl)⟩, l6, (f9 338 (by omega)).trans f6, f8, x00_R⟩
  refine V_lv [(0, .ref b), (1, .ref (z + 0)), (2, .ref (z + 331)), (3, .ref (z + 338)), (4, .ref (z + 339)), (5, iv ((5 * 0 : Nat) : Int))] (List.forall_mem_cons.mpr ⟨(by first | rfl | exact congrArg (fun t => some (iv t)) (by omega)), (List.forall_mem_cons.mpr ⟨(by first | rfl | exact congrArg (fun t => some (iv t)) (by omega)), (List.forall_mem_cons.mpr ⟨(by first | rfl | exact congrArg (fun t => some (iv t)) (by omega)), (List.forall_mem_cons.mpr ⟨(by first | rfl | exact congrArg (fun t => some (iv t)) (by omega)), (List.forall_mem_cons.mpr ⟨(by first | rfl | exact congrArg (fun t => some (iv t)) (by omega)), (List.forall_mem_cons.mpr ⟨(by first | rfl | exact congrArg (fun t => some (iv t)) (by omega)), (fun _ h => nomatch h)⟩)⟩)⟩)⟩)⟩)⟩) ?_
  exact law_loop C hr (by omega) hlt hX hbl hbA hL (L + 6) 0 M6 _ _ hE (by omega) (by omega) (by omega) (by omega)
