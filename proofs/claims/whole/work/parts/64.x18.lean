/-! the law's start: what the tables say -/
theorem law_wB {p : Program} {s : State} {m : MethodId} {meth : Method} {c : Code} {b L : Nat} {xs : Nat → Int32} (C0 : lw_At p s m meth c b L xs) : ∃ (D : va_G) (cy : Nat → ClassId), wB D cy s.heap.size s s.heap := by
  obtain ⟨hx, hb, hr, hml, hown, hts, hX, hbl, hlocks, hgv⟩ := C0
  have hs := flat_of_before _ hgv
  have ha : ∀ w ∈ lw_all, w.before #[Value.ref b] s = true := fun w hw => hts w (lw_all_in w hw)
  obtain ⟨c0, i0, k0⟩ := u_known (ws := lw_all) (C := RX1) (T := TX1) (N := 4) ha in_X1 (ha _ w_51)
  obtain ⟨c1, i1, k1⟩ := u_known (ws := lw_all) (C := RX2) (T := TX2) (N := 2) ha in_X2 (ha _ w_35)
  obtain ⟨c2, i2, k2⟩ := u_known (ws := lw_all) (C := RX3) (T := TX3) (N := 11) ha in_X3 (ha _ w_74)
  obtain ⟨c3, i3, k3⟩ := u_known (ws := lw_all) (C := RX4) (T := TX4) (N := 8) ha in_X4 (ha _ w_27)
  obtain ⟨c4, i4, k4⟩ := u_known (ws := lw_all) (C := RX5) (T := TX5) (N := 7) ha in_X5 (ha _ w_151)
  obtain ⟨c5, i5, k5⟩ := u_known (ws := lw_all) (C := RX6) (T := TX6) (N := 4) ha in_X6 (ha _ w_19)
  obtain ⟨c6, i6, k6⟩ := u_known (ws := lw_all) (C := RX7) (T := TX7) (N := 14) ha in_X7 (ha _ w_793)
  obtain ⟨a0, kA0, m0, f0, g0, h0⟩ := Cond.arrayClass_spec (ha _ w_49)
  obtain ⟨a1, kA1, m1, f1, g1, h1⟩ := Cond.arrayClass_spec (ha _ w_182)
  obtain ⟨a2, kA2, m2, f2, g2, h2⟩ := Cond.arrayClass_spec (ha _ w_183)
  have ho3 := hts _ (List.mem_append_right _ (List.mem_of_getElem? (l := tables_1) (i := 33) (a := Cond.arrayOver (.object RX3)) (by decide +kernel)))
  obtain ⟨m3, a3, kA3, n3, -, g3, h3, f3⟩ := Cond.arrayOver_spec ho3
  have ho4 := hts _ (List.mem_append_right _ (List.mem_of_getElem? (l := tables_1) (i := 149) (a := Cond.arrayOver (.object RX4)) (by decide +kernel)))
  obtain ⟨m4, a4, kA4, n4, -, g4, h4, f4⟩ := Cond.arrayOver_spec ho4
  obtain ⟨a5, kA5, m5, f5, g5, h5⟩ := Cond.arrayClass_spec (ha _ w_1143)
  obtain ⟨a6, kA6, m6, f6, g6, h6⟩ := Cond.arrayClass_spec (ha _ w_1144)
  have hsr0 := hts _ (List.mem_append_right _ (List.mem_of_getElem? (l := tables_1) (i := 498) (a := Cond.stringRef RX6 213 "an argument is out of range") (by decide +kernel)))
  obtain ⟨sa0, -, -, -, hse0, -⟩ := Cond.exactly_spec (hs (Cond.exactly (.string RX6 213) "java/lang/String") (by decide +kernel))
  have hsr1 := hts _ (List.mem_append_right _ (List.mem_of_getElem? (l := tables_1) (i := 573) (a := Cond.stringRef RX6 220 "the docket does not allow this call now") (by decide +kernel)))
  obtain ⟨sa1, -, -, -, hse1, -⟩ := Cond.exactly_spec (hs (Cond.exactly (.string RX6 220) "java/lang/String") (by decide +kernel))
  have hsr2 := hts _ (List.mem_append_right _ (List.mem_of_getElem? (l := tables_1) (i := 628) (a := Cond.stringRef RX6 225 "there is no such right") (by decide +kernel)))
  obtain ⟨sa2, -, -, -, hse2, -⟩ := Cond.exactly_spec (hs (Cond.exactly (.string RX6 225) "java/lang/String") (by decide +kernel))
  have hl1 := hts _ (List.mem_append_right _ (List.mem_of_getElem? (l := tables_1) (i := 484) (a := Cond.laysStatic Bundle.tN "UNASSIGNED_STACK" Bundle.steD) (by decide +kernel)))
  have hl2 := hts _ (List.mem_append_right _ (List.mem_of_getElem? (l := tables_1) (i := 486) (a := Cond.laysStatic Bundle.tN "SUPPRESSED_SENTINEL" Bundle.listD) (by decide +kernel)))
  have hr1 := hs (Cond.isRef (.static Bundle.tN "UNASSIGNED_STACK" Bundle.steD)) (by decide +kernel)
  have hr2 := hs (Cond.isRef (.static Bundle.tN "SUPPRESSED_SENTINEL" Bundle.listD)) (by decide +kernel)
  have hA : ∀ a : Nat, a < s.heap.size → ¬ s.heap.size ≤ a := fun a h => Nat.not_le.mpr h
  refine ⟨(fun t => if t = 0 then c0 else if t = 1 then c1 else if t = 2 then c2 else if t = 3 then c3 else if t = 4 then c4 else if t = 5 then c5 else c6, fun t => if t = 0 then i0 else if t = 1 then i1 else if t = 2 then i2 else if t = 3 then i3 else if t = 4 then i4 else if t = 5 then i5 else i6), fun t => if t = 0 then a0 else if t = 1 then a1 else if t = 2 then a2 else if t = 3 then a3 else if t = 4 then a4 else if t = 5 then a5 else a6, ⟨fun k q hq => ?_, fun k q hq => ?_⟩, vx_Zqof hl1 (ha _ w_8) hr1 hA, vx_Zqof hl2 (ha _ w_8) hr2 hA, fun w hw => ?_, va_AO.of ho3, va_AO.of ho4, ?_, ⟨sa0, vk_R.of hsr0 hse0⟩, ⟨sa1, vk_R.of hsr1 hse1⟩, sa2, vk_R.of hsr2 hse2⟩
  · exact match k, hq with
    | 0, hq => by cases hq; exact k0
    | 1, hq => by cases hq; exact k1
    | 2, hq => by cases hq; exact k2
    | 3, hq => by cases hq; exact k3
    | 4, hq => by cases hq; exact k4
    | 5, hq => by cases hq; exact k5
    | 6, hq => by cases hq; exact k6
    | k + 7, hq => by simp [vwCl] at hq
  · exact match k, hq with
    | 0, hq => by cases hq; exact ⟨fun n z9 => ⟨fun k h => (by cases h), kA0, g0, m0, h0⟩, f0⟩
    | 1, hq => by cases hq; exact ⟨fun n z9 => ⟨fun k h => (by cases h), kA1, g1, m1, h1⟩, f1⟩
    | 2, hq => by cases hq; exact ⟨fun n z9 => ⟨fun k h => (by cases h), kA2, g2, m2, h2⟩, f2⟩
    | 3, hq => by cases hq; exact ⟨fun n z9 => ⟨fun k h => (by cases h), kA3, g3, m3, h3⟩, ⟨kA3, m3, g3, h3, n3, f3⟩⟩
    | 4, hq => by cases hq; exact ⟨fun n z9 => ⟨fun k h => (by cases h), kA4, g4, m4, h4⟩, ⟨kA4, m4, g4, h4, n4, f4⟩⟩
    | 5, hq => by cases hq; exact ⟨fun n z9 => ⟨fun k h => (by cases h), kA5, g5, m5, h5⟩, f5⟩
    | 6, hq => by cases hq; exact ⟨fun n z9 => ⟨fun k h => (by cases h), kA6, g6, m6, h6⟩, f6⟩
    | k + 7, hq => by simp [tysL] at hq
  · have hok := List.all_eq_true.mp nw_all_ok w hw
    exact va_Nw.of (by cases w <;> first | rfl | (simp [nw_ok] at hok)) (hts w (List.mem_append_right _ (nw_all_in w hw)))
  · exact (List.forall_mem_cons.mpr ⟨va_Nc.of (hs (Cond.not (.castable "java/lang/IllegalStateException" "java/lang/IllegalArgumentException")) (by decide +kernel)), (List.forall_mem_cons.mpr ⟨va_Nc.of (hs (Cond.not (.castable "java/lang/IllegalArgumentException" "java/lang/IndexOutOfBoundsException")) (by decide +kernel)), (List.forall_mem_cons.mpr ⟨va_Nc.of (hs (Cond.not (.castable "java/lang/IllegalStateException" "java/lang/IndexOutOfBoundsException")) (by decide +kernel)), (fun _ h => nomatch h)⟩)⟩)⟩)
