/-! the law's loop -/
theorem law_end {p : Program} {l : Launch} {e : Env} {s : State} {m : MethodId} {below : List Frame} {meth : Method} {c : Code} {D : va_G} {cy : Nat → ClassId} {z b : Nat} (C : Cx p l s m #[Value.ref b] meth c D cy z 9 cL_law RL) (hr : meth.sig.returnType = ret) (hz : s.heap.size ≤ z) {cells slots : Nat} {M : Mm} {lv : List (Nat × Value)} (h1 : cells ≤ 601024) (h2 : slots ≤ 7293034) : V p l e room_1 s m #[Value.ref b] below meth c D z 9 (lw_Z below #[Value.ref b] s) cells slots M 1696 lv [iv 1] := by
  intro H locs ls hl hw hS
  refine va_forget (fun q hq => Nat.le_trans hz (hS.2.2 q hq)) ?_
  refine W.widen (k := 601024) (n := 7293034) h1 h2 ?_
  exact W.base (lw_ret (Drawn.sameBut.refl s.drawn lw_cs) C.1 C.2.1 hr C.2.2.2.2.2.2.1 dL_law_1696)
set_option maxHeartbeats 2000000 in
set_option maxRecDepth 4000 in
theorem law_loop {p : Program} {l : Launch} {e : Env} {s : State} {m : MethodId} {below : List Frame} {meth : Method} {c : Code} {D : va_G} {cy : Nat → ClassId} {z b L : Nat} {xs : Nat → Int32} (C : Cx p l s m #[Value.ref b] meth c D cy z 9 cL_law RL) (hr : meth.sig.returnType = ret) (hz : s.heap.size ≤ z) (hlt : l.stackTraces = false) (hX : va_X b L xs s s.heap) (hbl : b < s.heap.size) (hbA : ¬ z ≤ b) (hL : L ≤ 2560) : ∀ (n k : Nat) (M : Mm) (cells slots : Nat), LawE cy z M → cells ≤ 1000 + 4 * k → slots ≤ 10000 + 24 * k → 5 * k < L + 5 → L + 5 - 5 * k < n → V p l e room_1 s m #[Value.ref b] below meth c D z 9 (lw_Z below #[Value.ref b] s) cells slots M 28 [(0, .ref b), (1, .ref (z + 0)), (2, .ref (z + 331)), (3, .ref (z + 338)), (4, .ref (z + 339)), (5, iv ((5 * k : Nat) : Int))] [] := by
  intro n
  induction n with
  | zero => intro k M cells slots _ _ _ _ hfu; exact absurd hfu (Nat.not_lt_zero _)
  | succ n ih =>
    intro k M cells slots hE9 hcl hsl hk5 hfu
    obtain ⟨i, hi9⟩ : ∃ i, i = 5 * k := ⟨_, rfl⟩
    rw [← hi9]
    obtain ⟨v0, ev0⟩ : ∃ v, (xs (i + 0)).toInt = v := ⟨_, rfl⟩
    have hk9 : ∀ M2, LawE cy z M2 → i + 5 ≤ L → V p l e room_1 s m #[Value.ref b] below meth c D z 9 (lw_Z below #[Value.ref b] s) (cells + 4) (slots + 24) M2 1689 [(0, .ref b), (1, .ref (z + 0)), (2, .ref (z + 331)), (3, .ref (z + 338)), (4, .ref (z + 339)), (5, iv (i : Int))] [] := by
      intro M2 hE2 hi5
      refine V_iinc C dL_law_1689 rfl (by decide) ?_
      refine V_goto C dL_law_1692 (tgt := 28) (by decide) ?_
      refine V_lv [(0, .ref b), (1, .ref (z + 0)), (2, .ref (z + 331)), (3, .ref (z + 338)), (4, .ref (z + 339)), (5, iv ((5 * (k + 1) : Nat) : Int))] (List.forall_mem_cons.mpr ⟨(by first | rfl | exact congrArg (fun t => some (iv t)) (by omega)), (List.forall_mem_cons.mpr ⟨(by first | rfl | exact congrArg (fun t => some (iv t)) (by omega)), (List.forall_mem_cons.mpr ⟨(by first | rfl | exact congrArg (fun t => some (iv t)) (by omega)), (List.forall_mem_cons.mpr ⟨(by first | rfl | exact congrArg (fun t => some (iv t)) (by omega)), (List.forall_mem_cons.mpr ⟨(by first | rfl | exact congrArg (fun t => some (iv t)) (by omega)), (List.forall_mem_cons.mpr ⟨(by first | rfl | exact congrArg (fun t => some (iv t)) (by omega)), (fun _ h => nomatch h)⟩)⟩)⟩)⟩)⟩)⟩) ?_
      exact ih (k + 1) M2 (cells + 4) (slots + 24) hE2 (by omega) (by omega) (by omega) (by omega)
    obtain ⟨x, u, N, P, A, tx, fr, tl, g9, d9, hI⟩ := id hE9
    refine V_iload C dL_law_28 rfl ?_
    refine V_aload_n C dL_law_30 rfl ?_
    refine V_slen C hX hbl hbA dL_law_31 ?_
    refine V_iconst C dL_law_32 ?_
    refine V_isub C dL_law_33 ?_
    refine V_icmp_gt C dL_law_34 (tgt := 1695) (by decide) (by omega) (by omega) (fun g34 => ?_) (fun g34 => ?_)
    · refine V_iconst C dL_law_1695 ?_
      exact law_end C hr hz (by omega) (by omega)
    · have hi5 : i + 5 ≤ L := by omega
      refine V_aload_n C dL_law_37 rfl ?_
      refine V_iload C dL_law_38 rfl ?_
      refine V_sld C hX hbl hbA (by omega) (by omega) (show _ = i + 0 by omega) ev0 dL_law_40 ?_
      refine V_bipush C dL_law_41 (by decide) ?_
      refine V_iand31 C dL_law_43 (fun w hw9 => ?_)
      rcases (show w < 0 ∨ 26 < w ∨ w = 0 ∨ w = 1 ∨ w = 2 ∨ w = 3 ∨ w = 4 ∨ w = 5 ∨ w = 6 ∨ w = 7 ∨ w = 8 ∨ w = 9 ∨ w = 10 ∨ w = 11 ∨ w = 12 ∨ w = 13 ∨ w = 14 ∨ w = 15 ∨ w = 16 ∨ w = 17 ∨ w = 18 ∨ w = 19 ∨ w = 20 ∨ w = 21 ∨ w = 22 ∨ w = 23 ∨ w = 24 ∨ w = 25 ∨ w = 26 by omega) with hsw | hsw | hsw | hsw | hsw | hsw | hsw | hsw | hsw | hsw | hsw | hsw | hsw | hsw | hsw | hsw | hsw | hsw | hsw | hsw | hsw | hsw | hsw | hsw | hsw | hsw | hsw | hsw | hsw
      · refine V_tout C dL_law_44 (by omega) (by omega) (tgt := 1689) (by decide) ?_
        refine V_widen (k := cells + 4) (n := slots + 24) (by omega) (by omega) ?_
        exact hk9 M hE9 hi5
      · refine V_tout C dL_law_44 (by omega) (by omega) (tgt := 1689) (by decide) ?_
        refine V_widen (k := cells + 4) (n := slots + 24) (by omega) (by omega) ?_
        exact hk9 M hE9 hi5
      · refine V_tin C (0) dL_law_44 hsw (by omega) (by decide) (by decide) (off := 124) (by rfl) (tgt := 168) (by decide) ?_
        exact law_c0 C hlt hX hbl hbA hL hi5 ⟨by omega, by omega⟩ hI (fun M2 hE2 => hk9 M2 hE2 hi5)
      · refine V_tin C (1) dL_law_44 hsw (by omega) (by decide) (by decide) (off := 180) (by rfl) (tgt := 224) (by decide) ?_
        exact law_c1 C hlt hX hbl hbA hL hi5 ⟨by omega, by omega⟩ hI (fun M2 hE2 => hk9 M2 hE2 hi5)
      · refine V_tin C (2) dL_law_44 hsw (by omega) (by decide) (by decide) (off := 260) (by rfl) (tgt := 304) (by decide) ?_
        exact law_c2 C hlt hX hbl hbA hL hi5 ⟨by omega, by omega⟩ hI (fun M2 hE2 => hk9 M2 hE2 hi5)
      · refine V_tin C (3) dL_law_44 hsw (by omega) (by decide) (by decide) (off := 328) (by rfl) (tgt := 372) (by decide) ?_
        exact law_c3 C hlt hX hbl hbA hL hi5 ⟨by omega, by omega⟩ hI (fun M2 hE2 => hk9 M2 hE2 hi5)
      · refine V_tin C (4) dL_law_44 hsw (by omega) (by decide) (by decide) (off := 384) (by rfl) (tgt := 428) (by decide) ?_
        exact law_c4 C hlt hX hbl hbA hL hi5 ⟨by omega, by omega⟩ hI (fun M2 hE2 => hk9 M2 hE2 hi5)
      · refine V_tin C (5) dL_law_44 hsw (by omega) (by decide) (by decide) (off := 452) (by rfl) (tgt := 496) (by decide) ?_
        exact law_c5 C hlt hX hbl hbA hL hi5 ⟨by omega, by omega⟩ hI (fun M2 hE2 => hk9 M2 hE2 hi5)
      · refine V_tin C (6) dL_law_44 hsw (by omega) (by decide) (by decide) (off := 524) (by rfl) (tgt := 568) (by decide) ?_
        exact law_c6 C hlt hX hbl hbA hL hi5 ⟨by omega, by omega⟩ hI (fun M2 hE2 => hk9 M2 hE2 hi5)
      · refine V_tin C (7) dL_law_44 hsw (by omega) (by decide) (by decide) (off := 580) (by rfl) (tgt := 624) (by decide) ?_
        exact law_c7 C hlt hX hbl hbA hL hi5 ⟨by omega, by omega⟩ hI (fun M2 hE2 => hk9 M2 hE2 hi5)
      · refine V_tin C (8) dL_law_44 hsw (by omega) (by decide) (by decide) (off := 636) (by rfl) (tgt := 680) (by decide) ?_
        exact law_c8 C hlt hX hbl hbA hL hi5 ⟨by omega, by omega⟩ hI (fun M2 hE2 => hk9 M2 hE2 hi5)
      · refine V_tin C (9) dL_law_44 hsw (by omega) (by decide) (by decide) (off := 649) (by rfl) (tgt := 693) (by decide) ?_
        exact law_c9 C hlt hX hbl hbA hL hi5 ⟨by omega, by omega⟩ hI (fun M2 hE2 => hk9 M2 hE2 hi5)
      · refine V_tin C (10) dL_law_44 hsw (by omega) (by decide) (by decide) (off := 705) (by rfl) (tgt := 749) (by decide) ?_
        exact law_c10 C hlt hX hbl hbA hL hi5 ⟨by omega, by omega⟩ hI (fun M2 hE2 => hk9 M2 hE2 hi5)
      · refine V_tin C (11) dL_law_44 hsw (by omega) (by decide) (by decide) (off := 773) (by rfl) (tgt := 817) (by decide) ?_
        exact law_c11 C hlt hX hbl hbA hL hi5 ⟨by omega, by omega⟩ hI (fun M2 hE2 => hk9 M2 hE2 hi5)
      · refine V_tin C (12) dL_law_44 hsw (by omega) (by decide) (by decide) (off := 865) (by rfl) (tgt := 909) (by decide) ?_
        exact law_c12 C hlt hX hbl hbA hL hi5 ⟨by omega, by omega⟩ hI (fun M2 hE2 => hk9 M2 hE2 hi5)
      · refine V_tin C (13) dL_law_44 hsw (by omega) (by decide) (by decide) (off := 933) (by rfl) (tgt := 977) (by decide) ?_
        exact law_c13 C hlt hX hbl hbA hL hi5 ⟨by omega, by omega⟩ hI (fun M2 hE2 => hk9 M2 hE2 hi5)
      · refine V_tin C (14) dL_law_44 hsw (by omega) (by decide) (by decide) (off := 1029) (by rfl) (tgt := 1073) (by decide) ?_
        exact law_c14 C hlt hX hbl hbA hL hi5 ⟨by omega, by omega⟩ hI (fun M2 hE2 => hk9 M2 hE2 hi5)
      · refine V_tin C (15) dL_law_44 hsw (by omega) (by decide) (by decide) (off := 1104) (by rfl) (tgt := 1148) (by decide) ?_
        exact law_c15 C hlt hX hbl hbA hL hi5 ⟨by omega, by omega⟩ hI (fun M2 hE2 => hk9 M2 hE2 hi5)
      · refine V_tin C (16) dL_law_44 hsw (by omega) (by decide) (by decide) (off := 1179) (by rfl) (tgt := 1223) (by decide) ?_
        exact law_c16 C hlt hX hbl hbA hL hi5 ⟨by omega, by omega⟩ hI (fun M2 hE2 => hk9 M2 hE2 hi5)
      · refine V_tin C (17) dL_law_44 hsw (by omega) (by decide) (by decide) (off := 1247) (by rfl) (tgt := 1291) (by decide) ?_
        exact law_c17 C hlt hX hbl hbA hL hi5 ⟨by omega, by omega⟩ hI (fun M2 hE2 => hk9 M2 hE2 hi5)
      · refine V_tin C (18) dL_law_44 hsw (by omega) (by decide) (by decide) (off := 1303) (by rfl) (tgt := 1347) (by decide) ?_
        exact law_c18 C hlt hX hbl hbA hL hi5 ⟨by omega, by omega⟩ hI (fun M2 hE2 => hk9 M2 hE2 hi5)
      · refine V_tin C (19) dL_law_44 hsw (by omega) (by decide) (by decide) (off := 1316) (by rfl) (tgt := 1360) (by decide) ?_
        exact law_c19 C hlt hX hbl hbA hL hi5 ⟨by omega, by omega⟩ hI (fun M2 hE2 => hk9 M2 hE2 hi5)
      · refine V_tin C (20) dL_law_44 hsw (by omega) (by decide) (by decide) (off := 1372) (by rfl) (tgt := 1416) (by decide) ?_
        exact law_c20 C hlt hX hbl hbA hL hi5 ⟨by omega, by omega⟩ hI (fun M2 hE2 => hk9 M2 hE2 hi5)
      · refine V_tin C (21) dL_law_44 hsw (by omega) (by decide) (by decide) (off := 1428) (by rfl) (tgt := 1472) (by decide) ?_
        exact law_c21 C hlt hX hbl hbA hL hi5 ⟨by omega, by omega⟩ hI (fun M2 hE2 => hk9 M2 hE2 hi5)
      · refine V_tin C (22) dL_law_44 hsw (by omega) (by decide) (by decide) (off := 1505) (by rfl) (tgt := 1549) (by decide) ?_
        exact law_c22 C hlt hX hbl hbA hL hi5 ⟨by omega, by omega⟩ hI (fun M2 hE2 => hk9 M2 hE2 hi5)
      · refine V_tin C (23) dL_law_44 hsw (by omega) (by decide) (by decide) (off := 1561) (by rfl) (tgt := 1605) (by decide) ?_
        exact law_c23 C hlt hX hbl hbA hL hi5 ⟨by omega, by omega⟩ hI (fun M2 hE2 => hk9 M2 hE2 hi5)
      · refine V_tin C (24) dL_law_44 hsw (by omega) (by decide) (by decide) (off := 1574) (by rfl) (tgt := 1618) (by decide) ?_
        exact law_c24 C hlt hX hbl hbA hL hi5 ⟨by omega, by omega⟩ hI (fun M2 hE2 => hk9 M2 hE2 hi5)
      · refine V_tin C (25) dL_law_44 hsw (by omega) (by decide) (by decide) (off := 1587) (by rfl) (tgt := 1631) (by decide) ?_
        exact law_c25 C hlt hX hbl hbA hL hi5 ⟨by omega, by omega⟩ hI (fun M2 hE2 => hk9 M2 hE2 hi5)
      · refine V_tin C (26) dL_law_44 hsw (by omega) (by decide) (by decide) (off := 1631) (by rfl) (tgt := 1675) (by decide) ?_
        exact law_c26 C hlt hX hbl hbA hL hi5 ⟨by omega, by omega⟩ hI (fun M2 hE2 => hk9 M2 hE2 hi5)

