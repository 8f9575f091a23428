/-! the digest of the reference (X7), walked -/
def UQ (u u9 : Nat → Int) (h : Int) : Prop := u9 0 = u 0 ∧ u9 1 = 0 ∧ u9 2 = u 2 ∧ u9 7 = h
theorem UQ.mix {u u9 : Nat → Int} {h v : Int} (q : UQ u u9 h) : UQ u (va_up u9 7 (31 * u9 7 + w32 v)) (31 * h + w32 v) := ⟨q.1, q.2.1, q.2.2.1, by show 31 * u9 7 + w32 v = _; rw [q.2.2.2]⟩
theorem UQ.gap {u u9 : Nat → Int} {h a b : Int} (q : UQ u u9 h) : UQ u (va_up (va_up u9 3 a) 4 b) h := q
theorem UQ.fin {K : Option Value → Mm → Prop} {M : Mm} {u u9 : Nat → Int} {h : Int} (q : UQ u u9 h) (o : K (some (lgv h)) M) : K (some (lgv (u9 7))) M := by rw [q.2.2.2]; exact o
theorem UQ.to {u u9 : Nat → Int} {h k : Int} (q : UQ u u9 h) (e : h = k) : UQ u u9 k := e ▸ q
set_option maxHeartbeats 2000000 in
set_option maxRecDepth 4000 in
theorem ok_X7_digest {l : Launch} {D : va_G} {cy : Nat → ClassId} {z : Nat} {M : Mm} {K : Option Value → Mm → Prop} {u N P A tx fr tl : Nat → Int} (hM : ModAt cy z M u N P A tx fr tl) {S : SD} (hRw : RowOf N S) (hB : SB S) (hJ : IS S) (hZ : ∀ i, i < sN S → ∀ v, v < 10 → stV (RA S i) v = stU (RF S i) (RA S i) v) (hK : ∀ M' u' fr' tl', Sm M M' P7 → ModAt cy z M' u' N P A tx fr' tl' → u' 0 = u 0 → u' 1 = 0 → u' 2 = u 2 → K (some (lgv (31 * (31 * mxN9 S (sN S) (31 * mxF (fun w : Nat => dvT S w) 12 (31 * 3469 + w32 (u 2)) + w32 (date (sc S 0))) + w32 (fdS S (sN S)).1) + w32 (u 0)))) M') :
    MT l D cy z false yX7_digest (wsy yX7_digest cX7_digest 3 (some .long)) 9 197 0 0 M [.ref (z + 331)] K := by
  refine MT_of (by decide) w_1136 (Nat.le_of_ble_eq_true rfl) ?_
  intro p e s m args below meth c C hr hx0
  have hM9 := hM
  obtain ⟨gn, g0, g1, g2, g3, g4, g5, g6⟩ := id hM
  have hB9 := hB
  have hr9 := hRw
  have hJ9 := hJ
  obtain ⟨e0, e1, e2, eH, eh, e9, e10, e11, e12, e13, e14, e15, eR⟩ := id hRw
  obtain ⟨d0, d1, d2, d4, d5, d6, dH, dR⟩ := id hB
  have dT := hJ.2.1
  have loopB : ∀ (n : Nat) (i : Nat) (u9 fr9 tl9 : Nat → Int) (M9 : Mm), (i ≤ sN S) → (Sm M M9 P7) → (ModAt cy z M9 u9 N P A tx fr9 tl9) → (UQ u u9 (mxN9 S i (31 * mxF (fun w : Nat => dvT S w) 12 (31 * 3469 + w32 (u 2)) + w32 (date (sc S 0))))) → 10 - i < n → V p l e { frames := 9, cells := 0, slots := 0, locals := 197 } s m args below meth c D z 3 (MQ below (qc_ D z K) args s 0 0 (fun q => z ≤ q)) 0 0 M9 58 [(0, .ref (z + 331)), (1, iv ((i : Int)))] [] := by
    intro n
    induction n with
    | zero => intro i u9 fr9 tl9 M9 hi0 hi1 hi2 hi3 hfu; exact absurd hfu (Nat.not_lt_zero _)
    | succ n ih =>
      intro i u9 fr9 tl9 M9 hi0 hi1 hi2 hi3 hfu
      obtain ⟨gn9, q0, q1, q2, q3, q4, q5, q6⟩ := id hi2
      refine V_iload_n C dX7_digest_58 rfl ?_
      refine V_aload_n C dX7_digest_59 rfl ?_
      refine V_get C fg_X7_7 dX7_digest_60 (by repeat (first | with_reducible assumption | with_reducible exact mset_self _ _ _ | refine (mset_ne (by omega)).trans ?_)) (by (try simp only [mset_1]); omega) (by rfl) ?_
      refine V_iconst C dX7_digest_63 ?_
      refine V_iald C dX7_digest_64 (by repeat (first | with_reducible assumption | with_reducible exact mset_self _ _ _ | refine (mset_ne (by omega)).trans ?_)) (by (try simp only [mset_1]); omega) (by omega) (by omega) (show ((1 : Int)).toNat = 1 from rfl) ?_
      rw [e1]
      refine V_icmp_ge C dX7_digest_65 (tgt := 145) (by decide) (by omega) (by omega) (fun g65 => ?_) (fun g65 => ?_)
      · have ei : i = sN S := by omega
        subst ei
        refine V_aload_n C dX7_digest_145 rfl ?_
        refine V_aload_n C dX7_digest_146 rfl ?_
        refine V_callV (fr := 6) (lo := 133) (mc := 0) (ms := 0) (As := []) C yvX7_firstDue w_1078 dX7_digest_147 rfl rfl (by repeat (first | with_reducible assumption | with_reducible exact mset_self _ _ _ | refine (mset_ne (by omega)).trans ?_)) (by (try simp only [mset_1]); omega) rfl rfl (Nat.le_of_ble_eq_true rfl) ⟨Nat.le_of_ble_eq_true rfl, Nat.le_of_ble_eq_true rfl⟩ ⟨Nat.le_of_ble_eq_true rfl, Nat.le_of_ble_eq_true rfl⟩ ?_
        refine ok_X7_firstDue hi2 hr9 hB9 hJ9 ?_
        have fR := fdS_rng hB9 (sN S) d1
        refine V_callV (fr := 0) (lo := 0) (mc := 0) (ms := 0) (As := [_]) C yvX7_mix w_1138 dX7_digest_150 rfl rfl (by repeat (first | with_reducible assumption | with_reducible exact mset_self _ _ _ | refine (mset_ne (by omega)).trans ?_)) (by (try simp only [mset_1]); omega) rfl rfl (Nat.le_of_ble_eq_true rfl) ⟨Nat.le_of_ble_eq_true rfl, Nat.le_of_ble_eq_true rfl⟩ ⟨Nat.le_of_ble_eq_true rfl, Nat.le_of_ble_eq_true rfl⟩ ?_
        refine ok_X7_mix hi2 (fun M3 s3 x3 => ?_)
        obtain ⟨gn3, r0, r1, r2, r3, r4, r5, r6⟩ := id x3
        have uq3 := hi3.mix (v := (fdS S (sN S)).1)
        refine V_aload_n C dX7_digest_153 rfl ?_
        refine V_aload_n C dX7_digest_154 rfl ?_
        refine V_get C fg_X7_32 dX7_digest_155 (by repeat (first | with_reducible assumption | with_reducible exact mset_self _ _ _ | refine (mset_ne (by omega)).trans ?_)) (by (try simp only [mset_1]); omega) (by rfl) ?_
        refine V_callV (fr := 0) (lo := 0) (mc := 0) (ms := 0) (As := [_]) C yvX7_mix w_1138 dX7_digest_158 rfl rfl (by repeat (first | with_reducible assumption | with_reducible exact mset_self _ _ _ | refine (mset_ne (by omega)).trans ?_)) (by (try simp only [mset_1]); omega) rfl rfl (Nat.le_of_ble_eq_true rfl) ⟨Nat.le_of_ble_eq_true rfl, Nat.le_of_ble_eq_true rfl⟩ ⟨Nat.le_of_ble_eq_true rfl, Nat.le_of_ble_eq_true rfl⟩ ?_
        refine ok_X7_mix x3 (fun M4 s4 x4 => ?_)
        obtain ⟨gn4, t0, t1, t2, t3, t4, t5, t6⟩ := id x4
        have uq4 := uq3.mix (v := u9 0)
        refine V_aload_n C dX7_digest_161 rfl ?_
        refine V_get C fg_X7_209 dX7_digest_162 (by repeat (first | with_reducible assumption | with_reducible exact mset_self _ _ _ | refine (mset_ne (by omega)).trans ?_)) (by (try simp only [mset_1]); omega) (by rfl) ?_
        exact V_lret C hr dX7_digest_165 (UQ.fin uq4 (by rw [hi3.1]; exact hK M4 _ _ _ ((hi1.trans (P7_331 s3)).trans (P7_331 s4)) x4 uq4.1 uq4.2.1 uq4.2.2.1))
      · have ihB := ih
        have hi : i < sN S := by omega
        have rt := eR i hi
        obtain ⟨w0, w1, w2, w3, w4, w5, w6, w7⟩ := id rt
        have ri := hJ.2.2 i hi
        have hi10 : i < 10 := by omega
        have rb := dR i hi10
        obtain ⟨b0, b1, b2, b3, b4⟩ := id rb
        have ri0 := ri.1
        have ri1 := ri.2.1
        refine V_iconst C dX7_digest_68 ?_
        refine V_istore_n C dX7_digest_69 (by decide) ?_
        have loopD : ∀ (n : Nat) (k9 : Nat) (u9 fr9 tl9 : Nat → Int) (M9 : Mm), (k9 ≤ 10) → (Sm M M9 P7) → (ModAt cy z M9 u9 N P A tx fr9 tl9) → (UQ u u9 (mxF (fun v : Nat => stU (RF S i) (RA S i) v) k9 (mxF (fun w : Nat => rvT S i w) 13 (mxN9 S i (31 * mxF (fun w : Nat => dvT S w) 12 (31 * 3469 + w32 (u 2)) + w32 (date (sc S 0))))))) → 10 - k9 < n → V p l e { frames := 9, cells := 0, slots := 0, locals := 197 } s m args below meth c D z 3 (MQ below (qc_ D z K) args s 0 0 (fun q => z ≤ q)) 0 0 M9 94 [(0, .ref (z + 331)), (1, iv (i : Int)), (2, iv ((k9 : Int)))] [] := by
          intro n
          induction n with
          | zero => intro k9 u9 fr9 tl9 M9 hi0 hi1 hi2 hi3 hfu; exact absurd hfu (Nat.not_lt_zero _)
          | succ n ih =>
            intro k9 u9 fr9 tl9 M9 hi0 hi1 hi2 hi3 hfu
            obtain ⟨gn9, q0, q1, q2, q3, q4, q5, q6⟩ := id hi2
            refine V_iload_n C dX7_digest_94 rfl ?_
            refine V_bipush C dX7_digest_95 (by decide) ?_
            refine V_icmp_ge C dX7_digest_97 (tgt := 116) (by decide) (by omega) (by omega) (fun g97 => ?_) (fun g97 => ?_)
            · have en : k9 = 10 := by omega
              subst en
              refine V_aload_n C dX7_digest_116 rfl ?_
              refine V_aload_n C dX7_digest_117 rfl ?_
              refine V_iload_n C dX7_digest_118 rfl ?_
              refine V_aload_n C dX7_digest_119 rfl ?_
              refine V_get C fg_X7_7 dX7_digest_120 (by repeat (first | with_reducible assumption | with_reducible exact mset_self _ _ _ | refine (mset_ne (by omega)).trans ?_)) (by (try simp only [mset_1]); omega) (by rfl) ?_
              refine V_iconst C dX7_digest_123 ?_
              refine V_iald C dX7_digest_124 (by repeat (first | with_reducible assumption | with_reducible exact mset_self _ _ _ | refine (mset_ne (by omega)).trans ?_)) (by (try simp only [mset_1]); omega) (by omega) (by omega) (show ((0 : Int)).toNat = 0 from rfl) ?_
              rw [e0]
              refine V_callV (fr := 7) (lo := 156) (mc := 0) (ms := 0) (As := [_, _]) C yvX7_stoodOn w_1038 dX7_digest_125 rfl rfl (by repeat (first | with_reducible assumption | with_reducible exact mset_self _ _ _ | refine (mset_ne (by omega)).trans ?_)) (by (try simp only [mset_1]); omega) rfl rfl (Nat.le_of_ble_eq_true rfl) ⟨Nat.le_of_ble_eq_true rfl, Nat.le_of_ble_eq_true rfl⟩ ⟨Nat.le_of_ble_eq_true rfl, Nat.le_of_ble_eq_true rfl⟩ ?_
              refine ok_X7_stoodOn hi2 hr9 hB9 hJ9 hi (by omega) (fun hl M4 s4 x4 => ?_) (fun hl M4 s4 x4 => ?_)
              · obtain ⟨gn4, t0, t1, t2, t3, t4, t5, t6⟩ := id x4
                refine V_ifeq1 C dX7_digest_128 (tgt := 135) (by decide) ?_
                refine V_iconst C dX7_digest_131 ?_
                refine V_goto C dX7_digest_132 (tgt := 136) (by decide) ?_
                refine V_callV (fr := 0) (lo := 0) (mc := 0) (ms := 0) (As := [_]) C yvX7_mix w_1138 dX7_digest_136 rfl rfl (by repeat (first | with_reducible assumption | with_reducible exact mset_self _ _ _ | refine (mset_ne (by omega)).trans ?_)) (by (try simp only [mset_1]); omega) rfl rfl (Nat.le_of_ble_eq_true rfl) ⟨Nat.le_of_ble_eq_true rfl, Nat.le_of_ble_eq_true rfl⟩ ⟨Nat.le_of_ble_eq_true rfl, Nat.le_of_ble_eq_true rfl⟩ ?_
                refine ok_X7_mix x4 (fun M5 s5 x5 => ?_)
                refine V_iinc C dX7_digest_139 rfl (by decide) ?_
                refine V_goto C dX7_digest_142 (tgt := 58) (by decide) ?_
                refine V_lv [(0, .ref (z + 331)), (1, iv (((i + 1 : Nat) : Int)))] (List.forall_mem_cons.mpr ⟨(by first | rfl | exact congrArg (fun t => some (iv t)) (by push_cast; omega)), (List.forall_mem_cons.mpr ⟨(by first | rfl | exact congrArg (fun t => some (iv t)) (by push_cast; omega)), (fun _ h => nomatch h)⟩)⟩) ?_
                exact ihB (i + 1) _ _ _ M5 (by omega) ((hi1.trans s4).trans (P7_331 s5)) x5 ((UQ.gap hi3).mix.to (by show 31 * (mxF (fun v : Nat => stU (RF S i) (RA S i) v) 10 (mxF (fun w : Nat => rvT S i w) 13 (mxN9 S i (31 * mxF (fun w : Nat => dvT S w) 12 (31 * 3469 + w32 (u 2)) + w32 (date (sc S 0)))))) + w32 1 = mxR S i (mxN9 S i (31 * mxF (fun w : Nat => dvT S w) 12 (31 * 3469 + w32 (u 2)) + w32 (date (sc S 0)))); unfold mxR; rw [if_pos (stB_t ((RI.stood_cov ri d2 b3.2).mpr hl))]; rfl)) (by omega)
              · obtain ⟨gn4, t0, t1, t2, t3, t4, t5, t6⟩ := id x4
                refine V_ifeq0 C dX7_digest_128 (tgt := 135) (by decide) ?_
                refine V_iconst C dX7_digest_135 ?_
                refine V_callV (fr := 0) (lo := 0) (mc := 0) (ms := 0) (As := [_]) C yvX7_mix w_1138 dX7_digest_136 rfl rfl (by repeat (first | with_reducible assumption | with_reducible exact mset_self _ _ _ | refine (mset_ne (by omega)).trans ?_)) (by (try simp only [mset_1]); omega) rfl rfl (Nat.le_of_ble_eq_true rfl) ⟨Nat.le_of_ble_eq_true rfl, Nat.le_of_ble_eq_true rfl⟩ ⟨Nat.le_of_ble_eq_true rfl, Nat.le_of_ble_eq_true rfl⟩ ?_
                refine ok_X7_mix x4 (fun M5 s5 x5 => ?_)
                refine V_iinc C dX7_digest_139 rfl (by decide) ?_
                refine V_goto C dX7_digest_142 (tgt := 58) (by decide) ?_
                refine V_lv [(0, .ref (z + 331)), (1, iv (((i + 1 : Nat) : Int)))] (List.forall_mem_cons.mpr ⟨(by first | rfl | exact congrArg (fun t => some (iv t)) (by push_cast; omega)), (List.forall_mem_cons.mpr ⟨(by first | rfl | exact congrArg (fun t => some (iv t)) (by push_cast; omega)), (fun _ h => nomatch h)⟩)⟩) ?_
                exact ihB (i + 1) _ _ _ M5 (by omega) ((hi1.trans s4).trans (P7_331 s5)) x5 ((UQ.gap hi3).mix.to (by show 31 * (mxF (fun v : Nat => stU (RF S i) (RA S i) v) 10 (mxF (fun w : Nat => rvT S i w) 13 (mxN9 S i (31 * mxF (fun w : Nat => dvT S w) 12 (31 * 3469 + w32 (u 2)) + w32 (date (sc S 0)))))) + w32 0 = mxR S i (mxN9 S i (31 * mxF (fun w : Nat => dvT S w) 12 (31 * 3469 + w32 (u 2)) + w32 (date (sc S 0)))); unfold mxR; rw [if_neg (by rw [stB_f (fun o => hl ((RI.stood_cov ri d2 b3.2).mp o))]; decide)]; rfl)) (by omega)
            · refine V_aload_n C dX7_digest_100 rfl ?_
              refine V_aload_n C dX7_digest_101 rfl ?_
              refine V_iload_n C dX7_digest_102 rfl ?_
              refine V_iload_n C dX7_digest_103 rfl ?_
              refine V_callV (fr := 2) (lo := 42) (mc := 0) (ms := 0) (As := [_, _]) C yvX7_tellUser w_1058 dX7_digest_104 rfl rfl (by repeat (first | with_reducible assumption | with_reducible exact mset_self _ _ _ | refine (mset_ne (by omega)).trans ?_)) (by (try simp only [mset_1]); omega) rfl rfl (Nat.le_of_ble_eq_true rfl) ⟨Nat.le_of_ble_eq_true rfl, Nat.le_of_ble_eq_true rfl⟩ ⟨Nat.le_of_ble_eq_true rfl, Nat.le_of_ble_eq_true rfl⟩ ?_
              refine ok_X7_tellUser hi2 hr9 hB9 hJ9 hi (hZ i hi) (by omega) ?_
              refine V_callV (fr := 0) (lo := 0) (mc := 0) (ms := 0) (As := [_]) C yvX7_mix w_1138 dX7_digest_107 rfl rfl (by repeat (first | with_reducible assumption | with_reducible exact mset_self _ _ _ | refine (mset_ne (by omega)).trans ?_)) (by (try simp only [mset_1]); omega) rfl rfl (Nat.le_of_ble_eq_true rfl) ⟨Nat.le_of_ble_eq_true rfl, Nat.le_of_ble_eq_true rfl⟩ ⟨Nat.le_of_ble_eq_true rfl, Nat.le_of_ble_eq_true rfl⟩ ?_
              refine ok_X7_mix hi2 (fun M3 s3 x3 => ?_)
              refine V_iinc C dX7_digest_110 rfl (by decide) ?_
              refine V_goto C dX7_digest_113 (tgt := 94) (by decide) ?_
              refine V_lv [(0, .ref (z + 331)), (1, iv (i : Int)), (2, iv (((k9 + 1 : Nat) : Int)))] (List.forall_mem_cons.mpr ⟨(by first | rfl | exact congrArg (fun t => some (iv t)) (by push_cast; omega)), (List.forall_mem_cons.mpr ⟨(by first | rfl | exact congrArg (fun t => some (iv t)) (by push_cast; omega)), (List.forall_mem_cons.mpr ⟨(by first | rfl | exact congrArg (fun t => some (iv t)) (by push_cast; omega)), (fun _ h => nomatch h)⟩)⟩)⟩) ?_
              exact ih (k9 + 1) _ _ _ M3 (by omega) (hi1.trans (P7_331 s3)) x3 hi3.mix (by omega)
        have loopC : ∀ (n : Nat) (k9 : Nat) (u9 fr9 tl9 : Nat → Int) (M9 : Mm), (k9 ≤ 13) → (Sm M M9 P7) → (ModAt cy z M9 u9 N P A tx fr9 tl9) → (UQ u u9 (mxF (fun w : Nat => rvT S i w) k9 (mxN9 S i (31 * mxF (fun w : Nat => dvT S w) 12 (31 * 3469 + w32 (u 2)) + w32 (date (sc S 0)))))) → 13 - k9 < n → V p l e { frames := 9, cells := 0, slots := 0, locals := 197 } s m args below meth c D z 3 (MQ below (qc_ D z K) args s 0 0 (fun q => z ≤ q)) 0 0 M9 70 [(0, .ref (z + 331)), (1, iv (i : Int)), (2, iv ((k9 : Int)))] [] := by
          intro n
          induction n with
          | zero => intro k9 u9 fr9 tl9 M9 hi0 hi1 hi2 hi3 hfu; exact absurd hfu (Nat.not_lt_zero _)
          | succ n ih =>
            intro k9 u9 fr9 tl9 M9 hi0 hi1 hi2 hi3 hfu
            obtain ⟨gn9, q0, q1, q2, q3, q4, q5, q6⟩ := id hi2
            refine V_iload_n C dX7_digest_70 rfl ?_
            refine V_bipush C dX7_digest_71 (by decide) ?_
            refine V_icmp_ge C dX7_digest_73 (tgt := 92) (by decide) (by omega) (by omega) (fun g73 => ?_) (fun g73 => ?_)
            · have en : k9 = 13 := by omega
              subst en
              refine V_iconst C dX7_digest_92 ?_
              refine V_istore_n C dX7_digest_93 (by decide) ?_
              refine V_lv [(0, .ref (z + 331)), (1, iv (i : Int)), (2, iv (((0 : Nat) : Int)))] (List.forall_mem_cons.mpr ⟨(by first | rfl | exact congrArg (fun t => some (iv t)) (by omega)), (List.forall_mem_cons.mpr ⟨(by first | rfl | exact congrArg (fun t => some (iv t)) (by omega)), (List.forall_mem_cons.mpr ⟨(by first | rfl | exact congrArg (fun t => some (iv t)) (by omega)), (fun _ h => nomatch h)⟩)⟩)⟩) ?_
              exact loopD 11 0 _ _ _ M9 (by omega) hi1 hi2 hi3 (by omega)
            · refine V_aload_n C dX7_digest_76 rfl ?_
              refine V_aload_n C dX7_digest_77 rfl ?_
              refine V_iload_n C dX7_digest_78 rfl ?_
              refine V_iload_n C dX7_digest_79 rfl ?_
              refine V_callV (fr := 7) (lo := 155) (mc := 0) (ms := 0) (As := [_, _]) C yvX7_tellRight w_1019 dX7_digest_80 rfl rfl (by repeat (first | with_reducible assumption | with_reducible exact mset_self _ _ _ | refine (mset_ne (by omega)).trans ?_)) (by (try simp only [mset_1]); omega) rfl rfl (Nat.le_of_ble_eq_true rfl) ⟨Nat.le_of_ble_eq_true rfl, Nat.le_of_ble_eq_true rfl⟩ ⟨Nat.le_of_ble_eq_true rfl, Nat.le_of_ble_eq_true rfl⟩ ?_
              refine ok_X7_tellRight hi2 hr9 hB9 hJ9 hi (hZ i hi) (by omega) ?_
              refine V_callV (fr := 0) (lo := 0) (mc := 0) (ms := 0) (As := [_]) C yvX7_mix w_1138 dX7_digest_83 rfl rfl (by repeat (first | with_reducible assumption | with_reducible exact mset_self _ _ _ | refine (mset_ne (by omega)).trans ?_)) (by (try simp only [mset_1]); omega) rfl rfl (Nat.le_of_ble_eq_true rfl) ⟨Nat.le_of_ble_eq_true rfl, Nat.le_of_ble_eq_true rfl⟩ ⟨Nat.le_of_ble_eq_true rfl, Nat.le_of_ble_eq_true rfl⟩ ?_
              refine ok_X7_mix hi2 (fun M3 s3 x3 => ?_)
              refine V_iinc C dX7_digest_86 rfl (by decide) ?_
              refine V_goto C dX7_digest_89 (tgt := 70) (by decide) ?_
              refine V_lv [(0, .ref (z + 331)), (1, iv (i : Int)), (2, iv (((k9 + 1 : Nat) : Int)))] (List.forall_mem_cons.mpr ⟨(by first | rfl | exact congrArg (fun t => some (iv t)) (by push_cast; omega)), (List.forall_mem_cons.mpr ⟨(by first | rfl | exact congrArg (fun t => some (iv t)) (by push_cast; omega)), (List.forall_mem_cons.mpr ⟨(by first | rfl | exact congrArg (fun t => some (iv t)) (by push_cast; omega)), (fun _ h => nomatch h)⟩)⟩)⟩) ?_
              exact ih (k9 + 1) _ _ _ M3 (by omega) (hi1.trans (P7_331 s3)) x3 hi3.mix (by omega)
        refine V_lv [(0, .ref (z + 331)), (1, iv (i : Int)), (2, iv (((0 : Nat) : Int)))] (List.forall_mem_cons.mpr ⟨(by first | rfl | exact congrArg (fun t => some (iv t)) (by omega)), (List.forall_mem_cons.mpr ⟨(by first | rfl | exact congrArg (fun t => some (iv t)) (by omega)), (List.forall_mem_cons.mpr ⟨(by first | rfl | exact congrArg (fun t => some (iv t)) (by omega)), (fun _ h => nomatch h)⟩)⟩)⟩) ?_
        exact loopC 14 0 _ _ _ M9 (by omega) hi1 hi2 hi3 (by omega)
  have loopA : ∀ (n : Nat) (k9 : Nat) (u9 fr9 tl9 : Nat → Int) (M9 : Mm), (k9 ≤ 12) → (Sm M M9 P7) → (ModAt cy z M9 u9 N P A tx fr9 tl9) → (UQ u u9 (mxF (fun w : Nat => dvT S w) k9 (31 * 3469 + w32 (u 2)))) → 12 - k9 < n → V p l e { frames := 9, cells := 0, slots := 0, locals := 197 } s m args below meth c D z 3 (MQ below (qc_ D z K) args s 0 0 (fun q => z ≤ q)) 0 0 M9 22 [(0, .ref (z + 331)), (1, iv ((k9 : Int)))] [] := by
    intro n
    induction n with
    | zero => intro k9 u9 fr9 tl9 M9 hi0 hi1 hi2 hi3 hfu; exact absurd hfu (Nat.not_lt_zero _)
    | succ n ih =>
      intro k9 u9 fr9 tl9 M9 hi0 hi1 hi2 hi3 hfu
      obtain ⟨gn9, q0, q1, q2, q3, q4, q5, q6⟩ := id hi2
      refine V_iload_n C dX7_digest_22 rfl ?_
      refine V_bipush C dX7_digest_23 (by decide) ?_
      refine V_icmp_ge C dX7_digest_25 (tgt := 43) (by decide) (by omega) (by omega) (fun g25 => ?_) (fun g25 => ?_)
      · have en : k9 = 12 := by omega
        subst en
        refine V_aload_n C dX7_digest_43 rfl ?_
        refine V_aload_n C dX7_digest_44 rfl ?_
        refine V_get C fg_X7_7 dX7_digest_45 (by repeat (first | with_reducible assumption | with_reducible exact mset_self _ _ _ | refine (mset_ne (by omega)).trans ?_)) (by (try simp only [mset_1]); omega) (by rfl) ?_
        refine V_iconst C dX7_digest_48 ?_
        refine V_iald C dX7_digest_49 (by repeat (first | with_reducible assumption | with_reducible exact mset_self _ _ _ | refine (mset_ne (by omega)).trans ?_)) (by (try simp only [mset_1]); omega) (by omega) (by omega) (show ((0 : Int)).toNat = 0 from rfl) ?_
        rw [e0]
        refine V_callS (fr := 2) (lo := 41) (mc := 0) (ms := 0) (As := [_]) C ysX7_dateOf w_866 dX7_digest_50 rfl rfl (Nat.le_of_ble_eq_true rfl) ⟨Nat.le_of_ble_eq_true rfl, Nat.le_of_ble_eq_true rfl⟩ ⟨Nat.le_of_ble_eq_true rfl, Nat.le_of_ble_eq_true rfl⟩ ?_
        refine ok_X7_dateOf (by omega) ?_
        refine V_callV (fr := 0) (lo := 0) (mc := 0) (ms := 0) (As := [_]) C yvX7_mix w_1138 dX7_digest_53 rfl rfl (by repeat (first | with_reducible assumption | with_reducible exact mset_self _ _ _ | refine (mset_ne (by omega)).trans ?_)) (by (try simp only [mset_1]); omega) rfl rfl (Nat.le_of_ble_eq_true rfl) ⟨Nat.le_of_ble_eq_true rfl, Nat.le_of_ble_eq_true rfl⟩ ⟨Nat.le_of_ble_eq_true rfl, Nat.le_of_ble_eq_true rfl⟩ ?_
        refine ok_X7_mix hi2 (fun M3 s3 x3 => ?_)
        refine V_iconst C dX7_digest_56 ?_
        refine V_istore_n C dX7_digest_57 (by decide) ?_
        refine V_lv [(0, .ref (z + 331)), (1, iv (((0 : Nat) : Int)))] (List.forall_mem_cons.mpr ⟨(by first | rfl | exact congrArg (fun t => some (iv t)) (by omega)), (List.forall_mem_cons.mpr ⟨(by first | rfl | exact congrArg (fun t => some (iv t)) (by omega)), (fun _ h => nomatch h)⟩)⟩) ?_
        exact loopB 11 0 _ _ _ M3 (by omega) (hi1.trans (P7_331 s3)) x3 hi3.mix (by omega)
      · refine V_aload_n C dX7_digest_28 rfl ?_
        refine V_aload_n C dX7_digest_29 rfl ?_
        refine V_iload_n C dX7_digest_30 rfl ?_
        refine V_callV (fr := 8) (lo := 176) (mc := 0) (ms := 0) (As := [_]) C yvX7_tellValue w_1066 dX7_digest_31 rfl rfl (by repeat (first | with_reducible assumption | with_reducible exact mset_self _ _ _ | refine (mset_ne (by omega)).trans ?_)) (by (try simp only [mset_1]); omega) rfl rfl (Nat.le_of_ble_eq_true rfl) ⟨Nat.le_of_ble_eq_true rfl, Nat.le_of_ble_eq_true rfl⟩ ⟨Nat.le_of_ble_eq_true rfl, Nat.le_of_ble_eq_true rfl⟩ ?_
        refine ok_X7_tellValue hi2 hr9 hB9 hJ9 (by omega) ?_
        refine V_callV (fr := 0) (lo := 0) (mc := 0) (ms := 0) (As := [_]) C yvX7_mix w_1138 dX7_digest_34 rfl rfl (by repeat (first | with_reducible assumption | with_reducible exact mset_self _ _ _ | refine (mset_ne (by omega)).trans ?_)) (by (try simp only [mset_1]); omega) rfl rfl (Nat.le_of_ble_eq_true rfl) ⟨Nat.le_of_ble_eq_true rfl, Nat.le_of_ble_eq_true rfl⟩ ⟨Nat.le_of_ble_eq_true rfl, Nat.le_of_ble_eq_true rfl⟩ ?_
        refine ok_X7_mix hi2 (fun M3 s3 x3 => ?_)
        refine V_iinc C dX7_digest_37 rfl (by decide) ?_
        refine V_goto C dX7_digest_40 (tgt := 22) (by decide) ?_
        refine V_lv [(0, .ref (z + 331)), (1, iv (((k9 + 1 : Nat) : Int)))] (List.forall_mem_cons.mpr ⟨(by first | rfl | exact congrArg (fun t => some (iv t)) (by push_cast; omega)), (List.forall_mem_cons.mpr ⟨(by first | rfl | exact congrArg (fun t => some (iv t)) (by push_cast; omega)), (fun _ h => nomatch h)⟩)⟩) ?_
        exact ih (k9 + 1) _ _ _ M3 (by omega) (hi1.trans (P7_331 s3)) x3 hi3.mix (by omega)
  refine V_aload_n C dX7_digest_0 rfl ?_
  refine V_iconst C dX7_digest_1 ?_
  refine V_put C fp_X7_28 dX7_digest_2 (by repeat (first | with_reducible assumption | with_reducible exact mset_self _ _ _ | refine (mset_ne (by omega)).trans ?_)) (by (try simp only [mset_1]); omega) rfl rfl (by exact Nat.le_of_ble_eq_true rfl) ?_
  refine V_aload_n C dX7_digest_5 rfl ?_
  refine V_ldc2 (a := 3469) C w_1137 rfl dX7_digest_6 ?_
  refine V_put C fp_X7_209 dX7_digest_9 (by repeat (first | with_reducible assumption | with_reducible exact mset_self _ _ _ | refine (mset_ne (by omega)).trans ?_)) (by (try simp only [mset_1]); omega) rfl rfl (by exact Nat.le_of_ble_eq_true rfl) ?_
  refine V_memgen (fun Mb em => ?_)
  have sb : Sm M Mb (fun j => j = 331) := by rw [em]; exact (by repeat (first | exact Sm.rf _ _ | refine Sm.ts ?_ (by first | rfl | (simp; done) | (simp; omega) | (dsimp only; omega))))
  have xb : ModAt cy z Mb (va_up (va_up u 1 0) 7 3469) N P A tx fr tl := by rw [em]; exact ModAt.ref (v := va_up (va_up u 1 0) 7 3469) (ModAt.ref (v := va_up u 1 0) hM9 (Sm.set rfl) (mset_self _ _ _)) (Sm.set rfl) (mset_self _ _ _)
  clear em
  obtain ⟨hn, h0, h1, h2, h3, h4, h5, h6⟩ := id xb
  have h0 : Mb.2 331 = oX 6 [.ref (z + 332), .ref (z + 333), .ref (z + 334), iv (u 0), iv (0), .ref (z + 335), iv (u 2), .ref (z + 336), .ref (z + 337), iv (u 3), iv (u 4), iv (u 5), iv (u 6), lgv (3469)] := h0
  refine V_aload_n C dX7_digest_12 rfl ?_
  refine V_aload_n C dX7_digest_13 rfl ?_
  refine V_get C fg_X7_182 dX7_digest_14 (by repeat (first | with_reducible assumption | with_reducible exact mset_self _ _ _ | refine (mset_ne (by omega)).trans ?_)) (by (try simp only [mset_1]); omega) (by rfl) ?_
  refine V_callV (fr := 0) (lo := 0) (mc := 0) (ms := 0) (As := [_]) C yvX7_mix w_1138 dX7_digest_17 rfl rfl (by repeat (first | with_reducible assumption | with_reducible exact mset_self _ _ _ | refine (mset_ne (by omega)).trans ?_)) (by (try simp only [mset_1]); omega) rfl rfl (Nat.le_of_ble_eq_true rfl) ⟨Nat.le_of_ble_eq_true rfl, Nat.le_of_ble_eq_true rfl⟩ ⟨Nat.le_of_ble_eq_true rfl, Nat.le_of_ble_eq_true rfl⟩ ?_
  refine ok_X7_mix xb (fun M3 s3 x3 => ?_)
  refine V_iconst C dX7_digest_20 ?_
  refine V_istore_n C dX7_digest_21 (by decide) ?_
  refine V_lv [(0, .ref (z + 331)), (1, iv (((0 : Nat) : Int)))] (List.forall_mem_cons.mpr ⟨(by first | rfl | exact congrArg (fun t => some (iv t)) (by omega)), (List.forall_mem_cons.mpr ⟨(by first | rfl | exact congrArg (fun t => some (iv t)) (by omega)), (fun _ h => nomatch h)⟩)⟩) ?_
  exact loopA 13 0 _ _ _ M3 (by omega) ((P7_331 sb).trans (P7_331 s3)) x3 ⟨rfl, rfl, rfl, rfl⟩ (by omega)

