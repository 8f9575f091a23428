/-! gaps and the first that is due (X7), walked -/
def gpN (a : Nat → Nat → Int) (f0 t0 : Nat → Int) : Nat → Nat × (Nat → Int) × (Nat → Int)
  | 0 => (0, f0, t0)
  | n + 1 => if a 1 (n + 1) < a 2 (n + 1) then ((gpN a f0 t0 n).1 + 1, va_up (gpN a f0 t0 n).2.1 (gpN a f0 t0 n).1 (a 0 (n + 1)), va_up (gpN a f0 t0 n).2.2 (gpN a f0 t0 n).1 (a 2 (n + 1))) else gpN a f0 t0 n
theorem gpN_t {a : Nat → Nat → Int} {f0 t0 : Nat → Int} {n : Nat} (h : a 1 (n + 1) < a 2 (n + 1)) : gpN a f0 t0 (n + 1) = ((gpN a f0 t0 n).1 + 1, va_up (gpN a f0 t0 n).2.1 (gpN a f0 t0 n).1 (a 0 (n + 1)), va_up (gpN a f0 t0 n).2.2 (gpN a f0 t0 n).1 (a 2 (n + 1))) := by rw [gpN, if_pos h]
theorem gpN_f {a : Nat → Nat → Int} {f0 t0 : Nat → Int} {n : Nat} (h : ¬ a 1 (n + 1) < a 2 (n + 1)) : gpN a f0 t0 (n + 1) = gpN a f0 t0 n := by rw [gpN, if_neg h]
theorem gpN_le (a : Nat → Nat → Int) (f0 t0 : Nat → Int) : ∀ n, (gpN a f0 t0 n).1 ≤ n
  | 0 => Nat.le_refl 0
  | n + 1 => by
    have := gpN_le a f0 t0 n
    unfold gpN
    split
    · dsimp only; omega
    · omega
theorem gpN_rng {a : Nat → Nat → Int} {f0 t0 : Nat → Int} (h : ∀ i k, -1 ≤ a i k ∧ a i k ≤ 40000) : ∀ n k, k < (gpN a f0 t0 n).1 → (-1 ≤ (gpN a f0 t0 n).2.1 k ∧ (gpN a f0 t0 n).2.1 k ≤ 40000) ∧ -1 ≤ (gpN a f0 t0 n).2.2 k ∧ (gpN a f0 t0 n).2.2 k ≤ 40000
  | 0, _, hk => absurd hk (Nat.not_lt_zero _)
  | n + 1, k, hk => by
    by_cases o : a 1 (n + 1) < a 2 (n + 1)
    · rw [gpN_t o] at hk ⊢
      dsimp only at hk ⊢
      rcases Nat.decEq k (gpN a f0 t0 n).1 with e | e
      · rw [up_n e, up_n e]; exact gpN_rng h n k (by omega)
      · subst e; rw [up_s, up_s]; exact ⟨h 0 (n + 1), h 2 (n + 1)⟩
    · rw [gpN_f o] at hk ⊢; exact gpN_rng h n k hk
/-- whether a day is covered: before the open one, in none of the first n gaps -/
def crB (op : Int) (f t : Nat → Int) (d : Int) : Nat → Bool
  | 0 => decide (d ≤ op)
  | n + 1 => crB op f t d n && (decide (d ≤ f n) || decide (t n ≤ d))
theorem crB_congr {op d : Int} {f t f2 t2 : Nat → Int} : ∀ n, (∀ k, k < n → f k = f2 k ∧ t k = t2 k) → crB op f t d n = crB op f2 t2 d n
  | 0, _ => rfl
  | n + 1, h => by
    show (crB op f t d n && (decide (d ≤ f n) || decide (t n ≤ d))) = (crB op f2 t2 d n && (decide (d ≤ f2 n) || decide (t2 n ≤ d)))
    rw [crB_congr n (fun k hk => h k (by omega)), (h n (by omega)).1, (h n (by omega)).2]
theorem crB_gp {a : Nat → Nat → Int} {f0 t0 : Nat → Int} {op d : Int} : ∀ n, crB op (gpN a f0 t0 n).2.1 (gpN a f0 t0 n).2.2 d (gpN a f0 t0 n).1 = (decide (d ≤ op) && !payB a d n)
  | 0 => by simp [gpN, crB, payB]
  | n + 1 => by
    have ih := crB_gp (a := a) (f0 := f0) (t0 := t0) (op := op) (d := d) n
    by_cases o : a 1 (n + 1) < a 2 (n + 1)
    · rw [gpN_t o]
      show (crB op (va_up (gpN a f0 t0 n).2.1 (gpN a f0 t0 n).1 (a 0 (n + 1))) (va_up (gpN a f0 t0 n).2.2 (gpN a f0 t0 n).1 (a 2 (n + 1))) d (gpN a f0 t0 n).1 && (decide (d ≤ va_up (gpN a f0 t0 n).2.1 (gpN a f0 t0 n).1 (a 0 (n + 1)) (gpN a f0 t0 n).1) || decide (va_up (gpN a f0 t0 n).2.2 (gpN a f0 t0 n).1 (a 2 (n + 1)) (gpN a f0 t0 n).1 ≤ d))) = (decide (d ≤ op) && !(payB a d n || decide (a 1 (n + 1) < a 2 (n + 1) ∧ a 0 (n + 1) < d ∧ d < a 2 (n + 1))))
      rw [crB_congr (f2 := (gpN a f0 t0 n).2.1) (t2 := (gpN a f0 t0 n).2.2) _ (fun k hk => ⟨up_n (by omega), up_n (by omega)⟩), ih, up_s, up_s]
      have e : (decide (d ≤ a 0 (n + 1)) || decide (a 2 (n + 1) ≤ d)) = !decide (a 1 (n + 1) < a 2 (n + 1) ∧ a 0 (n + 1) < d ∧ d < a 2 (n + 1)) := by
        rw [Bool.eq_iff_iff]
        simp only [Bool.or_eq_true, decide_eq_true_eq, Bool.not_eq_true', decide_eq_false_iff_not]
        omega
      rw [e]
      cases decide (d ≤ op) <;> cases payB a d n <;> simp
    · rw [gpN_f o, ih]
      show _ = (decide (d ≤ op) && !(payB a d n || decide (a 1 (n + 1) < a 2 (n + 1) ∧ a 0 (n + 1) < d ∧ d < a 2 (n + 1))))
      rw [decide_eq_false (show ¬ (a 1 (n + 1) < a 2 (n + 1) ∧ a 0 (n + 1) < d ∧ d < a 2 (n + 1)) from fun q => o q.1)]
      simp
/-- where nothing is paid any more -/
def opT (F : Nat → Int) (a : Nat → Nat → Int) (t : Int) : Int := if lapB F a t = true then yv (a 0) (-1) (F 3 + 1) else 29219
theorem RI.gap_pay {S : SD} {t : Int} {F : Nat → Int} {a : Nat → Nat → Int} (h : RI (Hf S) t F a) (hq : sH S ≤ 6) (hF : F 3 ≤ 19) (d : Int) : gapB a d (F 3).toNat = payB a d (F 3).toNat := by
  rw [Bool.eq_iff_iff, gapB_iff, payB_iff]
  constructor
  · rintro ⟨n, h1, h2, h3⟩
    rcases h.2.2.2.2.2.2.2.1 (n + 1) (by omega) (by omega) with o | o
    · have h4 := h.1.1
      have h5 := RI.due_pos h hq (y := n + 1) (by omega) (by omega)
      omega
    · exact ⟨n, h1, by omega, h2, by omega⟩
  · rintro ⟨n, h1, h2, h3, h4⟩
    obtain ⟨k, k1, k2, k3⟩ := h.2.2.2.2.2.2.2.2.1 (n + 1) (by omega) (by omega) h2
    refine ⟨k - 1, by omega, ?_, ?_⟩
    · rw [show k - 1 + 1 = k by omega]
      rcases Nat.lt_or_ge k (n + 1) with o | o
      · have := RI.due_lt h hq (y := k) (k := n + 1) k1 (by omega) o; omega
      · rw [show k = n + 1 by omega]; exact h3
    · rw [show k - 1 + 1 = k by omega, k3]; exact h4
/-- the reference's standing of a day is the class's -/
theorem RI.cov {S : SD} {t : Int} {F : Nat → Int} {a : Nat → Nat → Int} (h : RI (Hf S) t F a) (hF : F 3 ≤ 19) {d : Int} {f0 t0 : Nat → Int} : (F 0 ≤ d ∧ d ≤ F 1) ∧ crB (opT F a t) (gpN a f0 t0 (F 3).toNat).2.1 (gpN a f0 t0 (F 3).toNat).2.2 d (gpN a f0 t0 (F 3).toNat).1 = true ↔ covR F a d t := by
  have h1 := h.1
  have h2 := (later_rng (d := F 0) (n := 240) h1.1 (by omega)).2
  have h3 := h.2.2.1
  rw [crB_gp]
  unfold covR opT
  simp only [Bool.and_eq_true, decide_eq_true_eq, Bool.not_eq_true']
  by_cases o : lapR F a t
  · rw [lapB_t o, if_pos rfl]
    constructor
    · rintro ⟨⟨a1, a2⟩, a3, a4⟩
      exact ⟨a1, a2, fun q => by have := q.2; omega, a4⟩
    · rintro ⟨a1, a2, a3, a4⟩
      exact ⟨⟨a1, a2⟩, Int.not_lt.mp (fun q => a3 ⟨o, q⟩), a4⟩
  · rw [lapB_f o, if_neg (by decide)]
    constructor
    · rintro ⟨⟨a1, a2⟩, a3, a4⟩
      exact ⟨a1, a2, fun q => o q.1, a4⟩
    · rintro ⟨a1, a2, a3, a4⟩
      exact ⟨⟨a1, a2⟩, by omega, a4⟩
theorem RI.stood_cov {S : SD} {t : Int} {F : Nat → Int} {a : Nat → Nat → Int} (h : RI (Hf S) t F a) (hq : sH S ≤ 6) (hF : F 3 ≤ 19) {d : Int} : stoodR F a d t ↔ covR F a d t := by
  unfold stoodR covR
  rw [RI.gap_pay h hq hF d]
abbrev P7 : Nat → Prop := fun j => 331 ≤ j ∧ j < 338
set_option maxHeartbeats 400000 in
set_option maxRecDepth 4000 in
theorem ok_X7_firstDue {l : Launch} {D : va_G} {cy : Nat → ClassId} {z : Nat} {M : Mm} {K : Option Value → Mm → Prop} {u N P A tx fr tl : Nat → Int} (hM : ModAt cy z M u N P A tx fr tl) {S : SD} (hRw : RowOf N S) (hB : SB S) (hJ : IS S) (hK : K (some (iv (fdS S (sN S)).1)) M) :
    MT l D cy z false yX7_firstDue (wsy yX7_firstDue cX7_firstDue 6 (some .int)) 6 133 0 0 M [.ref (z + 331)] K := by
  refine MT_of (by decide) w_1081 (Nat.le_of_ble_eq_true rfl) ?_
  intro p e s m args below meth c C hr hx0
  have hM9 := hM
  obtain ⟨gn, g0, g1, g2, g3, g4, g5, g6⟩ := id hM
  have hB9 := hB
  have hr9 := hRw
  have hJ9 := hJ
  obtain ⟨e0, e1, e2, eH, eh, e9, e10, e11, e12, e13, e14, e15, eR⟩ := id hRw
  obtain ⟨d0, d1, d2, d4, d5, d6, dH, dR⟩ := id hB
  have dT := hJ.2.1
  have loop : ∀ (n : Nat) (i : Nat), (i ≤ sN S) → 10 - i < n → V p l e { frames := 6, cells := 0, slots := 0, locals := 133 } s m args below meth c D z 6 (MQ below (qc_ D z K) args s 0 0 (fun q => z ≤ q)) 0 0 M 6 [(0, .ref (z + 331)), (1, iv (fdS S (i)).1), (2, iv (fdS S (i)).2), (3, iv ((i : Nat) : Int))] [] := by
    intro n
    induction n with
    | zero => intro i hi0 hfu; exact absurd hfu (Nat.not_lt_zero _)
    | succ n ih =>
      intro i hi0 hfu
      refine V_iload_n C dX7_firstDue_6 rfl ?_
      refine V_aload_n C dX7_firstDue_7 rfl ?_
      refine V_get C fg_X7_7 dX7_firstDue_8 (by repeat (first | with_reducible assumption | with_reducible exact mset_self _ _ _ | refine (mset_ne (by omega)).trans ?_)) (by (try simp only [mset_1]); omega) (by rfl) ?_
      refine V_iconst C dX7_firstDue_11 ?_
      refine V_iald C dX7_firstDue_12 (by repeat (first | with_reducible assumption | with_reducible exact mset_self _ _ _ | refine (mset_ne (by omega)).trans ?_)) (by (try simp only [mset_1]); omega) (by omega) (by omega) (show ((1 : Int)).toNat = 1 from rfl) ?_
      rw [e1]
      refine V_icmp_ge C dX7_firstDue_13 (tgt := 92) (by decide) (by omega) (by omega) (fun g13 => ?_) (fun g13 => ?_)
      · refine V_iload_n C dX7_firstDue_92 rfl ?_
        exact V_iret C hr dX7_firstDue_93 (K_of hK (by rw [show sN S = i by omega]))
      · have hi : i < sN S := by omega
        have rt := eR i hi
        obtain ⟨w0, w1, w2, w3, w4, w5, w6, w7⟩ := id rt
        have ri := hJ.2.2 i hi
        have hi10 : i < 10 := by omega
        have rb := dR i hi10
        obtain ⟨b0, b1, b2, b3, b4⟩ := id rb
        have ri0 := ri.1
        have ri1 := ri.2.1
        have nx := nxt_rng (F := RF S i) b3
        have yr8 := yv_rng (g := RA S i 0) (e := -1) (y := RF S i 3 + 1) (b4 0) (by omega)
        have hfr := fdS_rng hB9 i (by omega)
        refine V_aload_n C dX7_firstDue_16 rfl ?_
        refine V_iload_n C dX7_firstDue_17 rfl ?_
        refine V_callV (fr := 2) (lo := 42) (mc := 0) (ms := 0) (As := [_]) C yvX7_nextOf w_936 dX7_firstDue_18 rfl rfl (by repeat (first | with_reducible assumption | with_reducible exact mset_self _ _ _ | refine (mset_ne (by omega)).trans ?_)) (by (try simp only [mset_1]); omega) rfl rfl (Nat.le_of_ble_eq_true rfl) ⟨Nat.le_of_ble_eq_true rfl, Nat.le_of_ble_eq_true rfl⟩ ⟨Nat.le_of_ble_eq_true rfl, Nat.le_of_ble_eq_true rfl⟩ ?_
        refine ok_X7_nextOf hM9 hr9 hB9 hJ9 hi ?_
        refine V_iconst C dX7_firstDue_21 ?_
        refine V_icmp_eq C dX7_firstDue_22 (tgt := 86) (by decide) (by omega) (by omega) (fun g22 => ?_) (fun g22 => ?_)
        · refine V_iinc C dX7_firstDue_86 rfl (by decide) ?_
          refine V_goto C dX7_firstDue_89 (tgt := 6) (by decide) ?_
          refine V_lv [(0, .ref (z + 331)), (1, iv (fdS S (i + 1)).1), (2, iv (fdS S (i + 1)).2), (3, iv ((i + 1 : Nat) : Int))] (List.forall_mem_cons.mpr ⟨(by first | rfl | exact congrArg (fun t => some (iv t)) (by rw [fdS_f (S := S) (n := i) (fun o => by have o1 := o.1; omega)]) | exact congrArg (fun t => some (iv t)) (by push_cast; omega)), (List.forall_mem_cons.mpr ⟨(by first | rfl | exact congrArg (fun t => some (iv t)) (by rw [fdS_f (S := S) (n := i) (fun o => by have o1 := o.1; omega)]) | exact congrArg (fun t => some (iv t)) (by push_cast; omega)), (List.forall_mem_cons.mpr ⟨(by first | rfl | exact congrArg (fun t => some (iv t)) (by rw [fdS_f (S := S) (n := i) (fun o => by have o1 := o.1; omega)]) | exact congrArg (fun t => some (iv t)) (by push_cast; omega)), (List.forall_mem_cons.mpr ⟨(by first | rfl | exact congrArg (fun t => some (iv t)) (by rw [fdS_f (S := S) (n := i) (fun o => by have o1 := o.1; omega)]) | exact congrArg (fun t => some (iv t)) (by push_cast; omega)), (fun _ h => nomatch h)⟩)⟩)⟩)⟩) ?_
          exact ih (i + 1) (by omega) (by omega)
        · refine V_aload_n C dX7_firstDue_25 rfl ?_
          refine V_iload_n C dX7_firstDue_26 rfl ?_
          refine V_callV (fr := 5) (lo := 112) (mc := 0) (ms := 0) (As := [_]) C yvX7_isLapsed w_932 dX7_firstDue_27 rfl rfl (by repeat (first | with_reducible assumption | with_reducible exact mset_self _ _ _ | refine (mset_ne (by omega)).trans ?_)) (by (try simp only [mset_1]); omega) rfl rfl (Nat.le_of_ble_eq_true rfl) ⟨Nat.le_of_ble_eq_true rfl, Nat.le_of_ble_eq_true rfl⟩ ⟨Nat.le_of_ble_eq_true rfl, Nat.le_of_ble_eq_true rfl⟩ ?_
          refine ok_X7_isLapsed hM9 hr9 hB9 hJ9 hi (fun hl => ?_) (fun hl => ?_)
          · refine V_ifne1 C dX7_firstDue_30 (tgt := 86) (by decide) ?_
            refine V_iinc C dX7_firstDue_86 rfl (by decide) ?_
            refine V_goto C dX7_firstDue_89 (tgt := 6) (by decide) ?_
            refine V_lv [(0, .ref (z + 331)), (1, iv (fdS S (i + 1)).1), (2, iv (fdS S (i + 1)).2), (3, iv ((i + 1 : Nat) : Int))] (List.forall_mem_cons.mpr ⟨(by first | rfl | exact congrArg (fun t => some (iv t)) (by rw [fdS_f (S := S) (n := i) (fun o => by have o1 := o.2.1; rw [lapB_t hl] at o1; cases o1)]) | exact congrArg (fun t => some (iv t)) (by push_cast; omega)), (List.forall_mem_cons.mpr ⟨(by first | rfl | exact congrArg (fun t => some (iv t)) (by rw [fdS_f (S := S) (n := i) (fun o => by have o1 := o.2.1; rw [lapB_t hl] at o1; cases o1)]) | exact congrArg (fun t => some (iv t)) (by push_cast; omega)), (List.forall_mem_cons.mpr ⟨(by first | rfl | exact congrArg (fun t => some (iv t)) (by rw [fdS_f (S := S) (n := i) (fun o => by have o1 := o.2.1; rw [lapB_t hl] at o1; cases o1)]) | exact congrArg (fun t => some (iv t)) (by push_cast; omega)), (List.forall_mem_cons.mpr ⟨(by first | rfl | exact congrArg (fun t => some (iv t)) (by rw [fdS_f (S := S) (n := i) (fun o => by have o1 := o.2.1; rw [lapB_t hl] at o1; cases o1)]) | exact congrArg (fun t => some (iv t)) (by push_cast; omega)), (fun _ h => nomatch h)⟩)⟩)⟩)⟩) ?_
            exact ih (i + 1) (by omega) (by omega)
          · refine V_ifne0 C dX7_firstDue_30 (tgt := 86) (by decide) ?_
            have en : nxt (RF S i) = RF S i 3 + 1 := by omega
            refine V_aload_n C dX7_firstDue_33 rfl ?_
            refine V_iload_n C dX7_firstDue_34 rfl ?_
            refine V_aload_n C dX7_firstDue_35 rfl ?_
            refine V_iload_n C dX7_firstDue_36 rfl ?_
            refine V_callV (fr := 2) (lo := 42) (mc := 0) (ms := 0) (As := [_]) C yvX7_nextOf w_936 dX7_firstDue_37 rfl rfl (by repeat (first | with_reducible assumption | with_reducible exact mset_self _ _ _ | refine (mset_ne (by omega)).trans ?_)) (by (try simp only [mset_1]); omega) rfl rfl (Nat.le_of_ble_eq_true rfl) ⟨Nat.le_of_ble_eq_true rfl, Nat.le_of_ble_eq_true rfl⟩ ⟨Nat.le_of_ble_eq_true rfl, Nat.le_of_ble_eq_true rfl⟩ ?_
            refine ok_X7_nextOf hM9 hr9 hB9 hJ9 hi ?_
            rw [en]
            refine V_callV (fr := 4) (lo := 90) (mc := 0) (ms := 0) (As := [_, _]) C yvX7_dueOf w_960 dX7_firstDue_40 rfl rfl (by repeat (first | with_reducible assumption | with_reducible exact mset_self _ _ _ | refine (mset_ne (by omega)).trans ?_)) (by (try simp only [mset_1]); omega) rfl rfl (Nat.le_of_ble_eq_true rfl) ⟨Nat.le_of_ble_eq_true rfl, Nat.le_of_ble_eq_true rfl⟩ ⟨Nat.le_of_ble_eq_true rfl, Nat.le_of_ble_eq_true rfl⟩ ?_
            refine ok_X7_dueOf hM9 hr9 hB9 hJ9 hi (by omega) ?_
            refine V_istore C dX7_firstDue_43 (by decide) ?_
            refine V_iload_n C dX7_firstDue_45 rfl ?_
            refine V_iconst C dX7_firstDue_46 ?_
            refine V_icmp_eq C dX7_firstDue_47 (tgt := 56) (by decide) (by omega) (by omega) (fun g47 => ?_) (fun g47 => ?_)
            · refine V_iconst C dX7_firstDue_56 ?_
              refine V_goto C dX7_firstDue_57 (tgt := 61) (by decide) ?_
              refine V_istore C dX7_firstDue_61 (by decide) ?_
              refine V_iload C dX7_firstDue_63 rfl ?_
              refine V_if_eq C dX7_firstDue_65 (tgt := 72) (by decide) (by omega) (fun g65 => ?_) (fun g65 => ?_)
              · exact absurd g65 (by decide)
              · refine V_iload_n C dX7_firstDue_68 rfl ?_
                refine V_goto C dX7_firstDue_69 (tgt := 73) (by decide) ?_
                refine V_istore_n C dX7_firstDue_73 (by decide) ?_
                refine V_iload C dX7_firstDue_74 rfl ?_
                refine V_if_eq C dX7_firstDue_76 (tgt := 84) (by decide) (by omega) (fun g76 => ?_) (fun g76 => ?_)
                · exact absurd g76 (by decide)
                · refine V_iload C dX7_firstDue_79 rfl ?_
                  refine V_goto C dX7_firstDue_81 (tgt := 85) (by decide) ?_
                  refine V_istore_n C dX7_firstDue_85 (by decide) ?_
                  refine V_iinc C dX7_firstDue_86 rfl (by decide) ?_
                  refine V_goto C dX7_firstDue_89 (tgt := 6) (by decide) ?_
                  refine V_lv [(0, .ref (z + 331)), (1, iv (fdS S (i + 1)).1), (2, iv (fdS S (i + 1)).2), (3, iv ((i + 1 : Nat) : Int))] (List.forall_mem_cons.mpr ⟨(by first | rfl | exact congrArg (fun t => some (iv t)) (by rw [fdS_t (S := S) (n := i) ⟨by omega, lapB_f hl, by omega⟩]) | exact congrArg (fun t => some (iv t)) (by push_cast; omega)), (List.forall_mem_cons.mpr ⟨(by first | rfl | exact congrArg (fun t => some (iv t)) (by rw [fdS_t (S := S) (n := i) ⟨by omega, lapB_f hl, by omega⟩]) | exact congrArg (fun t => some (iv t)) (by push_cast; omega)), (List.forall_mem_cons.mpr ⟨(by first | rfl | exact congrArg (fun t => some (iv t)) (by rw [fdS_t (S := S) (n := i) ⟨by omega, lapB_f hl, by omega⟩]) | exact congrArg (fun t => some (iv t)) (by push_cast; omega)), (List.forall_mem_cons.mpr ⟨(by first | rfl | exact congrArg (fun t => some (iv t)) (by rw [fdS_t (S := S) (n := i) ⟨by omega, lapB_f hl, by omega⟩]) | exact congrArg (fun t => some (iv t)) (by push_cast; omega)), (fun _ h => nomatch h)⟩)⟩)⟩)⟩) ?_
                  exact ih (i + 1) (by omega) (by omega)
            · refine V_iload C dX7_firstDue_50 rfl ?_
              refine V_iload_n C dX7_firstDue_52 rfl ?_
              refine V_icmp_ge C dX7_firstDue_53 (tgt := 60) (by decide) (by omega) (by omega) (fun g53 => ?_) (fun g53 => ?_)
              · refine V_iconst C dX7_firstDue_60 ?_
                refine V_istore C dX7_firstDue_61 (by decide) ?_
                refine V_iload C dX7_firstDue_63 rfl ?_
                refine V_if_eq C dX7_firstDue_65 (tgt := 72) (by decide) (by omega) (fun g65 => ?_) (fun g65 => ?_)
                · refine V_iload_n C dX7_firstDue_72 rfl ?_
                  refine V_istore_n C dX7_firstDue_73 (by decide) ?_
                  refine V_iload C dX7_firstDue_74 rfl ?_
                  refine V_if_eq C dX7_firstDue_76 (tgt := 84) (by decide) (by omega) (fun g76 => ?_) (fun g76 => ?_)
                  · refine V_iload_n C dX7_firstDue_84 rfl ?_
                    refine V_istore_n C dX7_firstDue_85 (by decide) ?_
                    refine V_iinc C dX7_firstDue_86 rfl (by decide) ?_
                    refine V_goto C dX7_firstDue_89 (tgt := 6) (by decide) ?_
                    refine V_lv [(0, .ref (z + 331)), (1, iv (fdS S (i + 1)).1), (2, iv (fdS S (i + 1)).2), (3, iv ((i + 1 : Nat) : Int))] (List.forall_mem_cons.mpr ⟨(by first | rfl | exact congrArg (fun t => some (iv t)) (by rw [fdS_f (S := S) (n := i) (fun o => by have o1 := o.2.2; omega)]) | exact congrArg (fun t => some (iv t)) (by push_cast; omega)), (List.forall_mem_cons.mpr ⟨(by first | rfl | exact congrArg (fun t => some (iv t)) (by rw [fdS_f (S := S) (n := i) (fun o => by have o1 := o.2.2; omega)]) | exact congrArg (fun t => some (iv t)) (by push_cast; omega)), (List.forall_mem_cons.mpr ⟨(by first | rfl | exact congrArg (fun t => some (iv t)) (by rw [fdS_f (S := S) (n := i) (fun o => by have o1 := o.2.2; omega)]) | exact congrArg (fun t => some (iv t)) (by push_cast; omega)), (List.forall_mem_cons.mpr ⟨(by first | rfl | exact congrArg (fun t => some (iv t)) (by rw [fdS_f (S := S) (n := i) (fun o => by have o1 := o.2.2; omega)]) | exact congrArg (fun t => some (iv t)) (by push_cast; omega)), (fun _ h => nomatch h)⟩)⟩)⟩)⟩) ?_
                    exact ih (i + 1) (by omega) (by omega)
                  · exact absurd rfl g76
                · exact absurd rfl g65
              · refine V_iconst C dX7_firstDue_56 ?_
                refine V_goto C dX7_firstDue_57 (tgt := 61) (by decide) ?_
                refine V_istore C dX7_firstDue_61 (by decide) ?_
                refine V_iload C dX7_firstDue_63 rfl ?_
                refine V_if_eq C dX7_firstDue_65 (tgt := 72) (by decide) (by omega) (fun g65 => ?_) (fun g65 => ?_)
                · exact absurd g65 (by decide)
                · refine V_iload_n C dX7_firstDue_68 rfl ?_
                  refine V_goto C dX7_firstDue_69 (tgt := 73) (by decide) ?_
                  refine V_istore_n C dX7_firstDue_73 (by decide) ?_
                  refine V_iload C dX7_firstDue_74 rfl ?_
                  refine V_if_eq C dX7_firstDue_76 (tgt := 84) (by decide) (by omega) (fun g76 => ?_) (fun g76 => ?_)
                  · exact absurd g76 (by decide)
                  · refine V_iload C dX7_firstDue_79 rfl ?_
                    refine V_goto C dX7_firstDue_81 (tgt := 85) (by decide) ?_
                    refine V_istore_n C dX7_firstDue_85 (by decide) ?_
                    refine V_iinc C dX7_firstDue_86 rfl (by decide) ?_
                    refine V_goto C dX7_firstDue_89 (tgt := 6) (by decide) ?_
                    refine V_lv [(0, .ref (z + 331)), (1, iv (fdS S (i + 1)).1), (2, iv (fdS S (i + 1)).2), (3, iv ((i + 1 : Nat) : Int))] (List.forall_mem_cons.mpr ⟨(by first | rfl | exact congrArg (fun t => some (iv t)) (by rw [fdS_t (S := S) (n := i) ⟨by omega, lapB_f hl, by omega⟩]) | exact congrArg (fun t => some (iv t)) (by push_cast; omega)), (List.forall_mem_cons.mpr ⟨(by first | rfl | exact congrArg (fun t => some (iv t)) (by rw [fdS_t (S := S) (n := i) ⟨by omega, lapB_f hl, by omega⟩]) | exact congrArg (fun t => some (iv t)) (by push_cast; omega)), (List.forall_mem_cons.mpr ⟨(by first | rfl | exact congrArg (fun t => some (iv t)) (by rw [fdS_t (S := S) (n := i) ⟨by omega, lapB_f hl, by omega⟩]) | exact congrArg (fun t => some (iv t)) (by push_cast; omega)), (List.forall_mem_cons.mpr ⟨(by first | rfl | exact congrArg (fun t => some (iv t)) (by rw [fdS_t (S := S) (n := i) ⟨by omega, lapB_f hl, by omega⟩]) | exact congrArg (fun t => some (iv t)) (by push_cast; omega)), (fun _ h => nomatch h)⟩)⟩)⟩)⟩) ?_
                    exact ih (i + 1) (by omega) (by omega)
  refine V_iconst C dX7_firstDue_0 ?_
  refine V_istore_n C dX7_firstDue_1 (by decide) ?_
  refine V_iconst C dX7_firstDue_2 ?_
  refine V_istore_n C dX7_firstDue_3 (by decide) ?_
  refine V_iconst C dX7_firstDue_4 ?_
  refine V_istore_n C dX7_firstDue_5 (by decide) ?_
  refine V_lv [(0, .ref (z + 331)), (1, iv (fdS S (0)).1), (2, iv (fdS S (0)).2), (3, iv ((0 : Nat) : Int))] (List.forall_mem_cons.mpr ⟨(by first | rfl | exact congrArg (fun t => some (iv t)) (by omega)), (List.forall_mem_cons.mpr ⟨(by first | rfl | exact congrArg (fun t => some (iv t)) (by omega)), (List.forall_mem_cons.mpr ⟨(by first | rfl | exact congrArg (fun t => some (iv t)) (by omega)), (List.forall_mem_cons.mpr ⟨(by first | rfl | exact congrArg (fun t => some (iv t)) (by omega)), (fun _ h => nomatch h)⟩)⟩)⟩)⟩) ?_
  exact loop 11 0 (by omega) (by omega)

set_option maxHeartbeats 1000000 in
set_option maxRecDepth 4000 in
theorem ok_X7_laysGaps {l : Launch} {D : va_G} {cy : Nat → ClassId} {z : Nat} {M : Mm} {K : Option Value → Mm → Prop} {u N P A tx fr tl : Nat → Int} (hM : ModAt cy z M u N P A tx fr tl) {S : SD} (hRw : RowOf N S) (hB : SB S) (hJ : IS S) {i : Nat} (hi : i < sN S) (hK : ∀ M', Sm M M' P7 → ModAt cy z M' (va_up (va_up u 3 ((gpN (RA S i) fr tl (RF S i 3).toNat).1 : Int)) 4 (opT (RF S i) (RA S i) (sc S 0))) N P A tx (gpN (RA S i) fr tl (RF S i 3).toNat).2.1 (gpN (RA S i) fr tl (RF S i 3).toNat).2.2 → K none M') :
    MT l D cy z false yX7_laysGaps (wsy yX7_laysGaps cX7_laysGaps 4 none) 6 133 0 0 M [.ref (z + 331), iv (i : Int)] K := by
  refine MT_of (by decide) w_1045 (Nat.le_of_ble_eq_true rfl) ?_
  intro p e s m args below meth c C hr hx0
  have hM9 := hM
  obtain ⟨gn, g0, g1, g2, g3, g4, g5, g6⟩ := id hM
  have hB9 := hB
  have hr9 := hRw
  have hJ9 := hJ
  obtain ⟨e0, e1, e2, eH, eh, e9, e10, e11, e12, e13, e14, e15, eR⟩ := id hRw
  obtain ⟨d0, d1, d2, d4, d5, d6, dH, dR⟩ := id hB
  have dT := hJ.2.1
  have rt := eR i hi
  obtain ⟨w0, w1, w2, w3, w4, w5, w6, w7⟩ := id rt
  have ri := hJ.2.2 i hi
  have hi10 : i < 10 := by omega
  have rb := dR i hi10
  obtain ⟨b0, b1, b2, b3, b4⟩ := id rb
  have ri0 := ri.1
  have ri1 := ri.2.1
  have nx := nxt_rng (F := RF S i) b3
  have yr9 := yv_rng (g := RA S i 1) (e := -1) (y := RF S i 3 + 1) (b4 1) (by omega)
  have yr8 := yv_rng (g := RA S i 0) (e := -1) (y := RF S i 3 + 1) (b4 0) (by omega)
  have loop : ∀ (n : Nat) (n9 : Nat) (M9 : Mm), ((n9 : Int) ≤ RF S i 3) → (Sm M M9 P7) → (ModAt cy z M9 (va_up u 3 ((gpN (RA S i) fr tl n9).1 : Int)) N P A tx (gpN (RA S i) fr tl n9).2.1 (gpN (RA S i) fr tl n9).2.2) → 20 - n9 < n → V p l e { frames := 6, cells := 0, slots := 0, locals := 133 } s m args below meth c D z 4 (MQ below (qc_ D z K) args s 0 0 (fun q => z ≤ q)) 0 0 M9 7 [(0, .ref (z + 331)), (1, iv (i : Int)), (2, iv (((n9 : Nat) : Int) + 1))] [] := by
    intro n
    induction n with
    | zero => intro n9 M9 hi0 hi1 hi2 hfu; exact absurd hfu (Nat.not_lt_zero _)
    | succ n ih =>
      intro n9 M9 hi0 hi1 hi2 hfu
      obtain ⟨gn9, q0, q1, q2, q3, q4, q5, q6⟩ := id hi2
      have q0 : M9.2 331 = oX 6 [.ref (z + 332), .ref (z + 333), .ref (z + 334), iv (u 0), iv (u 1), .ref (z + 335), iv (u 2), .ref (z + 336), .ref (z + 337), iv (((gpN (RA S i) fr tl n9).1 : Int)), iv (u 4), iv (u 5), iv (u 6), lgv (u 7)] := q0
      have gle := gpN_le (RA S i) fr tl n9
      refine V_iload_n C dX7_laysGaps_7 rfl ?_
      refine V_aload_n C dX7_laysGaps_8 rfl ?_
      refine V_iload_n C dX7_laysGaps_9 rfl ?_
      refine V_iconst C dX7_laysGaps_10 ?_
      refine V_callV (fr := 1) (lo := 20) (mc := 0) (ms := 0) (As := [_, _]) C yvX7_of w_940 dX7_laysGaps_11 rfl rfl (by repeat (first | with_reducible assumption | with_reducible exact mset_self _ _ _ | refine (mset_ne (by omega)).trans ?_)) (by (try simp only [mset_1]); omega) rfl rfl (Nat.le_of_ble_eq_true rfl) ⟨Nat.le_of_ble_eq_true rfl, Nat.le_of_ble_eq_true rfl⟩ ⟨Nat.le_of_ble_eq_true rfl, Nat.le_of_ble_eq_true rfl⟩ ?_
      refine ok_X7_of hi2 (j := 16 + 35 * i + 2) (by omega) (by omega) (by omega) w2 ?_
      refine V_icmp_gt C dX7_laysGaps_14 (tgt := 80) (by decide) (by omega) (by omega) (fun g14 => ?_) (fun g14 => ?_)
      · have en9 : (RF S i 3).toNat = n9 := by omega
        refine V_aload_n C dX7_laysGaps_80 rfl ?_
        refine V_aload_n C dX7_laysGaps_81 rfl ?_
        refine V_iload_n C dX7_laysGaps_82 rfl ?_
        refine V_callV (fr := 5) (lo := 112) (mc := 0) (ms := 0) (As := [_]) C yvX7_isLapsed w_932 dX7_laysGaps_83 rfl rfl (by repeat (first | with_reducible assumption | with_reducible exact mset_self _ _ _ | refine (mset_ne (by omega)).trans ?_)) (by (try simp only [mset_1]); omega) rfl rfl (Nat.le_of_ble_eq_true rfl) ⟨Nat.le_of_ble_eq_true rfl, Nat.le_of_ble_eq_true rfl⟩ ⟨Nat.le_of_ble_eq_true rfl, Nat.le_of_ble_eq_true rfl⟩ ?_
        refine ok_X7_isLapsed hi2 hr9 hB9 hJ9 hi (fun hl => ?_) (fun hl => ?_)
        · refine V_ifeq1 C dX7_laysGaps_86 (tgt := 102) (by decide) ?_
          have en : nxt (RF S i) = RF S i 3 + 1 := by have := hl.1; omega
          have l3 := hl.1
          refine V_aload_n C dX7_laysGaps_89 rfl ?_
          refine V_iload_n C dX7_laysGaps_90 rfl ?_
          refine V_aload_n C dX7_laysGaps_91 rfl ?_
          refine V_iload_n C dX7_laysGaps_92 rfl ?_
          refine V_callV (fr := 2) (lo := 42) (mc := 0) (ms := 0) (As := [_]) C yvX7_nextOf w_936 dX7_laysGaps_93 rfl rfl (by repeat (first | with_reducible assumption | with_reducible exact mset_self _ _ _ | refine (mset_ne (by omega)).trans ?_)) (by (try simp only [mset_1]); omega) rfl rfl (Nat.le_of_ble_eq_true rfl) ⟨Nat.le_of_ble_eq_true rfl, Nat.le_of_ble_eq_true rfl⟩ ⟨Nat.le_of_ble_eq_true rfl, Nat.le_of_ble_eq_true rfl⟩ ?_
          refine ok_X7_nextOf hi2 hr9 hB9 hJ9 hi ?_
          rw [en]
          refine V_callV (fr := 4) (lo := 90) (mc := 0) (ms := 0) (As := [_, _]) C yvX7_dueOf w_960 dX7_laysGaps_96 rfl rfl (by repeat (first | with_reducible assumption | with_reducible exact mset_self _ _ _ | refine (mset_ne (by omega)).trans ?_)) (by (try simp only [mset_1]); omega) rfl rfl (Nat.le_of_ble_eq_true rfl) ⟨Nat.le_of_ble_eq_true rfl, Nat.le_of_ble_eq_true rfl⟩ ⟨Nat.le_of_ble_eq_true rfl, Nat.le_of_ble_eq_true rfl⟩ ?_
          refine ok_X7_dueOf hi2 hr9 hB9 hJ9 hi (by omega) ?_
          refine V_goto C dX7_laysGaps_99 (tgt := 107) (by decide) ?_
          refine V_put C fp_X7_151 dX7_laysGaps_107 (by repeat (first | with_reducible assumption | with_reducible exact mset_self _ _ _ | refine (mset_ne (by omega)).trans ?_)) (by (try simp only [mset_1]); omega) rfl rfl (by exact Nat.le_of_ble_eq_true rfl) ?_
          exact V_vret C hr dX7_laysGaps_110 (by rw [en9] at hK; exact hK _ (hi1.ts ⟨by omega, by omega⟩) ⟨by simp only [mset_1]; exact gn9, (mset_self _ _ _).trans (by unfold opT; rw [if_pos (lapB_t hl)]; rfl), (mset_ne (by omega)).trans q1, (mset_ne (by omega)).trans q2, (mset_ne (by omega)).trans q3, (mset_ne (by omega)).trans q4, (mset_ne (by omega)).trans q5, (mset_ne (by omega)).trans q6⟩)
        · refine V_ifeq0 C dX7_laysGaps_86 (tgt := 102) (by decide) ?_
          refine V_bipush C dX7_laysGaps_102 (by decide) ?_
          refine V_callS (fr := 1) (lo := 20) (mc := 0) (ms := 0) (As := [_]) C ysX7_lastOf w_857 dX7_laysGaps_104 rfl rfl (Nat.le_of_ble_eq_true rfl) ⟨Nat.le_of_ble_eq_true rfl, Nat.le_of_ble_eq_true rfl⟩ ⟨Nat.le_of_ble_eq_true rfl, Nat.le_of_ble_eq_true rfl⟩ ?_
          refine ok_X7_lastOf (by omega) ?_
          refine V_put C fp_X7_151 dX7_laysGaps_107 (by repeat (first | with_reducible assumption | with_reducible exact mset_self _ _ _ | refine (mset_ne (by omega)).trans ?_)) (by (try simp only [mset_1]); omega) rfl rfl (by exact Nat.le_of_ble_eq_true rfl) ?_
          exact V_vret C hr dX7_laysGaps_110 (by rw [en9] at hK; exact hK _ (hi1.ts ⟨by omega, by omega⟩) ⟨by simp only [mset_1]; exact gn9, (mset_self _ _ _).trans (by unfold opT; rw [if_neg (by rw [lapB_f hl]; decide)]; (try rw [show ny (79 + 1) - 1 = 29219 by decide]); rfl), (mset_ne (by omega)).trans q1, (mset_ne (by omega)).trans q2, (mset_ne (by omega)).trans q3, (mset_ne (by omega)).trans q4, (mset_ne (by omega)).trans q5, (mset_ne (by omega)).trans q6⟩)
      · refine V_aload_n C dX7_laysGaps_17 rfl ?_
        refine V_iload_n C dX7_laysGaps_18 rfl ?_
        refine V_bipush C dX7_laysGaps_19 (by decide) ?_
        refine V_iload_n C dX7_laysGaps_21 rfl ?_
        refine V_iadd C dX7_laysGaps_22 ?_
        refine V_iconst C dX7_laysGaps_23 ?_
        refine V_isub C dX7_laysGaps_24 ?_
        refine V_callV (fr := 1) (lo := 20) (mc := 0) (ms := 0) (As := [_, _]) C yvX7_of w_940 dX7_laysGaps_25 rfl rfl (by repeat (first | with_reducible assumption | with_reducible exact mset_self _ _ _ | refine (mset_ne (by omega)).trans ?_)) (by (try simp only [mset_1]); omega) rfl rfl (Nat.le_of_ble_eq_true rfl) ⟨Nat.le_of_ble_eq_true rfl, Nat.le_of_ble_eq_true rfl⟩ ⟨Nat.le_of_ble_eq_true rfl, Nat.le_of_ble_eq_true rfl⟩ ?_
        refine ok_X7_of hi2 (j := 16 + 35 * i + 5 + (n9 + 1)) (by omega) (by omega) (by omega) (w6 (n9 + 1) (by omega) (by omega)) ?_
        have r2 := b4 2 (n9 + 1)
        have r1 := b4 1 (n9 + 1)
        refine V_istore_n C dX7_laysGaps_28 (by decide) ?_
        refine V_iload_n C dX7_laysGaps_29 rfl ?_
        refine V_aload_n C dX7_laysGaps_30 rfl ?_
        refine V_iload_n C dX7_laysGaps_31 rfl ?_
        refine V_iload_n C dX7_laysGaps_32 rfl ?_
        refine V_callV (fr := 4) (lo := 90) (mc := 0) (ms := 0) (As := [_, _]) C yvX7_graceOf w_944 dX7_laysGaps_33 rfl rfl (by repeat (first | with_reducible assumption | with_reducible exact mset_self _ _ _ | refine (mset_ne (by omega)).trans ?_)) (by (try simp only [mset_1]); omega) rfl rfl (Nat.le_of_ble_eq_true rfl) ⟨Nat.le_of_ble_eq_true rfl, Nat.le_of_ble_eq_true rfl⟩ ⟨Nat.le_of_ble_eq_true rfl, Nat.le_of_ble_eq_true rfl⟩ ?_
        refine ok_X7_graceOf hi2 hr9 hB9 hJ9 hi (by omega) ?_
        rw [yv_nat (by omega)]
        refine V_icmp_le C dX7_laysGaps_36 (tgt := 74) (by decide) (by omega) (by omega) (fun g36 => ?_) (fun g36 => ?_)
        · refine V_iinc C dX7_laysGaps_74 rfl (by decide) ?_
          refine V_goto C dX7_laysGaps_77 (tgt := 7) (by decide) ?_
          refine V_lv [(0, .ref (z + 331)), (1, iv (i : Int)), (2, iv (((n9 + 1 : Nat) : Int) + 1))] (List.forall_mem_cons.mpr ⟨(by first | rfl | exact congrArg (fun t => some (iv t)) (by push_cast; omega)), (List.forall_mem_cons.mpr ⟨(by first | rfl | exact congrArg (fun t => some (iv t)) (by push_cast; omega)), (List.forall_mem_cons.mpr ⟨(by first | rfl | exact congrArg (fun t => some (iv t)) (by push_cast; omega)), (fun _ h => nomatch h)⟩)⟩)⟩) ?_
          have hg := gpN_f (a := RA S i) (f0 := fr) (t0 := tl) (n := n9) (by omega)
          exact ih (n9 + 1) _ (by omega) hi1 (by rw [hg]; exact hi2) (by omega)
        · refine V_aload_n C dX7_laysGaps_39 rfl ?_
          refine V_get C fg_X7_22 dX7_laysGaps_40 (by repeat (first | with_reducible assumption | with_reducible exact mset_self _ _ _ | refine (mset_ne (by omega)).trans ?_)) (by (try simp only [mset_1]); omega) (by rfl) ?_
          refine V_aload_n C dX7_laysGaps_43 rfl ?_
          refine V_get C fg_X7_148 dX7_laysGaps_44 (by repeat (first | with_reducible assumption | with_reducible exact mset_self _ _ _ | refine (mset_ne (by omega)).trans ?_)) (by (try simp only [mset_1]); omega) (by rfl) ?_
          refine V_aload_n C dX7_laysGaps_47 rfl ?_
          refine V_iload_n C dX7_laysGaps_48 rfl ?_
          refine V_iload_n C dX7_laysGaps_49 rfl ?_
          refine V_callV (fr := 4) (lo := 90) (mc := 0) (ms := 0) (As := [_, _]) C yvX7_dueOf w_960 dX7_laysGaps_50 rfl rfl (by repeat (first | with_reducible assumption | with_reducible exact mset_self _ _ _ | refine (mset_ne (by omega)).trans ?_)) (by (try simp only [mset_1]); omega) rfl rfl (Nat.le_of_ble_eq_true rfl) ⟨Nat.le_of_ble_eq_true rfl, Nat.le_of_ble_eq_true rfl⟩ ⟨Nat.le_of_ble_eq_true rfl, Nat.le_of_ble_eq_true rfl⟩ ?_
          refine ok_X7_dueOf hi2 hr9 hB9 hJ9 hi (by omega) ?_
          rw [yv_nat (by omega)]
          refine V_iast C dX7_laysGaps_53 (by repeat (first | with_reducible assumption | with_reducible exact mset_self _ _ _ | refine (mset_ne (by omega)).trans ?_)) (by (try simp only [mset_1]); omega) (by omega) (by omega) rfl ?_
          refine V_aload_n C dX7_laysGaps_54 rfl ?_
          refine V_get C fg_X7_25 dX7_laysGaps_55 (by repeat (first | with_reducible assumption | with_reducible exact mset_self _ _ _ | refine (mset_ne (by omega)).trans ?_)) (by (try simp only [mset_1]); omega) (by rfl) ?_
          refine V_aload_n C dX7_laysGaps_58 rfl ?_
          refine V_get C fg_X7_148 dX7_laysGaps_59 (by repeat (first | with_reducible assumption | with_reducible exact mset_self _ _ _ | refine (mset_ne (by omega)).trans ?_)) (by (try simp only [mset_1]); omega) (by rfl) ?_
          refine V_iload_n C dX7_laysGaps_62 rfl ?_
          refine V_iast C dX7_laysGaps_63 (by repeat (first | with_reducible assumption | with_reducible exact mset_self _ _ _ | refine (mset_ne (by omega)).trans ?_)) (by (try simp only [mset_1]); omega) (by omega) (by omega) rfl ?_
          refine V_aload_n C dX7_laysGaps_64 rfl ?_
          refine V_dup C dX7_laysGaps_65 rfl ?_
          refine V_get C fg_X7_148 dX7_laysGaps_66 (by repeat (first | with_reducible assumption | with_reducible exact mset_self _ _ _ | refine (mset_ne (by omega)).trans ?_)) (by (try simp only [mset_1]); omega) (by rfl) ?_
          refine V_iconst C dX7_laysGaps_69 ?_
          refine V_iadd C dX7_laysGaps_70 ?_
          refine V_put C fp_X7_148 dX7_laysGaps_71 (by repeat (first | with_reducible assumption | with_reducible exact mset_self _ _ _ | refine (mset_ne (by omega)).trans ?_)) (by (try simp only [mset_1]); omega) rfl rfl (by exact Nat.le_of_ble_eq_true rfl) ?_
          refine V_iinc C dX7_laysGaps_74 rfl (by decide) ?_
          refine V_goto C dX7_laysGaps_77 (tgt := 7) (by decide) ?_
          refine V_lv [(0, .ref (z + 331)), (1, iv (i : Int)), (2, iv (((n9 + 1 : Nat) : Int) + 1))] (List.forall_mem_cons.mpr ⟨(by first | rfl | exact congrArg (fun t => some (iv t)) (by push_cast; omega)), (List.forall_mem_cons.mpr ⟨(by first | rfl | exact congrArg (fun t => some (iv t)) (by push_cast; omega)), (List.forall_mem_cons.mpr ⟨(by first | rfl | exact congrArg (fun t => some (iv t)) (by push_cast; omega)), (fun _ h => nomatch h)⟩)⟩)⟩) ?_
          have hg := gpN_t (a := RA S i) (f0 := fr) (t0 := tl) (n := n9) (by omega)
          exact ih (n9 + 1) _ (by omega) (((hi1.ts ⟨by omega, by omega⟩).ts ⟨by omega, by omega⟩).ts ⟨by omega, by omega⟩) (by
            rw [hg]
            refine ⟨by simp only [mset_1]; exact gn9, (mset_self _ _ _), (mset_ne (by omega)).trans ((mset_ne (by omega)).trans ((mset_ne (by omega)).trans q1)), (mset_ne (by omega)).trans ((mset_ne (by omega)).trans ((mset_ne (by omega)).trans q2)), (mset_ne (by omega)).trans ((mset_ne (by omega)).trans ((mset_ne (by omega)).trans q3)), (mset_ne (by omega)).trans ((mset_ne (by omega)).trans ((mset_ne (by omega)).trans q4)), ?_, ?_⟩
            · exact (mset_ne (by omega)).trans ((mset_ne (by omega)).trans ((mset_self _ _ _).trans (by rw [Int.toNat_natCast])))
            · exact (mset_ne (by omega)).trans ((mset_self _ _ _).trans (by rw [Int.toNat_natCast]))) (by omega)
  refine V_aload_n C dX7_laysGaps_0 rfl ?_
  refine V_iconst C dX7_laysGaps_1 ?_
  refine V_put C fp_X7_148 dX7_laysGaps_2 (by repeat (first | with_reducible assumption | with_reducible exact mset_self _ _ _ | refine (mset_ne (by omega)).trans ?_)) (by (try simp only [mset_1]); omega) rfl rfl (by exact Nat.le_of_ble_eq_true rfl) ?_
  refine V_iconst C dX7_laysGaps_5 ?_
  refine V_istore_n C dX7_laysGaps_6 (by decide) ?_
  refine V_lv [(0, .ref (z + 331)), (1, iv (i : Int)), (2, iv (((0 : Nat) : Int) + 1))] (List.forall_mem_cons.mpr ⟨(by first | rfl | exact congrArg (fun t => some (iv t)) (by push_cast; omega)), (List.forall_mem_cons.mpr ⟨(by first | rfl | exact congrArg (fun t => some (iv t)) (by push_cast; omega)), (List.forall_mem_cons.mpr ⟨(by first | rfl | exact congrArg (fun t => some (iv t)) (by push_cast; omega)), (fun _ h => nomatch h)⟩)⟩)⟩) ?_
  exact loop 21 0 _ (by omega) (Sm.set ⟨by omega, by omega⟩) (hM9.ref (Sm.set rfl) (mset_self _ _ _)) (by omega)

set_option maxHeartbeats 400000 in
set_option maxRecDepth 4000 in
theorem ok_X7_isCovered {l : Launch} {D : va_G} {cy : Nat → ClassId} {z : Nat} {M : Mm} {K : Option Value → Mm → Prop} {u N P A tx fr tl : Nat → Int} (hM : ModAt cy z M u N P A tx fr tl) {L : Nat} (hL : u 3 = L) (hL9 : L ≤ 19) (ho9 : -1 ≤ u 4 ∧ u 4 ≤ 40000) (hrg : ∀ k, k < L → (-1 ≤ fr k ∧ fr k ≤ 40000) ∧ -1 ≤ tl k ∧ tl k ≤ 40000) {d : Int} (hd : -1 ≤ d ∧ d ≤ 100000) (hT : crB (u 4) fr tl d L = true → K (some (iv 1)) M) (hF : crB (u 4) fr tl d L = false → K (some (iv 0)) M) :
    MT l D cy z false yX7_isCovered (wsy yX7_isCovered cX7_isCovered 4 (some .boolean)) 0 0 0 0 M [.ref (z + 331), iv d] K := by
  refine MT_of (by decide) w_1049 (Nat.le_of_ble_eq_true rfl) ?_
  intro p e s m args below meth c C hr hx0
  have hM9 := hM
  obtain ⟨gn, g0, g1, g2, g3, g4, g5, g6⟩ := id hM
  have loop : ∀ (n : Nat) (k9 : Nat), (k9 ≤ L) → 19 - k9 < n → V p l e { frames := 0, cells := 0, slots := 0, locals := 0 } s m args below meth c D z 4 (MQ below (qc_ D z K) args s 0 0 (fun q => z ≤ q)) 0 0 M 16 [(0, .ref (z + 331)), (1, iv d), (2, iv ((if crB (u 4) fr tl d (k9) = true then (1 : Int) else 0))), (3, iv ((k9 : Int)))] [] := by
    intro n
    induction n with
    | zero => intro k9 hi0 hfu; exact absurd hfu (Nat.not_lt_zero _)
    | succ n ih =>
      intro k9 hi0 hfu
      rcases bool_cases (crB (u 4) fr tl d k9) with hb | hb
      · refine V_lv [(0, .ref (z + 331)), (1, iv d), (2, iv 1), (3, iv ((k9 : Int)))] (List.forall_mem_cons.mpr ⟨(by first | rfl | exact congrArg (fun t => some (iv t)) (by rw [hb]; rfl)), (List.forall_mem_cons.mpr ⟨(by first | rfl | exact congrArg (fun t => some (iv t)) (by rw [hb]; rfl)), (List.forall_mem_cons.mpr ⟨(by first | rfl | exact congrArg (fun t => some (iv t)) (by rw [hb]; rfl)), (List.forall_mem_cons.mpr ⟨(by first | rfl | exact congrArg (fun t => some (iv t)) (by rw [hb]; rfl)), (fun _ h => nomatch h)⟩)⟩)⟩)⟩) ?_
        refine V_iload_n C dX7_isCovered_16 rfl ?_
        refine V_aload_n C dX7_isCovered_17 rfl ?_
        refine V_get C fg_X7_148 dX7_isCovered_18 (by repeat (first | with_reducible assumption | with_reducible exact mset_self _ _ _ | refine (mset_ne (by omega)).trans ?_)) (by (try simp only [mset_1]); omega) (by rfl) ?_
        refine V_icmp_ge C dX7_isCovered_21 (tgt := 60) (by decide) (by omega) (by omega) (fun g21 => ?_) (fun g21 => ?_)
        · refine V_iload_n C dX7_isCovered_60 rfl ?_
          exact V_zret C hr (by omega) dX7_isCovered_61 (hT (by rw [show L = k9 by omega]; exact hb))
        · refine V_iload_n C dX7_isCovered_24 rfl ?_
          refine V_if_eq C dX7_isCovered_25 (tgt := 52) (by decide) (by omega) (fun g25 => ?_) (fun g25 => ?_)
          · exact absurd g25 (by decide)
          · have hg := hrg k9 (by omega)
            refine V_iload_n C dX7_isCovered_28 rfl ?_
            refine V_aload_n C dX7_isCovered_29 rfl ?_
            refine V_get C fg_X7_22 dX7_isCovered_30 (by repeat (first | with_reducible assumption | with_reducible exact mset_self _ _ _ | refine (mset_ne (by omega)).trans ?_)) (by (try simp only [mset_1]); omega) (by rfl) ?_
            refine V_iload_n C dX7_isCovered_33 rfl ?_
            refine V_iald C dX7_isCovered_34 (by repeat (first | with_reducible assumption | with_reducible exact mset_self _ _ _ | refine (mset_ne (by omega)).trans ?_)) (by (try simp only [mset_1]); omega) (by omega) (by omega) (by first | with_reducible exact Int.toNat_natCast _ | rfl) ?_
            refine V_icmp_le C dX7_isCovered_35 (tgt := 48) (by decide) (by omega) (by omega) (fun g35 => ?_) (fun g35 => ?_)
            · refine V_iconst C dX7_isCovered_48 ?_
              refine V_goto C dX7_isCovered_49 (tgt := 53) (by decide) ?_
              refine V_istore_n C dX7_isCovered_53 (by decide) ?_
              refine V_iinc C dX7_isCovered_54 rfl (by decide) ?_
              refine V_goto C dX7_isCovered_57 (tgt := 16) (by decide) ?_
              refine V_lv [(0, .ref (z + 331)), (1, iv d), (2, iv ((if crB (u 4) fr tl d (k9 + 1) = true then (1 : Int) else 0))), (3, iv (((k9 + 1 : Nat) : Int)))] (List.forall_mem_cons.mpr ⟨(by first | rfl | exact congrArg (fun t => some (iv t)) (by rw [if_pos (show crB (u 4) fr tl d (k9 + 1) = true by show (crB (u 4) fr tl d k9 && (decide (d ≤ fr k9) || decide (tl k9 ≤ d))) = true; rw [hb, decide_eq_true (show d ≤ fr k9 by omega)]; simp)]) | exact congrArg (fun t => some (iv t)) (by push_cast; omega)), (List.forall_mem_cons.mpr ⟨(by first | rfl | exact congrArg (fun t => some (iv t)) (by rw [if_pos (show crB (u 4) fr tl d (k9 + 1) = true by show (crB (u 4) fr tl d k9 && (decide (d ≤ fr k9) || decide (tl k9 ≤ d))) = true; rw [hb, decide_eq_true (show d ≤ fr k9 by omega)]; simp)]) | exact congrArg (fun t => some (iv t)) (by push_cast; omega)), (List.forall_mem_cons.mpr ⟨(by first | rfl | exact congrArg (fun t => some (iv t)) (by rw [if_pos (show crB (u 4) fr tl d (k9 + 1) = true by show (crB (u 4) fr tl d k9 && (decide (d ≤ fr k9) || decide (tl k9 ≤ d))) = true; rw [hb, decide_eq_true (show d ≤ fr k9 by omega)]; simp)]) | exact congrArg (fun t => some (iv t)) (by push_cast; omega)), (List.forall_mem_cons.mpr ⟨(by first | rfl | exact congrArg (fun t => some (iv t)) (by rw [if_pos (show crB (u 4) fr tl d (k9 + 1) = true by show (crB (u 4) fr tl d k9 && (decide (d ≤ fr k9) || decide (tl k9 ≤ d))) = true; rw [hb, decide_eq_true (show d ≤ fr k9 by omega)]; simp)]) | exact congrArg (fun t => some (iv t)) (by push_cast; omega)), (fun _ h => nomatch h)⟩)⟩)⟩)⟩) ?_
              exact ih (k9 + 1) (by omega) (by omega)
            · refine V_iload_n C dX7_isCovered_38 rfl ?_
              refine V_aload_n C dX7_isCovered_39 rfl ?_
              refine V_get C fg_X7_25 dX7_isCovered_40 (by repeat (first | with_reducible assumption | with_reducible exact mset_self _ _ _ | refine (mset_ne (by omega)).trans ?_)) (by (try simp only [mset_1]); omega) (by rfl) ?_
              refine V_iload_n C dX7_isCovered_43 rfl ?_
              refine V_iald C dX7_isCovered_44 (by repeat (first | with_reducible assumption | with_reducible exact mset_self _ _ _ | refine (mset_ne (by omega)).trans ?_)) (by (try simp only [mset_1]); omega) (by omega) (by omega) (by first | with_reducible exact Int.toNat_natCast _ | rfl) ?_
              refine V_icmp_lt C dX7_isCovered_45 (tgt := 52) (by decide) (by omega) (by omega) (fun g45 => ?_) (fun g45 => ?_)
              · refine V_iconst C dX7_isCovered_52 ?_
                refine V_istore_n C dX7_isCovered_53 (by decide) ?_
                refine V_iinc C dX7_isCovered_54 rfl (by decide) ?_
                refine V_goto C dX7_isCovered_57 (tgt := 16) (by decide) ?_
                refine V_lv [(0, .ref (z + 331)), (1, iv d), (2, iv ((if crB (u 4) fr tl d (k9 + 1) = true then (1 : Int) else 0))), (3, iv (((k9 + 1 : Nat) : Int)))] (List.forall_mem_cons.mpr ⟨(by first | rfl | exact congrArg (fun t => some (iv t)) (by rw [if_neg (show ¬ crB (u 4) fr tl d (k9 + 1) = true by show ¬ (crB (u 4) fr tl d k9 && (decide (d ≤ fr k9) || decide (tl k9 ≤ d))) = true; rw [hb, decide_eq_false (show ¬ d ≤ fr k9 by omega), decide_eq_false (show ¬ tl k9 ≤ d by omega)]; decide)]) | exact congrArg (fun t => some (iv t)) (by push_cast; omega)), (List.forall_mem_cons.mpr ⟨(by first | rfl | exact congrArg (fun t => some (iv t)) (by rw [if_neg (show ¬ crB (u 4) fr tl d (k9 + 1) = true by show ¬ (crB (u 4) fr tl d k9 && (decide (d ≤ fr k9) || decide (tl k9 ≤ d))) = true; rw [hb, decide_eq_false (show ¬ d ≤ fr k9 by omega), decide_eq_false (show ¬ tl k9 ≤ d by omega)]; decide)]) | exact congrArg (fun t => some (iv t)) (by push_cast; omega)), (List.forall_mem_cons.mpr ⟨(by first | rfl | exact congrArg (fun t => some (iv t)) (by rw [if_neg (show ¬ crB (u 4) fr tl d (k9 + 1) = true by show ¬ (crB (u 4) fr tl d k9 && (decide (d ≤ fr k9) || decide (tl k9 ≤ d))) = true; rw [hb, decide_eq_false (show ¬ d ≤ fr k9 by omega), decide_eq_false (show ¬ tl k9 ≤ d by omega)]; decide)]) | exact congrArg (fun t => some (iv t)) (by push_cast; omega)), (List.forall_mem_cons.mpr ⟨(by first | rfl | exact congrArg (fun t => some (iv t)) (by rw [if_neg (show ¬ crB (u 4) fr tl d (k9 + 1) = true by show ¬ (crB (u 4) fr tl d k9 && (decide (d ≤ fr k9) || decide (tl k9 ≤ d))) = true; rw [hb, decide_eq_false (show ¬ d ≤ fr k9 by omega), decide_eq_false (show ¬ tl k9 ≤ d by omega)]; decide)]) | exact congrArg (fun t => some (iv t)) (by push_cast; omega)), (fun _ h => nomatch h)⟩)⟩)⟩)⟩) ?_
                exact ih (k9 + 1) (by omega) (by omega)
              · refine V_iconst C dX7_isCovered_48 ?_
                refine V_goto C dX7_isCovered_49 (tgt := 53) (by decide) ?_
                refine V_istore_n C dX7_isCovered_53 (by decide) ?_
                refine V_iinc C dX7_isCovered_54 rfl (by decide) ?_
                refine V_goto C dX7_isCovered_57 (tgt := 16) (by decide) ?_
                refine V_lv [(0, .ref (z + 331)), (1, iv d), (2, iv ((if crB (u 4) fr tl d (k9 + 1) = true then (1 : Int) else 0))), (3, iv (((k9 + 1 : Nat) : Int)))] (List.forall_mem_cons.mpr ⟨(by first | rfl | exact congrArg (fun t => some (iv t)) (by rw [if_pos (show crB (u 4) fr tl d (k9 + 1) = true by show (crB (u 4) fr tl d k9 && (decide (d ≤ fr k9) || decide (tl k9 ≤ d))) = true; rw [hb, decide_eq_true (show tl k9 ≤ d by omega)]; simp)]) | exact congrArg (fun t => some (iv t)) (by push_cast; omega)), (List.forall_mem_cons.mpr ⟨(by first | rfl | exact congrArg (fun t => some (iv t)) (by rw [if_pos (show crB (u 4) fr tl d (k9 + 1) = true by show (crB (u 4) fr tl d k9 && (decide (d ≤ fr k9) || decide (tl k9 ≤ d))) = true; rw [hb, decide_eq_true (show tl k9 ≤ d by omega)]; simp)]) | exact congrArg (fun t => some (iv t)) (by push_cast; omega)), (List.forall_mem_cons.mpr ⟨(by first | rfl | exact congrArg (fun t => some (iv t)) (by rw [if_pos (show crB (u 4) fr tl d (k9 + 1) = true by show (crB (u 4) fr tl d k9 && (decide (d ≤ fr k9) || decide (tl k9 ≤ d))) = true; rw [hb, decide_eq_true (show tl k9 ≤ d by omega)]; simp)]) | exact congrArg (fun t => some (iv t)) (by push_cast; omega)), (List.forall_mem_cons.mpr ⟨(by first | rfl | exact congrArg (fun t => some (iv t)) (by rw [if_pos (show crB (u 4) fr tl d (k9 + 1) = true by show (crB (u 4) fr tl d k9 && (decide (d ≤ fr k9) || decide (tl k9 ≤ d))) = true; rw [hb, decide_eq_true (show tl k9 ≤ d by omega)]; simp)]) | exact congrArg (fun t => some (iv t)) (by push_cast; omega)), (fun _ h => nomatch h)⟩)⟩)⟩)⟩) ?_
                exact ih (k9 + 1) (by omega) (by omega)
      · refine V_lv [(0, .ref (z + 331)), (1, iv d), (2, iv 0), (3, iv ((k9 : Int)))] (List.forall_mem_cons.mpr ⟨(by first | rfl | exact congrArg (fun t => some (iv t)) (by rw [hb]; rfl)), (List.forall_mem_cons.mpr ⟨(by first | rfl | exact congrArg (fun t => some (iv t)) (by rw [hb]; rfl)), (List.forall_mem_cons.mpr ⟨(by first | rfl | exact congrArg (fun t => some (iv t)) (by rw [hb]; rfl)), (List.forall_mem_cons.mpr ⟨(by first | rfl | exact congrArg (fun t => some (iv t)) (by rw [hb]; rfl)), (fun _ h => nomatch h)⟩)⟩)⟩)⟩) ?_
        refine V_iload_n C dX7_isCovered_16 rfl ?_
        refine V_aload_n C dX7_isCovered_17 rfl ?_
        refine V_get C fg_X7_148 dX7_isCovered_18 (by repeat (first | with_reducible assumption | with_reducible exact mset_self _ _ _ | refine (mset_ne (by omega)).trans ?_)) (by (try simp only [mset_1]); omega) (by rfl) ?_
        refine V_icmp_ge C dX7_isCovered_21 (tgt := 60) (by decide) (by omega) (by omega) (fun g21 => ?_) (fun g21 => ?_)
        · refine V_iload_n C dX7_isCovered_60 rfl ?_
          exact V_zret C hr (by omega) dX7_isCovered_61 (hF (by rw [show L = k9 by omega]; exact hb))
        · refine V_iload_n C dX7_isCovered_24 rfl ?_
          refine V_if_eq C dX7_isCovered_25 (tgt := 52) (by decide) (by omega) (fun g25 => ?_) (fun g25 => ?_)
          · refine V_iconst C dX7_isCovered_52 ?_
            refine V_istore_n C dX7_isCovered_53 (by decide) ?_
            refine V_iinc C dX7_isCovered_54 rfl (by decide) ?_
            refine V_goto C dX7_isCovered_57 (tgt := 16) (by decide) ?_
            refine V_lv [(0, .ref (z + 331)), (1, iv d), (2, iv ((if crB (u 4) fr tl d (k9 + 1) = true then (1 : Int) else 0))), (3, iv (((k9 + 1 : Nat) : Int)))] (List.forall_mem_cons.mpr ⟨(by first | rfl | exact congrArg (fun t => some (iv t)) (by rw [if_neg (show ¬ crB (u 4) fr tl d (k9 + 1) = true by show ¬ (crB (u 4) fr tl d k9 && _) = true; rw [hb]; simp)]) | exact congrArg (fun t => some (iv t)) (by push_cast; omega)), (List.forall_mem_cons.mpr ⟨(by first | rfl | exact congrArg (fun t => some (iv t)) (by rw [if_neg (show ¬ crB (u 4) fr tl d (k9 + 1) = true by show ¬ (crB (u 4) fr tl d k9 && _) = true; rw [hb]; simp)]) | exact congrArg (fun t => some (iv t)) (by push_cast; omega)), (List.forall_mem_cons.mpr ⟨(by first | rfl | exact congrArg (fun t => some (iv t)) (by rw [if_neg (show ¬ crB (u 4) fr tl d (k9 + 1) = true by show ¬ (crB (u 4) fr tl d k9 && _) = true; rw [hb]; simp)]) | exact congrArg (fun t => some (iv t)) (by push_cast; omega)), (List.forall_mem_cons.mpr ⟨(by first | rfl | exact congrArg (fun t => some (iv t)) (by rw [if_neg (show ¬ crB (u 4) fr tl d (k9 + 1) = true by show ¬ (crB (u 4) fr tl d k9 && _) = true; rw [hb]; simp)]) | exact congrArg (fun t => some (iv t)) (by push_cast; omega)), (fun _ h => nomatch h)⟩)⟩)⟩)⟩) ?_
            exact ih (k9 + 1) (by omega) (by omega)
          · exact absurd rfl g25
  refine V_iload_n C dX7_isCovered_0 rfl ?_
  refine V_aload_n C dX7_isCovered_1 rfl ?_
  refine V_get C fg_X7_151 dX7_isCovered_2 (by repeat (first | with_reducible assumption | with_reducible exact mset_self _ _ _ | refine (mset_ne (by omega)).trans ?_)) (by (try simp only [mset_1]); omega) (by rfl) ?_
  refine V_icmp_gt C dX7_isCovered_5 (tgt := 12) (by decide) (by omega) (by omega) (fun g5 => ?_) (fun g5 => ?_)
  · refine V_iconst C dX7_isCovered_12 ?_
    refine V_istore_n C dX7_isCovered_13 (by decide) ?_
    refine V_iconst C dX7_isCovered_14 ?_
    refine V_istore_n C dX7_isCovered_15 (by decide) ?_
    refine V_lv [(0, .ref (z + 331)), (1, iv d), (2, iv ((if crB (u 4) fr tl d (0) = true then (1 : Int) else 0))), (3, iv (((0 : Nat) : Int)))] (List.forall_mem_cons.mpr ⟨(by first | rfl | exact congrArg (fun t => some (iv t)) (by show _ = if decide (d ≤ u 4) = true then (1 : Int) else 0; rw [decide_eq_false (by omega)]; rfl)), (List.forall_mem_cons.mpr ⟨(by first | rfl | exact congrArg (fun t => some (iv t)) (by show _ = if decide (d ≤ u 4) = true then (1 : Int) else 0; rw [decide_eq_false (by omega)]; rfl)), (List.forall_mem_cons.mpr ⟨(by first | rfl | exact congrArg (fun t => some (iv t)) (by show _ = if decide (d ≤ u 4) = true then (1 : Int) else 0; rw [decide_eq_false (by omega)]; rfl)), (List.forall_mem_cons.mpr ⟨(by first | rfl | exact congrArg (fun t => some (iv t)) (by show _ = if decide (d ≤ u 4) = true then (1 : Int) else 0; rw [decide_eq_false (by omega)]; rfl)), (fun _ h => nomatch h)⟩)⟩)⟩)⟩) ?_
    exact loop 20 0 (by omega) (by omega)
  · refine V_iconst C dX7_isCovered_8 ?_
    refine V_goto C dX7_isCovered_9 (tgt := 13) (by decide) ?_
    refine V_istore_n C dX7_isCovered_13 (by decide) ?_
    refine V_iconst C dX7_isCovered_14 ?_
    refine V_istore_n C dX7_isCovered_15 (by decide) ?_
    refine V_lv [(0, .ref (z + 331)), (1, iv d), (2, iv ((if crB (u 4) fr tl d (0) = true then (1 : Int) else 0))), (3, iv (((0 : Nat) : Int)))] (List.forall_mem_cons.mpr ⟨(by first | rfl | exact congrArg (fun t => some (iv t)) (by show _ = if decide (d ≤ u 4) = true then (1 : Int) else 0; rw [decide_eq_true (by omega)]; rfl)), (List.forall_mem_cons.mpr ⟨(by first | rfl | exact congrArg (fun t => some (iv t)) (by show _ = if decide (d ≤ u 4) = true then (1 : Int) else 0; rw [decide_eq_true (by omega)]; rfl)), (List.forall_mem_cons.mpr ⟨(by first | rfl | exact congrArg (fun t => some (iv t)) (by show _ = if decide (d ≤ u 4) = true then (1 : Int) else 0; rw [decide_eq_true (by omega)]; rfl)), (List.forall_mem_cons.mpr ⟨(by first | rfl | exact congrArg (fun t => some (iv t)) (by show _ = if decide (d ≤ u 4) = true then (1 : Int) else 0; rw [decide_eq_true (by omega)]; rfl)), (fun _ h => nomatch h)⟩)⟩)⟩)⟩) ?_
    exact loop 20 0 (by omega) (by omega)

set_option maxHeartbeats 400000 in
set_option maxRecDepth 4000 in
theorem ok_X7_stoodOn {l : Launch} {D : va_G} {cy : Nat → ClassId} {z : Nat} {M : Mm} {K : Option Value → Mm → Prop} {u N P A tx fr tl : Nat → Int} (hM : ModAt cy z M u N P A tx fr tl) {S : SD} (hRw : RowOf N S) (hB : SB S) (hJ : IS S) {i : Nat} (hi : i < sN S) {d : Int} (hd : -1 ≤ d ∧ d ≤ 100000) (hT : covR (RF S i) (RA S i) d (sc S 0) → ∀ M', Sm M M' P7 → ModAt cy z M' (va_up (va_up u 3 ((gpN (RA S i) fr tl (RF S i 3).toNat).1 : Int)) 4 (opT (RF S i) (RA S i) (sc S 0))) N P A tx (gpN (RA S i) fr tl (RF S i 3).toNat).2.1 (gpN (RA S i) fr tl (RF S i 3).toNat).2.2 → K (some (iv 1)) M') (hF : ¬ covR (RF S i) (RA S i) d (sc S 0) → ∀ M', Sm M M' P7 → ModAt cy z M' (va_up (va_up u 3 ((gpN (RA S i) fr tl (RF S i 3).toNat).1 : Int)) 4 (opT (RF S i) (RA S i) (sc S 0))) N P A tx (gpN (RA S i) fr tl (RF S i 3).toNat).2.1 (gpN (RA S i) fr tl (RF S i 3).toNat).2.2 → K (some (iv 0)) M') :
    MT l D cy z false yX7_stoodOn (wsy yX7_stoodOn cX7_stoodOn 3 (some .boolean)) 7 156 0 0 M [.ref (z + 331), iv (i : Int), iv d] K := by
  refine MT_of (by decide) w_1041 (Nat.le_of_ble_eq_true rfl) ?_
  intro p e s m args below meth c C hr hx0
  have hM9 := hM
  obtain ⟨gn, g0, g1, g2, g3, g4, g5, g6⟩ := id hM
  have hB9 := hB
  have hr9 := hRw
  have hJ9 := hJ
  obtain ⟨e0, e1, e2, eH, eh, e9, e10, e11, e12, e13, e14, e15, eR⟩ := id hRw
  obtain ⟨d0, d1, d2, d4, d5, d6, dH, dR⟩ := id hB
  have dT := hJ.2.1
  have rt := eR i hi
  obtain ⟨w0, w1, w2, w3, w4, w5, w6, w7⟩ := id rt
  have ri := hJ.2.2 i hi
  have hi10 : i < 10 := by omega
  have rb := dR i hi10
  obtain ⟨b0, b1, b2, b3, b4⟩ := id rb
  have ri0 := ri.1
  have ri1 := ri.2.1
  have yr8 := yv_rng (g := RA S i 0) (e := -1) (y := RF S i 3 + 1) (b4 0) (by omega)
  have opR : -1 ≤ opT (RF S i) (RA S i) (sc S 0) ∧ opT (RF S i) (RA S i) (sc S 0) ≤ 40000 := by unfold opT; split <;> omega
  have cv9 := RI.cov ri b3.2 (d := d) (f0 := fr) (t0 := tl)
  refine V_aload_n C dX7_stoodOn_0 rfl ?_
  refine V_iload_n C dX7_stoodOn_1 rfl ?_
  refine V_callV (fr := 6) (lo := 133) (mc := 0) (ms := 0) (As := [_]) C yvX7_laysGaps w_1042 dX7_stoodOn_2 rfl rfl (by repeat (first | with_reducible assumption | with_reducible exact mset_self _ _ _ | refine (mset_ne (by omega)).trans ?_)) (by (try simp only [mset_1]); omega) rfl rfl (Nat.le_of_ble_eq_true rfl) ⟨Nat.le_of_ble_eq_true rfl, Nat.le_of_ble_eq_true rfl⟩ ⟨Nat.le_of_ble_eq_true rfl, Nat.le_of_ble_eq_true rfl⟩ ?_
  refine ok_X7_laysGaps hM9 hr9 hB9 hJ9 hi (fun M1 s1 x1 => ?_)
  obtain ⟨gn1, g0, g1, g2, g3, g4, g5, g6⟩ := id x1
  refine V_iload_n C dX7_stoodOn_5 rfl ?_
  refine V_aload_n C dX7_stoodOn_6 rfl ?_
  refine V_iload_n C dX7_stoodOn_7 rfl ?_
  refine V_iconst C dX7_stoodOn_8 ?_
  refine V_callV (fr := 1) (lo := 20) (mc := 0) (ms := 0) (As := [_, _]) C yvX7_of w_940 dX7_stoodOn_9 rfl rfl (by repeat (first | with_reducible assumption | with_reducible exact mset_self _ _ _ | refine (mset_ne (by omega)).trans ?_)) (by (try simp only [mset_1]); omega) rfl rfl (Nat.le_of_ble_eq_true rfl) ⟨Nat.le_of_ble_eq_true rfl, Nat.le_of_ble_eq_true rfl⟩ ⟨Nat.le_of_ble_eq_true rfl, Nat.le_of_ble_eq_true rfl⟩ ?_
  refine ok_X7_of x1 (j := 16 + 35 * i) (by omega) (by omega) (by omega) w0 ?_
  refine V_aload_n C dX7_stoodOn_12 rfl ?_
  refine V_iload_n C dX7_stoodOn_13 rfl ?_
  refine V_callV (fr := 4) (lo := 90) (mc := 0) (ms := 0) (As := [_]) C yvX7_endOf w_992 dX7_stoodOn_14 rfl rfl (by repeat (first | with_reducible assumption | with_reducible exact mset_self _ _ _ | refine (mset_ne (by omega)).trans ?_)) (by (try simp only [mset_1]); omega) rfl rfl (Nat.le_of_ble_eq_true rfl) ⟨Nat.le_of_ble_eq_true rfl, Nat.le_of_ble_eq_true rfl⟩ ⟨Nat.le_of_ble_eq_true rfl, Nat.le_of_ble_eq_true rfl⟩ ?_
  refine ok_X7_endOf x1 hr9 hB9 hJ9 hi ?_
  refine V_callS (fr := 0) (lo := 0) (mc := 0) (ms := 0) (As := [_, _, _]) C ysX7_in w_863 dX7_stoodOn_17 rfl rfl (Nat.le_of_ble_eq_true rfl) ⟨Nat.le_of_ble_eq_true rfl, Nat.le_of_ble_eq_true rfl⟩ ⟨Nat.le_of_ble_eq_true rfl, Nat.le_of_ble_eq_true rfl⟩ ?_
  refine ok_X7_in (by omega) (by omega) (by omega) (fun hw => ?_) (fun hw => ?_)
  · refine V_ifeq1 C dX7_stoodOn_20 (tgt := 35) (by decide) ?_
    refine V_aload_n C dX7_stoodOn_23 rfl ?_
    refine V_iload_n C dX7_stoodOn_24 rfl ?_
    refine V_callV (fr := 0) (lo := 0) (mc := 0) (ms := 0) (As := [_]) C yvX7_isCovered w_1046 dX7_stoodOn_25 rfl rfl (by repeat (first | with_reducible assumption | with_reducible exact mset_self _ _ _ | refine (mset_ne (by omega)).trans ?_)) (by (try simp only [mset_1]); omega) rfl rfl (Nat.le_of_ble_eq_true rfl) ⟨Nat.le_of_ble_eq_true rfl, Nat.le_of_ble_eq_true rfl⟩ ⟨Nat.le_of_ble_eq_true rfl, Nat.le_of_ble_eq_true rfl⟩ ?_
    refine ok_X7_isCovered x1 rfl (by have := gpN_le (RA S i) fr tl (RF S i 3).toNat; omega) opR (fun k hk => gpN_rng b4 _ k hk) hd (fun hc => ?_) (fun hc => ?_)
    · refine V_ifeq1 C dX7_stoodOn_28 (tgt := 35) (by decide) ?_
      refine V_iconst C dX7_stoodOn_31 ?_
      refine V_goto C dX7_stoodOn_32 (tgt := 36) (by decide) ?_
      exact V_zret C hr (by omega) dX7_stoodOn_36 (hT (cv9.mp ⟨hw, hc⟩) _ s1 x1)
    · refine V_ifeq0 C dX7_stoodOn_28 (tgt := 35) (by decide) ?_
      refine V_iconst C dX7_stoodOn_35 ?_
      exact V_zret C hr (by omega) dX7_stoodOn_36 (hF (fun o => by have o2 := (cv9.mpr o).2; exact absurd (o2.symm.trans hc) (by decide)) _ s1 x1)
  · refine V_ifeq0 C dX7_stoodOn_20 (tgt := 35) (by decide) ?_
    refine V_iconst C dX7_stoodOn_35 ?_
    exact V_zret C hr (by omega) dX7_stoodOn_36 (hF (fun o => hw (cv9.mpr o).1) _ s1 x1)

