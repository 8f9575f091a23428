/-! fees, holidays, rights (X1, X2, X3), walked -/
section VCELL
variable {p : Program} {l : Launch} {e : Env} {R : Room} {s : State} {m : MethodId} {args : Array Value} {below : List Frame} {meth : Method} {c : Code} {D : va_G} {cy : Nat → ClassId} {z nL : Nat} {cc : ByteArray} {own : String} {Q : State → Prop} {cells slots : Nat} {M : Mm} {pc : Nat} {lv : List (Nat × Value)} {st : List Value}
theorem wW_cell {M : Mm} {k : Nat} {e' : va_E} {H : Heap} (h : ∀ q : Nat, va_at D vwCl (q, M.2 k) H → va_at D vwCl (q, e') H) (hw : wW D z M H) : wW D z (mset M k e') H := by
  refine ⟨fun i q hi => ?_, hw.2⟩
  obtain ⟨h1, rfl⟩ := wl_inv hi
  have h2 := hw.1 i _ (wl_get (z := z) (M := M) h1)
  by_cases hik : i = k
  · subst hik
    rw [mset_self]
    exact h _ h2
  · rw [mset_ne hik]
    exact h2
theorem at_I {n : Nat} {f g : Nat → Int} (hfg : ∀ j, j < n → f j = g j) {q : Nat} {H : Heap} (h : va_at D vwCl (q, aI cy n f) H) : va_at D vwCl (q, aI cy n g) H := by
  have e1 : vp_cell (cy 0) (n, .inl (fun j => Int32.ofInt (f j))) = vp_cell (cy 0) (n, .inl (fun j => Int32.ofInt (g j))) := by
    rw [vp_cell_i, vp_cell_i]
    unfold arrV
    congr 1
    apply Array.ext
    · simp
    · intro i h1 h2
      simp at h1
      simp [hfg i h1]
  show H[q]? = some _
  rw [← e1]
  exact h
/-- an array's numbers beyond its end are nobody's matter -/
theorem V_cellI {k n : Nat} {f : Nat → Int} (g : Nat → Int) (hM : M.2 k = aI cy n f) (hfg : ∀ j, j < n → f j = g j) (kk : V p l e R s m args below meth c D z nL Q cells slots (mset M k (aI cy n g)) pc lv st) : V p l e R s m args below meth c D z nL Q cells slots M pc lv st :=
  fun H locs ls hl hw hS => kk H locs ls hl (wW_cell (fun q h => at_I hfg (by rw [hM] at h; exact h)) hw) hS
theorem V_ifeq0 (C : Cx p l s m args meth c D cy z nL cc own) {off : Int} {tgt : Nat} (hd : decode cc pc = .ok (.ifCond .eq off, 3)) (ht : (pc : Int) + off = (tgt : Int)) (k : V p l e R s m args below meth c D z nL Q cells slots M tgt lv st) : V p l e R s m args below meth c D z nL Q cells slots M pc lv (iv 0 :: st) := V_if_eq C hd ht (by decide) (fun _ => k) (fun h => absurd rfl h)
theorem V_ifeq1 (C : Cx p l s m args meth c D cy z nL cc own) {off : Int} {tgt : Nat} (hd : decode cc pc = .ok (.ifCond .eq off, 3)) (ht : (pc : Int) + off = (tgt : Int)) (k : V p l e R s m args below meth c D z nL Q cells slots M (pc + 3) lv st) : V p l e R s m args below meth c D z nL Q cells slots M pc lv (iv 1 :: st) := V_if_eq C hd ht (by decide) (fun h => absurd h (by decide)) (fun _ => k)
theorem V_ifne0 (C : Cx p l s m args meth c D cy z nL cc own) {off : Int} {tgt : Nat} (hd : decode cc pc = .ok (.ifCond .ne off, 3)) (ht : (pc : Int) + off = (tgt : Int)) (k : V p l e R s m args below meth c D z nL Q cells slots M (pc + 3) lv st) : V p l e R s m args below meth c D z nL Q cells slots M pc lv (iv 0 :: st) := V_if_ne C hd ht (by decide) (fun h => absurd rfl h) (fun _ => k)
theorem V_ifne1 (C : Cx p l s m args meth c D cy z nL cc own) {off : Int} {tgt : Nat} (hd : decode cc pc = .ok (.ifCond .ne off, 3)) (ht : (pc : Int) + off = (tgt : Int)) (k : V p l e R s m args below meth c D z nL Q cells slots M tgt lv st) : V p l e R s m args below meth c D z nL Q cells slots M pc lv (iv 1 :: st) := V_if_ne C hd ht (by decide) (fun _ => k) (fun h => absurd h (by decide))
end VCELL
theorem Sm.ts {M M' : Mm} {k : Nat} {e : va_E} {P : Nat → Prop} (h : Sm M M' P) (hk : P k) : Sm M (mset M' k e) P := h.trans (Sm.set hk)
theorem yv_nat {g : Nat → Int} {e : Int} {n : Nat} (h : n + 1 < 20) : yv g e ((n : Int) + 1) = g (n + 1) := by
  unfold yv
  rw [if_pos (by omega)]
  congr 1
theorem gapB_iff {a : Nat → Nat → Int} {d : Int} : ∀ {N : Nat}, gapB a d N = true ↔ ∃ n, n < N ∧ a 0 (n + 1) < d ∧ d < a 3 (n + 1)
  | 0 => by simp [gapB]
  | N + 1 => by
    simp only [gapB, Bool.or_eq_true, decide_eq_true_eq, gapB_iff (N := N)]
    constructor
    · rintro (⟨n, h1, h2⟩ | h1)
      · exact ⟨n, by omega, h2⟩
      · exact ⟨N, by omega, h1⟩
    · rintro ⟨n, h1, h2⟩
      rcases Nat.lt_or_ge n N with q | q
      · exact Or.inl ⟨n, q, h2⟩
      · have : n = N := by omega
        subst this
        exact Or.inr h2
theorem payB_iff {a : Nat → Nat → Int} {d : Int} : ∀ {N : Nat}, payB a d N = true ↔ ∃ n, n < N ∧ a 1 (n + 1) < a 2 (n + 1) ∧ a 0 (n + 1) < d ∧ d < a 2 (n + 1)
  | 0 => by simp [payB]
  | N + 1 => by
    simp only [payB, Bool.or_eq_true, decide_eq_true_eq, payB_iff (N := N)]
    constructor
    · rintro (⟨n, h1, h2⟩ | h1)
      · exact ⟨n, by omega, h2⟩
      · exact ⟨N, by omega, h1⟩
    · rintro ⟨n, h1, h2⟩
      rcases Nat.lt_or_ge n N with q | q
      · exact Or.inl ⟨n, q, h2⟩
      · have : n = N := by omega
        subst this
        exact Or.inr h2
theorem bool_f {b : Bool} (h : ¬ b = true) : b = false := by cases b <;> simp_all
theorem cpy_0 {f g : Nat → Int} {n j : Nat} (h : j < n) : va_cpy f g (Int.toNat 0) (Int.toNat 0) n j = f j := by
  unfold va_cpy
  rw [if_pos ⟨Nat.zero_le _, by simpa using h⟩]
  simp
theorem up_s {α : Type} (f : Nat → α) (k : Nat) (v : α) : va_up f k v k = v := by simp [va_up]
theorem up_n {α : Type} {f : Nat → α} {k j : Nat} {v : α} (h : j ≠ k) : va_up f k v j = f j := by simp [va_up, h]
set_option maxHeartbeats 400000 in
set_option maxRecDepth 4000 in
theorem ok_X1_feeFor {l : Launch} {D : va_G} {cy : Nat → ClassId} {z : Nat} {M : Mm} {K : Option Value → Mm → Prop} {k : Nat} {b0 b1 b2 b3 : Int} (hk : k < M.1) (m0 : M.2 k = oX 0 [iv b0, iv b1, iv b2, iv b3]) {y w : Int} (hb : (0 ≤ b0 ∧ b0 ≤ 9999) ∧ (0 ≤ b1 ∧ b1 ≤ 999)) (hy : 0 ≤ y ∧ y ≤ 19) (hw : w = 0 ∨ w = 1) (hK : K (some (iv (feeS b0 b1 y w))) M) :
    MT l D cy z false yX1_feeFor (wsy yX1_feeFor cX1_feeFor 4 (some .int)) 0 0 0 0 M [.ref (z + k), iv y, iv w] K := by
  refine MT_of (by decide) w_269 (Nat.le_of_ble_eq_true rfl) ?_
  intro p e s m args below meth c C hr hx0
  have hm := mul_rng hb.2 hy
  refine V_aload_n C dX1_feeFor_0 rfl ?_
  refine V_get C fg_X1_7 dX1_feeFor_1 (by first | assumption | exact mset_self _ _ _ | (refine (mset_ne (by omega)).trans ?_; first | assumption | exact mset_self _ _ _ | (refine (mset_ne (by omega)).trans ?_; first | assumption | exact mset_self _ _ _ | (refine (mset_ne (by omega)).trans ?_; first | assumption | exact mset_self _ _ _)))) (by (try simp only [mset_1]); omega) (by rfl) ?_
  refine V_aload_n C dX1_feeFor_4 rfl ?_
  refine V_get C fg_X1_13 dX1_feeFor_5 (by first | assumption | exact mset_self _ _ _ | (refine (mset_ne (by omega)).trans ?_; first | assumption | exact mset_self _ _ _ | (refine (mset_ne (by omega)).trans ?_; first | assumption | exact mset_self _ _ _ | (refine (mset_ne (by omega)).trans ?_; first | assumption | exact mset_self _ _ _)))) (by (try simp only [mset_1]); omega) (by rfl) ?_
  refine V_iload_n C dX1_feeFor_8 rfl ?_
  refine V_imul C dX1_feeFor_9 ?_
  refine V_iadd C dX1_feeFor_10 ?_
  refine V_istore_n C dX1_feeFor_11 (by decide) ?_
  refine V_iload_n C dX1_feeFor_12 rfl ?_
  refine V_if_eq C dX1_feeFor_13 (tgt := 24) (by decide) (by omega) (fun g13 => ?_) (fun g13 => ?_)
  · refine V_iload_n C dX1_feeFor_24 rfl ?_
    exact V_iret C hr dX1_feeFor_25 (K_of hK (by unfold feeS; (try rw [if_pos (by omega)]); (try rw [if_neg (by omega)])))
  · refine V_iload_n C dX1_feeFor_16 rfl ?_
    refine V_iconst C dX1_feeFor_17 ?_
    refine V_iadd C dX1_feeFor_18 ?_
    refine V_iconst C dX1_feeFor_19 ?_
    refine V_idiv C dX1_feeFor_20 (by omega) (by omega) ?_
    refine V_goto C dX1_feeFor_21 (tgt := 25) (by decide) ?_
    exact V_iret C hr dX1_feeFor_25 (K_of hK (by unfold feeS; (try rw [if_pos (by omega)]); (try rw [if_neg (by omega)])))

set_option maxHeartbeats 400000 in
set_option maxRecDepth 4000 in
theorem ok_X1_surchargeOn {l : Launch} {D : va_G} {cy : Nat → ClassId} {z : Nat} {M : Mm} {K : Option Value → Mm → Prop} {k : Nat} {b0 b1 b2 b3 : Int} (hk : k < M.1) (m0 : M.2 k = oX 0 [iv b0, iv b1, iv b2, iv b3]) {f : Int} (hb : 0 ≤ b2 ∧ b2 ≤ 100) (hf : 0 ≤ f ∧ f ≤ 100000) (hK : K (some (iv (surS b2 f))) M) :
    MT l D cy z false yX1_surchargeOn (wsy yX1_surchargeOn cX1_surchargeOn 2 (some .int)) 0 0 0 0 M [.ref (z + k), iv f] K := by
  refine MT_of (by decide) w_277 (Nat.le_of_ble_eq_true rfl) ?_
  intro p e s m args below meth c C hr hx0
  have hm := mul_rng hb hf
  refine V_aload_n C dX1_surchargeOn_0 rfl ?_
  refine V_get C fg_X1_16 dX1_surchargeOn_1 (by first | assumption | exact mset_self _ _ _ | (refine (mset_ne (by omega)).trans ?_; first | assumption | exact mset_self _ _ _ | (refine (mset_ne (by omega)).trans ?_; first | assumption | exact mset_self _ _ _ | (refine (mset_ne (by omega)).trans ?_; first | assumption | exact mset_self _ _ _)))) (by (try simp only [mset_1]); omega) (by rfl) ?_
  refine V_iload_n C dX1_surchargeOn_4 rfl ?_
  refine V_imul C dX1_surchargeOn_5 ?_
  refine V_bipush C dX1_surchargeOn_6 (by decide) ?_
  refine V_idiv C dX1_surchargeOn_8 (by omega) (by omega) ?_
  exact V_iret C hr dX1_surchargeOn_9 hK

set_option maxHeartbeats 400000 in
set_option maxRecDepth 4000 in
theorem ok_X1_set {l : Launch} {D : va_G} {cy : Nat → ClassId} {z : Nat} {M : Mm} {K : Option Value → Mm → Prop} {k : Nat} {b0 b1 b2 b3 : Int} (hk : k < M.1) (m0 : M.2 k = oX 0 [iv b0, iv b1, iv b2, iv b3]) {n0 n1 n2 n3 : Int} (hK : (∀ M', Sm M M' (fun j => j = k) → M'.2 k = oX 0 [iv n0, iv n1, iv n2, iv n3] → K none M')) :
    MT l D cy z false yX1_set (wsy yX1_set cX1_set 5 none) 0 0 0 0 M [.ref (z + k), iv n0, iv n1, iv n2, iv n3] K := by
  refine MT_of (by decide) w_227 (Nat.le_of_ble_eq_true rfl) ?_
  intro p e s m args below meth c C hr hx0
  refine V_aload_n C dX1_set_0 rfl ?_
  refine V_iload_n C dX1_set_1 rfl ?_
  refine V_put C fp_X1_7 dX1_set_2 (by first | assumption | exact mset_self _ _ _ | (refine (mset_ne (by omega)).trans ?_; first | assumption | exact mset_self _ _ _ | (refine (mset_ne (by omega)).trans ?_; first | assumption | exact mset_self _ _ _ | (refine (mset_ne (by omega)).trans ?_; first | assumption | exact mset_self _ _ _)))) (by (try simp only [mset_1]); omega) rfl rfl (by exact Nat.le_of_ble_eq_true rfl) ?_
  refine V_aload_n C dX1_set_5 rfl ?_
  refine V_iload_n C dX1_set_6 rfl ?_
  refine V_put C fp_X1_13 dX1_set_7 (by first | assumption | exact mset_self _ _ _ | (refine (mset_ne (by omega)).trans ?_; first | assumption | exact mset_self _ _ _ | (refine (mset_ne (by omega)).trans ?_; first | assumption | exact mset_self _ _ _ | (refine (mset_ne (by omega)).trans ?_; first | assumption | exact mset_self _ _ _)))) (by (try simp only [mset_1]); omega) rfl rfl (by exact Nat.le_of_ble_eq_true rfl) ?_
  refine V_aload_n C dX1_set_10 rfl ?_
  refine V_iload_n C dX1_set_11 rfl ?_
  refine V_put C fp_X1_16 dX1_set_12 (by first | assumption | exact mset_self _ _ _ | (refine (mset_ne (by omega)).trans ?_; first | assumption | exact mset_self _ _ _ | (refine (mset_ne (by omega)).trans ?_; first | assumption | exact mset_self _ _ _ | (refine (mset_ne (by omega)).trans ?_; first | assumption | exact mset_self _ _ _)))) (by (try simp only [mset_1]); omega) rfl rfl (by exact Nat.le_of_ble_eq_true rfl) ?_
  refine V_aload_n C dX1_set_15 rfl ?_
  refine V_iload C dX1_set_16 rfl ?_
  refine V_put C fp_X1_19 dX1_set_18 (by first | assumption | exact mset_self _ _ _ | (refine (mset_ne (by omega)).trans ?_; first | assumption | exact mset_self _ _ _ | (refine (mset_ne (by omega)).trans ?_; first | assumption | exact mset_self _ _ _ | (refine (mset_ne (by omega)).trans ?_; first | assumption | exact mset_self _ _ _)))) (by (try simp only [mset_1]); omega) rfl rfl (by exact Nat.le_of_ble_eq_true rfl) ?_
  exact V_vret C hr dX1_set_21 (hK _ (by repeat (first | exact Sm.rf _ _ | refine Sm.ts ?_ (by first | rfl | (simp; done) | (simp; omega) | (dsimp only; omega)))) (mset_self _ _ _))

set_option maxHeartbeats 400000 in
set_option maxRecDepth 4000 in
theorem ok_X1_copyFrom {l : Launch} {D : va_G} {cy : Nat → ClassId} {z : Nat} {M : Mm} {K : Option Value → Mm → Prop} {k : Nat} {b0 b1 b2 b3 : Int} (hk : k < M.1) (m0 : M.2 k = oX 0 [iv b0, iv b1, iv b2, iv b3]) {k2 : Nat} {n0 n1 n2 n3 : Int} (hk2 : k2 < M.1) (m1 : M.2 k2 = oX 0 [iv n0, iv n1, iv n2, iv n3]) (hK : (∀ M', Sm M M' (fun j => j = k) → M'.2 k = oX 0 [iv n0, iv n1, iv n2, iv n3] → K none M')) :
    MT l D cy z false yX1_copyFrom (wsy yX1_copyFrom cX1_copyFrom 2 none) 1 24 0 0 M [.ref (z + k), .ref (z + k2)] K := by
  refine MT_of (by decide) w_223 (Nat.le_of_ble_eq_true rfl) ?_
  intro p e s m args below meth c C hr hx0
  refine V_aload_n C dX1_copyFrom_0 rfl ?_
  refine V_aload_n C dX1_copyFrom_1 rfl ?_
  refine V_get C fg_X1_7 dX1_copyFrom_2 (by first | assumption | exact mset_self _ _ _ | (refine (mset_ne (by omega)).trans ?_; first | assumption | exact mset_self _ _ _ | (refine (mset_ne (by omega)).trans ?_; first | assumption | exact mset_self _ _ _ | (refine (mset_ne (by omega)).trans ?_; first | assumption | exact mset_self _ _ _)))) (by (try simp only [mset_1]); omega) (by rfl) ?_
  refine V_aload_n C dX1_copyFrom_5 rfl ?_
  refine V_get C fg_X1_13 dX1_copyFrom_6 (by first | assumption | exact mset_self _ _ _ | (refine (mset_ne (by omega)).trans ?_; first | assumption | exact mset_self _ _ _ | (refine (mset_ne (by omega)).trans ?_; first | assumption | exact mset_self _ _ _ | (refine (mset_ne (by omega)).trans ?_; first | assumption | exact mset_self _ _ _)))) (by (try simp only [mset_1]); omega) (by rfl) ?_
  refine V_aload_n C dX1_copyFrom_9 rfl ?_
  refine V_get C fg_X1_16 dX1_copyFrom_10 (by first | assumption | exact mset_self _ _ _ | (refine (mset_ne (by omega)).trans ?_; first | assumption | exact mset_self _ _ _ | (refine (mset_ne (by omega)).trans ?_; first | assumption | exact mset_self _ _ _ | (refine (mset_ne (by omega)).trans ?_; first | assumption | exact mset_self _ _ _)))) (by (try simp only [mset_1]); omega) (by rfl) ?_
  refine V_aload_n C dX1_copyFrom_13 rfl ?_
  refine V_get C fg_X1_19 dX1_copyFrom_14 (by first | assumption | exact mset_self _ _ _ | (refine (mset_ne (by omega)).trans ?_; first | assumption | exact mset_self _ _ _ | (refine (mset_ne (by omega)).trans ?_; first | assumption | exact mset_self _ _ _ | (refine (mset_ne (by omega)).trans ?_; first | assumption | exact mset_self _ _ _)))) (by (try simp only [mset_1]); omega) (by rfl) ?_
  refine V_callV (fr := 0) (lo := 0) (mc := 0) (ms := 0) (As := [_, _, _, _]) C yvX1_set w_224 dX1_copyFrom_17 rfl rfl (by first | assumption | exact mset_self _ _ _ | (refine (mset_ne (by omega)).trans ?_; first | assumption | exact mset_self _ _ _ | (refine (mset_ne (by omega)).trans ?_; first | assumption | exact mset_self _ _ _ | (refine (mset_ne (by omega)).trans ?_; first | assumption | exact mset_self _ _ _)))) (by (try simp only [mset_1]); omega) rfl rfl (Nat.le_of_ble_eq_true rfl) ⟨Nat.le_of_ble_eq_true rfl, Nat.le_of_ble_eq_true rfl⟩ ⟨Nat.le_of_ble_eq_true rfl, Nat.le_of_ble_eq_true rfl⟩ ?_
  refine ok_X1_set hk m0 (fun M1 hs1 hm1 => ?_)
  exact V_vret C hr dX1_copyFrom_20 (hK _ hs1 hm1)

set_option maxHeartbeats 400000 in
set_option maxRecDepth 4000 in
theorem ok_X2_find {l : Launch} {D : va_G} {cy : Nat → ClassId} {z : Nat} {M : Mm} {K : Option Value → Mm → Prop} {k q : Nat} {h : Nat → Int} (hH : HolAt cy z M k q h) (hq : q ≤ 6) (hv : ∀ i, -1 ≤ h i ∧ h i ≤ 40000) {v : Int} (hv9 : -2147483648 ≤ v ∧ v < 2147483648) (hT : ∀ i : Nat, i < q → h i = v → (∀ j, j < i → ¬ h j = v) → K (some (iv i)) M) (hF : (∀ j, j < q → ¬ h j = v) → K (some (iv (-1))) M) :
    MT l D cy z false yX2_find (wsy yX2_find cX2_find 3 (some .int)) 0 0 0 0 M [.ref (z + k), iv v] K := by
  refine MT_of (by decide) w_373 (Nat.le_of_ble_eq_true rfl) ?_
  intro p e s m args below meth c C hr hx0
  obtain ⟨hn, m0, m1⟩ := hH
  have loop : ∀ (n : Nat) (i : Nat), (i ≤ q) → (∀ j, j < i → ¬ h j = v) → q - i < n → V p l e { frames := 0, cells := 0, slots := 0, locals := 0 } s m args below meth c D z 3 (MQ below (qc_ D z K) args s 0 0 (fun q => z ≤ q)) 0 0 M 2 [(0, .ref (z + k)), (1, iv v), (2, iv ((i : Int)))] [] := by
    intro n
    induction n with
    | zero => intro i hi0 hi1 hfu; exact absurd hfu (Nat.not_lt_zero _)
    | succ n ih =>
      intro i hi0 hi1 hfu
      have hvi := hv i
      refine V_iload_n C dX2_find_2 rfl ?_
      refine V_aload_n C dX2_find_3 rfl ?_
      refine V_get C fg_X2_15 dX2_find_4 (by first | assumption | exact mset_self _ _ _ | (refine (mset_ne (by omega)).trans ?_; first | assumption | exact mset_self _ _ _ | (refine (mset_ne (by omega)).trans ?_; first | assumption | exact mset_self _ _ _ | (refine (mset_ne (by omega)).trans ?_; first | assumption | exact mset_self _ _ _)))) (by (try simp only [mset_1]); omega) (by rfl) ?_
      refine V_icmp_ge C dX2_find_7 (tgt := 37) (by decide) (by omega) (by omega) (fun g7 => ?_) (fun g7 => ?_)
      · refine V_iconst C dX2_find_37 ?_
        exact V_iret C hr dX2_find_38 (hF (by rw [show q = i by omega]; exact hi1))
      · refine V_iload_n C dX2_find_10 rfl ?_
        refine V_aload_n C dX2_find_11 rfl ?_
        refine V_get C fg_X2_9 dX2_find_12 (by first | assumption | exact mset_self _ _ _ | (refine (mset_ne (by omega)).trans ?_; first | assumption | exact mset_self _ _ _ | (refine (mset_ne (by omega)).trans ?_; first | assumption | exact mset_self _ _ _ | (refine (mset_ne (by omega)).trans ?_; first | assumption | exact mset_self _ _ _)))) (by (try simp only [mset_1]); omega) (by rfl) ?_
        refine V_alenI C dX2_find_15 (by first | assumption | exact mset_self _ _ _ | (refine (mset_ne (by omega)).trans ?_; first | assumption | exact mset_self _ _ _ | (refine (mset_ne (by omega)).trans ?_; first | assumption | exact mset_self _ _ _ | (refine (mset_ne (by omega)).trans ?_; first | assumption | exact mset_self _ _ _)))) (by (try simp only [mset_1]); omega) ?_
        refine V_icmp_ge C dX2_find_16 (tgt := 37) (by decide) (by omega) (by omega) (fun g16 => ?_) (fun g16 => ?_)
        · exact absurd g16 (by omega)
        · refine V_aload_n C dX2_find_19 rfl ?_
          refine V_get C fg_X2_9 dX2_find_20 (by first | assumption | exact mset_self _ _ _ | (refine (mset_ne (by omega)).trans ?_; first | assumption | exact mset_self _ _ _ | (refine (mset_ne (by omega)).trans ?_; first | assumption | exact mset_self _ _ _ | (refine (mset_ne (by omega)).trans ?_; first | assumption | exact mset_self _ _ _)))) (by (try simp only [mset_1]); omega) (by rfl) ?_
          refine V_iload_n C dX2_find_23 rfl ?_
          refine V_iald C dX2_find_24 (by first | assumption | exact mset_self _ _ _ | (refine (mset_ne (by omega)).trans ?_; first | assumption | exact mset_self _ _ _ | (refine (mset_ne (by omega)).trans ?_; first | assumption | exact mset_self _ _ _ | (refine (mset_ne (by omega)).trans ?_; first | assumption | exact mset_self _ _ _)))) (by (try simp only [mset_1]); omega) (by omega) (by omega) (by first | exact Int.toNat_natCast _ | rfl) ?_
          refine V_iload_n C dX2_find_25 rfl ?_
          refine V_icmp_ne C dX2_find_26 (tgt := 31) (by decide) (by omega) (by omega) (fun g26 => ?_) (fun g26 => ?_)
          · refine V_iinc C dX2_find_31 rfl (by decide) ?_
            refine V_goto C dX2_find_34 (tgt := 2) (by decide) ?_
            refine V_lv [(0, .ref (z + k)), (1, iv v), (2, iv (((i + 1 : Nat) : Int)))] (List.forall_mem_cons.mpr ⟨(by first | rfl | exact congrArg (fun t => some (iv t)) (by omega)), (List.forall_mem_cons.mpr ⟨(by first | rfl | exact congrArg (fun t => some (iv t)) (by omega)), (List.forall_mem_cons.mpr ⟨(by first | rfl | exact congrArg (fun t => some (iv t)) (by omega)), (fun _ h => nomatch h)⟩)⟩)⟩) ?_
            exact ih (i + 1) (by omega) (fun j hj => (Nat.lt_or_ge j i).elim (hi1 j) (fun o => by rw [show j = i by omega]; exact g26)) (by omega)
          · refine V_iload_n C dX2_find_29 rfl ?_
            exact V_iret C hr dX2_find_30 (hT i (by omega) g26 hi1)
  refine V_iconst C dX2_find_0 ?_
  refine V_istore_n C dX2_find_1 (by decide) ?_
  refine V_lv [(0, .ref (z + k)), (1, iv v), (2, iv (((0 : Nat) : Int)))] (List.forall_mem_cons.mpr ⟨(by first | rfl | exact congrArg (fun t => some (iv t)) (by omega)), (List.forall_mem_cons.mpr ⟨(by first | rfl | exact congrArg (fun t => some (iv t)) (by omega)), (List.forall_mem_cons.mpr ⟨(by first | rfl | exact congrArg (fun t => some (iv t)) (by omega)), (fun _ h => nomatch h)⟩)⟩)⟩) ?_
  exact loop 7 0 (by omega) (fun j hj => absurd hj (Nat.not_lt_zero j)) (by omega)

set_option maxHeartbeats 400000 in
set_option maxRecDepth 4000 in
theorem ok_X2_isHoliday {l : Launch} {D : va_G} {cy : Nat → ClassId} {z : Nat} {M : Mm} {K : Option Value → Mm → Prop} {k q : Nat} {h : Nat → Int} (hH : HolAt cy z M k q h) (hq : q ≤ 6) (hv : ∀ i, -1 ≤ h i ∧ h i ≤ 40000) {d : Int} (hd : 0 ≤ d ∧ d < 36500) (hT : hset h q (date d % 10000) = true → K (some (iv 1)) M) (hF : hset h q (date d % 10000) = false → K (some (iv 0)) M) :
    MT l D cy z false yX2_isHoliday (wsy yX2_isHoliday cX2_isHoliday 2 (some .boolean)) 2 45 0 0 M [.ref (z + k), iv d] K := by
  refine MT_of (by decide) w_368 (Nat.le_of_ble_eq_true rfl) ?_
  intro p e s m args below meth c C hr hx0
  obtain ⟨hn, m0, m1⟩ := hH
  refine V_aload_n C dX2_isHoliday_0 rfl ?_
  refine V_iload_n C dX2_isHoliday_1 rfl ?_
  have hrg := date_rng hd
  refine V_callS (fr := 1) (lo := 22) (mc := 0) (ms := 0) (As := [_]) C ysX0_dateOf w_369 dX2_isHoliday_2 rfl rfl (Nat.le_of_ble_eq_true rfl) ⟨Nat.le_of_ble_eq_true rfl, Nat.le_of_ble_eq_true rfl⟩ ⟨Nat.le_of_ble_eq_true rfl, Nat.le_of_ble_eq_true rfl⟩ ?_
  refine ok_X0_dateOf hd ?_
  refine V_sipush C dX2_isHoliday_5 (by decide) ?_
  refine V_irem C dX2_isHoliday_8 (by omega) (by omega) ?_
  refine V_callV (fr := 0) (lo := 0) (mc := 0) (ms := 0) (As := [_]) C yvX2_find w_370 dX2_isHoliday_9 rfl rfl (by first | assumption | exact mset_self _ _ _ | (refine (mset_ne (by omega)).trans ?_; first | assumption | exact mset_self _ _ _ | (refine (mset_ne (by omega)).trans ?_; first | assumption | exact mset_self _ _ _ | (refine (mset_ne (by omega)).trans ?_; first | assumption | exact mset_self _ _ _)))) (by (try simp only [mset_1]); omega) rfl rfl (Nat.le_of_ble_eq_true rfl) ⟨Nat.le_of_ble_eq_true rfl, Nat.le_of_ble_eq_true rfl⟩ ⟨Nat.le_of_ble_eq_true rfl, Nat.le_of_ble_eq_true rfl⟩ ?_
  refine ok_X2_find ⟨hn, m0, m1⟩ hq hv (by omega) (fun i hi hiv hmin => ?_) (fun hno => ?_)
  · refine V_iconst C dX2_isHoliday_12 ?_
    refine V_icmp_eq C dX2_isHoliday_13 (tgt := 20) (by decide) (by omega) (by omega) (fun g13 => ?_) (fun g13 => ?_)
    · exact absurd g13 (by omega)
    · refine V_iconst C dX2_isHoliday_16 ?_
      refine V_goto C dX2_isHoliday_17 (tgt := 21) (by decide) ?_
      exact V_zret C hr (by omega) dX2_isHoliday_21 (hT (hset_iff.mpr ⟨i, hi, hiv⟩))
  · refine V_iconst C dX2_isHoliday_12 ?_
    refine V_icmp_eq C dX2_isHoliday_13 (tgt := 20) (by decide) (by omega) (by omega) (fun g13 => ?_) (fun g13 => ?_)
    · refine V_iconst C dX2_isHoliday_20 ?_
      exact V_zret C hr (by omega) dX2_isHoliday_21 (hF (bool_f fun o => by obtain ⟨j, h1, h2⟩ := hset_iff.mp o; exact hno j h1 h2))
    · exact absurd rfl g13

