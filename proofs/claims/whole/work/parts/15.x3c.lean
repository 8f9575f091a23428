/-! filling, starting and copying of rights -/
set_option maxHeartbeats 400000 in
set_option maxRecDepth 4000 in
theorem ok_J7_fill {l : Launch} {D : va_G} {cy : Nat → ClassId} {z : Nat} {M : Mm} {K : Option Value → Mm → Prop} {k n0 : Nat} {h : Nat → Int} {v : Int} (hk : k < M.1) (m0 : M.2 k = aI cy n0 h) (hn : n0 < 1000) (hK : ∀ M', Sm M M' (fun j => j = k) → M'.2 k = aI cy n0 (fun _ => v) → K none M') :
    MT l D cy z false yJ7_fill_53178 (wsy yJ7_fill_53178 cJ7_fill_53178 4 none) 0 0 0 0 M [.ref (z + k), iv v] K := by
  refine MT_of (by decide) w_376 (Nat.le_of_ble_eq_true rfl) ?_
  intro p e s m args below meth c C hr hx0
  have loop : ∀ (n : Nat) (i : Nat) (M9 : Mm) (h9 : Nat → Int), (i ≤ n0) → (Sm M M9 (fun j => j = k)) → (M9.2 k = aI cy n0 h9) → (∀ j, j < i → h9 j = v) → n0 - i < n → V p l e { frames := 0, cells := 0, slots := 0, locals := 0 } s m args below meth c D z 4 (MQ below (qc_ D z K) args s 0 0 (fun q => z ≤ q)) 0 0 M9 5 [(0, .ref (z + k)), (1, iv v), (2, iv ((i : Int))), (3, iv ((n0 : Nat) : Int))] [] := by
    intro n
    induction n with
    | zero => intro i M9 h9 hi0 hi1 hi2 hi3 hfu; exact absurd hfu (Nat.not_lt_zero _)
    | succ n ih =>
      intro i M9 h9 hi0 hi1 hi2 hi3 hfu
      have hk9 : k < M9.1 := by rw [hi1.1]; exact hk
      refine V_iload_n C dJ7_fill_53178_5 rfl ?_
      refine V_iload_n C dJ7_fill_53178_6 rfl ?_
      refine V_icmp_ge C dJ7_fill_53178_7 (tgt := 20) (by decide) (by omega) (by omega) (fun g7 => ?_) (fun g7 => ?_)
      · refine V_cellI (fun _ => v) hi2 (fun j hj => hi3 j (by omega)) ?_
        exact V_vret C hr dJ7_fill_53178_20 (hK _ (hi1.ts rfl) (mset_self _ _ _))
      · refine V_aload_n C dJ7_fill_53178_10 rfl ?_
        refine V_iload_n C dJ7_fill_53178_11 rfl ?_
        refine V_iload_n C dJ7_fill_53178_12 rfl ?_
        refine V_iast C dJ7_fill_53178_13 (by repeat (first | with_reducible assumption | with_reducible exact mset_self _ _ _ | refine (mset_ne (by omega)).trans ?_)) (by (try simp only [mset_1]); omega) (by omega) (by omega) (by first | with_reducible exact Int.toNat_natCast _ | rfl) ?_
        refine V_iinc C dJ7_fill_53178_14 rfl (by decide) ?_
        refine V_goto C dJ7_fill_53178_17 (tgt := 5) (by decide) ?_
        refine V_lv [(0, .ref (z + k)), (1, iv v), (2, iv (((i + 1 : Nat) : Int))), (3, iv ((n0 : Nat) : Int))] (List.forall_mem_cons.mpr ⟨(by first | rfl | exact congrArg (fun t => some (iv t)) (by omega)), (List.forall_mem_cons.mpr ⟨(by first | rfl | exact congrArg (fun t => some (iv t)) (by omega)), (List.forall_mem_cons.mpr ⟨(by first | rfl | exact congrArg (fun t => some (iv t)) (by omega)), (List.forall_mem_cons.mpr ⟨(by first | rfl | exact congrArg (fun t => some (iv t)) (by omega)), (fun _ h => nomatch h)⟩)⟩)⟩)⟩) ?_
        exact ih (i + 1) _ _ (by omega) (hi1.ts rfl) (mset_self _ _ _) (fun j hj => by rcases Nat.lt_or_ge j i with o | o <;> first | (rw [up_n (by omega)]; exact hi3 j o) | (rw [show j = i by omega]; exact up_s _ _ _)) (by omega)
  refine V_iconst C dJ7_fill_53178_0 ?_
  refine V_istore_n C dJ7_fill_53178_1 (by decide) ?_
  refine V_aload_n C dJ7_fill_53178_2 rfl ?_
  refine V_alenI C dJ7_fill_53178_3 (by repeat (first | with_reducible assumption | with_reducible exact mset_self _ _ _ | refine (mset_ne (by omega)).trans ?_)) (by (try simp only [mset_1]); omega) ?_
  refine V_istore_n C dJ7_fill_53178_4 (by decide) ?_
  refine V_lv [(0, .ref (z + k)), (1, iv v), (2, iv (((0 : Nat) : Int))), (3, iv ((n0 : Nat) : Int))] (List.forall_mem_cons.mpr ⟨(by first | rfl | exact congrArg (fun t => some (iv t)) (by omega)), (List.forall_mem_cons.mpr ⟨(by first | rfl | exact congrArg (fun t => some (iv t)) (by omega)), (List.forall_mem_cons.mpr ⟨(by first | rfl | exact congrArg (fun t => some (iv t)) (by omega)), (List.forall_mem_cons.mpr ⟨(by first | rfl | exact congrArg (fun t => some (iv t)) (by omega)), (fun _ h => nomatch h)⟩)⟩)⟩)⟩) ?_
  exact loop (n0 + 1) 0 M h (by omega) (Sm.rf _ _) m0 (fun j hj => absurd hj (Nat.not_lt_zero j)) (by omega)

set_option maxHeartbeats 1000000 in
set_option maxRecDepth 4000 in
theorem ok_X3_copyFrom {l : Launch} {D : va_G} {cy : Nat → ClassId} {z : Nat} {M : Mm} {K : Option Value → Mm → Prop} {r : Nat} {F : Nat → Int} {a : Nat → Nat → Int} (hR : RightAt cy z M r F a) {r2 : Nat} {F2 : Nat → Int} {a2 : Nat → Nat → Int} (hR2 : RightAt cy z M r2 F2 a2) (hd : r + 6 ≤ r2 ∨ r2 + 6 ≤ r) (hw2 : F2 2 = 0 ∨ F2 2 = 1) (hK : ∀ M', Sm M M' (fun j => r ≤ j ∧ j < r + 6) → RightAt cy z M' r F2 a2 → K none M') :
    MT l D cy z false yX3_copyFrom (wsy yX3_copyFrom cX3_copyFrom 2 none) 1 26 0 0 M [.ref (z + r), .ref (z + r2)] K := by
  refine MT_of (by decide) w_231 (Nat.le_of_ble_eq_true rfl) ?_
  intro p e s m args below meth c C hr hx0
  obtain ⟨hn, m0, m1, m2, m3, m4, m5⟩ := hR
  obtain ⟨hn2, u0, u1, u2, u3, u4, u5⟩ := hR2
  refine V_aload_n C dX3_copyFrom_0 rfl ?_
  refine V_aload_n C dX3_copyFrom_1 rfl ?_
  refine V_get C fg_X3_9 dX3_copyFrom_2 (by repeat (first | with_reducible assumption | with_reducible exact mset_self _ _ _ | refine (mset_ne (by omega)).trans ?_)) (by (try simp only [mset_1]); omega) (by rfl) ?_
  refine V_put C fp_X3_9 dX3_copyFrom_5 (by repeat (first | with_reducible assumption | with_reducible exact mset_self _ _ _ | refine (mset_ne (by omega)).trans ?_)) (by (try simp only [mset_1]); omega) rfl rfl (by exact Nat.le_of_ble_eq_true rfl) ?_
  refine V_aload_n C dX3_copyFrom_8 rfl ?_
  refine V_aload_n C dX3_copyFrom_9 rfl ?_
  refine V_get C fg_X3_15 dX3_copyFrom_10 (by repeat (first | with_reducible assumption | with_reducible exact mset_self _ _ _ | refine (mset_ne (by omega)).trans ?_)) (by (try simp only [mset_1]); omega) (by rfl) ?_
  refine V_put C fp_X3_15 dX3_copyFrom_13 (by repeat (first | with_reducible assumption | with_reducible exact mset_self _ _ _ | refine (mset_ne (by omega)).trans ?_)) (by (try simp only [mset_1]); omega) rfl rfl (by exact Nat.le_of_ble_eq_true rfl) ?_
  refine V_aload_n C dX3_copyFrom_16 rfl ?_
  refine V_aload_n C dX3_copyFrom_17 rfl ?_
  refine V_get C fg_X3_18 dX3_copyFrom_18 (by repeat (first | with_reducible assumption | with_reducible exact mset_self _ _ _ | refine (mset_ne (by omega)).trans ?_)) (by (try simp only [mset_1]); omega) (by rfl) ?_
  refine V_put C fp_X3_18 dX3_copyFrom_21 (by repeat (first | with_reducible assumption | with_reducible exact mset_self _ _ _ | refine (mset_ne (by omega)).trans ?_)) (by (try simp only [mset_1]); omega) (by rcases hw2 with o | o <;> rw [o] <;> rfl) (by rcases hw2 with o | o <;> rw [o] <;> rfl) (by exact Nat.le_of_ble_eq_true rfl) ?_
  refine V_aload_n C dX3_copyFrom_24 rfl ?_
  refine V_aload_n C dX3_copyFrom_25 rfl ?_
  refine V_get C fg_X3_22 dX3_copyFrom_26 (by repeat (first | with_reducible assumption | with_reducible exact mset_self _ _ _ | refine (mset_ne (by omega)).trans ?_)) (by (try simp only [mset_1]); omega) (by rfl) ?_
  refine V_put C fp_X3_22 dX3_copyFrom_29 (by repeat (first | with_reducible assumption | with_reducible exact mset_self _ _ _ | refine (mset_ne (by omega)).trans ?_)) (by (try simp only [mset_1]); omega) rfl rfl (by exact Nat.le_of_ble_eq_true rfl) ?_
  refine V_aload_n C dX3_copyFrom_32 rfl ?_
  refine V_aload_n C dX3_copyFrom_33 rfl ?_
  refine V_get C fg_X3_25 dX3_copyFrom_34 (by repeat (first | with_reducible assumption | with_reducible exact mset_self _ _ _ | refine (mset_ne (by omega)).trans ?_)) (by (try simp only [mset_1]); omega) (by rfl) ?_
  refine V_put C fp_X3_25 dX3_copyFrom_37 (by repeat (first | with_reducible assumption | with_reducible exact mset_self _ _ _ | refine (mset_ne (by omega)).trans ?_)) (by (try simp only [mset_1]); omega) rfl rfl (by exact Nat.le_of_ble_eq_true rfl) ?_
  refine V_aload_n C dX3_copyFrom_40 rfl ?_
  refine V_aload_n C dX3_copyFrom_41 rfl ?_
  refine V_get C fg_X3_28 dX3_copyFrom_42 (by repeat (first | with_reducible assumption | with_reducible exact mset_self _ _ _ | refine (mset_ne (by omega)).trans ?_)) (by (try simp only [mset_1]); omega) (by rfl) ?_
  refine V_put C fp_X3_28 dX3_copyFrom_45 (by repeat (first | with_reducible assumption | with_reducible exact mset_self _ _ _ | refine (mset_ne (by omega)).trans ?_)) (by (try simp only [mset_1]); omega) rfl rfl (by exact Nat.le_of_ble_eq_true rfl) ?_
  refine V_memgen (fun Ma ea => ?_)
  have xa : Ma.2 r = oX 2 [iv (F2 0), iv (F2 1), iv (F2 2), iv (F2 3), iv (F2 4), iv (F2 5), .ref (z + (r + 1)), .ref (z + (r + 2)), .ref (z + (r + 3)), .ref (z + (r + 4)), .ref (z + (r + 5))] := by rw [ea]; exact mset_self _ _ _
  have sa : Sm M Ma (fun j => j = r) := by rw [ea]; exact (by repeat (first | exact Sm.rf _ _ | refine Sm.ts ?_ (by first | rfl | (simp; done) | (simp; omega) | (dsimp only; omega))))
  have sb : Sm M Ma (fun j => r ≤ j ∧ j < r + 6) := sa.mono (fun j hj => by subst hj; exact ⟨by omega, by omega⟩)
  have na : Ma.1 = M.1 := sa.1
  have v0 : Ma.2 r2 = _ := (sa.2 r2 (by omega)).trans u0
  have v1 : Ma.2 (r2 + 1) = _ := (sa.2 _ (by omega)).trans u1
  have v2 : Ma.2 (r2 + 2) = _ := (sa.2 _ (by omega)).trans u2
  have v3 : Ma.2 (r2 + 3) = _ := (sa.2 _ (by omega)).trans u3
  have v4 : Ma.2 (r2 + 4) = _ := (sa.2 _ (by omega)).trans u4
  have v5 : Ma.2 (r2 + 5) = _ := (sa.2 _ (by omega)).trans u5
  have w1 : Ma.2 (r + 1) = _ := (sa.2 _ (by omega)).trans m1
  have w2 : Ma.2 (r + 2) = _ := (sa.2 _ (by omega)).trans m2
  have w3 : Ma.2 (r + 3) = _ := (sa.2 _ (by omega)).trans m3
  have w4 : Ma.2 (r + 4) = _ := (sa.2 _ (by omega)).trans m4
  have w5 : Ma.2 (r + 5) = _ := (sa.2 _ (by omega)).trans m5
  clear ea m0 m1 m2 m3 m4 m5 u0 u1 u2 u3 u4 u5
  refine V_aload_n C dX3_copyFrom_48 rfl ?_
  refine V_get C fg_X3_31 dX3_copyFrom_49 (by repeat (first | with_reducible assumption | with_reducible exact mset_self _ _ _ | refine (mset_ne (by omega)).trans ?_)) (by (try simp only [mset_1]); omega) (by rfl) ?_
  refine V_iconst C dX3_copyFrom_52 ?_
  refine V_aload_n C dX3_copyFrom_53 rfl ?_
  refine V_get C fg_X3_31 dX3_copyFrom_54 (by repeat (first | with_reducible assumption | with_reducible exact mset_self _ _ _ | refine (mset_ne (by omega)).trans ?_)) (by (try simp only [mset_1]); omega) (by rfl) ?_
  refine V_iconst C dX3_copyFrom_57 ?_
  refine V_bipush C dX3_copyFrom_58 (by decide) ?_
  refine V_copy C w_232 w_219 w_218 w_15 dX3_copyFrom_60 (by repeat (first | with_reducible assumption | with_reducible exact mset_self _ _ _ | refine (mset_ne (by omega)).trans ?_)) (by (try simp only [mset_1]); omega) (by repeat (first | with_reducible assumption | with_reducible exact mset_self _ _ _ | refine (mset_ne (by omega)).trans ?_)) (by (try simp only [mset_1]); omega) (by omega) (by omega) (by omega) (by omega) ⟨Nat.le_of_ble_eq_true rfl, Nat.le_of_ble_eq_true rfl⟩ ?_
  refine V_cellI (a2 0) (mset_self _ _ _) (fun j hj => cpy_0 hj) ?_
  refine V_aload_n C dX3_copyFrom_63 rfl ?_
  refine V_get C fg_X3_35 dX3_copyFrom_64 (by repeat (first | with_reducible assumption | with_reducible exact mset_self _ _ _ | refine (mset_ne (by omega)).trans ?_)) (by (try simp only [mset_1]); omega) (by rfl) ?_
  refine V_iconst C dX3_copyFrom_67 ?_
  refine V_aload_n C dX3_copyFrom_68 rfl ?_
  refine V_get C fg_X3_35 dX3_copyFrom_69 (by repeat (first | with_reducible assumption | with_reducible exact mset_self _ _ _ | refine (mset_ne (by omega)).trans ?_)) (by (try simp only [mset_1]); omega) (by rfl) ?_
  refine V_iconst C dX3_copyFrom_72 ?_
  refine V_bipush C dX3_copyFrom_73 (by decide) ?_
  refine V_copy C w_232 w_219 w_218 w_15 dX3_copyFrom_75 (by repeat (first | with_reducible assumption | with_reducible exact mset_self _ _ _ | refine (mset_ne (by omega)).trans ?_)) (by (try simp only [mset_1]); omega) (by repeat (first | with_reducible assumption | with_reducible exact mset_self _ _ _ | refine (mset_ne (by omega)).trans ?_)) (by (try simp only [mset_1]); omega) (by omega) (by omega) (by omega) (by omega) ⟨Nat.le_of_ble_eq_true rfl, Nat.le_of_ble_eq_true rfl⟩ ?_
  refine V_cellI (a2 1) (mset_self _ _ _) (fun j hj => cpy_0 hj) ?_
  refine V_aload_n C dX3_copyFrom_78 rfl ?_
  refine V_get C fg_X3_38 dX3_copyFrom_79 (by repeat (first | with_reducible assumption | with_reducible exact mset_self _ _ _ | refine (mset_ne (by omega)).trans ?_)) (by (try simp only [mset_1]); omega) (by rfl) ?_
  refine V_iconst C dX3_copyFrom_82 ?_
  refine V_aload_n C dX3_copyFrom_83 rfl ?_
  refine V_get C fg_X3_38 dX3_copyFrom_84 (by repeat (first | with_reducible assumption | with_reducible exact mset_self _ _ _ | refine (mset_ne (by omega)).trans ?_)) (by (try simp only [mset_1]); omega) (by rfl) ?_
  refine V_iconst C dX3_copyFrom_87 ?_
  refine V_bipush C dX3_copyFrom_88 (by decide) ?_
  refine V_copy C w_232 w_219 w_218 w_15 dX3_copyFrom_90 (by repeat (first | with_reducible assumption | with_reducible exact mset_self _ _ _ | refine (mset_ne (by omega)).trans ?_)) (by (try simp only [mset_1]); omega) (by repeat (first | with_reducible assumption | with_reducible exact mset_self _ _ _ | refine (mset_ne (by omega)).trans ?_)) (by (try simp only [mset_1]); omega) (by omega) (by omega) (by omega) (by omega) ⟨Nat.le_of_ble_eq_true rfl, Nat.le_of_ble_eq_true rfl⟩ ?_
  refine V_cellI (a2 2) (mset_self _ _ _) (fun j hj => cpy_0 hj) ?_
  refine V_aload_n C dX3_copyFrom_93 rfl ?_
  refine V_get C fg_X3_41 dX3_copyFrom_94 (by repeat (first | with_reducible assumption | with_reducible exact mset_self _ _ _ | refine (mset_ne (by omega)).trans ?_)) (by (try simp only [mset_1]); omega) (by rfl) ?_
  refine V_iconst C dX3_copyFrom_97 ?_
  refine V_aload_n C dX3_copyFrom_98 rfl ?_
  refine V_get C fg_X3_41 dX3_copyFrom_99 (by repeat (first | with_reducible assumption | with_reducible exact mset_self _ _ _ | refine (mset_ne (by omega)).trans ?_)) (by (try simp only [mset_1]); omega) (by rfl) ?_
  refine V_iconst C dX3_copyFrom_102 ?_
  refine V_bipush C dX3_copyFrom_103 (by decide) ?_
  refine V_copy C w_232 w_219 w_218 w_15 dX3_copyFrom_105 (by repeat (first | with_reducible assumption | with_reducible exact mset_self _ _ _ | refine (mset_ne (by omega)).trans ?_)) (by (try simp only [mset_1]); omega) (by repeat (first | with_reducible assumption | with_reducible exact mset_self _ _ _ | refine (mset_ne (by omega)).trans ?_)) (by (try simp only [mset_1]); omega) (by omega) (by omega) (by omega) (by omega) ⟨Nat.le_of_ble_eq_true rfl, Nat.le_of_ble_eq_true rfl⟩ ?_
  refine V_cellI (a2 3) (mset_self _ _ _) (fun j hj => cpy_0 hj) ?_
  refine V_aload_n C dX3_copyFrom_108 rfl ?_
  refine V_get C fg_X3_44 dX3_copyFrom_109 (by repeat (first | with_reducible assumption | with_reducible exact mset_self _ _ _ | refine (mset_ne (by omega)).trans ?_)) (by (try simp only [mset_1]); omega) (by rfl) ?_
  refine V_iconst C dX3_copyFrom_112 ?_
  refine V_aload_n C dX3_copyFrom_113 rfl ?_
  refine V_get C fg_X3_44 dX3_copyFrom_114 (by repeat (first | with_reducible assumption | with_reducible exact mset_self _ _ _ | refine (mset_ne (by omega)).trans ?_)) (by (try simp only [mset_1]); omega) (by rfl) ?_
  refine V_iconst C dX3_copyFrom_117 ?_
  refine V_bipush C dX3_copyFrom_118 (by decide) ?_
  refine V_copy C w_232 w_219 w_218 w_15 dX3_copyFrom_120 (by repeat (first | with_reducible assumption | with_reducible exact mset_self _ _ _ | refine (mset_ne (by omega)).trans ?_)) (by (try simp only [mset_1]); omega) (by repeat (first | with_reducible assumption | with_reducible exact mset_self _ _ _ | refine (mset_ne (by omega)).trans ?_)) (by (try simp only [mset_1]); omega) (by omega) (by omega) (by omega) (by omega) ⟨Nat.le_of_ble_eq_true rfl, Nat.le_of_ble_eq_true rfl⟩ ?_
  refine V_cellI (a2 4) (mset_self _ _ _) (fun j hj => cpy_0 hj) ?_
  exact V_vret C hr dX3_copyFrom_123 (hK _ (by repeat (first | with_reducible exact sb | refine Sm.ts ?_ ⟨by omega, by omega⟩)) ⟨by simp only [mset_1]; rw [na]; exact hn, (by repeat (first | with_reducible assumption | with_reducible exact mset_self _ _ _ | refine (mset_ne (by omega)).trans ?_)), (by repeat (first | with_reducible assumption | with_reducible exact mset_self _ _ _ | refine (mset_ne (by omega)).trans ?_)), (by repeat (first | with_reducible assumption | with_reducible exact mset_self _ _ _ | refine (mset_ne (by omega)).trans ?_)), (by repeat (first | with_reducible assumption | with_reducible exact mset_self _ _ _ | refine (mset_ne (by omega)).trans ?_)), (by repeat (first | with_reducible assumption | with_reducible exact mset_self _ _ _ | refine (mset_ne (by omega)).trans ?_)), (by repeat (first | with_reducible assumption | with_reducible exact mset_self _ _ _ | refine (mset_ne (by omega)).trans ?_))⟩)

/-- what a right is that was filed on day d: its numbers and its rows (what no year has stays) -/
def stF (F : Nat → Int) (d w : Int) : Nat → Int := fun j => if j = 0 then d else if j = 1 then later d 240 - 1 else if j = 2 then w else if j = 3 then 0 else if j = 4 then 0 else if j = 5 then 0 else F j
def stDue (H : Int → Bool) (d : Int) (g : Nat → Int) : Nat → Int := fun j => if 1 ≤ j ∧ j < 20 then pf H (later d (12 * j)) else g j
def stGr (H : Int → Bool) (d : Int) (g : Nat → Int) : Nat → Int := fun j => if 1 ≤ j ∧ j < 20 then pf H (later d (12 * j + 6)) else g j
def stA (H : Int → Bool) (d : Int) (a : Nat → Nat → Int) : Nat → Nat → Int := fun i => if i = 0 then stDue H d (a 0) else if i = 1 then stGr H d (a 1) else if i = 2 then (fun _ => 0) else if i = 3 then (fun _ => 0) else if i = 4 then (fun _ => -1) else a i
theorem upd_st {u : Nat → Int} {n9 : Nat} {f g : Nat → Int} (h : ∀ j, j < 20 → u j = if 1 ≤ j ∧ j ≤ n9 then f j else g j) {v : Int} (hv : v = f (n9 + 1)) (j : Nat) (hj : j < 20) : va_up u (n9 + 1) v j = if 1 ≤ j ∧ j ≤ n9 + 1 then f j else g j := by
  by_cases o : j = n9 + 1
  · subst o; rw [up_s, if_pos ⟨by omega, by omega⟩]; exact hv
  · rw [up_n o, h j hj]
    by_cases o2 : 1 ≤ j ∧ j ≤ n9
    · rw [if_pos o2, if_pos ⟨o2.1, by omega⟩]
    · rw [if_neg o2, if_neg (by omega)]
theorem later_rng {d n : Int} (hd : 0 ≤ d) (hn : 0 ≤ n) : 0 ≤ later d n ∧ later d n ≤ d + 366 * ((n + 11) / 12 + 1) := by
  obtain ⟨h1, h2, h3⟩ := yr_spec hd
  have h4 := mm_rng d
  have h5 := dd_31 hd
  have hy : 0 ≤ yr d + (mm d - 1 + n) / 12 := by omega
  have hm : 1 ≤ (mm d - 1 + n) % 12 + 1 ∧ (mm d - 1 + n) % 12 + 1 ≤ 12 := by omega
  have hl := ml_rng (yr d + (mm d - 1 + n) / 12) ((mm d - 1 + n) % 12 + 1)
  have hk : 1 ≤ (if ml (yr d + (mm d - 1 + n) / 12) ((mm d - 1 + n) % 12 + 1) < dd d then ml (yr d + (mm d - 1 + n) / 12) ((mm d - 1 + n) % 12 + 1) else dd d) ∧ (if ml (yr d + (mm d - 1 + n) / 12) ((mm d - 1 + n) % 12 + 1) < dd d then ml (yr d + (mm d - 1 + n) / 12) ((mm d - 1 + n) % 12 + 1) else dd d) ≤ ml (yr d + (mm d - 1 + n) / 12) ((mm d - 1 + n) % 12 + 1) := by split <;> omega
  obtain ⟨e1, -, -, e4⟩ := dayN_yr hy hm hk
  have h6 : (later d n) < ny (yr d + (mm d - 1 + n) / 12 + 1) := by
    have := (yr_spec e4).2.2
    rw [e1] at this
    exact this
  refine ⟨e4, ?_⟩
  unfold ny at *
  omega
theorem pf_rng {H : Int → Bool} {d : Int} : d ≤ pf H d ∧ pf H d ≤ d + 366 := wf_le H 366 d
set_option maxHeartbeats 2000000 in
set_option maxRecDepth 4000 in
theorem ok_X3_start {l : Launch} {D : va_G} {cy : Nat → ClassId} {z : Nat} {M : Mm} {K : Option Value → Mm → Prop} {r : Nat} {F : Nat → Int} {a : Nat → Nat → Int} (hR : RightAt cy z M r F a) {k q : Nat} {h : Nat → Int} (hH : HolAt cy z M k q h) (hq : q ≤ 6) (hv : ∀ i, -1 ≤ h i ∧ h i ≤ 40000) (hdis : k + 2 ≤ r ∨ r + 6 ≤ k) {d w : Int} (hd : 0 ≤ d ∧ d ≤ 18262) (hw : w = 0 ∨ w = 1) (hK : ∀ M', Sm M M' (fun j => r ≤ j ∧ j < r + 6) → RightAt cy z M' r (stF F d w) (stA (hset h q) d a) → K none M') :
    MT l D cy z false yX3_start (wsy yX3_start cX3_start 5 none) 4 89 0 0 M [.ref (z + r), iv d, iv w, .ref (z + k)] K := by
  refine MT_of (by decide) w_347 (Nat.le_of_ble_eq_true rfl) ?_
  intro p e s m args below meth c C hr hx0
  obtain ⟨hn, m0, m1, m2, m3, m4, m5⟩ := hR
  have loop : ∀ (n : Nat) (n9 : Nat) (M9 : Mm) (u9 v9 : Nat → Int), (n9 ≤ 19) → (Sm M M9 (fun j => j = r ∨ j = r + 1 ∨ j = r + 2)) → (M9.2 r = oX 2 [iv d, iv (later d 240 - 1), iv w, iv 0, iv 0, iv 0, .ref (z + (r + 1)), .ref (z + (r + 2)), .ref (z + (r + 3)), .ref (z + (r + 4)), .ref (z + (r + 5))]) → (M9.2 (r + 1) = aI cy 20 u9) → (∀ j, j < 20 → u9 j = if 1 ≤ j ∧ j ≤ n9 then pf (hset h q) (later d (12 * j)) else a 0 j) → (M9.2 (r + 2) = aI cy 20 v9) → (∀ j, j < 20 → v9 j = if 1 ≤ j ∧ j ≤ n9 then pf (hset h q) (later d (12 * j + 6)) else a 1 j) → 19 - n9 < n → V p l e { frames := 4, cells := 0, slots := 0, locals := 89 } s m args below meth c D z 5 (MQ below (qc_ D z K) args s 0 0 (fun q => z ≤ q)) 0 0 M9 41 [(0, .ref (z + r)), (1, iv d), (2, iv w), (3, .ref (z + k)), (4, iv (((n9 : Int) : Int) + 1))] [] := by
    intro n
    induction n with
    | zero => intro n9 M9 u9 v9 hi0 hi1 hi2 hi3 hi4 hi5 hi6 hfu; exact absurd hfu (Nat.not_lt_zero _)
    | succ n ih =>
      intro n9 M9 u9 v9 hi0 hi1 hi2 hi3 hi4 hi5 hi6 hfu
      have q0 : M9.2 r = oX 2 [iv d, iv (later d 240 - 1), iv w, iv 0, iv 0, iv 0, .ref (z + (r + 1)), .ref (z + (r + 2)), .ref (z + (r + 3)), .ref (z + (r + 4)), .ref (z + (r + 5))] := hi2
      have q1 := hi3
      have q2 := hi5
      have hn9 : r + 6 ≤ M9.1 := by rw [hi1.1]; exact hn
      have q3 : M9.2 (r + 3) = aI cy 20 (a 2) := (hi1.2 _ (by simp)).trans m3
      have q4 : M9.2 (r + 4) = aI cy 20 (a 3) := (hi1.2 _ (by simp)).trans m4
      have q5 : M9.2 (r + 5) = aI cy 10 (a 4) := (hi1.2 _ (by simp)).trans m5
      have qH : HolAt cy z M9 k q h := ⟨by rw [hi1.1]; exact hH.1, (hi1.2 _ (by simp; omega)).trans hH.2.1, (hi1.2 _ (by simp; omega)).trans hH.2.2⟩
      have qH0 := qH.1
      have qH1 := qH.2.1
      have ec : ((n9 + 1 : Nat) : Int) = (n9 : Int) + 1 := by omega
      have l1 := later_rng (n := 12 * ((n9 : Int) + 1)) hd.1 (by omega)
      have l2 := later_rng (n := 12 * ((n9 : Int) + 1) + 6) hd.1 (by omega)
      refine V_iload C dX3_start_41 rfl ?_
      refine V_bipush C dX3_start_43 (by decide) ?_
      refine V_icmp_gt C dX3_start_45 (tgt := 117) (by decide) (by omega) (by omega) (fun g45 => ?_) (fun g45 => ?_)
      · have hn19 : n9 = 19 := by omega
        refine V_cellI (stDue (hset h q) d (a 0)) q1 (fun j hj => (hi4 j (by omega)).trans (by unfold stDue; split <;> first | rfl | omega)) ?_
        refine V_cellI (stGr (hset h q) d (a 1)) ((mset_ne (by omega)).trans q2) (fun j hj => (hi6 j (by omega)).trans (by unfold stGr; split <;> first | rfl | omega)) ?_
        refine V_aload_n C dX3_start_117 rfl ?_
        refine V_get C fg_X3_38 dX3_start_118 ((mset_ne (by omega)).trans ((mset_ne (by omega)).trans q0)) (by (try simp only [mset_1]); omega) (by rfl) ?_
        refine V_iconst C dX3_start_121 ?_
        refine V_callS (fr := 0) (lo := 0) (mc := 0) (ms := 0) (As := [_, _]) C ysJ7_fill_53178 w_374 dX3_start_122 rfl rfl (Nat.le_of_ble_eq_true rfl) ⟨Nat.le_of_ble_eq_true rfl, Nat.le_of_ble_eq_true rfl⟩ ⟨Nat.le_of_ble_eq_true rfl, Nat.le_of_ble_eq_true rfl⟩ ?_
        refine ok_J7_fill (by simp only [mset_1]; omega) ((mset_ne (by omega)).trans ((mset_ne (by omega)).trans q3)) (by omega) (fun M1 s1 x1 => ?_)
        have n1 : M1.1 = M9.1 := s1.1
        refine V_aload_n C dX3_start_125 rfl ?_
        refine V_get C fg_X3_41 dX3_start_126 ((s1.2 _ (by simp)).trans ((mset_ne (by omega)).trans ((mset_ne (by omega)).trans q0))) (by (try simp only [mset_1]); omega) (by rfl) ?_
        refine V_iconst C dX3_start_129 ?_
        refine V_callS (fr := 0) (lo := 0) (mc := 0) (ms := 0) (As := [_, _]) C ysJ7_fill_53178 w_374 dX3_start_130 rfl rfl (Nat.le_of_ble_eq_true rfl) ⟨Nat.le_of_ble_eq_true rfl, Nat.le_of_ble_eq_true rfl⟩ ⟨Nat.le_of_ble_eq_true rfl, Nat.le_of_ble_eq_true rfl⟩ ?_
        refine ok_J7_fill (by rw [s1.1]; simp only [mset_1]; omega) ((s1.2 _ (by simp)).trans ((mset_ne (by omega)).trans ((mset_ne (by omega)).trans q4))) (by omega) (fun M2 s2 x2 => ?_)
        have n2 : M2.1 = M9.1 := s2.1.trans n1
        refine V_aload_n C dX3_start_133 rfl ?_
        refine V_get C fg_X3_44 dX3_start_134 ((s2.2 _ (by simp)).trans ((s1.2 _ (by simp)).trans ((mset_ne (by omega)).trans ((mset_ne (by omega)).trans q0)))) (by (try simp only [mset_1]); omega) (by rfl) ?_
        refine V_iconst C dX3_start_137 ?_
        refine V_callS (fr := 0) (lo := 0) (mc := 0) (ms := 0) (As := [_, _]) C ysJ7_fill_53178 w_374 dX3_start_138 rfl rfl (Nat.le_of_ble_eq_true rfl) ⟨Nat.le_of_ble_eq_true rfl, Nat.le_of_ble_eq_true rfl⟩ ⟨Nat.le_of_ble_eq_true rfl, Nat.le_of_ble_eq_true rfl⟩ ?_
        refine ok_J7_fill (by rw [s2.1, s1.1]; simp only [mset_1]; omega) ((s2.2 _ (by simp)).trans ((s1.2 _ (by simp)).trans ((mset_ne (by omega)).trans ((mset_ne (by omega)).trans q5)))) (by omega) (fun M3 s3 x3 => ?_)
        have n3 : M3.1 = M9.1 := s3.1.trans n2
        have t0 : Sm M M3 (fun j => r ≤ j ∧ j < r + 6) := (((((hi1.mono (P' := (fun j => r ≤ j ∧ j < r + 6)) (fun j hj => (show r ≤ j ∧ j < r + 6 from by rcases hj with o | o | o <;> subst o <;> omega))).ts ⟨by omega, by omega⟩).ts ⟨by omega, by omega⟩).trans (s1.mono (P' := (fun j => r ≤ j ∧ j < r + 6)) (fun j hj => (show r ≤ j ∧ j < r + 6 from by have o : j = r + 3 := hj; subst o; omega)))).trans (s2.mono (P' := (fun j => r ≤ j ∧ j < r + 6)) (fun j hj => (show r ≤ j ∧ j < r + 6 from by have o : j = r + 4 := hj; subst o; omega)))).trans (s3.mono (P' := (fun j => r ≤ j ∧ j < r + 6)) (fun j hj => (show r ≤ j ∧ j < r + 6 from by have o : j = r + 5 := hj; subst o; omega)))
        have x0 := (s3.2 r (by simp)).trans ((s2.2 r (by simp)).trans ((s1.2 r (by simp)).trans ((mset_ne (by omega)).trans ((mset_ne (by omega)).trans q0))))
        have y1 : M3.2 (r + 1) = aI cy 20 (stDue (hset h q) d (a 0)) := (s3.2 _ (by simp)).trans ((s2.2 _ (by simp)).trans ((s1.2 _ (by simp)).trans ((mset_ne (by omega)).trans (mset_self _ _ _))))
        have y2 : M3.2 (r + 2) = aI cy 20 (stGr (hset h q) d (a 1)) := (s3.2 _ (by simp)).trans ((s2.2 _ (by simp)).trans ((s1.2 _ (by simp)).trans (mset_self _ _ _)))
        have y3 : M3.2 (r + 3) = aI cy 20 (fun _ => 0) := (s3.2 _ (by simp)).trans ((s2.2 _ (by simp)).trans x1)
        have y4 : M3.2 (r + 4) = aI cy 20 (fun _ => 0) := (s3.2 _ (by simp)).trans x2
        exact V_vret C hr dX3_start_141 (hK _ t0 ⟨by rw [t0.1]; exact hn, x0, y1, y2, y3, y4, x3⟩)
      · refine V_iload C dX3_start_48 rfl ?_
        refine V_aload_n C dX3_start_50 rfl ?_
        refine V_get C fg_X3_31 dX3_start_51 (by repeat (first | with_reducible assumption | with_reducible exact mset_self _ _ _ | refine (mset_ne (by omega)).trans ?_)) (by (try simp only [mset_1]); omega) (by rfl) ?_
        refine V_alenI C dX3_start_54 (by repeat (first | with_reducible assumption | with_reducible exact mset_self _ _ _ | refine (mset_ne (by omega)).trans ?_)) (by (try simp only [mset_1]); omega) ?_
        refine V_icmp_ge C dX3_start_55 (tgt := 117) (by decide) (by omega) (by omega) (fun g55 => ?_) (fun g55 => ?_)
        · exact absurd g55 (by omega)
        · refine V_iload C dX3_start_58 rfl ?_
          refine V_aload_n C dX3_start_60 rfl ?_
          refine V_get C fg_X3_35 dX3_start_61 (by repeat (first | with_reducible assumption | with_reducible exact mset_self _ _ _ | refine (mset_ne (by omega)).trans ?_)) (by (try simp only [mset_1]); omega) (by rfl) ?_
          refine V_alenI C dX3_start_64 (by repeat (first | with_reducible assumption | with_reducible exact mset_self _ _ _ | refine (mset_ne (by omega)).trans ?_)) (by (try simp only [mset_1]); omega) ?_
          refine V_icmp_ge C dX3_start_65 (tgt := 117) (by decide) (by omega) (by omega) (fun g65 => ?_) (fun g65 => ?_)
          · exact absurd g65 (by omega)
          · refine V_aload_n C dX3_start_68 rfl ?_
            refine V_get C fg_X3_31 dX3_start_69 (by repeat (first | with_reducible assumption | with_reducible exact mset_self _ _ _ | refine (mset_ne (by omega)).trans ?_)) (by (try simp only [mset_1]); omega) (by rfl) ?_
            refine V_iload C dX3_start_72 rfl ?_
            refine V_aload_n C dX3_start_74 rfl ?_
            refine V_iload_n C dX3_start_75 rfl ?_
            refine V_bipush C dX3_start_76 (by decide) ?_
            refine V_iload C dX3_start_78 rfl ?_
            refine V_imul C dX3_start_80 ?_
            refine V_callS (fr := 2) (lo := 45) (mc := 0) (ms := 0) (As := [_, _]) C ysX0_monthsAfter w_348 dX3_start_81 rfl rfl (Nat.le_of_ble_eq_true rfl) ⟨Nat.le_of_ble_eq_true rfl, Nat.le_of_ble_eq_true rfl⟩ ⟨Nat.le_of_ble_eq_true rfl, Nat.le_of_ble_eq_true rfl⟩ ?_
            refine ok_X0_monthsAfter (by omega) (by omega) ?_
            refine V_callV (fr := 3) (lo := 66) (mc := 0) (ms := 0) (As := [_]) C yvX2_firstWorkingDay w_361 dX3_start_84 rfl rfl (by repeat (first | with_reducible assumption | with_reducible exact mset_self _ _ _ | refine (mset_ne (by omega)).trans ?_)) (by (try simp only [mset_1]); omega) rfl rfl (Nat.le_of_ble_eq_true rfl) ⟨Nat.le_of_ble_eq_true rfl, Nat.le_of_ble_eq_true rfl⟩ ⟨Nat.le_of_ble_eq_true rfl, Nat.le_of_ble_eq_true rfl⟩ ?_
            refine ok_X2_firstWorkingDay qH hq hv (by omega) ?_
            refine V_iast C dX3_start_87 (by repeat (first | with_reducible assumption | with_reducible exact mset_self _ _ _ | refine (mset_ne (by omega)).trans ?_)) (by (try simp only [mset_1]); omega) (by omega) (by omega) (show ((n9 : Int) + 1).toNat = n9 + 1 by omega) ?_
            refine V_aload_n C dX3_start_88 rfl ?_
            refine V_get C fg_X3_35 dX3_start_89 (by repeat (first | with_reducible assumption | with_reducible exact mset_self _ _ _ | refine (mset_ne (by omega)).trans ?_)) (by (try simp only [mset_1]); omega) (by rfl) ?_
            refine V_iload C dX3_start_92 rfl ?_
            refine V_aload_n C dX3_start_94 rfl ?_
            refine V_iload_n C dX3_start_95 rfl ?_
            refine V_bipush C dX3_start_96 (by decide) ?_
            refine V_iload C dX3_start_98 rfl ?_
            refine V_imul C dX3_start_100 ?_
            refine V_bipush C dX3_start_101 (by decide) ?_
            refine V_iadd C dX3_start_103 ?_
            refine V_callS (fr := 2) (lo := 45) (mc := 0) (ms := 0) (As := [_, _]) C ysX0_monthsAfter w_348 dX3_start_104 rfl rfl (Nat.le_of_ble_eq_true rfl) ⟨Nat.le_of_ble_eq_true rfl, Nat.le_of_ble_eq_true rfl⟩ ⟨Nat.le_of_ble_eq_true rfl, Nat.le_of_ble_eq_true rfl⟩ ?_
            refine ok_X0_monthsAfter (by omega) (by omega) ?_
            refine V_callV (fr := 3) (lo := 66) (mc := 0) (ms := 0) (As := [_]) C yvX2_firstWorkingDay w_361 dX3_start_107 rfl rfl (by repeat (first | with_reducible assumption | with_reducible exact mset_self _ _ _ | refine (mset_ne (by omega)).trans ?_)) (by (try simp only [mset_1]); omega) rfl rfl (Nat.le_of_ble_eq_true rfl) ⟨Nat.le_of_ble_eq_true rfl, Nat.le_of_ble_eq_true rfl⟩ ⟨Nat.le_of_ble_eq_true rfl, Nat.le_of_ble_eq_true rfl⟩ ?_
            refine ok_X2_firstWorkingDay ⟨by simp only [mset_1]; exact qH.1, (mset_ne (by omega)).trans qH.2.1, (mset_ne (by omega)).trans qH.2.2⟩ hq hv (by omega) ?_
            refine V_iast C dX3_start_110 (by repeat (first | with_reducible assumption | with_reducible exact mset_self _ _ _ | refine (mset_ne (by omega)).trans ?_)) (by (try simp only [mset_1]); omega) (by omega) (by omega) (show ((n9 : Int) + 1).toNat = n9 + 1 by omega) ?_
            refine V_iinc C dX3_start_111 rfl (by decide) ?_
            refine V_goto C dX3_start_114 (tgt := 41) (by decide) ?_
            refine V_lv [(0, .ref (z + r)), (1, iv d), (2, iv w), (3, .ref (z + k)), (4, iv ((((n9 + 1 : Nat) : Int) : Int) + 1))] (List.forall_mem_cons.mpr ⟨(by first | rfl | exact congrArg (fun t => some (iv t)) (by push_cast; omega)), (List.forall_mem_cons.mpr ⟨(by first | rfl | exact congrArg (fun t => some (iv t)) (by push_cast; omega)), (List.forall_mem_cons.mpr ⟨(by first | rfl | exact congrArg (fun t => some (iv t)) (by push_cast; omega)), (List.forall_mem_cons.mpr ⟨(by first | rfl | exact congrArg (fun t => some (iv t)) (by push_cast; omega)), (List.forall_mem_cons.mpr ⟨(by first | rfl | exact congrArg (fun t => some (iv t)) (by push_cast; omega)), (fun _ h => nomatch h)⟩)⟩)⟩)⟩)⟩) ?_
            exact ih (n9 + 1) _ _ _ (by omega) ((hi1.ts (by simp)).ts (by simp)) ((mset_ne (by omega)).trans ((mset_ne (by omega)).trans q0)) ((mset_ne (by omega)).trans (mset_self _ _ _)) (fun j hj => upd_st (f := fun j => pf (hset h q) (later d (12 * (j : Int)))) hi4 (by (try dsimp only); rw [ec]) j hj) (mset_self _ _ _) (fun j hj => upd_st (f := fun j => pf (hset h q) (later d (12 * (j : Int) + 6))) hi6 (by (try dsimp only); rw [ec]) j hj) (by omega)
  refine V_aload_n C dX3_start_0 rfl ?_
  refine V_iload_n C dX3_start_1 rfl ?_
  refine V_put C fp_X3_9 dX3_start_2 (by repeat (first | with_reducible assumption | with_reducible exact mset_self _ _ _ | refine (mset_ne (by omega)).trans ?_)) (by (try simp only [mset_1]); omega) rfl rfl (by exact Nat.le_of_ble_eq_true rfl) ?_
  refine V_aload_n C dX3_start_5 rfl ?_
  refine V_iload_n C dX3_start_6 rfl ?_
  refine V_sipush C dX3_start_7 (by decide) ?_
  refine V_callS (fr := 2) (lo := 45) (mc := 0) (ms := 0) (As := [_, _]) C ysX0_monthsAfter w_348 dX3_start_10 rfl rfl (Nat.le_of_ble_eq_true rfl) ⟨Nat.le_of_ble_eq_true rfl, Nat.le_of_ble_eq_true rfl⟩ ⟨Nat.le_of_ble_eq_true rfl, Nat.le_of_ble_eq_true rfl⟩ ?_
  refine ok_X0_monthsAfter (by omega) (by omega) ?_
  refine V_iconst C dX3_start_13 ?_
  refine V_isub C dX3_start_14 ?_
  refine V_put C fp_X3_15 dX3_start_15 (by repeat (first | with_reducible assumption | with_reducible exact mset_self _ _ _ | refine (mset_ne (by omega)).trans ?_)) (by (try simp only [mset_1]); omega) rfl rfl (by exact Nat.le_of_ble_eq_true rfl) ?_
  refine V_aload_n C dX3_start_18 rfl ?_
  refine V_iload_n C dX3_start_19 rfl ?_
  refine V_put C fp_X3_18 dX3_start_20 (by repeat (first | with_reducible assumption | with_reducible exact mset_self _ _ _ | refine (mset_ne (by omega)).trans ?_)) (by (try simp only [mset_1]); omega) (by rcases hw with o | o <;> subst o <;> rfl) (by rcases hw with o | o <;> subst o <;> rfl) (by exact Nat.le_of_ble_eq_true rfl) ?_
  refine V_aload_n C dX3_start_23 rfl ?_
  refine V_iconst C dX3_start_24 ?_
  refine V_put C fp_X3_22 dX3_start_25 (by repeat (first | with_reducible assumption | with_reducible exact mset_self _ _ _ | refine (mset_ne (by omega)).trans ?_)) (by (try simp only [mset_1]); omega) rfl rfl (by exact Nat.le_of_ble_eq_true rfl) ?_
  refine V_aload_n C dX3_start_28 rfl ?_
  refine V_iconst C dX3_start_29 ?_
  refine V_put C fp_X3_25 dX3_start_30 (by repeat (first | with_reducible assumption | with_reducible exact mset_self _ _ _ | refine (mset_ne (by omega)).trans ?_)) (by (try simp only [mset_1]); omega) rfl rfl (by exact Nat.le_of_ble_eq_true rfl) ?_
  refine V_aload_n C dX3_start_33 rfl ?_
  refine V_iconst C dX3_start_34 ?_
  refine V_put C fp_X3_28 dX3_start_35 (by repeat (first | with_reducible assumption | with_reducible exact mset_self _ _ _ | refine (mset_ne (by omega)).trans ?_)) (by (try simp only [mset_1]); omega) rfl rfl (by exact Nat.le_of_ble_eq_true rfl) ?_
  refine V_iconst C dX3_start_38 ?_
  refine V_istore C dX3_start_39 (by decide) ?_
  have e0 := later_rng (n := 240) hd.1 (by omega)
  refine V_lv [(0, .ref (z + r)), (1, iv d), (2, iv w), (3, .ref (z + k)), (4, iv ((((0 : Nat) : Int) : Int) + 1))] (List.forall_mem_cons.mpr ⟨(by first | rfl | exact congrArg (fun t => some (iv t)) (by push_cast; omega)), (List.forall_mem_cons.mpr ⟨(by first | rfl | exact congrArg (fun t => some (iv t)) (by push_cast; omega)), (List.forall_mem_cons.mpr ⟨(by first | rfl | exact congrArg (fun t => some (iv t)) (by push_cast; omega)), (List.forall_mem_cons.mpr ⟨(by first | rfl | exact congrArg (fun t => some (iv t)) (by push_cast; omega)), (List.forall_mem_cons.mpr ⟨(by first | rfl | exact congrArg (fun t => some (iv t)) (by push_cast; omega)), (fun _ h => nomatch h)⟩)⟩)⟩)⟩)⟩) ?_
  exact loop 20 0 _ _ _ (by omega) ((((((Sm.rf M _).ts (by simp)).ts (by simp)).ts (by simp)).ts (by simp)).ts (by simp) |>.ts (by simp)) (mset_self _ _ _) ((mset_ne (by omega)).trans ((mset_ne (by omega)).trans ((mset_ne (by omega)).trans ((mset_ne (by omega)).trans ((mset_ne (by omega)).trans ((mset_ne (by omega)).trans m1)))))) (fun j hj => by rw [if_neg (by omega)]) ((mset_ne (by omega)).trans ((mset_ne (by omega)).trans ((mset_ne (by omega)).trans ((mset_ne (by omega)).trans ((mset_ne (by omega)).trans ((mset_ne (by omega)).trans m2)))))) (fun j hj => by rw [if_neg (by omega)]) (by omega)

