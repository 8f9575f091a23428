/-! the law's cases -/
set_option maxHeartbeats 1000000 in
set_option maxRecDepth 4000 in
theorem law_c0 {p : Program} {l : Launch} {e : Env} {s : State} {m : MethodId} {args : Array Value} {below : List Frame} {meth : Method} {c : Code} {D : va_G} {cy : Nat → ClassId} {z : Nat} {Q : State → Prop} {cells slots : Nat} {M : Mm} (C : Cx p l s m args meth c D cy z 9 cL_law RL) (hlt : l.stackTraces = false) {b L : Nat} {xs : Nat → Int32} (hX : va_X b L xs s s.heap) (hbl : b < s.heap.size) (hbA : ¬ z ≤ b) (hL : L ≤ 2560) {i : Nat} (hi : i + 5 ≤ L) (hcs : cells + 4 ≤ 601024 ∧ slots + 24 ≤ 7293034) {x : DD} {u N P A tx fr tl g9 : Nat → Int} {d9 : Nat → UInt64} (hI : LawI cy z M x u N P A tx fr tl g9 d9) (hk : ∀ M', LawE cy z M' → V p l e room_1 s m args below meth c D z 9 Q (cells + 4) (slots + 24) M' 1689 [(0, .ref b), (1, .ref (z + 0)), (2, .ref (z + 331)), (3, .ref (z + 338)), (4, .ref (z + 339)), (5, iv (i : Int))] []) : V p l e room_1 s m args below meth c D z 9 Q cells slots M 168 [(0, .ref b), (1, .ref (z + 0)), (2, .ref (z + 331)), (3, .ref (z + 338)), (4, .ref (z + 339)), (5, iv (i : Int))] [] := by
  obtain ⟨hD, hDI, hM, hM1, h338, h339, hR⟩ := id hI
  obtain ⟨r0, r2, rN, rV, rT⟩ := id hR
  obtain ⟨rw9, rI, rZ, rH⟩ := id rN
  have hB := hDI.1
  have hDc := hDI.2.1
  have hDt := hDI.2.2.2.1
  have hq6 := hB.2.2.1
  have hn10 := hB.2.1
  obtain ⟨v1, ev1⟩ : ∃ v, (xs (i + 1)).toInt = v := ⟨_, rfl⟩
  have rv1 : -2147483648 ≤ v1 ∧ v1 < 2147483648 := by rw [← ev1]; exact ⟨Int32.le_toInt _, Int32.toInt_lt _⟩
  refine V_aload_n C dL_law_168 rfl ?_
  refine V_aload_n C dL_law_169 rfl ?_
  refine V_iload C dL_law_170 rfl ?_
  refine V_iconst C dL_law_172 ?_
  refine V_iadd C dL_law_173 ?_
  refine V_sld C hX hbl hbA (by omega) (by omega) (show _ = i + 1 by omega) ev1 dL_law_174 ?_
  refine V_aload_n C dL_law_175 rfl ?_
  refine V_callW (fr := 8) (lo := 131) (mc := 1) (ms := 6) (As := [_, _, _]) C ywL_date w_443 dL_law_176 rfl rfl (Nat.le_of_ble_eq_true rfl) ⟨Nat.le_of_ble_eq_true rfl, Nat.le_of_ble_eq_true rfl⟩ ⟨by show _ + 1 ≤ 601024; omega, by show _ + 6 ≤ 7293034; omega⟩ ?_
  refine ok_L_date (g9 := g9) (G9 := fun a M2 => (0 ≤ v1 ∧ v1 ≤ 29219) ∧ a = date v1 ∧ Sm M M2 (fun q => q < 331) ∧ DockAt cy z M2 x) (GX := fun E => ¬ (0 ≤ v1 ∧ v1 ≤ 29219) ∧ E = eA) hD.2.1 (by omega) (fun h hx => ok_X6_date hD hDI hlt rv1 (fun o => h _ M ⟨o, rfl, Sm.rf _ _, hD⟩) (fun o => hx _ ⟨o, rfl⟩)) (fun a M2 hg => ?_) (fun E hE => ?_)
  · rcases hg with ⟨hc, rfl, s2, d2⟩
    · refine ⟨(s2.2 _ (by omega)).trans h338, by have := s2.1; omega, ?_⟩
      refine V_memgen (fun M3 em3 => ?_)
      obtain ⟨l3, x3, e8, e9, sA⟩ := law_mid hI s2 em3
      clear em3
      obtain ⟨gn, g0, g1, g2, g3, g4, g5, g6⟩ := id x3
      refine V_istore C dL_law_179 (by decide) ?_
      refine V_aload_n C dL_law_181 rfl ?_
      refine V_aload_n C dL_law_182 rfl ?_
      refine V_iload C dL_law_183 rfl ?_
      refine V_iconst C dL_law_185 ?_
      refine V_iadd C dL_law_186 ?_
      refine V_sld C hX hbl hbA (by omega) (by omega) (show _ = i + 1 by omega) ev1 dL_law_187 ?_
      refine V_callV (fr := 3) (lo := 64) (mc := 0) (ms := 0) (As := [_]) C yvX7_date w_853 dL_law_188 rfl rfl (by repeat (first | with_reducible assumption | with_reducible exact mset_self _ _ _ | refine (mset_ne (by omega)).trans ?_)) (by (try simp only [mset_1]); omega) rfl rfl (Nat.le_of_ble_eq_true rfl) ⟨Nat.le_of_ble_eq_true rfl, Nat.le_of_ble_eq_true rfl⟩ ⟨by show _ + 0 ≤ 601024; omega, by show _ + 0 ≤ 7293034; omega⟩ ?_
      refine ok_X7_date x3 rw9 hB rI rv1 (fun o => absurd hc o) (fun _ M4 u4 fr4 tl4 s4 x4 a4 b4 c4 => ?_)
      obtain ⟨gn, g0, g1, g2, g3, g4, g5, g6⟩ := id x4
      have f8 := (s4.2 338 (fun o => by have := o.2; omega)).trans e8
      have f9 := (s4.2 339 (fun o => by have := o.2; omega)).trans e9
      have f1 := s4.1.trans l3
      refine V_istore C dL_law_191 (by decide) ?_
      refine V_aload_n C dL_law_193 rfl ?_
      refine V_callV (fr := 0) (lo := 0) (mc := 0) (ms := 0) (As := []) C yvX7_thrown w_841 dL_law_194 rfl rfl (by repeat (first | with_reducible assumption | with_reducible exact mset_self _ _ _ | refine (mset_ne (by omega)).trans ?_)) (by (try simp only [mset_1]); omega) rfl rfl (Nat.le_of_ble_eq_true rfl) ⟨Nat.le_of_ble_eq_true rfl, Nat.le_of_ble_eq_true rfl⟩ ⟨by show _ + 0 ≤ 601024; omega, by show _ + 0 ≤ 7293034; omega⟩ ?_
      refine ok_X7_thrown x4 ?_
      rw [b4]
      refine V_iload C dL_law_197 rfl ?_
      refine V_icmp_eq C dL_law_199 (tgt := 204) (by decide) (by omega) (by omega) (fun g199 => ?_) (fun g199 => ?_)
      · refine V_iload C dL_law_204 rfl ?_
        refine V_if_ne C dL_law_206 (tgt := 221) (by decide) (by omega) (fun g206 => ?_) (fun g206 => ?_)
        · exact absurd rfl g206
        · refine V_aload_n C dL_law_209 rfl ?_
          refine V_iconst C dL_law_210 ?_
          refine V_laload C dL_law_211 f8 (by (try simp only [mset_1]); omega) (by omega) (by omega) ?_
          refine V_iload C dL_law_212 rfl ?_
          refine V_i2lw C dL_law_214 ?_
          refine V_lcmp0 C (congrArg lgv (up_s _ 0 _).symm) dL_law_215 ?_
          refine V_ifeq0 C dL_law_216 (tgt := 221) (by decide) ?_
          refine V_goto C dL_law_221 (tgt := 1689) (by decide) ?_
          refine V_lv [(0, .ref b), (1, .ref (z + 0)), (2, .ref (z + 331)), (3, .ref (z + 338)), (4, .ref (z + 339)), (5, iv (i : Int))] (List.forall_mem_cons.mpr ⟨(by first | rfl | exact congrArg (fun t => some (iv t)) (by omega)), (List.forall_mem_cons.mpr ⟨(by first | rfl | exact congrArg (fun t => some (iv t)) (by omega)), (List.forall_mem_cons.mpr ⟨(by first | rfl | exact congrArg (fun t => some (iv t)) (by omega)), (List.forall_mem_cons.mpr ⟨(by first | rfl | exact congrArg (fun t => some (iv t)) (by omega)), (List.forall_mem_cons.mpr ⟨(by first | rfl | exact congrArg (fun t => some (iv t)) (by omega)), (List.forall_mem_cons.mpr ⟨(by first | rfl | exact congrArg (fun t => some (iv t)) (by omega)), (fun _ h => nomatch h)⟩)⟩)⟩)⟩)⟩)⟩) ?_
          refine V_widen (k := cells + 4) (n := slots + 24) (by omega) (by omega) ?_
          exact hk _ (LawE.mk d2 sA s4 l3 e8 e9 x4 hDI (hR.same a4 c4))
      · exact absurd rfl g199
  · rcases hE with ⟨hc, rfl⟩
    · refine ⟨rfl, ?_⟩
      have x3 := hM
      have l3 := hM1
      have e8 := h338
      have e9 := h339
      have s2 : Sm M M (fun j => j < 331) := Sm.rf _ _
      have sA : Sm M M (fun j => 331 ≤ j) := Sm.rf _ _
      have d2 := hD
      obtain ⟨gn, g0, g1, g2, g3, g4, g5, g6⟩ := id x3
      refine V_istore C dL_law_179 (by decide) ?_
      refine V_aload_n C dL_law_181 rfl ?_
      refine V_aload_n C dL_law_182 rfl ?_
      refine V_iload C dL_law_183 rfl ?_
      refine V_iconst C dL_law_185 ?_
      refine V_iadd C dL_law_186 ?_
      refine V_sld C hX hbl hbA (by omega) (by omega) (show _ = i + 1 by omega) ev1 dL_law_187 ?_
      refine V_callV (fr := 3) (lo := 64) (mc := 0) (ms := 0) (As := [_]) C yvX7_date w_853 dL_law_188 rfl rfl (by repeat (first | with_reducible assumption | with_reducible exact mset_self _ _ _ | refine (mset_ne (by omega)).trans ?_)) (by (try simp only [mset_1]); omega) rfl rfl (Nat.le_of_ble_eq_true rfl) ⟨Nat.le_of_ble_eq_true rfl, Nat.le_of_ble_eq_true rfl⟩ ⟨by show _ + 0 ≤ 601024; omega, by show _ + 0 ≤ 7293034; omega⟩ ?_
      refine ok_X7_date x3 rw9 hB rI rv1 (fun _ M4 u4 fr4 tl4 s4 x4 a4 b4 c4 => ?_) (fun o => absurd o hc)
      obtain ⟨gn, g0, g1, g2, g3, g4, g5, g6⟩ := id x4
      have f8 := (s4.2 338 (fun o => by have := o.2; omega)).trans e8
      have f9 := (s4.2 339 (fun o => by have := o.2; omega)).trans e9
      have f1 := s4.1.trans l3
      refine V_istore C dL_law_191 (by decide) ?_
      refine V_aload_n C dL_law_193 rfl ?_
      refine V_callV (fr := 0) (lo := 0) (mc := 0) (ms := 0) (As := []) C yvX7_thrown w_841 dL_law_194 rfl rfl (by repeat (first | with_reducible assumption | with_reducible exact mset_self _ _ _ | refine (mset_ne (by omega)).trans ?_)) (by (try simp only [mset_1]); omega) rfl rfl (Nat.le_of_ble_eq_true rfl) ⟨Nat.le_of_ble_eq_true rfl, Nat.le_of_ble_eq_true rfl⟩ ⟨by show _ + 0 ≤ 601024; omega, by show _ + 0 ≤ 7293034; omega⟩ ?_
      refine ok_X7_thrown x4 ?_
      rw [b4]
      refine V_iload C dL_law_197 rfl ?_
      refine V_icmp_eq C dL_law_199 (tgt := 204) (by decide) (by omega) (by omega) (fun g199 => ?_) (fun g199 => ?_)
      · refine V_iload C dL_law_204 rfl ?_
        refine V_if_ne C dL_law_206 (tgt := 221) (by decide) (by omega) (fun g206 => ?_) (fun g206 => ?_)
        · refine V_goto C dL_law_221 (tgt := 1689) (by decide) ?_
          refine V_lv [(0, .ref b), (1, .ref (z + 0)), (2, .ref (z + 331)), (3, .ref (z + 338)), (4, .ref (z + 339)), (5, iv (i : Int))] (List.forall_mem_cons.mpr ⟨(by first | rfl | exact congrArg (fun t => some (iv t)) (by omega)), (List.forall_mem_cons.mpr ⟨(by first | rfl | exact congrArg (fun t => some (iv t)) (by omega)), (List.forall_mem_cons.mpr ⟨(by first | rfl | exact congrArg (fun t => some (iv t)) (by omega)), (List.forall_mem_cons.mpr ⟨(by first | rfl | exact congrArg (fun t => some (iv t)) (by omega)), (List.forall_mem_cons.mpr ⟨(by first | rfl | exact congrArg (fun t => some (iv t)) (by omega)), (List.forall_mem_cons.mpr ⟨(by first | rfl | exact congrArg (fun t => some (iv t)) (by omega)), (fun _ h => nomatch h)⟩)⟩)⟩)⟩)⟩)⟩) ?_
          refine V_widen (k := cells + 4) (n := slots + 24) (by omega) (by omega) ?_
          exact hk _ (LawE.mk d2 sA s4 l3 e8 e9 x4 hDI (hR.same a4 c4))
        · exact absurd g206 (by decide)
      · exact absurd rfl g199

set_option maxHeartbeats 1000000 in
set_option maxRecDepth 4000 in
theorem law_c1 {p : Program} {l : Launch} {e : Env} {s : State} {m : MethodId} {args : Array Value} {below : List Frame} {meth : Method} {c : Code} {D : va_G} {cy : Nat → ClassId} {z : Nat} {Q : State → Prop} {cells slots : Nat} {M : Mm} (C : Cx p l s m args meth c D cy z 9 cL_law RL) (hlt : l.stackTraces = false) {b L : Nat} {xs : Nat → Int32} (hX : va_X b L xs s s.heap) (hbl : b < s.heap.size) (hbA : ¬ z ≤ b) (hL : L ≤ 2560) {i : Nat} (hi : i + 5 ≤ L) (hcs : cells + 4 ≤ 601024 ∧ slots + 24 ≤ 7293034) {x : DD} {u N P A tx fr tl g9 : Nat → Int} {d9 : Nat → UInt64} (hI : LawI cy z M x u N P A tx fr tl g9 d9) (hk : ∀ M', LawE cy z M' → V p l e room_1 s m args below meth c D z 9 Q (cells + 4) (slots + 24) M' 1689 [(0, .ref b), (1, .ref (z + 0)), (2, .ref (z + 331)), (3, .ref (z + 338)), (4, .ref (z + 339)), (5, iv (i : Int))] []) : V p l e room_1 s m args below meth c D z 9 Q cells slots M 224 [(0, .ref b), (1, .ref (z + 0)), (2, .ref (z + 331)), (3, .ref (z + 338)), (4, .ref (z + 339)), (5, iv (i : Int))] [] := by
  obtain ⟨hD, hDI, hM, hM1, h338, h339, hR⟩ := id hI
  obtain ⟨r0, r2, rN, rV, rT⟩ := id hR
  obtain ⟨rw9, rI, rZ, rH⟩ := id rN
  have hB := hDI.1
  have hDc := hDI.2.1
  have hDt := hDI.2.2.2.1
  have hq6 := hB.2.2.1
  have hn10 := hB.2.1
  obtain ⟨v1, ev1⟩ : ∃ v, (xs (i + 1)).toInt = v := ⟨_, rfl⟩
  have rv1 : -2147483648 ≤ v1 ∧ v1 < 2147483648 := by rw [← ev1]; exact ⟨Int32.le_toInt _, Int32.toInt_lt _⟩
  obtain ⟨v2, ev2⟩ : ∃ v, (xs (i + 2)).toInt = v := ⟨_, rfl⟩
  have rv2 : -2147483648 ≤ v2 ∧ v2 < 2147483648 := by rw [← ev2]; exact ⟨Int32.le_toInt _, Int32.toInt_lt _⟩
  obtain ⟨v3, ev3⟩ : ∃ v, (xs (i + 3)).toInt = v := ⟨_, rfl⟩
  have rv3 : -2147483648 ≤ v3 ∧ v3 < 2147483648 := by rw [← ev3]; exact ⟨Int32.le_toInt _, Int32.toInt_lt _⟩
  refine V_aload_n C dL_law_224 rfl ?_
  refine V_aload_n C dL_law_225 rfl ?_
  refine V_iload C dL_law_226 rfl ?_
  refine V_iconst C dL_law_228 ?_
  refine V_iadd C dL_law_229 ?_
  refine V_sld C hX hbl hbA (by omega) (by omega) (show _ = i + 1 by omega) ev1 dL_law_230 ?_
  refine V_aload_n C dL_law_231 rfl ?_
  refine V_iload C dL_law_232 rfl ?_
  refine V_iconst C dL_law_234 ?_
  refine V_iadd C dL_law_235 ?_
  refine V_sld C hX hbl hbA (by omega) (by omega) (show _ = i + 2 by omega) ev2 dL_law_236 ?_
  refine V_aload_n C dL_law_237 rfl ?_
  refine V_iload C dL_law_238 rfl ?_
  refine V_iconst C dL_law_240 ?_
  refine V_iadd C dL_law_241 ?_
  refine V_sld C hX hbl hbA (by omega) (by omega) (show _ = i + 3 by omega) ev3 dL_law_242 ?_
  refine V_aload_n C dL_law_243 rfl ?_
  refine V_callW (fr := 8) (lo := 133) (mc := 3) (ms := 18) (As := [_, _, _, _, _]) C ywL_day w_524 dL_law_244 rfl rfl (Nat.le_of_ble_eq_true rfl) ⟨Nat.le_of_ble_eq_true rfl, Nat.le_of_ble_eq_true rfl⟩ ⟨by show _ + 3 ≤ 601024; omega, by show _ + 18 ≤ 7293034; omega⟩ ?_
  refine ok_L_day (g9 := g9) (G9 := fun a M2 => ((0 ≤ v1 ∧ v1 ≤ 79) ∧ (1 ≤ v2 ∧ v2 ≤ 12) ∧ 1 ≤ v3 ∧ v3 ≤ ml v1 v2) ∧ a = dayN v1 v2 v3 ∧ Sm M M2 (fun q => q < 331) ∧ DockAt cy z M2 x) (GX := fun E => ¬ ((0 ≤ v1 ∧ v1 ≤ 79) ∧ (1 ≤ v2 ∧ v2 ≤ 12) ∧ 1 ≤ v3 ∧ v3 ≤ ml v1 v2) ∧ E = eA) hD.2.1 (by omega) (fun h hx => ok_X6_day hD hDI hlt rv1 rv2 rv3 (fun o => h _ M ⟨o, rfl, Sm.rf _ _, hD⟩) (fun o => hx _ ⟨o, rfl⟩)) (fun a M2 hg => ?_) (fun E hE => ?_)
  · rcases hg with ⟨hc, rfl, s2, d2⟩
    · refine ⟨(s2.2 _ (by omega)).trans h338, by have := s2.1; omega, ?_⟩
      refine V_memgen (fun M3 em3 => ?_)
      obtain ⟨l3, x3, e8, e9, sA⟩ := law_mid hI s2 em3
      clear em3
      obtain ⟨gn, g0, g1, g2, g3, g4, g5, g6⟩ := id x3
      refine V_istore C dL_law_247 (by decide) ?_
      refine V_aload_n C dL_law_249 rfl ?_
      refine V_aload_n C dL_law_250 rfl ?_
      refine V_iload C dL_law_251 rfl ?_
      refine V_iconst C dL_law_253 ?_
      refine V_iadd C dL_law_254 ?_
      refine V_sld C hX hbl hbA (by omega) (by omega) (show _ = i + 1 by omega) ev1 dL_law_255 ?_
      refine V_aload_n C dL_law_256 rfl ?_
      refine V_iload C dL_law_257 rfl ?_
      refine V_iconst C dL_law_259 ?_
      refine V_iadd C dL_law_260 ?_
      refine V_sld C hX hbl hbA (by omega) (by omega) (show _ = i + 2 by omega) ev2 dL_law_261 ?_
      refine V_aload_n C dL_law_262 rfl ?_
      refine V_iload C dL_law_263 rfl ?_
      refine V_iconst C dL_law_265 ?_
      refine V_iadd C dL_law_266 ?_
      refine V_sld C hX hbl hbA (by omega) (by omega) (show _ = i + 3 by omega) ev3 dL_law_267 ?_
      refine V_callV (fr := 2) (lo := 45) (mc := 0) (ms := 0) (As := [_, _, _]) C yvX7_day w_875 dL_law_268 rfl rfl (by repeat (first | with_reducible assumption | with_reducible exact mset_self _ _ _ | refine (mset_ne (by omega)).trans ?_)) (by (try simp only [mset_1]); omega) rfl rfl (Nat.le_of_ble_eq_true rfl) ⟨Nat.le_of_ble_eq_true rfl, Nat.le_of_ble_eq_true rfl⟩ ⟨by show _ + 0 ≤ 601024; omega, by show _ + 0 ≤ 7293034; omega⟩ ?_
      refine ok_X7_day x3 rw9 hB rI rv1 rv2 rv3 (fun o => absurd hc o) (fun _ M4 u4 fr4 tl4 s4 x4 a4 b4 c4 => ?_)
      obtain ⟨gn, g0, g1, g2, g3, g4, g5, g6⟩ := id x4
      have f8 := (s4.2 338 (fun o => by have := o.2; omega)).trans e8
      have f9 := (s4.2 339 (fun o => by have := o.2; omega)).trans e9
      have f1 := s4.1.trans l3
      refine V_istore C dL_law_271 (by decide) ?_
      refine V_aload_n C dL_law_273 rfl ?_
      refine V_callV (fr := 0) (lo := 0) (mc := 0) (ms := 0) (As := []) C yvX7_thrown w_841 dL_law_274 rfl rfl (by repeat (first | with_reducible assumption | with_reducible exact mset_self _ _ _ | refine (mset_ne (by omega)).trans ?_)) (by (try simp only [mset_1]); omega) rfl rfl (Nat.le_of_ble_eq_true rfl) ⟨Nat.le_of_ble_eq_true rfl, Nat.le_of_ble_eq_true rfl⟩ ⟨by show _ + 0 ≤ 601024; omega, by show _ + 0 ≤ 7293034; omega⟩ ?_
      refine ok_X7_thrown x4 ?_
      rw [b4]
      refine V_iload C dL_law_277 rfl ?_
      refine V_icmp_eq C dL_law_279 (tgt := 284) (by decide) (by omega) (by omega) (fun g279 => ?_) (fun g279 => ?_)
      · refine V_iload C dL_law_284 rfl ?_
        refine V_if_ne C dL_law_286 (tgt := 301) (by decide) (by omega) (fun g286 => ?_) (fun g286 => ?_)
        · exact absurd rfl g286
        · refine V_aload_n C dL_law_289 rfl ?_
          refine V_iconst C dL_law_290 ?_
          refine V_laload C dL_law_291 f8 (by (try simp only [mset_1]); omega) (by omega) (by omega) ?_
          refine V_iload C dL_law_292 rfl ?_
          refine V_i2lw C dL_law_294 ?_
          refine V_lcmp0 C (congrArg lgv (up_s _ 0 _).symm) dL_law_295 ?_
          refine V_ifeq0 C dL_law_296 (tgt := 301) (by decide) ?_
          refine V_goto C dL_law_301 (tgt := 1689) (by decide) ?_
          refine V_lv [(0, .ref b), (1, .ref (z + 0)), (2, .ref (z + 331)), (3, .ref (z + 338)), (4, .ref (z + 339)), (5, iv (i : Int))] (List.forall_mem_cons.mpr ⟨(by first | rfl | exact congrArg (fun t => some (iv t)) (by omega)), (List.forall_mem_cons.mpr ⟨(by first | rfl | exact congrArg (fun t => some (iv t)) (by omega)), (List.forall_mem_cons.mpr ⟨(by first | rfl | exact congrArg (fun t => some (iv t)) (by omega)), (List.forall_mem_cons.mpr ⟨(by first | rfl | exact congrArg (fun t => some (iv t)) (by omega)), (List.forall_mem_cons.mpr ⟨(by first | rfl | exact congrArg (fun t => some (iv t)) (by omega)), (List.forall_mem_cons.mpr ⟨(by first | rfl | exact congrArg (fun t => some (iv t)) (by omega)), (fun _ h => nomatch h)⟩)⟩)⟩)⟩)⟩)⟩) ?_
          refine V_widen (k := cells + 4) (n := slots + 24) (by omega) (by omega) ?_
          exact hk _ (LawE.mk d2 sA s4 l3 e8 e9 x4 hDI (hR.same a4 c4))
      · exact absurd rfl g279
  · rcases hE with ⟨hc, rfl⟩
    · refine ⟨rfl, ?_⟩
      have x3 := hM
      have l3 := hM1
      have e8 := h338
      have e9 := h339
      have s2 : Sm M M (fun j => j < 331) := Sm.rf _ _
      have sA : Sm M M (fun j => 331 ≤ j) := Sm.rf _ _
      have d2 := hD
      obtain ⟨gn, g0, g1, g2, g3, g4, g5, g6⟩ := id x3
      refine V_istore C dL_law_247 (by decide) ?_
      refine V_aload_n C dL_law_249 rfl ?_
      refine V_aload_n C dL_law_250 rfl ?_
      refine V_iload C dL_law_251 rfl ?_
      refine V_iconst C dL_law_253 ?_
      refine V_iadd C dL_law_254 ?_
      refine V_sld C hX hbl hbA (by omega) (by omega) (show _ = i + 1 by omega) ev1 dL_law_255 ?_
      refine V_aload_n C dL_law_256 rfl ?_
      refine V_iload C dL_law_257 rfl ?_
      refine V_iconst C dL_law_259 ?_
      refine V_iadd C dL_law_260 ?_
      refine V_sld C hX hbl hbA (by omega) (by omega) (show _ = i + 2 by omega) ev2 dL_law_261 ?_
      refine V_aload_n C dL_law_262 rfl ?_
      refine V_iload C dL_law_263 rfl ?_
      refine V_iconst C dL_law_265 ?_
      refine V_iadd C dL_law_266 ?_
      refine V_sld C hX hbl hbA (by omega) (by omega) (show _ = i + 3 by omega) ev3 dL_law_267 ?_
      refine V_callV (fr := 2) (lo := 45) (mc := 0) (ms := 0) (As := [_, _, _]) C yvX7_day w_875 dL_law_268 rfl rfl (by repeat (first | with_reducible assumption | with_reducible exact mset_self _ _ _ | refine (mset_ne (by omega)).trans ?_)) (by (try simp only [mset_1]); omega) rfl rfl (Nat.le_of_ble_eq_true rfl) ⟨Nat.le_of_ble_eq_true rfl, Nat.le_of_ble_eq_true rfl⟩ ⟨by show _ + 0 ≤ 601024; omega, by show _ + 0 ≤ 7293034; omega⟩ ?_
      refine ok_X7_day x3 rw9 hB rI rv1 rv2 rv3 (fun _ M4 u4 fr4 tl4 s4 x4 a4 b4 c4 => ?_) (fun o => absurd o hc)
      obtain ⟨gn, g0, g1, g2, g3, g4, g5, g6⟩ := id x4
      have f8 := (s4.2 338 (fun o => by have := o.2; omega)).trans e8
      have f9 := (s4.2 339 (fun o => by have := o.2; omega)).trans e9
      have f1 := s4.1.trans l3
      refine V_istore C dL_law_271 (by decide) ?_
      refine V_aload_n C dL_law_273 rfl ?_
      refine V_callV (fr := 0) (lo := 0) (mc := 0) (ms := 0) (As := []) C yvX7_thrown w_841 dL_law_274 rfl rfl (by repeat (first | with_reducible assumption | with_reducible exact mset_self _ _ _ | refine (mset_ne (by omega)).trans ?_)) (by (try simp only [mset_1]); omega) rfl rfl (Nat.le_of_ble_eq_true rfl) ⟨Nat.le_of_ble_eq_true rfl, Nat.le_of_ble_eq_true rfl⟩ ⟨by show _ + 0 ≤ 601024; omega, by show _ + 0 ≤ 7293034; omega⟩ ?_
      refine ok_X7_thrown x4 ?_
      rw [b4]
      refine V_iload C dL_law_277 rfl ?_
      refine V_icmp_eq C dL_law_279 (tgt := 284) (by decide) (by omega) (by omega) (fun g279 => ?_) (fun g279 => ?_)
      · refine V_iload C dL_law_284 rfl ?_
        refine V_if_ne C dL_law_286 (tgt := 301) (by decide) (by omega) (fun g286 => ?_) (fun g286 => ?_)
        · refine V_goto C dL_law_301 (tgt := 1689) (by decide) ?_
          refine V_lv [(0, .ref b), (1, .ref (z + 0)), (2, .ref (z + 331)), (3, .ref (z + 338)), (4, .ref (z + 339)), (5, iv (i : Int))] (List.forall_mem_cons.mpr ⟨(by first | rfl | exact congrArg (fun t => some (iv t)) (by omega)), (List.forall_mem_cons.mpr ⟨(by first | rfl | exact congrArg (fun t => some (iv t)) (by omega)), (List.forall_mem_cons.mpr ⟨(by first | rfl | exact congrArg (fun t => some (iv t)) (by omega)), (List.forall_mem_cons.mpr ⟨(by first | rfl | exact congrArg (fun t => some (iv t)) (by omega)), (List.forall_mem_cons.mpr ⟨(by first | rfl | exact congrArg (fun t => some (iv t)) (by omega)), (List.forall_mem_cons.mpr ⟨(by first | rfl | exact congrArg (fun t => some (iv t)) (by omega)), (fun _ h => nomatch h)⟩)⟩)⟩)⟩)⟩)⟩) ?_
          refine V_widen (k := cells + 4) (n := slots + 24) (by omega) (by omega) ?_
          exact hk _ (LawE.mk d2 sA s4 l3 e8 e9 x4 hDI (hR.same a4 c4))
        · exact absurd g286 (by decide)
      · exact absurd rfl g279

set_option maxHeartbeats 1000000 in
set_option maxRecDepth 4000 in
theorem law_c2 {p : Program} {l : Launch} {e : Env} {s : State} {m : MethodId} {args : Array Value} {below : List Frame} {meth : Method} {c : Code} {D : va_G} {cy : Nat → ClassId} {z : Nat} {Q : State → Prop} {cells slots : Nat} {M : Mm} (C : Cx p l s m args meth c D cy z 9 cL_law RL) (hlt : l.stackTraces = false) {b L : Nat} {xs : Nat → Int32} (hX : va_X b L xs s s.heap) (hbl : b < s.heap.size) (hbA : ¬ z ≤ b) (hL : L ≤ 2560) {i : Nat} (hi : i + 5 ≤ L) (hcs : cells + 4 ≤ 601024 ∧ slots + 24 ≤ 7293034) {x : DD} {u N P A tx fr tl g9 : Nat → Int} {d9 : Nat → UInt64} (hI : LawI cy z M x u N P A tx fr tl g9 d9) (hk : ∀ M', LawE cy z M' → V p l e room_1 s m args below meth c D z 9 Q (cells + 4) (slots + 24) M' 1689 [(0, .ref b), (1, .ref (z + 0)), (2, .ref (z + 331)), (3, .ref (z + 338)), (4, .ref (z + 339)), (5, iv (i : Int))] []) : V p l e room_1 s m args below meth c D z 9 Q cells slots M 304 [(0, .ref b), (1, .ref (z + 0)), (2, .ref (z + 331)), (3, .ref (z + 338)), (4, .ref (z + 339)), (5, iv (i : Int))] [] := by
  obtain ⟨hD, hDI, hM, hM1, h338, h339, hR⟩ := id hI
  obtain ⟨r0, r2, rN, rV, rT⟩ := id hR
  obtain ⟨rw9, rI, rZ, rH⟩ := id rN
  have hB := hDI.1
  have hDc := hDI.2.1
  have hDt := hDI.2.2.2.1
  have hq6 := hB.2.2.1
  have hn10 := hB.2.1
  obtain ⟨v1, ev1⟩ : ∃ v, (xs (i + 1)).toInt = v := ⟨_, rfl⟩
  have rv1 : -2147483648 ≤ v1 ∧ v1 < 2147483648 := by rw [← ev1]; exact ⟨Int32.le_toInt _, Int32.toInt_lt _⟩
  obtain ⟨v2, ev2⟩ : ∃ v, (xs (i + 2)).toInt = v := ⟨_, rfl⟩
  have rv2 : -2147483648 ≤ v2 ∧ v2 < 2147483648 := by rw [← ev2]; exact ⟨Int32.le_toInt _, Int32.toInt_lt _⟩
  refine V_aload_n C dL_law_304 rfl ?_
  refine V_aload_n C dL_law_305 rfl ?_
  refine V_iload C dL_law_306 rfl ?_
  refine V_iconst C dL_law_308 ?_
  refine V_iadd C dL_law_309 ?_
  refine V_sld C hX hbl hbA (by omega) (by omega) (show _ = i + 1 by omega) ev1 dL_law_310 ?_
  refine V_aload_n C dL_law_311 rfl ?_
  refine V_iload C dL_law_312 rfl ?_
  refine V_iconst C dL_law_314 ?_
  refine V_iadd C dL_law_315 ?_
  refine V_sld C hX hbl hbA (by omega) (by omega) (show _ = i + 2 by omega) ev2 dL_law_316 ?_
  refine V_aload_n C dL_law_317 rfl ?_
  refine V_callW (fr := 8) (lo := 132) (mc := 2) (ms := 12) (As := [_, _, _, _]) C ywL_later w_533 dL_law_318 rfl rfl (Nat.le_of_ble_eq_true rfl) ⟨Nat.le_of_ble_eq_true rfl, Nat.le_of_ble_eq_true rfl⟩ ⟨by show _ + 2 ≤ 601024; omega, by show _ + 12 ≤ 7293034; omega⟩ ?_
  refine ok_L_later (g9 := g9) (G9 := fun a M2 => ((0 ≤ v1 ∧ v1 ≤ 18262) ∧ 0 ≤ v2 ∧ v2 ≤ 300) ∧ a = later v1 v2 ∧ Sm M M2 (fun q => q < 331) ∧ DockAt cy z M2 x) (GX := fun E => ¬ ((0 ≤ v1 ∧ v1 ≤ 18262) ∧ 0 ≤ v2 ∧ v2 ≤ 300) ∧ E = eA) hD.2.1 (by omega) (fun h hx => ok_X6_later hD hDI hlt rv1 rv2 (fun o => h _ M ⟨o, rfl, Sm.rf _ _, hD⟩) (fun o => hx _ ⟨o, rfl⟩)) (fun a M2 hg => ?_) (fun E hE => ?_)
  · rcases hg with ⟨hc, rfl, s2, d2⟩
    · refine ⟨(s2.2 _ (by omega)).trans h338, by have := s2.1; omega, ?_⟩
      refine V_memgen (fun M3 em3 => ?_)
      obtain ⟨l3, x3, e8, e9, sA⟩ := law_mid hI s2 em3
      clear em3
      obtain ⟨gn, g0, g1, g2, g3, g4, g5, g6⟩ := id x3
      refine V_istore C dL_law_321 (by decide) ?_
      refine V_aload_n C dL_law_323 rfl ?_
      refine V_aload_n C dL_law_324 rfl ?_
      refine V_iload C dL_law_325 rfl ?_
      refine V_iconst C dL_law_327 ?_
      refine V_iadd C dL_law_328 ?_
      refine V_sld C hX hbl hbA (by omega) (by omega) (show _ = i + 1 by omega) ev1 dL_law_329 ?_
      refine V_aload_n C dL_law_330 rfl ?_
      refine V_iload C dL_law_331 rfl ?_
      refine V_iconst C dL_law_333 ?_
      refine V_iadd C dL_law_334 ?_
      refine V_sld C hX hbl hbA (by omega) (by omega) (show _ = i + 2 by omega) ev2 dL_law_335 ?_
      refine V_callV (fr := 4) (lo := 90) (mc := 0) (ms := 0) (As := [_, _]) C yvX7_later w_882 dL_law_336 rfl rfl (by repeat (first | with_reducible assumption | with_reducible exact mset_self _ _ _ | refine (mset_ne (by omega)).trans ?_)) (by (try simp only [mset_1]); omega) rfl rfl (Nat.le_of_ble_eq_true rfl) ⟨Nat.le_of_ble_eq_true rfl, Nat.le_of_ble_eq_true rfl⟩ ⟨by show _ + 0 ≤ 601024; omega, by show _ + 0 ≤ 7293034; omega⟩ ?_
      refine ok_X7_later x3 rw9 hB rI rv1 rv2 (fun o => absurd hc o) (fun _ M4 u4 fr4 tl4 s4 x4 a4 b4 c4 => ?_)
      obtain ⟨gn, g0, g1, g2, g3, g4, g5, g6⟩ := id x4
      have f8 := (s4.2 338 (fun o => by have := o.2; omega)).trans e8
      have f9 := (s4.2 339 (fun o => by have := o.2; omega)).trans e9
      have f1 := s4.1.trans l3
      refine V_istore C dL_law_339 (by decide) ?_
      refine V_aload_n C dL_law_341 rfl ?_
      refine V_callV (fr := 0) (lo := 0) (mc := 0) (ms := 0) (As := []) C yvX7_thrown w_841 dL_law_342 rfl rfl (by repeat (first | with_reducible assumption | with_reducible exact mset_self _ _ _ | refine (mset_ne (by omega)).trans ?_)) (by (try simp only [mset_1]); omega) rfl rfl (Nat.le_of_ble_eq_true rfl) ⟨Nat.le_of_ble_eq_true rfl, Nat.le_of_ble_eq_true rfl⟩ ⟨by show _ + 0 ≤ 601024; omega, by show _ + 0 ≤ 7293034; omega⟩ ?_
      refine ok_X7_thrown x4 ?_
      rw [b4]
      refine V_iload C dL_law_345 rfl ?_
      refine V_icmp_eq C dL_law_347 (tgt := 352) (by decide) (by omega) (by omega) (fun g347 => ?_) (fun g347 => ?_)
      · refine V_iload C dL_law_352 rfl ?_
        refine V_if_ne C dL_law_354 (tgt := 369) (by decide) (by omega) (fun g354 => ?_) (fun g354 => ?_)
        · exact absurd rfl g354
        · refine V_aload_n C dL_law_357 rfl ?_
          refine V_iconst C dL_law_358 ?_
          refine V_laload C dL_law_359 f8 (by (try simp only [mset_1]); omega) (by omega) (by omega) ?_
          refine V_iload C dL_law_360 rfl ?_
          refine V_i2lw C dL_law_362 ?_
          refine V_lcmp0 C (congrArg lgv (up_s _ 0 _).symm) dL_law_363 ?_
          refine V_ifeq0 C dL_law_364 (tgt := 369) (by decide) ?_
          refine V_goto C dL_law_369 (tgt := 1689) (by decide) ?_
          refine V_lv [(0, .ref b), (1, .ref (z + 0)), (2, .ref (z + 331)), (3, .ref (z + 338)), (4, .ref (z + 339)), (5, iv (i : Int))] (List.forall_mem_cons.mpr ⟨(by first | rfl | exact congrArg (fun t => some (iv t)) (by omega)), (List.forall_mem_cons.mpr ⟨(by first | rfl | exact congrArg (fun t => some (iv t)) (by omega)), (List.forall_mem_cons.mpr ⟨(by first | rfl | exact congrArg (fun t => some (iv t)) (by omega)), (List.forall_mem_cons.mpr ⟨(by first | rfl | exact congrArg (fun t => some (iv t)) (by omega)), (List.forall_mem_cons.mpr ⟨(by first | rfl | exact congrArg (fun t => some (iv t)) (by omega)), (List.forall_mem_cons.mpr ⟨(by first | rfl | exact congrArg (fun t => some (iv t)) (by omega)), (fun _ h => nomatch h)⟩)⟩)⟩)⟩)⟩)⟩) ?_
          refine V_widen (k := cells + 4) (n := slots + 24) (by omega) (by omega) ?_
          exact hk _ (LawE.mk d2 sA s4 l3 e8 e9 x4 hDI (hR.same a4 c4))
      · exact absurd rfl g347
  · rcases hE with ⟨hc, rfl⟩
    · refine ⟨rfl, ?_⟩
      have x3 := hM
      have l3 := hM1
      have e8 := h338
      have e9 := h339
      have s2 : Sm M M (fun j => j < 331) := Sm.rf _ _
      have sA : Sm M M (fun j => 331 ≤ j) := Sm.rf _ _
      have d2 := hD
      obtain ⟨gn, g0, g1, g2, g3, g4, g5, g6⟩ := id x3
      refine V_istore C dL_law_321 (by decide) ?_
      refine V_aload_n C dL_law_323 rfl ?_
      refine V_aload_n C dL_law_324 rfl ?_
      refine V_iload C dL_law_325 rfl ?_
      refine V_iconst C dL_law_327 ?_
      refine V_iadd C dL_law_328 ?_
      refine V_sld C hX hbl hbA (by omega) (by omega) (show _ = i + 1 by omega) ev1 dL_law_329 ?_
      refine V_aload_n C dL_law_330 rfl ?_
      refine V_iload C dL_law_331 rfl ?_
      refine V_iconst C dL_law_333 ?_
      refine V_iadd C dL_law_334 ?_
      refine V_sld C hX hbl hbA (by omega) (by omega) (show _ = i + 2 by omega) ev2 dL_law_335 ?_
      refine V_callV (fr := 4) (lo := 90) (mc := 0) (ms := 0) (As := [_, _]) C yvX7_later w_882 dL_law_336 rfl rfl (by repeat (first | with_reducible assumption | with_reducible exact mset_self _ _ _ | refine (mset_ne (by omega)).trans ?_)) (by (try simp only [mset_1]); omega) rfl rfl (Nat.le_of_ble_eq_true rfl) ⟨Nat.le_of_ble_eq_true rfl, Nat.le_of_ble_eq_true rfl⟩ ⟨by show _ + 0 ≤ 601024; omega, by show _ + 0 ≤ 7293034; omega⟩ ?_
      refine ok_X7_later x3 rw9 hB rI rv1 rv2 (fun _ M4 u4 fr4 tl4 s4 x4 a4 b4 c4 => ?_) (fun o => absurd o hc)
      obtain ⟨gn, g0, g1, g2, g3, g4, g5, g6⟩ := id x4
      have f8 := (s4.2 338 (fun o => by have := o.2; omega)).trans e8
      have f9 := (s4.2 339 (fun o => by have := o.2; omega)).trans e9
      have f1 := s4.1.trans l3
      refine V_istore C dL_law_339 (by decide) ?_
      refine V_aload_n C dL_law_341 rfl ?_
      refine V_callV (fr := 0) (lo := 0) (mc := 0) (ms := 0) (As := []) C yvX7_thrown w_841 dL_law_342 rfl rfl (by repeat (first | with_reducible assumption | with_reducible exact mset_self _ _ _ | refine (mset_ne (by omega)).trans ?_)) (by (try simp only [mset_1]); omega) rfl rfl (Nat.le_of_ble_eq_true rfl) ⟨Nat.le_of_ble_eq_true rfl, Nat.le_of_ble_eq_true rfl⟩ ⟨by show _ + 0 ≤ 601024; omega, by show _ + 0 ≤ 7293034; omega⟩ ?_
      refine ok_X7_thrown x4 ?_
      rw [b4]
      refine V_iload C dL_law_345 rfl ?_
      refine V_icmp_eq C dL_law_347 (tgt := 352) (by decide) (by omega) (by omega) (fun g347 => ?_) (fun g347 => ?_)
      · refine V_iload C dL_law_352 rfl ?_
        refine V_if_ne C dL_law_354 (tgt := 369) (by decide) (by omega) (fun g354 => ?_) (fun g354 => ?_)
        · refine V_goto C dL_law_369 (tgt := 1689) (by decide) ?_
          refine V_lv [(0, .ref b), (1, .ref (z + 0)), (2, .ref (z + 331)), (3, .ref (z + 338)), (4, .ref (z + 339)), (5, iv (i : Int))] (List.forall_mem_cons.mpr ⟨(by first | rfl | exact congrArg (fun t => some (iv t)) (by omega)), (List.forall_mem_cons.mpr ⟨(by first | rfl | exact congrArg (fun t => some (iv t)) (by omega)), (List.forall_mem_cons.mpr ⟨(by first | rfl | exact congrArg (fun t => some (iv t)) (by omega)), (List.forall_mem_cons.mpr ⟨(by first | rfl | exact congrArg (fun t => some (iv t)) (by omega)), (List.forall_mem_cons.mpr ⟨(by first | rfl | exact congrArg (fun t => some (iv t)) (by omega)), (List.forall_mem_cons.mpr ⟨(by first | rfl | exact congrArg (fun t => some (iv t)) (by omega)), (fun _ h => nomatch h)⟩)⟩)⟩)⟩)⟩)⟩) ?_
          refine V_widen (k := cells + 4) (n := slots + 24) (by omega) (by omega) ?_
          exact hk _ (LawE.mk d2 sA s4 l3 e8 e9 x4 hDI (hR.same a4 c4))
        · exact absurd g354 (by decide)
      · exact absurd rfl g347

set_option maxHeartbeats 1000000 in
set_option maxRecDepth 4000 in
theorem law_c3 {p : Program} {l : Launch} {e : Env} {s : State} {m : MethodId} {args : Array Value} {below : List Frame} {meth : Method} {c : Code} {D : va_G} {cy : Nat → ClassId} {z : Nat} {Q : State → Prop} {cells slots : Nat} {M : Mm} (C : Cx p l s m args meth c D cy z 9 cL_law RL) (hlt : l.stackTraces = false) {b L : Nat} {xs : Nat → Int32} (hX : va_X b L xs s s.heap) (hbl : b < s.heap.size) (hbA : ¬ z ≤ b) (hL : L ≤ 2560) {i : Nat} (hi : i + 5 ≤ L) (hcs : cells + 4 ≤ 601024 ∧ slots + 24 ≤ 7293034) {x : DD} {u N P A tx fr tl g9 : Nat → Int} {d9 : Nat → UInt64} (hI : LawI cy z M x u N P A tx fr tl g9 d9) (hk : ∀ M', LawE cy z M' → V p l e room_1 s m args below meth c D z 9 Q (cells + 4) (slots + 24) M' 1689 [(0, .ref b), (1, .ref (z + 0)), (2, .ref (z + 331)), (3, .ref (z + 338)), (4, .ref (z + 339)), (5, iv (i : Int))] []) : V p l e room_1 s m args below meth c D z 9 Q cells slots M 372 [(0, .ref b), (1, .ref (z + 0)), (2, .ref (z + 331)), (3, .ref (z + 338)), (4, .ref (z + 339)), (5, iv (i : Int))] [] := by
  obtain ⟨hD, hDI, hM, hM1, h338, h339, hR⟩ := id hI
  obtain ⟨r0, r2, rN, rV, rT⟩ := id hR
  obtain ⟨rw9, rI, rZ, rH⟩ := id rN
  have hB := hDI.1
  have hDc := hDI.2.1
  have hDt := hDI.2.2.2.1
  have hq6 := hB.2.2.1
  have hn10 := hB.2.1
  obtain ⟨v1, ev1⟩ : ∃ v, (xs (i + 1)).toInt = v := ⟨_, rfl⟩
  have rv1 : -2147483648 ≤ v1 ∧ v1 < 2147483648 := by rw [← ev1]; exact ⟨Int32.le_toInt _, Int32.toInt_lt _⟩
  refine V_aload_n C dL_law_372 rfl ?_
  refine V_aload_n C dL_law_373 rfl ?_
  refine V_iload C dL_law_374 rfl ?_
  refine V_iconst C dL_law_376 ?_
  refine V_iadd C dL_law_377 ?_
  refine V_sld C hX hbl hbA (by omega) (by omega) (show _ = i + 1 by omega) ev1 dL_law_378 ?_
  refine V_aload_n C dL_law_379 rfl ?_
  refine V_callW (fr := 8) (lo := 131) (mc := 1) (ms := 6) (As := [_, _, _]) C ywL_putOff w_541 dL_law_380 rfl rfl (Nat.le_of_ble_eq_true rfl) ⟨Nat.le_of_ble_eq_true rfl, Nat.le_of_ble_eq_true rfl⟩ ⟨by show _ + 1 ≤ 601024; omega, by show _ + 6 ≤ 7293034; omega⟩ ?_
  refine ok_L_putOff (g9 := g9) (G9 := fun a M2 => (0 ≤ v1 ∧ v1 ≤ 28854) ∧ a = pf (Hf (xS x)) v1 ∧ Sm M M2 (fun q => q < 331) ∧ DockAt cy z M2 x) (GX := fun E => ¬ (0 ≤ v1 ∧ v1 ≤ 28854) ∧ E = eA) hD.2.1 (by omega) (fun h hx => ok_X6_putOff hD hDI hlt rv1 (fun o => h _ M ⟨o, rfl, Sm.rf _ _, hD⟩) (fun o => hx _ ⟨o, rfl⟩)) (fun a M2 hg => ?_) (fun E hE => ?_)
  · rcases hg with ⟨hc, rfl, s2, d2⟩
    · refine ⟨(s2.2 _ (by omega)).trans h338, by have := s2.1; omega, ?_⟩
      refine V_memgen (fun M3 em3 => ?_)
      obtain ⟨l3, x3, e8, e9, sA⟩ := law_mid hI s2 em3
      clear em3
      obtain ⟨gn, g0, g1, g2, g3, g4, g5, g6⟩ := id x3
      refine V_istore C dL_law_383 (by decide) ?_
      refine V_aload_n C dL_law_385 rfl ?_
      refine V_aload_n C dL_law_386 rfl ?_
      refine V_iload C dL_law_387 rfl ?_
      refine V_iconst C dL_law_389 ?_
      refine V_iadd C dL_law_390 ?_
      refine V_sld C hX hbl hbA (by omega) (by omega) (show _ = i + 1 by omega) ev1 dL_law_391 ?_
      refine V_callV (fr := 4) (lo := 86) (mc := 0) (ms := 0) (As := [_]) C yvX7_putOff w_889 dL_law_392 rfl rfl (by repeat (first | with_reducible assumption | with_reducible exact mset_self _ _ _ | refine (mset_ne (by omega)).trans ?_)) (by (try simp only [mset_1]); omega) rfl rfl (Nat.le_of_ble_eq_true rfl) ⟨Nat.le_of_ble_eq_true rfl, Nat.le_of_ble_eq_true rfl⟩ ⟨by show _ + 0 ≤ 601024; omega, by show _ + 0 ≤ 7293034; omega⟩ ?_
      refine ok_X7_putOff x3 rw9 hB rI rv1 (fun o => absurd hc o) (fun _ M4 u4 fr4 tl4 s4 x4 a4 b4 c4 => ?_)
      obtain ⟨gn, g0, g1, g2, g3, g4, g5, g6⟩ := id x4
      have f8 := (s4.2 338 (fun o => by have := o.2; omega)).trans e8
      have f9 := (s4.2 339 (fun o => by have := o.2; omega)).trans e9
      have f1 := s4.1.trans l3
      refine V_istore C dL_law_395 (by decide) ?_
      refine V_aload_n C dL_law_397 rfl ?_
      refine V_callV (fr := 0) (lo := 0) (mc := 0) (ms := 0) (As := []) C yvX7_thrown w_841 dL_law_398 rfl rfl (by repeat (first | with_reducible assumption | with_reducible exact mset_self _ _ _ | refine (mset_ne (by omega)).trans ?_)) (by (try simp only [mset_1]); omega) rfl rfl (Nat.le_of_ble_eq_true rfl) ⟨Nat.le_of_ble_eq_true rfl, Nat.le_of_ble_eq_true rfl⟩ ⟨by show _ + 0 ≤ 601024; omega, by show _ + 0 ≤ 7293034; omega⟩ ?_
      refine ok_X7_thrown x4 ?_
      rw [b4]
      refine V_iload C dL_law_401 rfl ?_
      refine V_icmp_eq C dL_law_403 (tgt := 408) (by decide) (by omega) (by omega) (fun g403 => ?_) (fun g403 => ?_)
      · refine V_iload C dL_law_408 rfl ?_
        refine V_if_ne C dL_law_410 (tgt := 425) (by decide) (by omega) (fun g410 => ?_) (fun g410 => ?_)
        · exact absurd rfl g410
        · refine V_aload_n C dL_law_413 rfl ?_
          refine V_iconst C dL_law_414 ?_
          refine V_laload C dL_law_415 f8 (by (try simp only [mset_1]); omega) (by omega) (by omega) ?_
          refine V_iload C dL_law_416 rfl ?_
          refine V_i2lw C dL_law_418 ?_
          refine V_lcmp0 C (congrArg lgv (up_s _ 0 _).symm) dL_law_419 ?_
          refine V_ifeq0 C dL_law_420 (tgt := 425) (by decide) ?_
          refine V_goto C dL_law_425 (tgt := 1689) (by decide) ?_
          refine V_lv [(0, .ref b), (1, .ref (z + 0)), (2, .ref (z + 331)), (3, .ref (z + 338)), (4, .ref (z + 339)), (5, iv (i : Int))] (List.forall_mem_cons.mpr ⟨(by first | rfl | exact congrArg (fun t => some (iv t)) (by omega)), (List.forall_mem_cons.mpr ⟨(by first | rfl | exact congrArg (fun t => some (iv t)) (by omega)), (List.forall_mem_cons.mpr ⟨(by first | rfl | exact congrArg (fun t => some (iv t)) (by omega)), (List.forall_mem_cons.mpr ⟨(by first | rfl | exact congrArg (fun t => some (iv t)) (by omega)), (List.forall_mem_cons.mpr ⟨(by first | rfl | exact congrArg (fun t => some (iv t)) (by omega)), (List.forall_mem_cons.mpr ⟨(by first | rfl | exact congrArg (fun t => some (iv t)) (by omega)), (fun _ h => nomatch h)⟩)⟩)⟩)⟩)⟩)⟩) ?_
          refine V_widen (k := cells + 4) (n := slots + 24) (by omega) (by omega) ?_
          exact hk _ (LawE.mk d2 sA s4 l3 e8 e9 x4 hDI (hR.same a4 c4))
      · exact absurd rfl g403
  · rcases hE with ⟨hc, rfl⟩
    · refine ⟨rfl, ?_⟩
      have x3 := hM
      have l3 := hM1
      have e8 := h338
      have e9 := h339
      have s2 : Sm M M (fun j => j < 331) := Sm.rf _ _
      have sA : Sm M M (fun j => 331 ≤ j) := Sm.rf _ _
      have d2 := hD
      obtain ⟨gn, g0, g1, g2, g3, g4, g5, g6⟩ := id x3
      refine V_istore C dL_law_383 (by decide) ?_
      refine V_aload_n C dL_law_385 rfl ?_
      refine V_aload_n C dL_law_386 rfl ?_
      refine V_iload C dL_law_387 rfl ?_
      refine V_iconst C dL_law_389 ?_
      refine V_iadd C dL_law_390 ?_
      refine V_sld C hX hbl hbA (by omega) (by omega) (show _ = i + 1 by omega) ev1 dL_law_391 ?_
      refine V_callV (fr := 4) (lo := 86) (mc := 0) (ms := 0) (As := [_]) C yvX7_putOff w_889 dL_law_392 rfl rfl (by repeat (first | with_reducible assumption | with_reducible exact mset_self _ _ _ | refine (mset_ne (by omega)).trans ?_)) (by (try simp only [mset_1]); omega) rfl rfl (Nat.le_of_ble_eq_true rfl) ⟨Nat.le_of_ble_eq_true rfl, Nat.le_of_ble_eq_true rfl⟩ ⟨by show _ + 0 ≤ 601024; omega, by show _ + 0 ≤ 7293034; omega⟩ ?_
      refine ok_X7_putOff x3 rw9 hB rI rv1 (fun _ M4 u4 fr4 tl4 s4 x4 a4 b4 c4 => ?_) (fun o => absurd o hc)
      obtain ⟨gn, g0, g1, g2, g3, g4, g5, g6⟩ := id x4
      have f8 := (s4.2 338 (fun o => by have := o.2; omega)).trans e8
      have f9 := (s4.2 339 (fun o => by have := o.2; omega)).trans e9
      have f1 := s4.1.trans l3
      refine V_istore C dL_law_395 (by decide) ?_
      refine V_aload_n C dL_law_397 rfl ?_
      refine V_callV (fr := 0) (lo := 0) (mc := 0) (ms := 0) (As := []) C yvX7_thrown w_841 dL_law_398 rfl rfl (by repeat (first | with_reducible assumption | with_reducible exact mset_self _ _ _ | refine (mset_ne (by omega)).trans ?_)) (by (try simp only [mset_1]); omega) rfl rfl (Nat.le_of_ble_eq_true rfl) ⟨Nat.le_of_ble_eq_true rfl, Nat.le_of_ble_eq_true rfl⟩ ⟨by show _ + 0 ≤ 601024; omega, by show _ + 0 ≤ 7293034; omega⟩ ?_
      refine ok_X7_thrown x4 ?_
      rw [b4]
      refine V_iload C dL_law_401 rfl ?_
      refine V_icmp_eq C dL_law_403 (tgt := 408) (by decide) (by omega) (by omega) (fun g403 => ?_) (fun g403 => ?_)
      · refine V_iload C dL_law_408 rfl ?_
        refine V_if_ne C dL_law_410 (tgt := 425) (by decide) (by omega) (fun g410 => ?_) (fun g410 => ?_)
        · refine V_goto C dL_law_425 (tgt := 1689) (by decide) ?_
          refine V_lv [(0, .ref b), (1, .ref (z + 0)), (2, .ref (z + 331)), (3, .ref (z + 338)), (4, .ref (z + 339)), (5, iv (i : Int))] (List.forall_mem_cons.mpr ⟨(by first | rfl | exact congrArg (fun t => some (iv t)) (by omega)), (List.forall_mem_cons.mpr ⟨(by first | rfl | exact congrArg (fun t => some (iv t)) (by omega)), (List.forall_mem_cons.mpr ⟨(by first | rfl | exact congrArg (fun t => some (iv t)) (by omega)), (List.forall_mem_cons.mpr ⟨(by first | rfl | exact congrArg (fun t => some (iv t)) (by omega)), (List.forall_mem_cons.mpr ⟨(by first | rfl | exact congrArg (fun t => some (iv t)) (by omega)), (List.forall_mem_cons.mpr ⟨(by first | rfl | exact congrArg (fun t => some (iv t)) (by omega)), (fun _ h => nomatch h)⟩)⟩)⟩)⟩)⟩)⟩) ?_
          refine V_widen (k := cells + 4) (n := slots + 24) (by omega) (by omega) ?_
          exact hk _ (LawE.mk d2 sA s4 l3 e8 e9 x4 hDI (hR.same a4 c4))
        · exact absurd g410 (by decide)
      · exact absurd rfl g403

set_option maxHeartbeats 1000000 in
set_option maxRecDepth 4000 in
theorem law_c17 {p : Program} {l : Launch} {e : Env} {s : State} {m : MethodId} {args : Array Value} {below : List Frame} {meth : Method} {c : Code} {D : va_G} {cy : Nat → ClassId} {z : Nat} {Q : State → Prop} {cells slots : Nat} {M : Mm} (C : Cx p l s m args meth c D cy z 9 cL_law RL) (hlt : l.stackTraces = false) {b L : Nat} {xs : Nat → Int32} (hX : va_X b L xs s s.heap) (hbl : b < s.heap.size) (hbA : ¬ z ≤ b) (hL : L ≤ 2560) {i : Nat} (hi : i + 5 ≤ L) (hcs : cells + 4 ≤ 601024 ∧ slots + 24 ≤ 7293034) {x : DD} {u N P A tx fr tl g9 : Nat → Int} {d9 : Nat → UInt64} (hI : LawI cy z M x u N P A tx fr tl g9 d9) (hk : ∀ M', LawE cy z M' → V p l e room_1 s m args below meth c D z 9 Q (cells + 4) (slots + 24) M' 1689 [(0, .ref b), (1, .ref (z + 0)), (2, .ref (z + 331)), (3, .ref (z + 338)), (4, .ref (z + 339)), (5, iv (i : Int))] []) : V p l e room_1 s m args below meth c D z 9 Q cells slots M 1291 [(0, .ref b), (1, .ref (z + 0)), (2, .ref (z + 331)), (3, .ref (z + 338)), (4, .ref (z + 339)), (5, iv (i : Int))] [] := by
  obtain ⟨hD, hDI, hM, hM1, h338, h339, hR⟩ := id hI
  obtain ⟨r0, r2, rN, rV, rT⟩ := id hR
  obtain ⟨rw9, rI, rZ, rH⟩ := id rN
  have hB := hDI.1
  have hDc := hDI.2.1
  have hDt := hDI.2.2.2.1
  have hq6 := hB.2.2.1
  have hn10 := hB.2.1
  obtain ⟨v1, ev1⟩ : ∃ v, (xs (i + 1)).toInt = v := ⟨_, rfl⟩
  have rv1 : -2147483648 ≤ v1 ∧ v1 < 2147483648 := by rw [← ev1]; exact ⟨Int32.le_toInt _, Int32.toInt_lt _⟩
  refine V_aload_n C dL_law_1291 rfl ?_
  refine V_aload_n C dL_law_1292 rfl ?_
  refine V_iload C dL_law_1293 rfl ?_
  refine V_iconst C dL_law_1295 ?_
  refine V_iadd C dL_law_1296 ?_
  refine V_sld C hX hbl hbA (by omega) (by omega) (show _ = i + 1 by omega) ev1 dL_law_1297 ?_
  refine V_aload_n C dL_law_1298 rfl ?_
  refine V_callW (fr := 8) (lo := 131) (mc := 1) (ms := 6) (As := [_, _, _]) C ywL_value w_728 dL_law_1299 rfl rfl (Nat.le_of_ble_eq_true rfl) ⟨Nat.le_of_ble_eq_true rfl, Nat.le_of_ble_eq_true rfl⟩ ⟨by show _ + 1 ≤ 601024; omega, by show _ + 6 ≤ 7293034; omega⟩ ?_
  refine ok_L_value (g9 := g9) (G9 := fun a M2 => (0 ≤ v1 ∧ v1 ≤ 11) ∧ a = dvT (xS x) v1 ∧ Sm M M2 (fun q => q < 331) ∧ DockAt cy z M2 x) (GX := fun E => ¬ (0 ≤ v1 ∧ v1 ≤ 11) ∧ E = eA) hD.2.1 (by omega) (fun h hx => ok_X6_value hD hDI hlt rv1 (fun o => h _ M ⟨o, rfl, Sm.rf _ _, hD⟩) (fun o => hx _ ⟨o, rfl⟩)) (fun a M2 hg => ?_) (fun E hE => ?_)
  · rcases hg with ⟨hc, rfl, s2, d2⟩
    · refine ⟨(s2.2 _ (by omega)).trans h338, by have := s2.1; omega, ?_⟩
      refine V_memgen (fun M3 em3 => ?_)
      obtain ⟨l3, x3, e8, e9, sA⟩ := law_mid hI s2 em3
      clear em3
      obtain ⟨gn, g0, g1, g2, g3, g4, g5, g6⟩ := id x3
      refine V_istore C dL_law_1302 (by decide) ?_
      refine V_aload_n C dL_law_1304 rfl ?_
      refine V_aload_n C dL_law_1305 rfl ?_
      refine V_iload C dL_law_1306 rfl ?_
      refine V_iconst C dL_law_1308 ?_
      refine V_iadd C dL_law_1309 ?_
      refine V_sld C hX hbl hbA (by omega) (by omega) (show _ = i + 1 by omega) ev1 dL_law_1310 ?_
      refine V_callV (fr := 9) (lo := 197) (mc := 0) (ms := 0) (As := [_]) C yvX7_value w_1062 dL_law_1311 rfl rfl (by repeat (first | with_reducible assumption | with_reducible exact mset_self _ _ _ | refine (mset_ne (by omega)).trans ?_)) (by (try simp only [mset_1]); omega) rfl rfl (Nat.le_of_ble_eq_true rfl) ⟨Nat.le_of_ble_eq_true rfl, Nat.le_of_ble_eq_true rfl⟩ ⟨by show _ + 0 ≤ 601024; omega, by show _ + 0 ≤ 7293034; omega⟩ ?_
      refine ok_X7_value x3 rw9 hB rI rv1 (fun o => absurd hc o) (fun _ M4 u4 fr4 tl4 s4 x4 a4 b4 c4 => ?_)
      obtain ⟨gn, g0, g1, g2, g3, g4, g5, g6⟩ := id x4
      have f8 := (s4.2 338 (fun o => by have := o.2; omega)).trans e8
      have f9 := (s4.2 339 (fun o => by have := o.2; omega)).trans e9
      have f1 := s4.1.trans l3
      refine V_istore C dL_law_1314 (by decide) ?_
      refine V_aload_n C dL_law_1316 rfl ?_
      refine V_callV (fr := 0) (lo := 0) (mc := 0) (ms := 0) (As := []) C yvX7_thrown w_841 dL_law_1317 rfl rfl (by repeat (first | with_reducible assumption | with_reducible exact mset_self _ _ _ | refine (mset_ne (by omega)).trans ?_)) (by (try simp only [mset_1]); omega) rfl rfl (Nat.le_of_ble_eq_true rfl) ⟨Nat.le_of_ble_eq_true rfl, Nat.le_of_ble_eq_true rfl⟩ ⟨by show _ + 0 ≤ 601024; omega, by show _ + 0 ≤ 7293034; omega⟩ ?_
      refine ok_X7_thrown x4 ?_
      rw [b4]
      refine V_iload C dL_law_1320 rfl ?_
      refine V_icmp_eq C dL_law_1322 (tgt := 1327) (by decide) (by omega) (by omega) (fun g1322 => ?_) (fun g1322 => ?_)
      · refine V_iload C dL_law_1327 rfl ?_
        refine V_if_ne C dL_law_1329 (tgt := 1344) (by decide) (by omega) (fun g1329 => ?_) (fun g1329 => ?_)
        · exact absurd rfl g1329
        · refine V_aload_n C dL_law_1332 rfl ?_
          refine V_iconst C dL_law_1333 ?_
          refine V_laload C dL_law_1334 f8 (by (try simp only [mset_1]); omega) (by omega) (by omega) ?_
          refine V_iload C dL_law_1335 rfl ?_
          refine V_i2lw C dL_law_1337 ?_
          refine V_lcmp0 C (congrArg lgv (up_s _ 0 _).symm) dL_law_1338 ?_
          refine V_ifeq0 C dL_law_1339 (tgt := 1344) (by decide) ?_
          refine V_goto C dL_law_1344 (tgt := 1689) (by decide) ?_
          refine V_lv [(0, .ref b), (1, .ref (z + 0)), (2, .ref (z + 331)), (3, .ref (z + 338)), (4, .ref (z + 339)), (5, iv (i : Int))] (List.forall_mem_cons.mpr ⟨(by first | rfl | exact congrArg (fun t => some (iv t)) (by omega)), (List.forall_mem_cons.mpr ⟨(by first | rfl | exact congrArg (fun t => some (iv t)) (by omega)), (List.forall_mem_cons.mpr ⟨(by first | rfl | exact congrArg (fun t => some (iv t)) (by omega)), (List.forall_mem_cons.mpr ⟨(by first | rfl | exact congrArg (fun t => some (iv t)) (by omega)), (List.forall_mem_cons.mpr ⟨(by first | rfl | exact congrArg (fun t => some (iv t)) (by omega)), (List.forall_mem_cons.mpr ⟨(by first | rfl | exact congrArg (fun t => some (iv t)) (by omega)), (fun _ h => nomatch h)⟩)⟩)⟩)⟩)⟩)⟩) ?_
          refine V_widen (k := cells + 4) (n := slots + 24) (by omega) (by omega) ?_
          exact hk _ (LawE.mk d2 sA s4 l3 e8 e9 x4 hDI (hR.same a4 c4))
      · exact absurd rfl g1322
  · rcases hE with ⟨hc, rfl⟩
    · refine ⟨rfl, ?_⟩
      have x3 := hM
      have l3 := hM1
      have e8 := h338
      have e9 := h339
      have s2 : Sm M M (fun j => j < 331) := Sm.rf _ _
      have sA : Sm M M (fun j => 331 ≤ j) := Sm.rf _ _
      have d2 := hD
      obtain ⟨gn, g0, g1, g2, g3, g4, g5, g6⟩ := id x3
      refine V_istore C dL_law_1302 (by decide) ?_
      refine V_aload_n C dL_law_1304 rfl ?_
      refine V_aload_n C dL_law_1305 rfl ?_
      refine V_iload C dL_law_1306 rfl ?_
      refine V_iconst C dL_law_1308 ?_
      refine V_iadd C dL_law_1309 ?_
      refine V_sld C hX hbl hbA (by omega) (by omega) (show _ = i + 1 by omega) ev1 dL_law_1310 ?_
      refine V_callV (fr := 9) (lo := 197) (mc := 0) (ms := 0) (As := [_]) C yvX7_value w_1062 dL_law_1311 rfl rfl (by repeat (first | with_reducible assumption | with_reducible exact mset_self _ _ _ | refine (mset_ne (by omega)).trans ?_)) (by (try simp only [mset_1]); omega) rfl rfl (Nat.le_of_ble_eq_true rfl) ⟨Nat.le_of_ble_eq_true rfl, Nat.le_of_ble_eq_true rfl⟩ ⟨by show _ + 0 ≤ 601024; omega, by show _ + 0 ≤ 7293034; omega⟩ ?_
      refine ok_X7_value x3 rw9 hB rI rv1 (fun _ M4 u4 fr4 tl4 s4 x4 a4 b4 c4 => ?_) (fun o => absurd o hc)
      obtain ⟨gn, g0, g1, g2, g3, g4, g5, g6⟩ := id x4
      have f8 := (s4.2 338 (fun o => by have := o.2; omega)).trans e8
      have f9 := (s4.2 339 (fun o => by have := o.2; omega)).trans e9
      have f1 := s4.1.trans l3
      refine V_istore C dL_law_1314 (by decide) ?_
      refine V_aload_n C dL_law_1316 rfl ?_
      refine V_callV (fr := 0) (lo := 0) (mc := 0) (ms := 0) (As := []) C yvX7_thrown w_841 dL_law_1317 rfl rfl (by repeat (first | with_reducible assumption | with_reducible exact mset_self _ _ _ | refine (mset_ne (by omega)).trans ?_)) (by (try simp only [mset_1]); omega) rfl rfl (Nat.le_of_ble_eq_true rfl) ⟨Nat.le_of_ble_eq_true rfl, Nat.le_of_ble_eq_true rfl⟩ ⟨by show _ + 0 ≤ 601024; omega, by show _ + 0 ≤ 7293034; omega⟩ ?_
      refine ok_X7_thrown x4 ?_
      rw [b4]
      refine V_iload C dL_law_1320 rfl ?_
      refine V_icmp_eq C dL_law_1322 (tgt := 1327) (by decide) (by omega) (by omega) (fun g1322 => ?_) (fun g1322 => ?_)
      · refine V_iload C dL_law_1327 rfl ?_
        refine V_if_ne C dL_law_1329 (tgt := 1344) (by decide) (by omega) (fun g1329 => ?_) (fun g1329 => ?_)
        · refine V_goto C dL_law_1344 (tgt := 1689) (by decide) ?_
          refine V_lv [(0, .ref b), (1, .ref (z + 0)), (2, .ref (z + 331)), (3, .ref (z + 338)), (4, .ref (z + 339)), (5, iv (i : Int))] (List.forall_mem_cons.mpr ⟨(by first | rfl | exact congrArg (fun t => some (iv t)) (by omega)), (List.forall_mem_cons.mpr ⟨(by first | rfl | exact congrArg (fun t => some (iv t)) (by omega)), (List.forall_mem_cons.mpr ⟨(by first | rfl | exact congrArg (fun t => some (iv t)) (by omega)), (List.forall_mem_cons.mpr ⟨(by first | rfl | exact congrArg (fun t => some (iv t)) (by omega)), (List.forall_mem_cons.mpr ⟨(by first | rfl | exact congrArg (fun t => some (iv t)) (by omega)), (List.forall_mem_cons.mpr ⟨(by first | rfl | exact congrArg (fun t => some (iv t)) (by omega)), (fun _ h => nomatch h)⟩)⟩)⟩)⟩)⟩)⟩) ?_
          refine V_widen (k := cells + 4) (n := slots + 24) (by omega) (by omega) ?_
          exact hk _ (LawE.mk d2 sA s4 l3 e8 e9 x4 hDI (hR.same a4 c4))
        · exact absurd g1329 (by decide)
      · exact absurd rfl g1322

set_option maxHeartbeats 1000000 in
set_option maxRecDepth 4000 in
theorem law_c19 {p : Program} {l : Launch} {e : Env} {s : State} {m : MethodId} {args : Array Value} {below : List Frame} {meth : Method} {c : Code} {D : va_G} {cy : Nat → ClassId} {z : Nat} {Q : State → Prop} {cells slots : Nat} {M : Mm} (C : Cx p l s m args meth c D cy z 9 cL_law RL) (hlt : l.stackTraces = false) {b L : Nat} {xs : Nat → Int32} (hX : va_X b L xs s s.heap) (hbl : b < s.heap.size) (hbA : ¬ z ≤ b) (hL : L ≤ 2560) {i : Nat} (hi : i + 5 ≤ L) (hcs : cells + 4 ≤ 601024 ∧ slots + 24 ≤ 7293034) {x : DD} {u N P A tx fr tl g9 : Nat → Int} {d9 : Nat → UInt64} (hI : LawI cy z M x u N P A tx fr tl g9 d9) (hk : ∀ M', LawE cy z M' → V p l e room_1 s m args below meth c D z 9 Q (cells + 4) (slots + 24) M' 1689 [(0, .ref b), (1, .ref (z + 0)), (2, .ref (z + 331)), (3, .ref (z + 338)), (4, .ref (z + 339)), (5, iv (i : Int))] []) : V p l e room_1 s m args below meth c D z 9 Q cells slots M 1360 [(0, .ref b), (1, .ref (z + 0)), (2, .ref (z + 331)), (3, .ref (z + 338)), (4, .ref (z + 339)), (5, iv (i : Int))] [] := by
  obtain ⟨hD, hDI, hM, hM1, h338, h339, hR⟩ := id hI
  obtain ⟨r0, r2, rN, rV, rT⟩ := id hR
  obtain ⟨rw9, rI, rZ, rH⟩ := id rN
  have hB := hDI.1
  have hDc := hDI.2.1
  have hDt := hDI.2.2.2.1
  have hq6 := hB.2.2.1
  have hn10 := hB.2.1
  obtain ⟨v1, ev1⟩ : ∃ v, (xs (i + 1)).toInt = v := ⟨_, rfl⟩
  have rv1 : -2147483648 ≤ v1 ∧ v1 < 2147483648 := by rw [← ev1]; exact ⟨Int32.le_toInt _, Int32.toInt_lt _⟩
  refine V_aload_n C dL_law_1360 rfl ?_
  refine V_aload_n C dL_law_1361 rfl ?_
  refine V_iload C dL_law_1362 rfl ?_
  refine V_iconst C dL_law_1364 ?_
  refine V_iadd C dL_law_1365 ?_
  refine V_sld C hX hbl hbA (by omega) (by omega) (show _ = i + 1 by omega) ev1 dL_law_1366 ?_
  refine V_aload_n C dL_law_1367 rfl ?_
  refine V_callW (fr := 8) (lo := 135) (mc := 1) (ms := 6) (As := [_, _, _]) C ywL_costs w_735 dL_law_1368 rfl rfl (Nat.le_of_ble_eq_true rfl) ⟨Nat.le_of_ble_eq_true rfl, Nat.le_of_ble_eq_true rfl⟩ ⟨by show _ + 1 ≤ 601024; omega, by show _ + 6 ≤ 7293034; omega⟩ ?_
  refine ok_L_costs (g9 := g9) (G9 := fun a M2 => (0 ≤ v1 ∧ v1 ≤ 4000) ∧ a = cstW (xS x) v1 (sN (xS x)) ∧ Sm M M2 (fun q => q < 331) ∧ DockAt cy z M2 x) (GX := fun E => ¬ (0 ≤ v1 ∧ v1 ≤ 4000) ∧ E = eA) hD.2.1 (by omega) (fun h hx => ok_X6_costs hD hDI hlt rv1 (fun o => h _ M ⟨o, rfl, Sm.rf _ _, hD⟩) (fun o => hx _ ⟨o, rfl⟩)) (fun a M2 hg => ?_) (fun E hE => ?_)
  · rcases hg with ⟨hc, rfl, s2, d2⟩
    · refine ⟨(s2.2 _ (by omega)).trans h338, by have := s2.1; omega, ?_⟩
      refine V_memgen (fun M3 em3 => ?_)
      obtain ⟨l3, x3, e8, e9, sA⟩ := law_mid hI s2 em3
      clear em3
      obtain ⟨gn, g0, g1, g2, g3, g4, g5, g6⟩ := id x3
      refine V_istore C dL_law_1371 (by decide) ?_
      refine V_aload_n C dL_law_1373 rfl ?_
      refine V_aload_n C dL_law_1374 rfl ?_
      refine V_iload C dL_law_1375 rfl ?_
      refine V_iconst C dL_law_1377 ?_
      refine V_iadd C dL_law_1378 ?_
      refine V_sld C hX hbl hbA (by omega) (by omega) (show _ = i + 1 by omega) ev1 dL_law_1379 ?_
      refine V_callV (fr := 6) (lo := 138) (mc := 0) (ms := 0) (As := [_]) C yvX7_costs w_1082 dL_law_1380 rfl rfl (by repeat (first | with_reducible assumption | with_reducible exact mset_self _ _ _ | refine (mset_ne (by omega)).trans ?_)) (by (try simp only [mset_1]); omega) rfl rfl (Nat.le_of_ble_eq_true rfl) ⟨Nat.le_of_ble_eq_true rfl, Nat.le_of_ble_eq_true rfl⟩ ⟨by show _ + 0 ≤ 601024; omega, by show _ + 0 ≤ 7293034; omega⟩ ?_
      refine ok_X7_costs x3 rw9 hB rI rv1 (fun o => absurd hc o) (fun _ M4 u4 fr4 tl4 s4 x4 a4 b4 c4 => ?_)
      obtain ⟨gn, g0, g1, g2, g3, g4, g5, g6⟩ := id x4
      have f8 := (s4.2 338 (fun o => by have := o.2; omega)).trans e8
      have f9 := (s4.2 339 (fun o => by have := o.2; omega)).trans e9
      have f1 := s4.1.trans l3
      refine V_istore C dL_law_1383 (by decide) ?_
      refine V_aload_n C dL_law_1385 rfl ?_
      refine V_callV (fr := 0) (lo := 0) (mc := 0) (ms := 0) (As := []) C yvX7_thrown w_841 dL_law_1386 rfl rfl (by repeat (first | with_reducible assumption | with_reducible exact mset_self _ _ _ | refine (mset_ne (by omega)).trans ?_)) (by (try simp only [mset_1]); omega) rfl rfl (Nat.le_of_ble_eq_true rfl) ⟨Nat.le_of_ble_eq_true rfl, Nat.le_of_ble_eq_true rfl⟩ ⟨by show _ + 0 ≤ 601024; omega, by show _ + 0 ≤ 7293034; omega⟩ ?_
      refine ok_X7_thrown x4 ?_
      rw [b4]
      refine V_iload C dL_law_1389 rfl ?_
      refine V_icmp_eq C dL_law_1391 (tgt := 1396) (by decide) (by omega) (by omega) (fun g1391 => ?_) (fun g1391 => ?_)
      · refine V_iload C dL_law_1396 rfl ?_
        refine V_if_ne C dL_law_1398 (tgt := 1413) (by decide) (by omega) (fun g1398 => ?_) (fun g1398 => ?_)
        · exact absurd rfl g1398
        · refine V_aload_n C dL_law_1401 rfl ?_
          refine V_iconst C dL_law_1402 ?_
          refine V_laload C dL_law_1403 f8 (by (try simp only [mset_1]); omega) (by omega) (by omega) ?_
          refine V_iload C dL_law_1404 rfl ?_
          refine V_i2lw C dL_law_1406 ?_
          refine V_lcmp0 C (congrArg lgv (up_s _ 0 _).symm) dL_law_1407 ?_
          refine V_ifeq0 C dL_law_1408 (tgt := 1413) (by decide) ?_
          refine V_goto C dL_law_1413 (tgt := 1689) (by decide) ?_
          refine V_lv [(0, .ref b), (1, .ref (z + 0)), (2, .ref (z + 331)), (3, .ref (z + 338)), (4, .ref (z + 339)), (5, iv (i : Int))] (List.forall_mem_cons.mpr ⟨(by first | rfl | exact congrArg (fun t => some (iv t)) (by omega)), (List.forall_mem_cons.mpr ⟨(by first | rfl | exact congrArg (fun t => some (iv t)) (by omega)), (List.forall_mem_cons.mpr ⟨(by first | rfl | exact congrArg (fun t => some (iv t)) (by omega)), (List.forall_mem_cons.mpr ⟨(by first | rfl | exact congrArg (fun t => some (iv t)) (by omega)), (List.forall_mem_cons.mpr ⟨(by first | rfl | exact congrArg (fun t => some (iv t)) (by omega)), (List.forall_mem_cons.mpr ⟨(by first | rfl | exact congrArg (fun t => some (iv t)) (by omega)), (fun _ h => nomatch h)⟩)⟩)⟩)⟩)⟩)⟩) ?_
          refine V_widen (k := cells + 4) (n := slots + 24) (by omega) (by omega) ?_
          exact hk _ (LawE.mk d2 sA s4 l3 e8 e9 x4 hDI (hR.same a4 c4))
      · exact absurd rfl g1391
  · rcases hE with ⟨hc, rfl⟩
    · refine ⟨rfl, ?_⟩
      have x3 := hM
      have l3 := hM1
      have e8 := h338
      have e9 := h339
      have s2 : Sm M M (fun j => j < 331) := Sm.rf _ _
      have sA : Sm M M (fun j => 331 ≤ j) := Sm.rf _ _
      have d2 := hD
      obtain ⟨gn, g0, g1, g2, g3, g4, g5, g6⟩ := id x3
      refine V_istore C dL_law_1371 (by decide) ?_
      refine V_aload_n C dL_law_1373 rfl ?_
      refine V_aload_n C dL_law_1374 rfl ?_
      refine V_iload C dL_law_1375 rfl ?_
      refine V_iconst C dL_law_1377 ?_
      refine V_iadd C dL_law_1378 ?_
      refine V_sld C hX hbl hbA (by omega) (by omega) (show _ = i + 1 by omega) ev1 dL_law_1379 ?_
      refine V_callV (fr := 6) (lo := 138) (mc := 0) (ms := 0) (As := [_]) C yvX7_costs w_1082 dL_law_1380 rfl rfl (by repeat (first | with_reducible assumption | with_reducible exact mset_self _ _ _ | refine (mset_ne (by omega)).trans ?_)) (by (try simp only [mset_1]); omega) rfl rfl (Nat.le_of_ble_eq_true rfl) ⟨Nat.le_of_ble_eq_true rfl, Nat.le_of_ble_eq_true rfl⟩ ⟨by show _ + 0 ≤ 601024; omega, by show _ + 0 ≤ 7293034; omega⟩ ?_
      refine ok_X7_costs x3 rw9 hB rI rv1 (fun _ M4 u4 fr4 tl4 s4 x4 a4 b4 c4 => ?_) (fun o => absurd o hc)
      obtain ⟨gn, g0, g1, g2, g3, g4, g5, g6⟩ := id x4
      have f8 := (s4.2 338 (fun o => by have := o.2; omega)).trans e8
      have f9 := (s4.2 339 (fun o => by have := o.2; omega)).trans e9
      have f1 := s4.1.trans l3
      refine V_istore C dL_law_1383 (by decide) ?_
      refine V_aload_n C dL_law_1385 rfl ?_
      refine V_callV (fr := 0) (lo := 0) (mc := 0) (ms := 0) (As := []) C yvX7_thrown w_841 dL_law_1386 rfl rfl (by repeat (first | with_reducible assumption | with_reducible exact mset_self _ _ _ | refine (mset_ne (by omega)).trans ?_)) (by (try simp only [mset_1]); omega) rfl rfl (Nat.le_of_ble_eq_true rfl) ⟨Nat.le_of_ble_eq_true rfl, Nat.le_of_ble_eq_true rfl⟩ ⟨by show _ + 0 ≤ 601024; omega, by show _ + 0 ≤ 7293034; omega⟩ ?_
      refine ok_X7_thrown x4 ?_
      rw [b4]
      refine V_iload C dL_law_1389 rfl ?_
      refine V_icmp_eq C dL_law_1391 (tgt := 1396) (by decide) (by omega) (by omega) (fun g1391 => ?_) (fun g1391 => ?_)
      · refine V_iload C dL_law_1396 rfl ?_
        refine V_if_ne C dL_law_1398 (tgt := 1413) (by decide) (by omega) (fun g1398 => ?_) (fun g1398 => ?_)
        · refine V_goto C dL_law_1413 (tgt := 1689) (by decide) ?_
          refine V_lv [(0, .ref b), (1, .ref (z + 0)), (2, .ref (z + 331)), (3, .ref (z + 338)), (4, .ref (z + 339)), (5, iv (i : Int))] (List.forall_mem_cons.mpr ⟨(by first | rfl | exact congrArg (fun t => some (iv t)) (by omega)), (List.forall_mem_cons.mpr ⟨(by first | rfl | exact congrArg (fun t => some (iv t)) (by omega)), (List.forall_mem_cons.mpr ⟨(by first | rfl | exact congrArg (fun t => some (iv t)) (by omega)), (List.forall_mem_cons.mpr ⟨(by first | rfl | exact congrArg (fun t => some (iv t)) (by omega)), (List.forall_mem_cons.mpr ⟨(by first | rfl | exact congrArg (fun t => some (iv t)) (by omega)), (List.forall_mem_cons.mpr ⟨(by first | rfl | exact congrArg (fun t => some (iv t)) (by omega)), (fun _ h => nomatch h)⟩)⟩)⟩)⟩)⟩)⟩) ?_
          refine V_widen (k := cells + 4) (n := slots + 24) (by omega) (by omega) ?_
          exact hk _ (LawE.mk d2 sA s4 l3 e8 e9 x4 hDI (hR.same a4 c4))
        · exact absurd g1398 (by decide)
      · exact absurd rfl g1391

set_option maxHeartbeats 1000000 in
set_option maxRecDepth 4000 in
theorem law_c20 {p : Program} {l : Launch} {e : Env} {s : State} {m : MethodId} {args : Array Value} {below : List Frame} {meth : Method} {c : Code} {D : va_G} {cy : Nat → ClassId} {z : Nat} {Q : State → Prop} {cells slots : Nat} {M : Mm} (C : Cx p l s m args meth c D cy z 9 cL_law RL) (hlt : l.stackTraces = false) {b L : Nat} {xs : Nat → Int32} (hX : va_X b L xs s s.heap) (hbl : b < s.heap.size) (hbA : ¬ z ≤ b) (hL : L ≤ 2560) {i : Nat} (hi : i + 5 ≤ L) (hcs : cells + 4 ≤ 601024 ∧ slots + 24 ≤ 7293034) {x : DD} {u N P A tx fr tl g9 : Nat → Int} {d9 : Nat → UInt64} (hI : LawI cy z M x u N P A tx fr tl g9 d9) (hk : ∀ M', LawE cy z M' → V p l e room_1 s m args below meth c D z 9 Q (cells + 4) (slots + 24) M' 1689 [(0, .ref b), (1, .ref (z + 0)), (2, .ref (z + 331)), (3, .ref (z + 338)), (4, .ref (z + 339)), (5, iv (i : Int))] []) : V p l e room_1 s m args below meth c D z 9 Q cells slots M 1416 [(0, .ref b), (1, .ref (z + 0)), (2, .ref (z + 331)), (3, .ref (z + 338)), (4, .ref (z + 339)), (5, iv (i : Int))] [] := by
  obtain ⟨hD, hDI, hM, hM1, h338, h339, hR⟩ := id hI
  obtain ⟨r0, r2, rN, rV, rT⟩ := id hR
  obtain ⟨rw9, rI, rZ, rH⟩ := id rN
  have hB := hDI.1
  have hDc := hDI.2.1
  have hDt := hDI.2.2.2.1
  have hq6 := hB.2.2.1
  have hn10 := hB.2.1
  obtain ⟨v1, ev1⟩ : ∃ v, (xs (i + 1)).toInt = v := ⟨_, rfl⟩
  have rv1 : -2147483648 ≤ v1 ∧ v1 < 2147483648 := by rw [← ev1]; exact ⟨Int32.le_toInt _, Int32.toInt_lt _⟩
  refine V_aload_n C dL_law_1416 rfl ?_
  refine V_aload_n C dL_law_1417 rfl ?_
  refine V_iload C dL_law_1418 rfl ?_
  refine V_iconst C dL_law_1420 ?_
  refine V_iadd C dL_law_1421 ?_
  refine V_sld C hX hbl hbA (by omega) (by omega) (show _ = i + 1 by omega) ev1 dL_law_1422 ?_
  refine V_aload_n C dL_law_1423 rfl ?_
  refine V_callW (fr := 8) (lo := 131) (mc := 1) (ms := 6) (As := [_, _, _]) C ywL_lapsing w_750 dL_law_1424 rfl rfl (Nat.le_of_ble_eq_true rfl) ⟨Nat.le_of_ble_eq_true rfl, Nat.le_of_ble_eq_true rfl⟩ ⟨by show _ + 1 ≤ 601024; omega, by show _ + 6 ≤ 7293034; omega⟩ ?_
  refine ok_L_lapsing (g9 := g9) (G9 := fun a M2 => (0 ≤ v1 ∧ v1 ≤ 4000) ∧ a = ((cntN (fun i => !lapB (RF (xS x) i) (RA (xS x) i) (sc (xS x) 0) && lapB (RF (xS x) i) (RA (xS x) i) (sc (xS x) 0 + v1)) (sN (xS x)) : Nat) : Int) ∧ Sm M M2 (fun q => q < 331) ∧ DockAt cy z M2 x) (GX := fun E => ¬ (0 ≤ v1 ∧ v1 ≤ 4000) ∧ E = eA) hD.2.1 (by omega) (fun h hx => ok_X6_lapsing hD hDI hlt rv1 (fun o => h _ M ⟨o, rfl, Sm.rf _ _, hD⟩) (fun o => hx _ ⟨o, rfl⟩)) (fun a M2 hg => ?_) (fun E hE => ?_)
  · rcases hg with ⟨hc, rfl, s2, d2⟩
    · refine ⟨(s2.2 _ (by omega)).trans h338, by have := s2.1; omega, ?_⟩
      refine V_memgen (fun M3 em3 => ?_)
      obtain ⟨l3, x3, e8, e9, sA⟩ := law_mid hI s2 em3
      clear em3
      obtain ⟨gn, g0, g1, g2, g3, g4, g5, g6⟩ := id x3
      refine V_istore C dL_law_1427 (by decide) ?_
      refine V_aload_n C dL_law_1429 rfl ?_
      refine V_aload_n C dL_law_1430 rfl ?_
      refine V_iload C dL_law_1431 rfl ?_
      refine V_iconst C dL_law_1433 ?_
      refine V_iadd C dL_law_1434 ?_
      refine V_sld C hX hbl hbA (by omega) (by omega) (show _ = i + 1 by omega) ev1 dL_law_1435 ?_
      refine V_callV (fr := 6) (lo := 133) (mc := 0) (ms := 0) (As := [_]) C yvX7_lapsing w_1093 dL_law_1436 rfl rfl (by repeat (first | with_reducible assumption | with_reducible exact mset_self _ _ _ | refine (mset_ne (by omega)).trans ?_)) (by (try simp only [mset_1]); omega) rfl rfl (Nat.le_of_ble_eq_true rfl) ⟨Nat.le_of_ble_eq_true rfl, Nat.le_of_ble_eq_true rfl⟩ ⟨by show _ + 0 ≤ 601024; omega, by show _ + 0 ≤ 7293034; omega⟩ ?_
      refine ok_X7_lapsing x3 rw9 hB rI rv1 (fun o => absurd hc o) (fun _ M4 u4 fr4 tl4 s4 x4 a4 b4 c4 => ?_)
      obtain ⟨gn, g0, g1, g2, g3, g4, g5, g6⟩ := id x4
      have f8 := (s4.2 338 (fun o => by have := o.2; omega)).trans e8
      have f9 := (s4.2 339 (fun o => by have := o.2; omega)).trans e9
      have f1 := s4.1.trans l3
      refine V_istore C dL_law_1439 (by decide) ?_
      refine V_aload_n C dL_law_1441 rfl ?_
      refine V_callV (fr := 0) (lo := 0) (mc := 0) (ms := 0) (As := []) C yvX7_thrown w_841 dL_law_1442 rfl rfl (by repeat (first | with_reducible assumption | with_reducible exact mset_self _ _ _ | refine (mset_ne (by omega)).trans ?_)) (by (try simp only [mset_1]); omega) rfl rfl (Nat.le_of_ble_eq_true rfl) ⟨Nat.le_of_ble_eq_true rfl, Nat.le_of_ble_eq_true rfl⟩ ⟨by show _ + 0 ≤ 601024; omega, by show _ + 0 ≤ 7293034; omega⟩ ?_
      refine ok_X7_thrown x4 ?_
      rw [b4]
      refine V_iload C dL_law_1445 rfl ?_
      refine V_icmp_eq C dL_law_1447 (tgt := 1452) (by decide) (by omega) (by omega) (fun g1447 => ?_) (fun g1447 => ?_)
      · refine V_iload C dL_law_1452 rfl ?_
        refine V_if_ne C dL_law_1454 (tgt := 1469) (by decide) (by omega) (fun g1454 => ?_) (fun g1454 => ?_)
        · exact absurd rfl g1454
        · refine V_aload_n C dL_law_1457 rfl ?_
          refine V_iconst C dL_law_1458 ?_
          refine V_laload C dL_law_1459 f8 (by (try simp only [mset_1]); omega) (by omega) (by omega) ?_
          refine V_iload C dL_law_1460 rfl ?_
          refine V_i2lw C dL_law_1462 ?_
          refine V_lcmp0 C (congrArg lgv (up_s _ 0 _).symm) dL_law_1463 ?_
          refine V_ifeq0 C dL_law_1464 (tgt := 1469) (by decide) ?_
          refine V_goto C dL_law_1469 (tgt := 1689) (by decide) ?_
          refine V_lv [(0, .ref b), (1, .ref (z + 0)), (2, .ref (z + 331)), (3, .ref (z + 338)), (4, .ref (z + 339)), (5, iv (i : Int))] (List.forall_mem_cons.mpr ⟨(by first | rfl | exact congrArg (fun t => some (iv t)) (by omega)), (List.forall_mem_cons.mpr ⟨(by first | rfl | exact congrArg (fun t => some (iv t)) (by omega)), (List.forall_mem_cons.mpr ⟨(by first | rfl | exact congrArg (fun t => some (iv t)) (by omega)), (List.forall_mem_cons.mpr ⟨(by first | rfl | exact congrArg (fun t => some (iv t)) (by omega)), (List.forall_mem_cons.mpr ⟨(by first | rfl | exact congrArg (fun t => some (iv t)) (by omega)), (List.forall_mem_cons.mpr ⟨(by first | rfl | exact congrArg (fun t => some (iv t)) (by omega)), (fun _ h => nomatch h)⟩)⟩)⟩)⟩)⟩)⟩) ?_
          refine V_widen (k := cells + 4) (n := slots + 24) (by omega) (by omega) ?_
          exact hk _ (LawE.mk d2 sA s4 l3 e8 e9 x4 hDI (hR.same a4 c4))
      · exact absurd rfl g1447
  · rcases hE with ⟨hc, rfl⟩
    · refine ⟨rfl, ?_⟩
      have x3 := hM
      have l3 := hM1
      have e8 := h338
      have e9 := h339
      have s2 : Sm M M (fun j => j < 331) := Sm.rf _ _
      have sA : Sm M M (fun j => 331 ≤ j) := Sm.rf _ _
      have d2 := hD
      obtain ⟨gn, g0, g1, g2, g3, g4, g5, g6⟩ := id x3
      refine V_istore C dL_law_1427 (by decide) ?_
      refine V_aload_n C dL_law_1429 rfl ?_
      refine V_aload_n C dL_law_1430 rfl ?_
      refine V_iload C dL_law_1431 rfl ?_
      refine V_iconst C dL_law_1433 ?_
      refine V_iadd C dL_law_1434 ?_
      refine V_sld C hX hbl hbA (by omega) (by omega) (show _ = i + 1 by omega) ev1 dL_law_1435 ?_
      refine V_callV (fr := 6) (lo := 133) (mc := 0) (ms := 0) (As := [_]) C yvX7_lapsing w_1093 dL_law_1436 rfl rfl (by repeat (first | with_reducible assumption | with_reducible exact mset_self _ _ _ | refine (mset_ne (by omega)).trans ?_)) (by (try simp only [mset_1]); omega) rfl rfl (Nat.le_of_ble_eq_true rfl) ⟨Nat.le_of_ble_eq_true rfl, Nat.le_of_ble_eq_true rfl⟩ ⟨by show _ + 0 ≤ 601024; omega, by show _ + 0 ≤ 7293034; omega⟩ ?_
      refine ok_X7_lapsing x3 rw9 hB rI rv1 (fun _ M4 u4 fr4 tl4 s4 x4 a4 b4 c4 => ?_) (fun o => absurd o hc)
      obtain ⟨gn, g0, g1, g2, g3, g4, g5, g6⟩ := id x4
      have f8 := (s4.2 338 (fun o => by have := o.2; omega)).trans e8
      have f9 := (s4.2 339 (fun o => by have := o.2; omega)).trans e9
      have f1 := s4.1.trans l3
      refine V_istore C dL_law_1439 (by decide) ?_
      refine V_aload_n C dL_law_1441 rfl ?_
      refine V_callV (fr := 0) (lo := 0) (mc := 0) (ms := 0) (As := []) C yvX7_thrown w_841 dL_law_1442 rfl rfl (by repeat (first | with_reducible assumption | with_reducible exact mset_self _ _ _ | refine (mset_ne (by omega)).trans ?_)) (by (try simp only [mset_1]); omega) rfl rfl (Nat.le_of_ble_eq_true rfl) ⟨Nat.le_of_ble_eq_true rfl, Nat.le_of_ble_eq_true rfl⟩ ⟨by show _ + 0 ≤ 601024; omega, by show _ + 0 ≤ 7293034; omega⟩ ?_
      refine ok_X7_thrown x4 ?_
      rw [b4]
      refine V_iload C dL_law_1445 rfl ?_
      refine V_icmp_eq C dL_law_1447 (tgt := 1452) (by decide) (by omega) (by omega) (fun g1447 => ?_) (fun g1447 => ?_)
      · refine V_iload C dL_law_1452 rfl ?_
        refine V_if_ne C dL_law_1454 (tgt := 1469) (by decide) (by omega) (fun g1454 => ?_) (fun g1454 => ?_)
        · refine V_goto C dL_law_1469 (tgt := 1689) (by decide) ?_
          refine V_lv [(0, .ref b), (1, .ref (z + 0)), (2, .ref (z + 331)), (3, .ref (z + 338)), (4, .ref (z + 339)), (5, iv (i : Int))] (List.forall_mem_cons.mpr ⟨(by first | rfl | exact congrArg (fun t => some (iv t)) (by omega)), (List.forall_mem_cons.mpr ⟨(by first | rfl | exact congrArg (fun t => some (iv t)) (by omega)), (List.forall_mem_cons.mpr ⟨(by first | rfl | exact congrArg (fun t => some (iv t)) (by omega)), (List.forall_mem_cons.mpr ⟨(by first | rfl | exact congrArg (fun t => some (iv t)) (by omega)), (List.forall_mem_cons.mpr ⟨(by first | rfl | exact congrArg (fun t => some (iv t)) (by omega)), (List.forall_mem_cons.mpr ⟨(by first | rfl | exact congrArg (fun t => some (iv t)) (by omega)), (fun _ h => nomatch h)⟩)⟩)⟩)⟩)⟩)⟩) ?_
          refine V_widen (k := cells + 4) (n := slots + 24) (by omega) (by omega) ?_
          exact hk _ (LawE.mk d2 sA s4 l3 e8 e9 x4 hDI (hR.same a4 c4))
        · exact absurd g1454 (by decide)
      · exact absurd rfl g1447

set_option maxHeartbeats 1000000 in
set_option maxRecDepth 4000 in
theorem law_c12 {p : Program} {l : Launch} {e : Env} {s : State} {m : MethodId} {args : Array Value} {below : List Frame} {meth : Method} {c : Code} {D : va_G} {cy : Nat → ClassId} {z : Nat} {Q : State → Prop} {cells slots : Nat} {M : Mm} (C : Cx p l s m args meth c D cy z 9 cL_law RL) (hlt : l.stackTraces = false) {b L : Nat} {xs : Nat → Int32} (hX : va_X b L xs s s.heap) (hbl : b < s.heap.size) (hbA : ¬ z ≤ b) (hL : L ≤ 2560) {i : Nat} (hi : i + 5 ≤ L) (hcs : cells + 4 ≤ 601024 ∧ slots + 24 ≤ 7293034) {x : DD} {u N P A tx fr tl g9 : Nat → Int} {d9 : Nat → UInt64} (hI : LawI cy z M x u N P A tx fr tl g9 d9) (hk : ∀ M', LawE cy z M' → V p l e room_1 s m args below meth c D z 9 Q (cells + 4) (slots + 24) M' 1689 [(0, .ref b), (1, .ref (z + 0)), (2, .ref (z + 331)), (3, .ref (z + 338)), (4, .ref (z + 339)), (5, iv (i : Int))] []) : V p l e room_1 s m args below meth c D z 9 Q cells slots M 909 [(0, .ref b), (1, .ref (z + 0)), (2, .ref (z + 331)), (3, .ref (z + 338)), (4, .ref (z + 339)), (5, iv (i : Int))] [] := by
  obtain ⟨hD, hDI, hM, hM1, h338, h339, hR⟩ := id hI
  obtain ⟨r0, r2, rN, rV, rT⟩ := id hR
  obtain ⟨rw9, rI, rZ, rH⟩ := id rN
  have hB := hDI.1
  have hDc := hDI.2.1
  have hDt := hDI.2.2.2.1
  have hq6 := hB.2.2.1
  have hn10 := hB.2.1
  obtain ⟨v1, ev1⟩ : ∃ v, (xs (i + 1)).toInt = v := ⟨_, rfl⟩
  have rv1 : -2147483648 ≤ v1 ∧ v1 < 2147483648 := by rw [← ev1]; exact ⟨Int32.le_toInt _, Int32.toInt_lt _⟩
  obtain ⟨v2, ev2⟩ : ∃ v, (xs (i + 2)).toInt = v := ⟨_, rfl⟩
  have rv2 : -2147483648 ≤ v2 ∧ v2 < 2147483648 := by rw [← ev2]; exact ⟨Int32.le_toInt _, Int32.toInt_lt _⟩
  refine V_aload_n C dL_law_909 rfl ?_
  refine V_aload_n C dL_law_910 rfl ?_
  refine V_iload C dL_law_911 rfl ?_
  refine V_iconst C dL_law_913 ?_
  refine V_iadd C dL_law_914 ?_
  refine V_sld C hX hbl hbA (by omega) (by omega) (show _ = i + 1 by omega) ev1 dL_law_915 ?_
  refine V_aload_n C dL_law_916 rfl ?_
  refine V_iload C dL_law_917 rfl ?_
  refine V_iconst C dL_law_919 ?_
  refine V_iadd C dL_law_920 ?_
  refine V_sld C hX hbl hbA (by omega) (by omega) (show _ = i + 2 by omega) ev2 dL_law_921 ?_
  refine V_aload_n C dL_law_922 rfl ?_
  refine V_callW (fr := 8) (lo := 152) (mc := 2) (ms := 12) (As := [_, _, _, _]) C ywL_right w_683 dL_law_923 rfl rfl (Nat.le_of_ble_eq_true rfl) ⟨Nat.le_of_ble_eq_true rfl, Nat.le_of_ble_eq_true rfl⟩ ⟨by show _ + 2 ≤ 601024; omega, by show _ + 12 ≤ 7293034; omega⟩ ?_
  refine ok_L_right (g9 := g9) (G9 := fun a M2 => ∃ j : Nat, v1 = j ∧ j < sN (xS x) ∧ (0 ≤ v2 ∧ v2 ≤ 12) ∧ a = rvT (xS x) j v2 ∧ Sm M M2 (fun q => q < 331) ∧ DockAt cy z M2 x) (GX := fun E => ((v1 < 0 ∨ (sN (xS x) : Int) ≤ v1) ∧ E = eI) ∨ ∃ j : Nat, v1 = j ∧ j < sN (xS x) ∧ ¬ (0 ≤ v2 ∧ v2 ≤ 12) ∧ E = eA) hD.2.1 (by omega) (fun h hx => ok_X6_right hD hDI hlt rv1 rv2 (fun j ja hj hc => h _ M ⟨j, ja, hj, hc, rfl, Sm.rf _ _, hD⟩) (fun o => hx _ (Or.inl ⟨o, rfl⟩)) (fun j ja hj hc => hx _ (Or.inr ⟨j, ja, hj, hc, rfl⟩))) (fun a M2 hg => ?_) (fun E hE => ?_)
  · rcases hg with ⟨j, ja, hj, hc, rfl, s2, d2⟩
    · refine ⟨(s2.2 _ (by omega)).trans h338, by have := s2.1; omega, ?_⟩
      refine V_memgen (fun M3 em3 => ?_)
      obtain ⟨l3, x3, e8, e9, sA⟩ := law_mid hI s2 em3
      clear em3
      obtain ⟨gn, g0, g1, g2, g3, g4, g5, g6⟩ := id x3
      refine V_istore C dL_law_926 (by decide) ?_
      refine V_aload_n C dL_law_928 rfl ?_
      refine V_aload_n C dL_law_929 rfl ?_
      refine V_iload C dL_law_930 rfl ?_
      refine V_iconst C dL_law_932 ?_
      refine V_iadd C dL_law_933 ?_
      refine V_sld C hX hbl hbA (by omega) (by omega) (show _ = i + 1 by omega) ev1 dL_law_934 ?_
      refine V_aload_n C dL_law_935 rfl ?_
      refine V_iload C dL_law_936 rfl ?_
      refine V_iconst C dL_law_938 ?_
      refine V_iadd C dL_law_939 ?_
      refine V_sld C hX hbl hbA (by omega) (by omega) (show _ = i + 2 by omega) ev2 dL_law_940 ?_
      refine V_callV (fr := 8) (lo := 178) (mc := 0) (ms := 0) (As := [_, _]) C yvX7_right w_1015 dL_law_941 rfl rfl (by repeat (first | with_reducible assumption | with_reducible exact mset_self _ _ _ | refine (mset_ne (by omega)).trans ?_)) (by (try simp only [mset_1]); omega) rfl rfl (Nat.le_of_ble_eq_true rfl) ⟨Nat.le_of_ble_eq_true rfl, Nat.le_of_ble_eq_true rfl⟩ ⟨by show _ + 0 ≤ 601024; omega, by show _ + 0 ≤ 7293034; omega⟩ ?_
      refine ok_X7_right x3 rw9 hB rI (rZ.V hB) rv1 rv2 (fun o => absurd (show 0 ≤ v1 ∧ v1 < (sN (xS x) : Int) by omega) o) (fun j2 ja2 hj2 hc2 => absurd hc hc2) (fun j2 ja2 hj2 _ M4 u4 fr4 tl4 s4 x4 a4 b4 c4 => ?_)
      have e9_ : j2 = j := by omega
      subst e9_
      obtain ⟨gn, g0, g1, g2, g3, g4, g5, g6⟩ := id x4
      have f8 := (s4.2 338 (fun o => by have := o.2; omega)).trans e8
      have f9 := (s4.2 339 (fun o => by have := o.2; omega)).trans e9
      have f1 := s4.1.trans l3
      refine V_istore C dL_law_944 (by decide) ?_
      refine V_aload_n C dL_law_946 rfl ?_
      refine V_callV (fr := 0) (lo := 0) (mc := 0) (ms := 0) (As := []) C yvX7_thrown w_841 dL_law_947 rfl rfl (by repeat (first | with_reducible assumption | with_reducible exact mset_self _ _ _ | refine (mset_ne (by omega)).trans ?_)) (by (try simp only [mset_1]); omega) rfl rfl (Nat.le_of_ble_eq_true rfl) ⟨Nat.le_of_ble_eq_true rfl, Nat.le_of_ble_eq_true rfl⟩ ⟨by show _ + 0 ≤ 601024; omega, by show _ + 0 ≤ 7293034; omega⟩ ?_
      refine ok_X7_thrown x4 ?_
      rw [b4]
      refine V_iload C dL_law_950 rfl ?_
      refine V_icmp_eq C dL_law_952 (tgt := 957) (by decide) (by omega) (by omega) (fun g952 => ?_) (fun g952 => ?_)
      · refine V_iload C dL_law_957 rfl ?_
        refine V_if_ne C dL_law_959 (tgt := 974) (by decide) (by omega) (fun g959 => ?_) (fun g959 => ?_)
        · exact absurd rfl g959
        · refine V_aload_n C dL_law_962 rfl ?_
          refine V_iconst C dL_law_963 ?_
          refine V_laload C dL_law_964 f8 (by (try simp only [mset_1]); omega) (by omega) (by omega) ?_
          refine V_iload C dL_law_965 rfl ?_
          refine V_i2lw C dL_law_967 ?_
          refine V_lcmp0 C (congrArg lgv (up_s _ 0 _).symm) dL_law_968 ?_
          refine V_ifeq0 C dL_law_969 (tgt := 974) (by decide) ?_
          refine V_goto C dL_law_974 (tgt := 1689) (by decide) ?_
          refine V_lv [(0, .ref b), (1, .ref (z + 0)), (2, .ref (z + 331)), (3, .ref (z + 338)), (4, .ref (z + 339)), (5, iv (i : Int))] (List.forall_mem_cons.mpr ⟨(by first | rfl | exact congrArg (fun t => some (iv t)) (by omega)), (List.forall_mem_cons.mpr ⟨(by first | rfl | exact congrArg (fun t => some (iv t)) (by omega)), (List.forall_mem_cons.mpr ⟨(by first | rfl | exact congrArg (fun t => some (iv t)) (by omega)), (List.forall_mem_cons.mpr ⟨(by first | rfl | exact congrArg (fun t => some (iv t)) (by omega)), (List.forall_mem_cons.mpr ⟨(by first | rfl | exact congrArg (fun t => some (iv t)) (by omega)), (List.forall_mem_cons.mpr ⟨(by first | rfl | exact congrArg (fun t => some (iv t)) (by omega)), (fun _ h => nomatch h)⟩)⟩)⟩)⟩)⟩)⟩) ?_
          refine V_widen (k := cells + 4) (n := slots + 24) (by omega) (by omega) ?_
          exact hk _ (LawE.mk d2 sA s4 l3 e8 e9 x4 hDI (hR.same a4 c4))
      · exact absurd rfl g952
  · rcases hE with ⟨hc, rfl⟩ | ⟨j, ja, hj, hc, rfl⟩
    · refine Or.inl ⟨rfl, ?_⟩
      have x3 := hM
      have l3 := hM1
      have e8 := h338
      have e9 := h339
      have s2 : Sm M M (fun j => j < 331) := Sm.rf _ _
      have sA : Sm M M (fun j => 331 ≤ j) := Sm.rf _ _
      have d2 := hD
      obtain ⟨gn, g0, g1, g2, g3, g4, g5, g6⟩ := id x3
      refine V_istore C dL_law_926 (by decide) ?_
      refine V_aload_n C dL_law_928 rfl ?_
      refine V_aload_n C dL_law_929 rfl ?_
      refine V_iload C dL_law_930 rfl ?_
      refine V_iconst C dL_law_932 ?_
      refine V_iadd C dL_law_933 ?_
      refine V_sld C hX hbl hbA (by omega) (by omega) (show _ = i + 1 by omega) ev1 dL_law_934 ?_
      refine V_aload_n C dL_law_935 rfl ?_
      refine V_iload C dL_law_936 rfl ?_
      refine V_iconst C dL_law_938 ?_
      refine V_iadd C dL_law_939 ?_
      refine V_sld C hX hbl hbA (by omega) (by omega) (show _ = i + 2 by omega) ev2 dL_law_940 ?_
      refine V_callV (fr := 8) (lo := 178) (mc := 0) (ms := 0) (As := [_, _]) C yvX7_right w_1015 dL_law_941 rfl rfl (by repeat (first | with_reducible assumption | with_reducible exact mset_self _ _ _ | refine (mset_ne (by omega)).trans ?_)) (by (try simp only [mset_1]); omega) rfl rfl (Nat.le_of_ble_eq_true rfl) ⟨Nat.le_of_ble_eq_true rfl, Nat.le_of_ble_eq_true rfl⟩ ⟨by show _ + 0 ≤ 601024; omega, by show _ + 0 ≤ 7293034; omega⟩ ?_
      refine ok_X7_right x3 rw9 hB rI (rZ.V hB) rv1 rv2 (fun _ M4 u4 fr4 tl4 s4 x4 a4 b4 c4 => ?_) (fun j2 ja2 hj2 hc2 => absurd hc (by omega)) (fun j2 ja2 hj2 _ => absurd hc (by omega))
      obtain ⟨gn, g0, g1, g2, g3, g4, g5, g6⟩ := id x4
      have f8 := (s4.2 338 (fun o => by have := o.2; omega)).trans e8
      have f9 := (s4.2 339 (fun o => by have := o.2; omega)).trans e9
      have f1 := s4.1.trans l3
      refine V_istore C dL_law_944 (by decide) ?_
      refine V_aload_n C dL_law_946 rfl ?_
      refine V_callV (fr := 0) (lo := 0) (mc := 0) (ms := 0) (As := []) C yvX7_thrown w_841 dL_law_947 rfl rfl (by repeat (first | with_reducible assumption | with_reducible exact mset_self _ _ _ | refine (mset_ne (by omega)).trans ?_)) (by (try simp only [mset_1]); omega) rfl rfl (Nat.le_of_ble_eq_true rfl) ⟨Nat.le_of_ble_eq_true rfl, Nat.le_of_ble_eq_true rfl⟩ ⟨by show _ + 0 ≤ 601024; omega, by show _ + 0 ≤ 7293034; omega⟩ ?_
      refine ok_X7_thrown x4 ?_
      rw [b4]
      refine V_iload C dL_law_950 rfl ?_
      refine V_icmp_eq C dL_law_952 (tgt := 957) (by decide) (by omega) (by omega) (fun g952 => ?_) (fun g952 => ?_)
      · refine V_iload C dL_law_957 rfl ?_
        refine V_if_ne C dL_law_959 (tgt := 974) (by decide) (by omega) (fun g959 => ?_) (fun g959 => ?_)
        · refine V_goto C dL_law_974 (tgt := 1689) (by decide) ?_
          refine V_lv [(0, .ref b), (1, .ref (z + 0)), (2, .ref (z + 331)), (3, .ref (z + 338)), (4, .ref (z + 339)), (5, iv (i : Int))] (List.forall_mem_cons.mpr ⟨(by first | rfl | exact congrArg (fun t => some (iv t)) (by omega)), (List.forall_mem_cons.mpr ⟨(by first | rfl | exact congrArg (fun t => some (iv t)) (by omega)), (List.forall_mem_cons.mpr ⟨(by first | rfl | exact congrArg (fun t => some (iv t)) (by omega)), (List.forall_mem_cons.mpr ⟨(by first | rfl | exact congrArg (fun t => some (iv t)) (by omega)), (List.forall_mem_cons.mpr ⟨(by first | rfl | exact congrArg (fun t => some (iv t)) (by omega)), (List.forall_mem_cons.mpr ⟨(by first | rfl | exact congrArg (fun t => some (iv t)) (by omega)), (fun _ h => nomatch h)⟩)⟩)⟩)⟩)⟩)⟩) ?_
          refine V_widen (k := cells + 4) (n := slots + 24) (by omega) (by omega) ?_
          exact hk _ (LawE.mk d2 sA s4 l3 e8 e9 x4 hDI (hR.same a4 c4))
        · exact absurd g959 (by decide)
      · exact absurd rfl g952
    · refine Or.inr  ⟨rfl, ?_⟩
      have x3 := hM
      have l3 := hM1
      have e8 := h338
      have e9 := h339
      have s2 : Sm M M (fun j => j < 331) := Sm.rf _ _
      have sA : Sm M M (fun j => 331 ≤ j) := Sm.rf _ _
      have d2 := hD
      obtain ⟨gn, g0, g1, g2, g3, g4, g5, g6⟩ := id x3
      refine V_istore C dL_law_926 (by decide) ?_
      refine V_aload_n C dL_law_928 rfl ?_
      refine V_aload_n C dL_law_929 rfl ?_
      refine V_iload C dL_law_930 rfl ?_
      refine V_iconst C dL_law_932 ?_
      refine V_iadd C dL_law_933 ?_
      refine V_sld C hX hbl hbA (by omega) (by omega) (show _ = i + 1 by omega) ev1 dL_law_934 ?_
      refine V_aload_n C dL_law_935 rfl ?_
      refine V_iload C dL_law_936 rfl ?_
      refine V_iconst C dL_law_938 ?_
      refine V_iadd C dL_law_939 ?_
      refine V_sld C hX hbl hbA (by omega) (by omega) (show _ = i + 2 by omega) ev2 dL_law_940 ?_
      refine V_callV (fr := 8) (lo := 178) (mc := 0) (ms := 0) (As := [_, _]) C yvX7_right w_1015 dL_law_941 rfl rfl (by repeat (first | with_reducible assumption | with_reducible exact mset_self _ _ _ | refine (mset_ne (by omega)).trans ?_)) (by (try simp only [mset_1]); omega) rfl rfl (Nat.le_of_ble_eq_true rfl) ⟨Nat.le_of_ble_eq_true rfl, Nat.le_of_ble_eq_true rfl⟩ ⟨by show _ + 0 ≤ 601024; omega, by show _ + 0 ≤ 7293034; omega⟩ ?_
      refine ok_X7_right x3 rw9 hB rI (rZ.V hB) rv1 rv2 (fun o => absurd (show 0 ≤ v1 ∧ v1 < (sN (xS x) : Int) by omega) o) (fun j2 ja2 hj2 _ M4 u4 fr4 tl4 s4 x4 a4 b4 c4 => ?_) (fun j2 ja2 hj2 hc2 => absurd hc2 hc)
      obtain ⟨gn, g0, g1, g2, g3, g4, g5, g6⟩ := id x4
      have f8 := (s4.2 338 (fun o => by have := o.2; omega)).trans e8
      have f9 := (s4.2 339 (fun o => by have := o.2; omega)).trans e9
      have f1 := s4.1.trans l3
      refine V_istore C dL_law_944 (by decide) ?_
      refine V_aload_n C dL_law_946 rfl ?_
      refine V_callV (fr := 0) (lo := 0) (mc := 0) (ms := 0) (As := []) C yvX7_thrown w_841 dL_law_947 rfl rfl (by repeat (first | with_reducible assumption | with_reducible exact mset_self _ _ _ | refine (mset_ne (by omega)).trans ?_)) (by (try simp only [mset_1]); omega) rfl rfl (Nat.le_of_ble_eq_true rfl) ⟨Nat.le_of_ble_eq_true rfl, Nat.le_of_ble_eq_true rfl⟩ ⟨by show _ + 0 ≤ 601024; omega, by show _ + 0 ≤ 7293034; omega⟩ ?_
      refine ok_X7_thrown x4 ?_
      rw [b4]
      refine V_iload C dL_law_950 rfl ?_
      refine V_icmp_eq C dL_law_952 (tgt := 957) (by decide) (by omega) (by omega) (fun g952 => ?_) (fun g952 => ?_)
      · refine V_iload C dL_law_957 rfl ?_
        refine V_if_ne C dL_law_959 (tgt := 974) (by decide) (by omega) (fun g959 => ?_) (fun g959 => ?_)
        · refine V_goto C dL_law_974 (tgt := 1689) (by decide) ?_
          refine V_lv [(0, .ref b), (1, .ref (z + 0)), (2, .ref (z + 331)), (3, .ref (z + 338)), (4, .ref (z + 339)), (5, iv (i : Int))] (List.forall_mem_cons.mpr ⟨(by first | rfl | exact congrArg (fun t => some (iv t)) (by omega)), (List.forall_mem_cons.mpr ⟨(by first | rfl | exact congrArg (fun t => some (iv t)) (by omega)), (List.forall_mem_cons.mpr ⟨(by first | rfl | exact congrArg (fun t => some (iv t)) (by omega)), (List.forall_mem_cons.mpr ⟨(by first | rfl | exact congrArg (fun t => some (iv t)) (by omega)), (List.forall_mem_cons.mpr ⟨(by first | rfl | exact congrArg (fun t => some (iv t)) (by omega)), (List.forall_mem_cons.mpr ⟨(by first | rfl | exact congrArg (fun t => some (iv t)) (by omega)), (fun _ h => nomatch h)⟩)⟩)⟩)⟩)⟩)⟩) ?_
          refine V_widen (k := cells + 4) (n := slots + 24) (by omega) (by omega) ?_
          exact hk _ (LawE.mk d2 sA s4 l3 e8 e9 x4 hDI (hR.same a4 c4))
        · exact absurd g959 (by decide)
      · exact absurd rfl g952

set_option maxHeartbeats 1000000 in
set_option maxRecDepth 4000 in
theorem law_c13 {p : Program} {l : Launch} {e : Env} {s : State} {m : MethodId} {args : Array Value} {below : List Frame} {meth : Method} {c : Code} {D : va_G} {cy : Nat → ClassId} {z : Nat} {Q : State → Prop} {cells slots : Nat} {M : Mm} (C : Cx p l s m args meth c D cy z 9 cL_law RL) (hlt : l.stackTraces = false) {b L : Nat} {xs : Nat → Int32} (hX : va_X b L xs s s.heap) (hbl : b < s.heap.size) (hbA : ¬ z ≤ b) (hL : L ≤ 2560) {i : Nat} (hi : i + 5 ≤ L) (hcs : cells + 4 ≤ 601024 ∧ slots + 24 ≤ 7293034) {x : DD} {u N P A tx fr tl g9 : Nat → Int} {d9 : Nat → UInt64} (hI : LawI cy z M x u N P A tx fr tl g9 d9) (hk : ∀ M', LawE cy z M' → V p l e room_1 s m args below meth c D z 9 Q (cells + 4) (slots + 24) M' 1689 [(0, .ref b), (1, .ref (z + 0)), (2, .ref (z + 331)), (3, .ref (z + 338)), (4, .ref (z + 339)), (5, iv (i : Int))] []) : V p l e room_1 s m args below meth c D z 9 Q cells slots M 977 [(0, .ref b), (1, .ref (z + 0)), (2, .ref (z + 331)), (3, .ref (z + 338)), (4, .ref (z + 339)), (5, iv (i : Int))] [] := by
  obtain ⟨hD, hDI, hM, hM1, h338, h339, hR⟩ := id hI
  obtain ⟨r0, r2, rN, rV, rT⟩ := id hR
  obtain ⟨rw9, rI, rZ, rH⟩ := id rN
  have hB := hDI.1
  have hDc := hDI.2.1
  have hDt := hDI.2.2.2.1
  have hq6 := hB.2.2.1
  have hn10 := hB.2.1
  obtain ⟨v1, ev1⟩ : ∃ v, (xs (i + 1)).toInt = v := ⟨_, rfl⟩
  have rv1 : -2147483648 ≤ v1 ∧ v1 < 2147483648 := by rw [← ev1]; exact ⟨Int32.le_toInt _, Int32.toInt_lt _⟩
  obtain ⟨v2, ev2⟩ : ∃ v, (xs (i + 2)).toInt = v := ⟨_, rfl⟩
  have rv2 : -2147483648 ≤ v2 ∧ v2 < 2147483648 := by rw [← ev2]; exact ⟨Int32.le_toInt _, Int32.toInt_lt _⟩
  obtain ⟨v3, ev3⟩ : ∃ v, (xs (i + 3)).toInt = v := ⟨_, rfl⟩
  have rv3 : -2147483648 ≤ v3 ∧ v3 < 2147483648 := by rw [← ev3]; exact ⟨Int32.le_toInt _, Int32.toInt_lt _⟩
  refine V_aload_n C dL_law_977 rfl ?_
  refine V_aload_n C dL_law_978 rfl ?_
  refine V_iload C dL_law_979 rfl ?_
  refine V_iconst C dL_law_981 ?_
  refine V_iadd C dL_law_982 ?_
  refine V_sld C hX hbl hbA (by omega) (by omega) (show _ = i + 1 by omega) ev1 dL_law_983 ?_
  refine V_aload_n C dL_law_984 rfl ?_
  refine V_iload C dL_law_985 rfl ?_
  refine V_iconst C dL_law_987 ?_
  refine V_iadd C dL_law_988 ?_
  refine V_sld C hX hbl hbA (by omega) (by omega) (show _ = i + 2 by omega) ev2 dL_law_989 ?_
  refine V_aload_n C dL_law_990 rfl ?_
  refine V_iload C dL_law_991 rfl ?_
  refine V_iconst C dL_law_993 ?_
  refine V_iadd C dL_law_994 ?_
  refine V_sld C hX hbl hbA (by omega) (by omega) (show _ = i + 3 by omega) ev3 dL_law_995 ?_
  refine V_if_eq C dL_law_996 (tgt := 1003) (by decide) (by omega) (fun g996 => ?_) (fun g996 => ?_)
  · refine V_iconst C dL_law_1003 ?_
    refine V_aload_n C dL_law_1004 rfl ?_
    refine V_callW (fr := 8) (lo := 135) (mc := 2) (ms := 12) (As := [_, _, _, _, _]) C ywL_due w_690 dL_law_1005 rfl rfl (Nat.le_of_ble_eq_true rfl) ⟨Nat.le_of_ble_eq_true rfl, Nat.le_of_ble_eq_true rfl⟩ ⟨by show _ + 2 ≤ 601024; omega, by show _ + 12 ≤ 7293034; omega⟩ ?_
    refine ok_L_due (g9 := g9) (G9 := fun a M2 => ∃ j : Nat, v1 = j ∧ j < sN (xS x) ∧ (1 ≤ v2 ∧ v2 ≤ 19) ∧ a = (if (0 : Int) = 0 then RA (xS x) j 0 v2.toNat else RA (xS x) j 1 v2.toNat) ∧ Sm M M2 (fun q => q < 331) ∧ DockAt cy z M2 x) (GX := fun E => ((v1 < 0 ∨ (sN (xS x) : Int) ≤ v1) ∧ E = eI) ∨ ∃ j : Nat, v1 = j ∧ j < sN (xS x) ∧ ¬ (1 ≤ v2 ∧ v2 ≤ 19) ∧ E = eA) hD.2.1 (by omega) (fun h hx => ok_X6_due hD hDI hlt rv1 rv2 (w := 0) (by omega) (fun j ja hj hc => h _ M ⟨j, ja, hj, hc, rfl, Sm.rf _ _, hD⟩) (fun o => hx _ (Or.inl ⟨o, rfl⟩)) (fun j ja hj hc => hx _ (Or.inr ⟨j, ja, hj, hc, rfl⟩))) (fun a M2 hg => ?_) (fun E hE => ?_)
    · rcases hg with ⟨j, ja, hj, hc, rfl, s2, d2⟩
      · refine ⟨(s2.2 _ (by omega)).trans h338, by have := s2.1; omega, ?_⟩
        refine V_memgen (fun M3 em3 => ?_)
        obtain ⟨l3, x3, e8, e9, sA⟩ := law_mid hI s2 em3
        clear em3
        obtain ⟨gn, g0, g1, g2, g3, g4, g5, g6⟩ := id x3
        refine V_istore C dL_law_1008 (by decide) ?_
        refine V_aload_n C dL_law_1010 rfl ?_
        refine V_aload_n C dL_law_1011 rfl ?_
        refine V_iload C dL_law_1012 rfl ?_
        refine V_iconst C dL_law_1014 ?_
        refine V_iadd C dL_law_1015 ?_
        refine V_sld C hX hbl hbA (by omega) (by omega) (show _ = i + 1 by omega) ev1 dL_law_1016 ?_
        refine V_aload_n C dL_law_1017 rfl ?_
        refine V_iload C dL_law_1018 rfl ?_
        refine V_iconst C dL_law_1020 ?_
        refine V_iadd C dL_law_1021 ?_
        refine V_sld C hX hbl hbA (by omega) (by omega) (show _ = i + 2 by omega) ev2 dL_law_1022 ?_
        refine V_aload_n C dL_law_1023 rfl ?_
        refine V_iload C dL_law_1024 rfl ?_
        refine V_iconst C dL_law_1026 ?_
        refine V_iadd C dL_law_1027 ?_
        refine V_sld C hX hbl hbA (by omega) (by omega) (show _ = i + 3 by omega) ev3 dL_law_1028 ?_
        refine V_if_eq C dL_law_1029 (tgt := 1036) (by decide) (by omega) (fun g1029 => ?_) (fun g1029 => ?_)
        · refine V_iconst C dL_law_1036 ?_
          refine V_callV (fr := 5) (lo := 112) (mc := 0) (ms := 0) (As := [_, _, _]) C yvX7_due w_1030 dL_law_1037 rfl rfl (by repeat (first | with_reducible assumption | with_reducible exact mset_self _ _ _ | refine (mset_ne (by omega)).trans ?_)) (by (try simp only [mset_1]); omega) rfl rfl (Nat.le_of_ble_eq_true rfl) ⟨Nat.le_of_ble_eq_true rfl, Nat.le_of_ble_eq_true rfl⟩ ⟨by show _ + 0 ≤ 601024; omega, by show _ + 0 ≤ 7293034; omega⟩ ?_
          refine ok_X7_due x3 rw9 hB rI rv1 rv2 (w := 0) (by omega) (fun o => absurd (show 0 ≤ v1 ∧ v1 < (sN (xS x) : Int) by omega) o) (fun j2 ja2 hj2 hc2 => absurd hc hc2) (fun j2 ja2 hj2 _ M4 u4 fr4 tl4 s4 x4 a4 b4 c4 => ?_)
          have e9_ : j2 = j := by omega
          subst e9_
          obtain ⟨gn, g0, g1, g2, g3, g4, g5, g6⟩ := id x4
          have f8 := (s4.2 338 (fun o => by have := o.2; omega)).trans e8
          have f9 := (s4.2 339 (fun o => by have := o.2; omega)).trans e9
          have f1 := s4.1.trans l3
          refine V_istore C dL_law_1040 (by decide) ?_
          refine V_aload_n C dL_law_1042 rfl ?_
          refine V_callV (fr := 0) (lo := 0) (mc := 0) (ms := 0) (As := []) C yvX7_thrown w_841 dL_law_1043 rfl rfl (by repeat (first | with_reducible assumption | with_reducible exact mset_self _ _ _ | refine (mset_ne (by omega)).trans ?_)) (by (try simp only [mset_1]); omega) rfl rfl (Nat.le_of_ble_eq_true rfl) ⟨Nat.le_of_ble_eq_true rfl, Nat.le_of_ble_eq_true rfl⟩ ⟨by show _ + 0 ≤ 601024; omega, by show _ + 0 ≤ 7293034; omega⟩ ?_
          refine ok_X7_thrown x4 ?_
          rw [b4]
          refine V_iload C dL_law_1046 rfl ?_
          refine V_icmp_eq C dL_law_1048 (tgt := 1053) (by decide) (by omega) (by omega) (fun g1048 => ?_) (fun g1048 => ?_)
          · refine V_iload C dL_law_1053 rfl ?_
            refine V_if_ne C dL_law_1055 (tgt := 1070) (by decide) (by omega) (fun g1055 => ?_) (fun g1055 => ?_)
            · exact absurd rfl g1055
            · refine V_aload_n C dL_law_1058 rfl ?_
              refine V_iconst C dL_law_1059 ?_
              refine V_laload C dL_law_1060 f8 (by (try simp only [mset_1]); omega) (by omega) (by omega) ?_
              refine V_iload C dL_law_1061 rfl ?_
              refine V_i2lw C dL_law_1063 ?_
              refine V_lcmp0 C (congrArg lgv (up_s _ 0 _).symm) dL_law_1064 ?_
              refine V_ifeq0 C dL_law_1065 (tgt := 1070) (by decide) ?_
              refine V_goto C dL_law_1070 (tgt := 1689) (by decide) ?_
              refine V_lv [(0, .ref b), (1, .ref (z + 0)), (2, .ref (z + 331)), (3, .ref (z + 338)), (4, .ref (z + 339)), (5, iv (i : Int))] (List.forall_mem_cons.mpr ⟨(by first | rfl | exact congrArg (fun t => some (iv t)) (by omega)), (List.forall_mem_cons.mpr ⟨(by first | rfl | exact congrArg (fun t => some (iv t)) (by omega)), (List.forall_mem_cons.mpr ⟨(by first | rfl | exact congrArg (fun t => some (iv t)) (by omega)), (List.forall_mem_cons.mpr ⟨(by first | rfl | exact congrArg (fun t => some (iv t)) (by omega)), (List.forall_mem_cons.mpr ⟨(by first | rfl | exact congrArg (fun t => some (iv t)) (by omega)), (List.forall_mem_cons.mpr ⟨(by first | rfl | exact congrArg (fun t => some (iv t)) (by omega)), (fun _ h => nomatch h)⟩)⟩)⟩)⟩)⟩)⟩) ?_
              refine V_widen (k := cells + 4) (n := slots + 24) (by omega) (by omega) ?_
              exact hk _ (LawE.mk d2 sA s4 l3 e8 e9 x4 hDI (hR.same a4 c4))
          · exact absurd rfl g1048
        · exact absurd g996 g1029
    · rcases hE with ⟨hc, rfl⟩ | ⟨j, ja, hj, hc, rfl⟩
      · refine Or.inl ⟨rfl, ?_⟩
        have x3 := hM
        have l3 := hM1
        have e8 := h338
        have e9 := h339
        have s2 : Sm M M (fun j => j < 331) := Sm.rf _ _
        have sA : Sm M M (fun j => 331 ≤ j) := Sm.rf _ _
        have d2 := hD
        obtain ⟨gn, g0, g1, g2, g3, g4, g5, g6⟩ := id x3
        refine V_istore C dL_law_1008 (by decide) ?_
        refine V_aload_n C dL_law_1010 rfl ?_
        refine V_aload_n C dL_law_1011 rfl ?_
        refine V_iload C dL_law_1012 rfl ?_
        refine V_iconst C dL_law_1014 ?_
        refine V_iadd C dL_law_1015 ?_
        refine V_sld C hX hbl hbA (by omega) (by omega) (show _ = i + 1 by omega) ev1 dL_law_1016 ?_
        refine V_aload_n C dL_law_1017 rfl ?_
        refine V_iload C dL_law_1018 rfl ?_
        refine V_iconst C dL_law_1020 ?_
        refine V_iadd C dL_law_1021 ?_
        refine V_sld C hX hbl hbA (by omega) (by omega) (show _ = i + 2 by omega) ev2 dL_law_1022 ?_
        refine V_aload_n C dL_law_1023 rfl ?_
        refine V_iload C dL_law_1024 rfl ?_
        refine V_iconst C dL_law_1026 ?_
        refine V_iadd C dL_law_1027 ?_
        refine V_sld C hX hbl hbA (by omega) (by omega) (show _ = i + 3 by omega) ev3 dL_law_1028 ?_
        refine V_if_eq C dL_law_1029 (tgt := 1036) (by decide) (by omega) (fun g1029 => ?_) (fun g1029 => ?_)
        · refine V_iconst C dL_law_1036 ?_
          refine V_callV (fr := 5) (lo := 112) (mc := 0) (ms := 0) (As := [_, _, _]) C yvX7_due w_1030 dL_law_1037 rfl rfl (by repeat (first | with_reducible assumption | with_reducible exact mset_self _ _ _ | refine (mset_ne (by omega)).trans ?_)) (by (try simp only [mset_1]); omega) rfl rfl (Nat.le_of_ble_eq_true rfl) ⟨Nat.le_of_ble_eq_true rfl, Nat.le_of_ble_eq_true rfl⟩ ⟨by show _ + 0 ≤ 601024; omega, by show _ + 0 ≤ 7293034; omega⟩ ?_
          refine ok_X7_due x3 rw9 hB rI rv1 rv2 (w := 0) (by omega) (fun _ M4 u4 fr4 tl4 s4 x4 a4 b4 c4 => ?_) (fun j2 ja2 hj2 hc2 => absurd hc (by omega)) (fun j2 ja2 hj2 _ => absurd hc (by omega))
          obtain ⟨gn, g0, g1, g2, g3, g4, g5, g6⟩ := id x4
          have f8 := (s4.2 338 (fun o => by have := o.2; omega)).trans e8
          have f9 := (s4.2 339 (fun o => by have := o.2; omega)).trans e9
          have f1 := s4.1.trans l3
          refine V_istore C dL_law_1040 (by decide) ?_
          refine V_aload_n C dL_law_1042 rfl ?_
          refine V_callV (fr := 0) (lo := 0) (mc := 0) (ms := 0) (As := []) C yvX7_thrown w_841 dL_law_1043 rfl rfl (by repeat (first | with_reducible assumption | with_reducible exact mset_self _ _ _ | refine (mset_ne (by omega)).trans ?_)) (by (try simp only [mset_1]); omega) rfl rfl (Nat.le_of_ble_eq_true rfl) ⟨Nat.le_of_ble_eq_true rfl, Nat.le_of_ble_eq_true rfl⟩ ⟨by show _ + 0 ≤ 601024; omega, by show _ + 0 ≤ 7293034; omega⟩ ?_
          refine ok_X7_thrown x4 ?_
          rw [b4]
          refine V_iload C dL_law_1046 rfl ?_
          refine V_icmp_eq C dL_law_1048 (tgt := 1053) (by decide) (by omega) (by omega) (fun g1048 => ?_) (fun g1048 => ?_)
          · refine V_iload C dL_law_1053 rfl ?_
            refine V_if_ne C dL_law_1055 (tgt := 1070) (by decide) (by omega) (fun g1055 => ?_) (fun g1055 => ?_)
            · refine V_goto C dL_law_1070 (tgt := 1689) (by decide) ?_
              refine V_lv [(0, .ref b), (1, .ref (z + 0)), (2, .ref (z + 331)), (3, .ref (z + 338)), (4, .ref (z + 339)), (5, iv (i : Int))] (List.forall_mem_cons.mpr ⟨(by first | rfl | exact congrArg (fun t => some (iv t)) (by omega)), (List.forall_mem_cons.mpr ⟨(by first | rfl | exact congrArg (fun t => some (iv t)) (by omega)), (List.forall_mem_cons.mpr ⟨(by first | rfl | exact congrArg (fun t => some (iv t)) (by omega)), (List.forall_mem_cons.mpr ⟨(by first | rfl | exact congrArg (fun t => some (iv t)) (by omega)), (List.forall_mem_cons.mpr ⟨(by first | rfl | exact congrArg (fun t => some (iv t)) (by omega)), (List.forall_mem_cons.mpr ⟨(by first | rfl | exact congrArg (fun t => some (iv t)) (by omega)), (fun _ h => nomatch h)⟩)⟩)⟩)⟩)⟩)⟩) ?_
              refine V_widen (k := cells + 4) (n := slots + 24) (by omega) (by omega) ?_
              exact hk _ (LawE.mk d2 sA s4 l3 e8 e9 x4 hDI (hR.same a4 c4))
            · exact absurd g1055 (by decide)
          · exact absurd rfl g1048
        · exact absurd g996 g1029
      · refine Or.inr  ⟨rfl, ?_⟩
        have x3 := hM
        have l3 := hM1
        have e8 := h338
        have e9 := h339
        have s2 : Sm M M (fun j => j < 331) := Sm.rf _ _
        have sA : Sm M M (fun j => 331 ≤ j) := Sm.rf _ _
        have d2 := hD
        obtain ⟨gn, g0, g1, g2, g3, g4, g5, g6⟩ := id x3
        refine V_istore C dL_law_1008 (by decide) ?_
        refine V_aload_n C dL_law_1010 rfl ?_
        refine V_aload_n C dL_law_1011 rfl ?_
        refine V_iload C dL_law_1012 rfl ?_
        refine V_iconst C dL_law_1014 ?_
        refine V_iadd C dL_law_1015 ?_
        refine V_sld C hX hbl hbA (by omega) (by omega) (show _ = i + 1 by omega) ev1 dL_law_1016 ?_
        refine V_aload_n C dL_law_1017 rfl ?_
        refine V_iload C dL_law_1018 rfl ?_
        refine V_iconst C dL_law_1020 ?_
        refine V_iadd C dL_law_1021 ?_
        refine V_sld C hX hbl hbA (by omega) (by omega) (show _ = i + 2 by omega) ev2 dL_law_1022 ?_
        refine V_aload_n C dL_law_1023 rfl ?_
        refine V_iload C dL_law_1024 rfl ?_
        refine V_iconst C dL_law_1026 ?_
        refine V_iadd C dL_law_1027 ?_
        refine V_sld C hX hbl hbA (by omega) (by omega) (show _ = i + 3 by omega) ev3 dL_law_1028 ?_
        refine V_if_eq C dL_law_1029 (tgt := 1036) (by decide) (by omega) (fun g1029 => ?_) (fun g1029 => ?_)
        · refine V_iconst C dL_law_1036 ?_
          refine V_callV (fr := 5) (lo := 112) (mc := 0) (ms := 0) (As := [_, _, _]) C yvX7_due w_1030 dL_law_1037 rfl rfl (by repeat (first | with_reducible assumption | with_reducible exact mset_self _ _ _ | refine (mset_ne (by omega)).trans ?_)) (by (try simp only [mset_1]); omega) rfl rfl (Nat.le_of_ble_eq_true rfl) ⟨Nat.le_of_ble_eq_true rfl, Nat.le_of_ble_eq_true rfl⟩ ⟨by show _ + 0 ≤ 601024; omega, by show _ + 0 ≤ 7293034; omega⟩ ?_
          refine ok_X7_due x3 rw9 hB rI rv1 rv2 (w := 0) (by omega) (fun o => absurd (show 0 ≤ v1 ∧ v1 < (sN (xS x) : Int) by omega) o) (fun j2 ja2 hj2 _ M4 u4 fr4 tl4 s4 x4 a4 b4 c4 => ?_) (fun j2 ja2 hj2 hc2 => absurd hc2 hc)
          obtain ⟨gn, g0, g1, g2, g3, g4, g5, g6⟩ := id x4
          have f8 := (s4.2 338 (fun o => by have := o.2; omega)).trans e8
          have f9 := (s4.2 339 (fun o => by have := o.2; omega)).trans e9
          have f1 := s4.1.trans l3
          refine V_istore C dL_law_1040 (by decide) ?_
          refine V_aload_n C dL_law_1042 rfl ?_
          refine V_callV (fr := 0) (lo := 0) (mc := 0) (ms := 0) (As := []) C yvX7_thrown w_841 dL_law_1043 rfl rfl (by repeat (first | with_reducible assumption | with_reducible exact mset_self _ _ _ | refine (mset_ne (by omega)).trans ?_)) (by (try simp only [mset_1]); omega) rfl rfl (Nat.le_of_ble_eq_true rfl) ⟨Nat.le_of_ble_eq_true rfl, Nat.le_of_ble_eq_true rfl⟩ ⟨by show _ + 0 ≤ 601024; omega, by show _ + 0 ≤ 7293034; omega⟩ ?_
          refine ok_X7_thrown x4 ?_
          rw [b4]
          refine V_iload C dL_law_1046 rfl ?_
          refine V_icmp_eq C dL_law_1048 (tgt := 1053) (by decide) (by omega) (by omega) (fun g1048 => ?_) (fun g1048 => ?_)
          · refine V_iload C dL_law_1053 rfl ?_
            refine V_if_ne C dL_law_1055 (tgt := 1070) (by decide) (by omega) (fun g1055 => ?_) (fun g1055 => ?_)
            · refine V_goto C dL_law_1070 (tgt := 1689) (by decide) ?_
              refine V_lv [(0, .ref b), (1, .ref (z + 0)), (2, .ref (z + 331)), (3, .ref (z + 338)), (4, .ref (z + 339)), (5, iv (i : Int))] (List.forall_mem_cons.mpr ⟨(by first | rfl | exact congrArg (fun t => some (iv t)) (by omega)), (List.forall_mem_cons.mpr ⟨(by first | rfl | exact congrArg (fun t => some (iv t)) (by omega)), (List.forall_mem_cons.mpr ⟨(by first | rfl | exact congrArg (fun t => some (iv t)) (by omega)), (List.forall_mem_cons.mpr ⟨(by first | rfl | exact congrArg (fun t => some (iv t)) (by omega)), (List.forall_mem_cons.mpr ⟨(by first | rfl | exact congrArg (fun t => some (iv t)) (by omega)), (List.forall_mem_cons.mpr ⟨(by first | rfl | exact congrArg (fun t => some (iv t)) (by omega)), (fun _ h => nomatch h)⟩)⟩)⟩)⟩)⟩)⟩) ?_
              refine V_widen (k := cells + 4) (n := slots + 24) (by omega) (by omega) ?_
              exact hk _ (LawE.mk d2 sA s4 l3 e8 e9 x4 hDI (hR.same a4 c4))
            · exact absurd g1055 (by decide)
          · exact absurd rfl g1048
        · exact absurd g996 g1029
  · refine V_iconst C dL_law_999 ?_
    refine V_goto C dL_law_1000 (tgt := 1004) (by decide) ?_
    refine V_aload_n C dL_law_1004 rfl ?_
    refine V_callW (fr := 8) (lo := 135) (mc := 2) (ms := 12) (As := [_, _, _, _, _]) C ywL_due w_690 dL_law_1005 rfl rfl (Nat.le_of_ble_eq_true rfl) ⟨Nat.le_of_ble_eq_true rfl, Nat.le_of_ble_eq_true rfl⟩ ⟨by show _ + 2 ≤ 601024; omega, by show _ + 12 ≤ 7293034; omega⟩ ?_
    refine ok_L_due (g9 := g9) (G9 := fun a M2 => ∃ j : Nat, v1 = j ∧ j < sN (xS x) ∧ (1 ≤ v2 ∧ v2 ≤ 19) ∧ a = (if (1 : Int) = 0 then RA (xS x) j 0 v2.toNat else RA (xS x) j 1 v2.toNat) ∧ Sm M M2 (fun q => q < 331) ∧ DockAt cy z M2 x) (GX := fun E => ((v1 < 0 ∨ (sN (xS x) : Int) ≤ v1) ∧ E = eI) ∨ ∃ j : Nat, v1 = j ∧ j < sN (xS x) ∧ ¬ (1 ≤ v2 ∧ v2 ≤ 19) ∧ E = eA) hD.2.1 (by omega) (fun h hx => ok_X6_due hD hDI hlt rv1 rv2 (w := 1) (by omega) (fun j ja hj hc => h _ M ⟨j, ja, hj, hc, rfl, Sm.rf _ _, hD⟩) (fun o => hx _ (Or.inl ⟨o, rfl⟩)) (fun j ja hj hc => hx _ (Or.inr ⟨j, ja, hj, hc, rfl⟩))) (fun a M2 hg => ?_) (fun E hE => ?_)
    · rcases hg with ⟨j, ja, hj, hc, rfl, s2, d2⟩
      · refine ⟨(s2.2 _ (by omega)).trans h338, by have := s2.1; omega, ?_⟩
        refine V_memgen (fun M3 em3 => ?_)
        obtain ⟨l3, x3, e8, e9, sA⟩ := law_mid hI s2 em3
        clear em3
        obtain ⟨gn, g0, g1, g2, g3, g4, g5, g6⟩ := id x3
        refine V_istore C dL_law_1008 (by decide) ?_
        refine V_aload_n C dL_law_1010 rfl ?_
        refine V_aload_n C dL_law_1011 rfl ?_
        refine V_iload C dL_law_1012 rfl ?_
        refine V_iconst C dL_law_1014 ?_
        refine V_iadd C dL_law_1015 ?_
        refine V_sld C hX hbl hbA (by omega) (by omega) (show _ = i + 1 by omega) ev1 dL_law_1016 ?_
        refine V_aload_n C dL_law_1017 rfl ?_
        refine V_iload C dL_law_1018 rfl ?_
        refine V_iconst C dL_law_1020 ?_
        refine V_iadd C dL_law_1021 ?_
        refine V_sld C hX hbl hbA (by omega) (by omega) (show _ = i + 2 by omega) ev2 dL_law_1022 ?_
        refine V_aload_n C dL_law_1023 rfl ?_
        refine V_iload C dL_law_1024 rfl ?_
        refine V_iconst C dL_law_1026 ?_
        refine V_iadd C dL_law_1027 ?_
        refine V_sld C hX hbl hbA (by omega) (by omega) (show _ = i + 3 by omega) ev3 dL_law_1028 ?_
        refine V_if_eq C dL_law_1029 (tgt := 1036) (by decide) (by omega) (fun g1029 => ?_) (fun g1029 => ?_)
        · exact absurd g1029 g996
        · refine V_iconst C dL_law_1032 ?_
          refine V_goto C dL_law_1033 (tgt := 1037) (by decide) ?_
          refine V_callV (fr := 5) (lo := 112) (mc := 0) (ms := 0) (As := [_, _, _]) C yvX7_due w_1030 dL_law_1037 rfl rfl (by repeat (first | with_reducible assumption | with_reducible exact mset_self _ _ _ | refine (mset_ne (by omega)).trans ?_)) (by (try simp only [mset_1]); omega) rfl rfl (Nat.le_of_ble_eq_true rfl) ⟨Nat.le_of_ble_eq_true rfl, Nat.le_of_ble_eq_true rfl⟩ ⟨by show _ + 0 ≤ 601024; omega, by show _ + 0 ≤ 7293034; omega⟩ ?_
          refine ok_X7_due x3 rw9 hB rI rv1 rv2 (w := 1) (by omega) (fun o => absurd (show 0 ≤ v1 ∧ v1 < (sN (xS x) : Int) by omega) o) (fun j2 ja2 hj2 hc2 => absurd hc hc2) (fun j2 ja2 hj2 _ M4 u4 fr4 tl4 s4 x4 a4 b4 c4 => ?_)
          have e9_ : j2 = j := by omega
          subst e9_
          obtain ⟨gn, g0, g1, g2, g3, g4, g5, g6⟩ := id x4
          have f8 := (s4.2 338 (fun o => by have := o.2; omega)).trans e8
          have f9 := (s4.2 339 (fun o => by have := o.2; omega)).trans e9
          have f1 := s4.1.trans l3
          refine V_istore C dL_law_1040 (by decide) ?_
          refine V_aload_n C dL_law_1042 rfl ?_
          refine V_callV (fr := 0) (lo := 0) (mc := 0) (ms := 0) (As := []) C yvX7_thrown w_841 dL_law_1043 rfl rfl (by repeat (first | with_reducible assumption | with_reducible exact mset_self _ _ _ | refine (mset_ne (by omega)).trans ?_)) (by (try simp only [mset_1]); omega) rfl rfl (Nat.le_of_ble_eq_true rfl) ⟨Nat.le_of_ble_eq_true rfl, Nat.le_of_ble_eq_true rfl⟩ ⟨by show _ + 0 ≤ 601024; omega, by show _ + 0 ≤ 7293034; omega⟩ ?_
          refine ok_X7_thrown x4 ?_
          rw [b4]
          refine V_iload C dL_law_1046 rfl ?_
          refine V_icmp_eq C dL_law_1048 (tgt := 1053) (by decide) (by omega) (by omega) (fun g1048 => ?_) (fun g1048 => ?_)
          · refine V_iload C dL_law_1053 rfl ?_
            refine V_if_ne C dL_law_1055 (tgt := 1070) (by decide) (by omega) (fun g1055 => ?_) (fun g1055 => ?_)
            · exact absurd rfl g1055
            · refine V_aload_n C dL_law_1058 rfl ?_
              refine V_iconst C dL_law_1059 ?_
              refine V_laload C dL_law_1060 f8 (by (try simp only [mset_1]); omega) (by omega) (by omega) ?_
              refine V_iload C dL_law_1061 rfl ?_
              refine V_i2lw C dL_law_1063 ?_
              refine V_lcmp0 C (congrArg lgv (up_s _ 0 _).symm) dL_law_1064 ?_
              refine V_ifeq0 C dL_law_1065 (tgt := 1070) (by decide) ?_
              refine V_goto C dL_law_1070 (tgt := 1689) (by decide) ?_
              refine V_lv [(0, .ref b), (1, .ref (z + 0)), (2, .ref (z + 331)), (3, .ref (z + 338)), (4, .ref (z + 339)), (5, iv (i : Int))] (List.forall_mem_cons.mpr ⟨(by first | rfl | exact congrArg (fun t => some (iv t)) (by omega)), (List.forall_mem_cons.mpr ⟨(by first | rfl | exact congrArg (fun t => some (iv t)) (by omega)), (List.forall_mem_cons.mpr ⟨(by first | rfl | exact congrArg (fun t => some (iv t)) (by omega)), (List.forall_mem_cons.mpr ⟨(by first | rfl | exact congrArg (fun t => some (iv t)) (by omega)), (List.forall_mem_cons.mpr ⟨(by first | rfl | exact congrArg (fun t => some (iv t)) (by omega)), (List.forall_mem_cons.mpr ⟨(by first | rfl | exact congrArg (fun t => some (iv t)) (by omega)), (fun _ h => nomatch h)⟩)⟩)⟩)⟩)⟩)⟩) ?_
              refine V_widen (k := cells + 4) (n := slots + 24) (by omega) (by omega) ?_
              exact hk _ (LawE.mk d2 sA s4 l3 e8 e9 x4 hDI (hR.same a4 c4))
          · exact absurd rfl g1048
    · rcases hE with ⟨hc, rfl⟩ | ⟨j, ja, hj, hc, rfl⟩
      · refine Or.inl ⟨rfl, ?_⟩
        have x3 := hM
        have l3 := hM1
        have e8 := h338
        have e9 := h339
        have s2 : Sm M M (fun j => j < 331) := Sm.rf _ _
        have sA : Sm M M (fun j => 331 ≤ j) := Sm.rf _ _
        have d2 := hD
        obtain ⟨gn, g0, g1, g2, g3, g4, g5, g6⟩ := id x3
        refine V_istore C dL_law_1008 (by decide) ?_
        refine V_aload_n C dL_law_1010 rfl ?_
        refine V_aload_n C dL_law_1011 rfl ?_
        refine V_iload C dL_law_1012 rfl ?_
        refine V_iconst C dL_law_1014 ?_
        refine V_iadd C dL_law_1015 ?_
        refine V_sld C hX hbl hbA (by omega) (by omega) (show _ = i + 1 by omega) ev1 dL_law_1016 ?_
        refine V_aload_n C dL_law_1017 rfl ?_
        refine V_iload C dL_law_1018 rfl ?_
        refine V_iconst C dL_law_1020 ?_
        refine V_iadd C dL_law_1021 ?_
        refine V_sld C hX hbl hbA (by omega) (by omega) (show _ = i + 2 by omega) ev2 dL_law_1022 ?_
        refine V_aload_n C dL_law_1023 rfl ?_
        refine V_iload C dL_law_1024 rfl ?_
        refine V_iconst C dL_law_1026 ?_
        refine V_iadd C dL_law_1027 ?_
        refine V_sld C hX hbl hbA (by omega) (by omega) (show _ = i + 3 by omega) ev3 dL_law_1028 ?_
        refine V_if_eq C dL_law_1029 (tgt := 1036) (by decide) (by omega) (fun g1029 => ?_) (fun g1029 => ?_)
        · exact absurd g1029 g996
        · refine V_iconst C dL_law_1032 ?_
          refine V_goto C dL_law_1033 (tgt := 1037) (by decide) ?_
          refine V_callV (fr := 5) (lo := 112) (mc := 0) (ms := 0) (As := [_, _, _]) C yvX7_due w_1030 dL_law_1037 rfl rfl (by repeat (first | with_reducible assumption | with_reducible exact mset_self _ _ _ | refine (mset_ne (by omega)).trans ?_)) (by (try simp only [mset_1]); omega) rfl rfl (Nat.le_of_ble_eq_true rfl) ⟨Nat.le_of_ble_eq_true rfl, Nat.le_of_ble_eq_true rfl⟩ ⟨by show _ + 0 ≤ 601024; omega, by show _ + 0 ≤ 7293034; omega⟩ ?_
          refine ok_X7_due x3 rw9 hB rI rv1 rv2 (w := 1) (by omega) (fun _ M4 u4 fr4 tl4 s4 x4 a4 b4 c4 => ?_) (fun j2 ja2 hj2 hc2 => absurd hc (by omega)) (fun j2 ja2 hj2 _ => absurd hc (by omega))
          obtain ⟨gn, g0, g1, g2, g3, g4, g5, g6⟩ := id x4
          have f8 := (s4.2 338 (fun o => by have := o.2; omega)).trans e8
          have f9 := (s4.2 339 (fun o => by have := o.2; omega)).trans e9
          have f1 := s4.1.trans l3
          refine V_istore C dL_law_1040 (by decide) ?_
          refine V_aload_n C dL_law_1042 rfl ?_
          refine V_callV (fr := 0) (lo := 0) (mc := 0) (ms := 0) (As := []) C yvX7_thrown w_841 dL_law_1043 rfl rfl (by repeat (first | with_reducible assumption | with_reducible exact mset_self _ _ _ | refine (mset_ne (by omega)).trans ?_)) (by (try simp only [mset_1]); omega) rfl rfl (Nat.le_of_ble_eq_true rfl) ⟨Nat.le_of_ble_eq_true rfl, Nat.le_of_ble_eq_true rfl⟩ ⟨by show _ + 0 ≤ 601024; omega, by show _ + 0 ≤ 7293034; omega⟩ ?_
          refine ok_X7_thrown x4 ?_
          rw [b4]
          refine V_iload C dL_law_1046 rfl ?_
          refine V_icmp_eq C dL_law_1048 (tgt := 1053) (by decide) (by omega) (by omega) (fun g1048 => ?_) (fun g1048 => ?_)
          · refine V_iload C dL_law_1053 rfl ?_
            refine V_if_ne C dL_law_1055 (tgt := 1070) (by decide) (by omega) (fun g1055 => ?_) (fun g1055 => ?_)
            · refine V_goto C dL_law_1070 (tgt := 1689) (by decide) ?_
              refine V_lv [(0, .ref b), (1, .ref (z + 0)), (2, .ref (z + 331)), (3, .ref (z + 338)), (4, .ref (z + 339)), (5, iv (i : Int))] (List.forall_mem_cons.mpr ⟨(by first | rfl | exact congrArg (fun t => some (iv t)) (by omega)), (List.forall_mem_cons.mpr ⟨(by first | rfl | exact congrArg (fun t => some (iv t)) (by omega)), (List.forall_mem_cons.mpr ⟨(by first | rfl | exact congrArg (fun t => some (iv t)) (by omega)), (List.forall_mem_cons.mpr ⟨(by first | rfl | exact congrArg (fun t => some (iv t)) (by omega)), (List.forall_mem_cons.mpr ⟨(by first | rfl | exact congrArg (fun t => some (iv t)) (by omega)), (List.forall_mem_cons.mpr ⟨(by first | rfl | exact congrArg (fun t => some (iv t)) (by omega)), (fun _ h => nomatch h)⟩)⟩)⟩)⟩)⟩)⟩) ?_
              refine V_widen (k := cells + 4) (n := slots + 24) (by omega) (by omega) ?_
              exact hk _ (LawE.mk d2 sA s4 l3 e8 e9 x4 hDI (hR.same a4 c4))
            · exact absurd g1055 (by decide)
          · exact absurd rfl g1048
      · refine Or.inr  ⟨rfl, ?_⟩
        have x3 := hM
        have l3 := hM1
        have e8 := h338
        have e9 := h339
        have s2 : Sm M M (fun j => j < 331) := Sm.rf _ _
        have sA : Sm M M (fun j => 331 ≤ j) := Sm.rf _ _
        have d2 := hD
        obtain ⟨gn, g0, g1, g2, g3, g4, g5, g6⟩ := id x3
        refine V_istore C dL_law_1008 (by decide) ?_
        refine V_aload_n C dL_law_1010 rfl ?_
        refine V_aload_n C dL_law_1011 rfl ?_
        refine V_iload C dL_law_1012 rfl ?_
        refine V_iconst C dL_law_1014 ?_
        refine V_iadd C dL_law_1015 ?_
        refine V_sld C hX hbl hbA (by omega) (by omega) (show _ = i + 1 by omega) ev1 dL_law_1016 ?_
        refine V_aload_n C dL_law_1017 rfl ?_
        refine V_iload C dL_law_1018 rfl ?_
        refine V_iconst C dL_law_1020 ?_
        refine V_iadd C dL_law_1021 ?_
        refine V_sld C hX hbl hbA (by omega) (by omega) (show _ = i + 2 by omega) ev2 dL_law_1022 ?_
        refine V_aload_n C dL_law_1023 rfl ?_
        refine V_iload C dL_law_1024 rfl ?_
        refine V_iconst C dL_law_1026 ?_
        refine V_iadd C dL_law_1027 ?_
        refine V_sld C hX hbl hbA (by omega) (by omega) (show _ = i + 3 by omega) ev3 dL_law_1028 ?_
        refine V_if_eq C dL_law_1029 (tgt := 1036) (by decide) (by omega) (fun g1029 => ?_) (fun g1029 => ?_)
        · exact absurd g1029 g996
        · refine V_iconst C dL_law_1032 ?_
          refine V_goto C dL_law_1033 (tgt := 1037) (by decide) ?_
          refine V_callV (fr := 5) (lo := 112) (mc := 0) (ms := 0) (As := [_, _, _]) C yvX7_due w_1030 dL_law_1037 rfl rfl (by repeat (first | with_reducible assumption | with_reducible exact mset_self _ _ _ | refine (mset_ne (by omega)).trans ?_)) (by (try simp only [mset_1]); omega) rfl rfl (Nat.le_of_ble_eq_true rfl) ⟨Nat.le_of_ble_eq_true rfl, Nat.le_of_ble_eq_true rfl⟩ ⟨by show _ + 0 ≤ 601024; omega, by show _ + 0 ≤ 7293034; omega⟩ ?_
          refine ok_X7_due x3 rw9 hB rI rv1 rv2 (w := 1) (by omega) (fun o => absurd (show 0 ≤ v1 ∧ v1 < (sN (xS x) : Int) by omega) o) (fun j2 ja2 hj2 _ M4 u4 fr4 tl4 s4 x4 a4 b4 c4 => ?_) (fun j2 ja2 hj2 hc2 => absurd hc2 hc)
          obtain ⟨gn, g0, g1, g2, g3, g4, g5, g6⟩ := id x4
          have f8 := (s4.2 338 (fun o => by have := o.2; omega)).trans e8
          have f9 := (s4.2 339 (fun o => by have := o.2; omega)).trans e9
          have f1 := s4.1.trans l3
          refine V_istore C dL_law_1040 (by decide) ?_
          refine V_aload_n C dL_law_1042 rfl ?_
          refine V_callV (fr := 0) (lo := 0) (mc := 0) (ms := 0) (As := []) C yvX7_thrown w_841 dL_law_1043 rfl rfl (by repeat (first | with_reducible assumption | with_reducible exact mset_self _ _ _ | refine (mset_ne (by omega)).trans ?_)) (by (try simp only [mset_1]); omega) rfl rfl (Nat.le_of_ble_eq_true rfl) ⟨Nat.le_of_ble_eq_true rfl, Nat.le_of_ble_eq_true rfl⟩ ⟨by show _ + 0 ≤ 601024; omega, by show _ + 0 ≤ 7293034; omega⟩ ?_
          refine ok_X7_thrown x4 ?_
          rw [b4]
          refine V_iload C dL_law_1046 rfl ?_
          refine V_icmp_eq C dL_law_1048 (tgt := 1053) (by decide) (by omega) (by omega) (fun g1048 => ?_) (fun g1048 => ?_)
          · refine V_iload C dL_law_1053 rfl ?_
            refine V_if_ne C dL_law_1055 (tgt := 1070) (by decide) (by omega) (fun g1055 => ?_) (fun g1055 => ?_)
            · refine V_goto C dL_law_1070 (tgt := 1689) (by decide) ?_
              refine V_lv [(0, .ref b), (1, .ref (z + 0)), (2, .ref (z + 331)), (3, .ref (z + 338)), (4, .ref (z + 339)), (5, iv (i : Int))] (List.forall_mem_cons.mpr ⟨(by first | rfl | exact congrArg (fun t => some (iv t)) (by omega)), (List.forall_mem_cons.mpr ⟨(by first | rfl | exact congrArg (fun t => some (iv t)) (by omega)), (List.forall_mem_cons.mpr ⟨(by first | rfl | exact congrArg (fun t => some (iv t)) (by omega)), (List.forall_mem_cons.mpr ⟨(by first | rfl | exact congrArg (fun t => some (iv t)) (by omega)), (List.forall_mem_cons.mpr ⟨(by first | rfl | exact congrArg (fun t => some (iv t)) (by omega)), (List.forall_mem_cons.mpr ⟨(by first | rfl | exact congrArg (fun t => some (iv t)) (by omega)), (fun _ h => nomatch h)⟩)⟩)⟩)⟩)⟩)⟩) ?_
              refine V_widen (k := cells + 4) (n := slots + 24) (by omega) (by omega) ?_
              exact hk _ (LawE.mk d2 sA s4 l3 e8 e9 x4 hDI (hR.same a4 c4))
            · exact absurd g1055 (by decide)
          · exact absurd rfl g1048

set_option maxHeartbeats 1000000 in
set_option maxRecDepth 4000 in
theorem law_c14 {p : Program} {l : Launch} {e : Env} {s : State} {m : MethodId} {args : Array Value} {below : List Frame} {meth : Method} {c : Code} {D : va_G} {cy : Nat → ClassId} {z : Nat} {Q : State → Prop} {cells slots : Nat} {M : Mm} (C : Cx p l s m args meth c D cy z 9 cL_law RL) (hlt : l.stackTraces = false) {b L : Nat} {xs : Nat → Int32} (hX : va_X b L xs s s.heap) (hbl : b < s.heap.size) (hbA : ¬ z ≤ b) (hL : L ≤ 2560) {i : Nat} (hi : i + 5 ≤ L) (hcs : cells + 4 ≤ 601024 ∧ slots + 24 ≤ 7293034) {x : DD} {u N P A tx fr tl g9 : Nat → Int} {d9 : Nat → UInt64} (hI : LawI cy z M x u N P A tx fr tl g9 d9) (hk : ∀ M', LawE cy z M' → V p l e room_1 s m args below meth c D z 9 Q (cells + 4) (slots + 24) M' 1689 [(0, .ref b), (1, .ref (z + 0)), (2, .ref (z + 331)), (3, .ref (z + 338)), (4, .ref (z + 339)), (5, iv (i : Int))] []) : V p l e room_1 s m args below meth c D z 9 Q cells slots M 1073 [(0, .ref b), (1, .ref (z + 0)), (2, .ref (z + 331)), (3, .ref (z + 338)), (4, .ref (z + 339)), (5, iv (i : Int))] [] := by
  obtain ⟨hD, hDI, hM, hM1, h338, h339, hR⟩ := id hI
  obtain ⟨r0, r2, rN, rV, rT⟩ := id hR
  obtain ⟨rw9, rI, rZ, rH⟩ := id rN
  have hB := hDI.1
  have hDc := hDI.2.1
  have hDt := hDI.2.2.2.1
  have hq6 := hB.2.2.1
  have hn10 := hB.2.1
  obtain ⟨v1, ev1⟩ : ∃ v, (xs (i + 1)).toInt = v := ⟨_, rfl⟩
  have rv1 : -2147483648 ≤ v1 ∧ v1 < 2147483648 := by rw [← ev1]; exact ⟨Int32.le_toInt _, Int32.toInt_lt _⟩
  obtain ⟨v2, ev2⟩ : ∃ v, (xs (i + 2)).toInt = v := ⟨_, rfl⟩
  have rv2 : -2147483648 ≤ v2 ∧ v2 < 2147483648 := by rw [← ev2]; exact ⟨Int32.le_toInt _, Int32.toInt_lt _⟩
  refine V_aload_n C dL_law_1073 rfl ?_
  refine V_aload_n C dL_law_1074 rfl ?_
  refine V_iload C dL_law_1075 rfl ?_
  refine V_iconst C dL_law_1077 ?_
  refine V_iadd C dL_law_1078 ?_
  refine V_sld C hX hbl hbA (by omega) (by omega) (show _ = i + 1 by omega) ev1 dL_law_1079 ?_
  refine V_aload_n C dL_law_1080 rfl ?_
  refine V_iload C dL_law_1081 rfl ?_
  refine V_iconst C dL_law_1083 ?_
  refine V_iadd C dL_law_1084 ?_
  refine V_sld C hX hbl hbA (by omega) (by omega) (show _ = i + 2 by omega) ev2 dL_law_1085 ?_
  refine V_aload_n C dL_law_1086 rfl ?_
  refine V_callW (fr := 8) (lo := 134) (mc := 2) (ms := 12) (As := [_, _, _, _]) C ywL_stood w_699 dL_law_1087 rfl rfl (Nat.le_of_ble_eq_true rfl) ⟨Nat.le_of_ble_eq_true rfl, Nat.le_of_ble_eq_true rfl⟩ ⟨by show _ + 2 ≤ 601024; omega, by show _ + 12 ≤ 7293034; omega⟩ ?_
  refine ok_L_stood (g9 := g9) (G9 := fun a M2 => (∃ j : Nat, v1 = j ∧ j < sN (xS x) ∧ (0 ≤ v2 ∧ v2 ≤ sc (xS x) 0) ∧ stoodR (RF (xS x) j) (RA (xS x) j) v2 (sc (xS x) 0) ∧ a = 1 ∧ Sm M M2 (fun q => q < 331) ∧ DockAt cy z M2 x) ∨ ∃ j : Nat, v1 = j ∧ j < sN (xS x) ∧ (0 ≤ v2 ∧ v2 ≤ sc (xS x) 0) ∧ ¬ stoodR (RF (xS x) j) (RA (xS x) j) v2 (sc (xS x) 0) ∧ a = 0 ∧ Sm M M2 (fun q => q < 331) ∧ DockAt cy z M2 x) (GX := fun E => ((v1 < 0 ∨ (sN (xS x) : Int) ≤ v1) ∧ E = eI) ∨ ∃ j : Nat, v1 = j ∧ j < sN (xS x) ∧ ¬ (0 ≤ v2 ∧ v2 ≤ sc (xS x) 0) ∧ E = eA) hD.2.1 (by omega) (fun h hx => ok_X6_stood hD hDI hlt rv1 rv2 (fun j ja hj hc hp => h _ M (Or.inl ⟨j, ja, hj, hc, hp, rfl, Sm.rf _ _, hD⟩)) (fun j ja hj hc hp => h _ M (Or.inr ⟨j, ja, hj, hc, hp, rfl, Sm.rf _ _, hD⟩)) (fun o => hx _ (Or.inl ⟨o, rfl⟩)) (fun j ja hj hc => hx _ (Or.inr ⟨j, ja, hj, hc, rfl⟩))) (fun a M2 hg => ?_) (fun E hE => ?_)
  · rcases hg with ⟨j, ja, hj, hc, hp, rfl, s2, d2⟩ | ⟨j, ja, hj, hc, hp, rfl, s2, d2⟩
    · refine ⟨by omega, (s2.2 _ (by omega)).trans h338, by have := s2.1; omega, ?_⟩
      refine V_memgen (fun M3 em3 => ?_)
      obtain ⟨l3, x3, e8, e9, sA⟩ := law_mid hI s2 em3
      clear em3
      obtain ⟨gn, g0, g1, g2, g3, g4, g5, g6⟩ := id x3
      refine V_istore C dL_law_1090 (by decide) ?_
      refine V_aload_n C dL_law_1092 rfl ?_
      refine V_aload_n C dL_law_1093 rfl ?_
      refine V_iload C dL_law_1094 rfl ?_
      refine V_iconst C dL_law_1096 ?_
      refine V_iadd C dL_law_1097 ?_
      refine V_sld C hX hbl hbA (by omega) (by omega) (show _ = i + 1 by omega) ev1 dL_law_1098 ?_
      refine V_aload_n C dL_law_1099 rfl ?_
      refine V_iload C dL_law_1100 rfl ?_
      refine V_iconst C dL_law_1102 ?_
      refine V_iadd C dL_law_1103 ?_
      refine V_sld C hX hbl hbA (by omega) (by omega) (show _ = i + 2 by omega) ev2 dL_law_1104 ?_
      refine V_callV (fr := 8) (lo := 178) (mc := 0) (ms := 0) (As := [_, _]) C yvX7_stood w_1034 dL_law_1105 rfl rfl (by repeat (first | with_reducible assumption | with_reducible exact mset_self _ _ _ | refine (mset_ne (by omega)).trans ?_)) (by (try simp only [mset_1]); omega) rfl rfl (Nat.le_of_ble_eq_true rfl) ⟨Nat.le_of_ble_eq_true rfl, Nat.le_of_ble_eq_true rfl⟩ ⟨by show _ + 0 ≤ 601024; omega, by show _ + 0 ≤ 7293034; omega⟩ ?_
      refine ok_X7_stood x3 rw9 hB rI rv1 rv2 (fun o => absurd (show 0 ≤ v1 ∧ v1 < (sN (xS x) : Int) by omega) o) (fun j2 ja2 hj2 hc2 => absurd hc hc2) (fun j2 ja2 hj2 _ hp2 M4 u4 fr4 tl4 s4 x4 a4 b4 c4 => ?_) (fun j2 ja2 hj2 _ hp2 => (by have e9_ : j2 = j := (by omega); subst e9_; exact absurd hp hp2))
      obtain ⟨gn, g0, g1, g2, g3, g4, g5, g6⟩ := id x4
      have f8 := (s4.2 338 (fun o => by have := o.2; omega)).trans e8
      have f9 := (s4.2 339 (fun o => by have := o.2; omega)).trans e9
      have f1 := s4.1.trans l3
      refine V_istore C dL_law_1108 (by decide) ?_
      refine V_aload_n C dL_law_1110 rfl ?_
      refine V_callV (fr := 0) (lo := 0) (mc := 0) (ms := 0) (As := []) C yvX7_thrown w_841 dL_law_1111 rfl rfl (by repeat (first | with_reducible assumption | with_reducible exact mset_self _ _ _ | refine (mset_ne (by omega)).trans ?_)) (by (try simp only [mset_1]); omega) rfl rfl (Nat.le_of_ble_eq_true rfl) ⟨Nat.le_of_ble_eq_true rfl, Nat.le_of_ble_eq_true rfl⟩ ⟨by show _ + 0 ≤ 601024; omega, by show _ + 0 ≤ 7293034; omega⟩ ?_
      refine ok_X7_thrown x4 ?_
      rw [b4]
      refine V_iload C dL_law_1114 rfl ?_
      refine V_icmp_eq C dL_law_1116 (tgt := 1121) (by decide) (by omega) (by omega) (fun g1116 => ?_) (fun g1116 => ?_)
      · refine V_iload C dL_law_1121 rfl ?_
        refine V_if_ne C dL_law_1123 (tgt := 1145) (by decide) (by omega) (fun g1123 => ?_) (fun g1123 => ?_)
        · exact absurd rfl g1123
        · refine V_aload_n C dL_law_1126 rfl ?_
          refine V_iconst C dL_law_1127 ?_
          refine V_laload C dL_law_1128 f8 (by (try simp only [mset_1]); omega) (by omega) (by omega) ?_
          refine V_iload C dL_law_1129 rfl ?_
          refine V_if_eq C dL_law_1131 (tgt := 1138) (by decide) (by omega) (fun g1131 => ?_) (fun g1131 => ?_)
          · exact absurd g1131 (by decide)
          · refine V_lconst (a := 1) C dL_law_1134 rfl ?_
            refine V_goto C dL_law_1135 (tgt := 1139) (by decide) ?_
            refine V_lcmp0 C (congrArg lgv (up_s _ 0 _).symm) dL_law_1139 ?_
            refine V_ifeq0 C dL_law_1140 (tgt := 1145) (by decide) ?_
            refine V_goto C dL_law_1145 (tgt := 1689) (by decide) ?_
            refine V_lv [(0, .ref b), (1, .ref (z + 0)), (2, .ref (z + 331)), (3, .ref (z + 338)), (4, .ref (z + 339)), (5, iv (i : Int))] (List.forall_mem_cons.mpr ⟨(by first | rfl | exact congrArg (fun t => some (iv t)) (by omega)), (List.forall_mem_cons.mpr ⟨(by first | rfl | exact congrArg (fun t => some (iv t)) (by omega)), (List.forall_mem_cons.mpr ⟨(by first | rfl | exact congrArg (fun t => some (iv t)) (by omega)), (List.forall_mem_cons.mpr ⟨(by first | rfl | exact congrArg (fun t => some (iv t)) (by omega)), (List.forall_mem_cons.mpr ⟨(by first | rfl | exact congrArg (fun t => some (iv t)) (by omega)), (List.forall_mem_cons.mpr ⟨(by first | rfl | exact congrArg (fun t => some (iv t)) (by omega)), (fun _ h => nomatch h)⟩)⟩)⟩)⟩)⟩)⟩) ?_
            refine V_widen (k := cells + 4) (n := slots + 24) (by omega) (by omega) ?_
            exact hk _ (LawE.mk d2 sA s4 l3 e8 e9 x4 hDI (hR.same a4 c4))
      · exact absurd rfl g1116
    · refine ⟨by omega, (s2.2 _ (by omega)).trans h338, by have := s2.1; omega, ?_⟩
      refine V_memgen (fun M3 em3 => ?_)
      obtain ⟨l3, x3, e8, e9, sA⟩ := law_mid hI s2 em3
      clear em3
      obtain ⟨gn, g0, g1, g2, g3, g4, g5, g6⟩ := id x3
      refine V_istore C dL_law_1090 (by decide) ?_
      refine V_aload_n C dL_law_1092 rfl ?_
      refine V_aload_n C dL_law_1093 rfl ?_
      refine V_iload C dL_law_1094 rfl ?_
      refine V_iconst C dL_law_1096 ?_
      refine V_iadd C dL_law_1097 ?_
      refine V_sld C hX hbl hbA (by omega) (by omega) (show _ = i + 1 by omega) ev1 dL_law_1098 ?_
      refine V_aload_n C dL_law_1099 rfl ?_
      refine V_iload C dL_law_1100 rfl ?_
      refine V_iconst C dL_law_1102 ?_
      refine V_iadd C dL_law_1103 ?_
      refine V_sld C hX hbl hbA (by omega) (by omega) (show _ = i + 2 by omega) ev2 dL_law_1104 ?_
      refine V_callV (fr := 8) (lo := 178) (mc := 0) (ms := 0) (As := [_, _]) C yvX7_stood w_1034 dL_law_1105 rfl rfl (by repeat (first | with_reducible assumption | with_reducible exact mset_self _ _ _ | refine (mset_ne (by omega)).trans ?_)) (by (try simp only [mset_1]); omega) rfl rfl (Nat.le_of_ble_eq_true rfl) ⟨Nat.le_of_ble_eq_true rfl, Nat.le_of_ble_eq_true rfl⟩ ⟨by show _ + 0 ≤ 601024; omega, by show _ + 0 ≤ 7293034; omega⟩ ?_
      refine ok_X7_stood x3 rw9 hB rI rv1 rv2 (fun o => absurd (show 0 ≤ v1 ∧ v1 < (sN (xS x) : Int) by omega) o) (fun j2 ja2 hj2 hc2 => absurd hc hc2) (fun j2 ja2 hj2 _ hp2 => (by have e9_ : j2 = j := (by omega); subst e9_; exact absurd hp2 hp)) (fun j2 ja2 hj2 _ hp2 M4 u4 fr4 tl4 s4 x4 a4 b4 c4 => ?_)
      obtain ⟨gn, g0, g1, g2, g3, g4, g5, g6⟩ := id x4
      have f8 := (s4.2 338 (fun o => by have := o.2; omega)).trans e8
      have f9 := (s4.2 339 (fun o => by have := o.2; omega)).trans e9
      have f1 := s4.1.trans l3
      refine V_istore C dL_law_1108 (by decide) ?_
      refine V_aload_n C dL_law_1110 rfl ?_
      refine V_callV (fr := 0) (lo := 0) (mc := 0) (ms := 0) (As := []) C yvX7_thrown w_841 dL_law_1111 rfl rfl (by repeat (first | with_reducible assumption | with_reducible exact mset_self _ _ _ | refine (mset_ne (by omega)).trans ?_)) (by (try simp only [mset_1]); omega) rfl rfl (Nat.le_of_ble_eq_true rfl) ⟨Nat.le_of_ble_eq_true rfl, Nat.le_of_ble_eq_true rfl⟩ ⟨by show _ + 0 ≤ 601024; omega, by show _ + 0 ≤ 7293034; omega⟩ ?_
      refine ok_X7_thrown x4 ?_
      rw [b4]
      refine V_iload C dL_law_1114 rfl ?_
      refine V_icmp_eq C dL_law_1116 (tgt := 1121) (by decide) (by omega) (by omega) (fun g1116 => ?_) (fun g1116 => ?_)
      · refine V_iload C dL_law_1121 rfl ?_
        refine V_if_ne C dL_law_1123 (tgt := 1145) (by decide) (by omega) (fun g1123 => ?_) (fun g1123 => ?_)
        · exact absurd rfl g1123
        · refine V_aload_n C dL_law_1126 rfl ?_
          refine V_iconst C dL_law_1127 ?_
          refine V_laload C dL_law_1128 f8 (by (try simp only [mset_1]); omega) (by omega) (by omega) ?_
          refine V_iload C dL_law_1129 rfl ?_
          refine V_if_eq C dL_law_1131 (tgt := 1138) (by decide) (by omega) (fun g1131 => ?_) (fun g1131 => ?_)
          · refine V_lconst (a := 0) C dL_law_1138 rfl ?_
            refine V_lcmp0 C (congrArg lgv (up_s _ 0 _).symm) dL_law_1139 ?_
            refine V_ifeq0 C dL_law_1140 (tgt := 1145) (by decide) ?_
            refine V_goto C dL_law_1145 (tgt := 1689) (by decide) ?_
            refine V_lv [(0, .ref b), (1, .ref (z + 0)), (2, .ref (z + 331)), (3, .ref (z + 338)), (4, .ref (z + 339)), (5, iv (i : Int))] (List.forall_mem_cons.mpr ⟨(by first | rfl | exact congrArg (fun t => some (iv t)) (by omega)), (List.forall_mem_cons.mpr ⟨(by first | rfl | exact congrArg (fun t => some (iv t)) (by omega)), (List.forall_mem_cons.mpr ⟨(by first | rfl | exact congrArg (fun t => some (iv t)) (by omega)), (List.forall_mem_cons.mpr ⟨(by first | rfl | exact congrArg (fun t => some (iv t)) (by omega)), (List.forall_mem_cons.mpr ⟨(by first | rfl | exact congrArg (fun t => some (iv t)) (by omega)), (List.forall_mem_cons.mpr ⟨(by first | rfl | exact congrArg (fun t => some (iv t)) (by omega)), (fun _ h => nomatch h)⟩)⟩)⟩)⟩)⟩)⟩) ?_
            refine V_widen (k := cells + 4) (n := slots + 24) (by omega) (by omega) ?_
            exact hk _ (LawE.mk d2 sA s4 l3 e8 e9 x4 hDI (hR.same a4 c4))
          · exact absurd rfl g1131
      · exact absurd rfl g1116
  · rcases hE with ⟨hc, rfl⟩ | ⟨j, ja, hj, hc, rfl⟩
    · refine Or.inl ⟨rfl, ?_⟩
      have x3 := hM
      have l3 := hM1
      have e8 := h338
      have e9 := h339
      have s2 : Sm M M (fun j => j < 331) := Sm.rf _ _
      have sA : Sm M M (fun j => 331 ≤ j) := Sm.rf _ _
      have d2 := hD
      obtain ⟨gn, g0, g1, g2, g3, g4, g5, g6⟩ := id x3
      refine V_istore C dL_law_1090 (by decide) ?_
      refine V_aload_n C dL_law_1092 rfl ?_
      refine V_aload_n C dL_law_1093 rfl ?_
      refine V_iload C dL_law_1094 rfl ?_
      refine V_iconst C dL_law_1096 ?_
      refine V_iadd C dL_law_1097 ?_
      refine V_sld C hX hbl hbA (by omega) (by omega) (show _ = i + 1 by omega) ev1 dL_law_1098 ?_
      refine V_aload_n C dL_law_1099 rfl ?_
      refine V_iload C dL_law_1100 rfl ?_
      refine V_iconst C dL_law_1102 ?_
      refine V_iadd C dL_law_1103 ?_
      refine V_sld C hX hbl hbA (by omega) (by omega) (show _ = i + 2 by omega) ev2 dL_law_1104 ?_
      refine V_callV (fr := 8) (lo := 178) (mc := 0) (ms := 0) (As := [_, _]) C yvX7_stood w_1034 dL_law_1105 rfl rfl (by repeat (first | with_reducible assumption | with_reducible exact mset_self _ _ _ | refine (mset_ne (by omega)).trans ?_)) (by (try simp only [mset_1]); omega) rfl rfl (Nat.le_of_ble_eq_true rfl) ⟨Nat.le_of_ble_eq_true rfl, Nat.le_of_ble_eq_true rfl⟩ ⟨by show _ + 0 ≤ 601024; omega, by show _ + 0 ≤ 7293034; omega⟩ ?_
      refine ok_X7_stood x3 rw9 hB rI rv1 rv2 (fun _ M4 u4 fr4 tl4 s4 x4 a4 b4 c4 => ?_) (fun j2 ja2 hj2 hc2 => absurd hc (by omega)) (fun j2 ja2 hj2 _ => absurd hc (by omega)) (fun j2 ja2 hj2 _ => absurd hc (by omega))
      obtain ⟨gn, g0, g1, g2, g3, g4, g5, g6⟩ := id x4
      have f8 := (s4.2 338 (fun o => by have := o.2; omega)).trans e8
      have f9 := (s4.2 339 (fun o => by have := o.2; omega)).trans e9
      have f1 := s4.1.trans l3
      refine V_istore C dL_law_1108 (by decide) ?_
      refine V_aload_n C dL_law_1110 rfl ?_
      refine V_callV (fr := 0) (lo := 0) (mc := 0) (ms := 0) (As := []) C yvX7_thrown w_841 dL_law_1111 rfl rfl (by repeat (first | with_reducible assumption | with_reducible exact mset_self _ _ _ | refine (mset_ne (by omega)).trans ?_)) (by (try simp only [mset_1]); omega) rfl rfl (Nat.le_of_ble_eq_true rfl) ⟨Nat.le_of_ble_eq_true rfl, Nat.le_of_ble_eq_true rfl⟩ ⟨by show _ + 0 ≤ 601024; omega, by show _ + 0 ≤ 7293034; omega⟩ ?_
      refine ok_X7_thrown x4 ?_
      rw [b4]
      refine V_iload C dL_law_1114 rfl ?_
      refine V_icmp_eq C dL_law_1116 (tgt := 1121) (by decide) (by omega) (by omega) (fun g1116 => ?_) (fun g1116 => ?_)
      · refine V_iload C dL_law_1121 rfl ?_
        refine V_if_ne C dL_law_1123 (tgt := 1145) (by decide) (by omega) (fun g1123 => ?_) (fun g1123 => ?_)
        · refine V_goto C dL_law_1145 (tgt := 1689) (by decide) ?_
          refine V_lv [(0, .ref b), (1, .ref (z + 0)), (2, .ref (z + 331)), (3, .ref (z + 338)), (4, .ref (z + 339)), (5, iv (i : Int))] (List.forall_mem_cons.mpr ⟨(by first | rfl | exact congrArg (fun t => some (iv t)) (by omega)), (List.forall_mem_cons.mpr ⟨(by first | rfl | exact congrArg (fun t => some (iv t)) (by omega)), (List.forall_mem_cons.mpr ⟨(by first | rfl | exact congrArg (fun t => some (iv t)) (by omega)), (List.forall_mem_cons.mpr ⟨(by first | rfl | exact congrArg (fun t => some (iv t)) (by omega)), (List.forall_mem_cons.mpr ⟨(by first | rfl | exact congrArg (fun t => some (iv t)) (by omega)), (List.forall_mem_cons.mpr ⟨(by first | rfl | exact congrArg (fun t => some (iv t)) (by omega)), (fun _ h => nomatch h)⟩)⟩)⟩)⟩)⟩)⟩) ?_
          refine V_widen (k := cells + 4) (n := slots + 24) (by omega) (by omega) ?_
          exact hk _ (LawE.mk d2 sA s4 l3 e8 e9 x4 hDI (hR.same a4 c4))
        · exact absurd g1123 (by decide)
      · exact absurd rfl g1116
    · refine Or.inr  ⟨rfl, ?_⟩
      have x3 := hM
      have l3 := hM1
      have e8 := h338
      have e9 := h339
      have s2 : Sm M M (fun j => j < 331) := Sm.rf _ _
      have sA : Sm M M (fun j => 331 ≤ j) := Sm.rf _ _
      have d2 := hD
      obtain ⟨gn, g0, g1, g2, g3, g4, g5, g6⟩ := id x3
      refine V_istore C dL_law_1090 (by decide) ?_
      refine V_aload_n C dL_law_1092 rfl ?_
      refine V_aload_n C dL_law_1093 rfl ?_
      refine V_iload C dL_law_1094 rfl ?_
      refine V_iconst C dL_law_1096 ?_
      refine V_iadd C dL_law_1097 ?_
      refine V_sld C hX hbl hbA (by omega) (by omega) (show _ = i + 1 by omega) ev1 dL_law_1098 ?_
      refine V_aload_n C dL_law_1099 rfl ?_
      refine V_iload C dL_law_1100 rfl ?_
      refine V_iconst C dL_law_1102 ?_
      refine V_iadd C dL_law_1103 ?_
      refine V_sld C hX hbl hbA (by omega) (by omega) (show _ = i + 2 by omega) ev2 dL_law_1104 ?_
      refine V_callV (fr := 8) (lo := 178) (mc := 0) (ms := 0) (As := [_, _]) C yvX7_stood w_1034 dL_law_1105 rfl rfl (by repeat (first | with_reducible assumption | with_reducible exact mset_self _ _ _ | refine (mset_ne (by omega)).trans ?_)) (by (try simp only [mset_1]); omega) rfl rfl (Nat.le_of_ble_eq_true rfl) ⟨Nat.le_of_ble_eq_true rfl, Nat.le_of_ble_eq_true rfl⟩ ⟨by show _ + 0 ≤ 601024; omega, by show _ + 0 ≤ 7293034; omega⟩ ?_
      refine ok_X7_stood x3 rw9 hB rI rv1 rv2 (fun o => absurd (show 0 ≤ v1 ∧ v1 < (sN (xS x) : Int) by omega) o) (fun j2 ja2 hj2 _ M4 u4 fr4 tl4 s4 x4 a4 b4 c4 => ?_) (fun j2 ja2 hj2 hc2 => absurd hc2 hc) (fun j2 ja2 hj2 hc2 => absurd hc2 hc)
      obtain ⟨gn, g0, g1, g2, g3, g4, g5, g6⟩ := id x4
      have f8 := (s4.2 338 (fun o => by have := o.2; omega)).trans e8
      have f9 := (s4.2 339 (fun o => by have := o.2; omega)).trans e9
      have f1 := s4.1.trans l3
      refine V_istore C dL_law_1108 (by decide) ?_
      refine V_aload_n C dL_law_1110 rfl ?_
      refine V_callV (fr := 0) (lo := 0) (mc := 0) (ms := 0) (As := []) C yvX7_thrown w_841 dL_law_1111 rfl rfl (by repeat (first | with_reducible assumption | with_reducible exact mset_self _ _ _ | refine (mset_ne (by omega)).trans ?_)) (by (try simp only [mset_1]); omega) rfl rfl (Nat.le_of_ble_eq_true rfl) ⟨Nat.le_of_ble_eq_true rfl, Nat.le_of_ble_eq_true rfl⟩ ⟨by show _ + 0 ≤ 601024; omega, by show _ + 0 ≤ 7293034; omega⟩ ?_
      refine ok_X7_thrown x4 ?_
      rw [b4]
      refine V_iload C dL_law_1114 rfl ?_
      refine V_icmp_eq C dL_law_1116 (tgt := 1121) (by decide) (by omega) (by omega) (fun g1116 => ?_) (fun g1116 => ?_)
      · refine V_iload C dL_law_1121 rfl ?_
        refine V_if_ne C dL_law_1123 (tgt := 1145) (by decide) (by omega) (fun g1123 => ?_) (fun g1123 => ?_)
        · refine V_goto C dL_law_1145 (tgt := 1689) (by decide) ?_
          refine V_lv [(0, .ref b), (1, .ref (z + 0)), (2, .ref (z + 331)), (3, .ref (z + 338)), (4, .ref (z + 339)), (5, iv (i : Int))] (List.forall_mem_cons.mpr ⟨(by first | rfl | exact congrArg (fun t => some (iv t)) (by omega)), (List.forall_mem_cons.mpr ⟨(by first | rfl | exact congrArg (fun t => some (iv t)) (by omega)), (List.forall_mem_cons.mpr ⟨(by first | rfl | exact congrArg (fun t => some (iv t)) (by omega)), (List.forall_mem_cons.mpr ⟨(by first | rfl | exact congrArg (fun t => some (iv t)) (by omega)), (List.forall_mem_cons.mpr ⟨(by first | rfl | exact congrArg (fun t => some (iv t)) (by omega)), (List.forall_mem_cons.mpr ⟨(by first | rfl | exact congrArg (fun t => some (iv t)) (by omega)), (fun _ h => nomatch h)⟩)⟩)⟩)⟩)⟩)⟩) ?_
          refine V_widen (k := cells + 4) (n := slots + 24) (by omega) (by omega) ?_
          exact hk _ (LawE.mk d2 sA s4 l3 e8 e9 x4 hDI (hR.same a4 c4))
        · exact absurd g1123 (by decide)
      · exact absurd rfl g1116

set_option maxHeartbeats 1000000 in
set_option maxRecDepth 4000 in
theorem law_c15 {p : Program} {l : Launch} {e : Env} {s : State} {m : MethodId} {args : Array Value} {below : List Frame} {meth : Method} {c : Code} {D : va_G} {cy : Nat → ClassId} {z : Nat} {Q : State → Prop} {cells slots : Nat} {M : Mm} (C : Cx p l s m args meth c D cy z 9 cL_law RL) (hlt : l.stackTraces = false) {b L : Nat} {xs : Nat → Int32} (hX : va_X b L xs s s.heap) (hbl : b < s.heap.size) (hbA : ¬ z ≤ b) (hL : L ≤ 2560) {i : Nat} (hi : i + 5 ≤ L) (hcs : cells + 4 ≤ 601024 ∧ slots + 24 ≤ 7293034) {x : DD} {u N P A tx fr tl g9 : Nat → Int} {d9 : Nat → UInt64} (hI : LawI cy z M x u N P A tx fr tl g9 d9) (hk : ∀ M', LawE cy z M' → V p l e room_1 s m args below meth c D z 9 Q (cells + 4) (slots + 24) M' 1689 [(0, .ref b), (1, .ref (z + 0)), (2, .ref (z + 331)), (3, .ref (z + 338)), (4, .ref (z + 339)), (5, iv (i : Int))] []) : V p l e room_1 s m args below meth c D z 9 Q cells slots M 1148 [(0, .ref b), (1, .ref (z + 0)), (2, .ref (z + 331)), (3, .ref (z + 338)), (4, .ref (z + 339)), (5, iv (i : Int))] [] := by
  obtain ⟨hD, hDI, hM, hM1, h338, h339, hR⟩ := id hI
  obtain ⟨r0, r2, rN, rV, rT⟩ := id hR
  obtain ⟨rw9, rI, rZ, rH⟩ := id rN
  have hB := hDI.1
  have hDc := hDI.2.1
  have hDt := hDI.2.2.2.1
  have hq6 := hB.2.2.1
  have hn10 := hB.2.1
  obtain ⟨v1, ev1⟩ : ∃ v, (xs (i + 1)).toInt = v := ⟨_, rfl⟩
  have rv1 : -2147483648 ≤ v1 ∧ v1 < 2147483648 := by rw [← ev1]; exact ⟨Int32.le_toInt _, Int32.toInt_lt _⟩
  obtain ⟨v2, ev2⟩ : ∃ v, (xs (i + 2)).toInt = v := ⟨_, rfl⟩
  have rv2 : -2147483648 ≤ v2 ∧ v2 < 2147483648 := by rw [← ev2]; exact ⟨Int32.le_toInt _, Int32.toInt_lt _⟩
  refine V_aload_n C dL_law_1148 rfl ?_
  refine V_aload_n C dL_law_1149 rfl ?_
  refine V_iload C dL_law_1150 rfl ?_
  refine V_iconst C dL_law_1152 ?_
  refine V_iadd C dL_law_1153 ?_
  refine V_sld C hX hbl hbA (by omega) (by omega) (show _ = i + 1 by omega) ev1 dL_law_1154 ?_
  refine V_aload_n C dL_law_1155 rfl ?_
  refine V_iload C dL_law_1156 rfl ?_
  refine V_iconst C dL_law_1158 ?_
  refine V_iadd C dL_law_1159 ?_
  refine V_sld C hX hbl hbA (by omega) (by omega) (show _ = i + 2 by omega) ev2 dL_law_1160 ?_
  refine V_aload_n C dL_law_1161 rfl ?_
  refine V_callW (fr := 8) (lo := 134) (mc := 2) (ms := 12) (As := [_, _, _, _]) C ywL_covered w_706 dL_law_1162 rfl rfl (Nat.le_of_ble_eq_true rfl) ⟨Nat.le_of_ble_eq_true rfl, Nat.le_of_ble_eq_true rfl⟩ ⟨by show _ + 2 ≤ 601024; omega, by show _ + 12 ≤ 7293034; omega⟩ ?_
  refine ok_L_covered (g9 := g9) (G9 := fun a M2 => (∃ j : Nat, v1 = j ∧ j < sN (xS x) ∧ (0 ≤ v2 ∧ v2 ≤ sc (xS x) 0) ∧ covR (RF (xS x) j) (RA (xS x) j) v2 (sc (xS x) 0) ∧ a = 1 ∧ Sm M M2 (fun q => q < 331) ∧ DockAt cy z M2 x) ∨ ∃ j : Nat, v1 = j ∧ j < sN (xS x) ∧ (0 ≤ v2 ∧ v2 ≤ sc (xS x) 0) ∧ ¬ covR (RF (xS x) j) (RA (xS x) j) v2 (sc (xS x) 0) ∧ a = 0 ∧ Sm M M2 (fun q => q < 331) ∧ DockAt cy z M2 x) (GX := fun E => ((v1 < 0 ∨ (sN (xS x) : Int) ≤ v1) ∧ E = eI) ∨ ∃ j : Nat, v1 = j ∧ j < sN (xS x) ∧ ¬ (0 ≤ v2 ∧ v2 ≤ sc (xS x) 0) ∧ E = eA) hD.2.1 (by omega) (fun h hx => ok_X6_covered hD hDI hlt rv1 rv2 (fun j ja hj hc hp => h _ M (Or.inl ⟨j, ja, hj, hc, hp, rfl, Sm.rf _ _, hD⟩)) (fun j ja hj hc hp => h _ M (Or.inr ⟨j, ja, hj, hc, hp, rfl, Sm.rf _ _, hD⟩)) (fun o => hx _ (Or.inl ⟨o, rfl⟩)) (fun j ja hj hc => hx _ (Or.inr ⟨j, ja, hj, hc, rfl⟩))) (fun a M2 hg => ?_) (fun E hE => ?_)
  · rcases hg with ⟨j, ja, hj, hc, hp, rfl, s2, d2⟩ | ⟨j, ja, hj, hc, hp, rfl, s2, d2⟩
    · refine ⟨by omega, (s2.2 _ (by omega)).trans h338, by have := s2.1; omega, ?_⟩
      refine V_memgen (fun M3 em3 => ?_)
      obtain ⟨l3, x3, e8, e9, sA⟩ := law_mid hI s2 em3
      clear em3
      obtain ⟨gn, g0, g1, g2, g3, g4, g5, g6⟩ := id x3
      refine V_istore C dL_law_1165 (by decide) ?_
      refine V_aload_n C dL_law_1167 rfl ?_
      refine V_aload_n C dL_law_1168 rfl ?_
      refine V_iload C dL_law_1169 rfl ?_
      refine V_iconst C dL_law_1171 ?_
      refine V_iadd C dL_law_1172 ?_
      refine V_sld C hX hbl hbA (by omega) (by omega) (show _ = i + 1 by omega) ev1 dL_law_1173 ?_
      refine V_aload_n C dL_law_1174 rfl ?_
      refine V_iload C dL_law_1175 rfl ?_
      refine V_iconst C dL_law_1177 ?_
      refine V_iadd C dL_law_1178 ?_
      refine V_sld C hX hbl hbA (by omega) (by omega) (show _ = i + 2 by omega) ev2 dL_law_1179 ?_
      refine V_callV (fr := 8) (lo := 178) (mc := 0) (ms := 0) (As := [_, _]) C yvX7_covered w_1050 dL_law_1180 rfl rfl (by repeat (first | with_reducible assumption | with_reducible exact mset_self _ _ _ | refine (mset_ne (by omega)).trans ?_)) (by (try simp only [mset_1]); omega) rfl rfl (Nat.le_of_ble_eq_true rfl) ⟨Nat.le_of_ble_eq_true rfl, Nat.le_of_ble_eq_true rfl⟩ ⟨by show _ + 0 ≤ 601024; omega, by show _ + 0 ≤ 7293034; omega⟩ ?_
      refine ok_X7_covered x3 rw9 hB rI rv1 rv2 (fun o => absurd (show 0 ≤ v1 ∧ v1 < (sN (xS x) : Int) by omega) o) (fun j2 ja2 hj2 hc2 => absurd hc hc2) (fun j2 ja2 hj2 _ hp2 M4 u4 fr4 tl4 s4 x4 a4 b4 c4 => ?_) (fun j2 ja2 hj2 _ hp2 => (by have e9_ : j2 = j := (by omega); subst e9_; exact absurd hp hp2))
      obtain ⟨gn, g0, g1, g2, g3, g4, g5, g6⟩ := id x4
      have f8 := (s4.2 338 (fun o => by have := o.2; omega)).trans e8
      have f9 := (s4.2 339 (fun o => by have := o.2; omega)).trans e9
      have f1 := s4.1.trans l3
      refine V_istore C dL_law_1183 (by decide) ?_
      refine V_aload_n C dL_law_1185 rfl ?_
      refine V_callV (fr := 0) (lo := 0) (mc := 0) (ms := 0) (As := []) C yvX7_thrown w_841 dL_law_1186 rfl rfl (by repeat (first | with_reducible assumption | with_reducible exact mset_self _ _ _ | refine (mset_ne (by omega)).trans ?_)) (by (try simp only [mset_1]); omega) rfl rfl (Nat.le_of_ble_eq_true rfl) ⟨Nat.le_of_ble_eq_true rfl, Nat.le_of_ble_eq_true rfl⟩ ⟨by show _ + 0 ≤ 601024; omega, by show _ + 0 ≤ 7293034; omega⟩ ?_
      refine ok_X7_thrown x4 ?_
      rw [b4]
      refine V_iload C dL_law_1189 rfl ?_
      refine V_icmp_eq C dL_law_1191 (tgt := 1196) (by decide) (by omega) (by omega) (fun g1191 => ?_) (fun g1191 => ?_)
      · refine V_iload C dL_law_1196 rfl ?_
        refine V_if_ne C dL_law_1198 (tgt := 1220) (by decide) (by omega) (fun g1198 => ?_) (fun g1198 => ?_)
        · exact absurd rfl g1198
        · refine V_aload_n C dL_law_1201 rfl ?_
          refine V_iconst C dL_law_1202 ?_
          refine V_laload C dL_law_1203 f8 (by (try simp only [mset_1]); omega) (by omega) (by omega) ?_
          refine V_iload C dL_law_1204 rfl ?_
          refine V_if_eq C dL_law_1206 (tgt := 1213) (by decide) (by omega) (fun g1206 => ?_) (fun g1206 => ?_)
          · exact absurd g1206 (by decide)
          · refine V_lconst (a := 1) C dL_law_1209 rfl ?_
            refine V_goto C dL_law_1210 (tgt := 1214) (by decide) ?_
            refine V_lcmp0 C (congrArg lgv (up_s _ 0 _).symm) dL_law_1214 ?_
            refine V_ifeq0 C dL_law_1215 (tgt := 1220) (by decide) ?_
            refine V_goto C dL_law_1220 (tgt := 1689) (by decide) ?_
            refine V_lv [(0, .ref b), (1, .ref (z + 0)), (2, .ref (z + 331)), (3, .ref (z + 338)), (4, .ref (z + 339)), (5, iv (i : Int))] (List.forall_mem_cons.mpr ⟨(by first | rfl | exact congrArg (fun t => some (iv t)) (by omega)), (List.forall_mem_cons.mpr ⟨(by first | rfl | exact congrArg (fun t => some (iv t)) (by omega)), (List.forall_mem_cons.mpr ⟨(by first | rfl | exact congrArg (fun t => some (iv t)) (by omega)), (List.forall_mem_cons.mpr ⟨(by first | rfl | exact congrArg (fun t => some (iv t)) (by omega)), (List.forall_mem_cons.mpr ⟨(by first | rfl | exact congrArg (fun t => some (iv t)) (by omega)), (List.forall_mem_cons.mpr ⟨(by first | rfl | exact congrArg (fun t => some (iv t)) (by omega)), (fun _ h => nomatch h)⟩)⟩)⟩)⟩)⟩)⟩) ?_
            refine V_widen (k := cells + 4) (n := slots + 24) (by omega) (by omega) ?_
            exact hk _ (LawE.mk d2 sA s4 l3 e8 e9 x4 hDI (hR.same a4 c4))
      · exact absurd rfl g1191
    · refine ⟨by omega, (s2.2 _ (by omega)).trans h338, by have := s2.1; omega, ?_⟩
      refine V_memgen (fun M3 em3 => ?_)
      obtain ⟨l3, x3, e8, e9, sA⟩ := law_mid hI s2 em3
      clear em3
      obtain ⟨gn, g0, g1, g2, g3, g4, g5, g6⟩ := id x3
      refine V_istore C dL_law_1165 (by decide) ?_
      refine V_aload_n C dL_law_1167 rfl ?_
      refine V_aload_n C dL_law_1168 rfl ?_
      refine V_iload C dL_law_1169 rfl ?_
      refine V_iconst C dL_law_1171 ?_
      refine V_iadd C dL_law_1172 ?_
      refine V_sld C hX hbl hbA (by omega) (by omega) (show _ = i + 1 by omega) ev1 dL_law_1173 ?_
      refine V_aload_n C dL_law_1174 rfl ?_
      refine V_iload C dL_law_1175 rfl ?_
      refine V_iconst C dL_law_1177 ?_
      refine V_iadd C dL_law_1178 ?_
      refine V_sld C hX hbl hbA (by omega) (by omega) (show _ = i + 2 by omega) ev2 dL_law_1179 ?_
      refine V_callV (fr := 8) (lo := 178) (mc := 0) (ms := 0) (As := [_, _]) C yvX7_covered w_1050 dL_law_1180 rfl rfl (by repeat (first | with_reducible assumption | with_reducible exact mset_self _ _ _ | refine (mset_ne (by omega)).trans ?_)) (by (try simp only [mset_1]); omega) rfl rfl (Nat.le_of_ble_eq_true rfl) ⟨Nat.le_of_ble_eq_true rfl, Nat.le_of_ble_eq_true rfl⟩ ⟨by show _ + 0 ≤ 601024; omega, by show _ + 0 ≤ 7293034; omega⟩ ?_
      refine ok_X7_covered x3 rw9 hB rI rv1 rv2 (fun o => absurd (show 0 ≤ v1 ∧ v1 < (sN (xS x) : Int) by omega) o) (fun j2 ja2 hj2 hc2 => absurd hc hc2) (fun j2 ja2 hj2 _ hp2 => (by have e9_ : j2 = j := (by omega); subst e9_; exact absurd hp2 hp)) (fun j2 ja2 hj2 _ hp2 M4 u4 fr4 tl4 s4 x4 a4 b4 c4 => ?_)
      obtain ⟨gn, g0, g1, g2, g3, g4, g5, g6⟩ := id x4
      have f8 := (s4.2 338 (fun o => by have := o.2; omega)).trans e8
      have f9 := (s4.2 339 (fun o => by have := o.2; omega)).trans e9
      have f1 := s4.1.trans l3
      refine V_istore C dL_law_1183 (by decide) ?_
      refine V_aload_n C dL_law_1185 rfl ?_
      refine V_callV (fr := 0) (lo := 0) (mc := 0) (ms := 0) (As := []) C yvX7_thrown w_841 dL_law_1186 rfl rfl (by repeat (first | with_reducible assumption | with_reducible exact mset_self _ _ _ | refine (mset_ne (by omega)).trans ?_)) (by (try simp only [mset_1]); omega) rfl rfl (Nat.le_of_ble_eq_true rfl) ⟨Nat.le_of_ble_eq_true rfl, Nat.le_of_ble_eq_true rfl⟩ ⟨by show _ + 0 ≤ 601024; omega, by show _ + 0 ≤ 7293034; omega⟩ ?_
      refine ok_X7_thrown x4 ?_
      rw [b4]
      refine V_iload C dL_law_1189 rfl ?_
      refine V_icmp_eq C dL_law_1191 (tgt := 1196) (by decide) (by omega) (by omega) (fun g1191 => ?_) (fun g1191 => ?_)
      · refine V_iload C dL_law_1196 rfl ?_
        refine V_if_ne C dL_law_1198 (tgt := 1220) (by decide) (by omega) (fun g1198 => ?_) (fun g1198 => ?_)
        · exact absurd rfl g1198
        · refine V_aload_n C dL_law_1201 rfl ?_
          refine V_iconst C dL_law_1202 ?_
          refine V_laload C dL_law_1203 f8 (by (try simp only [mset_1]); omega) (by omega) (by omega) ?_
          refine V_iload C dL_law_1204 rfl ?_
          refine V_if_eq C dL_law_1206 (tgt := 1213) (by decide) (by omega) (fun g1206 => ?_) (fun g1206 => ?_)
          · refine V_lconst (a := 0) C dL_law_1213 rfl ?_
            refine V_lcmp0 C (congrArg lgv (up_s _ 0 _).symm) dL_law_1214 ?_
            refine V_ifeq0 C dL_law_1215 (tgt := 1220) (by decide) ?_
            refine V_goto C dL_law_1220 (tgt := 1689) (by decide) ?_
            refine V_lv [(0, .ref b), (1, .ref (z + 0)), (2, .ref (z + 331)), (3, .ref (z + 338)), (4, .ref (z + 339)), (5, iv (i : Int))] (List.forall_mem_cons.mpr ⟨(by first | rfl | exact congrArg (fun t => some (iv t)) (by omega)), (List.forall_mem_cons.mpr ⟨(by first | rfl | exact congrArg (fun t => some (iv t)) (by omega)), (List.forall_mem_cons.mpr ⟨(by first | rfl | exact congrArg (fun t => some (iv t)) (by omega)), (List.forall_mem_cons.mpr ⟨(by first | rfl | exact congrArg (fun t => some (iv t)) (by omega)), (List.forall_mem_cons.mpr ⟨(by first | rfl | exact congrArg (fun t => some (iv t)) (by omega)), (List.forall_mem_cons.mpr ⟨(by first | rfl | exact congrArg (fun t => some (iv t)) (by omega)), (fun _ h => nomatch h)⟩)⟩)⟩)⟩)⟩)⟩) ?_
            refine V_widen (k := cells + 4) (n := slots + 24) (by omega) (by omega) ?_
            exact hk _ (LawE.mk d2 sA s4 l3 e8 e9 x4 hDI (hR.same a4 c4))
          · exact absurd rfl g1206
      · exact absurd rfl g1191
  · rcases hE with ⟨hc, rfl⟩ | ⟨j, ja, hj, hc, rfl⟩
    · refine Or.inl ⟨rfl, ?_⟩
      have x3 := hM
      have l3 := hM1
      have e8 := h338
      have e9 := h339
      have s2 : Sm M M (fun j => j < 331) := Sm.rf _ _
      have sA : Sm M M (fun j => 331 ≤ j) := Sm.rf _ _
      have d2 := hD
      obtain ⟨gn, g0, g1, g2, g3, g4, g5, g6⟩ := id x3
      refine V_istore C dL_law_1165 (by decide) ?_
      refine V_aload_n C dL_law_1167 rfl ?_
      refine V_aload_n C dL_law_1168 rfl ?_
      refine V_iload C dL_law_1169 rfl ?_
      refine V_iconst C dL_law_1171 ?_
      refine V_iadd C dL_law_1172 ?_
      refine V_sld C hX hbl hbA (by omega) (by omega) (show _ = i + 1 by omega) ev1 dL_law_1173 ?_
      refine V_aload_n C dL_law_1174 rfl ?_
      refine V_iload C dL_law_1175 rfl ?_
      refine V_iconst C dL_law_1177 ?_
      refine V_iadd C dL_law_1178 ?_
      refine V_sld C hX hbl hbA (by omega) (by omega) (show _ = i + 2 by omega) ev2 dL_law_1179 ?_
      refine V_callV (fr := 8) (lo := 178) (mc := 0) (ms := 0) (As := [_, _]) C yvX7_covered w_1050 dL_law_1180 rfl rfl (by repeat (first | with_reducible assumption | with_reducible exact mset_self _ _ _ | refine (mset_ne (by omega)).trans ?_)) (by (try simp only [mset_1]); omega) rfl rfl (Nat.le_of_ble_eq_true rfl) ⟨Nat.le_of_ble_eq_true rfl, Nat.le_of_ble_eq_true rfl⟩ ⟨by show _ + 0 ≤ 601024; omega, by show _ + 0 ≤ 7293034; omega⟩ ?_
      refine ok_X7_covered x3 rw9 hB rI rv1 rv2 (fun _ M4 u4 fr4 tl4 s4 x4 a4 b4 c4 => ?_) (fun j2 ja2 hj2 hc2 => absurd hc (by omega)) (fun j2 ja2 hj2 _ => absurd hc (by omega)) (fun j2 ja2 hj2 _ => absurd hc (by omega))
      obtain ⟨gn, g0, g1, g2, g3, g4, g5, g6⟩ := id x4
      have f8 := (s4.2 338 (fun o => by have := o.2; omega)).trans e8
      have f9 := (s4.2 339 (fun o => by have := o.2; omega)).trans e9
      have f1 := s4.1.trans l3
      refine V_istore C dL_law_1183 (by decide) ?_
      refine V_aload_n C dL_law_1185 rfl ?_
      refine V_callV (fr := 0) (lo := 0) (mc := 0) (ms := 0) (As := []) C yvX7_thrown w_841 dL_law_1186 rfl rfl (by repeat (first | with_reducible assumption | with_reducible exact mset_self _ _ _ | refine (mset_ne (by omega)).trans ?_)) (by (try simp only [mset_1]); omega) rfl rfl (Nat.le_of_ble_eq_true rfl) ⟨Nat.le_of_ble_eq_true rfl, Nat.le_of_ble_eq_true rfl⟩ ⟨by show _ + 0 ≤ 601024; omega, by show _ + 0 ≤ 7293034; omega⟩ ?_
      refine ok_X7_thrown x4 ?_
      rw [b4]
      refine V_iload C dL_law_1189 rfl ?_
      refine V_icmp_eq C dL_law_1191 (tgt := 1196) (by decide) (by omega) (by omega) (fun g1191 => ?_) (fun g1191 => ?_)
      · refine V_iload C dL_law_1196 rfl ?_
        refine V_if_ne C dL_law_1198 (tgt := 1220) (by decide) (by omega) (fun g1198 => ?_) (fun g1198 => ?_)
        · refine V_goto C dL_law_1220 (tgt := 1689) (by decide) ?_
          refine V_lv [(0, .ref b), (1, .ref (z + 0)), (2, .ref (z + 331)), (3, .ref (z + 338)), (4, .ref (z + 339)), (5, iv (i : Int))] (List.forall_mem_cons.mpr ⟨(by first | rfl | exact congrArg (fun t => some (iv t)) (by omega)), (List.forall_mem_cons.mpr ⟨(by first | rfl | exact congrArg (fun t => some (iv t)) (by omega)), (List.forall_mem_cons.mpr ⟨(by first | rfl | exact congrArg (fun t => some (iv t)) (by omega)), (List.forall_mem_cons.mpr ⟨(by first | rfl | exact congrArg (fun t => some (iv t)) (by omega)), (List.forall_mem_cons.mpr ⟨(by first | rfl | exact congrArg (fun t => some (iv t)) (by omega)), (List.forall_mem_cons.mpr ⟨(by first | rfl | exact congrArg (fun t => some (iv t)) (by omega)), (fun _ h => nomatch h)⟩)⟩)⟩)⟩)⟩)⟩) ?_
          refine V_widen (k := cells + 4) (n := slots + 24) (by omega) (by omega) ?_
          exact hk _ (LawE.mk d2 sA s4 l3 e8 e9 x4 hDI (hR.same a4 c4))
        · exact absurd g1198 (by decide)
      · exact absurd rfl g1191
    · refine Or.inr  ⟨rfl, ?_⟩
      have x3 := hM
      have l3 := hM1
      have e8 := h338
      have e9 := h339
      have s2 : Sm M M (fun j => j < 331) := Sm.rf _ _
      have sA : Sm M M (fun j => 331 ≤ j) := Sm.rf _ _
      have d2 := hD
      obtain ⟨gn, g0, g1, g2, g3, g4, g5, g6⟩ := id x3
      refine V_istore C dL_law_1165 (by decide) ?_
      refine V_aload_n C dL_law_1167 rfl ?_
      refine V_aload_n C dL_law_1168 rfl ?_
      refine V_iload C dL_law_1169 rfl ?_
      refine V_iconst C dL_law_1171 ?_
      refine V_iadd C dL_law_1172 ?_
      refine V_sld C hX hbl hbA (by omega) (by omega) (show _ = i + 1 by omega) ev1 dL_law_1173 ?_
      refine V_aload_n C dL_law_1174 rfl ?_
      refine V_iload C dL_law_1175 rfl ?_
      refine V_iconst C dL_law_1177 ?_
      refine V_iadd C dL_law_1178 ?_
      refine V_sld C hX hbl hbA (by omega) (by omega) (show _ = i + 2 by omega) ev2 dL_law_1179 ?_
      refine V_callV (fr := 8) (lo := 178) (mc := 0) (ms := 0) (As := [_, _]) C yvX7_covered w_1050 dL_law_1180 rfl rfl (by repeat (first | with_reducible assumption | with_reducible exact mset_self _ _ _ | refine (mset_ne (by omega)).trans ?_)) (by (try simp only [mset_1]); omega) rfl rfl (Nat.le_of_ble_eq_true rfl) ⟨Nat.le_of_ble_eq_true rfl, Nat.le_of_ble_eq_true rfl⟩ ⟨by show _ + 0 ≤ 601024; omega, by show _ + 0 ≤ 7293034; omega⟩ ?_
      refine ok_X7_covered x3 rw9 hB rI rv1 rv2 (fun o => absurd (show 0 ≤ v1 ∧ v1 < (sN (xS x) : Int) by omega) o) (fun j2 ja2 hj2 _ M4 u4 fr4 tl4 s4 x4 a4 b4 c4 => ?_) (fun j2 ja2 hj2 hc2 => absurd hc2 hc) (fun j2 ja2 hj2 hc2 => absurd hc2 hc)
      obtain ⟨gn, g0, g1, g2, g3, g4, g5, g6⟩ := id x4
      have f8 := (s4.2 338 (fun o => by have := o.2; omega)).trans e8
      have f9 := (s4.2 339 (fun o => by have := o.2; omega)).trans e9
      have f1 := s4.1.trans l3
      refine V_istore C dL_law_1183 (by decide) ?_
      refine V_aload_n C dL_law_1185 rfl ?_
      refine V_callV (fr := 0) (lo := 0) (mc := 0) (ms := 0) (As := []) C yvX7_thrown w_841 dL_law_1186 rfl rfl (by repeat (first | with_reducible assumption | with_reducible exact mset_self _ _ _ | refine (mset_ne (by omega)).trans ?_)) (by (try simp only [mset_1]); omega) rfl rfl (Nat.le_of_ble_eq_true rfl) ⟨Nat.le_of_ble_eq_true rfl, Nat.le_of_ble_eq_true rfl⟩ ⟨by show _ + 0 ≤ 601024; omega, by show _ + 0 ≤ 7293034; omega⟩ ?_
      refine ok_X7_thrown x4 ?_
      rw [b4]
      refine V_iload C dL_law_1189 rfl ?_
      refine V_icmp_eq C dL_law_1191 (tgt := 1196) (by decide) (by omega) (by omega) (fun g1191 => ?_) (fun g1191 => ?_)
      · refine V_iload C dL_law_1196 rfl ?_
        refine V_if_ne C dL_law_1198 (tgt := 1220) (by decide) (by omega) (fun g1198 => ?_) (fun g1198 => ?_)
        · refine V_goto C dL_law_1220 (tgt := 1689) (by decide) ?_
          refine V_lv [(0, .ref b), (1, .ref (z + 0)), (2, .ref (z + 331)), (3, .ref (z + 338)), (4, .ref (z + 339)), (5, iv (i : Int))] (List.forall_mem_cons.mpr ⟨(by first | rfl | exact congrArg (fun t => some (iv t)) (by omega)), (List.forall_mem_cons.mpr ⟨(by first | rfl | exact congrArg (fun t => some (iv t)) (by omega)), (List.forall_mem_cons.mpr ⟨(by first | rfl | exact congrArg (fun t => some (iv t)) (by omega)), (List.forall_mem_cons.mpr ⟨(by first | rfl | exact congrArg (fun t => some (iv t)) (by omega)), (List.forall_mem_cons.mpr ⟨(by first | rfl | exact congrArg (fun t => some (iv t)) (by omega)), (List.forall_mem_cons.mpr ⟨(by first | rfl | exact congrArg (fun t => some (iv t)) (by omega)), (fun _ h => nomatch h)⟩)⟩)⟩)⟩)⟩)⟩) ?_
          refine V_widen (k := cells + 4) (n := slots + 24) (by omega) (by omega) ?_
          exact hk _ (LawE.mk d2 sA s4 l3 e8 e9 x4 hDI (hR.same a4 c4))
        · exact absurd g1198 (by decide)
      · exact absurd rfl g1191

set_option maxHeartbeats 1000000 in
set_option maxRecDepth 4000 in
theorem law_c16 {p : Program} {l : Launch} {e : Env} {s : State} {m : MethodId} {args : Array Value} {below : List Frame} {meth : Method} {c : Code} {D : va_G} {cy : Nat → ClassId} {z : Nat} {Q : State → Prop} {cells slots : Nat} {M : Mm} (C : Cx p l s m args meth c D cy z 9 cL_law RL) (hlt : l.stackTraces = false) {b L : Nat} {xs : Nat → Int32} (hX : va_X b L xs s s.heap) (hbl : b < s.heap.size) (hbA : ¬ z ≤ b) (hL : L ≤ 2560) {i : Nat} (hi : i + 5 ≤ L) (hcs : cells + 4 ≤ 601024 ∧ slots + 24 ≤ 7293034) {x : DD} {u N P A tx fr tl g9 : Nat → Int} {d9 : Nat → UInt64} (hI : LawI cy z M x u N P A tx fr tl g9 d9) (hk : ∀ M', LawE cy z M' → V p l e room_1 s m args below meth c D z 9 Q (cells + 4) (slots + 24) M' 1689 [(0, .ref b), (1, .ref (z + 0)), (2, .ref (z + 331)), (3, .ref (z + 338)), (4, .ref (z + 339)), (5, iv (i : Int))] []) : V p l e room_1 s m args below meth c D z 9 Q cells slots M 1223 [(0, .ref b), (1, .ref (z + 0)), (2, .ref (z + 331)), (3, .ref (z + 338)), (4, .ref (z + 339)), (5, iv (i : Int))] [] := by
  obtain ⟨hD, hDI, hM, hM1, h338, h339, hR⟩ := id hI
  obtain ⟨r0, r2, rN, rV, rT⟩ := id hR
  obtain ⟨rw9, rI, rZ, rH⟩ := id rN
  have hB := hDI.1
  have hDc := hDI.2.1
  have hDt := hDI.2.2.2.1
  have hq6 := hB.2.2.1
  have hn10 := hB.2.1
  obtain ⟨v1, ev1⟩ : ∃ v, (xs (i + 1)).toInt = v := ⟨_, rfl⟩
  have rv1 : -2147483648 ≤ v1 ∧ v1 < 2147483648 := by rw [← ev1]; exact ⟨Int32.le_toInt _, Int32.toInt_lt _⟩
  obtain ⟨v2, ev2⟩ : ∃ v, (xs (i + 2)).toInt = v := ⟨_, rfl⟩
  have rv2 : -2147483648 ≤ v2 ∧ v2 < 2147483648 := by rw [← ev2]; exact ⟨Int32.le_toInt _, Int32.toInt_lt _⟩
  refine V_aload_n C dL_law_1223 rfl ?_
  refine V_aload_n C dL_law_1224 rfl ?_
  refine V_iload C dL_law_1225 rfl ?_
  refine V_iconst C dL_law_1227 ?_
  refine V_iadd C dL_law_1228 ?_
  refine V_sld C hX hbl hbA (by omega) (by omega) (show _ = i + 1 by omega) ev1 dL_law_1229 ?_
  refine V_aload_n C dL_law_1230 rfl ?_
  refine V_iload C dL_law_1231 rfl ?_
  refine V_iconst C dL_law_1233 ?_
  refine V_iadd C dL_law_1234 ?_
  refine V_sld C hX hbl hbA (by omega) (by omega) (show _ = i + 2 by omega) ev2 dL_law_1235 ?_
  refine V_aload_n C dL_law_1236 rfl ?_
  refine V_callW (fr := 8) (lo := 134) (mc := 2) (ms := 12) (As := [_, _, _, _]) C ywL_user w_721 dL_law_1237 rfl rfl (Nat.le_of_ble_eq_true rfl) ⟨Nat.le_of_ble_eq_true rfl, Nat.le_of_ble_eq_true rfl⟩ ⟨by show _ + 2 ≤ 601024; omega, by show _ + 12 ≤ 7293034; omega⟩ ?_
  refine ok_L_user (g9 := g9) (G9 := fun a M2 => ∃ j w : Nat, v1 = j ∧ j < sN (xS x) ∧ v2 = w ∧ w < 10 ∧ a = stU (RF (xS x) j) (RA (xS x) j) w ∧ Sm M M2 (fun q => q < 331) ∧ DockAt cy z M2 x) (GX := fun E => ((v1 < 0 ∨ (sN (xS x) : Int) ≤ v1) ∧ E = eI) ∨ ∃ j : Nat, v1 = j ∧ j < sN (xS x) ∧ ¬ (0 ≤ v2 ∧ v2 ≤ 9) ∧ E = eA) hD.2.1 (by omega) (fun h hx => ok_X6_user hD hDI hlt rv1 rv2 (fun j w ja hj jw hw => h _ M ⟨j, w, ja, hj, jw, hw, rfl, Sm.rf _ _, hD⟩) (fun o => hx _ (Or.inl ⟨o, rfl⟩)) (fun j ja hj hc => hx _ (Or.inr ⟨j, ja, hj, hc, rfl⟩))) (fun a M2 hg => ?_) (fun E hE => ?_)
  · rcases hg with ⟨j, w, ja, hj, jw, hw, rfl, s2, d2⟩
    · refine ⟨(s2.2 _ (by omega)).trans h338, by have := s2.1; omega, ?_⟩
      refine V_memgen (fun M3 em3 => ?_)
      obtain ⟨l3, x3, e8, e9, sA⟩ := law_mid hI s2 em3
      clear em3
      obtain ⟨gn, g0, g1, g2, g3, g4, g5, g6⟩ := id x3
      refine V_istore C dL_law_1240 (by decide) ?_
      refine V_aload_n C dL_law_1242 rfl ?_
      refine V_aload_n C dL_law_1243 rfl ?_
      refine V_iload C dL_law_1244 rfl ?_
      refine V_iconst C dL_law_1246 ?_
      refine V_iadd C dL_law_1247 ?_
      refine V_sld C hX hbl hbA (by omega) (by omega) (show _ = i + 1 by omega) ev1 dL_law_1248 ?_
      refine V_aload_n C dL_law_1249 rfl ?_
      refine V_iload C dL_law_1250 rfl ?_
      refine V_iconst C dL_law_1252 ?_
      refine V_iadd C dL_law_1253 ?_
      refine V_sld C hX hbl hbA (by omega) (by omega) (show _ = i + 2 by omega) ev2 dL_law_1254 ?_
      refine V_callV (fr := 3) (lo := 64) (mc := 0) (ms := 0) (As := [_, _]) C yvX7_user w_1054 dL_law_1255 rfl rfl (by repeat (first | with_reducible assumption | with_reducible exact mset_self _ _ _ | refine (mset_ne (by omega)).trans ?_)) (by (try simp only [mset_1]); omega) rfl rfl (Nat.le_of_ble_eq_true rfl) ⟨Nat.le_of_ble_eq_true rfl, Nat.le_of_ble_eq_true rfl⟩ ⟨by show _ + 0 ≤ 601024; omega, by show _ + 0 ≤ 7293034; omega⟩ ?_
      refine ok_X7_user x3 rw9 hB rI (rZ.V hB) rv1 rv2 (fun o => absurd (show 0 ≤ v1 ∧ v1 < (sN (xS x) : Int) by omega) o) (fun j2 ja2 hj2 hc2 => absurd (show 0 ≤ v2 ∧ v2 ≤ 9 by omega) hc2) (fun j2 w2 ja2 hj2 jw2 _ M4 u4 fr4 tl4 s4 x4 a4 b4 c4 => ?_)
      have e9_ : j2 = j := by omega
      subst e9_
      have e8_ : w2 = w := by omega
      subst e8_
      obtain ⟨gn, g0, g1, g2, g3, g4, g5, g6⟩ := id x4
      have f8 := (s4.2 338 (fun o => by have := o.2; omega)).trans e8
      have f9 := (s4.2 339 (fun o => by have := o.2; omega)).trans e9
      have f1 := s4.1.trans l3
      refine V_istore C dL_law_1258 (by decide) ?_
      refine V_aload_n C dL_law_1260 rfl ?_
      refine V_callV (fr := 0) (lo := 0) (mc := 0) (ms := 0) (As := []) C yvX7_thrown w_841 dL_law_1261 rfl rfl (by repeat (first | with_reducible assumption | with_reducible exact mset_self _ _ _ | refine (mset_ne (by omega)).trans ?_)) (by (try simp only [mset_1]); omega) rfl rfl (Nat.le_of_ble_eq_true rfl) ⟨Nat.le_of_ble_eq_true rfl, Nat.le_of_ble_eq_true rfl⟩ ⟨by show _ + 0 ≤ 601024; omega, by show _ + 0 ≤ 7293034; omega⟩ ?_
      refine ok_X7_thrown x4 ?_
      rw [b4]
      refine V_iload C dL_law_1264 rfl ?_
      refine V_icmp_eq C dL_law_1266 (tgt := 1271) (by decide) (by omega) (by omega) (fun g1266 => ?_) (fun g1266 => ?_)
      · refine V_iload C dL_law_1271 rfl ?_
        refine V_if_ne C dL_law_1273 (tgt := 1288) (by decide) (by omega) (fun g1273 => ?_) (fun g1273 => ?_)
        · exact absurd rfl g1273
        · refine V_aload_n C dL_law_1276 rfl ?_
          refine V_iconst C dL_law_1277 ?_
          refine V_laload C dL_law_1278 f8 (by (try simp only [mset_1]); omega) (by omega) (by omega) ?_
          refine V_iload C dL_law_1279 rfl ?_
          refine V_i2lw C dL_law_1281 ?_
          refine V_lcmp0 C (congrArg lgv (up_s _ 0 _).symm) dL_law_1282 ?_
          refine V_ifeq0 C dL_law_1283 (tgt := 1288) (by decide) ?_
          refine V_goto C dL_law_1288 (tgt := 1689) (by decide) ?_
          refine V_lv [(0, .ref b), (1, .ref (z + 0)), (2, .ref (z + 331)), (3, .ref (z + 338)), (4, .ref (z + 339)), (5, iv (i : Int))] (List.forall_mem_cons.mpr ⟨(by first | rfl | exact congrArg (fun t => some (iv t)) (by omega)), (List.forall_mem_cons.mpr ⟨(by first | rfl | exact congrArg (fun t => some (iv t)) (by omega)), (List.forall_mem_cons.mpr ⟨(by first | rfl | exact congrArg (fun t => some (iv t)) (by omega)), (List.forall_mem_cons.mpr ⟨(by first | rfl | exact congrArg (fun t => some (iv t)) (by omega)), (List.forall_mem_cons.mpr ⟨(by first | rfl | exact congrArg (fun t => some (iv t)) (by omega)), (List.forall_mem_cons.mpr ⟨(by first | rfl | exact congrArg (fun t => some (iv t)) (by omega)), (fun _ h => nomatch h)⟩)⟩)⟩)⟩)⟩)⟩) ?_
          refine V_widen (k := cells + 4) (n := slots + 24) (by omega) (by omega) ?_
          exact hk _ (LawE.mk d2 sA s4 l3 e8 e9 x4 hDI (hR.same a4 c4))
      · exact absurd rfl g1266
  · rcases hE with ⟨hc, rfl⟩ | ⟨j, ja, hj, hc, rfl⟩
    · refine Or.inl ⟨rfl, ?_⟩
      have x3 := hM
      have l3 := hM1
      have e8 := h338
      have e9 := h339
      have s2 : Sm M M (fun j => j < 331) := Sm.rf _ _
      have sA : Sm M M (fun j => 331 ≤ j) := Sm.rf _ _
      have d2 := hD
      obtain ⟨gn, g0, g1, g2, g3, g4, g5, g6⟩ := id x3
      refine V_istore C dL_law_1240 (by decide) ?_
      refine V_aload_n C dL_law_1242 rfl ?_
      refine V_aload_n C dL_law_1243 rfl ?_
      refine V_iload C dL_law_1244 rfl ?_
      refine V_iconst C dL_law_1246 ?_
      refine V_iadd C dL_law_1247 ?_
      refine V_sld C hX hbl hbA (by omega) (by omega) (show _ = i + 1 by omega) ev1 dL_law_1248 ?_
      refine V_aload_n C dL_law_1249 rfl ?_
      refine V_iload C dL_law_1250 rfl ?_
      refine V_iconst C dL_law_1252 ?_
      refine V_iadd C dL_law_1253 ?_
      refine V_sld C hX hbl hbA (by omega) (by omega) (show _ = i + 2 by omega) ev2 dL_law_1254 ?_
      refine V_callV (fr := 3) (lo := 64) (mc := 0) (ms := 0) (As := [_, _]) C yvX7_user w_1054 dL_law_1255 rfl rfl (by repeat (first | with_reducible assumption | with_reducible exact mset_self _ _ _ | refine (mset_ne (by omega)).trans ?_)) (by (try simp only [mset_1]); omega) rfl rfl (Nat.le_of_ble_eq_true rfl) ⟨Nat.le_of_ble_eq_true rfl, Nat.le_of_ble_eq_true rfl⟩ ⟨by show _ + 0 ≤ 601024; omega, by show _ + 0 ≤ 7293034; omega⟩ ?_
      refine ok_X7_user x3 rw9 hB rI (rZ.V hB) rv1 rv2 (fun _ M4 u4 fr4 tl4 s4 x4 a4 b4 c4 => ?_) (fun j2 ja2 hj2 hc2 => absurd hc (by omega)) (fun j2 w2 ja2 hj2 _ _ => absurd hc (by omega))
      obtain ⟨gn, g0, g1, g2, g3, g4, g5, g6⟩ := id x4
      have f8 := (s4.2 338 (fun o => by have := o.2; omega)).trans e8
      have f9 := (s4.2 339 (fun o => by have := o.2; omega)).trans e9
      have f1 := s4.1.trans l3
      refine V_istore C dL_law_1258 (by decide) ?_
      refine V_aload_n C dL_law_1260 rfl ?_
      refine V_callV (fr := 0) (lo := 0) (mc := 0) (ms := 0) (As := []) C yvX7_thrown w_841 dL_law_1261 rfl rfl (by repeat (first | with_reducible assumption | with_reducible exact mset_self _ _ _ | refine (mset_ne (by omega)).trans ?_)) (by (try simp only [mset_1]); omega) rfl rfl (Nat.le_of_ble_eq_true rfl) ⟨Nat.le_of_ble_eq_true rfl, Nat.le_of_ble_eq_true rfl⟩ ⟨by show _ + 0 ≤ 601024; omega, by show _ + 0 ≤ 7293034; omega⟩ ?_
      refine ok_X7_thrown x4 ?_
      rw [b4]
      refine V_iload C dL_law_1264 rfl ?_
      refine V_icmp_eq C dL_law_1266 (tgt := 1271) (by decide) (by omega) (by omega) (fun g1266 => ?_) (fun g1266 => ?_)
      · refine V_iload C dL_law_1271 rfl ?_
        refine V_if_ne C dL_law_1273 (tgt := 1288) (by decide) (by omega) (fun g1273 => ?_) (fun g1273 => ?_)
        · refine V_goto C dL_law_1288 (tgt := 1689) (by decide) ?_
          refine V_lv [(0, .ref b), (1, .ref (z + 0)), (2, .ref (z + 331)), (3, .ref (z + 338)), (4, .ref (z + 339)), (5, iv (i : Int))] (List.forall_mem_cons.mpr ⟨(by first | rfl | exact congrArg (fun t => some (iv t)) (by omega)), (List.forall_mem_cons.mpr ⟨(by first | rfl | exact congrArg (fun t => some (iv t)) (by omega)), (List.forall_mem_cons.mpr ⟨(by first | rfl | exact congrArg (fun t => some (iv t)) (by omega)), (List.forall_mem_cons.mpr ⟨(by first | rfl | exact congrArg (fun t => some (iv t)) (by omega)), (List.forall_mem_cons.mpr ⟨(by first | rfl | exact congrArg (fun t => some (iv t)) (by omega)), (List.forall_mem_cons.mpr ⟨(by first | rfl | exact congrArg (fun t => some (iv t)) (by omega)), (fun _ h => nomatch h)⟩)⟩)⟩)⟩)⟩)⟩) ?_
          refine V_widen (k := cells + 4) (n := slots + 24) (by omega) (by omega) ?_
          exact hk _ (LawE.mk d2 sA s4 l3 e8 e9 x4 hDI (hR.same a4 c4))
        · exact absurd g1273 (by decide)
      · exact absurd rfl g1266
    · refine Or.inr  ⟨rfl, ?_⟩
      have x3 := hM
      have l3 := hM1
      have e8 := h338
      have e9 := h339
      have s2 : Sm M M (fun j => j < 331) := Sm.rf _ _
      have sA : Sm M M (fun j => 331 ≤ j) := Sm.rf _ _
      have d2 := hD
      obtain ⟨gn, g0, g1, g2, g3, g4, g5, g6⟩ := id x3
      refine V_istore C dL_law_1240 (by decide) ?_
      refine V_aload_n C dL_law_1242 rfl ?_
      refine V_aload_n C dL_law_1243 rfl ?_
      refine V_iload C dL_law_1244 rfl ?_
      refine V_iconst C dL_law_1246 ?_
      refine V_iadd C dL_law_1247 ?_
      refine V_sld C hX hbl hbA (by omega) (by omega) (show _ = i + 1 by omega) ev1 dL_law_1248 ?_
      refine V_aload_n C dL_law_1249 rfl ?_
      refine V_iload C dL_law_1250 rfl ?_
      refine V_iconst C dL_law_1252 ?_
      refine V_iadd C dL_law_1253 ?_
      refine V_sld C hX hbl hbA (by omega) (by omega) (show _ = i + 2 by omega) ev2 dL_law_1254 ?_
      refine V_callV (fr := 3) (lo := 64) (mc := 0) (ms := 0) (As := [_, _]) C yvX7_user w_1054 dL_law_1255 rfl rfl (by repeat (first | with_reducible assumption | with_reducible exact mset_self _ _ _ | refine (mset_ne (by omega)).trans ?_)) (by (try simp only [mset_1]); omega) rfl rfl (Nat.le_of_ble_eq_true rfl) ⟨Nat.le_of_ble_eq_true rfl, Nat.le_of_ble_eq_true rfl⟩ ⟨by show _ + 0 ≤ 601024; omega, by show _ + 0 ≤ 7293034; omega⟩ ?_
      refine ok_X7_user x3 rw9 hB rI (rZ.V hB) rv1 rv2 (fun o => absurd (show 0 ≤ v1 ∧ v1 < (sN (xS x) : Int) by omega) o) (fun j2 ja2 hj2 _ M4 u4 fr4 tl4 s4 x4 a4 b4 c4 => ?_) (fun j2 w2 ja2 hj2 jw2 hw2 => absurd (show 0 ≤ v2 ∧ v2 ≤ 9 by omega) hc)
      obtain ⟨gn, g0, g1, g2, g3, g4, g5, g6⟩ := id x4
      have f8 := (s4.2 338 (fun o => by have := o.2; omega)).trans e8
      have f9 := (s4.2 339 (fun o => by have := o.2; omega)).trans e9
      have f1 := s4.1.trans l3
      refine V_istore C dL_law_1258 (by decide) ?_
      refine V_aload_n C dL_law_1260 rfl ?_
      refine V_callV (fr := 0) (lo := 0) (mc := 0) (ms := 0) (As := []) C yvX7_thrown w_841 dL_law_1261 rfl rfl (by repeat (first | with_reducible assumption | with_reducible exact mset_self _ _ _ | refine (mset_ne (by omega)).trans ?_)) (by (try simp only [mset_1]); omega) rfl rfl (Nat.le_of_ble_eq_true rfl) ⟨Nat.le_of_ble_eq_true rfl, Nat.le_of_ble_eq_true rfl⟩ ⟨by show _ + 0 ≤ 601024; omega, by show _ + 0 ≤ 7293034; omega⟩ ?_
      refine ok_X7_thrown x4 ?_
      rw [b4]
      refine V_iload C dL_law_1264 rfl ?_
      refine V_icmp_eq C dL_law_1266 (tgt := 1271) (by decide) (by omega) (by omega) (fun g1266 => ?_) (fun g1266 => ?_)
      · refine V_iload C dL_law_1271 rfl ?_
        refine V_if_ne C dL_law_1273 (tgt := 1288) (by decide) (by omega) (fun g1273 => ?_) (fun g1273 => ?_)
        · refine V_goto C dL_law_1288 (tgt := 1689) (by decide) ?_
          refine V_lv [(0, .ref b), (1, .ref (z + 0)), (2, .ref (z + 331)), (3, .ref (z + 338)), (4, .ref (z + 339)), (5, iv (i : Int))] (List.forall_mem_cons.mpr ⟨(by first | rfl | exact congrArg (fun t => some (iv t)) (by omega)), (List.forall_mem_cons.mpr ⟨(by first | rfl | exact congrArg (fun t => some (iv t)) (by omega)), (List.forall_mem_cons.mpr ⟨(by first | rfl | exact congrArg (fun t => some (iv t)) (by omega)), (List.forall_mem_cons.mpr ⟨(by first | rfl | exact congrArg (fun t => some (iv t)) (by omega)), (List.forall_mem_cons.mpr ⟨(by first | rfl | exact congrArg (fun t => some (iv t)) (by omega)), (List.forall_mem_cons.mpr ⟨(by first | rfl | exact congrArg (fun t => some (iv t)) (by omega)), (fun _ h => nomatch h)⟩)⟩)⟩)⟩)⟩)⟩) ?_
          refine V_widen (k := cells + 4) (n := slots + 24) (by omega) (by omega) ?_
          exact hk _ (LawE.mk d2 sA s4 l3 e8 e9 x4 hDI (hR.same a4 c4))
        · exact absurd g1273 (by decide)
      · exact absurd rfl g1266

set_option maxHeartbeats 1000000 in
set_option maxRecDepth 4000 in
theorem law_c21 {p : Program} {l : Launch} {e : Env} {s : State} {m : MethodId} {args : Array Value} {below : List Frame} {meth : Method} {c : Code} {D : va_G} {cy : Nat → ClassId} {z : Nat} {Q : State → Prop} {cells slots : Nat} {M : Mm} (C : Cx p l s m args meth c D cy z 9 cL_law RL) (hlt : l.stackTraces = false) {b L : Nat} {xs : Nat → Int32} (hX : va_X b L xs s s.heap) (hbl : b < s.heap.size) (hbA : ¬ z ≤ b) (hL : L ≤ 2560) {i : Nat} (hi : i + 5 ≤ L) (hcs : cells + 4 ≤ 601024 ∧ slots + 24 ≤ 7293034) {x : DD} {u N P A tx fr tl g9 : Nat → Int} {d9 : Nat → UInt64} (hI : LawI cy z M x u N P A tx fr tl g9 d9) (hk : ∀ M', LawE cy z M' → V p l e room_1 s m args below meth c D z 9 Q (cells + 4) (slots + 24) M' 1689 [(0, .ref b), (1, .ref (z + 0)), (2, .ref (z + 331)), (3, .ref (z + 338)), (4, .ref (z + 339)), (5, iv (i : Int))] []) : V p l e room_1 s m args below meth c D z 9 Q cells slots M 1472 [(0, .ref b), (1, .ref (z + 0)), (2, .ref (z + 331)), (3, .ref (z + 338)), (4, .ref (z + 339)), (5, iv (i : Int))] [] := by
  obtain ⟨hD, hDI, hM, hM1, h338, h339, hR⟩ := id hI
  obtain ⟨r0, r2, rN, rV, rT⟩ := id hR
  obtain ⟨rw9, rI, rZ, rH⟩ := id rN
  have hB := hDI.1
  have hDc := hDI.2.1
  have hDt := hDI.2.2.2.1
  have hq6 := hB.2.2.1
  have hn10 := hB.2.1
  obtain ⟨v1, ev1⟩ : ∃ v, (xs (i + 1)).toInt = v := ⟨_, rfl⟩
  have rv1 : -2147483648 ≤ v1 ∧ v1 < 2147483648 := by rw [← ev1]; exact ⟨Int32.le_toInt _, Int32.toInt_lt _⟩
  refine V_aload_n C dL_law_1472 rfl ?_
  refine V_aload_n C dL_law_1473 rfl ?_
  refine V_iload C dL_law_1474 rfl ?_
  refine V_iconst C dL_law_1476 ?_
  refine V_iadd C dL_law_1477 ?_
  refine V_sld C hX hbl hbA (by omega) (by omega) (show _ = i + 1 by omega) ev1 dL_law_1478 ?_
  refine V_aload C dL_law_1479 rfl ?_
  refine V_callW (fr := 8) (lo := 134) (mc := 1) (ms := 6) (As := [_, _, _]) C ywL_share w_757 dL_law_1481 rfl rfl (Nat.le_of_ble_eq_true rfl) ⟨Nat.le_of_ble_eq_true rfl, Nat.le_of_ble_eq_true rfl⟩ ⟨by show _ + 1 ≤ 601024; omega, by show _ + 6 ≤ 7293034; omega⟩ ?_
  refine ok_L_share (d9 := d9) (G9 := fun a M2 => ∃ j : Nat, v1 = j ∧ j < sN (xS x) ∧ a = shT (xS x) j ∧ Sm M M2 (fun q => q < 331) ∧ DockAt cy z M2 x) (GX := fun E => (v1 < 0 ∨ (sN (xS x) : Int) ≤ v1) ∧ E = eI) hD.2.1 (by omega) (fun h hx => ok_X6_share hD hDI hlt rv1 (fun j ja hj => h _ M ⟨j, ja, hj, rfl, Sm.rf _ _, hD⟩) (fun o => hx _ ⟨o, rfl⟩)) (fun a M2 hg => ?_) (fun E hE => ?_)
  · rcases hg with ⟨j, ja, hj, rfl, s2, d2⟩
    · refine ⟨(s2.2 _ (by omega)).trans h339, by have := s2.1; omega, ?_⟩
      refine V_memgen (fun M3 em3 => ?_)
      obtain ⟨l3, x3, e8, e9, sA⟩ := law_midD hI s2 em3
      clear em3
      obtain ⟨gn, g0, g1, g2, g3, g4, g5, g6⟩ := id x3
      refine V_istore C dL_law_1484 (by decide) ?_
      refine V_aload_n C dL_law_1486 rfl ?_
      refine V_aload_n C dL_law_1487 rfl ?_
      refine V_iload C dL_law_1488 rfl ?_
      refine V_iconst C dL_law_1490 ?_
      refine V_iadd C dL_law_1491 ?_
      refine V_sld C hX hbl hbA (by omega) (by omega) (show _ = i + 1 by omega) ev1 dL_law_1492 ?_
      refine V_callV (fr := 7) (lo := 156) (mc := 0) (ms := 0) (As := [_]) C yvX7_share w_1097 dL_law_1493 rfl rfl (by repeat (first | with_reducible assumption | with_reducible exact mset_self _ _ _ | refine (mset_ne (by omega)).trans ?_)) (by (try simp only [mset_1]); omega) rfl rfl (Nat.le_of_ble_eq_true rfl) ⟨Nat.le_of_ble_eq_true rfl, Nat.le_of_ble_eq_true rfl⟩ ⟨by show _ + 0 ≤ 601024; omega, by show _ + 0 ≤ 7293034; omega⟩ ?_
      refine ok_X7_share x3 rw9 hB rI rv1 (fun o => absurd (show 0 ≤ v1 ∧ v1 < (sN (xS x) : Int) by omega) o) (fun j2 ja2 hj2 M4 u4 fr4 tl4 s4 x4 a4 b4 c4 => ?_)
      have e9_ : j2 = j := by omega
      subst e9_
      obtain ⟨gn, g0, g1, g2, g3, g4, g5, g6⟩ := id x4
      have f8 := (s4.2 338 (fun o => by have := o.2; omega)).trans e8
      have f9 := (s4.2 339 (fun o => by have := o.2; omega)).trans e9
      have f1 := s4.1.trans l3
      refine V_dstore C dL_law_1496 (by decide) ?_
      refine V_aload_n C dL_law_1498 rfl ?_
      refine V_callV (fr := 0) (lo := 0) (mc := 0) (ms := 0) (As := []) C yvX7_thrown w_841 dL_law_1499 rfl rfl (by repeat (first | with_reducible assumption | with_reducible exact mset_self _ _ _ | refine (mset_ne (by omega)).trans ?_)) (by (try simp only [mset_1]); omega) rfl rfl (Nat.le_of_ble_eq_true rfl) ⟨Nat.le_of_ble_eq_true rfl, Nat.le_of_ble_eq_true rfl⟩ ⟨by show _ + 0 ≤ 601024; omega, by show _ + 0 ≤ 7293034; omega⟩ ?_
      refine ok_X7_thrown x4 ?_
      rw [b4]
      refine V_iload C dL_law_1502 rfl ?_
      refine V_icmp_eq C dL_law_1504 (tgt := 1509) (by decide) (by omega) (by omega) (fun g1504 => ?_) (fun g1504 => ?_)
      · refine V_iload C dL_law_1509 rfl ?_
        refine V_if_ne C dL_law_1511 (tgt := 1546) (by decide) (by omega) (fun g1511 => ?_) (fun g1511 => ?_)
        · exact absurd rfl g1511
        · refine V_aload C dL_law_1514 rfl ?_
          refine V_iconst C dL_law_1516 ?_
          refine V_daload C dL_law_1517 f9 (by (try simp only [mset_1]); omega) (by omega) (by omega) ?_
          refine V_dload C dL_law_1518 rfl ?_
          refine V_dcmp0 C (shT_nn hB (by omega)) dL_law_1520 ?_
          refine V_ifeq0 C dL_law_1521 (tgt := 1546) (by decide) ?_
          refine V_goto C dL_law_1546 (tgt := 1689) (by decide) ?_
          refine V_lv [(0, .ref b), (1, .ref (z + 0)), (2, .ref (z + 331)), (3, .ref (z + 338)), (4, .ref (z + 339)), (5, iv (i : Int))] (List.forall_mem_cons.mpr ⟨(by first | rfl | exact congrArg (fun t => some (iv t)) (by omega)), (List.forall_mem_cons.mpr ⟨(by first | rfl | exact congrArg (fun t => some (iv t)) (by omega)), (List.forall_mem_cons.mpr ⟨(by first | rfl | exact congrArg (fun t => some (iv t)) (by omega)), (List.forall_mem_cons.mpr ⟨(by first | rfl | exact congrArg (fun t => some (iv t)) (by omega)), (List.forall_mem_cons.mpr ⟨(by first | rfl | exact congrArg (fun t => some (iv t)) (by omega)), (List.forall_mem_cons.mpr ⟨(by first | rfl | exact congrArg (fun t => some (iv t)) (by omega)), (fun _ h => nomatch h)⟩)⟩)⟩)⟩)⟩)⟩) ?_
          refine V_widen (k := cells + 4) (n := slots + 24) (by omega) (by omega) ?_
          exact hk _ (LawE.mk d2 sA s4 l3 e8 e9 x4 hDI (hR.same a4 c4))
      · exact absurd rfl g1504
  · rcases hE with ⟨hc, rfl⟩
    · refine ⟨rfl, ?_⟩
      have x3 := hM
      have l3 := hM1
      have e8 := h338
      have e9 := h339
      have s2 : Sm M M (fun j => j < 331) := Sm.rf _ _
      have sA : Sm M M (fun j => 331 ≤ j) := Sm.rf _ _
      have d2 := hD
      obtain ⟨gn, g0, g1, g2, g3, g4, g5, g6⟩ := id x3
      refine V_istore C dL_law_1484 (by decide) ?_
      refine V_aload_n C dL_law_1486 rfl ?_
      refine V_aload_n C dL_law_1487 rfl ?_
      refine V_iload C dL_law_1488 rfl ?_
      refine V_iconst C dL_law_1490 ?_
      refine V_iadd C dL_law_1491 ?_
      refine V_sld C hX hbl hbA (by omega) (by omega) (show _ = i + 1 by omega) ev1 dL_law_1492 ?_
      refine V_callV (fr := 7) (lo := 156) (mc := 0) (ms := 0) (As := [_]) C yvX7_share w_1097 dL_law_1493 rfl rfl (by repeat (first | with_reducible assumption | with_reducible exact mset_self _ _ _ | refine (mset_ne (by omega)).trans ?_)) (by (try simp only [mset_1]); omega) rfl rfl (Nat.le_of_ble_eq_true rfl) ⟨Nat.le_of_ble_eq_true rfl, Nat.le_of_ble_eq_true rfl⟩ ⟨by show _ + 0 ≤ 601024; omega, by show _ + 0 ≤ 7293034; omega⟩ ?_
      refine ok_X7_share x3 rw9 hB rI rv1 (fun _ M4 u4 fr4 tl4 s4 x4 a4 b4 c4 => ?_) (fun j2 ja2 hj2 => absurd hc (by omega))
      obtain ⟨gn, g0, g1, g2, g3, g4, g5, g6⟩ := id x4
      have f8 := (s4.2 338 (fun o => by have := o.2; omega)).trans e8
      have f9 := (s4.2 339 (fun o => by have := o.2; omega)).trans e9
      have f1 := s4.1.trans l3
      refine V_dstore C dL_law_1496 (by decide) ?_
      refine V_aload_n C dL_law_1498 rfl ?_
      refine V_callV (fr := 0) (lo := 0) (mc := 0) (ms := 0) (As := []) C yvX7_thrown w_841 dL_law_1499 rfl rfl (by repeat (first | with_reducible assumption | with_reducible exact mset_self _ _ _ | refine (mset_ne (by omega)).trans ?_)) (by (try simp only [mset_1]); omega) rfl rfl (Nat.le_of_ble_eq_true rfl) ⟨Nat.le_of_ble_eq_true rfl, Nat.le_of_ble_eq_true rfl⟩ ⟨by show _ + 0 ≤ 601024; omega, by show _ + 0 ≤ 7293034; omega⟩ ?_
      refine ok_X7_thrown x4 ?_
      rw [b4]
      refine V_iload C dL_law_1502 rfl ?_
      refine V_icmp_eq C dL_law_1504 (tgt := 1509) (by decide) (by omega) (by omega) (fun g1504 => ?_) (fun g1504 => ?_)
      · refine V_iload C dL_law_1509 rfl ?_
        refine V_if_ne C dL_law_1511 (tgt := 1546) (by decide) (by omega) (fun g1511 => ?_) (fun g1511 => ?_)
        · refine V_goto C dL_law_1546 (tgt := 1689) (by decide) ?_
          refine V_lv [(0, .ref b), (1, .ref (z + 0)), (2, .ref (z + 331)), (3, .ref (z + 338)), (4, .ref (z + 339)), (5, iv (i : Int))] (List.forall_mem_cons.mpr ⟨(by first | rfl | exact congrArg (fun t => some (iv t)) (by omega)), (List.forall_mem_cons.mpr ⟨(by first | rfl | exact congrArg (fun t => some (iv t)) (by omega)), (List.forall_mem_cons.mpr ⟨(by first | rfl | exact congrArg (fun t => some (iv t)) (by omega)), (List.forall_mem_cons.mpr ⟨(by first | rfl | exact congrArg (fun t => some (iv t)) (by omega)), (List.forall_mem_cons.mpr ⟨(by first | rfl | exact congrArg (fun t => some (iv t)) (by omega)), (List.forall_mem_cons.mpr ⟨(by first | rfl | exact congrArg (fun t => some (iv t)) (by omega)), (fun _ h => nomatch h)⟩)⟩)⟩)⟩)⟩)⟩) ?_
          refine V_widen (k := cells + 4) (n := slots + 24) (by omega) (by omega) ?_
          exact hk _ (LawE.mk d2 sA s4 l3 e8 e9 x4 hDI (hR.same a4 c4))
        · exact absurd g1511 (by decide)
      · exact absurd rfl g1504

