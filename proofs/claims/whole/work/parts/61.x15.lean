/-! constructors, walked -/
set_option maxHeartbeats 1000000 in
set_option maxRecDepth 4000 in
theorem ok_X1_init {l : Launch} {D : va_G} {cy : Nat → ClassId} {z : Nat} {M : Mm} {K : Option Value → Mm → Prop} {k : Nat} (hk : M.1 = k + 1) (h0 : M.2 k = oX 0 [iv 0, iv 0, iv 0, iv 0]) (hK : ∀ M', At9 M M' k [oX 0 [iv 100, iv 20, iv 50, iv 300]] → K none M') :
    MT l D cy z true yX1_init (wsy yX1_init cX1_init 1 none) 1 20 0 0 M [.ref (z + k)] K := by
  refine MT_of (by decide) w_54 (Nat.le_of_ble_eq_true rfl) ?_
  intro p e s m args below meth c C hr hx0
  have hin := (hx0 rfl).2
  have hz0 := (hx0 rfl).1
  have hA : At9 M M k [oX 0 [iv 0, iv 0, iv 0, iv 0]] := At9.one hk h0
  refine V_aload_n C dX1_init_0 rfl ?_
  refine V_objInit C w_55 w_24 w_25 dX1_init_1 ⟨Nat.le_of_ble_eq_true rfl, Nat.le_of_ble_eq_true rfl⟩ ?_
  refine V_aload_n C dX1_init_4 rfl ?_
  refine V_bipush C dX1_init_5 (by decide) ?_
  refine V_putA C fp_X1_7 dX1_init_7 (i := 0) hA rfl rfl rfl (Nat.le_of_ble_eq_true rfl) (fun M1 hA2 => ?_)
  have hA : At9 M M1 k [oX 0 [iv 100, iv 0, iv 0, iv 0]] := hA2
  clear hA2
  refine V_aload_n C dX1_init_10 rfl ?_
  refine V_bipush C dX1_init_11 (by decide) ?_
  refine V_putA C fp_X1_13 dX1_init_13 (i := 0) hA rfl rfl rfl (Nat.le_of_ble_eq_true rfl) (fun M2 hA2 => ?_)
  have hA : At9 M M2 k [oX 0 [iv 100, iv 20, iv 0, iv 0]] := hA2
  clear hA2
  refine V_aload_n C dX1_init_16 rfl ?_
  refine V_bipush C dX1_init_17 (by decide) ?_
  refine V_putA C fp_X1_16 dX1_init_19 (i := 0) hA rfl rfl rfl (Nat.le_of_ble_eq_true rfl) (fun M3 hA2 => ?_)
  have hA : At9 M M3 k [oX 0 [iv 100, iv 20, iv 50, iv 0]] := hA2
  clear hA2
  refine V_aload_n C dX1_init_22 rfl ?_
  refine V_sipush C dX1_init_23 (by decide) ?_
  refine V_putA C fp_X1_19 dX1_init_26 (i := 0) hA rfl rfl rfl (Nat.le_of_ble_eq_true rfl) (fun M4 hA2 => ?_)
  have hA : At9 M M4 k [oX 0 [iv 100, iv 20, iv 50, iv 300]] := hA2
  clear hA2
  exact V_vret C hr dX1_init_29 (hK _ hA)

set_option maxHeartbeats 1000000 in
set_option maxRecDepth 4000 in
theorem ok_X2_init {l : Launch} {D : va_G} {cy : Nat → ClassId} {z : Nat} {M : Mm} {K : Option Value → Mm → Prop} {k : Nat} (hk : M.1 = k + 1) (h0 : M.2 k = oX 1 [.null, iv 0]) (hK : ∀ M', At9 M M' k [oX 1 [.ref (z + (k + 1)), iv 0], aI cy 6 (fun _ => 0)] → K none M') :
    MT l D cy z true yX2_init (wsy yX2_init cX2_init 1 none) 1 20 1 6 M [.ref (z + k)] K := by
  refine MT_of (by decide) w_38 (Nat.le_of_ble_eq_true rfl) ?_
  intro p e s m args below meth c C hr hx0
  have hin := (hx0 rfl).2
  have hz0 := (hx0 rfl).1
  have hA : At9 M M k [oX 1 [.null, iv 0]] := At9.one hk h0
  refine V_aload_n C dX2_init_0 rfl ?_
  refine V_objInit C w_39 w_24 w_25 dX2_init_1 ⟨Nat.le_of_ble_eq_true rfl, Nat.le_of_ble_eq_true rfl⟩ ?_
  refine V_aload_n C dX2_init_4 rfl ?_
  refine V_bipush C dX2_init_5 (by decide) ?_
  refine V_newarr (t := 0) (N := 6) (ty := .int) (a0 := (6, .inl (fun _ => Int32.ofInt 0))) C rfl rfl (fun h => h) w_49 rfl (by omega) rfl (Nat.le_of_ble_eq_true rfl) dX2_init_7 (k9 := k + 1) hA.1 (by omega) ⟨Nat.le_of_ble_eq_true rfl, Nat.le_of_ble_eq_true rfl⟩ (fun M1 em => ?_)
  have hA : At9 M M1 k [oX 1 [.null, iv 0], aI cy 6 (fun _ => 0)] := by rw [em]; exact hA.push
  clear em
  refine V_putFA C hin ff_X2_9 dX2_init_9 (i := 0) hA rfl rfl rfl (Nat.le_of_ble_eq_true rfl) (fun M2 hA2 => ?_)
  have hA : At9 M M2 k [oX 1 [.ref (z + (k + 1)), iv 0], aI cy 6 (fun _ => 0)] := hA2
  clear hA2
  refine V_aload_n C dX2_init_12 rfl ?_
  refine V_iconst C dX2_init_13 ?_
  refine V_putA C fp_X2_15 dX2_init_14 (i := 0) hA rfl rfl rfl (Nat.le_of_ble_eq_true rfl) (fun M3 hA2 => ?_)
  have hA : At9 M M3 k [oX 1 [.ref (z + (k + 1)), iv 0], aI cy 6 (fun _ => 0)] := hA2
  clear hA2
  exact V_vret C hr dX2_init_17 (hK _ hA)

set_option maxHeartbeats 1000000 in
set_option maxRecDepth 4000 in
theorem ok_X3_init {l : Launch} {D : va_G} {cy : Nat → ClassId} {z : Nat} {M : Mm} {K : Option Value → Mm → Prop} {k : Nat} (hk : M.1 = k + 1) (h0 : M.2 k = oX 2 [iv 0, iv 0, iv 0, iv 0, iv 0, iv 0, .null, .null, .null, .null, .null]) (hK : ∀ M', At9 M M' k [oX 2 [iv 0, iv 0, iv 0, iv 0, iv 0, iv 0, .ref (z + (k + 1)), .ref (z + (k + 2)), .ref (z + (k + 3)), .ref (z + (k + 4)), .ref (z + (k + 5))], aI cy 20 (fun _ => 0), aI cy 20 (fun _ => 0), aI cy 20 (fun _ => 0), aI cy 20 (fun _ => 0), aI cy 10 (fun _ => 0)] → K none M') :
    MT l D cy z true yX3_init (wsy yX3_init cX3_init 1 none) 1 20 5 90 M [.ref (z + k)] K := by
  refine MT_of (by decide) w_77 (Nat.le_of_ble_eq_true rfl) ?_
  intro p e s m args below meth c C hr hx0
  have hin := (hx0 rfl).2
  have hz0 := (hx0 rfl).1
  have hA : At9 M M k [oX 2 [iv 0, iv 0, iv 0, iv 0, iv 0, iv 0, .null, .null, .null, .null, .null]] := At9.one hk h0
  refine V_aload_n C dX3_init_0 rfl ?_
  refine V_objInit C w_78 w_24 w_25 dX3_init_1 ⟨Nat.le_of_ble_eq_true rfl, Nat.le_of_ble_eq_true rfl⟩ ?_
  refine V_aload_n C dX3_init_4 rfl ?_
  refine V_iconst C dX3_init_5 ?_
  refine V_putA C fp_X3_9 dX3_init_6 (i := 0) hA rfl rfl rfl (Nat.le_of_ble_eq_true rfl) (fun M1 hA2 => ?_)
  have hA : At9 M M1 k [oX 2 [iv 0, iv 0, iv 0, iv 0, iv 0, iv 0, .null, .null, .null, .null, .null]] := hA2
  clear hA2
  refine V_aload_n C dX3_init_9 rfl ?_
  refine V_iconst C dX3_init_10 ?_
  refine V_putA C fp_X3_15 dX3_init_11 (i := 0) hA rfl rfl rfl (Nat.le_of_ble_eq_true rfl) (fun M2 hA2 => ?_)
  have hA : At9 M M2 k [oX 2 [iv 0, iv 0, iv 0, iv 0, iv 0, iv 0, .null, .null, .null, .null, .null]] := hA2
  clear hA2
  refine V_aload_n C dX3_init_14 rfl ?_
  refine V_iconst C dX3_init_15 ?_
  refine V_putA C fp_X3_18 dX3_init_16 (i := 0) hA rfl rfl rfl (Nat.le_of_ble_eq_true rfl) (fun M3 hA2 => ?_)
  have hA : At9 M M3 k [oX 2 [iv 0, iv 0, iv 0, iv 0, iv 0, iv 0, .null, .null, .null, .null, .null]] := hA2
  clear hA2
  refine V_aload_n C dX3_init_19 rfl ?_
  refine V_iconst C dX3_init_20 ?_
  refine V_putA C fp_X3_22 dX3_init_21 (i := 0) hA rfl rfl rfl (Nat.le_of_ble_eq_true rfl) (fun M4 hA2 => ?_)
  have hA : At9 M M4 k [oX 2 [iv 0, iv 0, iv 0, iv 0, iv 0, iv 0, .null, .null, .null, .null, .null]] := hA2
  clear hA2
  refine V_aload_n C dX3_init_24 rfl ?_
  refine V_iconst C dX3_init_25 ?_
  refine V_putA C fp_X3_25 dX3_init_26 (i := 0) hA rfl rfl rfl (Nat.le_of_ble_eq_true rfl) (fun M5 hA2 => ?_)
  have hA : At9 M M5 k [oX 2 [iv 0, iv 0, iv 0, iv 0, iv 0, iv 0, .null, .null, .null, .null, .null]] := hA2
  clear hA2
  refine V_aload_n C dX3_init_29 rfl ?_
  refine V_iconst C dX3_init_30 ?_
  refine V_putA C fp_X3_28 dX3_init_31 (i := 0) hA rfl rfl rfl (Nat.le_of_ble_eq_true rfl) (fun M6 hA2 => ?_)
  have hA : At9 M M6 k [oX 2 [iv 0, iv 0, iv 0, iv 0, iv 0, iv 0, .null, .null, .null, .null, .null]] := hA2
  clear hA2
  refine V_aload_n C dX3_init_34 rfl ?_
  refine V_bipush C dX3_init_35 (by decide) ?_
  refine V_newarr (t := 0) (N := 20) (ty := .int) (a0 := (20, .inl (fun _ => Int32.ofInt 0))) C rfl rfl (fun h => h) w_49 rfl (by omega) rfl (Nat.le_of_ble_eq_true rfl) dX3_init_37 (k9 := k + 1) hA.1 (by omega) ⟨Nat.le_of_ble_eq_true rfl, Nat.le_of_ble_eq_true rfl⟩ (fun M7 em => ?_)
  have hA : At9 M M7 k [oX 2 [iv 0, iv 0, iv 0, iv 0, iv 0, iv 0, .null, .null, .null, .null, .null], aI cy 20 (fun _ => 0)] := by rw [em]; exact hA.push
  clear em
  refine V_putFA C hin ff_X3_31 dX3_init_39 (i := 0) hA rfl rfl rfl (Nat.le_of_ble_eq_true rfl) (fun M8 hA2 => ?_)
  have hA : At9 M M8 k [oX 2 [iv 0, iv 0, iv 0, iv 0, iv 0, iv 0, .ref (z + (k + 1)), .null, .null, .null, .null], aI cy 20 (fun _ => 0)] := hA2
  clear hA2
  refine V_aload_n C dX3_init_42 rfl ?_
  refine V_bipush C dX3_init_43 (by decide) ?_
  refine V_newarr (t := 0) (N := 20) (ty := .int) (a0 := (20, .inl (fun _ => Int32.ofInt 0))) C rfl rfl (fun h => h) w_49 rfl (by omega) rfl (Nat.le_of_ble_eq_true rfl) dX3_init_45 (k9 := k + 2) hA.1 (by omega) ⟨Nat.le_of_ble_eq_true rfl, Nat.le_of_ble_eq_true rfl⟩ (fun M9 em => ?_)
  have hA : At9 M M9 k [oX 2 [iv 0, iv 0, iv 0, iv 0, iv 0, iv 0, .ref (z + (k + 1)), .null, .null, .null, .null], aI cy 20 (fun _ => 0), aI cy 20 (fun _ => 0)] := by rw [em]; exact hA.push
  clear em
  refine V_putFA C hin ff_X3_35 dX3_init_47 (i := 0) hA rfl rfl rfl (Nat.le_of_ble_eq_true rfl) (fun M10 hA2 => ?_)
  have hA : At9 M M10 k [oX 2 [iv 0, iv 0, iv 0, iv 0, iv 0, iv 0, .ref (z + (k + 1)), .ref (z + (k + 2)), .null, .null, .null], aI cy 20 (fun _ => 0), aI cy 20 (fun _ => 0)] := hA2
  clear hA2
  refine V_aload_n C dX3_init_50 rfl ?_
  refine V_bipush C dX3_init_51 (by decide) ?_
  refine V_newarr (t := 0) (N := 20) (ty := .int) (a0 := (20, .inl (fun _ => Int32.ofInt 0))) C rfl rfl (fun h => h) w_49 rfl (by omega) rfl (Nat.le_of_ble_eq_true rfl) dX3_init_53 (k9 := k + 3) hA.1 (by omega) ⟨Nat.le_of_ble_eq_true rfl, Nat.le_of_ble_eq_true rfl⟩ (fun M11 em => ?_)
  have hA : At9 M M11 k [oX 2 [iv 0, iv 0, iv 0, iv 0, iv 0, iv 0, .ref (z + (k + 1)), .ref (z + (k + 2)), .null, .null, .null], aI cy 20 (fun _ => 0), aI cy 20 (fun _ => 0), aI cy 20 (fun _ => 0)] := by rw [em]; exact hA.push
  clear em
  refine V_putFA C hin ff_X3_38 dX3_init_55 (i := 0) hA rfl rfl rfl (Nat.le_of_ble_eq_true rfl) (fun M12 hA2 => ?_)
  have hA : At9 M M12 k [oX 2 [iv 0, iv 0, iv 0, iv 0, iv 0, iv 0, .ref (z + (k + 1)), .ref (z + (k + 2)), .ref (z + (k + 3)), .null, .null], aI cy 20 (fun _ => 0), aI cy 20 (fun _ => 0), aI cy 20 (fun _ => 0)] := hA2
  clear hA2
  refine V_aload_n C dX3_init_58 rfl ?_
  refine V_bipush C dX3_init_59 (by decide) ?_
  refine V_newarr (t := 0) (N := 20) (ty := .int) (a0 := (20, .inl (fun _ => Int32.ofInt 0))) C rfl rfl (fun h => h) w_49 rfl (by omega) rfl (Nat.le_of_ble_eq_true rfl) dX3_init_61 (k9 := k + 4) hA.1 (by omega) ⟨Nat.le_of_ble_eq_true rfl, Nat.le_of_ble_eq_true rfl⟩ (fun M13 em => ?_)
  have hA : At9 M M13 k [oX 2 [iv 0, iv 0, iv 0, iv 0, iv 0, iv 0, .ref (z + (k + 1)), .ref (z + (k + 2)), .ref (z + (k + 3)), .null, .null], aI cy 20 (fun _ => 0), aI cy 20 (fun _ => 0), aI cy 20 (fun _ => 0), aI cy 20 (fun _ => 0)] := by rw [em]; exact hA.push
  clear em
  refine V_putFA C hin ff_X3_41 dX3_init_63 (i := 0) hA rfl rfl rfl (Nat.le_of_ble_eq_true rfl) (fun M14 hA2 => ?_)
  have hA : At9 M M14 k [oX 2 [iv 0, iv 0, iv 0, iv 0, iv 0, iv 0, .ref (z + (k + 1)), .ref (z + (k + 2)), .ref (z + (k + 3)), .ref (z + (k + 4)), .null], aI cy 20 (fun _ => 0), aI cy 20 (fun _ => 0), aI cy 20 (fun _ => 0), aI cy 20 (fun _ => 0)] := hA2
  clear hA2
  refine V_aload_n C dX3_init_66 rfl ?_
  refine V_bipush C dX3_init_67 (by decide) ?_
  refine V_newarr (t := 0) (N := 10) (ty := .int) (a0 := (10, .inl (fun _ => Int32.ofInt 0))) C rfl rfl (fun h => h) w_49 rfl (by omega) rfl (Nat.le_of_ble_eq_true rfl) dX3_init_69 (k9 := k + 5) hA.1 (by omega) ⟨Nat.le_of_ble_eq_true rfl, Nat.le_of_ble_eq_true rfl⟩ (fun M15 em => ?_)
  have hA : At9 M M15 k [oX 2 [iv 0, iv 0, iv 0, iv 0, iv 0, iv 0, .ref (z + (k + 1)), .ref (z + (k + 2)), .ref (z + (k + 3)), .ref (z + (k + 4)), .null], aI cy 20 (fun _ => 0), aI cy 20 (fun _ => 0), aI cy 20 (fun _ => 0), aI cy 20 (fun _ => 0), aI cy 10 (fun _ => 0)] := by rw [em]; exact hA.push
  clear em
  refine V_putFA C hin ff_X3_44 dX3_init_71 (i := 0) hA rfl rfl rfl (Nat.le_of_ble_eq_true rfl) (fun M16 hA2 => ?_)
  have hA : At9 M M16 k [oX 2 [iv 0, iv 0, iv 0, iv 0, iv 0, iv 0, .ref (z + (k + 1)), .ref (z + (k + 2)), .ref (z + (k + 3)), .ref (z + (k + 4)), .ref (z + (k + 5))], aI cy 20 (fun _ => 0), aI cy 20 (fun _ => 0), aI cy 20 (fun _ => 0), aI cy 20 (fun _ => 0), aI cy 10 (fun _ => 0)] := hA2
  clear hA2
  exact V_vret C hr dX3_init_74 (hK _ hA)

set_option maxHeartbeats 1000000 in
set_option maxRecDepth 4000 in
theorem ok_X5_init {l : Launch} {D : va_G} {cy : Nat → ClassId} {z : Nat} {M : Mm} {K : Option Value → Mm → Prop} {k : Nat} (hk : M.1 = k + 1) (h0 : M.2 k = oX 4 [.null, iv 0, iv 0, iv 0, iv 0, .null, .null]) (hK : ∀ M', At9 M M' k [oX 4 [.ref (z + (k + 1)), iv 0, iv 0, iv (-1), iv 0, .ref (z + (k + 2)), .ref (z + (k + 3))], aB cy 100 (fun _ => 0), aI cy 10 (fun _ => 0), aZ cy 10 (fun _ => 0)] → K none M') :
    MT l D cy z true yX5_init (wsy yX5_init cX5_init 1 none) 1 20 3 120 M [.ref (z + k)] K := by
  refine MT_of (by decide) w_154 (Nat.le_of_ble_eq_true rfl) ?_
  intro p e s m args below meth c C hr hx0
  have hin := (hx0 rfl).2
  have hz0 := (hx0 rfl).1
  have hA : At9 M M k [oX 4 [.null, iv 0, iv 0, iv 0, iv 0, .null, .null]] := At9.one hk h0
  refine V_aload_n C dX5_init_0 rfl ?_
  refine V_objInit C w_155 w_24 w_25 dX5_init_1 ⟨Nat.le_of_ble_eq_true rfl, Nat.le_of_ble_eq_true rfl⟩ ?_
  refine V_aload_n C dX5_init_4 rfl ?_
  refine V_bipush C dX5_init_5 (by decide) ?_
  refine V_newarr (t := 1) (N := 100) (ty := .byte) (a0 := (100, .inl (fun _ => Int32.ofInt 0))) C rfl rfl (fun h => h) w_182 rfl (by omega) rfl (Nat.le_of_ble_eq_true rfl) dX5_init_7 (k9 := k + 1) hA.1 (by omega) ⟨Nat.le_of_ble_eq_true rfl, Nat.le_of_ble_eq_true rfl⟩ (fun M1 em => ?_)
  have hA : At9 M M1 k [oX 4 [.null, iv 0, iv 0, iv 0, iv 0, .null, .null], aB cy 100 (fun _ => 0)] := by rw [em]; exact hA.push
  clear em
  refine V_putFA C hin ff_X5_9 dX5_init_9 (i := 0) hA rfl rfl rfl (Nat.le_of_ble_eq_true rfl) (fun M2 hA2 => ?_)
  have hA : At9 M M2 k [oX 4 [.ref (z + (k + 1)), iv 0, iv 0, iv 0, iv 0, .null, .null], aB cy 100 (fun _ => 0)] := hA2
  clear hA2
  refine V_aload_n C dX5_init_12 rfl ?_
  refine V_iconst C dX5_init_13 ?_
  refine V_putA C fp_X5_15 dX5_init_14 (i := 0) hA rfl rfl rfl (Nat.le_of_ble_eq_true rfl) (fun M3 hA2 => ?_)
  have hA : At9 M M3 k [oX 4 [.ref (z + (k + 1)), iv 0, iv 0, iv 0, iv 0, .null, .null], aB cy 100 (fun _ => 0)] := hA2
  clear hA2
  refine V_aload_n C dX5_init_17 rfl ?_
  refine V_iconst C dX5_init_18 ?_
  refine V_putA C fp_X5_19 dX5_init_19 (i := 0) hA rfl rfl rfl (Nat.le_of_ble_eq_true rfl) (fun M4 hA2 => ?_)
  have hA : At9 M M4 k [oX 4 [.ref (z + (k + 1)), iv 0, iv 0, iv 0, iv 0, .null, .null], aB cy 100 (fun _ => 0)] := hA2
  clear hA2
  refine V_aload_n C dX5_init_22 rfl ?_
  refine V_iconst C dX5_init_23 ?_
  refine V_putA C fp_X5_22 dX5_init_24 (i := 0) hA rfl rfl rfl (Nat.le_of_ble_eq_true rfl) (fun M5 hA2 => ?_)
  have hA : At9 M M5 k [oX 4 [.ref (z + (k + 1)), iv 0, iv 0, iv (-1), iv 0, .null, .null], aB cy 100 (fun _ => 0)] := hA2
  clear hA2
  refine V_aload_n C dX5_init_27 rfl ?_
  refine V_iconst C dX5_init_28 ?_
  refine V_putA C fp_X5_25 dX5_init_29 (i := 0) hA rfl rfl rfl (Nat.le_of_ble_eq_true rfl) (fun M6 hA2 => ?_)
  have hA : At9 M M6 k [oX 4 [.ref (z + (k + 1)), iv 0, iv 0, iv (-1), iv 0, .null, .null], aB cy 100 (fun _ => 0)] := hA2
  clear hA2
  refine V_aload_n C dX5_init_32 rfl ?_
  refine V_bipush C dX5_init_33 (by decide) ?_
  refine V_newarr (t := 0) (N := 10) (ty := .int) (a0 := (10, .inl (fun _ => Int32.ofInt 0))) C rfl rfl (fun h => h) w_49 rfl (by omega) rfl (Nat.le_of_ble_eq_true rfl) dX5_init_35 (k9 := k + 2) hA.1 (by omega) ⟨Nat.le_of_ble_eq_true rfl, Nat.le_of_ble_eq_true rfl⟩ (fun M7 em => ?_)
  have hA : At9 M M7 k [oX 4 [.ref (z + (k + 1)), iv 0, iv 0, iv (-1), iv 0, .null, .null], aB cy 100 (fun _ => 0), aI cy 10 (fun _ => 0)] := by rw [em]; exact hA.push
  clear em
  refine V_putFA C hin ff_X5_28 dX5_init_37 (i := 0) hA rfl rfl rfl (Nat.le_of_ble_eq_true rfl) (fun M8 hA2 => ?_)
  have hA : At9 M M8 k [oX 4 [.ref (z + (k + 1)), iv 0, iv 0, iv (-1), iv 0, .ref (z + (k + 2)), .null], aB cy 100 (fun _ => 0), aI cy 10 (fun _ => 0)] := hA2
  clear hA2
  refine V_aload_n C dX5_init_40 rfl ?_
  refine V_bipush C dX5_init_41 (by decide) ?_
  refine V_newarr (t := 2) (N := 10) (ty := .boolean) (a0 := (10, .inl (fun _ => Int32.ofInt 0))) C rfl rfl (fun h => h) w_183 rfl (by omega) rfl (Nat.le_of_ble_eq_true rfl) dX5_init_43 (k9 := k + 3) hA.1 (by omega) ⟨Nat.le_of_ble_eq_true rfl, Nat.le_of_ble_eq_true rfl⟩ (fun M9 em => ?_)
  have hA : At9 M M9 k [oX 4 [.ref (z + (k + 1)), iv 0, iv 0, iv (-1), iv 0, .ref (z + (k + 2)), .null], aB cy 100 (fun _ => 0), aI cy 10 (fun _ => 0), aZ cy 10 (fun _ => 0)] := by rw [em]; exact hA.push
  clear em
  refine V_putFA C hin ff_X5_32 dX5_init_45 (i := 0) hA rfl rfl rfl (Nat.le_of_ble_eq_true rfl) (fun M10 hA2 => ?_)
  have hA : At9 M M10 k [oX 4 [.ref (z + (k + 1)), iv 0, iv 0, iv (-1), iv 0, .ref (z + (k + 2)), .ref (z + (k + 3))], aB cy 100 (fun _ => 0), aI cy 10 (fun _ => 0), aZ cy 10 (fun _ => 0)] := hA2
  clear hA2
  exact V_vret C hr dX5_init_48 (hK _ hA)

set_option maxHeartbeats 1000000 in
set_option maxRecDepth 4000 in
theorem ok_X7_init {l : Launch} {D : va_G} {cy : Nat → ClassId} {z : Nat} {M : Mm} {K : Option Value → Mm → Prop} (hk : M.1 = 331 + 1) (h0 : M.2 331 = oX 6 [.null, .null, .null, iv 0, iv 0, .null, iv 0, .null, .null, iv 0, iv 0, iv 0, iv 0, lgv 0]) (hK : ∀ M', At9 M M' 331 [oX 6 [.ref (z + (331 + 1)), .ref (z + (331 + 2)), .ref (z + (331 + 3)), iv 0, iv 0, .ref (z + (331 + 4)), iv 0, .ref (z + (331 + 5)), .ref (z + (331 + 6)), iv 0, iv 0, iv 0, iv 0, lgv 0], aI cy 366 (va_up (va_up (va_up (va_up (fun _ => 0) 9 100) 10 20) 11 50) 12 300), aI cy 1464 (fun _ => 0), aI cy 366 (fun _ => 0), aI cy 100 (fun _ => 0), aI cy 19 (fun _ => 0), aI cy 19 (fun _ => 0)] → K none M') :
    MT l D cy z true yX7_init (wsy yX7_init cX7_init 1 none) 1 20 6 2334 M [.ref (z + 331)] K := by
  refine MT_of (by decide) w_796 (Nat.le_of_ble_eq_true rfl) ?_
  intro p e s m args below meth c C hr hx0
  have hin := (hx0 rfl).2
  have hz0 := (hx0 rfl).1
  have hA : At9 M M 331 [oX 6 [.null, .null, .null, iv 0, iv 0, .null, iv 0, .null, .null, iv 0, iv 0, iv 0, iv 0, lgv 0]] := At9.one hk h0
  refine V_aload_n C dX7_init_0 rfl ?_
  refine V_objInit C w_797 w_24 w_25 dX7_init_1 ⟨Nat.le_of_ble_eq_true rfl, Nat.le_of_ble_eq_true rfl⟩ ?_
  refine V_aload_n C dX7_init_4 rfl ?_
  refine V_sipush C dX7_init_5 (by decide) ?_
  refine V_newarr (t := 0) (N := 366) (ty := .int) (a0 := (366, .inl (fun _ => Int32.ofInt 0))) C rfl rfl (fun h => h) w_49 rfl (by omega) rfl (Nat.le_of_ble_eq_true rfl) dX7_init_8 (k9 := 331 + 1) hA.1 (by omega) ⟨Nat.le_of_ble_eq_true rfl, Nat.le_of_ble_eq_true rfl⟩ (fun M1 em => ?_)
  have hA : At9 M M1 331 [oX 6 [.null, .null, .null, iv 0, iv 0, .null, iv 0, .null, .null, iv 0, iv 0, iv 0, iv 0, lgv 0], aI cy 366 (fun _ => 0)] := by rw [em]; exact hA.push
  clear em
  refine V_putFA C hin ff_X7_7 dX7_init_10 (i := 0) hA rfl rfl rfl (Nat.le_of_ble_eq_true rfl) (fun M2 hA2 => ?_)
  have hA : At9 M M2 331 [oX 6 [.ref (z + (331 + 1)), .null, .null, iv 0, iv 0, .null, iv 0, .null, .null, iv 0, iv 0, iv 0, iv 0, lgv 0], aI cy 366 (fun _ => 0)] := hA2
  clear hA2
  refine V_aload_n C dX7_init_13 rfl ?_
  refine V_sipush C dX7_init_14 (by decide) ?_
  refine V_newarr (t := 0) (N := 1464) (ty := .int) (a0 := (1464, .inl (fun _ => Int32.ofInt 0))) C rfl rfl (fun h => h) w_49 rfl (by omega) rfl (Nat.le_of_ble_eq_true rfl) dX7_init_17 (k9 := 331 + 2) hA.1 (by omega) ⟨Nat.le_of_ble_eq_true rfl, Nat.le_of_ble_eq_true rfl⟩ (fun M3 em => ?_)
  have hA : At9 M M3 331 [oX 6 [.ref (z + (331 + 1)), .null, .null, iv 0, iv 0, .null, iv 0, .null, .null, iv 0, iv 0, iv 0, iv 0, lgv 0], aI cy 366 (fun _ => 0), aI cy 1464 (fun _ => 0)] := by rw [em]; exact hA.push
  clear em
  refine V_putFA C hin ff_X7_13 dX7_init_19 (i := 0) hA rfl rfl rfl (Nat.le_of_ble_eq_true rfl) (fun M4 hA2 => ?_)
  have hA : At9 M M4 331 [oX 6 [.ref (z + (331 + 1)), .ref (z + (331 + 2)), .null, iv 0, iv 0, .null, iv 0, .null, .null, iv 0, iv 0, iv 0, iv 0, lgv 0], aI cy 366 (fun _ => 0), aI cy 1464 (fun _ => 0)] := hA2
  clear hA2
  refine V_aload_n C dX7_init_22 rfl ?_
  refine V_sipush C dX7_init_23 (by decide) ?_
  refine V_newarr (t := 0) (N := 366) (ty := .int) (a0 := (366, .inl (fun _ => Int32.ofInt 0))) C rfl rfl (fun h => h) w_49 rfl (by omega) rfl (Nat.le_of_ble_eq_true rfl) dX7_init_26 (k9 := 331 + 3) hA.1 (by omega) ⟨Nat.le_of_ble_eq_true rfl, Nat.le_of_ble_eq_true rfl⟩ (fun M5 em => ?_)
  have hA : At9 M M5 331 [oX 6 [.ref (z + (331 + 1)), .ref (z + (331 + 2)), .null, iv 0, iv 0, .null, iv 0, .null, .null, iv 0, iv 0, iv 0, iv 0, lgv 0], aI cy 366 (fun _ => 0), aI cy 1464 (fun _ => 0), aI cy 366 (fun _ => 0)] := by rw [em]; exact hA.push
  clear em
  refine V_putFA C hin ff_X7_16 dX7_init_28 (i := 0) hA rfl rfl rfl (Nat.le_of_ble_eq_true rfl) (fun M6 hA2 => ?_)
  have hA : At9 M M6 331 [oX 6 [.ref (z + (331 + 1)), .ref (z + (331 + 2)), .ref (z + (331 + 3)), iv 0, iv 0, .null, iv 0, .null, .null, iv 0, iv 0, iv 0, iv 0, lgv 0], aI cy 366 (fun _ => 0), aI cy 1464 (fun _ => 0), aI cy 366 (fun _ => 0)] := hA2
  clear hA2
  refine V_aload_n C dX7_init_31 rfl ?_
  refine V_bipush C dX7_init_32 (by decide) ?_
  refine V_newarr (t := 0) (N := 100) (ty := .int) (a0 := (100, .inl (fun _ => Int32.ofInt 0))) C rfl rfl (fun h => h) w_49 rfl (by omega) rfl (Nat.le_of_ble_eq_true rfl) dX7_init_34 (k9 := 331 + 4) hA.1 (by omega) ⟨Nat.le_of_ble_eq_true rfl, Nat.le_of_ble_eq_true rfl⟩ (fun M7 em => ?_)
  have hA : At9 M M7 331 [oX 6 [.ref (z + (331 + 1)), .ref (z + (331 + 2)), .ref (z + (331 + 3)), iv 0, iv 0, .null, iv 0, .null, .null, iv 0, iv 0, iv 0, iv 0, lgv 0], aI cy 366 (fun _ => 0), aI cy 1464 (fun _ => 0), aI cy 366 (fun _ => 0), aI cy 100 (fun _ => 0)] := by rw [em]; exact hA.push
  clear em
  refine V_putFA C hin ff_X7_19 dX7_init_36 (i := 0) hA rfl rfl rfl (Nat.le_of_ble_eq_true rfl) (fun M8 hA2 => ?_)
  have hA : At9 M M8 331 [oX 6 [.ref (z + (331 + 1)), .ref (z + (331 + 2)), .ref (z + (331 + 3)), iv 0, iv 0, .ref (z + (331 + 4)), iv 0, .null, .null, iv 0, iv 0, iv 0, iv 0, lgv 0], aI cy 366 (fun _ => 0), aI cy 1464 (fun _ => 0), aI cy 366 (fun _ => 0), aI cy 100 (fun _ => 0)] := hA2
  clear hA2
  refine V_aload_n C dX7_init_39 rfl ?_
  refine V_bipush C dX7_init_40 (by decide) ?_
  refine V_newarr (t := 0) (N := 19) (ty := .int) (a0 := (19, .inl (fun _ => Int32.ofInt 0))) C rfl rfl (fun h => h) w_49 rfl (by omega) rfl (Nat.le_of_ble_eq_true rfl) dX7_init_42 (k9 := 331 + 5) hA.1 (by omega) ⟨Nat.le_of_ble_eq_true rfl, Nat.le_of_ble_eq_true rfl⟩ (fun M9 em => ?_)
  have hA : At9 M M9 331 [oX 6 [.ref (z + (331 + 1)), .ref (z + (331 + 2)), .ref (z + (331 + 3)), iv 0, iv 0, .ref (z + (331 + 4)), iv 0, .null, .null, iv 0, iv 0, iv 0, iv 0, lgv 0], aI cy 366 (fun _ => 0), aI cy 1464 (fun _ => 0), aI cy 366 (fun _ => 0), aI cy 100 (fun _ => 0), aI cy 19 (fun _ => 0)] := by rw [em]; exact hA.push
  clear em
  refine V_putFA C hin ff_X7_22 dX7_init_44 (i := 0) hA rfl rfl rfl (Nat.le_of_ble_eq_true rfl) (fun M10 hA2 => ?_)
  have hA : At9 M M10 331 [oX 6 [.ref (z + (331 + 1)), .ref (z + (331 + 2)), .ref (z + (331 + 3)), iv 0, iv 0, .ref (z + (331 + 4)), iv 0, .ref (z + (331 + 5)), .null, iv 0, iv 0, iv 0, iv 0, lgv 0], aI cy 366 (fun _ => 0), aI cy 1464 (fun _ => 0), aI cy 366 (fun _ => 0), aI cy 100 (fun _ => 0), aI cy 19 (fun _ => 0)] := hA2
  clear hA2
  refine V_aload_n C dX7_init_47 rfl ?_
  refine V_bipush C dX7_init_48 (by decide) ?_
  refine V_newarr (t := 0) (N := 19) (ty := .int) (a0 := (19, .inl (fun _ => Int32.ofInt 0))) C rfl rfl (fun h => h) w_49 rfl (by omega) rfl (Nat.le_of_ble_eq_true rfl) dX7_init_50 (k9 := 331 + 6) hA.1 (by omega) ⟨Nat.le_of_ble_eq_true rfl, Nat.le_of_ble_eq_true rfl⟩ (fun M11 em => ?_)
  have hA : At9 M M11 331 [oX 6 [.ref (z + (331 + 1)), .ref (z + (331 + 2)), .ref (z + (331 + 3)), iv 0, iv 0, .ref (z + (331 + 4)), iv 0, .ref (z + (331 + 5)), .null, iv 0, iv 0, iv 0, iv 0, lgv 0], aI cy 366 (fun _ => 0), aI cy 1464 (fun _ => 0), aI cy 366 (fun _ => 0), aI cy 100 (fun _ => 0), aI cy 19 (fun _ => 0), aI cy 19 (fun _ => 0)] := by rw [em]; exact hA.push
  clear em
  refine V_putFA C hin ff_X7_25 dX7_init_52 (i := 0) hA rfl rfl rfl (Nat.le_of_ble_eq_true rfl) (fun M12 hA2 => ?_)
  have hA : At9 M M12 331 [oX 6 [.ref (z + (331 + 1)), .ref (z + (331 + 2)), .ref (z + (331 + 3)), iv 0, iv 0, .ref (z + (331 + 4)), iv 0, .ref (z + (331 + 5)), .ref (z + (331 + 6)), iv 0, iv 0, iv 0, iv 0, lgv 0], aI cy 366 (fun _ => 0), aI cy 1464 (fun _ => 0), aI cy 366 (fun _ => 0), aI cy 100 (fun _ => 0), aI cy 19 (fun _ => 0), aI cy 19 (fun _ => 0)] := hA2
  clear hA2
  refine V_aload_n C dX7_init_55 rfl ?_
  refine V_get C fg_X7_7 dX7_init_56 (hA.2.1 0 _ rfl) (by have := hA.1; simp only [List.length] at this; omega) (by rfl) ?_
  refine V_bipush C dX7_init_59 (by decide) ?_
  refine V_bipush C dX7_init_61 (by decide) ?_
  refine V_iast C dX7_init_63 (hA.2.1 1 _ rfl) (by have := hA.1; simp only [List.length] at this; omega) (by omega) (by omega) (show ((9 : Int)).toNat = 9 from rfl) ?_
  refine V_memgen (fun M13 em => ?_)
  have hA : At9 M M13 331 [oX 6 [.ref (z + (331 + 1)), .ref (z + (331 + 2)), .ref (z + (331 + 3)), iv 0, iv 0, .ref (z + (331 + 4)), iv 0, .ref (z + (331 + 5)), .ref (z + (331 + 6)), iv 0, iv 0, iv 0, iv 0, lgv 0], aI cy 366 (va_up (fun _ => 0) 9 100), aI cy 1464 (fun _ => 0), aI cy 366 (fun _ => 0), aI cy 100 (fun _ => 0), aI cy 19 (fun _ => 0), aI cy 19 (fun _ => 0)] := by rw [em]; exact hA.set (i := 1) rfl
  clear em
  refine V_aload_n C dX7_init_64 rfl ?_
  refine V_get C fg_X7_7 dX7_init_65 (hA.2.1 0 _ rfl) (by have := hA.1; simp only [List.length] at this; omega) (by rfl) ?_
  refine V_bipush C dX7_init_68 (by decide) ?_
  refine V_bipush C dX7_init_70 (by decide) ?_
  refine V_iast C dX7_init_72 (hA.2.1 1 _ rfl) (by have := hA.1; simp only [List.length] at this; omega) (by omega) (by omega) (show ((10 : Int)).toNat = 10 from rfl) ?_
  refine V_memgen (fun M14 em => ?_)
  have hA : At9 M M14 331 [oX 6 [.ref (z + (331 + 1)), .ref (z + (331 + 2)), .ref (z + (331 + 3)), iv 0, iv 0, .ref (z + (331 + 4)), iv 0, .ref (z + (331 + 5)), .ref (z + (331 + 6)), iv 0, iv 0, iv 0, iv 0, lgv 0], aI cy 366 (va_up (va_up (fun _ => 0) 9 100) 10 20), aI cy 1464 (fun _ => 0), aI cy 366 (fun _ => 0), aI cy 100 (fun _ => 0), aI cy 19 (fun _ => 0), aI cy 19 (fun _ => 0)] := by rw [em]; exact hA.set (i := 1) rfl
  clear em
  refine V_aload_n C dX7_init_73 rfl ?_
  refine V_get C fg_X7_7 dX7_init_74 (hA.2.1 0 _ rfl) (by have := hA.1; simp only [List.length] at this; omega) (by rfl) ?_
  refine V_bipush C dX7_init_77 (by decide) ?_
  refine V_bipush C dX7_init_79 (by decide) ?_
  refine V_iast C dX7_init_81 (hA.2.1 1 _ rfl) (by have := hA.1; simp only [List.length] at this; omega) (by omega) (by omega) (show ((11 : Int)).toNat = 11 from rfl) ?_
  refine V_memgen (fun M15 em => ?_)
  have hA : At9 M M15 331 [oX 6 [.ref (z + (331 + 1)), .ref (z + (331 + 2)), .ref (z + (331 + 3)), iv 0, iv 0, .ref (z + (331 + 4)), iv 0, .ref (z + (331 + 5)), .ref (z + (331 + 6)), iv 0, iv 0, iv 0, iv 0, lgv 0], aI cy 366 (va_up (va_up (va_up (fun _ => 0) 9 100) 10 20) 11 50), aI cy 1464 (fun _ => 0), aI cy 366 (fun _ => 0), aI cy 100 (fun _ => 0), aI cy 19 (fun _ => 0), aI cy 19 (fun _ => 0)] := by rw [em]; exact hA.set (i := 1) rfl
  clear em
  refine V_aload_n C dX7_init_82 rfl ?_
  refine V_get C fg_X7_7 dX7_init_83 (hA.2.1 0 _ rfl) (by have := hA.1; simp only [List.length] at this; omega) (by rfl) ?_
  refine V_bipush C dX7_init_86 (by decide) ?_
  refine V_sipush C dX7_init_88 (by decide) ?_
  refine V_iast C dX7_init_91 (hA.2.1 1 _ rfl) (by have := hA.1; simp only [List.length] at this; omega) (by omega) (by omega) (show ((12 : Int)).toNat = 12 from rfl) ?_
  refine V_memgen (fun M16 em => ?_)
  have hA : At9 M M16 331 [oX 6 [.ref (z + (331 + 1)), .ref (z + (331 + 2)), .ref (z + (331 + 3)), iv 0, iv 0, .ref (z + (331 + 4)), iv 0, .ref (z + (331 + 5)), .ref (z + (331 + 6)), iv 0, iv 0, iv 0, iv 0, lgv 0], aI cy 366 (va_up (va_up (va_up (va_up (fun _ => 0) 9 100) 10 20) 11 50) 12 300), aI cy 1464 (fun _ => 0), aI cy 366 (fun _ => 0), aI cy 100 (fun _ => 0), aI cy 19 (fun _ => 0), aI cy 19 (fun _ => 0)] := by rw [em]; exact hA.set (i := 1) rfl
  clear em
  exact V_vret C hr dX7_init_92 (hK _ hA)

