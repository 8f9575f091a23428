/-! facts of fields and methods, by program -/
theorem in_X1 : ∀ w ∈ u_ws RX1 TX1 4, w ∈ lw_all := by
  intro w hw
  obtain ⟨k, hk, rfl⟩ := List.mem_map.mp hw
  have hk := List.mem_range.mp hk
  match k, hk with
  | 0, _ => exact w_65
  | 1, _ => exact w_67
  | 2, _ => exact w_69
  | 3, _ => exact w_71
  | n + 4, h => exact absurd h (by omega)
theorem in_X2 : ∀ w ∈ u_ws RX2 TX2 2, w ∈ lw_all := by
  intro w hw
  obtain ⟨k, hk, rfl⟩ := List.mem_map.mp hw
  have hk := List.mem_range.mp hk
  match k, hk with
  | 0, _ => exact w_44
  | 1, _ => exact w_46
  | n + 2, h => exact absurd h (by omega)
theorem in_X3 : ∀ w ∈ u_ws RX3 TX3 11, w ∈ lw_all := by
  intro w hw
  obtain ⟨k, hk, rfl⟩ := List.mem_map.mp hw
  have hk := List.mem_range.mp hk
  match k, hk with
  | 0, _ => exact w_96
  | 1, _ => exact w_98
  | 2, _ => exact w_100
  | 3, _ => exact w_102
  | 4, _ => exact w_104
  | 5, _ => exact w_106
  | 6, _ => exact w_108
  | 7, _ => exact w_110
  | 8, _ => exact w_112
  | 9, _ => exact w_114
  | 10, _ => exact w_116
  | n + 11, h => exact absurd h (by omega)
theorem in_X4 : ∀ w ∈ u_ws RX4 TX4 8, w ∈ lw_all := by
  intro w hw
  obtain ⟨k, hk, rfl⟩ := List.mem_map.mp hw
  have hk := List.mem_range.mp hk
  match k, hk with
  | 0, _ => exact w_132
  | 1, _ => exact w_134
  | 2, _ => exact w_136
  | 3, _ => exact w_138
  | 4, _ => exact w_140
  | 5, _ => exact w_142
  | 6, _ => exact w_144
  | 7, _ => exact w_146
  | n + 8, h => exact absurd h (by omega)
theorem in_X5 : ∀ w ∈ u_ws RX5 TX5 7, w ∈ lw_all := by
  intro w hw
  obtain ⟨k, hk, rfl⟩ := List.mem_map.mp hw
  have hk := List.mem_range.mp hk
  match k, hk with
  | 0, _ => exact w_167
  | 1, _ => exact w_169
  | 2, _ => exact w_171
  | 3, _ => exact w_173
  | 4, _ => exact w_175
  | 5, _ => exact w_177
  | 6, _ => exact w_179
  | n + 7, h => exact absurd h (by omega)
theorem in_X6 : ∀ w ∈ u_ws RX6 TX6 4, w ∈ lw_all := by
  intro w hw
  obtain ⟨k, hk, rfl⟩ := List.mem_map.mp hw
  have hk := List.mem_range.mp hk
  match k, hk with
  | 0, _ => exact w_188
  | 1, _ => exact w_190
  | 2, _ => exact w_192
  | 3, _ => exact w_194
  | n + 4, h => exact absurd h (by omega)
theorem in_X7 : ∀ w ∈ u_ws RX7 TX7 14, w ∈ lw_all := by
  intro w hw
  obtain ⟨k, hk, rfl⟩ := List.mem_map.mp hw
  have hk := List.mem_range.mp hk
  match k, hk with
  | 0, _ => exact w_812
  | 1, _ => exact w_814
  | 2, _ => exact w_816
  | 3, _ => exact w_818
  | 4, _ => exact w_820
  | 5, _ => exact w_822
  | 6, _ => exact w_824
  | 7, _ => exact w_826
  | 8, _ => exact w_828
  | 9, _ => exact w_830
  | 10, _ => exact w_832
  | 11, _ => exact w_834
  | 12, _ => exact w_836
  | 13, _ => exact w_838
  | n + 14, h => exact absurd h (by omega)
theorem fg_X2_9 : FG RX2 9 1 0 := ⟨RX2, TX2, 2, rfl, by decide, in_X2, Or.inl w_40⟩
theorem ff_X2_9 : FF RX2 9 1 0 (tyX2 0) := ⟨TX2, 2, tyX2, rfl, by decide, in_X2, w_40, tyX2_ok, nmX2, rfl, rfl, rfl⟩
theorem fg_X2_15 : FG RX2 15 1 1 := ⟨RX2, TX2, 2, rfl, by decide, in_X2, Or.inl w_41⟩
theorem fp_X2_15 : FP RX2 15 1 1 (tyX2 1) := ⟨RX2, TX2, 2, tyX2, rfl, by decide, in_X2, Or.inl w_41, tyX2_ok, nmX2, rfl, rfl⟩
theorem fg_X6_82 : FG RX6 82 1 1 := ⟨RX2, TX2, 2, rfl, by decide, in_X2, Or.inr ⟨"FeeDocket", List.mem_of_getElem? (i := 1) rfl⟩⟩
theorem fp_X6_82 : FP RX6 82 1 1 (tyX2 1) := ⟨RX2, TX2, 2, tyX2, rfl, by decide, in_X2, Or.inr ⟨"FeeDocket", List.mem_of_getElem? (i := 1) rfl⟩, tyX2_ok, nmX2, rfl, rfl⟩
theorem fg_X4_176 : FG RX4 176 1 1 := ⟨RX2, TX2, 2, rfl, by decide, in_X2, Or.inr ⟨"FeeDocket", List.mem_of_getElem? (i := 2) rfl⟩⟩
theorem fp_X4_176 : FP RX4 176 1 1 (tyX2 1) := ⟨RX2, TX2, 2, tyX2, rfl, by decide, in_X2, Or.inr ⟨"FeeDocket", List.mem_of_getElem? (i := 2) rfl⟩, tyX2_ok, nmX2, rfl, rfl⟩
theorem fg_X1_7 : FG RX1 7 0 0 := ⟨RX1, TX1, 4, rfl, by decide, in_X1, Or.inl w_56⟩
theorem fp_X1_7 : FP RX1 7 0 0 (tyX1 0) := ⟨RX1, TX1, 4, tyX1, rfl, by decide, in_X1, Or.inl w_56, tyX1_ok, nmX1, rfl, rfl⟩
theorem fg_X6_134 : FG RX6 134 0 0 := ⟨RX1, TX1, 4, rfl, by decide, in_X1, Or.inr ⟨"FeeDocket", List.mem_of_getElem? (i := 4) rfl⟩⟩
theorem fp_X6_134 : FP RX6 134 0 0 (tyX1 0) := ⟨RX1, TX1, 4, tyX1, rfl, by decide, in_X1, Or.inr ⟨"FeeDocket", List.mem_of_getElem? (i := 4) rfl⟩, tyX1_ok, nmX1, rfl, rfl⟩
theorem fg_X4_179 : FG RX4 179 0 0 := ⟨RX1, TX1, 4, rfl, by decide, in_X1, Or.inr ⟨"FeeDocket", List.mem_of_getElem? (i := 5) rfl⟩⟩
theorem fp_X4_179 : FP RX4 179 0 0 (tyX1 0) := ⟨RX1, TX1, 4, tyX1, rfl, by decide, in_X1, Or.inr ⟨"FeeDocket", List.mem_of_getElem? (i := 5) rfl⟩, tyX1_ok, nmX1, rfl, rfl⟩
theorem fg_X1_13 : FG RX1 13 0 1 := ⟨RX1, TX1, 4, rfl, by decide, in_X1, Or.inl w_59⟩
theorem fp_X1_13 : FP RX1 13 0 1 (tyX1 1) := ⟨RX1, TX1, 4, tyX1, rfl, by decide, in_X1, Or.inl w_59, tyX1_ok, nmX1, rfl, rfl⟩
theorem fg_X4_182 : FG RX4 182 0 1 := ⟨RX1, TX1, 4, rfl, by decide, in_X1, Or.inr ⟨"FeeDocket", List.mem_of_getElem? (i := 6) rfl⟩⟩
theorem fp_X4_182 : FP RX4 182 0 1 (tyX1 1) := ⟨RX1, TX1, 4, tyX1, rfl, by decide, in_X1, Or.inr ⟨"FeeDocket", List.mem_of_getElem? (i := 6) rfl⟩, tyX1_ok, nmX1, rfl, rfl⟩
theorem fg_X1_16 : FG RX1 16 0 2 := ⟨RX1, TX1, 4, rfl, by decide, in_X1, Or.inl w_61⟩
theorem fp_X1_16 : FP RX1 16 0 2 (tyX1 2) := ⟨RX1, TX1, 4, tyX1, rfl, by decide, in_X1, Or.inl w_61, tyX1_ok, nmX1, rfl, rfl⟩
theorem fg_X4_185 : FG RX4 185 0 2 := ⟨RX1, TX1, 4, rfl, by decide, in_X1, Or.inr ⟨"FeeDocket", List.mem_of_getElem? (i := 7) rfl⟩⟩
theorem fp_X4_185 : FP RX4 185 0 2 (tyX1 2) := ⟨RX1, TX1, 4, tyX1, rfl, by decide, in_X1, Or.inr ⟨"FeeDocket", List.mem_of_getElem? (i := 7) rfl⟩, tyX1_ok, nmX1, rfl, rfl⟩
theorem fg_X1_19 : FG RX1 19 0 3 := ⟨RX1, TX1, 4, rfl, by decide, in_X1, Or.inl w_63⟩
theorem fp_X1_19 : FP RX1 19 0 3 (tyX1 3) := ⟨RX1, TX1, 4, tyX1, rfl, by decide, in_X1, Or.inl w_63, tyX1_ok, nmX1, rfl, rfl⟩
theorem fg_X4_145 : FG RX4 145 0 3 := ⟨RX1, TX1, 4, rfl, by decide, in_X1, Or.inr ⟨"FeeDocket", List.mem_of_getElem? (i := 8) rfl⟩⟩
theorem fp_X4_145 : FP RX4 145 0 3 (tyX1 3) := ⟨RX1, TX1, 4, tyX1, rfl, by decide, in_X1, Or.inr ⟨"FeeDocket", List.mem_of_getElem? (i := 8) rfl⟩, tyX1_ok, nmX1, rfl, rfl⟩
theorem fg_X3_9 : FG RX3 9 2 0 := ⟨RX3, TX3, 11, rfl, by decide, in_X3, Or.inl w_79⟩
theorem fp_X3_9 : FP RX3 9 2 0 (tyX3 0) := ⟨RX3, TX3, 11, tyX3, rfl, by decide, in_X3, Or.inl w_79, tyX3_ok, nmX3, rfl, rfl⟩
theorem fg_X4_158 : FG RX4 158 2 0 := ⟨RX3, TX3, 11, rfl, by decide, in_X3, Or.inr ⟨"FeeDocket", List.mem_of_getElem? (i := 10) rfl⟩⟩
theorem fp_X4_158 : FP RX4 158 2 0 (tyX3 0) := ⟨RX3, TX3, 11, tyX3, rfl, by decide, in_X3, Or.inr ⟨"FeeDocket", List.mem_of_getElem? (i := 10) rfl⟩, tyX3_ok, nmX3, rfl, rfl⟩
theorem fg_X3_15 : FG RX3 15 2 1 := ⟨RX3, TX3, 11, rfl, by decide, in_X3, Or.inl w_81⟩
theorem fp_X3_15 : FP RX3 15 2 1 (tyX3 1) := ⟨RX3, TX3, 11, tyX3, rfl, by decide, in_X3, Or.inl w_81, tyX3_ok, nmX3, rfl, rfl⟩
theorem fg_X4_95 : FG RX4 95 2 1 := ⟨RX3, TX3, 11, rfl, by decide, in_X3, Or.inr ⟨"FeeDocket", List.mem_of_getElem? (i := 11) rfl⟩⟩
theorem fp_X4_95 : FP RX4 95 2 1 (tyX3 1) := ⟨RX3, TX3, 11, tyX3, rfl, by decide, in_X3, Or.inr ⟨"FeeDocket", List.mem_of_getElem? (i := 11) rfl⟩, tyX3_ok, nmX3, rfl, rfl⟩
theorem fg_X3_18 : FG RX3 18 2 2 := ⟨RX3, TX3, 11, rfl, by decide, in_X3, Or.inl w_83⟩
theorem fp_X3_18 : FP RX3 18 2 2 (tyX3 2) := ⟨RX3, TX3, 11, tyX3, rfl, by decide, in_X3, Or.inl w_83, tyX3_ok, nmX3, rfl, rfl⟩
theorem fg_X4_116 : FG RX4 116 2 2 := ⟨RX3, TX3, 11, rfl, by decide, in_X3, Or.inr ⟨"FeeDocket", List.mem_of_getElem? (i := 12) rfl⟩⟩
theorem fp_X4_116 : FP RX4 116 2 2 (tyX3 2) := ⟨RX3, TX3, 11, tyX3, rfl, by decide, in_X3, Or.inr ⟨"FeeDocket", List.mem_of_getElem? (i := 12) rfl⟩, tyX3_ok, nmX3, rfl, rfl⟩
theorem fg_X3_22 : FG RX3 22 2 3 := ⟨RX3, TX3, 11, rfl, by decide, in_X3, Or.inl w_85⟩
theorem fp_X3_22 : FP RX3 22 2 3 (tyX3 3) := ⟨RX3, TX3, 11, tyX3, rfl, by decide, in_X3, Or.inl w_85, tyX3_ok, nmX3, rfl, rfl⟩
theorem fg_X4_155 : FG RX4 155 2 3 := ⟨RX3, TX3, 11, rfl, by decide, in_X3, Or.inr ⟨"FeeDocket", List.mem_of_getElem? (i := 13) rfl⟩⟩
theorem fp_X4_155 : FP RX4 155 2 3 (tyX3 3) := ⟨RX3, TX3, 11, tyX3, rfl, by decide, in_X3, Or.inr ⟨"FeeDocket", List.mem_of_getElem? (i := 13) rfl⟩, tyX3_ok, nmX3, rfl, rfl⟩
theorem fg_X3_25 : FG RX3 25 2 4 := ⟨RX3, TX3, 11, rfl, by decide, in_X3, Or.inl w_87⟩
theorem fp_X3_25 : FP RX3 25 2 4 (tyX3 4) := ⟨RX3, TX3, 11, tyX3, rfl, by decide, in_X3, Or.inl w_87, tyX3_ok, nmX3, rfl, rfl⟩
theorem fg_X4_169 : FG RX4 169 2 4 := ⟨RX3, TX3, 11, rfl, by decide, in_X3, Or.inr ⟨"FeeDocket", List.mem_of_getElem? (i := 14) rfl⟩⟩
theorem fp_X4_169 : FP RX4 169 2 4 (tyX3 4) := ⟨RX3, TX3, 11, tyX3, rfl, by decide, in_X3, Or.inr ⟨"FeeDocket", List.mem_of_getElem? (i := 14) rfl⟩, tyX3_ok, nmX3, rfl, rfl⟩
theorem fg_X3_28 : FG RX3 28 2 5 := ⟨RX3, TX3, 11, rfl, by decide, in_X3, Or.inl w_89⟩
theorem fp_X3_28 : FP RX3 28 2 5 (tyX3 5) := ⟨RX3, TX3, 11, tyX3, rfl, by decide, in_X3, Or.inl w_89, tyX3_ok, nmX3, rfl, rfl⟩
theorem fg_X4_160 : FG RX4 160 2 5 := ⟨RX3, TX3, 11, rfl, by decide, in_X3, Or.inr ⟨"FeeDocket", List.mem_of_getElem? (i := 15) rfl⟩⟩
theorem fp_X4_160 : FP RX4 160 2 5 (tyX3 5) := ⟨RX3, TX3, 11, tyX3, rfl, by decide, in_X3, Or.inr ⟨"FeeDocket", List.mem_of_getElem? (i := 15) rfl⟩, tyX3_ok, nmX3, rfl, rfl⟩
theorem fg_X3_31 : FG RX3 31 2 6 := ⟨RX3, TX3, 11, rfl, by decide, in_X3, Or.inl w_91⟩
theorem ff_X3_31 : FF RX3 31 2 6 (tyX3 6) := ⟨TX3, 11, tyX3, rfl, by decide, in_X3, w_91, tyX3_ok, nmX3, rfl, rfl, rfl⟩
theorem fg_X3_35 : FG RX3 35 2 7 := ⟨RX3, TX3, 11, rfl, by decide, in_X3, Or.inl w_92⟩
theorem ff_X3_35 : FF RX3 35 2 7 (tyX3 7) := ⟨TX3, 11, tyX3, rfl, by decide, in_X3, w_92, tyX3_ok, nmX3, rfl, rfl, rfl⟩
theorem fg_X3_38 : FG RX3 38 2 8 := ⟨RX3, TX3, 11, rfl, by decide, in_X3, Or.inl w_93⟩
theorem ff_X3_38 : FF RX3 38 2 8 (tyX3 8) := ⟨TX3, 11, tyX3, rfl, by decide, in_X3, w_93, tyX3_ok, nmX3, rfl, rfl, rfl⟩
theorem fg_X3_41 : FG RX3 41 2 9 := ⟨RX3, TX3, 11, rfl, by decide, in_X3, Or.inl w_94⟩
theorem ff_X3_41 : FF RX3 41 2 9 (tyX3 9) := ⟨TX3, 11, tyX3, rfl, by decide, in_X3, w_94, tyX3_ok, nmX3, rfl, rfl, rfl⟩
theorem fg_X3_44 : FG RX3 44 2 10 := ⟨RX3, TX3, 11, rfl, by decide, in_X3, Or.inl w_95⟩
theorem ff_X3_44 : FF RX3 44 2 10 (tyX3 10) := ⟨TX3, 11, tyX3, rfl, by decide, in_X3, w_95, tyX3_ok, nmX3, rfl, rfl, rfl⟩
theorem fg_X4_9 : FG RX4 9 3 0 := ⟨RX4, TX4, 8, rfl, by decide, in_X4, Or.inl w_119⟩
theorem fp_X4_9 : FP RX4 9 3 0 (tyX4 0) := ⟨RX4, TX4, 8, tyX4, rfl, by decide, in_X4, Or.inl w_119, tyX4_ok, nmX4, rfl, rfl⟩
theorem fg_X6_85 : FG RX6 85 3 0 := ⟨RX4, TX4, 8, rfl, by decide, in_X4, Or.inr ⟨"FeeDocket", List.mem_of_getElem? (i := 16) rfl⟩⟩
theorem fp_X6_85 : FP RX6 85 3 0 (tyX4 0) := ⟨RX4, TX4, 8, tyX4, rfl, by decide, in_X4, Or.inr ⟨"FeeDocket", List.mem_of_getElem? (i := 16) rfl⟩, tyX4_ok, nmX4, rfl, rfl⟩
theorem fg_X4_15 : FG RX4 15 3 1 := ⟨RX4, TX4, 8, rfl, by decide, in_X4, Or.inl w_121⟩
theorem fp_X4_15 : FP RX4 15 3 1 (tyX4 1) := ⟨RX4, TX4, 8, tyX4, rfl, by decide, in_X4, Or.inl w_121, tyX4_ok, nmX4, rfl, rfl⟩
theorem fg_X6_65 : FG RX6 65 3 1 := ⟨RX4, TX4, 8, rfl, by decide, in_X4, Or.inr ⟨"FeeDocket", List.mem_of_getElem? (i := 17) rfl⟩⟩
theorem fp_X6_65 : FP RX6 65 3 1 (tyX4 1) := ⟨RX4, TX4, 8, tyX4, rfl, by decide, in_X4, Or.inr ⟨"FeeDocket", List.mem_of_getElem? (i := 17) rfl⟩, tyX4_ok, nmX4, rfl, rfl⟩
theorem fg_X4_18 : FG RX4 18 3 2 := ⟨RX4, TX4, 8, rfl, by decide, in_X4, Or.inl w_123⟩
theorem fp_X4_18 : FP RX4 18 3 2 (tyX4 2) := ⟨RX4, TX4, 8, tyX4, rfl, by decide, in_X4, Or.inl w_123, tyX4_ok, nmX4, rfl, rfl⟩
theorem fg_X4_21 : FG RX4 21 3 3 := ⟨RX4, TX4, 8, rfl, by decide, in_X4, Or.inl w_124⟩
theorem fp_X4_21 : FP RX4 21 3 3 (tyX4 3) := ⟨RX4, TX4, 8, tyX4, rfl, by decide, in_X4, Or.inl w_124, tyX4_ok, nmX4, rfl, rfl⟩
theorem fg_X4_24 : FG RX4 24 3 4 := ⟨RX4, TX4, 8, rfl, by decide, in_X4, Or.inl w_125⟩
theorem fp_X4_24 : FP RX4 24 3 4 (tyX4 4) := ⟨RX4, TX4, 8, tyX4, rfl, by decide, in_X4, Or.inl w_125, tyX4_ok, nmX4, rfl, rfl⟩
theorem fg_X4_29 : FG RX4 29 3 5 := ⟨RX4, TX4, 8, rfl, by decide, in_X4, Or.inl w_126⟩
theorem ff_X4_29 : FF RX4 29 3 5 (tyX4 5) := ⟨TX4, 8, tyX4, rfl, by decide, in_X4, w_126, tyX4_ok, nmX4, rfl, rfl, rfl⟩
theorem fg_X6_201 : FG RX6 201 3 5 := ⟨RX4, TX4, 8, rfl, by decide, in_X4, Or.inr ⟨"FeeDocket", List.mem_of_getElem? (i := 18) rfl⟩⟩
theorem fg_X4_36 : FG RX4 36 3 6 := ⟨RX4, TX4, 8, rfl, by decide, in_X4, Or.inl w_128⟩
theorem ff_X4_36 : FF RX4 36 3 6 (tyX4 6) := ⟨TX4, 8, tyX4, rfl, by decide, in_X4, w_128, tyX4_ok, nmX4, rfl, rfl, rfl⟩
theorem fg_X6_56 : FG RX6 56 3 6 := ⟨RX4, TX4, 8, rfl, by decide, in_X4, Or.inr ⟨"FeeDocket", List.mem_of_getElem? (i := 19) rfl⟩⟩
theorem fg_X4_43 : FG RX4 43 3 7 := ⟨RX4, TX4, 8, rfl, by decide, in_X4, Or.inl w_130⟩
theorem ff_X4_43 : FF RX4 43 3 7 (tyX4 7) := ⟨TX4, 8, tyX4, rfl, by decide, in_X4, w_130, tyX4_ok, nmX4, rfl, rfl, rfl⟩
theorem fg_X6_130 : FG RX6 130 3 7 := ⟨RX4, TX4, 8, rfl, by decide, in_X4, Or.inr ⟨"FeeDocket", List.mem_of_getElem? (i := 20) rfl⟩⟩
theorem fg_X5_9 : FG RX5 9 4 0 := ⟨RX5, TX5, 7, rfl, by decide, in_X5, Or.inl w_156⟩
theorem ff_X5_9 : FF RX5 9 4 0 (tyX5 0) := ⟨TX5, 7, tyX5, rfl, by decide, in_X5, w_156, tyX5_ok, nmX5, rfl, rfl, rfl⟩
theorem fg_X5_15 : FG RX5 15 4 1 := ⟨RX5, TX5, 7, rfl, by decide, in_X5, Or.inl w_157⟩
theorem fp_X5_15 : FP RX5 15 4 1 (tyX5 1) := ⟨RX5, TX5, 7, tyX5, rfl, by decide, in_X5, Or.inl w_157, tyX5_ok, nmX5, rfl, rfl⟩
theorem fg_X6_178 : FG RX6 178 4 1 := ⟨RX5, TX5, 7, rfl, by decide, in_X5, Or.inr ⟨"FeeDocket", List.mem_of_getElem? (i := 22) rfl⟩⟩
theorem fp_X6_178 : FP RX6 178 4 1 (tyX5 1) := ⟨RX5, TX5, 7, tyX5, rfl, by decide, in_X5, Or.inr ⟨"FeeDocket", List.mem_of_getElem? (i := 22) rfl⟩, tyX5_ok, nmX5, rfl, rfl⟩
theorem fg_X5_19 : FG RX5 19 4 2 := ⟨RX5, TX5, 7, rfl, by decide, in_X5, Or.inl w_159⟩
theorem fp_X5_19 : FP RX5 19 4 2 (tyX5 2) := ⟨RX5, TX5, 7, tyX5, rfl, by decide, in_X5, Or.inl w_159, tyX5_ok, nmX5, rfl, rfl⟩
theorem fg_X5_22 : FG RX5 22 4 3 := ⟨RX5, TX5, 7, rfl, by decide, in_X5, Or.inl w_160⟩
theorem fp_X5_22 : FP RX5 22 4 3 (tyX5 3) := ⟨RX5, TX5, 7, tyX5, rfl, by decide, in_X5, Or.inl w_160, tyX5_ok, nmX5, rfl, rfl⟩
theorem fg_X5_25 : FG RX5 25 4 4 := ⟨RX5, TX5, 7, rfl, by decide, in_X5, Or.inl w_161⟩
theorem fp_X5_25 : FP RX5 25 4 4 (tyX5 4) := ⟨RX5, TX5, 7, tyX5, rfl, by decide, in_X5, Or.inl w_161, tyX5_ok, nmX5, rfl, rfl⟩
theorem fg_X4_62 : FG RX4 62 4 4 := ⟨RX5, TX5, 7, rfl, by decide, in_X5, Or.inr ⟨"FeeDocket", List.mem_of_getElem? (i := 23) rfl⟩⟩
theorem fp_X4_62 : FP RX4 62 4 4 (tyX5 4) := ⟨RX5, TX5, 7, tyX5, rfl, by decide, in_X5, Or.inr ⟨"FeeDocket", List.mem_of_getElem? (i := 23) rfl⟩, tyX5_ok, nmX5, rfl, rfl⟩
theorem fg_X5_28 : FG RX5 28 4 5 := ⟨RX5, TX5, 7, rfl, by decide, in_X5, Or.inl w_163⟩
theorem ff_X5_28 : FF RX5 28 4 5 (tyX5 5) := ⟨TX5, 7, tyX5, rfl, by decide, in_X5, w_163, tyX5_ok, nmX5, rfl, rfl, rfl⟩
theorem fg_X4_65 : FG RX4 65 4 5 := ⟨RX5, TX5, 7, rfl, by decide, in_X5, Or.inr ⟨"FeeDocket", List.mem_of_getElem? (i := 24) rfl⟩⟩
theorem fg_X5_32 : FG RX5 32 4 6 := ⟨RX5, TX5, 7, rfl, by decide, in_X5, Or.inl w_165⟩
theorem ff_X5_32 : FF RX5 32 4 6 (tyX5 6) := ⟨TX5, 7, tyX5, rfl, by decide, in_X5, w_165, tyX5_ok, nmX5, rfl, rfl, rfl⟩
theorem fg_X4_69 : FG RX4 69 4 6 := ⟨RX5, TX5, 7, rfl, by decide, in_X5, Or.inr ⟨"FeeDocket", List.mem_of_getElem? (i := 25) rfl⟩⟩
theorem fg_X6_10 : FG RX6 10 5 0 := ⟨RX6, TX6, 4, rfl, by decide, in_X6, Or.inl w_184⟩
theorem ff_X6_10 : FF RX6 10 5 0 (tyX6 0) := ⟨TX6, 4, tyX6, rfl, by decide, in_X6, w_184, tyX6_ok, nmX6, rfl, rfl, rfl⟩
theorem fg_X6_16 : FG RX6 16 5 1 := ⟨RX6, TX6, 4, rfl, by decide, in_X6, Or.inl w_185⟩
theorem ff_X6_16 : FF RX6 16 5 1 (tyX6 1) := ⟨TX6, 4, tyX6, rfl, by decide, in_X6, w_185, tyX6_ok, nmX6, rfl, rfl, rfl⟩
theorem fg_X6_20 : FG RX6 20 5 2 := ⟨RX6, TX6, 4, rfl, by decide, in_X6, Or.inl w_186⟩
theorem fp_X6_20 : FP RX6 20 5 2 (tyX6 2) := ⟨RX6, TX6, 4, tyX6, rfl, by decide, in_X6, Or.inl w_186, tyX6_ok, nmX6, rfl, rfl⟩
theorem fg_X6_27 : FG RX6 27 5 3 := ⟨RX6, TX6, 4, rfl, by decide, in_X6, Or.inl w_187⟩
theorem ff_X6_27 : FF RX6 27 5 3 (tyX6 3) := ⟨TX6, 4, tyX6, rfl, by decide, in_X6, w_187, tyX6_ok, nmX6, rfl, rfl, rfl⟩
theorem fg_X7_7 : FG RX7 7 6 0 := ⟨RX7, TX7, 14, rfl, by decide, in_X7, Or.inl w_798⟩
theorem ff_X7_7 : FF RX7 7 6 0 (tyX7 0) := ⟨TX7, 14, tyX7, rfl, by decide, in_X7, w_798, tyX7_ok, nmX7, rfl, rfl, rfl⟩
theorem fg_X7_13 : FG RX7 13 6 1 := ⟨RX7, TX7, 14, rfl, by decide, in_X7, Or.inl w_799⟩
theorem ff_X7_13 : FF RX7 13 6 1 (tyX7 1) := ⟨TX7, 14, tyX7, rfl, by decide, in_X7, w_799, tyX7_ok, nmX7, rfl, rfl, rfl⟩
theorem fg_X7_16 : FG RX7 16 6 2 := ⟨RX7, TX7, 14, rfl, by decide, in_X7, Or.inl w_800⟩
theorem ff_X7_16 : FF RX7 16 6 2 (tyX7 2) := ⟨TX7, 14, tyX7, rfl, by decide, in_X7, w_800, tyX7_ok, nmX7, rfl, rfl, rfl⟩
theorem fg_X7_32 : FG RX7 32 6 3 := ⟨RX7, TX7, 14, rfl, by decide, in_X7, Or.inl w_801⟩
theorem fp_X7_32 : FP RX7 32 6 3 (tyX7 3) := ⟨RX7, TX7, 14, tyX7, rfl, by decide, in_X7, Or.inl w_801, tyX7_ok, nmX7, rfl, rfl⟩
theorem fg_X7_28 : FG RX7 28 6 4 := ⟨RX7, TX7, 14, rfl, by decide, in_X7, Or.inl w_802⟩
theorem fp_X7_28 : FP RX7 28 6 4 (tyX7 4) := ⟨RX7, TX7, 14, tyX7, rfl, by decide, in_X7, Or.inl w_802, tyX7_ok, nmX7, rfl, rfl⟩
theorem fg_X7_19 : FG RX7 19 6 5 := ⟨RX7, TX7, 14, rfl, by decide, in_X7, Or.inl w_803⟩
theorem ff_X7_19 : FF RX7 19 6 5 (tyX7 5) := ⟨TX7, 14, tyX7, rfl, by decide, in_X7, w_803, tyX7_ok, nmX7, rfl, rfl, rfl⟩
theorem fg_X7_182 : FG RX7 182 6 6 := ⟨RX7, TX7, 14, rfl, by decide, in_X7, Or.inl w_804⟩
theorem fp_X7_182 : FP RX7 182 6 6 (tyX7 6) := ⟨RX7, TX7, 14, tyX7, rfl, by decide, in_X7, Or.inl w_804, tyX7_ok, nmX7, rfl, rfl⟩
theorem fg_X7_22 : FG RX7 22 6 7 := ⟨RX7, TX7, 14, rfl, by decide, in_X7, Or.inl w_805⟩
theorem ff_X7_22 : FF RX7 22 6 7 (tyX7 7) := ⟨TX7, 14, tyX7, rfl, by decide, in_X7, w_805, tyX7_ok, nmX7, rfl, rfl, rfl⟩
theorem fg_X7_25 : FG RX7 25 6 8 := ⟨RX7, TX7, 14, rfl, by decide, in_X7, Or.inl w_806⟩
theorem ff_X7_25 : FF RX7 25 6 8 (tyX7 8) := ⟨TX7, 14, tyX7, rfl, by decide, in_X7, w_806, tyX7_ok, nmX7, rfl, rfl, rfl⟩
theorem fg_X7_148 : FG RX7 148 6 9 := ⟨RX7, TX7, 14, rfl, by decide, in_X7, Or.inl w_807⟩
theorem fp_X7_148 : FP RX7 148 6 9 (tyX7 9) := ⟨RX7, TX7, 14, tyX7, rfl, by decide, in_X7, Or.inl w_807, tyX7_ok, nmX7, rfl, rfl⟩
theorem fg_X7_151 : FG RX7 151 6 10 := ⟨RX7, TX7, 14, rfl, by decide, in_X7, Or.inl w_808⟩
theorem fp_X7_151 : FP RX7 151 6 10 (tyX7 10) := ⟨RX7, TX7, 14, tyX7, rfl, by decide, in_X7, Or.inl w_808, tyX7_ok, nmX7, rfl, rfl⟩
theorem fg_X7_185 : FG RX7 185 6 11 := ⟨RX7, TX7, 14, rfl, by decide, in_X7, Or.inl w_809⟩
theorem fp_X7_185 : FP RX7 185 6 11 (tyX7 11) := ⟨RX7, TX7, 14, tyX7, rfl, by decide, in_X7, Or.inl w_809, tyX7_ok, nmX7, rfl, rfl⟩
theorem fg_X7_191 : FG RX7 191 6 12 := ⟨RX7, TX7, 14, rfl, by decide, in_X7, Or.inl w_810⟩
theorem fp_X7_191 : FP RX7 191 6 12 (tyX7 12) := ⟨RX7, TX7, 14, tyX7, rfl, by decide, in_X7, Or.inl w_810, tyX7_ok, nmX7, rfl, rfl⟩
theorem fg_X7_209 : FG RX7 209 6 13 := ⟨RX7, TX7, 14, rfl, by decide, in_X7, Or.inl w_811⟩
theorem fp_X7_209 : FP RX7 209 6 13 (tyX7 13) := ⟨RX7, TX7, 14, tyX7, rfl, by decide, in_X7, Or.inl w_811, tyX7_ok, nmX7, rfl, rfl⟩
theorem ysX0_yearOf : YS yX0_yearOf cX0_yearOf 3 (some .int) 1 := ⟨w_355, w_12, w_356, by decide +kernel, by decide +kernel, by decide +kernel⟩
theorem ysX0_firstDayOf : YS yX0_firstDayOf cX0_firstDayOf 1 (some .int) 1 := ⟨w_333, w_12, w_334, by decide +kernel, by decide +kernel, by decide +kernel⟩
theorem ysX0_monthLength : YS yX0_monthLength cX0_monthLength 2 (some .int) 2 := ⟨w_323, w_12, w_324, by decide +kernel, by decide +kernel, by decide +kernel⟩
theorem ysX0_dateOf : YS yX0_dateOf cX0_dateOf 4 (some .int) 1 := ⟨w_352, w_12, w_353, by decide +kernel, by decide +kernel, by decide +kernel⟩
theorem ysX0_dayOf : YS yX0_dayOf cX0_dayOf 5 (some .int) 3 := ⟨w_330, w_12, w_331, by decide +kernel, by decide +kernel, by decide +kernel⟩
theorem ysX0_monthsAfter : YS yX0_monthsAfter cX0_monthsAfter 6 (some .int) 2 := ⟨w_349, w_12, w_350, by decide +kernel, by decide +kernel, by decide +kernel⟩
theorem yiX1_init : YI yX1_init cX1_init 1 0 := ⟨w_53, rfl, w_4, w_54, by decide +kernel, by decide +kernel, by decide +kernel⟩
theorem yvX1_set : YV yX1_set cX1_set 5 none 4 := ⟨w_225, w_226, w_4, w_227, by decide +kernel, by decide +kernel, by decide +kernel⟩
theorem yvX1_copyFrom : YV yX1_copyFrom cX1_copyFrom 2 none 1 := ⟨w_221, w_222, w_4, w_223, by decide +kernel, by decide +kernel, by decide +kernel⟩
theorem yvX1_feeFor : YV yX1_feeFor cX1_feeFor 4 (some .int) 2 := ⟨w_267, w_268, w_4, w_269, by decide +kernel, by decide +kernel, by decide +kernel⟩
theorem yvX1_surchargeOn : YV yX1_surchargeOn cX1_surchargeOn 2 (some .int) 1 := ⟨w_275, w_276, w_4, w_277, by decide +kernel, by decide +kernel, by decide +kernel⟩
theorem yiX2_init : YI yX2_init cX2_init 1 0 := ⟨w_37, rfl, w_3, w_38, by decide +kernel, by decide +kernel, by decide +kernel⟩
theorem yvX2_canToggle : YV yX2_canToggle cX2_canToggle 2 (some .boolean) 1 := ⟨w_558, w_559, w_3, w_560, by decide +kernel, by decide +kernel, by decide +kernel⟩
theorem yvX2_toggle : YV yX2_toggle cX2_toggle 3 none 1 := ⟨w_581, w_582, w_3, w_583, by decide +kernel, by decide +kernel, by decide +kernel⟩
theorem yvX2_firstWorkingDay : YV yX2_firstWorkingDay cX2_firstWorkingDay 4 (some .int) 1 := ⟨w_362, w_363, w_3, w_364, by decide +kernel, by decide +kernel, by decide +kernel⟩
theorem yvX2_copyFrom : YV yX2_copyFrom cX2_copyFrom 2 none 1 := ⟨w_214, w_215, w_3, w_216, by decide +kernel, by decide +kernel, by decide +kernel⟩
theorem yvX2_isHoliday : YV yX2_isHoliday cX2_isHoliday 2 (some .boolean) 1 := ⟨w_367, ws_8, w_3, w_368, by decide +kernel, by decide +kernel, by decide +kernel⟩
theorem yvX2_find : YV yX2_find cX2_find 3 (some .int) 1 := ⟨w_372, ws_9, w_3, w_373, by decide +kernel, by decide +kernel, by decide +kernel⟩
theorem yvX2_remove : YV yX2_remove cX2_remove 3 none 1 := ⟨w_586, ws_14, w_3, w_587, by decide +kernel, by decide +kernel, by decide +kernel⟩
theorem yiX3_init : YI yX3_init cX3_init 1 0 := ⟨w_76, rfl, w_5, w_77, by decide +kernel, by decide +kernel, by decide +kernel⟩
theorem yvX3_start : YV yX3_start cX3_start 5 none 3 := ⟨w_345, w_346, w_5, w_347, by decide +kernel, by decide +kernel, by decide +kernel⟩
theorem yvX3_copyFrom : YV yX3_copyFrom cX3_copyFrom 2 none 1 := ⟨w_229, w_230, w_5, w_231, by decide +kernel, by decide +kernel, by decide +kernel⟩
theorem yvX3_nextYear : YV yX3_nextYear cX3_nextYear 1 (some .int) 0 := ⟨w_242, w_243, w_5, w_244, by decide +kernel, by decide +kernel, by decide +kernel⟩
theorem yvX3_dueOf : YV yX3_dueOf cX3_dueOf 2 (some .int) 1 := ⟨w_255, w_256, w_5, w_257, by decide +kernel, by decide +kernel, by decide +kernel⟩
theorem yvX3_graceOf : YV yX3_graceOf cX3_graceOf 2 (some .int) 1 := ⟨w_251, w_252, w_5, w_253, by decide +kernel, by decide +kernel, by decide +kernel⟩
theorem yvX3_paymentOf : YV yX3_paymentOf cX3_paymentOf 2 (some .int) 1 := ⟨w_718, w_719, w_5, w_720, by decide +kernel, by decide +kernel, by decide +kernel⟩
theorem yvX3_revivalOf : YV yX3_revivalOf cX3_revivalOf 2 (some .int) 1 := ⟨w_408, w_409, w_5, w_410, by decide +kernel, by decide +kernel, by decide +kernel⟩
theorem yvX3_isLapsed : YV yX3_isLapsed cX3_isLapsed 3 (some .boolean) 1 := ⟨w_246, w_247, w_5, w_248, by decide +kernel, by decide +kernel, by decide +kernel⟩
theorem yvX3_takePayment : YV yX3_takePayment cX3_takePayment 4 none 2 := ⟨w_279, w_280, w_5, w_281, by decide +kernel, by decide +kernel, by decide +kernel⟩
theorem yvX3_takeRevival : YV yX3_takeRevival cX3_takeRevival 4 none 3 := ⟨w_655, w_656, w_5, w_657, by decide +kernel, by decide +kernel, by decide +kernel⟩
theorem yvX3_stoodOn : YV yX3_stoodOn cX3_stoodOn 3 (some .boolean) 2 := ⟨w_398, w_399, w_5, w_400, by decide +kernel, by decide +kernel, by decide +kernel⟩
theorem yvX3_isInGap : YV yX3_isInGap cX3_isInGap 3 (some .boolean) 1 := ⟨w_404, w_405, w_5, w_406, by decide +kernel, by decide +kernel, by decide +kernel⟩
theorem yvX3_paidForOn : YV yX3_paidForOn cX3_paidForOn 6 (some .boolean) 2 := ⟨w_714, w_715, w_5, w_716, by decide +kernel, by decide +kernel, by decide +kernel⟩
theorem yvX3_daysLived : YV yX3_daysLived cX3_daysLived 2 (some .int) 1 := ⟨w_765, w_766, w_5, w_767, by decide +kernel, by decide +kernel, by decide +kernel⟩
theorem yvX3_daysStood : YV yX3_daysStood cX3_daysStood 5 (some .int) 1 := ⟨w_770, w_771, w_5, w_772, by decide +kernel, by decide +kernel, by decide +kernel⟩
theorem yvX3_hasBegun : YV yX3_hasBegun cX3_hasBegun 2 (some .boolean) 1 := ⟨w_430, w_431, w_5, w_432, by decide +kernel, by decide +kernel, by decide +kernel⟩
theorem yvX3_begin : YV yX3_begin cX3_begin 3 none 2 := ⟨w_671, w_672, w_5, w_673, by decide +kernel, by decide +kernel, by decide +kernel⟩
theorem yvX3_standingOfUser : YV yX3_standingOfUser cX3_standingOfUser 2 (some .int) 1 := ⟨w_434, w_435, w_5, w_436, by decide +kernel, by decide +kernel, by decide +kernel⟩
theorem yvX3_countUsers : YV yX3_countUsers cX3_countUsers 3 (some .int) 0 := ⟨w_426, w_427, w_5, w_428, by decide +kernel, by decide +kernel, by decide +kernel⟩
theorem yvX3_countProtected : YV yX3_countProtected cX3_countProtected 3 (some .int) 0 := ⟨w_438, w_439, w_5, w_440, by decide +kernel, by decide +kernel, by decide +kernel⟩
theorem yiX4_init : YI yX4_init cX4_init 2 0 := ⟨w_29, rfl, w_2, w_30, by decide +kernel, by decide +kernel, by decide +kernel⟩
theorem yvX4_copyFrom : YV yX4_copyFrom cX4_copyFrom 3 none 1 := ⟨w_210, w_211, w_2, w_212, by decide +kernel, by decide +kernel, by decide +kernel⟩
theorem yvX4_addRight : YV yX4_addRight cX4_addRight 3 none 2 := ⟨w_341, w_342, w_2, w_343, by decide +kernel, by decide +kernel, by decide +kernel⟩
theorem yvX4_takeRights : YV yX4_takeRights cX4_takeRights 4 none 1 := ⟨w_337, w_338, w_2, w_339, by decide +kernel, by decide +kernel, by decide +kernel⟩
theorem yvX4_lapsesWithin : YV yX4_lapsesWithin cX4_lapsesWithin 4 (some .int) 1 := ⟨w_604, w_605, w_2, w_606, by decide +kernel, by decide +kernel, by decide +kernel⟩
theorem yvX4_canPay : YV yX4_canPay cX4_canPay 3 (some .boolean) 1 := ⟨w_238, w_239, w_2, w_240, by decide +kernel, by decide +kernel, by decide +kernel⟩
theorem yvX4_canRevive : YV yX4_canRevive cX4_canRevive 3 (some .boolean) 1 := ⟨w_645, w_646, w_2, w_647, by decide +kernel, by decide +kernel, by decide +kernel⟩
theorem yvX4_canUse : YV yX4_canUse cX4_canUse 3 (some .boolean) 2 := ⟨w_666, w_667, w_2, w_668, by decide +kernel, by decide +kernel, by decide +kernel⟩
theorem yvX4_surchargeToday : YV yX4_surchargeToday cX4_surchargeToday 3 (some .int) 2 := ⟨w_271, w_272, w_2, w_273, by decide +kernel, by decide +kernel, by decide +kernel⟩
theorem yvX4_priceToday : YV yX4_priceToday cX4_priceToday 3 (some .int) 2 := ⟨w_263, w_264, w_2, w_265, by decide +kernel, by decide +kernel, by decide +kernel⟩
theorem yvX4_payNextFee : YV yX4_payNextFee cX4_payNextFee 4 (some .int) 1 := ⟨w_259, w_260, w_2, w_261, by decide +kernel, by decide +kernel, by decide +kernel⟩
theorem yvX4_payAllFees : YV yX4_payAllFees cX4_payAllFees 3 (some .int) 0 := ⟨w_234, w_235, w_2, w_236, by decide +kernel, by decide +kernel, by decide +kernel⟩
theorem yvX4_reviveRight : YV yX4_reviveRight cX4_reviveRight 4 (some .int) 1 := ⟨w_651, w_652, w_2, w_653, by decide +kernel, by decide +kernel, by decide +kernel⟩
theorem yvX4_rightDueFirst : YV yX4_rightDueFirst cX4_rightDueFirst 5 (some .int) 0 := ⟨w_287, w_288, w_2, w_289, by decide +kernel, by decide +kernel, by decide +kernel⟩
theorem yvX4_costsWithin : YV yX4_costsWithin cX4_costsWithin 4 (some .int) 1 := ⟨w_743, w_744, w_2, w_745, by decide +kernel, by decide +kernel, by decide +kernel⟩
theorem yvX4_costsUpTo : YV yX4_costsUpTo cX4_costsUpTo 5 (some .int) 2 := ⟨w_748, ws_16, w_2, w_749, by decide +kernel, by decide +kernel, by decide +kernel⟩
theorem yvX4_rightValue : YV yX4_rightValue cX4_rightValue 3 (some .int) 2 := ⟨w_421, w_422, w_2, w_423, by decide +kernel, by decide +kernel, by decide +kernel⟩
theorem yvX4_docketValue : YV yX4_docketValue cX4_docketValue 2 (some .int) 1 := ⟨w_390, w_391, w_2, w_392, by decide +kernel, by decide +kernel, by decide +kernel⟩
theorem yvX4_countStanding : YV yX4_countStanding cX4_countStanding 3 (some .int) 0 := ⟨w_395, ws_10, w_2, w_396, by decide +kernel, by decide +kernel, by decide +kernel⟩
theorem yvX4_countLapsed : YV yX4_countLapsed cX4_countLapsed 3 (some .int) 0 := ⟨w_413, ws_11, w_2, w_414, by decide +kernel, by decide +kernel, by decide +kernel⟩
theorem yiX5_init : YI yX5_init cX5_init 1 0 := ⟨w_153, rfl, w_6, w_154, by decide +kernel, by decide +kernel, by decide +kernel⟩
theorem yvX5_add : YV yX5_add cX5_add 2 none 1 := ⟨w_782, w_783, w_6, w_784, by decide +kernel, by decide +kernel, by decide +kernel⟩
theorem yvX5_read : YV yX5_read cX5_read 2 (some .int) 0 := ⟨w_299, w_300, w_6, w_301, by decide +kernel, by decide +kernel, by decide +kernel⟩
theorem yvX5_readRight : YV yX5_readRight cX5_readRight 5 none 0 := ⟨w_304, ws_2, w_6, w_305, by decide +kernel, by decide +kernel, by decide +kernel⟩
theorem yvX5_readNumber : YV yX5_readNumber cX5_readNumber 5 (some .int) 2 := ⟨w_308, ws_3, w_6, w_309, by decide +kernel, by decide +kernel, by decide +kernel⟩
theorem yvX5_readSign : YV yX5_readSign cX5_readSign 2 none 1 := ⟨w_320, ws_6, w_6, w_321, by decide +kernel, by decide +kernel, by decide +kernel⟩
theorem yvX5_readSmall : YV yX5_readSmall cX5_readSmall 1 (some .boolean) 0 := ⟨w_327, ws_7, w_6, w_328, by decide +kernel, by decide +kernel, by decide +kernel⟩
theorem yvX5_isDigit : YV yX5_isDigit cX5_isDigit 2 (some .boolean) 1 := ⟨w_312, ws_4, w_6, w_313, by decide +kernel, by decide +kernel, by decide +kernel⟩
theorem yvX5_signAt : YV yX5_signAt cX5_signAt 2 (some .int) 1 := ⟨w_316, ws_5, w_6, w_317, by decide +kernel, by decide +kernel, by decide +kernel⟩
theorem yiX6_init : YI yX6_init cX6_init 2 0 := ⟨w_21, rfl, w_1, w_22, by decide +kernel, by decide +kernel, by decide +kernel⟩
theorem yvX6_date : YV yX6_date cX6_date 2 (some .int) 1 := ⟨w_448, w_449, w_1, w_450, by decide +kernel, by decide +kernel, by decide +kernel⟩
theorem yvX6_day : YV yX6_day cX6_day 4 (some .int) 3 := ⟨w_528, w_529, w_1, w_530, by decide +kernel, by decide +kernel, by decide +kernel⟩
theorem yvX6_later : YV yX6_later cX6_later 3 (some .int) 2 := ⟨w_537, w_538, w_1, w_539, by decide +kernel, by decide +kernel, by decide +kernel⟩
theorem yvX6_putOff : YV yX6_putOff cX6_putOff 2 (some .int) 1 := ⟨w_545, w_546, w_1, w_547, by decide +kernel, by decide +kernel, by decide +kernel⟩
theorem yvX6_holiday : YV yX6_holiday cX6_holiday 4 (some .int) 2 := ⟨w_554, w_555, w_1, w_556, by decide +kernel, by decide +kernel, by decide +kernel⟩
theorem yvX6_file : YV yX6_file cX6_file 2 (some .int) 1 := ⟨w_592, w_593, w_1, w_594, by decide +kernel, by decide +kernel, by decide +kernel⟩
theorem yvX6_pass : YV yX6_pass cX6_pass 3 (some .int) 1 := ⟨w_600, w_601, w_1, w_602, by decide +kernel, by decide +kernel, by decide +kernel⟩
theorem yvX6_pay : YV yX6_pay cX6_pay 3 (some .int) 1 := ⟨w_612, w_613, w_1, w_614, by decide +kernel, by decide +kernel, by decide +kernel⟩
theorem yvX6_payAll : YV yX6_payAll cX6_payAll 1 (some .int) 0 := ⟨w_198, w_199, w_1, w_200, by decide +kernel, by decide +kernel, by decide +kernel⟩
theorem yvX6_revive : YV yX6_revive cX6_revive 3 (some .int) 1 := ⟨w_641, w_642, w_1, w_643, by decide +kernel, by decide +kernel, by decide +kernel⟩
theorem yvX6_use : YV yX6_use cX6_use 4 (some .int) 2 := ⟨w_662, w_663, w_1, w_664, by decide +kernel, by decide +kernel, by decide +kernel⟩
theorem yvX6_setFees : YV yX6_setFees cX6_setFees 6 (some .int) 4 := ⟨w_679, w_680, w_1, w_681, by decide +kernel, by decide +kernel, by decide +kernel⟩
theorem yvX6_right : YV yX6_right cX6_right 4 (some .int) 2 := ⟨w_687, w_688, w_1, w_689, by decide +kernel, by decide +kernel, by decide +kernel⟩
theorem yvX6_due : YV yX6_due cX6_due 5 (some .int) 3 := ⟨w_694, w_695, w_1, w_696, by decide +kernel, by decide +kernel, by decide +kernel⟩
theorem yvX6_stood : YV yX6_stood cX6_stood 4 (some .boolean) 2 := ⟨w_703, w_704, w_1, w_705, by decide +kernel, by decide +kernel, by decide +kernel⟩
theorem yvX6_covered : YV yX6_covered cX6_covered 4 (some .boolean) 2 := ⟨w_710, w_711, w_1, w_712, by decide +kernel, by decide +kernel, by decide +kernel⟩
theorem yvX6_user : YV yX6_user cX6_user 4 (some .int) 2 := ⟨w_725, w_726, w_1, w_727, by decide +kernel, by decide +kernel, by decide +kernel⟩
theorem yvX6_value : YV yX6_value cX6_value 2 (some .int) 1 := ⟨w_732, w_733, w_1, w_734, by decide +kernel, by decide +kernel, by decide +kernel⟩
theorem yvX6_nextDue : YV yX6_nextDue cX6_nextDue 1 (some .int) 0 := ⟨w_283, w_284, w_1, w_285, by decide +kernel, by decide +kernel, by decide +kernel⟩
theorem yvX6_costs : YV yX6_costs cX6_costs 2 (some .int) 1 := ⟨w_739, w_740, w_1, w_741, by decide +kernel, by decide +kernel, by decide +kernel⟩
theorem yvX6_lapsing : YV yX6_lapsing cX6_lapsing 2 (some .int) 1 := ⟨w_754, w_755, w_1, w_756, by decide +kernel, by decide +kernel, by decide +kernel⟩
theorem yvX6_share : YV yX6_share cX6_share 4 (some .double) 1 := ⟨w_761, w_762, w_1, w_763, by decide +kernel, by decide +kernel, by decide +kernel⟩
theorem yvX6_append : YV yX6_append cX6_append 2 (some .int) 1 := ⟨w_778, w_779, w_1, w_780, by decide +kernel, by decide +kernel, by decide +kernel⟩
theorem yvX6_clearText : YV yX6_clearText cX6_clearText 2 (some .int) 0 := ⟨w_291, w_292, w_1, w_293, by decide +kernel, by decide +kernel, by decide +kernel⟩
theorem yvX6_parse : YV yX6_parse cX6_parse 2 (some .int) 0 := ⟨w_295, w_296, w_1, w_297, by decide +kernel, by decide +kernel, by decide +kernel⟩
theorem yvX6_undo : YV yX6_undo cX6_undo 1 (some .int) 0 := ⟨w_789, w_790, w_1, w_791, by decide +kernel, by decide +kernel, by decide +kernel⟩
theorem yvX6_digest : YV yX6_digest cX6_digest 4 (some .long) 0 := ⟨w_381, w_382, w_1, w_383, by decide +kernel, by decide +kernel, by decide +kernel⟩
theorem yvX6_mixedWithRight : YV yX6_mixedWithRight cX6_mixedWithRight 7 (some .long) 2 := ⟨w_418, ws_12, w_1, w_419, by decide +kernel, by decide +kernel, by decide +kernel⟩
theorem ysX6_mixed : YS yX6_mixed cX6_mixed 4 (some .long) 2 := ⟨w_386, w_1, w_387, by decide +kernel, by decide +kernel, by decide +kernel⟩
theorem ysX6_isWithin : YS yX6_isWithin cX6_isWithin 3 (some .boolean) 3 := ⟨w_452, w_1, w_453, by decide +kernel, by decide +kernel, by decide +kernel⟩
theorem ysX6_checkArgument : YS yX6_checkArgument cX6_checkArgument 1 none 1 := ⟨w_455, w_1, w_456, by decide +kernel, by decide +kernel, by decide +kernel⟩
theorem ysX6_checkState : YS yX6_checkState cX6_checkState 1 none 1 := ⟨w_562, w_1, w_563, by decide +kernel, by decide +kernel, by decide +kernel⟩
theorem yvX6_existingRight : YV yX6_existingRight cX6_existingRight 2 (some (.object "FeeDocket$Right")) 1 := ⟨w_617, ws_15, w_1, w_618, by decide +kernel, by decide +kernel, by decide +kernel⟩
theorem yvX6_save : YV yX6_save cX6_save 1 none 0 := ⟨w_203, ws_0, w_1, w_204, by decide +kernel, by decide +kernel, by decide +kernel⟩
theorem yvX6_dropOldest : YV yX6_dropOldest cX6_dropOldest 3 none 0 := ⟨w_207, ws_1, w_1, w_208, by decide +kernel, by decide +kernel, by decide +kernel⟩
theorem yiX7_init : YI yX7_init cX7_init 1 0 := ⟨w_795, rfl, w_7, w_796, by decide +kernel, by decide +kernel, by decide +kernel⟩
theorem yvX7_thrown : YV yX7_thrown cX7_thrown 1 (some .int) 0 := ⟨w_842, w_843, w_7, w_844, by decide +kernel, by decide +kernel, by decide +kernel⟩
theorem yvX7_refused : YV yX7_refused cX7_refused 2 (some .boolean) 1 := ⟨w_851, ws_17, w_7, w_852, by decide +kernel, by decide +kernel, by decide +kernel⟩
theorem ysX7_in : YS yX7_in cX7_in 3 (some .boolean) 3 := ⟨w_864, w_7, w_865, by decide +kernel, by decide +kernel, by decide +kernel⟩
theorem yvX7_saves : YV yX7_saves cX7_saves 2 none 0 := ⟨w_907, ws_20, w_7, w_908, by decide +kernel, by decide +kernel, by decide +kernel⟩
theorem yvX7_undo : YV yX7_undo cX7_undo 2 (some .int) 0 := ⟨w_846, w_847, w_7, w_848, by decide +kernel, by decide +kernel, by decide +kernel⟩
theorem ysX7_monthDays : YS yX7_monthDays cX7_monthDays 2 (some .int) 2 := ⟨w_873, w_7, w_874, by decide +kernel, by decide +kernel, by decide +kernel⟩
theorem ysX7_newYear : YS yX7_newYear cX7_newYear 1 (some .int) 1 := ⟨w_861, w_7, w_862, by decide +kernel, by decide +kernel, by decide +kernel⟩
theorem ysX7_dayOf : YS yX7_dayOf cX7_dayOf 5 (some .int) 3 := ⟨w_880, w_7, w_881, by decide +kernel, by decide +kernel, by decide +kernel⟩
theorem ysX7_yearOf : YS yX7_yearOf cX7_yearOf 2 (some .int) 1 := ⟨w_870, w_7, w_871, by decide +kernel, by decide +kernel, by decide +kernel⟩
theorem ysX7_dateOf : YS yX7_dateOf cX7_dateOf 4 (some .int) 1 := ⟨w_867, w_7, w_868, by decide +kernel, by decide +kernel, by decide +kernel⟩
theorem ysX7_behind : YS yX7_behind cX7_behind 7 (some .int) 2 := ⟨w_887, w_7, w_888, by decide +kernel, by decide +kernel, by decide +kernel⟩
theorem yvX7_isHoliday : YV yX7_isHoliday cX7_isHoliday 4 (some .boolean) 1 := ⟨w_899, ws_19, w_7, w_900, by decide +kernel, by decide +kernel, by decide +kernel⟩
theorem yvX7_worksFrom : YV yX7_worksFrom cX7_worksFrom 3 (some .int) 1 := ⟨w_895, ws_18, w_7, w_896, by decide +kernel, by decide +kernel, by decide +kernel⟩
theorem ysX7_lastOf : YS yX7_lastOf cX7_lastOf 1 (some .int) 1 := ⟨w_858, w_7, w_859, by decide +kernel, by decide +kernel, by decide +kernel⟩
theorem yvX7_date : YV yX7_date cX7_date 2 (some .int) 1 := ⟨w_854, w_855, w_7, w_856, by decide +kernel, by decide +kernel, by decide +kernel⟩
theorem yvX7_day : YV yX7_day cX7_day 5 (some .int) 3 := ⟨w_876, w_877, w_7, w_878, by decide +kernel, by decide +kernel, by decide +kernel⟩
theorem yvX7_later : YV yX7_later cX7_later 3 (some .int) 2 := ⟨w_883, w_884, w_7, w_885, by decide +kernel, by decide +kernel, by decide +kernel⟩
theorem yvX7_putOff : YV yX7_putOff cX7_putOff 2 (some .int) 1 := ⟨w_890, w_891, w_7, w_892, by decide +kernel, by decide +kernel, by decide +kernel⟩
theorem yvX7_takesHoliday : YV yX7_takesHoliday cX7_takesHoliday 4 none 1 := ⟨w_911, ws_21, w_7, w_912, by decide +kernel, by decide +kernel, by decide +kernel⟩
theorem yvX7_holiday : YV yX7_holiday cX7_holiday 6 (some .int) 2 := ⟨w_902, w_903, w_7, w_904, by decide +kernel, by decide +kernel, by decide +kernel⟩
theorem ysX7_at : YS yX7_at cX7_at 1 (some .int) 1 := ⟨w_922, w_7, w_923, by decide +kernel, by decide +kernel, by decide +kernel⟩
theorem yvX7_of : YV yX7_of cX7_of 3 (some .int) 2 := ⟨w_942, ws_26, w_7, w_943, by decide +kernel, by decide +kernel, by decide +kernel⟩
theorem yvX7_isRight : YV yX7_isRight cX7_isRight 2 (some .boolean) 1 := ⟨w_954, ws_28, w_7, w_955, by decide +kernel, by decide +kernel, by decide +kernel⟩
theorem yvX7_comes : YV yX7_comes cX7_comes 5 (some .int) 2 := ⟨w_919, ws_22, w_7, w_920, by decide +kernel, by decide +kernel, by decide +kernel⟩
theorem yvX7_file : YV yX7_file cX7_file 2 (some .int) 1 := ⟨w_914, w_915, w_7, w_916, by decide +kernel, by decide +kernel, by decide +kernel⟩
theorem yvX7_dueOf : YV yX7_dueOf cX7_dueOf 3 (some .int) 2 := ⟨w_962, ws_30, w_7, w_963, by decide +kernel, by decide +kernel, by decide +kernel⟩
theorem yvX7_graceOf : YV yX7_graceOf cX7_graceOf 3 (some .int) 2 := ⟨w_946, ws_27, w_7, w_947, by decide +kernel, by decide +kernel, by decide +kernel⟩
theorem yvX7_endOf : YV yX7_endOf cX7_endOf 2 (some .int) 1 := ⟨w_994, ws_36, w_7, w_995, by decide +kernel, by decide +kernel, by decide +kernel⟩
theorem yvX7_nextOf : YV yX7_nextOf cX7_nextOf 2 (some .int) 1 := ⟨w_938, ws_25, w_7, w_939, by decide +kernel, by decide +kernel, by decide +kernel⟩
theorem yvX7_isLapsed : YV yX7_isLapsed cX7_isLapsed 2 (some .boolean) 1 := ⟨w_934, ws_24, w_7, w_935, by decide +kernel, by decide +kernel, by decide +kernel⟩
theorem yvX7_stands : YV yX7_stands cX7_stands 2 (some .boolean) 1 := ⟨w_1005, ws_37, w_7, w_1006, by decide +kernel, by decide +kernel, by decide +kernel⟩
theorem yvX7_lapsedOnes : YV yX7_lapsedOnes cX7_lapsedOnes 3 (some .int) 0 := ⟨w_930, ws_23, w_7, w_931, by decide +kernel, by decide +kernel, by decide +kernel⟩
theorem yvX7_pass : YV yX7_pass cX7_pass 3 (some .int) 1 := ⟨w_925, w_926, w_7, w_927, by decide +kernel, by decide +kernel, by decide +kernel⟩
theorem yvX7_feeOf : YV yX7_feeOf cX7_feeOf 4 (some .int) 2 := ⟨w_974, ws_33, w_7, w_975, by decide +kernel, by decide +kernel, by decide +kernel⟩
theorem yvX7_surchargeOn : YV yX7_surchargeOn cX7_surchargeOn 2 (some .int) 1 := ⟨w_978, ws_34, w_7, w_979, by decide +kernel, by decide +kernel, by decide +kernel⟩
theorem yvX7_paysNext : YV yX7_paysNext cX7_paysNext 6 (some .int) 2 := ⟨w_970, ws_32, w_7, w_971, by decide +kernel, by decide +kernel, by decide +kernel⟩
theorem yvX7_canPay : YV yX7_canPay cX7_canPay 3 (some .boolean) 1 := ⟨w_958, ws_29, w_7, w_959, by decide +kernel, by decide +kernel, by decide +kernel⟩
theorem yvX7_isLate : YV yX7_isLate cX7_isLate 2 (some .boolean) 1 := ⟨w_966, ws_31, w_7, w_967, by decide +kernel, by decide +kernel, by decide +kernel⟩
theorem yvX7_pay : YV yX7_pay cX7_pay 2 (some .int) 1 := ⟨w_949, w_950, w_7, w_951, by decide +kernel, by decide +kernel, by decide +kernel⟩
theorem yvX7_payAll : YV yX7_payAll cX7_payAll 3 (some .int) 0 := ⟨w_981, w_982, w_7, w_983, by decide +kernel, by decide +kernel, by decide +kernel⟩
theorem yvX7_canRevive : YV yX7_canRevive cX7_canRevive 2 (some .boolean) 1 := ⟨w_990, ws_35, w_7, w_991, by decide +kernel, by decide +kernel, by decide +kernel⟩
theorem yvX7_revive : YV yX7_revive cX7_revive 7 (some .int) 1 := ⟨w_985, w_986, w_7, w_987, by decide +kernel, by decide +kernel, by decide +kernel⟩
theorem yvX7_usersOf : YV yX7_usersOf cX7_usersOf 4 (some .int) 1 := ⟨w_1009, ws_38, w_7, w_1010, by decide +kernel, by decide +kernel, by decide +kernel⟩
theorem ysX7_isUser : YS yX7_isUser cX7_isUser 1 (some .boolean) 1 := ⟨w_1001, w_7, w_1002, by decide +kernel, by decide +kernel, by decide +kernel⟩
theorem yvX7_use : YV yX7_use cX7_use 3 (some .int) 2 := ⟨w_997, w_998, w_7, w_999, by decide +kernel, by decide +kernel, by decide +kernel⟩
theorem yvX7_setFees : YV yX7_setFees cX7_setFees 6 (some .int) 4 := ⟨w_1012, w_1013, w_7, w_1014, by decide +kernel, by decide +kernel, by decide +kernel⟩
theorem ysX7_bits : YS yX7_bits cX7_bits 3 (some .int) 1 := ⟨w_1028, w_7, w_1029, by decide +kernel, by decide +kernel, by decide +kernel⟩
theorem yvX7_costNow : YV yX7_costNow cX7_costNow 3 (some .int) 1 := ⟨w_1025, ws_40, w_7, w_1026, by decide +kernel, by decide +kernel, by decide +kernel⟩
theorem yvX7_tellRight : YV yX7_tellRight cX7_tellRight 4 (some .int) 2 := ⟨w_1021, ws_39, w_7, w_1022, by decide +kernel, by decide +kernel, by decide +kernel⟩
theorem yvX7_right : YV yX7_right cX7_right 3 (some .int) 2 := ⟨w_1016, w_1017, w_7, w_1018, by decide +kernel, by decide +kernel, by decide +kernel⟩
theorem yvX7_due : YV yX7_due cX7_due 4 (some .int) 3 := ⟨w_1031, w_1032, w_7, w_1033, by decide +kernel, by decide +kernel, by decide +kernel⟩
theorem yvX7_laysGaps : YV yX7_laysGaps cX7_laysGaps 4 none 1 := ⟨w_1044, ws_42, w_7, w_1045, by decide +kernel, by decide +kernel, by decide +kernel⟩
theorem yvX7_isCovered : YV yX7_isCovered cX7_isCovered 4 (some .boolean) 1 := ⟨w_1048, ws_43, w_7, w_1049, by decide +kernel, by decide +kernel, by decide +kernel⟩
theorem yvX7_stoodOn : YV yX7_stoodOn cX7_stoodOn 3 (some .boolean) 2 := ⟨w_1040, ws_41, w_7, w_1041, by decide +kernel, by decide +kernel, by decide +kernel⟩
theorem yvX7_stood : YV yX7_stood cX7_stood 3 (some .boolean) 2 := ⟨w_1035, w_1036, w_7, w_1037, by decide +kernel, by decide +kernel, by decide +kernel⟩
theorem yvX7_covered : YV yX7_covered cX7_covered 3 (some .boolean) 2 := ⟨w_1051, w_1052, w_7, w_1053, by decide +kernel, by decide +kernel, by decide +kernel⟩
theorem yvX7_tellUser : YV yX7_tellUser cX7_tellUser 3 (some .int) 2 := ⟨w_1060, ws_44, w_7, w_1061, by decide +kernel, by decide +kernel, by decide +kernel⟩
theorem yvX7_user : YV yX7_user cX7_user 3 (some .int) 2 := ⟨w_1055, w_1056, w_7, w_1057, by decide +kernel, by decide +kernel, by decide +kernel⟩
theorem yvX7_standing : YV yX7_standing cX7_standing 3 (some .int) 0 := ⟨w_1072, ws_46, w_7, w_1073, by decide +kernel, by decide +kernel, by decide +kernel⟩
theorem yvX7_tellValue : YV yX7_tellValue cX7_tellValue 2 (some .int) 1 := ⟨w_1068, ws_45, w_7, w_1069, by decide +kernel, by decide +kernel, by decide +kernel⟩
theorem yvX7_value : YV yX7_value cX7_value 2 (some .int) 1 := ⟨w_1063, w_1064, w_7, w_1065, by decide +kernel, by decide +kernel, by decide +kernel⟩
theorem yvX7_firstDue : YV yX7_firstDue cX7_firstDue 6 (some .int) 0 := ⟨w_1080, ws_47, w_7, w_1081, by decide +kernel, by decide +kernel, by decide +kernel⟩
theorem yvX7_nextDue : YV yX7_nextDue cX7_nextDue 1 (some .int) 0 := ⟨w_1075, w_1076, w_7, w_1077, by decide +kernel, by decide +kernel, by decide +kernel⟩
theorem ysX7_areDays : YS yX7_areDays cX7_areDays 1 (some .boolean) 1 := ⟨w_1087, w_7, w_1088, by decide +kernel, by decide +kernel, by decide +kernel⟩
theorem yvX7_costsOf : YV yX7_costsOf cX7_costsOf 7 (some .int) 2 := ⟨w_1091, ws_48, w_7, w_1092, by decide +kernel, by decide +kernel, by decide +kernel⟩
theorem yvX7_costs : YV yX7_costs cX7_costs 4 (some .int) 1 := ⟨w_1083, w_1084, w_7, w_1085, by decide +kernel, by decide +kernel, by decide +kernel⟩
theorem yvX7_lapsing : YV yX7_lapsing cX7_lapsing 5 (some .int) 1 := ⟨w_1094, w_1095, w_7, w_1096, by decide +kernel, by decide +kernel, by decide +kernel⟩
theorem yvX7_share : YV yX7_share cX7_share 5 (some .double) 1 := ⟨w_1098, w_1099, w_7, w_1100, by decide +kernel, by decide +kernel, by decide +kernel⟩
theorem yvX7_append : YV yX7_append cX7_append 2 (some .int) 1 := ⟨w_1102, w_1103, w_7, w_1104, by decide +kernel, by decide +kernel, by decide +kernel⟩
theorem yvX7_clearText : YV yX7_clearText cX7_clearText 2 (some .int) 0 := ⟨w_1106, w_1107, w_7, w_1108, by decide +kernel, by decide +kernel, by decide +kernel⟩
theorem yvX7_isAt : YV yX7_isAt cX7_isAt 3 (some .boolean) 2 := ⟨w_1123, ws_51, w_7, w_1124, by decide +kernel, by decide +kernel, by decide +kernel⟩
theorem yvX7_takes : YV yX7_takes cX7_takes 3 (some .boolean) 1 := ⟨w_1127, ws_52, w_7, w_1128, by decide +kernel, by decide +kernel, by decide +kernel⟩
theorem yvX7_takesNumber : YV yX7_takesNumber cX7_takesNumber 6 (some .boolean) 2 := ⟨w_1119, ws_50, w_7, w_1120, by decide +kernel, by decide +kernel, by decide +kernel⟩
theorem yvX7_takesRight : YV yX7_takesRight cX7_takesRight 6 (some .boolean) 0 := ⟨w_1115, ws_49, w_7, w_1116, by decide +kernel, by decide +kernel, by decide +kernel⟩
theorem yvX7_parse : YV yX7_parse cX7_parse 4 (some .int) 0 := ⟨w_1110, w_1111, w_7, w_1112, by decide +kernel, by decide +kernel, by decide +kernel⟩
theorem yvX7_swapsAside : YV yX7_swapsAside cX7_swapsAside 3 none 0 := ⟨w_1131, ws_53, w_7, w_1132, by decide +kernel, by decide +kernel, by decide +kernel⟩
theorem yvX7_mix : YV yX7_mix cX7_mix 2 none 1 := ⟨w_1140, ws_54, w_7, w_1141, by decide +kernel, by decide +kernel, by decide +kernel⟩
theorem yvX7_digest : YV yX7_digest cX7_digest 3 (some .long) 0 := ⟨w_1134, w_1135, w_7, w_1136, by decide +kernel, by decide +kernel, by decide +kernel⟩
theorem ysJ9_max_7cf53 : YS yJ9_max_7cf53 cJ9_max_7cf53 2 (some .int) 2 := ⟨w_378, w_13, w_379, by decide +kernel, by decide +kernel, by decide +kernel⟩
theorem ysJ9_min_7cf53 : YS yJ9_min_7cf53 cJ9_min_7cf53 2 (some .int) 2 := ⟨w_358, w_13, w_359, by decide +kernel, by decide +kernel, by decide +kernel⟩
theorem ysJ7_fill_53178 : YS yJ7_fill_53178 cJ7_fill_53178 4 none 2 := ⟨w_375, w_16, w_376, by decide +kernel, by decide +kernel, by decide +kernel⟩
