theorem qmem {w : Cond} (P : Nat) (h : lw_tbl[P]? = some w) (g : qgood w = true) : w ∈ qTBL := List.mem_filter.mpr ⟨List.mem_of_getElem? h, g⟩
theorem qin_of {ws : List Cond} (ps : List Nat) (hp : ws = ps.filterMap (fun i => lw_tbl[i]?)) (h : ws.all qgood = true) : ∀ w ∈ ws, w ∈ qTBL := by
  intro w hw
  have h1 := List.all_eq_true.mp h w hw
  rw [hp] at hw
  obtain ⟨i, -, hi⟩ := List.mem_filterMap.mp hw
  exact qmem i hi h1
theorem qm0 {w : Cond} (P : Nat) (h : (k2_sels lw_privs)[P]? = some w) (g : qgood w = true) : w ∈ qTBL := List.mem_filter.mpr ⟨List.mem_append_left _ (List.mem_of_getElem? h), g⟩
theorem qm1 {w : Cond} (P : Nat) (h : tables_1_1[P]? = some w) (g : qgood w = true) : w ∈ qTBL := List.mem_filter.mpr ⟨List.mem_append_right _ (List.mem_append_left _ (List.mem_of_getElem? h)), g⟩
theorem qm2 {w : Cond} (P : Nat) (h : tables_1_2[P]? = some w) (g : qgood w = true) : w ∈ qTBL := List.mem_filter.mpr ⟨List.mem_append_right _ (List.mem_append_right _ (List.mem_append_left _ (List.mem_of_getElem? h))), g⟩
theorem qm3 {w : Cond} (P : Nat) (h : tables_1_3[P]? = some w) (g : qgood w = true) : w ∈ qTBL := List.mem_filter.mpr ⟨List.mem_append_right _ (List.mem_append_right _ (List.mem_append_right _ (List.mem_append_left _ (List.mem_of_getElem? h)))), g⟩
theorem qm4 {w : Cond} (P : Nat) (h : tables_1_4[P]? = some w) (g : qgood w = true) : w ∈ qTBL := List.mem_filter.mpr ⟨List.mem_append_right _ (List.mem_append_right _ (List.mem_append_right _ (List.mem_append_right _ (List.mem_of_getElem? h)))), g⟩
theorem qcok0 : qcok 0 := by
  intro C T N h
  cases h
  exact ⟨qin_of [210, 212, 214, 216, 218, 220, 222, 224, 226, 228, 230, 232] (by decide +kernel) (by decide +kernel), ⟨tyX0, tyX0_ok⟩, nmX0⟩
theorem qcok1 : qcok 1 := by
  intro C T N h
  cases h
  exact ⟨qin_of [273, 275, 277, 279] (by decide +kernel) (by decide +kernel), ⟨tyX1, tyX1_ok⟩, nmX1⟩
theorem qcok2 : qcok 2 := by
  intro C T N h
  cases h
  exact ⟨qin_of [137, 139, 141, 143, 145, 147, 149, 151, 153] (by decide +kernel) (by decide +kernel), ⟨tyX2, tyX2_ok⟩, nmX2⟩
theorem qcok3 : qcok 3 := by
  intro C T N h
  cases h
  exact ⟨qin_of [332, 334, 336] (by decide +kernel) (by decide +kernel), ⟨tyX3, tyX3_ok⟩, nmX3⟩
theorem qcok4 : qcok 4 := by
  intro C T N h
  cases h
  exact ⟨qin_of [254, 256] (by decide +kernel) (by decide +kernel), ⟨tyX4, tyX4_ok⟩, nmX4⟩
theorem qcok5 : qcok 5 := by
  intro C T N h
  cases h
  exact ⟨qin_of [348, 350, 352] (by decide +kernel) (by decide +kernel), ⟨tyX5, tyX5_ok⟩, nmX5⟩
theorem qcok6 : qcok 6 := by
  intro C T N h
  cases h
  exact ⟨qin_of [302, 304, 306, 308, 310, 312, 314, 316, 318] (by decide +kernel) (by decide +kernel), ⟨tyX6, tyX6_ok⟩, nmX6⟩
theorem qcok7 : qcok 7 := by
  intro C T N h
  cases h
  exact ⟨qin_of [105, 107, 109, 111] (by decide +kernel) (by decide +kernel), ⟨tyX7, tyX7_ok⟩, nmX7⟩
theorem qcok8 : qcok 8 := by
  intro C T N h
  cases h
  exact ⟨qin_of [361, 363, 365, 367, 369, 371] (by decide +kernel) (by decide +kernel), ⟨tyX8, tyX8_ok⟩, nmX8⟩
theorem fkX7_9 : qLK RX7 9 7 0 .int false := ⟨RX7, TX7, 4, rfl, (by decide +kernel), (by decide +kernel), (by decide +kernel), qcok7, Or.inl (qm1 43 (by decide +kernel) (by decide +kernel))⟩
theorem fkX2_45 : qLK RX2 45 7 0 .int false := ⟨RX7, TX7, 4, rfl, (by decide +kernel), (by decide +kernel), (by decide +kernel), qcok7, Or.inr ⟨"LowAir", qm1 44 (by decide +kernel) (by decide +kernel)⟩⟩
theorem fkX7_18 : qLK RX7 18 7 1 .int false := ⟨RX7, TX7, 4, rfl, (by decide +kernel), (by decide +kernel), (by decide +kernel), qcok7, Or.inl (qm1 45 (by decide +kernel) (by decide +kernel))⟩
theorem fkX2_48 : qLK RX2 48 7 1 .int false := ⟨RX7, TX7, 4, rfl, (by decide +kernel), (by decide +kernel), (by decide +kernel), qcok7, Or.inr ⟨"LowAir", qm1 46 (by decide +kernel) (by decide +kernel)⟩⟩
theorem fkX7_21 : qLK RX7 21 7 2 .int false := ⟨RX7, TX7, 4, rfl, (by decide +kernel), (by decide +kernel), (by decide +kernel), qcok7, Or.inl (qm1 47 (by decide +kernel) (by decide +kernel))⟩
theorem fkX2_51 : qLK RX2 51 7 2 .int false := ⟨RX7, TX7, 4, rfl, (by decide +kernel), (by decide +kernel), (by decide +kernel), qcok7, Or.inr ⟨"LowAir", qm1 48 (by decide +kernel) (by decide +kernel)⟩⟩
theorem fkX7_15 : qLK RX7 15 7 3 .int false := ⟨RX7, TX7, 4, rfl, (by decide +kernel), (by decide +kernel), (by decide +kernel), qcok7, Or.inl (qm1 49 (by decide +kernel) (by decide +kernel))⟩
theorem fkX2_54 : qLK RX2 54 7 3 .int false := ⟨RX7, TX7, 4, rfl, (by decide +kernel), (by decide +kernel), (by decide +kernel), qcok7, Or.inr ⟨"LowAir", qm1 50 (by decide +kernel) (by decide +kernel)⟩⟩
theorem fkX2_9 : qLK RX2 9 2 0 (.array .int) true := ⟨RX2, TX2, 9, rfl, (by decide +kernel), (by decide +kernel), (by decide +kernel), qcok2, Or.inl (qm1 62 (by decide +kernel) (by decide +kernel))⟩
theorem fkdX2_9 : ∀ (C : String) (T : u_T) (N : Nat), vwCl[2]? = some (C, T, N) → (T 0).1 = RX2 ∧ Cond.fieldLink RX2 9 (T 0).1 (T 0).2.1 (T 0).2.2.1 ∈ qTBL := by
  intro C T N h
  cases h
  exact ⟨(by decide +kernel), qm1 62 (by decide +kernel) (by decide +kernel)⟩
theorem fkX8_59 : qLK RX8 59 2 0 (.array .int) true := ⟨RX2, TX2, 9, rfl, (by decide +kernel), (by decide +kernel), (by decide +kernel), qcok2, Or.inr ⟨"LowAir", qm1 63 (by decide +kernel) (by decide +kernel)⟩⟩
theorem fkX6_163 : qLK RX6 163 2 0 (.array .int) true := ⟨RX2, TX2, 9, rfl, (by decide +kernel), (by decide +kernel), (by decide +kernel), qcok2, Or.inr ⟨"LowAir", qm1 64 (by decide +kernel) (by decide +kernel)⟩⟩
theorem fkX3_133 : qLK RX3 133 2 0 (.array .int) true := ⟨RX2, TX2, 9, rfl, (by decide +kernel), (by decide +kernel), (by decide +kernel), qcok2, Or.inr ⟨"LowAir", qm1 65 (by decide +kernel) (by decide +kernel)⟩⟩
theorem fkX2_15 : qLK RX2 15 2 1 (.array .boolean) true := ⟨RX2, TX2, 9, rfl, (by decide +kernel), (by decide +kernel), (by decide +kernel), qcok2, Or.inl (qm1 66 (by decide +kernel) (by decide +kernel))⟩
theorem fkdX2_15 : ∀ (C : String) (T : u_T) (N : Nat), vwCl[2]? = some (C, T, N) → (T 1).1 = RX2 ∧ Cond.fieldLink RX2 15 (T 1).1 (T 1).2.1 (T 1).2.2.1 ∈ qTBL := by
  intro C T N h
  cases h
  exact ⟨(by decide +kernel), qm1 66 (by decide +kernel) (by decide +kernel)⟩
theorem fkX3_72 : qLK RX3 72 2 1 (.array .boolean) true := ⟨RX2, TX2, 9, rfl, (by decide +kernel), (by decide +kernel), (by decide +kernel), qcok2, Or.inr ⟨"LowAir", qm1 67 (by decide +kernel) (by decide +kernel)⟩⟩
theorem fkX8_69 : qLK RX8 69 2 1 (.array .boolean) true := ⟨RX2, TX2, 9, rfl, (by decide +kernel), (by decide +kernel), (by decide +kernel), qcok2, Or.inr ⟨"LowAir", qm1 68 (by decide +kernel) (by decide +kernel)⟩⟩
theorem fkX5_27 : qLK RX5 27 2 1 (.array .boolean) true := ⟨RX2, TX2, 9, rfl, (by decide +kernel), (by decide +kernel), (by decide +kernel), qcok2, Or.inr ⟨"LowAir", qm1 69 (by decide +kernel) (by decide +kernel)⟩⟩
theorem fkX2_19 : qLK RX2 19 2 2 (.array .int) true := ⟨RX2, TX2, 9, rfl, (by decide +kernel), (by decide +kernel), (by decide +kernel), qcok2, Or.inl (qm1 70 (by decide +kernel) (by decide +kernel))⟩
theorem fkdX2_19 : ∀ (C : String) (T : u_T) (N : Nat), vwCl[2]? = some (C, T, N) → (T 2).1 = RX2 ∧ Cond.fieldLink RX2 19 (T 2).1 (T 2).2.1 (T 2).2.2.1 ∈ qTBL := by
  intro C T N h
  cases h
  exact ⟨(by decide +kernel), qm1 70 (by decide +kernel) (by decide +kernel)⟩
theorem fkX8_63 : qLK RX8 63 2 2 (.array .int) true := ⟨RX2, TX2, 9, rfl, (by decide +kernel), (by decide +kernel), (by decide +kernel), qcok2, Or.inr ⟨"LowAir", qm1 71 (by decide +kernel) (by decide +kernel)⟩⟩
theorem fkX2_22 : qLK RX2 22 2 3 (.array .int) true := ⟨RX2, TX2, 9, rfl, (by decide +kernel), (by decide +kernel), (by decide +kernel), qcok2, Or.inl (qm1 72 (by decide +kernel) (by decide +kernel))⟩
theorem fkdX2_22 : ∀ (C : String) (T : u_T) (N : Nat), vwCl[2]? = some (C, T, N) → (T 3).1 = RX2 ∧ Cond.fieldLink RX2 22 (T 3).1 (T 3).2.1 (T 3).2.2.1 ∈ qTBL := by
  intro C T N h
  cases h
  exact ⟨(by decide +kernel), qm1 72 (by decide +kernel) (by decide +kernel)⟩
theorem fkX8_112 : qLK RX8 112 2 3 (.array .int) true := ⟨RX2, TX2, 9, rfl, (by decide +kernel), (by decide +kernel), (by decide +kernel), qcok2, Or.inr ⟨"LowAir", qm1 73 (by decide +kernel) (by decide +kernel)⟩⟩
theorem fkX2_38 : qLK RX2 38 2 4 .int false := ⟨RX2, TX2, 9, rfl, (by decide +kernel), (by decide +kernel), (by decide +kernel), qcok2, Or.inl (qm1 74 (by decide +kernel) (by decide +kernel))⟩
theorem fkX8_73 : qLK RX8 73 2 4 .int false := ⟨RX2, TX2, 9, rfl, (by decide +kernel), (by decide +kernel), (by decide +kernel), qcok2, Or.inr ⟨"LowAir", qm1 75 (by decide +kernel) (by decide +kernel)⟩⟩
theorem fkX2_27 : qLK RX2 27 2 5 (.array (.object "LowAir$Zone")) true := ⟨RX2, TX2, 9, rfl, (by decide +kernel), (by decide +kernel), (by decide +kernel), qcok2, Or.inl (qm1 76 (by decide +kernel) (by decide +kernel))⟩
theorem fkdX2_27 : ∀ (C : String) (T : u_T) (N : Nat), vwCl[2]? = some (C, T, N) → (T 5).1 = RX2 ∧ Cond.fieldLink RX2 27 (T 5).1 (T 5).2.1 (T 5).2.2.1 ∈ qTBL := by
  intro C T N h
  cases h
  exact ⟨(by decide +kernel), qm1 76 (by decide +kernel) (by decide +kernel)⟩
theorem fkX2_42 : qLK RX2 42 2 6 .int false := ⟨RX2, TX2, 9, rfl, (by decide +kernel), (by decide +kernel), (by decide +kernel), qcok2, Or.inl (qm1 77 (by decide +kernel) (by decide +kernel))⟩
theorem fkX8_81 : qLK RX8 81 2 6 .int false := ⟨RX2, TX2, 9, rfl, (by decide +kernel), (by decide +kernel), (by decide +kernel), qcok2, Or.inr ⟨"LowAir", qm1 78 (by decide +kernel) (by decide +kernel)⟩⟩
theorem fkX8_91 : qLK RX8 91 2 7 .int false := ⟨RX2, TX2, 9, rfl, (by decide +kernel), (by decide +kernel), (by decide +kernel), qcok2, Or.inr ⟨"LowAir", qm1 79 (by decide +kernel) (by decide +kernel)⟩⟩
theorem fkX2_91 : qLK RX2 91 2 7 .int false := ⟨RX2, TX2, 9, rfl, (by decide +kernel), (by decide +kernel), (by decide +kernel), qcok2, Or.inl (qm1 80 (by decide +kernel) (by decide +kernel))⟩
theorem fkX8_88 : qLK RX8 88 2 8 .int false := ⟨RX2, TX2, 9, rfl, (by decide +kernel), (by decide +kernel), (by decide +kernel), qcok2, Or.inr ⟨"LowAir", qm1 81 (by decide +kernel) (by decide +kernel)⟩⟩
theorem fkX2_94 : qLK RX2 94 2 8 .int false := ⟨RX2, TX2, 9, rfl, (by decide +kernel), (by decide +kernel), (by decide +kernel), qcok2, Or.inl (qm1 82 (by decide +kernel) (by decide +kernel))⟩
theorem fkX0_25 : qLK RX0 25 0 0 .int false := ⟨RX0, TX0, 12, rfl, (by decide +kernel), (by decide +kernel), (by decide +kernel), qcok0, Or.inl (qm1 117 (by decide +kernel) (by decide +kernel))⟩
theorem fkX5_32 : qLK RX5 32 0 0 .int false := ⟨RX0, TX0, 12, rfl, (by decide +kernel), (by decide +kernel), (by decide +kernel), qcok0, Or.inr ⟨"LowAir", qm1 118 (by decide +kernel) (by decide +kernel)⟩⟩
theorem fkX3_76 : qLK RX3 76 0 0 .int false := ⟨RX0, TX0, 12, rfl, (by decide +kernel), (by decide +kernel), (by decide +kernel), qcok0, Or.inr ⟨"LowAir", qm1 119 (by decide +kernel) (by decide +kernel)⟩⟩
theorem fkX8_104 : qLK RX8 104 0 0 .int false := ⟨RX0, TX0, 12, rfl, (by decide +kernel), (by decide +kernel), (by decide +kernel), qcok0, Or.inr ⟨"LowAir", qm1 120 (by decide +kernel) (by decide +kernel)⟩⟩
theorem fkX6_166 : qLK RX6 166 0 0 .int false := ⟨RX0, TX0, 12, rfl, (by decide +kernel), (by decide +kernel), (by decide +kernel), qcok0, Or.inr ⟨"LowAir", qm1 121 (by decide +kernel) (by decide +kernel)⟩⟩
theorem fkX0_28 : qLK RX0 28 0 1 .int false := ⟨RX0, TX0, 12, rfl, (by decide +kernel), (by decide +kernel), (by decide +kernel), qcok0, Or.inl (qm1 122 (by decide +kernel) (by decide +kernel))⟩
theorem fkX8_109 : qLK RX8 109 0 1 .int false := ⟨RX0, TX0, 12, rfl, (by decide +kernel), (by decide +kernel), (by decide +kernel), qcok0, Or.inr ⟨"LowAir", qm1 123 (by decide +kernel) (by decide +kernel)⟩⟩
theorem fkX0_31 : qLK RX0 31 0 2 .int false := ⟨RX0, TX0, 12, rfl, (by decide +kernel), (by decide +kernel), (by decide +kernel), qcok0, Or.inl (qm1 124 (by decide +kernel) (by decide +kernel))⟩
theorem fkX6_136 : qLK RX6 136 0 2 .int false := ⟨RX0, TX0, 12, rfl, (by decide +kernel), (by decide +kernel), (by decide +kernel), qcok0, Or.inr ⟨"LowAir", qm1 125 (by decide +kernel) (by decide +kernel)⟩⟩
theorem fkX8_115 : qLK RX8 115 0 2 .int false := ⟨RX0, TX0, 12, rfl, (by decide +kernel), (by decide +kernel), (by decide +kernel), qcok0, Or.inr ⟨"LowAir", qm1 126 (by decide +kernel) (by decide +kernel)⟩⟩
theorem fkX0_34 : qLK RX0 34 0 3 .int false := ⟨RX0, TX0, 12, rfl, (by decide +kernel), (by decide +kernel), (by decide +kernel), qcok0, Or.inl (qm1 127 (by decide +kernel) (by decide +kernel))⟩
theorem fkX8_118 : qLK RX8 118 0 3 .int false := ⟨RX0, TX0, 12, rfl, (by decide +kernel), (by decide +kernel), (by decide +kernel), qcok0, Or.inr ⟨"LowAir", qm1 128 (by decide +kernel) (by decide +kernel)⟩⟩
theorem fkX6_179 : qLK RX6 179 0 3 .int false := ⟨RX0, TX0, 12, rfl, (by decide +kernel), (by decide +kernel), (by decide +kernel), qcok0, Or.inr ⟨"LowAir", qm1 129 (by decide +kernel) (by decide +kernel)⟩⟩
theorem fkX0_37 : qLK RX0 37 0 4 .int false := ⟨RX0, TX0, 12, rfl, (by decide +kernel), (by decide +kernel), (by decide +kernel), qcok0, Or.inl (qm1 130 (by decide +kernel) (by decide +kernel))⟩
theorem fkX3_50 : qLK RX3 50 0 4 .int false := ⟨RX0, TX0, 12, rfl, (by decide +kernel), (by decide +kernel), (by decide +kernel), qcok0, Or.inr ⟨"LowAir", qm1 131 (by decide +kernel) (by decide +kernel)⟩⟩
theorem fkX6_112 : qLK RX6 112 0 4 .int false := ⟨RX0, TX0, 12, rfl, (by decide +kernel), (by decide +kernel), (by decide +kernel), qcok0, Or.inr ⟨"LowAir", qm1 132 (by decide +kernel) (by decide +kernel)⟩⟩
theorem fkX8_121 : qLK RX8 121 0 4 .int false := ⟨RX0, TX0, 12, rfl, (by decide +kernel), (by decide +kernel), (by decide +kernel), qcok0, Or.inr ⟨"LowAir", qm1 133 (by decide +kernel) (by decide +kernel)⟩⟩
theorem fkX0_40 : qLK RX0 40 0 5 .int false := ⟨RX0, TX0, 12, rfl, (by decide +kernel), (by decide +kernel), (by decide +kernel), qcok0, Or.inl (qm1 134 (by decide +kernel) (by decide +kernel))⟩
theorem fkX8_124 : qLK RX8 124 0 5 .int false := ⟨RX0, TX0, 12, rfl, (by decide +kernel), (by decide +kernel), (by decide +kernel), qcok0, Or.inr ⟨"LowAir", qm1 135 (by decide +kernel) (by decide +kernel)⟩⟩
theorem fkX6_160 : qLK RX6 160 0 5 .int false := ⟨RX0, TX0, 12, rfl, (by decide +kernel), (by decide +kernel), (by decide +kernel), qcok0, Or.inr ⟨"LowAir", qm1 136 (by decide +kernel) (by decide +kernel)⟩⟩
theorem fkX3_130 : qLK RX3 130 0 5 .int false := ⟨RX0, TX0, 12, rfl, (by decide +kernel), (by decide +kernel), (by decide +kernel), qcok0, Or.inr ⟨"LowAir", qm1 137 (by decide +kernel) (by decide +kernel)⟩⟩
theorem fkX0_9 : qLK RX0 9 0 6 .boolean false := ⟨RX0, TX0, 12, rfl, (by decide +kernel), (by decide +kernel), (by decide +kernel), qcok0, Or.inl (qm1 138 (by decide +kernel) (by decide +kernel))⟩
theorem fkX6_115 : qLK RX6 115 0 6 .boolean false := ⟨RX0, TX0, 12, rfl, (by decide +kernel), (by decide +kernel), (by decide +kernel), qcok0, Or.inr ⟨"LowAir", qm1 139 (by decide +kernel) (by decide +kernel)⟩⟩
theorem fkX8_133 : qLK RX8 133 0 6 .boolean false := ⟨RX0, TX0, 12, rfl, (by decide +kernel), (by decide +kernel), (by decide +kernel), qcok0, Or.inr ⟨"LowAir", qm1 140 (by decide +kernel) (by decide +kernel)⟩⟩
theorem fkX0_15 : qLK RX0 15 0 7 .int false := ⟨RX0, TX0, 12, rfl, (by decide +kernel), (by decide +kernel), (by decide +kernel), qcok0, Or.inl (qm1 141 (by decide +kernel) (by decide +kernel))⟩
theorem fkX6_99 : qLK RX6 99 0 7 .int false := ⟨RX0, TX0, 12, rfl, (by decide +kernel), (by decide +kernel), (by decide +kernel), qcok0, Or.inr ⟨"LowAir", qm1 142 (by decide +kernel) (by decide +kernel)⟩⟩
theorem fkX8_137 : qLK RX8 137 0 7 .int false := ⟨RX0, TX0, 12, rfl, (by decide +kernel), (by decide +kernel), (by decide +kernel), qcok0, Or.inr ⟨"LowAir", qm1 143 (by decide +kernel) (by decide +kernel)⟩⟩
theorem fkX0_43 : qLK RX0 43 0 8 .int false := ⟨RX0, TX0, 12, rfl, (by decide +kernel), (by decide +kernel), (by decide +kernel), qcok0, Or.inl (qm1 144 (by decide +kernel) (by decide +kernel))⟩
theorem fkX5_49 : qLK RX5 49 0 8 .int false := ⟨RX0, TX0, 12, rfl, (by decide +kernel), (by decide +kernel), (by decide +kernel), qcok0, Or.inr ⟨"LowAir", qm1 145 (by decide +kernel) (by decide +kernel)⟩⟩
theorem fkX6_100 : qLK RX6 100 0 8 .int false := ⟨RX0, TX0, 12, rfl, (by decide +kernel), (by decide +kernel), (by decide +kernel), qcok0, Or.inr ⟨"LowAir", qm1 146 (by decide +kernel) (by decide +kernel)⟩⟩
theorem fkX8_127 : qLK RX8 127 0 8 .int false := ⟨RX0, TX0, 12, rfl, (by decide +kernel), (by decide +kernel), (by decide +kernel), qcok0, Or.inr ⟨"LowAir", qm1 147 (by decide +kernel) (by decide +kernel)⟩⟩
theorem fkX0_19 : qLK RX0 19 0 9 .int false := ⟨RX0, TX0, 12, rfl, (by decide +kernel), (by decide +kernel), (by decide +kernel), qcok0, Or.inl (qm1 148 (by decide +kernel) (by decide +kernel))⟩
theorem fkX6_119 : qLK RX6 119 0 9 .int false := ⟨RX0, TX0, 12, rfl, (by decide +kernel), (by decide +kernel), (by decide +kernel), qcok0, Or.inr ⟨"LowAir", qm1 149 (by decide +kernel) (by decide +kernel)⟩⟩
theorem fkX8_212 : qLK RX8 212 0 9 .int false := ⟨RX0, TX0, 12, rfl, (by decide +kernel), (by decide +kernel), (by decide +kernel), qcok0, Or.inr ⟨"LowAir", qm1 150 (by decide +kernel) (by decide +kernel)⟩⟩
theorem fkX0_46 : qLK RX0 46 0 10 .int false := ⟨RX0, TX0, 12, rfl, (by decide +kernel), (by decide +kernel), (by decide +kernel), qcok0, Or.inl (qm1 151 (by decide +kernel) (by decide +kernel))⟩
theorem fkX6_173 : qLK RX6 173 0 10 .int false := ⟨RX0, TX0, 12, rfl, (by decide +kernel), (by decide +kernel), (by decide +kernel), qcok0, Or.inr ⟨"LowAir", qm1 152 (by decide +kernel) (by decide +kernel)⟩⟩
theorem fkX8_215 : qLK RX8 215 0 10 .int false := ⟨RX0, TX0, 12, rfl, (by decide +kernel), (by decide +kernel), (by decide +kernel), qcok0, Or.inr ⟨"LowAir", qm1 153 (by decide +kernel) (by decide +kernel)⟩⟩
theorem fkX0_22 : qLK RX0 22 0 11 .int false := ⟨RX0, TX0, 12, rfl, (by decide +kernel), (by decide +kernel), (by decide +kernel), qcok0, Or.inl (qm1 154 (by decide +kernel) (by decide +kernel))⟩
theorem fkX6_176 : qLK RX6 176 0 11 .int false := ⟨RX0, TX0, 12, rfl, (by decide +kernel), (by decide +kernel), (by decide +kernel), qcok0, Or.inr ⟨"LowAir", qm1 155 (by decide +kernel) (by decide +kernel)⟩⟩
theorem fkX4_9 : qLK RX4 9 4 0 (.array .int) true := ⟨RX4, TX4, 2, rfl, (by decide +kernel), (by decide +kernel), (by decide +kernel), qcok4, Or.inl (qm1 192 (by decide +kernel) (by decide +kernel))⟩
theorem fkdX4_9 : ∀ (C : String) (T : u_T) (N : Nat), vwCl[4]? = some (C, T, N) → (T 0).1 = RX4 ∧ Cond.fieldLink RX4 9 (T 0).1 (T 0).2.1 (T 0).2.2.1 ∈ qTBL := by
  intro C T N h
  cases h
  exact ⟨(by decide +kernel), qm1 192 (by decide +kernel) (by decide +kernel)⟩
theorem fkX8_143 : qLK RX8 143 4 0 (.array .int) true := ⟨RX4, TX4, 2, rfl, (by decide +kernel), (by decide +kernel), (by decide +kernel), qcok4, Or.inr ⟨"LowAir", qm1 193 (by decide +kernel) (by decide +kernel)⟩⟩
theorem fkX4_15 : qLK RX4 15 4 1 .int false := ⟨RX4, TX4, 2, rfl, (by decide +kernel), (by decide +kernel), (by decide +kernel), qcok4, Or.inl (qm1 194 (by decide +kernel) (by decide +kernel))⟩
theorem fkX3_59 : qLK RX3 59 4 1 .int false := ⟨RX4, TX4, 2, rfl, (by decide +kernel), (by decide +kernel), (by decide +kernel), qcok4, Or.inr ⟨"LowAir", qm1 195 (by decide +kernel) (by decide +kernel)⟩⟩
theorem fkX1_36 : qLK RX1 36 4 1 .int false := ⟨RX4, TX4, 2, rfl, (by decide +kernel), (by decide +kernel), (by decide +kernel), qcok4, Or.inr ⟨"LowAir", qm1 196 (by decide +kernel) (by decide +kernel)⟩⟩
theorem fkX2_65 : qLK RX2 65 4 1 .int false := ⟨RX4, TX4, 2, rfl, (by decide +kernel), (by decide +kernel), (by decide +kernel), qcok4, Or.inr ⟨"LowAir", qm1 197 (by decide +kernel) (by decide +kernel)⟩⟩
theorem fkX6_142 : qLK RX6 142 4 1 .int false := ⟨RX4, TX4, 2, rfl, (by decide +kernel), (by decide +kernel), (by decide +kernel), qcok4, Or.inr ⟨"LowAir", qm1 198 (by decide +kernel) (by decide +kernel)⟩⟩
theorem fkX8_140 : qLK RX8 140 4 1 .int false := ⟨RX4, TX4, 2, rfl, (by decide +kernel), (by decide +kernel), (by decide +kernel), qcok4, Or.inr ⟨"LowAir", qm1 199 (by decide +kernel) (by decide +kernel)⟩⟩
theorem fkX1_18 : qLK RX1 18 1 0 .int false := ⟨RX1, TX1, 4, rfl, (by decide +kernel), (by decide +kernel), (by decide +kernel), qcok1, Or.inl (qm1 205 (by decide +kernel) (by decide +kernel))⟩
theorem fkX6_92 : qLK RX6 92 1 0 .int false := ⟨RX1, TX1, 4, rfl, (by decide +kernel), (by decide +kernel), (by decide +kernel), qcok1, Or.inr ⟨"LowAir", qm1 206 (by decide +kernel) (by decide +kernel)⟩⟩
theorem fkX3_90 : qLK RX3 90 1 0 .int false := ⟨RX1, TX1, 4, rfl, (by decide +kernel), (by decide +kernel), (by decide +kernel), qcok1, Or.inr ⟨"LowAir", qm1 207 (by decide +kernel) (by decide +kernel)⟩⟩
theorem fkX8_164 : qLK RX8 164 1 0 .int false := ⟨RX1, TX1, 4, rfl, (by decide +kernel), (by decide +kernel), (by decide +kernel), qcok1, Or.inr ⟨"LowAir", qm1 208 (by decide +kernel) (by decide +kernel)⟩⟩
theorem fkX1_22 : qLK RX1 22 1 1 .int false := ⟨RX1, TX1, 4, rfl, (by decide +kernel), (by decide +kernel), (by decide +kernel), qcok1, Or.inl (qm1 209 (by decide +kernel) (by decide +kernel))⟩
theorem fkX6_89 : qLK RX6 89 1 1 .int false := ⟨RX1, TX1, 4, rfl, (by decide +kernel), (by decide +kernel), (by decide +kernel), qcok1, Or.inr ⟨"LowAir", qm1 210 (by decide +kernel) (by decide +kernel)⟩⟩
theorem fkX8_169 : qLK RX8 169 1 1 .int false := ⟨RX1, TX1, 4, rfl, (by decide +kernel), (by decide +kernel), (by decide +kernel), qcok1, Or.inr ⟨"LowAir", qm1 211 (by decide +kernel) (by decide +kernel)⟩⟩
theorem fkX1_25 : qLK RX1 25 1 2 .int false := ⟨RX1, TX1, 4, rfl, (by decide +kernel), (by decide +kernel), (by decide +kernel), qcok1, Or.inl (qm1 212 (by decide +kernel) (by decide +kernel))⟩
theorem fkX6_86 : qLK RX6 86 1 2 .int false := ⟨RX1, TX1, 4, rfl, (by decide +kernel), (by decide +kernel), (by decide +kernel), qcok1, Or.inr ⟨"LowAir", qm1 213 (by decide +kernel) (by decide +kernel)⟩⟩
theorem fkX8_172 : qLK RX8 172 1 2 .int false := ⟨RX1, TX1, 4, rfl, (by decide +kernel), (by decide +kernel), (by decide +kernel), qcok1, Or.inr ⟨"LowAir", qm1 214 (by decide +kernel) (by decide +kernel)⟩⟩
theorem fkX1_12 : qLK RX1 12 1 3 (.object "LowAir$Route") true := ⟨RX1, TX1, 4, rfl, (by decide +kernel), (by decide +kernel), (by decide +kernel), qcok1, Or.inl (qm1 215 (by decide +kernel) (by decide +kernel))⟩
theorem fkdX1_12 : ∀ (C : String) (T : u_T) (N : Nat), vwCl[1]? = some (C, T, N) → (T 3).1 = RX1 ∧ Cond.fieldLink RX1 12 (T 3).1 (T 3).2.1 (T 3).2.2.1 ∈ qTBL := by
  intro C T N h
  cases h
  exact ⟨(by decide +kernel), qm1 215 (by decide +kernel) (by decide +kernel)⟩
theorem fkX6_103 : qLK RX6 103 1 3 (.object "LowAir$Route") true := ⟨RX1, TX1, 4, rfl, (by decide +kernel), (by decide +kernel), (by decide +kernel), qcok1, Or.inr ⟨"LowAir", qm1 216 (by decide +kernel) (by decide +kernel)⟩⟩
theorem fkX3_126 : qLK RX3 126 1 3 (.object "LowAir$Route") true := ⟨RX1, TX1, 4, rfl, (by decide +kernel), (by decide +kernel), (by decide +kernel), qcok1, Or.inr ⟨"LowAir", qm1 217 (by decide +kernel) (by decide +kernel)⟩⟩
theorem fkX8_173 : qLK RX8 173 1 3 (.object "LowAir$Route") true := ⟨RX1, TX1, 4, rfl, (by decide +kernel), (by decide +kernel), (by decide +kernel), qcok1, Or.inr ⟨"LowAir", qm1 218 (by decide +kernel) (by decide +kernel)⟩⟩
theorem fkX6_27 : qLK RX6 27 6 0 (.object "LowAir$Ground") true := ⟨RX6, TX6, 9, rfl, (by decide +kernel), (by decide +kernel), (by decide +kernel), qcok6, Or.inl (qm1 228 (by decide +kernel) (by decide +kernel))⟩
theorem fkdX6_27 : ∀ (C : String) (T : u_T) (N : Nat), vwCl[6]? = some (C, T, N) → (T 0).1 = RX6 ∧ Cond.fieldLink RX6 27 (T 0).1 (T 0).2.1 (T 0).2.2.1 ∈ qTBL := by
  intro C T N h
  cases h
  exact ⟨(by decide +kernel), qm1 228 (by decide +kernel) (by decide +kernel)⟩
theorem fkX6_11 : qLK RX6 11 6 1 (.array (.object "LowAir$Craft")) true := ⟨RX6, TX6, 9, rfl, (by decide +kernel), (by decide +kernel), (by decide +kernel), qcok6, Or.inl (qm1 229 (by decide +kernel) (by decide +kernel))⟩
theorem fkdX6_11 : ∀ (C : String) (T : u_T) (N : Nat), vwCl[6]? = some (C, T, N) → (T 1).1 = RX6 ∧ Cond.fieldLink RX6 11 (T 1).1 (T 1).2.1 (T 1).2.2.1 ∈ qTBL := by
  intro C T N h
  cases h
  exact ⟨(by decide +kernel), qm1 229 (by decide +kernel) (by decide +kernel)⟩
theorem fkX3_23 : qLK RX3 23 6 1 (.array (.object "LowAir$Craft")) true := ⟨RX6, TX6, 9, rfl, (by decide +kernel), (by decide +kernel), (by decide +kernel), qcok6, Or.inr ⟨"LowAir", qm1 230 (by decide +kernel) (by decide +kernel)⟩⟩
theorem fkX8_100 : qLK RX8 100 6 1 (.array (.object "LowAir$Craft")) true := ⟨RX6, TX6, 9, rfl, (by decide +kernel), (by decide +kernel), (by decide +kernel), qcok6, Or.inr ⟨"LowAir", qm1 231 (by decide +kernel) (by decide +kernel)⟩⟩
theorem fkX6_33 : qLK RX6 33 6 2 .int false := ⟨RX6, TX6, 9, rfl, (by decide +kernel), (by decide +kernel), (by decide +kernel), qcok6, Or.inl (qm1 232 (by decide +kernel) (by decide +kernel))⟩
theorem fkX8_97 : qLK RX8 97 6 2 .int false := ⟨RX6, TX6, 9, rfl, (by decide +kernel), (by decide +kernel), (by decide +kernel), qcok6, Or.inr ⟨"LowAir", qm1 233 (by decide +kernel) (by decide +kernel)⟩⟩
theorem fkX6_19 : qLK RX6 19 6 3 (.array (.object "LowAir$Flight")) true := ⟨RX6, TX6, 9, rfl, (by decide +kernel), (by decide +kernel), (by decide +kernel), qcok6, Or.inl (qm1 234 (by decide +kernel) (by decide +kernel))⟩
theorem fkdX6_19 : ∀ (C : String) (T : u_T) (N : Nat), vwCl[6]? = some (C, T, N) → (T 3).1 = RX6 ∧ Cond.fieldLink RX6 19 (T 3).1 (T 3).2.1 (T 3).2.2.1 ∈ qTBL := by
  intro C T N h
  cases h
  exact ⟨(by decide +kernel), qm1 234 (by decide +kernel) (by decide +kernel)⟩
theorem fkX3_86 : qLK RX3 86 6 3 (.array (.object "LowAir$Flight")) true := ⟨RX6, TX6, 9, rfl, (by decide +kernel), (by decide +kernel), (by decide +kernel), qcok6, Or.inr ⟨"LowAir", qm1 235 (by decide +kernel) (by decide +kernel)⟩⟩
theorem fkX8_160 : qLK RX8 160 6 3 (.array (.object "LowAir$Flight")) true := ⟨RX6, TX6, 9, rfl, (by decide +kernel), (by decide +kernel), (by decide +kernel), qcok6, Or.inr ⟨"LowAir", qm1 236 (by decide +kernel) (by decide +kernel)⟩⟩
theorem fkX6_41 : qLK RX6 41 6 4 .int false := ⟨RX6, TX6, 9, rfl, (by decide +kernel), (by decide +kernel), (by decide +kernel), qcok6, Or.inl (qm1 237 (by decide +kernel) (by decide +kernel))⟩
theorem fkX3_83 : qLK RX3 83 6 4 .int false := ⟨RX6, TX6, 9, rfl, (by decide +kernel), (by decide +kernel), (by decide +kernel), qcok6, Or.inr ⟨"LowAir", qm1 238 (by decide +kernel) (by decide +kernel)⟩⟩
theorem fkX8_153 : qLK RX8 153 6 4 .int false := ⟨RX6, TX6, 9, rfl, (by decide +kernel), (by decide +kernel), (by decide +kernel), qcok6, Or.inr ⟨"LowAir", qm1 239 (by decide +kernel) (by decide +kernel)⟩⟩
theorem fkX6_23 : qLK RX6 23 6 5 (.array .int) true := ⟨RX6, TX6, 9, rfl, (by decide +kernel), (by decide +kernel), (by decide +kernel), qcok6, Or.inl (qm2 0 (by decide +kernel) (by decide +kernel))⟩
theorem fkdX6_23 : ∀ (C : String) (T : u_T) (N : Nat), vwCl[6]? = some (C, T, N) → (T 5).1 = RX6 ∧ Cond.fieldLink RX6 23 (T 5).1 (T 5).2.1 (T 5).2.2.1 ∈ qTBL := by
  intro C T N h
  cases h
  exact ⟨(by decide +kernel), qm2 0 (by decide +kernel) (by decide +kernel)⟩
theorem fkX8_195 : qLK RX8 195 6 5 (.array .int) true := ⟨RX6, TX6, 9, rfl, (by decide +kernel), (by decide +kernel), (by decide +kernel), qcok6, Or.inr ⟨"LowAir", qm2 1 (by decide +kernel) (by decide +kernel)⟩⟩
theorem fkX6_53 : qLK RX6 53 6 6 .int false := ⟨RX6, TX6, 9, rfl, (by decide +kernel), (by decide +kernel), (by decide +kernel), qcok6, Or.inl (qm2 2 (by decide +kernel) (by decide +kernel))⟩
theorem fkX8_240 : qLK RX8 240 6 6 .int false := ⟨RX6, TX6, 9, rfl, (by decide +kernel), (by decide +kernel), (by decide +kernel), qcok6, Or.inr ⟨"LowAir", qm2 3 (by decide +kernel) (by decide +kernel)⟩⟩
theorem fkX6_56 : qLK RX6 56 6 7 .int false := ⟨RX6, TX6, 9, rfl, (by decide +kernel), (by decide +kernel), (by decide +kernel), qcok6, Or.inl (qm2 4 (by decide +kernel) (by decide +kernel))⟩
theorem fkX8_233 : qLK RX8 233 6 7 .int false := ⟨RX6, TX6, 9, rfl, (by decide +kernel), (by decide +kernel), (by decide +kernel), qcok6, Or.inr ⟨"LowAir", qm2 5 (by decide +kernel) (by decide +kernel)⟩⟩
theorem fkX6_59 : qLK RX6 59 6 8 .int false := ⟨RX6, TX6, 9, rfl, (by decide +kernel), (by decide +kernel), (by decide +kernel), qcok6, Or.inl (qm2 6 (by decide +kernel) (by decide +kernel))⟩
theorem fkX8_186 : qLK RX8 186 6 8 .int false := ⟨RX6, TX6, 9, rfl, (by decide +kernel), (by decide +kernel), (by decide +kernel), qcok6, Or.inr ⟨"LowAir", qm2 7 (by decide +kernel) (by decide +kernel)⟩⟩
theorem fkX3_15 : qLK RX3 15 3 0 (.object "LowAir$Ground") true := ⟨RX3, TX3, 3, rfl, (by decide +kernel), (by decide +kernel), (by decide +kernel), qcok3, Or.inl (qm2 35 (by decide +kernel) (by decide +kernel))⟩
theorem fkdX3_15 : ∀ (C : String) (T : u_T) (N : Nat), vwCl[3]? = some (C, T, N) → (T 0).1 = RX3 ∧ Cond.fieldLink RX3 15 (T 0).1 (T 0).2.1 (T 0).2.2.1 ∈ qTBL := by
  intro C T N h
  cases h
  exact ⟨(by decide +kernel), qm2 35 (by decide +kernel) (by decide +kernel)⟩
theorem fkX3_19 : qLK RX3 19 3 1 (.object "LowAir$Sky") true := ⟨RX3, TX3, 3, rfl, (by decide +kernel), (by decide +kernel), (by decide +kernel), qcok3, Or.inl (qm2 36 (by decide +kernel) (by decide +kernel))⟩
theorem fkdX3_19 : ∀ (C : String) (T : u_T) (N : Nat), vwCl[3]? = some (C, T, N) → (T 1).1 = RX3 ∧ Cond.fieldLink RX3 19 (T 1).1 (T 1).2.1 (T 1).2.2.1 ∈ qTBL := by
  intro C T N h
  cases h
  exact ⟨(by decide +kernel), qm2 36 (by decide +kernel) (by decide +kernel)⟩
theorem fkX3_9 : qLK RX3 9 3 2 (.array .int) true := ⟨RX3, TX3, 3, rfl, (by decide +kernel), (by decide +kernel), (by decide +kernel), qcok3, Or.inl (qm2 37 (by decide +kernel) (by decide +kernel))⟩
theorem fkdX3_9 : ∀ (C : String) (T : u_T) (N : Nat), vwCl[3]? = some (C, T, N) → (T 2).1 = RX3 ∧ Cond.fieldLink RX3 9 (T 2).1 (T 2).2.1 (T 2).2.2.1 ∈ qTBL := by
  intro C T N h
  cases h
  exact ⟨(by decide +kernel), qm2 37 (by decide +kernel) (by decide +kernel)⟩
theorem fkX5_19 : qLK RX5 19 5 0 (.object "LowAir$Ground") true := ⟨RX5, TX5, 3, rfl, (by decide +kernel), (by decide +kernel), (by decide +kernel), qcok5, Or.inl (qm2 51 (by decide +kernel) (by decide +kernel))⟩
theorem fkdX5_19 : ∀ (C : String) (T : u_T) (N : Nat), vwCl[5]? = some (C, T, N) → (T 0).1 = RX5 ∧ Cond.fieldLink RX5 19 (T 0).1 (T 0).2.1 (T 0).2.2.1 ∈ qTBL := by
  intro C T N h
  cases h
  exact ⟨(by decide +kernel), qm2 51 (by decide +kernel) (by decide +kernel)⟩
theorem fkX5_9 : qLK RX5 9 5 1 (.array .boolean) true := ⟨RX5, TX5, 3, rfl, (by decide +kernel), (by decide +kernel), (by decide +kernel), qcok5, Or.inl (qm2 52 (by decide +kernel) (by decide +kernel))⟩
theorem fkdX5_9 : ∀ (C : String) (T : u_T) (N : Nat), vwCl[5]? = some (C, T, N) → (T 1).1 = RX5 ∧ Cond.fieldLink RX5 9 (T 1).1 (T 1).2.1 (T 1).2.2.1 ∈ qTBL := by
  intro C T N h
  cases h
  exact ⟨(by decide +kernel), qm2 52 (by decide +kernel) (by decide +kernel)⟩
theorem fkX5_15 : qLK RX5 15 5 2 (.array .int) true := ⟨RX5, TX5, 3, rfl, (by decide +kernel), (by decide +kernel), (by decide +kernel), qcok5, Or.inl (qm2 53 (by decide +kernel) (by decide +kernel))⟩
theorem fkdX5_15 : ∀ (C : String) (T : u_T) (N : Nat), vwCl[5]? = some (C, T, N) → (T 2).1 = RX5 ∧ Cond.fieldLink RX5 15 (T 2).1 (T 2).2.1 (T 2).2.2.1 ∈ qTBL := by
  intro C T N h
  cases h
  exact ⟨(by decide +kernel), qm2 53 (by decide +kernel) (by decide +kernel)⟩
theorem fkX8_10 : qLK RX8 10 8 0 (.object "LowAir$Ground") true := ⟨RX8, TX8, 6, rfl, (by decide +kernel), (by decide +kernel), (by decide +kernel), qcok8, Or.inl (qm2 61 (by decide +kernel) (by decide +kernel))⟩
theorem fkdX8_10 : ∀ (C : String) (T : u_T) (N : Nat), vwCl[8]? = some (C, T, N) → (T 0).1 = RX8 ∧ Cond.fieldLink RX8 10 (T 0).1 (T 0).2.1 (T 0).2.2.1 ∈ qTBL := by
  intro C T N h
  cases h
  exact ⟨(by decide +kernel), qm2 61 (by decide +kernel) (by decide +kernel)⟩
theorem fkX8_21 : qLK RX8 21 8 1 (.object "LowAir$Sky") true := ⟨RX8, TX8, 6, rfl, (by decide +kernel), (by decide +kernel), (by decide +kernel), qcok8, Or.inl (qm2 62 (by decide +kernel) (by decide +kernel))⟩
theorem fkdX8_21 : ∀ (C : String) (T : u_T) (N : Nat), vwCl[8]? = some (C, T, N) → (T 1).1 = RX8 ∧ Cond.fieldLink RX8 21 (T 1).1 (T 1).2.1 (T 1).2.2.1 ∈ qTBL := by
  intro C T N h
  cases h
  exact ⟨(by decide +kernel), qm2 62 (by decide +kernel) (by decide +kernel)⟩
theorem fkX8_25 : qLK RX8 25 8 2 (.object "LowAir$Sky") true := ⟨RX8, TX8, 6, rfl, (by decide +kernel), (by decide +kernel), (by decide +kernel), qcok8, Or.inl (qm2 63 (by decide +kernel) (by decide +kernel))⟩
theorem fkdX8_25 : ∀ (C : String) (T : u_T) (N : Nat), vwCl[8]? = some (C, T, N) → (T 2).1 = RX8 ∧ Cond.fieldLink RX8 25 (T 2).1 (T 2).2.1 (T 2).2.2.1 ∈ qTBL := by
  intro C T N h
  cases h
  exact ⟨(by decide +kernel), qm2 63 (by decide +kernel) (by decide +kernel)⟩
theorem fkX8_31 : qLK RX8 31 8 3 (.object "LowAir$Route") true := ⟨RX8, TX8, 6, rfl, (by decide +kernel), (by decide +kernel), (by decide +kernel), qcok8, Or.inl (qm2 64 (by decide +kernel) (by decide +kernel))⟩
theorem fkdX8_31 : ∀ (C : String) (T : u_T) (N : Nat), vwCl[8]? = some (C, T, N) → (T 3).1 = RX8 ∧ Cond.fieldLink RX8 31 (T 3).1 (T 3).2.1 (T 3).2.2.1 ∈ qTBL := by
  intro C T N h
  cases h
  exact ⟨(by decide +kernel), qm2 64 (by decide +kernel) (by decide +kernel)⟩
theorem fkX8_40 : qLK RX8 40 8 4 (.object "LowAir$Judge") true := ⟨RX8, TX8, 6, rfl, (by decide +kernel), (by decide +kernel), (by decide +kernel), qcok8, Or.inl (qm2 65 (by decide +kernel) (by decide +kernel))⟩
theorem fkdX8_40 : ∀ (C : String) (T : u_T) (N : Nat), vwCl[8]? = some (C, T, N) → (T 4).1 = RX8 ∧ Cond.fieldLink RX8 40 (T 4).1 (T 4).2.1 (T 4).2.2.1 ∈ qTBL := by
  intro C T N h
  cases h
  exact ⟨(by decide +kernel), qm2 65 (by decide +kernel) (by decide +kernel)⟩
theorem fkX8_47 : qLK RX8 47 8 5 (.object "LowAir$Search") true := ⟨RX8, TX8, 6, rfl, (by decide +kernel), (by decide +kernel), (by decide +kernel), qcok8, Or.inl (qm2 66 (by decide +kernel) (by decide +kernel))⟩
theorem fkdX8_47 : ∀ (C : String) (T : u_T) (N : Nat), vwCl[8]? = some (C, T, N) → (T 5).1 = RX8 ∧ Cond.fieldLink RX8 47 (T 5).1 (T 5).2.1 (T 5).2.2.1 ∈ qTBL := by
  intro C T N h
  cases h
  exact ⟨(by decide +kernel), qm2 66 (by decide +kernel) (by decide +kernel)⟩
abbrev mJ7_fill : qY := (yJ7_fill_53178, cJ7_fill_53178, 4, none)
abbrev mL_below : qY := (yL_below, cL_below, 2, (some .int))
abbrev mL_cell : qY := (yL_cell, cL_cell, 2, (some .int))
abbrev mL_isAsked : qY := (yL_isAsked, cL_isAsked, 14, (some .boolean))
abbrev mL_isPassed : qY := (yL_isPassed, cL_isPassed, 15, (some .boolean))
abbrev mX0_copyFrom : qY := (yX0_copyFrom, cX0_copyFrom, 2, none)
abbrev mX0_goDown : qY := (yX0_goDown, cX0_goDown, 1, none)
abbrev mX0_init : qY := (yX0_init, cX0_init, 1, none)
abbrev mX0_landAt : qY := (yX0_landAt, cX0_landAt, 2, none)
abbrev mX0_nextCellHome : qY := (yX0_nextCellHome, cX0_nextCellHome, 1, (some .int))
abbrev mX1_copyFrom : qY := (yX1_copyFrom, cX1_copyFrom, 2, none)
abbrev mX1_init : qY := (yX1_init, cX1_init, 1, none)
abbrev mX1_isAhead : qY := (yX1_isAhead, cX1_isAhead, 1, (some .boolean))
abbrev mX1_isCloseInTime : qY := (yX1_isCloseInTime, cX1_isCloseInTime, 3, (some .boolean))
abbrev mX1_isPlannedOn : qY := (yX1_isPlannedOn, cX1_isPlannedOn, 2, (some .boolean))
