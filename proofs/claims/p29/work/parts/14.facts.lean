theorem qmem {w : Cond} (P : Nat) (h : lw_tbl[P]? = some w) (g : qgood w = true) : w ∈ qTBL := List.mem_filter.mpr ⟨List.mem_of_getElem? h, g⟩
theorem qin_of {ws : List Cond} (ps : List Nat) (hp : ws = ps.filterMap (fun i => lw_tbl[i]?)) (h : ws.all qgood = true) : ∀ w ∈ ws, w ∈ qTBL := by
  intro w hw
  have h1 := List.all_eq_true.mp h w hw
  rw [hp] at hw
  obtain ⟨i, -, hi⟩ := List.mem_filterMap.mp hw
  exact qmem i hi h1
theorem qcok0 : qcok 0 := by
  intro C T N h
  cases h
  exact ⟨qin_of [210, 212, 214, 216, 218, 220, 222, 224, 226, 228, 230, 232] (by decide +kernel) (by decide +kernel), ⟨tyX0, tyX0_ok⟩, nmX0⟩
theorem qcok1 : qcok 1 := by
  intro C T N h
  cases h
  exact ⟨qin_of [273, 275, 277, 279] (by decide +kernel) (by decide +kernel), ⟨tyX1, tyX1_ok⟩, nmX1⟩
theorem qcok2 : qcok 2 := by
  intro C T N h
  cases h
  exact ⟨qin_of [137, 139, 141, 143, 145, 147, 149, 151, 153] (by decide +kernel) (by decide +kernel), ⟨tyX2, tyX2_ok⟩, nmX2⟩
theorem qcok3 : qcok 3 := by
  intro C T N h
  cases h
  exact ⟨qin_of [332, 334, 336] (by decide +kernel) (by decide +kernel), ⟨tyX3, tyX3_ok⟩, nmX3⟩
theorem qcok4 : qcok 4 := by
  intro C T N h
  cases h
  exact ⟨qin_of [254, 256] (by decide +kernel) (by decide +kernel), ⟨tyX4, tyX4_ok⟩, nmX4⟩
theorem qcok5 : qcok 5 := by
  intro C T N h
  cases h
  exact ⟨qin_of [348, 350, 352] (by decide +kernel) (by decide +kernel), ⟨tyX5, tyX5_ok⟩, nmX5⟩
theorem qcok6 : qcok 6 := by
  intro C T N h
  cases h
  exact ⟨qin_of [302, 304, 306, 308, 310, 312, 314, 316, 318] (by decide +kernel) (by decide +kernel), ⟨tyX6, tyX6_ok⟩, nmX6⟩
theorem qcok7 : qcok 7 := by
  intro C T N h
  cases h
  exact ⟨qin_of [105, 107, 109, 111] (by decide +kernel) (by decide +kernel), ⟨tyX7, tyX7_ok⟩, nmX7⟩
theorem qcok8 : qcok 8 := by
  intro C T N h
  cases h
  exact ⟨qin_of [361, 363, 365, 367, 369, 371] (by decide +kernel) (by decide +kernel), ⟨tyX8, tyX8_ok⟩, nmX8⟩
theorem fkX7_9 : qLK RX7 9 7 0 .int false := ⟨RX7, TX7, 4, rfl, (by decide +kernel), (by decide +kernel), (by decide +kernel), qcok7, Or.inl (qmem 97 (by decide +kernel) (by decide +kernel))⟩
theorem fkX2_45 : qLK RX2 45 7 0 .int false := ⟨RX7, TX7, 4, rfl, (by decide +kernel), (by decide +kernel), (by decide +kernel), qcok7, Or.inr ⟨"LowAir", qmem 98 (by decide +kernel) (by decide +kernel)⟩⟩
theorem fkX7_18 : qLK RX7 18 7 1 .int false := ⟨RX7, TX7, 4, rfl, (by decide +kernel), (by decide +kernel), (by decide +kernel), qcok7, Or.inl (qmem 99 (by decide +kernel) (by decide +kernel))⟩
theorem fkX2_48 : qLK RX2 48 7 1 .int false := ⟨RX7, TX7, 4, rfl, (by decide +kernel), (by decide +kernel), (by decide +kernel), qcok7, Or.inr ⟨"LowAir", qmem 100 (by decide +kernel) (by decide +kernel)⟩⟩
theorem fkX7_21 : qLK RX7 21 7 2 .int false := ⟨RX7, TX7, 4, rfl, (by decide +kernel), (by decide +kernel), (by decide +kernel), qcok7, Or.inl (qmem 101 (by decide +kernel) (by decide +kernel))⟩
theorem fkX2_51 : qLK RX2 51 7 2 .int false := ⟨RX7, TX7, 4, rfl, (by decide +kernel), (by decide +kernel), (by decide +kernel), qcok7, Or.inr ⟨"LowAir", qmem 102 (by decide +kernel) (by decide +kernel)⟩⟩
theorem fkX7_15 : qLK RX7 15 7 3 .int false := ⟨RX7, TX7, 4, rfl, (by decide +kernel), (by decide +kernel), (by decide +kernel), qcok7, Or.inl (qmem 103 (by decide +kernel) (by decide +kernel))⟩
theorem fkX2_54 : qLK RX2 54 7 3 .int false := ⟨RX7, TX7, 4, rfl, (by decide +kernel), (by decide +kernel), (by decide +kernel), qcok7, Or.inr ⟨"LowAir", qmem 104 (by decide +kernel) (by decide +kernel)⟩⟩
theorem fkX2_9 : qLK RX2 9 2 0 (.array .int) true := ⟨RX2, TX2, 9, rfl, (by decide +kernel), (by decide +kernel), (by decide +kernel), qcok2, Or.inl (qmem 116 (by decide +kernel) (by decide +kernel))⟩
theorem fkdX2_9 : ∀ (C : String) (T : u_T) (N : Nat), vwCl[2]? = some (C, T, N) → (T 0).1 = RX2 ∧ Cond.fieldLink RX2 9 (T 0).1 (T 0).2.1 (T 0).2.2.1 ∈ qTBL := by
  intro C T N h
  cases h
  exact ⟨(by decide +kernel), qmem 116 (by decide +kernel) (by decide +kernel)⟩
theorem fkX8_59 : qLK RX8 59 2 0 (.array .int) true := ⟨RX2, TX2, 9, rfl, (by decide +kernel), (by decide +kernel), (by decide +kernel), qcok2, Or.inr ⟨"LowAir", qmem 117 (by decide +kernel) (by decide +kernel)⟩⟩
theorem fkX6_163 : qLK RX6 163 2 0 (.array .int) true := ⟨RX2, TX2, 9, rfl, (by decide +kernel), (by decide +kernel), (by decide +kernel), qcok2, Or.inr ⟨"LowAir", qmem 118 (by decide +kernel) (by decide +kernel)⟩⟩
theorem fkX3_133 : qLK RX3 133 2 0 (.array .int) true := ⟨RX2, TX2, 9, rfl, (by decide +kernel), (by decide +kernel), (by decide +kernel), qcok2, Or.inr ⟨"LowAir", qmem 119 (by decide +kernel) (by decide +kernel)⟩⟩
theorem fkX2_15 : qLK RX2 15 2 1 (.array .boolean) true := ⟨RX2, TX2, 9, rfl, (by decide +kernel), (by decide +kernel), (by decide +kernel), qcok2, Or.inl (qmem 120 (by decide +kernel) (by decide +kernel))⟩
theorem fkdX2_15 : ∀ (C : String) (T : u_T) (N : Nat), vwCl[2]? = some (C, T, N) → (T 1).1 = RX2 ∧ Cond.fieldLink RX2 15 (T 1).1 (T 1).2.1 (T 1).2.2.1 ∈ qTBL := by
  intro C T N h
  cases h
  exact ⟨(by decide +kernel), qmem 120 (by decide +kernel) (by decide +kernel)⟩
theorem fkX3_72 : qLK RX3 72 2 1 (.array .boolean) true := ⟨RX2, TX2, 9, rfl, (by decide +kernel), (by decide +kernel), (by decide +kernel), qcok2, Or.inr ⟨"LowAir", qmem 121 (by decide +kernel) (by decide +kernel)⟩⟩
theorem fkX8_69 : qLK RX8 69 2 1 (.array .boolean) true := ⟨RX2, TX2, 9, rfl, (by decide +kernel), (by decide +kernel), (by decide +kernel), qcok2, Or.inr ⟨"LowAir", qmem 122 (by decide +kernel) (by decide +kernel)⟩⟩
theorem fkX5_27 : qLK RX5 27 2 1 (.array .boolean) true := ⟨RX2, TX2, 9, rfl, (by decide +kernel), (by decide +kernel), (by decide +kernel), qcok2, Or.inr ⟨"LowAir", qmem 123 (by decide +kernel) (by decide +kernel)⟩⟩
theorem fkX2_19 : qLK RX2 19 2 2 (.array .int) true := ⟨RX2, TX2, 9, rfl, (by decide +kernel), (by decide +kernel), (by decide +kernel), qcok2, Or.inl (qmem 124 (by decide +kernel) (by decide +kernel))⟩
theorem fkdX2_19 : ∀ (C : String) (T : u_T) (N : Nat), vwCl[2]? = some (C, T, N) → (T 2).1 = RX2 ∧ Cond.fieldLink RX2 19 (T 2).1 (T 2).2.1 (T 2).2.2.1 ∈ qTBL := by
  intro C T N h
  cases h
  exact ⟨(by decide +kernel), qmem 124 (by decide +kernel) (by decide +kernel)⟩
theorem fkX8_63 : qLK RX8 63 2 2 (.array .int) true := ⟨RX2, TX2, 9, rfl, (by decide +kernel), (by decide +kernel), (by decide +kernel), qcok2, Or.inr ⟨"LowAir", qmem 125 (by decide +kernel) (by decide +kernel)⟩⟩
theorem fkX2_22 : qLK RX2 22 2 3 (.array .int) true := ⟨RX2, TX2, 9, rfl, (by decide +kernel), (by decide +kernel), (by decide +kernel), qcok2, Or.inl (qmem 126 (by decide +kernel) (by decide +kernel))⟩
theorem fkdX2_22 : ∀ (C : String) (T : u_T) (N : Nat), vwCl[2]? = some (C, T, N) → (T 3).1 = RX2 ∧ Cond.fieldLink RX2 22 (T 3).1 (T 3).2.1 (T 3).2.2.1 ∈ qTBL := by
  intro C T N h
  cases h
  exact ⟨(by decide +kernel), qmem 126 (by decide +kernel) (by decide +kernel)⟩
theorem fkX8_112 : qLK RX8 112 2 3 (.array .int) true := ⟨RX2, TX2, 9, rfl, (by decide +kernel), (by decide +kernel), (by decide +kernel), qcok2, Or.inr ⟨"LowAir", qmem 127 (by decide +kernel) (by decide +kernel)⟩⟩
theorem fkX2_38 : qLK RX2 38 2 4 .int false := ⟨RX2, TX2, 9, rfl, (by decide +kernel), (by decide +kernel), (by decide +kernel), qcok2, Or.inl (qmem 128 (by decide +kernel) (by decide +kernel))⟩
theorem fkX8_73 : qLK RX8 73 2 4 .int false := ⟨RX2, TX2, 9, rfl, (by decide +kernel), (by decide +kernel), (by decide +kernel), qcok2, Or.inr ⟨"LowAir", qmem 129 (by decide +kernel) (by decide +kernel)⟩⟩
theorem fkX2_27 : qLK RX2 27 2 5 (.array (.object "LowAir$Zone")) true := ⟨RX2, TX2, 9, rfl, (by decide +kernel), (by decide +kernel), (by decide +kernel), qcok2, Or.inl (qmem 130 (by decide +kernel) (by decide +kernel))⟩
theorem fkdX2_27 : ∀ (C : String) (T : u_T) (N : Nat), vwCl[2]? = some (C, T, N) → (T 5).1 = RX2 ∧ Cond.fieldLink RX2 27 (T 5).1 (T 5).2.1 (T 5).2.2.1 ∈ qTBL := by
  intro C T N h
  cases h
  exact ⟨(by decide +kernel), qmem 130 (by decide +kernel) (by decide +kernel)⟩
theorem fkX2_42 : qLK RX2 42 2 6 .int false := ⟨RX2, TX2, 9, rfl, (by decide +kernel), (by decide +kernel), (by decide +kernel), qcok2, Or.inl (qmem 131 (by decide +kernel) (by decide +kernel))⟩
theorem fkX8_81 : qLK RX8 81 2 6 .int false := ⟨RX2, TX2, 9, rfl, (by decide +kernel), (by decide +kernel), (by decide +kernel), qcok2, Or.inr ⟨"LowAir", qmem 132 (by decide +kernel) (by decide +kernel)⟩⟩
theorem fkX8_91 : qLK RX8 91 2 7 .int false := ⟨RX2, TX2, 9, rfl, (by decide +kernel), (by decide +kernel), (by decide +kernel), qcok2, Or.inr ⟨"LowAir", qmem 133 (by decide +kernel) (by decide +kernel)⟩⟩
theorem fkX2_91 : qLK RX2 91 2 7 .int false := ⟨RX2, TX2, 9, rfl, (by decide +kernel), (by decide +kernel), (by decide +kernel), qcok2, Or.inl (qmem 134 (by decide +kernel) (by decide +kernel))⟩
theorem fkX8_88 : qLK RX8 88 2 8 .int false := ⟨RX2, TX2, 9, rfl, (by decide +kernel), (by decide +kernel), (by decide +kernel), qcok2, Or.inr ⟨"LowAir", qmem 135 (by decide +kernel) (by decide +kernel)⟩⟩
theorem fkX2_94 : qLK RX2 94 2 8 .int false := ⟨RX2, TX2, 9, rfl, (by decide +kernel), (by decide +kernel), (by decide +kernel), qcok2, Or.inl (qmem 136 (by decide +kernel) (by decide +kernel))⟩
theorem fkX0_25 : qLK RX0 25 0 0 .int false := ⟨RX0, TX0, 12, rfl, (by decide +kernel), (by decide +kernel), (by decide +kernel), qcok0, Or.inl (qmem 171 (by decide +kernel) (by decide +kernel))⟩
theorem fkX5_32 : qLK RX5 32 0 0 .int false := ⟨RX0, TX0, 12, rfl, (by decide +kernel), (by decide +kernel), (by decide +kernel), qcok0, Or.inr ⟨"LowAir", qmem 172 (by decide +kernel) (by decide +kernel)⟩⟩
theorem fkX3_76 : qLK RX3 76 0 0 .int false := ⟨RX0, TX0, 12, rfl, (by decide +kernel), (by decide +kernel), (by decide +kernel), qcok0, Or.inr ⟨"LowAir", qmem 173 (by decide +kernel) (by decide +kernel)⟩⟩
theorem fkX8_104 : qLK RX8 104 0 0 .int false := ⟨RX0, TX0, 12, rfl, (by decide +kernel), (by decide +kernel), (by decide +kernel), qcok0, Or.inr ⟨"LowAir", qmem 174 (by decide +kernel) (by decide +kernel)⟩⟩
theorem fkX6_166 : qLK RX6 166 0 0 .int false := ⟨RX0, TX0, 12, rfl, (by decide +kernel), (by decide +kernel), (by decide +kernel), qcok0, Or.inr ⟨"LowAir", qmem 175 (by decide +kernel) (by decide +kernel)⟩⟩
theorem fkX0_28 : qLK RX0 28 0 1 .int false := ⟨RX0, TX0, 12, rfl, (by decide +kernel), (by decide +kernel), (by decide +kernel), qcok0, Or.inl (qmem 176 (by decide +kernel) (by decide +kernel))⟩
theorem fkX8_109 : qLK RX8 109 0 1 .int false := ⟨RX0, TX0, 12, rfl, (by decide +kernel), (by decide +kernel), (by decide +kernel), qcok0, Or.inr ⟨"LowAir", qmem 177 (by decide +kernel) (by decide +kernel)⟩⟩
theorem fkX0_31 : qLK RX0 31 0 2 .int false := ⟨RX0, TX0, 12, rfl, (by decide +kernel), (by decide +kernel), (by decide +kernel), qcok0, Or.inl (qmem 178 (by decide +kernel) (by decide +kernel))⟩
theorem fkX6_136 : qLK RX6 136 0 2 .int false := ⟨RX0, TX0, 12, rfl, (by decide +kernel), (by decide +kernel), (by decide +kernel), qcok0, Or.inr ⟨"LowAir", qmem 179 (by decide +kernel) (by decide +kernel)⟩⟩
theorem fkX8_115 : qLK RX8 115 0 2 .int false := ⟨RX0, TX0, 12, rfl, (by decide +kernel), (by decide +kernel), (by decide +kernel), qcok0, Or.inr ⟨"LowAir", qmem 180 (by decide +kernel) (by decide +kernel)⟩⟩
theorem fkX0_34 : qLK RX0 34 0 3 .int false := ⟨RX0, TX0, 12, rfl, (by decide +kernel), (by decide +kernel), (by decide +kernel), qcok0, Or.inl (qmem 181 (by decide +kernel) (by decide +kernel))⟩
theorem fkX8_118 : qLK RX8 118 0 3 .int false := ⟨RX0, TX0, 12, rfl, (by decide +kernel), (by decide +kernel), (by decide +kernel), qcok0, Or.inr ⟨"LowAir", qmem 182 (by decide +kernel) (by decide +kernel)⟩⟩
theorem fkX6_179 : qLK RX6 179 0 3 .int false := ⟨RX0, TX0, 12, rfl, (by decide +kernel), (by decide +kernel), (by decide +kernel), qcok0, Or.inr ⟨"LowAir", qmem 183 (by decide +kernel) (by decide +kernel)⟩⟩
theorem fkX0_37 : qLK RX0 37 0 4 .int false := ⟨RX0, TX0, 12, rfl, (by decide +kernel), (by decide +kernel), (by decide +kernel), qcok0, Or.inl (qmem 184 (by decide +kernel) (by decide +kernel))⟩
theorem fkX3_50 : qLK RX3 50 0 4 .int false := ⟨RX0, TX0, 12, rfl, (by decide +kernel), (by decide +kernel), (by decide +kernel), qcok0, Or.inr ⟨"LowAir", qmem 185 (by decide +kernel) (by decide +kernel)⟩⟩
theorem fkX6_112 : qLK RX6 112 0 4 .int false := ⟨RX0, TX0, 12, rfl, (by decide +kernel), (by decide +kernel), (by decide +kernel), qcok0, Or.inr ⟨"LowAir", qmem 186 (by decide +kernel) (by decide +kernel)⟩⟩
theorem fkX8_121 : qLK RX8 121 0 4 .int false := ⟨RX0, TX0, 12, rfl, (by decide +kernel), (by decide +kernel), (by decide +kernel), qcok0, Or.inr ⟨"LowAir", qmem 187 (by decide +kernel) (by decide +kernel)⟩⟩
theorem fkX0_40 : qLK RX0 40 0 5 .int false := ⟨RX0, TX0, 12, rfl, (by decide +kernel), (by decide +kernel), (by decide +kernel), qcok0, Or.inl (qmem 188 (by decide +kernel) (by decide +kernel))⟩
theorem fkX8_124 : qLK RX8 124 0 5 .int false := ⟨RX0, TX0, 12, rfl, (by decide +kernel), (by decide +kernel), (by decide +kernel), qcok0, Or.inr ⟨"LowAir", qmem 189 (by decide +kernel) (by decide +kernel)⟩⟩
theorem fkX6_160 : qLK RX6 160 0 5 .int false := ⟨RX0, TX0, 12, rfl, (by decide +kernel), (by decide +kernel), (by decide +kernel), qcok0, Or.inr ⟨"LowAir", qmem 190 (by decide +kernel) (by decide +kernel)⟩⟩
theorem fkX3_130 : qLK RX3 130 0 5 .int false := ⟨RX0, TX0, 12, rfl, (by decide +kernel), (by decide +kernel), (by decide +kernel), qcok0, Or.inr ⟨"LowAir", qmem 191 (by decide +kernel) (by decide +kernel)⟩⟩
theorem fkX0_9 : qLK RX0 9 0 6 .boolean false := ⟨RX0, TX0, 12, rfl, (by decide +kernel), (by decide +kernel), (by decide +kernel), qcok0, Or.inl (qmem 192 (by decide +kernel) (by decide +kernel))⟩
theorem fkX6_115 : qLK RX6 115 0 6 .boolean false := ⟨RX0, TX0, 12, rfl, (by decide +kernel), (by decide +kernel), (by decide +kernel), qcok0, Or.inr ⟨"LowAir", qmem 193 (by decide +kernel) (by decide +kernel)⟩⟩
theorem fkX8_133 : qLK RX8 133 0 6 .boolean false := ⟨RX0, TX0, 12, rfl, (by decide +kernel), (by decide +kernel), (by decide +kernel), qcok0, Or.inr ⟨"LowAir", qmem 194 (by decide +kernel) (by decide +kernel)⟩⟩
theorem fkX0_15 : qLK RX0 15 0 7 .int false := ⟨RX0, TX0, 12, rfl, (by decide +kernel), (by decide +kernel), (by decide +kernel), qcok0, Or.inl (qmem 195 (by decide +kernel) (by decide +kernel))⟩
theorem fkX6_99 : qLK RX6 99 0 7 .int false := ⟨RX0, TX0, 12, rfl, (by decide +kernel), (by decide +kernel), (by decide +kernel), qcok0, Or.inr ⟨"LowAir", qmem 196 (by decide +kernel) (by decide +kernel)⟩⟩
theorem fkX8_137 : qLK RX8 137 0 7 .int false := ⟨RX0, TX0, 12, rfl, (by decide +kernel), (by decide +kernel), (by decide +kernel), qcok0, Or.inr ⟨"LowAir", qmem 197 (by decide +kernel) (by decide +kernel)⟩⟩
theorem fkX0_43 : qLK RX0 43 0 8 .int false := ⟨RX0, TX0, 12, rfl, (by decide +kernel), (by decide +kernel), (by decide +kernel), qcok0, Or.inl (qmem 198 (by decide +kernel) (by decide +kernel))⟩
theorem fkX5_49 : qLK RX5 49 0 8 .int false := ⟨RX0, TX0, 12, rfl, (by decide +kernel), (by decide +kernel), (by decide +kernel), qcok0, Or.inr ⟨"LowAir", qmem 199 (by decide +kernel) (by decide +kernel)⟩⟩
theorem fkX6_100 : qLK RX6 100 0 8 .int false := ⟨RX0, TX0, 12, rfl, (by decide +kernel), (by decide +kernel), (by decide +kernel), qcok0, Or.inr ⟨"LowAir", qmem 200 (by decide +kernel) (by decide +kernel)⟩⟩
theorem fkX8_127 : qLK RX8 127 0 8 .int false := ⟨RX0, TX0, 12, rfl, (by decide +kernel), (by decide +kernel), (by decide +kernel), qcok0, Or.inr ⟨"LowAir", qmem 201 (by decide +kernel) (by decide +kernel)⟩⟩
theorem fkX0_19 : qLK RX0 19 0 9 .int false := ⟨RX0, TX0, 12, rfl, (by decide +kernel), (by decide +kernel), (by decide +kernel), qcok0, Or.inl (qmem 202 (by decide +kernel) (by decide +kernel))⟩
theorem fkX6_119 : qLK RX6 119 0 9 .int false := ⟨RX0, TX0, 12, rfl, (by decide +kernel), (by decide +kernel), (by decide +kernel), qcok0, Or.inr ⟨"LowAir", qmem 203 (by decide +kernel) (by decide +kernel)⟩⟩
theorem fkX8_212 : qLK RX8 212 0 9 .int false := ⟨RX0, TX0, 12, rfl, (by decide +kernel), (by decide +kernel), (by decide +kernel), qcok0, Or.inr ⟨"LowAir", qmem 204 (by decide +kernel) (by decide +kernel)⟩⟩
theorem fkX0_46 : qLK RX0 46 0 10 .int false := ⟨RX0, TX0, 12, rfl, (by decide +kernel), (by decide +kernel), (by decide +kernel), qcok0, Or.inl (qmem 205 (by decide +kernel) (by decide +kernel))⟩
theorem fkX6_173 : qLK RX6 173 0 10 .int false := ⟨RX0, TX0, 12, rfl, (by decide +kernel), (by decide +kernel), (by decide +kernel), qcok0, Or.inr ⟨"LowAir", qmem 206 (by decide +kernel) (by decide +kernel)⟩⟩
theorem fkX8_215 : qLK RX8 215 0 10 .int false := ⟨RX0, TX0, 12, rfl, (by decide +kernel), (by decide +kernel), (by decide +kernel), qcok0, Or.inr ⟨"LowAir", qmem 207 (by decide +kernel) (by decide +kernel)⟩⟩
theorem fkX0_22 : qLK RX0 22 0 11 .int false := ⟨RX0, TX0, 12, rfl, (by decide +kernel), (by decide +kernel), (by decide +kernel), qcok0, Or.inl (qmem 208 (by decide +kernel) (by decide +kernel))⟩
theorem fkX6_176 : qLK RX6 176 0 11 .int false := ⟨RX0, TX0, 12, rfl, (by decide +kernel), (by decide +kernel), (by decide +kernel), qcok0, Or.inr ⟨"LowAir", qmem 209 (by decide +kernel) (by decide +kernel)⟩⟩
theorem fkX4_9 : qLK RX4 9 4 0 (.array .int) true := ⟨RX4, TX4, 2, rfl, (by decide +kernel), (by decide +kernel), (by decide +kernel), qcok4, Or.inl (qmem 246 (by decide +kernel) (by decide +kernel))⟩
theorem fkdX4_9 : ∀ (C : String) (T : u_T) (N : Nat), vwCl[4]? = some (C, T, N) → (T 0).1 = RX4 ∧ Cond.fieldLink RX4 9 (T 0).1 (T 0).2.1 (T 0).2.2.1 ∈ qTBL := by
  intro C T N h
  cases h
  exact ⟨(by decide +kernel), qmem 246 (by decide +kernel) (by decide +kernel)⟩
theorem fkX8_143 : qLK RX8 143 4 0 (.array .int) true := ⟨RX4, TX4, 2, rfl, (by decide +kernel), (by decide +kernel), (by decide +kernel), qcok4, Or.inr ⟨"LowAir", qmem 247 (by decide +kernel) (by decide +kernel)⟩⟩
theorem fkX4_15 : qLK RX4 15 4 1 .int false := ⟨RX4, TX4, 2, rfl, (by decide +kernel), (by decide +kernel), (by decide +kernel), qcok4, Or.inl (qmem 248 (by decide +kernel) (by decide +kernel))⟩
theorem fkX3_59 : qLK RX3 59 4 1 .int false := ⟨RX4, TX4, 2, rfl, (by decide +kernel), (by decide +kernel), (by decide +kernel), qcok4, Or.inr ⟨"LowAir", qmem 249 (by decide +kernel) (by decide +kernel)⟩⟩
theorem fkX1_36 : qLK RX1 36 4 1 .int false := ⟨RX4, TX4, 2, rfl, (by decide +kernel), (by decide +kernel), (by decide +kernel), qcok4, Or.inr ⟨"LowAir", qmem 250 (by decide +kernel) (by decide +kernel)⟩⟩
theorem fkX2_65 : qLK RX2 65 4 1 .int false := ⟨RX4, TX4, 2, rfl, (by decide +kernel), (by decide +kernel), (by decide +kernel), qcok4, Or.inr ⟨"LowAir", qmem 251 (by decide +kernel) (by decide +kernel)⟩⟩
theorem fkX6_142 : qLK RX6 142 4 1 .int false := ⟨RX4, TX4, 2, rfl, (by decide +kernel), (by decide +kernel), (by decide +kernel), qcok4, Or.inr ⟨"LowAir", qmem 252 (by decide +kernel) (by decide +kernel)⟩⟩
theorem fkX8_140 : qLK RX8 140 4 1 .int false := ⟨RX4, TX4, 2, rfl, (by decide +kernel), (by decide +kernel), (by decide +kernel), qcok4, Or.inr ⟨"LowAir", qmem 253 (by decide +kernel) (by decide +kernel)⟩⟩
theorem fkX1_18 : qLK RX1 18 1 0 .int false := ⟨RX1, TX1, 4, rfl, (by decide +kernel), (by decide +kernel), (by decide +kernel), qcok1, Or.inl (qmem 259 (by decide +kernel) (by decide +kernel))⟩
theorem fkX6_92 : qLK RX6 92 1 0 .int false := ⟨RX1, TX1, 4, rfl, (by decide +kernel), (by decide +kernel), (by decide +kernel), qcok1, Or.inr ⟨"LowAir", qmem 260 (by decide +kernel) (by decide +kernel)⟩⟩
theorem fkX3_90 : qLK RX3 90 1 0 .int false := ⟨RX1, TX1, 4, rfl, (by decide +kernel), (by decide +kernel), (by decide +kernel), qcok1, Or.inr ⟨"LowAir", qmem 261 (by decide +kernel) (by decide +kernel)⟩⟩
theorem fkX8_164 : qLK RX8 164 1 0 .int false := ⟨RX1, TX1, 4, rfl, (by decide +kernel), (by decide +kernel), (by decide +kernel), qcok1, Or.inr ⟨"LowAir", qmem 262 (by decide +kernel) (by decide +kernel)⟩⟩
theorem fkX1_22 : qLK RX1 22 1 1 .int false := ⟨RX1, TX1, 4, rfl, (by decide +kernel), (by decide +kernel), (by decide +kernel), qcok1, Or.inl (qmem 263 (by decide +kernel) (by decide +kernel))⟩
theorem fkX6_89 : qLK RX6 89 1 1 .int false := ⟨RX1, TX1, 4, rfl, (by decide +kernel), (by decide +kernel), (by decide +kernel), qcok1, Or.inr ⟨"LowAir", qmem 264 (by decide +kernel) (by decide +kernel)⟩⟩
theorem fkX8_169 : qLK RX8 169 1 1 .int false := ⟨RX1, TX1, 4, rfl, (by decide +kernel), (by decide +kernel), (by decide +kernel), qcok1, Or.inr ⟨"LowAir", qmem 265 (by decide +kernel) (by decide +kernel)⟩⟩
theorem fkX1_25 : qLK RX1 25 1 2 .int false := ⟨RX1, TX1, 4, rfl, (by decide +kernel), (by decide +kernel), (by decide +kernel), qcok1, Or.inl (qmem 266 (by decide +kernel) (by decide +kernel))⟩
theorem fkX6_86 : qLK RX6 86 1 2 .int false := ⟨RX1, TX1, 4, rfl, (by decide +kernel), (by decide +kernel), (by decide +kernel), qcok1, Or.inr ⟨"LowAir", qmem 267 (by decide +kernel) (by decide +kernel)⟩⟩
theorem fkX8_172 : qLK RX8 172 1 2 .int false := ⟨RX1, TX1, 4, rfl, (by decide +kernel), (by decide +kernel), (by decide +kernel), qcok1, Or.inr ⟨"LowAir", qmem 268 (by decide +kernel) (by decide +kernel)⟩⟩
theorem fkX1_12 : qLK RX1 12 1 3 (.object "LowAir$Route") true := ⟨RX1, TX1, 4, rfl, (by decide +kernel), (by decide +kernel), (by decide +kernel), qcok1, Or.inl (qmem 269 (by decide +kernel) (by decide +kernel))⟩
theorem fkdX1_12 : ∀ (C : String) (T : u_T) (N : Nat), vwCl[1]? = some (C, T, N) → (T 3).1 = RX1 ∧ Cond.fieldLink RX1 12 (T 3).1 (T 3).2.1 (T 3).2.2.1 ∈ qTBL := by
  intro C T N h
  cases h
  exact ⟨(by decide +kernel), qmem 269 (by decide +kernel) (by decide +kernel)⟩
theorem fkX6_103 : qLK RX6 103 1 3 (.object "LowAir$Route") true := ⟨RX1, TX1, 4, rfl, (by decide +kernel), (by decide +kernel), (by decide +kernel), qcok1, Or.inr ⟨"LowAir", qmem 270 (by decide +kernel) (by decide +kernel)⟩⟩
theorem fkX3_126 : qLK RX3 126 1 3 (.object "LowAir$Route") true := ⟨RX1, TX1, 4, rfl, (by decide +kernel), (by decide +kernel), (by decide +kernel), qcok1, Or.inr ⟨"LowAir", qmem 271 (by decide +kernel) (by decide +kernel)⟩⟩
theorem fkX8_173 : qLK RX8 173 1 3 (.object "LowAir$Route") true := ⟨RX1, TX1, 4, rfl, (by decide +kernel), (by decide +kernel), (by decide +kernel), qcok1, Or.inr ⟨"LowAir", qmem 272 (by decide +kernel) (by decide +kernel)⟩⟩
theorem fkX6_27 : qLK RX6 27 6 0 (.object "LowAir$Ground") true := ⟨RX6, TX6, 9, rfl, (by decide +kernel), (by decide +kernel), (by decide +kernel), qcok6, Or.inl (qmem 282 (by decide +kernel) (by decide +kernel))⟩
theorem fkdX6_27 : ∀ (C : String) (T : u_T) (N : Nat), vwCl[6]? = some (C, T, N) → (T 0).1 = RX6 ∧ Cond.fieldLink RX6 27 (T 0).1 (T 0).2.1 (T 0).2.2.1 ∈ qTBL := by
  intro C T N h
  cases h
  exact ⟨(by decide +kernel), qmem 282 (by decide +kernel) (by decide +kernel)⟩
theorem fkX6_11 : qLK RX6 11 6 1 (.array (.object "LowAir$Craft")) true := ⟨RX6, TX6, 9, rfl, (by decide +kernel), (by decide +kernel), (by decide +kernel), qcok6, Or.inl (qmem 283 (by decide +kernel) (by decide +kernel))⟩
theorem fkdX6_11 : ∀ (C : String) (T : u_T) (N : Nat), vwCl[6]? = some (C, T, N) → (T 1).1 = RX6 ∧ Cond.fieldLink RX6 11 (T 1).1 (T 1).2.1 (T 1).2.2.1 ∈ qTBL := by
  intro C T N h
  cases h
  exact ⟨(by decide +kernel), qmem 283 (by decide +kernel) (by decide +kernel)⟩
theorem fkX3_23 : qLK RX3 23 6 1 (.array (.object "LowAir$Craft")) true := ⟨RX6, TX6, 9, rfl, (by decide +kernel), (by decide +kernel), (by decide +kernel), qcok6, Or.inr ⟨"LowAir", qmem 284 (by decide +kernel) (by decide +kernel)⟩⟩
theorem fkX8_100 : qLK RX8 100 6 1 (.array (.object "LowAir$Craft")) true := ⟨RX6, TX6, 9, rfl, (by decide +kernel), (by decide +kernel), (by decide +kernel), qcok6, Or.inr ⟨"LowAir", qmem 285 (by decide +kernel) (by decide +kernel)⟩⟩
theorem fkX6_33 : qLK RX6 33 6 2 .int false := ⟨RX6, TX6, 9, rfl, (by decide +kernel), (by decide +kernel), (by decide +kernel), qcok6, Or.inl (qmem 286 (by decide +kernel) (by decide +kernel))⟩
theorem fkX8_97 : qLK RX8 97 6 2 .int false := ⟨RX6, TX6, 9, rfl, (by decide +kernel), (by decide +kernel), (by decide +kernel), qcok6, Or.inr ⟨"LowAir", qmem 287 (by decide +kernel) (by decide +kernel)⟩⟩
theorem fkX6_19 : qLK RX6 19 6 3 (.array (.object "LowAir$Flight")) true := ⟨RX6, TX6, 9, rfl, (by decide +kernel), (by decide +kernel), (by decide +kernel), qcok6, Or.inl (qmem 288 (by decide +kernel) (by decide +kernel))⟩
theorem fkdX6_19 : ∀ (C : String) (T : u_T) (N : Nat), vwCl[6]? = some (C, T, N) → (T 3).1 = RX6 ∧ Cond.fieldLink RX6 19 (T 3).1 (T 3).2.1 (T 3).2.2.1 ∈ qTBL := by
  intro C T N h
  cases h
  exact ⟨(by decide +kernel), qmem 288 (by decide +kernel) (by decide +kernel)⟩
theorem fkX3_86 : qLK RX3 86 6 3 (.array (.object "LowAir$Flight")) true := ⟨RX6, TX6, 9, rfl, (by decide +kernel), (by decide +kernel), (by decide +kernel), qcok6, Or.inr ⟨"LowAir", qmem 289 (by decide +kernel) (by decide +kernel)⟩⟩
theorem fkX8_160 : qLK RX8 160 6 3 (.array (.object "LowAir$Flight")) true := ⟨RX6, TX6, 9, rfl, (by decide +kernel), (by decide +kernel), (by decide +kernel), qcok6, Or.inr ⟨"LowAir", qmem 290 (by decide +kernel) (by decide +kernel)⟩⟩
theorem fkX6_41 : qLK RX6 41 6 4 .int false := ⟨RX6, TX6, 9, rfl, (by decide +kernel), (by decide +kernel), (by decide +kernel), qcok6, Or.inl (qmem 291 (by decide +kernel) (by decide +kernel))⟩
theorem fkX3_83 : qLK RX3 83 6 4 .int false := ⟨RX6, TX6, 9, rfl, (by decide +kernel), (by decide +kernel), (by decide +kernel), qcok6, Or.inr ⟨"LowAir", qmem 292 (by decide +kernel) (by decide +kernel)⟩⟩
theorem fkX8_153 : qLK RX8 153 6 4 .int false := ⟨RX6, TX6, 9, rfl, (by decide +kernel), (by decide +kernel), (by decide +kernel), qcok6, Or.inr ⟨"LowAir", qmem 293 (by decide +kernel) (by decide +kernel)⟩⟩
theorem fkX6_23 : qLK RX6 23 6 5 (.array .int) true := ⟨RX6, TX6, 9, rfl, (by decide +kernel), (by decide +kernel), (by decide +kernel), qcok6, Or.inl (qmem 294 (by decide +kernel) (by decide +kernel))⟩
theorem fkdX6_23 : ∀ (C : String) (T : u_T) (N : Nat), vwCl[6]? = some (C, T, N) → (T 5).1 = RX6 ∧ Cond.fieldLink RX6 23 (T 5).1 (T 5).2.1 (T 5).2.2.1 ∈ qTBL := by
  intro C T N h
  cases h
  exact ⟨(by decide +kernel), qmem 294 (by decide +kernel) (by decide +kernel)⟩
theorem fkX8_195 : qLK RX8 195 6 5 (.array .int) true := ⟨RX6, TX6, 9, rfl, (by decide +kernel), (by decide +kernel), (by decide +kernel), qcok6, Or.inr ⟨"LowAir", qmem 295 (by decide +kernel) (by decide +kernel)⟩⟩
theorem fkX6_53 : qLK RX6 53 6 6 .int false := ⟨RX6, TX6, 9, rfl, (by decide +kernel), (by decide +kernel), (by decide +kernel), qcok6, Or.inl (qmem 296 (by decide +kernel) (by decide +kernel))⟩
theorem fkX8_240 : qLK RX8 240 6 6 .int false := ⟨RX6, TX6, 9, rfl, (by decide +kernel), (by decide +kernel), (by decide +kernel), qcok6, Or.inr ⟨"LowAir", qmem 297 (by decide +kernel) (by decide +kernel)⟩⟩
theorem fkX6_56 : qLK RX6 56 6 7 .int false := ⟨RX6, TX6, 9, rfl, (by decide +kernel), (by decide +kernel), (by decide +kernel), qcok6, Or.inl (qmem 298 (by decide +kernel) (by decide +kernel))⟩
theorem fkX8_233 : qLK RX8 233 6 7 .int false := ⟨RX6, TX6, 9, rfl, (by decide +kernel), (by decide +kernel), (by decide +kernel), qcok6, Or.inr ⟨"LowAir", qmem 299 (by decide +kernel) (by decide +kernel)⟩⟩
theorem fkX6_59 : qLK RX6 59 6 8 .int false := ⟨RX6, TX6, 9, rfl, (by decide +kernel), (by decide +kernel), (by decide +kernel), qcok6, Or.inl (qmem 300 (by decide +kernel) (by decide +kernel))⟩
theorem fkX8_186 : qLK RX8 186 6 8 .int false := ⟨RX6, TX6, 9, rfl, (by decide +kernel), (by decide +kernel), (by decide +kernel), qcok6, Or.inr ⟨"LowAir", qmem 301 (by decide +kernel) (by decide +kernel)⟩⟩
theorem fkX3_15 : qLK RX3 15 3 0 (.object "LowAir$Ground") true := ⟨RX3, TX3, 3, rfl, (by decide +kernel), (by decide +kernel), (by decide +kernel), qcok3, Or.inl (qmem 329 (by decide +kernel) (by decide +kernel))⟩
theorem fkdX3_15 : ∀ (C : String) (T : u_T) (N : Nat), vwCl[3]? = some (C, T, N) → (T 0).1 = RX3 ∧ Cond.fieldLink RX3 15 (T 0).1 (T 0).2.1 (T 0).2.2.1 ∈ qTBL := by
  intro C T N h
  cases h
  exact ⟨(by decide +kernel), qmem 329 (by decide +kernel) (by decide +kernel)⟩
theorem fkX3_19 : qLK RX3 19 3 1 (.object "LowAir$Sky") true := ⟨RX3, TX3, 3, rfl, (by decide +kernel), (by decide +kernel), (by decide +kernel), qcok3, Or.inl (qmem 330 (by decide +kernel) (by decide +kernel))⟩
theorem fkdX3_19 : ∀ (C : String) (T : u_T) (N : Nat), vwCl[3]? = some (C, T, N) → (T 1).1 = RX3 ∧ Cond.fieldLink RX3 19 (T 1).1 (T 1).2.1 (T 1).2.2.1 ∈ qTBL := by
  intro C T N h
  cases h
  exact ⟨(by decide +kernel), qmem 330 (by decide +kernel) (by decide +kernel)⟩
theorem fkX3_9 : qLK RX3 9 3 2 (.array .int) true := ⟨RX3, TX3, 3, rfl, (by decide +kernel), (by decide +kernel), (by decide +kernel), qcok3, Or.inl (qmem 331 (by decide +kernel) (by decide +kernel))⟩
theorem fkdX3_9 : ∀ (C : String) (T : u_T) (N : Nat), vwCl[3]? = some (C, T, N) → (T 2).1 = RX3 ∧ Cond.fieldLink RX3 9 (T 2).1 (T 2).2.1 (T 2).2.2.1 ∈ qTBL := by
  intro C T N h
  cases h
  exact ⟨(by decide +kernel), qmem 331 (by decide +kernel) (by decide +kernel)⟩
theorem fkX5_19 : qLK RX5 19 5 0 (.object "LowAir$Ground") true := ⟨RX5, TX5, 3, rfl, (by decide +kernel), (by decide +kernel), (by decide +kernel), qcok5, Or.inl (qmem 345 (by decide +kernel) (by decide +kernel))⟩
theorem fkdX5_19 : ∀ (C : String) (T : u_T) (N : Nat), vwCl[5]? = some (C, T, N) → (T 0).1 = RX5 ∧ Cond.fieldLink RX5 19 (T 0).1 (T 0).2.1 (T 0).2.2.1 ∈ qTBL := by
  intro C T N h
  cases h
  exact ⟨(by decide +kernel), qmem 345 (by decide +kernel) (by decide +kernel)⟩
theorem fkX5_9 : qLK RX5 9 5 1 (.array .boolean) true := ⟨RX5, TX5, 3, rfl, (by decide +kernel), (by decide +kernel), (by decide +kernel), qcok5, Or.inl (qmem 346 (by decide +kernel) (by decide +kernel))⟩
theorem fkdX5_9 : ∀ (C : String) (T : u_T) (N : Nat), vwCl[5]? = some (C, T, N) → (T 1).1 = RX5 ∧ Cond.fieldLink RX5 9 (T 1).1 (T 1).2.1 (T 1).2.2.1 ∈ qTBL := by
  intro C T N h
  cases h
  exact ⟨(by decide +kernel), qmem 346 (by decide +kernel) (by decide +kernel)⟩
theorem fkX5_15 : qLK RX5 15 5 2 (.array .int) true := ⟨RX5, TX5, 3, rfl, (by decide +kernel), (by decide +kernel), (by decide +kernel), qcok5, Or.inl (qmem 347 (by decide +kernel) (by decide +kernel))⟩
theorem fkdX5_15 : ∀ (C : String) (T : u_T) (N : Nat), vwCl[5]? = some (C, T, N) → (T 2).1 = RX5 ∧ Cond.fieldLink RX5 15 (T 2).1 (T 2).2.1 (T 2).2.2.1 ∈ qTBL := by
  intro C T N h
  cases h
  exact ⟨(by decide +kernel), qmem 347 (by decide +kernel) (by decide +kernel)⟩
theorem fkX8_10 : qLK RX8 10 8 0 (.object "LowAir$Ground") true := ⟨RX8, TX8, 6, rfl, (by decide +kernel), (by decide +kernel), (by decide +kernel), qcok8, Or.inl (qmem 355 (by decide +kernel) (by decide +kernel))⟩
theorem fkdX8_10 : ∀ (C : String) (T : u_T) (N : Nat), vwCl[8]? = some (C, T, N) → (T 0).1 = RX8 ∧ Cond.fieldLink RX8 10 (T 0).1 (T 0).2.1 (T 0).2.2.1 ∈ qTBL := by
  intro C T N h
  cases h
  exact ⟨(by decide +kernel), qmem 355 (by decide +kernel) (by decide +kernel)⟩
theorem fkX8_21 : qLK RX8 21 8 1 (.object "LowAir$Sky") true := ⟨RX8, TX8, 6, rfl, (by decide +kernel), (by decide +kernel), (by decide +kernel), qcok8, Or.inl (qmem 356 (by decide +kernel) (by decide +kernel))⟩
theorem fkdX8_21 : ∀ (C : String) (T : u_T) (N : Nat), vwCl[8]? = some (C, T, N) → (T 1).1 = RX8 ∧ Cond.fieldLink RX8 21 (T 1).1 (T 1).2.1 (T 1).2.2.1 ∈ qTBL := by
  intro C T N h
  cases h
  exact ⟨(by decide +kernel), qmem 356 (by decide +kernel) (by decide +kernel)⟩
theorem fkX8_25 : qLK RX8 25 8 2 (.object "LowAir$Sky") true := ⟨RX8, TX8, 6, rfl, (by decide +kernel), (by decide +kernel), (by decide +kernel), qcok8, Or.inl (qmem 357 (by decide +kernel) (by decide +kernel))⟩
theorem fkdX8_25 : ∀ (C : String) (T : u_T) (N : Nat), vwCl[8]? = some (C, T, N) → (T 2).1 = RX8 ∧ Cond.fieldLink RX8 25 (T 2).1 (T 2).2.1 (T 2).2.2.1 ∈ qTBL := by
  intro C T N h
  cases h
  exact ⟨(by decide +kernel), qmem 357 (by decide +kernel) (by decide +kernel)⟩
theorem fkX8_31 : qLK RX8 31 8 3 (.object "LowAir$Route") true := ⟨RX8, TX8, 6, rfl, (by decide +kernel), (by decide +kernel), (by decide +kernel), qcok8, Or.inl (qmem 358 (by decide +kernel) (by decide +kernel))⟩
theorem fkdX8_31 : ∀ (C : String) (T : u_T) (N : Nat), vwCl[8]? = some (C, T, N) → (T 3).1 = RX8 ∧ Cond.fieldLink RX8 31 (T 3).1 (T 3).2.1 (T 3).2.2.1 ∈ qTBL := by
  intro C T N h
  cases h
  exact ⟨(by decide +kernel), qmem 358 (by decide +kernel) (by decide +kernel)⟩
theorem fkX8_40 : qLK RX8 40 8 4 (.object "LowAir$Judge") true := ⟨RX8, TX8, 6, rfl, (by decide +kernel), (by decide +kernel), (by decide +kernel), qcok8, Or.inl (qmem 359 (by decide +kernel) (by decide +kernel))⟩
theorem fkdX8_40 : ∀ (C : String) (T : u_T) (N : Nat), vwCl[8]? = some (C, T, N) → (T 4).1 = RX8 ∧ Cond.fieldLink RX8 40 (T 4).1 (T 4).2.1 (T 4).2.2.1 ∈ qTBL := by
  intro C T N h
  cases h
  exact ⟨(by decide +kernel), qmem 359 (by decide +kernel) (by decide +kernel)⟩
theorem fkX8_47 : qLK RX8 47 8 5 (.object "LowAir$Search") true := ⟨RX8, TX8, 6, rfl, (by decide +kernel), (by decide +kernel), (by decide +kernel), qcok8, Or.inl (qmem 360 (by decide +kernel) (by decide +kernel))⟩
theorem fkdX8_47 : ∀ (C : String) (T : u_T) (N : Nat), vwCl[8]? = some (C, T, N) → (T 5).1 = RX8 ∧ Cond.fieldLink RX8 47 (T 5).1 (T 5).2.1 (T 5).2.2.1 ∈ qTBL := by
  intro C T N h
  cases h
  exact ⟨(by decide +kernel), qmem 360 (by decide +kernel) (by decide +kernel)⟩
abbrev mJ7_fill : qY := (yJ7_fill_53178, cJ7_fill_53178, 4, none)
abbrev mL_below : qY := (yL_below, cL_below, 2, (some .int))
abbrev mL_cell : qY := (yL_cell, cL_cell, 2, (some .int))
abbrev mL_isAsked : qY := (yL_isAsked, cL_isAsked, 14, (some .boolean))
abbrev mL_isPassed : qY := (yL_isPassed, cL_isPassed, 15, (some .boolean))
abbrev mX0_copyFrom : qY := (yX0_copyFrom, cX0_copyFrom, 2, none)
abbrev mX0_goDown : qY := (yX0_goDown, cX0_goDown, 1, none)
abbrev mX0_init : qY := (yX0_init, cX0_init, 1, none)
abbrev mX0_landAt : qY := (yX0_landAt, cX0_landAt, 2, none)
abbrev mX0_nextCellHome : qY := (yX0_nextCellHome, cX0_nextCellHome, 1, (some .int))
abbrev mX1_copyFrom : qY := (yX1_copyFrom, cX1_copyFrom, 2, none)
abbrev mX1_init : qY := (yX1_init, cX1_init, 1, none)
abbrev mX1_isAhead : qY := (yX1_isAhead, cX1_isAhead, 1, (some .boolean))
abbrev mX1_isCloseInTime : qY := (yX1_isCloseInTime, cX1_isCloseInTime, 3, (some .boolean))
abbrev mX1_isPlannedOn : qY := (yX1_isPlannedOn, cX1_isPlannedOn, 2, (some .boolean))
abbrev mX1_meets : qY := (yX1_meets, cX1_meets, 6, (some .boolean))
abbrev mX1_occupiesIn : qY := (yX1_occupiesIn, cX1_occupiesIn, 5, (some .boolean))
abbrev mX2_addPad : qY := (yX2_addPad, cX2_addPad, 2, (some .int))
abbrev mX2_addZone : qY := (yX2_addZone, cX2_addZone, 6, (some .int))
abbrev mX2_costOfMove : qY := (yX2_costOfMove, cX2_costOfMove, 2, (some .int))
abbrev mX2_costOfRoute : qY := (yX2_costOfRoute, cX2_costOfRoute, 4, (some .int))
abbrev mX2_directionTo : qY := (yX2_directionTo, cX2_directionTo, 3, (some .int))
abbrev mX2_hasPad : qY := (yX2_hasPad, cX2_hasPad, 2, (some .boolean))
abbrev mX2_init : qY := (yX2_init, cX2_init, 2, none)
abbrev mX2_isShut : qY := (yX2_isShut, cX2_isShut, 5, (some .boolean))
abbrev mX2_isWayFromPadToPad : qY := (yX2_isWayFromPadToPad, cX2_isWayFromPadToPad, 3, (some .boolean))
abbrev mX2_neighbour : qY := (yX2_neighbour, cX2_neighbour, 4, (some .int))
abbrev mX3_init : qY := (yX3_init, cX3_init, 3, none)
abbrev mX3_isTooLoud : qY := (yX3_isTooLoud, cX3_isTooLoud, 6, (some .boolean))
abbrev mX3_meetsItself : qY := (yX3_meetsItself, cX3_meetsItself, 6, (some .boolean))
abbrev mX3_meetsOthers : qY := (yX3_meetsOthers, cX3_meetsOthers, 6, (some .boolean))
abbrev mX3_meetsTower : qY := (yX3_meetsTower, cX3_meetsTower, 4, (some .boolean))
abbrev mX3_meetsZone : qY := (yX3_meetsZone, cX3_meetsZone, 7, (some .boolean))
abbrev mX3_plan : qY := (yX3_plan, cX3_plan, 5, none)
abbrev mX3_planDay : qY := (yX3_planDay, cX3_planDay, 4, none)
abbrev mX3_plannedNoise : qY := (yX3_plannedNoise, cX3_plannedNoise, 3, (some .int))
abbrev mX3_reasonAgainst : qY := (yX3_reasonAgainst, cX3_reasonAgainst, 5, (some .int))
abbrev mX4_at : qY := (yX4_at, cX4_at, 2, (some .int))
abbrev mX4_copyFrom : qY := (yX4_copyFrom, cX4_copyFrom, 2, none)
abbrev mX4_endFrom : qY := (yX4_endFrom, cX4_endFrom, 2, (some .int))
abbrev mX4_first : qY := (yX4_first, cX4_first, 1, (some .int))
abbrev mX4_init : qY := (yX4_init, cX4_init, 1, none)
abbrev mX4_last : qY := (yX4_last, cX4_last, 1, (some .int))
abbrev mX5_fewestMoves : qY := (yX5_fewestMoves, cX5_fewestMoves, 4, (some .int))
abbrev mX5_init : qY := (yX5_init, cX5_init, 2, none)
abbrev mX5_least : qY := (yX5_least, cX5_least, 7, (some .int))
abbrev mX5_leastCharge : qY := (yX5_leastCharge, cX5_leastCharge, 4, (some .int))
abbrev mX5_spread : qY := (yX5_spread, cX5_spread, 6, (some .boolean))
abbrev mX5_spreadAll : qY := (yX5_spreadAll, cX5_spreadAll, 5, (some .boolean))
abbrev mX6_allBreaches : qY := (yX6_allBreaches, cX6_allBreaches, 3, (some .int))
abbrev mX6_chargeIfLying : qY := (yX6_chargeIfLying, cX6_chargeIfLying, 2, none)
abbrev mX6_comeIn : qY := (yX6_comeIn, cX6_comeIn, 3, none)
abbrev mX6_copyFrom : qY := (yX6_copyFrom, cX6_copyFrom, 3, none)
abbrev mX6_flightsIn : qY := (yX6_flightsIn, cX6_flightsIn, 4, (some .int))
abbrev mX6_flyingIn : qY := (yX6_flyingIn, cX6_flyingIn, 4, (some .int))
abbrev mX6_init : qY := (yX6_init, cX6_init, 3, none)
abbrev mX6_isCraft : qY := (yX6_isCraft, cX6_isCraft, 2, (some .boolean))
abbrev mX6_isToMove : qY := (yX6_isToMove, cX6_isToMove, 3, (some .boolean))
abbrev mX6_move : qY := (yX6_move, cX6_move, 6, none)
abbrev mX6_movesInto : qY := (yX6_movesInto, cX6_movesInto, 5, (some .boolean))
abbrev mX6_pairsNear : qY := (yX6_pairsNear, cX6_pairsNear, 4, (some .int))
abbrev mX6_play : qY := (yX6_play, cX6_play, 4, none)
abbrev mX6_startOrMissIfDue : qY := (yX6_startOrMissIfDue, cX6_startOrMissIfDue, 5, none)
abbrev mX7_init : qY := (yX7_init, cX7_init, 1, none)
abbrev mX7_shuts : qY := (yX7_shuts, cX7_shuts, 5, (some .boolean))
abbrev mX8_ask : qY := (yX8_ask, cX8_ask, 5, (some .int))
abbrev mX8_checkArgument : qY := (yX8_checkArgument, cX8_checkArgument, 1, none)
abbrev mX8_checkCell : qY := (yX8_checkCell, cX8_checkCell, 1, none)
abbrev mX8_checkCraft : qY := (yX8_checkCraft, cX8_checkCraft, 2, none)
abbrev mX8_checkFlight : qY := (yX8_checkFlight, cX8_checkFlight, 2, none)
abbrev mX8_checkIndex : qY := (yX8_checkIndex, cX8_checkIndex, 1, none)
abbrev mX8_checkMinutes : qY := (yX8_checkMinutes, cX8_checkMinutes, 1, none)
abbrev mX8_checkStart : qY := (yX8_checkStart, cX8_checkStart, 2, none)
abbrev mX8_checkState : qY := (yX8_checkState, cX8_checkState, 1, none)
abbrev mX8_clear : qY := (yX8_clear, cX8_clear, 2, (some .int))
abbrev mX8_cost : qY := (yX8_cost, cX8_cost, 3, (some .int))
abbrev mX8_craft : qY := (yX8_craft, cX8_craft, 6, (some .int))
abbrev mX8_digest : qY := (yX8_digest, cX8_digest, 5, (some .long))
abbrev mX8_draft : qY := (yX8_draft, cX8_draft, 2, (some .int))
abbrev mX8_fetch : qY := (yX8_fetch, cX8_fetch, 4, (some .int))
abbrev mX8_houses : qY := (yX8_houses, cX8_houses, 4, (some .int))
abbrev mX8_init : qY := (yX8_init, cX8_init, 1, none)
abbrev mX8_isCell : qY := (yX8_isCell, cX8_isCell, 1, (some .boolean))
abbrev mX8_link : qY := (yX8_link, cX8_link, 4, (some .boolean))
abbrev mX8_many : qY := (yX8_many, cX8_many, 2, (some .int))
abbrev mX8_meanCharge : qY := (yX8_meanCharge, cX8_meanCharge, 5, (some .double))
abbrev mX8_mixed : qY := (yX8_mixed, cX8_mixed, 3, (some .long))
abbrev mX8_occupies : qY := (yX8_occupies, cX8_occupies, 5, (some .int))
abbrev mX8_ofCell : qY := (yX8_ofCell, cX8_ofCell, 3, (some .int))
abbrev mX8_ofCraft : qY := (yX8_ofCraft, cX8_ofCraft, 4, (some .int))
abbrev mX8_ofFlight : qY := (yX8_ofFlight, cX8_ofFlight, 4, (some .int))
abbrev mX8_pad : qY := (yX8_pad, cX8_pad, 2, (some .int))
abbrev mX8_pass : qY := (yX8_pass, cX8_pass, 3, (some .int))
abbrev mX8_soonest : qY := (yX8_soonest, cX8_soonest, 3, (some .int))
abbrev mX8_tower : qY := (yX8_tower, cX8_tower, 4, (some .boolean))
abbrev mX8_way : qY := (yX8_way, cX8_way, 3, (some .int))
abbrev mX8_why : qY := (yX8_why, cX8_why, 3, (some .int))
abbrev mX8_wind : qY := (yX8_wind, cX8_wind, 4, (some .int))
abbrev mX8_withdraw : qY := (yX8_withdraw, cX8_withdraw, 3, (some .int))
abbrev mX8_wouldHave : qY := (yX8_wouldHave, cX8_wouldHave, 4, (some .int))
abbrev mX8_wouldNear : qY := (yX8_wouldNear, cX8_wouldNear, 2, (some .int))
abbrev mX8_zone : qY := (yX8_zone, cX8_zone, 5, (some .int))
theorem mfJ7_fill : qMf mJ7_fill 2 := ⟨qmem 91 (by decide +kernel) (by decide +kernel), qmem 57 (by decide +kernel) (by decide +kernel), (by decide +kernel), (by decide +kernel), (by decide +kernel)⟩
theorem msJ7_fill : Cond.static mJ7_fill.1 ∈ qTBL := qmem 90 (by decide +kernel) (by decide +kernel)
theorem mfL_below : qMf mL_below 2 := ⟨qmem 839 (by decide +kernel) (by decide +kernel), qmem 54 (by decide +kernel) (by decide +kernel), (by decide +kernel), (by decide +kernel), (by decide +kernel)⟩
theorem msL_below : Cond.static mL_below.1 ∈ qTBL := qmem 838 (by decide +kernel) (by decide +kernel)
theorem mfL_cell : qMf mL_cell 2 := ⟨qmem 843 (by decide +kernel) (by decide +kernel), qmem 54 (by decide +kernel) (by decide +kernel), (by decide +kernel), (by decide +kernel), (by decide +kernel)⟩
theorem msL_cell : Cond.static mL_cell.1 ∈ qTBL := qmem 842 (by decide +kernel) (by decide +kernel)
theorem mfL_isAsked : qMf mL_isAsked 5 := ⟨qmem 847 (by decide +kernel) (by decide +kernel), qmem 54 (by decide +kernel) (by decide +kernel), (by decide +kernel), (by decide +kernel), (by decide +kernel)⟩
theorem msL_isAsked : Cond.static mL_isAsked.1 ∈ qTBL := qmem 846 (by decide +kernel) (by decide +kernel)
theorem mfL_isPassed : qMf mL_isPassed 2 := ⟨qmem 873 (by decide +kernel) (by decide +kernel), qmem 54 (by decide +kernel) (by decide +kernel), (by decide +kernel), (by decide +kernel), (by decide +kernel)⟩
theorem msL_isPassed : Cond.static mL_isPassed.1 ∈ qTBL := qmem 872 (by decide +kernel) (by decide +kernel)
theorem mfX0_copyFrom : qMf mX0_copyFrom 1 := ⟨qmem 626 (by decide +kernel) (by decide +kernel), qmem 60 (by decide +kernel) (by decide +kernel), (by decide +kernel), (by decide +kernel), (by decide +kernel)⟩
theorem mvX0_copyFrom : qMv mX0_copyFrom := ⟨qmem 625 (by decide +kernel) (by decide +kernel), qmem 17 (by decide +kernel) (by decide +kernel)⟩
theorem mfX0_goDown : qMf mX0_goDown 0 := ⟨qmem 700 (by decide +kernel) (by decide +kernel), qmem 60 (by decide +kernel) (by decide +kernel), (by decide +kernel), (by decide +kernel), (by decide +kernel)⟩
theorem mvX0_goDown : qMv mX0_goDown := ⟨qmem 699 (by decide +kernel) (by decide +kernel), qmem 31 (by decide +kernel) (by decide +kernel)⟩
theorem mfX0_init : qMf mX0_init 0 := ⟨qmem 169 (by decide +kernel) (by decide +kernel), qmem 60 (by decide +kernel) (by decide +kernel), (by decide +kernel), (by decide +kernel), (by decide +kernel)⟩
theorem miX0_init : qMi mX0_init := ⟨qmem 168 (by decide +kernel) (by decide +kernel), (by decide +kernel), (by decide +kernel)⟩
theorem mfX0_landAt : qMf mX0_landAt 1 := ⟨qmem 704 (by decide +kernel) (by decide +kernel), qmem 60 (by decide +kernel) (by decide +kernel), (by decide +kernel), (by decide +kernel), (by decide +kernel)⟩
theorem mvX0_landAt : qMv mX0_landAt := ⟨qmem 703 (by decide +kernel) (by decide +kernel), qmem 32 (by decide +kernel) (by decide +kernel)⟩
theorem mfX0_nextCellHome : qMf mX0_nextCellHome 0 := ⟨qmem 677 (by decide +kernel) (by decide +kernel), qmem 60 (by decide +kernel) (by decide +kernel), (by decide +kernel), (by decide +kernel), (by decide +kernel)⟩
theorem mvX0_nextCellHome : qMv mX0_nextCellHome := ⟨qmem 676 (by decide +kernel) (by decide +kernel), qmem 28 (by decide +kernel) (by decide +kernel)⟩
theorem mfX1_copyFrom : qMf mX1_copyFrom 1 := ⟨qmem 630 (by decide +kernel) (by decide +kernel), qmem 61 (by decide +kernel) (by decide +kernel), (by decide +kernel), (by decide +kernel), (by decide +kernel)⟩
theorem mvX1_copyFrom : qMv mX1_copyFrom := ⟨qmem 629 (by decide +kernel) (by decide +kernel), qmem 18 (by decide +kernel) (by decide +kernel)⟩
theorem mfX1_init : qMf mX1_init 0 := ⟨qmem 238 (by decide +kernel) (by decide +kernel), qmem 61 (by decide +kernel) (by decide +kernel), (by decide +kernel), (by decide +kernel), (by decide +kernel)⟩
theorem miX1_init : qMi mX1_init := ⟨qmem 237 (by decide +kernel) (by decide +kernel), (by decide +kernel), (by decide +kernel)⟩
theorem mfX1_isAhead : qMf mX1_isAhead 0 := ⟨qmem 565 (by decide +kernel) (by decide +kernel), qmem 61 (by decide +kernel) (by decide +kernel), (by decide +kernel), (by decide +kernel), (by decide +kernel)⟩
theorem mvX1_isAhead : qMv mX1_isAhead := ⟨qmem 564 (by decide +kernel) (by decide +kernel), qmem 9 (by decide +kernel) (by decide +kernel)⟩
theorem mfX1_isCloseInTime : qMf mX1_isCloseInTime 2 := ⟨qmem 818 (by decide +kernel) (by decide +kernel), qmem 61 (by decide +kernel) (by decide +kernel), (by decide +kernel), (by decide +kernel), (by decide +kernel)⟩
theorem mvX1_isCloseInTime : qMv mX1_isCloseInTime := ⟨qmem 817 (by decide +kernel) (by decide +kernel), qmem 48 (by decide +kernel) (by decide +kernel)⟩
theorem mfX1_isPlannedOn : qMf mX1_isPlannedOn 1 := ⟨qmem 561 (by decide +kernel) (by decide +kernel), qmem 61 (by decide +kernel) (by decide +kernel), (by decide +kernel), (by decide +kernel), (by decide +kernel)⟩
theorem mvX1_isPlannedOn : qMv mX1_isPlannedOn := ⟨qmem 560 (by decide +kernel) (by decide +kernel), qmem 8 (by decide +kernel) (by decide +kernel)⟩
theorem mfX1_meets : qMf mX1_meets 2 := ⟨qmem 823 (by decide +kernel) (by decide +kernel), qmem 61 (by decide +kernel) (by decide +kernel), (by decide +kernel), (by decide +kernel), (by decide +kernel)⟩
theorem mvX1_meets : qMv mX1_meets := ⟨qmem 822 (by decide +kernel) (by decide +kernel), qmem 49 (by decide +kernel) (by decide +kernel)⟩
theorem mfX1_occupiesIn : qMf mX1_occupiesIn 2 := ⟨qmem 735 (by decide +kernel) (by decide +kernel), qmem 61 (by decide +kernel) (by decide +kernel), (by decide +kernel), (by decide +kernel), (by decide +kernel)⟩
theorem mvX1_occupiesIn : qMv mX1_occupiesIn := ⟨qmem 734 (by decide +kernel) (by decide +kernel), qmem 35 (by decide +kernel) (by decide +kernel)⟩
theorem mfX2_addPad : qMf mX2_addPad 1 := ⟨qmem 504 (by decide +kernel) (by decide +kernel), qmem 56 (by decide +kernel) (by decide +kernel), (by decide +kernel), (by decide +kernel), (by decide +kernel)⟩
theorem mvX2_addPad : qMv mX2_addPad := ⟨qmem 503 (by decide +kernel) (by decide +kernel), qmem 1 (by decide +kernel) (by decide +kernel)⟩
theorem mfX2_addZone : qMf mX2_addZone 4 := ⟨qmem 512 (by decide +kernel) (by decide +kernel), qmem 56 (by decide +kernel) (by decide +kernel), (by decide +kernel), (by decide +kernel), (by decide +kernel)⟩
theorem mvX2_addZone : qMv mX2_addZone := ⟨qmem 511 (by decide +kernel) (by decide +kernel), qmem 2 (by decide +kernel) (by decide +kernel)⟩
theorem mfX2_costOfMove : qMf mX2_costOfMove 1 := ⟨qmem 693 (by decide +kernel) (by decide +kernel), qmem 56 (by decide +kernel) (by decide +kernel), (by decide +kernel), (by decide +kernel), (by decide +kernel)⟩
theorem mvX2_costOfMove : qMv mX2_costOfMove := ⟨qmem 692 (by decide +kernel) (by decide +kernel), qmem 30 (by decide +kernel) (by decide +kernel)⟩
theorem mfX2_costOfRoute : qMf mX2_costOfRoute 1 := ⟨qmem 831 (by decide +kernel) (by decide +kernel), qmem 56 (by decide +kernel) (by decide +kernel), (by decide +kernel), (by decide +kernel), (by decide +kernel)⟩
theorem mvX2_costOfRoute : qMv mX2_costOfRoute := ⟨qmem 830 (by decide +kernel) (by decide +kernel), qmem 51 (by decide +kernel) (by decide +kernel)⟩
theorem mfX2_directionTo : qMf mX2_directionTo 2 := ⟨qmem 685 (by decide +kernel) (by decide +kernel), qmem 56 (by decide +kernel) (by decide +kernel), (by decide +kernel), (by decide +kernel), (by decide +kernel)⟩
theorem msX2_directionTo : Cond.static mX2_directionTo.1 ∈ qTBL := qmem 684 (by decide +kernel) (by decide +kernel)
theorem mfX2_hasPad : qMf mX2_hasPad 1 := ⟨qmem 786 (by decide +kernel) (by decide +kernel), qmem 56 (by decide +kernel) (by decide +kernel), (by decide +kernel), (by decide +kernel), (by decide +kernel)⟩
theorem mvX2_hasPad : qMv mX2_hasPad := ⟨qmem 785 (by decide +kernel) (by decide +kernel), qmem 42 (by decide +kernel) (by decide +kernel)⟩
theorem mfX2_init : qMf mX2_init 0 := ⟨qmem 85 (by decide +kernel) (by decide +kernel), qmem 56 (by decide +kernel) (by decide +kernel), (by decide +kernel), (by decide +kernel), (by decide +kernel)⟩
theorem miX2_init : qMi mX2_init := ⟨qmem 84 (by decide +kernel) (by decide +kernel), (by decide +kernel), (by decide +kernel)⟩
theorem mfX2_isShut : qMf mX2_isShut 3 := ⟨qmem 661 (by decide +kernel) (by decide +kernel), qmem 56 (by decide +kernel) (by decide +kernel), (by decide +kernel), (by decide +kernel), (by decide +kernel)⟩
theorem mvX2_isShut : qMv mX2_isShut := ⟨qmem 660 (by decide +kernel) (by decide +kernel), qmem 24 (by decide +kernel) (by decide +kernel)⟩
theorem mfX2_isWayFromPadToPad : qMf mX2_isWayFromPadToPad 1 := ⟨qmem 781 (by decide +kernel) (by decide +kernel), qmem 56 (by decide +kernel) (by decide +kernel), (by decide +kernel), (by decide +kernel), (by decide +kernel)⟩
theorem mvX2_isWayFromPadToPad : qMv mX2_isWayFromPadToPad := ⟨qmem 780 (by decide +kernel) (by decide +kernel), qmem 41 (by decide +kernel) (by decide +kernel)⟩
theorem mfX2_neighbour : qMf mX2_neighbour 2 := ⟨qmem 689 (by decide +kernel) (by decide +kernel), qmem 56 (by decide +kernel) (by decide +kernel), (by decide +kernel), (by decide +kernel), (by decide +kernel)⟩
theorem msX2_neighbour : Cond.static mX2_neighbour.1 ∈ qTBL := qmem 688 (by decide +kernel) (by decide +kernel)
theorem mfX3_init : qMf mX3_init 2 := ⟨qmem 327 (by decide +kernel) (by decide +kernel), qmem 63 (by decide +kernel) (by decide +kernel), (by decide +kernel), (by decide +kernel), (by decide +kernel)⟩
theorem miX3_init : qMi mX3_init := ⟨qmem 326 (by decide +kernel) (by decide +kernel), (by decide +kernel), (by decide +kernel)⟩
theorem mfX3_isTooLoud : qMf mX3_isTooLoud 3 := ⟨qmem 836 (by decide +kernel) (by decide +kernel), qmem 63 (by decide +kernel) (by decide +kernel), (by decide +kernel), (by decide +kernel), (by decide +kernel)⟩
theorem mvX3_isTooLoud : qMv mX3_isTooLoud := ⟨qmem 835 (by decide +kernel) (by decide +kernel), qmem 52 (by decide +kernel) (by decide +kernel)⟩
theorem mfX3_meetsItself : qMf mX3_meetsItself 3 := ⟨qmem 827 (by decide +kernel) (by decide +kernel), qmem 63 (by decide +kernel) (by decide +kernel), (by decide +kernel), (by decide +kernel), (by decide +kernel)⟩
theorem mvX3_meetsItself : qMv mX3_meetsItself := ⟨qmem 826 (by decide +kernel) (by decide +kernel), qmem 50 (by decide +kernel) (by decide +kernel)⟩
theorem mfX3_meetsOthers : qMf mX3_meetsOthers 3 := ⟨qmem 813 (by decide +kernel) (by decide +kernel), qmem 63 (by decide +kernel) (by decide +kernel), (by decide +kernel), (by decide +kernel), (by decide +kernel)⟩
theorem mvX3_meetsOthers : qMv mX3_meetsOthers := ⟨qmem 812 (by decide +kernel) (by decide +kernel), qmem 47 (by decide +kernel) (by decide +kernel)⟩
theorem mfX3_meetsTower : qMf mX3_meetsTower 1 := ⟨qmem 804 (by decide +kernel) (by decide +kernel), qmem 63 (by decide +kernel) (by decide +kernel), (by decide +kernel), (by decide +kernel), (by decide +kernel)⟩
theorem mvX3_meetsTower : qMv mX3_meetsTower := ⟨qmem 803 (by decide +kernel) (by decide +kernel), qmem 45 (by decide +kernel) (by decide +kernel)⟩
theorem mfX3_meetsZone : qMf mX3_meetsZone 3 := ⟨qmem 808 (by decide +kernel) (by decide +kernel), qmem 63 (by decide +kernel) (by decide +kernel), (by decide +kernel), (by decide +kernel), (by decide +kernel)⟩
theorem mvX3_meetsZone : qMv mX3_meetsZone := ⟨qmem 807 (by decide +kernel) (by decide +kernel), qmem 46 (by decide +kernel) (by decide +kernel)⟩
theorem mfX3_plan : qMf mX3_plan 2 := ⟨qmem 570 (by decide +kernel) (by decide +kernel), qmem 63 (by decide +kernel) (by decide +kernel), (by decide +kernel), (by decide +kernel), (by decide +kernel)⟩
theorem mvX3_plan : qMv mX3_plan := ⟨qmem 569 (by decide +kernel) (by decide +kernel), qmem 10 (by decide +kernel) (by decide +kernel)⟩
theorem mfX3_planDay : qMf mX3_planDay 1 := ⟨qmem 556 (by decide +kernel) (by decide +kernel), qmem 63 (by decide +kernel) (by decide +kernel), (by decide +kernel), (by decide +kernel), (by decide +kernel)⟩
theorem mvX3_planDay : qMv mX3_planDay := ⟨qmem 555 (by decide +kernel) (by decide +kernel), qmem 7 (by decide +kernel) (by decide +kernel)⟩
theorem mfX3_plannedNoise : qMf mX3_plannedNoise 2 := ⟨qmem 552 (by decide +kernel) (by decide +kernel), qmem 63 (by decide +kernel) (by decide +kernel), (by decide +kernel), (by decide +kernel), (by decide +kernel)⟩
theorem mvX3_plannedNoise : qMv mX3_plannedNoise := ⟨qmem 551 (by decide +kernel) (by decide +kernel), qmem 6 (by decide +kernel) (by decide +kernel)⟩
theorem mfX3_reasonAgainst : qMf mX3_reasonAgainst 3 := ⟨qmem 800 (by decide +kernel) (by decide +kernel), qmem 63 (by decide +kernel) (by decide +kernel), (by decide +kernel), (by decide +kernel), (by decide +kernel)⟩
theorem mvX3_reasonAgainst : qMv mX3_reasonAgainst := ⟨qmem 799 (by decide +kernel) (by decide +kernel), qmem 44 (by decide +kernel) (by decide +kernel)⟩
theorem mfX4_at : qMf mX4_at 1 := ⟨qmem 574 (by decide +kernel) (by decide +kernel), qmem 62 (by decide +kernel) (by decide +kernel), (by decide +kernel), (by decide +kernel), (by decide +kernel)⟩
theorem mvX4_at : qMv mX4_at := ⟨qmem 573 (by decide +kernel) (by decide +kernel), qmem 11 (by decide +kernel) (by decide +kernel)⟩
theorem mfX4_copyFrom : qMf mX4_copyFrom 1 := ⟨qmem 634 (by decide +kernel) (by decide +kernel), qmem 62 (by decide +kernel) (by decide +kernel), (by decide +kernel), (by decide +kernel), (by decide +kernel)⟩
theorem mvX4_copyFrom : qMv mX4_copyFrom := ⟨qmem 633 (by decide +kernel) (by decide +kernel), qmem 19 (by decide +kernel) (by decide +kernel)⟩
theorem mfX4_endFrom : qMf mX4_endFrom 1 := ⟨qmem 593 (by decide +kernel) (by decide +kernel), qmem 62 (by decide +kernel) (by decide +kernel), (by decide +kernel), (by decide +kernel), (by decide +kernel)⟩
theorem mvX4_endFrom : qMv mX4_endFrom := ⟨qmem 592 (by decide +kernel) (by decide +kernel), qmem 13 (by decide +kernel) (by decide +kernel)⟩
theorem mfX4_first : qMf mX4_first 0 := ⟨qmem 652 (by decide +kernel) (by decide +kernel), qmem 62 (by decide +kernel) (by decide +kernel), (by decide +kernel), (by decide +kernel), (by decide +kernel)⟩
theorem mvX4_first : qMv mX4_first := ⟨qmem 651 (by decide +kernel) (by decide +kernel), qmem 22 (by decide +kernel) (by decide +kernel)⟩
theorem mfX4_init : qMf mX4_init 0 := ⟨qmem 244 (by decide +kernel) (by decide +kernel), qmem 62 (by decide +kernel) (by decide +kernel), (by decide +kernel), (by decide +kernel), (by decide +kernel)⟩
theorem miX4_init : qMi mX4_init := ⟨qmem 243 (by decide +kernel) (by decide +kernel), (by decide +kernel), (by decide +kernel)⟩
theorem mfX4_last : qMf mX4_last 0 := ⟨qmem 790 (by decide +kernel) (by decide +kernel), qmem 62 (by decide +kernel) (by decide +kernel), (by decide +kernel), (by decide +kernel), (by decide +kernel)⟩
theorem mvX4_last : qMv mX4_last := ⟨qmem 789 (by decide +kernel) (by decide +kernel), qmem 43 (by decide +kernel) (by decide +kernel)⟩
theorem mfX5_fewestMoves : qMf mX5_fewestMoves 3 := ⟨qmem 745 (by decide +kernel) (by decide +kernel), qmem 64 (by decide +kernel) (by decide +kernel), (by decide +kernel), (by decide +kernel), (by decide +kernel)⟩
theorem mvX5_fewestMoves : qMv mX5_fewestMoves := ⟨qmem 744 (by decide +kernel) (by decide +kernel), qmem 36 (by decide +kernel) (by decide +kernel)⟩
theorem mfX5_init : qMf mX5_init 1 := ⟨qmem 343 (by decide +kernel) (by decide +kernel), qmem 64 (by decide +kernel) (by decide +kernel), (by decide +kernel), (by decide +kernel), (by decide +kernel)⟩
theorem miX5_init : qMi mX5_init := ⟨qmem 342 (by decide +kernel) (by decide +kernel), (by decide +kernel), (by decide +kernel)⟩
theorem mfX5_least : qMf mX5_least 4 := ⟨qmem 749 (by decide +kernel) (by decide +kernel), qmem 64 (by decide +kernel) (by decide +kernel), (by decide +kernel), (by decide +kernel), (by decide +kernel)⟩
theorem mvX5_least : qMv mX5_least := ⟨qmem 748 (by decide +kernel) (by decide +kernel), qmem 37 (by decide +kernel) (by decide +kernel)⟩
theorem mfX5_leastCharge : qMf mX5_leastCharge 3 := ⟨qmem 771 (by decide +kernel) (by decide +kernel), qmem 64 (by decide +kernel) (by decide +kernel), (by decide +kernel), (by decide +kernel), (by decide +kernel)⟩
theorem mvX5_leastCharge : qMv mX5_leastCharge := ⟨qmem 770 (by decide +kernel) (by decide +kernel), qmem 40 (by decide +kernel) (by decide +kernel)⟩
theorem mfX5_spread : qMf mX5_spread 3 := ⟨qmem 761 (by decide +kernel) (by decide +kernel), qmem 64 (by decide +kernel) (by decide +kernel), (by decide +kernel), (by decide +kernel), (by decide +kernel)⟩
theorem mvX5_spread : qMv mX5_spread := ⟨qmem 760 (by decide +kernel) (by decide +kernel), qmem 39 (by decide +kernel) (by decide +kernel)⟩
theorem mfX5_spreadAll : qMf mX5_spreadAll 1 := ⟨qmem 757 (by decide +kernel) (by decide +kernel), qmem 64 (by decide +kernel) (by decide +kernel), (by decide +kernel), (by decide +kernel), (by decide +kernel)⟩
theorem mvX5_spreadAll : qMv mX5_spreadAll := ⟨qmem 756 (by decide +kernel) (by decide +kernel), qmem 38 (by decide +kernel) (by decide +kernel)⟩
theorem mfX6_allBreaches : qMf mX6_allBreaches 0 := ⟨qmem 606 (by decide +kernel) (by decide +kernel), qmem 59 (by decide +kernel) (by decide +kernel), (by decide +kernel), (by decide +kernel), (by decide +kernel)⟩
theorem mvX6_allBreaches : qMv mX6_allBreaches := ⟨qmem 605 (by decide +kernel) (by decide +kernel), qmem 15 (by decide +kernel) (by decide +kernel)⟩
theorem mfX6_chargeIfLying : qMf mX6_chargeIfLying 1 := ⟨qmem 712 (by decide +kernel) (by decide +kernel), qmem 59 (by decide +kernel) (by decide +kernel), (by decide +kernel), (by decide +kernel), (by decide +kernel)⟩
theorem mvX6_chargeIfLying : qMv mX6_chargeIfLying := ⟨qmem 711 (by decide +kernel) (by decide +kernel), qmem 34 (by decide +kernel) (by decide +kernel)⟩
theorem mfX6_comeIn : qMf mX6_comeIn 1 := ⟨qmem 656 (by decide +kernel) (by decide +kernel), qmem 59 (by decide +kernel) (by decide +kernel), (by decide +kernel), (by decide +kernel), (by decide +kernel)⟩
theorem mvX6_comeIn : qMv mX6_comeIn := ⟨qmem 655 (by decide +kernel) (by decide +kernel), qmem 23 (by decide +kernel) (by decide +kernel)⟩
theorem mfX6_copyFrom : qMf mX6_copyFrom 1 := ⟨qmem 622 (by decide +kernel) (by decide +kernel), qmem 59 (by decide +kernel) (by decide +kernel), (by decide +kernel), (by decide +kernel), (by decide +kernel)⟩
theorem mvX6_copyFrom : qMv mX6_copyFrom := ⟨qmem 621 (by decide +kernel) (by decide +kernel), qmem 16 (by decide +kernel) (by decide +kernel)⟩
theorem mfX6_flightsIn : qMf mX6_flightsIn 1 := ⟨qmem 602 (by decide +kernel) (by decide +kernel), qmem 59 (by decide +kernel) (by decide +kernel), (by decide +kernel), (by decide +kernel), (by decide +kernel)⟩
theorem mvX6_flightsIn : qMv mX6_flightsIn := ⟨qmem 601 (by decide +kernel) (by decide +kernel), qmem 14 (by decide +kernel) (by decide +kernel)⟩
theorem mfX6_flyingIn : qMf mX6_flyingIn 1 := ⟨qmem 579 (by decide +kernel) (by decide +kernel), qmem 59 (by decide +kernel) (by decide +kernel), (by decide +kernel), (by decide +kernel), (by decide +kernel)⟩
theorem mvX6_flyingIn : qMv mX6_flyingIn := ⟨qmem 578 (by decide +kernel) (by decide +kernel), qmem 12 (by decide +kernel) (by decide +kernel)⟩
theorem mfX6_init : qMf mX6_init 1 := ⟨qmem 160 (by decide +kernel) (by decide +kernel), qmem 59 (by decide +kernel) (by decide +kernel), (by decide +kernel), (by decide +kernel), (by decide +kernel)⟩
theorem miX6_init : qMi mX6_init := ⟨qmem 159 (by decide +kernel) (by decide +kernel), (by decide +kernel), (by decide +kernel)⟩
theorem mfX6_isCraft : qMf mX6_isCraft 1 := ⟨qmem 532 (by decide +kernel) (by decide +kernel), qmem 59 (by decide +kernel) (by decide +kernel), (by decide +kernel), (by decide +kernel), (by decide +kernel)⟩
theorem mvX6_isCraft : qMv mX6_isCraft := ⟨qmem 531 (by decide +kernel) (by decide +kernel), qmem 4 (by decide +kernel) (by decide +kernel)⟩
theorem mfX6_isToMove : qMf mX6_isToMove 1 := ⟨qmem 669 (by decide +kernel) (by decide +kernel), qmem 59 (by decide +kernel) (by decide +kernel), (by decide +kernel), (by decide +kernel), (by decide +kernel)⟩
theorem mvX6_isToMove : qMv mX6_isToMove := ⟨qmem 668 (by decide +kernel) (by decide +kernel), qmem 26 (by decide +kernel) (by decide +kernel)⟩
theorem mfX6_move : qMf mX6_move 1 := ⟨qmem 673 (by decide +kernel) (by decide +kernel), qmem 59 (by decide +kernel) (by decide +kernel), (by decide +kernel), (by decide +kernel), (by decide +kernel)⟩
theorem mvX6_move : qMv mX6_move := ⟨qmem 672 (by decide +kernel) (by decide +kernel), qmem 27 (by decide +kernel) (by decide +kernel)⟩
theorem mfX6_movesInto : qMf mX6_movesInto 3 := ⟨qmem 682 (by decide +kernel) (by decide +kernel), qmem 59 (by decide +kernel) (by decide +kernel), (by decide +kernel), (by decide +kernel), (by decide +kernel)⟩
theorem mvX6_movesInto : qMv mX6_movesInto := ⟨qmem 681 (by decide +kernel) (by decide +kernel), qmem 29 (by decide +kernel) (by decide +kernel)⟩
theorem mfX6_pairsNear : qMf mX6_pairsNear 0 := ⟨qmem 708 (by decide +kernel) (by decide +kernel), qmem 59 (by decide +kernel) (by decide +kernel), (by decide +kernel), (by decide +kernel), (by decide +kernel)⟩
theorem mvX6_pairsNear : qMv mX6_pairsNear := ⟨qmem 707 (by decide +kernel) (by decide +kernel), qmem 33 (by decide +kernel) (by decide +kernel)⟩
theorem mfX6_play : qMf mX6_play 1 := ⟨qmem 642 (by decide +kernel) (by decide +kernel), qmem 59 (by decide +kernel) (by decide +kernel), (by decide +kernel), (by decide +kernel), (by decide +kernel)⟩
theorem mvX6_play : qMv mX6_play := ⟨qmem 641 (by decide +kernel) (by decide +kernel), qmem 20 (by decide +kernel) (by decide +kernel)⟩
theorem mfX6_startOrMissIfDue : qMf mX6_startOrMissIfDue 1 := ⟨qmem 647 (by decide +kernel) (by decide +kernel), qmem 59 (by decide +kernel) (by decide +kernel), (by decide +kernel), (by decide +kernel), (by decide +kernel)⟩
theorem mvX6_startOrMissIfDue : qMv mX6_startOrMissIfDue := ⟨qmem 646 (by decide +kernel) (by decide +kernel), qmem 21 (by decide +kernel) (by decide +kernel)⟩
theorem mfX7_init : qMf mX7_init 0 := ⟨qmem 95 (by decide +kernel) (by decide +kernel), qmem 58 (by decide +kernel) (by decide +kernel), (by decide +kernel), (by decide +kernel), (by decide +kernel)⟩
theorem miX7_init : qMi mX7_init := ⟨qmem 94 (by decide +kernel) (by decide +kernel), (by decide +kernel), (by decide +kernel)⟩
theorem mfX7_shuts : qMf mX7_shuts 3 := ⟨qmem 665 (by decide +kernel) (by decide +kernel), qmem 58 (by decide +kernel) (by decide +kernel), (by decide +kernel), (by decide +kernel), (by decide +kernel)⟩
theorem mvX7_shuts : qMv mX7_shuts := ⟨qmem 664 (by decide +kernel) (by decide +kernel), qmem 25 (by decide +kernel) (by decide +kernel)⟩
theorem mfX8_ask : qMf mX8_ask 2 := ⟨qmem 868 (by decide +kernel) (by decide +kernel), qmem 55 (by decide +kernel) (by decide +kernel), (by decide +kernel), (by decide +kernel), (by decide +kernel)⟩
theorem mvX8_ask : qMv mX8_ask := ⟨qmem 866 (by decide +kernel) (by decide +kernel), qmem 867 (by decide +kernel) (by decide +kernel)⟩
theorem mfX8_checkArgument : qMf mX8_checkArgument 1 := ⟨qmem 457 (by decide +kernel) (by decide +kernel), qmem 55 (by decide +kernel) (by decide +kernel), (by decide +kernel), (by decide +kernel), (by decide +kernel)⟩
theorem msX8_checkArgument : Cond.static mX8_checkArgument.1 ∈ qTBL := qmem 456 (by decide +kernel) (by decide +kernel)
theorem mfX8_checkCell : qMf mX8_checkCell 1 := ⟨qmem 380 (by decide +kernel) (by decide +kernel), qmem 55 (by decide +kernel) (by decide +kernel), (by decide +kernel), (by decide +kernel), (by decide +kernel)⟩
theorem msX8_checkCell : Cond.static mX8_checkCell.1 ∈ qTBL := qmem 379 (by decide +kernel) (by decide +kernel)
theorem mfX8_checkCraft : qMf mX8_checkCraft 1 := ⟨qmem 528 (by decide +kernel) (by decide +kernel), qmem 55 (by decide +kernel) (by decide +kernel), (by decide +kernel), (by decide +kernel), (by decide +kernel)⟩
theorem mvX8_checkCraft : qMv mX8_checkCraft := ⟨qmem 527 (by decide +kernel) (by decide +kernel), qmem 3 (by decide +kernel) (by decide +kernel)⟩
theorem mfX8_checkFlight : qMf mX8_checkFlight 1 := ⟨qmem 544 (by decide +kernel) (by decide +kernel), qmem 55 (by decide +kernel) (by decide +kernel), (by decide +kernel), (by decide +kernel), (by decide +kernel)⟩
theorem mvX8_checkFlight : qMv mX8_checkFlight := ⟨qmem 543 (by decide +kernel) (by decide +kernel), qmem 5 (by decide +kernel) (by decide +kernel)⟩
theorem mfX8_checkIndex : qMf mX8_checkIndex 1 := ⟨qmem 386 (by decide +kernel) (by decide +kernel), qmem 55 (by decide +kernel) (by decide +kernel), (by decide +kernel), (by decide +kernel), (by decide +kernel)⟩
theorem msX8_checkIndex : Cond.static mX8_checkIndex.1 ∈ qTBL := qmem 385 (by decide +kernel) (by decide +kernel)
theorem mfX8_checkMinutes : qMf mX8_checkMinutes 1 := ⟨qmem 618 (by decide +kernel) (by decide +kernel), qmem 55 (by decide +kernel) (by decide +kernel), (by decide +kernel), (by decide +kernel), (by decide +kernel)⟩
theorem msX8_checkMinutes : Cond.static mX8_checkMinutes.1 ∈ qTBL := qmem 617 (by decide +kernel) (by decide +kernel)
theorem mfX8_checkStart : qMf mX8_checkStart 1 := ⟨qmem 863 (by decide +kernel) (by decide +kernel), qmem 55 (by decide +kernel) (by decide +kernel), (by decide +kernel), (by decide +kernel), (by decide +kernel)⟩
theorem mvX8_checkStart : qMv mX8_checkStart := ⟨qmem 862 (by decide +kernel) (by decide +kernel), qmem 53 (by decide +kernel) (by decide +kernel)⟩
theorem mfX8_checkState : qMf mX8_checkState 1 := ⟨qmem 480 (by decide +kernel) (by decide +kernel), qmem 55 (by decide +kernel) (by decide +kernel), (by decide +kernel), (by decide +kernel), (by decide +kernel)⟩
theorem msX8_checkState : Cond.static mX8_checkState.1 ∈ qTBL := qmem 479 (by decide +kernel) (by decide +kernel)
theorem mfX8_clear : qMf mX8_clear 0 := ⟨qmem 851 (by decide +kernel) (by decide +kernel), qmem 55 (by decide +kernel) (by decide +kernel), (by decide +kernel), (by decide +kernel), (by decide +kernel)⟩
theorem mvX8_clear : qMv mX8_clear := ⟨qmem 849 (by decide +kernel) (by decide +kernel), qmem 850 (by decide +kernel) (by decide +kernel)⟩
theorem mfX8_cost : qMf mX8_cost 2 := ⟨qmem 767 (by decide +kernel) (by decide +kernel), qmem 55 (by decide +kernel) (by decide +kernel), (by decide +kernel), (by decide +kernel), (by decide +kernel)⟩
theorem mvX8_cost : qMv mX8_cost := ⟨qmem 765 (by decide +kernel) (by decide +kernel), qmem 766 (by decide +kernel) (by decide +kernel)⟩
theorem mfX8_craft : qMf mX8_craft 4 := ⟨qmem 520 (by decide +kernel) (by decide +kernel), qmem 55 (by decide +kernel) (by decide +kernel), (by decide +kernel), (by decide +kernel), (by decide +kernel)⟩
theorem mvX8_craft : qMv mX8_craft := ⟨qmem 518 (by decide +kernel) (by decide +kernel), qmem 519 (by decide +kernel) (by decide +kernel)⟩
theorem mfX8_digest : qMf mX8_digest 0 := ⟨qmem 719 (by decide +kernel) (by decide +kernel), qmem 55 (by decide +kernel) (by decide +kernel), (by decide +kernel), (by decide +kernel), (by decide +kernel)⟩
theorem mvX8_digest : qMv mX8_digest := ⟨qmem 717 (by decide +kernel) (by decide +kernel), qmem 718 (by decide +kernel) (by decide +kernel)⟩
theorem mfX8_draft : qMf mX8_draft 1 := ⟨qmem 855 (by decide +kernel) (by decide +kernel), qmem 55 (by decide +kernel) (by decide +kernel), (by decide +kernel), (by decide +kernel), (by decide +kernel)⟩
theorem mvX8_draft : qMv mX8_draft := ⟨qmem 853 (by decide +kernel) (by decide +kernel), qmem 854 (by decide +kernel) (by decide +kernel)⟩
theorem mfX8_fetch : qMf mX8_fetch 1 := ⟨qmem 536 (by decide +kernel) (by decide +kernel), qmem 55 (by decide +kernel) (by decide +kernel), (by decide +kernel), (by decide +kernel), (by decide +kernel)⟩
theorem mvX8_fetch : qMv mX8_fetch := ⟨qmem 534 (by decide +kernel) (by decide +kernel), qmem 535 (by decide +kernel) (by decide +kernel)⟩
theorem mfX8_houses : qMf mX8_houses 2 := ⟨qmem 377 (by decide +kernel) (by decide +kernel), qmem 55 (by decide +kernel) (by decide +kernel), (by decide +kernel), (by decide +kernel), (by decide +kernel)⟩
theorem mvX8_houses : qMv mX8_houses := ⟨qmem 375 (by decide +kernel) (by decide +kernel), qmem 376 (by decide +kernel) (by decide +kernel)⟩
theorem mfX8_init : qMf mX8_init 0 := ⟨qmem 77 (by decide +kernel) (by decide +kernel), qmem 55 (by decide +kernel) (by decide +kernel), (by decide +kernel), (by decide +kernel), (by decide +kernel)⟩
theorem miX8_init : qMi mX8_init := ⟨qmem 76 (by decide +kernel) (by decide +kernel), (by decide +kernel), (by decide +kernel)⟩
theorem mfX8_isCell : qMf mX8_isCell 1 := ⟨qmem 383 (by decide +kernel) (by decide +kernel), qmem 55 (by decide +kernel) (by decide +kernel), (by decide +kernel), (by decide +kernel), (by decide +kernel)⟩
theorem msX8_isCell : Cond.static mX8_isCell.1 ∈ qTBL := qmem 382 (by decide +kernel) (by decide +kernel)
theorem mfX8_link : qMf mX8_link 2 := ⟨qmem 524 (by decide +kernel) (by decide +kernel), qmem 55 (by decide +kernel) (by decide +kernel), (by decide +kernel), (by decide +kernel), (by decide +kernel)⟩
theorem mvX8_link : qMv mX8_link := ⟨qmem 522 (by decide +kernel) (by decide +kernel), qmem 523 (by decide +kernel) (by decide +kernel)⟩
theorem mfX8_many : qMf mX8_many 1 := ⟨qmem 598 (by decide +kernel) (by decide +kernel), qmem 55 (by decide +kernel) (by decide +kernel), (by decide +kernel), (by decide +kernel), (by decide +kernel)⟩
theorem mvX8_many : qMv mX8_many := ⟨qmem 596 (by decide +kernel) (by decide +kernel), qmem 597 (by decide +kernel) (by decide +kernel)⟩
theorem mfX8_meanCharge : qMf mX8_meanCharge 0 := ⟨qmem 611 (by decide +kernel) (by decide +kernel), qmem 55 (by decide +kernel) (by decide +kernel), (by decide +kernel), (by decide +kernel), (by decide +kernel)⟩
theorem mvX8_meanCharge : qMv mX8_meanCharge := ⟨qmem 609 (by decide +kernel) (by decide +kernel), qmem 610 (by decide +kernel) (by decide +kernel)⟩
theorem mfX8_mixed : qMf mX8_mixed 2 := ⟨qmem 724 (by decide +kernel) (by decide +kernel), qmem 55 (by decide +kernel) (by decide +kernel), (by decide +kernel), (by decide +kernel), (by decide +kernel)⟩
theorem msX8_mixed : Cond.static mX8_mixed.1 ∈ qTBL := qmem 723 (by decide +kernel) (by decide +kernel)
theorem mfX8_occupies : qMf mX8_occupies 2 := ⟨qmem 730 (by decide +kernel) (by decide +kernel), qmem 55 (by decide +kernel) (by decide +kernel), (by decide +kernel), (by decide +kernel), (by decide +kernel)⟩
theorem mvX8_occupies : qMv mX8_occupies := ⟨qmem 728 (by decide +kernel) (by decide +kernel), qmem 729 (by decide +kernel) (by decide +kernel)⟩
theorem mfX8_ofCell : qMf mX8_ofCell 2 := ⟨qmem 548 (by decide +kernel) (by decide +kernel), qmem 55 (by decide +kernel) (by decide +kernel), (by decide +kernel), (by decide +kernel), (by decide +kernel)⟩
theorem mvX8_ofCell : qMv mX8_ofCell := ⟨qmem 546 (by decide +kernel) (by decide +kernel), qmem 547 (by decide +kernel) (by decide +kernel)⟩
theorem mfX8_ofCraft : qMf mX8_ofCraft 2 := ⟨qmem 584 (by decide +kernel) (by decide +kernel), qmem 55 (by decide +kernel) (by decide +kernel), (by decide +kernel), (by decide +kernel), (by decide +kernel)⟩
theorem mvX8_ofCraft : qMv mX8_ofCraft := ⟨qmem 582 (by decide +kernel) (by decide +kernel), qmem 583 (by decide +kernel) (by decide +kernel)⟩
theorem mfX8_ofFlight : qMf mX8_ofFlight 2 := ⟨qmem 589 (by decide +kernel) (by decide +kernel), qmem 55 (by decide +kernel) (by decide +kernel), (by decide +kernel), (by decide +kernel), (by decide +kernel)⟩
theorem mvX8_ofFlight : qMv mX8_ofFlight := ⟨qmem 587 (by decide +kernel) (by decide +kernel), qmem 588 (by decide +kernel) (by decide +kernel)⟩
theorem mfX8_pad : qMf mX8_pad 1 := ⟨qmem 500 (by decide +kernel) (by decide +kernel), qmem 55 (by decide +kernel) (by decide +kernel), (by decide +kernel), (by decide +kernel), (by decide +kernel)⟩
theorem mvX8_pad : qMv mX8_pad := ⟨qmem 498 (by decide +kernel) (by decide +kernel), qmem 499 (by decide +kernel) (by decide +kernel)⟩
theorem mfX8_pass : qMf mX8_pass 1 := ⟨qmem 880 (by decide +kernel) (by decide +kernel), qmem 55 (by decide +kernel) (by decide +kernel), (by decide +kernel), (by decide +kernel), (by decide +kernel)⟩
theorem mvX8_pass : qMv mX8_pass := ⟨qmem 878 (by decide +kernel) (by decide +kernel), qmem 879 (by decide +kernel) (by decide +kernel)⟩
theorem mfX8_soonest : qMf mX8_soonest 1 := ⟨qmem 796 (by decide +kernel) (by decide +kernel), qmem 55 (by decide +kernel) (by decide +kernel), (by decide +kernel), (by decide +kernel), (by decide +kernel)⟩
theorem mvX8_soonest : qMv mX8_soonest := ⟨qmem 794 (by decide +kernel) (by decide +kernel), qmem 795 (by decide +kernel) (by decide +kernel)⟩
theorem mfX8_tower : qMf mX8_tower 2 := ⟨qmem 477 (by decide +kernel) (by decide +kernel), qmem 55 (by decide +kernel) (by decide +kernel), (by decide +kernel), (by decide +kernel), (by decide +kernel)⟩
theorem mvX8_tower : qMv mX8_tower := ⟨qmem 475 (by decide +kernel) (by decide +kernel), qmem 476 (by decide +kernel) (by decide +kernel)⟩
theorem mfX8_way : qMf mX8_way 2 := ⟨qmem 741 (by decide +kernel) (by decide +kernel), qmem 55 (by decide +kernel) (by decide +kernel), (by decide +kernel), (by decide +kernel), (by decide +kernel)⟩
theorem mvX8_way : qMv mX8_way := ⟨qmem 739 (by decide +kernel) (by decide +kernel), qmem 740 (by decide +kernel) (by decide +kernel)⟩
theorem mfX8_why : qMf mX8_why 2 := ⟨qmem 859 (by decide +kernel) (by decide +kernel), qmem 55 (by decide +kernel) (by decide +kernel), (by decide +kernel), (by decide +kernel), (by decide +kernel)⟩
theorem mvX8_why : qMv mX8_why := ⟨qmem 857 (by decide +kernel) (by decide +kernel), qmem 858 (by decide +kernel) (by decide +kernel)⟩
theorem mfX8_wind : qMf mX8_wind 2 := ⟨qmem 516 (by decide +kernel) (by decide +kernel), qmem 55 (by decide +kernel) (by decide +kernel), (by decide +kernel), (by decide +kernel), (by decide +kernel)⟩
theorem mvX8_wind : qMv mX8_wind := ⟨qmem 514 (by decide +kernel) (by decide +kernel), qmem 515 (by decide +kernel) (by decide +kernel)⟩
theorem mfX8_withdraw : qMf mX8_withdraw 1 := ⟨qmem 540 (by decide +kernel) (by decide +kernel), qmem 55 (by decide +kernel) (by decide +kernel), (by decide +kernel), (by decide +kernel), (by decide +kernel)⟩
theorem mvX8_withdraw : qMv mX8_withdraw := ⟨qmem 538 (by decide +kernel) (by decide +kernel), qmem 539 (by decide +kernel) (by decide +kernel)⟩
theorem mfX8_wouldHave : qMf mX8_wouldHave 2 := ⟨qmem 775 (by decide +kernel) (by decide +kernel), qmem 55 (by decide +kernel) (by decide +kernel), (by decide +kernel), (by decide +kernel), (by decide +kernel)⟩
theorem mvX8_wouldHave : qMv mX8_wouldHave := ⟨qmem 773 (by decide +kernel) (by decide +kernel), qmem 774 (by decide +kernel) (by decide +kernel)⟩
theorem mfX8_wouldNear : qMf mX8_wouldNear 1 := ⟨qmem 615 (by decide +kernel) (by decide +kernel), qmem 55 (by decide +kernel) (by decide +kernel), (by decide +kernel), (by decide +kernel), (by decide +kernel)⟩
theorem mvX8_wouldNear : qMv mX8_wouldNear := ⟨qmem 613 (by decide +kernel) (by decide +kernel), qmem 614 (by decide +kernel) (by decide +kernel)⟩
theorem mfX8_zone : qMf mX8_zone 4 := ⟨qmem 508 (by decide +kernel) (by decide +kernel), qmem 55 (by decide +kernel) (by decide +kernel), (by decide +kernel), (by decide +kernel), (by decide +kernel)⟩
theorem mvX8_zone : qMv mX8_zone := ⟨qmem 506 (by decide +kernel) (by decide +kernel), qmem 507 (by decide +kernel) (by decide +kernel)⟩
theorem mkX8_130 : qLM RX8 130 mX8_checkCraft := Or.inl (qmem 525 (by decide +kernel) (by decide +kernel))
theorem mkX8_146 : qLM RX8 146 mX8_checkStart := Or.inl (qmem 860 (by decide +kernel) (by decide +kernel))
theorem mkX8_149 : qLM RX8 149 mX2_isWayFromPadToPad := Or.inr ⟨"LowAir", qmem 778 (by decide +kernel) (by decide +kernel)⟩
theorem mkX8_156 : qLM RX8 156 mX3_reasonAgainst := Or.inr ⟨"LowAir", qmem 797 (by decide +kernel) (by decide +kernel)⟩
theorem mkX8_176 : qLM RX8 176 mX4_copyFrom := Or.inr ⟨"LowAir", qmem 869 (by decide +kernel) (by decide +kernel)⟩
theorem mkX8_18 : qLM RX8 18 mX6_init := Or.inr ⟨"LowAir", qmem 158 (by decide +kernel) (by decide +kernel)⟩
theorem mkX8_180 : qLM RX8 180 mX8_checkFlight := Or.inl (qmem 541 (by decide +kernel) (by decide +kernel))
theorem mkX8_183 : qLM RX8 183 mX8_checkMinutes := Or.inl (qmem 616 (by decide +kernel) (by decide +kernel))
theorem mkX8_189 : qLM RX8 189 mX6_flightsIn := Or.inr ⟨"LowAir", qmem 599 (by decide +kernel) (by decide +kernel)⟩
theorem mkX8_192 : qLM RX8 192 mX6_play := Or.inr ⟨"LowAir", qmem 639 (by decide +kernel) (by decide +kernel)⟩
theorem mkX8_198 : qLM RX8 198 mX3_plannedNoise := Or.inr ⟨"LowAir", qmem 549 (by decide +kernel) (by decide +kernel)⟩
theorem mkX8_202 : qLM RX8 202 mX6_flyingIn := Or.inr ⟨"LowAir", qmem 576 (by decide +kernel) (by decide +kernel)⟩
theorem mkX8_220 : qLM RX8 220 mX4_endFrom := Or.inr ⟨"LowAir", qmem 590 (by decide +kernel) (by decide +kernel)⟩
theorem mkX8_225 : qLM RX8 225 mX1_isAhead := Or.inr ⟨"LowAir", qmem 731 (by decide +kernel) (by decide +kernel)⟩
theorem mkX8_229 : qLM RX8 229 mX1_occupiesIn := Or.inr ⟨"LowAir", qmem 732 (by decide +kernel) (by decide +kernel)⟩
theorem mkX8_236 : qLM RX8 236 mX6_allBreaches := Or.inr ⟨"LowAir", qmem 603 (by decide +kernel) (by decide +kernel)⟩
theorem mkX8_245 : qLM RX8 245 mX5_fewestMoves := Or.inr ⟨"LowAir", qmem 742 (by decide +kernel) (by decide +kernel)⟩
theorem mkX8_249 : qLM RX8 249 mX5_leastCharge := Or.inr ⟨"LowAir", qmem 768 (by decide +kernel) (by decide +kernel)⟩
theorem mkX8_252 : qLM RX8 252 mX6_copyFrom := Or.inr ⟨"LowAir", qmem 619 (by decide +kernel) (by decide +kernel)⟩
theorem mkX8_257 : qLM RX8 257 mX8_many := Or.inl (qmem 721 (by decide +kernel) (by decide +kernel))
theorem mkX8_260 : qLM RX8 260 mX8_mixed := Or.inl (qmem 722 (by decide +kernel) (by decide +kernel))
theorem mkX8_264 : qLM RX8 264 mX8_ofCell := Or.inl (qmem 726 (by decide +kernel) (by decide +kernel))
theorem mkX8_267 : qLM RX8 267 mX8_occupies := Or.inl (qmem 727 (by decide +kernel) (by decide +kernel))
theorem mkX8_270 : qLM RX8 270 mX8_ofCraft := Or.inl (qmem 737 (by decide +kernel) (by decide +kernel))
theorem mkX8_273 : qLM RX8 273 mX8_way := Or.inl (qmem 738 (by decide +kernel) (by decide +kernel))
theorem mkX8_276 : qLM RX8 276 mX8_cost := Or.inl (qmem 764 (by decide +kernel) (by decide +kernel))
theorem mkX8_279 : qLM RX8 279 mX8_wouldHave := Or.inl (qmem 772 (by decide +kernel) (by decide +kernel))
theorem mkX8_282 : qLM RX8 282 mX8_ofFlight := Or.inl (qmem 776 (by decide +kernel) (by decide +kernel))
theorem mkX8_285 : qLM RX8 285 mX8_wouldNear := Or.inl (qmem 777 (by decide +kernel) (by decide +kernel))
theorem mkX8_288 : qLM RX8 288 mX8_soonest := Or.inl (qmem 793 (by decide +kernel) (by decide +kernel))
theorem mkX8_30 : qLM RX8 30 mX4_init := Or.inr ⟨"LowAir", qmem 322 (by decide +kernel) (by decide +kernel)⟩
theorem mkX8_305 : qLM RX8 305 mX8_isCell := Or.inl (qmem 381 (by decide +kernel) (by decide +kernel))
theorem mkX8_309 : qLM RX8 309 mX6_isCraft := Or.inr ⟨"LowAir", qmem 529 (by decide +kernel) (by decide +kernel)⟩
theorem mkX8_37 : qLM RX8 37 mX3_init := Or.inr ⟨"LowAir", qmem 325 (by decide +kernel) (by decide +kernel)⟩
theorem mkX8_46 : qLM RX8 46 mX5_init := Or.inr ⟨"LowAir", qmem 341 (by decide +kernel) (by decide +kernel)⟩
theorem mkX8_51 : qLM RX8 51 mX8_checkCell := Or.inl (qmem 378 (by decide +kernel) (by decide +kernel))
theorem mkX8_55 : qLM RX8 55 mX8_checkArgument := Or.inl (qmem 455 (by decide +kernel) (by decide +kernel))
theorem mkX8_66 : qLM RX8 66 mX8_checkState := Or.inl (qmem 478 (by decide +kernel) (by decide +kernel))
theorem mkX8_77 : qLM RX8 77 mX2_addPad := Or.inr ⟨"LowAir", qmem 501 (by decide +kernel) (by decide +kernel)⟩
theorem mkX8_84 : qLM RX8 84 mX2_addZone := Or.inr ⟨"LowAir", qmem 509 (by decide +kernel) (by decide +kernel)⟩
theorem mkX8_9 : qLM RX8 9 mX2_init := Or.inr ⟨"LowAir", qmem 83 (by decide +kernel) (by decide +kernel)⟩
theorem mkX8_94 : qLM RX8 94 mX8_checkIndex := Or.inl (qmem 384 (by decide +kernel) (by decide +kernel))
theorem mkX1_11 : qLM RX1 11 mX4_init := Or.inr ⟨"LowAir", qmem 242 (by decide +kernel) (by decide +kernel)⟩
theorem mkX1_28 : qLM RX1 28 mX4_copyFrom := Or.inr ⟨"LowAir", qmem 631 (by decide +kernel) (by decide +kernel)⟩
theorem mkX1_32 : qLM RX1 32 mX1_isAhead := Or.inl (qmem 562 (by decide +kernel) (by decide +kernel))
theorem mkX1_39 : qLM RX1 39 mX4_at := Or.inr ⟨"LowAir", qmem 736 (by decide +kernel) (by decide +kernel)⟩
theorem mkX1_43 : qLM RX1 43 mX4_endFrom := Or.inr ⟨"LowAir", qmem 819 (by decide +kernel) (by decide +kernel)⟩
theorem mkX2_102 : qLM RX2 102 mX2_costOfMove := Or.inl (qmem 832 (by decide +kernel) (by decide +kernel))
theorem mkX2_31 : qLM RX2 31 mJ7_fill := Or.inl (qmem 89 (by decide +kernel) (by decide +kernel))
theorem mkX2_37 : qLM RX2 37 mX7_init := Or.inr ⟨"LowAir", qmem 93 (by decide +kernel) (by decide +kernel)⟩
theorem mkX2_57 : qLM RX2 57 mX7_shuts := Or.inr ⟨"LowAir", qmem 662 (by decide +kernel) (by decide +kernel)⟩
theorem mkX2_61 : qLM RX2 61 mX8_isCell := Or.inr ⟨"LowAir", qmem 686 (by decide +kernel) (by decide +kernel)⟩
theorem mkX2_70 : qLM RX2 70 mX4_first := Or.inr ⟨"LowAir", qmem 782 (by decide +kernel) (by decide +kernel)⟩
theorem mkX2_74 : qLM RX2 74 mX2_hasPad := Or.inl (qmem 783 (by decide +kernel) (by decide +kernel))
theorem mkX2_77 : qLM RX2 77 mX4_last := Or.inr ⟨"LowAir", qmem 787 (by decide +kernel) (by decide +kernel)⟩
theorem mkX2_80 : qLM RX2 80 mX4_at := Or.inr ⟨"LowAir", qmem 791 (by decide +kernel) (by decide +kernel)⟩
theorem mkX2_84 : qLM RX2 84 mX2_directionTo := Or.inl (qmem 792 (by decide +kernel) (by decide +kernel))
theorem mkX2_88 : qLM RX2 88 mX2_neighbour := Or.inl (qmem 687 (by decide +kernel) (by decide +kernel))
theorem mkX3_103 : qLM RX3 103 mX1_meets := Or.inr ⟨"LowAir", qmem 820 (by decide +kernel) (by decide +kernel)⟩
theorem mkX3_106 : qLM RX3 106 mX3_planDay := Or.inl (qmem 553 (by decide +kernel) (by decide +kernel))
theorem mkX3_110 : qLM RX3 110 mX3_plan := Or.inl (qmem 567 (by decide +kernel) (by decide +kernel))
theorem mkX3_114 : qLM RX3 114 mJ7_fill := Or.inl (qmem 557 (by decide +kernel) (by decide +kernel))
theorem mkX3_120 : qLM RX3 120 mX1_isPlannedOn := Or.inr ⟨"LowAir", qmem 558 (by decide +kernel) (by decide +kernel)⟩
theorem mkX3_123 : qLM RX3 123 mX6_isCraft := Or.inr ⟨"LowAir", qmem 566 (by decide +kernel) (by decide +kernel)⟩
theorem mkX3_29 : qLM RX3 29 mX3_meetsTower := Or.inl (qmem 801 (by decide +kernel) (by decide +kernel))
theorem mkX3_33 : qLM RX3 33 mX3_meetsZone := Or.inl (qmem 805 (by decide +kernel) (by decide +kernel))
theorem mkX3_37 : qLM RX3 37 mX3_meetsOthers := Or.inl (qmem 810 (by decide +kernel) (by decide +kernel))
theorem mkX3_41 : qLM RX3 41 mX3_meetsItself := Or.inl (qmem 824 (by decide +kernel) (by decide +kernel))
theorem mkX3_44 : qLM RX3 44 mX2_costOfRoute := Or.inr ⟨"LowAir", qmem 828 (by decide +kernel) (by decide +kernel)⟩
theorem mkX3_56 : qLM RX3 56 mX3_isTooLoud := Or.inl (qmem 833 (by decide +kernel) (by decide +kernel))
theorem mkX3_64 : qLM RX3 64 mX4_at := Or.inr ⟨"LowAir", qmem 571 (by decide +kernel) (by decide +kernel)⟩
theorem mkX3_68 : qLM RX3 68 mX8_isCell := Or.inr ⟨"LowAir", qmem 575 (by decide +kernel) (by decide +kernel)⟩
theorem mkX3_79 : qLM RX3 79 mX2_isShut := Or.inr ⟨"LowAir", qmem 809 (by decide +kernel) (by decide +kernel)⟩
theorem mkX3_95 : qLM RX3 95 mX1_isAhead := Or.inr ⟨"LowAir", qmem 814 (by decide +kernel) (by decide +kernel)⟩
theorem mkX3_99 : qLM RX3 99 mX1_isCloseInTime := Or.inr ⟨"LowAir", qmem 815 (by decide +kernel) (by decide +kernel)⟩
theorem mkX5_23 : qLM RX5 23 mX5_least := Or.inl (qmem 746 (by decide +kernel) (by decide +kernel))
theorem mkX5_38 : qLM RX5 38 mX2_isShut := Or.inr ⟨"LowAir", qmem 750 (by decide +kernel) (by decide +kernel)⟩
theorem mkX5_43 : qLM RX5 43 mJ7_fill := Or.inl (qmem 752 (by decide +kernel) (by decide +kernel))
theorem mkX5_52 : qLM RX5 52 mX8_isCell := Or.inr ⟨"LowAir", qmem 753 (by decide +kernel) (by decide +kernel)⟩
theorem mkX5_56 : qLM RX5 56 mX5_spreadAll := Or.inl (qmem 754 (by decide +kernel) (by decide +kernel))
theorem mkX5_60 : qLM RX5 60 mX5_spread := Or.inl (qmem 758 (by decide +kernel) (by decide +kernel))
theorem mkX5_64 : qLM RX5 64 mX2_neighbour := Or.inr ⟨"LowAir", qmem 762 (by decide +kernel) (by decide +kernel)⟩
theorem mkX5_68 : qLM RX5 68 mX2_costOfMove := Or.inr ⟨"LowAir", qmem 763 (by decide +kernel) (by decide +kernel)⟩
theorem mkX6_107 : qLM RX6 107 mX4_first := Or.inr ⟨"LowAir", qmem 649 (by decide +kernel) (by decide +kernel)⟩
theorem mkX6_122 : qLM RX6 122 mX6_comeIn := Or.inl (qmem 653 (by decide +kernel) (by decide +kernel))
theorem mkX6_125 : qLM RX6 125 mX0_nextCellHome := Or.inr ⟨"LowAir", qmem 674 (by decide +kernel) (by decide +kernel)⟩
theorem mkX6_128 : qLM RX6 128 mX4_at := Or.inr ⟨"LowAir", qmem 678 (by decide +kernel) (by decide +kernel)⟩
theorem mkX6_132 : qLM RX6 132 mX6_movesInto := Or.inl (qmem 679 (by decide +kernel) (by decide +kernel))
theorem mkX6_139 : qLM RX6 139 mX0_landAt := Or.inr ⟨"LowAir", qmem 701 (by decide +kernel) (by decide +kernel)⟩
theorem mkX6_145 : qLM RX6 145 mX2_directionTo := Or.inr ⟨"LowAir", qmem 683 (by decide +kernel) (by decide +kernel)⟩
theorem mkX6_151 : qLM RX6 151 mX2_costOfMove := Or.inr ⟨"LowAir", qmem 690 (by decide +kernel) (by decide +kernel)⟩
theorem mkX6_154 : qLM RX6 154 mX8_isCell := Or.inr ⟨"LowAir", qmem 657 (by decide +kernel) (by decide +kernel)⟩
theorem mkX6_157 : qLM RX6 157 mX0_goDown := Or.inr ⟨"LowAir", qmem 697 (by decide +kernel) (by decide +kernel)⟩
theorem mkX6_169 : qLM RX6 169 mX2_isShut := Or.inr ⟨"LowAir", qmem 658 (by decide +kernel) (by decide +kernel)⟩
theorem mkX6_31 : qLM RX6 31 mX0_init := Or.inr ⟨"LowAir", qmem 167 (by decide +kernel) (by decide +kernel)⟩
theorem mkX6_32 : qLM RX6 32 mX1_init := Or.inr ⟨"LowAir", qmem 236 (by decide +kernel) (by decide +kernel)⟩
theorem mkX6_37 : qLM RX6 37 mX0_copyFrom := Or.inr ⟨"LowAir", qmem 623 (by decide +kernel) (by decide +kernel)⟩
theorem mkX6_44 : qLM RX6 44 mX1_copyFrom := Or.inr ⟨"LowAir", qmem 627 (by decide +kernel) (by decide +kernel)⟩
theorem mkX6_62 : qLM RX6 62 mJ7_fill := Or.inl (qmem 643 (by decide +kernel) (by decide +kernel))
theorem mkX6_68 : qLM RX6 68 mX6_startOrMissIfDue := Or.inl (qmem 644 (by decide +kernel) (by decide +kernel))
theorem mkX6_72 : qLM RX6 72 mX6_isToMove := Or.inl (qmem 666 (by decide +kernel) (by decide +kernel))
theorem mkX6_76 : qLM RX6 76 mX6_move := Or.inl (qmem 670 (by decide +kernel) (by decide +kernel))
theorem mkX6_79 : qLM RX6 79 mX6_pairsNear := Or.inl (qmem 705 (by decide +kernel) (by decide +kernel))
theorem mkX6_83 : qLM RX6 83 mX6_chargeIfLying := Or.inl (qmem 709 (by decide +kernel) (by decide +kernel))
theorem mkX6_95 : qLM RX6 95 mX6_isCraft := Or.inl (qmem 648 (by decide +kernel) (by decide +kernel))
theorem mkL_104 : qLM RL 104 mX8_wouldHave := Or.inl (qmem 876 (by decide +kernel) (by decide +kernel))
theorem mkL_107 : qLM RL 107 mX8_pass := Or.inl (qmem 877 (by decide +kernel) (by decide +kernel))
theorem mkL_11 : qLM RL 11 mX8_init := Or.inl (qmem 75 (by decide +kernel) (by decide +kernel))
theorem mkL_12 : qLM RL 12 mX8_pad := Or.inl (qmem 497 (by decide +kernel) (by decide +kernel))
theorem mkL_16 : qLM RL 16 mL_cell := Or.inl (qmem 841 (by decide +kernel) (by decide +kernel))
theorem mkL_22 : qLM RL 22 mL_below := Or.inl (qmem 837 (by decide +kernel) (by decide +kernel))
theorem mkL_26 : qLM RL 26 mX8_craft := Or.inl (qmem 517 (by decide +kernel) (by decide +kernel))
theorem mkL_30 : qLM RL 30 mX8_houses := Or.inl (qmem 374 (by decide +kernel) (by decide +kernel))
theorem mkL_33 : qLM RL 33 mX8_wind := Or.inl (qmem 513 (by decide +kernel) (by decide +kernel))
theorem mkL_36 : qLM RL 36 mX8_many := Or.inl (qmem 595 (by decide +kernel) (by decide +kernel))
theorem mkL_39 : qLM RL 39 mX8_zone := Or.inl (qmem 505 (by decide +kernel) (by decide +kernel))
theorem mkL_42 : qLM RL 42 mX8_ofCell := Or.inl (qmem 545 (by decide +kernel) (by decide +kernel))
theorem mkL_45 : qLM RL 45 mX8_tower := Or.inl (qmem 474 (by decide +kernel) (by decide +kernel))
theorem mkL_49 : qLM RL 49 mX8_ofCraft := Or.inl (qmem 581 (by decide +kernel) (by decide +kernel))
theorem mkL_52 : qLM RL 52 mX8_link := Or.inl (qmem 521 (by decide +kernel) (by decide +kernel))
theorem mkL_55 : qLM RL 55 mX8_fetch := Or.inl (qmem 533 (by decide +kernel) (by decide +kernel))
theorem mkL_58 : qLM RL 58 mL_isAsked := Or.inl (qmem 845 (by decide +kernel) (by decide +kernel))
theorem mkL_62 : qLM RL 62 mX8_ofFlight := Or.inl (qmem 586 (by decide +kernel) (by decide +kernel))
theorem mkL_65 : qLM RL 65 mX8_withdraw := Or.inl (qmem 537 (by decide +kernel) (by decide +kernel))
theorem mkL_68 : qLM RL 68 mL_isPassed := Or.inl (qmem 871 (by decide +kernel) (by decide +kernel))
theorem mkL_72 : qLM RL 72 mX8_digest := Or.inl (qmem 716 (by decide +kernel) (by decide +kernel))
theorem mkL_76 : qLM RL 76 mX8_wouldNear := Or.inl (qmem 612 (by decide +kernel) (by decide +kernel))
theorem mkL_79 : qLM RL 79 mX8_meanCharge := Or.inl (qmem 608 (by decide +kernel) (by decide +kernel))
theorem mkL_83 : qLM RL 83 mX8_clear := Or.inl (qmem 848 (by decide +kernel) (by decide +kernel))
theorem mkL_87 : qLM RL 87 mX8_draft := Or.inl (qmem 852 (by decide +kernel) (by decide +kernel))
theorem mkL_90 : qLM RL 90 mX8_why := Or.inl (qmem 856 (by decide +kernel) (by decide +kernel))
theorem mkL_93 : qLM RL 93 mX8_soonest := Or.inl (qmem 864 (by decide +kernel) (by decide +kernel))
theorem mkL_96 : qLM RL 96 mX8_ask := Or.inl (qmem 865 (by decide +kernel) (by decide +kernel))
theorem mkL_99 : qLM RL 99 mX8_occupies := Or.inl (qmem 870 (by decide +kernel) (by decide +kernel))
theorem cnX8 : Cond.initialized RX8 ∈ qTBL := qmem 55 (by decide +kernel) (by decide +kernel)
theorem cnX2 : Cond.initialized RX2 ∈ qTBL := qmem 56 (by decide +kernel) (by decide +kernel)
theorem cnX7 : Cond.initialized RX7 ∈ qTBL := qmem 58 (by decide +kernel) (by decide +kernel)
theorem cnX6 : Cond.initialized RX6 ∈ qTBL := qmem 59 (by decide +kernel) (by decide +kernel)
theorem cnX0 : Cond.initialized RX0 ∈ qTBL := qmem 60 (by decide +kernel) (by decide +kernel)
theorem cnX1 : Cond.initialized RX1 ∈ qTBL := qmem 61 (by decide +kernel) (by decide +kernel)
theorem cnX4 : Cond.initialized RX4 ∈ qTBL := qmem 62 (by decide +kernel) (by decide +kernel)
theorem cnX3 : Cond.initialized RX3 ∈ qTBL := qmem 63 (by decide +kernel) (by decide +kernel)
theorem cnX5 : Cond.initialized RX5 ∈ qTBL := qmem 64 (by decide +kernel) (by decide +kernel)
theorem ckL_9 : Cond.classLink RL 9 "LowAir" ∈ qTBL := qmem 73 (by decide +kernel) (by decide +kernel)
theorem ciX8 : Cond.instantiable RX8 6 ∈ qTBL := qmem 74 (by decide +kernel) (by decide +kernel)
theorem ckX8_7 : Cond.classLink RX8 7 "LowAir$Ground" ∈ qTBL := qmem 81 (by decide +kernel) (by decide +kernel)
theorem ciX2 : Cond.instantiable RX2 9 ∈ qTBL := qmem 82 (by decide +kernel) (by decide +kernel)
theorem ckX2_25 : Cond.classLink RX2 25 "LowAir$Zone" ∈ qTBL := qmem 87 (by decide +kernel) (by decide +kernel)
theorem ciX7 : Cond.instantiable RX7 4 ∈ qTBL := qmem 92 (by decide +kernel) (by decide +kernel)
theorem ai : Cond.arrayClass FieldType.int ∈ qTBL := qmem 114 (by decide +kernel) (by decide +kernel)
theorem az : Cond.arrayClass FieldType.boolean ∈ qTBL := qmem 115 (by decide +kernel) (by decide +kernel)
theorem ckX8_16 : Cond.classLink RX8 16 "LowAir$Sky" ∈ qTBL := qmem 156 (by decide +kernel) (by decide +kernel)
theorem ciX6 : Cond.instantiable RX6 9 ∈ qTBL := qmem 157 (by decide +kernel) (by decide +kernel)
theorem ckX6_9 : Cond.classLink RX6 9 "LowAir$Craft" ∈ qTBL := qmem 162 (by decide +kernel) (by decide +kernel)
theorem ckX6_17 : Cond.classLink RX6 17 "LowAir$Flight" ∈ qTBL := qmem 164 (by decide +kernel) (by decide +kernel)
theorem ciX0 : Cond.instantiable RX0 12 ∈ qTBL := qmem 166 (by decide +kernel) (by decide +kernel)
theorem ciX1 : Cond.instantiable RX1 4 ∈ qTBL := qmem 235 (by decide +kernel) (by decide +kernel)
theorem ckX1_9 : Cond.classLink RX1 9 "LowAir$Route" ∈ qTBL := qmem 240 (by decide +kernel) (by decide +kernel)
theorem ciX4 : Cond.instantiable RX4 2 ∈ qTBL := qmem 241 (by decide +kernel) (by decide +kernel)
theorem ckX8_28 : Cond.classLink RX8 28 "LowAir$Route" ∈ qTBL := qmem 321 (by decide +kernel) (by decide +kernel)
theorem ckX8_35 : Cond.classLink RX8 35 "LowAir$Judge" ∈ qTBL := qmem 323 (by decide +kernel) (by decide +kernel)
theorem ciX3 : Cond.instantiable RX3 3 ∈ qTBL := qmem 324 (by decide +kernel) (by decide +kernel)
theorem ckX8_44 : Cond.classLink RX8 44 "LowAir$Search" ∈ qTBL := qmem 339 (by decide +kernel) (by decide +kernel)
theorem ciX5 : Cond.instantiable RX5 3 ∈ qTBL := qmem 340 (by decide +kernel) (by decide +kernel)
theorem ckX8_293 : Cond.classLink RX8 293 "java/lang/IndexOutOfBoundsException" ∈ qTBL := qmem 387 (by decide +kernel) (by decide +kernel)
theorem ax : Cond.arrayClass FieldType.byte ∈ qTBL := qmem 454 (by decide +kernel) (by decide +kernel)
theorem ckX8_205 : Cond.classLink RX8 205 "java/lang/IllegalArgumentException" ∈ qTBL := qmem 458 (by decide +kernel) (by decide +kernel)
theorem ckX8_300 : Cond.classLink RX8 300 "java/lang/IllegalStateException" ∈ qTBL := qmem 481 (by decide +kernel) (by decide +kernel)
theorem kkX8_255 : Cond.constantLong RX8 255 (4813 : Int64) ∈ qTBL := qmem 720 (by decide +kernel) (by decide +kernel)
theorem kkX8_291 : Cond.constantLong RX8 291 (31 : Int64) ∈ qTBL := qmem 725 (by decide +kernel) (by decide +kernel)
theorem kkX5_42 : Cond.constant RX5 42 (1000000 : Int32) ∈ qTBL := qmem 751 (by decide +kernel) (by decide +kernel)
theorem kkL_7 : Cond.constant RL 7 (2147483647 : Int32) ∈ qTBL := qmem 840 (by decide +kernel) (by decide +kernel)
theorem kkL_8 : Cond.constant RL 8 (790386105 : Int32) ∈ qTBL := qmem 844 (by decide +kernel) (by decide +kernel)
theorem ckL_102 : Cond.classLink RL 102 "[I" ∈ qTBL := qmem 874 (by decide +kernel) (by decide +kernel)
theorem ls_max : Cond.static Lib.Math.max.name ∈ qTBL := qmem 695 (by decide +kernel) (by decide +kernel)
theorem lc_max : Cond.code Lib.Math.max.name Lib.Math.max.code 2 (some .int) ∈ qTBL := qmem 696 (by decide +kernel) (by decide +kernel)
theorem ls_min : Cond.static Lib.Math.min.name ∈ qTBL := qmem 714 (by decide +kernel) (by decide +kernel)
theorem lc_min : Cond.code Lib.Math.min.name Lib.Math.min.code 2 (some .int) ∈ qTBL := qmem 715 (by decide +kernel) (by decide +kernel)
theorem ls_abs : Cond.static Lib.Math.abs.name ∈ qTBL := qmem 882 (by decide +kernel) (by decide +kernel)
theorem lc_abs : Cond.code Lib.Math.abs.name Lib.Math.abs.code 1 (some .int) ∈ qTBL := qmem 883 (by decide +kernel) (by decide +kernel)
theorem ln_Math : Cond.initialized "java/lang/Math" ∈ qTBL := qmem 71 (by decide +kernel) (by decide +kernel)
theorem ln_System : Cond.initialized "java/lang/System" ∈ qTBL := qmem 72 (by decide +kernel) (by decide +kernel)
theorem ls_copy : Cond.static arraycopyName ∈ qTBL := qmem 636 (by decide +kernel) (by decide +kernel)
theorem lna_copy : Cond.native arraycopyName ∈ qTBL := qmem 637 (by decide +kernel) (by decide +kernel)
theorem li_obj : Cond.instanceMethod Lib.objectInit ∈ qTBL := qmem 79 (by decide +kernel) (by decide +kernel)
theorem lc_obj : Cond.code Lib.objectInit ⟨#[0xb1]⟩ 1 none ∈ qTBL := qmem 80 (by decide +kernel) (by decide +kernel)
theorem lkX8_1 : Cond.methodLink RX8 1 Lib.objectInit ∈ qTBL := qmem 78 (by decide +kernel) (by decide +kernel)
theorem lkX2_3 : Cond.methodLink RX2 3 Lib.objectInit ∈ qTBL := qmem 86 (by decide +kernel) (by decide +kernel)
theorem lkX7_3 : Cond.methodLink RX7 3 Lib.objectInit ∈ qTBL := qmem 96 (by decide +kernel) (by decide +kernel)
theorem lkX6_3 : Cond.methodLink RX6 3 Lib.objectInit ∈ qTBL := qmem 161 (by decide +kernel) (by decide +kernel)
theorem lkX0_3 : Cond.methodLink RX0 3 Lib.objectInit ∈ qTBL := qmem 170 (by decide +kernel) (by decide +kernel)
theorem lkX1_3 : Cond.methodLink RX1 3 Lib.objectInit ∈ qTBL := qmem 239 (by decide +kernel) (by decide +kernel)
theorem lkX4_3 : Cond.methodLink RX4 3 Lib.objectInit ∈ qTBL := qmem 245 (by decide +kernel) (by decide +kernel)
theorem lkX3_3 : Cond.methodLink RX3 3 Lib.objectInit ∈ qTBL := qmem 328 (by decide +kernel) (by decide +kernel)
theorem lkX5_3 : Cond.methodLink RX5 3 Lib.objectInit ∈ qTBL := qmem 344 (by decide +kernel) (by decide +kernel)
theorem lkX4_19 : Cond.methodLink RX4 19 arraycopyName ∈ qTBL := qmem 635 (by decide +kernel) (by decide +kernel)
theorem lkX6_47 : Cond.methodLink RX6 47 arraycopyName ∈ qTBL := qmem 638 (by decide +kernel) (by decide +kernel)
theorem lkX2_97 : Cond.methodLink RX2 97 Lib.Math.max.name ∈ qTBL := qmem 694 (by decide +kernel) (by decide +kernel)
theorem lkX6_182 : Cond.methodLink RX6 182 Lib.Math.min.name ∈ qTBL := qmem 713 (by decide +kernel) (by decide +kernel)
theorem lkL_110 : Cond.methodLink RL 110 Lib.Math.abs.name ∈ qTBL := qmem 881 (by decide +kernel) (by decide +kernel)
theorem lkL_115 : Cond.methodLink RL 115 Lib.Math.min.name ∈ qTBL := qmem 884 (by decide +kernel) (by decide +kernel)
