/-! the shapes of the two worlds -/
def shX : xSh := [.inr (11, [some 2, some 4, some 12, some 20, some 21, some 27, some 29, some 35, some 38, some 46, some 49, some 1, none, none]), .inl 1560, .inr (10, [some 3, none, none, none]), .inl 8, .inr (8, [some 5, some 6, some 7, some 8, some 9, some 10, some 11, none]), .inl 6, .inl 6, .inl 6, .inl 6, .inl 6, .inl 6, .inl 48, .inr (2, [some 13, some 14, some 15, some 16, some 17, some 18, some 19, none]), .inl 20, .inl 20, .inl 20, .inl 20, .inl 20, .inl 20, .inl 20, .inr (5, [none, none, none, none, none]), .inr (7, [some 4, some 12, some 20, some 22, some 23, some 24, some 25, some 26]), .inl 20, .inl 20, .inl 20, .inl 20, .inl 40, .inr (0, [some 28]), .inl 24, .inr (3, [some 30, some 31, some 32, some 33, none, some 34, none]), .inl 4, .inl 4, .inl 4, .inl 4, .inl 4, .inr (4, [some 36, some 37]), .inl 360, .inl 6, .inr (1, [some 39, some 40, some 41, some 42, some 43, none, some 44, none, some 45]), .inl 8, .inl 8, .inl 7, .inl 7, .inl 7, .inl 7, .inl 7, .inr (9, [some 4, some 47, some 48, none]), .inl 6, .inl 6, .inr (6, [some 50, none, some 51]), .inl 80, .inl 8]
theorem cX0 {E : xE} (hE : E.sh = shX) : E.sh[0]? = some (.inr (11, [some 2, some 4, some 12, some 20, some 21, some 27, some 29, some 35, some 38, some 46, some 49, some 1, none, none])) := by rw [hE]; rfl
theorem cX1 {E : xE} (hE : E.sh = shX) : E.sh[1]? = some (.inl 1560) := by rw [hE]; rfl
theorem cX2 {E : xE} (hE : E.sh = shX) : E.sh[2]? = some (.inr (10, [some 3, none, none, none])) := by rw [hE]; rfl
theorem cX3 {E : xE} (hE : E.sh = shX) : E.sh[3]? = some (.inl 8) := by rw [hE]; rfl
theorem cX4 {E : xE} (hE : E.sh = shX) : E.sh[4]? = some (.inr (8, [some 5, some 6, some 7, some 8, some 9, some 10, some 11, none])) := by rw [hE]; rfl
theorem cX5 {E : xE} (hE : E.sh = shX) : E.sh[5]? = some (.inl 6) := by rw [hE]; rfl
theorem cX6 {E : xE} (hE : E.sh = shX) : E.sh[6]? = some (.inl 6) := by rw [hE]; rfl
theorem cX7 {E : xE} (hE : E.sh = shX) : E.sh[7]? = some (.inl 6) := by rw [hE]; rfl
theorem cX8 {E : xE} (hE : E.sh = shX) : E.sh[8]? = some (.inl 6) := by rw [hE]; rfl
theorem cX9 {E : xE} (hE : E.sh = shX) : E.sh[9]? = some (.inl 6) := by rw [hE]; rfl
theorem cX10 {E : xE} (hE : E.sh = shX) : E.sh[10]? = some (.inl 6) := by rw [hE]; rfl
theorem cX11 {E : xE} (hE : E.sh = shX) : E.sh[11]? = some (.inl 48) := by rw [hE]; rfl
theorem cX12 {E : xE} (hE : E.sh = shX) : E.sh[12]? = some (.inr (2, [some 13, some 14, some 15, some 16, some 17, some 18, some 19, none])) := by rw [hE]; rfl
theorem cX13 {E : xE} (hE : E.sh = shX) : E.sh[13]? = some (.inl 20) := by rw [hE]; rfl
theorem cX14 {E : xE} (hE : E.sh = shX) : E.sh[14]? = some (.inl 20) := by rw [hE]; rfl
theorem cX15 {E : xE} (hE : E.sh = shX) : E.sh[15]? = some (.inl 20) := by rw [hE]; rfl
theorem cX16 {E : xE} (hE : E.sh = shX) : E.sh[16]? = some (.inl 20) := by rw [hE]; rfl
theorem cX17 {E : xE} (hE : E.sh = shX) : E.sh[17]? = some (.inl 20) := by rw [hE]; rfl
theorem cX18 {E : xE} (hE : E.sh = shX) : E.sh[18]? = some (.inl 20) := by rw [hE]; rfl
theorem cX19 {E : xE} (hE : E.sh = shX) : E.sh[19]? = some (.inl 20) := by rw [hE]; rfl
theorem cX20 {E : xE} (hE : E.sh = shX) : E.sh[20]? = some (.inr (5, [none, none, none, none, none])) := by rw [hE]; rfl
theorem cX21 {E : xE} (hE : E.sh = shX) : E.sh[21]? = some (.inr (7, [some 4, some 12, some 20, some 22, some 23, some 24, some 25, some 26])) := by rw [hE]; rfl
theorem cX22 {E : xE} (hE : E.sh = shX) : E.sh[22]? = some (.inl 20) := by rw [hE]; rfl
theorem cX23 {E : xE} (hE : E.sh = shX) : E.sh[23]? = some (.inl 20) := by rw [hE]; rfl
theorem cX24 {E : xE} (hE : E.sh = shX) : E.sh[24]? = some (.inl 20) := by rw [hE]; rfl
theorem cX25 {E : xE} (hE : E.sh = shX) : E.sh[25]? = some (.inl 20) := by rw [hE]; rfl
theorem cX26 {E : xE} (hE : E.sh = shX) : E.sh[26]? = some (.inl 40) := by rw [hE]; rfl
theorem cX27 {E : xE} (hE : E.sh = shX) : E.sh[27]? = some (.inr (0, [some 28])) := by rw [hE]; rfl
theorem cX28 {E : xE} (hE : E.sh = shX) : E.sh[28]? = some (.inl 24) := by rw [hE]; rfl
theorem cX29 {E : xE} (hE : E.sh = shX) : E.sh[29]? = some (.inr (3, [some 30, some 31, some 32, some 33, none, some 34, none])) := by rw [hE]; rfl
theorem cX30 {E : xE} (hE : E.sh = shX) : E.sh[30]? = some (.inl 4) := by rw [hE]; rfl
theorem cX31 {E : xE} (hE : E.sh = shX) : E.sh[31]? = some (.inl 4) := by rw [hE]; rfl
theorem cX32 {E : xE} (hE : E.sh = shX) : E.sh[32]? = some (.inl 4) := by rw [hE]; rfl
theorem cX33 {E : xE} (hE : E.sh = shX) : E.sh[33]? = some (.inl 4) := by rw [hE]; rfl
theorem cX34 {E : xE} (hE : E.sh = shX) : E.sh[34]? = some (.inl 4) := by rw [hE]; rfl
theorem cX35 {E : xE} (hE : E.sh = shX) : E.sh[35]? = some (.inr (4, [some 36, some 37])) := by rw [hE]; rfl
theorem cX36 {E : xE} (hE : E.sh = shX) : E.sh[36]? = some (.inl 360) := by rw [hE]; rfl
theorem cX37 {E : xE} (hE : E.sh = shX) : E.sh[37]? = some (.inl 6) := by rw [hE]; rfl
theorem cX38 {E : xE} (hE : E.sh = shX) : E.sh[38]? = some (.inr (1, [some 39, some 40, some 41, some 42, some 43, none, some 44, none, some 45])) := by rw [hE]; rfl
theorem cX39 {E : xE} (hE : E.sh = shX) : E.sh[39]? = some (.inl 8) := by rw [hE]; rfl
theorem cX40 {E : xE} (hE : E.sh = shX) : E.sh[40]? = some (.inl 8) := by rw [hE]; rfl
theorem cX41 {E : xE} (hE : E.sh = shX) : E.sh[41]? = some (.inl 7) := by rw [hE]; rfl
theorem cX42 {E : xE} (hE : E.sh = shX) : E.sh[42]? = some (.inl 7) := by rw [hE]; rfl
theorem cX43 {E : xE} (hE : E.sh = shX) : E.sh[43]? = some (.inl 7) := by rw [hE]; rfl
theorem cX44 {E : xE} (hE : E.sh = shX) : E.sh[44]? = some (.inl 7) := by rw [hE]; rfl
theorem cX45 {E : xE} (hE : E.sh = shX) : E.sh[45]? = some (.inl 7) := by rw [hE]; rfl
theorem cX46 {E : xE} (hE : E.sh = shX) : E.sh[46]? = some (.inr (9, [some 4, some 47, some 48, none])) := by rw [hE]; rfl
theorem cX47 {E : xE} (hE : E.sh = shX) : E.sh[47]? = some (.inl 6) := by rw [hE]; rfl
theorem cX48 {E : xE} (hE : E.sh = shX) : E.sh[48]? = some (.inl 6) := by rw [hE]; rfl
theorem cX49 {E : xE} (hE : E.sh = shX) : E.sh[49]? = some (.inr (6, [some 50, none, some 51])) := by rw [hE]; rfl
theorem cX50 {E : xE} (hE : E.sh = shX) : E.sh[50]? = some (.inl 80) := by rw [hE]; rfl
theorem cX51 {E : xE} (hE : E.sh = shX) : E.sh[51]? = some (.inl 8) := by rw [hE]; rfl
