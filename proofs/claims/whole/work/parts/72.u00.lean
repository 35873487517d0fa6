/-! ===== every instruction of every method is as its table has it ===== -/
def zx0 : zMI := (yX0_init, cX0_init, 1, none, 0, 1, 20, zT0)
theorem zu0_0 : ∀ q ∈ zT0_0, zCk zx0 q = true := List.all_eq_true.mp (by decide +kernel)
theorem zu0 : zMs[0]? = some zx0 ∧ (∀ q ∈ zT0, zCk zx0 q = true) ∧ zCkM 0 zx0 = true := ⟨rfl, zu0_0, by decide +kernel⟩
def zx1 : zMI := (yX0_become, cX0_become, 2, none, 0, 1, 23, zT1)
theorem zu1_0 : ∀ q ∈ zT1_0, zCk zx1 q = true := List.all_eq_true.mp (by decide +kernel)
theorem zu1_1 : ∀ q ∈ zT1_1, zCk zx1 q = true := List.all_eq_true.mp (by decide +kernel)
theorem zu1 : zMs[1]? = some zx1 ∧ (∀ q ∈ zT1, zCk zx1 q = true) ∧ zCkM 1 zx1 = true := ⟨rfl, List.forall_mem_append.mpr ⟨zu1_0, zu1_1⟩, by decide +kernel⟩
def zx2 : zMI := (yX0_take, cX0_take, 2, none, 0, 1, 26, zT2)
theorem zu2_0 : ∀ q ∈ zT2_0, zCk zx2 q = true := List.all_eq_true.mp (by decide +kernel)
theorem zu2 : zMs[2]? = some zx2 ∧ (∀ q ∈ zT2, zCk zx2 q = true) ∧ zCkM 2 zx2 = true := ⟨rfl, zu2_0, by decide +kernel⟩
def zx3 : zMI := (yX0_isEven, cX0_isEven, 1, (some .boolean), 0, 0, 0, zT3)
theorem zu3_0 : ∀ q ∈ zT3_0, zCk zx3 q = true := List.all_eq_true.mp (by decide +kernel)
theorem zu3 : zMs[3]? = some zx3 ∧ (∀ q ∈ zT3, zCk zx3 q = true) ∧ zCkM 3 zx3 = true := ⟨rfl, zu3_0, by decide +kernel⟩
def zx4 : zMI := (yX0_isOne, cX0_isOne, 1, (some .boolean), 0, 0, 0, zT4)
theorem zu4_0 : ∀ q ∈ zT4_0, zCk zx4 q = true := List.all_eq_true.mp (by decide +kernel)
theorem zu4 : zMs[4]? = some zx4 ∧ (∀ q ∈ zT4, zCk zx4 q = true) ∧ zCkM 4 zx4 = true := ⟨rfl, zu4_0, by decide +kernel⟩
def zx5 : zMI := (yX0_trim, cX0_trim, 1, none, 0, 0, 0, zT5)
theorem zu5_0 : ∀ q ∈ zT5_0, zCk zx5 q = true := List.all_eq_true.mp (by decide +kernel)
theorem zu5_1 : ∀ q ∈ zT5_1, zCk zx5 q = true := List.all_eq_true.mp (by decide +kernel)
theorem zu5 : zMs[5]? = some zx5 ∧ (∀ q ∈ zT5, zCk zx5 q = true) ∧ zCkM 5 zx5 = true := ⟨rfl, List.forall_mem_append.mpr ⟨zu5_0, zu5_1⟩, by decide +kernel⟩
def zx6 : zMI := (yX0_multiply, cX0_multiply, 5, none, 0, 1, 20, zT6)
theorem zu6_0 : ∀ q ∈ zT6_0, zCk zx6 q = true := List.all_eq_true.mp (by decide +kernel)
theorem zu6_1 : ∀ q ∈ zT6_1, zCk zx6 q = true := List.all_eq_true.mp (by decide +kernel)
theorem zu6_2 : ∀ q ∈ zT6_2, zCk zx6 q = true := List.all_eq_true.mp (by decide +kernel)
theorem zu6 : zMs[6]? = some zx6 ∧ (∀ q ∈ zT6, zCk zx6 q = true) ∧ zCkM 6 zx6 = true := ⟨rfl, List.forall_mem_append.mpr ⟨zu6_0, List.forall_mem_append.mpr ⟨zu6_1, zu6_2⟩⟩, by decide +kernel⟩
def zx7 : zMI := (yX0_addTimes, cX0_addTimes, 6, none, 0, 1, 20, zT7)
theorem zu7_0 : ∀ q ∈ zT7_0, zCk zx7 q = true := List.all_eq_true.mp (by decide +kernel)
theorem zu7_1 : ∀ q ∈ zT7_1, zCk zx7 q = true := List.all_eq_true.mp (by decide +kernel)
theorem zu7_2 : ∀ q ∈ zT7_2, zCk zx7 q = true := List.all_eq_true.mp (by decide +kernel)
theorem zu7 : zMs[7]? = some zx7 ∧ (∀ q ∈ zT7, zCk zx7 q = true) ∧ zCkM 7 zx7 = true := ⟨rfl, List.forall_mem_append.mpr ⟨zu7_0, List.forall_mem_append.mpr ⟨zu7_1, zu7_2⟩⟩, by decide +kernel⟩
def zx8 : zMI := (yX0_subtract, cX0_subtract, 5, none, 0, 1, 20, zT8)
theorem zu8_0 : ∀ q ∈ zT8_0, zCk zx8 q = true := List.all_eq_true.mp (by decide +kernel)
theorem zu8_1 : ∀ q ∈ zT8_1, zCk zx8 q = true := List.all_eq_true.mp (by decide +kernel)
theorem zu8_2 : ∀ q ∈ zT8_2, zCk zx8 q = true := List.all_eq_true.mp (by decide +kernel)
theorem zu8 : zMs[8]? = some zx8 ∧ (∀ q ∈ zT8, zCk zx8 q = true) ∧ zCkM 8 zx8 = true := ⟨rfl, List.forall_mem_append.mpr ⟨zu8_0, List.forall_mem_append.mpr ⟨zu8_1, zu8_2⟩⟩, by decide +kernel⟩
def zx9 : zMI := (yX0_halve, cX0_halve, 3, none, 0, 1, 20, zT9)
theorem zu9_0 : ∀ q ∈ zT9_0, zCk zx9 q = true := List.all_eq_true.mp (by decide +kernel)
theorem zu9_1 : ∀ q ∈ zT9_1, zCk zx9 q = true := List.all_eq_true.mp (by decide +kernel)
theorem zu9_2 : ∀ q ∈ zT9_2, zCk zx9 q = true := List.all_eq_true.mp (by decide +kernel)
theorem zu9 : zMs[9]? = some zx9 ∧ (∀ q ∈ zT9, zCk zx9 q = true) ∧ zCkM 9 zx9 = true := ⟨rfl, List.forall_mem_append.mpr ⟨zu9_0, List.forall_mem_append.mpr ⟨zu9_1, zu9_2⟩⟩, by decide +kernel⟩
def zx10 : zMI := (yX0_halveUntilOdd, cX0_halveUntilOdd, 2, none, 0, 2, 42, zT10)
theorem zu10_0 : ∀ q ∈ zT10_0, zCk zx10 q = true := List.all_eq_true.mp (by decide +kernel)
theorem zu10 : zMs[10]? = some zx10 ∧ (∀ q ∈ zT10, zCk zx10 q = true) ∧ zCkM 10 zx10 = true := ⟨rfl, zu10_0, by decide +kernel⟩
def zx11 : zMI := (yX0_against, cX0_against, 3, (some .int), 0, 0, 0, zT11)
theorem zu11_0 : ∀ q ∈ zT11_0, zCk zx11 q = true := List.all_eq_true.mp (by decide +kernel)
theorem zu11_1 : ∀ q ∈ zT11_1, zCk zx11 q = true := List.all_eq_true.mp (by decide +kernel)
theorem zu11 : zMs[11]? = some zx11 ∧ (∀ q ∈ zT11, zCk zx11 q = true) ∧ zCkM 11 zx11 = true := ⟨rfl, List.forall_mem_append.mpr ⟨zu11_0, zu11_1⟩, by decide +kernel⟩
def zx12 : zMI := (yX0_divide, cX0_divide, 8, none, 0, 1, 23, zT12)
theorem zu12_0 : ∀ q ∈ zT12_0, zCk zx12 q = true := List.all_eq_true.mp (by decide +kernel)
theorem zu12_1 : ∀ q ∈ zT12_1, zCk zx12 q = true := List.all_eq_true.mp (by decide +kernel)
theorem zu12_2 : ∀ q ∈ zT12_2, zCk zx12 q = true := List.all_eq_true.mp (by decide +kernel)
theorem zu12_3 : ∀ q ∈ zT12_3, zCk zx12 q = true := List.all_eq_true.mp (by decide +kernel)
theorem zu12_4 : ∀ q ∈ zT12_4, zCk zx12 q = true := List.all_eq_true.mp (by decide +kernel)
theorem zu12 : zMs[12]? = some zx12 ∧ (∀ q ∈ zT12, zCk zx12 q = true) ∧ zCkM 12 zx12 = true := ⟨rfl, List.forall_mem_append.mpr ⟨zu12_0, List.forall_mem_append.mpr ⟨zu12_1, List.forall_mem_append.mpr ⟨zu12_2, List.forall_mem_append.mpr ⟨zu12_3, zu12_4⟩⟩⟩⟩, by decide +kernel⟩
def zx13 : zMI := (yX0_inverseOfLowest, cX0_inverseOfLowest, 4, (some .int), 0, 0, 0, zT13)
theorem zu13_0 : ∀ q ∈ zT13_0, zCk zx13 q = true := List.all_eq_true.mp (by decide +kernel)
theorem zu13_1 : ∀ q ∈ zT13_1, zCk zx13 q = true := List.all_eq_true.mp (by decide +kernel)
theorem zu13 : zMs[13]? = some zx13 ∧ (∀ q ∈ zT13, zCk zx13 q = true) ∧ zCkM 13 zx13 = true := ⟨rfl, List.forall_mem_append.mpr ⟨zu13_0, zu13_1⟩, by decide +kernel⟩
def zx14 : zMI := (yX0_fold, cX0_fold, 6, (some .long), 0, 0, 0, zT14)
theorem zu14_0 : ∀ q ∈ zT14_0, zCk zx14 q = true := List.all_eq_true.mp (by decide +kernel)
theorem zu14_1 : ∀ q ∈ zT14_1, zCk zx14 q = true := List.all_eq_true.mp (by decide +kernel)
theorem zu14 : zMs[14]? = some zx14 ∧ (∀ q ∈ zT14, zCk zx14 q = true) ∧ zCkM 14 zx14 = true := ⟨rfl, List.forall_mem_append.mpr ⟨zu14_0, zu14_1⟩, by decide +kernel⟩
def zx15 : zMI := (yX1_init, cX1_init, 1, none, 1, 2, 40, zT15)
theorem zu15_0 : ∀ q ∈ zT15_0, zCk zx15 q = true := List.all_eq_true.mp (by decide +kernel)
theorem zu15_1 : ∀ q ∈ zT15_1, zCk zx15 q = true := List.all_eq_true.mp (by decide +kernel)
theorem zu15_2 : ∀ q ∈ zT15_2, zCk zx15 q = true := List.all_eq_true.mp (by decide +kernel)
theorem zu15 : zMs[15]? = some zx15 ∧ (∀ q ∈ zT15, zCk zx15 q = true) ∧ zCkM 15 zx15 = true := ⟨rfl, List.forall_mem_append.mpr ⟨zu15_0, List.forall_mem_append.mpr ⟨zu15_1, zu15_2⟩⟩, by decide +kernel⟩
def zx16 : zMI := (yX1_perform, cX1_perform, 5, none, 1, 4, 96, zT16)
theorem zu16_0 : ∀ q ∈ zT16_0, zCk zx16 q = true := List.all_eq_true.mp (by decide +kernel)
theorem zu16_1 : ∀ q ∈ zT16_1, zCk zx16 q = true := List.all_eq_true.mp (by decide +kernel)
theorem zu16_2 : ∀ q ∈ zT16_2, zCk zx16 q = true := List.all_eq_true.mp (by decide +kernel)
theorem zu16_3 : ∀ q ∈ zT16_3, zCk zx16 q = true := List.all_eq_true.mp (by decide +kernel)
theorem zu16 : zMs[16]? = some zx16 ∧ (∀ q ∈ zT16, zCk zx16 q = true) ∧ zCkM 16 zx16 = true := ⟨rfl, List.forall_mem_append.mpr ⟨zu16_0, List.forall_mem_append.mpr ⟨zu16_1, List.forall_mem_append.mpr ⟨zu16_2, zu16_3⟩⟩⟩, by decide +kernel⟩
def zx17 : zMI := (yX1_begin, cX1_begin, 2, none, 1, 1, 23, zT17)
theorem zu17_0 : ∀ q ∈ zT17_0, zCk zx17 q = true := List.all_eq_true.mp (by decide +kernel)
theorem zu17_1 : ∀ q ∈ zT17_1, zCk zx17 q = true := List.all_eq_true.mp (by decide +kernel)
theorem zu17_2 : ∀ q ∈ zT17_2, zCk zx17 q = true := List.all_eq_true.mp (by decide +kernel)
theorem zu17 : zMs[17]? = some zx17 ∧ (∀ q ∈ zT17, zCk zx17 q = true) ∧ zCkM 17 zx17 = true := ⟨rfl, List.forall_mem_append.mpr ⟨zu17_0, List.forall_mem_append.mpr ⟨zu17_1, zu17_2⟩⟩, by decide +kernel⟩
def zx18 : zMI := (yX1_performItem, cX1_performItem, 9, (some .int), 1, 3, 68, zT18)
theorem zu18_0 : ∀ q ∈ zT18_0, zCk zx18 q = true := List.all_eq_true.mp (by decide +kernel)
theorem zu18_1 : ∀ q ∈ zT18_1, zCk zx18 q = true := List.all_eq_true.mp (by decide +kernel)
theorem zu18_2 : ∀ q ∈ zT18_2, zCk zx18 q = true := List.all_eq_true.mp (by decide +kernel)
theorem zu18_3 : ∀ q ∈ zT18_3, zCk zx18 q = true := List.all_eq_true.mp (by decide +kernel)
theorem zu18_4 : ∀ q ∈ zT18_4, zCk zx18 q = true := List.all_eq_true.mp (by decide +kernel)
theorem zu18_5 : ∀ q ∈ zT18_5, zCk zx18 q = true := List.all_eq_true.mp (by decide +kernel)
theorem zu18_6 : ∀ q ∈ zT18_6, zCk zx18 q = true := List.all_eq_true.mp (by decide +kernel)
theorem zu18 : zMs[18]? = some zx18 ∧ (∀ q ∈ zT18, zCk zx18 q = true) ∧ zCkM 18 zx18 = true := ⟨rfl, List.forall_mem_append.mpr ⟨zu18_0, List.forall_mem_append.mpr ⟨zu18_1, List.forall_mem_append.mpr ⟨zu18_2, List.forall_mem_append.mpr ⟨zu18_3, List.forall_mem_append.mpr ⟨zu18_4, List.forall_mem_append.mpr ⟨zu18_5, zu18_6⟩⟩⟩⟩⟩⟩, by decide +kernel⟩
def zx19 : zMI := (yX1_openLoop, cX1_openLoop, 3, none, 1, 0, 0, zT19)
theorem zu19_0 : ∀ q ∈ zT19_0, zCk zx19 q = true := List.all_eq_true.mp (by decide +kernel)
theorem zu19_1 : ∀ q ∈ zT19_1, zCk zx19 q = true := List.all_eq_true.mp (by decide +kernel)
theorem zu19 : zMs[19]? = some zx19 ∧ (∀ q ∈ zT19, zCk zx19 q = true) ∧ zCkM 19 zx19 = true := ⟨rfl, List.forall_mem_append.mpr ⟨zu19_0, zu19_1⟩, by decide +kernel⟩
def zx20 : zMI := (yX1_afterEnd, cX1_afterEnd, 3, (some .int), 1, 0, 0, zT20)
theorem zu20_0 : ∀ q ∈ zT20_0, zCk zx20 q = true := List.all_eq_true.mp (by decide +kernel)
theorem zu20_1 : ∀ q ∈ zT20_1, zCk zx20 q = true := List.all_eq_true.mp (by decide +kernel)
theorem zu20_2 : ∀ q ∈ zT20_2, zCk zx20 q = true := List.all_eq_true.mp (by decide +kernel)
theorem zu20 : zMs[20]? = some zx20 ∧ (∀ q ∈ zT20, zCk zx20 q = true) ∧ zCkM 20 zx20 = true := ⟨rfl, List.forall_mem_append.mpr ⟨zu20_0, List.forall_mem_append.mpr ⟨zu20_1, zu20_2⟩⟩, by decide +kernel⟩
def zx21 : zMI := (yX1_longer, cX1_longer, 2, (some .int), 1, 1, 21, zT21)
theorem zu21_0 : ∀ q ∈ zT21_0, zCk zx21 q = true := List.all_eq_true.mp (by decide +kernel)
theorem zu21 : zMs[21]? = some zx21 ∧ (∀ q ∈ zT21, zCk zx21 q = true) ∧ zCkM 21 zx21 = true := ⟨rfl, zu21_0, by decide +kernel⟩
def zx22 : zMI := (yX1_handsTake, cX1_handsTake, 2, (some .int), 1, 1, 20, zT22)
theorem zu22_0 : ∀ q ∈ zT22_0, zCk zx22 q = true := List.all_eq_true.mp (by decide +kernel)
theorem zu22 : zMs[22]? = some zx22 ∧ (∀ q ∈ zT22, zCk zx22 q = true) ∧ zCkM 22 zx22 = true := ⟨rfl, zu22_0, by decide +kernel⟩
def zx23 : zMI := (yX1_turn, cX1_turn, 7, none, 1, 2, 42, zT23)
theorem zu23_0 : ∀ q ∈ zT23_0, zCk zx23 q = true := List.all_eq_true.mp (by decide +kernel)
theorem zu23_1 : ∀ q ∈ zT23_1, zCk zx23 q = true := List.all_eq_true.mp (by decide +kernel)
theorem zu23_2 : ∀ q ∈ zT23_2, zCk zx23 q = true := List.all_eq_true.mp (by decide +kernel)
theorem zu23_3 : ∀ q ∈ zT23_3, zCk zx23 q = true := List.all_eq_true.mp (by decide +kernel)
theorem zu23_4 : ∀ q ∈ zT23_4, zCk zx23 q = true := List.all_eq_true.mp (by decide +kernel)
theorem zu23 : zMs[23]? = some zx23 ∧ (∀ q ∈ zT23, zCk zx23 q = true) ∧ zCkM 23 zx23 = true := ⟨rfl, List.forall_mem_append.mpr ⟨zu23_0, List.forall_mem_append.mpr ⟨zu23_1, List.forall_mem_append.mpr ⟨zu23_2, List.forall_mem_append.mpr ⟨zu23_3, zu23_4⟩⟩⟩⟩, by decide +kernel⟩
def zx24 : zMI := (yX1_mark, cX1_mark, 2, none, 1, 0, 0, zT24)
theorem zu24_0 : ∀ q ∈ zT24_0, zCk zx24 q = true := List.all_eq_true.mp (by decide +kernel)
theorem zu24_1 : ∀ q ∈ zT24_1, zCk zx24 q = true := List.all_eq_true.mp (by decide +kernel)
theorem zu24 : zMs[24]? = some zx24 ∧ (∀ q ∈ zT24, zCk zx24 q = true) ∧ zCkM 24 zx24 = true := ⟨rfl, List.forall_mem_append.mpr ⟨zu24_0, zu24_1⟩, by decide +kernel⟩
def zx25 : zMI := (yX1_shake, cX1_shake, 4, none, 1, 2, 41, zT25)
theorem zu25_0 : ∀ q ∈ zT25_0, zCk zx25 q = true := List.all_eq_true.mp (by decide +kernel)
theorem zu25_1 : ∀ q ∈ zT25_1, zCk zx25 q = true := List.all_eq_true.mp (by decide +kernel)
theorem zu25_2 : ∀ q ∈ zT25_2, zCk zx25 q = true := List.all_eq_true.mp (by decide +kernel)
theorem zu25 : zMs[25]? = some zx25 ∧ (∀ q ∈ zT25, zCk zx25 q = true) ∧ zCkM 25 zx25 = true := ⟨rfl, List.forall_mem_append.mpr ⟨zu25_0, List.forall_mem_append.mpr ⟨zu25_1, zu25_2⟩⟩, by decide +kernel⟩
def zx26 : zMI := (yX1_endCell, cX1_endCell, 1, (some .int), 1, 1, 21, zT26)
theorem zu26_0 : ∀ q ∈ zT26_0, zCk zx26 q = true := List.all_eq_true.mp (by decide +kernel)
theorem zu26 : zMs[26]? = some zx26 ∧ (∀ q ∈ zT26, zCk zx26 q = true) ∧ zCkM 26 zx26 = true := ⟨rfl, zu26_0, by decide +kernel⟩
def zx27 : zMI := (yX1_looksLike, cX1_looksLike, 3, (some .boolean), 1, 0, 0, zT27)
theorem zu27_0 : ∀ q ∈ zT27_0, zCk zx27 q = true := List.all_eq_true.mp (by decide +kernel)
theorem zu27_1 : ∀ q ∈ zT27_1, zCk zx27 q = true := List.all_eq_true.mp (by decide +kernel)
theorem zu27 : zMs[27]? = some zx27 ∧ (∀ q ∈ zT27, zCk zx27 q = true) ∧ zCkM 27 zx27 = true := ⟨rfl, List.forall_mem_append.mpr ⟨zu27_0, zu27_1⟩, by decide +kernel⟩
def zx28 : zMI := (yX1_cellsDrawn, cX1_cellsDrawn, 3, (some .int), 1, 0, 0, zT28)
theorem zu28_0 : ∀ q ∈ zT28_0, zCk zx28 q = true := List.all_eq_true.mp (by decide +kernel)
theorem zu28_1 : ∀ q ∈ zT28_1, zCk zx28 q = true := List.all_eq_true.mp (by decide +kernel)
theorem zu28 : zMs[28]? = some zx28 ∧ (∀ q ∈ zT28, zCk zx28 q = true) ∧ zCkM 28 zx28 = true := ⟨rfl, List.forall_mem_append.mpr ⟨zu28_0, zu28_1⟩, by decide +kernel⟩
def zx29 : zMI := (yX1_tell, cX1_tell, 2, (some .int), 1, 1, 22, zT29)
theorem zu29_0 : ∀ q ∈ zT29_0, zCk zx29 q = true := List.all_eq_true.mp (by decide +kernel)
theorem zu29_1 : ∀ q ∈ zT29_1, zCk zx29 q = true := List.all_eq_true.mp (by decide +kernel)
theorem zu29_2 : ∀ q ∈ zT29_2, zCk zx29 q = true := List.all_eq_true.mp (by decide +kernel)
theorem zu29_3 : ∀ q ∈ zT29_3, zCk zx29 q = true := List.all_eq_true.mp (by decide +kernel)
theorem zu29 : zMs[29]? = some zx29 ∧ (∀ q ∈ zT29, zCk zx29 q = true) ∧ zCkM 29 zx29 = true := ⟨rfl, List.forall_mem_append.mpr ⟨zu29_0, List.forall_mem_append.mpr ⟨zu29_1, List.forall_mem_append.mpr ⟨zu29_2, zu29_3⟩⟩⟩, by decide +kernel⟩
def zx30 : zMI := (yX2_init, cX2_init, 1, none, 2, 2, 44, zT30)
theorem zu30_0 : ∀ q ∈ zT30_0, zCk zx30 q = true := List.all_eq_true.mp (by decide +kernel)
theorem zu30_1 : ∀ q ∈ zT30_1, zCk zx30 q = true := List.all_eq_true.mp (by decide +kernel)
theorem zu30 : zMs[30]? = some zx30 ∧ (∀ q ∈ zT30, zCk zx30 q = true) ∧ zCkM 30 zx30 = true := ⟨rfl, List.forall_mem_append.mpr ⟨zu30_0, zu30_1⟩, by decide +kernel⟩
def zx31 : zMI := (yX2_become, cX2_become, 3, none, 2, 3, 71, zT31)
theorem zu31_0 : ∀ q ∈ zT31_0, zCk zx31 q = true := List.all_eq_true.mp (by decide +kernel)
theorem zu31_1 : ∀ q ∈ zT31_1, zCk zx31 q = true := List.all_eq_true.mp (by decide +kernel)
theorem zu31 : zMs[31]? = some zx31 ∧ (∀ q ∈ zT31, zCk zx31 q = true) ∧ zCkM 31 zx31 = true := ⟨rfl, List.forall_mem_append.mpr ⟨zu31_0, zu31_1⟩, by decide +kernel⟩
def zx32 : zMI := (yX2_weigh, cX2_weigh, 7, none, 2, 2, 45, zT32)
theorem zu32_0 : ∀ q ∈ zT32_0, zCk zx32 q = true := List.all_eq_true.mp (by decide +kernel)
theorem zu32_1 : ∀ q ∈ zT32_1, zCk zx32 q = true := List.all_eq_true.mp (by decide +kernel)
theorem zu32_2 : ∀ q ∈ zT32_2, zCk zx32 q = true := List.all_eq_true.mp (by decide +kernel)
theorem zu32 : zMs[32]? = some zx32 ∧ (∀ q ∈ zT32, zCk zx32 q = true) ∧ zCkM 32 zx32 = true := ⟨rfl, List.forall_mem_append.mpr ⟨zu32_0, List.forall_mem_append.mpr ⟨zu32_1, zu32_2⟩⟩, by decide +kernel⟩
def zx33 : zMI := (yX2_reduce, cX2_reduce, 2, none, 2, 4, 86, zT33)
theorem zu33_0 : ∀ q ∈ zT33_0, zCk zx33 q = true := List.all_eq_true.mp (by decide +kernel)
theorem zu33_1 : ∀ q ∈ zT33_1, zCk zx33 q = true := List.all_eq_true.mp (by decide +kernel)
theorem zu33_2 : ∀ q ∈ zT33_2, zCk zx33 q = true := List.all_eq_true.mp (by decide +kernel)
theorem zu33 : zMs[33]? = some zx33 ∧ (∀ q ∈ zT33, zCk zx33 q = true) ∧ zCkM 33 zx33 = true := ⟨rfl, List.forall_mem_append.mpr ⟨zu33_0, List.forall_mem_append.mpr ⟨zu33_1, zu33_2⟩⟩, by decide +kernel⟩
def zx34 : zMI := (yX2_findCommonOdd, cX2_findCommonOdd, 4, none, 2, 3, 63, zT34)
theorem zu34_0 : ∀ q ∈ zT34_0, zCk zx34 q = true := List.all_eq_true.mp (by decide +kernel)
theorem zu34_1 : ∀ q ∈ zT34_1, zCk zx34 q = true := List.all_eq_true.mp (by decide +kernel)
theorem zu34_2 : ∀ q ∈ zT34_2, zCk zx34 q = true := List.all_eq_true.mp (by decide +kernel)
theorem zu34_3 : ∀ q ∈ zT34_3, zCk zx34 q = true := List.all_eq_true.mp (by decide +kernel)
theorem zu34 : zMs[34]? = some zx34 ∧ (∀ q ∈ zT34, zCk zx34 q = true) ∧ zCkM 34 zx34 = true := ⟨rfl, List.forall_mem_append.mpr ⟨zu34_0, List.forall_mem_append.mpr ⟨zu34_1, List.forall_mem_append.mpr ⟨zu34_2, zu34_3⟩⟩⟩, by decide +kernel⟩
def zx35 : zMI := (yX2_tell, cX2_tell, 2, (some .int), 2, 0, 0, zT35)
theorem zu35_0 : ∀ q ∈ zT35_0, zCk zx35 q = true := List.all_eq_true.mp (by decide +kernel)
theorem zu35_1 : ∀ q ∈ zT35_1, zCk zx35 q = true := List.all_eq_true.mp (by decide +kernel)
theorem zu35 : zMs[35]? = some zx35 ∧ (∀ q ∈ zT35, zCk zx35 q = true) ∧ zCkM 35 zx35 = true := ⟨rfl, List.forall_mem_append.mpr ⟨zu35_0, zu35_1⟩, by decide +kernel⟩
def zx36 : zMI := (yX2_fold, cX2_fold, 6, (some .long), 2, 1, 25, zT36)
theorem zu36_0 : ∀ q ∈ zT36_0, zCk zx36 q = true := List.all_eq_true.mp (by decide +kernel)
theorem zu36_1 : ∀ q ∈ zT36_1, zCk zx36 q = true := List.all_eq_true.mp (by decide +kernel)
theorem zu36 : zMs[36]? = some zx36 ∧ (∀ q ∈ zT36, zCk zx36 q = true) ∧ zCkM 36 zx36 = true := ⟨rfl, List.forall_mem_append.mpr ⟨zu36_0, zu36_1⟩, by decide +kernel⟩
def zx37 : zMI := (yX3_init, cX3_init, 1, none, 3, 1, 20, zT37)
theorem zu37_0 : ∀ q ∈ zT37_0, zCk zx37 q = true := List.all_eq_true.mp (by decide +kernel)
theorem zu37_1 : ∀ q ∈ zT37_1, zCk zx37 q = true := List.all_eq_true.mp (by decide +kernel)
theorem zu37 : zMs[37]? = some zx37 ∧ (∀ q ∈ zT37, zCk zx37 q = true) ∧ zCkM 37 zx37 = true := ⟨rfl, List.forall_mem_append.mpr ⟨zu37_0, zu37_1⟩, by decide +kernel⟩
def zx38 : zMI := (yX3_begin, cX3_begin, 2, none, 3, 1, 23, zT38)
theorem zu38_0 : ∀ q ∈ zT38_0, zCk zx38 q = true := List.all_eq_true.mp (by decide +kernel)
theorem zu38_1 : ∀ q ∈ zT38_1, zCk zx38 q = true := List.all_eq_true.mp (by decide +kernel)
theorem zu38 : zMs[38]? = some zx38 ∧ (∀ q ∈ zT38, zCk zx38 q = true) ∧ zCkM 38 zx38 = true := ⟨rfl, List.forall_mem_append.mpr ⟨zu38_0, zu38_1⟩, by decide +kernel⟩
def zx39 : zMI := (yX3_isEmpty, cX3_isEmpty, 2, (some .boolean), 3, 0, 0, zT39)
theorem zu39_0 : ∀ q ∈ zT39_0, zCk zx39 q = true := List.all_eq_true.mp (by decide +kernel)
theorem zu39 : zMs[39]? = some zx39 ∧ (∀ q ∈ zT39, zCk zx39 q = true) ∧ zCkM 39 zx39 = true := ⟨rfl, zu39_0, by decide +kernel⟩
def zx40 : zMI := (yX3_compare, cX3_compare, 9, none, 3, 2, 41, zT40)
theorem zu40_0 : ∀ q ∈ zT40_0, zCk zx40 q = true := List.all_eq_true.mp (by decide +kernel)
theorem zu40_1 : ∀ q ∈ zT40_1, zCk zx40 q = true := List.all_eq_true.mp (by decide +kernel)
theorem zu40_2 : ∀ q ∈ zT40_2, zCk zx40 q = true := List.all_eq_true.mp (by decide +kernel)
theorem zu40_3 : ∀ q ∈ zT40_3, zCk zx40 q = true := List.all_eq_true.mp (by decide +kernel)
theorem zu40_4 : ∀ q ∈ zT40_4, zCk zx40 q = true := List.all_eq_true.mp (by decide +kernel)
theorem zu40 : zMs[40]? = some zx40 ∧ (∀ q ∈ zT40, zCk zx40 q = true) ∧ zCkM 40 zx40 = true := ⟨rfl, List.forall_mem_append.mpr ⟨zu40_0, List.forall_mem_append.mpr ⟨zu40_1, List.forall_mem_append.mpr ⟨zu40_2, List.forall_mem_append.mpr ⟨zu40_3, zu40_4⟩⟩⟩⟩, by decide +kernel⟩
def zx41 : zMI := (yX3_gather, cX3_gather, 9, none, 3, 1, 24, zT41)
theorem zu41_0 : ∀ q ∈ zT41_0, zCk zx41 q = true := List.all_eq_true.mp (by decide +kernel)
theorem zu41_1 : ∀ q ∈ zT41_1, zCk zx41 q = true := List.all_eq_true.mp (by decide +kernel)
theorem zu41_2 : ∀ q ∈ zT41_2, zCk zx41 q = true := List.all_eq_true.mp (by decide +kernel)
theorem zu41_3 : ∀ q ∈ zT41_3, zCk zx41 q = true := List.all_eq_true.mp (by decide +kernel)
theorem zu41_4 : ∀ q ∈ zT41_4, zCk zx41 q = true := List.all_eq_true.mp (by decide +kernel)
theorem zu41_5 : ∀ q ∈ zT41_5, zCk zx41 q = true := List.all_eq_true.mp (by decide +kernel)
theorem zu41 : zMs[41]? = some zx41 ∧ (∀ q ∈ zT41, zCk zx41 q = true) ∧ zCkM 41 zx41 = true := ⟨rfl, List.forall_mem_append.mpr ⟨zu41_0, List.forall_mem_append.mpr ⟨zu41_1, List.forall_mem_append.mpr ⟨zu41_2, List.forall_mem_append.mpr ⟨zu41_3, List.forall_mem_append.mpr ⟨zu41_4, zu41_5⟩⟩⟩⟩⟩, by decide +kernel⟩
def zx42 : zMI := (yX3_isMeant, cX3_isMeant, 5, (some .boolean), 3, 0, 0, zT42)
theorem zu42_0 : ∀ q ∈ zT42_0, zCk zx42 q = true := List.all_eq_true.mp (by decide +kernel)
theorem zu42_1 : ∀ q ∈ zT42_1, zCk zx42 q = true := List.all_eq_true.mp (by decide +kernel)
theorem zu42 : zMs[42]? = some zx42 ∧ (∀ q ∈ zT42, zCk zx42 q = true) ∧ zCkM 42 zx42 = true := ⟨rfl, List.forall_mem_append.mpr ⟨zu42_0, zu42_1⟩, by decide +kernel⟩
