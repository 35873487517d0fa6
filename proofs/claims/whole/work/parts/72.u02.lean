/-! ===== every instruction of every method is as its table has it ===== -/
def zx80 : zMI := (yX8_readWord, cX8_readWord, 2, none, 8, 5, 108, zT80)
theorem zu80_0 : ∀ q ∈ zT80_0, zCk zx80 q = true := List.all_eq_true.mp (by decide +kernel)
theorem zu80_1 : ∀ q ∈ zT80_1, zCk zx80 q = true := List.all_eq_true.mp (by decide +kernel)
theorem zu80_2 : ∀ q ∈ zT80_2, zCk zx80 q = true := List.all_eq_true.mp (by decide +kernel)
theorem zu80_3 : ∀ q ∈ zT80_3, zCk zx80 q = true := List.all_eq_true.mp (by decide +kernel)
theorem zu80_4 : ∀ q ∈ zT80_4, zCk zx80 q = true := List.all_eq_true.mp (by decide +kernel)
theorem zu80_5 : ∀ q ∈ zT80_5, zCk zx80 q = true := List.all_eq_true.mp (by decide +kernel)
theorem zu80 : zMs[80]? = some zx80 ∧ (∀ q ∈ zT80, zCk zx80 q = true) ∧ zCkM 80 zx80 = true := ⟨rfl, List.forall_mem_append.mpr ⟨zu80_0, List.forall_mem_append.mpr ⟨zu80_1, List.forall_mem_append.mpr ⟨zu80_2, List.forall_mem_append.mpr ⟨zu80_3, List.forall_mem_append.mpr ⟨zu80_4, zu80_5⟩⟩⟩⟩⟩, by decide +kernel⟩
def zx81 : zMI := (yX8_spells, cX8_spells, 4, (some .boolean), 8, 4, 85, zT81)
theorem zu81_0 : ∀ q ∈ zT81_0, zCk zx81 q = true := List.all_eq_true.mp (by decide +kernel)
theorem zu81_1 : ∀ q ∈ zT81_1, zCk zx81 q = true := List.all_eq_true.mp (by decide +kernel)
theorem zu81 : zMs[81]? = some zx81 ∧ (∀ q ∈ zT81, zCk zx81 q = true) ∧ zCkM 81 zx81 = true := ⟨rfl, List.forall_mem_append.mpr ⟨zu81_0, zu81_1⟩, by decide +kernel⟩
def zx82 : zMI := (yX8_readFigures, cX8_readFigures, 6, none, 8, 1, 20, zT82)
theorem zu82_0 : ∀ q ∈ zT82_0, zCk zx82 q = true := List.all_eq_true.mp (by decide +kernel)
theorem zu82_1 : ∀ q ∈ zT82_1, zCk zx82 q = true := List.all_eq_true.mp (by decide +kernel)
theorem zu82_2 : ∀ q ∈ zT82_2, zCk zx82 q = true := List.all_eq_true.mp (by decide +kernel)
theorem zu82_3 : ∀ q ∈ zT82_3, zCk zx82 q = true := List.all_eq_true.mp (by decide +kernel)
theorem zu82_4 : ∀ q ∈ zT82_4, zCk zx82 q = true := List.all_eq_true.mp (by decide +kernel)
theorem zu82_5 : ∀ q ∈ zT82_5, zCk zx82 q = true := List.all_eq_true.mp (by decide +kernel)
theorem zu82 : zMs[82]? = some zx82 ∧ (∀ q ∈ zT82, zCk zx82 q = true) ∧ zCkM 82 zx82 = true := ⟨rfl, List.forall_mem_append.mpr ⟨zu82_0, List.forall_mem_append.mpr ⟨zu82_1, List.forall_mem_append.mpr ⟨zu82_2, List.forall_mem_append.mpr ⟨zu82_3, List.forall_mem_append.mpr ⟨zu82_4, zu82_5⟩⟩⟩⟩⟩, by decide +kernel⟩
def zx83 : zMI := (yX8_isLetter, cX8_isLetter, 1, (some .boolean), 8, 0, 0, zT83)
theorem zu83_0 : ∀ q ∈ zT83_0, zCk zx83 q = true := List.all_eq_true.mp (by decide +kernel)
theorem zu83 : zMs[83]? = some zx83 ∧ (∀ q ∈ zT83, zCk zx83 q = true) ∧ zCkM 83 zx83 = true := ⟨rfl, zu83_0, by decide +kernel⟩
def zx84 : zMI := (yX8_isFigure, cX8_isFigure, 1, (some .boolean), 8, 0, 0, zT84)
theorem zu84_0 : ∀ q ∈ zT84_0, zCk zx84 q = true := List.all_eq_true.mp (by decide +kernel)
theorem zu84 : zMs[84]? = some zx84 ∧ (∀ q ∈ zT84, zCk zx84 q = true) ∧ zCkM 84 zx84 = true := ⟨rfl, zu84_0, by decide +kernel⟩
def zx85 : zMI := (yX8_takeItem, cX8_takeItem, 4, (some .boolean), 8, 1, 23, zT85)
theorem zu85_0 : ∀ q ∈ zT85_0, zCk zx85 q = true := List.all_eq_true.mp (by decide +kernel)
theorem zu85_1 : ∀ q ∈ zT85_1, zCk zx85 q = true := List.all_eq_true.mp (by decide +kernel)
theorem zu85_2 : ∀ q ∈ zT85_2, zCk zx85 q = true := List.all_eq_true.mp (by decide +kernel)
theorem zu85_3 : ∀ q ∈ zT85_3, zCk zx85 q = true := List.all_eq_true.mp (by decide +kernel)
theorem zu85_4 : ∀ q ∈ zT85_4, zCk zx85 q = true := List.all_eq_true.mp (by decide +kernel)
theorem zu85_5 : ∀ q ∈ zT85_5, zCk zx85 q = true := List.all_eq_true.mp (by decide +kernel)
theorem zu85_6 : ∀ q ∈ zT85_6, zCk zx85 q = true := List.all_eq_true.mp (by decide +kernel)
theorem zu85 : zMs[85]? = some zx85 ∧ (∀ q ∈ zT85, zCk zx85 q = true) ∧ zCkM 85 zx85 = true := ⟨rfl, List.forall_mem_append.mpr ⟨zu85_0, List.forall_mem_append.mpr ⟨zu85_1, List.forall_mem_append.mpr ⟨zu85_2, List.forall_mem_append.mpr ⟨zu85_3, List.forall_mem_append.mpr ⟨zu85_4, List.forall_mem_append.mpr ⟨zu85_5, zu85_6⟩⟩⟩⟩⟩⟩, by decide +kernel⟩
def zx86 : zMI := (yX8_mayBegin, cX8_mayBegin, 2, (some .boolean), 8, 0, 0, zT86)
theorem zu86_0 : ∀ q ∈ zT86_0, zCk zx86 q = true := List.all_eq_true.mp (by decide +kernel)
theorem zu86_1 : ∀ q ∈ zT86_1, zCk zx86 q = true := List.all_eq_true.mp (by decide +kernel)
theorem zu86 : zMs[86]? = some zx86 ∧ (∀ q ∈ zT86, zCk zx86 q = true) ∧ zCkM 86 zx86 = true := ⟨rfl, List.forall_mem_append.mpr ⟨zu86_0, zu86_1⟩, by decide +kernel⟩
def zx87 : zMI := (yX8_fail, cX8_fail, 1, (some .boolean), 8, 0, 0, zT87)
theorem zu87_0 : ∀ q ∈ zT87_0, zCk zx87 q = true := List.all_eq_true.mp (by decide +kernel)
theorem zu87 : zMs[87]? = some zx87 ∧ (∀ q ∈ zT87, zCk zx87 q = true) ∧ zCkM 87 zx87 = true := ⟨rfl, zu87_0, by decide +kernel⟩
def zx88 : zMI := (yX8_numbersOf, cX8_numbersOf, 1, (some .int), 8, 0, 0, zT88)
theorem zu88_0 : ∀ q ∈ zT88_0, zCk zx88 q = true := List.all_eq_true.mp (by decide +kernel)
theorem zu88 : zMs[88]? = some zx88 ∧ (∀ q ∈ zT88, zCk zx88 q = true) ∧ zCkM 88 zx88 = true := ⟨rfl, zu88_0, by decide +kernel⟩
def zx89 : zMI := (yX8_mayFollow, cX8_mayFollow, 2, (some .boolean), 8, 0, 0, zT89)
theorem zu89_0 : ∀ q ∈ zT89_0, zCk zx89 q = true := List.all_eq_true.mp (by decide +kernel)
theorem zu89_1 : ∀ q ∈ zT89_1, zCk zx89 q = true := List.all_eq_true.mp (by decide +kernel)
theorem zu89 : zMs[89]? = some zx89 ∧ (∀ q ∈ zT89, zCk zx89 q = true) ∧ zCkM 89 zx89 = true := ⟨rfl, List.forall_mem_append.mpr ⟨zu89_0, zu89_1⟩, by decide +kernel⟩
def zx90 : zMI := (yX8_keep, cX8_keep, 4, none, 8, 0, 0, zT90)
theorem zu90_0 : ∀ q ∈ zT90_0, zCk zx90 q = true := List.all_eq_true.mp (by decide +kernel)
theorem zu90_1 : ∀ q ∈ zT90_1, zCk zx90 q = true := List.all_eq_true.mp (by decide +kernel)
theorem zu90_2 : ∀ q ∈ zT90_2, zCk zx90 q = true := List.all_eq_true.mp (by decide +kernel)
theorem zu90 : zMs[90]? = some zx90 ∧ (∀ q ∈ zT90, zCk zx90 q = true) ∧ zCkM 90 zx90 = true := ⟨rfl, List.forall_mem_append.mpr ⟨zu90_0, List.forall_mem_append.mpr ⟨zu90_1, zu90_2⟩⟩, by decide +kernel⟩
def zx91 : zMI := (yX9_init, cX9_init, 2, none, 9, 2, 42, zT91)
theorem zu91_0 : ∀ q ∈ zT91_0, zCk zx91 q = true := List.all_eq_true.mp (by decide +kernel)
theorem zu91_1 : ∀ q ∈ zT91_1, zCk zx91 q = true := List.all_eq_true.mp (by decide +kernel)
theorem zu91_2 : ∀ q ∈ zT91_2, zCk zx91 q = true := List.all_eq_true.mp (by decide +kernel)
theorem zu91_3 : ∀ q ∈ zT91_3, zCk zx91 q = true := List.all_eq_true.mp (by decide +kernel)
theorem zu91_4 : ∀ q ∈ zT91_4, zCk zx91 q = true := List.all_eq_true.mp (by decide +kernel)
theorem zu91 : zMs[91]? = some zx91 ∧ (∀ q ∈ zT91, zCk zx91 q = true) ∧ zCkM 91 zx91 = true := ⟨rfl, List.forall_mem_append.mpr ⟨zu91_0, List.forall_mem_append.mpr ⟨zu91_1, List.forall_mem_append.mpr ⟨zu91_2, List.forall_mem_append.mpr ⟨zu91_3, zu91_4⟩⟩⟩⟩, by decide +kernel⟩
def zx92 : zMI := (yX9_take, cX9_take, 3, none, 9, 2, 47, zT92)
theorem zu92_0 : ∀ q ∈ zT92_0, zCk zx92 q = true := List.all_eq_true.mp (by decide +kernel)
theorem zu92_1 : ∀ q ∈ zT92_1, zCk zx92 q = true := List.all_eq_true.mp (by decide +kernel)
theorem zu92_2 : ∀ q ∈ zT92_2, zCk zx92 q = true := List.all_eq_true.mp (by decide +kernel)
theorem zu92_3 : ∀ q ∈ zT92_3, zCk zx92 q = true := List.all_eq_true.mp (by decide +kernel)
theorem zu92 : zMs[92]? = some zx92 ∧ (∀ q ∈ zT92, zCk zx92 q = true) ∧ zCkM 92 zx92 = true := ⟨rfl, List.forall_mem_append.mpr ⟨zu92_0, List.forall_mem_append.mpr ⟨zu92_1, List.forall_mem_append.mpr ⟨zu92_2, zu92_3⟩⟩⟩, by decide +kernel⟩
def zx93 : zMI := (yX9_howMany, cX9_howMany, 2, (some .int), 9, 2, 42, zT93)
theorem zu93_0 : ∀ q ∈ zT93_0, zCk zx93 q = true := List.all_eq_true.mp (by decide +kernel)
theorem zu93_1 : ∀ q ∈ zT93_1, zCk zx93 q = true := List.all_eq_true.mp (by decide +kernel)
theorem zu93_2 : ∀ q ∈ zT93_2, zCk zx93 q = true := List.all_eq_true.mp (by decide +kernel)
theorem zu93 : zMs[93]? = some zx93 ∧ (∀ q ∈ zT93, zCk zx93 q = true) ∧ zCkM 93 zx93 = true := ⟨rfl, List.forall_mem_append.mpr ⟨zu93_0, List.forall_mem_append.mpr ⟨zu93_1, zu93_2⟩⟩, by decide +kernel⟩
def zx94 : zMI := (yX9_fold, cX9_fold, 6, (some .long), 9, 3, 63, zT94)
theorem zu94_0 : ∀ q ∈ zT94_0, zCk zx94 q = true := List.all_eq_true.mp (by decide +kernel)
theorem zu94_1 : ∀ q ∈ zT94_1, zCk zx94 q = true := List.all_eq_true.mp (by decide +kernel)
theorem zu94_2 : ∀ q ∈ zT94_2, zCk zx94 q = true := List.all_eq_true.mp (by decide +kernel)
theorem zu94_3 : ∀ q ∈ zT94_3, zCk zx94 q = true := List.all_eq_true.mp (by decide +kernel)
theorem zu94_4 : ∀ q ∈ zT94_4, zCk zx94 q = true := List.all_eq_true.mp (by decide +kernel)
theorem zu94_5 : ∀ q ∈ zT94_5, zCk zx94 q = true := List.all_eq_true.mp (by decide +kernel)
theorem zu94 : zMs[94]? = some zx94 ∧ (∀ q ∈ zT94, zCk zx94 q = true) ∧ zCkM 94 zx94 = true := ⟨rfl, List.forall_mem_append.mpr ⟨zu94_0, List.forall_mem_append.mpr ⟨zu94_1, List.forall_mem_append.mpr ⟨zu94_2, List.forall_mem_append.mpr ⟨zu94_3, List.forall_mem_append.mpr ⟨zu94_4, zu94_5⟩⟩⟩⟩⟩, by decide +kernel⟩
def zx95 : zMI := (yX10_init, cX10_init, 3, none, 10, 1, 20, zT95)
theorem zu95_0 : ∀ q ∈ zT95_0, zCk zx95 q = true := List.all_eq_true.mp (by decide +kernel)
theorem zu95_1 : ∀ q ∈ zT95_1, zCk zx95 q = true := List.all_eq_true.mp (by decide +kernel)
theorem zu95 : zMs[95]? = some zx95 ∧ (∀ q ∈ zT95, zCk zx95 q = true) ∧ zCkM 95 zx95 = true := ⟨rfl, List.forall_mem_append.mpr ⟨zu95_0, zu95_1⟩, by decide +kernel⟩
def zx96 : zMI := (yX10_isFull, cX10_isFull, 1, (some .boolean), 10, 0, 0, zT96)
theorem zu96_0 : ∀ q ∈ zT96_0, zCk zx96 q = true := List.all_eq_true.mp (by decide +kernel)
theorem zu96 : zMs[96]? = some zx96 ∧ (∀ q ∈ zT96, zCk zx96 q = true) ∧ zCkM 96 zx96 = true := ⟨rfl, zu96_0, by decide +kernel⟩
def zx97 : zMI := (yX10_at, cX10_at, 4, (some .int), 10, 0, 0, zT97)
theorem zu97_0 : ∀ q ∈ zT97_0, zCk zx97 q = true := List.all_eq_true.mp (by decide +kernel)
theorem zu97_1 : ∀ q ∈ zT97_1, zCk zx97 q = true := List.all_eq_true.mp (by decide +kernel)
theorem zu97 : zMs[97]? = some zx97 ∧ (∀ q ∈ zT97, zCk zx97 q = true) ∧ zCkM 97 zx97 = true := ⟨rfl, List.forall_mem_append.mpr ⟨zu97_0, zu97_1⟩, by decide +kernel⟩
def zx98 : zMI := (yX10_add, cX10_add, 5, (some .int), 10, 1, 20, zT98)
theorem zu98_0 : ∀ q ∈ zT98_0, zCk zx98 q = true := List.all_eq_true.mp (by decide +kernel)
theorem zu98_1 : ∀ q ∈ zT98_1, zCk zx98 q = true := List.all_eq_true.mp (by decide +kernel)
theorem zu98_2 : ∀ q ∈ zT98_2, zCk zx98 q = true := List.all_eq_true.mp (by decide +kernel)
theorem zu98_3 : ∀ q ∈ zT98_3, zCk zx98 q = true := List.all_eq_true.mp (by decide +kernel)
theorem zu98 : zMs[98]? = some zx98 ∧ (∀ q ∈ zT98, zCk zx98 q = true) ∧ zCkM 98 zx98 = true := ⟨rfl, List.forall_mem_append.mpr ⟨zu98_0, List.forall_mem_append.mpr ⟨zu98_1, List.forall_mem_append.mpr ⟨zu98_2, zu98_3⟩⟩⟩, by decide +kernel⟩
def zx99 : zMI := (yX10_empty, cX10_empty, 2, (some .int), 10, 0, 0, zT99)
theorem zu99_0 : ∀ q ∈ zT99_0, zCk zx99 q = true := List.all_eq_true.mp (by decide +kernel)
theorem zu99 : zMs[99]? = some zx99 ∧ (∀ q ∈ zT99, zCk zx99 q = true) ∧ zCkM 99 zx99 = true := ⟨rfl, zu99_0, by decide +kernel⟩
def zx100 : zMI := (yX10_take, cX10_take, 2, none, 10, 1, 26, zT100)
theorem zu100_0 : ∀ q ∈ zT100_0, zCk zx100 q = true := List.all_eq_true.mp (by decide +kernel)
theorem zu100_1 : ∀ q ∈ zT100_1, zCk zx100 q = true := List.all_eq_true.mp (by decide +kernel)
theorem zu100 : zMs[100]? = some zx100 ∧ (∀ q ∈ zT100, zCk zx100 q = true) ∧ zCkM 100 zx100 = true := ⟨rfl, List.forall_mem_append.mpr ⟨zu100_0, zu100_1⟩, by decide +kernel⟩
def zx101 : zMI := (yX10_fold, cX10_fold, 6, (some .long), 10, 0, 0, zT101)
theorem zu101_0 : ∀ q ∈ zT101_0, zCk zx101 q = true := List.all_eq_true.mp (by decide +kernel)
theorem zu101_1 : ∀ q ∈ zT101_1, zCk zx101 q = true := List.all_eq_true.mp (by decide +kernel)
theorem zu101 : zMs[101]? = some zx101 ∧ (∀ q ∈ zT101, zCk zx101 q = true) ∧ zCkM 101 zx101 = true := ⟨rfl, List.forall_mem_append.mpr ⟨zu101_0, zu101_1⟩, by decide +kernel⟩
def zx102 : zMI := (yX11_init, cX11_init, 2, none, 11, 3, 64, zT102)
theorem zu102_0 : ∀ q ∈ zT102_0, zCk zx102 q = true := List.all_eq_true.mp (by decide +kernel)
theorem zu102_1 : ∀ q ∈ zT102_1, zCk zx102 q = true := List.all_eq_true.mp (by decide +kernel)
theorem zu102_2 : ∀ q ∈ zT102_2, zCk zx102 q = true := List.all_eq_true.mp (by decide +kernel)
theorem zu102_3 : ∀ q ∈ zT102_3, zCk zx102 q = true := List.all_eq_true.mp (by decide +kernel)
theorem zu102_4 : ∀ q ∈ zT102_4, zCk zx102 q = true := List.all_eq_true.mp (by decide +kernel)
theorem zu102 : zMs[102]? = some zx102 ∧ (∀ q ∈ zT102, zCk zx102 q = true) ∧ zCkM 102 zx102 = true := ⟨rfl, List.forall_mem_append.mpr ⟨zu102_0, List.forall_mem_append.mpr ⟨zu102_1, List.forall_mem_append.mpr ⟨zu102_2, List.forall_mem_append.mpr ⟨zu102_3, zu102_4⟩⟩⟩⟩, by decide +kernel⟩
def zx103 : zMI := (yX11_put, cX11_put, 4, (some .int), 11, 1, 22, zT103)
theorem zu103_0 : ∀ q ∈ zT103_0, zCk zx103 q = true := List.all_eq_true.mp (by decide +kernel)
theorem zu103_1 : ∀ q ∈ zT103_1, zCk zx103 q = true := List.all_eq_true.mp (by decide +kernel)
theorem zu103_2 : ∀ q ∈ zT103_2, zCk zx103 q = true := List.all_eq_true.mp (by decide +kernel)
theorem zu103 : zMs[103]? = some zx103 ∧ (∀ q ∈ zT103, zCk zx103 q = true) ∧ zCkM 103 zx103 = true := ⟨rfl, List.forall_mem_append.mpr ⟨zu103_0, List.forall_mem_append.mpr ⟨zu103_1, zu103_2⟩⟩, by decide +kernel⟩
def zx104 : zMI := (yX11_type, cX11_type, 7, (some .int), 11, 2, 44, zT104)
theorem zu104_0 : ∀ q ∈ zT104_0, zCk zx104 q = true := List.all_eq_true.mp (by decide +kernel)
theorem zu104_1 : ∀ q ∈ zT104_1, zCk zx104 q = true := List.all_eq_true.mp (by decide +kernel)
theorem zu104_2 : ∀ q ∈ zT104_2, zCk zx104 q = true := List.all_eq_true.mp (by decide +kernel)
theorem zu104_3 : ∀ q ∈ zT104_3, zCk zx104 q = true := List.all_eq_true.mp (by decide +kernel)
theorem zu104 : zMs[104]? = some zx104 ∧ (∀ q ∈ zT104, zCk zx104 q = true) ∧ zCkM 104 zx104 = true := ⟨rfl, List.forall_mem_append.mpr ⟨zu104_0, List.forall_mem_append.mpr ⟨zu104_1, List.forall_mem_append.mpr ⟨zu104_2, zu104_3⟩⟩⟩, by decide +kernel⟩
def zx105 : zMI := (yX11_clear, cX11_clear, 2, (some .int), 11, 2, 42, zT105)
theorem zu105_0 : ∀ q ∈ zT105_0, zCk zx105 q = true := List.all_eq_true.mp (by decide +kernel)
theorem zu105_1 : ∀ q ∈ zT105_1, zCk zx105 q = true := List.all_eq_true.mp (by decide +kernel)
theorem zu105 : zMs[105]? = some zx105 ∧ (∀ q ∈ zT105, zCk zx105 q = true) ∧ zCkM 105 zx105 = true := ⟨rfl, List.forall_mem_append.mpr ⟨zu105_0, zu105_1⟩, by decide +kernel⟩
def zx106 : zMI := (yX11_fault, cX11_fault, 2, (some .int), 11, 8, 174, zT106)
theorem zu106_0 : ∀ q ∈ zT106_0, zCk zx106 q = true := List.all_eq_true.mp (by decide +kernel)
theorem zu106_1 : ∀ q ∈ zT106_1, zCk zx106 q = true := List.all_eq_true.mp (by decide +kernel)
theorem zu106 : zMs[106]? = some zx106 ∧ (∀ q ∈ zT106, zCk zx106 q = true) ∧ zCkM 106 zx106 = true := ⟨rfl, List.forall_mem_append.mpr ⟨zu106_0, zu106_1⟩, by decide +kernel⟩
def zx107 : zMI := (yX11_draws, cX11_draws, 4, (some .int), 11, 9, 197, zT107)
theorem zu107_0 : ∀ q ∈ zT107_0, zCk zx107 q = true := List.all_eq_true.mp (by decide +kernel)
theorem zu107_1 : ∀ q ∈ zT107_1, zCk zx107 q = true := List.all_eq_true.mp (by decide +kernel)
theorem zu107 : zMs[107]? = some zx107 ∧ (∀ q ∈ zT107, zCk zx107 q = true) ∧ zCkM 107 zx107 = true := ⟨rfl, List.forall_mem_append.mpr ⟨zu107_0, zu107_1⟩, by decide +kernel⟩
def zx108 : zMI := (yX11_cell, cX11_cell, 5, (some .int), 11, 9, 197, zT108)
theorem zu108_0 : ∀ q ∈ zT108_0, zCk zx108 q = true := List.all_eq_true.mp (by decide +kernel)
theorem zu108_1 : ∀ q ∈ zT108_1, zCk zx108 q = true := List.all_eq_true.mp (by decide +kernel)
theorem zu108 : zMs[108]? = some zx108 ∧ (∀ q ∈ zT108, zCk zx108 q = true) ∧ zCkM 108 zx108 = true := ⟨rfl, List.forall_mem_append.mpr ⟨zu108_0, zu108_1⟩, by decide +kernel⟩
def zx109 : zMI := (yX11_point, cX11_point, 4, (some .int), 11, 9, 197, zT109)
theorem zu109_0 : ∀ q ∈ zT109_0, zCk zx109 q = true := List.all_eq_true.mp (by decide +kernel)
theorem zu109_1 : ∀ q ∈ zT109_1, zCk zx109 q = true := List.all_eq_true.mp (by decide +kernel)
theorem zu109 : zMs[109]? = some zx109 ∧ (∀ q ∈ zT109, zCk zx109 q = true) ∧ zCkM 109 zx109 = true := ⟨rfl, List.forall_mem_append.mpr ⟨zu109_0, zu109_1⟩, by decide +kernel⟩
def zx110 : zMI := (yX11_same, cX11_same, 5, (some .int), 11, 9, 197, zT110)
theorem zu110_0 : ∀ q ∈ zT110_0, zCk zx110 q = true := List.all_eq_true.mp (by decide +kernel)
theorem zu110_1 : ∀ q ∈ zT110_1, zCk zx110 q = true := List.all_eq_true.mp (by decide +kernel)
theorem zu110_2 : ∀ q ∈ zT110_2, zCk zx110 q = true := List.all_eq_true.mp (by decide +kernel)
theorem zu110 : zMs[110]? = some zx110 ∧ (∀ q ∈ zT110, zCk zx110 q = true) ∧ zCkM 110 zx110 = true := ⟨rfl, List.forall_mem_append.mpr ⟨zu110_0, List.forall_mem_append.mpr ⟨zu110_1, zu110_2⟩⟩, by decide +kernel⟩
def zx111 : zMI := (yX11_quickest, cX11_quickest, 7, (some .int), 11, 9, 197, zT111)
theorem zu111_0 : ∀ q ∈ zT111_0, zCk zx111 q = true := List.all_eq_true.mp (by decide +kernel)
theorem zu111_1 : ∀ q ∈ zT111_1, zCk zx111 q = true := List.all_eq_true.mp (by decide +kernel)
theorem zu111_2 : ∀ q ∈ zT111_2, zCk zx111 q = true := List.all_eq_true.mp (by decide +kernel)
theorem zu111_3 : ∀ q ∈ zT111_3, zCk zx111 q = true := List.all_eq_true.mp (by decide +kernel)
theorem zu111 : zMs[111]? = some zx111 ∧ (∀ q ∈ zT111, zCk zx111 q = true) ∧ zCkM 111 zx111 = true := ⟨rfl, List.forall_mem_append.mpr ⟨zu111_0, List.forall_mem_append.mpr ⟨zu111_1, List.forall_mem_append.mpr ⟨zu111_2, zu111_3⟩⟩⟩, by decide +kernel⟩
def zx112 : zMI := (yX11_wish, cX11_wish, 4, (some .int), 11, 2, 44, zT112)
theorem zu112_0 : ∀ q ∈ zT112_0, zCk zx112 q = true := List.all_eq_true.mp (by decide +kernel)
theorem zu112_1 : ∀ q ∈ zT112_1, zCk zx112 q = true := List.all_eq_true.mp (by decide +kernel)
theorem zu112_2 : ∀ q ∈ zT112_2, zCk zx112 q = true := List.all_eq_true.mp (by decide +kernel)
theorem zu112 : zMs[112]? = some zx112 ∧ (∀ q ∈ zT112, zCk zx112 q = true) ∧ zCkM 112 zx112 = true := ⟨rfl, List.forall_mem_append.mpr ⟨zu112_0, List.forall_mem_append.mpr ⟨zu112_1, zu112_2⟩⟩, by decide +kernel⟩
def zx113 : zMI := (yX11_forget, cX11_forget, 1, (some .int), 11, 1, 21, zT113)
theorem zu113_0 : ∀ q ∈ zT113_0, zCk zx113 q = true := List.all_eq_true.mp (by decide +kernel)
theorem zu113 : zMs[113]? = some zx113 ∧ (∀ q ∈ zT113, zCk zx113 q = true) ∧ zCkM 113 zx113 = true := ⟨rfl, zu113_0, by decide +kernel⟩
def zx114 : zMI := (yX11_right, cX11_right, 6, (some .int), 11, 2, 42, zT114)
theorem zu114_0 : ∀ q ∈ zT114_0, zCk zx114 q = true := List.all_eq_true.mp (by decide +kernel)
theorem zu114_1 : ∀ q ∈ zT114_1, zCk zx114 q = true := List.all_eq_true.mp (by decide +kernel)
theorem zu114_2 : ∀ q ∈ zT114_2, zCk zx114 q = true := List.all_eq_true.mp (by decide +kernel)
theorem zu114_3 : ∀ q ∈ zT114_3, zCk zx114 q = true := List.all_eq_true.mp (by decide +kernel)
theorem zu114 : zMs[114]? = some zx114 ∧ (∀ q ∈ zT114, zCk zx114 q = true) ∧ zCkM 114 zx114 = true := ⟨rfl, List.forall_mem_append.mpr ⟨zu114_0, List.forall_mem_append.mpr ⟨zu114_1, List.forall_mem_append.mpr ⟨zu114_2, zu114_3⟩⟩⟩, by decide +kernel⟩
def zx115 : zMI := (yX11_corner, cX11_corner, 3, (some .int), 11, 2, 44, zT115)
theorem zu115_0 : ∀ q ∈ zT115_0, zCk zx115 q = true := List.all_eq_true.mp (by decide +kernel)
theorem zu115_1 : ∀ q ∈ zT115_1, zCk zx115 q = true := List.all_eq_true.mp (by decide +kernel)
theorem zu115 : zMs[115]? = some zx115 ∧ (∀ q ∈ zT115, zCk zx115 q = true) ∧ zCkM 115 zx115 = true := ⟨rfl, List.forall_mem_append.mpr ⟨zu115_0, zu115_1⟩, by decide +kernel⟩
def zx116 : zMI := (yX11_edge, cX11_edge, 5, (some .int), 11, 2, 44, zT116)
theorem zu116_0 : ∀ q ∈ zT116_0, zCk zx116 q = true := List.all_eq_true.mp (by decide +kernel)
theorem zu116_1 : ∀ q ∈ zT116_1, zCk zx116 q = true := List.all_eq_true.mp (by decide +kernel)
theorem zu116_2 : ∀ q ∈ zT116_2, zCk zx116 q = true := List.all_eq_true.mp (by decide +kernel)
theorem zu116_3 : ∀ q ∈ zT116_3, zCk zx116 q = true := List.all_eq_true.mp (by decide +kernel)
theorem zu116 : zMs[116]? = some zx116 ∧ (∀ q ∈ zT116, zCk zx116 q = true) ∧ zCkM 116 zx116 = true := ⟨rfl, List.forall_mem_append.mpr ⟨zu116_0, List.forall_mem_append.mpr ⟨zu116_1, List.forall_mem_append.mpr ⟨zu116_2, zu116_3⟩⟩⟩, by decide +kernel⟩
def zx117 : zMI := (yX11_unnet, cX11_unnet, 1, (some .int), 11, 1, 21, zT117)
theorem zu117_0 : ∀ q ∈ zT117_0, zCk zx117 q = true := List.all_eq_true.mp (by decide +kernel)
theorem zu117 : zMs[117]? = some zx117 ∧ (∀ q ∈ zT117, zCk zx117 q = true) ∧ zCkM 117 zx117 = true := ⟨rfl, zu117_0, by decide +kernel⟩
def zx118 : zMI := (yX11_odd, cX11_odd, 1, (some .int), 11, 3, 72, zT118)
theorem zu118_0 : ∀ q ∈ zT118_0, zCk zx118 q = true := List.all_eq_true.mp (by decide +kernel)
theorem zu118 : zMs[118]? = some zx118 ∧ (∀ q ∈ zT118, zCk zx118 q = true) ∧ zCkM 118 zx118 = true := ⟨rfl, zu118_0, by decide +kernel⟩
def zx119 : zMI := (yX11_once, cX11_once, 1, (some .int), 11, 3, 72, zT119)
theorem zu119_0 : ∀ q ∈ zT119_0, zCk zx119 q = true := List.all_eq_true.mp (by decide +kernel)
theorem zu119 : zMs[119]? = some zx119 ∧ (∀ q ∈ zT119, zCk zx119 q = true) ∧ zCkM 119 zx119 = true := ⟨rfl, zu119_0, by decide +kernel⟩
def zx120 : zMI := (yX11_trail, cX11_trail, 2, (some .int), 11, 5, 119, zT120)
theorem zu120_0 : ∀ q ∈ zT120_0, zCk zx120 q = true := List.all_eq_true.mp (by decide +kernel)
theorem zu120_1 : ∀ q ∈ zT120_1, zCk zx120 q = true := List.all_eq_true.mp (by decide +kernel)
theorem zu120 : zMs[120]? = some zx120 ∧ (∀ q ∈ zT120, zCk zx120 q = true) ∧ zCkM 120 zx120 = true := ⟨rfl, List.forall_mem_append.mpr ⟨zu120_0, zu120_1⟩, by decide +kernel⟩
