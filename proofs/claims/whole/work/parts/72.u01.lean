/-! ===== every instruction of every method is as its table has it ===== -/
def zx43 : zMI := (yX4_init, cX4_init, 1, none, 4, 1, 20, zT43)
theorem zu43_0 : ∀ q ∈ zT43_0, zCk zx43 q = true := List.all_eq_true.mp (by decide +kernel)
theorem zu43_1 : ∀ q ∈ zT43_1, zCk zx43 q = true := List.all_eq_true.mp (by decide +kernel)
theorem zu43 : zMs[43]? = some zx43 ∧ (∀ q ∈ zT43, zCk zx43 q = true) ∧ zCkM 43 zx43 = true := ⟨rfl, List.forall_mem_append.mpr ⟨zu43_0, zu43_1⟩, by decide +kernel⟩
def zx44 : zMI := (yX4_begin, cX4_begin, 4, none, 4, 0, 0, zT44)
theorem zu44_0 : ∀ q ∈ zT44_0, zCk zx44 q = true := List.all_eq_true.mp (by decide +kernel)
theorem zu44_1 : ∀ q ∈ zT44_1, zCk zx44 q = true := List.all_eq_true.mp (by decide +kernel)
theorem zu44 : zMs[44]? = some zx44 ∧ (∀ q ∈ zT44, zCk zx44 q = true) ∧ zCkM 44 zx44 = true := ⟨rfl, List.forall_mem_append.mpr ⟨zu44_0, zu44_1⟩, by decide +kernel⟩
def zx45 : zMI := (yX4_click, cX4_click, 3, none, 4, 0, 0, zT45)
theorem zu45_0 : ∀ q ∈ zT45_0, zCk zx45 q = true := List.all_eq_true.mp (by decide +kernel)
theorem zu45_1 : ∀ q ∈ zT45_1, zCk zx45 q = true := List.all_eq_true.mp (by decide +kernel)
theorem zu45_2 : ∀ q ∈ zT45_2, zCk zx45 q = true := List.all_eq_true.mp (by decide +kernel)
theorem zu45_3 : ∀ q ∈ zT45_3, zCk zx45 q = true := List.all_eq_true.mp (by decide +kernel)
theorem zu45_4 : ∀ q ∈ zT45_4, zCk zx45 q = true := List.all_eq_true.mp (by decide +kernel)
theorem zu45 : zMs[45]? = some zx45 ∧ (∀ q ∈ zT45, zCk zx45 q = true) ∧ zCkM 45 zx45 = true := ⟨rfl, List.forall_mem_append.mpr ⟨zu45_0, List.forall_mem_append.mpr ⟨zu45_1, List.forall_mem_append.mpr ⟨zu45_2, List.forall_mem_append.mpr ⟨zu45_3, zu45_4⟩⟩⟩⟩, by decide +kernel⟩
def zx46 : zMI := (yX5_init, cX5_init, 1, none, 5, 1, 20, zT46)
theorem zu46_0 : ∀ q ∈ zT46_0, zCk zx46 q = true := List.all_eq_true.mp (by decide +kernel)
theorem zu46 : zMs[46]? = some zx46 ∧ (∀ q ∈ zT46, zCk zx46 q = true) ∧ zCkM 46 zx46 = true := ⟨rfl, zu46_0, by decide +kernel⟩
def zx47 : zMI := (yX5_fewestFrom, cX5_fewestFrom, 6, (some .int), 5, 4, 98, zT47)
theorem zu47_0 : ∀ q ∈ zT47_0, zCk zx47 q = true := List.all_eq_true.mp (by decide +kernel)
theorem zu47_1 : ∀ q ∈ zT47_1, zCk zx47 q = true := List.all_eq_true.mp (by decide +kernel)
theorem zu47_2 : ∀ q ∈ zT47_2, zCk zx47 q = true := List.all_eq_true.mp (by decide +kernel)
theorem zu47_3 : ∀ q ∈ zT47_3, zCk zx47 q = true := List.all_eq_true.mp (by decide +kernel)
theorem zu47_4 : ∀ q ∈ zT47_4, zCk zx47 q = true := List.all_eq_true.mp (by decide +kernel)
theorem zu47 : zMs[47]? = some zx47 ∧ (∀ q ∈ zT47, zCk zx47 q = true) ∧ zCkM 47 zx47 = true := ⟨rfl, List.forall_mem_append.mpr ⟨zu47_0, List.forall_mem_append.mpr ⟨zu47_1, List.forall_mem_append.mpr ⟨zu47_2, List.forall_mem_append.mpr ⟨zu47_3, zu47_4⟩⟩⟩⟩, by decide +kernel⟩
def zx48 : zMI := (yX5_come, cX5_come, 4, none, 5, 0, 0, zT48)
theorem zu48_0 : ∀ q ∈ zT48_0, zCk zx48 q = true := List.all_eq_true.mp (by decide +kernel)
theorem zu48_1 : ∀ q ∈ zT48_1, zCk zx48 q = true := List.all_eq_true.mp (by decide +kernel)
theorem zu48 : zMs[48]? = some zx48 ∧ (∀ q ∈ zT48, zCk zx48 q = true) ∧ zCkM 48 zx48 = true := ⟨rfl, List.forall_mem_append.mpr ⟨zu48_0, zu48_1⟩, by decide +kernel⟩
def zx49 : zMI := (yX5_goOn, cX5_goOn, 8, none, 5, 3, 71, zT49)
theorem zu49_0 : ∀ q ∈ zT49_0, zCk zx49 q = true := List.all_eq_true.mp (by decide +kernel)
theorem zu49_1 : ∀ q ∈ zT49_1, zCk zx49 q = true := List.all_eq_true.mp (by decide +kernel)
theorem zu49_2 : ∀ q ∈ zT49_2, zCk zx49 q = true := List.all_eq_true.mp (by decide +kernel)
theorem zu49_3 : ∀ q ∈ zT49_3, zCk zx49 q = true := List.all_eq_true.mp (by decide +kernel)
theorem zu49_4 : ∀ q ∈ zT49_4, zCk zx49 q = true := List.all_eq_true.mp (by decide +kernel)
theorem zu49_5 : ∀ q ∈ zT49_5, zCk zx49 q = true := List.all_eq_true.mp (by decide +kernel)
theorem zu49 : zMs[49]? = some zx49 ∧ (∀ q ∈ zT49, zCk zx49 q = true) ∧ zCkM 49 zx49 = true := ⟨rfl, List.forall_mem_append.mpr ⟨zu49_0, List.forall_mem_append.mpr ⟨zu49_1, List.forall_mem_append.mpr ⟨zu49_2, List.forall_mem_append.mpr ⟨zu49_3, List.forall_mem_append.mpr ⟨zu49_4, zu49_5⟩⟩⟩⟩⟩, by decide +kernel⟩
def zx50 : zMI := (yX5_stroke, cX5_stroke, 10, none, 5, 2, 42, zT50)
theorem zu50_0 : ∀ q ∈ zT50_0, zCk zx50 q = true := List.all_eq_true.mp (by decide +kernel)
theorem zu50_1 : ∀ q ∈ zT50_1, zCk zx50 q = true := List.all_eq_true.mp (by decide +kernel)
theorem zu50_2 : ∀ q ∈ zT50_2, zCk zx50 q = true := List.all_eq_true.mp (by decide +kernel)
theorem zu50_3 : ∀ q ∈ zT50_3, zCk zx50 q = true := List.all_eq_true.mp (by decide +kernel)
theorem zu50 : zMs[50]? = some zx50 ∧ (∀ q ∈ zT50, zCk zx50 q = true) ∧ zCkM 50 zx50 = true := ⟨rfl, List.forall_mem_append.mpr ⟨zu50_0, List.forall_mem_append.mpr ⟨zu50_1, List.forall_mem_append.mpr ⟨zu50_2, zu50_3⟩⟩⟩, by decide +kernel⟩
def zx51 : zMI := (yX5_turnsAbout, cX5_turnsAbout, 2, (some .int), 5, 1, 21, zT51)
theorem zu51_0 : ∀ q ∈ zT51_0, zCk zx51 q = true := List.all_eq_true.mp (by decide +kernel)
theorem zu51 : zMs[51]? = some zx51 ∧ (∀ q ∈ zT51, zCk zx51 q = true) ∧ zCkM 51 zx51 = true := ⟨rfl, zu51_0, by decide +kernel⟩
def zx52 : zMI := (yX5_holdAfter, cX5_holdAfter, 2, (some .int), 5, 0, 0, zT52)
theorem zu52_0 : ∀ q ∈ zT52_0, zCk zx52 q = true := List.all_eq_true.mp (by decide +kernel)
theorem zu52 : zMs[52]? = some zx52 ∧ (∀ q ∈ zT52, zCk zx52 q = true) ∧ zCkM 52 zx52 = true := ⟨rfl, zu52_0, by decide +kernel⟩
def zx53 : zMI := (yX6_init, cX6_init, 1, none, 6, 1, 20, zT53)
theorem zu53_0 : ∀ q ∈ zT53_0, zCk zx53 q = true := List.all_eq_true.mp (by decide +kernel)
theorem zu53_1 : ∀ q ∈ zT53_1, zCk zx53 q = true := List.all_eq_true.mp (by decide +kernel)
theorem zu53_2 : ∀ q ∈ zT53_2, zCk zx53 q = true := List.all_eq_true.mp (by decide +kernel)
theorem zu53_3 : ∀ q ∈ zT53_3, zCk zx53 q = true := List.all_eq_true.mp (by decide +kernel)
theorem zu53_4 : ∀ q ∈ zT53_4, zCk zx53 q = true := List.all_eq_true.mp (by decide +kernel)
theorem zu53 : zMs[53]? = some zx53 ∧ (∀ q ∈ zT53, zCk zx53 q = true) ∧ zCkM 53 zx53 = true := ⟨rfl, List.forall_mem_append.mpr ⟨zu53_0, List.forall_mem_append.mpr ⟨zu53_1, List.forall_mem_append.mpr ⟨zu53_2, List.forall_mem_append.mpr ⟨zu53_3, zu53_4⟩⟩⟩⟩, by decide +kernel⟩
def zx54 : zMI := (yX6_outdate, cX6_outdate, 1, none, 6, 0, 0, zT54)
theorem zu54_0 : ∀ q ∈ zT54_0, zCk zx54 q = true := List.all_eq_true.mp (by decide +kernel)
theorem zu54 : zMs[54]? = some zx54 ∧ (∀ q ∈ zT54, zCk zx54 q = true) ∧ zCkM 54 zx54 = true := ⟨rfl, zu54_0, by decide +kernel⟩
def zx55 : zMI := (yX6_learn, cX6_learn, 3, none, 6, 2, 50, zT55)
theorem zu55_0 : ∀ q ∈ zT55_0, zCk zx55 q = true := List.all_eq_true.mp (by decide +kernel)
theorem zu55_1 : ∀ q ∈ zT55_1, zCk zx55 q = true := List.all_eq_true.mp (by decide +kernel)
theorem zu55_2 : ∀ q ∈ zT55_2, zCk zx55 q = true := List.all_eq_true.mp (by decide +kernel)
theorem zu55_3 : ∀ q ∈ zT55_3, zCk zx55 q = true := List.all_eq_true.mp (by decide +kernel)
theorem zu55_4 : ∀ q ∈ zT55_4, zCk zx55 q = true := List.all_eq_true.mp (by decide +kernel)
theorem zu55_5 : ∀ q ∈ zT55_5, zCk zx55 q = true := List.all_eq_true.mp (by decide +kernel)
theorem zu55 : zMs[55]? = some zx55 ∧ (∀ q ∈ zT55, zCk zx55 q = true) ∧ zCkM 55 zx55 = true := ⟨rfl, List.forall_mem_append.mpr ⟨zu55_0, List.forall_mem_append.mpr ⟨zu55_1, List.forall_mem_append.mpr ⟨zu55_2, List.forall_mem_append.mpr ⟨zu55_3, List.forall_mem_append.mpr ⟨zu55_4, zu55_5⟩⟩⟩⟩⟩, by decide +kernel⟩
def zx56 : zMI := (yX6_learnEdge, cX6_learnEdge, 8, none, 6, 1, 23, zT56)
theorem zu56_0 : ∀ q ∈ zT56_0, zCk zx56 q = true := List.all_eq_true.mp (by decide +kernel)
theorem zu56_1 : ∀ q ∈ zT56_1, zCk zx56 q = true := List.all_eq_true.mp (by decide +kernel)
theorem zu56_2 : ∀ q ∈ zT56_2, zCk zx56 q = true := List.all_eq_true.mp (by decide +kernel)
theorem zu56_3 : ∀ q ∈ zT56_3, zCk zx56 q = true := List.all_eq_true.mp (by decide +kernel)
theorem zu56_4 : ∀ q ∈ zT56_4, zCk zx56 q = true := List.all_eq_true.mp (by decide +kernel)
theorem zu56_5 : ∀ q ∈ zT56_5, zCk zx56 q = true := List.all_eq_true.mp (by decide +kernel)
theorem zu56_6 : ∀ q ∈ zT56_6, zCk zx56 q = true := List.all_eq_true.mp (by decide +kernel)
theorem zu56 : zMs[56]? = some zx56 ∧ (∀ q ∈ zT56, zCk zx56 q = true) ∧ zCkM 56 zx56 = true := ⟨rfl, List.forall_mem_append.mpr ⟨zu56_0, List.forall_mem_append.mpr ⟨zu56_1, List.forall_mem_append.mpr ⟨zu56_2, List.forall_mem_append.mpr ⟨zu56_3, List.forall_mem_append.mpr ⟨zu56_4, List.forall_mem_append.mpr ⟨zu56_5, zu56_6⟩⟩⟩⟩⟩⟩, by decide +kernel⟩
def zx57 : zMI := (yX6_twinsAhead, cX6_twinsAhead, 4, (some .int), 6, 0, 0, zT57)
theorem zu57_0 : ∀ q ∈ zT57_0, zCk zx57 q = true := List.all_eq_true.mp (by decide +kernel)
theorem zu57_1 : ∀ q ∈ zT57_1, zCk zx57 q = true := List.all_eq_true.mp (by decide +kernel)
theorem zu57 : zMs[57]? = some zx57 ∧ (∀ q ∈ zT57, zCk zx57 q = true) ∧ zCkM 57 zx57 = true := ⟨rfl, List.forall_mem_append.mpr ⟨zu57_0, zu57_1⟩, by decide +kernel⟩
def zx58 : zMI := (yX6_allEdges, cX6_allEdges, 1, (some .int), 6, 0, 0, zT58)
theorem zu58_0 : ∀ q ∈ zT58_0, zCk zx58 q = true := List.all_eq_true.mp (by decide +kernel)
theorem zu58 : zMs[58]? = some zx58 ∧ (∀ q ∈ zT58, zCk zx58 q = true) ∧ zCkM 58 zx58 = true := ⟨rfl, zu58_0, by decide +kernel⟩
def zx59 : zMI := (yX6_otherEnd, cX6_otherEnd, 3, (some .int), 6, 0, 0, zT59)
theorem zu59_0 : ∀ q ∈ zT59_0, zCk zx59 q = true := List.all_eq_true.mp (by decide +kernel)
theorem zu59 : zMs[59]? = some zx59 ∧ (∀ q ∈ zT59, zCk zx59 q = true) ∧ zCkM 59 zx59 = true := ⟨rfl, zu59_0, by decide +kernel⟩
def zx60 : zMI := (yX6_hangsOn, cX6_hangsOn, 8, (some .boolean), 6, 0, 0, zT60)
theorem zu60_0 : ∀ q ∈ zT60_0, zCk zx60 q = true := List.all_eq_true.mp (by decide +kernel)
theorem zu60_1 : ∀ q ∈ zT60_1, zCk zx60 q = true := List.all_eq_true.mp (by decide +kernel)
theorem zu60_2 : ∀ q ∈ zT60_2, zCk zx60 q = true := List.all_eq_true.mp (by decide +kernel)
theorem zu60_3 : ∀ q ∈ zT60_3, zCk zx60 q = true := List.all_eq_true.mp (by decide +kernel)
theorem zu60_4 : ∀ q ∈ zT60_4, zCk zx60 q = true := List.all_eq_true.mp (by decide +kernel)
theorem zu60 : zMs[60]? = some zx60 ∧ (∀ q ∈ zT60, zCk zx60 q = true) ∧ zCkM 60 zx60 = true := ⟨rfl, List.forall_mem_append.mpr ⟨zu60_0, List.forall_mem_append.mpr ⟨zu60_1, List.forall_mem_append.mpr ⟨zu60_2, List.forall_mem_append.mpr ⟨zu60_3, zu60_4⟩⟩⟩⟩, by decide +kernel⟩
def zx61 : zMI := (yX6_hasLine, cX6_hasLine, 1, (some .boolean), 6, 0, 0, zT61)
theorem zu61_0 : ∀ q ∈ zT61_0, zCk zx61 q = true := List.all_eq_true.mp (by decide +kernel)
theorem zu61 : zMs[61]? = some zx61 ∧ (∀ q ∈ zT61, zCk zx61 q = true) ∧ zCkM 61 zx61 = true := ⟨rfl, zu61_0, by decide +kernel⟩
def zx62 : zMI := (yX6_firstCorners, cX6_firstCorners, 3, (some .int), 6, 1, 20, zT62)
theorem zu62_0 : ∀ q ∈ zT62_0, zCk zx62 q = true := List.all_eq_true.mp (by decide +kernel)
theorem zu62_1 : ∀ q ∈ zT62_1, zCk zx62 q = true := List.all_eq_true.mp (by decide +kernel)
theorem zu62 : zMs[62]? = some zx62 ∧ (∀ q ∈ zT62, zCk zx62 q = true) ∧ zCkM 62 zx62 = true := ⟨rfl, List.forall_mem_append.mpr ⟨zu62_0, zu62_1⟩, by decide +kernel⟩
def zx63 : zMI := (yX6_placeOfTrail, cX6_placeOfTrail, 2, (some .int), 6, 4, 98, zT63)
theorem zu63_0 : ∀ q ∈ zT63_0, zCk zx63 q = true := List.all_eq_true.mp (by decide +kernel)
theorem zu63_1 : ∀ q ∈ zT63_1, zCk zx63 q = true := List.all_eq_true.mp (by decide +kernel)
theorem zu63 : zMs[63]? = some zx63 ∧ (∀ q ∈ zT63, zCk zx63 q = true) ∧ zCkM 63 zx63 = true := ⟨rfl, List.forall_mem_append.mpr ⟨zu63_0, zu63_1⟩, by decide +kernel⟩
def zx64 : zMI := (yX6_findTrail, cX6_findTrail, 3, none, 6, 3, 76, zT64)
theorem zu64_0 : ∀ q ∈ zT64_0, zCk zx64 q = true := List.all_eq_true.mp (by decide +kernel)
theorem zu64_1 : ∀ q ∈ zT64_1, zCk zx64 q = true := List.all_eq_true.mp (by decide +kernel)
theorem zu64_2 : ∀ q ∈ zT64_2, zCk zx64 q = true := List.all_eq_true.mp (by decide +kernel)
theorem zu64 : zMs[64]? = some zx64 ∧ (∀ q ∈ zT64, zCk zx64 q = true) ∧ zCkM 64 zx64 = true := ⟨rfl, List.forall_mem_append.mpr ⟨zu64_0, List.forall_mem_append.mpr ⟨zu64_1, zu64_2⟩⟩, by decide +kernel⟩
def zx65 : zMI := (yX6_goLeastFrom, cX6_goLeastFrom, 6, none, 6, 2, 51, zT65)
theorem zu65_0 : ∀ q ∈ zT65_0, zCk zx65 q = true := List.all_eq_true.mp (by decide +kernel)
theorem zu65_1 : ∀ q ∈ zT65_1, zCk zx65 q = true := List.all_eq_true.mp (by decide +kernel)
theorem zu65_2 : ∀ q ∈ zT65_2, zCk zx65 q = true := List.all_eq_true.mp (by decide +kernel)
theorem zu65 : zMs[65]? = some zx65 ∧ (∀ q ∈ zT65, zCk zx65 q = true) ∧ zCkM 65 zx65 = true := ⟨rfl, List.forall_mem_append.mpr ⟨zu65_0, List.forall_mem_append.mpr ⟨zu65_1, zu65_2⟩⟩, by decide +kernel⟩
def zx66 : zMI := (yX6_leastStep, cX6_leastStep, 5, (some .int), 6, 1, 27, zT66)
theorem zu66_0 : ∀ q ∈ zT66_0, zCk zx66 q = true := List.all_eq_true.mp (by decide +kernel)
theorem zu66_1 : ∀ q ∈ zT66_1, zCk zx66 q = true := List.all_eq_true.mp (by decide +kernel)
theorem zu66_2 : ∀ q ∈ zT66_2, zCk zx66 q = true := List.all_eq_true.mp (by decide +kernel)
theorem zu66_3 : ∀ q ∈ zT66_3, zCk zx66 q = true := List.all_eq_true.mp (by decide +kernel)
theorem zu66 : zMs[66]? = some zx66 ∧ (∀ q ∈ zT66, zCk zx66 q = true) ∧ zCkM 66 zx66 = true := ⟨rfl, List.forall_mem_append.mpr ⟨zu66_0, List.forall_mem_append.mpr ⟨zu66_1, List.forall_mem_append.mpr ⟨zu66_2, zu66_3⟩⟩⟩, by decide +kernel⟩
def zx67 : zMI := (yX6_isTriedFirst, cX6_isTriedFirst, 2, (some .boolean), 6, 0, 0, zT67)
theorem zu67_0 : ∀ q ∈ zT67_0, zCk zx67 q = true := List.all_eq_true.mp (by decide +kernel)
theorem zu67_1 : ∀ q ∈ zT67_1, zCk zx67 q = true := List.all_eq_true.mp (by decide +kernel)
theorem zu67 : zMs[67]? = some zx67 ∧ (∀ q ∈ zT67, zCk zx67 q = true) ∧ zCkM 67 zx67 = true := ⟨rfl, List.forall_mem_append.mpr ⟨zu67_0, zu67_1⟩, by decide +kernel⟩
def zx68 : zMI := (yX6_fewestAbouts, cX6_fewestAbouts, 4, (some .int), 6, 5, 123, zT68)
theorem zu68_0 : ∀ q ∈ zT68_0, zCk zx68 q = true := List.all_eq_true.mp (by decide +kernel)
theorem zu68_1 : ∀ q ∈ zT68_1, zCk zx68 q = true := List.all_eq_true.mp (by decide +kernel)
theorem zu68_2 : ∀ q ∈ zT68_2, zCk zx68 q = true := List.all_eq_true.mp (by decide +kernel)
theorem zu68 : zMs[68]? = some zx68 ∧ (∀ q ∈ zT68, zCk zx68 q = true) ∧ zCkM 68 zx68 = true := ⟨rfl, List.forall_mem_append.mpr ⟨zu68_0, List.forall_mem_append.mpr ⟨zu68_1, zu68_2⟩⟩, by decide +kernel⟩
def zx69 : zMI := (yX6_leastPrice, cX6_leastPrice, 7, (some .int), 6, 1, 21, zT69)
theorem zu69_0 : ∀ q ∈ zT69_0, zCk zx69 q = true := List.all_eq_true.mp (by decide +kernel)
theorem zu69_1 : ∀ q ∈ zT69_1, zCk zx69 q = true := List.all_eq_true.mp (by decide +kernel)
theorem zu69_2 : ∀ q ∈ zT69_2, zCk zx69 q = true := List.all_eq_true.mp (by decide +kernel)
theorem zu69_3 : ∀ q ∈ zT69_3, zCk zx69 q = true := List.all_eq_true.mp (by decide +kernel)
theorem zu69_4 : ∀ q ∈ zT69_4, zCk zx69 q = true := List.all_eq_true.mp (by decide +kernel)
theorem zu69_5 : ∀ q ∈ zT69_5, zCk zx69 q = true := List.all_eq_true.mp (by decide +kernel)
theorem zu69 : zMs[69]? = some zx69 ∧ (∀ q ∈ zT69, zCk zx69 q = true) ∧ zCkM 69 zx69 = true := ⟨rfl, List.forall_mem_append.mpr ⟨zu69_0, List.forall_mem_append.mpr ⟨zu69_1, List.forall_mem_append.mpr ⟨zu69_2, List.forall_mem_append.mpr ⟨zu69_3, List.forall_mem_append.mpr ⟨zu69_4, zu69_5⟩⟩⟩⟩⟩, by decide +kernel⟩
def zx70 : zMI := (yX6_lowestBit, cX6_lowestBit, 2, (some .int), 6, 0, 0, zT70)
theorem zu70_0 : ∀ q ∈ zT70_0, zCk zx70 q = true := List.all_eq_true.mp (by decide +kernel)
theorem zu70 : zMs[70]? = some zx70 ∧ (∀ q ∈ zT70, zCk zx70 q = true) ∧ zCkM 70 zx70 = true := ⟨rfl, zu70_0, by decide +kernel⟩
def zx71 : zMI := (yX7_init, cX7_init, 1, none, 7, 1, 20, zT71)
theorem zu71_0 : ∀ q ∈ zT71_0, zCk zx71 q = true := List.all_eq_true.mp (by decide +kernel)
theorem zu71 : zMs[71]? = some zx71 ∧ (∀ q ∈ zT71, zCk zx71 q = true) ∧ zCkM 71 zx71 = true := ⟨rfl, zu71_0, by decide +kernel⟩
def zx72 : zMI := (yX7_leastOff, cX7_leastOff, 5, (some .int), 7, 3, 75, zT72)
theorem zu72_0 : ∀ q ∈ zT72_0, zCk zx72 q = true := List.all_eq_true.mp (by decide +kernel)
theorem zu72_1 : ∀ q ∈ zT72_1, zCk zx72 q = true := List.all_eq_true.mp (by decide +kernel)
theorem zu72_2 : ∀ q ∈ zT72_2, zCk zx72 q = true := List.all_eq_true.mp (by decide +kernel)
theorem zu72_3 : ∀ q ∈ zT72_3, zCk zx72 q = true := List.all_eq_true.mp (by decide +kernel)
theorem zu72 : zMs[72]? = some zx72 ∧ (∀ q ∈ zT72, zCk zx72 q = true) ∧ zCkM 72 zx72 = true := ⟨rfl, List.forall_mem_append.mpr ⟨zu72_0, List.forall_mem_append.mpr ⟨zu72_1, List.forall_mem_append.mpr ⟨zu72_2, zu72_3⟩⟩⟩, by decide +kernel⟩
def zx73 : zMI := (yX7_row, cX7_row, 2, (some .int), 7, 0, 0, zT73)
theorem zu73_0 : ∀ q ∈ zT73_0, zCk zx73 q = true := List.all_eq_true.mp (by decide +kernel)
theorem zu73 : zMs[73]? = some zx73 ∧ (∀ q ∈ zT73, zCk zx73 q = true) ∧ zCkM 73 zx73 = true := ⟨rfl, zu73_0, by decide +kernel⟩
def zx74 : zMI := (yX7_goOn, cX7_goOn, 6, none, 7, 2, 50, zT74)
theorem zu74_0 : ∀ q ∈ zT74_0, zCk zx74 q = true := List.all_eq_true.mp (by decide +kernel)
theorem zu74_1 : ∀ q ∈ zT74_1, zCk zx74 q = true := List.all_eq_true.mp (by decide +kernel)
theorem zu74_2 : ∀ q ∈ zT74_2, zCk zx74 q = true := List.all_eq_true.mp (by decide +kernel)
theorem zu74 : zMs[74]? = some zx74 ∧ (∀ q ∈ zT74, zCk zx74 q = true) ∧ zCkM 74 zx74 = true := ⟨rfl, List.forall_mem_append.mpr ⟨zu74_0, List.forall_mem_append.mpr ⟨zu74_1, zu74_2⟩⟩, by decide +kernel⟩
def zx75 : zMI := (yX7_stroke, cX7_stroke, 6, none, 7, 1, 21, zT75)
theorem zu75_0 : ∀ q ∈ zT75_0, zCk zx75 q = true := List.all_eq_true.mp (by decide +kernel)
theorem zu75_1 : ∀ q ∈ zT75_1, zCk zx75 q = true := List.all_eq_true.mp (by decide +kernel)
theorem zu75_2 : ∀ q ∈ zT75_2, zCk zx75 q = true := List.all_eq_true.mp (by decide +kernel)
theorem zu75 : zMs[75]? = some zx75 ∧ (∀ q ∈ zT75, zCk zx75 q = true) ∧ zCkM 75 zx75 = true := ⟨rfl, List.forall_mem_append.mpr ⟨zu75_0, List.forall_mem_append.mpr ⟨zu75_1, zu75_2⟩⟩, by decide +kernel⟩
def zx76 : zMI := (yX7_strokeOff, cX7_strokeOff, 10, (some .int), 7, 1, 21, zT76)
theorem zu76_0 : ∀ q ∈ zT76_0, zCk zx76 q = true := List.all_eq_true.mp (by decide +kernel)
theorem zu76_1 : ∀ q ∈ zT76_1, zCk zx76 q = true := List.all_eq_true.mp (by decide +kernel)
theorem zu76_2 : ∀ q ∈ zT76_2, zCk zx76 q = true := List.all_eq_true.mp (by decide +kernel)
theorem zu76 : zMs[76]? = some zx76 ∧ (∀ q ∈ zT76, zCk zx76 q = true) ∧ zCkM 76 zx76 = true := ⟨rfl, List.forall_mem_append.mpr ⟨zu76_0, List.forall_mem_append.mpr ⟨zu76_1, zu76_2⟩⟩, by decide +kernel⟩
def zx77 : zMI := (yX8_init, cX8_init, 1, none, 8, 1, 20, zT77)
theorem zu77_0 : ∀ q ∈ zT77_0, zCk zx77 q = true := List.all_eq_true.mp (by decide +kernel)
theorem zu77_1 : ∀ q ∈ zT77_1, zCk zx77 q = true := List.all_eq_true.mp (by decide +kernel)
theorem zu77_2 : ∀ q ∈ zT77_2, zCk zx77 q = true := List.all_eq_true.mp (by decide +kernel)
theorem zu77_3 : ∀ q ∈ zT77_3, zCk zx77 q = true := List.all_eq_true.mp (by decide +kernel)
theorem zu77 : zMs[77]? = some zx77 ∧ (∀ q ∈ zT77, zCk zx77 q = true) ∧ zCkM 77 zx77 = true := ⟨rfl, List.forall_mem_append.mpr ⟨zu77_0, List.forall_mem_append.mpr ⟨zu77_1, List.forall_mem_append.mpr ⟨zu77_2, zu77_3⟩⟩⟩, by decide +kernel⟩
def zx78 : zMI := (yX8_read, cX8_read, 4, none, 8, 7, 151, zT78)
theorem zu78_0 : ∀ q ∈ zT78_0, zCk zx78 q = true := List.all_eq_true.mp (by decide +kernel)
theorem zu78_1 : ∀ q ∈ zT78_1, zCk zx78 q = true := List.all_eq_true.mp (by decide +kernel)
theorem zu78_2 : ∀ q ∈ zT78_2, zCk zx78 q = true := List.all_eq_true.mp (by decide +kernel)
theorem zu78_3 : ∀ q ∈ zT78_3, zCk zx78 q = true := List.all_eq_true.mp (by decide +kernel)
theorem zu78_4 : ∀ q ∈ zT78_4, zCk zx78 q = true := List.all_eq_true.mp (by decide +kernel)
theorem zu78 : zMs[78]? = some zx78 ∧ (∀ q ∈ zT78, zCk zx78 q = true) ∧ zCkM 78 zx78 = true := ⟨rfl, List.forall_mem_append.mpr ⟨zu78_0, List.forall_mem_append.mpr ⟨zu78_1, List.forall_mem_append.mpr ⟨zu78_2, List.forall_mem_append.mpr ⟨zu78_3, zu78_4⟩⟩⟩⟩, by decide +kernel⟩
def zx79 : zMI := (yX8_readToken, cX8_readToken, 3, none, 8, 6, 129, zT79)
theorem zu79_0 : ∀ q ∈ zT79_0, zCk zx79 q = true := List.all_eq_true.mp (by decide +kernel)
theorem zu79_1 : ∀ q ∈ zT79_1, zCk zx79 q = true := List.all_eq_true.mp (by decide +kernel)
theorem zu79_2 : ∀ q ∈ zT79_2, zCk zx79 q = true := List.all_eq_true.mp (by decide +kernel)
theorem zu79_3 : ∀ q ∈ zT79_3, zCk zx79 q = true := List.all_eq_true.mp (by decide +kernel)
theorem zu79_4 : ∀ q ∈ zT79_4, zCk zx79 q = true := List.all_eq_true.mp (by decide +kernel)
theorem zu79_5 : ∀ q ∈ zT79_5, zCk zx79 q = true := List.all_eq_true.mp (by decide +kernel)
theorem zu79 : zMs[79]? = some zx79 ∧ (∀ q ∈ zT79, zCk zx79 q = true) ∧ zCkM 79 zx79 = true := ⟨rfl, List.forall_mem_append.mpr ⟨zu79_0, List.forall_mem_append.mpr ⟨zu79_1, List.forall_mem_append.mpr ⟨zu79_2, List.forall_mem_append.mpr ⟨zu79_3, List.forall_mem_append.mpr ⟨zu79_4, zu79_5⟩⟩⟩⟩⟩, by decide +kernel⟩
