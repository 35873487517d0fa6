/-! ===== every instruction of every method is as its table has it ===== -/
def zx121 : zMI := (yX11_starts, cX11_starts, 1, (some .int), 11, 3, 72, zT121)
theorem zu121_0 : ∀ q ∈ zT121_0, zCk zx121 q = true := List.all_eq_true.mp (by decide +kernel)
theorem zu121 : zMs[121]? = some zx121 ∧ (∀ q ∈ zT121, zCk zx121 q = true) ∧ zCkM 121 zx121 = true := ⟨rfl, zu121_0, by decide +kernel⟩
def zx122 : zMI := (yX11_bends, cX11_bends, 1, (some .int), 11, 6, 146, zT122)
theorem zu122_0 : ∀ q ∈ zT122_0, zCk zx122 q = true := List.all_eq_true.mp (by decide +kernel)
theorem zu122_1 : ∀ q ∈ zT122_1, zCk zx122 q = true := List.all_eq_true.mp (by decide +kernel)
theorem zu122 : zMs[122]? = some zx122 ∧ (∀ q ∈ zT122, zCk zx122 q = true) ∧ zCkM 122 zx122 = true := ⟨rfl, List.forall_mem_append.mpr ⟨zu122_0, zu122_1⟩, by decide +kernel⟩
def zx123 : zMI := (yX11_again, cX11_again, 1, (some .int), 11, 3, 72, zT123)
theorem zu123_0 : ∀ q ∈ zT123_0, zCk zx123 q = true := List.all_eq_true.mp (by decide +kernel)
theorem zu123_1 : ∀ q ∈ zT123_1, zCk zx123 q = true := List.all_eq_true.mp (by decide +kernel)
theorem zu123 : zMs[123]? = some zx123 ∧ (∀ q ∈ zT123, zCk zx123 q = true) ∧ zCkM 123 zx123 = true := ⟨rfl, List.forall_mem_append.mpr ⟨zu123_0, zu123_1⟩, by decide +kernel⟩
def zx124 : zMI := (yX11_round, cX11_round, 3, (some .int), 11, 4, 99, zT124)
theorem zu124_0 : ∀ q ∈ zT124_0, zCk zx124 q = true := List.all_eq_true.mp (by decide +kernel)
theorem zu124_1 : ∀ q ∈ zT124_1, zCk zx124 q = true := List.all_eq_true.mp (by decide +kernel)
theorem zu124 : zMs[124]? = some zx124 ∧ (∀ q ∈ zT124, zCk zx124 q = true) ∧ zCkM 124 zx124 = true := ⟨rfl, List.forall_mem_append.mpr ⟨zu124_0, zu124_1⟩, by decide +kernel⟩
def zx125 : zMI := (yX11_see, cX11_see, 6, (some .int), 11, 2, 43, zT125)
theorem zu125_0 : ∀ q ∈ zT125_0, zCk zx125 q = true := List.all_eq_true.mp (by decide +kernel)
theorem zu125_1 : ∀ q ∈ zT125_1, zCk zx125 q = true := List.all_eq_true.mp (by decide +kernel)
theorem zu125_2 : ∀ q ∈ zT125_2, zCk zx125 q = true := List.all_eq_true.mp (by decide +kernel)
theorem zu125_3 : ∀ q ∈ zT125_3, zCk zx125 q = true := List.all_eq_true.mp (by decide +kernel)
theorem zu125_4 : ∀ q ∈ zT125_4, zCk zx125 q = true := List.all_eq_true.mp (by decide +kernel)
theorem zu125 : zMs[125]? = some zx125 ∧ (∀ q ∈ zT125, zCk zx125 q = true) ∧ zCkM 125 zx125 = true := ⟨rfl, List.forall_mem_append.mpr ⟨zu125_0, List.forall_mem_append.mpr ⟨zu125_1, List.forall_mem_append.mpr ⟨zu125_2, List.forall_mem_append.mpr ⟨zu125_3, zu125_4⟩⟩⟩⟩, by decide +kernel⟩
def zx126 : zMI := (yX11_odds, cX11_odds, 2, (some .int), 11, 10, 221, zT126)
theorem zu126_0 : ∀ q ∈ zT126_0, zCk zx126 q = true := List.all_eq_true.mp (by decide +kernel)
theorem zu126 : zMs[126]? = some zx126 ∧ (∀ q ∈ zT126, zCk zx126 q = true) ∧ zCkM 126 zx126 = true := ⟨rfl, zu126_0, by decide +kernel⟩
def zx127 : zMI := (yX11_shaken, cX11_shaken, 1, (some .int), 11, 10, 221, zT127)
theorem zu127_0 : ∀ q ∈ zT127_0, zCk zx127 q = true := List.all_eq_true.mp (by decide +kernel)
theorem zu127 : zMs[127]? = some zx127 ∧ (∀ q ∈ zT127, zCk zx127 q = true) ∧ zCkM 127 zx127 = true := ⟨rfl, zu127_0, by decide +kernel⟩
def zx128 : zMI := (yX11_before, cX11_before, 3, (some .int), 11, 10, 221, zT128)
theorem zu128_0 : ∀ q ∈ zT128_0, zCk zx128 q = true := List.all_eq_true.mp (by decide +kernel)
theorem zu128 : zMs[128]? = some zx128 ∧ (∀ q ∈ zT128, zCk zx128 q = true) ∧ zCkM 128 zx128 = true := ⟨rfl, zu128_0, by decide +kernel⟩
def zx129 : zMI := (yX11_test, cX11_test, 4, (some .int), 11, 2, 44, zT129)
theorem zu129_0 : ∀ q ∈ zT129_0, zCk zx129 q = true := List.all_eq_true.mp (by decide +kernel)
theorem zu129_1 : ∀ q ∈ zT129_1, zCk zx129 q = true := List.all_eq_true.mp (by decide +kernel)
theorem zu129_2 : ∀ q ∈ zT129_2, zCk zx129 q = true := List.all_eq_true.mp (by decide +kernel)
theorem zu129 : zMs[129]? = some zx129 ∧ (∀ q ∈ zT129, zCk zx129 q = true) ∧ zCkM 129 zx129 = true := ⟨rfl, List.forall_mem_append.mpr ⟨zu129_0, List.forall_mem_append.mpr ⟨zu129_1, zu129_2⟩⟩, by decide +kernel⟩
def zx130 : zMI := (yX11_span, cX11_span, 8, (some .int), 11, 2, 42, zT130)
theorem zu130_0 : ∀ q ∈ zT130_0, zCk zx130 q = true := List.all_eq_true.mp (by decide +kernel)
theorem zu130_1 : ∀ q ∈ zT130_1, zCk zx130 q = true := List.all_eq_true.mp (by decide +kernel)
theorem zu130_2 : ∀ q ∈ zT130_2, zCk zx130 q = true := List.all_eq_true.mp (by decide +kernel)
theorem zu130_3 : ∀ q ∈ zT130_3, zCk zx130 q = true := List.all_eq_true.mp (by decide +kernel)
theorem zu130_4 : ∀ q ∈ zT130_4, zCk zx130 q = true := List.all_eq_true.mp (by decide +kernel)
theorem zu130_5 : ∀ q ∈ zT130_5, zCk zx130 q = true := List.all_eq_true.mp (by decide +kernel)
theorem zu130 : zMs[130]? = some zx130 ∧ (∀ q ∈ zT130, zCk zx130 q = true) ∧ zCkM 130 zx130 = true := ⟨rfl, List.forall_mem_append.mpr ⟨zu130_0, List.forall_mem_append.mpr ⟨zu130_1, List.forall_mem_append.mpr ⟨zu130_2, List.forall_mem_append.mpr ⟨zu130_3, List.forall_mem_append.mpr ⟨zu130_4, zu130_5⟩⟩⟩⟩⟩, by decide +kernel⟩
def zx131 : zMI := (yX11_sign, cX11_sign, 2, (some .int), 11, 1, 22, zT131)
theorem zu131_0 : ∀ q ∈ zT131_0, zCk zx131 q = true := List.all_eq_true.mp (by decide +kernel)
theorem zu131 : zMs[131]? = some zx131 ∧ (∀ q ∈ zT131, zCk zx131 q = true) ∧ zCkM 131 zx131 = true := ⟨rfl, zu131_0, by decide +kernel⟩
def zx132 : zMI := (yX11_limb, cX11_limb, 4, (some .int), 11, 1, 22, zT132)
theorem zu132_0 : ∀ q ∈ zT132_0, zCk zx132 q = true := List.all_eq_true.mp (by decide +kernel)
theorem zu132_1 : ∀ q ∈ zT132_1, zCk zx132 q = true := List.all_eq_true.mp (by decide +kernel)
theorem zu132_2 : ∀ q ∈ zT132_2, zCk zx132 q = true := List.all_eq_true.mp (by decide +kernel)
theorem zu132 : zMs[132]? = some zx132 ∧ (∀ q ∈ zT132, zCk zx132 q = true) ∧ zCkM 132 zx132 = true := ⟨rfl, List.forall_mem_append.mpr ⟨zu132_0, List.forall_mem_append.mpr ⟨zu132_1, zu132_2⟩⟩, by decide +kernel⟩
def zx133 : zMI := (yX11_image, cX11_image, 2, (some .int), 11, 3, 69, zT133)
theorem zu133_0 : ∀ q ∈ zT133_0, zCk zx133 q = true := List.all_eq_true.mp (by decide +kernel)
theorem zu133_1 : ∀ q ∈ zT133_1, zCk zx133 q = true := List.all_eq_true.mp (by decide +kernel)
theorem zu133 : zMs[133]? = some zx133 ∧ (∀ q ∈ zT133, zCk zx133 q = true) ∧ zCkM 133 zx133 = true := ⟨rfl, List.forall_mem_append.mpr ⟨zu133_0, zu133_1⟩, by decide +kernel⟩
def zx134 : zMI := (yX11_from, cX11_from, 4, (some .int), 11, 3, 69, zT134)
theorem zu134_0 : ∀ q ∈ zT134_0, zCk zx134 q = true := List.all_eq_true.mp (by decide +kernel)
theorem zu134_1 : ∀ q ∈ zT134_1, zCk zx134 q = true := List.all_eq_true.mp (by decide +kernel)
theorem zu134_2 : ∀ q ∈ zT134_2, zCk zx134 q = true := List.all_eq_true.mp (by decide +kernel)
theorem zu134 : zMs[134]? = some zx134 ∧ (∀ q ∈ zT134, zCk zx134 q = true) ∧ zCkM 134 zx134 = true := ⟨rfl, List.forall_mem_append.mpr ⟨zu134_0, List.forall_mem_append.mpr ⟨zu134_1, zu134_2⟩⟩, by decide +kernel⟩
def zx135 : zMI := (yX11_status, cX11_status, 2, (some .int), 11, 1, 22, zT135)
theorem zu135_0 : ∀ q ∈ zT135_0, zCk zx135 q = true := List.all_eq_true.mp (by decide +kernel)
theorem zu135 : zMs[135]? = some zx135 ∧ (∀ q ∈ zT135, zCk zx135 q = true) ∧ zCkM 135 zx135 = true := ⟨rfl, zu135_0, by decide +kernel⟩
def zx136 : zMI := (yX11_count, cX11_count, 2, (some .int), 11, 3, 63, zT136)
theorem zu136_0 : ∀ q ∈ zT136_0, zCk zx136 q = true := List.all_eq_true.mp (by decide +kernel)
theorem zu136 : zMs[136]? = some zx136 ∧ (∀ q ∈ zT136, zCk zx136 q = true) ∧ zCkM 136 zx136 = true := ⟨rfl, zu136_0, by decide +kernel⟩
def zx137 : zMI := (yX11_digest, cX11_digest, 1, (some .long), 11, 4, 88, zT137)
theorem zu137_0 : ∀ q ∈ zT137_0, zCk zx137 q = true := List.all_eq_true.mp (by decide +kernel)
theorem zu137 : zMs[137]? = some zx137 ∧ (∀ q ∈ zT137, zCk zx137 q = true) ∧ zCkM 137 zx137 = true := ⟨rfl, zu137_0, by decide +kernel⟩
def zx138 : zMI := (yX11_refuse, cX11_refuse, 3, (some .int), 11, 0, 0, zT138)
theorem zu138_0 : ∀ q ∈ zT138_0, zCk zx138 q = true := List.all_eq_true.mp (by decide +kernel)
theorem zu138 : zMs[138]? = some zx138 ∧ (∀ q ∈ zT138, zCk zx138 q = true) ∧ zCkM 138 zx138 = true := ⟨rfl, zu138_0, by decide +kernel⟩
def zx139 : zMI := (yX11_isWithin, cX11_isWithin, 3, (some .boolean), 11, 0, 0, zT139)
theorem zu139_0 : ∀ q ∈ zT139_0, zCk zx139 q = true := List.all_eq_true.mp (by decide +kernel)
theorem zu139 : zMs[139]? = some zx139 ∧ (∀ q ∈ zT139, zCk zx139 q = true) ∧ zCkM 139 zx139 = true := ⟨rfl, zu139_0, by decide +kernel⟩
def zx140 : zMI := (yX11_isProgram, cX11_isProgram, 1, (some .boolean), 11, 1, 22, zT140)
theorem zu140_0 : ∀ q ∈ zT140_0, zCk zx140 q = true := List.all_eq_true.mp (by decide +kernel)
theorem zu140 : zMs[140]? = some zx140 ∧ (∀ q ∈ zT140, zCk zx140 q = true) ∧ zCkM 140 zx140 = true := ⟨rfl, zu140_0, by decide +kernel⟩
def zx141 : zMI := (yX11_isKnob, cX11_isKnob, 1, (some .boolean), 11, 1, 22, zT141)
theorem zu141_0 : ∀ q ∈ zT141_0, zCk zx141 q = true := List.all_eq_true.mp (by decide +kernel)
theorem zu141 : zMs[141]? = some zx141 ∧ (∀ q ∈ zT141, zCk zx141 q = true) ∧ zCkM 141 zx141 = true := ⟨rfl, zu141_0, by decide +kernel⟩
def zx142 : zMI := (yX11_isCell, cX11_isCell, 2, (some .boolean), 11, 1, 22, zT142)
theorem zu142_0 : ∀ q ∈ zT142_0, zCk zx142 q = true := List.all_eq_true.mp (by decide +kernel)
theorem zu142 : zMs[142]? = some zx142 ∧ (∀ q ∈ zT142, zCk zx142 q = true) ∧ zCkM 142 zx142 = true := ⟨rfl, zu142_0, by decide +kernel⟩
def zx143 : zMI := (yX11_cellAt, cX11_cellAt, 2, (some .int), 11, 0, 0, zT143)
theorem zu143_0 : ∀ q ∈ zT143_0, zCk zx143 q = true := List.all_eq_true.mp (by decide +kernel)
theorem zu143 : zMs[143]? = some zx143 ∧ (∀ q ∈ zT143, zCk zx143 q = true) ∧ zCkM 143 zx143 = true := ⟨rfl, zu143_0, by decide +kernel⟩
def zx144 : zMI := (yX11_isShakenOff, cX11_isShakenOff, 2, (some .boolean), 11, 0, 0, zT144)
theorem zu144_0 : ∀ q ∈ zT144_0, zCk zx144 q = true := List.all_eq_true.mp (by decide +kernel)
theorem zu144_1 : ∀ q ∈ zT144_1, zCk zx144 q = true := List.all_eq_true.mp (by decide +kernel)
theorem zu144 : zMs[144]? = some zx144 ∧ (∀ q ∈ zT144, zCk zx144 q = true) ∧ zCkM 144 zx144 = true := ⟨rfl, List.forall_mem_append.mpr ⟨zu144_0, zu144_1⟩, by decide +kernel⟩
def zx145 : zMI := (yX11_slackFor, cX11_slackFor, 3, (some .int), 11, 0, 0, zT145)
theorem zu145_0 : ∀ q ∈ zT145_0, zCk zx145 q = true := List.all_eq_true.mp (by decide +kernel)
theorem zu145 : zMs[145]? = some zx145 ∧ (∀ q ∈ zT145, zCk zx145 q = true) ∧ zCkM 145 zx145 = true := ⟨rfl, zu145_0, by decide +kernel⟩
def zx146 : zMI := (yX11_outdateProgram, cX11_outdateProgram, 2, none, 11, 0, 0, zT146)
theorem zu146_0 : ∀ q ∈ zT146_0, zCk zx146 q = true := List.all_eq_true.mp (by decide +kernel)
theorem zu146 : zMs[146]? = some zx146 ∧ (∀ q ∈ zT146, zCk zx146 q = true) ∧ zCkM 146 zx146 = true := ⟨rfl, zu146_0, by decide +kernel⟩
def zx147 : zMI := (yX11_outdateDrawings, cX11_outdateDrawings, 2, none, 11, 0, 0, zT147)
theorem zu147_0 : ∀ q ∈ zT147_0, zCk zx147 q = true := List.all_eq_true.mp (by decide +kernel)
theorem zu147 : zMs[147]? = some zx147 ∧ (∀ q ∈ zT147, zCk zx147 q = true) ∧ zCkM 147 zx147 = true := ⟨rfl, zu147_0, by decide +kernel⟩
def zx148 : zMI := (yX11_drawingOf, cX11_drawingOf, 4, (some (.object "TwoKnobs$Drawing")), 11, 8, 174, zT148)
theorem zu148_0 : ∀ q ∈ zT148_0, zCk zx148 q = true := List.all_eq_true.mp (by decide +kernel)
theorem zu148_1 : ∀ q ∈ zT148_1, zCk zx148 q = true := List.all_eq_true.mp (by decide +kernel)
theorem zu148 : zMs[148]? = some zx148 ∧ (∀ q ∈ zT148, zCk zx148 q = true) ∧ zCkM 148 zx148 = true := ⟨rfl, List.forall_mem_append.mpr ⟨zu148_0, zu148_1⟩, by decide +kernel⟩
def zx149 : zMI := (yX11_weigh, cX11_weigh, 5, (some .int), 11, 9, 197, zT149)
theorem zu149_0 : ∀ q ∈ zT149_0, zCk zx149 q = true := List.all_eq_true.mp (by decide +kernel)
theorem zu149_1 : ∀ q ∈ zT149_1, zCk zx149 q = true := List.all_eq_true.mp (by decide +kernel)
theorem zu149_2 : ∀ q ∈ zT149_2, zCk zx149 q = true := List.all_eq_true.mp (by decide +kernel)
theorem zu149_3 : ∀ q ∈ zT149_3, zCk zx149 q = true := List.all_eq_true.mp (by decide +kernel)
theorem zu149 : zMs[149]? = some zx149 ∧ (∀ q ∈ zT149, zCk zx149 q = true) ∧ zCkM 149 zx149 = true := ⟨rfl, List.forall_mem_append.mpr ⟨zu149_0, List.forall_mem_append.mpr ⟨zu149_1, List.forall_mem_append.mpr ⟨zu149_2, zu149_3⟩⟩⟩, by decide +kernel⟩
def zx150 : zMI := (yX12_init, cX12_init, 2, none, 12, 1, 25, zT150)
theorem zu150_0 : ∀ q ∈ zT150_0, zCk zx150 q = true := List.all_eq_true.mp (by decide +kernel)
theorem zu150_1 : ∀ q ∈ zT150_1, zCk zx150 q = true := List.all_eq_true.mp (by decide +kernel)
theorem zu150_2 : ∀ q ∈ zT150_2, zCk zx150 q = true := List.all_eq_true.mp (by decide +kernel)
theorem zu150_3 : ∀ q ∈ zT150_3, zCk zx150 q = true := List.all_eq_true.mp (by decide +kernel)
theorem zu150_4 : ∀ q ∈ zT150_4, zCk zx150 q = true := List.all_eq_true.mp (by decide +kernel)
theorem zu150_5 : ∀ q ∈ zT150_5, zCk zx150 q = true := List.all_eq_true.mp (by decide +kernel)
theorem zu150_6 : ∀ q ∈ zT150_6, zCk zx150 q = true := List.all_eq_true.mp (by decide +kernel)
theorem zu150_7 : ∀ q ∈ zT150_7, zCk zx150 q = true := List.all_eq_true.mp (by decide +kernel)
theorem zu150_8 : ∀ q ∈ zT150_8, zCk zx150 q = true := List.all_eq_true.mp (by decide +kernel)
theorem zu150 : zMs[150]? = some zx150 ∧ (∀ q ∈ zT150, zCk zx150 q = true) ∧ zCkM 150 zx150 = true := ⟨rfl, List.forall_mem_append.mpr ⟨zu150_0, List.forall_mem_append.mpr ⟨zu150_1, List.forall_mem_append.mpr ⟨zu150_2, List.forall_mem_append.mpr ⟨zu150_3, List.forall_mem_append.mpr ⟨zu150_4, List.forall_mem_append.mpr ⟨zu150_5, List.forall_mem_append.mpr ⟨zu150_6, List.forall_mem_append.mpr ⟨zu150_7, zu150_8⟩⟩⟩⟩⟩⟩⟩⟩, by decide +kernel⟩
def zx151 : zMI := (yX12_in, cX12_in, 6, (some .boolean), 12, 0, 0, zT151)
theorem zu151_0 : ∀ q ∈ zT151_0, zCk zx151 q = true := List.all_eq_true.mp (by decide +kernel)
theorem zu151 : zMs[151]? = some zx151 ∧ (∀ q ∈ zT151, zCk zx151 q = true) ∧ zCkM 151 zx151 = true := ⟨rfl, zu151_0, by decide +kernel⟩
def zx152 : zMI := (yX12_bad, cX12_bad, 2, (some .int), 12, 0, 0, zT152)
theorem zu152_0 : ∀ q ∈ zT152_0, zCk zx152 q = true := List.all_eq_true.mp (by decide +kernel)
theorem zu152 : zMs[152]? = some zx152 ∧ (∀ q ∈ zT152, zCk zx152 q = true) ∧ zCkM 152 zx152 = true := ⟨rfl, zu152_0, by decide +kernel⟩
def zx153 : zMI := (yX12_no, cX12_no, 2, (some .int), 12, 0, 0, zT153)
theorem zu153_0 : ∀ q ∈ zT153_0, zCk zx153 q = true := List.all_eq_true.mp (by decide +kernel)
theorem zu153 : zMs[153]? = some zx153 ∧ (∀ q ∈ zT153, zCk zx153 q = true) ∧ zCkM 153 zx153 = true := ⟨rfl, zu153_0, by decide +kernel⟩
def zx154 : zMI := (yX12_full, cX12_full, 1, (some .int), 12, 0, 0, zT154)
theorem zu154_0 : ∀ q ∈ zT154_0, zCk zx154 q = true := List.all_eq_true.mp (by decide +kernel)
theorem zu154 : zMs[154]? = some zx154 ∧ (∀ q ∈ zT154, zCk zx154 q = true) ∧ zCkM 154 zx154 = true := ⟨rfl, zu154_0, by decide +kernel⟩
def zx155 : zMI := (yX12_set, cX12_set, 6, none, 12, 0, 0, zT155)
theorem zu155_0 : ∀ q ∈ zT155_0, zCk zx155 q = true := List.all_eq_true.mp (by decide +kernel)
theorem zu155_1 : ∀ q ∈ zT155_1, zCk zx155 q = true := List.all_eq_true.mp (by decide +kernel)
theorem zu155_2 : ∀ q ∈ zT155_2, zCk zx155 q = true := List.all_eq_true.mp (by decide +kernel)
theorem zu155 : zMs[155]? = some zx155 ∧ (∀ q ∈ zT155, zCk zx155 q = true) ∧ zCkM 155 zx155 = true := ⟨rfl, List.forall_mem_append.mpr ⟨zu155_0, List.forall_mem_append.mpr ⟨zu155_1, zu155_2⟩⟩, by decide +kernel⟩
def zx156 : zMI := (yX12_copy, cX12_copy, 4, none, 12, 0, 0, zT156)
theorem zu156_0 : ∀ q ∈ zT156_0, zCk zx156 q = true := List.all_eq_true.mp (by decide +kernel)
theorem zu156_1 : ∀ q ∈ zT156_1, zCk zx156 q = true := List.all_eq_true.mp (by decide +kernel)
theorem zu156_2 : ∀ q ∈ zT156_2, zCk zx156 q = true := List.all_eq_true.mp (by decide +kernel)
theorem zu156 : zMs[156]? = some zx156 ∧ (∀ q ∈ zT156, zCk zx156 q = true) ∧ zCkM 156 zx156 = true := ⟨rfl, List.forall_mem_append.mpr ⟨zu156_0, List.forall_mem_append.mpr ⟨zu156_1, zu156_2⟩⟩, by decide +kernel⟩
def zx157 : zMI := (yX12_trim, cX12_trim, 2, none, 12, 0, 0, zT157)
theorem zu157_0 : ∀ q ∈ zT157_0, zCk zx157 q = true := List.all_eq_true.mp (by decide +kernel)
theorem zu157_1 : ∀ q ∈ zT157_1, zCk zx157 q = true := List.all_eq_true.mp (by decide +kernel)
theorem zu157 : zMs[157]? = some zx157 ∧ (∀ q ∈ zT157, zCk zx157 q = true) ∧ zCkM 157 zx157 = true := ⟨rfl, List.forall_mem_append.mpr ⟨zu157_0, zu157_1⟩, by decide +kernel⟩
def zx158 : zMI := (yX12_times, cX12_times, 9, none, 12, 1, 21, zT158)
theorem zu158_0 : ∀ q ∈ zT158_0, zCk zx158 q = true := List.all_eq_true.mp (by decide +kernel)
theorem zu158_1 : ∀ q ∈ zT158_1, zCk zx158 q = true := List.all_eq_true.mp (by decide +kernel)
theorem zu158_2 : ∀ q ∈ zT158_2, zCk zx158 q = true := List.all_eq_true.mp (by decide +kernel)
theorem zu158_3 : ∀ q ∈ zT158_3, zCk zx158 q = true := List.all_eq_true.mp (by decide +kernel)
theorem zu158_4 : ∀ q ∈ zT158_4, zCk zx158 q = true := List.all_eq_true.mp (by decide +kernel)
theorem zu158 : zMs[158]? = some zx158 ∧ (∀ q ∈ zT158, zCk zx158 q = true) ∧ zCkM 158 zx158 = true := ⟨rfl, List.forall_mem_append.mpr ⟨zu158_0, List.forall_mem_append.mpr ⟨zu158_1, List.forall_mem_append.mpr ⟨zu158_2, List.forall_mem_append.mpr ⟨zu158_3, zu158_4⟩⟩⟩⟩, by decide +kernel⟩
def zx159 : zMI := (yX12_compare, cX12_compare, 6, (some .int), 12, 0, 0, zT159)
theorem zu159_0 : ∀ q ∈ zT159_0, zCk zx159 q = true := List.all_eq_true.mp (by decide +kernel)
theorem zu159_1 : ∀ q ∈ zT159_1, zCk zx159 q = true := List.all_eq_true.mp (by decide +kernel)
theorem zu159_2 : ∀ q ∈ zT159_2, zCk zx159 q = true := List.all_eq_true.mp (by decide +kernel)
theorem zu159_3 : ∀ q ∈ zT159_3, zCk zx159 q = true := List.all_eq_true.mp (by decide +kernel)
theorem zu159_4 : ∀ q ∈ zT159_4, zCk zx159 q = true := List.all_eq_true.mp (by decide +kernel)
theorem zu159 : zMs[159]? = some zx159 ∧ (∀ q ∈ zT159, zCk zx159 q = true) ∧ zCkM 159 zx159 = true := ⟨rfl, List.forall_mem_append.mpr ⟨zu159_0, List.forall_mem_append.mpr ⟨zu159_1, List.forall_mem_append.mpr ⟨zu159_2, List.forall_mem_append.mpr ⟨zu159_3, zu159_4⟩⟩⟩⟩, by decide +kernel⟩
def zx160 : zMI := (yX12_add, cX12_add, 9, none, 12, 1, 21, zT160)
theorem zu160_0 : ∀ q ∈ zT160_0, zCk zx160 q = true := List.all_eq_true.mp (by decide +kernel)
theorem zu160_1 : ∀ q ∈ zT160_1, zCk zx160 q = true := List.all_eq_true.mp (by decide +kernel)
theorem zu160_2 : ∀ q ∈ zT160_2, zCk zx160 q = true := List.all_eq_true.mp (by decide +kernel)
theorem zu160_3 : ∀ q ∈ zT160_3, zCk zx160 q = true := List.all_eq_true.mp (by decide +kernel)
theorem zu160_4 : ∀ q ∈ zT160_4, zCk zx160 q = true := List.all_eq_true.mp (by decide +kernel)
theorem zu160_5 : ∀ q ∈ zT160_5, zCk zx160 q = true := List.all_eq_true.mp (by decide +kernel)
theorem zu160_6 : ∀ q ∈ zT160_6, zCk zx160 q = true := List.all_eq_true.mp (by decide +kernel)
theorem zu160 : zMs[160]? = some zx160 ∧ (∀ q ∈ zT160, zCk zx160 q = true) ∧ zCkM 160 zx160 = true := ⟨rfl, List.forall_mem_append.mpr ⟨zu160_0, List.forall_mem_append.mpr ⟨zu160_1, List.forall_mem_append.mpr ⟨zu160_2, List.forall_mem_append.mpr ⟨zu160_3, List.forall_mem_append.mpr ⟨zu160_4, List.forall_mem_append.mpr ⟨zu160_5, zu160_6⟩⟩⟩⟩⟩⟩, by decide +kernel⟩
def zx161 : zMI := (yX12_take, cX12_take, 8, none, 12, 1, 21, zT161)
theorem zu161_0 : ∀ q ∈ zT161_0, zCk zx161 q = true := List.all_eq_true.mp (by decide +kernel)
theorem zu161_1 : ∀ q ∈ zT161_1, zCk zx161 q = true := List.all_eq_true.mp (by decide +kernel)
theorem zu161_2 : ∀ q ∈ zT161_2, zCk zx161 q = true := List.all_eq_true.mp (by decide +kernel)
theorem zu161_3 : ∀ q ∈ zT161_3, zCk zx161 q = true := List.all_eq_true.mp (by decide +kernel)
theorem zu161_4 : ∀ q ∈ zT161_4, zCk zx161 q = true := List.all_eq_true.mp (by decide +kernel)
theorem zu161 : zMs[161]? = some zx161 ∧ (∀ q ∈ zT161, zCk zx161 q = true) ∧ zCkM 161 zx161 = true := ⟨rfl, List.forall_mem_append.mpr ⟨zu161_0, List.forall_mem_append.mpr ⟨zu161_1, List.forall_mem_append.mpr ⟨zu161_2, List.forall_mem_append.mpr ⟨zu161_3, zu161_4⟩⟩⟩⟩, by decide +kernel⟩
def zx162 : zMI := (yX12_halve, cX12_halve, 7, none, 12, 1, 21, zT162)
theorem zu162_0 : ∀ q ∈ zT162_0, zCk zx162 q = true := List.all_eq_true.mp (by decide +kernel)
theorem zu162_1 : ∀ q ∈ zT162_1, zCk zx162 q = true := List.all_eq_true.mp (by decide +kernel)
theorem zu162_2 : ∀ q ∈ zT162_2, zCk zx162 q = true := List.all_eq_true.mp (by decide +kernel)
theorem zu162 : zMs[162]? = some zx162 ∧ (∀ q ∈ zT162, zCk zx162 q = true) ∧ zCkM 162 zx162 = true := ⟨rfl, List.forall_mem_append.mpr ⟨zu162_0, List.forall_mem_append.mpr ⟨zu162_1, zu162_2⟩⟩, by decide +kernel⟩
def zx163 : zMI := (yX12_isEven, cX12_isEven, 2, (some .boolean), 12, 0, 0, zT163)
theorem zu163_0 : ∀ q ∈ zT163_0, zCk zx163 q = true := List.all_eq_true.mp (by decide +kernel)
theorem zu163_1 : ∀ q ∈ zT163_1, zCk zx163 q = true := List.all_eq_true.mp (by decide +kernel)
theorem zu163 : zMs[163]? = some zx163 ∧ (∀ q ∈ zT163, zCk zx163 q = true) ∧ zCkM 163 zx163 = true := ⟨rfl, List.forall_mem_append.mpr ⟨zu163_0, zu163_1⟩, by decide +kernel⟩
def zx164 : zMI := (yX12_findDivisor, cX12_findDivisor, 5, none, 12, 2, 49, zT164)
theorem zu164_0 : ∀ q ∈ zT164_0, zCk zx164 q = true := List.all_eq_true.mp (by decide +kernel)
theorem zu164_1 : ∀ q ∈ zT164_1, zCk zx164 q = true := List.all_eq_true.mp (by decide +kernel)
theorem zu164_2 : ∀ q ∈ zT164_2, zCk zx164 q = true := List.all_eq_true.mp (by decide +kernel)
theorem zu164_3 : ∀ q ∈ zT164_3, zCk zx164 q = true := List.all_eq_true.mp (by decide +kernel)
theorem zu164_4 : ∀ q ∈ zT164_4, zCk zx164 q = true := List.all_eq_true.mp (by decide +kernel)
theorem zu164_5 : ∀ q ∈ zT164_5, zCk zx164 q = true := List.all_eq_true.mp (by decide +kernel)
theorem zu164 : zMs[164]? = some zx164 ∧ (∀ q ∈ zT164, zCk zx164 q = true) ∧ zCkM 164 zx164 = true := ⟨rfl, List.forall_mem_append.mpr ⟨zu164_0, List.forall_mem_append.mpr ⟨zu164_1, List.forall_mem_append.mpr ⟨zu164_2, List.forall_mem_append.mpr ⟨zu164_3, List.forall_mem_append.mpr ⟨zu164_4, zu164_5⟩⟩⟩⟩⟩, by decide +kernel⟩
def zx165 : zMI := (yX12_divide, cX12_divide, 7, none, 12, 2, 49, zT165)
theorem zu165_0 : ∀ q ∈ zT165_0, zCk zx165 q = true := List.all_eq_true.mp (by decide +kernel)
theorem zu165_1 : ∀ q ∈ zT165_1, zCk zx165 q = true := List.all_eq_true.mp (by decide +kernel)
theorem zu165_2 : ∀ q ∈ zT165_2, zCk zx165 q = true := List.all_eq_true.mp (by decide +kernel)
theorem zu165_3 : ∀ q ∈ zT165_3, zCk zx165 q = true := List.all_eq_true.mp (by decide +kernel)
theorem zu165_4 : ∀ q ∈ zT165_4, zCk zx165 q = true := List.all_eq_true.mp (by decide +kernel)
theorem zu165_5 : ∀ q ∈ zT165_5, zCk zx165 q = true := List.all_eq_true.mp (by decide +kernel)
theorem zu165 : zMs[165]? = some zx165 ∧ (∀ q ∈ zT165, zCk zx165 q = true) ∧ zCkM 165 zx165 = true := ⟨rfl, List.forall_mem_append.mpr ⟨zu165_0, List.forall_mem_append.mpr ⟨zu165_1, List.forall_mem_append.mpr ⟨zu165_2, List.forall_mem_append.mpr ⟨zu165_3, List.forall_mem_append.mpr ⟨zu165_4, zu165_5⟩⟩⟩⟩⟩, by decide +kernel⟩
