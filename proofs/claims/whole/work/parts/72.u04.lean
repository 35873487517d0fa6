/-! ===== every instruction of every method is as its table has it ===== -/
def zx166 : zMI := (yX12_addOne, cX12_addOne, 1, none, 12, 1, 25, zT166)
theorem zu166_0 : ∀ q ∈ zT166_0, zCk zx166 q = true := List.all_eq_true.mp (by decide +kernel)
theorem zu166_1 : ∀ q ∈ zT166_1, zCk zx166 q = true := List.all_eq_true.mp (by decide +kernel)
theorem zu166 : zMs[166]? = some zx166 ∧ (∀ q ∈ zT166, zCk zx166 q = true) ∧ zCkM 166 zx166 = true := ⟨rfl, List.forall_mem_append.mpr ⟨zu166_0, zu166_1⟩, by decide +kernel⟩
def zx167 : zMI := (yX12_tell, cX12_tell, 4, none, 12, 3, 75, zT167)
theorem zu167_0 : ∀ q ∈ zT167_0, zCk zx167 q = true := List.all_eq_true.mp (by decide +kernel)
theorem zu167_1 : ∀ q ∈ zT167_1, zCk zx167 q = true := List.all_eq_true.mp (by decide +kernel)
theorem zu167_2 : ∀ q ∈ zT167_2, zCk zx167 q = true := List.all_eq_true.mp (by decide +kernel)
theorem zu167 : zMs[167]? = some zx167 ∧ (∀ q ∈ zT167, zCk zx167 q = true) ∧ zCkM 167 zx167 = true := ⟨rfl, List.forall_mem_append.mpr ⟨zu167_0, List.forall_mem_append.mpr ⟨zu167_1, zu167_2⟩⟩, by decide +kernel⟩
def zx168 : zMI := (yX12_of, cX12_of, 2, (some .int), 12, 0, 0, zT168)
theorem zu168_0 : ∀ q ∈ zT168_0, zCk zx168 q = true := List.all_eq_true.mp (by decide +kernel)
theorem zu168 : zMs[168]? = some zx168 ∧ (∀ q ∈ zT168, zCk zx168 q = true) ∧ zCkM 168 zx168 = true := ⟨rfl, zu168_0, by decide +kernel⟩
def zx169 : zMI := (yX12_many, cX12_many, 2, (some .int), 12, 0, 0, zT169)
theorem zu169_0 : ∀ q ∈ zT169_0, zCk zx169 q = true := List.all_eq_true.mp (by decide +kernel)
theorem zu169 : zMs[169]? = some zx169 ∧ (∀ q ∈ zT169, zCk zx169 q = true) ∧ zCkM 169 zx169 = true := ⟨rfl, zu169_0, by decide +kernel⟩
def zx170 : zMI := (yX12_leastOf, cX12_leastOf, 1, (some .int), 12, 0, 0, zT170)
theorem zu170_0 : ∀ q ∈ zT170_0, zCk zx170 q = true := List.all_eq_true.mp (by decide +kernel)
theorem zu170 : zMs[170]? = some zx170 ∧ (∀ q ∈ zT170, zCk zx170 q = true) ∧ zCkM 170 zx170 = true := ⟨rfl, zu170_0, by decide +kernel⟩
def zx171 : zMI := (yX12_mostOf, cX12_mostOf, 1, (some .int), 12, 0, 0, zT171)
theorem zu171_0 : ∀ q ∈ zT171_0, zCk zx171 q = true := List.all_eq_true.mp (by decide +kernel)
theorem zu171_1 : ∀ q ∈ zT171_1, zCk zx171 q = true := List.all_eq_true.mp (by decide +kernel)
theorem zu171 : zMs[171]? = some zx171 ∧ (∀ q ∈ zT171, zCk zx171 q = true) ∧ zCkM 171 zx171 = true := ⟨rfl, List.forall_mem_append.mpr ⟨zu171_0, zu171_1⟩, by decide +kernel⟩
def zx172 : zMI := (yX12_put, cX12_put, 4, (some .int), 12, 1, 25, zT172)
theorem zu172_0 : ∀ q ∈ zT172_0, zCk zx172 q = true := List.all_eq_true.mp (by decide +kernel)
theorem zu172_1 : ∀ q ∈ zT172_1, zCk zx172 q = true := List.all_eq_true.mp (by decide +kernel)
theorem zu172_2 : ∀ q ∈ zT172_2, zCk zx172 q = true := List.all_eq_true.mp (by decide +kernel)
theorem zu172 : zMs[172]? = some zx172 ∧ (∀ q ∈ zT172, zCk zx172 q = true) ∧ zCkM 172 zx172 = true := ⟨rfl, List.forall_mem_append.mpr ⟨zu172_0, List.forall_mem_append.mpr ⟨zu172_1, zu172_2⟩⟩, by decide +kernel⟩
def zx173 : zMI := (yX12_isProgram, cX12_isProgram, 1, (some .boolean), 12, 1, 25, zT173)
theorem zu173_0 : ∀ q ∈ zT173_0, zCk zx173 q = true := List.all_eq_true.mp (by decide +kernel)
theorem zu173 : zMs[173]? = some zx173 ∧ (∀ q ∈ zT173, zCk zx173 q = true) ∧ zCkM 173 zx173 = true := ⟨rfl, zu173_0, by decide +kernel⟩
def zx174 : zMI := (yX12_isCell, cX12_isCell, 2, (some .boolean), 12, 1, 25, zT174)
theorem zu174_0 : ∀ q ∈ zT174_0, zCk zx174 q = true := List.all_eq_true.mp (by decide +kernel)
theorem zu174 : zMs[174]? = some zx174 ∧ (∀ q ∈ zT174, zCk zx174 q = true) ∧ zCkM 174 zx174 = true := ⟨rfl, zu174_0, by decide +kernel⟩
def zx175 : zMI := (yX12_textLong, cX12_textLong, 1, (some .int), 12, 0, 0, zT175)
theorem zu175_0 : ∀ q ∈ zT175_0, zCk zx175 q = true := List.all_eq_true.mp (by decide +kernel)
theorem zu175 : zMs[175]? = some zx175 ∧ (∀ q ∈ zT175, zCk zx175 q = true) ∧ zCkM 175 zx175 = true := ⟨rfl, zu175_0, by decide +kernel⟩
def zx176 : zMI := (yX12_byteAt, cX12_byteAt, 2, (some .int), 12, 0, 0, zT176)
theorem zu176_0 : ∀ q ∈ zT176_0, zCk zx176 q = true := List.all_eq_true.mp (by decide +kernel)
theorem zu176 : zMs[176]? = some zx176 ∧ (∀ q ∈ zT176, zCk zx176 q = true) ∧ zCkM 176 zx176 = true := ⟨rfl, zu176_0, by decide +kernel⟩
def zx177 : zMI := (yX12_type, cX12_type, 6, (some .int), 12, 2, 45, zT177)
theorem zu177_0 : ∀ q ∈ zT177_0, zCk zx177 q = true := List.all_eq_true.mp (by decide +kernel)
theorem zu177_1 : ∀ q ∈ zT177_1, zCk zx177 q = true := List.all_eq_true.mp (by decide +kernel)
theorem zu177_2 : ∀ q ∈ zT177_2, zCk zx177 q = true := List.all_eq_true.mp (by decide +kernel)
theorem zu177_3 : ∀ q ∈ zT177_3, zCk zx177 q = true := List.all_eq_true.mp (by decide +kernel)
theorem zu177_4 : ∀ q ∈ zT177_4, zCk zx177 q = true := List.all_eq_true.mp (by decide +kernel)
theorem zu177 : zMs[177]? = some zx177 ∧ (∀ q ∈ zT177, zCk zx177 q = true) ∧ zCkM 177 zx177 = true := ⟨rfl, List.forall_mem_append.mpr ⟨zu177_0, List.forall_mem_append.mpr ⟨zu177_1, List.forall_mem_append.mpr ⟨zu177_2, List.forall_mem_append.mpr ⟨zu177_3, zu177_4⟩⟩⟩⟩, by decide +kernel⟩
def zx178 : zMI := (yX12_clear, cX12_clear, 3, (some .int), 12, 2, 45, zT178)
theorem zu178_0 : ∀ q ∈ zT178_0, zCk zx178 q = true := List.all_eq_true.mp (by decide +kernel)
theorem zu178_1 : ∀ q ∈ zT178_1, zCk zx178 q = true := List.all_eq_true.mp (by decide +kernel)
theorem zu178 : zMs[178]? = some zx178 ∧ (∀ q ∈ zT178, zCk zx178 q = true) ∧ zCkM 178 zx178 = true := ⟨rfl, List.forall_mem_append.mpr ⟨zu178_0, zu178_1⟩, by decide +kernel⟩
def zx179 : zMI := (yX12_isSmall, cX12_isSmall, 1, (some .boolean), 12, 1, 25, zT179)
theorem zu179_0 : ∀ q ∈ zT179_0, zCk zx179 q = true := List.all_eq_true.mp (by decide +kernel)
theorem zu179 : zMs[179]? = some zx179 ∧ (∀ q ∈ zT179, zCk zx179 q = true) ∧ zCkM 179 zx179 = true := ⟨rfl, zu179_0, by decide +kernel⟩
def zx180 : zMI := (yX12_isFigureAt, cX12_isFigureAt, 2, (some .boolean), 12, 1, 25, zT180)
theorem zu180_0 : ∀ q ∈ zT180_0, zCk zx180 q = true := List.all_eq_true.mp (by decide +kernel)
theorem zu180 : zMs[180]? = some zx180 ∧ (∀ q ∈ zT180, zCk zx180 q = true) ∧ zCkM 180 zx180 = true := ⟨rfl, zu180_0, by decide +kernel⟩
def zx181 : zMI := (yX12_look, cX12_look, 6, none, 12, 2, 46, zT181)
theorem zu181_0 : ∀ q ∈ zT181_0, zCk zx181 q = true := List.all_eq_true.mp (by decide +kernel)
theorem zu181_1 : ∀ q ∈ zT181_1, zCk zx181 q = true := List.all_eq_true.mp (by decide +kernel)
theorem zu181_2 : ∀ q ∈ zT181_2, zCk zx181 q = true := List.all_eq_true.mp (by decide +kernel)
theorem zu181_3 : ∀ q ∈ zT181_3, zCk zx181 q = true := List.all_eq_true.mp (by decide +kernel)
theorem zu181_4 : ∀ q ∈ zT181_4, zCk zx181 q = true := List.all_eq_true.mp (by decide +kernel)
theorem zu181_5 : ∀ q ∈ zT181_5, zCk zx181 q = true := List.all_eq_true.mp (by decide +kernel)
theorem zu181_6 : ∀ q ∈ zT181_6, zCk zx181 q = true := List.all_eq_true.mp (by decide +kernel)
theorem zu181_7 : ∀ q ∈ zT181_7, zCk zx181 q = true := List.all_eq_true.mp (by decide +kernel)
theorem zu181_8 : ∀ q ∈ zT181_8, zCk zx181 q = true := List.all_eq_true.mp (by decide +kernel)
theorem zu181_9 : ∀ q ∈ zT181_9, zCk zx181 q = true := List.all_eq_true.mp (by decide +kernel)
theorem zu181_10 : ∀ q ∈ zT181_10, zCk zx181 q = true := List.all_eq_true.mp (by decide +kernel)
theorem zu181 : zMs[181]? = some zx181 ∧ (∀ q ∈ zT181, zCk zx181 q = true) ∧ zCkM 181 zx181 = true := ⟨rfl, List.forall_mem_append.mpr ⟨zu181_0, List.forall_mem_append.mpr ⟨zu181_1, List.forall_mem_append.mpr ⟨zu181_2, List.forall_mem_append.mpr ⟨zu181_3, List.forall_mem_append.mpr ⟨zu181_4, List.forall_mem_append.mpr ⟨zu181_5, List.forall_mem_append.mpr ⟨zu181_6, List.forall_mem_append.mpr ⟨zu181_7, List.forall_mem_append.mpr ⟨zu181_8, List.forall_mem_append.mpr ⟨zu181_9, zu181_10⟩⟩⟩⟩⟩⟩⟩⟩⟩⟩, by decide +kernel⟩
def zx182 : zMI := (yX12_goOn, cX12_goOn, 1, none, 12, 3, 71, zT182)
theorem zu182_0 : ∀ q ∈ zT182_0, zCk zx182 q = true := List.all_eq_true.mp (by decide +kernel)
theorem zu182 : zMs[182]? = some zx182 ∧ (∀ q ∈ zT182, zCk zx182 q = true) ∧ zCkM 182 zx182 = true := ⟨rfl, zu182_0, by decide +kernel⟩
def zx183 : zMI := (yX12_isWord, cX12_isWord, 9, (some .boolean), 12, 1, 21, zT183)
theorem zu183_0 : ∀ q ∈ zT183_0, zCk zx183 q = true := List.all_eq_true.mp (by decide +kernel)
theorem zu183_1 : ∀ q ∈ zT183_1, zCk zx183 q = true := List.all_eq_true.mp (by decide +kernel)
theorem zu183_2 : ∀ q ∈ zT183_2, zCk zx183 q = true := List.all_eq_true.mp (by decide +kernel)
theorem zu183_3 : ∀ q ∈ zT183_3, zCk zx183 q = true := List.all_eq_true.mp (by decide +kernel)
theorem zu183 : zMs[183]? = some zx183 ∧ (∀ q ∈ zT183, zCk zx183 q = true) ∧ zCkM 183 zx183 = true := ⟨rfl, List.forall_mem_append.mpr ⟨zu183_0, List.forall_mem_append.mpr ⟨zu183_1, List.forall_mem_append.mpr ⟨zu183_2, zu183_3⟩⟩⟩, by decide +kernel⟩
def zx184 : zMI := (yX12_takes, cX12_takes, 3, (some .boolean), 12, 4, 91, zT184)
theorem zu184_0 : ∀ q ∈ zT184_0, zCk zx184 q = true := List.all_eq_true.mp (by decide +kernel)
theorem zu184_1 : ∀ q ∈ zT184_1, zCk zx184 q = true := List.all_eq_true.mp (by decide +kernel)
theorem zu184 : zMs[184]? = some zx184 ∧ (∀ q ∈ zT184, zCk zx184 q = true) ∧ zCkM 184 zx184 = true := ⟨rfl, List.forall_mem_append.mpr ⟨zu184_0, zu184_1⟩, by decide +kernel⟩
def zx185 : zMI := (yX12_readItem, cX12_readItem, 2, (some .boolean), 12, 5, 113, zT185)
theorem zu185_0 : ∀ q ∈ zT185_0, zCk zx185 q = true := List.all_eq_true.mp (by decide +kernel)
theorem zu185_1 : ∀ q ∈ zT185_1, zCk zx185 q = true := List.all_eq_true.mp (by decide +kernel)
theorem zu185_2 : ∀ q ∈ zT185_2, zCk zx185 q = true := List.all_eq_true.mp (by decide +kernel)
theorem zu185_3 : ∀ q ∈ zT185_3, zCk zx185 q = true := List.all_eq_true.mp (by decide +kernel)
theorem zu185_4 : ∀ q ∈ zT185_4, zCk zx185 q = true := List.all_eq_true.mp (by decide +kernel)
theorem zu185_5 : ∀ q ∈ zT185_5, zCk zx185 q = true := List.all_eq_true.mp (by decide +kernel)
theorem zu185_6 : ∀ q ∈ zT185_6, zCk zx185 q = true := List.all_eq_true.mp (by decide +kernel)
theorem zu185_7 : ∀ q ∈ zT185_7, zCk zx185 q = true := List.all_eq_true.mp (by decide +kernel)
theorem zu185 : zMs[185]? = some zx185 ∧ (∀ q ∈ zT185, zCk zx185 q = true) ∧ zCkM 185 zx185 = true := ⟨rfl, List.forall_mem_append.mpr ⟨zu185_0, List.forall_mem_append.mpr ⟨zu185_1, List.forall_mem_append.mpr ⟨zu185_2, List.forall_mem_append.mpr ⟨zu185_3, List.forall_mem_append.mpr ⟨zu185_4, List.forall_mem_append.mpr ⟨zu185_5, List.forall_mem_append.mpr ⟨zu185_6, zu185_7⟩⟩⟩⟩⟩⟩⟩, by decide +kernel⟩
def zx186 : zMI := (yX12_reads, cX12_reads, 4, (some .boolean), 12, 6, 134, zT186)
theorem zu186_0 : ∀ q ∈ zT186_0, zCk zx186 q = true := List.all_eq_true.mp (by decide +kernel)
theorem zu186_1 : ∀ q ∈ zT186_1, zCk zx186 q = true := List.all_eq_true.mp (by decide +kernel)
theorem zu186_2 : ∀ q ∈ zT186_2, zCk zx186 q = true := List.all_eq_true.mp (by decide +kernel)
theorem zu186 : zMs[186]? = some zx186 ∧ (∀ q ∈ zT186, zCk zx186 q = true) ∧ zCkM 186 zx186 = true := ⟨rfl, List.forall_mem_append.mpr ⟨zu186_0, List.forall_mem_append.mpr ⟨zu186_1, zu186_2⟩⟩, by decide +kernel⟩
def zx187 : zMI := (yX12_fault, cX12_fault, 2, (some .int), 12, 7, 157, zT187)
theorem zu187_0 : ∀ q ∈ zT187_0, zCk zx187 q = true := List.all_eq_true.mp (by decide +kernel)
theorem zu187 : zMs[187]? = some zx187 ∧ (∀ q ∈ zT187, zCk zx187 q = true) ∧ zCkM 187 zx187 = true := ⟨rfl, zu187_0, by decide +kernel⟩
def zx188 : zMI := (yX12_place, cX12_place, 1, (some .int), 12, 0, 0, zT188)
theorem zu188_0 : ∀ q ∈ zT188_0, zCk zx188 q = true := List.all_eq_true.mp (by decide +kernel)
theorem zu188 : zMs[188]? = some zx188 ∧ (∀ q ∈ zT188, zCk zx188 q = true) ∧ zCkM 188 zx188 = true := ⟨rfl, zu188_0, by decide +kernel⟩
def zx189 : zMI := (yX12_click, cX12_click, 4, none, 12, 1, 25, zT189)
theorem zu189_0 : ∀ q ∈ zT189_0, zCk zx189 q = true := List.all_eq_true.mp (by decide +kernel)
theorem zu189_1 : ∀ q ∈ zT189_1, zCk zx189 q = true := List.all_eq_true.mp (by decide +kernel)
theorem zu189_2 : ∀ q ∈ zT189_2, zCk zx189 q = true := List.all_eq_true.mp (by decide +kernel)
theorem zu189_3 : ∀ q ∈ zT189_3, zCk zx189 q = true := List.all_eq_true.mp (by decide +kernel)
theorem zu189_4 : ∀ q ∈ zT189_4, zCk zx189 q = true := List.all_eq_true.mp (by decide +kernel)
theorem zu189_5 : ∀ q ∈ zT189_5, zCk zx189 q = true := List.all_eq_true.mp (by decide +kernel)
theorem zu189 : zMs[189]? = some zx189 ∧ (∀ q ∈ zT189, zCk zx189 q = true) ∧ zCkM 189 zx189 = true := ⟨rfl, List.forall_mem_append.mpr ⟨zu189_0, List.forall_mem_append.mpr ⟨zu189_1, List.forall_mem_append.mpr ⟨zu189_2, List.forall_mem_append.mpr ⟨zu189_3, List.forall_mem_append.mpr ⟨zu189_4, zu189_5⟩⟩⟩⟩⟩, by decide +kernel⟩
def zx190 : zMI := (yX12_size, cX12_size, 1, (some .int), 12, 0, 0, zT190)
theorem zu190_0 : ∀ q ∈ zT190_0, zCk zx190 q = true := List.all_eq_true.mp (by decide +kernel)
theorem zu190 : zMs[190]? = some zx190 ∧ (∀ q ∈ zT190, zCk zx190 q = true) ∧ zCkM 190 zx190 = true := ⟨rfl, zu190_0, by decide +kernel⟩
def zx191 : zMI := (yX12_sign1, cX12_sign1, 1, (some .int), 12, 0, 0, zT191)
theorem zu191_0 : ∀ q ∈ zT191_0, zCk zx191 q = true := List.all_eq_true.mp (by decide +kernel)
theorem zu191 : zMs[191]? = some zx191 ∧ (∀ q ∈ zT191, zCk zx191 q = true) ∧ zCkM 191 zx191 = true := ⟨rfl, zu191_0, by decide +kernel⟩
def zx192 : zMI := (yX12_greater, cX12_greater, 2, (some .int), 12, 0, 0, zT192)
theorem zu192_0 : ∀ q ∈ zT192_0, zCk zx192 q = true := List.all_eq_true.mp (by decide +kernel)
theorem zu192 : zMs[192]? = some zx192 ∧ (∀ q ∈ zT192, zCk zx192 q = true) ∧ zCkM 192 zx192 = true := ⟨rfl, zu192_0, by decide +kernel⟩
def zx193 : zMI := (yX12_turn, cX12_turn, 6, none, 12, 2, 48, zT193)
theorem zu193_0 : ∀ q ∈ zT193_0, zCk zx193 q = true := List.all_eq_true.mp (by decide +kernel)
theorem zu193_1 : ∀ q ∈ zT193_1, zCk zx193 q = true := List.all_eq_true.mp (by decide +kernel)
theorem zu193_2 : ∀ q ∈ zT193_2, zCk zx193 q = true := List.all_eq_true.mp (by decide +kernel)
theorem zu193_3 : ∀ q ∈ zT193_3, zCk zx193 q = true := List.all_eq_true.mp (by decide +kernel)
theorem zu193_4 : ∀ q ∈ zT193_4, zCk zx193 q = true := List.all_eq_true.mp (by decide +kernel)
theorem zu193_5 : ∀ q ∈ zT193_5, zCk zx193 q = true := List.all_eq_true.mp (by decide +kernel)
theorem zu193_6 : ∀ q ∈ zT193_6, zCk zx193 q = true := List.all_eq_true.mp (by decide +kernel)
theorem zu193_7 : ∀ q ∈ zT193_7, zCk zx193 q = true := List.all_eq_true.mp (by decide +kernel)
theorem zu193 : zMs[193]? = some zx193 ∧ (∀ q ∈ zT193, zCk zx193 q = true) ∧ zCkM 193 zx193 = true := ⟨rfl, List.forall_mem_append.mpr ⟨zu193_0, List.forall_mem_append.mpr ⟨zu193_1, List.forall_mem_append.mpr ⟨zu193_2, List.forall_mem_append.mpr ⟨zu193_3, List.forall_mem_append.mpr ⟨zu193_4, List.forall_mem_append.mpr ⟨zu193_5, List.forall_mem_append.mpr ⟨zu193_6, zu193_7⟩⟩⟩⟩⟩⟩⟩, by decide +kernel⟩
def zx194 : zMI := (yX12_shake, cX12_shake, 5, none, 12, 1, 20, zT194)
theorem zu194_0 : ∀ q ∈ zT194_0, zCk zx194 q = true := List.all_eq_true.mp (by decide +kernel)
theorem zu194_1 : ∀ q ∈ zT194_1, zCk zx194 q = true := List.all_eq_true.mp (by decide +kernel)
theorem zu194_2 : ∀ q ∈ zT194_2, zCk zx194 q = true := List.all_eq_true.mp (by decide +kernel)
theorem zu194 : zMs[194]? = some zx194 ∧ (∀ q ∈ zT194, zCk zx194 q = true) ∧ zCkM 194 zx194 = true := ⟨rfl, List.forall_mem_append.mpr ⟨zu194_0, List.forall_mem_append.mpr ⟨zu194_1, zu194_2⟩⟩, by decide +kernel⟩
def zx195 : zMI := (yX12_startPlate, cX12_startPlate, 2, none, 12, 1, 21, zT195)
theorem zu195_0 : ∀ q ∈ zT195_0, zCk zx195 q = true := List.all_eq_true.mp (by decide +kernel)
theorem zu195_1 : ∀ q ∈ zT195_1, zCk zx195 q = true := List.all_eq_true.mp (by decide +kernel)
theorem zu195_2 : ∀ q ∈ zT195_2, zCk zx195 q = true := List.all_eq_true.mp (by decide +kernel)
theorem zu195_3 : ∀ q ∈ zT195_3, zCk zx195 q = true := List.all_eq_true.mp (by decide +kernel)
theorem zu195_4 : ∀ q ∈ zT195_4, zCk zx195 q = true := List.all_eq_true.mp (by decide +kernel)
theorem zu195 : zMs[195]? = some zx195 ∧ (∀ q ∈ zT195, zCk zx195 q = true) ∧ zCkM 195 zx195 = true := ⟨rfl, List.forall_mem_append.mpr ⟨zu195_0, List.forall_mem_append.mpr ⟨zu195_1, List.forall_mem_append.mpr ⟨zu195_2, List.forall_mem_append.mpr ⟨zu195_3, zu195_4⟩⟩⟩⟩, by decide +kernel⟩
def zx196 : zMI := (yX12_does, cX12_does, 5, none, 12, 6, 134, zT196)
theorem zu196_0 : ∀ q ∈ zT196_0, zCk zx196 q = true := List.all_eq_true.mp (by decide +kernel)
theorem zu196_1 : ∀ q ∈ zT196_1, zCk zx196 q = true := List.all_eq_true.mp (by decide +kernel)
theorem zu196_2 : ∀ q ∈ zT196_2, zCk zx196 q = true := List.all_eq_true.mp (by decide +kernel)
theorem zu196_3 : ∀ q ∈ zT196_3, zCk zx196 q = true := List.all_eq_true.mp (by decide +kernel)
theorem zu196_4 : ∀ q ∈ zT196_4, zCk zx196 q = true := List.all_eq_true.mp (by decide +kernel)
theorem zu196_5 : ∀ q ∈ zT196_5, zCk zx196 q = true := List.all_eq_true.mp (by decide +kernel)
theorem zu196_6 : ∀ q ∈ zT196_6, zCk zx196 q = true := List.all_eq_true.mp (by decide +kernel)
theorem zu196_7 : ∀ q ∈ zT196_7, zCk zx196 q = true := List.all_eq_true.mp (by decide +kernel)
theorem zu196 : zMs[196]? = some zx196 ∧ (∀ q ∈ zT196, zCk zx196 q = true) ∧ zCkM 196 zx196 = true := ⟨rfl, List.forall_mem_append.mpr ⟨zu196_0, List.forall_mem_append.mpr ⟨zu196_1, List.forall_mem_append.mpr ⟨zu196_2, List.forall_mem_append.mpr ⟨zu196_3, List.forall_mem_append.mpr ⟨zu196_4, List.forall_mem_append.mpr ⟨zu196_5, List.forall_mem_append.mpr ⟨zu196_6, zu196_7⟩⟩⟩⟩⟩⟩⟩, by decide +kernel⟩
def zx197 : zMI := (yX12_cellsDrawn, cX12_cellsDrawn, 3, (some .int), 12, 0, 0, zT197)
theorem zu197_0 : ∀ q ∈ zT197_0, zCk zx197 q = true := List.all_eq_true.mp (by decide +kernel)
theorem zu197_1 : ∀ q ∈ zT197_1, zCk zx197 q = true := List.all_eq_true.mp (by decide +kernel)
theorem zu197 : zMs[197]? = some zx197 ∧ (∀ q ∈ zT197, zCk zx197 q = true) ∧ zCkM 197 zx197 = true := ⟨rfl, List.forall_mem_append.mpr ⟨zu197_0, zu197_1⟩, by decide +kernel⟩
def zx198 : zMI := (yX12_draws, cX12_draws, 3, (some .int), 12, 7, 158, zT198)
theorem zu198_0 : ∀ q ∈ zT198_0, zCk zx198 q = true := List.all_eq_true.mp (by decide +kernel)
theorem zu198_1 : ∀ q ∈ zT198_1, zCk zx198 q = true := List.all_eq_true.mp (by decide +kernel)
theorem zu198_2 : ∀ q ∈ zT198_2, zCk zx198 q = true := List.all_eq_true.mp (by decide +kernel)
theorem zu198_3 : ∀ q ∈ zT198_3, zCk zx198 q = true := List.all_eq_true.mp (by decide +kernel)
theorem zu198 : zMs[198]? = some zx198 ∧ (∀ q ∈ zT198, zCk zx198 q = true) ∧ zCkM 198 zx198 = true := ⟨rfl, List.forall_mem_append.mpr ⟨zu198_0, List.forall_mem_append.mpr ⟨zu198_1, List.forall_mem_append.mpr ⟨zu198_2, zu198_3⟩⟩⟩, by decide +kernel⟩
def zx199 : zMI := (yX12_cell, cX12_cell, 4, (some .int), 12, 7, 158, zT199)
theorem zu199_0 : ∀ q ∈ zT199_0, zCk zx199 q = true := List.all_eq_true.mp (by decide +kernel)
theorem zu199_1 : ∀ q ∈ zT199_1, zCk zx199 q = true := List.all_eq_true.mp (by decide +kernel)
theorem zu199_2 : ∀ q ∈ zT199_2, zCk zx199 q = true := List.all_eq_true.mp (by decide +kernel)
theorem zu199 : zMs[199]? = some zx199 ∧ (∀ q ∈ zT199, zCk zx199 q = true) ∧ zCkM 199 zx199 = true := ⟨rfl, List.forall_mem_append.mpr ⟨zu199_0, List.forall_mem_append.mpr ⟨zu199_1, zu199_2⟩⟩, by decide +kernel⟩
def zx200 : zMI := (yX12_point, cX12_point, 3, (some .int), 12, 7, 158, zT200)
theorem zu200_0 : ∀ q ∈ zT200_0, zCk zx200 q = true := List.all_eq_true.mp (by decide +kernel)
theorem zu200_1 : ∀ q ∈ zT200_1, zCk zx200 q = true := List.all_eq_true.mp (by decide +kernel)
theorem zu200 : zMs[200]? = some zx200 ∧ (∀ q ∈ zT200, zCk zx200 q = true) ∧ zCkM 200 zx200 = true := ⟨rfl, List.forall_mem_append.mpr ⟨zu200_0, zu200_1⟩, by decide +kernel⟩
def zx201 : zMI := (yX12_keepDrawn, cX12_keepDrawn, 2, none, 12, 0, 0, zT201)
theorem zu201_0 : ∀ q ∈ zT201_0, zCk zx201 q = true := List.all_eq_true.mp (by decide +kernel)
theorem zu201 : zMs[201]? = some zx201 ∧ (∀ q ∈ zT201, zCk zx201 q = true) ∧ zCkM 201 zx201 = true := ⟨rfl, zu201_0, by decide +kernel⟩
def zx202 : zMI := (yX12_isAsBefore, cX12_isAsBefore, 3, (some .boolean), 12, 0, 0, zT202)
theorem zu202_0 : ∀ q ∈ zT202_0, zCk zx202 q = true := List.all_eq_true.mp (by decide +kernel)
theorem zu202_1 : ∀ q ∈ zT202_1, zCk zx202 q = true := List.all_eq_true.mp (by decide +kernel)
theorem zu202 : zMs[202]? = some zx202 ∧ (∀ q ∈ zT202, zCk zx202 q = true) ∧ zCkM 202 zx202 = true := ⟨rfl, List.forall_mem_append.mpr ⟨zu202_0, zu202_1⟩, by decide +kernel⟩
def zx203 : zMI := (yX12_same, cX12_same, 3, (some .int), 12, 7, 158, zT203)
theorem zu203_0 : ∀ q ∈ zT203_0, zCk zx203 q = true := List.all_eq_true.mp (by decide +kernel)
theorem zu203_1 : ∀ q ∈ zT203_1, zCk zx203 q = true := List.all_eq_true.mp (by decide +kernel)
theorem zu203_2 : ∀ q ∈ zT203_2, zCk zx203 q = true := List.all_eq_true.mp (by decide +kernel)
theorem zu203 : zMs[203]? = some zx203 ∧ (∀ q ∈ zT203, zCk zx203 q = true) ∧ zCkM 203 zx203 = true := ⟨rfl, List.forall_mem_append.mpr ⟨zu203_0, List.forall_mem_append.mpr ⟨zu203_1, zu203_2⟩⟩, by decide +kernel⟩
def zx204 : zMI := (yX12_quickest, cX12_quickest, 5, (some .int), 12, 7, 158, zT204)
theorem zu204_0 : ∀ q ∈ zT204_0, zCk zx204 q = true := List.all_eq_true.mp (by decide +kernel)
theorem zu204_1 : ∀ q ∈ zT204_1, zCk zx204 q = true := List.all_eq_true.mp (by decide +kernel)
theorem zu204_2 : ∀ q ∈ zT204_2, zCk zx204 q = true := List.all_eq_true.mp (by decide +kernel)
theorem zu204_3 : ∀ q ∈ zT204_3, zCk zx204 q = true := List.all_eq_true.mp (by decide +kernel)
theorem zu204 : zMs[204]? = some zx204 ∧ (∀ q ∈ zT204, zCk zx204 q = true) ∧ zCkM 204 zx204 = true := ⟨rfl, List.forall_mem_append.mpr ⟨zu204_0, List.forall_mem_append.mpr ⟨zu204_1, List.forall_mem_append.mpr ⟨zu204_2, zu204_3⟩⟩⟩, by decide +kernel⟩
