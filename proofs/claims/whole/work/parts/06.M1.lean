/-! rules of the small machine at each place of the code, by program: M_init, M_in, M_bad, M_no, M_full, M_set, M_copy, M_trim, M_times, M_compare, M_add, M_take, M_halve, M_isEven, M_findDivisor, M_divide, M_addOne, M_tell, M_of, M_many, M_leastOf, M_mostOf, M_put, M_isProgram, M_isCell, M_textLong, M_byteAt, M_type, M_clear, M_isSmall, M_isFigureAt, M_look -/
section
variable {sh : zSh} {pp : zPp} {mm : zMm} {Q : zV → zSh → zPp → zMm → Prop}
theorem cAM_init : ∀ q ∈ zT150, zCode 150 q.1 = some q.2 := zAll (mid := 150) rfl (by decide +kernel)
theorem cAM_init_0 : ∀ q ∈ zT150_0, zCode 150 q.1 = some q.2 := fun q h => cAM_init q (List.mem_append_left _ h)
theorem cAM_init_1 : ∀ q ∈ zT150_1, zCode 150 q.1 = some q.2 := fun q h => cAM_init q (List.mem_append_right _ (List.mem_append_left _ h))
theorem cAM_init_2 : ∀ q ∈ zT150_2, zCode 150 q.1 = some q.2 := fun q h => cAM_init q (List.mem_append_right _ (List.mem_append_right _ (List.mem_append_left _ h)))
theorem cAM_init_3 : ∀ q ∈ zT150_3, zCode 150 q.1 = some q.2 := fun q h => cAM_init q (List.mem_append_right _ (List.mem_append_right _ (List.mem_append_right _ (List.mem_append_left _ h))))
theorem cAM_init_4 : ∀ q ∈ zT150_4, zCode 150 q.1 = some q.2 := fun q h => cAM_init q (List.mem_append_right _ (List.mem_append_right _ (List.mem_append_right _ (List.mem_append_right _ (List.mem_append_left _ h)))))
theorem cAM_init_5 : ∀ q ∈ zT150_5, zCode 150 q.1 = some q.2 := fun q h => cAM_init q (List.mem_append_right _ (List.mem_append_right _ (List.mem_append_right _ (List.mem_append_right _ (List.mem_append_right _ (List.mem_append_left _ h))))))
theorem cAM_init_6 : ∀ q ∈ zT150_6, zCode 150 q.1 = some q.2 := fun q h => cAM_init q (List.mem_append_right _ (List.mem_append_right _ (List.mem_append_right _ (List.mem_append_right _ (List.mem_append_right _ (List.mem_append_right _ (List.mem_append_left _ h)))))))
theorem cAM_init_7 : ∀ q ∈ zT150_7, zCode 150 q.1 = some q.2 := fun q h => cAM_init q (List.mem_append_right _ (List.mem_append_right _ (List.mem_append_right _ (List.mem_append_right _ (List.mem_append_right _ (List.mem_append_right _ (List.mem_append_right _ (List.mem_append_left _ h))))))))
theorem cAM_init_8 : ∀ q ∈ zT150_8, zCode 150 q.1 = some q.2 := fun q h => cAM_init q (List.mem_append_right _ (List.mem_append_right _ (List.mem_append_right _ (List.mem_append_right _ (List.mem_append_right _ (List.mem_append_right _ (List.mem_append_right _ (List.mem_append_right _ h))))))))
theorem cM_init_0 : zCode 150 0 = some (.aload_n 0, 1, 0, 0, 0, 0, 1) := cAM_init_0 _ (List.mem_of_getElem? (i := 0) rfl)
theorem cM_init_1 : zCode 150 1 = some (.invokespecial 1, 4, 0, 78, 0, 1202, 1) := cAM_init_0 _ (List.mem_of_getElem? (i := 1) rfl)
theorem cM_init_4 : zCode 150 4 = some (.aload_n 0, 5, 0, 0, 0, 0, 1) := cAM_init_0 _ (List.mem_of_getElem? (i := 2) rfl)
theorem cM_init_5 : zCode 150 5 = some (.sipush 986, 8, 0, 0, 0, 0, 1) := cAM_init_0 _ (List.mem_of_getElem? (i := 3) rfl)
theorem cM_init_8 : zCode 150 8 = some (.newarray .int, 10, 20, 0, 0, 0, 1) := cAM_init_0 _ (List.mem_of_getElem? (i := 4) rfl)
theorem cM_init_10 : zCode 150 10 = some (.putfield 7, 13, 12, 0, 2, 1209, 1) := cAM_init_0 _ (List.mem_of_getElem? (i := 5) rfl)
theorem cM_init_13 : zCode 150 13 = some (.aload_n 0, 14, 0, 0, 0, 0, 1) := cAM_init_0 _ (List.mem_of_getElem? (i := 6) rfl)
theorem cM_init_14 : zCode 150 14 = some (.sipush 1972, 17, 0, 0, 0, 0, 1) := cAM_init_0 _ (List.mem_of_getElem? (i := 7) rfl)
theorem cM_init_17 : zCode 150 17 = some (.newarray .int, 19, 20, 0, 0, 0, 1) := cAM_init_0 _ (List.mem_of_getElem? (i := 8) rfl)
theorem cM_init_19 : zCode 150 19 = some (.putfield 13, 22, 12, 1, 2, 1210, 1) := cAM_init_0 _ (List.mem_of_getElem? (i := 9) rfl)
theorem cM_init_22 : zCode 150 22 = some (.aload_n 0, 23, 0, 0, 0, 0, 1) := cAM_init_0 _ (List.mem_of_getElem? (i := 10) rfl)
theorem cM_init_23 : zCode 150 23 = some (.iconst 2, 24, 0, 0, 0, 0, 1) := cAM_init_0 _ (List.mem_of_getElem? (i := 11) rfl)
theorem cM_init_24 : zCode 150 24 = some (.newarray .boolean, 26, 22, 0, 0, 0, 1) := cAM_init_0 _ (List.mem_of_getElem? (i := 12) rfl)
theorem cM_init_26 : zCode 150 26 = some (.putfield 16, 29, 12, 2, 2, 1211, 1) := cAM_init_0 _ (List.mem_of_getElem? (i := 13) rfl)
theorem cM_init_29 : zCode 150 29 = some (.aload_n 0, 30, 0, 0, 0, 0, 1) := cAM_init_0 _ (List.mem_of_getElem? (i := 14) rfl)
theorem cM_init_30 : zCode 150 30 = some (.iconst 3, 31, 0, 0, 0, 0, 1) := cAM_init_0 _ (List.mem_of_getElem? (i := 15) rfl)
theorem cM_init_31 : zCode 150 31 = some (.newarray .int, 33, 20, 0, 0, 0, 1) := cAM_init_1 _ (List.mem_of_getElem? (i := 0) rfl)
theorem cM_init_33 : zCode 150 33 = some (.putfield 20, 36, 12, 3, 2, 1212, 1) := cAM_init_1 _ (List.mem_of_getElem? (i := 1) rfl)
theorem cM_init_36 : zCode 150 36 = some (.aload_n 0, 37, 0, 0, 0, 0, 1) := cAM_init_1 _ (List.mem_of_getElem? (i := 2) rfl)
theorem cM_init_37 : zCode 150 37 = some (.sipush 512, 40, 0, 0, 0, 0, 1) := cAM_init_1 _ (List.mem_of_getElem? (i := 3) rfl)
theorem cM_init_40 : zCode 150 40 = some (.newarray .long, 42, 21, 0, 0, 0, 1) := cAM_init_1 _ (List.mem_of_getElem? (i := 4) rfl)
theorem cM_init_42 : zCode 150 42 = some (.putfield 23, 45, 12, 4, 2, 1213, 1) := cAM_init_1 _ (List.mem_of_getElem? (i := 5) rfl)
theorem cM_init_45 : zCode 150 45 = some (.aload_n 0, 46, 0, 0, 0, 0, 1) := cAM_init_1 _ (List.mem_of_getElem? (i := 6) rfl)
theorem cM_init_46 : zCode 150 46 = some (.bipush 8, 48, 0, 0, 0, 0, 1) := cAM_init_1 _ (List.mem_of_getElem? (i := 7) rfl)
theorem cM_init_48 : zCode 150 48 = some (.newarray .int, 50, 20, 0, 0, 0, 1) := cAM_init_1 _ (List.mem_of_getElem? (i := 8) rfl)
theorem cM_init_50 : zCode 150 50 = some (.putfield 27, 53, 12, 5, 2, 1214, 1) := cAM_init_1 _ (List.mem_of_getElem? (i := 9) rfl)
theorem cM_init_53 : zCode 150 53 = some (.aload_n 0, 54, 0, 0, 0, 0, 1) := cAM_init_1 _ (List.mem_of_getElem? (i := 10) rfl)
theorem cM_init_54 : zCode 150 54 = some (.iconst 2, 55, 0, 0, 0, 0, 1) := cAM_init_1 _ (List.mem_of_getElem? (i := 11) rfl)
theorem cM_init_55 : zCode 150 55 = some (.newarray .int, 57, 20, 0, 0, 0, 1) := cAM_init_1 _ (List.mem_of_getElem? (i := 12) rfl)
theorem cM_init_57 : zCode 150 57 = some (.putfield 30, 60, 12, 15, 2, 1224, 1) := cAM_init_1 _ (List.mem_of_getElem? (i := 13) rfl)
theorem cM_init_60 : zCode 150 60 = some (.aload_n 0, 61, 0, 0, 0, 0, 1) := cAM_init_1 _ (List.mem_of_getElem? (i := 14) rfl)
theorem cM_init_61 : zCode 150 61 = some (.iconst 2, 62, 0, 0, 0, 0, 1) := cAM_init_1 _ (List.mem_of_getElem? (i := 15) rfl)
theorem cM_init_62 : zCode 150 62 = some (.newarray .int, 64, 20, 0, 0, 0, 1) := cAM_init_2 _ (List.mem_of_getElem? (i := 0) rfl)
theorem cM_init_64 : zCode 150 64 = some (.putfield 33, 67, 12, 16, 2, 1225, 1) := cAM_init_2 _ (List.mem_of_getElem? (i := 1) rfl)
theorem cM_init_67 : zCode 150 67 = some (.aload_n 0, 68, 0, 0, 0, 0, 1) := cAM_init_2 _ (List.mem_of_getElem? (i := 2) rfl)
theorem cM_init_68 : zCode 150 68 = some (.iconst 2, 69, 0, 0, 0, 0, 1) := cAM_init_2 _ (List.mem_of_getElem? (i := 3) rfl)
theorem cM_init_69 : zCode 150 69 = some (.newarray .int, 71, 20, 0, 0, 0, 1) := cAM_init_2 _ (List.mem_of_getElem? (i := 4) rfl)
theorem cM_init_71 : zCode 150 71 = some (.putfield 36, 74, 12, 17, 2, 1226, 1) := cAM_init_2 _ (List.mem_of_getElem? (i := 5) rfl)
theorem cM_init_74 : zCode 150 74 = some (.aload_n 0, 75, 0, 0, 0, 0, 1) := cAM_init_2 _ (List.mem_of_getElem? (i := 6) rfl)
theorem cM_init_75 : zCode 150 75 = some (.sipush 384, 78, 0, 0, 0, 0, 1) := cAM_init_2 _ (List.mem_of_getElem? (i := 7) rfl)
theorem cM_init_78 : zCode 150 78 = some (.newarray .boolean, 80, 22, 0, 0, 0, 1) := cAM_init_2 _ (List.mem_of_getElem? (i := 8) rfl)
theorem cM_init_80 : zCode 150 80 = some (.putfield 39, 83, 12, 18, 2, 1227, 1) := cAM_init_2 _ (List.mem_of_getElem? (i := 9) rfl)
theorem cM_init_83 : zCode 150 83 = some (.aload_n 0, 84, 0, 0, 0, 0, 1) := cAM_init_2 _ (List.mem_of_getElem? (i := 10) rfl)
theorem cM_init_84 : zCode 150 84 = some (.sipush 2001, 87, 0, 0, 0, 0, 1) := cAM_init_2 _ (List.mem_of_getElem? (i := 11) rfl)
theorem cM_init_87 : zCode 150 87 = some (.newarray .int, 89, 20, 0, 0, 0, 1) := cAM_init_2 _ (List.mem_of_getElem? (i := 12) rfl)
theorem cM_init_89 : zCode 150 89 = some (.putfield 42, 92, 12, 19, 2, 1228, 1) := cAM_init_2 _ (List.mem_of_getElem? (i := 13) rfl)
theorem cM_init_92 : zCode 150 92 = some (.aload_n 0, 93, 0, 0, 0, 0, 1) := cAM_init_2 _ (List.mem_of_getElem? (i := 14) rfl)
theorem cM_init_93 : zCode 150 93 = some (.iconst 3, 94, 0, 0, 0, 0, 1) := cAM_init_2 _ (List.mem_of_getElem? (i := 15) rfl)
theorem cM_init_94 : zCode 150 94 = some (.newarray .int, 96, 20, 0, 0, 0, 1) := cAM_init_3 _ (List.mem_of_getElem? (i := 0) rfl)
theorem cM_init_96 : zCode 150 96 = some (.putfield 45, 99, 12, 27, 2, 1236, 1) := cAM_init_3 _ (List.mem_of_getElem? (i := 1) rfl)
theorem cM_init_99 : zCode 150 99 = some (.aload_n 0, 100, 0, 0, 0, 0, 1) := cAM_init_3 _ (List.mem_of_getElem? (i := 2) rfl)
theorem cM_init_100 : zCode 150 100 = some (.iconst 3, 101, 0, 0, 0, 0, 1) := cAM_init_3 _ (List.mem_of_getElem? (i := 3) rfl)
theorem cM_init_101 : zCode 150 101 = some (.newarray .int, 103, 20, 0, 0, 0, 1) := cAM_init_3 _ (List.mem_of_getElem? (i := 4) rfl)
theorem cM_init_103 : zCode 150 103 = some (.putfield 48, 106, 12, 28, 2, 1237, 1) := cAM_init_3 _ (List.mem_of_getElem? (i := 5) rfl)
theorem cM_init_106 : zCode 150 106 = some (.aload_n 0, 107, 0, 0, 0, 0, 1) := cAM_init_3 _ (List.mem_of_getElem? (i := 6) rfl)
theorem cM_init_107 : zCode 150 107 = some (.sipush 384, 110, 0, 0, 0, 0, 1) := cAM_init_3 _ (List.mem_of_getElem? (i := 7) rfl)
theorem cM_init_110 : zCode 150 110 = some (.newarray .boolean, 112, 22, 0, 0, 0, 1) := cAM_init_3 _ (List.mem_of_getElem? (i := 8) rfl)
theorem cM_init_112 : zCode 150 112 = some (.putfield 51, 115, 12, 29, 2, 1238, 1) := cAM_init_3 _ (List.mem_of_getElem? (i := 9) rfl)
theorem cM_init_115 : zCode 150 115 = some (.aload_n 0, 116, 0, 0, 0, 0, 1) := cAM_init_3 _ (List.mem_of_getElem? (i := 10) rfl)
theorem cM_init_116 : zCode 150 116 = some (.sipush 4096, 119, 0, 0, 0, 0, 1) := cAM_init_3 _ (List.mem_of_getElem? (i := 11) rfl)
theorem cM_init_119 : zCode 150 119 = some (.newarray .int, 121, 20, 0, 0, 0, 1) := cAM_init_3 _ (List.mem_of_getElem? (i := 12) rfl)
theorem cM_init_121 : zCode 150 121 = some (.putfield 54, 124, 12, 30, 2, 1239, 1) := cAM_init_3 _ (List.mem_of_getElem? (i := 13) rfl)
theorem cM_init_124 : zCode 150 124 = some (.aload_n 0, 125, 0, 0, 0, 0, 1) := cAM_init_3 _ (List.mem_of_getElem? (i := 14) rfl)
theorem cM_init_125 : zCode 150 125 = some (.sipush 4096, 128, 0, 0, 0, 0, 1) := cAM_init_3 _ (List.mem_of_getElem? (i := 15) rfl)
theorem cM_init_128 : zCode 150 128 = some (.newarray .boolean, 130, 22, 0, 0, 0, 1) := cAM_init_4 _ (List.mem_of_getElem? (i := 0) rfl)
theorem cM_init_130 : zCode 150 130 = some (.putfield 57, 133, 12, 31, 2, 1240, 1) := cAM_init_4 _ (List.mem_of_getElem? (i := 1) rfl)
theorem cM_init_133 : zCode 150 133 = some (.aload_n 0, 134, 0, 0, 0, 0, 1) := cAM_init_4 _ (List.mem_of_getElem? (i := 2) rfl)
theorem cM_init_134 : zCode 150 134 = some (.bipush 12, 136, 0, 0, 0, 0, 1) := cAM_init_4 _ (List.mem_of_getElem? (i := 3) rfl)
theorem cM_init_136 : zCode 150 136 = some (.newarray .int, 138, 20, 0, 0, 0, 1) := cAM_init_4 _ (List.mem_of_getElem? (i := 4) rfl)
theorem cM_init_138 : zCode 150 138 = some (.putfield 60, 141, 12, 32, 2, 1241, 1) := cAM_init_4 _ (List.mem_of_getElem? (i := 5) rfl)
theorem cM_init_141 : zCode 150 141 = some (.aload_n 0, 142, 0, 0, 0, 0, 1) := cAM_init_4 _ (List.mem_of_getElem? (i := 6) rfl)
theorem cM_init_142 : zCode 150 142 = some (.bipush 12, 144, 0, 0, 0, 0, 1) := cAM_init_4 _ (List.mem_of_getElem? (i := 7) rfl)
theorem cM_init_144 : zCode 150 144 = some (.newarray .int, 146, 20, 0, 0, 0, 1) := cAM_init_4 _ (List.mem_of_getElem? (i := 8) rfl)
theorem cM_init_146 : zCode 150 146 = some (.putfield 63, 149, 12, 33, 2, 1242, 1) := cAM_init_4 _ (List.mem_of_getElem? (i := 9) rfl)
theorem cM_init_149 : zCode 150 149 = some (.aload_n 0, 150, 0, 0, 0, 0, 1) := cAM_init_4 _ (List.mem_of_getElem? (i := 10) rfl)
theorem cM_init_150 : zCode 150 150 = some (.ldc 66, 152, 0, 0, 1203, 36864, 1) := cAM_init_4 _ (List.mem_of_getElem? (i := 11) rfl)
theorem cM_init_152 : zCode 150 152 = some (.newarray .int, 154, 20, 0, 0, 0, 1) := cAM_init_4 _ (List.mem_of_getElem? (i := 12) rfl)
theorem cM_init_154 : zCode 150 154 = some (.putfield 67, 157, 12, 34, 2, 1243, 1) := cAM_init_4 _ (List.mem_of_getElem? (i := 13) rfl)
theorem cM_init_157 : zCode 150 157 = some (.aload_n 0, 158, 0, 0, 0, 0, 1) := cAM_init_4 _ (List.mem_of_getElem? (i := 14) rfl)
theorem cM_init_158 : zCode 150 158 = some (.sipush 448, 161, 0, 0, 0, 0, 1) := cAM_init_4 _ (List.mem_of_getElem? (i := 15) rfl)
theorem cM_init_161 : zCode 150 161 = some (.newarray .int, 163, 20, 0, 0, 0, 1) := cAM_init_5 _ (List.mem_of_getElem? (i := 0) rfl)
theorem cM_init_163 : zCode 150 163 = some (.putfield 70, 166, 12, 35, 2, 1244, 1) := cAM_init_5 _ (List.mem_of_getElem? (i := 1) rfl)
theorem cM_init_166 : zCode 150 166 = some (.aload_n 0, 167, 0, 0, 0, 0, 1) := cAM_init_5 _ (List.mem_of_getElem? (i := 2) rfl)
theorem cM_init_167 : zCode 150 167 = some (.getfield 7, 170, 12, 0, 2, 1209, 1) := cAM_init_5 _ (List.mem_of_getElem? (i := 3) rfl)
theorem cM_init_170 : zCode 150 170 = some (.iconst 2, 171, 0, 0, 0, 0, 1) := cAM_init_5 _ (List.mem_of_getElem? (i := 4) rfl)
theorem cM_init_171 : zCode 150 171 = some (.bipush 12, 173, 0, 0, 0, 0, 1) := cAM_init_5 _ (List.mem_of_getElem? (i := 5) rfl)
theorem cM_init_173 : zCode 150 173 = some (.iastore, 174, 0, 0, 0, 0, 1) := cAM_init_5 _ (List.mem_of_getElem? (i := 6) rfl)
theorem cM_init_174 : zCode 150 174 = some (.aload_n 0, 175, 0, 0, 0, 0, 1) := cAM_init_5 _ (List.mem_of_getElem? (i := 7) rfl)
theorem cM_init_175 : zCode 150 175 = some (.getfield 7, 178, 12, 0, 2, 1209, 1) := cAM_init_5 _ (List.mem_of_getElem? (i := 8) rfl)
theorem cM_init_178 : zCode 150 178 = some (.iconst 3, 179, 0, 0, 0, 0, 1) := cAM_init_5 _ (List.mem_of_getElem? (i := 9) rfl)
theorem cM_init_179 : zCode 150 179 = some (.bipush 8, 181, 0, 0, 0, 0, 1) := cAM_init_5 _ (List.mem_of_getElem? (i := 10) rfl)
theorem cM_init_181 : zCode 150 181 = some (.iastore, 182, 0, 0, 0, 0, 1) := cAM_init_5 _ (List.mem_of_getElem? (i := 11) rfl)
theorem cM_init_182 : zCode 150 182 = some (.aload_n 0, 183, 0, 0, 0, 0, 1) := cAM_init_5 _ (List.mem_of_getElem? (i := 12) rfl)
theorem cM_init_183 : zCode 150 183 = some (.getfield 7, 186, 12, 0, 2, 1209, 1) := cAM_init_5 _ (List.mem_of_getElem? (i := 13) rfl)
theorem cM_init_186 : zCode 150 186 = some (.iconst 4, 187, 0, 0, 0, 0, 1) := cAM_init_5 _ (List.mem_of_getElem? (i := 14) rfl)
theorem cM_init_187 : zCode 150 187 = some (.iconst 3, 188, 0, 0, 0, 0, 1) := cAM_init_5 _ (List.mem_of_getElem? (i := 15) rfl)
theorem cM_init_188 : zCode 150 188 = some (.iastore, 189, 0, 0, 0, 0, 1) := cAM_init_6 _ (List.mem_of_getElem? (i := 0) rfl)
theorem cM_init_189 : zCode 150 189 = some (.aload_n 0, 190, 0, 0, 0, 0, 1) := cAM_init_6 _ (List.mem_of_getElem? (i := 1) rfl)
theorem cM_init_190 : zCode 150 190 = some (.getfield 7, 193, 12, 0, 2, 1209, 1) := cAM_init_6 _ (List.mem_of_getElem? (i := 2) rfl)
theorem cM_init_193 : zCode 150 193 = some (.iconst 5, 194, 0, 0, 0, 0, 1) := cAM_init_6 _ (List.mem_of_getElem? (i := 3) rfl)
theorem cM_init_194 : zCode 150 194 = some (.iconst 3, 195, 0, 0, 0, 0, 1) := cAM_init_6 _ (List.mem_of_getElem? (i := 4) rfl)
theorem cM_init_195 : zCode 150 195 = some (.iastore, 196, 0, 0, 0, 0, 1) := cAM_init_6 _ (List.mem_of_getElem? (i := 5) rfl)
theorem cM_init_196 : zCode 150 196 = some (.aload_n 0, 197, 0, 0, 0, 0, 1) := cAM_init_6 _ (List.mem_of_getElem? (i := 6) rfl)
theorem cM_init_197 : zCode 150 197 = some (.getfield 7, 200, 12, 0, 2, 1209, 1) := cAM_init_6 _ (List.mem_of_getElem? (i := 7) rfl)
theorem cM_init_200 : zCode 150 200 = some (.bipush 6, 202, 0, 0, 0, 0, 1) := cAM_init_6 _ (List.mem_of_getElem? (i := 8) rfl)
theorem cM_init_202 : zCode 150 202 = some (.iconst 1, 203, 0, 0, 0, 0, 1) := cAM_init_6 _ (List.mem_of_getElem? (i := 9) rfl)
theorem cM_init_203 : zCode 150 203 = some (.iastore, 204, 0, 0, 0, 0, 1) := cAM_init_6 _ (List.mem_of_getElem? (i := 10) rfl)
theorem cM_init_204 : zCode 150 204 = some (.aload_n 0, 205, 0, 0, 0, 0, 1) := cAM_init_6 _ (List.mem_of_getElem? (i := 11) rfl)
theorem cM_init_205 : zCode 150 205 = some (.getfield 7, 208, 12, 0, 2, 1209, 1) := cAM_init_6 _ (List.mem_of_getElem? (i := 12) rfl)
theorem cM_init_208 : zCode 150 208 = some (.bipush 7, 210, 0, 0, 0, 0, 1) := cAM_init_6 _ (List.mem_of_getElem? (i := 13) rfl)
theorem cM_init_210 : zCode 150 210 = some (.iconst 2, 211, 0, 0, 0, 0, 1) := cAM_init_6 _ (List.mem_of_getElem? (i := 14) rfl)
theorem cM_init_211 : zCode 150 211 = some (.iastore, 212, 0, 0, 0, 0, 1) := cAM_init_6 _ (List.mem_of_getElem? (i := 15) rfl)
theorem cM_init_212 : zCode 150 212 = some (.aload_n 0, 213, 0, 0, 0, 0, 1) := cAM_init_7 _ (List.mem_of_getElem? (i := 0) rfl)
theorem cM_init_213 : zCode 150 213 = some (.getfield 7, 216, 12, 0, 2, 1209, 1) := cAM_init_7 _ (List.mem_of_getElem? (i := 1) rfl)
theorem cM_init_216 : zCode 150 216 = some (.bipush 8, 218, 0, 0, 0, 0, 1) := cAM_init_7 _ (List.mem_of_getElem? (i := 2) rfl)
theorem cM_init_218 : zCode 150 218 = some (.bipush 8, 220, 0, 0, 0, 0, 1) := cAM_init_7 _ (List.mem_of_getElem? (i := 3) rfl)
theorem cM_init_220 : zCode 150 220 = some (.iastore, 221, 0, 0, 0, 0, 1) := cAM_init_7 _ (List.mem_of_getElem? (i := 4) rfl)
theorem cM_init_221 : zCode 150 221 = some (.iconst 0, 222, 0, 0, 0, 0, 1) := cAM_init_7 _ (List.mem_of_getElem? (i := 5) rfl)
theorem cM_init_222 : zCode 150 222 = some (.istore_n 1, 223, 0, 0, 0, 0, 1) := cAM_init_7 _ (List.mem_of_getElem? (i := 6) rfl)
theorem cM_init_223 : zCode 150 223 = some (.iload_n 1, 224, 0, 0, 0, 0, 3) := cAM_init_7 _ (List.mem_of_getElem? (i := 7) rfl)
theorem cM_init_224 : zCode 150 224 = some (.sipush 384, 227, 0, 0, 0, 0, 3) := cAM_init_7 _ (List.mem_of_getElem? (i := 8) rfl)
theorem cM_init_227 : zCode 150 227 = some (.if_icmp .ge 20, 230, 247, 0, 0, 0, 3) := cAM_init_7 _ (List.mem_of_getElem? (i := 9) rfl)
theorem cM_init_230 : zCode 150 230 = some (.aload_n 0, 231, 0, 0, 0, 0, 3) := cAM_init_7 _ (List.mem_of_getElem? (i := 10) rfl)
theorem cM_init_231 : zCode 150 231 = some (.getfield 7, 234, 12, 0, 2, 1209, 3) := cAM_init_7 _ (List.mem_of_getElem? (i := 11) rfl)
theorem cM_init_234 : zCode 150 234 = some (.sipush 573, 237, 0, 0, 0, 0, 3) := cAM_init_7 _ (List.mem_of_getElem? (i := 12) rfl)
theorem cM_init_237 : zCode 150 237 = some (.iload_n 1, 238, 0, 0, 0, 0, 3) := cAM_init_7 _ (List.mem_of_getElem? (i := 13) rfl)
theorem cM_init_238 : zCode 150 238 = some (.iadd, 239, 0, 0, 0, 0, 3) := cAM_init_7 _ (List.mem_of_getElem? (i := 14) rfl)
theorem cM_init_239 : zCode 150 239 = some (.iconst (-1), 240, 0, 0, 0, 0, 3) := cAM_init_7 _ (List.mem_of_getElem? (i := 15) rfl)
theorem cM_init_240 : zCode 150 240 = some (.iastore, 241, 0, 0, 0, 0, 3) := cAM_init_8 _ (List.mem_of_getElem? (i := 0) rfl)
theorem cM_init_241 : zCode 150 241 = some (.iinc 1 1, 244, 0, 0, 0, 0, 3) := cAM_init_8 _ (List.mem_of_getElem? (i := 1) rfl)
theorem cM_init_244 : zCode 150 244 = some (.goto (-21), 247, 223, 0, 0, 0, 3) := cAM_init_8 _ (List.mem_of_getElem? (i := 2) rfl)
theorem cM_init_247 : zCode 150 247 = some (.aload_n 0, 248, 0, 0, 0, 0, 1) := cAM_init_8 _ (List.mem_of_getElem? (i := 3) rfl)
theorem cM_init_248 : zCode 150 248 = some (.iconst 1, 249, 0, 0, 0, 0, 0) := cAM_init_8 _ (List.mem_of_getElem? (i := 4) rfl)
theorem cM_init_249 : zCode 150 249 = some (.lconst 1, 250, 0, 0, 0, 0, 0) := cAM_init_8 _ (List.mem_of_getElem? (i := 5) rfl)
theorem cM_init_250 : zCode 150 250 = some (.invokevirtual 73, 253, 155, 2, 6, 12, 0) := cAM_init_8 _ (List.mem_of_getElem? (i := 6) rfl)
theorem cM_init_253 : zCode 150 253 = some (.return_, 254, 0, 0, 0, 0, 0) := cAM_init_8 _ (List.mem_of_getElem? (i := 7) rfl)
theorem rM_init_0 {a0 : Nat} {u1 : zV} : zS 150 0 [zR a0, u1] [] sh pp mm Q ↔ zS 150 1 [zR a0, zU] [zR a0] sh pp mm Q := s_go cM_init_0 cM_init_1 rfl rfl
theorem rM_init_1 {a0 s0 : Nat} {u1 : zV} (hr : s0 ≠ 0) (hl : s0 < sh.length) : zS 150 1 [zR a0, u1] [zR s0] sh pp mm Q ↔ zS 150 4 [zR a0, zU] [] sh pp mm Q := s_go cM_init_1 cM_init_4 (if_pos ⟨hr, hl, by decide⟩) rfl
theorem rM_init_4 {a0 : Nat} {u1 : zV} : zS 150 4 [zR a0, u1] [] sh pp mm Q ↔ zS 150 5 [zR a0, zU] [zR a0] sh pp mm Q := s_go cM_init_4 cM_init_5 rfl rfl
theorem rM_init_5 {a0 s0 : Nat} {u1 : zV} : zS 150 5 [zR a0, u1] [zR s0] sh pp mm Q ↔ zS 150 8 [zR a0, zU] [zI 986, zR s0] sh pp mm Q := s_go cM_init_5 cM_init_8 rfl rfl
theorem rM_init_8 {a0 s1 : Nat} {s0 : Int} {u1 : zV} (h0 : 0 ≤ s0) (h1 : s0 ≤ 100000) : zS 150 8 [zR a0, u1] [zI s0, zR s1] sh pp mm Q ↔ zS 150 10 [zR a0, zU] [zR sh.length, zR s1] (sh ++ [(20, s0.toNat)]) (zclp pp sh.length) (zclr mm sh.length) Q := s_go cM_init_8 cM_init_10 (if_pos ⟨h0, h1⟩) rfl
theorem rM_init_10 {a0 s0 s1 : Nat} {u1 : zV} (hk : zKd sh s1 = 12) : zS 150 10 [zR a0, u1] [zR s0, zR s1] sh pp mm Q ↔ zS 150 13 [zR a0, zU] [] sh (zupp pp s1 0 s0) mm Q := s_go cM_init_10 cM_init_13 (if_pos ⟨hk, rfl⟩) rfl
theorem rM_init_13 {a0 : Nat} {u1 : zV} : zS 150 13 [zR a0, u1] [] sh pp mm Q ↔ zS 150 14 [zR a0, zU] [zR a0] sh pp mm Q := s_go cM_init_13 cM_init_14 rfl rfl
theorem rM_init_14 {a0 s0 : Nat} {u1 : zV} : zS 150 14 [zR a0, u1] [zR s0] sh pp mm Q ↔ zS 150 17 [zR a0, zU] [zI 1972, zR s0] sh pp mm Q := s_go cM_init_14 cM_init_17 rfl rfl
theorem rM_init_17 {a0 s1 : Nat} {s0 : Int} {u1 : zV} (h0 : 0 ≤ s0) (h1 : s0 ≤ 100000) : zS 150 17 [zR a0, u1] [zI s0, zR s1] sh pp mm Q ↔ zS 150 19 [zR a0, zU] [zR sh.length, zR s1] (sh ++ [(20, s0.toNat)]) (zclp pp sh.length) (zclr mm sh.length) Q := s_go cM_init_17 cM_init_19 (if_pos ⟨h0, h1⟩) rfl
theorem rM_init_19 {a0 s0 s1 : Nat} {u1 : zV} (hk : zKd sh s1 = 12) : zS 150 19 [zR a0, u1] [zR s0, zR s1] sh pp mm Q ↔ zS 150 22 [zR a0, zU] [] sh (zupp pp s1 1 s0) mm Q := s_go cM_init_19 cM_init_22 (if_pos ⟨hk, rfl⟩) rfl
theorem rM_init_22 {a0 : Nat} {u1 : zV} : zS 150 22 [zR a0, u1] [] sh pp mm Q ↔ zS 150 23 [zR a0, zU] [zR a0] sh pp mm Q := s_go cM_init_22 cM_init_23 rfl rfl
theorem rM_init_23 {a0 s0 : Nat} {u1 : zV} : zS 150 23 [zR a0, u1] [zR s0] sh pp mm Q ↔ zS 150 24 [zR a0, zU] [zI 2, zR s0] sh pp mm Q := s_go cM_init_23 cM_init_24 rfl rfl
theorem rM_init_24 {a0 s1 : Nat} {s0 : Int} {u1 : zV} (h0 : 0 ≤ s0) (h1 : s0 ≤ 100000) : zS 150 24 [zR a0, u1] [zI s0, zR s1] sh pp mm Q ↔ zS 150 26 [zR a0, zU] [zR sh.length, zR s1] (sh ++ [(22, s0.toNat)]) (zclp pp sh.length) (zclr mm sh.length) Q := s_go cM_init_24 cM_init_26 (if_pos ⟨h0, h1⟩) rfl
theorem rM_init_26 {a0 s0 s1 : Nat} {u1 : zV} (hk : zKd sh s1 = 12) : zS 150 26 [zR a0, u1] [zR s0, zR s1] sh pp mm Q ↔ zS 150 29 [zR a0, zU] [] sh (zupp pp s1 2 s0) mm Q := s_go cM_init_26 cM_init_29 (if_pos ⟨hk, rfl⟩) rfl
theorem rM_init_29 {a0 : Nat} {u1 : zV} : zS 150 29 [zR a0, u1] [] sh pp mm Q ↔ zS 150 30 [zR a0, zU] [zR a0] sh pp mm Q := s_go cM_init_29 cM_init_30 rfl rfl
theorem rM_init_30 {a0 s0 : Nat} {u1 : zV} : zS 150 30 [zR a0, u1] [zR s0] sh pp mm Q ↔ zS 150 31 [zR a0, zU] [zI 3, zR s0] sh pp mm Q := s_go cM_init_30 cM_init_31 rfl rfl
theorem rM_init_31 {a0 s1 : Nat} {s0 : Int} {u1 : zV} (h0 : 0 ≤ s0) (h1 : s0 ≤ 100000) : zS 150 31 [zR a0, u1] [zI s0, zR s1] sh pp mm Q ↔ zS 150 33 [zR a0, zU] [zR sh.length, zR s1] (sh ++ [(20, s0.toNat)]) (zclp pp sh.length) (zclr mm sh.length) Q := s_go cM_init_31 cM_init_33 (if_pos ⟨h0, h1⟩) rfl
theorem rM_init_33 {a0 s0 s1 : Nat} {u1 : zV} (hk : zKd sh s1 = 12) : zS 150 33 [zR a0, u1] [zR s0, zR s1] sh pp mm Q ↔ zS 150 36 [zR a0, zU] [] sh (zupp pp s1 3 s0) mm Q := s_go cM_init_33 cM_init_36 (if_pos ⟨hk, rfl⟩) rfl
theorem rM_init_36 {a0 : Nat} {u1 : zV} : zS 150 36 [zR a0, u1] [] sh pp mm Q ↔ zS 150 37 [zR a0, zU] [zR a0] sh pp mm Q := s_go cM_init_36 cM_init_37 rfl rfl
theorem rM_init_37 {a0 s0 : Nat} {u1 : zV} : zS 150 37 [zR a0, u1] [zR s0] sh pp mm Q ↔ zS 150 40 [zR a0, zU] [zI 512, zR s0] sh pp mm Q := s_go cM_init_37 cM_init_40 rfl rfl
theorem rM_init_40 {a0 s1 : Nat} {s0 : Int} {u1 : zV} (h0 : 0 ≤ s0) (h1 : s0 ≤ 100000) : zS 150 40 [zR a0, u1] [zI s0, zR s1] sh pp mm Q ↔ zS 150 42 [zR a0, zU] [zR sh.length, zR s1] (sh ++ [(21, s0.toNat)]) (zclp pp sh.length) (zclr mm sh.length) Q := s_go cM_init_40 cM_init_42 (if_pos ⟨h0, h1⟩) rfl
theorem rM_init_42 {a0 s0 s1 : Nat} {u1 : zV} (hk : zKd sh s1 = 12) : zS 150 42 [zR a0, u1] [zR s0, zR s1] sh pp mm Q ↔ zS 150 45 [zR a0, zU] [] sh (zupp pp s1 4 s0) mm Q := s_go cM_init_42 cM_init_45 (if_pos ⟨hk, rfl⟩) rfl
theorem rM_init_45 {a0 : Nat} {u1 : zV} : zS 150 45 [zR a0, u1] [] sh pp mm Q ↔ zS 150 46 [zR a0, zU] [zR a0] sh pp mm Q := s_go cM_init_45 cM_init_46 rfl rfl
theorem rM_init_46 {a0 s0 : Nat} {u1 : zV} : zS 150 46 [zR a0, u1] [zR s0] sh pp mm Q ↔ zS 150 48 [zR a0, zU] [zI 8, zR s0] sh pp mm Q := s_go cM_init_46 cM_init_48 rfl rfl
theorem rM_init_48 {a0 s1 : Nat} {s0 : Int} {u1 : zV} (h0 : 0 ≤ s0) (h1 : s0 ≤ 100000) : zS 150 48 [zR a0, u1] [zI s0, zR s1] sh pp mm Q ↔ zS 150 50 [zR a0, zU] [zR sh.length, zR s1] (sh ++ [(20, s0.toNat)]) (zclp pp sh.length) (zclr mm sh.length) Q := s_go cM_init_48 cM_init_50 (if_pos ⟨h0, h1⟩) rfl
theorem rM_init_50 {a0 s0 s1 : Nat} {u1 : zV} (hk : zKd sh s1 = 12) : zS 150 50 [zR a0, u1] [zR s0, zR s1] sh pp mm Q ↔ zS 150 53 [zR a0, zU] [] sh (zupp pp s1 5 s0) mm Q := s_go cM_init_50 cM_init_53 (if_pos ⟨hk, rfl⟩) rfl
theorem rM_init_53 {a0 : Nat} {u1 : zV} : zS 150 53 [zR a0, u1] [] sh pp mm Q ↔ zS 150 54 [zR a0, zU] [zR a0] sh pp mm Q := s_go cM_init_53 cM_init_54 rfl rfl
theorem rM_init_54 {a0 s0 : Nat} {u1 : zV} : zS 150 54 [zR a0, u1] [zR s0] sh pp mm Q ↔ zS 150 55 [zR a0, zU] [zI 2, zR s0] sh pp mm Q := s_go cM_init_54 cM_init_55 rfl rfl
theorem rM_init_55 {a0 s1 : Nat} {s0 : Int} {u1 : zV} (h0 : 0 ≤ s0) (h1 : s0 ≤ 100000) : zS 150 55 [zR a0, u1] [zI s0, zR s1] sh pp mm Q ↔ zS 150 57 [zR a0, zU] [zR sh.length, zR s1] (sh ++ [(20, s0.toNat)]) (zclp pp sh.length) (zclr mm sh.length) Q := s_go cM_init_55 cM_init_57 (if_pos ⟨h0, h1⟩) rfl
theorem rM_init_57 {a0 s0 s1 : Nat} {u1 : zV} (hk : zKd sh s1 = 12) : zS 150 57 [zR a0, u1] [zR s0, zR s1] sh pp mm Q ↔ zS 150 60 [zR a0, zU] [] sh (zupp pp s1 15 s0) mm Q := s_go cM_init_57 cM_init_60 (if_pos ⟨hk, rfl⟩) rfl
theorem rM_init_60 {a0 : Nat} {u1 : zV} : zS 150 60 [zR a0, u1] [] sh pp mm Q ↔ zS 150 61 [zR a0, zU] [zR a0] sh pp mm Q := s_go cM_init_60 cM_init_61 rfl rfl
theorem rM_init_61 {a0 s0 : Nat} {u1 : zV} : zS 150 61 [zR a0, u1] [zR s0] sh pp mm Q ↔ zS 150 62 [zR a0, zU] [zI 2, zR s0] sh pp mm Q := s_go cM_init_61 cM_init_62 rfl rfl
theorem rM_init_62 {a0 s1 : Nat} {s0 : Int} {u1 : zV} (h0 : 0 ≤ s0) (h1 : s0 ≤ 100000) : zS 150 62 [zR a0, u1] [zI s0, zR s1] sh pp mm Q ↔ zS 150 64 [zR a0, zU] [zR sh.length, zR s1] (sh ++ [(20, s0.toNat)]) (zclp pp sh.length) (zclr mm sh.length) Q := s_go cM_init_62 cM_init_64 (if_pos ⟨h0, h1⟩) rfl
theorem rM_init_64 {a0 s0 s1 : Nat} {u1 : zV} (hk : zKd sh s1 = 12) : zS 150 64 [zR a0, u1] [zR s0, zR s1] sh pp mm Q ↔ zS 150 67 [zR a0, zU] [] sh (zupp pp s1 16 s0) mm Q := s_go cM_init_64 cM_init_67 (if_pos ⟨hk, rfl⟩) rfl
theorem rM_init_67 {a0 : Nat} {u1 : zV} : zS 150 67 [zR a0, u1] [] sh pp mm Q ↔ zS 150 68 [zR a0, zU] [zR a0] sh pp mm Q := s_go cM_init_67 cM_init_68 rfl rfl
theorem rM_init_68 {a0 s0 : Nat} {u1 : zV} : zS 150 68 [zR a0, u1] [zR s0] sh pp mm Q ↔ zS 150 69 [zR a0, zU] [zI 2, zR s0] sh pp mm Q := s_go cM_init_68 cM_init_69 rfl rfl
theorem rM_init_69 {a0 s1 : Nat} {s0 : Int} {u1 : zV} (h0 : 0 ≤ s0) (h1 : s0 ≤ 100000) : zS 150 69 [zR a0, u1] [zI s0, zR s1] sh pp mm Q ↔ zS 150 71 [zR a0, zU] [zR sh.length, zR s1] (sh ++ [(20, s0.toNat)]) (zclp pp sh.length) (zclr mm sh.length) Q := s_go cM_init_69 cM_init_71 (if_pos ⟨h0, h1⟩) rfl
theorem rM_init_71 {a0 s0 s1 : Nat} {u1 : zV} (hk : zKd sh s1 = 12) : zS 150 71 [zR a0, u1] [zR s0, zR s1] sh pp mm Q ↔ zS 150 74 [zR a0, zU] [] sh (zupp pp s1 17 s0) mm Q := s_go cM_init_71 cM_init_74 (if_pos ⟨hk, rfl⟩) rfl
theorem rM_init_74 {a0 : Nat} {u1 : zV} : zS 150 74 [zR a0, u1] [] sh pp mm Q ↔ zS 150 75 [zR a0, zU] [zR a0] sh pp mm Q := s_go cM_init_74 cM_init_75 rfl rfl
theorem rM_init_75 {a0 s0 : Nat} {u1 : zV} : zS 150 75 [zR a0, u1] [zR s0] sh pp mm Q ↔ zS 150 78 [zR a0, zU] [zI 384, zR s0] sh pp mm Q := s_go cM_init_75 cM_init_78 rfl rfl
theorem rM_init_78 {a0 s1 : Nat} {s0 : Int} {u1 : zV} (h0 : 0 ≤ s0) (h1 : s0 ≤ 100000) : zS 150 78 [zR a0, u1] [zI s0, zR s1] sh pp mm Q ↔ zS 150 80 [zR a0, zU] [zR sh.length, zR s1] (sh ++ [(22, s0.toNat)]) (zclp pp sh.length) (zclr mm sh.length) Q := s_go cM_init_78 cM_init_80 (if_pos ⟨h0, h1⟩) rfl
theorem rM_init_80 {a0 s0 s1 : Nat} {u1 : zV} (hk : zKd sh s1 = 12) : zS 150 80 [zR a0, u1] [zR s0, zR s1] sh pp mm Q ↔ zS 150 83 [zR a0, zU] [] sh (zupp pp s1 18 s0) mm Q := s_go cM_init_80 cM_init_83 (if_pos ⟨hk, rfl⟩) rfl
theorem rM_init_83 {a0 : Nat} {u1 : zV} : zS 150 83 [zR a0, u1] [] sh pp mm Q ↔ zS 150 84 [zR a0, zU] [zR a0] sh pp mm Q := s_go cM_init_83 cM_init_84 rfl rfl
theorem rM_init_84 {a0 s0 : Nat} {u1 : zV} : zS 150 84 [zR a0, u1] [zR s0] sh pp mm Q ↔ zS 150 87 [zR a0, zU] [zI 2001, zR s0] sh pp mm Q := s_go cM_init_84 cM_init_87 rfl rfl
theorem rM_init_87 {a0 s1 : Nat} {s0 : Int} {u1 : zV} (h0 : 0 ≤ s0) (h1 : s0 ≤ 100000) : zS 150 87 [zR a0, u1] [zI s0, zR s1] sh pp mm Q ↔ zS 150 89 [zR a0, zU] [zR sh.length, zR s1] (sh ++ [(20, s0.toNat)]) (zclp pp sh.length) (zclr mm sh.length) Q := s_go cM_init_87 cM_init_89 (if_pos ⟨h0, h1⟩) rfl
theorem rM_init_89 {a0 s0 s1 : Nat} {u1 : zV} (hk : zKd sh s1 = 12) : zS 150 89 [zR a0, u1] [zR s0, zR s1] sh pp mm Q ↔ zS 150 92 [zR a0, zU] [] sh (zupp pp s1 19 s0) mm Q := s_go cM_init_89 cM_init_92 (if_pos ⟨hk, rfl⟩) rfl
theorem rM_init_92 {a0 : Nat} {u1 : zV} : zS 150 92 [zR a0, u1] [] sh pp mm Q ↔ zS 150 93 [zR a0, zU] [zR a0] sh pp mm Q := s_go cM_init_92 cM_init_93 rfl rfl
theorem rM_init_93 {a0 s0 : Nat} {u1 : zV} : zS 150 93 [zR a0, u1] [zR s0] sh pp mm Q ↔ zS 150 94 [zR a0, zU] [zI 3, zR s0] sh pp mm Q := s_go cM_init_93 cM_init_94 rfl rfl
theorem rM_init_94 {a0 s1 : Nat} {s0 : Int} {u1 : zV} (h0 : 0 ≤ s0) (h1 : s0 ≤ 100000) : zS 150 94 [zR a0, u1] [zI s0, zR s1] sh pp mm Q ↔ zS 150 96 [zR a0, zU] [zR sh.length, zR s1] (sh ++ [(20, s0.toNat)]) (zclp pp sh.length) (zclr mm sh.length) Q := s_go cM_init_94 cM_init_96 (if_pos ⟨h0, h1⟩) rfl
theorem rM_init_96 {a0 s0 s1 : Nat} {u1 : zV} (hk : zKd sh s1 = 12) : zS 150 96 [zR a0, u1] [zR s0, zR s1] sh pp mm Q ↔ zS 150 99 [zR a0, zU] [] sh (zupp pp s1 27 s0) mm Q := s_go cM_init_96 cM_init_99 (if_pos ⟨hk, rfl⟩) rfl
theorem rM_init_99 {a0 : Nat} {u1 : zV} : zS 150 99 [zR a0, u1] [] sh pp mm Q ↔ zS 150 100 [zR a0, zU] [zR a0] sh pp mm Q := s_go cM_init_99 cM_init_100 rfl rfl
theorem rM_init_100 {a0 s0 : Nat} {u1 : zV} : zS 150 100 [zR a0, u1] [zR s0] sh pp mm Q ↔ zS 150 101 [zR a0, zU] [zI 3, zR s0] sh pp mm Q := s_go cM_init_100 cM_init_101 rfl rfl
theorem rM_init_101 {a0 s1 : Nat} {s0 : Int} {u1 : zV} (h0 : 0 ≤ s0) (h1 : s0 ≤ 100000) : zS 150 101 [zR a0, u1] [zI s0, zR s1] sh pp mm Q ↔ zS 150 103 [zR a0, zU] [zR sh.length, zR s1] (sh ++ [(20, s0.toNat)]) (zclp pp sh.length) (zclr mm sh.length) Q := s_go cM_init_101 cM_init_103 (if_pos ⟨h0, h1⟩) rfl
theorem rM_init_103 {a0 s0 s1 : Nat} {u1 : zV} (hk : zKd sh s1 = 12) : zS 150 103 [zR a0, u1] [zR s0, zR s1] sh pp mm Q ↔ zS 150 106 [zR a0, zU] [] sh (zupp pp s1 28 s0) mm Q := s_go cM_init_103 cM_init_106 (if_pos ⟨hk, rfl⟩) rfl
theorem rM_init_106 {a0 : Nat} {u1 : zV} : zS 150 106 [zR a0, u1] [] sh pp mm Q ↔ zS 150 107 [zR a0, zU] [zR a0] sh pp mm Q := s_go cM_init_106 cM_init_107 rfl rfl
theorem rM_init_107 {a0 s0 : Nat} {u1 : zV} : zS 150 107 [zR a0, u1] [zR s0] sh pp mm Q ↔ zS 150 110 [zR a0, zU] [zI 384, zR s0] sh pp mm Q := s_go cM_init_107 cM_init_110 rfl rfl
theorem rM_init_110 {a0 s1 : Nat} {s0 : Int} {u1 : zV} (h0 : 0 ≤ s0) (h1 : s0 ≤ 100000) : zS 150 110 [zR a0, u1] [zI s0, zR s1] sh pp mm Q ↔ zS 150 112 [zR a0, zU] [zR sh.length, zR s1] (sh ++ [(22, s0.toNat)]) (zclp pp sh.length) (zclr mm sh.length) Q := s_go cM_init_110 cM_init_112 (if_pos ⟨h0, h1⟩) rfl
theorem rM_init_112 {a0 s0 s1 : Nat} {u1 : zV} (hk : zKd sh s1 = 12) : zS 150 112 [zR a0, u1] [zR s0, zR s1] sh pp mm Q ↔ zS 150 115 [zR a0, zU] [] sh (zupp pp s1 29 s0) mm Q := s_go cM_init_112 cM_init_115 (if_pos ⟨hk, rfl⟩) rfl
theorem rM_init_115 {a0 : Nat} {u1 : zV} : zS 150 115 [zR a0, u1] [] sh pp mm Q ↔ zS 150 116 [zR a0, zU] [zR a0] sh pp mm Q := s_go cM_init_115 cM_init_116 rfl rfl
theorem rM_init_116 {a0 s0 : Nat} {u1 : zV} : zS 150 116 [zR a0, u1] [zR s0] sh pp mm Q ↔ zS 150 119 [zR a0, zU] [zI 4096, zR s0] sh pp mm Q := s_go cM_init_116 cM_init_119 rfl rfl
theorem rM_init_119 {a0 s1 : Nat} {s0 : Int} {u1 : zV} (h0 : 0 ≤ s0) (h1 : s0 ≤ 100000) : zS 150 119 [zR a0, u1] [zI s0, zR s1] sh pp mm Q ↔ zS 150 121 [zR a0, zU] [zR sh.length, zR s1] (sh ++ [(20, s0.toNat)]) (zclp pp sh.length) (zclr mm sh.length) Q := s_go cM_init_119 cM_init_121 (if_pos ⟨h0, h1⟩) rfl
theorem rM_init_121 {a0 s0 s1 : Nat} {u1 : zV} (hk : zKd sh s1 = 12) : zS 150 121 [zR a0, u1] [zR s0, zR s1] sh pp mm Q ↔ zS 150 124 [zR a0, zU] [] sh (zupp pp s1 30 s0) mm Q := s_go cM_init_121 cM_init_124 (if_pos ⟨hk, rfl⟩) rfl
theorem rM_init_124 {a0 : Nat} {u1 : zV} : zS 150 124 [zR a0, u1] [] sh pp mm Q ↔ zS 150 125 [zR a0, zU] [zR a0] sh pp mm Q := s_go cM_init_124 cM_init_125 rfl rfl
theorem rM_init_125 {a0 s0 : Nat} {u1 : zV} : zS 150 125 [zR a0, u1] [zR s0] sh pp mm Q ↔ zS 150 128 [zR a0, zU] [zI 4096, zR s0] sh pp mm Q := s_go cM_init_125 cM_init_128 rfl rfl
theorem rM_init_128 {a0 s1 : Nat} {s0 : Int} {u1 : zV} (h0 : 0 ≤ s0) (h1 : s0 ≤ 100000) : zS 150 128 [zR a0, u1] [zI s0, zR s1] sh pp mm Q ↔ zS 150 130 [zR a0, zU] [zR sh.length, zR s1] (sh ++ [(22, s0.toNat)]) (zclp pp sh.length) (zclr mm sh.length) Q := s_go cM_init_128 cM_init_130 (if_pos ⟨h0, h1⟩) rfl
theorem rM_init_130 {a0 s0 s1 : Nat} {u1 : zV} (hk : zKd sh s1 = 12) : zS 150 130 [zR a0, u1] [zR s0, zR s1] sh pp mm Q ↔ zS 150 133 [zR a0, zU] [] sh (zupp pp s1 31 s0) mm Q := s_go cM_init_130 cM_init_133 (if_pos ⟨hk, rfl⟩) rfl
theorem rM_init_133 {a0 : Nat} {u1 : zV} : zS 150 133 [zR a0, u1] [] sh pp mm Q ↔ zS 150 134 [zR a0, zU] [zR a0] sh pp mm Q := s_go cM_init_133 cM_init_134 rfl rfl
theorem rM_init_134 {a0 s0 : Nat} {u1 : zV} : zS 150 134 [zR a0, u1] [zR s0] sh pp mm Q ↔ zS 150 136 [zR a0, zU] [zI 12, zR s0] sh pp mm Q := s_go cM_init_134 cM_init_136 rfl rfl
theorem rM_init_136 {a0 s1 : Nat} {s0 : Int} {u1 : zV} (h0 : 0 ≤ s0) (h1 : s0 ≤ 100000) : zS 150 136 [zR a0, u1] [zI s0, zR s1] sh pp mm Q ↔ zS 150 138 [zR a0, zU] [zR sh.length, zR s1] (sh ++ [(20, s0.toNat)]) (zclp pp sh.length) (zclr mm sh.length) Q := s_go cM_init_136 cM_init_138 (if_pos ⟨h0, h1⟩) rfl
theorem rM_init_138 {a0 s0 s1 : Nat} {u1 : zV} (hk : zKd sh s1 = 12) : zS 150 138 [zR a0, u1] [zR s0, zR s1] sh pp mm Q ↔ zS 150 141 [zR a0, zU] [] sh (zupp pp s1 32 s0) mm Q := s_go cM_init_138 cM_init_141 (if_pos ⟨hk, rfl⟩) rfl
theorem rM_init_141 {a0 : Nat} {u1 : zV} : zS 150 141 [zR a0, u1] [] sh pp mm Q ↔ zS 150 142 [zR a0, zU] [zR a0] sh pp mm Q := s_go cM_init_141 cM_init_142 rfl rfl
theorem rM_init_142 {a0 s0 : Nat} {u1 : zV} : zS 150 142 [zR a0, u1] [zR s0] sh pp mm Q ↔ zS 150 144 [zR a0, zU] [zI 12, zR s0] sh pp mm Q := s_go cM_init_142 cM_init_144 rfl rfl
theorem rM_init_144 {a0 s1 : Nat} {s0 : Int} {u1 : zV} (h0 : 0 ≤ s0) (h1 : s0 ≤ 100000) : zS 150 144 [zR a0, u1] [zI s0, zR s1] sh pp mm Q ↔ zS 150 146 [zR a0, zU] [zR sh.length, zR s1] (sh ++ [(20, s0.toNat)]) (zclp pp sh.length) (zclr mm sh.length) Q := s_go cM_init_144 cM_init_146 (if_pos ⟨h0, h1⟩) rfl
theorem rM_init_146 {a0 s0 s1 : Nat} {u1 : zV} (hk : zKd sh s1 = 12) : zS 150 146 [zR a0, u1] [zR s0, zR s1] sh pp mm Q ↔ zS 150 149 [zR a0, zU] [] sh (zupp pp s1 33 s0) mm Q := s_go cM_init_146 cM_init_149 (if_pos ⟨hk, rfl⟩) rfl
theorem rM_init_149 {a0 : Nat} {u1 : zV} : zS 150 149 [zR a0, u1] [] sh pp mm Q ↔ zS 150 150 [zR a0, zU] [zR a0] sh pp mm Q := s_go cM_init_149 cM_init_150 rfl rfl
theorem rM_init_150 {a0 s0 : Nat} {u1 : zV} : zS 150 150 [zR a0, u1] [zR s0] sh pp mm Q ↔ zS 150 152 [zR a0, zU] [zI 36864, zR s0] sh pp mm Q := s_go cM_init_150 cM_init_152 rfl rfl
theorem rM_init_152 {a0 s1 : Nat} {s0 : Int} {u1 : zV} (h0 : 0 ≤ s0) (h1 : s0 ≤ 100000) : zS 150 152 [zR a0, u1] [zI s0, zR s1] sh pp mm Q ↔ zS 150 154 [zR a0, zU] [zR sh.length, zR s1] (sh ++ [(20, s0.toNat)]) (zclp pp sh.length) (zclr mm sh.length) Q := s_go cM_init_152 cM_init_154 (if_pos ⟨h0, h1⟩) rfl
theorem rM_init_154 {a0 s0 s1 : Nat} {u1 : zV} (hk : zKd sh s1 = 12) : zS 150 154 [zR a0, u1] [zR s0, zR s1] sh pp mm Q ↔ zS 150 157 [zR a0, zU] [] sh (zupp pp s1 34 s0) mm Q := s_go cM_init_154 cM_init_157 (if_pos ⟨hk, rfl⟩) rfl
theorem rM_init_157 {a0 : Nat} {u1 : zV} : zS 150 157 [zR a0, u1] [] sh pp mm Q ↔ zS 150 158 [zR a0, zU] [zR a0] sh pp mm Q := s_go cM_init_157 cM_init_158 rfl rfl
theorem rM_init_158 {a0 s0 : Nat} {u1 : zV} : zS 150 158 [zR a0, u1] [zR s0] sh pp mm Q ↔ zS 150 161 [zR a0, zU] [zI 448, zR s0] sh pp mm Q := s_go cM_init_158 cM_init_161 rfl rfl
theorem rM_init_161 {a0 s1 : Nat} {s0 : Int} {u1 : zV} (h0 : 0 ≤ s0) (h1 : s0 ≤ 100000) : zS 150 161 [zR a0, u1] [zI s0, zR s1] sh pp mm Q ↔ zS 150 163 [zR a0, zU] [zR sh.length, zR s1] (sh ++ [(20, s0.toNat)]) (zclp pp sh.length) (zclr mm sh.length) Q := s_go cM_init_161 cM_init_163 (if_pos ⟨h0, h1⟩) rfl
theorem rM_init_163 {a0 s0 s1 : Nat} {u1 : zV} (hk : zKd sh s1 = 12) : zS 150 163 [zR a0, u1] [zR s0, zR s1] sh pp mm Q ↔ zS 150 166 [zR a0, zU] [] sh (zupp pp s1 35 s0) mm Q := s_go cM_init_163 cM_init_166 (if_pos ⟨hk, rfl⟩) rfl
theorem rM_init_166 {a0 : Nat} {u1 : zV} : zS 150 166 [zR a0, u1] [] sh pp mm Q ↔ zS 150 167 [zR a0, zU] [zR a0] sh pp mm Q := s_go cM_init_166 cM_init_167 rfl rfl
theorem rM_init_167 {a0 s0 : Nat} {u1 : zV} (hk : zKd sh s0 = 12) : zS 150 167 [zR a0, u1] [zR s0] sh pp mm Q ↔ zS 150 170 [zR a0, zU] [zR (pp s0 0)] sh pp mm Q := s_go cM_init_167 cM_init_170 (if_pos hk) rfl
theorem rM_init_170 {a0 s0 : Nat} {u1 : zV} : zS 150 170 [zR a0, u1] [zR s0] sh pp mm Q ↔ zS 150 171 [zR a0, zU] [zI 2, zR s0] sh pp mm Q := s_go cM_init_170 cM_init_171 rfl rfl
theorem rM_init_171 {a0 s1 : Nat} {s0 : Int} {u1 : zV} : zS 150 171 [zR a0, u1] [zI s0, zR s1] sh pp mm Q ↔ zS 150 173 [zR a0, zU] [zI 12, zI s0, zR s1] sh pp mm Q := s_go cM_init_171 cM_init_173 rfl rfl
theorem rM_init_173 {a0 s2 : Nat} {s0 s1 : Int} {u1 : zV} (hk : zKd sh s2 = 20) (h0 : 0 ≤ s1) (h1 : s1 < zLn sh s2) : zS 150 173 [zR a0, u1] [zI s0, zI s1, zR s2] sh pp mm Q ↔ zS 150 174 [zR a0, zU] [] sh pp (zupd mm s2 s1 s0) Q := s_go cM_init_173 cM_init_174 (if_pos ⟨hk, h0, h1, fun h => absurd h (by decide)⟩) rfl
theorem rM_init_174 {a0 : Nat} {u1 : zV} : zS 150 174 [zR a0, u1] [] sh pp mm Q ↔ zS 150 175 [zR a0, zU] [zR a0] sh pp mm Q := s_go cM_init_174 cM_init_175 rfl rfl
theorem rM_init_175 {a0 s0 : Nat} {u1 : zV} (hk : zKd sh s0 = 12) : zS 150 175 [zR a0, u1] [zR s0] sh pp mm Q ↔ zS 150 178 [zR a0, zU] [zR (pp s0 0)] sh pp mm Q := s_go cM_init_175 cM_init_178 (if_pos hk) rfl
theorem rM_init_178 {a0 s0 : Nat} {u1 : zV} : zS 150 178 [zR a0, u1] [zR s0] sh pp mm Q ↔ zS 150 179 [zR a0, zU] [zI 3, zR s0] sh pp mm Q := s_go cM_init_178 cM_init_179 rfl rfl
theorem rM_init_179 {a0 s1 : Nat} {s0 : Int} {u1 : zV} : zS 150 179 [zR a0, u1] [zI s0, zR s1] sh pp mm Q ↔ zS 150 181 [zR a0, zU] [zI 8, zI s0, zR s1] sh pp mm Q := s_go cM_init_179 cM_init_181 rfl rfl
theorem rM_init_181 {a0 s2 : Nat} {s0 s1 : Int} {u1 : zV} (hk : zKd sh s2 = 20) (h0 : 0 ≤ s1) (h1 : s1 < zLn sh s2) : zS 150 181 [zR a0, u1] [zI s0, zI s1, zR s2] sh pp mm Q ↔ zS 150 182 [zR a0, zU] [] sh pp (zupd mm s2 s1 s0) Q := s_go cM_init_181 cM_init_182 (if_pos ⟨hk, h0, h1, fun h => absurd h (by decide)⟩) rfl
theorem rM_init_182 {a0 : Nat} {u1 : zV} : zS 150 182 [zR a0, u1] [] sh pp mm Q ↔ zS 150 183 [zR a0, zU] [zR a0] sh pp mm Q := s_go cM_init_182 cM_init_183 rfl rfl
theorem rM_init_183 {a0 s0 : Nat} {u1 : zV} (hk : zKd sh s0 = 12) : zS 150 183 [zR a0, u1] [zR s0] sh pp mm Q ↔ zS 150 186 [zR a0, zU] [zR (pp s0 0)] sh pp mm Q := s_go cM_init_183 cM_init_186 (if_pos hk) rfl
theorem rM_init_186 {a0 s0 : Nat} {u1 : zV} : zS 150 186 [zR a0, u1] [zR s0] sh pp mm Q ↔ zS 150 187 [zR a0, zU] [zI 4, zR s0] sh pp mm Q := s_go cM_init_186 cM_init_187 rfl rfl
theorem rM_init_187 {a0 s1 : Nat} {s0 : Int} {u1 : zV} : zS 150 187 [zR a0, u1] [zI s0, zR s1] sh pp mm Q ↔ zS 150 188 [zR a0, zU] [zI 3, zI s0, zR s1] sh pp mm Q := s_go cM_init_187 cM_init_188 rfl rfl
theorem rM_init_188 {a0 s2 : Nat} {s0 s1 : Int} {u1 : zV} (hk : zKd sh s2 = 20) (h0 : 0 ≤ s1) (h1 : s1 < zLn sh s2) : zS 150 188 [zR a0, u1] [zI s0, zI s1, zR s2] sh pp mm Q ↔ zS 150 189 [zR a0, zU] [] sh pp (zupd mm s2 s1 s0) Q := s_go cM_init_188 cM_init_189 (if_pos ⟨hk, h0, h1, fun h => absurd h (by decide)⟩) rfl
theorem rM_init_189 {a0 : Nat} {u1 : zV} : zS 150 189 [zR a0, u1] [] sh pp mm Q ↔ zS 150 190 [zR a0, zU] [zR a0] sh pp mm Q := s_go cM_init_189 cM_init_190 rfl rfl
theorem rM_init_190 {a0 s0 : Nat} {u1 : zV} (hk : zKd sh s0 = 12) : zS 150 190 [zR a0, u1] [zR s0] sh pp mm Q ↔ zS 150 193 [zR a0, zU] [zR (pp s0 0)] sh pp mm Q := s_go cM_init_190 cM_init_193 (if_pos hk) rfl
theorem rM_init_193 {a0 s0 : Nat} {u1 : zV} : zS 150 193 [zR a0, u1] [zR s0] sh pp mm Q ↔ zS 150 194 [zR a0, zU] [zI 5, zR s0] sh pp mm Q := s_go cM_init_193 cM_init_194 rfl rfl
theorem rM_init_194 {a0 s1 : Nat} {s0 : Int} {u1 : zV} : zS 150 194 [zR a0, u1] [zI s0, zR s1] sh pp mm Q ↔ zS 150 195 [zR a0, zU] [zI 3, zI s0, zR s1] sh pp mm Q := s_go cM_init_194 cM_init_195 rfl rfl
theorem rM_init_195 {a0 s2 : Nat} {s0 s1 : Int} {u1 : zV} (hk : zKd sh s2 = 20) (h0 : 0 ≤ s1) (h1 : s1 < zLn sh s2) : zS 150 195 [zR a0, u1] [zI s0, zI s1, zR s2] sh pp mm Q ↔ zS 150 196 [zR a0, zU] [] sh pp (zupd mm s2 s1 s0) Q := s_go cM_init_195 cM_init_196 (if_pos ⟨hk, h0, h1, fun h => absurd h (by decide)⟩) rfl
theorem rM_init_196 {a0 : Nat} {u1 : zV} : zS 150 196 [zR a0, u1] [] sh pp mm Q ↔ zS 150 197 [zR a0, zU] [zR a0] sh pp mm Q := s_go cM_init_196 cM_init_197 rfl rfl
theorem rM_init_197 {a0 s0 : Nat} {u1 : zV} (hk : zKd sh s0 = 12) : zS 150 197 [zR a0, u1] [zR s0] sh pp mm Q ↔ zS 150 200 [zR a0, zU] [zR (pp s0 0)] sh pp mm Q := s_go cM_init_197 cM_init_200 (if_pos hk) rfl
theorem rM_init_200 {a0 s0 : Nat} {u1 : zV} : zS 150 200 [zR a0, u1] [zR s0] sh pp mm Q ↔ zS 150 202 [zR a0, zU] [zI 6, zR s0] sh pp mm Q := s_go cM_init_200 cM_init_202 rfl rfl
theorem rM_init_202 {a0 s1 : Nat} {s0 : Int} {u1 : zV} : zS 150 202 [zR a0, u1] [zI s0, zR s1] sh pp mm Q ↔ zS 150 203 [zR a0, zU] [zI 1, zI s0, zR s1] sh pp mm Q := s_go cM_init_202 cM_init_203 rfl rfl
theorem rM_init_203 {a0 s2 : Nat} {s0 s1 : Int} {u1 : zV} (hk : zKd sh s2 = 20) (h0 : 0 ≤ s1) (h1 : s1 < zLn sh s2) : zS 150 203 [zR a0, u1] [zI s0, zI s1, zR s2] sh pp mm Q ↔ zS 150 204 [zR a0, zU] [] sh pp (zupd mm s2 s1 s0) Q := s_go cM_init_203 cM_init_204 (if_pos ⟨hk, h0, h1, fun h => absurd h (by decide)⟩) rfl
theorem rM_init_204 {a0 : Nat} {u1 : zV} : zS 150 204 [zR a0, u1] [] sh pp mm Q ↔ zS 150 205 [zR a0, zU] [zR a0] sh pp mm Q := s_go cM_init_204 cM_init_205 rfl rfl
theorem rM_init_205 {a0 s0 : Nat} {u1 : zV} (hk : zKd sh s0 = 12) : zS 150 205 [zR a0, u1] [zR s0] sh pp mm Q ↔ zS 150 208 [zR a0, zU] [zR (pp s0 0)] sh pp mm Q := s_go cM_init_205 cM_init_208 (if_pos hk) rfl
theorem rM_init_208 {a0 s0 : Nat} {u1 : zV} : zS 150 208 [zR a0, u1] [zR s0] sh pp mm Q ↔ zS 150 210 [zR a0, zU] [zI 7, zR s0] sh pp mm Q := s_go cM_init_208 cM_init_210 rfl rfl
theorem rM_init_210 {a0 s1 : Nat} {s0 : Int} {u1 : zV} : zS 150 210 [zR a0, u1] [zI s0, zR s1] sh pp mm Q ↔ zS 150 211 [zR a0, zU] [zI 2, zI s0, zR s1] sh pp mm Q := s_go cM_init_210 cM_init_211 rfl rfl
theorem rM_init_211 {a0 s2 : Nat} {s0 s1 : Int} {u1 : zV} (hk : zKd sh s2 = 20) (h0 : 0 ≤ s1) (h1 : s1 < zLn sh s2) : zS 150 211 [zR a0, u1] [zI s0, zI s1, zR s2] sh pp mm Q ↔ zS 150 212 [zR a0, zU] [] sh pp (zupd mm s2 s1 s0) Q := s_go cM_init_211 cM_init_212 (if_pos ⟨hk, h0, h1, fun h => absurd h (by decide)⟩) rfl
theorem rM_init_212 {a0 : Nat} {u1 : zV} : zS 150 212 [zR a0, u1] [] sh pp mm Q ↔ zS 150 213 [zR a0, zU] [zR a0] sh pp mm Q := s_go cM_init_212 cM_init_213 rfl rfl
theorem rM_init_213 {a0 s0 : Nat} {u1 : zV} (hk : zKd sh s0 = 12) : zS 150 213 [zR a0, u1] [zR s0] sh pp mm Q ↔ zS 150 216 [zR a0, zU] [zR (pp s0 0)] sh pp mm Q := s_go cM_init_213 cM_init_216 (if_pos hk) rfl
theorem rM_init_216 {a0 s0 : Nat} {u1 : zV} : zS 150 216 [zR a0, u1] [zR s0] sh pp mm Q ↔ zS 150 218 [zR a0, zU] [zI 8, zR s0] sh pp mm Q := s_go cM_init_216 cM_init_218 rfl rfl
theorem rM_init_218 {a0 s1 : Nat} {s0 : Int} {u1 : zV} : zS 150 218 [zR a0, u1] [zI s0, zR s1] sh pp mm Q ↔ zS 150 220 [zR a0, zU] [zI 8, zI s0, zR s1] sh pp mm Q := s_go cM_init_218 cM_init_220 rfl rfl
theorem rM_init_220 {a0 s2 : Nat} {s0 s1 : Int} {u1 : zV} (hk : zKd sh s2 = 20) (h0 : 0 ≤ s1) (h1 : s1 < zLn sh s2) : zS 150 220 [zR a0, u1] [zI s0, zI s1, zR s2] sh pp mm Q ↔ zS 150 221 [zR a0, zU] [] sh pp (zupd mm s2 s1 s0) Q := s_go cM_init_220 cM_init_221 (if_pos ⟨hk, h0, h1, fun h => absurd h (by decide)⟩) rfl
theorem rM_init_221 {a0 : Nat} {u1 : zV} : zS 150 221 [zR a0, u1] [] sh pp mm Q ↔ zS 150 222 [zR a0, zU] [zI 0] sh pp mm Q := s_go cM_init_221 cM_init_222 rfl rfl
theorem rM_init_222 {a0 : Nat} {s0 : Int} {u1 : zV} : zS 150 222 [zR a0, u1] [zI s0] sh pp mm Q ↔ zS 150 223 [zR a0, zI s0] [] sh pp mm Q := s_go cM_init_222 cM_init_223 rfl rfl
theorem rM_init_223 {a0 : Nat} {a1 : Int} : zS 150 223 [zR a0, zI a1] [] sh pp mm Q ↔ zS 150 224 [zR a0, zI a1] [zI a1] sh pp mm Q := s_go cM_init_223 cM_init_224 rfl rfl
theorem rM_init_224 {a0 : Nat} {a1 s0 : Int} : zS 150 224 [zR a0, zI a1] [zI s0] sh pp mm Q ↔ zS 150 227 [zR a0, zI a1] [zI 384, zI s0] sh pp mm Q := s_go cM_init_224 cM_init_227 rfl rfl
theorem rM_init_227 {a0 : Nat} {a1 s0 s1 : Int} : zS 150 227 [zR a0, zI a1] [zI s0, zI s1] sh pp mm Q ↔ (s1 < s0 → zS 150 230 [zR a0, zI a1] [] sh pp mm Q) ∧ (¬ s1 < s0 → zS 150 247 [zR a0, zU] [] sh pp mm Q) := s_ifn cM_init_227 cM_init_230 cM_init_247 rfl rfl rfl
theorem rM_init_230 {a0 : Nat} {a1 : Int} : zS 150 230 [zR a0, zI a1] [] sh pp mm Q ↔ zS 150 231 [zR a0, zI a1] [zR a0] sh pp mm Q := s_go cM_init_230 cM_init_231 rfl rfl
theorem rM_init_231 {a0 s0 : Nat} {a1 : Int} (hk : zKd sh s0 = 12) : zS 150 231 [zR a0, zI a1] [zR s0] sh pp mm Q ↔ zS 150 234 [zR a0, zI a1] [zR (pp s0 0)] sh pp mm Q := s_go cM_init_231 cM_init_234 (if_pos hk) rfl
theorem rM_init_234 {a0 s0 : Nat} {a1 : Int} : zS 150 234 [zR a0, zI a1] [zR s0] sh pp mm Q ↔ zS 150 237 [zR a0, zI a1] [zI 573, zR s0] sh pp mm Q := s_go cM_init_234 cM_init_237 rfl rfl
theorem rM_init_237 {a0 s1 : Nat} {a1 s0 : Int} : zS 150 237 [zR a0, zI a1] [zI s0, zR s1] sh pp mm Q ↔ zS 150 238 [zR a0, zI a1] [zI a1, zI s0, zR s1] sh pp mm Q := s_go cM_init_237 cM_init_238 rfl rfl
theorem rM_init_238 {a0 s2 : Nat} {a1 s0 s1 : Int} : zS 150 238 [zR a0, zI a1] [zI s0, zI s1, zR s2] sh pp mm Q ↔ zS 150 239 [zR a0, zI a1] [zI (zw32 (s1 + s0)), zR s2] sh pp mm Q := s_go cM_init_238 cM_init_239 rfl rfl
theorem rM_init_239 {a0 s1 : Nat} {a1 s0 : Int} : zS 150 239 [zR a0, zI a1] [zI s0, zR s1] sh pp mm Q ↔ zS 150 240 [zR a0, zI a1] [zI (-1), zI s0, zR s1] sh pp mm Q := s_go cM_init_239 cM_init_240 rfl rfl
theorem rM_init_240 {a0 s2 : Nat} {a1 s0 s1 : Int} (hk : zKd sh s2 = 20) (h0 : 0 ≤ s1) (h1 : s1 < zLn sh s2) : zS 150 240 [zR a0, zI a1] [zI s0, zI s1, zR s2] sh pp mm Q ↔ zS 150 241 [zR a0, zI a1] [] sh pp (zupd mm s2 s1 s0) Q := s_go cM_init_240 cM_init_241 (if_pos ⟨hk, h0, h1, fun h => absurd h (by decide)⟩) rfl
theorem rM_init_241 {a0 : Nat} {a1 : Int} : zS 150 241 [zR a0, zI a1] [] sh pp mm Q ↔ zS 150 244 [zR a0, zI (zw32 (a1 + 1))] [] sh pp mm Q := s_go cM_init_241 cM_init_244 rfl rfl
theorem rM_init_244 {a0 : Nat} {a1 : Int} : zS 150 244 [zR a0, zI a1] [] sh pp mm Q ↔ zS 150 223 [zR a0, zI a1] [] sh pp mm Q := s_go cM_init_244 cM_init_223 rfl rfl
theorem rM_init_247 {a0 : Nat} {u1 : zV} : zS 150 247 [zR a0, u1] [] sh pp mm Q ↔ zS 150 248 [zU, zU] [zR a0] sh pp mm Q := s_go cM_init_247 cM_init_248 rfl rfl
theorem rM_init_248 {s0 : Nat} {u0 u1 : zV} : zS 150 248 [u0, u1] [zR s0] sh pp mm Q ↔ zS 150 249 [zU, zU] [zI 1, zR s0] sh pp mm Q := s_go cM_init_248 cM_init_249 rfl rfl
theorem rM_init_249 {s1 : Nat} {s0 : Int} {u0 u1 : zV} : zS 150 249 [u0, u1] [zI s0, zR s1] sh pp mm Q ↔ zS 150 250 [zU, zU] [zL 1, zI s0, zR s1] sh pp mm Q := s_go cM_init_249 cM_init_250 rfl rfl
theorem rM_init_250 {s2 : Nat} {s0 s1 : Int} {u0 u1 : zV} (hk : zKd sh s2 = 12) : zS 150 250 [u0, u1] [zL s0, zI s1, zR s2] sh pp mm Q ↔ zS 155 0 [zR s2, zI s1, zL s0, zU, zU, zU] [] sh pp mm (fun v sh pp mm => zS 150 253 [zU, zU] (zPush v []) sh pp mm Q) := s_call cM_init_250 cM_init_253 ((if_pos hk).trans rfl) rfl
theorem rM_init_253 {u0 u1 : zV} : zS 150 253 [u0, u1] [] sh pp mm Q ↔ Q zU sh pp mm := s_ret cM_init_253 rfl
theorem cAM_in : ∀ q ∈ zT151, zCode 151 q.1 = some q.2 := zAll (mid := 151) rfl (by decide +kernel)
theorem cAM_in_0 : ∀ q ∈ zT151_0, zCode 151 q.1 = some q.2 := fun q h => cAM_in q (h)
theorem cM_in_0 : zCode 151 0 = some (.lload_n 0, 1, 0, 0, 0, 0, 21) := cAM_in_0 _ (List.mem_of_getElem? (i := 0) rfl)
theorem cM_in_1 : zCode 151 1 = some (.lload_n 2, 2, 0, 0, 0, 0, 21) := cAM_in_0 _ (List.mem_of_getElem? (i := 1) rfl)
theorem cM_in_2 : zCode 151 2 = some (.lcmp, 3, 0, 0, 0, 0, 17) := cAM_in_0 _ (List.mem_of_getElem? (i := 2) rfl)
theorem cM_in_3 : zCode 151 3 = some (.ifCond .lt 14, 6, 17, 0, 0, 0, 17) := cAM_in_0 _ (List.mem_of_getElem? (i := 3) rfl)
theorem cM_in_6 : zCode 151 6 = some (.lload_n 0, 7, 0, 0, 0, 0, 17) := cAM_in_0 _ (List.mem_of_getElem? (i := 4) rfl)
theorem cM_in_7 : zCode 151 7 = some (.lload 4, 9, 0, 0, 0, 0, 16) := cAM_in_0 _ (List.mem_of_getElem? (i := 5) rfl)
theorem cM_in_9 : zCode 151 9 = some (.lcmp, 10, 0, 0, 0, 0, 0) := cAM_in_0 _ (List.mem_of_getElem? (i := 6) rfl)
theorem cM_in_10 : zCode 151 10 = some (.ifCond .gt 7, 13, 17, 0, 0, 0, 0) := cAM_in_0 _ (List.mem_of_getElem? (i := 7) rfl)
theorem cM_in_13 : zCode 151 13 = some (.iconst 1, 14, 0, 0, 0, 0, 0) := cAM_in_0 _ (List.mem_of_getElem? (i := 8) rfl)
theorem cM_in_14 : zCode 151 14 = some (.goto 4, 17, 18, 0, 0, 0, 0) := cAM_in_0 _ (List.mem_of_getElem? (i := 9) rfl)
theorem cM_in_17 : zCode 151 17 = some (.iconst 0, 18, 0, 0, 0, 0, 0) := cAM_in_0 _ (List.mem_of_getElem? (i := 10) rfl)
theorem cM_in_18 : zCode 151 18 = some (.ireturn, 19, 0, 3, 0, 0, 0) := cAM_in_0 _ (List.mem_of_getElem? (i := 11) rfl)
theorem rM_in_0 {a0 a2 a4 : Int} {u1 u3 u5 : zV} : zS 151 0 [zL a0, u1, zL a2, u3, zL a4, u5] [] sh pp mm Q ↔ zS 151 1 [zL a0, zU, zL a2, zU, zL a4, zU] [zL a0] sh pp mm Q := s_go cM_in_0 cM_in_1 rfl rfl
theorem rM_in_1 {a0 a2 a4 s0 : Int} {u1 u3 u5 : zV} : zS 151 1 [zL a0, u1, zL a2, u3, zL a4, u5] [zL s0] sh pp mm Q ↔ zS 151 2 [zL a0, zU, zU, zU, zL a4, zU] [zL a2, zL s0] sh pp mm Q := s_go cM_in_1 cM_in_2 rfl rfl
theorem rM_in_2 {a0 a4 s0 s1 : Int} {u1 u2 u3 u5 : zV} : zS 151 2 [zL a0, u1, u2, u3, zL a4, u5] [zL s0, zL s1] sh pp mm Q ↔ zS 151 3 [zL a0, zU, zU, zU, zL a4, zU] [zI (zcmp s1 s0)] sh pp mm Q := s_go cM_in_2 cM_in_3 rfl rfl
theorem rM_in_3 {a0 a4 s0 : Int} {u1 u2 u3 u5 : zV} : zS 151 3 [zL a0, u1, u2, u3, zL a4, u5] [zI s0] sh pp mm Q ↔ (s0 < 0 → zS 151 17 [zU, zU, zU, zU, zU, zU] [] sh pp mm Q) ∧ (¬ s0 < 0 → zS 151 6 [zL a0, zU, zU, zU, zL a4, zU] [] sh pp mm Q) := s_if cM_in_3 cM_in_17 cM_in_6 rfl rfl rfl
theorem rM_in_6 {a0 a4 : Int} {u1 u2 u3 u5 : zV} : zS 151 6 [zL a0, u1, u2, u3, zL a4, u5] [] sh pp mm Q ↔ zS 151 7 [zU, zU, zU, zU, zL a4, zU] [zL a0] sh pp mm Q := s_go cM_in_6 cM_in_7 rfl rfl
theorem rM_in_7 {a4 s0 : Int} {u0 u1 u2 u3 u5 : zV} : zS 151 7 [u0, u1, u2, u3, zL a4, u5] [zL s0] sh pp mm Q ↔ zS 151 9 [zU, zU, zU, zU, zU, zU] [zL a4, zL s0] sh pp mm Q := s_go cM_in_7 cM_in_9 rfl rfl
theorem rM_in_9 {s0 s1 : Int} {u0 u1 u2 u3 u4 u5 : zV} : zS 151 9 [u0, u1, u2, u3, u4, u5] [zL s0, zL s1] sh pp mm Q ↔ zS 151 10 [zU, zU, zU, zU, zU, zU] [zI (zcmp s1 s0)] sh pp mm Q := s_go cM_in_9 cM_in_10 rfl rfl
theorem rM_in_10 {s0 : Int} {u0 u1 u2 u3 u4 u5 : zV} : zS 151 10 [u0, u1, u2, u3, u4, u5] [zI s0] sh pp mm Q ↔ (0 < s0 → zS 151 17 [zU, zU, zU, zU, zU, zU] [] sh pp mm Q) ∧ (¬ 0 < s0 → zS 151 13 [zU, zU, zU, zU, zU, zU] [] sh pp mm Q) := s_if cM_in_10 cM_in_17 cM_in_13 rfl rfl rfl
theorem rM_in_13 {u0 u1 u2 u3 u4 u5 : zV} : zS 151 13 [u0, u1, u2, u3, u4, u5] [] sh pp mm Q ↔ zS 151 14 [zU, zU, zU, zU, zU, zU] [zI 1] sh pp mm Q := s_go cM_in_13 cM_in_14 rfl rfl
theorem rM_in_14 {s0 : Int} {u0 u1 u2 u3 u4 u5 : zV} : zS 151 14 [u0, u1, u2, u3, u4, u5] [zI s0] sh pp mm Q ↔ zS 151 18 [zU, zU, zU, zU, zU, zU] [zI s0] sh pp mm Q := s_go cM_in_14 cM_in_18 rfl rfl
theorem rM_in_17 {u0 u1 u2 u3 u4 u5 : zV} : zS 151 17 [u0, u1, u2, u3, u4, u5] [] sh pp mm Q ↔ zS 151 18 [zU, zU, zU, zU, zU, zU] [zI 0] sh pp mm Q := s_go cM_in_17 cM_in_18 rfl rfl
theorem rM_in_18 {s0 : Int} {u0 u1 u2 u3 u4 u5 : zV} (hb : s0 = 0 ∨ s0 = 1) : zS 151 18 [u0, u1, u2, u3, u4, u5] [zI s0] sh pp mm Q ↔ Q (zI s0) sh pp mm := s_ret cM_in_18 (if_pos (decide_eq_true hb))
theorem cAM_bad : ∀ q ∈ zT152, zCode 152 q.1 = some q.2 := zAll (mid := 152) rfl (by decide +kernel)
theorem cAM_bad_0 : ∀ q ∈ zT152_0, zCode 152 q.1 = some q.2 := fun q h => cAM_bad q (h)
theorem cM_bad_0 : zCode 152 0 = some (.aload_n 0, 1, 0, 0, 0, 0, 3) := cAM_bad_0 _ (List.mem_of_getElem? (i := 0) rfl)
theorem cM_bad_1 : zCode 152 1 = some (.getfield 20, 4, 12, 3, 2, 1212, 2) := cAM_bad_0 _ (List.mem_of_getElem? (i := 1) rfl)
theorem cM_bad_4 : zCode 152 4 = some (.iconst 0, 5, 0, 0, 0, 0, 2) := cAM_bad_0 _ (List.mem_of_getElem? (i := 2) rfl)
theorem cM_bad_5 : zCode 152 5 = some (.dup2, 6, 0, 0, 0, 0, 2) := cAM_bad_0 _ (List.mem_of_getElem? (i := 3) rfl)
theorem cM_bad_6 : zCode 152 6 = some (.iaload, 7, 0, 0, 0, 0, 2) := cAM_bad_0 _ (List.mem_of_getElem? (i := 4) rfl)
theorem cM_bad_7 : zCode 152 7 = some (.iconst 1, 8, 0, 0, 0, 0, 2) := cAM_bad_0 _ (List.mem_of_getElem? (i := 5) rfl)
theorem cM_bad_8 : zCode 152 8 = some (.iadd, 9, 0, 0, 0, 0, 2) := cAM_bad_0 _ (List.mem_of_getElem? (i := 6) rfl)
theorem cM_bad_9 : zCode 152 9 = some (.iastore, 10, 0, 0, 0, 0, 2) := cAM_bad_0 _ (List.mem_of_getElem? (i := 7) rfl)
theorem cM_bad_10 : zCode 152 10 = some (.iload_n 1, 11, 0, 0, 0, 0, 2) := cAM_bad_0 _ (List.mem_of_getElem? (i := 8) rfl)
theorem cM_bad_11 : zCode 152 11 = some (.ireturn, 12, 0, 0, 0, 0, 0) := cAM_bad_0 _ (List.mem_of_getElem? (i := 9) rfl)
theorem rM_bad_0 {a0 : Nat} {a1 : Int} : zS 152 0 [zR a0, zI a1] [] sh pp mm Q ↔ zS 152 1 [zU, zI a1] [zR a0] sh pp mm Q := s_go cM_bad_0 cM_bad_1 rfl rfl
theorem rM_bad_1 {s0 : Nat} {a1 : Int} {u0 : zV} (hk : zKd sh s0 = 12) : zS 152 1 [u0, zI a1] [zR s0] sh pp mm Q ↔ zS 152 4 [zU, zI a1] [zR (pp s0 3)] sh pp mm Q := s_go cM_bad_1 cM_bad_4 (if_pos hk) rfl
theorem rM_bad_4 {s0 : Nat} {a1 : Int} {u0 : zV} : zS 152 4 [u0, zI a1] [zR s0] sh pp mm Q ↔ zS 152 5 [zU, zI a1] [zI 0, zR s0] sh pp mm Q := s_go cM_bad_4 cM_bad_5 rfl rfl
theorem rM_bad_5 {s1 : Nat} {a1 s0 : Int} {u0 : zV} : zS 152 5 [u0, zI a1] [zI s0, zR s1] sh pp mm Q ↔ zS 152 6 [zU, zI a1] [zI s0, zR s1, zI s0, zR s1] sh pp mm Q := s_go cM_bad_5 cM_bad_6 rfl rfl
theorem rM_bad_6 {s1 s3 : Nat} {a1 s0 s2 : Int} {u0 : zV} (hk : zKd sh s1 = 20 ∨ zKd sh s1 = 30) (h0 : 0 ≤ s0) (h1 : s0 < zLn sh s1) : zS 152 6 [u0, zI a1] [zI s0, zR s1, zI s2, zR s3] sh pp mm Q ↔ zS 152 7 [zU, zI a1] [zI (mm s1 s0), zI s2, zR s3] sh pp mm Q := s_go cM_bad_6 cM_bad_7 (if_pos ⟨hk, h0, h1⟩) rfl
theorem rM_bad_7 {s2 : Nat} {a1 s0 s1 : Int} {u0 : zV} : zS 152 7 [u0, zI a1] [zI s0, zI s1, zR s2] sh pp mm Q ↔ zS 152 8 [zU, zI a1] [zI 1, zI s0, zI s1, zR s2] sh pp mm Q := s_go cM_bad_7 cM_bad_8 rfl rfl
theorem rM_bad_8 {s3 : Nat} {a1 s0 s1 s2 : Int} {u0 : zV} : zS 152 8 [u0, zI a1] [zI s0, zI s1, zI s2, zR s3] sh pp mm Q ↔ zS 152 9 [zU, zI a1] [zI (zw32 (s1 + s0)), zI s2, zR s3] sh pp mm Q := s_go cM_bad_8 cM_bad_9 rfl rfl
theorem rM_bad_9 {s2 : Nat} {a1 s0 s1 : Int} {u0 : zV} (hk : zKd sh s2 = 20) (h0 : 0 ≤ s1) (h1 : s1 < zLn sh s2) : zS 152 9 [u0, zI a1] [zI s0, zI s1, zR s2] sh pp mm Q ↔ zS 152 10 [zU, zI a1] [] sh pp (zupd mm s2 s1 s0) Q := s_go cM_bad_9 cM_bad_10 (if_pos ⟨hk, h0, h1, fun h => absurd h (by decide)⟩) rfl
theorem rM_bad_10 {a1 : Int} {u0 : zV} : zS 152 10 [u0, zI a1] [] sh pp mm Q ↔ zS 152 11 [zU, zU] [zI a1] sh pp mm Q := s_go cM_bad_10 cM_bad_11 rfl rfl
theorem rM_bad_11 {s0 : Int} {u0 u1 : zV} : zS 152 11 [u0, u1] [zI s0] sh pp mm Q ↔ Q (zI s0) sh pp mm := s_ret cM_bad_11 rfl
theorem cAM_no : ∀ q ∈ zT153, zCode 153 q.1 = some q.2 := zAll (mid := 153) rfl (by decide +kernel)
theorem cAM_no_0 : ∀ q ∈ zT153_0, zCode 153 q.1 = some q.2 := fun q h => cAM_no q (h)
theorem cM_no_0 : zCode 153 0 = some (.aload_n 0, 1, 0, 0, 0, 0, 3) := cAM_no_0 _ (List.mem_of_getElem? (i := 0) rfl)
theorem cM_no_1 : zCode 153 1 = some (.getfield 20, 4, 12, 3, 2, 1212, 2) := cAM_no_0 _ (List.mem_of_getElem? (i := 1) rfl)
theorem cM_no_4 : zCode 153 4 = some (.iconst 1, 5, 0, 0, 0, 0, 2) := cAM_no_0 _ (List.mem_of_getElem? (i := 2) rfl)
theorem cM_no_5 : zCode 153 5 = some (.dup2, 6, 0, 0, 0, 0, 2) := cAM_no_0 _ (List.mem_of_getElem? (i := 3) rfl)
theorem cM_no_6 : zCode 153 6 = some (.iaload, 7, 0, 0, 0, 0, 2) := cAM_no_0 _ (List.mem_of_getElem? (i := 4) rfl)
theorem cM_no_7 : zCode 153 7 = some (.iconst 1, 8, 0, 0, 0, 0, 2) := cAM_no_0 _ (List.mem_of_getElem? (i := 5) rfl)
theorem cM_no_8 : zCode 153 8 = some (.iadd, 9, 0, 0, 0, 0, 2) := cAM_no_0 _ (List.mem_of_getElem? (i := 6) rfl)
theorem cM_no_9 : zCode 153 9 = some (.iastore, 10, 0, 0, 0, 0, 2) := cAM_no_0 _ (List.mem_of_getElem? (i := 7) rfl)
theorem cM_no_10 : zCode 153 10 = some (.iload_n 1, 11, 0, 0, 0, 0, 2) := cAM_no_0 _ (List.mem_of_getElem? (i := 8) rfl)
theorem cM_no_11 : zCode 153 11 = some (.ireturn, 12, 0, 0, 0, 0, 0) := cAM_no_0 _ (List.mem_of_getElem? (i := 9) rfl)
theorem rM_no_0 {a0 : Nat} {a1 : Int} : zS 153 0 [zR a0, zI a1] [] sh pp mm Q ↔ zS 153 1 [zU, zI a1] [zR a0] sh pp mm Q := s_go cM_no_0 cM_no_1 rfl rfl
theorem rM_no_1 {s0 : Nat} {a1 : Int} {u0 : zV} (hk : zKd sh s0 = 12) : zS 153 1 [u0, zI a1] [zR s0] sh pp mm Q ↔ zS 153 4 [zU, zI a1] [zR (pp s0 3)] sh pp mm Q := s_go cM_no_1 cM_no_4 (if_pos hk) rfl
theorem rM_no_4 {s0 : Nat} {a1 : Int} {u0 : zV} : zS 153 4 [u0, zI a1] [zR s0] sh pp mm Q ↔ zS 153 5 [zU, zI a1] [zI 1, zR s0] sh pp mm Q := s_go cM_no_4 cM_no_5 rfl rfl
theorem rM_no_5 {s1 : Nat} {a1 s0 : Int} {u0 : zV} : zS 153 5 [u0, zI a1] [zI s0, zR s1] sh pp mm Q ↔ zS 153 6 [zU, zI a1] [zI s0, zR s1, zI s0, zR s1] sh pp mm Q := s_go cM_no_5 cM_no_6 rfl rfl
theorem rM_no_6 {s1 s3 : Nat} {a1 s0 s2 : Int} {u0 : zV} (hk : zKd sh s1 = 20 ∨ zKd sh s1 = 30) (h0 : 0 ≤ s0) (h1 : s0 < zLn sh s1) : zS 153 6 [u0, zI a1] [zI s0, zR s1, zI s2, zR s3] sh pp mm Q ↔ zS 153 7 [zU, zI a1] [zI (mm s1 s0), zI s2, zR s3] sh pp mm Q := s_go cM_no_6 cM_no_7 (if_pos ⟨hk, h0, h1⟩) rfl
theorem rM_no_7 {s2 : Nat} {a1 s0 s1 : Int} {u0 : zV} : zS 153 7 [u0, zI a1] [zI s0, zI s1, zR s2] sh pp mm Q ↔ zS 153 8 [zU, zI a1] [zI 1, zI s0, zI s1, zR s2] sh pp mm Q := s_go cM_no_7 cM_no_8 rfl rfl
theorem rM_no_8 {s3 : Nat} {a1 s0 s1 s2 : Int} {u0 : zV} : zS 153 8 [u0, zI a1] [zI s0, zI s1, zI s2, zR s3] sh pp mm Q ↔ zS 153 9 [zU, zI a1] [zI (zw32 (s1 + s0)), zI s2, zR s3] sh pp mm Q := s_go cM_no_8 cM_no_9 rfl rfl
theorem rM_no_9 {s2 : Nat} {a1 s0 s1 : Int} {u0 : zV} (hk : zKd sh s2 = 20) (h0 : 0 ≤ s1) (h1 : s1 < zLn sh s2) : zS 153 9 [u0, zI a1] [zI s0, zI s1, zR s2] sh pp mm Q ↔ zS 153 10 [zU, zI a1] [] sh pp (zupd mm s2 s1 s0) Q := s_go cM_no_9 cM_no_10 (if_pos ⟨hk, h0, h1, fun h => absurd h (by decide)⟩) rfl
theorem rM_no_10 {a1 : Int} {u0 : zV} : zS 153 10 [u0, zI a1] [] sh pp mm Q ↔ zS 153 11 [zU, zU] [zI a1] sh pp mm Q := s_go cM_no_10 cM_no_11 rfl rfl
theorem rM_no_11 {s0 : Int} {u0 u1 : zV} : zS 153 11 [u0, u1] [zI s0] sh pp mm Q ↔ Q (zI s0) sh pp mm := s_ret cM_no_11 rfl
theorem cAM_full : ∀ q ∈ zT154, zCode 154 q.1 = some q.2 := zAll (mid := 154) rfl (by decide +kernel)
theorem cAM_full_0 : ∀ q ∈ zT154_0, zCode 154 q.1 = some q.2 := fun q h => cAM_full q (h)
theorem cM_full_0 : zCode 154 0 = some (.aload_n 0, 1, 0, 0, 0, 0, 1) := cAM_full_0 _ (List.mem_of_getElem? (i := 0) rfl)
theorem cM_full_1 : zCode 154 1 = some (.getfield 20, 4, 12, 3, 2, 1212, 0) := cAM_full_0 _ (List.mem_of_getElem? (i := 1) rfl)
theorem cM_full_4 : zCode 154 4 = some (.iconst 2, 5, 0, 0, 0, 0, 0) := cAM_full_0 _ (List.mem_of_getElem? (i := 2) rfl)
theorem cM_full_5 : zCode 154 5 = some (.dup2, 6, 0, 0, 0, 0, 0) := cAM_full_0 _ (List.mem_of_getElem? (i := 3) rfl)
theorem cM_full_6 : zCode 154 6 = some (.iaload, 7, 0, 0, 0, 0, 0) := cAM_full_0 _ (List.mem_of_getElem? (i := 4) rfl)
theorem cM_full_7 : zCode 154 7 = some (.iconst 1, 8, 0, 0, 0, 0, 0) := cAM_full_0 _ (List.mem_of_getElem? (i := 5) rfl)
theorem cM_full_8 : zCode 154 8 = some (.iadd, 9, 0, 0, 0, 0, 0) := cAM_full_0 _ (List.mem_of_getElem? (i := 6) rfl)
theorem cM_full_9 : zCode 154 9 = some (.iastore, 10, 0, 0, 0, 0, 0) := cAM_full_0 _ (List.mem_of_getElem? (i := 7) rfl)
theorem cM_full_10 : zCode 154 10 = some (.bipush (-4), 12, 0, 0, 0, 0, 0) := cAM_full_0 _ (List.mem_of_getElem? (i := 8) rfl)
theorem cM_full_12 : zCode 154 12 = some (.ireturn, 13, 0, 0, 0, 0, 0) := cAM_full_0 _ (List.mem_of_getElem? (i := 9) rfl)
theorem rM_full_0 {a0 : Nat} : zS 154 0 [zR a0] [] sh pp mm Q ↔ zS 154 1 [zU] [zR a0] sh pp mm Q := s_go cM_full_0 cM_full_1 rfl rfl
theorem rM_full_1 {s0 : Nat} {u0 : zV} (hk : zKd sh s0 = 12) : zS 154 1 [u0] [zR s0] sh pp mm Q ↔ zS 154 4 [zU] [zR (pp s0 3)] sh pp mm Q := s_go cM_full_1 cM_full_4 (if_pos hk) rfl
theorem rM_full_4 {s0 : Nat} {u0 : zV} : zS 154 4 [u0] [zR s0] sh pp mm Q ↔ zS 154 5 [zU] [zI 2, zR s0] sh pp mm Q := s_go cM_full_4 cM_full_5 rfl rfl
theorem rM_full_5 {s1 : Nat} {s0 : Int} {u0 : zV} : zS 154 5 [u0] [zI s0, zR s1] sh pp mm Q ↔ zS 154 6 [zU] [zI s0, zR s1, zI s0, zR s1] sh pp mm Q := s_go cM_full_5 cM_full_6 rfl rfl
theorem rM_full_6 {s1 s3 : Nat} {s0 s2 : Int} {u0 : zV} (hk : zKd sh s1 = 20 ∨ zKd sh s1 = 30) (h0 : 0 ≤ s0) (h1 : s0 < zLn sh s1) : zS 154 6 [u0] [zI s0, zR s1, zI s2, zR s3] sh pp mm Q ↔ zS 154 7 [zU] [zI (mm s1 s0), zI s2, zR s3] sh pp mm Q := s_go cM_full_6 cM_full_7 (if_pos ⟨hk, h0, h1⟩) rfl
theorem rM_full_7 {s2 : Nat} {s0 s1 : Int} {u0 : zV} : zS 154 7 [u0] [zI s0, zI s1, zR s2] sh pp mm Q ↔ zS 154 8 [zU] [zI 1, zI s0, zI s1, zR s2] sh pp mm Q := s_go cM_full_7 cM_full_8 rfl rfl
theorem rM_full_8 {s3 : Nat} {s0 s1 s2 : Int} {u0 : zV} : zS 154 8 [u0] [zI s0, zI s1, zI s2, zR s3] sh pp mm Q ↔ zS 154 9 [zU] [zI (zw32 (s1 + s0)), zI s2, zR s3] sh pp mm Q := s_go cM_full_8 cM_full_9 rfl rfl
theorem rM_full_9 {s2 : Nat} {s0 s1 : Int} {u0 : zV} (hk : zKd sh s2 = 20) (h0 : 0 ≤ s1) (h1 : s1 < zLn sh s2) : zS 154 9 [u0] [zI s0, zI s1, zR s2] sh pp mm Q ↔ zS 154 10 [zU] [] sh pp (zupd mm s2 s1 s0) Q := s_go cM_full_9 cM_full_10 (if_pos ⟨hk, h0, h1, fun h => absurd h (by decide)⟩) rfl
theorem rM_full_10 {u0 : zV} : zS 154 10 [u0] [] sh pp mm Q ↔ zS 154 12 [zU] [zI (-4)] sh pp mm Q := s_go cM_full_10 cM_full_12 rfl rfl
theorem rM_full_12 {s0 : Int} {u0 : zV} : zS 154 12 [u0] [zI s0] sh pp mm Q ↔ Q (zI s0) sh pp mm := s_ret cM_full_12 rfl
theorem cAM_set : ∀ q ∈ zT155, zCode 155 q.1 = some q.2 := zAll (mid := 155) rfl (by decide +kernel)
theorem cAM_set_0 : ∀ q ∈ zT155_0, zCode 155 q.1 = some q.2 := fun q h => cAM_set q (List.mem_append_left _ h)
theorem cAM_set_1 : ∀ q ∈ zT155_1, zCode 155 q.1 = some q.2 := fun q h => cAM_set q (List.mem_append_right _ (List.mem_append_left _ h))
theorem cAM_set_2 : ∀ q ∈ zT155_2, zCode 155 q.1 = some q.2 := fun q h => cAM_set q (List.mem_append_right _ (List.mem_append_right _ h))
theorem cM_set_0 : zCode 155 0 = some (.lload_n 2, 1, 0, 0, 0, 0, 7) := cAM_set_0 _ (List.mem_of_getElem? (i := 0) rfl)
theorem cM_set_1 : zCode 155 1 = some (.lstore 4, 3, 0, 0, 0, 0, 3) := cAM_set_0 _ (List.mem_of_getElem? (i := 1) rfl)
theorem cM_set_3 : zCode 155 3 = some (.aload_n 0, 4, 0, 0, 0, 0, 19) := cAM_set_0 _ (List.mem_of_getElem? (i := 2) rfl)
theorem cM_set_4 : zCode 155 4 = some (.getfield 27, 7, 12, 5, 2, 1214, 19) := cAM_set_0 _ (List.mem_of_getElem? (i := 3) rfl)
theorem cM_set_7 : zCode 155 7 = some (.iload_n 1, 8, 0, 0, 0, 0, 19) := cAM_set_0 _ (List.mem_of_getElem? (i := 4) rfl)
theorem cM_set_8 : zCode 155 8 = some (.iconst 0, 9, 0, 0, 0, 0, 19) := cAM_set_0 _ (List.mem_of_getElem? (i := 5) rfl)
theorem cM_set_9 : zCode 155 9 = some (.iastore, 10, 0, 0, 0, 0, 19) := cAM_set_0 _ (List.mem_of_getElem? (i := 6) rfl)
theorem cM_set_10 : zCode 155 10 = some (.lload 4, 12, 0, 0, 0, 0, 19) := cAM_set_0 _ (List.mem_of_getElem? (i := 7) rfl)
theorem cM_set_12 : zCode 155 12 = some (.lconst 0, 13, 0, 0, 0, 0, 19) := cAM_set_0 _ (List.mem_of_getElem? (i := 8) rfl)
theorem cM_set_13 : zCode 155 13 = some (.lcmp, 14, 0, 0, 0, 0, 19) := cAM_set_0 _ (List.mem_of_getElem? (i := 9) rfl)
theorem cM_set_14 : zCode 155 14 = some (.ifCond .le 46, 17, 60, 0, 0, 0, 19) := cAM_set_0 _ (List.mem_of_getElem? (i := 10) rfl)
theorem cM_set_17 : zCode 155 17 = some (.aload_n 0, 18, 0, 0, 0, 0, 19) := cAM_set_0 _ (List.mem_of_getElem? (i := 11) rfl)
theorem cM_set_18 : zCode 155 18 = some (.getfield 23, 21, 12, 4, 2, 1213, 19) := cAM_set_0 _ (List.mem_of_getElem? (i := 12) rfl)
theorem cM_set_21 : zCode 155 21 = some (.bipush 64, 23, 0, 0, 0, 0, 19) := cAM_set_0 _ (List.mem_of_getElem? (i := 13) rfl)
theorem cM_set_23 : zCode 155 23 = some (.iload_n 1, 24, 0, 0, 0, 0, 19) := cAM_set_0 _ (List.mem_of_getElem? (i := 14) rfl)
theorem cM_set_24 : zCode 155 24 = some (.imul, 25, 0, 0, 0, 0, 19) := cAM_set_0 _ (List.mem_of_getElem? (i := 15) rfl)
theorem cM_set_25 : zCode 155 25 = some (.aload_n 0, 26, 0, 0, 0, 0, 19) := cAM_set_1 _ (List.mem_of_getElem? (i := 0) rfl)
theorem cM_set_26 : zCode 155 26 = some (.getfield 27, 29, 12, 5, 2, 1214, 19) := cAM_set_1 _ (List.mem_of_getElem? (i := 1) rfl)
theorem cM_set_29 : zCode 155 29 = some (.iload_n 1, 30, 0, 0, 0, 0, 19) := cAM_set_1 _ (List.mem_of_getElem? (i := 2) rfl)
theorem cM_set_30 : zCode 155 30 = some (.iaload, 31, 0, 0, 0, 0, 19) := cAM_set_1 _ (List.mem_of_getElem? (i := 3) rfl)
theorem cM_set_31 : zCode 155 31 = some (.iadd, 32, 0, 0, 0, 0, 19) := cAM_set_1 _ (List.mem_of_getElem? (i := 4) rfl)
theorem cM_set_32 : zCode 155 32 = some (.lload 4, 34, 0, 0, 0, 0, 19) := cAM_set_1 _ (List.mem_of_getElem? (i := 5) rfl)
theorem cM_set_34 : zCode 155 34 = some (.ldc2_w 77, 37, 0, 0, 1208, 1073741824, 19) := cAM_set_1 _ (List.mem_of_getElem? (i := 6) rfl)
theorem cM_set_37 : zCode 155 37 = some (.lrem, 38, 0, 0, 0, 0, 19) := cAM_set_1 _ (List.mem_of_getElem? (i := 7) rfl)
theorem cM_set_38 : zCode 155 38 = some (.lastore, 39, 0, 0, 0, 0, 19) := cAM_set_1 _ (List.mem_of_getElem? (i := 8) rfl)
theorem cM_set_39 : zCode 155 39 = some (.lload 4, 41, 0, 0, 0, 0, 19) := cAM_set_1 _ (List.mem_of_getElem? (i := 9) rfl)
theorem cM_set_41 : zCode 155 41 = some (.ldc2_w 77, 44, 0, 0, 1208, 1073741824, 3) := cAM_set_1 _ (List.mem_of_getElem? (i := 10) rfl)
theorem cM_set_44 : zCode 155 44 = some (.ldiv, 45, 0, 0, 0, 0, 3) := cAM_set_1 _ (List.mem_of_getElem? (i := 11) rfl)
theorem cM_set_45 : zCode 155 45 = some (.lstore 4, 47, 0, 0, 0, 0, 3) := cAM_set_1 _ (List.mem_of_getElem? (i := 12) rfl)
theorem cM_set_47 : zCode 155 47 = some (.aload_n 0, 48, 0, 0, 0, 0, 19) := cAM_set_1 _ (List.mem_of_getElem? (i := 13) rfl)
theorem cM_set_48 : zCode 155 48 = some (.getfield 27, 51, 12, 5, 2, 1214, 19) := cAM_set_1 _ (List.mem_of_getElem? (i := 14) rfl)
theorem cM_set_51 : zCode 155 51 = some (.iload_n 1, 52, 0, 0, 0, 0, 19) := cAM_set_1 _ (List.mem_of_getElem? (i := 15) rfl)
theorem cM_set_52 : zCode 155 52 = some (.dup2, 53, 0, 0, 0, 0, 19) := cAM_set_2 _ (List.mem_of_getElem? (i := 0) rfl)
theorem cM_set_53 : zCode 155 53 = some (.iaload, 54, 0, 0, 0, 0, 19) := cAM_set_2 _ (List.mem_of_getElem? (i := 1) rfl)
theorem cM_set_54 : zCode 155 54 = some (.iconst 1, 55, 0, 0, 0, 0, 19) := cAM_set_2 _ (List.mem_of_getElem? (i := 2) rfl)
theorem cM_set_55 : zCode 155 55 = some (.iadd, 56, 0, 0, 0, 0, 19) := cAM_set_2 _ (List.mem_of_getElem? (i := 3) rfl)
theorem cM_set_56 : zCode 155 56 = some (.iastore, 57, 0, 0, 0, 0, 19) := cAM_set_2 _ (List.mem_of_getElem? (i := 4) rfl)
theorem cM_set_57 : zCode 155 57 = some (.goto (-47), 60, 10, 0, 0, 0, 19) := cAM_set_2 _ (List.mem_of_getElem? (i := 5) rfl)
theorem cM_set_60 : zCode 155 60 = some (.return_, 61, 0, 0, 0, 0, 0) := cAM_set_2 _ (List.mem_of_getElem? (i := 6) rfl)
theorem rM_set_0 {a0 : Nat} {a1 a2 : Int} {u3 u4 u5 : zV} : zS 155 0 [zR a0, zI a1, zL a2, u3, u4, u5] [] sh pp mm Q ↔ zS 155 1 [zR a0, zI a1, zU, zU, zU, zU] [zL a2] sh pp mm Q := s_go cM_set_0 cM_set_1 rfl rfl
theorem rM_set_1 {a0 : Nat} {a1 s0 : Int} {u2 u3 u4 u5 : zV} : zS 155 1 [zR a0, zI a1, u2, u3, u4, u5] [zL s0] sh pp mm Q ↔ zS 155 3 [zR a0, zI a1, zU, zU, zL s0, zU] [] sh pp mm Q := s_go cM_set_1 cM_set_3 rfl rfl
theorem rM_set_3 {a0 : Nat} {a1 a4 : Int} {u2 u3 u5 : zV} : zS 155 3 [zR a0, zI a1, u2, u3, zL a4, u5] [] sh pp mm Q ↔ zS 155 4 [zR a0, zI a1, zU, zU, zL a4, zU] [zR a0] sh pp mm Q := s_go cM_set_3 cM_set_4 rfl rfl
theorem rM_set_4 {a0 s0 : Nat} {a1 a4 : Int} {u2 u3 u5 : zV} (hk : zKd sh s0 = 12) : zS 155 4 [zR a0, zI a1, u2, u3, zL a4, u5] [zR s0] sh pp mm Q ↔ zS 155 7 [zR a0, zI a1, zU, zU, zL a4, zU] [zR (pp s0 5)] sh pp mm Q := s_go cM_set_4 cM_set_7 (if_pos hk) rfl
theorem rM_set_7 {a0 s0 : Nat} {a1 a4 : Int} {u2 u3 u5 : zV} : zS 155 7 [zR a0, zI a1, u2, u3, zL a4, u5] [zR s0] sh pp mm Q ↔ zS 155 8 [zR a0, zI a1, zU, zU, zL a4, zU] [zI a1, zR s0] sh pp mm Q := s_go cM_set_7 cM_set_8 rfl rfl
theorem rM_set_8 {a0 s1 : Nat} {a1 a4 s0 : Int} {u2 u3 u5 : zV} : zS 155 8 [zR a0, zI a1, u2, u3, zL a4, u5] [zI s0, zR s1] sh pp mm Q ↔ zS 155 9 [zR a0, zI a1, zU, zU, zL a4, zU] [zI 0, zI s0, zR s1] sh pp mm Q := s_go cM_set_8 cM_set_9 rfl rfl
theorem rM_set_9 {a0 s2 : Nat} {a1 a4 s0 s1 : Int} {u2 u3 u5 : zV} (hk : zKd sh s2 = 20) (h0 : 0 ≤ s1) (h1 : s1 < zLn sh s2) : zS 155 9 [zR a0, zI a1, u2, u3, zL a4, u5] [zI s0, zI s1, zR s2] sh pp mm Q ↔ zS 155 10 [zR a0, zI a1, zU, zU, zL a4, zU] [] sh pp (zupd mm s2 s1 s0) Q := s_go cM_set_9 cM_set_10 (if_pos ⟨hk, h0, h1, fun h => absurd h (by decide)⟩) rfl
theorem rM_set_10 {a0 : Nat} {a1 a4 : Int} {u2 u3 u5 : zV} : zS 155 10 [zR a0, zI a1, u2, u3, zL a4, u5] [] sh pp mm Q ↔ zS 155 12 [zR a0, zI a1, zU, zU, zL a4, zU] [zL a4] sh pp mm Q := s_go cM_set_10 cM_set_12 rfl rfl
theorem rM_set_12 {a0 : Nat} {a1 a4 s0 : Int} {u2 u3 u5 : zV} : zS 155 12 [zR a0, zI a1, u2, u3, zL a4, u5] [zL s0] sh pp mm Q ↔ zS 155 13 [zR a0, zI a1, zU, zU, zL a4, zU] [zL 0, zL s0] sh pp mm Q := s_go cM_set_12 cM_set_13 rfl rfl
theorem rM_set_13 {a0 : Nat} {a1 a4 s0 s1 : Int} {u2 u3 u5 : zV} : zS 155 13 [zR a0, zI a1, u2, u3, zL a4, u5] [zL s0, zL s1] sh pp mm Q ↔ zS 155 14 [zR a0, zI a1, zU, zU, zL a4, zU] [zI (zcmp s1 s0)] sh pp mm Q := s_go cM_set_13 cM_set_14 rfl rfl
theorem rM_set_14 {a0 : Nat} {a1 a4 s0 : Int} {u2 u3 u5 : zV} : zS 155 14 [zR a0, zI a1, u2, u3, zL a4, u5] [zI s0] sh pp mm Q ↔ (0 < s0 → zS 155 17 [zR a0, zI a1, zU, zU, zL a4, zU] [] sh pp mm Q) ∧ (¬ 0 < s0 → zS 155 60 [zU, zU, zU, zU, zU, zU] [] sh pp mm Q) := s_ifn cM_set_14 cM_set_17 cM_set_60 rfl rfl rfl
theorem rM_set_17 {a0 : Nat} {a1 a4 : Int} {u2 u3 u5 : zV} : zS 155 17 [zR a0, zI a1, u2, u3, zL a4, u5] [] sh pp mm Q ↔ zS 155 18 [zR a0, zI a1, zU, zU, zL a4, zU] [zR a0] sh pp mm Q := s_go cM_set_17 cM_set_18 rfl rfl
theorem rM_set_18 {a0 s0 : Nat} {a1 a4 : Int} {u2 u3 u5 : zV} (hk : zKd sh s0 = 12) : zS 155 18 [zR a0, zI a1, u2, u3, zL a4, u5] [zR s0] sh pp mm Q ↔ zS 155 21 [zR a0, zI a1, zU, zU, zL a4, zU] [zR (pp s0 4)] sh pp mm Q := s_go cM_set_18 cM_set_21 (if_pos hk) rfl
theorem rM_set_21 {a0 s0 : Nat} {a1 a4 : Int} {u2 u3 u5 : zV} : zS 155 21 [zR a0, zI a1, u2, u3, zL a4, u5] [zR s0] sh pp mm Q ↔ zS 155 23 [zR a0, zI a1, zU, zU, zL a4, zU] [zI 64, zR s0] sh pp mm Q := s_go cM_set_21 cM_set_23 rfl rfl
theorem rM_set_23 {a0 s1 : Nat} {a1 a4 s0 : Int} {u2 u3 u5 : zV} : zS 155 23 [zR a0, zI a1, u2, u3, zL a4, u5] [zI s0, zR s1] sh pp mm Q ↔ zS 155 24 [zR a0, zI a1, zU, zU, zL a4, zU] [zI a1, zI s0, zR s1] sh pp mm Q := s_go cM_set_23 cM_set_24 rfl rfl
theorem rM_set_24 {a0 s2 : Nat} {a1 a4 s0 s1 : Int} {u2 u3 u5 : zV} : zS 155 24 [zR a0, zI a1, u2, u3, zL a4, u5] [zI s0, zI s1, zR s2] sh pp mm Q ↔ zS 155 25 [zR a0, zI a1, zU, zU, zL a4, zU] [zI (zw32 (s1 * s0)), zR s2] sh pp mm Q := s_go cM_set_24 cM_set_25 rfl rfl
theorem rM_set_25 {a0 s1 : Nat} {a1 a4 s0 : Int} {u2 u3 u5 : zV} : zS 155 25 [zR a0, zI a1, u2, u3, zL a4, u5] [zI s0, zR s1] sh pp mm Q ↔ zS 155 26 [zR a0, zI a1, zU, zU, zL a4, zU] [zR a0, zI s0, zR s1] sh pp mm Q := s_go cM_set_25 cM_set_26 rfl rfl
theorem rM_set_26 {a0 s0 s2 : Nat} {a1 a4 s1 : Int} {u2 u3 u5 : zV} (hk : zKd sh s0 = 12) : zS 155 26 [zR a0, zI a1, u2, u3, zL a4, u5] [zR s0, zI s1, zR s2] sh pp mm Q ↔ zS 155 29 [zR a0, zI a1, zU, zU, zL a4, zU] [zR (pp s0 5), zI s1, zR s2] sh pp mm Q := s_go cM_set_26 cM_set_29 (if_pos hk) rfl
theorem rM_set_29 {a0 s0 s2 : Nat} {a1 a4 s1 : Int} {u2 u3 u5 : zV} : zS 155 29 [zR a0, zI a1, u2, u3, zL a4, u5] [zR s0, zI s1, zR s2] sh pp mm Q ↔ zS 155 30 [zR a0, zI a1, zU, zU, zL a4, zU] [zI a1, zR s0, zI s1, zR s2] sh pp mm Q := s_go cM_set_29 cM_set_30 rfl rfl
theorem rM_set_30 {a0 s1 s3 : Nat} {a1 a4 s0 s2 : Int} {u2 u3 u5 : zV} (hk : zKd sh s1 = 20 ∨ zKd sh s1 = 30) (h0 : 0 ≤ s0) (h1 : s0 < zLn sh s1) : zS 155 30 [zR a0, zI a1, u2, u3, zL a4, u5] [zI s0, zR s1, zI s2, zR s3] sh pp mm Q ↔ zS 155 31 [zR a0, zI a1, zU, zU, zL a4, zU] [zI (mm s1 s0), zI s2, zR s3] sh pp mm Q := s_go cM_set_30 cM_set_31 (if_pos ⟨hk, h0, h1⟩) rfl
theorem rM_set_31 {a0 s2 : Nat} {a1 a4 s0 s1 : Int} {u2 u3 u5 : zV} : zS 155 31 [zR a0, zI a1, u2, u3, zL a4, u5] [zI s0, zI s1, zR s2] sh pp mm Q ↔ zS 155 32 [zR a0, zI a1, zU, zU, zL a4, zU] [zI (zw32 (s1 + s0)), zR s2] sh pp mm Q := s_go cM_set_31 cM_set_32 rfl rfl
theorem rM_set_32 {a0 s1 : Nat} {a1 a4 s0 : Int} {u2 u3 u5 : zV} : zS 155 32 [zR a0, zI a1, u2, u3, zL a4, u5] [zI s0, zR s1] sh pp mm Q ↔ zS 155 34 [zR a0, zI a1, zU, zU, zL a4, zU] [zL a4, zI s0, zR s1] sh pp mm Q := s_go cM_set_32 cM_set_34 rfl rfl
theorem rM_set_34 {a0 s2 : Nat} {a1 a4 s0 s1 : Int} {u2 u3 u5 : zV} : zS 155 34 [zR a0, zI a1, u2, u3, zL a4, u5] [zL s0, zI s1, zR s2] sh pp mm Q ↔ zS 155 37 [zR a0, zI a1, zU, zU, zL a4, zU] [zL 1073741824, zL s0, zI s1, zR s2] sh pp mm Q := s_go cM_set_34 cM_set_37 rfl rfl
theorem rM_set_37 {a0 s3 : Nat} {a1 a4 s0 s1 s2 : Int} {u2 u3 u5 : zV} (hz : s0 ≠ 0) : zS 155 37 [zR a0, zI a1, u2, u3, zL a4, u5] [zL s0, zL s1, zI s2, zR s3] sh pp mm Q ↔ zS 155 38 [zR a0, zI a1, zU, zU, zL a4, zU] [zL (s1.tmod s0), zI s2, zR s3] sh pp mm Q := s_go cM_set_37 cM_set_38 (if_neg hz) rfl
theorem rM_set_38 {a0 s2 : Nat} {a1 a4 s0 s1 : Int} {u2 u3 u5 : zV} (hk : zKd sh s2 = 21) (h0 : 0 ≤ s1) (h1 : s1 < zLn sh s2) : zS 155 38 [zR a0, zI a1, u2, u3, zL a4, u5] [zL s0, zI s1, zR s2] sh pp mm Q ↔ zS 155 39 [zR a0, zI a1, zU, zU, zL a4, zU] [] sh pp (zupd mm s2 s1 s0) Q := s_go cM_set_38 cM_set_39 (if_pos ⟨hk, h0, h1⟩) rfl
theorem rM_set_39 {a0 : Nat} {a1 a4 : Int} {u2 u3 u5 : zV} : zS 155 39 [zR a0, zI a1, u2, u3, zL a4, u5] [] sh pp mm Q ↔ zS 155 41 [zR a0, zI a1, zU, zU, zU, zU] [zL a4] sh pp mm Q := s_go cM_set_39 cM_set_41 rfl rfl
theorem rM_set_41 {a0 : Nat} {a1 s0 : Int} {u2 u3 u4 u5 : zV} : zS 155 41 [zR a0, zI a1, u2, u3, u4, u5] [zL s0] sh pp mm Q ↔ zS 155 44 [zR a0, zI a1, zU, zU, zU, zU] [zL 1073741824, zL s0] sh pp mm Q := s_go cM_set_41 cM_set_44 rfl rfl
theorem rM_set_44 {a0 : Nat} {a1 s0 s1 : Int} {u2 u3 u4 u5 : zV} (hz : s0 ≠ 0) : zS 155 44 [zR a0, zI a1, u2, u3, u4, u5] [zL s0, zL s1] sh pp mm Q ↔ zS 155 45 [zR a0, zI a1, zU, zU, zU, zU] [zL (zw64 (s1.tdiv s0))] sh pp mm Q := s_go cM_set_44 cM_set_45 (if_neg hz) rfl
theorem rM_set_45 {a0 : Nat} {a1 s0 : Int} {u2 u3 u4 u5 : zV} : zS 155 45 [zR a0, zI a1, u2, u3, u4, u5] [zL s0] sh pp mm Q ↔ zS 155 47 [zR a0, zI a1, zU, zU, zL s0, zU] [] sh pp mm Q := s_go cM_set_45 cM_set_47 rfl rfl
theorem rM_set_47 {a0 : Nat} {a1 a4 : Int} {u2 u3 u5 : zV} : zS 155 47 [zR a0, zI a1, u2, u3, zL a4, u5] [] sh pp mm Q ↔ zS 155 48 [zR a0, zI a1, zU, zU, zL a4, zU] [zR a0] sh pp mm Q := s_go cM_set_47 cM_set_48 rfl rfl
theorem rM_set_48 {a0 s0 : Nat} {a1 a4 : Int} {u2 u3 u5 : zV} (hk : zKd sh s0 = 12) : zS 155 48 [zR a0, zI a1, u2, u3, zL a4, u5] [zR s0] sh pp mm Q ↔ zS 155 51 [zR a0, zI a1, zU, zU, zL a4, zU] [zR (pp s0 5)] sh pp mm Q := s_go cM_set_48 cM_set_51 (if_pos hk) rfl
theorem rM_set_51 {a0 s0 : Nat} {a1 a4 : Int} {u2 u3 u5 : zV} : zS 155 51 [zR a0, zI a1, u2, u3, zL a4, u5] [zR s0] sh pp mm Q ↔ zS 155 52 [zR a0, zI a1, zU, zU, zL a4, zU] [zI a1, zR s0] sh pp mm Q := s_go cM_set_51 cM_set_52 rfl rfl
theorem rM_set_52 {a0 s1 : Nat} {a1 a4 s0 : Int} {u2 u3 u5 : zV} : zS 155 52 [zR a0, zI a1, u2, u3, zL a4, u5] [zI s0, zR s1] sh pp mm Q ↔ zS 155 53 [zR a0, zI a1, zU, zU, zL a4, zU] [zI s0, zR s1, zI s0, zR s1] sh pp mm Q := s_go cM_set_52 cM_set_53 rfl rfl
theorem rM_set_53 {a0 s1 s3 : Nat} {a1 a4 s0 s2 : Int} {u2 u3 u5 : zV} (hk : zKd sh s1 = 20 ∨ zKd sh s1 = 30) (h0 : 0 ≤ s0) (h1 : s0 < zLn sh s1) : zS 155 53 [zR a0, zI a1, u2, u3, zL a4, u5] [zI s0, zR s1, zI s2, zR s3] sh pp mm Q ↔ zS 155 54 [zR a0, zI a1, zU, zU, zL a4, zU] [zI (mm s1 s0), zI s2, zR s3] sh pp mm Q := s_go cM_set_53 cM_set_54 (if_pos ⟨hk, h0, h1⟩) rfl
theorem rM_set_54 {a0 s2 : Nat} {a1 a4 s0 s1 : Int} {u2 u3 u5 : zV} : zS 155 54 [zR a0, zI a1, u2, u3, zL a4, u5] [zI s0, zI s1, zR s2] sh pp mm Q ↔ zS 155 55 [zR a0, zI a1, zU, zU, zL a4, zU] [zI 1, zI s0, zI s1, zR s2] sh pp mm Q := s_go cM_set_54 cM_set_55 rfl rfl
theorem rM_set_55 {a0 s3 : Nat} {a1 a4 s0 s1 s2 : Int} {u2 u3 u5 : zV} : zS 155 55 [zR a0, zI a1, u2, u3, zL a4, u5] [zI s0, zI s1, zI s2, zR s3] sh pp mm Q ↔ zS 155 56 [zR a0, zI a1, zU, zU, zL a4, zU] [zI (zw32 (s1 + s0)), zI s2, zR s3] sh pp mm Q := s_go cM_set_55 cM_set_56 rfl rfl
theorem rM_set_56 {a0 s2 : Nat} {a1 a4 s0 s1 : Int} {u2 u3 u5 : zV} (hk : zKd sh s2 = 20) (h0 : 0 ≤ s1) (h1 : s1 < zLn sh s2) : zS 155 56 [zR a0, zI a1, u2, u3, zL a4, u5] [zI s0, zI s1, zR s2] sh pp mm Q ↔ zS 155 57 [zR a0, zI a1, zU, zU, zL a4, zU] [] sh pp (zupd mm s2 s1 s0) Q := s_go cM_set_56 cM_set_57 (if_pos ⟨hk, h0, h1, fun h => absurd h (by decide)⟩) rfl
theorem rM_set_57 {a0 : Nat} {a1 a4 : Int} {u2 u3 u5 : zV} : zS 155 57 [zR a0, zI a1, u2, u3, zL a4, u5] [] sh pp mm Q ↔ zS 155 10 [zR a0, zI a1, zU, zU, zL a4, zU] [] sh pp mm Q := s_go cM_set_57 cM_set_10 rfl rfl
theorem rM_set_60 {u0 u1 u2 u3 u4 u5 : zV} : zS 155 60 [u0, u1, u2, u3, u4, u5] [] sh pp mm Q ↔ Q zU sh pp mm := s_ret cM_set_60 rfl
theorem cAM_copy : ∀ q ∈ zT156, zCode 156 q.1 = some q.2 := zAll (mid := 156) rfl (by decide +kernel)
theorem cAM_copy_0 : ∀ q ∈ zT156_0, zCode 156 q.1 = some q.2 := fun q h => cAM_copy q (List.mem_append_left _ h)
theorem cAM_copy_1 : ∀ q ∈ zT156_1, zCode 156 q.1 = some q.2 := fun q h => cAM_copy q (List.mem_append_right _ (List.mem_append_left _ h))
theorem cAM_copy_2 : ∀ q ∈ zT156_2, zCode 156 q.1 = some q.2 := fun q h => cAM_copy q (List.mem_append_right _ (List.mem_append_right _ h))
theorem cM_copy_0 : zCode 156 0 = some (.iconst 0, 1, 0, 0, 0, 0, 7) := cAM_copy_0 _ (List.mem_of_getElem? (i := 0) rfl)
theorem cM_copy_1 : zCode 156 1 = some (.istore_n 3, 2, 0, 0, 0, 0, 7) := cAM_copy_0 _ (List.mem_of_getElem? (i := 1) rfl)
theorem cM_copy_2 : zCode 156 2 = some (.iload_n 3, 3, 0, 0, 0, 0, 15) := cAM_copy_0 _ (List.mem_of_getElem? (i := 2) rfl)
theorem cM_copy_3 : zCode 156 3 = some (.aload_n 0, 4, 0, 0, 0, 0, 15) := cAM_copy_0 _ (List.mem_of_getElem? (i := 3) rfl)
theorem cM_copy_4 : zCode 156 4 = some (.getfield 27, 7, 12, 5, 2, 1214, 15) := cAM_copy_0 _ (List.mem_of_getElem? (i := 4) rfl)
theorem cM_copy_7 : zCode 156 7 = some (.iload_n 2, 8, 0, 0, 0, 0, 15) := cAM_copy_0 _ (List.mem_of_getElem? (i := 5) rfl)
theorem cM_copy_8 : zCode 156 8 = some (.iaload, 9, 0, 0, 0, 0, 15) := cAM_copy_0 _ (List.mem_of_getElem? (i := 6) rfl)
theorem cM_copy_9 : zCode 156 9 = some (.if_icmp .ge 31, 12, 40, 0, 0, 0, 15) := cAM_copy_0 _ (List.mem_of_getElem? (i := 7) rfl)
theorem cM_copy_12 : zCode 156 12 = some (.aload_n 0, 13, 0, 0, 0, 0, 15) := cAM_copy_0 _ (List.mem_of_getElem? (i := 8) rfl)
theorem cM_copy_13 : zCode 156 13 = some (.getfield 23, 16, 12, 4, 2, 1213, 15) := cAM_copy_0 _ (List.mem_of_getElem? (i := 9) rfl)
theorem cM_copy_16 : zCode 156 16 = some (.bipush 64, 18, 0, 0, 0, 0, 15) := cAM_copy_0 _ (List.mem_of_getElem? (i := 10) rfl)
theorem cM_copy_18 : zCode 156 18 = some (.iload_n 1, 19, 0, 0, 0, 0, 15) := cAM_copy_0 _ (List.mem_of_getElem? (i := 11) rfl)
theorem cM_copy_19 : zCode 156 19 = some (.imul, 20, 0, 0, 0, 0, 15) := cAM_copy_0 _ (List.mem_of_getElem? (i := 12) rfl)
theorem cM_copy_20 : zCode 156 20 = some (.iload_n 3, 21, 0, 0, 0, 0, 15) := cAM_copy_0 _ (List.mem_of_getElem? (i := 13) rfl)
theorem cM_copy_21 : zCode 156 21 = some (.iadd, 22, 0, 0, 0, 0, 15) := cAM_copy_0 _ (List.mem_of_getElem? (i := 14) rfl)
theorem cM_copy_22 : zCode 156 22 = some (.aload_n 0, 23, 0, 0, 0, 0, 15) := cAM_copy_0 _ (List.mem_of_getElem? (i := 15) rfl)
theorem cM_copy_23 : zCode 156 23 = some (.getfield 23, 26, 12, 4, 2, 1213, 15) := cAM_copy_1 _ (List.mem_of_getElem? (i := 0) rfl)
theorem cM_copy_26 : zCode 156 26 = some (.bipush 64, 28, 0, 0, 0, 0, 15) := cAM_copy_1 _ (List.mem_of_getElem? (i := 1) rfl)
theorem cM_copy_28 : zCode 156 28 = some (.iload_n 2, 29, 0, 0, 0, 0, 15) := cAM_copy_1 _ (List.mem_of_getElem? (i := 2) rfl)
theorem cM_copy_29 : zCode 156 29 = some (.imul, 30, 0, 0, 0, 0, 15) := cAM_copy_1 _ (List.mem_of_getElem? (i := 3) rfl)
theorem cM_copy_30 : zCode 156 30 = some (.iload_n 3, 31, 0, 0, 0, 0, 15) := cAM_copy_1 _ (List.mem_of_getElem? (i := 4) rfl)
theorem cM_copy_31 : zCode 156 31 = some (.iadd, 32, 0, 0, 0, 0, 15) := cAM_copy_1 _ (List.mem_of_getElem? (i := 5) rfl)
theorem cM_copy_32 : zCode 156 32 = some (.laload, 33, 0, 0, 0, 0, 15) := cAM_copy_1 _ (List.mem_of_getElem? (i := 6) rfl)
theorem cM_copy_33 : zCode 156 33 = some (.lastore, 34, 0, 0, 0, 0, 15) := cAM_copy_1 _ (List.mem_of_getElem? (i := 7) rfl)
theorem cM_copy_34 : zCode 156 34 = some (.iinc 3 1, 37, 0, 0, 0, 0, 15) := cAM_copy_1 _ (List.mem_of_getElem? (i := 8) rfl)
theorem cM_copy_37 : zCode 156 37 = some (.goto (-35), 40, 2, 0, 0, 0, 15) := cAM_copy_1 _ (List.mem_of_getElem? (i := 9) rfl)
theorem cM_copy_40 : zCode 156 40 = some (.aload_n 0, 41, 0, 0, 0, 0, 7) := cAM_copy_1 _ (List.mem_of_getElem? (i := 10) rfl)
theorem cM_copy_41 : zCode 156 41 = some (.getfield 27, 44, 12, 5, 2, 1214, 7) := cAM_copy_1 _ (List.mem_of_getElem? (i := 11) rfl)
theorem cM_copy_44 : zCode 156 44 = some (.iload_n 1, 45, 0, 0, 0, 0, 7) := cAM_copy_1 _ (List.mem_of_getElem? (i := 12) rfl)
theorem cM_copy_45 : zCode 156 45 = some (.aload_n 0, 46, 0, 0, 0, 0, 5) := cAM_copy_1 _ (List.mem_of_getElem? (i := 13) rfl)
theorem cM_copy_46 : zCode 156 46 = some (.getfield 27, 49, 12, 5, 2, 1214, 4) := cAM_copy_1 _ (List.mem_of_getElem? (i := 14) rfl)
theorem cM_copy_49 : zCode 156 49 = some (.iload_n 2, 50, 0, 0, 0, 0, 4) := cAM_copy_1 _ (List.mem_of_getElem? (i := 15) rfl)
theorem cM_copy_50 : zCode 156 50 = some (.iaload, 51, 0, 0, 0, 0, 0) := cAM_copy_2 _ (List.mem_of_getElem? (i := 0) rfl)
theorem cM_copy_51 : zCode 156 51 = some (.iastore, 52, 0, 0, 0, 0, 0) := cAM_copy_2 _ (List.mem_of_getElem? (i := 1) rfl)
theorem cM_copy_52 : zCode 156 52 = some (.return_, 53, 0, 0, 0, 0, 0) := cAM_copy_2 _ (List.mem_of_getElem? (i := 2) rfl)
theorem rM_copy_0 {a0 : Nat} {a1 a2 : Int} {u3 : zV} : zS 156 0 [zR a0, zI a1, zI a2, u3] [] sh pp mm Q ↔ zS 156 1 [zR a0, zI a1, zI a2, zU] [zI 0] sh pp mm Q := s_go cM_copy_0 cM_copy_1 rfl rfl
theorem rM_copy_1 {a0 : Nat} {a1 a2 s0 : Int} {u3 : zV} : zS 156 1 [zR a0, zI a1, zI a2, u3] [zI s0] sh pp mm Q ↔ zS 156 2 [zR a0, zI a1, zI a2, zI s0] [] sh pp mm Q := s_go cM_copy_1 cM_copy_2 rfl rfl
theorem rM_copy_2 {a0 : Nat} {a1 a2 a3 : Int} : zS 156 2 [zR a0, zI a1, zI a2, zI a3] [] sh pp mm Q ↔ zS 156 3 [zR a0, zI a1, zI a2, zI a3] [zI a3] sh pp mm Q := s_go cM_copy_2 cM_copy_3 rfl rfl
theorem rM_copy_3 {a0 : Nat} {a1 a2 a3 s0 : Int} : zS 156 3 [zR a0, zI a1, zI a2, zI a3] [zI s0] sh pp mm Q ↔ zS 156 4 [zR a0, zI a1, zI a2, zI a3] [zR a0, zI s0] sh pp mm Q := s_go cM_copy_3 cM_copy_4 rfl rfl
theorem rM_copy_4 {a0 s0 : Nat} {a1 a2 a3 s1 : Int} (hk : zKd sh s0 = 12) : zS 156 4 [zR a0, zI a1, zI a2, zI a3] [zR s0, zI s1] sh pp mm Q ↔ zS 156 7 [zR a0, zI a1, zI a2, zI a3] [zR (pp s0 5), zI s1] sh pp mm Q := s_go cM_copy_4 cM_copy_7 (if_pos hk) rfl
theorem rM_copy_7 {a0 s0 : Nat} {a1 a2 a3 s1 : Int} : zS 156 7 [zR a0, zI a1, zI a2, zI a3] [zR s0, zI s1] sh pp mm Q ↔ zS 156 8 [zR a0, zI a1, zI a2, zI a3] [zI a2, zR s0, zI s1] sh pp mm Q := s_go cM_copy_7 cM_copy_8 rfl rfl
theorem rM_copy_8 {a0 s1 : Nat} {a1 a2 a3 s0 s2 : Int} (hk : zKd sh s1 = 20 ∨ zKd sh s1 = 30) (h0 : 0 ≤ s0) (h1 : s0 < zLn sh s1) : zS 156 8 [zR a0, zI a1, zI a2, zI a3] [zI s0, zR s1, zI s2] sh pp mm Q ↔ zS 156 9 [zR a0, zI a1, zI a2, zI a3] [zI (mm s1 s0), zI s2] sh pp mm Q := s_go cM_copy_8 cM_copy_9 (if_pos ⟨hk, h0, h1⟩) rfl
theorem rM_copy_9 {a0 : Nat} {a1 a2 a3 s0 s1 : Int} : zS 156 9 [zR a0, zI a1, zI a2, zI a3] [zI s0, zI s1] sh pp mm Q ↔ (s1 < s0 → zS 156 12 [zR a0, zI a1, zI a2, zI a3] [] sh pp mm Q) ∧ (¬ s1 < s0 → zS 156 40 [zR a0, zI a1, zI a2, zU] [] sh pp mm Q) := s_ifn cM_copy_9 cM_copy_12 cM_copy_40 rfl rfl rfl
theorem rM_copy_12 {a0 : Nat} {a1 a2 a3 : Int} : zS 156 12 [zR a0, zI a1, zI a2, zI a3] [] sh pp mm Q ↔ zS 156 13 [zR a0, zI a1, zI a2, zI a3] [zR a0] sh pp mm Q := s_go cM_copy_12 cM_copy_13 rfl rfl
theorem rM_copy_13 {a0 s0 : Nat} {a1 a2 a3 : Int} (hk : zKd sh s0 = 12) : zS 156 13 [zR a0, zI a1, zI a2, zI a3] [zR s0] sh pp mm Q ↔ zS 156 16 [zR a0, zI a1, zI a2, zI a3] [zR (pp s0 4)] sh pp mm Q := s_go cM_copy_13 cM_copy_16 (if_pos hk) rfl
theorem rM_copy_16 {a0 s0 : Nat} {a1 a2 a3 : Int} : zS 156 16 [zR a0, zI a1, zI a2, zI a3] [zR s0] sh pp mm Q ↔ zS 156 18 [zR a0, zI a1, zI a2, zI a3] [zI 64, zR s0] sh pp mm Q := s_go cM_copy_16 cM_copy_18 rfl rfl
theorem rM_copy_18 {a0 s1 : Nat} {a1 a2 a3 s0 : Int} : zS 156 18 [zR a0, zI a1, zI a2, zI a3] [zI s0, zR s1] sh pp mm Q ↔ zS 156 19 [zR a0, zI a1, zI a2, zI a3] [zI a1, zI s0, zR s1] sh pp mm Q := s_go cM_copy_18 cM_copy_19 rfl rfl
theorem rM_copy_19 {a0 s2 : Nat} {a1 a2 a3 s0 s1 : Int} : zS 156 19 [zR a0, zI a1, zI a2, zI a3] [zI s0, zI s1, zR s2] sh pp mm Q ↔ zS 156 20 [zR a0, zI a1, zI a2, zI a3] [zI (zw32 (s1 * s0)), zR s2] sh pp mm Q := s_go cM_copy_19 cM_copy_20 rfl rfl
theorem rM_copy_20 {a0 s1 : Nat} {a1 a2 a3 s0 : Int} : zS 156 20 [zR a0, zI a1, zI a2, zI a3] [zI s0, zR s1] sh pp mm Q ↔ zS 156 21 [zR a0, zI a1, zI a2, zI a3] [zI a3, zI s0, zR s1] sh pp mm Q := s_go cM_copy_20 cM_copy_21 rfl rfl
theorem rM_copy_21 {a0 s2 : Nat} {a1 a2 a3 s0 s1 : Int} : zS 156 21 [zR a0, zI a1, zI a2, zI a3] [zI s0, zI s1, zR s2] sh pp mm Q ↔ zS 156 22 [zR a0, zI a1, zI a2, zI a3] [zI (zw32 (s1 + s0)), zR s2] sh pp mm Q := s_go cM_copy_21 cM_copy_22 rfl rfl
theorem rM_copy_22 {a0 s1 : Nat} {a1 a2 a3 s0 : Int} : zS 156 22 [zR a0, zI a1, zI a2, zI a3] [zI s0, zR s1] sh pp mm Q ↔ zS 156 23 [zR a0, zI a1, zI a2, zI a3] [zR a0, zI s0, zR s1] sh pp mm Q := s_go cM_copy_22 cM_copy_23 rfl rfl
theorem rM_copy_23 {a0 s0 s2 : Nat} {a1 a2 a3 s1 : Int} (hk : zKd sh s0 = 12) : zS 156 23 [zR a0, zI a1, zI a2, zI a3] [zR s0, zI s1, zR s2] sh pp mm Q ↔ zS 156 26 [zR a0, zI a1, zI a2, zI a3] [zR (pp s0 4), zI s1, zR s2] sh pp mm Q := s_go cM_copy_23 cM_copy_26 (if_pos hk) rfl
theorem rM_copy_26 {a0 s0 s2 : Nat} {a1 a2 a3 s1 : Int} : zS 156 26 [zR a0, zI a1, zI a2, zI a3] [zR s0, zI s1, zR s2] sh pp mm Q ↔ zS 156 28 [zR a0, zI a1, zI a2, zI a3] [zI 64, zR s0, zI s1, zR s2] sh pp mm Q := s_go cM_copy_26 cM_copy_28 rfl rfl
theorem rM_copy_28 {a0 s1 s3 : Nat} {a1 a2 a3 s0 s2 : Int} : zS 156 28 [zR a0, zI a1, zI a2, zI a3] [zI s0, zR s1, zI s2, zR s3] sh pp mm Q ↔ zS 156 29 [zR a0, zI a1, zI a2, zI a3] [zI a2, zI s0, zR s1, zI s2, zR s3] sh pp mm Q := s_go cM_copy_28 cM_copy_29 rfl rfl
theorem rM_copy_29 {a0 s2 s4 : Nat} {a1 a2 a3 s0 s1 s3 : Int} : zS 156 29 [zR a0, zI a1, zI a2, zI a3] [zI s0, zI s1, zR s2, zI s3, zR s4] sh pp mm Q ↔ zS 156 30 [zR a0, zI a1, zI a2, zI a3] [zI (zw32 (s1 * s0)), zR s2, zI s3, zR s4] sh pp mm Q := s_go cM_copy_29 cM_copy_30 rfl rfl
theorem rM_copy_30 {a0 s1 s3 : Nat} {a1 a2 a3 s0 s2 : Int} : zS 156 30 [zR a0, zI a1, zI a2, zI a3] [zI s0, zR s1, zI s2, zR s3] sh pp mm Q ↔ zS 156 31 [zR a0, zI a1, zI a2, zI a3] [zI a3, zI s0, zR s1, zI s2, zR s3] sh pp mm Q := s_go cM_copy_30 cM_copy_31 rfl rfl
theorem rM_copy_31 {a0 s2 s4 : Nat} {a1 a2 a3 s0 s1 s3 : Int} : zS 156 31 [zR a0, zI a1, zI a2, zI a3] [zI s0, zI s1, zR s2, zI s3, zR s4] sh pp mm Q ↔ zS 156 32 [zR a0, zI a1, zI a2, zI a3] [zI (zw32 (s1 + s0)), zR s2, zI s3, zR s4] sh pp mm Q := s_go cM_copy_31 cM_copy_32 rfl rfl
theorem rM_copy_32 {a0 s1 s3 : Nat} {a1 a2 a3 s0 s2 : Int} (hk : zKd sh s1 = 21) (h0 : 0 ≤ s0) (h1 : s0 < zLn sh s1) : zS 156 32 [zR a0, zI a1, zI a2, zI a3] [zI s0, zR s1, zI s2, zR s3] sh pp mm Q ↔ zS 156 33 [zR a0, zI a1, zI a2, zI a3] [zL (mm s1 s0), zI s2, zR s3] sh pp mm Q := s_go cM_copy_32 cM_copy_33 (if_pos ⟨hk, h0, h1⟩) rfl
theorem rM_copy_33 {a0 s2 : Nat} {a1 a2 a3 s0 s1 : Int} (hk : zKd sh s2 = 21) (h0 : 0 ≤ s1) (h1 : s1 < zLn sh s2) : zS 156 33 [zR a0, zI a1, zI a2, zI a3] [zL s0, zI s1, zR s2] sh pp mm Q ↔ zS 156 34 [zR a0, zI a1, zI a2, zI a3] [] sh pp (zupd mm s2 s1 s0) Q := s_go cM_copy_33 cM_copy_34 (if_pos ⟨hk, h0, h1⟩) rfl
theorem rM_copy_34 {a0 : Nat} {a1 a2 a3 : Int} : zS 156 34 [zR a0, zI a1, zI a2, zI a3] [] sh pp mm Q ↔ zS 156 37 [zR a0, zI a1, zI a2, zI (zw32 (a3 + 1))] [] sh pp mm Q := s_go cM_copy_34 cM_copy_37 rfl rfl
theorem rM_copy_37 {a0 : Nat} {a1 a2 a3 : Int} : zS 156 37 [zR a0, zI a1, zI a2, zI a3] [] sh pp mm Q ↔ zS 156 2 [zR a0, zI a1, zI a2, zI a3] [] sh pp mm Q := s_go cM_copy_37 cM_copy_2 rfl rfl
theorem rM_copy_40 {a0 : Nat} {a1 a2 : Int} {u3 : zV} : zS 156 40 [zR a0, zI a1, zI a2, u3] [] sh pp mm Q ↔ zS 156 41 [zR a0, zI a1, zI a2, zU] [zR a0] sh pp mm Q := s_go cM_copy_40 cM_copy_41 rfl rfl
theorem rM_copy_41 {a0 s0 : Nat} {a1 a2 : Int} {u3 : zV} (hk : zKd sh s0 = 12) : zS 156 41 [zR a0, zI a1, zI a2, u3] [zR s0] sh pp mm Q ↔ zS 156 44 [zR a0, zI a1, zI a2, zU] [zR (pp s0 5)] sh pp mm Q := s_go cM_copy_41 cM_copy_44 (if_pos hk) rfl
theorem rM_copy_44 {a0 s0 : Nat} {a1 a2 : Int} {u3 : zV} : zS 156 44 [zR a0, zI a1, zI a2, u3] [zR s0] sh pp mm Q ↔ zS 156 45 [zR a0, zU, zI a2, zU] [zI a1, zR s0] sh pp mm Q := s_go cM_copy_44 cM_copy_45 rfl rfl
theorem rM_copy_45 {a0 s1 : Nat} {a2 s0 : Int} {u1 u3 : zV} : zS 156 45 [zR a0, u1, zI a2, u3] [zI s0, zR s1] sh pp mm Q ↔ zS 156 46 [zU, zU, zI a2, zU] [zR a0, zI s0, zR s1] sh pp mm Q := s_go cM_copy_45 cM_copy_46 rfl rfl
theorem rM_copy_46 {s0 s2 : Nat} {a2 s1 : Int} {u0 u1 u3 : zV} (hk : zKd sh s0 = 12) : zS 156 46 [u0, u1, zI a2, u3] [zR s0, zI s1, zR s2] sh pp mm Q ↔ zS 156 49 [zU, zU, zI a2, zU] [zR (pp s0 5), zI s1, zR s2] sh pp mm Q := s_go cM_copy_46 cM_copy_49 (if_pos hk) rfl
theorem rM_copy_49 {s0 s2 : Nat} {a2 s1 : Int} {u0 u1 u3 : zV} : zS 156 49 [u0, u1, zI a2, u3] [zR s0, zI s1, zR s2] sh pp mm Q ↔ zS 156 50 [zU, zU, zU, zU] [zI a2, zR s0, zI s1, zR s2] sh pp mm Q := s_go cM_copy_49 cM_copy_50 rfl rfl
theorem rM_copy_50 {s1 s3 : Nat} {s0 s2 : Int} {u0 u1 u2 u3 : zV} (hk : zKd sh s1 = 20 ∨ zKd sh s1 = 30) (h0 : 0 ≤ s0) (h1 : s0 < zLn sh s1) : zS 156 50 [u0, u1, u2, u3] [zI s0, zR s1, zI s2, zR s3] sh pp mm Q ↔ zS 156 51 [zU, zU, zU, zU] [zI (mm s1 s0), zI s2, zR s3] sh pp mm Q := s_go cM_copy_50 cM_copy_51 (if_pos ⟨hk, h0, h1⟩) rfl
theorem rM_copy_51 {s2 : Nat} {s0 s1 : Int} {u0 u1 u2 u3 : zV} (hk : zKd sh s2 = 20) (h0 : 0 ≤ s1) (h1 : s1 < zLn sh s2) : zS 156 51 [u0, u1, u2, u3] [zI s0, zI s1, zR s2] sh pp mm Q ↔ zS 156 52 [zU, zU, zU, zU] [] sh pp (zupd mm s2 s1 s0) Q := s_go cM_copy_51 cM_copy_52 (if_pos ⟨hk, h0, h1, fun h => absurd h (by decide)⟩) rfl
theorem rM_copy_52 {u0 u1 u2 u3 : zV} : zS 156 52 [u0, u1, u2, u3] [] sh pp mm Q ↔ Q zU sh pp mm := s_ret cM_copy_52 rfl
theorem cAM_trim : ∀ q ∈ zT157, zCode 157 q.1 = some q.2 := zAll (mid := 157) rfl (by decide +kernel)
theorem cAM_trim_0 : ∀ q ∈ zT157_0, zCode 157 q.1 = some q.2 := fun q h => cAM_trim q (List.mem_append_left _ h)
theorem cAM_trim_1 : ∀ q ∈ zT157_1, zCode 157 q.1 = some q.2 := fun q h => cAM_trim q (List.mem_append_right _ h)
theorem cM_trim_0 : zCode 157 0 = some (.aload_n 0, 1, 0, 0, 0, 0, 3) := cAM_trim_0 _ (List.mem_of_getElem? (i := 0) rfl)
theorem cM_trim_1 : zCode 157 1 = some (.getfield 27, 4, 12, 5, 2, 1214, 3) := cAM_trim_0 _ (List.mem_of_getElem? (i := 1) rfl)
theorem cM_trim_4 : zCode 157 4 = some (.iload_n 1, 5, 0, 0, 0, 0, 3) := cAM_trim_0 _ (List.mem_of_getElem? (i := 2) rfl)
theorem cM_trim_5 : zCode 157 5 = some (.iaload, 6, 0, 0, 0, 0, 3) := cAM_trim_0 _ (List.mem_of_getElem? (i := 3) rfl)
theorem cM_trim_6 : zCode 157 6 = some (.ifCond .le 39, 9, 45, 0, 0, 0, 3) := cAM_trim_0 _ (List.mem_of_getElem? (i := 4) rfl)
theorem cM_trim_9 : zCode 157 9 = some (.aload_n 0, 10, 0, 0, 0, 0, 3) := cAM_trim_0 _ (List.mem_of_getElem? (i := 5) rfl)
theorem cM_trim_10 : zCode 157 10 = some (.getfield 23, 13, 12, 4, 2, 1213, 3) := cAM_trim_0 _ (List.mem_of_getElem? (i := 6) rfl)
theorem cM_trim_13 : zCode 157 13 = some (.bipush 64, 15, 0, 0, 0, 0, 3) := cAM_trim_0 _ (List.mem_of_getElem? (i := 7) rfl)
theorem cM_trim_15 : zCode 157 15 = some (.iload_n 1, 16, 0, 0, 0, 0, 3) := cAM_trim_0 _ (List.mem_of_getElem? (i := 8) rfl)
theorem cM_trim_16 : zCode 157 16 = some (.imul, 17, 0, 0, 0, 0, 3) := cAM_trim_0 _ (List.mem_of_getElem? (i := 9) rfl)
theorem cM_trim_17 : zCode 157 17 = some (.aload_n 0, 18, 0, 0, 0, 0, 3) := cAM_trim_0 _ (List.mem_of_getElem? (i := 10) rfl)
theorem cM_trim_18 : zCode 157 18 = some (.getfield 27, 21, 12, 5, 2, 1214, 3) := cAM_trim_0 _ (List.mem_of_getElem? (i := 11) rfl)
theorem cM_trim_21 : zCode 157 21 = some (.iload_n 1, 22, 0, 0, 0, 0, 3) := cAM_trim_0 _ (List.mem_of_getElem? (i := 12) rfl)
theorem cM_trim_22 : zCode 157 22 = some (.iaload, 23, 0, 0, 0, 0, 3) := cAM_trim_0 _ (List.mem_of_getElem? (i := 13) rfl)
theorem cM_trim_23 : zCode 157 23 = some (.iadd, 24, 0, 0, 0, 0, 3) := cAM_trim_0 _ (List.mem_of_getElem? (i := 14) rfl)
theorem cM_trim_24 : zCode 157 24 = some (.iconst 1, 25, 0, 0, 0, 0, 3) := cAM_trim_0 _ (List.mem_of_getElem? (i := 15) rfl)
theorem cM_trim_25 : zCode 157 25 = some (.isub, 26, 0, 0, 0, 0, 3) := cAM_trim_1 _ (List.mem_of_getElem? (i := 0) rfl)
theorem cM_trim_26 : zCode 157 26 = some (.laload, 27, 0, 0, 0, 0, 3) := cAM_trim_1 _ (List.mem_of_getElem? (i := 1) rfl)
theorem cM_trim_27 : zCode 157 27 = some (.lconst 0, 28, 0, 0, 0, 0, 3) := cAM_trim_1 _ (List.mem_of_getElem? (i := 2) rfl)
theorem cM_trim_28 : zCode 157 28 = some (.lcmp, 29, 0, 0, 0, 0, 3) := cAM_trim_1 _ (List.mem_of_getElem? (i := 3) rfl)
theorem cM_trim_29 : zCode 157 29 = some (.ifCond .ne 16, 32, 45, 0, 0, 0, 3) := cAM_trim_1 _ (List.mem_of_getElem? (i := 4) rfl)
theorem cM_trim_32 : zCode 157 32 = some (.aload_n 0, 33, 0, 0, 0, 0, 3) := cAM_trim_1 _ (List.mem_of_getElem? (i := 5) rfl)
theorem cM_trim_33 : zCode 157 33 = some (.getfield 27, 36, 12, 5, 2, 1214, 3) := cAM_trim_1 _ (List.mem_of_getElem? (i := 6) rfl)
theorem cM_trim_36 : zCode 157 36 = some (.iload_n 1, 37, 0, 0, 0, 0, 3) := cAM_trim_1 _ (List.mem_of_getElem? (i := 7) rfl)
theorem cM_trim_37 : zCode 157 37 = some (.dup2, 38, 0, 0, 0, 0, 3) := cAM_trim_1 _ (List.mem_of_getElem? (i := 8) rfl)
theorem cM_trim_38 : zCode 157 38 = some (.iaload, 39, 0, 0, 0, 0, 3) := cAM_trim_1 _ (List.mem_of_getElem? (i := 9) rfl)
theorem cM_trim_39 : zCode 157 39 = some (.iconst 1, 40, 0, 0, 0, 0, 3) := cAM_trim_1 _ (List.mem_of_getElem? (i := 10) rfl)
theorem cM_trim_40 : zCode 157 40 = some (.isub, 41, 0, 0, 0, 0, 3) := cAM_trim_1 _ (List.mem_of_getElem? (i := 11) rfl)
theorem cM_trim_41 : zCode 157 41 = some (.iastore, 42, 0, 0, 0, 0, 3) := cAM_trim_1 _ (List.mem_of_getElem? (i := 12) rfl)
theorem cM_trim_42 : zCode 157 42 = some (.goto (-42), 45, 0, 0, 0, 0, 3) := cAM_trim_1 _ (List.mem_of_getElem? (i := 13) rfl)
theorem cM_trim_45 : zCode 157 45 = some (.return_, 46, 0, 0, 0, 0, 0) := cAM_trim_1 _ (List.mem_of_getElem? (i := 14) rfl)
theorem rM_trim_0 {a0 : Nat} {a1 : Int} : zS 157 0 [zR a0, zI a1] [] sh pp mm Q ↔ zS 157 1 [zR a0, zI a1] [zR a0] sh pp mm Q := s_go cM_trim_0 cM_trim_1 rfl rfl
theorem rM_trim_1 {a0 s0 : Nat} {a1 : Int} (hk : zKd sh s0 = 12) : zS 157 1 [zR a0, zI a1] [zR s0] sh pp mm Q ↔ zS 157 4 [zR a0, zI a1] [zR (pp s0 5)] sh pp mm Q := s_go cM_trim_1 cM_trim_4 (if_pos hk) rfl
theorem rM_trim_4 {a0 s0 : Nat} {a1 : Int} : zS 157 4 [zR a0, zI a1] [zR s0] sh pp mm Q ↔ zS 157 5 [zR a0, zI a1] [zI a1, zR s0] sh pp mm Q := s_go cM_trim_4 cM_trim_5 rfl rfl
theorem rM_trim_5 {a0 s1 : Nat} {a1 s0 : Int} (hk : zKd sh s1 = 20 ∨ zKd sh s1 = 30) (h0 : 0 ≤ s0) (h1 : s0 < zLn sh s1) : zS 157 5 [zR a0, zI a1] [zI s0, zR s1] sh pp mm Q ↔ zS 157 6 [zR a0, zI a1] [zI (mm s1 s0)] sh pp mm Q := s_go cM_trim_5 cM_trim_6 (if_pos ⟨hk, h0, h1⟩) rfl
theorem rM_trim_6 {a0 : Nat} {a1 s0 : Int} : zS 157 6 [zR a0, zI a1] [zI s0] sh pp mm Q ↔ (0 < s0 → zS 157 9 [zR a0, zI a1] [] sh pp mm Q) ∧ (¬ 0 < s0 → zS 157 45 [zU, zU] [] sh pp mm Q) := s_ifn cM_trim_6 cM_trim_9 cM_trim_45 rfl rfl rfl
theorem rM_trim_9 {a0 : Nat} {a1 : Int} : zS 157 9 [zR a0, zI a1] [] sh pp mm Q ↔ zS 157 10 [zR a0, zI a1] [zR a0] sh pp mm Q := s_go cM_trim_9 cM_trim_10 rfl rfl
theorem rM_trim_10 {a0 s0 : Nat} {a1 : Int} (hk : zKd sh s0 = 12) : zS 157 10 [zR a0, zI a1] [zR s0] sh pp mm Q ↔ zS 157 13 [zR a0, zI a1] [zR (pp s0 4)] sh pp mm Q := s_go cM_trim_10 cM_trim_13 (if_pos hk) rfl
theorem rM_trim_13 {a0 s0 : Nat} {a1 : Int} : zS 157 13 [zR a0, zI a1] [zR s0] sh pp mm Q ↔ zS 157 15 [zR a0, zI a1] [zI 64, zR s0] sh pp mm Q := s_go cM_trim_13 cM_trim_15 rfl rfl
theorem rM_trim_15 {a0 s1 : Nat} {a1 s0 : Int} : zS 157 15 [zR a0, zI a1] [zI s0, zR s1] sh pp mm Q ↔ zS 157 16 [zR a0, zI a1] [zI a1, zI s0, zR s1] sh pp mm Q := s_go cM_trim_15 cM_trim_16 rfl rfl
theorem rM_trim_16 {a0 s2 : Nat} {a1 s0 s1 : Int} : zS 157 16 [zR a0, zI a1] [zI s0, zI s1, zR s2] sh pp mm Q ↔ zS 157 17 [zR a0, zI a1] [zI (zw32 (s1 * s0)), zR s2] sh pp mm Q := s_go cM_trim_16 cM_trim_17 rfl rfl
theorem rM_trim_17 {a0 s1 : Nat} {a1 s0 : Int} : zS 157 17 [zR a0, zI a1] [zI s0, zR s1] sh pp mm Q ↔ zS 157 18 [zR a0, zI a1] [zR a0, zI s0, zR s1] sh pp mm Q := s_go cM_trim_17 cM_trim_18 rfl rfl
theorem rM_trim_18 {a0 s0 s2 : Nat} {a1 s1 : Int} (hk : zKd sh s0 = 12) : zS 157 18 [zR a0, zI a1] [zR s0, zI s1, zR s2] sh pp mm Q ↔ zS 157 21 [zR a0, zI a1] [zR (pp s0 5), zI s1, zR s2] sh pp mm Q := s_go cM_trim_18 cM_trim_21 (if_pos hk) rfl
theorem rM_trim_21 {a0 s0 s2 : Nat} {a1 s1 : Int} : zS 157 21 [zR a0, zI a1] [zR s0, zI s1, zR s2] sh pp mm Q ↔ zS 157 22 [zR a0, zI a1] [zI a1, zR s0, zI s1, zR s2] sh pp mm Q := s_go cM_trim_21 cM_trim_22 rfl rfl
theorem rM_trim_22 {a0 s1 s3 : Nat} {a1 s0 s2 : Int} (hk : zKd sh s1 = 20 ∨ zKd sh s1 = 30) (h0 : 0 ≤ s0) (h1 : s0 < zLn sh s1) : zS 157 22 [zR a0, zI a1] [zI s0, zR s1, zI s2, zR s3] sh pp mm Q ↔ zS 157 23 [zR a0, zI a1] [zI (mm s1 s0), zI s2, zR s3] sh pp mm Q := s_go cM_trim_22 cM_trim_23 (if_pos ⟨hk, h0, h1⟩) rfl
theorem rM_trim_23 {a0 s2 : Nat} {a1 s0 s1 : Int} : zS 157 23 [zR a0, zI a1] [zI s0, zI s1, zR s2] sh pp mm Q ↔ zS 157 24 [zR a0, zI a1] [zI (zw32 (s1 + s0)), zR s2] sh pp mm Q := s_go cM_trim_23 cM_trim_24 rfl rfl
theorem rM_trim_24 {a0 s1 : Nat} {a1 s0 : Int} : zS 157 24 [zR a0, zI a1] [zI s0, zR s1] sh pp mm Q ↔ zS 157 25 [zR a0, zI a1] [zI 1, zI s0, zR s1] sh pp mm Q := s_go cM_trim_24 cM_trim_25 rfl rfl
theorem rM_trim_25 {a0 s2 : Nat} {a1 s0 s1 : Int} : zS 157 25 [zR a0, zI a1] [zI s0, zI s1, zR s2] sh pp mm Q ↔ zS 157 26 [zR a0, zI a1] [zI (zw32 (s1 - s0)), zR s2] sh pp mm Q := s_go cM_trim_25 cM_trim_26 rfl rfl
theorem rM_trim_26 {a0 s1 : Nat} {a1 s0 : Int} (hk : zKd sh s1 = 21) (h0 : 0 ≤ s0) (h1 : s0 < zLn sh s1) : zS 157 26 [zR a0, zI a1] [zI s0, zR s1] sh pp mm Q ↔ zS 157 27 [zR a0, zI a1] [zL (mm s1 s0)] sh pp mm Q := s_go cM_trim_26 cM_trim_27 (if_pos ⟨hk, h0, h1⟩) rfl
theorem rM_trim_27 {a0 : Nat} {a1 s0 : Int} : zS 157 27 [zR a0, zI a1] [zL s0] sh pp mm Q ↔ zS 157 28 [zR a0, zI a1] [zL 0, zL s0] sh pp mm Q := s_go cM_trim_27 cM_trim_28 rfl rfl
theorem rM_trim_28 {a0 : Nat} {a1 s0 s1 : Int} : zS 157 28 [zR a0, zI a1] [zL s0, zL s1] sh pp mm Q ↔ zS 157 29 [zR a0, zI a1] [zI (zcmp s1 s0)] sh pp mm Q := s_go cM_trim_28 cM_trim_29 rfl rfl
theorem rM_trim_29 {a0 : Nat} {a1 s0 : Int} : zS 157 29 [zR a0, zI a1] [zI s0] sh pp mm Q ↔ (s0 = 0 → zS 157 32 [zR a0, zI a1] [] sh pp mm Q) ∧ (¬ s0 = 0 → zS 157 45 [zU, zU] [] sh pp mm Q) := s_ifn cM_trim_29 cM_trim_32 cM_trim_45 rfl rfl rfl
theorem rM_trim_32 {a0 : Nat} {a1 : Int} : zS 157 32 [zR a0, zI a1] [] sh pp mm Q ↔ zS 157 33 [zR a0, zI a1] [zR a0] sh pp mm Q := s_go cM_trim_32 cM_trim_33 rfl rfl
theorem rM_trim_33 {a0 s0 : Nat} {a1 : Int} (hk : zKd sh s0 = 12) : zS 157 33 [zR a0, zI a1] [zR s0] sh pp mm Q ↔ zS 157 36 [zR a0, zI a1] [zR (pp s0 5)] sh pp mm Q := s_go cM_trim_33 cM_trim_36 (if_pos hk) rfl
theorem rM_trim_36 {a0 s0 : Nat} {a1 : Int} : zS 157 36 [zR a0, zI a1] [zR s0] sh pp mm Q ↔ zS 157 37 [zR a0, zI a1] [zI a1, zR s0] sh pp mm Q := s_go cM_trim_36 cM_trim_37 rfl rfl
theorem rM_trim_37 {a0 s1 : Nat} {a1 s0 : Int} : zS 157 37 [zR a0, zI a1] [zI s0, zR s1] sh pp mm Q ↔ zS 157 38 [zR a0, zI a1] [zI s0, zR s1, zI s0, zR s1] sh pp mm Q := s_go cM_trim_37 cM_trim_38 rfl rfl
theorem rM_trim_38 {a0 s1 s3 : Nat} {a1 s0 s2 : Int} (hk : zKd sh s1 = 20 ∨ zKd sh s1 = 30) (h0 : 0 ≤ s0) (h1 : s0 < zLn sh s1) : zS 157 38 [zR a0, zI a1] [zI s0, zR s1, zI s2, zR s3] sh pp mm Q ↔ zS 157 39 [zR a0, zI a1] [zI (mm s1 s0), zI s2, zR s3] sh pp mm Q := s_go cM_trim_38 cM_trim_39 (if_pos ⟨hk, h0, h1⟩) rfl
theorem rM_trim_39 {a0 s2 : Nat} {a1 s0 s1 : Int} : zS 157 39 [zR a0, zI a1] [zI s0, zI s1, zR s2] sh pp mm Q ↔ zS 157 40 [zR a0, zI a1] [zI 1, zI s0, zI s1, zR s2] sh pp mm Q := s_go cM_trim_39 cM_trim_40 rfl rfl
theorem rM_trim_40 {a0 s3 : Nat} {a1 s0 s1 s2 : Int} : zS 157 40 [zR a0, zI a1] [zI s0, zI s1, zI s2, zR s3] sh pp mm Q ↔ zS 157 41 [zR a0, zI a1] [zI (zw32 (s1 - s0)), zI s2, zR s3] sh pp mm Q := s_go cM_trim_40 cM_trim_41 rfl rfl
theorem rM_trim_41 {a0 s2 : Nat} {a1 s0 s1 : Int} (hk : zKd sh s2 = 20) (h0 : 0 ≤ s1) (h1 : s1 < zLn sh s2) : zS 157 41 [zR a0, zI a1] [zI s0, zI s1, zR s2] sh pp mm Q ↔ zS 157 42 [zR a0, zI a1] [] sh pp (zupd mm s2 s1 s0) Q := s_go cM_trim_41 cM_trim_42 (if_pos ⟨hk, h0, h1, fun h => absurd h (by decide)⟩) rfl
theorem rM_trim_42 {a0 : Nat} {a1 : Int} : zS 157 42 [zR a0, zI a1] [] sh pp mm Q ↔ zS 157 0 [zR a0, zI a1] [] sh pp mm Q := s_go cM_trim_42 cM_trim_0 rfl rfl
theorem rM_trim_45 {u0 u1 : zV} : zS 157 45 [u0, u1] [] sh pp mm Q ↔ Q zU sh pp mm := s_ret cM_trim_45 rfl
theorem cAM_times : ∀ q ∈ zT158, zCode 158 q.1 = some q.2 := zAll (mid := 158) rfl (by decide +kernel)
theorem cAM_times_0 : ∀ q ∈ zT158_0, zCode 158 q.1 = some q.2 := fun q h => cAM_times q (List.mem_append_left _ h)
theorem cAM_times_1 : ∀ q ∈ zT158_1, zCode 158 q.1 = some q.2 := fun q h => cAM_times q (List.mem_append_right _ (List.mem_append_left _ h))
theorem cAM_times_2 : ∀ q ∈ zT158_2, zCode 158 q.1 = some q.2 := fun q h => cAM_times q (List.mem_append_right _ (List.mem_append_right _ (List.mem_append_left _ h)))
theorem cAM_times_3 : ∀ q ∈ zT158_3, zCode 158 q.1 = some q.2 := fun q h => cAM_times q (List.mem_append_right _ (List.mem_append_right _ (List.mem_append_right _ (List.mem_append_left _ h))))
theorem cAM_times_4 : ∀ q ∈ zT158_4, zCode 158 q.1 = some q.2 := fun q h => cAM_times q (List.mem_append_right _ (List.mem_append_right _ (List.mem_append_right _ (List.mem_append_right _ h))))
theorem cM_times_0 : zCode 158 0 = some (.lconst 0, 1, 0, 0, 0, 0, 7) := cAM_times_0 _ (List.mem_of_getElem? (i := 0) rfl)
theorem cM_times_1 : zCode 158 1 = some (.lstore 4, 3, 0, 0, 0, 0, 7) := cAM_times_0 _ (List.mem_of_getElem? (i := 1) rfl)
theorem cM_times_3 : zCode 158 3 = some (.iconst 0, 4, 0, 0, 0, 0, 23) := cAM_times_0 _ (List.mem_of_getElem? (i := 2) rfl)
theorem cM_times_4 : zCode 158 4 = some (.istore 6, 6, 0, 0, 0, 0, 23) := cAM_times_0 _ (List.mem_of_getElem? (i := 3) rfl)
theorem cM_times_6 : zCode 158 6 = some (.iload 6, 8, 0, 0, 0, 0, 87) := cAM_times_0 _ (List.mem_of_getElem? (i := 4) rfl)
theorem cM_times_8 : zCode 158 8 = some (.aload_n 0, 9, 0, 0, 0, 0, 87) := cAM_times_0 _ (List.mem_of_getElem? (i := 5) rfl)
theorem cM_times_9 : zCode 158 9 = some (.getfield 27, 12, 12, 5, 2, 1214, 87) := cAM_times_0 _ (List.mem_of_getElem? (i := 6) rfl)
theorem cM_times_12 : zCode 158 12 = some (.iload_n 1, 13, 0, 0, 0, 0, 87) := cAM_times_0 _ (List.mem_of_getElem? (i := 7) rfl)
theorem cM_times_13 : zCode 158 13 = some (.iaload, 14, 0, 0, 0, 0, 87) := cAM_times_0 _ (List.mem_of_getElem? (i := 8) rfl)
theorem cM_times_14 : zCode 158 14 = some (.if_icmp .ge 54, 17, 68, 0, 0, 0, 87) := cAM_times_0 _ (List.mem_of_getElem? (i := 9) rfl)
theorem cM_times_17 : zCode 158 17 = some (.aload_n 0, 18, 0, 0, 0, 0, 87) := cAM_times_0 _ (List.mem_of_getElem? (i := 10) rfl)
theorem cM_times_18 : zCode 158 18 = some (.getfield 23, 21, 12, 4, 2, 1213, 87) := cAM_times_0 _ (List.mem_of_getElem? (i := 11) rfl)
theorem cM_times_21 : zCode 158 21 = some (.bipush 64, 23, 0, 0, 0, 0, 87) := cAM_times_0 _ (List.mem_of_getElem? (i := 12) rfl)
theorem cM_times_23 : zCode 158 23 = some (.iload_n 1, 24, 0, 0, 0, 0, 87) := cAM_times_0 _ (List.mem_of_getElem? (i := 13) rfl)
theorem cM_times_24 : zCode 158 24 = some (.imul, 25, 0, 0, 0, 0, 87) := cAM_times_0 _ (List.mem_of_getElem? (i := 14) rfl)
theorem cM_times_25 : zCode 158 25 = some (.iload 6, 27, 0, 0, 0, 0, 87) := cAM_times_0 _ (List.mem_of_getElem? (i := 15) rfl)
theorem cM_times_27 : zCode 158 27 = some (.iadd, 28, 0, 0, 0, 0, 87) := cAM_times_1 _ (List.mem_of_getElem? (i := 0) rfl)
theorem cM_times_28 : zCode 158 28 = some (.laload, 29, 0, 0, 0, 0, 87) := cAM_times_1 _ (List.mem_of_getElem? (i := 1) rfl)
theorem cM_times_29 : zCode 158 29 = some (.lload_n 2, 30, 0, 0, 0, 0, 87) := cAM_times_1 _ (List.mem_of_getElem? (i := 2) rfl)
theorem cM_times_30 : zCode 158 30 = some (.lmul, 31, 0, 0, 0, 0, 87) := cAM_times_1 _ (List.mem_of_getElem? (i := 3) rfl)
theorem cM_times_31 : zCode 158 31 = some (.lload 4, 33, 0, 0, 0, 0, 87) := cAM_times_1 _ (List.mem_of_getElem? (i := 4) rfl)
theorem cM_times_33 : zCode 158 33 = some (.ladd, 34, 0, 0, 0, 0, 71) := cAM_times_1 _ (List.mem_of_getElem? (i := 5) rfl)
theorem cM_times_34 : zCode 158 34 = some (.lstore 7, 36, 0, 0, 0, 0, 71) := cAM_times_1 _ (List.mem_of_getElem? (i := 6) rfl)
theorem cM_times_36 : zCode 158 36 = some (.aload_n 0, 37, 0, 0, 0, 0, 199) := cAM_times_1 _ (List.mem_of_getElem? (i := 7) rfl)
theorem cM_times_37 : zCode 158 37 = some (.getfield 23, 40, 12, 4, 2, 1213, 199) := cAM_times_1 _ (List.mem_of_getElem? (i := 8) rfl)
theorem cM_times_40 : zCode 158 40 = some (.bipush 64, 42, 0, 0, 0, 0, 199) := cAM_times_1 _ (List.mem_of_getElem? (i := 9) rfl)
theorem cM_times_42 : zCode 158 42 = some (.iload_n 1, 43, 0, 0, 0, 0, 199) := cAM_times_1 _ (List.mem_of_getElem? (i := 10) rfl)
theorem cM_times_43 : zCode 158 43 = some (.imul, 44, 0, 0, 0, 0, 199) := cAM_times_1 _ (List.mem_of_getElem? (i := 11) rfl)
theorem cM_times_44 : zCode 158 44 = some (.iload 6, 46, 0, 0, 0, 0, 199) := cAM_times_1 _ (List.mem_of_getElem? (i := 12) rfl)
theorem cM_times_46 : zCode 158 46 = some (.iadd, 47, 0, 0, 0, 0, 199) := cAM_times_1 _ (List.mem_of_getElem? (i := 13) rfl)
theorem cM_times_47 : zCode 158 47 = some (.lload 7, 49, 0, 0, 0, 0, 199) := cAM_times_1 _ (List.mem_of_getElem? (i := 14) rfl)
theorem cM_times_49 : zCode 158 49 = some (.ldc2_w 77, 52, 0, 0, 1208, 1073741824, 199) := cAM_times_1 _ (List.mem_of_getElem? (i := 15) rfl)
theorem cM_times_52 : zCode 158 52 = some (.lrem, 53, 0, 0, 0, 0, 199) := cAM_times_2 _ (List.mem_of_getElem? (i := 0) rfl)
theorem cM_times_53 : zCode 158 53 = some (.lastore, 54, 0, 0, 0, 0, 199) := cAM_times_2 _ (List.mem_of_getElem? (i := 1) rfl)
theorem cM_times_54 : zCode 158 54 = some (.lload 7, 56, 0, 0, 0, 0, 199) := cAM_times_2 _ (List.mem_of_getElem? (i := 2) rfl)
theorem cM_times_56 : zCode 158 56 = some (.ldc2_w 77, 59, 0, 0, 1208, 1073741824, 71) := cAM_times_2 _ (List.mem_of_getElem? (i := 3) rfl)
theorem cM_times_59 : zCode 158 59 = some (.ldiv, 60, 0, 0, 0, 0, 71) := cAM_times_2 _ (List.mem_of_getElem? (i := 4) rfl)
theorem cM_times_60 : zCode 158 60 = some (.lstore 4, 62, 0, 0, 0, 0, 71) := cAM_times_2 _ (List.mem_of_getElem? (i := 5) rfl)
theorem cM_times_62 : zCode 158 62 = some (.iinc 6 1, 65, 0, 0, 0, 0, 87) := cAM_times_2 _ (List.mem_of_getElem? (i := 6) rfl)
theorem cM_times_65 : zCode 158 65 = some (.goto (-59), 68, 6, 0, 0, 0, 87) := cAM_times_2 _ (List.mem_of_getElem? (i := 7) rfl)
theorem cM_times_68 : zCode 158 68 = some (.lload 4, 70, 0, 0, 0, 0, 19) := cAM_times_2 _ (List.mem_of_getElem? (i := 8) rfl)
theorem cM_times_70 : zCode 158 70 = some (.lconst 0, 71, 0, 0, 0, 0, 19) := cAM_times_2 _ (List.mem_of_getElem? (i := 9) rfl)
theorem cM_times_71 : zCode 158 71 = some (.lcmp, 72, 0, 0, 0, 0, 19) := cAM_times_2 _ (List.mem_of_getElem? (i := 10) rfl)
theorem cM_times_72 : zCode 158 72 = some (.ifCond .le 31, 75, 103, 0, 0, 0, 19) := cAM_times_2 _ (List.mem_of_getElem? (i := 11) rfl)
theorem cM_times_75 : zCode 158 75 = some (.aload_n 0, 76, 0, 0, 0, 0, 19) := cAM_times_2 _ (List.mem_of_getElem? (i := 12) rfl)
theorem cM_times_76 : zCode 158 76 = some (.getfield 23, 79, 12, 4, 2, 1213, 19) := cAM_times_2 _ (List.mem_of_getElem? (i := 13) rfl)
theorem cM_times_79 : zCode 158 79 = some (.bipush 64, 81, 0, 0, 0, 0, 19) := cAM_times_2 _ (List.mem_of_getElem? (i := 14) rfl)
theorem cM_times_81 : zCode 158 81 = some (.iload_n 1, 82, 0, 0, 0, 0, 19) := cAM_times_2 _ (List.mem_of_getElem? (i := 15) rfl)
theorem cM_times_82 : zCode 158 82 = some (.imul, 83, 0, 0, 0, 0, 19) := cAM_times_3 _ (List.mem_of_getElem? (i := 0) rfl)
theorem cM_times_83 : zCode 158 83 = some (.aload_n 0, 84, 0, 0, 0, 0, 19) := cAM_times_3 _ (List.mem_of_getElem? (i := 1) rfl)
theorem cM_times_84 : zCode 158 84 = some (.getfield 27, 87, 12, 5, 2, 1214, 19) := cAM_times_3 _ (List.mem_of_getElem? (i := 2) rfl)
theorem cM_times_87 : zCode 158 87 = some (.iload_n 1, 88, 0, 0, 0, 0, 19) := cAM_times_3 _ (List.mem_of_getElem? (i := 3) rfl)
theorem cM_times_88 : zCode 158 88 = some (.iaload, 89, 0, 0, 0, 0, 19) := cAM_times_3 _ (List.mem_of_getElem? (i := 4) rfl)
theorem cM_times_89 : zCode 158 89 = some (.iadd, 90, 0, 0, 0, 0, 19) := cAM_times_3 _ (List.mem_of_getElem? (i := 5) rfl)
theorem cM_times_90 : zCode 158 90 = some (.lload 4, 92, 0, 0, 0, 0, 19) := cAM_times_3 _ (List.mem_of_getElem? (i := 6) rfl)
theorem cM_times_92 : zCode 158 92 = some (.lastore, 93, 0, 0, 0, 0, 3) := cAM_times_3 _ (List.mem_of_getElem? (i := 7) rfl)
theorem cM_times_93 : zCode 158 93 = some (.aload_n 0, 94, 0, 0, 0, 0, 3) := cAM_times_3 _ (List.mem_of_getElem? (i := 8) rfl)
theorem cM_times_94 : zCode 158 94 = some (.getfield 27, 97, 12, 5, 2, 1214, 3) := cAM_times_3 _ (List.mem_of_getElem? (i := 9) rfl)
theorem cM_times_97 : zCode 158 97 = some (.iload_n 1, 98, 0, 0, 0, 0, 3) := cAM_times_3 _ (List.mem_of_getElem? (i := 10) rfl)
theorem cM_times_98 : zCode 158 98 = some (.dup2, 99, 0, 0, 0, 0, 3) := cAM_times_3 _ (List.mem_of_getElem? (i := 11) rfl)
theorem cM_times_99 : zCode 158 99 = some (.iaload, 100, 0, 0, 0, 0, 3) := cAM_times_3 _ (List.mem_of_getElem? (i := 12) rfl)
theorem cM_times_100 : zCode 158 100 = some (.iconst 1, 101, 0, 0, 0, 0, 3) := cAM_times_3 _ (List.mem_of_getElem? (i := 13) rfl)
theorem cM_times_101 : zCode 158 101 = some (.iadd, 102, 0, 0, 0, 0, 3) := cAM_times_3 _ (List.mem_of_getElem? (i := 14) rfl)
theorem cM_times_102 : zCode 158 102 = some (.iastore, 103, 0, 0, 0, 0, 3) := cAM_times_3 _ (List.mem_of_getElem? (i := 15) rfl)
theorem cM_times_103 : zCode 158 103 = some (.aload_n 0, 104, 0, 0, 0, 0, 3) := cAM_times_4 _ (List.mem_of_getElem? (i := 0) rfl)
theorem cM_times_104 : zCode 158 104 = some (.iload_n 1, 105, 0, 0, 0, 0, 2) := cAM_times_4 _ (List.mem_of_getElem? (i := 1) rfl)
theorem cM_times_105 : zCode 158 105 = some (.invokevirtual 79, 108, 157, 1, 2, 12, 0) := cAM_times_4 _ (List.mem_of_getElem? (i := 2) rfl)
theorem cM_times_108 : zCode 158 108 = some (.return_, 109, 0, 0, 0, 0, 0) := cAM_times_4 _ (List.mem_of_getElem? (i := 3) rfl)
theorem rM_times_0 {a0 : Nat} {a1 a2 : Int} {u3 u4 u5 u6 u7 u8 : zV} : zS 158 0 [zR a0, zI a1, zL a2, u3, u4, u5, u6, u7, u8] [] sh pp mm Q ↔ zS 158 1 [zR a0, zI a1, zL a2, zU, zU, zU, zU, zU, zU] [zL 0] sh pp mm Q := s_go cM_times_0 cM_times_1 rfl rfl
theorem rM_times_1 {a0 : Nat} {a1 a2 s0 : Int} {u3 u4 u5 u6 u7 u8 : zV} : zS 158 1 [zR a0, zI a1, zL a2, u3, u4, u5, u6, u7, u8] [zL s0] sh pp mm Q ↔ zS 158 3 [zR a0, zI a1, zL a2, zU, zL s0, zU, zU, zU, zU] [] sh pp mm Q := s_go cM_times_1 cM_times_3 rfl rfl
theorem rM_times_3 {a0 : Nat} {a1 a2 a4 : Int} {u3 u5 u6 u7 u8 : zV} : zS 158 3 [zR a0, zI a1, zL a2, u3, zL a4, u5, u6, u7, u8] [] sh pp mm Q ↔ zS 158 4 [zR a0, zI a1, zL a2, zU, zL a4, zU, zU, zU, zU] [zI 0] sh pp mm Q := s_go cM_times_3 cM_times_4 rfl rfl
theorem rM_times_4 {a0 : Nat} {a1 a2 a4 s0 : Int} {u3 u5 u6 u7 u8 : zV} : zS 158 4 [zR a0, zI a1, zL a2, u3, zL a4, u5, u6, u7, u8] [zI s0] sh pp mm Q ↔ zS 158 6 [zR a0, zI a1, zL a2, zU, zL a4, zU, zI s0, zU, zU] [] sh pp mm Q := s_go cM_times_4 cM_times_6 rfl rfl
theorem rM_times_6 {a0 : Nat} {a1 a2 a4 a6 : Int} {u3 u5 u7 u8 : zV} : zS 158 6 [zR a0, zI a1, zL a2, u3, zL a4, u5, zI a6, u7, u8] [] sh pp mm Q ↔ zS 158 8 [zR a0, zI a1, zL a2, zU, zL a4, zU, zI a6, zU, zU] [zI a6] sh pp mm Q := s_go cM_times_6 cM_times_8 rfl rfl
theorem rM_times_8 {a0 : Nat} {a1 a2 a4 a6 s0 : Int} {u3 u5 u7 u8 : zV} : zS 158 8 [zR a0, zI a1, zL a2, u3, zL a4, u5, zI a6, u7, u8] [zI s0] sh pp mm Q ↔ zS 158 9 [zR a0, zI a1, zL a2, zU, zL a4, zU, zI a6, zU, zU] [zR a0, zI s0] sh pp mm Q := s_go cM_times_8 cM_times_9 rfl rfl
theorem rM_times_9 {a0 s0 : Nat} {a1 a2 a4 a6 s1 : Int} {u3 u5 u7 u8 : zV} (hk : zKd sh s0 = 12) : zS 158 9 [zR a0, zI a1, zL a2, u3, zL a4, u5, zI a6, u7, u8] [zR s0, zI s1] sh pp mm Q ↔ zS 158 12 [zR a0, zI a1, zL a2, zU, zL a4, zU, zI a6, zU, zU] [zR (pp s0 5), zI s1] sh pp mm Q := s_go cM_times_9 cM_times_12 (if_pos hk) rfl
theorem rM_times_12 {a0 s0 : Nat} {a1 a2 a4 a6 s1 : Int} {u3 u5 u7 u8 : zV} : zS 158 12 [zR a0, zI a1, zL a2, u3, zL a4, u5, zI a6, u7, u8] [zR s0, zI s1] sh pp mm Q ↔ zS 158 13 [zR a0, zI a1, zL a2, zU, zL a4, zU, zI a6, zU, zU] [zI a1, zR s0, zI s1] sh pp mm Q := s_go cM_times_12 cM_times_13 rfl rfl
theorem rM_times_13 {a0 s1 : Nat} {a1 a2 a4 a6 s0 s2 : Int} {u3 u5 u7 u8 : zV} (hk : zKd sh s1 = 20 ∨ zKd sh s1 = 30) (h0 : 0 ≤ s0) (h1 : s0 < zLn sh s1) : zS 158 13 [zR a0, zI a1, zL a2, u3, zL a4, u5, zI a6, u7, u8] [zI s0, zR s1, zI s2] sh pp mm Q ↔ zS 158 14 [zR a0, zI a1, zL a2, zU, zL a4, zU, zI a6, zU, zU] [zI (mm s1 s0), zI s2] sh pp mm Q := s_go cM_times_13 cM_times_14 (if_pos ⟨hk, h0, h1⟩) rfl
theorem rM_times_14 {a0 : Nat} {a1 a2 a4 a6 s0 s1 : Int} {u3 u5 u7 u8 : zV} : zS 158 14 [zR a0, zI a1, zL a2, u3, zL a4, u5, zI a6, u7, u8] [zI s0, zI s1] sh pp mm Q ↔ (s1 < s0 → zS 158 17 [zR a0, zI a1, zL a2, zU, zL a4, zU, zI a6, zU, zU] [] sh pp mm Q) ∧ (¬ s1 < s0 → zS 158 68 [zR a0, zI a1, zU, zU, zL a4, zU, zU, zU, zU] [] sh pp mm Q) := s_ifn cM_times_14 cM_times_17 cM_times_68 rfl rfl rfl
theorem rM_times_17 {a0 : Nat} {a1 a2 a4 a6 : Int} {u3 u5 u7 u8 : zV} : zS 158 17 [zR a0, zI a1, zL a2, u3, zL a4, u5, zI a6, u7, u8] [] sh pp mm Q ↔ zS 158 18 [zR a0, zI a1, zL a2, zU, zL a4, zU, zI a6, zU, zU] [zR a0] sh pp mm Q := s_go cM_times_17 cM_times_18 rfl rfl
theorem rM_times_18 {a0 s0 : Nat} {a1 a2 a4 a6 : Int} {u3 u5 u7 u8 : zV} (hk : zKd sh s0 = 12) : zS 158 18 [zR a0, zI a1, zL a2, u3, zL a4, u5, zI a6, u7, u8] [zR s0] sh pp mm Q ↔ zS 158 21 [zR a0, zI a1, zL a2, zU, zL a4, zU, zI a6, zU, zU] [zR (pp s0 4)] sh pp mm Q := s_go cM_times_18 cM_times_21 (if_pos hk) rfl
theorem rM_times_21 {a0 s0 : Nat} {a1 a2 a4 a6 : Int} {u3 u5 u7 u8 : zV} : zS 158 21 [zR a0, zI a1, zL a2, u3, zL a4, u5, zI a6, u7, u8] [zR s0] sh pp mm Q ↔ zS 158 23 [zR a0, zI a1, zL a2, zU, zL a4, zU, zI a6, zU, zU] [zI 64, zR s0] sh pp mm Q := s_go cM_times_21 cM_times_23 rfl rfl
theorem rM_times_23 {a0 s1 : Nat} {a1 a2 a4 a6 s0 : Int} {u3 u5 u7 u8 : zV} : zS 158 23 [zR a0, zI a1, zL a2, u3, zL a4, u5, zI a6, u7, u8] [zI s0, zR s1] sh pp mm Q ↔ zS 158 24 [zR a0, zI a1, zL a2, zU, zL a4, zU, zI a6, zU, zU] [zI a1, zI s0, zR s1] sh pp mm Q := s_go cM_times_23 cM_times_24 rfl rfl
theorem rM_times_24 {a0 s2 : Nat} {a1 a2 a4 a6 s0 s1 : Int} {u3 u5 u7 u8 : zV} : zS 158 24 [zR a0, zI a1, zL a2, u3, zL a4, u5, zI a6, u7, u8] [zI s0, zI s1, zR s2] sh pp mm Q ↔ zS 158 25 [zR a0, zI a1, zL a2, zU, zL a4, zU, zI a6, zU, zU] [zI (zw32 (s1 * s0)), zR s2] sh pp mm Q := s_go cM_times_24 cM_times_25 rfl rfl
theorem rM_times_25 {a0 s1 : Nat} {a1 a2 a4 a6 s0 : Int} {u3 u5 u7 u8 : zV} : zS 158 25 [zR a0, zI a1, zL a2, u3, zL a4, u5, zI a6, u7, u8] [zI s0, zR s1] sh pp mm Q ↔ zS 158 27 [zR a0, zI a1, zL a2, zU, zL a4, zU, zI a6, zU, zU] [zI a6, zI s0, zR s1] sh pp mm Q := s_go cM_times_25 cM_times_27 rfl rfl
theorem rM_times_27 {a0 s2 : Nat} {a1 a2 a4 a6 s0 s1 : Int} {u3 u5 u7 u8 : zV} : zS 158 27 [zR a0, zI a1, zL a2, u3, zL a4, u5, zI a6, u7, u8] [zI s0, zI s1, zR s2] sh pp mm Q ↔ zS 158 28 [zR a0, zI a1, zL a2, zU, zL a4, zU, zI a6, zU, zU] [zI (zw32 (s1 + s0)), zR s2] sh pp mm Q := s_go cM_times_27 cM_times_28 rfl rfl
theorem rM_times_28 {a0 s1 : Nat} {a1 a2 a4 a6 s0 : Int} {u3 u5 u7 u8 : zV} (hk : zKd sh s1 = 21) (h0 : 0 ≤ s0) (h1 : s0 < zLn sh s1) : zS 158 28 [zR a0, zI a1, zL a2, u3, zL a4, u5, zI a6, u7, u8] [zI s0, zR s1] sh pp mm Q ↔ zS 158 29 [zR a0, zI a1, zL a2, zU, zL a4, zU, zI a6, zU, zU] [zL (mm s1 s0)] sh pp mm Q := s_go cM_times_28 cM_times_29 (if_pos ⟨hk, h0, h1⟩) rfl
theorem rM_times_29 {a0 : Nat} {a1 a2 a4 a6 s0 : Int} {u3 u5 u7 u8 : zV} : zS 158 29 [zR a0, zI a1, zL a2, u3, zL a4, u5, zI a6, u7, u8] [zL s0] sh pp mm Q ↔ zS 158 30 [zR a0, zI a1, zL a2, zU, zL a4, zU, zI a6, zU, zU] [zL a2, zL s0] sh pp mm Q := s_go cM_times_29 cM_times_30 rfl rfl
theorem rM_times_30 {a0 : Nat} {a1 a2 a4 a6 s0 s1 : Int} {u3 u5 u7 u8 : zV} : zS 158 30 [zR a0, zI a1, zL a2, u3, zL a4, u5, zI a6, u7, u8] [zL s0, zL s1] sh pp mm Q ↔ zS 158 31 [zR a0, zI a1, zL a2, zU, zL a4, zU, zI a6, zU, zU] [zL (zw64 (s1 * s0))] sh pp mm Q := s_go cM_times_30 cM_times_31 rfl rfl
theorem rM_times_31 {a0 : Nat} {a1 a2 a4 a6 s0 : Int} {u3 u5 u7 u8 : zV} : zS 158 31 [zR a0, zI a1, zL a2, u3, zL a4, u5, zI a6, u7, u8] [zL s0] sh pp mm Q ↔ zS 158 33 [zR a0, zI a1, zL a2, zU, zU, zU, zI a6, zU, zU] [zL a4, zL s0] sh pp mm Q := s_go cM_times_31 cM_times_33 rfl rfl
theorem rM_times_33 {a0 : Nat} {a1 a2 a6 s0 s1 : Int} {u3 u4 u5 u7 u8 : zV} : zS 158 33 [zR a0, zI a1, zL a2, u3, u4, u5, zI a6, u7, u8] [zL s0, zL s1] sh pp mm Q ↔ zS 158 34 [zR a0, zI a1, zL a2, zU, zU, zU, zI a6, zU, zU] [zL (zw64 (s1 + s0))] sh pp mm Q := s_go cM_times_33 cM_times_34 rfl rfl
theorem rM_times_34 {a0 : Nat} {a1 a2 a6 s0 : Int} {u3 u4 u5 u7 u8 : zV} : zS 158 34 [zR a0, zI a1, zL a2, u3, u4, u5, zI a6, u7, u8] [zL s0] sh pp mm Q ↔ zS 158 36 [zR a0, zI a1, zL a2, zU, zU, zU, zI a6, zL s0, zU] [] sh pp mm Q := s_go cM_times_34 cM_times_36 rfl rfl
theorem rM_times_36 {a0 : Nat} {a1 a2 a6 a7 : Int} {u3 u4 u5 u8 : zV} : zS 158 36 [zR a0, zI a1, zL a2, u3, u4, u5, zI a6, zL a7, u8] [] sh pp mm Q ↔ zS 158 37 [zR a0, zI a1, zL a2, zU, zU, zU, zI a6, zL a7, zU] [zR a0] sh pp mm Q := s_go cM_times_36 cM_times_37 rfl rfl
theorem rM_times_37 {a0 s0 : Nat} {a1 a2 a6 a7 : Int} {u3 u4 u5 u8 : zV} (hk : zKd sh s0 = 12) : zS 158 37 [zR a0, zI a1, zL a2, u3, u4, u5, zI a6, zL a7, u8] [zR s0] sh pp mm Q ↔ zS 158 40 [zR a0, zI a1, zL a2, zU, zU, zU, zI a6, zL a7, zU] [zR (pp s0 4)] sh pp mm Q := s_go cM_times_37 cM_times_40 (if_pos hk) rfl
theorem rM_times_40 {a0 s0 : Nat} {a1 a2 a6 a7 : Int} {u3 u4 u5 u8 : zV} : zS 158 40 [zR a0, zI a1, zL a2, u3, u4, u5, zI a6, zL a7, u8] [zR s0] sh pp mm Q ↔ zS 158 42 [zR a0, zI a1, zL a2, zU, zU, zU, zI a6, zL a7, zU] [zI 64, zR s0] sh pp mm Q := s_go cM_times_40 cM_times_42 rfl rfl
theorem rM_times_42 {a0 s1 : Nat} {a1 a2 a6 a7 s0 : Int} {u3 u4 u5 u8 : zV} : zS 158 42 [zR a0, zI a1, zL a2, u3, u4, u5, zI a6, zL a7, u8] [zI s0, zR s1] sh pp mm Q ↔ zS 158 43 [zR a0, zI a1, zL a2, zU, zU, zU, zI a6, zL a7, zU] [zI a1, zI s0, zR s1] sh pp mm Q := s_go cM_times_42 cM_times_43 rfl rfl
theorem rM_times_43 {a0 s2 : Nat} {a1 a2 a6 a7 s0 s1 : Int} {u3 u4 u5 u8 : zV} : zS 158 43 [zR a0, zI a1, zL a2, u3, u4, u5, zI a6, zL a7, u8] [zI s0, zI s1, zR s2] sh pp mm Q ↔ zS 158 44 [zR a0, zI a1, zL a2, zU, zU, zU, zI a6, zL a7, zU] [zI (zw32 (s1 * s0)), zR s2] sh pp mm Q := s_go cM_times_43 cM_times_44 rfl rfl
theorem rM_times_44 {a0 s1 : Nat} {a1 a2 a6 a7 s0 : Int} {u3 u4 u5 u8 : zV} : zS 158 44 [zR a0, zI a1, zL a2, u3, u4, u5, zI a6, zL a7, u8] [zI s0, zR s1] sh pp mm Q ↔ zS 158 46 [zR a0, zI a1, zL a2, zU, zU, zU, zI a6, zL a7, zU] [zI a6, zI s0, zR s1] sh pp mm Q := s_go cM_times_44 cM_times_46 rfl rfl
theorem rM_times_46 {a0 s2 : Nat} {a1 a2 a6 a7 s0 s1 : Int} {u3 u4 u5 u8 : zV} : zS 158 46 [zR a0, zI a1, zL a2, u3, u4, u5, zI a6, zL a7, u8] [zI s0, zI s1, zR s2] sh pp mm Q ↔ zS 158 47 [zR a0, zI a1, zL a2, zU, zU, zU, zI a6, zL a7, zU] [zI (zw32 (s1 + s0)), zR s2] sh pp mm Q := s_go cM_times_46 cM_times_47 rfl rfl
theorem rM_times_47 {a0 s1 : Nat} {a1 a2 a6 a7 s0 : Int} {u3 u4 u5 u8 : zV} : zS 158 47 [zR a0, zI a1, zL a2, u3, u4, u5, zI a6, zL a7, u8] [zI s0, zR s1] sh pp mm Q ↔ zS 158 49 [zR a0, zI a1, zL a2, zU, zU, zU, zI a6, zL a7, zU] [zL a7, zI s0, zR s1] sh pp mm Q := s_go cM_times_47 cM_times_49 rfl rfl
theorem rM_times_49 {a0 s2 : Nat} {a1 a2 a6 a7 s0 s1 : Int} {u3 u4 u5 u8 : zV} : zS 158 49 [zR a0, zI a1, zL a2, u3, u4, u5, zI a6, zL a7, u8] [zL s0, zI s1, zR s2] sh pp mm Q ↔ zS 158 52 [zR a0, zI a1, zL a2, zU, zU, zU, zI a6, zL a7, zU] [zL 1073741824, zL s0, zI s1, zR s2] sh pp mm Q := s_go cM_times_49 cM_times_52 rfl rfl
theorem rM_times_52 {a0 s3 : Nat} {a1 a2 a6 a7 s0 s1 s2 : Int} {u3 u4 u5 u8 : zV} (hz : s0 ≠ 0) : zS 158 52 [zR a0, zI a1, zL a2, u3, u4, u5, zI a6, zL a7, u8] [zL s0, zL s1, zI s2, zR s3] sh pp mm Q ↔ zS 158 53 [zR a0, zI a1, zL a2, zU, zU, zU, zI a6, zL a7, zU] [zL (s1.tmod s0), zI s2, zR s3] sh pp mm Q := s_go cM_times_52 cM_times_53 (if_neg hz) rfl
theorem rM_times_53 {a0 s2 : Nat} {a1 a2 a6 a7 s0 s1 : Int} {u3 u4 u5 u8 : zV} (hk : zKd sh s2 = 21) (h0 : 0 ≤ s1) (h1 : s1 < zLn sh s2) : zS 158 53 [zR a0, zI a1, zL a2, u3, u4, u5, zI a6, zL a7, u8] [zL s0, zI s1, zR s2] sh pp mm Q ↔ zS 158 54 [zR a0, zI a1, zL a2, zU, zU, zU, zI a6, zL a7, zU] [] sh pp (zupd mm s2 s1 s0) Q := s_go cM_times_53 cM_times_54 (if_pos ⟨hk, h0, h1⟩) rfl
theorem rM_times_54 {a0 : Nat} {a1 a2 a6 a7 : Int} {u3 u4 u5 u8 : zV} : zS 158 54 [zR a0, zI a1, zL a2, u3, u4, u5, zI a6, zL a7, u8] [] sh pp mm Q ↔ zS 158 56 [zR a0, zI a1, zL a2, zU, zU, zU, zI a6, zU, zU] [zL a7] sh pp mm Q := s_go cM_times_54 cM_times_56 rfl rfl
theorem rM_times_56 {a0 : Nat} {a1 a2 a6 s0 : Int} {u3 u4 u5 u7 u8 : zV} : zS 158 56 [zR a0, zI a1, zL a2, u3, u4, u5, zI a6, u7, u8] [zL s0] sh pp mm Q ↔ zS 158 59 [zR a0, zI a1, zL a2, zU, zU, zU, zI a6, zU, zU] [zL 1073741824, zL s0] sh pp mm Q := s_go cM_times_56 cM_times_59 rfl rfl
theorem rM_times_59 {a0 : Nat} {a1 a2 a6 s0 s1 : Int} {u3 u4 u5 u7 u8 : zV} (hz : s0 ≠ 0) : zS 158 59 [zR a0, zI a1, zL a2, u3, u4, u5, zI a6, u7, u8] [zL s0, zL s1] sh pp mm Q ↔ zS 158 60 [zR a0, zI a1, zL a2, zU, zU, zU, zI a6, zU, zU] [zL (zw64 (s1.tdiv s0))] sh pp mm Q := s_go cM_times_59 cM_times_60 (if_neg hz) rfl
theorem rM_times_60 {a0 : Nat} {a1 a2 a6 s0 : Int} {u3 u4 u5 u7 u8 : zV} : zS 158 60 [zR a0, zI a1, zL a2, u3, u4, u5, zI a6, u7, u8] [zL s0] sh pp mm Q ↔ zS 158 62 [zR a0, zI a1, zL a2, zU, zL s0, zU, zI a6, zU, zU] [] sh pp mm Q := s_go cM_times_60 cM_times_62 rfl rfl
theorem rM_times_62 {a0 : Nat} {a1 a2 a4 a6 : Int} {u3 u5 u7 u8 : zV} : zS 158 62 [zR a0, zI a1, zL a2, u3, zL a4, u5, zI a6, u7, u8] [] sh pp mm Q ↔ zS 158 65 [zR a0, zI a1, zL a2, zU, zL a4, zU, zI (zw32 (a6 + 1)), zU, zU] [] sh pp mm Q := s_go cM_times_62 cM_times_65 rfl rfl
theorem rM_times_65 {a0 : Nat} {a1 a2 a4 a6 : Int} {u3 u5 u7 u8 : zV} : zS 158 65 [zR a0, zI a1, zL a2, u3, zL a4, u5, zI a6, u7, u8] [] sh pp mm Q ↔ zS 158 6 [zR a0, zI a1, zL a2, zU, zL a4, zU, zI a6, zU, zU] [] sh pp mm Q := s_go cM_times_65 cM_times_6 rfl rfl
theorem rM_times_68 {a0 : Nat} {a1 a4 : Int} {u2 u3 u5 u6 u7 u8 : zV} : zS 158 68 [zR a0, zI a1, u2, u3, zL a4, u5, u6, u7, u8] [] sh pp mm Q ↔ zS 158 70 [zR a0, zI a1, zU, zU, zL a4, zU, zU, zU, zU] [zL a4] sh pp mm Q := s_go cM_times_68 cM_times_70 rfl rfl
theorem rM_times_70 {a0 : Nat} {a1 a4 s0 : Int} {u2 u3 u5 u6 u7 u8 : zV} : zS 158 70 [zR a0, zI a1, u2, u3, zL a4, u5, u6, u7, u8] [zL s0] sh pp mm Q ↔ zS 158 71 [zR a0, zI a1, zU, zU, zL a4, zU, zU, zU, zU] [zL 0, zL s0] sh pp mm Q := s_go cM_times_70 cM_times_71 rfl rfl
theorem rM_times_71 {a0 : Nat} {a1 a4 s0 s1 : Int} {u2 u3 u5 u6 u7 u8 : zV} : zS 158 71 [zR a0, zI a1, u2, u3, zL a4, u5, u6, u7, u8] [zL s0, zL s1] sh pp mm Q ↔ zS 158 72 [zR a0, zI a1, zU, zU, zL a4, zU, zU, zU, zU] [zI (zcmp s1 s0)] sh pp mm Q := s_go cM_times_71 cM_times_72 rfl rfl
theorem rM_times_72 {a0 : Nat} {a1 a4 s0 : Int} {u2 u3 u5 u6 u7 u8 : zV} : zS 158 72 [zR a0, zI a1, u2, u3, zL a4, u5, u6, u7, u8] [zI s0] sh pp mm Q ↔ (0 < s0 → zS 158 75 [zR a0, zI a1, zU, zU, zL a4, zU, zU, zU, zU] [] sh pp mm Q) ∧ (¬ 0 < s0 → zS 158 103 [zR a0, zI a1, zU, zU, zU, zU, zU, zU, zU] [] sh pp mm Q) := s_ifn cM_times_72 cM_times_75 cM_times_103 rfl rfl rfl
theorem rM_times_75 {a0 : Nat} {a1 a4 : Int} {u2 u3 u5 u6 u7 u8 : zV} : zS 158 75 [zR a0, zI a1, u2, u3, zL a4, u5, u6, u7, u8] [] sh pp mm Q ↔ zS 158 76 [zR a0, zI a1, zU, zU, zL a4, zU, zU, zU, zU] [zR a0] sh pp mm Q := s_go cM_times_75 cM_times_76 rfl rfl
theorem rM_times_76 {a0 s0 : Nat} {a1 a4 : Int} {u2 u3 u5 u6 u7 u8 : zV} (hk : zKd sh s0 = 12) : zS 158 76 [zR a0, zI a1, u2, u3, zL a4, u5, u6, u7, u8] [zR s0] sh pp mm Q ↔ zS 158 79 [zR a0, zI a1, zU, zU, zL a4, zU, zU, zU, zU] [zR (pp s0 4)] sh pp mm Q := s_go cM_times_76 cM_times_79 (if_pos hk) rfl
theorem rM_times_79 {a0 s0 : Nat} {a1 a4 : Int} {u2 u3 u5 u6 u7 u8 : zV} : zS 158 79 [zR a0, zI a1, u2, u3, zL a4, u5, u6, u7, u8] [zR s0] sh pp mm Q ↔ zS 158 81 [zR a0, zI a1, zU, zU, zL a4, zU, zU, zU, zU] [zI 64, zR s0] sh pp mm Q := s_go cM_times_79 cM_times_81 rfl rfl
theorem rM_times_81 {a0 s1 : Nat} {a1 a4 s0 : Int} {u2 u3 u5 u6 u7 u8 : zV} : zS 158 81 [zR a0, zI a1, u2, u3, zL a4, u5, u6, u7, u8] [zI s0, zR s1] sh pp mm Q ↔ zS 158 82 [zR a0, zI a1, zU, zU, zL a4, zU, zU, zU, zU] [zI a1, zI s0, zR s1] sh pp mm Q := s_go cM_times_81 cM_times_82 rfl rfl
theorem rM_times_82 {a0 s2 : Nat} {a1 a4 s0 s1 : Int} {u2 u3 u5 u6 u7 u8 : zV} : zS 158 82 [zR a0, zI a1, u2, u3, zL a4, u5, u6, u7, u8] [zI s0, zI s1, zR s2] sh pp mm Q ↔ zS 158 83 [zR a0, zI a1, zU, zU, zL a4, zU, zU, zU, zU] [zI (zw32 (s1 * s0)), zR s2] sh pp mm Q := s_go cM_times_82 cM_times_83 rfl rfl
theorem rM_times_83 {a0 s1 : Nat} {a1 a4 s0 : Int} {u2 u3 u5 u6 u7 u8 : zV} : zS 158 83 [zR a0, zI a1, u2, u3, zL a4, u5, u6, u7, u8] [zI s0, zR s1] sh pp mm Q ↔ zS 158 84 [zR a0, zI a1, zU, zU, zL a4, zU, zU, zU, zU] [zR a0, zI s0, zR s1] sh pp mm Q := s_go cM_times_83 cM_times_84 rfl rfl
theorem rM_times_84 {a0 s0 s2 : Nat} {a1 a4 s1 : Int} {u2 u3 u5 u6 u7 u8 : zV} (hk : zKd sh s0 = 12) : zS 158 84 [zR a0, zI a1, u2, u3, zL a4, u5, u6, u7, u8] [zR s0, zI s1, zR s2] sh pp mm Q ↔ zS 158 87 [zR a0, zI a1, zU, zU, zL a4, zU, zU, zU, zU] [zR (pp s0 5), zI s1, zR s2] sh pp mm Q := s_go cM_times_84 cM_times_87 (if_pos hk) rfl
theorem rM_times_87 {a0 s0 s2 : Nat} {a1 a4 s1 : Int} {u2 u3 u5 u6 u7 u8 : zV} : zS 158 87 [zR a0, zI a1, u2, u3, zL a4, u5, u6, u7, u8] [zR s0, zI s1, zR s2] sh pp mm Q ↔ zS 158 88 [zR a0, zI a1, zU, zU, zL a4, zU, zU, zU, zU] [zI a1, zR s0, zI s1, zR s2] sh pp mm Q := s_go cM_times_87 cM_times_88 rfl rfl
theorem rM_times_88 {a0 s1 s3 : Nat} {a1 a4 s0 s2 : Int} {u2 u3 u5 u6 u7 u8 : zV} (hk : zKd sh s1 = 20 ∨ zKd sh s1 = 30) (h0 : 0 ≤ s0) (h1 : s0 < zLn sh s1) : zS 158 88 [zR a0, zI a1, u2, u3, zL a4, u5, u6, u7, u8] [zI s0, zR s1, zI s2, zR s3] sh pp mm Q ↔ zS 158 89 [zR a0, zI a1, zU, zU, zL a4, zU, zU, zU, zU] [zI (mm s1 s0), zI s2, zR s3] sh pp mm Q := s_go cM_times_88 cM_times_89 (if_pos ⟨hk, h0, h1⟩) rfl
theorem rM_times_89 {a0 s2 : Nat} {a1 a4 s0 s1 : Int} {u2 u3 u5 u6 u7 u8 : zV} : zS 158 89 [zR a0, zI a1, u2, u3, zL a4, u5, u6, u7, u8] [zI s0, zI s1, zR s2] sh pp mm Q ↔ zS 158 90 [zR a0, zI a1, zU, zU, zL a4, zU, zU, zU, zU] [zI (zw32 (s1 + s0)), zR s2] sh pp mm Q := s_go cM_times_89 cM_times_90 rfl rfl
theorem rM_times_90 {a0 s1 : Nat} {a1 a4 s0 : Int} {u2 u3 u5 u6 u7 u8 : zV} : zS 158 90 [zR a0, zI a1, u2, u3, zL a4, u5, u6, u7, u8] [zI s0, zR s1] sh pp mm Q ↔ zS 158 92 [zR a0, zI a1, zU, zU, zU, zU, zU, zU, zU] [zL a4, zI s0, zR s1] sh pp mm Q := s_go cM_times_90 cM_times_92 rfl rfl
theorem rM_times_92 {a0 s2 : Nat} {a1 s0 s1 : Int} {u2 u3 u4 u5 u6 u7 u8 : zV} (hk : zKd sh s2 = 21) (h0 : 0 ≤ s1) (h1 : s1 < zLn sh s2) : zS 158 92 [zR a0, zI a1, u2, u3, u4, u5, u6, u7, u8] [zL s0, zI s1, zR s2] sh pp mm Q ↔ zS 158 93 [zR a0, zI a1, zU, zU, zU, zU, zU, zU, zU] [] sh pp (zupd mm s2 s1 s0) Q := s_go cM_times_92 cM_times_93 (if_pos ⟨hk, h0, h1⟩) rfl
theorem rM_times_93 {a0 : Nat} {a1 : Int} {u2 u3 u4 u5 u6 u7 u8 : zV} : zS 158 93 [zR a0, zI a1, u2, u3, u4, u5, u6, u7, u8] [] sh pp mm Q ↔ zS 158 94 [zR a0, zI a1, zU, zU, zU, zU, zU, zU, zU] [zR a0] sh pp mm Q := s_go cM_times_93 cM_times_94 rfl rfl
theorem rM_times_94 {a0 s0 : Nat} {a1 : Int} {u2 u3 u4 u5 u6 u7 u8 : zV} (hk : zKd sh s0 = 12) : zS 158 94 [zR a0, zI a1, u2, u3, u4, u5, u6, u7, u8] [zR s0] sh pp mm Q ↔ zS 158 97 [zR a0, zI a1, zU, zU, zU, zU, zU, zU, zU] [zR (pp s0 5)] sh pp mm Q := s_go cM_times_94 cM_times_97 (if_pos hk) rfl
theorem rM_times_97 {a0 s0 : Nat} {a1 : Int} {u2 u3 u4 u5 u6 u7 u8 : zV} : zS 158 97 [zR a0, zI a1, u2, u3, u4, u5, u6, u7, u8] [zR s0] sh pp mm Q ↔ zS 158 98 [zR a0, zI a1, zU, zU, zU, zU, zU, zU, zU] [zI a1, zR s0] sh pp mm Q := s_go cM_times_97 cM_times_98 rfl rfl
theorem rM_times_98 {a0 s1 : Nat} {a1 s0 : Int} {u2 u3 u4 u5 u6 u7 u8 : zV} : zS 158 98 [zR a0, zI a1, u2, u3, u4, u5, u6, u7, u8] [zI s0, zR s1] sh pp mm Q ↔ zS 158 99 [zR a0, zI a1, zU, zU, zU, zU, zU, zU, zU] [zI s0, zR s1, zI s0, zR s1] sh pp mm Q := s_go cM_times_98 cM_times_99 rfl rfl
theorem rM_times_99 {a0 s1 s3 : Nat} {a1 s0 s2 : Int} {u2 u3 u4 u5 u6 u7 u8 : zV} (hk : zKd sh s1 = 20 ∨ zKd sh s1 = 30) (h0 : 0 ≤ s0) (h1 : s0 < zLn sh s1) : zS 158 99 [zR a0, zI a1, u2, u3, u4, u5, u6, u7, u8] [zI s0, zR s1, zI s2, zR s3] sh pp mm Q ↔ zS 158 100 [zR a0, zI a1, zU, zU, zU, zU, zU, zU, zU] [zI (mm s1 s0), zI s2, zR s3] sh pp mm Q := s_go cM_times_99 cM_times_100 (if_pos ⟨hk, h0, h1⟩) rfl
theorem rM_times_100 {a0 s2 : Nat} {a1 s0 s1 : Int} {u2 u3 u4 u5 u6 u7 u8 : zV} : zS 158 100 [zR a0, zI a1, u2, u3, u4, u5, u6, u7, u8] [zI s0, zI s1, zR s2] sh pp mm Q ↔ zS 158 101 [zR a0, zI a1, zU, zU, zU, zU, zU, zU, zU] [zI 1, zI s0, zI s1, zR s2] sh pp mm Q := s_go cM_times_100 cM_times_101 rfl rfl
theorem rM_times_101 {a0 s3 : Nat} {a1 s0 s1 s2 : Int} {u2 u3 u4 u5 u6 u7 u8 : zV} : zS 158 101 [zR a0, zI a1, u2, u3, u4, u5, u6, u7, u8] [zI s0, zI s1, zI s2, zR s3] sh pp mm Q ↔ zS 158 102 [zR a0, zI a1, zU, zU, zU, zU, zU, zU, zU] [zI (zw32 (s1 + s0)), zI s2, zR s3] sh pp mm Q := s_go cM_times_101 cM_times_102 rfl rfl
theorem rM_times_102 {a0 s2 : Nat} {a1 s0 s1 : Int} {u2 u3 u4 u5 u6 u7 u8 : zV} (hk : zKd sh s2 = 20) (h0 : 0 ≤ s1) (h1 : s1 < zLn sh s2) : zS 158 102 [zR a0, zI a1, u2, u3, u4, u5, u6, u7, u8] [zI s0, zI s1, zR s2] sh pp mm Q ↔ zS 158 103 [zR a0, zI a1, zU, zU, zU, zU, zU, zU, zU] [] sh pp (zupd mm s2 s1 s0) Q := s_go cM_times_102 cM_times_103 (if_pos ⟨hk, h0, h1, fun h => absurd h (by decide)⟩) rfl
theorem rM_times_103 {a0 : Nat} {a1 : Int} {u2 u3 u4 u5 u6 u7 u8 : zV} : zS 158 103 [zR a0, zI a1, u2, u3, u4, u5, u6, u7, u8] [] sh pp mm Q ↔ zS 158 104 [zU, zI a1, zU, zU, zU, zU, zU, zU, zU] [zR a0] sh pp mm Q := s_go cM_times_103 cM_times_104 rfl rfl
theorem rM_times_104 {s0 : Nat} {a1 : Int} {u0 u2 u3 u4 u5 u6 u7 u8 : zV} : zS 158 104 [u0, zI a1, u2, u3, u4, u5, u6, u7, u8] [zR s0] sh pp mm Q ↔ zS 158 105 [zU, zU, zU, zU, zU, zU, zU, zU, zU] [zI a1, zR s0] sh pp mm Q := s_go cM_times_104 cM_times_105 rfl rfl
theorem rM_times_105 {s1 : Nat} {s0 : Int} {u0 u1 u2 u3 u4 u5 u6 u7 u8 : zV} (hk : zKd sh s1 = 12) : zS 158 105 [u0, u1, u2, u3, u4, u5, u6, u7, u8] [zI s0, zR s1] sh pp mm Q ↔ zS 157 0 [zR s1, zI s0] [] sh pp mm (fun v sh pp mm => zS 158 108 [zU, zU, zU, zU, zU, zU, zU, zU, zU] (zPush v []) sh pp mm Q) := s_call cM_times_105 cM_times_108 ((if_pos hk).trans rfl) rfl
theorem rM_times_108 {u0 u1 u2 u3 u4 u5 u6 u7 u8 : zV} : zS 158 108 [u0, u1, u2, u3, u4, u5, u6, u7, u8] [] sh pp mm Q ↔ Q zU sh pp mm := s_ret cM_times_108 rfl
theorem cAM_compare : ∀ q ∈ zT159, zCode 159 q.1 = some q.2 := zAll (mid := 159) rfl (by decide +kernel)
theorem cAM_compare_0 : ∀ q ∈ zT159_0, zCode 159 q.1 = some q.2 := fun q h => cAM_compare q (List.mem_append_left _ h)
theorem cAM_compare_1 : ∀ q ∈ zT159_1, zCode 159 q.1 = some q.2 := fun q h => cAM_compare q (List.mem_append_right _ (List.mem_append_left _ h))
theorem cAM_compare_2 : ∀ q ∈ zT159_2, zCode 159 q.1 = some q.2 := fun q h => cAM_compare q (List.mem_append_right _ (List.mem_append_right _ (List.mem_append_left _ h)))
theorem cAM_compare_3 : ∀ q ∈ zT159_3, zCode 159 q.1 = some q.2 := fun q h => cAM_compare q (List.mem_append_right _ (List.mem_append_right _ (List.mem_append_right _ (List.mem_append_left _ h))))
theorem cAM_compare_4 : ∀ q ∈ zT159_4, zCode 159 q.1 = some q.2 := fun q h => cAM_compare q (List.mem_append_right _ (List.mem_append_right _ (List.mem_append_right _ (List.mem_append_right _ h))))
theorem cM_compare_0 : zCode 159 0 = some (.aload_n 0, 1, 0, 0, 0, 0, 7) := cAM_compare_0 _ (List.mem_of_getElem? (i := 0) rfl)
theorem cM_compare_1 : zCode 159 1 = some (.getfield 27, 4, 12, 5, 2, 1214, 7) := cAM_compare_0 _ (List.mem_of_getElem? (i := 1) rfl)
theorem cM_compare_4 : zCode 159 4 = some (.iload_n 1, 5, 0, 0, 0, 0, 7) := cAM_compare_0 _ (List.mem_of_getElem? (i := 2) rfl)
theorem cM_compare_5 : zCode 159 5 = some (.iaload, 6, 0, 0, 0, 0, 7) := cAM_compare_0 _ (List.mem_of_getElem? (i := 3) rfl)
theorem cM_compare_6 : zCode 159 6 = some (.aload_n 0, 7, 0, 0, 0, 0, 7) := cAM_compare_0 _ (List.mem_of_getElem? (i := 4) rfl)
theorem cM_compare_7 : zCode 159 7 = some (.getfield 27, 10, 12, 5, 2, 1214, 7) := cAM_compare_0 _ (List.mem_of_getElem? (i := 5) rfl)
theorem cM_compare_10 : zCode 159 10 = some (.iload_n 2, 11, 0, 0, 0, 0, 7) := cAM_compare_0 _ (List.mem_of_getElem? (i := 6) rfl)
theorem cM_compare_11 : zCode 159 11 = some (.iaload, 12, 0, 0, 0, 0, 7) := cAM_compare_0 _ (List.mem_of_getElem? (i := 7) rfl)
theorem cM_compare_12 : zCode 159 12 = some (.if_icmp .eq 24, 15, 36, 0, 0, 0, 7) := cAM_compare_0 _ (List.mem_of_getElem? (i := 8) rfl)
theorem cM_compare_15 : zCode 159 15 = some (.aload_n 0, 16, 0, 0, 0, 0, 7) := cAM_compare_0 _ (List.mem_of_getElem? (i := 9) rfl)
theorem cM_compare_16 : zCode 159 16 = some (.getfield 27, 19, 12, 5, 2, 1214, 7) := cAM_compare_0 _ (List.mem_of_getElem? (i := 10) rfl)
theorem cM_compare_19 : zCode 159 19 = some (.iload_n 1, 20, 0, 0, 0, 0, 7) := cAM_compare_0 _ (List.mem_of_getElem? (i := 11) rfl)
theorem cM_compare_20 : zCode 159 20 = some (.iaload, 21, 0, 0, 0, 0, 5) := cAM_compare_0 _ (List.mem_of_getElem? (i := 12) rfl)
theorem cM_compare_21 : zCode 159 21 = some (.aload_n 0, 22, 0, 0, 0, 0, 5) := cAM_compare_0 _ (List.mem_of_getElem? (i := 13) rfl)
theorem cM_compare_22 : zCode 159 22 = some (.getfield 27, 25, 12, 5, 2, 1214, 4) := cAM_compare_0 _ (List.mem_of_getElem? (i := 14) rfl)
theorem cM_compare_25 : zCode 159 25 = some (.iload_n 2, 26, 0, 0, 0, 0, 4) := cAM_compare_0 _ (List.mem_of_getElem? (i := 15) rfl)
theorem cM_compare_26 : zCode 159 26 = some (.iaload, 27, 0, 0, 0, 0, 0) := cAM_compare_1 _ (List.mem_of_getElem? (i := 0) rfl)
theorem cM_compare_27 : zCode 159 27 = some (.if_icmp .ge 7, 30, 34, 0, 0, 0, 0) := cAM_compare_1 _ (List.mem_of_getElem? (i := 1) rfl)
theorem cM_compare_30 : zCode 159 30 = some (.iconst (-1), 31, 0, 0, 0, 0, 0) := cAM_compare_1 _ (List.mem_of_getElem? (i := 2) rfl)
theorem cM_compare_31 : zCode 159 31 = some (.goto 4, 34, 35, 0, 0, 0, 0) := cAM_compare_1 _ (List.mem_of_getElem? (i := 3) rfl)
theorem cM_compare_34 : zCode 159 34 = some (.iconst 1, 35, 0, 0, 0, 0, 0) := cAM_compare_1 _ (List.mem_of_getElem? (i := 4) rfl)
theorem cM_compare_35 : zCode 159 35 = some (.ireturn, 36, 0, 0, 0, 0, 0) := cAM_compare_1 _ (List.mem_of_getElem? (i := 5) rfl)
theorem cM_compare_36 : zCode 159 36 = some (.aload_n 0, 37, 0, 0, 0, 0, 7) := cAM_compare_1 _ (List.mem_of_getElem? (i := 6) rfl)
theorem cM_compare_37 : zCode 159 37 = some (.getfield 27, 40, 12, 5, 2, 1214, 7) := cAM_compare_1 _ (List.mem_of_getElem? (i := 7) rfl)
theorem cM_compare_40 : zCode 159 40 = some (.iload_n 1, 41, 0, 0, 0, 0, 7) := cAM_compare_1 _ (List.mem_of_getElem? (i := 8) rfl)
theorem cM_compare_41 : zCode 159 41 = some (.iaload, 42, 0, 0, 0, 0, 7) := cAM_compare_1 _ (List.mem_of_getElem? (i := 9) rfl)
theorem cM_compare_42 : zCode 159 42 = some (.iconst 1, 43, 0, 0, 0, 0, 7) := cAM_compare_1 _ (List.mem_of_getElem? (i := 10) rfl)
theorem cM_compare_43 : zCode 159 43 = some (.isub, 44, 0, 0, 0, 0, 7) := cAM_compare_1 _ (List.mem_of_getElem? (i := 11) rfl)
theorem cM_compare_44 : zCode 159 44 = some (.istore_n 3, 45, 0, 0, 0, 0, 7) := cAM_compare_1 _ (List.mem_of_getElem? (i := 12) rfl)
theorem cM_compare_45 : zCode 159 45 = some (.iload_n 3, 46, 0, 0, 0, 0, 15) := cAM_compare_1 _ (List.mem_of_getElem? (i := 13) rfl)
theorem cM_compare_46 : zCode 159 46 = some (.ifCond .lt 54, 49, 100, 0, 0, 0, 15) := cAM_compare_1 _ (List.mem_of_getElem? (i := 14) rfl)
theorem cM_compare_49 : zCode 159 49 = some (.aload_n 0, 50, 0, 0, 0, 0, 15) := cAM_compare_1 _ (List.mem_of_getElem? (i := 15) rfl)
theorem cM_compare_50 : zCode 159 50 = some (.getfield 23, 53, 12, 4, 2, 1213, 15) := cAM_compare_2 _ (List.mem_of_getElem? (i := 0) rfl)
theorem cM_compare_53 : zCode 159 53 = some (.bipush 64, 55, 0, 0, 0, 0, 15) := cAM_compare_2 _ (List.mem_of_getElem? (i := 1) rfl)
theorem cM_compare_55 : zCode 159 55 = some (.iload_n 1, 56, 0, 0, 0, 0, 15) := cAM_compare_2 _ (List.mem_of_getElem? (i := 2) rfl)
theorem cM_compare_56 : zCode 159 56 = some (.imul, 57, 0, 0, 0, 0, 15) := cAM_compare_2 _ (List.mem_of_getElem? (i := 3) rfl)
theorem cM_compare_57 : zCode 159 57 = some (.iload_n 3, 58, 0, 0, 0, 0, 15) := cAM_compare_2 _ (List.mem_of_getElem? (i := 4) rfl)
theorem cM_compare_58 : zCode 159 58 = some (.iadd, 59, 0, 0, 0, 0, 15) := cAM_compare_2 _ (List.mem_of_getElem? (i := 5) rfl)
theorem cM_compare_59 : zCode 159 59 = some (.laload, 60, 0, 0, 0, 0, 15) := cAM_compare_2 _ (List.mem_of_getElem? (i := 6) rfl)
theorem cM_compare_60 : zCode 159 60 = some (.aload_n 0, 61, 0, 0, 0, 0, 15) := cAM_compare_2 _ (List.mem_of_getElem? (i := 7) rfl)
theorem cM_compare_61 : zCode 159 61 = some (.getfield 23, 64, 12, 4, 2, 1213, 15) := cAM_compare_2 _ (List.mem_of_getElem? (i := 8) rfl)
theorem cM_compare_64 : zCode 159 64 = some (.bipush 64, 66, 0, 0, 0, 0, 15) := cAM_compare_2 _ (List.mem_of_getElem? (i := 9) rfl)
theorem cM_compare_66 : zCode 159 66 = some (.iload_n 2, 67, 0, 0, 0, 0, 15) := cAM_compare_2 _ (List.mem_of_getElem? (i := 10) rfl)
theorem cM_compare_67 : zCode 159 67 = some (.imul, 68, 0, 0, 0, 0, 15) := cAM_compare_2 _ (List.mem_of_getElem? (i := 11) rfl)
theorem cM_compare_68 : zCode 159 68 = some (.iload_n 3, 69, 0, 0, 0, 0, 15) := cAM_compare_2 _ (List.mem_of_getElem? (i := 12) rfl)
theorem cM_compare_69 : zCode 159 69 = some (.iadd, 70, 0, 0, 0, 0, 15) := cAM_compare_2 _ (List.mem_of_getElem? (i := 13) rfl)
theorem cM_compare_70 : zCode 159 70 = some (.laload, 71, 0, 0, 0, 0, 15) := cAM_compare_2 _ (List.mem_of_getElem? (i := 14) rfl)
theorem cM_compare_71 : zCode 159 71 = some (.lsub, 72, 0, 0, 0, 0, 15) := cAM_compare_2 _ (List.mem_of_getElem? (i := 15) rfl)
theorem cM_compare_72 : zCode 159 72 = some (.lstore 4, 74, 0, 0, 0, 0, 15) := cAM_compare_3 _ (List.mem_of_getElem? (i := 0) rfl)
theorem cM_compare_74 : zCode 159 74 = some (.lload 4, 76, 0, 0, 0, 0, 31) := cAM_compare_3 _ (List.mem_of_getElem? (i := 1) rfl)
theorem cM_compare_76 : zCode 159 76 = some (.lconst 0, 77, 0, 0, 0, 0, 31) := cAM_compare_3 _ (List.mem_of_getElem? (i := 2) rfl)
theorem cM_compare_77 : zCode 159 77 = some (.lcmp, 78, 0, 0, 0, 0, 31) := cAM_compare_3 _ (List.mem_of_getElem? (i := 3) rfl)
theorem cM_compare_78 : zCode 159 78 = some (.ifCond .eq 16, 81, 94, 0, 0, 0, 31) := cAM_compare_3 _ (List.mem_of_getElem? (i := 4) rfl)
theorem cM_compare_81 : zCode 159 81 = some (.lload 4, 83, 0, 0, 0, 0, 16) := cAM_compare_3 _ (List.mem_of_getElem? (i := 5) rfl)
theorem cM_compare_83 : zCode 159 83 = some (.lconst 0, 84, 0, 0, 0, 0, 0) := cAM_compare_3 _ (List.mem_of_getElem? (i := 6) rfl)
theorem cM_compare_84 : zCode 159 84 = some (.lcmp, 85, 0, 0, 0, 0, 0) := cAM_compare_3 _ (List.mem_of_getElem? (i := 7) rfl)
theorem cM_compare_85 : zCode 159 85 = some (.ifCond .ge 7, 88, 92, 0, 0, 0, 0) := cAM_compare_3 _ (List.mem_of_getElem? (i := 8) rfl)
theorem cM_compare_88 : zCode 159 88 = some (.iconst (-1), 89, 0, 0, 0, 0, 0) := cAM_compare_3 _ (List.mem_of_getElem? (i := 9) rfl)
theorem cM_compare_89 : zCode 159 89 = some (.goto 4, 92, 93, 0, 0, 0, 0) := cAM_compare_3 _ (List.mem_of_getElem? (i := 10) rfl)
theorem cM_compare_92 : zCode 159 92 = some (.iconst 1, 93, 0, 0, 0, 0, 0) := cAM_compare_3 _ (List.mem_of_getElem? (i := 11) rfl)
theorem cM_compare_93 : zCode 159 93 = some (.ireturn, 94, 0, 0, 0, 0, 0) := cAM_compare_3 _ (List.mem_of_getElem? (i := 12) rfl)
theorem cM_compare_94 : zCode 159 94 = some (.iinc 3 (-1), 97, 0, 0, 0, 0, 15) := cAM_compare_3 _ (List.mem_of_getElem? (i := 13) rfl)
theorem cM_compare_97 : zCode 159 97 = some (.goto (-52), 100, 45, 0, 0, 0, 15) := cAM_compare_3 _ (List.mem_of_getElem? (i := 14) rfl)
theorem cM_compare_100 : zCode 159 100 = some (.iconst 0, 101, 0, 0, 0, 0, 0) := cAM_compare_3 _ (List.mem_of_getElem? (i := 15) rfl)
theorem cM_compare_101 : zCode 159 101 = some (.ireturn, 102, 0, 0, 0, 0, 0) := cAM_compare_4 _ (List.mem_of_getElem? (i := 0) rfl)
theorem rM_compare_0 {a0 : Nat} {a1 a2 : Int} {u3 u4 u5 : zV} : zS 159 0 [zR a0, zI a1, zI a2, u3, u4, u5] [] sh pp mm Q ↔ zS 159 1 [zR a0, zI a1, zI a2, zU, zU, zU] [zR a0] sh pp mm Q := s_go cM_compare_0 cM_compare_1 rfl rfl
theorem rM_compare_1 {a0 s0 : Nat} {a1 a2 : Int} {u3 u4 u5 : zV} (hk : zKd sh s0 = 12) : zS 159 1 [zR a0, zI a1, zI a2, u3, u4, u5] [zR s0] sh pp mm Q ↔ zS 159 4 [zR a0, zI a1, zI a2, zU, zU, zU] [zR (pp s0 5)] sh pp mm Q := s_go cM_compare_1 cM_compare_4 (if_pos hk) rfl
theorem rM_compare_4 {a0 s0 : Nat} {a1 a2 : Int} {u3 u4 u5 : zV} : zS 159 4 [zR a0, zI a1, zI a2, u3, u4, u5] [zR s0] sh pp mm Q ↔ zS 159 5 [zR a0, zI a1, zI a2, zU, zU, zU] [zI a1, zR s0] sh pp mm Q := s_go cM_compare_4 cM_compare_5 rfl rfl
theorem rM_compare_5 {a0 s1 : Nat} {a1 a2 s0 : Int} {u3 u4 u5 : zV} (hk : zKd sh s1 = 20 ∨ zKd sh s1 = 30) (h0 : 0 ≤ s0) (h1 : s0 < zLn sh s1) : zS 159 5 [zR a0, zI a1, zI a2, u3, u4, u5] [zI s0, zR s1] sh pp mm Q ↔ zS 159 6 [zR a0, zI a1, zI a2, zU, zU, zU] [zI (mm s1 s0)] sh pp mm Q := s_go cM_compare_5 cM_compare_6 (if_pos ⟨hk, h0, h1⟩) rfl
theorem rM_compare_6 {a0 : Nat} {a1 a2 s0 : Int} {u3 u4 u5 : zV} : zS 159 6 [zR a0, zI a1, zI a2, u3, u4, u5] [zI s0] sh pp mm Q ↔ zS 159 7 [zR a0, zI a1, zI a2, zU, zU, zU] [zR a0, zI s0] sh pp mm Q := s_go cM_compare_6 cM_compare_7 rfl rfl
theorem rM_compare_7 {a0 s0 : Nat} {a1 a2 s1 : Int} {u3 u4 u5 : zV} (hk : zKd sh s0 = 12) : zS 159 7 [zR a0, zI a1, zI a2, u3, u4, u5] [zR s0, zI s1] sh pp mm Q ↔ zS 159 10 [zR a0, zI a1, zI a2, zU, zU, zU] [zR (pp s0 5), zI s1] sh pp mm Q := s_go cM_compare_7 cM_compare_10 (if_pos hk) rfl
theorem rM_compare_10 {a0 s0 : Nat} {a1 a2 s1 : Int} {u3 u4 u5 : zV} : zS 159 10 [zR a0, zI a1, zI a2, u3, u4, u5] [zR s0, zI s1] sh pp mm Q ↔ zS 159 11 [zR a0, zI a1, zI a2, zU, zU, zU] [zI a2, zR s0, zI s1] sh pp mm Q := s_go cM_compare_10 cM_compare_11 rfl rfl
theorem rM_compare_11 {a0 s1 : Nat} {a1 a2 s0 s2 : Int} {u3 u4 u5 : zV} (hk : zKd sh s1 = 20 ∨ zKd sh s1 = 30) (h0 : 0 ≤ s0) (h1 : s0 < zLn sh s1) : zS 159 11 [zR a0, zI a1, zI a2, u3, u4, u5] [zI s0, zR s1, zI s2] sh pp mm Q ↔ zS 159 12 [zR a0, zI a1, zI a2, zU, zU, zU] [zI (mm s1 s0), zI s2] sh pp mm Q := s_go cM_compare_11 cM_compare_12 (if_pos ⟨hk, h0, h1⟩) rfl
theorem rM_compare_12 {a0 : Nat} {a1 a2 s0 s1 : Int} {u3 u4 u5 : zV} : zS 159 12 [zR a0, zI a1, zI a2, u3, u4, u5] [zI s0, zI s1] sh pp mm Q ↔ (s1 = s0 → zS 159 36 [zR a0, zI a1, zI a2, zU, zU, zU] [] sh pp mm Q) ∧ (¬ s1 = s0 → zS 159 15 [zR a0, zI a1, zI a2, zU, zU, zU] [] sh pp mm Q) := s_if cM_compare_12 cM_compare_36 cM_compare_15 rfl rfl rfl
theorem rM_compare_15 {a0 : Nat} {a1 a2 : Int} {u3 u4 u5 : zV} : zS 159 15 [zR a0, zI a1, zI a2, u3, u4, u5] [] sh pp mm Q ↔ zS 159 16 [zR a0, zI a1, zI a2, zU, zU, zU] [zR a0] sh pp mm Q := s_go cM_compare_15 cM_compare_16 rfl rfl
theorem rM_compare_16 {a0 s0 : Nat} {a1 a2 : Int} {u3 u4 u5 : zV} (hk : zKd sh s0 = 12) : zS 159 16 [zR a0, zI a1, zI a2, u3, u4, u5] [zR s0] sh pp mm Q ↔ zS 159 19 [zR a0, zI a1, zI a2, zU, zU, zU] [zR (pp s0 5)] sh pp mm Q := s_go cM_compare_16 cM_compare_19 (if_pos hk) rfl
theorem rM_compare_19 {a0 s0 : Nat} {a1 a2 : Int} {u3 u4 u5 : zV} : zS 159 19 [zR a0, zI a1, zI a2, u3, u4, u5] [zR s0] sh pp mm Q ↔ zS 159 20 [zR a0, zU, zI a2, zU, zU, zU] [zI a1, zR s0] sh pp mm Q := s_go cM_compare_19 cM_compare_20 rfl rfl
theorem rM_compare_20 {a0 s1 : Nat} {a2 s0 : Int} {u1 u3 u4 u5 : zV} (hk : zKd sh s1 = 20 ∨ zKd sh s1 = 30) (h0 : 0 ≤ s0) (h1 : s0 < zLn sh s1) : zS 159 20 [zR a0, u1, zI a2, u3, u4, u5] [zI s0, zR s1] sh pp mm Q ↔ zS 159 21 [zR a0, zU, zI a2, zU, zU, zU] [zI (mm s1 s0)] sh pp mm Q := s_go cM_compare_20 cM_compare_21 (if_pos ⟨hk, h0, h1⟩) rfl
theorem rM_compare_21 {a0 : Nat} {a2 s0 : Int} {u1 u3 u4 u5 : zV} : zS 159 21 [zR a0, u1, zI a2, u3, u4, u5] [zI s0] sh pp mm Q ↔ zS 159 22 [zU, zU, zI a2, zU, zU, zU] [zR a0, zI s0] sh pp mm Q := s_go cM_compare_21 cM_compare_22 rfl rfl
theorem rM_compare_22 {s0 : Nat} {a2 s1 : Int} {u0 u1 u3 u4 u5 : zV} (hk : zKd sh s0 = 12) : zS 159 22 [u0, u1, zI a2, u3, u4, u5] [zR s0, zI s1] sh pp mm Q ↔ zS 159 25 [zU, zU, zI a2, zU, zU, zU] [zR (pp s0 5), zI s1] sh pp mm Q := s_go cM_compare_22 cM_compare_25 (if_pos hk) rfl
theorem rM_compare_25 {s0 : Nat} {a2 s1 : Int} {u0 u1 u3 u4 u5 : zV} : zS 159 25 [u0, u1, zI a2, u3, u4, u5] [zR s0, zI s1] sh pp mm Q ↔ zS 159 26 [zU, zU, zU, zU, zU, zU] [zI a2, zR s0, zI s1] sh pp mm Q := s_go cM_compare_25 cM_compare_26 rfl rfl
theorem rM_compare_26 {s1 : Nat} {s0 s2 : Int} {u0 u1 u2 u3 u4 u5 : zV} (hk : zKd sh s1 = 20 ∨ zKd sh s1 = 30) (h0 : 0 ≤ s0) (h1 : s0 < zLn sh s1) : zS 159 26 [u0, u1, u2, u3, u4, u5] [zI s0, zR s1, zI s2] sh pp mm Q ↔ zS 159 27 [zU, zU, zU, zU, zU, zU] [zI (mm s1 s0), zI s2] sh pp mm Q := s_go cM_compare_26 cM_compare_27 (if_pos ⟨hk, h0, h1⟩) rfl
theorem rM_compare_27 {s0 s1 : Int} {u0 u1 u2 u3 u4 u5 : zV} : zS 159 27 [u0, u1, u2, u3, u4, u5] [zI s0, zI s1] sh pp mm Q ↔ (s1 < s0 → zS 159 30 [zU, zU, zU, zU, zU, zU] [] sh pp mm Q) ∧ (¬ s1 < s0 → zS 159 34 [zU, zU, zU, zU, zU, zU] [] sh pp mm Q) := s_ifn cM_compare_27 cM_compare_30 cM_compare_34 rfl rfl rfl
theorem rM_compare_30 {u0 u1 u2 u3 u4 u5 : zV} : zS 159 30 [u0, u1, u2, u3, u4, u5] [] sh pp mm Q ↔ zS 159 31 [zU, zU, zU, zU, zU, zU] [zI (-1)] sh pp mm Q := s_go cM_compare_30 cM_compare_31 rfl rfl
theorem rM_compare_31 {s0 : Int} {u0 u1 u2 u3 u4 u5 : zV} : zS 159 31 [u0, u1, u2, u3, u4, u5] [zI s0] sh pp mm Q ↔ zS 159 35 [zU, zU, zU, zU, zU, zU] [zI s0] sh pp mm Q := s_go cM_compare_31 cM_compare_35 rfl rfl
theorem rM_compare_34 {u0 u1 u2 u3 u4 u5 : zV} : zS 159 34 [u0, u1, u2, u3, u4, u5] [] sh pp mm Q ↔ zS 159 35 [zU, zU, zU, zU, zU, zU] [zI 1] sh pp mm Q := s_go cM_compare_34 cM_compare_35 rfl rfl
theorem rM_compare_35 {s0 : Int} {u0 u1 u2 u3 u4 u5 : zV} : zS 159 35 [u0, u1, u2, u3, u4, u5] [zI s0] sh pp mm Q ↔ Q (zI s0) sh pp mm := s_ret cM_compare_35 rfl
theorem rM_compare_36 {a0 : Nat} {a1 a2 : Int} {u3 u4 u5 : zV} : zS 159 36 [zR a0, zI a1, zI a2, u3, u4, u5] [] sh pp mm Q ↔ zS 159 37 [zR a0, zI a1, zI a2, zU, zU, zU] [zR a0] sh pp mm Q := s_go cM_compare_36 cM_compare_37 rfl rfl
theorem rM_compare_37 {a0 s0 : Nat} {a1 a2 : Int} {u3 u4 u5 : zV} (hk : zKd sh s0 = 12) : zS 159 37 [zR a0, zI a1, zI a2, u3, u4, u5] [zR s0] sh pp mm Q ↔ zS 159 40 [zR a0, zI a1, zI a2, zU, zU, zU] [zR (pp s0 5)] sh pp mm Q := s_go cM_compare_37 cM_compare_40 (if_pos hk) rfl
theorem rM_compare_40 {a0 s0 : Nat} {a1 a2 : Int} {u3 u4 u5 : zV} : zS 159 40 [zR a0, zI a1, zI a2, u3, u4, u5] [zR s0] sh pp mm Q ↔ zS 159 41 [zR a0, zI a1, zI a2, zU, zU, zU] [zI a1, zR s0] sh pp mm Q := s_go cM_compare_40 cM_compare_41 rfl rfl
theorem rM_compare_41 {a0 s1 : Nat} {a1 a2 s0 : Int} {u3 u4 u5 : zV} (hk : zKd sh s1 = 20 ∨ zKd sh s1 = 30) (h0 : 0 ≤ s0) (h1 : s0 < zLn sh s1) : zS 159 41 [zR a0, zI a1, zI a2, u3, u4, u5] [zI s0, zR s1] sh pp mm Q ↔ zS 159 42 [zR a0, zI a1, zI a2, zU, zU, zU] [zI (mm s1 s0)] sh pp mm Q := s_go cM_compare_41 cM_compare_42 (if_pos ⟨hk, h0, h1⟩) rfl
theorem rM_compare_42 {a0 : Nat} {a1 a2 s0 : Int} {u3 u4 u5 : zV} : zS 159 42 [zR a0, zI a1, zI a2, u3, u4, u5] [zI s0] sh pp mm Q ↔ zS 159 43 [zR a0, zI a1, zI a2, zU, zU, zU] [zI 1, zI s0] sh pp mm Q := s_go cM_compare_42 cM_compare_43 rfl rfl
theorem rM_compare_43 {a0 : Nat} {a1 a2 s0 s1 : Int} {u3 u4 u5 : zV} : zS 159 43 [zR a0, zI a1, zI a2, u3, u4, u5] [zI s0, zI s1] sh pp mm Q ↔ zS 159 44 [zR a0, zI a1, zI a2, zU, zU, zU] [zI (zw32 (s1 - s0))] sh pp mm Q := s_go cM_compare_43 cM_compare_44 rfl rfl
theorem rM_compare_44 {a0 : Nat} {a1 a2 s0 : Int} {u3 u4 u5 : zV} : zS 159 44 [zR a0, zI a1, zI a2, u3, u4, u5] [zI s0] sh pp mm Q ↔ zS 159 45 [zR a0, zI a1, zI a2, zI s0, zU, zU] [] sh pp mm Q := s_go cM_compare_44 cM_compare_45 rfl rfl
theorem rM_compare_45 {a0 : Nat} {a1 a2 a3 : Int} {u4 u5 : zV} : zS 159 45 [zR a0, zI a1, zI a2, zI a3, u4, u5] [] sh pp mm Q ↔ zS 159 46 [zR a0, zI a1, zI a2, zI a3, zU, zU] [zI a3] sh pp mm Q := s_go cM_compare_45 cM_compare_46 rfl rfl
theorem rM_compare_46 {a0 : Nat} {a1 a2 a3 s0 : Int} {u4 u5 : zV} : zS 159 46 [zR a0, zI a1, zI a2, zI a3, u4, u5] [zI s0] sh pp mm Q ↔ (s0 < 0 → zS 159 100 [zU, zU, zU, zU, zU, zU] [] sh pp mm Q) ∧ (¬ s0 < 0 → zS 159 49 [zR a0, zI a1, zI a2, zI a3, zU, zU] [] sh pp mm Q) := s_if cM_compare_46 cM_compare_100 cM_compare_49 rfl rfl rfl
theorem rM_compare_49 {a0 : Nat} {a1 a2 a3 : Int} {u4 u5 : zV} : zS 159 49 [zR a0, zI a1, zI a2, zI a3, u4, u5] [] sh pp mm Q ↔ zS 159 50 [zR a0, zI a1, zI a2, zI a3, zU, zU] [zR a0] sh pp mm Q := s_go cM_compare_49 cM_compare_50 rfl rfl
theorem rM_compare_50 {a0 s0 : Nat} {a1 a2 a3 : Int} {u4 u5 : zV} (hk : zKd sh s0 = 12) : zS 159 50 [zR a0, zI a1, zI a2, zI a3, u4, u5] [zR s0] sh pp mm Q ↔ zS 159 53 [zR a0, zI a1, zI a2, zI a3, zU, zU] [zR (pp s0 4)] sh pp mm Q := s_go cM_compare_50 cM_compare_53 (if_pos hk) rfl
theorem rM_compare_53 {a0 s0 : Nat} {a1 a2 a3 : Int} {u4 u5 : zV} : zS 159 53 [zR a0, zI a1, zI a2, zI a3, u4, u5] [zR s0] sh pp mm Q ↔ zS 159 55 [zR a0, zI a1, zI a2, zI a3, zU, zU] [zI 64, zR s0] sh pp mm Q := s_go cM_compare_53 cM_compare_55 rfl rfl
theorem rM_compare_55 {a0 s1 : Nat} {a1 a2 a3 s0 : Int} {u4 u5 : zV} : zS 159 55 [zR a0, zI a1, zI a2, zI a3, u4, u5] [zI s0, zR s1] sh pp mm Q ↔ zS 159 56 [zR a0, zI a1, zI a2, zI a3, zU, zU] [zI a1, zI s0, zR s1] sh pp mm Q := s_go cM_compare_55 cM_compare_56 rfl rfl
theorem rM_compare_56 {a0 s2 : Nat} {a1 a2 a3 s0 s1 : Int} {u4 u5 : zV} : zS 159 56 [zR a0, zI a1, zI a2, zI a3, u4, u5] [zI s0, zI s1, zR s2] sh pp mm Q ↔ zS 159 57 [zR a0, zI a1, zI a2, zI a3, zU, zU] [zI (zw32 (s1 * s0)), zR s2] sh pp mm Q := s_go cM_compare_56 cM_compare_57 rfl rfl
theorem rM_compare_57 {a0 s1 : Nat} {a1 a2 a3 s0 : Int} {u4 u5 : zV} : zS 159 57 [zR a0, zI a1, zI a2, zI a3, u4, u5] [zI s0, zR s1] sh pp mm Q ↔ zS 159 58 [zR a0, zI a1, zI a2, zI a3, zU, zU] [zI a3, zI s0, zR s1] sh pp mm Q := s_go cM_compare_57 cM_compare_58 rfl rfl
theorem rM_compare_58 {a0 s2 : Nat} {a1 a2 a3 s0 s1 : Int} {u4 u5 : zV} : zS 159 58 [zR a0, zI a1, zI a2, zI a3, u4, u5] [zI s0, zI s1, zR s2] sh pp mm Q ↔ zS 159 59 [zR a0, zI a1, zI a2, zI a3, zU, zU] [zI (zw32 (s1 + s0)), zR s2] sh pp mm Q := s_go cM_compare_58 cM_compare_59 rfl rfl
theorem rM_compare_59 {a0 s1 : Nat} {a1 a2 a3 s0 : Int} {u4 u5 : zV} (hk : zKd sh s1 = 21) (h0 : 0 ≤ s0) (h1 : s0 < zLn sh s1) : zS 159 59 [zR a0, zI a1, zI a2, zI a3, u4, u5] [zI s0, zR s1] sh pp mm Q ↔ zS 159 60 [zR a0, zI a1, zI a2, zI a3, zU, zU] [zL (mm s1 s0)] sh pp mm Q := s_go cM_compare_59 cM_compare_60 (if_pos ⟨hk, h0, h1⟩) rfl
theorem rM_compare_60 {a0 : Nat} {a1 a2 a3 s0 : Int} {u4 u5 : zV} : zS 159 60 [zR a0, zI a1, zI a2, zI a3, u4, u5] [zL s0] sh pp mm Q ↔ zS 159 61 [zR a0, zI a1, zI a2, zI a3, zU, zU] [zR a0, zL s0] sh pp mm Q := s_go cM_compare_60 cM_compare_61 rfl rfl
theorem rM_compare_61 {a0 s0 : Nat} {a1 a2 a3 s1 : Int} {u4 u5 : zV} (hk : zKd sh s0 = 12) : zS 159 61 [zR a0, zI a1, zI a2, zI a3, u4, u5] [zR s0, zL s1] sh pp mm Q ↔ zS 159 64 [zR a0, zI a1, zI a2, zI a3, zU, zU] [zR (pp s0 4), zL s1] sh pp mm Q := s_go cM_compare_61 cM_compare_64 (if_pos hk) rfl
theorem rM_compare_64 {a0 s0 : Nat} {a1 a2 a3 s1 : Int} {u4 u5 : zV} : zS 159 64 [zR a0, zI a1, zI a2, zI a3, u4, u5] [zR s0, zL s1] sh pp mm Q ↔ zS 159 66 [zR a0, zI a1, zI a2, zI a3, zU, zU] [zI 64, zR s0, zL s1] sh pp mm Q := s_go cM_compare_64 cM_compare_66 rfl rfl
theorem rM_compare_66 {a0 s1 : Nat} {a1 a2 a3 s0 s2 : Int} {u4 u5 : zV} : zS 159 66 [zR a0, zI a1, zI a2, zI a3, u4, u5] [zI s0, zR s1, zL s2] sh pp mm Q ↔ zS 159 67 [zR a0, zI a1, zI a2, zI a3, zU, zU] [zI a2, zI s0, zR s1, zL s2] sh pp mm Q := s_go cM_compare_66 cM_compare_67 rfl rfl
theorem rM_compare_67 {a0 s2 : Nat} {a1 a2 a3 s0 s1 s3 : Int} {u4 u5 : zV} : zS 159 67 [zR a0, zI a1, zI a2, zI a3, u4, u5] [zI s0, zI s1, zR s2, zL s3] sh pp mm Q ↔ zS 159 68 [zR a0, zI a1, zI a2, zI a3, zU, zU] [zI (zw32 (s1 * s0)), zR s2, zL s3] sh pp mm Q := s_go cM_compare_67 cM_compare_68 rfl rfl
theorem rM_compare_68 {a0 s1 : Nat} {a1 a2 a3 s0 s2 : Int} {u4 u5 : zV} : zS 159 68 [zR a0, zI a1, zI a2, zI a3, u4, u5] [zI s0, zR s1, zL s2] sh pp mm Q ↔ zS 159 69 [zR a0, zI a1, zI a2, zI a3, zU, zU] [zI a3, zI s0, zR s1, zL s2] sh pp mm Q := s_go cM_compare_68 cM_compare_69 rfl rfl
theorem rM_compare_69 {a0 s2 : Nat} {a1 a2 a3 s0 s1 s3 : Int} {u4 u5 : zV} : zS 159 69 [zR a0, zI a1, zI a2, zI a3, u4, u5] [zI s0, zI s1, zR s2, zL s3] sh pp mm Q ↔ zS 159 70 [zR a0, zI a1, zI a2, zI a3, zU, zU] [zI (zw32 (s1 + s0)), zR s2, zL s3] sh pp mm Q := s_go cM_compare_69 cM_compare_70 rfl rfl
theorem rM_compare_70 {a0 s1 : Nat} {a1 a2 a3 s0 s2 : Int} {u4 u5 : zV} (hk : zKd sh s1 = 21) (h0 : 0 ≤ s0) (h1 : s0 < zLn sh s1) : zS 159 70 [zR a0, zI a1, zI a2, zI a3, u4, u5] [zI s0, zR s1, zL s2] sh pp mm Q ↔ zS 159 71 [zR a0, zI a1, zI a2, zI a3, zU, zU] [zL (mm s1 s0), zL s2] sh pp mm Q := s_go cM_compare_70 cM_compare_71 (if_pos ⟨hk, h0, h1⟩) rfl
theorem rM_compare_71 {a0 : Nat} {a1 a2 a3 s0 s1 : Int} {u4 u5 : zV} : zS 159 71 [zR a0, zI a1, zI a2, zI a3, u4, u5] [zL s0, zL s1] sh pp mm Q ↔ zS 159 72 [zR a0, zI a1, zI a2, zI a3, zU, zU] [zL (zw64 (s1 - s0))] sh pp mm Q := s_go cM_compare_71 cM_compare_72 rfl rfl
theorem rM_compare_72 {a0 : Nat} {a1 a2 a3 s0 : Int} {u4 u5 : zV} : zS 159 72 [zR a0, zI a1, zI a2, zI a3, u4, u5] [zL s0] sh pp mm Q ↔ zS 159 74 [zR a0, zI a1, zI a2, zI a3, zL s0, zU] [] sh pp mm Q := s_go cM_compare_72 cM_compare_74 rfl rfl
theorem rM_compare_74 {a0 : Nat} {a1 a2 a3 a4 : Int} {u5 : zV} : zS 159 74 [zR a0, zI a1, zI a2, zI a3, zL a4, u5] [] sh pp mm Q ↔ zS 159 76 [zR a0, zI a1, zI a2, zI a3, zL a4, zU] [zL a4] sh pp mm Q := s_go cM_compare_74 cM_compare_76 rfl rfl
theorem rM_compare_76 {a0 : Nat} {a1 a2 a3 a4 s0 : Int} {u5 : zV} : zS 159 76 [zR a0, zI a1, zI a2, zI a3, zL a4, u5] [zL s0] sh pp mm Q ↔ zS 159 77 [zR a0, zI a1, zI a2, zI a3, zL a4, zU] [zL 0, zL s0] sh pp mm Q := s_go cM_compare_76 cM_compare_77 rfl rfl
theorem rM_compare_77 {a0 : Nat} {a1 a2 a3 a4 s0 s1 : Int} {u5 : zV} : zS 159 77 [zR a0, zI a1, zI a2, zI a3, zL a4, u5] [zL s0, zL s1] sh pp mm Q ↔ zS 159 78 [zR a0, zI a1, zI a2, zI a3, zL a4, zU] [zI (zcmp s1 s0)] sh pp mm Q := s_go cM_compare_77 cM_compare_78 rfl rfl
theorem rM_compare_78 {a0 : Nat} {a1 a2 a3 a4 s0 : Int} {u5 : zV} : zS 159 78 [zR a0, zI a1, zI a2, zI a3, zL a4, u5] [zI s0] sh pp mm Q ↔ (s0 = 0 → zS 159 94 [zR a0, zI a1, zI a2, zI a3, zU, zU] [] sh pp mm Q) ∧ (¬ s0 = 0 → zS 159 81 [zU, zU, zU, zU, zL a4, zU] [] sh pp mm Q) := s_if cM_compare_78 cM_compare_94 cM_compare_81 rfl rfl rfl
theorem rM_compare_81 {a4 : Int} {u0 u1 u2 u3 u5 : zV} : zS 159 81 [u0, u1, u2, u3, zL a4, u5] [] sh pp mm Q ↔ zS 159 83 [zU, zU, zU, zU, zU, zU] [zL a4] sh pp mm Q := s_go cM_compare_81 cM_compare_83 rfl rfl
theorem rM_compare_83 {s0 : Int} {u0 u1 u2 u3 u4 u5 : zV} : zS 159 83 [u0, u1, u2, u3, u4, u5] [zL s0] sh pp mm Q ↔ zS 159 84 [zU, zU, zU, zU, zU, zU] [zL 0, zL s0] sh pp mm Q := s_go cM_compare_83 cM_compare_84 rfl rfl
theorem rM_compare_84 {s0 s1 : Int} {u0 u1 u2 u3 u4 u5 : zV} : zS 159 84 [u0, u1, u2, u3, u4, u5] [zL s0, zL s1] sh pp mm Q ↔ zS 159 85 [zU, zU, zU, zU, zU, zU] [zI (zcmp s1 s0)] sh pp mm Q := s_go cM_compare_84 cM_compare_85 rfl rfl
theorem rM_compare_85 {s0 : Int} {u0 u1 u2 u3 u4 u5 : zV} : zS 159 85 [u0, u1, u2, u3, u4, u5] [zI s0] sh pp mm Q ↔ (s0 < 0 → zS 159 88 [zU, zU, zU, zU, zU, zU] [] sh pp mm Q) ∧ (¬ s0 < 0 → zS 159 92 [zU, zU, zU, zU, zU, zU] [] sh pp mm Q) := s_ifn cM_compare_85 cM_compare_88 cM_compare_92 rfl rfl rfl
theorem rM_compare_88 {u0 u1 u2 u3 u4 u5 : zV} : zS 159 88 [u0, u1, u2, u3, u4, u5] [] sh pp mm Q ↔ zS 159 89 [zU, zU, zU, zU, zU, zU] [zI (-1)] sh pp mm Q := s_go cM_compare_88 cM_compare_89 rfl rfl
theorem rM_compare_89 {s0 : Int} {u0 u1 u2 u3 u4 u5 : zV} : zS 159 89 [u0, u1, u2, u3, u4, u5] [zI s0] sh pp mm Q ↔ zS 159 93 [zU, zU, zU, zU, zU, zU] [zI s0] sh pp mm Q := s_go cM_compare_89 cM_compare_93 rfl rfl
theorem rM_compare_92 {u0 u1 u2 u3 u4 u5 : zV} : zS 159 92 [u0, u1, u2, u3, u4, u5] [] sh pp mm Q ↔ zS 159 93 [zU, zU, zU, zU, zU, zU] [zI 1] sh pp mm Q := s_go cM_compare_92 cM_compare_93 rfl rfl
theorem rM_compare_93 {s0 : Int} {u0 u1 u2 u3 u4 u5 : zV} : zS 159 93 [u0, u1, u2, u3, u4, u5] [zI s0] sh pp mm Q ↔ Q (zI s0) sh pp mm := s_ret cM_compare_93 rfl
theorem rM_compare_94 {a0 : Nat} {a1 a2 a3 : Int} {u4 u5 : zV} : zS 159 94 [zR a0, zI a1, zI a2, zI a3, u4, u5] [] sh pp mm Q ↔ zS 159 97 [zR a0, zI a1, zI a2, zI (zw32 (a3 + (-1))), zU, zU] [] sh pp mm Q := s_go cM_compare_94 cM_compare_97 rfl rfl
theorem rM_compare_97 {a0 : Nat} {a1 a2 a3 : Int} {u4 u5 : zV} : zS 159 97 [zR a0, zI a1, zI a2, zI a3, u4, u5] [] sh pp mm Q ↔ zS 159 45 [zR a0, zI a1, zI a2, zI a3, zU, zU] [] sh pp mm Q := s_go cM_compare_97 cM_compare_45 rfl rfl
theorem rM_compare_100 {u0 u1 u2 u3 u4 u5 : zV} : zS 159 100 [u0, u1, u2, u3, u4, u5] [] sh pp mm Q ↔ zS 159 101 [zU, zU, zU, zU, zU, zU] [zI 0] sh pp mm Q := s_go cM_compare_100 cM_compare_101 rfl rfl
theorem rM_compare_101 {s0 : Int} {u0 u1 u2 u3 u4 u5 : zV} : zS 159 101 [u0, u1, u2, u3, u4, u5] [zI s0] sh pp mm Q ↔ Q (zI s0) sh pp mm := s_ret cM_compare_101 rfl
theorem cAM_add : ∀ q ∈ zT160, zCode 160 q.1 = some q.2 := zAll (mid := 160) rfl (by decide +kernel)
theorem cAM_add_0 : ∀ q ∈ zT160_0, zCode 160 q.1 = some q.2 := fun q h => cAM_add q (List.mem_append_left _ h)
theorem cAM_add_1 : ∀ q ∈ zT160_1, zCode 160 q.1 = some q.2 := fun q h => cAM_add q (List.mem_append_right _ (List.mem_append_left _ h))
theorem cAM_add_2 : ∀ q ∈ zT160_2, zCode 160 q.1 = some q.2 := fun q h => cAM_add q (List.mem_append_right _ (List.mem_append_right _ (List.mem_append_left _ h)))
theorem cAM_add_3 : ∀ q ∈ zT160_3, zCode 160 q.1 = some q.2 := fun q h => cAM_add q (List.mem_append_right _ (List.mem_append_right _ (List.mem_append_right _ (List.mem_append_left _ h))))
theorem cAM_add_4 : ∀ q ∈ zT160_4, zCode 160 q.1 = some q.2 := fun q h => cAM_add q (List.mem_append_right _ (List.mem_append_right _ (List.mem_append_right _ (List.mem_append_right _ (List.mem_append_left _ h)))))
theorem cAM_add_5 : ∀ q ∈ zT160_5, zCode 160 q.1 = some q.2 := fun q h => cAM_add q (List.mem_append_right _ (List.mem_append_right _ (List.mem_append_right _ (List.mem_append_right _ (List.mem_append_right _ (List.mem_append_left _ h))))))
theorem cAM_add_6 : ∀ q ∈ zT160_6, zCode 160 q.1 = some q.2 := fun q h => cAM_add q (List.mem_append_right _ (List.mem_append_right _ (List.mem_append_right _ (List.mem_append_right _ (List.mem_append_right _ (List.mem_append_right _ h))))))
theorem cM_add_0 : zCode 160 0 = some (.lconst 0, 1, 0, 0, 0, 0, 7) := cAM_add_0 _ (List.mem_of_getElem? (i := 0) rfl)
theorem cM_add_1 : zCode 160 1 = some (.lstore_n 3, 2, 0, 0, 0, 0, 7) := cAM_add_0 _ (List.mem_of_getElem? (i := 1) rfl)
theorem cM_add_2 : zCode 160 2 = some (.aload_n 0, 3, 0, 0, 0, 0, 15) := cAM_add_0 _ (List.mem_of_getElem? (i := 2) rfl)
theorem cM_add_3 : zCode 160 3 = some (.getfield 27, 6, 12, 5, 2, 1214, 15) := cAM_add_0 _ (List.mem_of_getElem? (i := 3) rfl)
theorem cM_add_6 : zCode 160 6 = some (.iload_n 1, 7, 0, 0, 0, 0, 15) := cAM_add_0 _ (List.mem_of_getElem? (i := 4) rfl)
theorem cM_add_7 : zCode 160 7 = some (.iaload, 8, 0, 0, 0, 0, 15) := cAM_add_0 _ (List.mem_of_getElem? (i := 5) rfl)
theorem cM_add_8 : zCode 160 8 = some (.aload_n 0, 9, 0, 0, 0, 0, 15) := cAM_add_0 _ (List.mem_of_getElem? (i := 6) rfl)
theorem cM_add_9 : zCode 160 9 = some (.getfield 27, 12, 12, 5, 2, 1214, 15) := cAM_add_0 _ (List.mem_of_getElem? (i := 7) rfl)
theorem cM_add_12 : zCode 160 12 = some (.iload_n 2, 13, 0, 0, 0, 0, 15) := cAM_add_0 _ (List.mem_of_getElem? (i := 8) rfl)
theorem cM_add_13 : zCode 160 13 = some (.iaload, 14, 0, 0, 0, 0, 15) := cAM_add_0 _ (List.mem_of_getElem? (i := 9) rfl)
theorem cM_add_14 : zCode 160 14 = some (.if_icmp .le 12, 17, 26, 0, 0, 0, 15) := cAM_add_0 _ (List.mem_of_getElem? (i := 10) rfl)
theorem cM_add_17 : zCode 160 17 = some (.aload_n 0, 18, 0, 0, 0, 0, 15) := cAM_add_0 _ (List.mem_of_getElem? (i := 11) rfl)
theorem cM_add_18 : zCode 160 18 = some (.getfield 27, 21, 12, 5, 2, 1214, 15) := cAM_add_0 _ (List.mem_of_getElem? (i := 12) rfl)
theorem cM_add_21 : zCode 160 21 = some (.iload_n 1, 22, 0, 0, 0, 0, 15) := cAM_add_0 _ (List.mem_of_getElem? (i := 13) rfl)
theorem cM_add_22 : zCode 160 22 = some (.iaload, 23, 0, 0, 0, 0, 15) := cAM_add_0 _ (List.mem_of_getElem? (i := 14) rfl)
theorem cM_add_23 : zCode 160 23 = some (.goto 9, 26, 32, 0, 0, 0, 15) := cAM_add_0 _ (List.mem_of_getElem? (i := 15) rfl)
theorem cM_add_26 : zCode 160 26 = some (.aload_n 0, 27, 0, 0, 0, 0, 15) := cAM_add_1 _ (List.mem_of_getElem? (i := 0) rfl)
theorem cM_add_27 : zCode 160 27 = some (.getfield 27, 30, 12, 5, 2, 1214, 15) := cAM_add_1 _ (List.mem_of_getElem? (i := 1) rfl)
theorem cM_add_30 : zCode 160 30 = some (.iload_n 2, 31, 0, 0, 0, 0, 15) := cAM_add_1 _ (List.mem_of_getElem? (i := 2) rfl)
theorem cM_add_31 : zCode 160 31 = some (.iaload, 32, 0, 0, 0, 0, 15) := cAM_add_1 _ (List.mem_of_getElem? (i := 3) rfl)
theorem cM_add_32 : zCode 160 32 = some (.istore 5, 34, 0, 0, 0, 0, 15) := cAM_add_1 _ (List.mem_of_getElem? (i := 4) rfl)
theorem cM_add_34 : zCode 160 34 = some (.iconst 0, 35, 0, 0, 0, 0, 47) := cAM_add_1 _ (List.mem_of_getElem? (i := 5) rfl)
theorem cM_add_35 : zCode 160 35 = some (.istore 6, 37, 0, 0, 0, 0, 47) := cAM_add_1 _ (List.mem_of_getElem? (i := 6) rfl)
theorem cM_add_37 : zCode 160 37 = some (.iload 6, 39, 0, 0, 0, 0, 111) := cAM_add_1 _ (List.mem_of_getElem? (i := 7) rfl)
theorem cM_add_39 : zCode 160 39 = some (.iload 5, 41, 0, 0, 0, 0, 111) := cAM_add_1 _ (List.mem_of_getElem? (i := 8) rfl)
theorem cM_add_41 : zCode 160 41 = some (.if_icmp .ge 93, 44, 134, 0, 0, 0, 111) := cAM_add_1 _ (List.mem_of_getElem? (i := 9) rfl)
theorem cM_add_44 : zCode 160 44 = some (.iload 6, 46, 0, 0, 0, 0, 111) := cAM_add_1 _ (List.mem_of_getElem? (i := 10) rfl)
theorem cM_add_46 : zCode 160 46 = some (.aload_n 0, 47, 0, 0, 0, 0, 111) := cAM_add_1 _ (List.mem_of_getElem? (i := 11) rfl)
theorem cM_add_47 : zCode 160 47 = some (.getfield 27, 50, 12, 5, 2, 1214, 111) := cAM_add_1 _ (List.mem_of_getElem? (i := 12) rfl)
theorem cM_add_50 : zCode 160 50 = some (.iload_n 1, 51, 0, 0, 0, 0, 111) := cAM_add_1 _ (List.mem_of_getElem? (i := 13) rfl)
theorem cM_add_51 : zCode 160 51 = some (.iaload, 52, 0, 0, 0, 0, 111) := cAM_add_1 _ (List.mem_of_getElem? (i := 14) rfl)
theorem cM_add_52 : zCode 160 52 = some (.if_icmp .ge 18, 55, 70, 0, 0, 0, 111) := cAM_add_1 _ (List.mem_of_getElem? (i := 15) rfl)
theorem cM_add_55 : zCode 160 55 = some (.aload_n 0, 56, 0, 0, 0, 0, 111) := cAM_add_2 _ (List.mem_of_getElem? (i := 0) rfl)
theorem cM_add_56 : zCode 160 56 = some (.getfield 23, 59, 12, 4, 2, 1213, 111) := cAM_add_2 _ (List.mem_of_getElem? (i := 1) rfl)
theorem cM_add_59 : zCode 160 59 = some (.bipush 64, 61, 0, 0, 0, 0, 111) := cAM_add_2 _ (List.mem_of_getElem? (i := 2) rfl)
theorem cM_add_61 : zCode 160 61 = some (.iload_n 1, 62, 0, 0, 0, 0, 111) := cAM_add_2 _ (List.mem_of_getElem? (i := 3) rfl)
theorem cM_add_62 : zCode 160 62 = some (.imul, 63, 0, 0, 0, 0, 111) := cAM_add_2 _ (List.mem_of_getElem? (i := 4) rfl)
theorem cM_add_63 : zCode 160 63 = some (.iload 6, 65, 0, 0, 0, 0, 111) := cAM_add_2 _ (List.mem_of_getElem? (i := 5) rfl)
theorem cM_add_65 : zCode 160 65 = some (.iadd, 66, 0, 0, 0, 0, 111) := cAM_add_2 _ (List.mem_of_getElem? (i := 6) rfl)
theorem cM_add_66 : zCode 160 66 = some (.laload, 67, 0, 0, 0, 0, 111) := cAM_add_2 _ (List.mem_of_getElem? (i := 7) rfl)
theorem cM_add_67 : zCode 160 67 = some (.goto 4, 70, 71, 0, 0, 0, 111) := cAM_add_2 _ (List.mem_of_getElem? (i := 8) rfl)
theorem cM_add_70 : zCode 160 70 = some (.lconst 0, 71, 0, 0, 0, 0, 111) := cAM_add_2 _ (List.mem_of_getElem? (i := 9) rfl)
theorem cM_add_71 : zCode 160 71 = some (.iload 6, 73, 0, 0, 0, 0, 111) := cAM_add_2 _ (List.mem_of_getElem? (i := 10) rfl)
theorem cM_add_73 : zCode 160 73 = some (.aload_n 0, 74, 0, 0, 0, 0, 111) := cAM_add_2 _ (List.mem_of_getElem? (i := 11) rfl)
theorem cM_add_74 : zCode 160 74 = some (.getfield 27, 77, 12, 5, 2, 1214, 111) := cAM_add_2 _ (List.mem_of_getElem? (i := 12) rfl)
theorem cM_add_77 : zCode 160 77 = some (.iload_n 2, 78, 0, 0, 0, 0, 111) := cAM_add_2 _ (List.mem_of_getElem? (i := 13) rfl)
theorem cM_add_78 : zCode 160 78 = some (.iaload, 79, 0, 0, 0, 0, 111) := cAM_add_2 _ (List.mem_of_getElem? (i := 14) rfl)
theorem cM_add_79 : zCode 160 79 = some (.if_icmp .ge 18, 82, 97, 0, 0, 0, 111) := cAM_add_2 _ (List.mem_of_getElem? (i := 15) rfl)
theorem cM_add_82 : zCode 160 82 = some (.aload_n 0, 83, 0, 0, 0, 0, 111) := cAM_add_3 _ (List.mem_of_getElem? (i := 0) rfl)
theorem cM_add_83 : zCode 160 83 = some (.getfield 23, 86, 12, 4, 2, 1213, 111) := cAM_add_3 _ (List.mem_of_getElem? (i := 1) rfl)
theorem cM_add_86 : zCode 160 86 = some (.bipush 64, 88, 0, 0, 0, 0, 111) := cAM_add_3 _ (List.mem_of_getElem? (i := 2) rfl)
theorem cM_add_88 : zCode 160 88 = some (.iload_n 2, 89, 0, 0, 0, 0, 111) := cAM_add_3 _ (List.mem_of_getElem? (i := 3) rfl)
theorem cM_add_89 : zCode 160 89 = some (.imul, 90, 0, 0, 0, 0, 111) := cAM_add_3 _ (List.mem_of_getElem? (i := 4) rfl)
theorem cM_add_90 : zCode 160 90 = some (.iload 6, 92, 0, 0, 0, 0, 111) := cAM_add_3 _ (List.mem_of_getElem? (i := 5) rfl)
theorem cM_add_92 : zCode 160 92 = some (.iadd, 93, 0, 0, 0, 0, 111) := cAM_add_3 _ (List.mem_of_getElem? (i := 6) rfl)
theorem cM_add_93 : zCode 160 93 = some (.laload, 94, 0, 0, 0, 0, 111) := cAM_add_3 _ (List.mem_of_getElem? (i := 7) rfl)
theorem cM_add_94 : zCode 160 94 = some (.goto 4, 97, 98, 0, 0, 0, 111) := cAM_add_3 _ (List.mem_of_getElem? (i := 8) rfl)
theorem cM_add_97 : zCode 160 97 = some (.lconst 0, 98, 0, 0, 0, 0, 111) := cAM_add_3 _ (List.mem_of_getElem? (i := 9) rfl)
theorem cM_add_98 : zCode 160 98 = some (.ladd, 99, 0, 0, 0, 0, 111) := cAM_add_3 _ (List.mem_of_getElem? (i := 10) rfl)
theorem cM_add_99 : zCode 160 99 = some (.lload_n 3, 100, 0, 0, 0, 0, 111) := cAM_add_3 _ (List.mem_of_getElem? (i := 11) rfl)
theorem cM_add_100 : zCode 160 100 = some (.ladd, 101, 0, 0, 0, 0, 103) := cAM_add_3 _ (List.mem_of_getElem? (i := 12) rfl)
theorem cM_add_101 : zCode 160 101 = some (.lstore 7, 103, 0, 0, 0, 0, 103) := cAM_add_3 _ (List.mem_of_getElem? (i := 13) rfl)
theorem cM_add_103 : zCode 160 103 = some (.aload_n 0, 104, 0, 0, 0, 0, 231) := cAM_add_3 _ (List.mem_of_getElem? (i := 14) rfl)
theorem cM_add_104 : zCode 160 104 = some (.getfield 23, 107, 12, 4, 2, 1213, 231) := cAM_add_3 _ (List.mem_of_getElem? (i := 15) rfl)
theorem cM_add_107 : zCode 160 107 = some (.bipush 64, 109, 0, 0, 0, 0, 231) := cAM_add_4 _ (List.mem_of_getElem? (i := 0) rfl)
theorem cM_add_109 : zCode 160 109 = some (.iload_n 1, 110, 0, 0, 0, 0, 231) := cAM_add_4 _ (List.mem_of_getElem? (i := 1) rfl)
theorem cM_add_110 : zCode 160 110 = some (.imul, 111, 0, 0, 0, 0, 231) := cAM_add_4 _ (List.mem_of_getElem? (i := 2) rfl)
theorem cM_add_111 : zCode 160 111 = some (.iload 6, 113, 0, 0, 0, 0, 231) := cAM_add_4 _ (List.mem_of_getElem? (i := 3) rfl)
theorem cM_add_113 : zCode 160 113 = some (.iadd, 114, 0, 0, 0, 0, 231) := cAM_add_4 _ (List.mem_of_getElem? (i := 4) rfl)
theorem cM_add_114 : zCode 160 114 = some (.lload 7, 116, 0, 0, 0, 0, 231) := cAM_add_4 _ (List.mem_of_getElem? (i := 5) rfl)
theorem cM_add_116 : zCode 160 116 = some (.ldc2_w 77, 119, 0, 0, 1208, 1073741824, 231) := cAM_add_4 _ (List.mem_of_getElem? (i := 6) rfl)
theorem cM_add_119 : zCode 160 119 = some (.lrem, 120, 0, 0, 0, 0, 231) := cAM_add_4 _ (List.mem_of_getElem? (i := 7) rfl)
theorem cM_add_120 : zCode 160 120 = some (.lastore, 121, 0, 0, 0, 0, 231) := cAM_add_4 _ (List.mem_of_getElem? (i := 8) rfl)
theorem cM_add_121 : zCode 160 121 = some (.lload 7, 123, 0, 0, 0, 0, 231) := cAM_add_4 _ (List.mem_of_getElem? (i := 9) rfl)
theorem cM_add_123 : zCode 160 123 = some (.ldc2_w 77, 126, 0, 0, 1208, 1073741824, 103) := cAM_add_4 _ (List.mem_of_getElem? (i := 10) rfl)
theorem cM_add_126 : zCode 160 126 = some (.ldiv, 127, 0, 0, 0, 0, 103) := cAM_add_4 _ (List.mem_of_getElem? (i := 11) rfl)
theorem cM_add_127 : zCode 160 127 = some (.lstore_n 3, 128, 0, 0, 0, 0, 103) := cAM_add_4 _ (List.mem_of_getElem? (i := 12) rfl)
theorem cM_add_128 : zCode 160 128 = some (.iinc 6 1, 131, 0, 0, 0, 0, 111) := cAM_add_4 _ (List.mem_of_getElem? (i := 13) rfl)
theorem cM_add_131 : zCode 160 131 = some (.goto (-94), 134, 37, 0, 0, 0, 111) := cAM_add_4 _ (List.mem_of_getElem? (i := 14) rfl)
theorem cM_add_134 : zCode 160 134 = some (.aload_n 0, 135, 0, 0, 0, 0, 43) := cAM_add_4 _ (List.mem_of_getElem? (i := 15) rfl)
theorem cM_add_135 : zCode 160 135 = some (.getfield 23, 138, 12, 4, 2, 1213, 43) := cAM_add_5 _ (List.mem_of_getElem? (i := 0) rfl)
theorem cM_add_138 : zCode 160 138 = some (.bipush 64, 140, 0, 0, 0, 0, 43) := cAM_add_5 _ (List.mem_of_getElem? (i := 1) rfl)
theorem cM_add_140 : zCode 160 140 = some (.iload_n 1, 141, 0, 0, 0, 0, 43) := cAM_add_5 _ (List.mem_of_getElem? (i := 2) rfl)
theorem cM_add_141 : zCode 160 141 = some (.imul, 142, 0, 0, 0, 0, 43) := cAM_add_5 _ (List.mem_of_getElem? (i := 3) rfl)
theorem cM_add_142 : zCode 160 142 = some (.iload 5, 144, 0, 0, 0, 0, 43) := cAM_add_5 _ (List.mem_of_getElem? (i := 4) rfl)
theorem cM_add_144 : zCode 160 144 = some (.iadd, 145, 0, 0, 0, 0, 43) := cAM_add_5 _ (List.mem_of_getElem? (i := 5) rfl)
theorem cM_add_145 : zCode 160 145 = some (.lload_n 3, 146, 0, 0, 0, 0, 43) := cAM_add_5 _ (List.mem_of_getElem? (i := 6) rfl)
theorem cM_add_146 : zCode 160 146 = some (.lastore, 147, 0, 0, 0, 0, 35) := cAM_add_5 _ (List.mem_of_getElem? (i := 7) rfl)
theorem cM_add_147 : zCode 160 147 = some (.aload_n 0, 148, 0, 0, 0, 0, 35) := cAM_add_5 _ (List.mem_of_getElem? (i := 8) rfl)
theorem cM_add_148 : zCode 160 148 = some (.getfield 27, 151, 12, 5, 2, 1214, 35) := cAM_add_5 _ (List.mem_of_getElem? (i := 9) rfl)
theorem cM_add_151 : zCode 160 151 = some (.iload_n 1, 152, 0, 0, 0, 0, 35) := cAM_add_5 _ (List.mem_of_getElem? (i := 10) rfl)
theorem cM_add_152 : zCode 160 152 = some (.iload 5, 154, 0, 0, 0, 0, 35) := cAM_add_5 _ (List.mem_of_getElem? (i := 11) rfl)
theorem cM_add_154 : zCode 160 154 = some (.iconst 1, 155, 0, 0, 0, 0, 3) := cAM_add_5 _ (List.mem_of_getElem? (i := 12) rfl)
theorem cM_add_155 : zCode 160 155 = some (.iadd, 156, 0, 0, 0, 0, 3) := cAM_add_5 _ (List.mem_of_getElem? (i := 13) rfl)
theorem cM_add_156 : zCode 160 156 = some (.iastore, 157, 0, 0, 0, 0, 3) := cAM_add_5 _ (List.mem_of_getElem? (i := 14) rfl)
theorem cM_add_157 : zCode 160 157 = some (.aload_n 0, 158, 0, 0, 0, 0, 3) := cAM_add_5 _ (List.mem_of_getElem? (i := 15) rfl)
theorem cM_add_158 : zCode 160 158 = some (.iload_n 1, 159, 0, 0, 0, 0, 2) := cAM_add_6 _ (List.mem_of_getElem? (i := 0) rfl)
theorem cM_add_159 : zCode 160 159 = some (.invokevirtual 79, 162, 157, 1, 2, 12, 0) := cAM_add_6 _ (List.mem_of_getElem? (i := 1) rfl)
theorem cM_add_162 : zCode 160 162 = some (.return_, 163, 0, 0, 0, 0, 0) := cAM_add_6 _ (List.mem_of_getElem? (i := 2) rfl)
theorem rM_add_0 {a0 : Nat} {a1 a2 : Int} {u3 u4 u5 u6 u7 u8 : zV} : zS 160 0 [zR a0, zI a1, zI a2, u3, u4, u5, u6, u7, u8] [] sh pp mm Q ↔ zS 160 1 [zR a0, zI a1, zI a2, zU, zU, zU, zU, zU, zU] [zL 0] sh pp mm Q := s_go cM_add_0 cM_add_1 rfl rfl
theorem rM_add_1 {a0 : Nat} {a1 a2 s0 : Int} {u3 u4 u5 u6 u7 u8 : zV} : zS 160 1 [zR a0, zI a1, zI a2, u3, u4, u5, u6, u7, u8] [zL s0] sh pp mm Q ↔ zS 160 2 [zR a0, zI a1, zI a2, zL s0, zU, zU, zU, zU, zU] [] sh pp mm Q := s_go cM_add_1 cM_add_2 rfl rfl
theorem rM_add_2 {a0 : Nat} {a1 a2 a3 : Int} {u4 u5 u6 u7 u8 : zV} : zS 160 2 [zR a0, zI a1, zI a2, zL a3, u4, u5, u6, u7, u8] [] sh pp mm Q ↔ zS 160 3 [zR a0, zI a1, zI a2, zL a3, zU, zU, zU, zU, zU] [zR a0] sh pp mm Q := s_go cM_add_2 cM_add_3 rfl rfl
theorem rM_add_3 {a0 s0 : Nat} {a1 a2 a3 : Int} {u4 u5 u6 u7 u8 : zV} (hk : zKd sh s0 = 12) : zS 160 3 [zR a0, zI a1, zI a2, zL a3, u4, u5, u6, u7, u8] [zR s0] sh pp mm Q ↔ zS 160 6 [zR a0, zI a1, zI a2, zL a3, zU, zU, zU, zU, zU] [zR (pp s0 5)] sh pp mm Q := s_go cM_add_3 cM_add_6 (if_pos hk) rfl
theorem rM_add_6 {a0 s0 : Nat} {a1 a2 a3 : Int} {u4 u5 u6 u7 u8 : zV} : zS 160 6 [zR a0, zI a1, zI a2, zL a3, u4, u5, u6, u7, u8] [zR s0] sh pp mm Q ↔ zS 160 7 [zR a0, zI a1, zI a2, zL a3, zU, zU, zU, zU, zU] [zI a1, zR s0] sh pp mm Q := s_go cM_add_6 cM_add_7 rfl rfl
theorem rM_add_7 {a0 s1 : Nat} {a1 a2 a3 s0 : Int} {u4 u5 u6 u7 u8 : zV} (hk : zKd sh s1 = 20 ∨ zKd sh s1 = 30) (h0 : 0 ≤ s0) (h1 : s0 < zLn sh s1) : zS 160 7 [zR a0, zI a1, zI a2, zL a3, u4, u5, u6, u7, u8] [zI s0, zR s1] sh pp mm Q ↔ zS 160 8 [zR a0, zI a1, zI a2, zL a3, zU, zU, zU, zU, zU] [zI (mm s1 s0)] sh pp mm Q := s_go cM_add_7 cM_add_8 (if_pos ⟨hk, h0, h1⟩) rfl
theorem rM_add_8 {a0 : Nat} {a1 a2 a3 s0 : Int} {u4 u5 u6 u7 u8 : zV} : zS 160 8 [zR a0, zI a1, zI a2, zL a3, u4, u5, u6, u7, u8] [zI s0] sh pp mm Q ↔ zS 160 9 [zR a0, zI a1, zI a2, zL a3, zU, zU, zU, zU, zU] [zR a0, zI s0] sh pp mm Q := s_go cM_add_8 cM_add_9 rfl rfl
theorem rM_add_9 {a0 s0 : Nat} {a1 a2 a3 s1 : Int} {u4 u5 u6 u7 u8 : zV} (hk : zKd sh s0 = 12) : zS 160 9 [zR a0, zI a1, zI a2, zL a3, u4, u5, u6, u7, u8] [zR s0, zI s1] sh pp mm Q ↔ zS 160 12 [zR a0, zI a1, zI a2, zL a3, zU, zU, zU, zU, zU] [zR (pp s0 5), zI s1] sh pp mm Q := s_go cM_add_9 cM_add_12 (if_pos hk) rfl
theorem rM_add_12 {a0 s0 : Nat} {a1 a2 a3 s1 : Int} {u4 u5 u6 u7 u8 : zV} : zS 160 12 [zR a0, zI a1, zI a2, zL a3, u4, u5, u6, u7, u8] [zR s0, zI s1] sh pp mm Q ↔ zS 160 13 [zR a0, zI a1, zI a2, zL a3, zU, zU, zU, zU, zU] [zI a2, zR s0, zI s1] sh pp mm Q := s_go cM_add_12 cM_add_13 rfl rfl
theorem rM_add_13 {a0 s1 : Nat} {a1 a2 a3 s0 s2 : Int} {u4 u5 u6 u7 u8 : zV} (hk : zKd sh s1 = 20 ∨ zKd sh s1 = 30) (h0 : 0 ≤ s0) (h1 : s0 < zLn sh s1) : zS 160 13 [zR a0, zI a1, zI a2, zL a3, u4, u5, u6, u7, u8] [zI s0, zR s1, zI s2] sh pp mm Q ↔ zS 160 14 [zR a0, zI a1, zI a2, zL a3, zU, zU, zU, zU, zU] [zI (mm s1 s0), zI s2] sh pp mm Q := s_go cM_add_13 cM_add_14 (if_pos ⟨hk, h0, h1⟩) rfl
theorem rM_add_14 {a0 : Nat} {a1 a2 a3 s0 s1 : Int} {u4 u5 u6 u7 u8 : zV} : zS 160 14 [zR a0, zI a1, zI a2, zL a3, u4, u5, u6, u7, u8] [zI s0, zI s1] sh pp mm Q ↔ (s0 < s1 → zS 160 17 [zR a0, zI a1, zI a2, zL a3, zU, zU, zU, zU, zU] [] sh pp mm Q) ∧ (¬ s0 < s1 → zS 160 26 [zR a0, zI a1, zI a2, zL a3, zU, zU, zU, zU, zU] [] sh pp mm Q) := s_ifn cM_add_14 cM_add_17 cM_add_26 rfl rfl rfl
theorem rM_add_17 {a0 : Nat} {a1 a2 a3 : Int} {u4 u5 u6 u7 u8 : zV} : zS 160 17 [zR a0, zI a1, zI a2, zL a3, u4, u5, u6, u7, u8] [] sh pp mm Q ↔ zS 160 18 [zR a0, zI a1, zI a2, zL a3, zU, zU, zU, zU, zU] [zR a0] sh pp mm Q := s_go cM_add_17 cM_add_18 rfl rfl
theorem rM_add_18 {a0 s0 : Nat} {a1 a2 a3 : Int} {u4 u5 u6 u7 u8 : zV} (hk : zKd sh s0 = 12) : zS 160 18 [zR a0, zI a1, zI a2, zL a3, u4, u5, u6, u7, u8] [zR s0] sh pp mm Q ↔ zS 160 21 [zR a0, zI a1, zI a2, zL a3, zU, zU, zU, zU, zU] [zR (pp s0 5)] sh pp mm Q := s_go cM_add_18 cM_add_21 (if_pos hk) rfl
theorem rM_add_21 {a0 s0 : Nat} {a1 a2 a3 : Int} {u4 u5 u6 u7 u8 : zV} : zS 160 21 [zR a0, zI a1, zI a2, zL a3, u4, u5, u6, u7, u8] [zR s0] sh pp mm Q ↔ zS 160 22 [zR a0, zI a1, zI a2, zL a3, zU, zU, zU, zU, zU] [zI a1, zR s0] sh pp mm Q := s_go cM_add_21 cM_add_22 rfl rfl
theorem rM_add_22 {a0 s1 : Nat} {a1 a2 a3 s0 : Int} {u4 u5 u6 u7 u8 : zV} (hk : zKd sh s1 = 20 ∨ zKd sh s1 = 30) (h0 : 0 ≤ s0) (h1 : s0 < zLn sh s1) : zS 160 22 [zR a0, zI a1, zI a2, zL a3, u4, u5, u6, u7, u8] [zI s0, zR s1] sh pp mm Q ↔ zS 160 23 [zR a0, zI a1, zI a2, zL a3, zU, zU, zU, zU, zU] [zI (mm s1 s0)] sh pp mm Q := s_go cM_add_22 cM_add_23 (if_pos ⟨hk, h0, h1⟩) rfl
theorem rM_add_23 {a0 : Nat} {a1 a2 a3 s0 : Int} {u4 u5 u6 u7 u8 : zV} : zS 160 23 [zR a0, zI a1, zI a2, zL a3, u4, u5, u6, u7, u8] [zI s0] sh pp mm Q ↔ zS 160 32 [zR a0, zI a1, zI a2, zL a3, zU, zU, zU, zU, zU] [zI s0] sh pp mm Q := s_go cM_add_23 cM_add_32 rfl rfl
theorem rM_add_26 {a0 : Nat} {a1 a2 a3 : Int} {u4 u5 u6 u7 u8 : zV} : zS 160 26 [zR a0, zI a1, zI a2, zL a3, u4, u5, u6, u7, u8] [] sh pp mm Q ↔ zS 160 27 [zR a0, zI a1, zI a2, zL a3, zU, zU, zU, zU, zU] [zR a0] sh pp mm Q := s_go cM_add_26 cM_add_27 rfl rfl
theorem rM_add_27 {a0 s0 : Nat} {a1 a2 a3 : Int} {u4 u5 u6 u7 u8 : zV} (hk : zKd sh s0 = 12) : zS 160 27 [zR a0, zI a1, zI a2, zL a3, u4, u5, u6, u7, u8] [zR s0] sh pp mm Q ↔ zS 160 30 [zR a0, zI a1, zI a2, zL a3, zU, zU, zU, zU, zU] [zR (pp s0 5)] sh pp mm Q := s_go cM_add_27 cM_add_30 (if_pos hk) rfl
theorem rM_add_30 {a0 s0 : Nat} {a1 a2 a3 : Int} {u4 u5 u6 u7 u8 : zV} : zS 160 30 [zR a0, zI a1, zI a2, zL a3, u4, u5, u6, u7, u8] [zR s0] sh pp mm Q ↔ zS 160 31 [zR a0, zI a1, zI a2, zL a3, zU, zU, zU, zU, zU] [zI a2, zR s0] sh pp mm Q := s_go cM_add_30 cM_add_31 rfl rfl
theorem rM_add_31 {a0 s1 : Nat} {a1 a2 a3 s0 : Int} {u4 u5 u6 u7 u8 : zV} (hk : zKd sh s1 = 20 ∨ zKd sh s1 = 30) (h0 : 0 ≤ s0) (h1 : s0 < zLn sh s1) : zS 160 31 [zR a0, zI a1, zI a2, zL a3, u4, u5, u6, u7, u8] [zI s0, zR s1] sh pp mm Q ↔ zS 160 32 [zR a0, zI a1, zI a2, zL a3, zU, zU, zU, zU, zU] [zI (mm s1 s0)] sh pp mm Q := s_go cM_add_31 cM_add_32 (if_pos ⟨hk, h0, h1⟩) rfl
theorem rM_add_32 {a0 : Nat} {a1 a2 a3 s0 : Int} {u4 u5 u6 u7 u8 : zV} : zS 160 32 [zR a0, zI a1, zI a2, zL a3, u4, u5, u6, u7, u8] [zI s0] sh pp mm Q ↔ zS 160 34 [zR a0, zI a1, zI a2, zL a3, zU, zI s0, zU, zU, zU] [] sh pp mm Q := s_go cM_add_32 cM_add_34 rfl rfl
theorem rM_add_34 {a0 : Nat} {a1 a2 a3 a5 : Int} {u4 u6 u7 u8 : zV} : zS 160 34 [zR a0, zI a1, zI a2, zL a3, u4, zI a5, u6, u7, u8] [] sh pp mm Q ↔ zS 160 35 [zR a0, zI a1, zI a2, zL a3, zU, zI a5, zU, zU, zU] [zI 0] sh pp mm Q := s_go cM_add_34 cM_add_35 rfl rfl
theorem rM_add_35 {a0 : Nat} {a1 a2 a3 a5 s0 : Int} {u4 u6 u7 u8 : zV} : zS 160 35 [zR a0, zI a1, zI a2, zL a3, u4, zI a5, u6, u7, u8] [zI s0] sh pp mm Q ↔ zS 160 37 [zR a0, zI a1, zI a2, zL a3, zU, zI a5, zI s0, zU, zU] [] sh pp mm Q := s_go cM_add_35 cM_add_37 rfl rfl
theorem rM_add_37 {a0 : Nat} {a1 a2 a3 a5 a6 : Int} {u4 u7 u8 : zV} : zS 160 37 [zR a0, zI a1, zI a2, zL a3, u4, zI a5, zI a6, u7, u8] [] sh pp mm Q ↔ zS 160 39 [zR a0, zI a1, zI a2, zL a3, zU, zI a5, zI a6, zU, zU] [zI a6] sh pp mm Q := s_go cM_add_37 cM_add_39 rfl rfl
theorem rM_add_39 {a0 : Nat} {a1 a2 a3 a5 a6 s0 : Int} {u4 u7 u8 : zV} : zS 160 39 [zR a0, zI a1, zI a2, zL a3, u4, zI a5, zI a6, u7, u8] [zI s0] sh pp mm Q ↔ zS 160 41 [zR a0, zI a1, zI a2, zL a3, zU, zI a5, zI a6, zU, zU] [zI a5, zI s0] sh pp mm Q := s_go cM_add_39 cM_add_41 rfl rfl
theorem rM_add_41 {a0 : Nat} {a1 a2 a3 a5 a6 s0 s1 : Int} {u4 u7 u8 : zV} : zS 160 41 [zR a0, zI a1, zI a2, zL a3, u4, zI a5, zI a6, u7, u8] [zI s0, zI s1] sh pp mm Q ↔ (s1 < s0 → zS 160 44 [zR a0, zI a1, zI a2, zL a3, zU, zI a5, zI a6, zU, zU] [] sh pp mm Q) ∧ (¬ s1 < s0 → zS 160 134 [zR a0, zI a1, zU, zL a3, zU, zI a5, zU, zU, zU] [] sh pp mm Q) := s_ifn cM_add_41 cM_add_44 cM_add_134 rfl rfl rfl
theorem rM_add_44 {a0 : Nat} {a1 a2 a3 a5 a6 : Int} {u4 u7 u8 : zV} : zS 160 44 [zR a0, zI a1, zI a2, zL a3, u4, zI a5, zI a6, u7, u8] [] sh pp mm Q ↔ zS 160 46 [zR a0, zI a1, zI a2, zL a3, zU, zI a5, zI a6, zU, zU] [zI a6] sh pp mm Q := s_go cM_add_44 cM_add_46 rfl rfl
theorem rM_add_46 {a0 : Nat} {a1 a2 a3 a5 a6 s0 : Int} {u4 u7 u8 : zV} : zS 160 46 [zR a0, zI a1, zI a2, zL a3, u4, zI a5, zI a6, u7, u8] [zI s0] sh pp mm Q ↔ zS 160 47 [zR a0, zI a1, zI a2, zL a3, zU, zI a5, zI a6, zU, zU] [zR a0, zI s0] sh pp mm Q := s_go cM_add_46 cM_add_47 rfl rfl
theorem rM_add_47 {a0 s0 : Nat} {a1 a2 a3 a5 a6 s1 : Int} {u4 u7 u8 : zV} (hk : zKd sh s0 = 12) : zS 160 47 [zR a0, zI a1, zI a2, zL a3, u4, zI a5, zI a6, u7, u8] [zR s0, zI s1] sh pp mm Q ↔ zS 160 50 [zR a0, zI a1, zI a2, zL a3, zU, zI a5, zI a6, zU, zU] [zR (pp s0 5), zI s1] sh pp mm Q := s_go cM_add_47 cM_add_50 (if_pos hk) rfl
theorem rM_add_50 {a0 s0 : Nat} {a1 a2 a3 a5 a6 s1 : Int} {u4 u7 u8 : zV} : zS 160 50 [zR a0, zI a1, zI a2, zL a3, u4, zI a5, zI a6, u7, u8] [zR s0, zI s1] sh pp mm Q ↔ zS 160 51 [zR a0, zI a1, zI a2, zL a3, zU, zI a5, zI a6, zU, zU] [zI a1, zR s0, zI s1] sh pp mm Q := s_go cM_add_50 cM_add_51 rfl rfl
theorem rM_add_51 {a0 s1 : Nat} {a1 a2 a3 a5 a6 s0 s2 : Int} {u4 u7 u8 : zV} (hk : zKd sh s1 = 20 ∨ zKd sh s1 = 30) (h0 : 0 ≤ s0) (h1 : s0 < zLn sh s1) : zS 160 51 [zR a0, zI a1, zI a2, zL a3, u4, zI a5, zI a6, u7, u8] [zI s0, zR s1, zI s2] sh pp mm Q ↔ zS 160 52 [zR a0, zI a1, zI a2, zL a3, zU, zI a5, zI a6, zU, zU] [zI (mm s1 s0), zI s2] sh pp mm Q := s_go cM_add_51 cM_add_52 (if_pos ⟨hk, h0, h1⟩) rfl
theorem rM_add_52 {a0 : Nat} {a1 a2 a3 a5 a6 s0 s1 : Int} {u4 u7 u8 : zV} : zS 160 52 [zR a0, zI a1, zI a2, zL a3, u4, zI a5, zI a6, u7, u8] [zI s0, zI s1] sh pp mm Q ↔ (s1 < s0 → zS 160 55 [zR a0, zI a1, zI a2, zL a3, zU, zI a5, zI a6, zU, zU] [] sh pp mm Q) ∧ (¬ s1 < s0 → zS 160 70 [zR a0, zI a1, zI a2, zL a3, zU, zI a5, zI a6, zU, zU] [] sh pp mm Q) := s_ifn cM_add_52 cM_add_55 cM_add_70 rfl rfl rfl
theorem rM_add_55 {a0 : Nat} {a1 a2 a3 a5 a6 : Int} {u4 u7 u8 : zV} : zS 160 55 [zR a0, zI a1, zI a2, zL a3, u4, zI a5, zI a6, u7, u8] [] sh pp mm Q ↔ zS 160 56 [zR a0, zI a1, zI a2, zL a3, zU, zI a5, zI a6, zU, zU] [zR a0] sh pp mm Q := s_go cM_add_55 cM_add_56 rfl rfl
theorem rM_add_56 {a0 s0 : Nat} {a1 a2 a3 a5 a6 : Int} {u4 u7 u8 : zV} (hk : zKd sh s0 = 12) : zS 160 56 [zR a0, zI a1, zI a2, zL a3, u4, zI a5, zI a6, u7, u8] [zR s0] sh pp mm Q ↔ zS 160 59 [zR a0, zI a1, zI a2, zL a3, zU, zI a5, zI a6, zU, zU] [zR (pp s0 4)] sh pp mm Q := s_go cM_add_56 cM_add_59 (if_pos hk) rfl
theorem rM_add_59 {a0 s0 : Nat} {a1 a2 a3 a5 a6 : Int} {u4 u7 u8 : zV} : zS 160 59 [zR a0, zI a1, zI a2, zL a3, u4, zI a5, zI a6, u7, u8] [zR s0] sh pp mm Q ↔ zS 160 61 [zR a0, zI a1, zI a2, zL a3, zU, zI a5, zI a6, zU, zU] [zI 64, zR s0] sh pp mm Q := s_go cM_add_59 cM_add_61 rfl rfl
theorem rM_add_61 {a0 s1 : Nat} {a1 a2 a3 a5 a6 s0 : Int} {u4 u7 u8 : zV} : zS 160 61 [zR a0, zI a1, zI a2, zL a3, u4, zI a5, zI a6, u7, u8] [zI s0, zR s1] sh pp mm Q ↔ zS 160 62 [zR a0, zI a1, zI a2, zL a3, zU, zI a5, zI a6, zU, zU] [zI a1, zI s0, zR s1] sh pp mm Q := s_go cM_add_61 cM_add_62 rfl rfl
theorem rM_add_62 {a0 s2 : Nat} {a1 a2 a3 a5 a6 s0 s1 : Int} {u4 u7 u8 : zV} : zS 160 62 [zR a0, zI a1, zI a2, zL a3, u4, zI a5, zI a6, u7, u8] [zI s0, zI s1, zR s2] sh pp mm Q ↔ zS 160 63 [zR a0, zI a1, zI a2, zL a3, zU, zI a5, zI a6, zU, zU] [zI (zw32 (s1 * s0)), zR s2] sh pp mm Q := s_go cM_add_62 cM_add_63 rfl rfl
theorem rM_add_63 {a0 s1 : Nat} {a1 a2 a3 a5 a6 s0 : Int} {u4 u7 u8 : zV} : zS 160 63 [zR a0, zI a1, zI a2, zL a3, u4, zI a5, zI a6, u7, u8] [zI s0, zR s1] sh pp mm Q ↔ zS 160 65 [zR a0, zI a1, zI a2, zL a3, zU, zI a5, zI a6, zU, zU] [zI a6, zI s0, zR s1] sh pp mm Q := s_go cM_add_63 cM_add_65 rfl rfl
theorem rM_add_65 {a0 s2 : Nat} {a1 a2 a3 a5 a6 s0 s1 : Int} {u4 u7 u8 : zV} : zS 160 65 [zR a0, zI a1, zI a2, zL a3, u4, zI a5, zI a6, u7, u8] [zI s0, zI s1, zR s2] sh pp mm Q ↔ zS 160 66 [zR a0, zI a1, zI a2, zL a3, zU, zI a5, zI a6, zU, zU] [zI (zw32 (s1 + s0)), zR s2] sh pp mm Q := s_go cM_add_65 cM_add_66 rfl rfl
theorem rM_add_66 {a0 s1 : Nat} {a1 a2 a3 a5 a6 s0 : Int} {u4 u7 u8 : zV} (hk : zKd sh s1 = 21) (h0 : 0 ≤ s0) (h1 : s0 < zLn sh s1) : zS 160 66 [zR a0, zI a1, zI a2, zL a3, u4, zI a5, zI a6, u7, u8] [zI s0, zR s1] sh pp mm Q ↔ zS 160 67 [zR a0, zI a1, zI a2, zL a3, zU, zI a5, zI a6, zU, zU] [zL (mm s1 s0)] sh pp mm Q := s_go cM_add_66 cM_add_67 (if_pos ⟨hk, h0, h1⟩) rfl
theorem rM_add_67 {a0 : Nat} {a1 a2 a3 a5 a6 s0 : Int} {u4 u7 u8 : zV} : zS 160 67 [zR a0, zI a1, zI a2, zL a3, u4, zI a5, zI a6, u7, u8] [zL s0] sh pp mm Q ↔ zS 160 71 [zR a0, zI a1, zI a2, zL a3, zU, zI a5, zI a6, zU, zU] [zL s0] sh pp mm Q := s_go cM_add_67 cM_add_71 rfl rfl
theorem rM_add_70 {a0 : Nat} {a1 a2 a3 a5 a6 : Int} {u4 u7 u8 : zV} : zS 160 70 [zR a0, zI a1, zI a2, zL a3, u4, zI a5, zI a6, u7, u8] [] sh pp mm Q ↔ zS 160 71 [zR a0, zI a1, zI a2, zL a3, zU, zI a5, zI a6, zU, zU] [zL 0] sh pp mm Q := s_go cM_add_70 cM_add_71 rfl rfl
theorem rM_add_71 {a0 : Nat} {a1 a2 a3 a5 a6 s0 : Int} {u4 u7 u8 : zV} : zS 160 71 [zR a0, zI a1, zI a2, zL a3, u4, zI a5, zI a6, u7, u8] [zL s0] sh pp mm Q ↔ zS 160 73 [zR a0, zI a1, zI a2, zL a3, zU, zI a5, zI a6, zU, zU] [zI a6, zL s0] sh pp mm Q := s_go cM_add_71 cM_add_73 rfl rfl
theorem rM_add_73 {a0 : Nat} {a1 a2 a3 a5 a6 s0 s1 : Int} {u4 u7 u8 : zV} : zS 160 73 [zR a0, zI a1, zI a2, zL a3, u4, zI a5, zI a6, u7, u8] [zI s0, zL s1] sh pp mm Q ↔ zS 160 74 [zR a0, zI a1, zI a2, zL a3, zU, zI a5, zI a6, zU, zU] [zR a0, zI s0, zL s1] sh pp mm Q := s_go cM_add_73 cM_add_74 rfl rfl
theorem rM_add_74 {a0 s0 : Nat} {a1 a2 a3 a5 a6 s1 s2 : Int} {u4 u7 u8 : zV} (hk : zKd sh s0 = 12) : zS 160 74 [zR a0, zI a1, zI a2, zL a3, u4, zI a5, zI a6, u7, u8] [zR s0, zI s1, zL s2] sh pp mm Q ↔ zS 160 77 [zR a0, zI a1, zI a2, zL a3, zU, zI a5, zI a6, zU, zU] [zR (pp s0 5), zI s1, zL s2] sh pp mm Q := s_go cM_add_74 cM_add_77 (if_pos hk) rfl
theorem rM_add_77 {a0 s0 : Nat} {a1 a2 a3 a5 a6 s1 s2 : Int} {u4 u7 u8 : zV} : zS 160 77 [zR a0, zI a1, zI a2, zL a3, u4, zI a5, zI a6, u7, u8] [zR s0, zI s1, zL s2] sh pp mm Q ↔ zS 160 78 [zR a0, zI a1, zI a2, zL a3, zU, zI a5, zI a6, zU, zU] [zI a2, zR s0, zI s1, zL s2] sh pp mm Q := s_go cM_add_77 cM_add_78 rfl rfl
theorem rM_add_78 {a0 s1 : Nat} {a1 a2 a3 a5 a6 s0 s2 s3 : Int} {u4 u7 u8 : zV} (hk : zKd sh s1 = 20 ∨ zKd sh s1 = 30) (h0 : 0 ≤ s0) (h1 : s0 < zLn sh s1) : zS 160 78 [zR a0, zI a1, zI a2, zL a3, u4, zI a5, zI a6, u7, u8] [zI s0, zR s1, zI s2, zL s3] sh pp mm Q ↔ zS 160 79 [zR a0, zI a1, zI a2, zL a3, zU, zI a5, zI a6, zU, zU] [zI (mm s1 s0), zI s2, zL s3] sh pp mm Q := s_go cM_add_78 cM_add_79 (if_pos ⟨hk, h0, h1⟩) rfl
theorem rM_add_79 {a0 : Nat} {a1 a2 a3 a5 a6 s0 s1 s2 : Int} {u4 u7 u8 : zV} : zS 160 79 [zR a0, zI a1, zI a2, zL a3, u4, zI a5, zI a6, u7, u8] [zI s0, zI s1, zL s2] sh pp mm Q ↔ (s1 < s0 → zS 160 82 [zR a0, zI a1, zI a2, zL a3, zU, zI a5, zI a6, zU, zU] [zL s2] sh pp mm Q) ∧ (¬ s1 < s0 → zS 160 97 [zR a0, zI a1, zI a2, zL a3, zU, zI a5, zI a6, zU, zU] [zL s2] sh pp mm Q) := s_ifn cM_add_79 cM_add_82 cM_add_97 rfl rfl rfl
theorem rM_add_82 {a0 : Nat} {a1 a2 a3 a5 a6 s0 : Int} {u4 u7 u8 : zV} : zS 160 82 [zR a0, zI a1, zI a2, zL a3, u4, zI a5, zI a6, u7, u8] [zL s0] sh pp mm Q ↔ zS 160 83 [zR a0, zI a1, zI a2, zL a3, zU, zI a5, zI a6, zU, zU] [zR a0, zL s0] sh pp mm Q := s_go cM_add_82 cM_add_83 rfl rfl
theorem rM_add_83 {a0 s0 : Nat} {a1 a2 a3 a5 a6 s1 : Int} {u4 u7 u8 : zV} (hk : zKd sh s0 = 12) : zS 160 83 [zR a0, zI a1, zI a2, zL a3, u4, zI a5, zI a6, u7, u8] [zR s0, zL s1] sh pp mm Q ↔ zS 160 86 [zR a0, zI a1, zI a2, zL a3, zU, zI a5, zI a6, zU, zU] [zR (pp s0 4), zL s1] sh pp mm Q := s_go cM_add_83 cM_add_86 (if_pos hk) rfl
theorem rM_add_86 {a0 s0 : Nat} {a1 a2 a3 a5 a6 s1 : Int} {u4 u7 u8 : zV} : zS 160 86 [zR a0, zI a1, zI a2, zL a3, u4, zI a5, zI a6, u7, u8] [zR s0, zL s1] sh pp mm Q ↔ zS 160 88 [zR a0, zI a1, zI a2, zL a3, zU, zI a5, zI a6, zU, zU] [zI 64, zR s0, zL s1] sh pp mm Q := s_go cM_add_86 cM_add_88 rfl rfl
theorem rM_add_88 {a0 s1 : Nat} {a1 a2 a3 a5 a6 s0 s2 : Int} {u4 u7 u8 : zV} : zS 160 88 [zR a0, zI a1, zI a2, zL a3, u4, zI a5, zI a6, u7, u8] [zI s0, zR s1, zL s2] sh pp mm Q ↔ zS 160 89 [zR a0, zI a1, zI a2, zL a3, zU, zI a5, zI a6, zU, zU] [zI a2, zI s0, zR s1, zL s2] sh pp mm Q := s_go cM_add_88 cM_add_89 rfl rfl
theorem rM_add_89 {a0 s2 : Nat} {a1 a2 a3 a5 a6 s0 s1 s3 : Int} {u4 u7 u8 : zV} : zS 160 89 [zR a0, zI a1, zI a2, zL a3, u4, zI a5, zI a6, u7, u8] [zI s0, zI s1, zR s2, zL s3] sh pp mm Q ↔ zS 160 90 [zR a0, zI a1, zI a2, zL a3, zU, zI a5, zI a6, zU, zU] [zI (zw32 (s1 * s0)), zR s2, zL s3] sh pp mm Q := s_go cM_add_89 cM_add_90 rfl rfl
theorem rM_add_90 {a0 s1 : Nat} {a1 a2 a3 a5 a6 s0 s2 : Int} {u4 u7 u8 : zV} : zS 160 90 [zR a0, zI a1, zI a2, zL a3, u4, zI a5, zI a6, u7, u8] [zI s0, zR s1, zL s2] sh pp mm Q ↔ zS 160 92 [zR a0, zI a1, zI a2, zL a3, zU, zI a5, zI a6, zU, zU] [zI a6, zI s0, zR s1, zL s2] sh pp mm Q := s_go cM_add_90 cM_add_92 rfl rfl
theorem rM_add_92 {a0 s2 : Nat} {a1 a2 a3 a5 a6 s0 s1 s3 : Int} {u4 u7 u8 : zV} : zS 160 92 [zR a0, zI a1, zI a2, zL a3, u4, zI a5, zI a6, u7, u8] [zI s0, zI s1, zR s2, zL s3] sh pp mm Q ↔ zS 160 93 [zR a0, zI a1, zI a2, zL a3, zU, zI a5, zI a6, zU, zU] [zI (zw32 (s1 + s0)), zR s2, zL s3] sh pp mm Q := s_go cM_add_92 cM_add_93 rfl rfl
theorem rM_add_93 {a0 s1 : Nat} {a1 a2 a3 a5 a6 s0 s2 : Int} {u4 u7 u8 : zV} (hk : zKd sh s1 = 21) (h0 : 0 ≤ s0) (h1 : s0 < zLn sh s1) : zS 160 93 [zR a0, zI a1, zI a2, zL a3, u4, zI a5, zI a6, u7, u8] [zI s0, zR s1, zL s2] sh pp mm Q ↔ zS 160 94 [zR a0, zI a1, zI a2, zL a3, zU, zI a5, zI a6, zU, zU] [zL (mm s1 s0), zL s2] sh pp mm Q := s_go cM_add_93 cM_add_94 (if_pos ⟨hk, h0, h1⟩) rfl
theorem rM_add_94 {a0 : Nat} {a1 a2 a3 a5 a6 s0 s1 : Int} {u4 u7 u8 : zV} : zS 160 94 [zR a0, zI a1, zI a2, zL a3, u4, zI a5, zI a6, u7, u8] [zL s0, zL s1] sh pp mm Q ↔ zS 160 98 [zR a0, zI a1, zI a2, zL a3, zU, zI a5, zI a6, zU, zU] [zL s0, zL s1] sh pp mm Q := s_go cM_add_94 cM_add_98 rfl rfl
theorem rM_add_97 {a0 : Nat} {a1 a2 a3 a5 a6 s0 : Int} {u4 u7 u8 : zV} : zS 160 97 [zR a0, zI a1, zI a2, zL a3, u4, zI a5, zI a6, u7, u8] [zL s0] sh pp mm Q ↔ zS 160 98 [zR a0, zI a1, zI a2, zL a3, zU, zI a5, zI a6, zU, zU] [zL 0, zL s0] sh pp mm Q := s_go cM_add_97 cM_add_98 rfl rfl
theorem rM_add_98 {a0 : Nat} {a1 a2 a3 a5 a6 s0 s1 : Int} {u4 u7 u8 : zV} : zS 160 98 [zR a0, zI a1, zI a2, zL a3, u4, zI a5, zI a6, u7, u8] [zL s0, zL s1] sh pp mm Q ↔ zS 160 99 [zR a0, zI a1, zI a2, zL a3, zU, zI a5, zI a6, zU, zU] [zL (zw64 (s1 + s0))] sh pp mm Q := s_go cM_add_98 cM_add_99 rfl rfl
theorem rM_add_99 {a0 : Nat} {a1 a2 a3 a5 a6 s0 : Int} {u4 u7 u8 : zV} : zS 160 99 [zR a0, zI a1, zI a2, zL a3, u4, zI a5, zI a6, u7, u8] [zL s0] sh pp mm Q ↔ zS 160 100 [zR a0, zI a1, zI a2, zU, zU, zI a5, zI a6, zU, zU] [zL a3, zL s0] sh pp mm Q := s_go cM_add_99 cM_add_100 rfl rfl
theorem rM_add_100 {a0 : Nat} {a1 a2 a5 a6 s0 s1 : Int} {u3 u4 u7 u8 : zV} : zS 160 100 [zR a0, zI a1, zI a2, u3, u4, zI a5, zI a6, u7, u8] [zL s0, zL s1] sh pp mm Q ↔ zS 160 101 [zR a0, zI a1, zI a2, zU, zU, zI a5, zI a6, zU, zU] [zL (zw64 (s1 + s0))] sh pp mm Q := s_go cM_add_100 cM_add_101 rfl rfl
theorem rM_add_101 {a0 : Nat} {a1 a2 a5 a6 s0 : Int} {u3 u4 u7 u8 : zV} : zS 160 101 [zR a0, zI a1, zI a2, u3, u4, zI a5, zI a6, u7, u8] [zL s0] sh pp mm Q ↔ zS 160 103 [zR a0, zI a1, zI a2, zU, zU, zI a5, zI a6, zL s0, zU] [] sh pp mm Q := s_go cM_add_101 cM_add_103 rfl rfl
theorem rM_add_103 {a0 : Nat} {a1 a2 a5 a6 a7 : Int} {u3 u4 u8 : zV} : zS 160 103 [zR a0, zI a1, zI a2, u3, u4, zI a5, zI a6, zL a7, u8] [] sh pp mm Q ↔ zS 160 104 [zR a0, zI a1, zI a2, zU, zU, zI a5, zI a6, zL a7, zU] [zR a0] sh pp mm Q := s_go cM_add_103 cM_add_104 rfl rfl
theorem rM_add_104 {a0 s0 : Nat} {a1 a2 a5 a6 a7 : Int} {u3 u4 u8 : zV} (hk : zKd sh s0 = 12) : zS 160 104 [zR a0, zI a1, zI a2, u3, u4, zI a5, zI a6, zL a7, u8] [zR s0] sh pp mm Q ↔ zS 160 107 [zR a0, zI a1, zI a2, zU, zU, zI a5, zI a6, zL a7, zU] [zR (pp s0 4)] sh pp mm Q := s_go cM_add_104 cM_add_107 (if_pos hk) rfl
theorem rM_add_107 {a0 s0 : Nat} {a1 a2 a5 a6 a7 : Int} {u3 u4 u8 : zV} : zS 160 107 [zR a0, zI a1, zI a2, u3, u4, zI a5, zI a6, zL a7, u8] [zR s0] sh pp mm Q ↔ zS 160 109 [zR a0, zI a1, zI a2, zU, zU, zI a5, zI a6, zL a7, zU] [zI 64, zR s0] sh pp mm Q := s_go cM_add_107 cM_add_109 rfl rfl
theorem rM_add_109 {a0 s1 : Nat} {a1 a2 a5 a6 a7 s0 : Int} {u3 u4 u8 : zV} : zS 160 109 [zR a0, zI a1, zI a2, u3, u4, zI a5, zI a6, zL a7, u8] [zI s0, zR s1] sh pp mm Q ↔ zS 160 110 [zR a0, zI a1, zI a2, zU, zU, zI a5, zI a6, zL a7, zU] [zI a1, zI s0, zR s1] sh pp mm Q := s_go cM_add_109 cM_add_110 rfl rfl
theorem rM_add_110 {a0 s2 : Nat} {a1 a2 a5 a6 a7 s0 s1 : Int} {u3 u4 u8 : zV} : zS 160 110 [zR a0, zI a1, zI a2, u3, u4, zI a5, zI a6, zL a7, u8] [zI s0, zI s1, zR s2] sh pp mm Q ↔ zS 160 111 [zR a0, zI a1, zI a2, zU, zU, zI a5, zI a6, zL a7, zU] [zI (zw32 (s1 * s0)), zR s2] sh pp mm Q := s_go cM_add_110 cM_add_111 rfl rfl
theorem rM_add_111 {a0 s1 : Nat} {a1 a2 a5 a6 a7 s0 : Int} {u3 u4 u8 : zV} : zS 160 111 [zR a0, zI a1, zI a2, u3, u4, zI a5, zI a6, zL a7, u8] [zI s0, zR s1] sh pp mm Q ↔ zS 160 113 [zR a0, zI a1, zI a2, zU, zU, zI a5, zI a6, zL a7, zU] [zI a6, zI s0, zR s1] sh pp mm Q := s_go cM_add_111 cM_add_113 rfl rfl
theorem rM_add_113 {a0 s2 : Nat} {a1 a2 a5 a6 a7 s0 s1 : Int} {u3 u4 u8 : zV} : zS 160 113 [zR a0, zI a1, zI a2, u3, u4, zI a5, zI a6, zL a7, u8] [zI s0, zI s1, zR s2] sh pp mm Q ↔ zS 160 114 [zR a0, zI a1, zI a2, zU, zU, zI a5, zI a6, zL a7, zU] [zI (zw32 (s1 + s0)), zR s2] sh pp mm Q := s_go cM_add_113 cM_add_114 rfl rfl
theorem rM_add_114 {a0 s1 : Nat} {a1 a2 a5 a6 a7 s0 : Int} {u3 u4 u8 : zV} : zS 160 114 [zR a0, zI a1, zI a2, u3, u4, zI a5, zI a6, zL a7, u8] [zI s0, zR s1] sh pp mm Q ↔ zS 160 116 [zR a0, zI a1, zI a2, zU, zU, zI a5, zI a6, zL a7, zU] [zL a7, zI s0, zR s1] sh pp mm Q := s_go cM_add_114 cM_add_116 rfl rfl
theorem rM_add_116 {a0 s2 : Nat} {a1 a2 a5 a6 a7 s0 s1 : Int} {u3 u4 u8 : zV} : zS 160 116 [zR a0, zI a1, zI a2, u3, u4, zI a5, zI a6, zL a7, u8] [zL s0, zI s1, zR s2] sh pp mm Q ↔ zS 160 119 [zR a0, zI a1, zI a2, zU, zU, zI a5, zI a6, zL a7, zU] [zL 1073741824, zL s0, zI s1, zR s2] sh pp mm Q := s_go cM_add_116 cM_add_119 rfl rfl
theorem rM_add_119 {a0 s3 : Nat} {a1 a2 a5 a6 a7 s0 s1 s2 : Int} {u3 u4 u8 : zV} (hz : s0 ≠ 0) : zS 160 119 [zR a0, zI a1, zI a2, u3, u4, zI a5, zI a6, zL a7, u8] [zL s0, zL s1, zI s2, zR s3] sh pp mm Q ↔ zS 160 120 [zR a0, zI a1, zI a2, zU, zU, zI a5, zI a6, zL a7, zU] [zL (s1.tmod s0), zI s2, zR s3] sh pp mm Q := s_go cM_add_119 cM_add_120 (if_neg hz) rfl
theorem rM_add_120 {a0 s2 : Nat} {a1 a2 a5 a6 a7 s0 s1 : Int} {u3 u4 u8 : zV} (hk : zKd sh s2 = 21) (h0 : 0 ≤ s1) (h1 : s1 < zLn sh s2) : zS 160 120 [zR a0, zI a1, zI a2, u3, u4, zI a5, zI a6, zL a7, u8] [zL s0, zI s1, zR s2] sh pp mm Q ↔ zS 160 121 [zR a0, zI a1, zI a2, zU, zU, zI a5, zI a6, zL a7, zU] [] sh pp (zupd mm s2 s1 s0) Q := s_go cM_add_120 cM_add_121 (if_pos ⟨hk, h0, h1⟩) rfl
theorem rM_add_121 {a0 : Nat} {a1 a2 a5 a6 a7 : Int} {u3 u4 u8 : zV} : zS 160 121 [zR a0, zI a1, zI a2, u3, u4, zI a5, zI a6, zL a7, u8] [] sh pp mm Q ↔ zS 160 123 [zR a0, zI a1, zI a2, zU, zU, zI a5, zI a6, zU, zU] [zL a7] sh pp mm Q := s_go cM_add_121 cM_add_123 rfl rfl
theorem rM_add_123 {a0 : Nat} {a1 a2 a5 a6 s0 : Int} {u3 u4 u7 u8 : zV} : zS 160 123 [zR a0, zI a1, zI a2, u3, u4, zI a5, zI a6, u7, u8] [zL s0] sh pp mm Q ↔ zS 160 126 [zR a0, zI a1, zI a2, zU, zU, zI a5, zI a6, zU, zU] [zL 1073741824, zL s0] sh pp mm Q := s_go cM_add_123 cM_add_126 rfl rfl
theorem rM_add_126 {a0 : Nat} {a1 a2 a5 a6 s0 s1 : Int} {u3 u4 u7 u8 : zV} (hz : s0 ≠ 0) : zS 160 126 [zR a0, zI a1, zI a2, u3, u4, zI a5, zI a6, u7, u8] [zL s0, zL s1] sh pp mm Q ↔ zS 160 127 [zR a0, zI a1, zI a2, zU, zU, zI a5, zI a6, zU, zU] [zL (zw64 (s1.tdiv s0))] sh pp mm Q := s_go cM_add_126 cM_add_127 (if_neg hz) rfl
theorem rM_add_127 {a0 : Nat} {a1 a2 a5 a6 s0 : Int} {u3 u4 u7 u8 : zV} : zS 160 127 [zR a0, zI a1, zI a2, u3, u4, zI a5, zI a6, u7, u8] [zL s0] sh pp mm Q ↔ zS 160 128 [zR a0, zI a1, zI a2, zL s0, zU, zI a5, zI a6, zU, zU] [] sh pp mm Q := s_go cM_add_127 cM_add_128 rfl rfl
theorem rM_add_128 {a0 : Nat} {a1 a2 a3 a5 a6 : Int} {u4 u7 u8 : zV} : zS 160 128 [zR a0, zI a1, zI a2, zL a3, u4, zI a5, zI a6, u7, u8] [] sh pp mm Q ↔ zS 160 131 [zR a0, zI a1, zI a2, zL a3, zU, zI a5, zI (zw32 (a6 + 1)), zU, zU] [] sh pp mm Q := s_go cM_add_128 cM_add_131 rfl rfl
theorem rM_add_131 {a0 : Nat} {a1 a2 a3 a5 a6 : Int} {u4 u7 u8 : zV} : zS 160 131 [zR a0, zI a1, zI a2, zL a3, u4, zI a5, zI a6, u7, u8] [] sh pp mm Q ↔ zS 160 37 [zR a0, zI a1, zI a2, zL a3, zU, zI a5, zI a6, zU, zU] [] sh pp mm Q := s_go cM_add_131 cM_add_37 rfl rfl
theorem rM_add_134 {a0 : Nat} {a1 a3 a5 : Int} {u2 u4 u6 u7 u8 : zV} : zS 160 134 [zR a0, zI a1, u2, zL a3, u4, zI a5, u6, u7, u8] [] sh pp mm Q ↔ zS 160 135 [zR a0, zI a1, zU, zL a3, zU, zI a5, zU, zU, zU] [zR a0] sh pp mm Q := s_go cM_add_134 cM_add_135 rfl rfl
theorem rM_add_135 {a0 s0 : Nat} {a1 a3 a5 : Int} {u2 u4 u6 u7 u8 : zV} (hk : zKd sh s0 = 12) : zS 160 135 [zR a0, zI a1, u2, zL a3, u4, zI a5, u6, u7, u8] [zR s0] sh pp mm Q ↔ zS 160 138 [zR a0, zI a1, zU, zL a3, zU, zI a5, zU, zU, zU] [zR (pp s0 4)] sh pp mm Q := s_go cM_add_135 cM_add_138 (if_pos hk) rfl
theorem rM_add_138 {a0 s0 : Nat} {a1 a3 a5 : Int} {u2 u4 u6 u7 u8 : zV} : zS 160 138 [zR a0, zI a1, u2, zL a3, u4, zI a5, u6, u7, u8] [zR s0] sh pp mm Q ↔ zS 160 140 [zR a0, zI a1, zU, zL a3, zU, zI a5, zU, zU, zU] [zI 64, zR s0] sh pp mm Q := s_go cM_add_138 cM_add_140 rfl rfl
theorem rM_add_140 {a0 s1 : Nat} {a1 a3 a5 s0 : Int} {u2 u4 u6 u7 u8 : zV} : zS 160 140 [zR a0, zI a1, u2, zL a3, u4, zI a5, u6, u7, u8] [zI s0, zR s1] sh pp mm Q ↔ zS 160 141 [zR a0, zI a1, zU, zL a3, zU, zI a5, zU, zU, zU] [zI a1, zI s0, zR s1] sh pp mm Q := s_go cM_add_140 cM_add_141 rfl rfl
theorem rM_add_141 {a0 s2 : Nat} {a1 a3 a5 s0 s1 : Int} {u2 u4 u6 u7 u8 : zV} : zS 160 141 [zR a0, zI a1, u2, zL a3, u4, zI a5, u6, u7, u8] [zI s0, zI s1, zR s2] sh pp mm Q ↔ zS 160 142 [zR a0, zI a1, zU, zL a3, zU, zI a5, zU, zU, zU] [zI (zw32 (s1 * s0)), zR s2] sh pp mm Q := s_go cM_add_141 cM_add_142 rfl rfl
theorem rM_add_142 {a0 s1 : Nat} {a1 a3 a5 s0 : Int} {u2 u4 u6 u7 u8 : zV} : zS 160 142 [zR a0, zI a1, u2, zL a3, u4, zI a5, u6, u7, u8] [zI s0, zR s1] sh pp mm Q ↔ zS 160 144 [zR a0, zI a1, zU, zL a3, zU, zI a5, zU, zU, zU] [zI a5, zI s0, zR s1] sh pp mm Q := s_go cM_add_142 cM_add_144 rfl rfl
theorem rM_add_144 {a0 s2 : Nat} {a1 a3 a5 s0 s1 : Int} {u2 u4 u6 u7 u8 : zV} : zS 160 144 [zR a0, zI a1, u2, zL a3, u4, zI a5, u6, u7, u8] [zI s0, zI s1, zR s2] sh pp mm Q ↔ zS 160 145 [zR a0, zI a1, zU, zL a3, zU, zI a5, zU, zU, zU] [zI (zw32 (s1 + s0)), zR s2] sh pp mm Q := s_go cM_add_144 cM_add_145 rfl rfl
theorem rM_add_145 {a0 s1 : Nat} {a1 a3 a5 s0 : Int} {u2 u4 u6 u7 u8 : zV} : zS 160 145 [zR a0, zI a1, u2, zL a3, u4, zI a5, u6, u7, u8] [zI s0, zR s1] sh pp mm Q ↔ zS 160 146 [zR a0, zI a1, zU, zU, zU, zI a5, zU, zU, zU] [zL a3, zI s0, zR s1] sh pp mm Q := s_go cM_add_145 cM_add_146 rfl rfl
theorem rM_add_146 {a0 s2 : Nat} {a1 a5 s0 s1 : Int} {u2 u3 u4 u6 u7 u8 : zV} (hk : zKd sh s2 = 21) (h0 : 0 ≤ s1) (h1 : s1 < zLn sh s2) : zS 160 146 [zR a0, zI a1, u2, u3, u4, zI a5, u6, u7, u8] [zL s0, zI s1, zR s2] sh pp mm Q ↔ zS 160 147 [zR a0, zI a1, zU, zU, zU, zI a5, zU, zU, zU] [] sh pp (zupd mm s2 s1 s0) Q := s_go cM_add_146 cM_add_147 (if_pos ⟨hk, h0, h1⟩) rfl
theorem rM_add_147 {a0 : Nat} {a1 a5 : Int} {u2 u3 u4 u6 u7 u8 : zV} : zS 160 147 [zR a0, zI a1, u2, u3, u4, zI a5, u6, u7, u8] [] sh pp mm Q ↔ zS 160 148 [zR a0, zI a1, zU, zU, zU, zI a5, zU, zU, zU] [zR a0] sh pp mm Q := s_go cM_add_147 cM_add_148 rfl rfl
theorem rM_add_148 {a0 s0 : Nat} {a1 a5 : Int} {u2 u3 u4 u6 u7 u8 : zV} (hk : zKd sh s0 = 12) : zS 160 148 [zR a0, zI a1, u2, u3, u4, zI a5, u6, u7, u8] [zR s0] sh pp mm Q ↔ zS 160 151 [zR a0, zI a1, zU, zU, zU, zI a5, zU, zU, zU] [zR (pp s0 5)] sh pp mm Q := s_go cM_add_148 cM_add_151 (if_pos hk) rfl
theorem rM_add_151 {a0 s0 : Nat} {a1 a5 : Int} {u2 u3 u4 u6 u7 u8 : zV} : zS 160 151 [zR a0, zI a1, u2, u3, u4, zI a5, u6, u7, u8] [zR s0] sh pp mm Q ↔ zS 160 152 [zR a0, zI a1, zU, zU, zU, zI a5, zU, zU, zU] [zI a1, zR s0] sh pp mm Q := s_go cM_add_151 cM_add_152 rfl rfl
theorem rM_add_152 {a0 s1 : Nat} {a1 a5 s0 : Int} {u2 u3 u4 u6 u7 u8 : zV} : zS 160 152 [zR a0, zI a1, u2, u3, u4, zI a5, u6, u7, u8] [zI s0, zR s1] sh pp mm Q ↔ zS 160 154 [zR a0, zI a1, zU, zU, zU, zU, zU, zU, zU] [zI a5, zI s0, zR s1] sh pp mm Q := s_go cM_add_152 cM_add_154 rfl rfl
theorem rM_add_154 {a0 s2 : Nat} {a1 s0 s1 : Int} {u2 u3 u4 u5 u6 u7 u8 : zV} : zS 160 154 [zR a0, zI a1, u2, u3, u4, u5, u6, u7, u8] [zI s0, zI s1, zR s2] sh pp mm Q ↔ zS 160 155 [zR a0, zI a1, zU, zU, zU, zU, zU, zU, zU] [zI 1, zI s0, zI s1, zR s2] sh pp mm Q := s_go cM_add_154 cM_add_155 rfl rfl
theorem rM_add_155 {a0 s3 : Nat} {a1 s0 s1 s2 : Int} {u2 u3 u4 u5 u6 u7 u8 : zV} : zS 160 155 [zR a0, zI a1, u2, u3, u4, u5, u6, u7, u8] [zI s0, zI s1, zI s2, zR s3] sh pp mm Q ↔ zS 160 156 [zR a0, zI a1, zU, zU, zU, zU, zU, zU, zU] [zI (zw32 (s1 + s0)), zI s2, zR s3] sh pp mm Q := s_go cM_add_155 cM_add_156 rfl rfl
theorem rM_add_156 {a0 s2 : Nat} {a1 s0 s1 : Int} {u2 u3 u4 u5 u6 u7 u8 : zV} (hk : zKd sh s2 = 20) (h0 : 0 ≤ s1) (h1 : s1 < zLn sh s2) : zS 160 156 [zR a0, zI a1, u2, u3, u4, u5, u6, u7, u8] [zI s0, zI s1, zR s2] sh pp mm Q ↔ zS 160 157 [zR a0, zI a1, zU, zU, zU, zU, zU, zU, zU] [] sh pp (zupd mm s2 s1 s0) Q := s_go cM_add_156 cM_add_157 (if_pos ⟨hk, h0, h1, fun h => absurd h (by decide)⟩) rfl
theorem rM_add_157 {a0 : Nat} {a1 : Int} {u2 u3 u4 u5 u6 u7 u8 : zV} : zS 160 157 [zR a0, zI a1, u2, u3, u4, u5, u6, u7, u8] [] sh pp mm Q ↔ zS 160 158 [zU, zI a1, zU, zU, zU, zU, zU, zU, zU] [zR a0] sh pp mm Q := s_go cM_add_157 cM_add_158 rfl rfl
theorem rM_add_158 {s0 : Nat} {a1 : Int} {u0 u2 u3 u4 u5 u6 u7 u8 : zV} : zS 160 158 [u0, zI a1, u2, u3, u4, u5, u6, u7, u8] [zR s0] sh pp mm Q ↔ zS 160 159 [zU, zU, zU, zU, zU, zU, zU, zU, zU] [zI a1, zR s0] sh pp mm Q := s_go cM_add_158 cM_add_159 rfl rfl
theorem rM_add_159 {s1 : Nat} {s0 : Int} {u0 u1 u2 u3 u4 u5 u6 u7 u8 : zV} (hk : zKd sh s1 = 12) : zS 160 159 [u0, u1, u2, u3, u4, u5, u6, u7, u8] [zI s0, zR s1] sh pp mm Q ↔ zS 157 0 [zR s1, zI s0] [] sh pp mm (fun v sh pp mm => zS 160 162 [zU, zU, zU, zU, zU, zU, zU, zU, zU] (zPush v []) sh pp mm Q) := s_call cM_add_159 cM_add_162 ((if_pos hk).trans rfl) rfl
theorem rM_add_162 {u0 u1 u2 u3 u4 u5 u6 u7 u8 : zV} : zS 160 162 [u0, u1, u2, u3, u4, u5, u6, u7, u8] [] sh pp mm Q ↔ Q zU sh pp mm := s_ret cM_add_162 rfl
theorem cAM_take : ∀ q ∈ zT161, zCode 161 q.1 = some q.2 := zAll (mid := 161) rfl (by decide +kernel)
theorem cAM_take_0 : ∀ q ∈ zT161_0, zCode 161 q.1 = some q.2 := fun q h => cAM_take q (List.mem_append_left _ h)
theorem cAM_take_1 : ∀ q ∈ zT161_1, zCode 161 q.1 = some q.2 := fun q h => cAM_take q (List.mem_append_right _ (List.mem_append_left _ h))
theorem cAM_take_2 : ∀ q ∈ zT161_2, zCode 161 q.1 = some q.2 := fun q h => cAM_take q (List.mem_append_right _ (List.mem_append_right _ (List.mem_append_left _ h)))
theorem cAM_take_3 : ∀ q ∈ zT161_3, zCode 161 q.1 = some q.2 := fun q h => cAM_take q (List.mem_append_right _ (List.mem_append_right _ (List.mem_append_right _ (List.mem_append_left _ h))))
theorem cAM_take_4 : ∀ q ∈ zT161_4, zCode 161 q.1 = some q.2 := fun q h => cAM_take q (List.mem_append_right _ (List.mem_append_right _ (List.mem_append_right _ (List.mem_append_right _ h))))
theorem cM_take_0 : zCode 161 0 = some (.lconst 0, 1, 0, 0, 0, 0, 7) := cAM_take_0 _ (List.mem_of_getElem? (i := 0) rfl)
theorem cM_take_1 : zCode 161 1 = some (.lstore_n 3, 2, 0, 0, 0, 0, 7) := cAM_take_0 _ (List.mem_of_getElem? (i := 1) rfl)
theorem cM_take_2 : zCode 161 2 = some (.iconst 0, 3, 0, 0, 0, 0, 15) := cAM_take_0 _ (List.mem_of_getElem? (i := 2) rfl)
theorem cM_take_3 : zCode 161 3 = some (.istore 5, 5, 0, 0, 0, 0, 15) := cAM_take_0 _ (List.mem_of_getElem? (i := 3) rfl)
theorem cM_take_5 : zCode 161 5 = some (.iload 5, 7, 0, 0, 0, 0, 47) := cAM_take_0 _ (List.mem_of_getElem? (i := 4) rfl)
theorem cM_take_7 : zCode 161 7 = some (.aload_n 0, 8, 0, 0, 0, 0, 47) := cAM_take_0 _ (List.mem_of_getElem? (i := 5) rfl)
theorem cM_take_8 : zCode 161 8 = some (.getfield 27, 11, 12, 5, 2, 1214, 47) := cAM_take_0 _ (List.mem_of_getElem? (i := 6) rfl)
theorem cM_take_11 : zCode 161 11 = some (.iload_n 1, 12, 0, 0, 0, 0, 47) := cAM_take_0 _ (List.mem_of_getElem? (i := 7) rfl)
theorem cM_take_12 : zCode 161 12 = some (.iaload, 13, 0, 0, 0, 0, 47) := cAM_take_0 _ (List.mem_of_getElem? (i := 8) rfl)
theorem cM_take_13 : zCode 161 13 = some (.if_icmp .ge 86, 16, 99, 0, 0, 0, 47) := cAM_take_0 _ (List.mem_of_getElem? (i := 9) rfl)
theorem cM_take_16 : zCode 161 16 = some (.aload_n 0, 17, 0, 0, 0, 0, 47) := cAM_take_0 _ (List.mem_of_getElem? (i := 10) rfl)
theorem cM_take_17 : zCode 161 17 = some (.getfield 23, 20, 12, 4, 2, 1213, 47) := cAM_take_0 _ (List.mem_of_getElem? (i := 11) rfl)
theorem cM_take_20 : zCode 161 20 = some (.bipush 64, 22, 0, 0, 0, 0, 47) := cAM_take_0 _ (List.mem_of_getElem? (i := 12) rfl)
theorem cM_take_22 : zCode 161 22 = some (.iload_n 1, 23, 0, 0, 0, 0, 47) := cAM_take_0 _ (List.mem_of_getElem? (i := 13) rfl)
theorem cM_take_23 : zCode 161 23 = some (.imul, 24, 0, 0, 0, 0, 47) := cAM_take_0 _ (List.mem_of_getElem? (i := 14) rfl)
theorem cM_take_24 : zCode 161 24 = some (.iload 5, 26, 0, 0, 0, 0, 47) := cAM_take_0 _ (List.mem_of_getElem? (i := 15) rfl)
theorem cM_take_26 : zCode 161 26 = some (.iadd, 27, 0, 0, 0, 0, 47) := cAM_take_1 _ (List.mem_of_getElem? (i := 0) rfl)
theorem cM_take_27 : zCode 161 27 = some (.laload, 28, 0, 0, 0, 0, 47) := cAM_take_1 _ (List.mem_of_getElem? (i := 1) rfl)
theorem cM_take_28 : zCode 161 28 = some (.iload 5, 30, 0, 0, 0, 0, 47) := cAM_take_1 _ (List.mem_of_getElem? (i := 2) rfl)
theorem cM_take_30 : zCode 161 30 = some (.aload_n 0, 31, 0, 0, 0, 0, 47) := cAM_take_1 _ (List.mem_of_getElem? (i := 3) rfl)
theorem cM_take_31 : zCode 161 31 = some (.getfield 27, 34, 12, 5, 2, 1214, 47) := cAM_take_1 _ (List.mem_of_getElem? (i := 4) rfl)
theorem cM_take_34 : zCode 161 34 = some (.iload_n 2, 35, 0, 0, 0, 0, 47) := cAM_take_1 _ (List.mem_of_getElem? (i := 5) rfl)
theorem cM_take_35 : zCode 161 35 = some (.iaload, 36, 0, 0, 0, 0, 47) := cAM_take_1 _ (List.mem_of_getElem? (i := 6) rfl)
theorem cM_take_36 : zCode 161 36 = some (.if_icmp .ge 18, 39, 54, 0, 0, 0, 47) := cAM_take_1 _ (List.mem_of_getElem? (i := 7) rfl)
theorem cM_take_39 : zCode 161 39 = some (.aload_n 0, 40, 0, 0, 0, 0, 47) := cAM_take_1 _ (List.mem_of_getElem? (i := 8) rfl)
theorem cM_take_40 : zCode 161 40 = some (.getfield 23, 43, 12, 4, 2, 1213, 47) := cAM_take_1 _ (List.mem_of_getElem? (i := 9) rfl)
theorem cM_take_43 : zCode 161 43 = some (.bipush 64, 45, 0, 0, 0, 0, 47) := cAM_take_1 _ (List.mem_of_getElem? (i := 10) rfl)
theorem cM_take_45 : zCode 161 45 = some (.iload_n 2, 46, 0, 0, 0, 0, 47) := cAM_take_1 _ (List.mem_of_getElem? (i := 11) rfl)
theorem cM_take_46 : zCode 161 46 = some (.imul, 47, 0, 0, 0, 0, 47) := cAM_take_1 _ (List.mem_of_getElem? (i := 12) rfl)
theorem cM_take_47 : zCode 161 47 = some (.iload 5, 49, 0, 0, 0, 0, 47) := cAM_take_1 _ (List.mem_of_getElem? (i := 13) rfl)
theorem cM_take_49 : zCode 161 49 = some (.iadd, 50, 0, 0, 0, 0, 47) := cAM_take_1 _ (List.mem_of_getElem? (i := 14) rfl)
theorem cM_take_50 : zCode 161 50 = some (.laload, 51, 0, 0, 0, 0, 47) := cAM_take_1 _ (List.mem_of_getElem? (i := 15) rfl)
theorem cM_take_51 : zCode 161 51 = some (.goto 4, 54, 55, 0, 0, 0, 47) := cAM_take_2 _ (List.mem_of_getElem? (i := 0) rfl)
theorem cM_take_54 : zCode 161 54 = some (.lconst 0, 55, 0, 0, 0, 0, 47) := cAM_take_2 _ (List.mem_of_getElem? (i := 1) rfl)
theorem cM_take_55 : zCode 161 55 = some (.lsub, 56, 0, 0, 0, 0, 47) := cAM_take_2 _ (List.mem_of_getElem? (i := 2) rfl)
theorem cM_take_56 : zCode 161 56 = some (.lload_n 3, 57, 0, 0, 0, 0, 47) := cAM_take_2 _ (List.mem_of_getElem? (i := 3) rfl)
theorem cM_take_57 : zCode 161 57 = some (.lsub, 58, 0, 0, 0, 0, 39) := cAM_take_2 _ (List.mem_of_getElem? (i := 4) rfl)
theorem cM_take_58 : zCode 161 58 = some (.lstore 6, 60, 0, 0, 0, 0, 39) := cAM_take_2 _ (List.mem_of_getElem? (i := 5) rfl)
theorem cM_take_60 : zCode 161 60 = some (.lload 6, 62, 0, 0, 0, 0, 103) := cAM_take_2 _ (List.mem_of_getElem? (i := 6) rfl)
theorem cM_take_62 : zCode 161 62 = some (.lconst 0, 63, 0, 0, 0, 0, 103) := cAM_take_2 _ (List.mem_of_getElem? (i := 7) rfl)
theorem cM_take_63 : zCode 161 63 = some (.lcmp, 64, 0, 0, 0, 0, 103) := cAM_take_2 _ (List.mem_of_getElem? (i := 8) rfl)
theorem cM_take_64 : zCode 161 64 = some (.ifCond .ge 7, 67, 71, 0, 0, 0, 103) := cAM_take_2 _ (List.mem_of_getElem? (i := 9) rfl)
theorem cM_take_67 : zCode 161 67 = some (.lconst 1, 68, 0, 0, 0, 0, 103) := cAM_take_2 _ (List.mem_of_getElem? (i := 10) rfl)
theorem cM_take_68 : zCode 161 68 = some (.goto 4, 71, 72, 0, 0, 0, 103) := cAM_take_2 _ (List.mem_of_getElem? (i := 11) rfl)
theorem cM_take_71 : zCode 161 71 = some (.lconst 0, 72, 0, 0, 0, 0, 103) := cAM_take_2 _ (List.mem_of_getElem? (i := 12) rfl)
theorem cM_take_72 : zCode 161 72 = some (.lstore_n 3, 73, 0, 0, 0, 0, 103) := cAM_take_2 _ (List.mem_of_getElem? (i := 13) rfl)
theorem cM_take_73 : zCode 161 73 = some (.aload_n 0, 74, 0, 0, 0, 0, 111) := cAM_take_2 _ (List.mem_of_getElem? (i := 14) rfl)
theorem cM_take_74 : zCode 161 74 = some (.getfield 23, 77, 12, 4, 2, 1213, 111) := cAM_take_2 _ (List.mem_of_getElem? (i := 15) rfl)
theorem cM_take_77 : zCode 161 77 = some (.bipush 64, 79, 0, 0, 0, 0, 111) := cAM_take_3 _ (List.mem_of_getElem? (i := 0) rfl)
theorem cM_take_79 : zCode 161 79 = some (.iload_n 1, 80, 0, 0, 0, 0, 111) := cAM_take_3 _ (List.mem_of_getElem? (i := 1) rfl)
theorem cM_take_80 : zCode 161 80 = some (.imul, 81, 0, 0, 0, 0, 111) := cAM_take_3 _ (List.mem_of_getElem? (i := 2) rfl)
theorem cM_take_81 : zCode 161 81 = some (.iload 5, 83, 0, 0, 0, 0, 111) := cAM_take_3 _ (List.mem_of_getElem? (i := 3) rfl)
theorem cM_take_83 : zCode 161 83 = some (.iadd, 84, 0, 0, 0, 0, 111) := cAM_take_3 _ (List.mem_of_getElem? (i := 4) rfl)
theorem cM_take_84 : zCode 161 84 = some (.lload 6, 86, 0, 0, 0, 0, 111) := cAM_take_3 _ (List.mem_of_getElem? (i := 5) rfl)
theorem cM_take_86 : zCode 161 86 = some (.lload_n 3, 87, 0, 0, 0, 0, 47) := cAM_take_3 _ (List.mem_of_getElem? (i := 6) rfl)
theorem cM_take_87 : zCode 161 87 = some (.ldc2_w 77, 90, 0, 0, 1208, 1073741824, 47) := cAM_take_3 _ (List.mem_of_getElem? (i := 7) rfl)
theorem cM_take_90 : zCode 161 90 = some (.lmul, 91, 0, 0, 0, 0, 47) := cAM_take_3 _ (List.mem_of_getElem? (i := 8) rfl)
theorem cM_take_91 : zCode 161 91 = some (.ladd, 92, 0, 0, 0, 0, 47) := cAM_take_3 _ (List.mem_of_getElem? (i := 9) rfl)
theorem cM_take_92 : zCode 161 92 = some (.lastore, 93, 0, 0, 0, 0, 47) := cAM_take_3 _ (List.mem_of_getElem? (i := 10) rfl)
theorem cM_take_93 : zCode 161 93 = some (.iinc 5 1, 96, 0, 0, 0, 0, 47) := cAM_take_3 _ (List.mem_of_getElem? (i := 11) rfl)
theorem cM_take_96 : zCode 161 96 = some (.goto (-91), 99, 5, 0, 0, 0, 47) := cAM_take_3 _ (List.mem_of_getElem? (i := 12) rfl)
theorem cM_take_99 : zCode 161 99 = some (.aload_n 0, 100, 0, 0, 0, 0, 3) := cAM_take_3 _ (List.mem_of_getElem? (i := 13) rfl)
theorem cM_take_100 : zCode 161 100 = some (.iload_n 1, 101, 0, 0, 0, 0, 2) := cAM_take_3 _ (List.mem_of_getElem? (i := 14) rfl)
theorem cM_take_101 : zCode 161 101 = some (.invokevirtual 79, 104, 157, 1, 2, 12, 0) := cAM_take_3 _ (List.mem_of_getElem? (i := 15) rfl)
theorem cM_take_104 : zCode 161 104 = some (.return_, 105, 0, 0, 0, 0, 0) := cAM_take_4 _ (List.mem_of_getElem? (i := 0) rfl)
theorem rM_take_0 {a0 : Nat} {a1 a2 : Int} {u3 u4 u5 u6 u7 : zV} : zS 161 0 [zR a0, zI a1, zI a2, u3, u4, u5, u6, u7] [] sh pp mm Q ↔ zS 161 1 [zR a0, zI a1, zI a2, zU, zU, zU, zU, zU] [zL 0] sh pp mm Q := s_go cM_take_0 cM_take_1 rfl rfl
theorem rM_take_1 {a0 : Nat} {a1 a2 s0 : Int} {u3 u4 u5 u6 u7 : zV} : zS 161 1 [zR a0, zI a1, zI a2, u3, u4, u5, u6, u7] [zL s0] sh pp mm Q ↔ zS 161 2 [zR a0, zI a1, zI a2, zL s0, zU, zU, zU, zU] [] sh pp mm Q := s_go cM_take_1 cM_take_2 rfl rfl
theorem rM_take_2 {a0 : Nat} {a1 a2 a3 : Int} {u4 u5 u6 u7 : zV} : zS 161 2 [zR a0, zI a1, zI a2, zL a3, u4, u5, u6, u7] [] sh pp mm Q ↔ zS 161 3 [zR a0, zI a1, zI a2, zL a3, zU, zU, zU, zU] [zI 0] sh pp mm Q := s_go cM_take_2 cM_take_3 rfl rfl
theorem rM_take_3 {a0 : Nat} {a1 a2 a3 s0 : Int} {u4 u5 u6 u7 : zV} : zS 161 3 [zR a0, zI a1, zI a2, zL a3, u4, u5, u6, u7] [zI s0] sh pp mm Q ↔ zS 161 5 [zR a0, zI a1, zI a2, zL a3, zU, zI s0, zU, zU] [] sh pp mm Q := s_go cM_take_3 cM_take_5 rfl rfl
theorem rM_take_5 {a0 : Nat} {a1 a2 a3 a5 : Int} {u4 u6 u7 : zV} : zS 161 5 [zR a0, zI a1, zI a2, zL a3, u4, zI a5, u6, u7] [] sh pp mm Q ↔ zS 161 7 [zR a0, zI a1, zI a2, zL a3, zU, zI a5, zU, zU] [zI a5] sh pp mm Q := s_go cM_take_5 cM_take_7 rfl rfl
theorem rM_take_7 {a0 : Nat} {a1 a2 a3 a5 s0 : Int} {u4 u6 u7 : zV} : zS 161 7 [zR a0, zI a1, zI a2, zL a3, u4, zI a5, u6, u7] [zI s0] sh pp mm Q ↔ zS 161 8 [zR a0, zI a1, zI a2, zL a3, zU, zI a5, zU, zU] [zR a0, zI s0] sh pp mm Q := s_go cM_take_7 cM_take_8 rfl rfl
theorem rM_take_8 {a0 s0 : Nat} {a1 a2 a3 a5 s1 : Int} {u4 u6 u7 : zV} (hk : zKd sh s0 = 12) : zS 161 8 [zR a0, zI a1, zI a2, zL a3, u4, zI a5, u6, u7] [zR s0, zI s1] sh pp mm Q ↔ zS 161 11 [zR a0, zI a1, zI a2, zL a3, zU, zI a5, zU, zU] [zR (pp s0 5), zI s1] sh pp mm Q := s_go cM_take_8 cM_take_11 (if_pos hk) rfl
theorem rM_take_11 {a0 s0 : Nat} {a1 a2 a3 a5 s1 : Int} {u4 u6 u7 : zV} : zS 161 11 [zR a0, zI a1, zI a2, zL a3, u4, zI a5, u6, u7] [zR s0, zI s1] sh pp mm Q ↔ zS 161 12 [zR a0, zI a1, zI a2, zL a3, zU, zI a5, zU, zU] [zI a1, zR s0, zI s1] sh pp mm Q := s_go cM_take_11 cM_take_12 rfl rfl
theorem rM_take_12 {a0 s1 : Nat} {a1 a2 a3 a5 s0 s2 : Int} {u4 u6 u7 : zV} (hk : zKd sh s1 = 20 ∨ zKd sh s1 = 30) (h0 : 0 ≤ s0) (h1 : s0 < zLn sh s1) : zS 161 12 [zR a0, zI a1, zI a2, zL a3, u4, zI a5, u6, u7] [zI s0, zR s1, zI s2] sh pp mm Q ↔ zS 161 13 [zR a0, zI a1, zI a2, zL a3, zU, zI a5, zU, zU] [zI (mm s1 s0), zI s2] sh pp mm Q := s_go cM_take_12 cM_take_13 (if_pos ⟨hk, h0, h1⟩) rfl
theorem rM_take_13 {a0 : Nat} {a1 a2 a3 a5 s0 s1 : Int} {u4 u6 u7 : zV} : zS 161 13 [zR a0, zI a1, zI a2, zL a3, u4, zI a5, u6, u7] [zI s0, zI s1] sh pp mm Q ↔ (s1 < s0 → zS 161 16 [zR a0, zI a1, zI a2, zL a3, zU, zI a5, zU, zU] [] sh pp mm Q) ∧ (¬ s1 < s0 → zS 161 99 [zR a0, zI a1, zU, zU, zU, zU, zU, zU] [] sh pp mm Q) := s_ifn cM_take_13 cM_take_16 cM_take_99 rfl rfl rfl
theorem rM_take_16 {a0 : Nat} {a1 a2 a3 a5 : Int} {u4 u6 u7 : zV} : zS 161 16 [zR a0, zI a1, zI a2, zL a3, u4, zI a5, u6, u7] [] sh pp mm Q ↔ zS 161 17 [zR a0, zI a1, zI a2, zL a3, zU, zI a5, zU, zU] [zR a0] sh pp mm Q := s_go cM_take_16 cM_take_17 rfl rfl
theorem rM_take_17 {a0 s0 : Nat} {a1 a2 a3 a5 : Int} {u4 u6 u7 : zV} (hk : zKd sh s0 = 12) : zS 161 17 [zR a0, zI a1, zI a2, zL a3, u4, zI a5, u6, u7] [zR s0] sh pp mm Q ↔ zS 161 20 [zR a0, zI a1, zI a2, zL a3, zU, zI a5, zU, zU] [zR (pp s0 4)] sh pp mm Q := s_go cM_take_17 cM_take_20 (if_pos hk) rfl
theorem rM_take_20 {a0 s0 : Nat} {a1 a2 a3 a5 : Int} {u4 u6 u7 : zV} : zS 161 20 [zR a0, zI a1, zI a2, zL a3, u4, zI a5, u6, u7] [zR s0] sh pp mm Q ↔ zS 161 22 [zR a0, zI a1, zI a2, zL a3, zU, zI a5, zU, zU] [zI 64, zR s0] sh pp mm Q := s_go cM_take_20 cM_take_22 rfl rfl
theorem rM_take_22 {a0 s1 : Nat} {a1 a2 a3 a5 s0 : Int} {u4 u6 u7 : zV} : zS 161 22 [zR a0, zI a1, zI a2, zL a3, u4, zI a5, u6, u7] [zI s0, zR s1] sh pp mm Q ↔ zS 161 23 [zR a0, zI a1, zI a2, zL a3, zU, zI a5, zU, zU] [zI a1, zI s0, zR s1] sh pp mm Q := s_go cM_take_22 cM_take_23 rfl rfl
theorem rM_take_23 {a0 s2 : Nat} {a1 a2 a3 a5 s0 s1 : Int} {u4 u6 u7 : zV} : zS 161 23 [zR a0, zI a1, zI a2, zL a3, u4, zI a5, u6, u7] [zI s0, zI s1, zR s2] sh pp mm Q ↔ zS 161 24 [zR a0, zI a1, zI a2, zL a3, zU, zI a5, zU, zU] [zI (zw32 (s1 * s0)), zR s2] sh pp mm Q := s_go cM_take_23 cM_take_24 rfl rfl
theorem rM_take_24 {a0 s1 : Nat} {a1 a2 a3 a5 s0 : Int} {u4 u6 u7 : zV} : zS 161 24 [zR a0, zI a1, zI a2, zL a3, u4, zI a5, u6, u7] [zI s0, zR s1] sh pp mm Q ↔ zS 161 26 [zR a0, zI a1, zI a2, zL a3, zU, zI a5, zU, zU] [zI a5, zI s0, zR s1] sh pp mm Q := s_go cM_take_24 cM_take_26 rfl rfl
theorem rM_take_26 {a0 s2 : Nat} {a1 a2 a3 a5 s0 s1 : Int} {u4 u6 u7 : zV} : zS 161 26 [zR a0, zI a1, zI a2, zL a3, u4, zI a5, u6, u7] [zI s0, zI s1, zR s2] sh pp mm Q ↔ zS 161 27 [zR a0, zI a1, zI a2, zL a3, zU, zI a5, zU, zU] [zI (zw32 (s1 + s0)), zR s2] sh pp mm Q := s_go cM_take_26 cM_take_27 rfl rfl
theorem rM_take_27 {a0 s1 : Nat} {a1 a2 a3 a5 s0 : Int} {u4 u6 u7 : zV} (hk : zKd sh s1 = 21) (h0 : 0 ≤ s0) (h1 : s0 < zLn sh s1) : zS 161 27 [zR a0, zI a1, zI a2, zL a3, u4, zI a5, u6, u7] [zI s0, zR s1] sh pp mm Q ↔ zS 161 28 [zR a0, zI a1, zI a2, zL a3, zU, zI a5, zU, zU] [zL (mm s1 s0)] sh pp mm Q := s_go cM_take_27 cM_take_28 (if_pos ⟨hk, h0, h1⟩) rfl
theorem rM_take_28 {a0 : Nat} {a1 a2 a3 a5 s0 : Int} {u4 u6 u7 : zV} : zS 161 28 [zR a0, zI a1, zI a2, zL a3, u4, zI a5, u6, u7] [zL s0] sh pp mm Q ↔ zS 161 30 [zR a0, zI a1, zI a2, zL a3, zU, zI a5, zU, zU] [zI a5, zL s0] sh pp mm Q := s_go cM_take_28 cM_take_30 rfl rfl
theorem rM_take_30 {a0 : Nat} {a1 a2 a3 a5 s0 s1 : Int} {u4 u6 u7 : zV} : zS 161 30 [zR a0, zI a1, zI a2, zL a3, u4, zI a5, u6, u7] [zI s0, zL s1] sh pp mm Q ↔ zS 161 31 [zR a0, zI a1, zI a2, zL a3, zU, zI a5, zU, zU] [zR a0, zI s0, zL s1] sh pp mm Q := s_go cM_take_30 cM_take_31 rfl rfl
theorem rM_take_31 {a0 s0 : Nat} {a1 a2 a3 a5 s1 s2 : Int} {u4 u6 u7 : zV} (hk : zKd sh s0 = 12) : zS 161 31 [zR a0, zI a1, zI a2, zL a3, u4, zI a5, u6, u7] [zR s0, zI s1, zL s2] sh pp mm Q ↔ zS 161 34 [zR a0, zI a1, zI a2, zL a3, zU, zI a5, zU, zU] [zR (pp s0 5), zI s1, zL s2] sh pp mm Q := s_go cM_take_31 cM_take_34 (if_pos hk) rfl
theorem rM_take_34 {a0 s0 : Nat} {a1 a2 a3 a5 s1 s2 : Int} {u4 u6 u7 : zV} : zS 161 34 [zR a0, zI a1, zI a2, zL a3, u4, zI a5, u6, u7] [zR s0, zI s1, zL s2] sh pp mm Q ↔ zS 161 35 [zR a0, zI a1, zI a2, zL a3, zU, zI a5, zU, zU] [zI a2, zR s0, zI s1, zL s2] sh pp mm Q := s_go cM_take_34 cM_take_35 rfl rfl
theorem rM_take_35 {a0 s1 : Nat} {a1 a2 a3 a5 s0 s2 s3 : Int} {u4 u6 u7 : zV} (hk : zKd sh s1 = 20 ∨ zKd sh s1 = 30) (h0 : 0 ≤ s0) (h1 : s0 < zLn sh s1) : zS 161 35 [zR a0, zI a1, zI a2, zL a3, u4, zI a5, u6, u7] [zI s0, zR s1, zI s2, zL s3] sh pp mm Q ↔ zS 161 36 [zR a0, zI a1, zI a2, zL a3, zU, zI a5, zU, zU] [zI (mm s1 s0), zI s2, zL s3] sh pp mm Q := s_go cM_take_35 cM_take_36 (if_pos ⟨hk, h0, h1⟩) rfl
theorem rM_take_36 {a0 : Nat} {a1 a2 a3 a5 s0 s1 s2 : Int} {u4 u6 u7 : zV} : zS 161 36 [zR a0, zI a1, zI a2, zL a3, u4, zI a5, u6, u7] [zI s0, zI s1, zL s2] sh pp mm Q ↔ (s1 < s0 → zS 161 39 [zR a0, zI a1, zI a2, zL a3, zU, zI a5, zU, zU] [zL s2] sh pp mm Q) ∧ (¬ s1 < s0 → zS 161 54 [zR a0, zI a1, zI a2, zL a3, zU, zI a5, zU, zU] [zL s2] sh pp mm Q) := s_ifn cM_take_36 cM_take_39 cM_take_54 rfl rfl rfl
theorem rM_take_39 {a0 : Nat} {a1 a2 a3 a5 s0 : Int} {u4 u6 u7 : zV} : zS 161 39 [zR a0, zI a1, zI a2, zL a3, u4, zI a5, u6, u7] [zL s0] sh pp mm Q ↔ zS 161 40 [zR a0, zI a1, zI a2, zL a3, zU, zI a5, zU, zU] [zR a0, zL s0] sh pp mm Q := s_go cM_take_39 cM_take_40 rfl rfl
theorem rM_take_40 {a0 s0 : Nat} {a1 a2 a3 a5 s1 : Int} {u4 u6 u7 : zV} (hk : zKd sh s0 = 12) : zS 161 40 [zR a0, zI a1, zI a2, zL a3, u4, zI a5, u6, u7] [zR s0, zL s1] sh pp mm Q ↔ zS 161 43 [zR a0, zI a1, zI a2, zL a3, zU, zI a5, zU, zU] [zR (pp s0 4), zL s1] sh pp mm Q := s_go cM_take_40 cM_take_43 (if_pos hk) rfl
theorem rM_take_43 {a0 s0 : Nat} {a1 a2 a3 a5 s1 : Int} {u4 u6 u7 : zV} : zS 161 43 [zR a0, zI a1, zI a2, zL a3, u4, zI a5, u6, u7] [zR s0, zL s1] sh pp mm Q ↔ zS 161 45 [zR a0, zI a1, zI a2, zL a3, zU, zI a5, zU, zU] [zI 64, zR s0, zL s1] sh pp mm Q := s_go cM_take_43 cM_take_45 rfl rfl
theorem rM_take_45 {a0 s1 : Nat} {a1 a2 a3 a5 s0 s2 : Int} {u4 u6 u7 : zV} : zS 161 45 [zR a0, zI a1, zI a2, zL a3, u4, zI a5, u6, u7] [zI s0, zR s1, zL s2] sh pp mm Q ↔ zS 161 46 [zR a0, zI a1, zI a2, zL a3, zU, zI a5, zU, zU] [zI a2, zI s0, zR s1, zL s2] sh pp mm Q := s_go cM_take_45 cM_take_46 rfl rfl
theorem rM_take_46 {a0 s2 : Nat} {a1 a2 a3 a5 s0 s1 s3 : Int} {u4 u6 u7 : zV} : zS 161 46 [zR a0, zI a1, zI a2, zL a3, u4, zI a5, u6, u7] [zI s0, zI s1, zR s2, zL s3] sh pp mm Q ↔ zS 161 47 [zR a0, zI a1, zI a2, zL a3, zU, zI a5, zU, zU] [zI (zw32 (s1 * s0)), zR s2, zL s3] sh pp mm Q := s_go cM_take_46 cM_take_47 rfl rfl
theorem rM_take_47 {a0 s1 : Nat} {a1 a2 a3 a5 s0 s2 : Int} {u4 u6 u7 : zV} : zS 161 47 [zR a0, zI a1, zI a2, zL a3, u4, zI a5, u6, u7] [zI s0, zR s1, zL s2] sh pp mm Q ↔ zS 161 49 [zR a0, zI a1, zI a2, zL a3, zU, zI a5, zU, zU] [zI a5, zI s0, zR s1, zL s2] sh pp mm Q := s_go cM_take_47 cM_take_49 rfl rfl
theorem rM_take_49 {a0 s2 : Nat} {a1 a2 a3 a5 s0 s1 s3 : Int} {u4 u6 u7 : zV} : zS 161 49 [zR a0, zI a1, zI a2, zL a3, u4, zI a5, u6, u7] [zI s0, zI s1, zR s2, zL s3] sh pp mm Q ↔ zS 161 50 [zR a0, zI a1, zI a2, zL a3, zU, zI a5, zU, zU] [zI (zw32 (s1 + s0)), zR s2, zL s3] sh pp mm Q := s_go cM_take_49 cM_take_50 rfl rfl
theorem rM_take_50 {a0 s1 : Nat} {a1 a2 a3 a5 s0 s2 : Int} {u4 u6 u7 : zV} (hk : zKd sh s1 = 21) (h0 : 0 ≤ s0) (h1 : s0 < zLn sh s1) : zS 161 50 [zR a0, zI a1, zI a2, zL a3, u4, zI a5, u6, u7] [zI s0, zR s1, zL s2] sh pp mm Q ↔ zS 161 51 [zR a0, zI a1, zI a2, zL a3, zU, zI a5, zU, zU] [zL (mm s1 s0), zL s2] sh pp mm Q := s_go cM_take_50 cM_take_51 (if_pos ⟨hk, h0, h1⟩) rfl
theorem rM_take_51 {a0 : Nat} {a1 a2 a3 a5 s0 s1 : Int} {u4 u6 u7 : zV} : zS 161 51 [zR a0, zI a1, zI a2, zL a3, u4, zI a5, u6, u7] [zL s0, zL s1] sh pp mm Q ↔ zS 161 55 [zR a0, zI a1, zI a2, zL a3, zU, zI a5, zU, zU] [zL s0, zL s1] sh pp mm Q := s_go cM_take_51 cM_take_55 rfl rfl
theorem rM_take_54 {a0 : Nat} {a1 a2 a3 a5 s0 : Int} {u4 u6 u7 : zV} : zS 161 54 [zR a0, zI a1, zI a2, zL a3, u4, zI a5, u6, u7] [zL s0] sh pp mm Q ↔ zS 161 55 [zR a0, zI a1, zI a2, zL a3, zU, zI a5, zU, zU] [zL 0, zL s0] sh pp mm Q := s_go cM_take_54 cM_take_55 rfl rfl
theorem rM_take_55 {a0 : Nat} {a1 a2 a3 a5 s0 s1 : Int} {u4 u6 u7 : zV} : zS 161 55 [zR a0, zI a1, zI a2, zL a3, u4, zI a5, u6, u7] [zL s0, zL s1] sh pp mm Q ↔ zS 161 56 [zR a0, zI a1, zI a2, zL a3, zU, zI a5, zU, zU] [zL (zw64 (s1 - s0))] sh pp mm Q := s_go cM_take_55 cM_take_56 rfl rfl
theorem rM_take_56 {a0 : Nat} {a1 a2 a3 a5 s0 : Int} {u4 u6 u7 : zV} : zS 161 56 [zR a0, zI a1, zI a2, zL a3, u4, zI a5, u6, u7] [zL s0] sh pp mm Q ↔ zS 161 57 [zR a0, zI a1, zI a2, zU, zU, zI a5, zU, zU] [zL a3, zL s0] sh pp mm Q := s_go cM_take_56 cM_take_57 rfl rfl
theorem rM_take_57 {a0 : Nat} {a1 a2 a5 s0 s1 : Int} {u3 u4 u6 u7 : zV} : zS 161 57 [zR a0, zI a1, zI a2, u3, u4, zI a5, u6, u7] [zL s0, zL s1] sh pp mm Q ↔ zS 161 58 [zR a0, zI a1, zI a2, zU, zU, zI a5, zU, zU] [zL (zw64 (s1 - s0))] sh pp mm Q := s_go cM_take_57 cM_take_58 rfl rfl
theorem rM_take_58 {a0 : Nat} {a1 a2 a5 s0 : Int} {u3 u4 u6 u7 : zV} : zS 161 58 [zR a0, zI a1, zI a2, u3, u4, zI a5, u6, u7] [zL s0] sh pp mm Q ↔ zS 161 60 [zR a0, zI a1, zI a2, zU, zU, zI a5, zL s0, zU] [] sh pp mm Q := s_go cM_take_58 cM_take_60 rfl rfl
theorem rM_take_60 {a0 : Nat} {a1 a2 a5 a6 : Int} {u3 u4 u7 : zV} : zS 161 60 [zR a0, zI a1, zI a2, u3, u4, zI a5, zL a6, u7] [] sh pp mm Q ↔ zS 161 62 [zR a0, zI a1, zI a2, zU, zU, zI a5, zL a6, zU] [zL a6] sh pp mm Q := s_go cM_take_60 cM_take_62 rfl rfl
theorem rM_take_62 {a0 : Nat} {a1 a2 a5 a6 s0 : Int} {u3 u4 u7 : zV} : zS 161 62 [zR a0, zI a1, zI a2, u3, u4, zI a5, zL a6, u7] [zL s0] sh pp mm Q ↔ zS 161 63 [zR a0, zI a1, zI a2, zU, zU, zI a5, zL a6, zU] [zL 0, zL s0] sh pp mm Q := s_go cM_take_62 cM_take_63 rfl rfl
theorem rM_take_63 {a0 : Nat} {a1 a2 a5 a6 s0 s1 : Int} {u3 u4 u7 : zV} : zS 161 63 [zR a0, zI a1, zI a2, u3, u4, zI a5, zL a6, u7] [zL s0, zL s1] sh pp mm Q ↔ zS 161 64 [zR a0, zI a1, zI a2, zU, zU, zI a5, zL a6, zU] [zI (zcmp s1 s0)] sh pp mm Q := s_go cM_take_63 cM_take_64 rfl rfl
theorem rM_take_64 {a0 : Nat} {a1 a2 a5 a6 s0 : Int} {u3 u4 u7 : zV} : zS 161 64 [zR a0, zI a1, zI a2, u3, u4, zI a5, zL a6, u7] [zI s0] sh pp mm Q ↔ (s0 < 0 → zS 161 67 [zR a0, zI a1, zI a2, zU, zU, zI a5, zL a6, zU] [] sh pp mm Q) ∧ (¬ s0 < 0 → zS 161 71 [zR a0, zI a1, zI a2, zU, zU, zI a5, zL a6, zU] [] sh pp mm Q) := s_ifn cM_take_64 cM_take_67 cM_take_71 rfl rfl rfl
theorem rM_take_67 {a0 : Nat} {a1 a2 a5 a6 : Int} {u3 u4 u7 : zV} : zS 161 67 [zR a0, zI a1, zI a2, u3, u4, zI a5, zL a6, u7] [] sh pp mm Q ↔ zS 161 68 [zR a0, zI a1, zI a2, zU, zU, zI a5, zL a6, zU] [zL 1] sh pp mm Q := s_go cM_take_67 cM_take_68 rfl rfl
theorem rM_take_68 {a0 : Nat} {a1 a2 a5 a6 s0 : Int} {u3 u4 u7 : zV} : zS 161 68 [zR a0, zI a1, zI a2, u3, u4, zI a5, zL a6, u7] [zL s0] sh pp mm Q ↔ zS 161 72 [zR a0, zI a1, zI a2, zU, zU, zI a5, zL a6, zU] [zL s0] sh pp mm Q := s_go cM_take_68 cM_take_72 rfl rfl
theorem rM_take_71 {a0 : Nat} {a1 a2 a5 a6 : Int} {u3 u4 u7 : zV} : zS 161 71 [zR a0, zI a1, zI a2, u3, u4, zI a5, zL a6, u7] [] sh pp mm Q ↔ zS 161 72 [zR a0, zI a1, zI a2, zU, zU, zI a5, zL a6, zU] [zL 0] sh pp mm Q := s_go cM_take_71 cM_take_72 rfl rfl
theorem rM_take_72 {a0 : Nat} {a1 a2 a5 a6 s0 : Int} {u3 u4 u7 : zV} : zS 161 72 [zR a0, zI a1, zI a2, u3, u4, zI a5, zL a6, u7] [zL s0] sh pp mm Q ↔ zS 161 73 [zR a0, zI a1, zI a2, zL s0, zU, zI a5, zL a6, zU] [] sh pp mm Q := s_go cM_take_72 cM_take_73 rfl rfl
theorem rM_take_73 {a0 : Nat} {a1 a2 a3 a5 a6 : Int} {u4 u7 : zV} : zS 161 73 [zR a0, zI a1, zI a2, zL a3, u4, zI a5, zL a6, u7] [] sh pp mm Q ↔ zS 161 74 [zR a0, zI a1, zI a2, zL a3, zU, zI a5, zL a6, zU] [zR a0] sh pp mm Q := s_go cM_take_73 cM_take_74 rfl rfl
theorem rM_take_74 {a0 s0 : Nat} {a1 a2 a3 a5 a6 : Int} {u4 u7 : zV} (hk : zKd sh s0 = 12) : zS 161 74 [zR a0, zI a1, zI a2, zL a3, u4, zI a5, zL a6, u7] [zR s0] sh pp mm Q ↔ zS 161 77 [zR a0, zI a1, zI a2, zL a3, zU, zI a5, zL a6, zU] [zR (pp s0 4)] sh pp mm Q := s_go cM_take_74 cM_take_77 (if_pos hk) rfl
theorem rM_take_77 {a0 s0 : Nat} {a1 a2 a3 a5 a6 : Int} {u4 u7 : zV} : zS 161 77 [zR a0, zI a1, zI a2, zL a3, u4, zI a5, zL a6, u7] [zR s0] sh pp mm Q ↔ zS 161 79 [zR a0, zI a1, zI a2, zL a3, zU, zI a5, zL a6, zU] [zI 64, zR s0] sh pp mm Q := s_go cM_take_77 cM_take_79 rfl rfl
theorem rM_take_79 {a0 s1 : Nat} {a1 a2 a3 a5 a6 s0 : Int} {u4 u7 : zV} : zS 161 79 [zR a0, zI a1, zI a2, zL a3, u4, zI a5, zL a6, u7] [zI s0, zR s1] sh pp mm Q ↔ zS 161 80 [zR a0, zI a1, zI a2, zL a3, zU, zI a5, zL a6, zU] [zI a1, zI s0, zR s1] sh pp mm Q := s_go cM_take_79 cM_take_80 rfl rfl
theorem rM_take_80 {a0 s2 : Nat} {a1 a2 a3 a5 a6 s0 s1 : Int} {u4 u7 : zV} : zS 161 80 [zR a0, zI a1, zI a2, zL a3, u4, zI a5, zL a6, u7] [zI s0, zI s1, zR s2] sh pp mm Q ↔ zS 161 81 [zR a0, zI a1, zI a2, zL a3, zU, zI a5, zL a6, zU] [zI (zw32 (s1 * s0)), zR s2] sh pp mm Q := s_go cM_take_80 cM_take_81 rfl rfl
theorem rM_take_81 {a0 s1 : Nat} {a1 a2 a3 a5 a6 s0 : Int} {u4 u7 : zV} : zS 161 81 [zR a0, zI a1, zI a2, zL a3, u4, zI a5, zL a6, u7] [zI s0, zR s1] sh pp mm Q ↔ zS 161 83 [zR a0, zI a1, zI a2, zL a3, zU, zI a5, zL a6, zU] [zI a5, zI s0, zR s1] sh pp mm Q := s_go cM_take_81 cM_take_83 rfl rfl
theorem rM_take_83 {a0 s2 : Nat} {a1 a2 a3 a5 a6 s0 s1 : Int} {u4 u7 : zV} : zS 161 83 [zR a0, zI a1, zI a2, zL a3, u4, zI a5, zL a6, u7] [zI s0, zI s1, zR s2] sh pp mm Q ↔ zS 161 84 [zR a0, zI a1, zI a2, zL a3, zU, zI a5, zL a6, zU] [zI (zw32 (s1 + s0)), zR s2] sh pp mm Q := s_go cM_take_83 cM_take_84 rfl rfl
theorem rM_take_84 {a0 s1 : Nat} {a1 a2 a3 a5 a6 s0 : Int} {u4 u7 : zV} : zS 161 84 [zR a0, zI a1, zI a2, zL a3, u4, zI a5, zL a6, u7] [zI s0, zR s1] sh pp mm Q ↔ zS 161 86 [zR a0, zI a1, zI a2, zL a3, zU, zI a5, zU, zU] [zL a6, zI s0, zR s1] sh pp mm Q := s_go cM_take_84 cM_take_86 rfl rfl
theorem rM_take_86 {a0 s2 : Nat} {a1 a2 a3 a5 s0 s1 : Int} {u4 u6 u7 : zV} : zS 161 86 [zR a0, zI a1, zI a2, zL a3, u4, zI a5, u6, u7] [zL s0, zI s1, zR s2] sh pp mm Q ↔ zS 161 87 [zR a0, zI a1, zI a2, zL a3, zU, zI a5, zU, zU] [zL a3, zL s0, zI s1, zR s2] sh pp mm Q := s_go cM_take_86 cM_take_87 rfl rfl
theorem rM_take_87 {a0 s3 : Nat} {a1 a2 a3 a5 s0 s1 s2 : Int} {u4 u6 u7 : zV} : zS 161 87 [zR a0, zI a1, zI a2, zL a3, u4, zI a5, u6, u7] [zL s0, zL s1, zI s2, zR s3] sh pp mm Q ↔ zS 161 90 [zR a0, zI a1, zI a2, zL a3, zU, zI a5, zU, zU] [zL 1073741824, zL s0, zL s1, zI s2, zR s3] sh pp mm Q := s_go cM_take_87 cM_take_90 rfl rfl
theorem rM_take_90 {a0 s4 : Nat} {a1 a2 a3 a5 s0 s1 s2 s3 : Int} {u4 u6 u7 : zV} : zS 161 90 [zR a0, zI a1, zI a2, zL a3, u4, zI a5, u6, u7] [zL s0, zL s1, zL s2, zI s3, zR s4] sh pp mm Q ↔ zS 161 91 [zR a0, zI a1, zI a2, zL a3, zU, zI a5, zU, zU] [zL (zw64 (s1 * s0)), zL s2, zI s3, zR s4] sh pp mm Q := s_go cM_take_90 cM_take_91 rfl rfl
theorem rM_take_91 {a0 s3 : Nat} {a1 a2 a3 a5 s0 s1 s2 : Int} {u4 u6 u7 : zV} : zS 161 91 [zR a0, zI a1, zI a2, zL a3, u4, zI a5, u6, u7] [zL s0, zL s1, zI s2, zR s3] sh pp mm Q ↔ zS 161 92 [zR a0, zI a1, zI a2, zL a3, zU, zI a5, zU, zU] [zL (zw64 (s1 + s0)), zI s2, zR s3] sh pp mm Q := s_go cM_take_91 cM_take_92 rfl rfl
theorem rM_take_92 {a0 s2 : Nat} {a1 a2 a3 a5 s0 s1 : Int} {u4 u6 u7 : zV} (hk : zKd sh s2 = 21) (h0 : 0 ≤ s1) (h1 : s1 < zLn sh s2) : zS 161 92 [zR a0, zI a1, zI a2, zL a3, u4, zI a5, u6, u7] [zL s0, zI s1, zR s2] sh pp mm Q ↔ zS 161 93 [zR a0, zI a1, zI a2, zL a3, zU, zI a5, zU, zU] [] sh pp (zupd mm s2 s1 s0) Q := s_go cM_take_92 cM_take_93 (if_pos ⟨hk, h0, h1⟩) rfl
theorem rM_take_93 {a0 : Nat} {a1 a2 a3 a5 : Int} {u4 u6 u7 : zV} : zS 161 93 [zR a0, zI a1, zI a2, zL a3, u4, zI a5, u6, u7] [] sh pp mm Q ↔ zS 161 96 [zR a0, zI a1, zI a2, zL a3, zU, zI (zw32 (a5 + 1)), zU, zU] [] sh pp mm Q := s_go cM_take_93 cM_take_96 rfl rfl
theorem rM_take_96 {a0 : Nat} {a1 a2 a3 a5 : Int} {u4 u6 u7 : zV} : zS 161 96 [zR a0, zI a1, zI a2, zL a3, u4, zI a5, u6, u7] [] sh pp mm Q ↔ zS 161 5 [zR a0, zI a1, zI a2, zL a3, zU, zI a5, zU, zU] [] sh pp mm Q := s_go cM_take_96 cM_take_5 rfl rfl
theorem rM_take_99 {a0 : Nat} {a1 : Int} {u2 u3 u4 u5 u6 u7 : zV} : zS 161 99 [zR a0, zI a1, u2, u3, u4, u5, u6, u7] [] sh pp mm Q ↔ zS 161 100 [zU, zI a1, zU, zU, zU, zU, zU, zU] [zR a0] sh pp mm Q := s_go cM_take_99 cM_take_100 rfl rfl
theorem rM_take_100 {s0 : Nat} {a1 : Int} {u0 u2 u3 u4 u5 u6 u7 : zV} : zS 161 100 [u0, zI a1, u2, u3, u4, u5, u6, u7] [zR s0] sh pp mm Q ↔ zS 161 101 [zU, zU, zU, zU, zU, zU, zU, zU] [zI a1, zR s0] sh pp mm Q := s_go cM_take_100 cM_take_101 rfl rfl
theorem rM_take_101 {s1 : Nat} {s0 : Int} {u0 u1 u2 u3 u4 u5 u6 u7 : zV} (hk : zKd sh s1 = 12) : zS 161 101 [u0, u1, u2, u3, u4, u5, u6, u7] [zI s0, zR s1] sh pp mm Q ↔ zS 157 0 [zR s1, zI s0] [] sh pp mm (fun v sh pp mm => zS 161 104 [zU, zU, zU, zU, zU, zU, zU, zU] (zPush v []) sh pp mm Q) := s_call cM_take_101 cM_take_104 ((if_pos hk).trans rfl) rfl
theorem rM_take_104 {u0 u1 u2 u3 u4 u5 u6 u7 : zV} : zS 161 104 [u0, u1, u2, u3, u4, u5, u6, u7] [] sh pp mm Q ↔ Q zU sh pp mm := s_ret cM_take_104 rfl
theorem cAM_halve : ∀ q ∈ zT162, zCode 162 q.1 = some q.2 := zAll (mid := 162) rfl (by decide +kernel)
theorem cAM_halve_0 : ∀ q ∈ zT162_0, zCode 162 q.1 = some q.2 := fun q h => cAM_halve q (List.mem_append_left _ h)
theorem cAM_halve_1 : ∀ q ∈ zT162_1, zCode 162 q.1 = some q.2 := fun q h => cAM_halve q (List.mem_append_right _ (List.mem_append_left _ h))
theorem cAM_halve_2 : ∀ q ∈ zT162_2, zCode 162 q.1 = some q.2 := fun q h => cAM_halve q (List.mem_append_right _ (List.mem_append_right _ h))
theorem cM_halve_0 : zCode 162 0 = some (.lconst 0, 1, 0, 0, 0, 0, 3) := cAM_halve_0 _ (List.mem_of_getElem? (i := 0) rfl)
theorem cM_halve_1 : zCode 162 1 = some (.lstore_n 2, 2, 0, 0, 0, 0, 3) := cAM_halve_0 _ (List.mem_of_getElem? (i := 1) rfl)
theorem cM_halve_2 : zCode 162 2 = some (.aload_n 0, 3, 0, 0, 0, 0, 7) := cAM_halve_0 _ (List.mem_of_getElem? (i := 2) rfl)
theorem cM_halve_3 : zCode 162 3 = some (.getfield 27, 6, 12, 5, 2, 1214, 7) := cAM_halve_0 _ (List.mem_of_getElem? (i := 3) rfl)
theorem cM_halve_6 : zCode 162 6 = some (.iload_n 1, 7, 0, 0, 0, 0, 7) := cAM_halve_0 _ (List.mem_of_getElem? (i := 4) rfl)
theorem cM_halve_7 : zCode 162 7 = some (.iaload, 8, 0, 0, 0, 0, 7) := cAM_halve_0 _ (List.mem_of_getElem? (i := 5) rfl)
theorem cM_halve_8 : zCode 162 8 = some (.iconst 1, 9, 0, 0, 0, 0, 7) := cAM_halve_0 _ (List.mem_of_getElem? (i := 6) rfl)
theorem cM_halve_9 : zCode 162 9 = some (.isub, 10, 0, 0, 0, 0, 7) := cAM_halve_0 _ (List.mem_of_getElem? (i := 7) rfl)
theorem cM_halve_10 : zCode 162 10 = some (.istore 4, 12, 0, 0, 0, 0, 7) := cAM_halve_0 _ (List.mem_of_getElem? (i := 8) rfl)
theorem cM_halve_12 : zCode 162 12 = some (.iload 4, 14, 0, 0, 0, 0, 23) := cAM_halve_0 _ (List.mem_of_getElem? (i := 9) rfl)
theorem cM_halve_14 : zCode 162 14 = some (.ifCond .lt 54, 17, 68, 0, 0, 0, 23) := cAM_halve_0 _ (List.mem_of_getElem? (i := 10) rfl)
theorem cM_halve_17 : zCode 162 17 = some (.aload_n 0, 18, 0, 0, 0, 0, 23) := cAM_halve_0 _ (List.mem_of_getElem? (i := 11) rfl)
theorem cM_halve_18 : zCode 162 18 = some (.getfield 23, 21, 12, 4, 2, 1213, 23) := cAM_halve_0 _ (List.mem_of_getElem? (i := 12) rfl)
theorem cM_halve_21 : zCode 162 21 = some (.bipush 64, 23, 0, 0, 0, 0, 23) := cAM_halve_0 _ (List.mem_of_getElem? (i := 13) rfl)
theorem cM_halve_23 : zCode 162 23 = some (.iload_n 1, 24, 0, 0, 0, 0, 23) := cAM_halve_0 _ (List.mem_of_getElem? (i := 14) rfl)
theorem cM_halve_24 : zCode 162 24 = some (.imul, 25, 0, 0, 0, 0, 23) := cAM_halve_0 _ (List.mem_of_getElem? (i := 15) rfl)
theorem cM_halve_25 : zCode 162 25 = some (.iload 4, 27, 0, 0, 0, 0, 23) := cAM_halve_1 _ (List.mem_of_getElem? (i := 0) rfl)
theorem cM_halve_27 : zCode 162 27 = some (.iadd, 28, 0, 0, 0, 0, 23) := cAM_halve_1 _ (List.mem_of_getElem? (i := 1) rfl)
theorem cM_halve_28 : zCode 162 28 = some (.laload, 29, 0, 0, 0, 0, 23) := cAM_halve_1 _ (List.mem_of_getElem? (i := 2) rfl)
theorem cM_halve_29 : zCode 162 29 = some (.lload_n 2, 30, 0, 0, 0, 0, 23) := cAM_halve_1 _ (List.mem_of_getElem? (i := 3) rfl)
theorem cM_halve_30 : zCode 162 30 = some (.ldc2_w 77, 33, 0, 0, 1208, 1073741824, 19) := cAM_halve_1 _ (List.mem_of_getElem? (i := 4) rfl)
theorem cM_halve_33 : zCode 162 33 = some (.lmul, 34, 0, 0, 0, 0, 19) := cAM_halve_1 _ (List.mem_of_getElem? (i := 5) rfl)
theorem cM_halve_34 : zCode 162 34 = some (.ladd, 35, 0, 0, 0, 0, 19) := cAM_halve_1 _ (List.mem_of_getElem? (i := 6) rfl)
theorem cM_halve_35 : zCode 162 35 = some (.lstore 5, 37, 0, 0, 0, 0, 19) := cAM_halve_1 _ (List.mem_of_getElem? (i := 7) rfl)
theorem cM_halve_37 : zCode 162 37 = some (.aload_n 0, 38, 0, 0, 0, 0, 51) := cAM_halve_1 _ (List.mem_of_getElem? (i := 8) rfl)
theorem cM_halve_38 : zCode 162 38 = some (.getfield 23, 41, 12, 4, 2, 1213, 51) := cAM_halve_1 _ (List.mem_of_getElem? (i := 9) rfl)
theorem cM_halve_41 : zCode 162 41 = some (.bipush 64, 43, 0, 0, 0, 0, 51) := cAM_halve_1 _ (List.mem_of_getElem? (i := 10) rfl)
theorem cM_halve_43 : zCode 162 43 = some (.iload_n 1, 44, 0, 0, 0, 0, 51) := cAM_halve_1 _ (List.mem_of_getElem? (i := 11) rfl)
theorem cM_halve_44 : zCode 162 44 = some (.imul, 45, 0, 0, 0, 0, 51) := cAM_halve_1 _ (List.mem_of_getElem? (i := 12) rfl)
theorem cM_halve_45 : zCode 162 45 = some (.iload 4, 47, 0, 0, 0, 0, 51) := cAM_halve_1 _ (List.mem_of_getElem? (i := 13) rfl)
theorem cM_halve_47 : zCode 162 47 = some (.iadd, 48, 0, 0, 0, 0, 51) := cAM_halve_1 _ (List.mem_of_getElem? (i := 14) rfl)
theorem cM_halve_48 : zCode 162 48 = some (.lload 5, 50, 0, 0, 0, 0, 51) := cAM_halve_1 _ (List.mem_of_getElem? (i := 15) rfl)
theorem cM_halve_50 : zCode 162 50 = some (.ldc2_w 83, 53, 0, 0, 1659, 2, 51) := cAM_halve_2 _ (List.mem_of_getElem? (i := 0) rfl)
theorem cM_halve_53 : zCode 162 53 = some (.ldiv, 54, 0, 0, 0, 0, 51) := cAM_halve_2 _ (List.mem_of_getElem? (i := 1) rfl)
theorem cM_halve_54 : zCode 162 54 = some (.lastore, 55, 0, 0, 0, 0, 51) := cAM_halve_2 _ (List.mem_of_getElem? (i := 2) rfl)
theorem cM_halve_55 : zCode 162 55 = some (.lload 5, 57, 0, 0, 0, 0, 51) := cAM_halve_2 _ (List.mem_of_getElem? (i := 3) rfl)
theorem cM_halve_57 : zCode 162 57 = some (.ldc2_w 83, 60, 0, 0, 1659, 2, 19) := cAM_halve_2 _ (List.mem_of_getElem? (i := 4) rfl)
theorem cM_halve_60 : zCode 162 60 = some (.lrem, 61, 0, 0, 0, 0, 19) := cAM_halve_2 _ (List.mem_of_getElem? (i := 5) rfl)
theorem cM_halve_61 : zCode 162 61 = some (.lstore_n 2, 62, 0, 0, 0, 0, 19) := cAM_halve_2 _ (List.mem_of_getElem? (i := 6) rfl)
theorem cM_halve_62 : zCode 162 62 = some (.iinc 4 (-1), 65, 0, 0, 0, 0, 23) := cAM_halve_2 _ (List.mem_of_getElem? (i := 7) rfl)
theorem cM_halve_65 : zCode 162 65 = some (.goto (-53), 68, 12, 0, 0, 0, 23) := cAM_halve_2 _ (List.mem_of_getElem? (i := 8) rfl)
theorem cM_halve_68 : zCode 162 68 = some (.aload_n 0, 69, 0, 0, 0, 0, 3) := cAM_halve_2 _ (List.mem_of_getElem? (i := 9) rfl)
theorem cM_halve_69 : zCode 162 69 = some (.iload_n 1, 70, 0, 0, 0, 0, 2) := cAM_halve_2 _ (List.mem_of_getElem? (i := 10) rfl)
theorem cM_halve_70 : zCode 162 70 = some (.invokevirtual 79, 73, 157, 1, 2, 12, 0) := cAM_halve_2 _ (List.mem_of_getElem? (i := 11) rfl)
theorem cM_halve_73 : zCode 162 73 = some (.return_, 74, 0, 0, 0, 0, 0) := cAM_halve_2 _ (List.mem_of_getElem? (i := 12) rfl)
theorem rM_halve_0 {a0 : Nat} {a1 : Int} {u2 u3 u4 u5 u6 : zV} : zS 162 0 [zR a0, zI a1, u2, u3, u4, u5, u6] [] sh pp mm Q ↔ zS 162 1 [zR a0, zI a1, zU, zU, zU, zU, zU] [zL 0] sh pp mm Q := s_go cM_halve_0 cM_halve_1 rfl rfl
theorem rM_halve_1 {a0 : Nat} {a1 s0 : Int} {u2 u3 u4 u5 u6 : zV} : zS 162 1 [zR a0, zI a1, u2, u3, u4, u5, u6] [zL s0] sh pp mm Q ↔ zS 162 2 [zR a0, zI a1, zL s0, zU, zU, zU, zU] [] sh pp mm Q := s_go cM_halve_1 cM_halve_2 rfl rfl
theorem rM_halve_2 {a0 : Nat} {a1 a2 : Int} {u3 u4 u5 u6 : zV} : zS 162 2 [zR a0, zI a1, zL a2, u3, u4, u5, u6] [] sh pp mm Q ↔ zS 162 3 [zR a0, zI a1, zL a2, zU, zU, zU, zU] [zR a0] sh pp mm Q := s_go cM_halve_2 cM_halve_3 rfl rfl
theorem rM_halve_3 {a0 s0 : Nat} {a1 a2 : Int} {u3 u4 u5 u6 : zV} (hk : zKd sh s0 = 12) : zS 162 3 [zR a0, zI a1, zL a2, u3, u4, u5, u6] [zR s0] sh pp mm Q ↔ zS 162 6 [zR a0, zI a1, zL a2, zU, zU, zU, zU] [zR (pp s0 5)] sh pp mm Q := s_go cM_halve_3 cM_halve_6 (if_pos hk) rfl
theorem rM_halve_6 {a0 s0 : Nat} {a1 a2 : Int} {u3 u4 u5 u6 : zV} : zS 162 6 [zR a0, zI a1, zL a2, u3, u4, u5, u6] [zR s0] sh pp mm Q ↔ zS 162 7 [zR a0, zI a1, zL a2, zU, zU, zU, zU] [zI a1, zR s0] sh pp mm Q := s_go cM_halve_6 cM_halve_7 rfl rfl
theorem rM_halve_7 {a0 s1 : Nat} {a1 a2 s0 : Int} {u3 u4 u5 u6 : zV} (hk : zKd sh s1 = 20 ∨ zKd sh s1 = 30) (h0 : 0 ≤ s0) (h1 : s0 < zLn sh s1) : zS 162 7 [zR a0, zI a1, zL a2, u3, u4, u5, u6] [zI s0, zR s1] sh pp mm Q ↔ zS 162 8 [zR a0, zI a1, zL a2, zU, zU, zU, zU] [zI (mm s1 s0)] sh pp mm Q := s_go cM_halve_7 cM_halve_8 (if_pos ⟨hk, h0, h1⟩) rfl
theorem rM_halve_8 {a0 : Nat} {a1 a2 s0 : Int} {u3 u4 u5 u6 : zV} : zS 162 8 [zR a0, zI a1, zL a2, u3, u4, u5, u6] [zI s0] sh pp mm Q ↔ zS 162 9 [zR a0, zI a1, zL a2, zU, zU, zU, zU] [zI 1, zI s0] sh pp mm Q := s_go cM_halve_8 cM_halve_9 rfl rfl
theorem rM_halve_9 {a0 : Nat} {a1 a2 s0 s1 : Int} {u3 u4 u5 u6 : zV} : zS 162 9 [zR a0, zI a1, zL a2, u3, u4, u5, u6] [zI s0, zI s1] sh pp mm Q ↔ zS 162 10 [zR a0, zI a1, zL a2, zU, zU, zU, zU] [zI (zw32 (s1 - s0))] sh pp mm Q := s_go cM_halve_9 cM_halve_10 rfl rfl
theorem rM_halve_10 {a0 : Nat} {a1 a2 s0 : Int} {u3 u4 u5 u6 : zV} : zS 162 10 [zR a0, zI a1, zL a2, u3, u4, u5, u6] [zI s0] sh pp mm Q ↔ zS 162 12 [zR a0, zI a1, zL a2, zU, zI s0, zU, zU] [] sh pp mm Q := s_go cM_halve_10 cM_halve_12 rfl rfl
theorem rM_halve_12 {a0 : Nat} {a1 a2 a4 : Int} {u3 u5 u6 : zV} : zS 162 12 [zR a0, zI a1, zL a2, u3, zI a4, u5, u6] [] sh pp mm Q ↔ zS 162 14 [zR a0, zI a1, zL a2, zU, zI a4, zU, zU] [zI a4] sh pp mm Q := s_go cM_halve_12 cM_halve_14 rfl rfl
theorem rM_halve_14 {a0 : Nat} {a1 a2 a4 s0 : Int} {u3 u5 u6 : zV} : zS 162 14 [zR a0, zI a1, zL a2, u3, zI a4, u5, u6] [zI s0] sh pp mm Q ↔ (s0 < 0 → zS 162 68 [zR a0, zI a1, zU, zU, zU, zU, zU] [] sh pp mm Q) ∧ (¬ s0 < 0 → zS 162 17 [zR a0, zI a1, zL a2, zU, zI a4, zU, zU] [] sh pp mm Q) := s_if cM_halve_14 cM_halve_68 cM_halve_17 rfl rfl rfl
theorem rM_halve_17 {a0 : Nat} {a1 a2 a4 : Int} {u3 u5 u6 : zV} : zS 162 17 [zR a0, zI a1, zL a2, u3, zI a4, u5, u6] [] sh pp mm Q ↔ zS 162 18 [zR a0, zI a1, zL a2, zU, zI a4, zU, zU] [zR a0] sh pp mm Q := s_go cM_halve_17 cM_halve_18 rfl rfl
theorem rM_halve_18 {a0 s0 : Nat} {a1 a2 a4 : Int} {u3 u5 u6 : zV} (hk : zKd sh s0 = 12) : zS 162 18 [zR a0, zI a1, zL a2, u3, zI a4, u5, u6] [zR s0] sh pp mm Q ↔ zS 162 21 [zR a0, zI a1, zL a2, zU, zI a4, zU, zU] [zR (pp s0 4)] sh pp mm Q := s_go cM_halve_18 cM_halve_21 (if_pos hk) rfl
theorem rM_halve_21 {a0 s0 : Nat} {a1 a2 a4 : Int} {u3 u5 u6 : zV} : zS 162 21 [zR a0, zI a1, zL a2, u3, zI a4, u5, u6] [zR s0] sh pp mm Q ↔ zS 162 23 [zR a0, zI a1, zL a2, zU, zI a4, zU, zU] [zI 64, zR s0] sh pp mm Q := s_go cM_halve_21 cM_halve_23 rfl rfl
theorem rM_halve_23 {a0 s1 : Nat} {a1 a2 a4 s0 : Int} {u3 u5 u6 : zV} : zS 162 23 [zR a0, zI a1, zL a2, u3, zI a4, u5, u6] [zI s0, zR s1] sh pp mm Q ↔ zS 162 24 [zR a0, zI a1, zL a2, zU, zI a4, zU, zU] [zI a1, zI s0, zR s1] sh pp mm Q := s_go cM_halve_23 cM_halve_24 rfl rfl
theorem rM_halve_24 {a0 s2 : Nat} {a1 a2 a4 s0 s1 : Int} {u3 u5 u6 : zV} : zS 162 24 [zR a0, zI a1, zL a2, u3, zI a4, u5, u6] [zI s0, zI s1, zR s2] sh pp mm Q ↔ zS 162 25 [zR a0, zI a1, zL a2, zU, zI a4, zU, zU] [zI (zw32 (s1 * s0)), zR s2] sh pp mm Q := s_go cM_halve_24 cM_halve_25 rfl rfl
theorem rM_halve_25 {a0 s1 : Nat} {a1 a2 a4 s0 : Int} {u3 u5 u6 : zV} : zS 162 25 [zR a0, zI a1, zL a2, u3, zI a4, u5, u6] [zI s0, zR s1] sh pp mm Q ↔ zS 162 27 [zR a0, zI a1, zL a2, zU, zI a4, zU, zU] [zI a4, zI s0, zR s1] sh pp mm Q := s_go cM_halve_25 cM_halve_27 rfl rfl
theorem rM_halve_27 {a0 s2 : Nat} {a1 a2 a4 s0 s1 : Int} {u3 u5 u6 : zV} : zS 162 27 [zR a0, zI a1, zL a2, u3, zI a4, u5, u6] [zI s0, zI s1, zR s2] sh pp mm Q ↔ zS 162 28 [zR a0, zI a1, zL a2, zU, zI a4, zU, zU] [zI (zw32 (s1 + s0)), zR s2] sh pp mm Q := s_go cM_halve_27 cM_halve_28 rfl rfl
theorem rM_halve_28 {a0 s1 : Nat} {a1 a2 a4 s0 : Int} {u3 u5 u6 : zV} (hk : zKd sh s1 = 21) (h0 : 0 ≤ s0) (h1 : s0 < zLn sh s1) : zS 162 28 [zR a0, zI a1, zL a2, u3, zI a4, u5, u6] [zI s0, zR s1] sh pp mm Q ↔ zS 162 29 [zR a0, zI a1, zL a2, zU, zI a4, zU, zU] [zL (mm s1 s0)] sh pp mm Q := s_go cM_halve_28 cM_halve_29 (if_pos ⟨hk, h0, h1⟩) rfl
theorem rM_halve_29 {a0 : Nat} {a1 a2 a4 s0 : Int} {u3 u5 u6 : zV} : zS 162 29 [zR a0, zI a1, zL a2, u3, zI a4, u5, u6] [zL s0] sh pp mm Q ↔ zS 162 30 [zR a0, zI a1, zU, zU, zI a4, zU, zU] [zL a2, zL s0] sh pp mm Q := s_go cM_halve_29 cM_halve_30 rfl rfl
theorem rM_halve_30 {a0 : Nat} {a1 a4 s0 s1 : Int} {u2 u3 u5 u6 : zV} : zS 162 30 [zR a0, zI a1, u2, u3, zI a4, u5, u6] [zL s0, zL s1] sh pp mm Q ↔ zS 162 33 [zR a0, zI a1, zU, zU, zI a4, zU, zU] [zL 1073741824, zL s0, zL s1] sh pp mm Q := s_go cM_halve_30 cM_halve_33 rfl rfl
theorem rM_halve_33 {a0 : Nat} {a1 a4 s0 s1 s2 : Int} {u2 u3 u5 u6 : zV} : zS 162 33 [zR a0, zI a1, u2, u3, zI a4, u5, u6] [zL s0, zL s1, zL s2] sh pp mm Q ↔ zS 162 34 [zR a0, zI a1, zU, zU, zI a4, zU, zU] [zL (zw64 (s1 * s0)), zL s2] sh pp mm Q := s_go cM_halve_33 cM_halve_34 rfl rfl
theorem rM_halve_34 {a0 : Nat} {a1 a4 s0 s1 : Int} {u2 u3 u5 u6 : zV} : zS 162 34 [zR a0, zI a1, u2, u3, zI a4, u5, u6] [zL s0, zL s1] sh pp mm Q ↔ zS 162 35 [zR a0, zI a1, zU, zU, zI a4, zU, zU] [zL (zw64 (s1 + s0))] sh pp mm Q := s_go cM_halve_34 cM_halve_35 rfl rfl
theorem rM_halve_35 {a0 : Nat} {a1 a4 s0 : Int} {u2 u3 u5 u6 : zV} : zS 162 35 [zR a0, zI a1, u2, u3, zI a4, u5, u6] [zL s0] sh pp mm Q ↔ zS 162 37 [zR a0, zI a1, zU, zU, zI a4, zL s0, zU] [] sh pp mm Q := s_go cM_halve_35 cM_halve_37 rfl rfl
theorem rM_halve_37 {a0 : Nat} {a1 a4 a5 : Int} {u2 u3 u6 : zV} : zS 162 37 [zR a0, zI a1, u2, u3, zI a4, zL a5, u6] [] sh pp mm Q ↔ zS 162 38 [zR a0, zI a1, zU, zU, zI a4, zL a5, zU] [zR a0] sh pp mm Q := s_go cM_halve_37 cM_halve_38 rfl rfl
theorem rM_halve_38 {a0 s0 : Nat} {a1 a4 a5 : Int} {u2 u3 u6 : zV} (hk : zKd sh s0 = 12) : zS 162 38 [zR a0, zI a1, u2, u3, zI a4, zL a5, u6] [zR s0] sh pp mm Q ↔ zS 162 41 [zR a0, zI a1, zU, zU, zI a4, zL a5, zU] [zR (pp s0 4)] sh pp mm Q := s_go cM_halve_38 cM_halve_41 (if_pos hk) rfl
theorem rM_halve_41 {a0 s0 : Nat} {a1 a4 a5 : Int} {u2 u3 u6 : zV} : zS 162 41 [zR a0, zI a1, u2, u3, zI a4, zL a5, u6] [zR s0] sh pp mm Q ↔ zS 162 43 [zR a0, zI a1, zU, zU, zI a4, zL a5, zU] [zI 64, zR s0] sh pp mm Q := s_go cM_halve_41 cM_halve_43 rfl rfl
theorem rM_halve_43 {a0 s1 : Nat} {a1 a4 a5 s0 : Int} {u2 u3 u6 : zV} : zS 162 43 [zR a0, zI a1, u2, u3, zI a4, zL a5, u6] [zI s0, zR s1] sh pp mm Q ↔ zS 162 44 [zR a0, zI a1, zU, zU, zI a4, zL a5, zU] [zI a1, zI s0, zR s1] sh pp mm Q := s_go cM_halve_43 cM_halve_44 rfl rfl
theorem rM_halve_44 {a0 s2 : Nat} {a1 a4 a5 s0 s1 : Int} {u2 u3 u6 : zV} : zS 162 44 [zR a0, zI a1, u2, u3, zI a4, zL a5, u6] [zI s0, zI s1, zR s2] sh pp mm Q ↔ zS 162 45 [zR a0, zI a1, zU, zU, zI a4, zL a5, zU] [zI (zw32 (s1 * s0)), zR s2] sh pp mm Q := s_go cM_halve_44 cM_halve_45 rfl rfl
theorem rM_halve_45 {a0 s1 : Nat} {a1 a4 a5 s0 : Int} {u2 u3 u6 : zV} : zS 162 45 [zR a0, zI a1, u2, u3, zI a4, zL a5, u6] [zI s0, zR s1] sh pp mm Q ↔ zS 162 47 [zR a0, zI a1, zU, zU, zI a4, zL a5, zU] [zI a4, zI s0, zR s1] sh pp mm Q := s_go cM_halve_45 cM_halve_47 rfl rfl
theorem rM_halve_47 {a0 s2 : Nat} {a1 a4 a5 s0 s1 : Int} {u2 u3 u6 : zV} : zS 162 47 [zR a0, zI a1, u2, u3, zI a4, zL a5, u6] [zI s0, zI s1, zR s2] sh pp mm Q ↔ zS 162 48 [zR a0, zI a1, zU, zU, zI a4, zL a5, zU] [zI (zw32 (s1 + s0)), zR s2] sh pp mm Q := s_go cM_halve_47 cM_halve_48 rfl rfl
theorem rM_halve_48 {a0 s1 : Nat} {a1 a4 a5 s0 : Int} {u2 u3 u6 : zV} : zS 162 48 [zR a0, zI a1, u2, u3, zI a4, zL a5, u6] [zI s0, zR s1] sh pp mm Q ↔ zS 162 50 [zR a0, zI a1, zU, zU, zI a4, zL a5, zU] [zL a5, zI s0, zR s1] sh pp mm Q := s_go cM_halve_48 cM_halve_50 rfl rfl
theorem rM_halve_50 {a0 s2 : Nat} {a1 a4 a5 s0 s1 : Int} {u2 u3 u6 : zV} : zS 162 50 [zR a0, zI a1, u2, u3, zI a4, zL a5, u6] [zL s0, zI s1, zR s2] sh pp mm Q ↔ zS 162 53 [zR a0, zI a1, zU, zU, zI a4, zL a5, zU] [zL 2, zL s0, zI s1, zR s2] sh pp mm Q := s_go cM_halve_50 cM_halve_53 rfl rfl
theorem rM_halve_53 {a0 s3 : Nat} {a1 a4 a5 s0 s1 s2 : Int} {u2 u3 u6 : zV} (hz : s0 ≠ 0) : zS 162 53 [zR a0, zI a1, u2, u3, zI a4, zL a5, u6] [zL s0, zL s1, zI s2, zR s3] sh pp mm Q ↔ zS 162 54 [zR a0, zI a1, zU, zU, zI a4, zL a5, zU] [zL (zw64 (s1.tdiv s0)), zI s2, zR s3] sh pp mm Q := s_go cM_halve_53 cM_halve_54 (if_neg hz) rfl
theorem rM_halve_54 {a0 s2 : Nat} {a1 a4 a5 s0 s1 : Int} {u2 u3 u6 : zV} (hk : zKd sh s2 = 21) (h0 : 0 ≤ s1) (h1 : s1 < zLn sh s2) : zS 162 54 [zR a0, zI a1, u2, u3, zI a4, zL a5, u6] [zL s0, zI s1, zR s2] sh pp mm Q ↔ zS 162 55 [zR a0, zI a1, zU, zU, zI a4, zL a5, zU] [] sh pp (zupd mm s2 s1 s0) Q := s_go cM_halve_54 cM_halve_55 (if_pos ⟨hk, h0, h1⟩) rfl
theorem rM_halve_55 {a0 : Nat} {a1 a4 a5 : Int} {u2 u3 u6 : zV} : zS 162 55 [zR a0, zI a1, u2, u3, zI a4, zL a5, u6] [] sh pp mm Q ↔ zS 162 57 [zR a0, zI a1, zU, zU, zI a4, zU, zU] [zL a5] sh pp mm Q := s_go cM_halve_55 cM_halve_57 rfl rfl
theorem rM_halve_57 {a0 : Nat} {a1 a4 s0 : Int} {u2 u3 u5 u6 : zV} : zS 162 57 [zR a0, zI a1, u2, u3, zI a4, u5, u6] [zL s0] sh pp mm Q ↔ zS 162 60 [zR a0, zI a1, zU, zU, zI a4, zU, zU] [zL 2, zL s0] sh pp mm Q := s_go cM_halve_57 cM_halve_60 rfl rfl
theorem rM_halve_60 {a0 : Nat} {a1 a4 s0 s1 : Int} {u2 u3 u5 u6 : zV} (hz : s0 ≠ 0) : zS 162 60 [zR a0, zI a1, u2, u3, zI a4, u5, u6] [zL s0, zL s1] sh pp mm Q ↔ zS 162 61 [zR a0, zI a1, zU, zU, zI a4, zU, zU] [zL (s1.tmod s0)] sh pp mm Q := s_go cM_halve_60 cM_halve_61 (if_neg hz) rfl
theorem rM_halve_61 {a0 : Nat} {a1 a4 s0 : Int} {u2 u3 u5 u6 : zV} : zS 162 61 [zR a0, zI a1, u2, u3, zI a4, u5, u6] [zL s0] sh pp mm Q ↔ zS 162 62 [zR a0, zI a1, zL s0, zU, zI a4, zU, zU] [] sh pp mm Q := s_go cM_halve_61 cM_halve_62 rfl rfl
theorem rM_halve_62 {a0 : Nat} {a1 a2 a4 : Int} {u3 u5 u6 : zV} : zS 162 62 [zR a0, zI a1, zL a2, u3, zI a4, u5, u6] [] sh pp mm Q ↔ zS 162 65 [zR a0, zI a1, zL a2, zU, zI (zw32 (a4 + (-1))), zU, zU] [] sh pp mm Q := s_go cM_halve_62 cM_halve_65 rfl rfl
theorem rM_halve_65 {a0 : Nat} {a1 a2 a4 : Int} {u3 u5 u6 : zV} : zS 162 65 [zR a0, zI a1, zL a2, u3, zI a4, u5, u6] [] sh pp mm Q ↔ zS 162 12 [zR a0, zI a1, zL a2, zU, zI a4, zU, zU] [] sh pp mm Q := s_go cM_halve_65 cM_halve_12 rfl rfl
theorem rM_halve_68 {a0 : Nat} {a1 : Int} {u2 u3 u4 u5 u6 : zV} : zS 162 68 [zR a0, zI a1, u2, u3, u4, u5, u6] [] sh pp mm Q ↔ zS 162 69 [zU, zI a1, zU, zU, zU, zU, zU] [zR a0] sh pp mm Q := s_go cM_halve_68 cM_halve_69 rfl rfl
theorem rM_halve_69 {s0 : Nat} {a1 : Int} {u0 u2 u3 u4 u5 u6 : zV} : zS 162 69 [u0, zI a1, u2, u3, u4, u5, u6] [zR s0] sh pp mm Q ↔ zS 162 70 [zU, zU, zU, zU, zU, zU, zU] [zI a1, zR s0] sh pp mm Q := s_go cM_halve_69 cM_halve_70 rfl rfl
theorem rM_halve_70 {s1 : Nat} {s0 : Int} {u0 u1 u2 u3 u4 u5 u6 : zV} (hk : zKd sh s1 = 12) : zS 162 70 [u0, u1, u2, u3, u4, u5, u6] [zI s0, zR s1] sh pp mm Q ↔ zS 157 0 [zR s1, zI s0] [] sh pp mm (fun v sh pp mm => zS 162 73 [zU, zU, zU, zU, zU, zU, zU] (zPush v []) sh pp mm Q) := s_call cM_halve_70 cM_halve_73 ((if_pos hk).trans rfl) rfl
theorem rM_halve_73 {u0 u1 u2 u3 u4 u5 u6 : zV} : zS 162 73 [u0, u1, u2, u3, u4, u5, u6] [] sh pp mm Q ↔ Q zU sh pp mm := s_ret cM_halve_73 rfl
theorem cAM_isEven : ∀ q ∈ zT163, zCode 163 q.1 = some q.2 := zAll (mid := 163) rfl (by decide +kernel)
theorem cAM_isEven_0 : ∀ q ∈ zT163_0, zCode 163 q.1 = some q.2 := fun q h => cAM_isEven q (List.mem_append_left _ h)
theorem cAM_isEven_1 : ∀ q ∈ zT163_1, zCode 163 q.1 = some q.2 := fun q h => cAM_isEven q (List.mem_append_right _ h)
theorem cM_isEven_0 : zCode 163 0 = some (.aload_n 0, 1, 0, 0, 0, 0, 3) := cAM_isEven_0 _ (List.mem_of_getElem? (i := 0) rfl)
theorem cM_isEven_1 : zCode 163 1 = some (.getfield 27, 4, 12, 5, 2, 1214, 3) := cAM_isEven_0 _ (List.mem_of_getElem? (i := 1) rfl)
theorem cM_isEven_4 : zCode 163 4 = some (.iload_n 1, 5, 0, 0, 0, 0, 3) := cAM_isEven_0 _ (List.mem_of_getElem? (i := 2) rfl)
theorem cM_isEven_5 : zCode 163 5 = some (.iaload, 6, 0, 0, 0, 0, 3) := cAM_isEven_0 _ (List.mem_of_getElem? (i := 3) rfl)
theorem cM_isEven_6 : zCode 163 6 = some (.ifCond .eq 21, 9, 27, 0, 0, 0, 3) := cAM_isEven_0 _ (List.mem_of_getElem? (i := 4) rfl)
theorem cM_isEven_9 : zCode 163 9 = some (.aload_n 0, 10, 0, 0, 0, 0, 3) := cAM_isEven_0 _ (List.mem_of_getElem? (i := 5) rfl)
theorem cM_isEven_10 : zCode 163 10 = some (.getfield 23, 13, 12, 4, 2, 1213, 2) := cAM_isEven_0 _ (List.mem_of_getElem? (i := 6) rfl)
theorem cM_isEven_13 : zCode 163 13 = some (.bipush 64, 15, 0, 0, 0, 0, 2) := cAM_isEven_0 _ (List.mem_of_getElem? (i := 7) rfl)
theorem cM_isEven_15 : zCode 163 15 = some (.iload_n 1, 16, 0, 0, 0, 0, 2) := cAM_isEven_0 _ (List.mem_of_getElem? (i := 8) rfl)
theorem cM_isEven_16 : zCode 163 16 = some (.imul, 17, 0, 0, 0, 0, 0) := cAM_isEven_0 _ (List.mem_of_getElem? (i := 9) rfl)
theorem cM_isEven_17 : zCode 163 17 = some (.laload, 18, 0, 0, 0, 0, 0) := cAM_isEven_0 _ (List.mem_of_getElem? (i := 10) rfl)
theorem cM_isEven_18 : zCode 163 18 = some (.ldc2_w 83, 21, 0, 0, 1659, 2, 0) := cAM_isEven_0 _ (List.mem_of_getElem? (i := 11) rfl)
theorem cM_isEven_21 : zCode 163 21 = some (.lrem, 22, 0, 0, 0, 0, 0) := cAM_isEven_0 _ (List.mem_of_getElem? (i := 12) rfl)
theorem cM_isEven_22 : zCode 163 22 = some (.lconst 0, 23, 0, 0, 0, 0, 0) := cAM_isEven_0 _ (List.mem_of_getElem? (i := 13) rfl)
theorem cM_isEven_23 : zCode 163 23 = some (.lcmp, 24, 0, 0, 0, 0, 0) := cAM_isEven_0 _ (List.mem_of_getElem? (i := 14) rfl)
theorem cM_isEven_24 : zCode 163 24 = some (.ifCond .ne 7, 27, 31, 0, 0, 0, 0) := cAM_isEven_0 _ (List.mem_of_getElem? (i := 15) rfl)
theorem cM_isEven_27 : zCode 163 27 = some (.iconst 1, 28, 0, 0, 0, 0, 0) := cAM_isEven_1 _ (List.mem_of_getElem? (i := 0) rfl)
theorem cM_isEven_28 : zCode 163 28 = some (.goto 4, 31, 32, 0, 0, 0, 0) := cAM_isEven_1 _ (List.mem_of_getElem? (i := 1) rfl)
theorem cM_isEven_31 : zCode 163 31 = some (.iconst 0, 32, 0, 0, 0, 0, 0) := cAM_isEven_1 _ (List.mem_of_getElem? (i := 2) rfl)
theorem cM_isEven_32 : zCode 163 32 = some (.ireturn, 33, 0, 3, 0, 0, 0) := cAM_isEven_1 _ (List.mem_of_getElem? (i := 3) rfl)
theorem rM_isEven_0 {a0 : Nat} {a1 : Int} : zS 163 0 [zR a0, zI a1] [] sh pp mm Q ↔ zS 163 1 [zR a0, zI a1] [zR a0] sh pp mm Q := s_go cM_isEven_0 cM_isEven_1 rfl rfl
theorem rM_isEven_1 {a0 s0 : Nat} {a1 : Int} (hk : zKd sh s0 = 12) : zS 163 1 [zR a0, zI a1] [zR s0] sh pp mm Q ↔ zS 163 4 [zR a0, zI a1] [zR (pp s0 5)] sh pp mm Q := s_go cM_isEven_1 cM_isEven_4 (if_pos hk) rfl
theorem rM_isEven_4 {a0 s0 : Nat} {a1 : Int} : zS 163 4 [zR a0, zI a1] [zR s0] sh pp mm Q ↔ zS 163 5 [zR a0, zI a1] [zI a1, zR s0] sh pp mm Q := s_go cM_isEven_4 cM_isEven_5 rfl rfl
theorem rM_isEven_5 {a0 s1 : Nat} {a1 s0 : Int} (hk : zKd sh s1 = 20 ∨ zKd sh s1 = 30) (h0 : 0 ≤ s0) (h1 : s0 < zLn sh s1) : zS 163 5 [zR a0, zI a1] [zI s0, zR s1] sh pp mm Q ↔ zS 163 6 [zR a0, zI a1] [zI (mm s1 s0)] sh pp mm Q := s_go cM_isEven_5 cM_isEven_6 (if_pos ⟨hk, h0, h1⟩) rfl
theorem rM_isEven_6 {a0 : Nat} {a1 s0 : Int} : zS 163 6 [zR a0, zI a1] [zI s0] sh pp mm Q ↔ (s0 = 0 → zS 163 27 [zU, zU] [] sh pp mm Q) ∧ (¬ s0 = 0 → zS 163 9 [zR a0, zI a1] [] sh pp mm Q) := s_if cM_isEven_6 cM_isEven_27 cM_isEven_9 rfl rfl rfl
theorem rM_isEven_9 {a0 : Nat} {a1 : Int} : zS 163 9 [zR a0, zI a1] [] sh pp mm Q ↔ zS 163 10 [zU, zI a1] [zR a0] sh pp mm Q := s_go cM_isEven_9 cM_isEven_10 rfl rfl
theorem rM_isEven_10 {s0 : Nat} {a1 : Int} {u0 : zV} (hk : zKd sh s0 = 12) : zS 163 10 [u0, zI a1] [zR s0] sh pp mm Q ↔ zS 163 13 [zU, zI a1] [zR (pp s0 4)] sh pp mm Q := s_go cM_isEven_10 cM_isEven_13 (if_pos hk) rfl
theorem rM_isEven_13 {s0 : Nat} {a1 : Int} {u0 : zV} : zS 163 13 [u0, zI a1] [zR s0] sh pp mm Q ↔ zS 163 15 [zU, zI a1] [zI 64, zR s0] sh pp mm Q := s_go cM_isEven_13 cM_isEven_15 rfl rfl
theorem rM_isEven_15 {s1 : Nat} {a1 s0 : Int} {u0 : zV} : zS 163 15 [u0, zI a1] [zI s0, zR s1] sh pp mm Q ↔ zS 163 16 [zU, zU] [zI a1, zI s0, zR s1] sh pp mm Q := s_go cM_isEven_15 cM_isEven_16 rfl rfl
theorem rM_isEven_16 {s2 : Nat} {s0 s1 : Int} {u0 u1 : zV} : zS 163 16 [u0, u1] [zI s0, zI s1, zR s2] sh pp mm Q ↔ zS 163 17 [zU, zU] [zI (zw32 (s1 * s0)), zR s2] sh pp mm Q := s_go cM_isEven_16 cM_isEven_17 rfl rfl
theorem rM_isEven_17 {s1 : Nat} {s0 : Int} {u0 u1 : zV} (hk : zKd sh s1 = 21) (h0 : 0 ≤ s0) (h1 : s0 < zLn sh s1) : zS 163 17 [u0, u1] [zI s0, zR s1] sh pp mm Q ↔ zS 163 18 [zU, zU] [zL (mm s1 s0)] sh pp mm Q := s_go cM_isEven_17 cM_isEven_18 (if_pos ⟨hk, h0, h1⟩) rfl
theorem rM_isEven_18 {s0 : Int} {u0 u1 : zV} : zS 163 18 [u0, u1] [zL s0] sh pp mm Q ↔ zS 163 21 [zU, zU] [zL 2, zL s0] sh pp mm Q := s_go cM_isEven_18 cM_isEven_21 rfl rfl
theorem rM_isEven_21 {s0 s1 : Int} {u0 u1 : zV} (hz : s0 ≠ 0) : zS 163 21 [u0, u1] [zL s0, zL s1] sh pp mm Q ↔ zS 163 22 [zU, zU] [zL (s1.tmod s0)] sh pp mm Q := s_go cM_isEven_21 cM_isEven_22 (if_neg hz) rfl
theorem rM_isEven_22 {s0 : Int} {u0 u1 : zV} : zS 163 22 [u0, u1] [zL s0] sh pp mm Q ↔ zS 163 23 [zU, zU] [zL 0, zL s0] sh pp mm Q := s_go cM_isEven_22 cM_isEven_23 rfl rfl
theorem rM_isEven_23 {s0 s1 : Int} {u0 u1 : zV} : zS 163 23 [u0, u1] [zL s0, zL s1] sh pp mm Q ↔ zS 163 24 [zU, zU] [zI (zcmp s1 s0)] sh pp mm Q := s_go cM_isEven_23 cM_isEven_24 rfl rfl
theorem rM_isEven_24 {s0 : Int} {u0 u1 : zV} : zS 163 24 [u0, u1] [zI s0] sh pp mm Q ↔ (s0 = 0 → zS 163 27 [zU, zU] [] sh pp mm Q) ∧ (¬ s0 = 0 → zS 163 31 [zU, zU] [] sh pp mm Q) := s_ifn cM_isEven_24 cM_isEven_27 cM_isEven_31 rfl rfl rfl
theorem rM_isEven_27 {u0 u1 : zV} : zS 163 27 [u0, u1] [] sh pp mm Q ↔ zS 163 28 [zU, zU] [zI 1] sh pp mm Q := s_go cM_isEven_27 cM_isEven_28 rfl rfl
theorem rM_isEven_28 {s0 : Int} {u0 u1 : zV} : zS 163 28 [u0, u1] [zI s0] sh pp mm Q ↔ zS 163 32 [zU, zU] [zI s0] sh pp mm Q := s_go cM_isEven_28 cM_isEven_32 rfl rfl
theorem rM_isEven_31 {u0 u1 : zV} : zS 163 31 [u0, u1] [] sh pp mm Q ↔ zS 163 32 [zU, zU] [zI 0] sh pp mm Q := s_go cM_isEven_31 cM_isEven_32 rfl rfl
theorem rM_isEven_32 {s0 : Int} {u0 u1 : zV} (hb : s0 = 0 ∨ s0 = 1) : zS 163 32 [u0, u1] [zI s0] sh pp mm Q ↔ Q (zI s0) sh pp mm := s_ret cM_isEven_32 (if_pos (decide_eq_true hb))
theorem cAM_findDivisor : ∀ q ∈ zT164, zCode 164 q.1 = some q.2 := zAll (mid := 164) rfl (by decide +kernel)
theorem cAM_findDivisor_0 : ∀ q ∈ zT164_0, zCode 164 q.1 = some q.2 := fun q h => cAM_findDivisor q (List.mem_append_left _ h)
theorem cAM_findDivisor_1 : ∀ q ∈ zT164_1, zCode 164 q.1 = some q.2 := fun q h => cAM_findDivisor q (List.mem_append_right _ (List.mem_append_left _ h))
theorem cAM_findDivisor_2 : ∀ q ∈ zT164_2, zCode 164 q.1 = some q.2 := fun q h => cAM_findDivisor q (List.mem_append_right _ (List.mem_append_right _ (List.mem_append_left _ h)))
theorem cAM_findDivisor_3 : ∀ q ∈ zT164_3, zCode 164 q.1 = some q.2 := fun q h => cAM_findDivisor q (List.mem_append_right _ (List.mem_append_right _ (List.mem_append_right _ (List.mem_append_left _ h))))
theorem cAM_findDivisor_4 : ∀ q ∈ zT164_4, zCode 164 q.1 = some q.2 := fun q h => cAM_findDivisor q (List.mem_append_right _ (List.mem_append_right _ (List.mem_append_right _ (List.mem_append_right _ (List.mem_append_left _ h)))))
theorem cAM_findDivisor_5 : ∀ q ∈ zT164_5, zCode 164 q.1 = some q.2 := fun q h => cAM_findDivisor q (List.mem_append_right _ (List.mem_append_right _ (List.mem_append_right _ (List.mem_append_right _ (List.mem_append_right _ h)))))
theorem cM_findDivisor_0 : zCode 164 0 = some (.aload_n 0, 1, 0, 0, 0, 0, 7) := cAM_findDivisor_0 _ (List.mem_of_getElem? (i := 0) rfl)
theorem cM_findDivisor_1 : zCode 164 1 = some (.iconst 5, 2, 0, 0, 0, 0, 7) := cAM_findDivisor_0 _ (List.mem_of_getElem? (i := 1) rfl)
theorem cM_findDivisor_2 : zCode 164 2 = some (.iload_n 1, 3, 0, 0, 0, 0, 7) := cAM_findDivisor_0 _ (List.mem_of_getElem? (i := 2) rfl)
theorem cM_findDivisor_3 : zCode 164 3 = some (.invokevirtual 85, 6, 156, 2, 4, 12, 5) := cAM_findDivisor_0 _ (List.mem_of_getElem? (i := 3) rfl)
theorem cM_findDivisor_6 : zCode 164 6 = some (.aload_n 0, 7, 0, 0, 0, 0, 5) := cAM_findDivisor_0 _ (List.mem_of_getElem? (i := 4) rfl)
theorem cM_findDivisor_7 : zCode 164 7 = some (.bipush 6, 9, 0, 0, 0, 0, 5) := cAM_findDivisor_0 _ (List.mem_of_getElem? (i := 5) rfl)
theorem cM_findDivisor_9 : zCode 164 9 = some (.iload_n 2, 10, 0, 0, 0, 0, 5) := cAM_findDivisor_0 _ (List.mem_of_getElem? (i := 6) rfl)
theorem cM_findDivisor_10 : zCode 164 10 = some (.invokevirtual 85, 13, 156, 2, 4, 12, 1) := cAM_findDivisor_0 _ (List.mem_of_getElem? (i := 7) rfl)
theorem cM_findDivisor_13 : zCode 164 13 = some (.iconst 0, 14, 0, 0, 0, 0, 1) := cAM_findDivisor_0 _ (List.mem_of_getElem? (i := 8) rfl)
theorem cM_findDivisor_14 : zCode 164 14 = some (.istore_n 3, 15, 0, 0, 0, 0, 1) := cAM_findDivisor_0 _ (List.mem_of_getElem? (i := 9) rfl)
theorem cM_findDivisor_15 : zCode 164 15 = some (.aload_n 0, 16, 0, 0, 0, 0, 9) := cAM_findDivisor_0 _ (List.mem_of_getElem? (i := 10) rfl)
theorem cM_findDivisor_16 : zCode 164 16 = some (.iconst 5, 17, 0, 0, 0, 0, 9) := cAM_findDivisor_0 _ (List.mem_of_getElem? (i := 11) rfl)
theorem cM_findDivisor_17 : zCode 164 17 = some (.invokevirtual 89, 20, 163, 1, 2, 12, 9) := cAM_findDivisor_0 _ (List.mem_of_getElem? (i := 12) rfl)
theorem cM_findDivisor_20 : zCode 164 20 = some (.ifCond .eq 29, 23, 49, 0, 0, 0, 9) := cAM_findDivisor_0 _ (List.mem_of_getElem? (i := 13) rfl)
theorem cM_findDivisor_23 : zCode 164 23 = some (.aload_n 0, 24, 0, 0, 0, 0, 9) := cAM_findDivisor_0 _ (List.mem_of_getElem? (i := 14) rfl)
theorem cM_findDivisor_24 : zCode 164 24 = some (.bipush 6, 26, 0, 0, 0, 0, 9) := cAM_findDivisor_0 _ (List.mem_of_getElem? (i := 15) rfl)
theorem cM_findDivisor_26 : zCode 164 26 = some (.invokevirtual 89, 29, 163, 1, 2, 12, 9) := cAM_findDivisor_1 _ (List.mem_of_getElem? (i := 0) rfl)
theorem cM_findDivisor_29 : zCode 164 29 = some (.ifCond .eq 20, 32, 49, 0, 0, 0, 9) := cAM_findDivisor_1 _ (List.mem_of_getElem? (i := 1) rfl)
theorem cM_findDivisor_32 : zCode 164 32 = some (.aload_n 0, 33, 0, 0, 0, 0, 9) := cAM_findDivisor_1 _ (List.mem_of_getElem? (i := 2) rfl)
theorem cM_findDivisor_33 : zCode 164 33 = some (.iconst 5, 34, 0, 0, 0, 0, 9) := cAM_findDivisor_1 _ (List.mem_of_getElem? (i := 3) rfl)
theorem cM_findDivisor_34 : zCode 164 34 = some (.invokevirtual 93, 37, 162, 1, 7, 12, 9) := cAM_findDivisor_1 _ (List.mem_of_getElem? (i := 4) rfl)
theorem cM_findDivisor_37 : zCode 164 37 = some (.aload_n 0, 38, 0, 0, 0, 0, 9) := cAM_findDivisor_1 _ (List.mem_of_getElem? (i := 5) rfl)
theorem cM_findDivisor_38 : zCode 164 38 = some (.bipush 6, 40, 0, 0, 0, 0, 9) := cAM_findDivisor_1 _ (List.mem_of_getElem? (i := 6) rfl)
theorem cM_findDivisor_40 : zCode 164 40 = some (.invokevirtual 93, 43, 162, 1, 7, 12, 9) := cAM_findDivisor_1 _ (List.mem_of_getElem? (i := 7) rfl)
theorem cM_findDivisor_43 : zCode 164 43 = some (.iinc 3 1, 46, 0, 0, 0, 0, 9) := cAM_findDivisor_1 _ (List.mem_of_getElem? (i := 8) rfl)
theorem cM_findDivisor_46 : zCode 164 46 = some (.goto (-31), 49, 15, 0, 0, 0, 9) := cAM_findDivisor_1 _ (List.mem_of_getElem? (i := 9) rfl)
theorem cM_findDivisor_49 : zCode 164 49 = some (.aload_n 0, 50, 0, 0, 0, 0, 9) := cAM_findDivisor_1 _ (List.mem_of_getElem? (i := 10) rfl)
theorem cM_findDivisor_50 : zCode 164 50 = some (.getfield 27, 53, 12, 5, 2, 1214, 9) := cAM_findDivisor_1 _ (List.mem_of_getElem? (i := 11) rfl)
theorem cM_findDivisor_53 : zCode 164 53 = some (.bipush 6, 55, 0, 0, 0, 0, 9) := cAM_findDivisor_1 _ (List.mem_of_getElem? (i := 12) rfl)
theorem cM_findDivisor_55 : zCode 164 55 = some (.iaload, 56, 0, 0, 0, 0, 9) := cAM_findDivisor_1 _ (List.mem_of_getElem? (i := 13) rfl)
theorem cM_findDivisor_56 : zCode 164 56 = some (.ifCond .le 79, 59, 135, 0, 0, 0, 9) := cAM_findDivisor_1 _ (List.mem_of_getElem? (i := 14) rfl)
theorem cM_findDivisor_59 : zCode 164 59 = some (.aload_n 0, 60, 0, 0, 0, 0, 9) := cAM_findDivisor_1 _ (List.mem_of_getElem? (i := 15) rfl)
theorem cM_findDivisor_60 : zCode 164 60 = some (.iconst 5, 61, 0, 0, 0, 0, 9) := cAM_findDivisor_2 _ (List.mem_of_getElem? (i := 0) rfl)
theorem cM_findDivisor_61 : zCode 164 61 = some (.invokevirtual 89, 64, 163, 1, 2, 12, 9) := cAM_findDivisor_2 _ (List.mem_of_getElem? (i := 1) rfl)
theorem cM_findDivisor_64 : zCode 164 64 = some (.ifCond .eq 11, 67, 75, 0, 0, 0, 9) := cAM_findDivisor_2 _ (List.mem_of_getElem? (i := 2) rfl)
theorem cM_findDivisor_67 : zCode 164 67 = some (.aload_n 0, 68, 0, 0, 0, 0, 9) := cAM_findDivisor_2 _ (List.mem_of_getElem? (i := 3) rfl)
theorem cM_findDivisor_68 : zCode 164 68 = some (.iconst 5, 69, 0, 0, 0, 0, 9) := cAM_findDivisor_2 _ (List.mem_of_getElem? (i := 4) rfl)
theorem cM_findDivisor_69 : zCode 164 69 = some (.invokevirtual 93, 72, 162, 1, 7, 12, 9) := cAM_findDivisor_2 _ (List.mem_of_getElem? (i := 5) rfl)
theorem cM_findDivisor_72 : zCode 164 72 = some (.goto (-13), 75, 59, 0, 0, 0, 9) := cAM_findDivisor_2 _ (List.mem_of_getElem? (i := 6) rfl)
theorem cM_findDivisor_75 : zCode 164 75 = some (.aload_n 0, 76, 0, 0, 0, 0, 9) := cAM_findDivisor_2 _ (List.mem_of_getElem? (i := 7) rfl)
theorem cM_findDivisor_76 : zCode 164 76 = some (.bipush 6, 78, 0, 0, 0, 0, 9) := cAM_findDivisor_2 _ (List.mem_of_getElem? (i := 8) rfl)
theorem cM_findDivisor_78 : zCode 164 78 = some (.invokevirtual 89, 81, 163, 1, 2, 12, 9) := cAM_findDivisor_2 _ (List.mem_of_getElem? (i := 9) rfl)
theorem cM_findDivisor_81 : zCode 164 81 = some (.ifCond .eq 12, 84, 93, 0, 0, 0, 9) := cAM_findDivisor_2 _ (List.mem_of_getElem? (i := 10) rfl)
theorem cM_findDivisor_84 : zCode 164 84 = some (.aload_n 0, 85, 0, 0, 0, 0, 9) := cAM_findDivisor_2 _ (List.mem_of_getElem? (i := 11) rfl)
theorem cM_findDivisor_85 : zCode 164 85 = some (.bipush 6, 87, 0, 0, 0, 0, 9) := cAM_findDivisor_2 _ (List.mem_of_getElem? (i := 12) rfl)
theorem cM_findDivisor_87 : zCode 164 87 = some (.invokevirtual 93, 90, 162, 1, 7, 12, 9) := cAM_findDivisor_2 _ (List.mem_of_getElem? (i := 13) rfl)
theorem cM_findDivisor_90 : zCode 164 90 = some (.goto (-15), 93, 75, 0, 0, 0, 9) := cAM_findDivisor_2 _ (List.mem_of_getElem? (i := 14) rfl)
theorem cM_findDivisor_93 : zCode 164 93 = some (.aload_n 0, 94, 0, 0, 0, 0, 9) := cAM_findDivisor_2 _ (List.mem_of_getElem? (i := 15) rfl)
theorem cM_findDivisor_94 : zCode 164 94 = some (.iconst 5, 95, 0, 0, 0, 0, 9) := cAM_findDivisor_3 _ (List.mem_of_getElem? (i := 0) rfl)
theorem cM_findDivisor_95 : zCode 164 95 = some (.bipush 6, 97, 0, 0, 0, 0, 9) := cAM_findDivisor_3 _ (List.mem_of_getElem? (i := 1) rfl)
theorem cM_findDivisor_97 : zCode 164 97 = some (.invokevirtual 96, 100, 159, 2, 6, 12, 9) := cAM_findDivisor_3 _ (List.mem_of_getElem? (i := 2) rfl)
theorem cM_findDivisor_100 : zCode 164 100 = some (.ifCond .le 25, 103, 125, 0, 0, 0, 9) := cAM_findDivisor_3 _ (List.mem_of_getElem? (i := 3) rfl)
theorem cM_findDivisor_103 : zCode 164 103 = some (.aload_n 0, 104, 0, 0, 0, 0, 9) := cAM_findDivisor_3 _ (List.mem_of_getElem? (i := 4) rfl)
theorem cM_findDivisor_104 : zCode 164 104 = some (.bipush 7, 106, 0, 0, 0, 0, 9) := cAM_findDivisor_3 _ (List.mem_of_getElem? (i := 5) rfl)
theorem cM_findDivisor_106 : zCode 164 106 = some (.iconst 5, 107, 0, 0, 0, 0, 9) := cAM_findDivisor_3 _ (List.mem_of_getElem? (i := 6) rfl)
theorem cM_findDivisor_107 : zCode 164 107 = some (.invokevirtual 85, 110, 156, 2, 4, 12, 9) := cAM_findDivisor_3 _ (List.mem_of_getElem? (i := 7) rfl)
theorem cM_findDivisor_110 : zCode 164 110 = some (.aload_n 0, 111, 0, 0, 0, 0, 9) := cAM_findDivisor_3 _ (List.mem_of_getElem? (i := 8) rfl)
theorem cM_findDivisor_111 : zCode 164 111 = some (.iconst 5, 112, 0, 0, 0, 0, 9) := cAM_findDivisor_3 _ (List.mem_of_getElem? (i := 9) rfl)
theorem cM_findDivisor_112 : zCode 164 112 = some (.bipush 6, 114, 0, 0, 0, 0, 9) := cAM_findDivisor_3 _ (List.mem_of_getElem? (i := 10) rfl)
theorem cM_findDivisor_114 : zCode 164 114 = some (.invokevirtual 85, 117, 156, 2, 4, 12, 9) := cAM_findDivisor_3 _ (List.mem_of_getElem? (i := 11) rfl)
theorem cM_findDivisor_117 : zCode 164 117 = some (.aload_n 0, 118, 0, 0, 0, 0, 9) := cAM_findDivisor_3 _ (List.mem_of_getElem? (i := 12) rfl)
theorem cM_findDivisor_118 : zCode 164 118 = some (.bipush 6, 120, 0, 0, 0, 0, 9) := cAM_findDivisor_3 _ (List.mem_of_getElem? (i := 13) rfl)
theorem cM_findDivisor_120 : zCode 164 120 = some (.bipush 7, 122, 0, 0, 0, 0, 9) := cAM_findDivisor_3 _ (List.mem_of_getElem? (i := 14) rfl)
theorem cM_findDivisor_122 : zCode 164 122 = some (.invokevirtual 85, 125, 156, 2, 4, 12, 9) := cAM_findDivisor_3 _ (List.mem_of_getElem? (i := 15) rfl)
theorem cM_findDivisor_125 : zCode 164 125 = some (.aload_n 0, 126, 0, 0, 0, 0, 9) := cAM_findDivisor_4 _ (List.mem_of_getElem? (i := 0) rfl)
theorem cM_findDivisor_126 : zCode 164 126 = some (.bipush 6, 128, 0, 0, 0, 0, 9) := cAM_findDivisor_4 _ (List.mem_of_getElem? (i := 1) rfl)
theorem cM_findDivisor_128 : zCode 164 128 = some (.iconst 5, 129, 0, 0, 0, 0, 9) := cAM_findDivisor_4 _ (List.mem_of_getElem? (i := 2) rfl)
theorem cM_findDivisor_129 : zCode 164 129 = some (.invokevirtual 100, 132, 161, 2, 8, 12, 9) := cAM_findDivisor_4 _ (List.mem_of_getElem? (i := 3) rfl)
theorem cM_findDivisor_132 : zCode 164 132 = some (.goto (-83), 135, 49, 0, 0, 0, 9) := cAM_findDivisor_4 _ (List.mem_of_getElem? (i := 4) rfl)
theorem cM_findDivisor_135 : zCode 164 135 = some (.iconst 0, 136, 0, 0, 0, 0, 9) := cAM_findDivisor_4 _ (List.mem_of_getElem? (i := 5) rfl)
theorem cM_findDivisor_136 : zCode 164 136 = some (.istore 4, 138, 0, 0, 0, 0, 9) := cAM_findDivisor_4 _ (List.mem_of_getElem? (i := 6) rfl)
theorem cM_findDivisor_138 : zCode 164 138 = some (.iload 4, 140, 0, 0, 0, 0, 25) := cAM_findDivisor_4 _ (List.mem_of_getElem? (i := 7) rfl)
theorem cM_findDivisor_140 : zCode 164 140 = some (.iload_n 3, 141, 0, 0, 0, 0, 25) := cAM_findDivisor_4 _ (List.mem_of_getElem? (i := 8) rfl)
theorem cM_findDivisor_141 : zCode 164 141 = some (.if_icmp .ge 17, 144, 158, 0, 0, 0, 25) := cAM_findDivisor_4 _ (List.mem_of_getElem? (i := 9) rfl)
theorem cM_findDivisor_144 : zCode 164 144 = some (.aload_n 0, 145, 0, 0, 0, 0, 25) := cAM_findDivisor_4 _ (List.mem_of_getElem? (i := 10) rfl)
theorem cM_findDivisor_145 : zCode 164 145 = some (.iconst 5, 146, 0, 0, 0, 0, 25) := cAM_findDivisor_4 _ (List.mem_of_getElem? (i := 11) rfl)
theorem cM_findDivisor_146 : zCode 164 146 = some (.ldc2_w 83, 149, 0, 0, 1659, 2, 25) := cAM_findDivisor_4 _ (List.mem_of_getElem? (i := 12) rfl)
theorem cM_findDivisor_149 : zCode 164 149 = some (.invokevirtual 103, 152, 158, 2, 9, 12, 25) := cAM_findDivisor_4 _ (List.mem_of_getElem? (i := 13) rfl)
theorem cM_findDivisor_152 : zCode 164 152 = some (.iinc 4 1, 155, 0, 0, 0, 0, 25) := cAM_findDivisor_4 _ (List.mem_of_getElem? (i := 14) rfl)
theorem cM_findDivisor_155 : zCode 164 155 = some (.goto (-17), 158, 138, 0, 0, 0, 25) := cAM_findDivisor_4 _ (List.mem_of_getElem? (i := 15) rfl)
theorem cM_findDivisor_158 : zCode 164 158 = some (.return_, 159, 0, 0, 0, 0, 0) := cAM_findDivisor_5 _ (List.mem_of_getElem? (i := 0) rfl)
theorem rM_findDivisor_0 {a0 : Nat} {a1 a2 : Int} {u3 u4 : zV} : zS 164 0 [zR a0, zI a1, zI a2, u3, u4] [] sh pp mm Q ↔ zS 164 1 [zR a0, zI a1, zI a2, zU, zU] [zR a0] sh pp mm Q := s_go cM_findDivisor_0 cM_findDivisor_1 rfl rfl
theorem rM_findDivisor_1 {a0 s0 : Nat} {a1 a2 : Int} {u3 u4 : zV} : zS 164 1 [zR a0, zI a1, zI a2, u3, u4] [zR s0] sh pp mm Q ↔ zS 164 2 [zR a0, zI a1, zI a2, zU, zU] [zI 5, zR s0] sh pp mm Q := s_go cM_findDivisor_1 cM_findDivisor_2 rfl rfl
theorem rM_findDivisor_2 {a0 s1 : Nat} {a1 a2 s0 : Int} {u3 u4 : zV} : zS 164 2 [zR a0, zI a1, zI a2, u3, u4] [zI s0, zR s1] sh pp mm Q ↔ zS 164 3 [zR a0, zU, zI a2, zU, zU] [zI a1, zI s0, zR s1] sh pp mm Q := s_go cM_findDivisor_2 cM_findDivisor_3 rfl rfl
theorem rM_findDivisor_3 {a0 s2 : Nat} {a2 s0 s1 : Int} {u1 u3 u4 : zV} (hk : zKd sh s2 = 12) : zS 164 3 [zR a0, u1, zI a2, u3, u4] [zI s0, zI s1, zR s2] sh pp mm Q ↔ zS 156 0 [zR s2, zI s1, zI s0, zU] [] sh pp mm (fun v sh pp mm => zS 164 6 [zR a0, zU, zI a2, zU, zU] (zPush v []) sh pp mm Q) := s_call cM_findDivisor_3 cM_findDivisor_6 ((if_pos hk).trans rfl) rfl
theorem rM_findDivisor_6 {a0 : Nat} {a2 : Int} {u1 u3 u4 : zV} : zS 164 6 [zR a0, u1, zI a2, u3, u4] [] sh pp mm Q ↔ zS 164 7 [zR a0, zU, zI a2, zU, zU] [zR a0] sh pp mm Q := s_go cM_findDivisor_6 cM_findDivisor_7 rfl rfl
theorem rM_findDivisor_7 {a0 s0 : Nat} {a2 : Int} {u1 u3 u4 : zV} : zS 164 7 [zR a0, u1, zI a2, u3, u4] [zR s0] sh pp mm Q ↔ zS 164 9 [zR a0, zU, zI a2, zU, zU] [zI 6, zR s0] sh pp mm Q := s_go cM_findDivisor_7 cM_findDivisor_9 rfl rfl
theorem rM_findDivisor_9 {a0 s1 : Nat} {a2 s0 : Int} {u1 u3 u4 : zV} : zS 164 9 [zR a0, u1, zI a2, u3, u4] [zI s0, zR s1] sh pp mm Q ↔ zS 164 10 [zR a0, zU, zU, zU, zU] [zI a2, zI s0, zR s1] sh pp mm Q := s_go cM_findDivisor_9 cM_findDivisor_10 rfl rfl
theorem rM_findDivisor_10 {a0 s2 : Nat} {s0 s1 : Int} {u1 u2 u3 u4 : zV} (hk : zKd sh s2 = 12) : zS 164 10 [zR a0, u1, u2, u3, u4] [zI s0, zI s1, zR s2] sh pp mm Q ↔ zS 156 0 [zR s2, zI s1, zI s0, zU] [] sh pp mm (fun v sh pp mm => zS 164 13 [zR a0, zU, zU, zU, zU] (zPush v []) sh pp mm Q) := s_call cM_findDivisor_10 cM_findDivisor_13 ((if_pos hk).trans rfl) rfl
theorem rM_findDivisor_13 {a0 : Nat} {u1 u2 u3 u4 : zV} : zS 164 13 [zR a0, u1, u2, u3, u4] [] sh pp mm Q ↔ zS 164 14 [zR a0, zU, zU, zU, zU] [zI 0] sh pp mm Q := s_go cM_findDivisor_13 cM_findDivisor_14 rfl rfl
theorem rM_findDivisor_14 {a0 : Nat} {s0 : Int} {u1 u2 u3 u4 : zV} : zS 164 14 [zR a0, u1, u2, u3, u4] [zI s0] sh pp mm Q ↔ zS 164 15 [zR a0, zU, zU, zI s0, zU] [] sh pp mm Q := s_go cM_findDivisor_14 cM_findDivisor_15 rfl rfl
theorem rM_findDivisor_15 {a0 : Nat} {a3 : Int} {u1 u2 u4 : zV} : zS 164 15 [zR a0, u1, u2, zI a3, u4] [] sh pp mm Q ↔ zS 164 16 [zR a0, zU, zU, zI a3, zU] [zR a0] sh pp mm Q := s_go cM_findDivisor_15 cM_findDivisor_16 rfl rfl
theorem rM_findDivisor_16 {a0 s0 : Nat} {a3 : Int} {u1 u2 u4 : zV} : zS 164 16 [zR a0, u1, u2, zI a3, u4] [zR s0] sh pp mm Q ↔ zS 164 17 [zR a0, zU, zU, zI a3, zU] [zI 5, zR s0] sh pp mm Q := s_go cM_findDivisor_16 cM_findDivisor_17 rfl rfl
theorem rM_findDivisor_17 {a0 s1 : Nat} {a3 s0 : Int} {u1 u2 u4 : zV} (hk : zKd sh s1 = 12) : zS 164 17 [zR a0, u1, u2, zI a3, u4] [zI s0, zR s1] sh pp mm Q ↔ zS 163 0 [zR s1, zI s0] [] sh pp mm (fun v sh pp mm => zS 164 20 [zR a0, zU, zU, zI a3, zU] (zPush v []) sh pp mm Q) := s_call cM_findDivisor_17 cM_findDivisor_20 ((if_pos hk).trans rfl) rfl
theorem rM_findDivisor_20 {a0 : Nat} {a3 s0 : Int} {u1 u2 u4 : zV} : zS 164 20 [zR a0, u1, u2, zI a3, u4] [zI s0] sh pp mm Q ↔ (s0 = 0 → zS 164 49 [zR a0, zU, zU, zI a3, zU] [] sh pp mm Q) ∧ (¬ s0 = 0 → zS 164 23 [zR a0, zU, zU, zI a3, zU] [] sh pp mm Q) := s_if cM_findDivisor_20 cM_findDivisor_49 cM_findDivisor_23 rfl rfl rfl
theorem rM_findDivisor_23 {a0 : Nat} {a3 : Int} {u1 u2 u4 : zV} : zS 164 23 [zR a0, u1, u2, zI a3, u4] [] sh pp mm Q ↔ zS 164 24 [zR a0, zU, zU, zI a3, zU] [zR a0] sh pp mm Q := s_go cM_findDivisor_23 cM_findDivisor_24 rfl rfl
theorem rM_findDivisor_24 {a0 s0 : Nat} {a3 : Int} {u1 u2 u4 : zV} : zS 164 24 [zR a0, u1, u2, zI a3, u4] [zR s0] sh pp mm Q ↔ zS 164 26 [zR a0, zU, zU, zI a3, zU] [zI 6, zR s0] sh pp mm Q := s_go cM_findDivisor_24 cM_findDivisor_26 rfl rfl
theorem rM_findDivisor_26 {a0 s1 : Nat} {a3 s0 : Int} {u1 u2 u4 : zV} (hk : zKd sh s1 = 12) : zS 164 26 [zR a0, u1, u2, zI a3, u4] [zI s0, zR s1] sh pp mm Q ↔ zS 163 0 [zR s1, zI s0] [] sh pp mm (fun v sh pp mm => zS 164 29 [zR a0, zU, zU, zI a3, zU] (zPush v []) sh pp mm Q) := s_call cM_findDivisor_26 cM_findDivisor_29 ((if_pos hk).trans rfl) rfl
theorem rM_findDivisor_29 {a0 : Nat} {a3 s0 : Int} {u1 u2 u4 : zV} : zS 164 29 [zR a0, u1, u2, zI a3, u4] [zI s0] sh pp mm Q ↔ (s0 = 0 → zS 164 49 [zR a0, zU, zU, zI a3, zU] [] sh pp mm Q) ∧ (¬ s0 = 0 → zS 164 32 [zR a0, zU, zU, zI a3, zU] [] sh pp mm Q) := s_if cM_findDivisor_29 cM_findDivisor_49 cM_findDivisor_32 rfl rfl rfl
theorem rM_findDivisor_32 {a0 : Nat} {a3 : Int} {u1 u2 u4 : zV} : zS 164 32 [zR a0, u1, u2, zI a3, u4] [] sh pp mm Q ↔ zS 164 33 [zR a0, zU, zU, zI a3, zU] [zR a0] sh pp mm Q := s_go cM_findDivisor_32 cM_findDivisor_33 rfl rfl
theorem rM_findDivisor_33 {a0 s0 : Nat} {a3 : Int} {u1 u2 u4 : zV} : zS 164 33 [zR a0, u1, u2, zI a3, u4] [zR s0] sh pp mm Q ↔ zS 164 34 [zR a0, zU, zU, zI a3, zU] [zI 5, zR s0] sh pp mm Q := s_go cM_findDivisor_33 cM_findDivisor_34 rfl rfl
theorem rM_findDivisor_34 {a0 s1 : Nat} {a3 s0 : Int} {u1 u2 u4 : zV} (hk : zKd sh s1 = 12) : zS 164 34 [zR a0, u1, u2, zI a3, u4] [zI s0, zR s1] sh pp mm Q ↔ zS 162 0 [zR s1, zI s0, zU, zU, zU, zU, zU] [] sh pp mm (fun v sh pp mm => zS 164 37 [zR a0, zU, zU, zI a3, zU] (zPush v []) sh pp mm Q) := s_call cM_findDivisor_34 cM_findDivisor_37 ((if_pos hk).trans rfl) rfl
theorem rM_findDivisor_37 {a0 : Nat} {a3 : Int} {u1 u2 u4 : zV} : zS 164 37 [zR a0, u1, u2, zI a3, u4] [] sh pp mm Q ↔ zS 164 38 [zR a0, zU, zU, zI a3, zU] [zR a0] sh pp mm Q := s_go cM_findDivisor_37 cM_findDivisor_38 rfl rfl
theorem rM_findDivisor_38 {a0 s0 : Nat} {a3 : Int} {u1 u2 u4 : zV} : zS 164 38 [zR a0, u1, u2, zI a3, u4] [zR s0] sh pp mm Q ↔ zS 164 40 [zR a0, zU, zU, zI a3, zU] [zI 6, zR s0] sh pp mm Q := s_go cM_findDivisor_38 cM_findDivisor_40 rfl rfl
theorem rM_findDivisor_40 {a0 s1 : Nat} {a3 s0 : Int} {u1 u2 u4 : zV} (hk : zKd sh s1 = 12) : zS 164 40 [zR a0, u1, u2, zI a3, u4] [zI s0, zR s1] sh pp mm Q ↔ zS 162 0 [zR s1, zI s0, zU, zU, zU, zU, zU] [] sh pp mm (fun v sh pp mm => zS 164 43 [zR a0, zU, zU, zI a3, zU] (zPush v []) sh pp mm Q) := s_call cM_findDivisor_40 cM_findDivisor_43 ((if_pos hk).trans rfl) rfl
theorem rM_findDivisor_43 {a0 : Nat} {a3 : Int} {u1 u2 u4 : zV} : zS 164 43 [zR a0, u1, u2, zI a3, u4] [] sh pp mm Q ↔ zS 164 46 [zR a0, zU, zU, zI (zw32 (a3 + 1)), zU] [] sh pp mm Q := s_go cM_findDivisor_43 cM_findDivisor_46 rfl rfl
theorem rM_findDivisor_46 {a0 : Nat} {a3 : Int} {u1 u2 u4 : zV} : zS 164 46 [zR a0, u1, u2, zI a3, u4] [] sh pp mm Q ↔ zS 164 15 [zR a0, zU, zU, zI a3, zU] [] sh pp mm Q := s_go cM_findDivisor_46 cM_findDivisor_15 rfl rfl
theorem rM_findDivisor_49 {a0 : Nat} {a3 : Int} {u1 u2 u4 : zV} : zS 164 49 [zR a0, u1, u2, zI a3, u4] [] sh pp mm Q ↔ zS 164 50 [zR a0, zU, zU, zI a3, zU] [zR a0] sh pp mm Q := s_go cM_findDivisor_49 cM_findDivisor_50 rfl rfl
theorem rM_findDivisor_50 {a0 s0 : Nat} {a3 : Int} {u1 u2 u4 : zV} (hk : zKd sh s0 = 12) : zS 164 50 [zR a0, u1, u2, zI a3, u4] [zR s0] sh pp mm Q ↔ zS 164 53 [zR a0, zU, zU, zI a3, zU] [zR (pp s0 5)] sh pp mm Q := s_go cM_findDivisor_50 cM_findDivisor_53 (if_pos hk) rfl
theorem rM_findDivisor_53 {a0 s0 : Nat} {a3 : Int} {u1 u2 u4 : zV} : zS 164 53 [zR a0, u1, u2, zI a3, u4] [zR s0] sh pp mm Q ↔ zS 164 55 [zR a0, zU, zU, zI a3, zU] [zI 6, zR s0] sh pp mm Q := s_go cM_findDivisor_53 cM_findDivisor_55 rfl rfl
theorem rM_findDivisor_55 {a0 s1 : Nat} {a3 s0 : Int} {u1 u2 u4 : zV} (hk : zKd sh s1 = 20 ∨ zKd sh s1 = 30) (h0 : 0 ≤ s0) (h1 : s0 < zLn sh s1) : zS 164 55 [zR a0, u1, u2, zI a3, u4] [zI s0, zR s1] sh pp mm Q ↔ zS 164 56 [zR a0, zU, zU, zI a3, zU] [zI (mm s1 s0)] sh pp mm Q := s_go cM_findDivisor_55 cM_findDivisor_56 (if_pos ⟨hk, h0, h1⟩) rfl
theorem rM_findDivisor_56 {a0 : Nat} {a3 s0 : Int} {u1 u2 u4 : zV} : zS 164 56 [zR a0, u1, u2, zI a3, u4] [zI s0] sh pp mm Q ↔ (0 < s0 → zS 164 59 [zR a0, zU, zU, zI a3, zU] [] sh pp mm Q) ∧ (¬ 0 < s0 → zS 164 135 [zR a0, zU, zU, zI a3, zU] [] sh pp mm Q) := s_ifn cM_findDivisor_56 cM_findDivisor_59 cM_findDivisor_135 rfl rfl rfl
theorem rM_findDivisor_59 {a0 : Nat} {a3 : Int} {u1 u2 u4 : zV} : zS 164 59 [zR a0, u1, u2, zI a3, u4] [] sh pp mm Q ↔ zS 164 60 [zR a0, zU, zU, zI a3, zU] [zR a0] sh pp mm Q := s_go cM_findDivisor_59 cM_findDivisor_60 rfl rfl
theorem rM_findDivisor_60 {a0 s0 : Nat} {a3 : Int} {u1 u2 u4 : zV} : zS 164 60 [zR a0, u1, u2, zI a3, u4] [zR s0] sh pp mm Q ↔ zS 164 61 [zR a0, zU, zU, zI a3, zU] [zI 5, zR s0] sh pp mm Q := s_go cM_findDivisor_60 cM_findDivisor_61 rfl rfl
theorem rM_findDivisor_61 {a0 s1 : Nat} {a3 s0 : Int} {u1 u2 u4 : zV} (hk : zKd sh s1 = 12) : zS 164 61 [zR a0, u1, u2, zI a3, u4] [zI s0, zR s1] sh pp mm Q ↔ zS 163 0 [zR s1, zI s0] [] sh pp mm (fun v sh pp mm => zS 164 64 [zR a0, zU, zU, zI a3, zU] (zPush v []) sh pp mm Q) := s_call cM_findDivisor_61 cM_findDivisor_64 ((if_pos hk).trans rfl) rfl
theorem rM_findDivisor_64 {a0 : Nat} {a3 s0 : Int} {u1 u2 u4 : zV} : zS 164 64 [zR a0, u1, u2, zI a3, u4] [zI s0] sh pp mm Q ↔ (s0 = 0 → zS 164 75 [zR a0, zU, zU, zI a3, zU] [] sh pp mm Q) ∧ (¬ s0 = 0 → zS 164 67 [zR a0, zU, zU, zI a3, zU] [] sh pp mm Q) := s_if cM_findDivisor_64 cM_findDivisor_75 cM_findDivisor_67 rfl rfl rfl
theorem rM_findDivisor_67 {a0 : Nat} {a3 : Int} {u1 u2 u4 : zV} : zS 164 67 [zR a0, u1, u2, zI a3, u4] [] sh pp mm Q ↔ zS 164 68 [zR a0, zU, zU, zI a3, zU] [zR a0] sh pp mm Q := s_go cM_findDivisor_67 cM_findDivisor_68 rfl rfl
theorem rM_findDivisor_68 {a0 s0 : Nat} {a3 : Int} {u1 u2 u4 : zV} : zS 164 68 [zR a0, u1, u2, zI a3, u4] [zR s0] sh pp mm Q ↔ zS 164 69 [zR a0, zU, zU, zI a3, zU] [zI 5, zR s0] sh pp mm Q := s_go cM_findDivisor_68 cM_findDivisor_69 rfl rfl
theorem rM_findDivisor_69 {a0 s1 : Nat} {a3 s0 : Int} {u1 u2 u4 : zV} (hk : zKd sh s1 = 12) : zS 164 69 [zR a0, u1, u2, zI a3, u4] [zI s0, zR s1] sh pp mm Q ↔ zS 162 0 [zR s1, zI s0, zU, zU, zU, zU, zU] [] sh pp mm (fun v sh pp mm => zS 164 72 [zR a0, zU, zU, zI a3, zU] (zPush v []) sh pp mm Q) := s_call cM_findDivisor_69 cM_findDivisor_72 ((if_pos hk).trans rfl) rfl
theorem rM_findDivisor_72 {a0 : Nat} {a3 : Int} {u1 u2 u4 : zV} : zS 164 72 [zR a0, u1, u2, zI a3, u4] [] sh pp mm Q ↔ zS 164 59 [zR a0, zU, zU, zI a3, zU] [] sh pp mm Q := s_go cM_findDivisor_72 cM_findDivisor_59 rfl rfl
theorem rM_findDivisor_75 {a0 : Nat} {a3 : Int} {u1 u2 u4 : zV} : zS 164 75 [zR a0, u1, u2, zI a3, u4] [] sh pp mm Q ↔ zS 164 76 [zR a0, zU, zU, zI a3, zU] [zR a0] sh pp mm Q := s_go cM_findDivisor_75 cM_findDivisor_76 rfl rfl
theorem rM_findDivisor_76 {a0 s0 : Nat} {a3 : Int} {u1 u2 u4 : zV} : zS 164 76 [zR a0, u1, u2, zI a3, u4] [zR s0] sh pp mm Q ↔ zS 164 78 [zR a0, zU, zU, zI a3, zU] [zI 6, zR s0] sh pp mm Q := s_go cM_findDivisor_76 cM_findDivisor_78 rfl rfl
theorem rM_findDivisor_78 {a0 s1 : Nat} {a3 s0 : Int} {u1 u2 u4 : zV} (hk : zKd sh s1 = 12) : zS 164 78 [zR a0, u1, u2, zI a3, u4] [zI s0, zR s1] sh pp mm Q ↔ zS 163 0 [zR s1, zI s0] [] sh pp mm (fun v sh pp mm => zS 164 81 [zR a0, zU, zU, zI a3, zU] (zPush v []) sh pp mm Q) := s_call cM_findDivisor_78 cM_findDivisor_81 ((if_pos hk).trans rfl) rfl
theorem rM_findDivisor_81 {a0 : Nat} {a3 s0 : Int} {u1 u2 u4 : zV} : zS 164 81 [zR a0, u1, u2, zI a3, u4] [zI s0] sh pp mm Q ↔ (s0 = 0 → zS 164 93 [zR a0, zU, zU, zI a3, zU] [] sh pp mm Q) ∧ (¬ s0 = 0 → zS 164 84 [zR a0, zU, zU, zI a3, zU] [] sh pp mm Q) := s_if cM_findDivisor_81 cM_findDivisor_93 cM_findDivisor_84 rfl rfl rfl
theorem rM_findDivisor_84 {a0 : Nat} {a3 : Int} {u1 u2 u4 : zV} : zS 164 84 [zR a0, u1, u2, zI a3, u4] [] sh pp mm Q ↔ zS 164 85 [zR a0, zU, zU, zI a3, zU] [zR a0] sh pp mm Q := s_go cM_findDivisor_84 cM_findDivisor_85 rfl rfl
theorem rM_findDivisor_85 {a0 s0 : Nat} {a3 : Int} {u1 u2 u4 : zV} : zS 164 85 [zR a0, u1, u2, zI a3, u4] [zR s0] sh pp mm Q ↔ zS 164 87 [zR a0, zU, zU, zI a3, zU] [zI 6, zR s0] sh pp mm Q := s_go cM_findDivisor_85 cM_findDivisor_87 rfl rfl
theorem rM_findDivisor_87 {a0 s1 : Nat} {a3 s0 : Int} {u1 u2 u4 : zV} (hk : zKd sh s1 = 12) : zS 164 87 [zR a0, u1, u2, zI a3, u4] [zI s0, zR s1] sh pp mm Q ↔ zS 162 0 [zR s1, zI s0, zU, zU, zU, zU, zU] [] sh pp mm (fun v sh pp mm => zS 164 90 [zR a0, zU, zU, zI a3, zU] (zPush v []) sh pp mm Q) := s_call cM_findDivisor_87 cM_findDivisor_90 ((if_pos hk).trans rfl) rfl
theorem rM_findDivisor_90 {a0 : Nat} {a3 : Int} {u1 u2 u4 : zV} : zS 164 90 [zR a0, u1, u2, zI a3, u4] [] sh pp mm Q ↔ zS 164 75 [zR a0, zU, zU, zI a3, zU] [] sh pp mm Q := s_go cM_findDivisor_90 cM_findDivisor_75 rfl rfl
theorem rM_findDivisor_93 {a0 : Nat} {a3 : Int} {u1 u2 u4 : zV} : zS 164 93 [zR a0, u1, u2, zI a3, u4] [] sh pp mm Q ↔ zS 164 94 [zR a0, zU, zU, zI a3, zU] [zR a0] sh pp mm Q := s_go cM_findDivisor_93 cM_findDivisor_94 rfl rfl
theorem rM_findDivisor_94 {a0 s0 : Nat} {a3 : Int} {u1 u2 u4 : zV} : zS 164 94 [zR a0, u1, u2, zI a3, u4] [zR s0] sh pp mm Q ↔ zS 164 95 [zR a0, zU, zU, zI a3, zU] [zI 5, zR s0] sh pp mm Q := s_go cM_findDivisor_94 cM_findDivisor_95 rfl rfl
theorem rM_findDivisor_95 {a0 s1 : Nat} {a3 s0 : Int} {u1 u2 u4 : zV} : zS 164 95 [zR a0, u1, u2, zI a3, u4] [zI s0, zR s1] sh pp mm Q ↔ zS 164 97 [zR a0, zU, zU, zI a3, zU] [zI 6, zI s0, zR s1] sh pp mm Q := s_go cM_findDivisor_95 cM_findDivisor_97 rfl rfl
theorem rM_findDivisor_97 {a0 s2 : Nat} {a3 s0 s1 : Int} {u1 u2 u4 : zV} (hk : zKd sh s2 = 12) : zS 164 97 [zR a0, u1, u2, zI a3, u4] [zI s0, zI s1, zR s2] sh pp mm Q ↔ zS 159 0 [zR s2, zI s1, zI s0, zU, zU, zU] [] sh pp mm (fun v sh pp mm => zS 164 100 [zR a0, zU, zU, zI a3, zU] (zPush v []) sh pp mm Q) := s_call cM_findDivisor_97 cM_findDivisor_100 ((if_pos hk).trans rfl) rfl
theorem rM_findDivisor_100 {a0 : Nat} {a3 s0 : Int} {u1 u2 u4 : zV} : zS 164 100 [zR a0, u1, u2, zI a3, u4] [zI s0] sh pp mm Q ↔ (0 < s0 → zS 164 103 [zR a0, zU, zU, zI a3, zU] [] sh pp mm Q) ∧ (¬ 0 < s0 → zS 164 125 [zR a0, zU, zU, zI a3, zU] [] sh pp mm Q) := s_ifn cM_findDivisor_100 cM_findDivisor_103 cM_findDivisor_125 rfl rfl rfl
theorem rM_findDivisor_103 {a0 : Nat} {a3 : Int} {u1 u2 u4 : zV} : zS 164 103 [zR a0, u1, u2, zI a3, u4] [] sh pp mm Q ↔ zS 164 104 [zR a0, zU, zU, zI a3, zU] [zR a0] sh pp mm Q := s_go cM_findDivisor_103 cM_findDivisor_104 rfl rfl
theorem rM_findDivisor_104 {a0 s0 : Nat} {a3 : Int} {u1 u2 u4 : zV} : zS 164 104 [zR a0, u1, u2, zI a3, u4] [zR s0] sh pp mm Q ↔ zS 164 106 [zR a0, zU, zU, zI a3, zU] [zI 7, zR s0] sh pp mm Q := s_go cM_findDivisor_104 cM_findDivisor_106 rfl rfl
theorem rM_findDivisor_106 {a0 s1 : Nat} {a3 s0 : Int} {u1 u2 u4 : zV} : zS 164 106 [zR a0, u1, u2, zI a3, u4] [zI s0, zR s1] sh pp mm Q ↔ zS 164 107 [zR a0, zU, zU, zI a3, zU] [zI 5, zI s0, zR s1] sh pp mm Q := s_go cM_findDivisor_106 cM_findDivisor_107 rfl rfl
theorem rM_findDivisor_107 {a0 s2 : Nat} {a3 s0 s1 : Int} {u1 u2 u4 : zV} (hk : zKd sh s2 = 12) : zS 164 107 [zR a0, u1, u2, zI a3, u4] [zI s0, zI s1, zR s2] sh pp mm Q ↔ zS 156 0 [zR s2, zI s1, zI s0, zU] [] sh pp mm (fun v sh pp mm => zS 164 110 [zR a0, zU, zU, zI a3, zU] (zPush v []) sh pp mm Q) := s_call cM_findDivisor_107 cM_findDivisor_110 ((if_pos hk).trans rfl) rfl
theorem rM_findDivisor_110 {a0 : Nat} {a3 : Int} {u1 u2 u4 : zV} : zS 164 110 [zR a0, u1, u2, zI a3, u4] [] sh pp mm Q ↔ zS 164 111 [zR a0, zU, zU, zI a3, zU] [zR a0] sh pp mm Q := s_go cM_findDivisor_110 cM_findDivisor_111 rfl rfl
theorem rM_findDivisor_111 {a0 s0 : Nat} {a3 : Int} {u1 u2 u4 : zV} : zS 164 111 [zR a0, u1, u2, zI a3, u4] [zR s0] sh pp mm Q ↔ zS 164 112 [zR a0, zU, zU, zI a3, zU] [zI 5, zR s0] sh pp mm Q := s_go cM_findDivisor_111 cM_findDivisor_112 rfl rfl
theorem rM_findDivisor_112 {a0 s1 : Nat} {a3 s0 : Int} {u1 u2 u4 : zV} : zS 164 112 [zR a0, u1, u2, zI a3, u4] [zI s0, zR s1] sh pp mm Q ↔ zS 164 114 [zR a0, zU, zU, zI a3, zU] [zI 6, zI s0, zR s1] sh pp mm Q := s_go cM_findDivisor_112 cM_findDivisor_114 rfl rfl
theorem rM_findDivisor_114 {a0 s2 : Nat} {a3 s0 s1 : Int} {u1 u2 u4 : zV} (hk : zKd sh s2 = 12) : zS 164 114 [zR a0, u1, u2, zI a3, u4] [zI s0, zI s1, zR s2] sh pp mm Q ↔ zS 156 0 [zR s2, zI s1, zI s0, zU] [] sh pp mm (fun v sh pp mm => zS 164 117 [zR a0, zU, zU, zI a3, zU] (zPush v []) sh pp mm Q) := s_call cM_findDivisor_114 cM_findDivisor_117 ((if_pos hk).trans rfl) rfl
theorem rM_findDivisor_117 {a0 : Nat} {a3 : Int} {u1 u2 u4 : zV} : zS 164 117 [zR a0, u1, u2, zI a3, u4] [] sh pp mm Q ↔ zS 164 118 [zR a0, zU, zU, zI a3, zU] [zR a0] sh pp mm Q := s_go cM_findDivisor_117 cM_findDivisor_118 rfl rfl
theorem rM_findDivisor_118 {a0 s0 : Nat} {a3 : Int} {u1 u2 u4 : zV} : zS 164 118 [zR a0, u1, u2, zI a3, u4] [zR s0] sh pp mm Q ↔ zS 164 120 [zR a0, zU, zU, zI a3, zU] [zI 6, zR s0] sh pp mm Q := s_go cM_findDivisor_118 cM_findDivisor_120 rfl rfl
theorem rM_findDivisor_120 {a0 s1 : Nat} {a3 s0 : Int} {u1 u2 u4 : zV} : zS 164 120 [zR a0, u1, u2, zI a3, u4] [zI s0, zR s1] sh pp mm Q ↔ zS 164 122 [zR a0, zU, zU, zI a3, zU] [zI 7, zI s0, zR s1] sh pp mm Q := s_go cM_findDivisor_120 cM_findDivisor_122 rfl rfl
theorem rM_findDivisor_122 {a0 s2 : Nat} {a3 s0 s1 : Int} {u1 u2 u4 : zV} (hk : zKd sh s2 = 12) : zS 164 122 [zR a0, u1, u2, zI a3, u4] [zI s0, zI s1, zR s2] sh pp mm Q ↔ zS 156 0 [zR s2, zI s1, zI s0, zU] [] sh pp mm (fun v sh pp mm => zS 164 125 [zR a0, zU, zU, zI a3, zU] (zPush v []) sh pp mm Q) := s_call cM_findDivisor_122 cM_findDivisor_125 ((if_pos hk).trans rfl) rfl
theorem rM_findDivisor_125 {a0 : Nat} {a3 : Int} {u1 u2 u4 : zV} : zS 164 125 [zR a0, u1, u2, zI a3, u4] [] sh pp mm Q ↔ zS 164 126 [zR a0, zU, zU, zI a3, zU] [zR a0] sh pp mm Q := s_go cM_findDivisor_125 cM_findDivisor_126 rfl rfl
theorem rM_findDivisor_126 {a0 s0 : Nat} {a3 : Int} {u1 u2 u4 : zV} : zS 164 126 [zR a0, u1, u2, zI a3, u4] [zR s0] sh pp mm Q ↔ zS 164 128 [zR a0, zU, zU, zI a3, zU] [zI 6, zR s0] sh pp mm Q := s_go cM_findDivisor_126 cM_findDivisor_128 rfl rfl
theorem rM_findDivisor_128 {a0 s1 : Nat} {a3 s0 : Int} {u1 u2 u4 : zV} : zS 164 128 [zR a0, u1, u2, zI a3, u4] [zI s0, zR s1] sh pp mm Q ↔ zS 164 129 [zR a0, zU, zU, zI a3, zU] [zI 5, zI s0, zR s1] sh pp mm Q := s_go cM_findDivisor_128 cM_findDivisor_129 rfl rfl
theorem rM_findDivisor_129 {a0 s2 : Nat} {a3 s0 s1 : Int} {u1 u2 u4 : zV} (hk : zKd sh s2 = 12) : zS 164 129 [zR a0, u1, u2, zI a3, u4] [zI s0, zI s1, zR s2] sh pp mm Q ↔ zS 161 0 [zR s2, zI s1, zI s0, zU, zU, zU, zU, zU] [] sh pp mm (fun v sh pp mm => zS 164 132 [zR a0, zU, zU, zI a3, zU] (zPush v []) sh pp mm Q) := s_call cM_findDivisor_129 cM_findDivisor_132 ((if_pos hk).trans rfl) rfl
theorem rM_findDivisor_132 {a0 : Nat} {a3 : Int} {u1 u2 u4 : zV} : zS 164 132 [zR a0, u1, u2, zI a3, u4] [] sh pp mm Q ↔ zS 164 49 [zR a0, zU, zU, zI a3, zU] [] sh pp mm Q := s_go cM_findDivisor_132 cM_findDivisor_49 rfl rfl
theorem rM_findDivisor_135 {a0 : Nat} {a3 : Int} {u1 u2 u4 : zV} : zS 164 135 [zR a0, u1, u2, zI a3, u4] [] sh pp mm Q ↔ zS 164 136 [zR a0, zU, zU, zI a3, zU] [zI 0] sh pp mm Q := s_go cM_findDivisor_135 cM_findDivisor_136 rfl rfl
theorem rM_findDivisor_136 {a0 : Nat} {a3 s0 : Int} {u1 u2 u4 : zV} : zS 164 136 [zR a0, u1, u2, zI a3, u4] [zI s0] sh pp mm Q ↔ zS 164 138 [zR a0, zU, zU, zI a3, zI s0] [] sh pp mm Q := s_go cM_findDivisor_136 cM_findDivisor_138 rfl rfl
theorem rM_findDivisor_138 {a0 : Nat} {a3 a4 : Int} {u1 u2 : zV} : zS 164 138 [zR a0, u1, u2, zI a3, zI a4] [] sh pp mm Q ↔ zS 164 140 [zR a0, zU, zU, zI a3, zI a4] [zI a4] sh pp mm Q := s_go cM_findDivisor_138 cM_findDivisor_140 rfl rfl
theorem rM_findDivisor_140 {a0 : Nat} {a3 a4 s0 : Int} {u1 u2 : zV} : zS 164 140 [zR a0, u1, u2, zI a3, zI a4] [zI s0] sh pp mm Q ↔ zS 164 141 [zR a0, zU, zU, zI a3, zI a4] [zI a3, zI s0] sh pp mm Q := s_go cM_findDivisor_140 cM_findDivisor_141 rfl rfl
theorem rM_findDivisor_141 {a0 : Nat} {a3 a4 s0 s1 : Int} {u1 u2 : zV} : zS 164 141 [zR a0, u1, u2, zI a3, zI a4] [zI s0, zI s1] sh pp mm Q ↔ (s1 < s0 → zS 164 144 [zR a0, zU, zU, zI a3, zI a4] [] sh pp mm Q) ∧ (¬ s1 < s0 → zS 164 158 [zU, zU, zU, zU, zU] [] sh pp mm Q) := s_ifn cM_findDivisor_141 cM_findDivisor_144 cM_findDivisor_158 rfl rfl rfl
theorem rM_findDivisor_144 {a0 : Nat} {a3 a4 : Int} {u1 u2 : zV} : zS 164 144 [zR a0, u1, u2, zI a3, zI a4] [] sh pp mm Q ↔ zS 164 145 [zR a0, zU, zU, zI a3, zI a4] [zR a0] sh pp mm Q := s_go cM_findDivisor_144 cM_findDivisor_145 rfl rfl
theorem rM_findDivisor_145 {a0 s0 : Nat} {a3 a4 : Int} {u1 u2 : zV} : zS 164 145 [zR a0, u1, u2, zI a3, zI a4] [zR s0] sh pp mm Q ↔ zS 164 146 [zR a0, zU, zU, zI a3, zI a4] [zI 5, zR s0] sh pp mm Q := s_go cM_findDivisor_145 cM_findDivisor_146 rfl rfl
theorem rM_findDivisor_146 {a0 s1 : Nat} {a3 a4 s0 : Int} {u1 u2 : zV} : zS 164 146 [zR a0, u1, u2, zI a3, zI a4] [zI s0, zR s1] sh pp mm Q ↔ zS 164 149 [zR a0, zU, zU, zI a3, zI a4] [zL 2, zI s0, zR s1] sh pp mm Q := s_go cM_findDivisor_146 cM_findDivisor_149 rfl rfl
theorem rM_findDivisor_149 {a0 s2 : Nat} {a3 a4 s0 s1 : Int} {u1 u2 : zV} (hk : zKd sh s2 = 12) : zS 164 149 [zR a0, u1, u2, zI a3, zI a4] [zL s0, zI s1, zR s2] sh pp mm Q ↔ zS 158 0 [zR s2, zI s1, zL s0, zU, zU, zU, zU, zU, zU] [] sh pp mm (fun v sh pp mm => zS 164 152 [zR a0, zU, zU, zI a3, zI a4] (zPush v []) sh pp mm Q) := s_call cM_findDivisor_149 cM_findDivisor_152 ((if_pos hk).trans rfl) rfl
theorem rM_findDivisor_152 {a0 : Nat} {a3 a4 : Int} {u1 u2 : zV} : zS 164 152 [zR a0, u1, u2, zI a3, zI a4] [] sh pp mm Q ↔ zS 164 155 [zR a0, zU, zU, zI a3, zI (zw32 (a4 + 1))] [] sh pp mm Q := s_go cM_findDivisor_152 cM_findDivisor_155 rfl rfl
theorem rM_findDivisor_155 {a0 : Nat} {a3 a4 : Int} {u1 u2 : zV} : zS 164 155 [zR a0, u1, u2, zI a3, zI a4] [] sh pp mm Q ↔ zS 164 138 [zR a0, zU, zU, zI a3, zI a4] [] sh pp mm Q := s_go cM_findDivisor_155 cM_findDivisor_138 rfl rfl
theorem rM_findDivisor_158 {u0 u1 u2 u3 u4 : zV} : zS 164 158 [u0, u1, u2, u3, u4] [] sh pp mm Q ↔ Q zU sh pp mm := s_ret cM_findDivisor_158 rfl
theorem cAM_divide : ∀ q ∈ zT165, zCode 165 q.1 = some q.2 := zAll (mid := 165) rfl (by decide +kernel)
theorem cAM_divide_0 : ∀ q ∈ zT165_0, zCode 165 q.1 = some q.2 := fun q h => cAM_divide q (List.mem_append_left _ h)
theorem cAM_divide_1 : ∀ q ∈ zT165_1, zCode 165 q.1 = some q.2 := fun q h => cAM_divide q (List.mem_append_right _ (List.mem_append_left _ h))
theorem cAM_divide_2 : ∀ q ∈ zT165_2, zCode 165 q.1 = some q.2 := fun q h => cAM_divide q (List.mem_append_right _ (List.mem_append_right _ (List.mem_append_left _ h)))
theorem cAM_divide_3 : ∀ q ∈ zT165_3, zCode 165 q.1 = some q.2 := fun q h => cAM_divide q (List.mem_append_right _ (List.mem_append_right _ (List.mem_append_right _ (List.mem_append_left _ h))))
theorem cAM_divide_4 : ∀ q ∈ zT165_4, zCode 165 q.1 = some q.2 := fun q h => cAM_divide q (List.mem_append_right _ (List.mem_append_right _ (List.mem_append_right _ (List.mem_append_right _ (List.mem_append_left _ h)))))
theorem cAM_divide_5 : ∀ q ∈ zT165_5, zCode 165 q.1 = some q.2 := fun q h => cAM_divide q (List.mem_append_right _ (List.mem_append_right _ (List.mem_append_right _ (List.mem_append_right _ (List.mem_append_right _ h)))))
theorem cM_divide_0 : zCode 165 0 = some (.aload_n 0, 1, 0, 0, 0, 0, 3) := cAM_divide_0 _ (List.mem_of_getElem? (i := 0) rfl)
theorem cM_divide_1 : zCode 165 1 = some (.bipush 7, 3, 0, 0, 0, 0, 3) := cAM_divide_0 _ (List.mem_of_getElem? (i := 1) rfl)
theorem cM_divide_3 : zCode 165 3 = some (.iload_n 1, 4, 0, 0, 0, 0, 3) := cAM_divide_0 _ (List.mem_of_getElem? (i := 2) rfl)
theorem cM_divide_4 : zCode 165 4 = some (.invokevirtual 85, 7, 156, 2, 4, 12, 3) := cAM_divide_0 _ (List.mem_of_getElem? (i := 3) rfl)
theorem cM_divide_7 : zCode 165 7 = some (.aload_n 0, 8, 0, 0, 0, 0, 3) := cAM_divide_0 _ (List.mem_of_getElem? (i := 4) rfl)
theorem cM_divide_8 : zCode 165 8 = some (.bipush 6, 10, 0, 0, 0, 0, 3) := cAM_divide_0 _ (List.mem_of_getElem? (i := 5) rfl)
theorem cM_divide_10 : zCode 165 10 = some (.lconst 0, 11, 0, 0, 0, 0, 3) := cAM_divide_0 _ (List.mem_of_getElem? (i := 6) rfl)
theorem cM_divide_11 : zCode 165 11 = some (.invokevirtual 73, 14, 155, 2, 6, 12, 3) := cAM_divide_0 _ (List.mem_of_getElem? (i := 7) rfl)
theorem cM_divide_14 : zCode 165 14 = some (.aload_n 0, 15, 0, 0, 0, 0, 3) := cAM_divide_0 _ (List.mem_of_getElem? (i := 8) rfl)
theorem cM_divide_15 : zCode 165 15 = some (.getfield 27, 18, 12, 5, 2, 1214, 3) := cAM_divide_0 _ (List.mem_of_getElem? (i := 9) rfl)
theorem cM_divide_18 : zCode 165 18 = some (.bipush 7, 20, 0, 0, 0, 0, 3) := cAM_divide_0 _ (List.mem_of_getElem? (i := 10) rfl)
theorem cM_divide_20 : zCode 165 20 = some (.iaload, 21, 0, 0, 0, 0, 3) := cAM_divide_0 _ (List.mem_of_getElem? (i := 11) rfl)
theorem cM_divide_21 : zCode 165 21 = some (.istore_n 2, 22, 0, 0, 0, 0, 3) := cAM_divide_0 _ (List.mem_of_getElem? (i := 12) rfl)
theorem cM_divide_22 : zCode 165 22 = some (.iconst 0, 23, 0, 0, 0, 0, 7) := cAM_divide_0 _ (List.mem_of_getElem? (i := 13) rfl)
theorem cM_divide_23 : zCode 165 23 = some (.istore_n 3, 24, 0, 0, 0, 0, 7) := cAM_divide_0 _ (List.mem_of_getElem? (i := 14) rfl)
theorem cM_divide_24 : zCode 165 24 = some (.iload_n 3, 25, 0, 0, 0, 0, 15) := cAM_divide_0 _ (List.mem_of_getElem? (i := 15) rfl)
theorem cM_divide_25 : zCode 165 25 = some (.iload_n 2, 26, 0, 0, 0, 0, 15) := cAM_divide_1 _ (List.mem_of_getElem? (i := 0) rfl)
theorem cM_divide_26 : zCode 165 26 = some (.if_icmp .ge 21, 29, 47, 0, 0, 0, 15) := cAM_divide_1 _ (List.mem_of_getElem? (i := 1) rfl)
theorem cM_divide_29 : zCode 165 29 = some (.aload_n 0, 30, 0, 0, 0, 0, 15) := cAM_divide_1 _ (List.mem_of_getElem? (i := 2) rfl)
theorem cM_divide_30 : zCode 165 30 = some (.getfield 23, 33, 12, 4, 2, 1213, 15) := cAM_divide_1 _ (List.mem_of_getElem? (i := 3) rfl)
theorem cM_divide_33 : zCode 165 33 = some (.bipush 64, 35, 0, 0, 0, 0, 15) := cAM_divide_1 _ (List.mem_of_getElem? (i := 4) rfl)
theorem cM_divide_35 : zCode 165 35 = some (.iload_n 1, 36, 0, 0, 0, 0, 15) := cAM_divide_1 _ (List.mem_of_getElem? (i := 5) rfl)
theorem cM_divide_36 : zCode 165 36 = some (.imul, 37, 0, 0, 0, 0, 15) := cAM_divide_1 _ (List.mem_of_getElem? (i := 6) rfl)
theorem cM_divide_37 : zCode 165 37 = some (.iload_n 3, 38, 0, 0, 0, 0, 15) := cAM_divide_1 _ (List.mem_of_getElem? (i := 7) rfl)
theorem cM_divide_38 : zCode 165 38 = some (.iadd, 39, 0, 0, 0, 0, 15) := cAM_divide_1 _ (List.mem_of_getElem? (i := 8) rfl)
theorem cM_divide_39 : zCode 165 39 = some (.lconst 0, 40, 0, 0, 0, 0, 15) := cAM_divide_1 _ (List.mem_of_getElem? (i := 9) rfl)
theorem cM_divide_40 : zCode 165 40 = some (.lastore, 41, 0, 0, 0, 0, 15) := cAM_divide_1 _ (List.mem_of_getElem? (i := 10) rfl)
theorem cM_divide_41 : zCode 165 41 = some (.iinc 3 1, 44, 0, 0, 0, 0, 15) := cAM_divide_1 _ (List.mem_of_getElem? (i := 11) rfl)
theorem cM_divide_44 : zCode 165 44 = some (.goto (-20), 47, 24, 0, 0, 0, 15) := cAM_divide_1 _ (List.mem_of_getElem? (i := 12) rfl)
theorem cM_divide_47 : zCode 165 47 = some (.iload_n 2, 48, 0, 0, 0, 0, 7) := cAM_divide_1 _ (List.mem_of_getElem? (i := 13) rfl)
theorem cM_divide_48 : zCode 165 48 = some (.iconst 1, 49, 0, 0, 0, 0, 3) := cAM_divide_1 _ (List.mem_of_getElem? (i := 14) rfl)
theorem cM_divide_49 : zCode 165 49 = some (.isub, 50, 0, 0, 0, 0, 3) := cAM_divide_1 _ (List.mem_of_getElem? (i := 15) rfl)
theorem cM_divide_50 : zCode 165 50 = some (.istore_n 3, 51, 0, 0, 0, 0, 3) := cAM_divide_2 _ (List.mem_of_getElem? (i := 0) rfl)
theorem cM_divide_51 : zCode 165 51 = some (.iload_n 3, 52, 0, 0, 0, 0, 11) := cAM_divide_2 _ (List.mem_of_getElem? (i := 1) rfl)
theorem cM_divide_52 : zCode 165 52 = some (.ifCond .lt 104, 55, 156, 0, 0, 0, 11) := cAM_divide_2 _ (List.mem_of_getElem? (i := 2) rfl)
theorem cM_divide_55 : zCode 165 55 = some (.lconst 0, 56, 0, 0, 0, 0, 11) := cAM_divide_2 _ (List.mem_of_getElem? (i := 3) rfl)
theorem cM_divide_56 : zCode 165 56 = some (.lstore 4, 58, 0, 0, 0, 0, 11) := cAM_divide_2 _ (List.mem_of_getElem? (i := 4) rfl)
theorem cM_divide_58 : zCode 165 58 = some (.bipush 29, 60, 0, 0, 0, 0, 27) := cAM_divide_2 _ (List.mem_of_getElem? (i := 5) rfl)
theorem cM_divide_60 : zCode 165 60 = some (.istore 6, 62, 0, 0, 0, 0, 27) := cAM_divide_2 _ (List.mem_of_getElem? (i := 6) rfl)
theorem cM_divide_62 : zCode 165 62 = some (.iload 6, 64, 0, 0, 0, 0, 91) := cAM_divide_2 _ (List.mem_of_getElem? (i := 7) rfl)
theorem cM_divide_64 : zCode 165 64 = some (.ifCond .lt 73, 67, 137, 0, 0, 0, 91) := cAM_divide_2 _ (List.mem_of_getElem? (i := 8) rfl)
theorem cM_divide_67 : zCode 165 67 = some (.aload_n 0, 68, 0, 0, 0, 0, 91) := cAM_divide_2 _ (List.mem_of_getElem? (i := 9) rfl)
theorem cM_divide_68 : zCode 165 68 = some (.bipush 6, 70, 0, 0, 0, 0, 91) := cAM_divide_2 _ (List.mem_of_getElem? (i := 10) rfl)
theorem cM_divide_70 : zCode 165 70 = some (.ldc2_w 83, 73, 0, 0, 1659, 2, 91) := cAM_divide_2 _ (List.mem_of_getElem? (i := 11) rfl)
theorem cM_divide_73 : zCode 165 73 = some (.invokevirtual 103, 76, 158, 2, 9, 12, 91) := cAM_divide_2 _ (List.mem_of_getElem? (i := 12) rfl)
theorem cM_divide_76 : zCode 165 76 = some (.aload_n 0, 77, 0, 0, 0, 0, 91) := cAM_divide_2 _ (List.mem_of_getElem? (i := 13) rfl)
theorem cM_divide_77 : zCode 165 77 = some (.getfield 23, 80, 12, 4, 2, 1213, 91) := cAM_divide_2 _ (List.mem_of_getElem? (i := 14) rfl)
theorem cM_divide_80 : zCode 165 80 = some (.sipush 448, 83, 0, 0, 0, 0, 91) := cAM_divide_2 _ (List.mem_of_getElem? (i := 15) rfl)
theorem cM_divide_83 : zCode 165 83 = some (.iload_n 3, 84, 0, 0, 0, 0, 91) := cAM_divide_3 _ (List.mem_of_getElem? (i := 0) rfl)
theorem cM_divide_84 : zCode 165 84 = some (.iadd, 85, 0, 0, 0, 0, 91) := cAM_divide_3 _ (List.mem_of_getElem? (i := 1) rfl)
theorem cM_divide_85 : zCode 165 85 = some (.laload, 86, 0, 0, 0, 0, 91) := cAM_divide_3 _ (List.mem_of_getElem? (i := 2) rfl)
theorem cM_divide_86 : zCode 165 86 = some (.iload 6, 88, 0, 0, 0, 0, 91) := cAM_divide_3 _ (List.mem_of_getElem? (i := 3) rfl)
theorem cM_divide_88 : zCode 165 88 = some (.lshr, 89, 0, 0, 0, 0, 91) := cAM_divide_3 _ (List.mem_of_getElem? (i := 4) rfl)
theorem cM_divide_89 : zCode 165 89 = some (.lconst 1, 90, 0, 0, 0, 0, 91) := cAM_divide_3 _ (List.mem_of_getElem? (i := 5) rfl)
theorem cM_divide_90 : zCode 165 90 = some (.land, 91, 0, 0, 0, 0, 91) := cAM_divide_3 _ (List.mem_of_getElem? (i := 6) rfl)
theorem cM_divide_91 : zCode 165 91 = some (.lconst 1, 92, 0, 0, 0, 0, 91) := cAM_divide_3 _ (List.mem_of_getElem? (i := 7) rfl)
theorem cM_divide_92 : zCode 165 92 = some (.lcmp, 93, 0, 0, 0, 0, 91) := cAM_divide_3 _ (List.mem_of_getElem? (i := 8) rfl)
theorem cM_divide_93 : zCode 165 93 = some (.ifCond .ne 7, 96, 100, 0, 0, 0, 91) := cAM_divide_3 _ (List.mem_of_getElem? (i := 9) rfl)
theorem cM_divide_96 : zCode 165 96 = some (.aload_n 0, 97, 0, 0, 0, 0, 91) := cAM_divide_3 _ (List.mem_of_getElem? (i := 10) rfl)
theorem cM_divide_97 : zCode 165 97 = some (.invokevirtual 106, 100, 166, 0, 1, 12, 91) := cAM_divide_3 _ (List.mem_of_getElem? (i := 11) rfl)
theorem cM_divide_100 : zCode 165 100 = some (.ldc2_w 83, 103, 0, 0, 1659, 2, 91) := cAM_divide_3 _ (List.mem_of_getElem? (i := 12) rfl)
theorem cM_divide_103 : zCode 165 103 = some (.lload 4, 105, 0, 0, 0, 0, 91) := cAM_divide_3 _ (List.mem_of_getElem? (i := 13) rfl)
theorem cM_divide_105 : zCode 165 105 = some (.lmul, 106, 0, 0, 0, 0, 75) := cAM_divide_3 _ (List.mem_of_getElem? (i := 14) rfl)
theorem cM_divide_106 : zCode 165 106 = some (.lstore 4, 108, 0, 0, 0, 0, 75) := cAM_divide_3 _ (List.mem_of_getElem? (i := 15) rfl)
theorem cM_divide_108 : zCode 165 108 = some (.aload_n 0, 109, 0, 0, 0, 0, 91) := cAM_divide_4 _ (List.mem_of_getElem? (i := 0) rfl)
theorem cM_divide_109 : zCode 165 109 = some (.bipush 6, 111, 0, 0, 0, 0, 91) := cAM_divide_4 _ (List.mem_of_getElem? (i := 1) rfl)
theorem cM_divide_111 : zCode 165 111 = some (.iconst 5, 112, 0, 0, 0, 0, 91) := cAM_divide_4 _ (List.mem_of_getElem? (i := 2) rfl)
theorem cM_divide_112 : zCode 165 112 = some (.invokevirtual 96, 115, 159, 2, 6, 12, 91) := cAM_divide_4 _ (List.mem_of_getElem? (i := 3) rfl)
theorem cM_divide_115 : zCode 165 115 = some (.ifCond .lt 16, 118, 131, 0, 0, 0, 91) := cAM_divide_4 _ (List.mem_of_getElem? (i := 4) rfl)
theorem cM_divide_118 : zCode 165 118 = some (.aload_n 0, 119, 0, 0, 0, 0, 91) := cAM_divide_4 _ (List.mem_of_getElem? (i := 5) rfl)
theorem cM_divide_119 : zCode 165 119 = some (.bipush 6, 121, 0, 0, 0, 0, 91) := cAM_divide_4 _ (List.mem_of_getElem? (i := 6) rfl)
theorem cM_divide_121 : zCode 165 121 = some (.iconst 5, 122, 0, 0, 0, 0, 91) := cAM_divide_4 _ (List.mem_of_getElem? (i := 7) rfl)
theorem cM_divide_122 : zCode 165 122 = some (.invokevirtual 100, 125, 161, 2, 8, 12, 91) := cAM_divide_4 _ (List.mem_of_getElem? (i := 8) rfl)
theorem cM_divide_125 : zCode 165 125 = some (.lload 4, 127, 0, 0, 0, 0, 91) := cAM_divide_4 _ (List.mem_of_getElem? (i := 9) rfl)
theorem cM_divide_127 : zCode 165 127 = some (.lconst 1, 128, 0, 0, 0, 0, 75) := cAM_divide_4 _ (List.mem_of_getElem? (i := 10) rfl)
theorem cM_divide_128 : zCode 165 128 = some (.ladd, 129, 0, 0, 0, 0, 75) := cAM_divide_4 _ (List.mem_of_getElem? (i := 11) rfl)
theorem cM_divide_129 : zCode 165 129 = some (.lstore 4, 131, 0, 0, 0, 0, 75) := cAM_divide_4 _ (List.mem_of_getElem? (i := 12) rfl)
theorem cM_divide_131 : zCode 165 131 = some (.iinc 6 (-1), 134, 0, 0, 0, 0, 91) := cAM_divide_4 _ (List.mem_of_getElem? (i := 13) rfl)
theorem cM_divide_134 : zCode 165 134 = some (.goto (-72), 137, 62, 0, 0, 0, 91) := cAM_divide_4 _ (List.mem_of_getElem? (i := 14) rfl)
theorem cM_divide_137 : zCode 165 137 = some (.aload_n 0, 138, 0, 0, 0, 0, 27) := cAM_divide_4 _ (List.mem_of_getElem? (i := 15) rfl)
theorem cM_divide_138 : zCode 165 138 = some (.getfield 23, 141, 12, 4, 2, 1213, 27) := cAM_divide_5 _ (List.mem_of_getElem? (i := 0) rfl)
theorem cM_divide_141 : zCode 165 141 = some (.bipush 64, 143, 0, 0, 0, 0, 27) := cAM_divide_5 _ (List.mem_of_getElem? (i := 1) rfl)
theorem cM_divide_143 : zCode 165 143 = some (.iload_n 1, 144, 0, 0, 0, 0, 27) := cAM_divide_5 _ (List.mem_of_getElem? (i := 2) rfl)
theorem cM_divide_144 : zCode 165 144 = some (.imul, 145, 0, 0, 0, 0, 27) := cAM_divide_5 _ (List.mem_of_getElem? (i := 3) rfl)
theorem cM_divide_145 : zCode 165 145 = some (.iload_n 3, 146, 0, 0, 0, 0, 27) := cAM_divide_5 _ (List.mem_of_getElem? (i := 4) rfl)
theorem cM_divide_146 : zCode 165 146 = some (.iadd, 147, 0, 0, 0, 0, 27) := cAM_divide_5 _ (List.mem_of_getElem? (i := 5) rfl)
theorem cM_divide_147 : zCode 165 147 = some (.lload 4, 149, 0, 0, 0, 0, 27) := cAM_divide_5 _ (List.mem_of_getElem? (i := 6) rfl)
theorem cM_divide_149 : zCode 165 149 = some (.lastore, 150, 0, 0, 0, 0, 11) := cAM_divide_5 _ (List.mem_of_getElem? (i := 7) rfl)
theorem cM_divide_150 : zCode 165 150 = some (.iinc 3 (-1), 153, 0, 0, 0, 0, 11) := cAM_divide_5 _ (List.mem_of_getElem? (i := 8) rfl)
theorem cM_divide_153 : zCode 165 153 = some (.goto (-102), 156, 51, 0, 0, 0, 11) := cAM_divide_5 _ (List.mem_of_getElem? (i := 9) rfl)
theorem cM_divide_156 : zCode 165 156 = some (.aload_n 0, 157, 0, 0, 0, 0, 3) := cAM_divide_5 _ (List.mem_of_getElem? (i := 10) rfl)
theorem cM_divide_157 : zCode 165 157 = some (.iload_n 1, 158, 0, 0, 0, 0, 2) := cAM_divide_5 _ (List.mem_of_getElem? (i := 11) rfl)
theorem cM_divide_158 : zCode 165 158 = some (.invokevirtual 79, 161, 157, 1, 2, 12, 0) := cAM_divide_5 _ (List.mem_of_getElem? (i := 12) rfl)
theorem cM_divide_161 : zCode 165 161 = some (.return_, 162, 0, 0, 0, 0, 0) := cAM_divide_5 _ (List.mem_of_getElem? (i := 13) rfl)
theorem rM_divide_0 {a0 : Nat} {a1 : Int} {u2 u3 u4 u5 u6 : zV} : zS 165 0 [zR a0, zI a1, u2, u3, u4, u5, u6] [] sh pp mm Q ↔ zS 165 1 [zR a0, zI a1, zU, zU, zU, zU, zU] [zR a0] sh pp mm Q := s_go cM_divide_0 cM_divide_1 rfl rfl
theorem rM_divide_1 {a0 s0 : Nat} {a1 : Int} {u2 u3 u4 u5 u6 : zV} : zS 165 1 [zR a0, zI a1, u2, u3, u4, u5, u6] [zR s0] sh pp mm Q ↔ zS 165 3 [zR a0, zI a1, zU, zU, zU, zU, zU] [zI 7, zR s0] sh pp mm Q := s_go cM_divide_1 cM_divide_3 rfl rfl
theorem rM_divide_3 {a0 s1 : Nat} {a1 s0 : Int} {u2 u3 u4 u5 u6 : zV} : zS 165 3 [zR a0, zI a1, u2, u3, u4, u5, u6] [zI s0, zR s1] sh pp mm Q ↔ zS 165 4 [zR a0, zI a1, zU, zU, zU, zU, zU] [zI a1, zI s0, zR s1] sh pp mm Q := s_go cM_divide_3 cM_divide_4 rfl rfl
theorem rM_divide_4 {a0 s2 : Nat} {a1 s0 s1 : Int} {u2 u3 u4 u5 u6 : zV} (hk : zKd sh s2 = 12) : zS 165 4 [zR a0, zI a1, u2, u3, u4, u5, u6] [zI s0, zI s1, zR s2] sh pp mm Q ↔ zS 156 0 [zR s2, zI s1, zI s0, zU] [] sh pp mm (fun v sh pp mm => zS 165 7 [zR a0, zI a1, zU, zU, zU, zU, zU] (zPush v []) sh pp mm Q) := s_call cM_divide_4 cM_divide_7 ((if_pos hk).trans rfl) rfl
theorem rM_divide_7 {a0 : Nat} {a1 : Int} {u2 u3 u4 u5 u6 : zV} : zS 165 7 [zR a0, zI a1, u2, u3, u4, u5, u6] [] sh pp mm Q ↔ zS 165 8 [zR a0, zI a1, zU, zU, zU, zU, zU] [zR a0] sh pp mm Q := s_go cM_divide_7 cM_divide_8 rfl rfl
theorem rM_divide_8 {a0 s0 : Nat} {a1 : Int} {u2 u3 u4 u5 u6 : zV} : zS 165 8 [zR a0, zI a1, u2, u3, u4, u5, u6] [zR s0] sh pp mm Q ↔ zS 165 10 [zR a0, zI a1, zU, zU, zU, zU, zU] [zI 6, zR s0] sh pp mm Q := s_go cM_divide_8 cM_divide_10 rfl rfl
theorem rM_divide_10 {a0 s1 : Nat} {a1 s0 : Int} {u2 u3 u4 u5 u6 : zV} : zS 165 10 [zR a0, zI a1, u2, u3, u4, u5, u6] [zI s0, zR s1] sh pp mm Q ↔ zS 165 11 [zR a0, zI a1, zU, zU, zU, zU, zU] [zL 0, zI s0, zR s1] sh pp mm Q := s_go cM_divide_10 cM_divide_11 rfl rfl
theorem rM_divide_11 {a0 s2 : Nat} {a1 s0 s1 : Int} {u2 u3 u4 u5 u6 : zV} (hk : zKd sh s2 = 12) : zS 165 11 [zR a0, zI a1, u2, u3, u4, u5, u6] [zL s0, zI s1, zR s2] sh pp mm Q ↔ zS 155 0 [zR s2, zI s1, zL s0, zU, zU, zU] [] sh pp mm (fun v sh pp mm => zS 165 14 [zR a0, zI a1, zU, zU, zU, zU, zU] (zPush v []) sh pp mm Q) := s_call cM_divide_11 cM_divide_14 ((if_pos hk).trans rfl) rfl
theorem rM_divide_14 {a0 : Nat} {a1 : Int} {u2 u3 u4 u5 u6 : zV} : zS 165 14 [zR a0, zI a1, u2, u3, u4, u5, u6] [] sh pp mm Q ↔ zS 165 15 [zR a0, zI a1, zU, zU, zU, zU, zU] [zR a0] sh pp mm Q := s_go cM_divide_14 cM_divide_15 rfl rfl
theorem rM_divide_15 {a0 s0 : Nat} {a1 : Int} {u2 u3 u4 u5 u6 : zV} (hk : zKd sh s0 = 12) : zS 165 15 [zR a0, zI a1, u2, u3, u4, u5, u6] [zR s0] sh pp mm Q ↔ zS 165 18 [zR a0, zI a1, zU, zU, zU, zU, zU] [zR (pp s0 5)] sh pp mm Q := s_go cM_divide_15 cM_divide_18 (if_pos hk) rfl
theorem rM_divide_18 {a0 s0 : Nat} {a1 : Int} {u2 u3 u4 u5 u6 : zV} : zS 165 18 [zR a0, zI a1, u2, u3, u4, u5, u6] [zR s0] sh pp mm Q ↔ zS 165 20 [zR a0, zI a1, zU, zU, zU, zU, zU] [zI 7, zR s0] sh pp mm Q := s_go cM_divide_18 cM_divide_20 rfl rfl
theorem rM_divide_20 {a0 s1 : Nat} {a1 s0 : Int} {u2 u3 u4 u5 u6 : zV} (hk : zKd sh s1 = 20 ∨ zKd sh s1 = 30) (h0 : 0 ≤ s0) (h1 : s0 < zLn sh s1) : zS 165 20 [zR a0, zI a1, u2, u3, u4, u5, u6] [zI s0, zR s1] sh pp mm Q ↔ zS 165 21 [zR a0, zI a1, zU, zU, zU, zU, zU] [zI (mm s1 s0)] sh pp mm Q := s_go cM_divide_20 cM_divide_21 (if_pos ⟨hk, h0, h1⟩) rfl
theorem rM_divide_21 {a0 : Nat} {a1 s0 : Int} {u2 u3 u4 u5 u6 : zV} : zS 165 21 [zR a0, zI a1, u2, u3, u4, u5, u6] [zI s0] sh pp mm Q ↔ zS 165 22 [zR a0, zI a1, zI s0, zU, zU, zU, zU] [] sh pp mm Q := s_go cM_divide_21 cM_divide_22 rfl rfl
theorem rM_divide_22 {a0 : Nat} {a1 a2 : Int} {u3 u4 u5 u6 : zV} : zS 165 22 [zR a0, zI a1, zI a2, u3, u4, u5, u6] [] sh pp mm Q ↔ zS 165 23 [zR a0, zI a1, zI a2, zU, zU, zU, zU] [zI 0] sh pp mm Q := s_go cM_divide_22 cM_divide_23 rfl rfl
theorem rM_divide_23 {a0 : Nat} {a1 a2 s0 : Int} {u3 u4 u5 u6 : zV} : zS 165 23 [zR a0, zI a1, zI a2, u3, u4, u5, u6] [zI s0] sh pp mm Q ↔ zS 165 24 [zR a0, zI a1, zI a2, zI s0, zU, zU, zU] [] sh pp mm Q := s_go cM_divide_23 cM_divide_24 rfl rfl
theorem rM_divide_24 {a0 : Nat} {a1 a2 a3 : Int} {u4 u5 u6 : zV} : zS 165 24 [zR a0, zI a1, zI a2, zI a3, u4, u5, u6] [] sh pp mm Q ↔ zS 165 25 [zR a0, zI a1, zI a2, zI a3, zU, zU, zU] [zI a3] sh pp mm Q := s_go cM_divide_24 cM_divide_25 rfl rfl
theorem rM_divide_25 {a0 : Nat} {a1 a2 a3 s0 : Int} {u4 u5 u6 : zV} : zS 165 25 [zR a0, zI a1, zI a2, zI a3, u4, u5, u6] [zI s0] sh pp mm Q ↔ zS 165 26 [zR a0, zI a1, zI a2, zI a3, zU, zU, zU] [zI a2, zI s0] sh pp mm Q := s_go cM_divide_25 cM_divide_26 rfl rfl
theorem rM_divide_26 {a0 : Nat} {a1 a2 a3 s0 s1 : Int} {u4 u5 u6 : zV} : zS 165 26 [zR a0, zI a1, zI a2, zI a3, u4, u5, u6] [zI s0, zI s1] sh pp mm Q ↔ (s1 < s0 → zS 165 29 [zR a0, zI a1, zI a2, zI a3, zU, zU, zU] [] sh pp mm Q) ∧ (¬ s1 < s0 → zS 165 47 [zR a0, zI a1, zI a2, zU, zU, zU, zU] [] sh pp mm Q) := s_ifn cM_divide_26 cM_divide_29 cM_divide_47 rfl rfl rfl
theorem rM_divide_29 {a0 : Nat} {a1 a2 a3 : Int} {u4 u5 u6 : zV} : zS 165 29 [zR a0, zI a1, zI a2, zI a3, u4, u5, u6] [] sh pp mm Q ↔ zS 165 30 [zR a0, zI a1, zI a2, zI a3, zU, zU, zU] [zR a0] sh pp mm Q := s_go cM_divide_29 cM_divide_30 rfl rfl
theorem rM_divide_30 {a0 s0 : Nat} {a1 a2 a3 : Int} {u4 u5 u6 : zV} (hk : zKd sh s0 = 12) : zS 165 30 [zR a0, zI a1, zI a2, zI a3, u4, u5, u6] [zR s0] sh pp mm Q ↔ zS 165 33 [zR a0, zI a1, zI a2, zI a3, zU, zU, zU] [zR (pp s0 4)] sh pp mm Q := s_go cM_divide_30 cM_divide_33 (if_pos hk) rfl
theorem rM_divide_33 {a0 s0 : Nat} {a1 a2 a3 : Int} {u4 u5 u6 : zV} : zS 165 33 [zR a0, zI a1, zI a2, zI a3, u4, u5, u6] [zR s0] sh pp mm Q ↔ zS 165 35 [zR a0, zI a1, zI a2, zI a3, zU, zU, zU] [zI 64, zR s0] sh pp mm Q := s_go cM_divide_33 cM_divide_35 rfl rfl
theorem rM_divide_35 {a0 s1 : Nat} {a1 a2 a3 s0 : Int} {u4 u5 u6 : zV} : zS 165 35 [zR a0, zI a1, zI a2, zI a3, u4, u5, u6] [zI s0, zR s1] sh pp mm Q ↔ zS 165 36 [zR a0, zI a1, zI a2, zI a3, zU, zU, zU] [zI a1, zI s0, zR s1] sh pp mm Q := s_go cM_divide_35 cM_divide_36 rfl rfl
theorem rM_divide_36 {a0 s2 : Nat} {a1 a2 a3 s0 s1 : Int} {u4 u5 u6 : zV} : zS 165 36 [zR a0, zI a1, zI a2, zI a3, u4, u5, u6] [zI s0, zI s1, zR s2] sh pp mm Q ↔ zS 165 37 [zR a0, zI a1, zI a2, zI a3, zU, zU, zU] [zI (zw32 (s1 * s0)), zR s2] sh pp mm Q := s_go cM_divide_36 cM_divide_37 rfl rfl
theorem rM_divide_37 {a0 s1 : Nat} {a1 a2 a3 s0 : Int} {u4 u5 u6 : zV} : zS 165 37 [zR a0, zI a1, zI a2, zI a3, u4, u5, u6] [zI s0, zR s1] sh pp mm Q ↔ zS 165 38 [zR a0, zI a1, zI a2, zI a3, zU, zU, zU] [zI a3, zI s0, zR s1] sh pp mm Q := s_go cM_divide_37 cM_divide_38 rfl rfl
theorem rM_divide_38 {a0 s2 : Nat} {a1 a2 a3 s0 s1 : Int} {u4 u5 u6 : zV} : zS 165 38 [zR a0, zI a1, zI a2, zI a3, u4, u5, u6] [zI s0, zI s1, zR s2] sh pp mm Q ↔ zS 165 39 [zR a0, zI a1, zI a2, zI a3, zU, zU, zU] [zI (zw32 (s1 + s0)), zR s2] sh pp mm Q := s_go cM_divide_38 cM_divide_39 rfl rfl
theorem rM_divide_39 {a0 s1 : Nat} {a1 a2 a3 s0 : Int} {u4 u5 u6 : zV} : zS 165 39 [zR a0, zI a1, zI a2, zI a3, u4, u5, u6] [zI s0, zR s1] sh pp mm Q ↔ zS 165 40 [zR a0, zI a1, zI a2, zI a3, zU, zU, zU] [zL 0, zI s0, zR s1] sh pp mm Q := s_go cM_divide_39 cM_divide_40 rfl rfl
theorem rM_divide_40 {a0 s2 : Nat} {a1 a2 a3 s0 s1 : Int} {u4 u5 u6 : zV} (hk : zKd sh s2 = 21) (h0 : 0 ≤ s1) (h1 : s1 < zLn sh s2) : zS 165 40 [zR a0, zI a1, zI a2, zI a3, u4, u5, u6] [zL s0, zI s1, zR s2] sh pp mm Q ↔ zS 165 41 [zR a0, zI a1, zI a2, zI a3, zU, zU, zU] [] sh pp (zupd mm s2 s1 s0) Q := s_go cM_divide_40 cM_divide_41 (if_pos ⟨hk, h0, h1⟩) rfl
theorem rM_divide_41 {a0 : Nat} {a1 a2 a3 : Int} {u4 u5 u6 : zV} : zS 165 41 [zR a0, zI a1, zI a2, zI a3, u4, u5, u6] [] sh pp mm Q ↔ zS 165 44 [zR a0, zI a1, zI a2, zI (zw32 (a3 + 1)), zU, zU, zU] [] sh pp mm Q := s_go cM_divide_41 cM_divide_44 rfl rfl
theorem rM_divide_44 {a0 : Nat} {a1 a2 a3 : Int} {u4 u5 u6 : zV} : zS 165 44 [zR a0, zI a1, zI a2, zI a3, u4, u5, u6] [] sh pp mm Q ↔ zS 165 24 [zR a0, zI a1, zI a2, zI a3, zU, zU, zU] [] sh pp mm Q := s_go cM_divide_44 cM_divide_24 rfl rfl
theorem rM_divide_47 {a0 : Nat} {a1 a2 : Int} {u3 u4 u5 u6 : zV} : zS 165 47 [zR a0, zI a1, zI a2, u3, u4, u5, u6] [] sh pp mm Q ↔ zS 165 48 [zR a0, zI a1, zU, zU, zU, zU, zU] [zI a2] sh pp mm Q := s_go cM_divide_47 cM_divide_48 rfl rfl
theorem rM_divide_48 {a0 : Nat} {a1 s0 : Int} {u2 u3 u4 u5 u6 : zV} : zS 165 48 [zR a0, zI a1, u2, u3, u4, u5, u6] [zI s0] sh pp mm Q ↔ zS 165 49 [zR a0, zI a1, zU, zU, zU, zU, zU] [zI 1, zI s0] sh pp mm Q := s_go cM_divide_48 cM_divide_49 rfl rfl
theorem rM_divide_49 {a0 : Nat} {a1 s0 s1 : Int} {u2 u3 u4 u5 u6 : zV} : zS 165 49 [zR a0, zI a1, u2, u3, u4, u5, u6] [zI s0, zI s1] sh pp mm Q ↔ zS 165 50 [zR a0, zI a1, zU, zU, zU, zU, zU] [zI (zw32 (s1 - s0))] sh pp mm Q := s_go cM_divide_49 cM_divide_50 rfl rfl
theorem rM_divide_50 {a0 : Nat} {a1 s0 : Int} {u2 u3 u4 u5 u6 : zV} : zS 165 50 [zR a0, zI a1, u2, u3, u4, u5, u6] [zI s0] sh pp mm Q ↔ zS 165 51 [zR a0, zI a1, zU, zI s0, zU, zU, zU] [] sh pp mm Q := s_go cM_divide_50 cM_divide_51 rfl rfl
theorem rM_divide_51 {a0 : Nat} {a1 a3 : Int} {u2 u4 u5 u6 : zV} : zS 165 51 [zR a0, zI a1, u2, zI a3, u4, u5, u6] [] sh pp mm Q ↔ zS 165 52 [zR a0, zI a1, zU, zI a3, zU, zU, zU] [zI a3] sh pp mm Q := s_go cM_divide_51 cM_divide_52 rfl rfl
theorem rM_divide_52 {a0 : Nat} {a1 a3 s0 : Int} {u2 u4 u5 u6 : zV} : zS 165 52 [zR a0, zI a1, u2, zI a3, u4, u5, u6] [zI s0] sh pp mm Q ↔ (s0 < 0 → zS 165 156 [zR a0, zI a1, zU, zU, zU, zU, zU] [] sh pp mm Q) ∧ (¬ s0 < 0 → zS 165 55 [zR a0, zI a1, zU, zI a3, zU, zU, zU] [] sh pp mm Q) := s_if cM_divide_52 cM_divide_156 cM_divide_55 rfl rfl rfl
theorem rM_divide_55 {a0 : Nat} {a1 a3 : Int} {u2 u4 u5 u6 : zV} : zS 165 55 [zR a0, zI a1, u2, zI a3, u4, u5, u6] [] sh pp mm Q ↔ zS 165 56 [zR a0, zI a1, zU, zI a3, zU, zU, zU] [zL 0] sh pp mm Q := s_go cM_divide_55 cM_divide_56 rfl rfl
theorem rM_divide_56 {a0 : Nat} {a1 a3 s0 : Int} {u2 u4 u5 u6 : zV} : zS 165 56 [zR a0, zI a1, u2, zI a3, u4, u5, u6] [zL s0] sh pp mm Q ↔ zS 165 58 [zR a0, zI a1, zU, zI a3, zL s0, zU, zU] [] sh pp mm Q := s_go cM_divide_56 cM_divide_58 rfl rfl
theorem rM_divide_58 {a0 : Nat} {a1 a3 a4 : Int} {u2 u5 u6 : zV} : zS 165 58 [zR a0, zI a1, u2, zI a3, zL a4, u5, u6] [] sh pp mm Q ↔ zS 165 60 [zR a0, zI a1, zU, zI a3, zL a4, zU, zU] [zI 29] sh pp mm Q := s_go cM_divide_58 cM_divide_60 rfl rfl
theorem rM_divide_60 {a0 : Nat} {a1 a3 a4 s0 : Int} {u2 u5 u6 : zV} : zS 165 60 [zR a0, zI a1, u2, zI a3, zL a4, u5, u6] [zI s0] sh pp mm Q ↔ zS 165 62 [zR a0, zI a1, zU, zI a3, zL a4, zU, zI s0] [] sh pp mm Q := s_go cM_divide_60 cM_divide_62 rfl rfl
theorem rM_divide_62 {a0 : Nat} {a1 a3 a4 a6 : Int} {u2 u5 : zV} : zS 165 62 [zR a0, zI a1, u2, zI a3, zL a4, u5, zI a6] [] sh pp mm Q ↔ zS 165 64 [zR a0, zI a1, zU, zI a3, zL a4, zU, zI a6] [zI a6] sh pp mm Q := s_go cM_divide_62 cM_divide_64 rfl rfl
theorem rM_divide_64 {a0 : Nat} {a1 a3 a4 a6 s0 : Int} {u2 u5 : zV} : zS 165 64 [zR a0, zI a1, u2, zI a3, zL a4, u5, zI a6] [zI s0] sh pp mm Q ↔ (s0 < 0 → zS 165 137 [zR a0, zI a1, zU, zI a3, zL a4, zU, zU] [] sh pp mm Q) ∧ (¬ s0 < 0 → zS 165 67 [zR a0, zI a1, zU, zI a3, zL a4, zU, zI a6] [] sh pp mm Q) := s_if cM_divide_64 cM_divide_137 cM_divide_67 rfl rfl rfl
theorem rM_divide_67 {a0 : Nat} {a1 a3 a4 a6 : Int} {u2 u5 : zV} : zS 165 67 [zR a0, zI a1, u2, zI a3, zL a4, u5, zI a6] [] sh pp mm Q ↔ zS 165 68 [zR a0, zI a1, zU, zI a3, zL a4, zU, zI a6] [zR a0] sh pp mm Q := s_go cM_divide_67 cM_divide_68 rfl rfl
theorem rM_divide_68 {a0 s0 : Nat} {a1 a3 a4 a6 : Int} {u2 u5 : zV} : zS 165 68 [zR a0, zI a1, u2, zI a3, zL a4, u5, zI a6] [zR s0] sh pp mm Q ↔ zS 165 70 [zR a0, zI a1, zU, zI a3, zL a4, zU, zI a6] [zI 6, zR s0] sh pp mm Q := s_go cM_divide_68 cM_divide_70 rfl rfl
theorem rM_divide_70 {a0 s1 : Nat} {a1 a3 a4 a6 s0 : Int} {u2 u5 : zV} : zS 165 70 [zR a0, zI a1, u2, zI a3, zL a4, u5, zI a6] [zI s0, zR s1] sh pp mm Q ↔ zS 165 73 [zR a0, zI a1, zU, zI a3, zL a4, zU, zI a6] [zL 2, zI s0, zR s1] sh pp mm Q := s_go cM_divide_70 cM_divide_73 rfl rfl
theorem rM_divide_73 {a0 s2 : Nat} {a1 a3 a4 a6 s0 s1 : Int} {u2 u5 : zV} (hk : zKd sh s2 = 12) : zS 165 73 [zR a0, zI a1, u2, zI a3, zL a4, u5, zI a6] [zL s0, zI s1, zR s2] sh pp mm Q ↔ zS 158 0 [zR s2, zI s1, zL s0, zU, zU, zU, zU, zU, zU] [] sh pp mm (fun v sh pp mm => zS 165 76 [zR a0, zI a1, zU, zI a3, zL a4, zU, zI a6] (zPush v []) sh pp mm Q) := s_call cM_divide_73 cM_divide_76 ((if_pos hk).trans rfl) rfl
theorem rM_divide_76 {a0 : Nat} {a1 a3 a4 a6 : Int} {u2 u5 : zV} : zS 165 76 [zR a0, zI a1, u2, zI a3, zL a4, u5, zI a6] [] sh pp mm Q ↔ zS 165 77 [zR a0, zI a1, zU, zI a3, zL a4, zU, zI a6] [zR a0] sh pp mm Q := s_go cM_divide_76 cM_divide_77 rfl rfl
theorem rM_divide_77 {a0 s0 : Nat} {a1 a3 a4 a6 : Int} {u2 u5 : zV} (hk : zKd sh s0 = 12) : zS 165 77 [zR a0, zI a1, u2, zI a3, zL a4, u5, zI a6] [zR s0] sh pp mm Q ↔ zS 165 80 [zR a0, zI a1, zU, zI a3, zL a4, zU, zI a6] [zR (pp s0 4)] sh pp mm Q := s_go cM_divide_77 cM_divide_80 (if_pos hk) rfl
theorem rM_divide_80 {a0 s0 : Nat} {a1 a3 a4 a6 : Int} {u2 u5 : zV} : zS 165 80 [zR a0, zI a1, u2, zI a3, zL a4, u5, zI a6] [zR s0] sh pp mm Q ↔ zS 165 83 [zR a0, zI a1, zU, zI a3, zL a4, zU, zI a6] [zI 448, zR s0] sh pp mm Q := s_go cM_divide_80 cM_divide_83 rfl rfl
theorem rM_divide_83 {a0 s1 : Nat} {a1 a3 a4 a6 s0 : Int} {u2 u5 : zV} : zS 165 83 [zR a0, zI a1, u2, zI a3, zL a4, u5, zI a6] [zI s0, zR s1] sh pp mm Q ↔ zS 165 84 [zR a0, zI a1, zU, zI a3, zL a4, zU, zI a6] [zI a3, zI s0, zR s1] sh pp mm Q := s_go cM_divide_83 cM_divide_84 rfl rfl
theorem rM_divide_84 {a0 s2 : Nat} {a1 a3 a4 a6 s0 s1 : Int} {u2 u5 : zV} : zS 165 84 [zR a0, zI a1, u2, zI a3, zL a4, u5, zI a6] [zI s0, zI s1, zR s2] sh pp mm Q ↔ zS 165 85 [zR a0, zI a1, zU, zI a3, zL a4, zU, zI a6] [zI (zw32 (s1 + s0)), zR s2] sh pp mm Q := s_go cM_divide_84 cM_divide_85 rfl rfl
theorem rM_divide_85 {a0 s1 : Nat} {a1 a3 a4 a6 s0 : Int} {u2 u5 : zV} (hk : zKd sh s1 = 21) (h0 : 0 ≤ s0) (h1 : s0 < zLn sh s1) : zS 165 85 [zR a0, zI a1, u2, zI a3, zL a4, u5, zI a6] [zI s0, zR s1] sh pp mm Q ↔ zS 165 86 [zR a0, zI a1, zU, zI a3, zL a4, zU, zI a6] [zL (mm s1 s0)] sh pp mm Q := s_go cM_divide_85 cM_divide_86 (if_pos ⟨hk, h0, h1⟩) rfl
theorem rM_divide_86 {a0 : Nat} {a1 a3 a4 a6 s0 : Int} {u2 u5 : zV} : zS 165 86 [zR a0, zI a1, u2, zI a3, zL a4, u5, zI a6] [zL s0] sh pp mm Q ↔ zS 165 88 [zR a0, zI a1, zU, zI a3, zL a4, zU, zI a6] [zI a6, zL s0] sh pp mm Q := s_go cM_divide_86 cM_divide_88 rfl rfl
theorem rM_divide_88 {a0 : Nat} {a1 a3 a4 a6 s0 s1 : Int} {u2 u5 : zV} : zS 165 88 [zR a0, zI a1, u2, zI a3, zL a4, u5, zI a6] [zI s0, zL s1] sh pp mm Q ↔ zS 165 89 [zR a0, zI a1, zU, zI a3, zL a4, zU, zI a6] [zL (zlshr s1 s0)] sh pp mm Q := s_go cM_divide_88 cM_divide_89 rfl rfl
theorem rM_divide_89 {a0 : Nat} {a1 a3 a4 a6 s0 : Int} {u2 u5 : zV} : zS 165 89 [zR a0, zI a1, u2, zI a3, zL a4, u5, zI a6] [zL s0] sh pp mm Q ↔ zS 165 90 [zR a0, zI a1, zU, zI a3, zL a4, zU, zI a6] [zL 1, zL s0] sh pp mm Q := s_go cM_divide_89 cM_divide_90 rfl rfl
theorem rM_divide_90 {a0 : Nat} {a1 a3 a4 a6 s0 s1 : Int} {u2 u5 : zV} : zS 165 90 [zR a0, zI a1, u2, zI a3, zL a4, u5, zI a6] [zL s0, zL s1] sh pp mm Q ↔ zS 165 91 [zR a0, zI a1, zU, zI a3, zL a4, zU, zI a6] [zL (zland s1 s0)] sh pp mm Q := s_go cM_divide_90 cM_divide_91 rfl rfl
theorem rM_divide_91 {a0 : Nat} {a1 a3 a4 a6 s0 : Int} {u2 u5 : zV} : zS 165 91 [zR a0, zI a1, u2, zI a3, zL a4, u5, zI a6] [zL s0] sh pp mm Q ↔ zS 165 92 [zR a0, zI a1, zU, zI a3, zL a4, zU, zI a6] [zL 1, zL s0] sh pp mm Q := s_go cM_divide_91 cM_divide_92 rfl rfl
theorem rM_divide_92 {a0 : Nat} {a1 a3 a4 a6 s0 s1 : Int} {u2 u5 : zV} : zS 165 92 [zR a0, zI a1, u2, zI a3, zL a4, u5, zI a6] [zL s0, zL s1] sh pp mm Q ↔ zS 165 93 [zR a0, zI a1, zU, zI a3, zL a4, zU, zI a6] [zI (zcmp s1 s0)] sh pp mm Q := s_go cM_divide_92 cM_divide_93 rfl rfl
theorem rM_divide_93 {a0 : Nat} {a1 a3 a4 a6 s0 : Int} {u2 u5 : zV} : zS 165 93 [zR a0, zI a1, u2, zI a3, zL a4, u5, zI a6] [zI s0] sh pp mm Q ↔ (s0 = 0 → zS 165 96 [zR a0, zI a1, zU, zI a3, zL a4, zU, zI a6] [] sh pp mm Q) ∧ (¬ s0 = 0 → zS 165 100 [zR a0, zI a1, zU, zI a3, zL a4, zU, zI a6] [] sh pp mm Q) := s_ifn cM_divide_93 cM_divide_96 cM_divide_100 rfl rfl rfl
theorem rM_divide_96 {a0 : Nat} {a1 a3 a4 a6 : Int} {u2 u5 : zV} : zS 165 96 [zR a0, zI a1, u2, zI a3, zL a4, u5, zI a6] [] sh pp mm Q ↔ zS 165 97 [zR a0, zI a1, zU, zI a3, zL a4, zU, zI a6] [zR a0] sh pp mm Q := s_go cM_divide_96 cM_divide_97 rfl rfl
theorem rM_divide_97 {a0 s0 : Nat} {a1 a3 a4 a6 : Int} {u2 u5 : zV} (hk : zKd sh s0 = 12) : zS 165 97 [zR a0, zI a1, u2, zI a3, zL a4, u5, zI a6] [zR s0] sh pp mm Q ↔ zS 166 0 [zR s0] [] sh pp mm (fun v sh pp mm => zS 165 100 [zR a0, zI a1, zU, zI a3, zL a4, zU, zI a6] (zPush v []) sh pp mm Q) := s_call cM_divide_97 cM_divide_100 ((if_pos hk).trans rfl) rfl
theorem rM_divide_100 {a0 : Nat} {a1 a3 a4 a6 : Int} {u2 u5 : zV} : zS 165 100 [zR a0, zI a1, u2, zI a3, zL a4, u5, zI a6] [] sh pp mm Q ↔ zS 165 103 [zR a0, zI a1, zU, zI a3, zL a4, zU, zI a6] [zL 2] sh pp mm Q := s_go cM_divide_100 cM_divide_103 rfl rfl
theorem rM_divide_103 {a0 : Nat} {a1 a3 a4 a6 s0 : Int} {u2 u5 : zV} : zS 165 103 [zR a0, zI a1, u2, zI a3, zL a4, u5, zI a6] [zL s0] sh pp mm Q ↔ zS 165 105 [zR a0, zI a1, zU, zI a3, zU, zU, zI a6] [zL a4, zL s0] sh pp mm Q := s_go cM_divide_103 cM_divide_105 rfl rfl
theorem rM_divide_105 {a0 : Nat} {a1 a3 a6 s0 s1 : Int} {u2 u4 u5 : zV} : zS 165 105 [zR a0, zI a1, u2, zI a3, u4, u5, zI a6] [zL s0, zL s1] sh pp mm Q ↔ zS 165 106 [zR a0, zI a1, zU, zI a3, zU, zU, zI a6] [zL (zw64 (s1 * s0))] sh pp mm Q := s_go cM_divide_105 cM_divide_106 rfl rfl
theorem rM_divide_106 {a0 : Nat} {a1 a3 a6 s0 : Int} {u2 u4 u5 : zV} : zS 165 106 [zR a0, zI a1, u2, zI a3, u4, u5, zI a6] [zL s0] sh pp mm Q ↔ zS 165 108 [zR a0, zI a1, zU, zI a3, zL s0, zU, zI a6] [] sh pp mm Q := s_go cM_divide_106 cM_divide_108 rfl rfl
theorem rM_divide_108 {a0 : Nat} {a1 a3 a4 a6 : Int} {u2 u5 : zV} : zS 165 108 [zR a0, zI a1, u2, zI a3, zL a4, u5, zI a6] [] sh pp mm Q ↔ zS 165 109 [zR a0, zI a1, zU, zI a3, zL a4, zU, zI a6] [zR a0] sh pp mm Q := s_go cM_divide_108 cM_divide_109 rfl rfl
theorem rM_divide_109 {a0 s0 : Nat} {a1 a3 a4 a6 : Int} {u2 u5 : zV} : zS 165 109 [zR a0, zI a1, u2, zI a3, zL a4, u5, zI a6] [zR s0] sh pp mm Q ↔ zS 165 111 [zR a0, zI a1, zU, zI a3, zL a4, zU, zI a6] [zI 6, zR s0] sh pp mm Q := s_go cM_divide_109 cM_divide_111 rfl rfl
theorem rM_divide_111 {a0 s1 : Nat} {a1 a3 a4 a6 s0 : Int} {u2 u5 : zV} : zS 165 111 [zR a0, zI a1, u2, zI a3, zL a4, u5, zI a6] [zI s0, zR s1] sh pp mm Q ↔ zS 165 112 [zR a0, zI a1, zU, zI a3, zL a4, zU, zI a6] [zI 5, zI s0, zR s1] sh pp mm Q := s_go cM_divide_111 cM_divide_112 rfl rfl
theorem rM_divide_112 {a0 s2 : Nat} {a1 a3 a4 a6 s0 s1 : Int} {u2 u5 : zV} (hk : zKd sh s2 = 12) : zS 165 112 [zR a0, zI a1, u2, zI a3, zL a4, u5, zI a6] [zI s0, zI s1, zR s2] sh pp mm Q ↔ zS 159 0 [zR s2, zI s1, zI s0, zU, zU, zU] [] sh pp mm (fun v sh pp mm => zS 165 115 [zR a0, zI a1, zU, zI a3, zL a4, zU, zI a6] (zPush v []) sh pp mm Q) := s_call cM_divide_112 cM_divide_115 ((if_pos hk).trans rfl) rfl
theorem rM_divide_115 {a0 : Nat} {a1 a3 a4 a6 s0 : Int} {u2 u5 : zV} : zS 165 115 [zR a0, zI a1, u2, zI a3, zL a4, u5, zI a6] [zI s0] sh pp mm Q ↔ (s0 < 0 → zS 165 131 [zR a0, zI a1, zU, zI a3, zL a4, zU, zI a6] [] sh pp mm Q) ∧ (¬ s0 < 0 → zS 165 118 [zR a0, zI a1, zU, zI a3, zL a4, zU, zI a6] [] sh pp mm Q) := s_if cM_divide_115 cM_divide_131 cM_divide_118 rfl rfl rfl
theorem rM_divide_118 {a0 : Nat} {a1 a3 a4 a6 : Int} {u2 u5 : zV} : zS 165 118 [zR a0, zI a1, u2, zI a3, zL a4, u5, zI a6] [] sh pp mm Q ↔ zS 165 119 [zR a0, zI a1, zU, zI a3, zL a4, zU, zI a6] [zR a0] sh pp mm Q := s_go cM_divide_118 cM_divide_119 rfl rfl
theorem rM_divide_119 {a0 s0 : Nat} {a1 a3 a4 a6 : Int} {u2 u5 : zV} : zS 165 119 [zR a0, zI a1, u2, zI a3, zL a4, u5, zI a6] [zR s0] sh pp mm Q ↔ zS 165 121 [zR a0, zI a1, zU, zI a3, zL a4, zU, zI a6] [zI 6, zR s0] sh pp mm Q := s_go cM_divide_119 cM_divide_121 rfl rfl
theorem rM_divide_121 {a0 s1 : Nat} {a1 a3 a4 a6 s0 : Int} {u2 u5 : zV} : zS 165 121 [zR a0, zI a1, u2, zI a3, zL a4, u5, zI a6] [zI s0, zR s1] sh pp mm Q ↔ zS 165 122 [zR a0, zI a1, zU, zI a3, zL a4, zU, zI a6] [zI 5, zI s0, zR s1] sh pp mm Q := s_go cM_divide_121 cM_divide_122 rfl rfl
theorem rM_divide_122 {a0 s2 : Nat} {a1 a3 a4 a6 s0 s1 : Int} {u2 u5 : zV} (hk : zKd sh s2 = 12) : zS 165 122 [zR a0, zI a1, u2, zI a3, zL a4, u5, zI a6] [zI s0, zI s1, zR s2] sh pp mm Q ↔ zS 161 0 [zR s2, zI s1, zI s0, zU, zU, zU, zU, zU] [] sh pp mm (fun v sh pp mm => zS 165 125 [zR a0, zI a1, zU, zI a3, zL a4, zU, zI a6] (zPush v []) sh pp mm Q) := s_call cM_divide_122 cM_divide_125 ((if_pos hk).trans rfl) rfl
theorem rM_divide_125 {a0 : Nat} {a1 a3 a4 a6 : Int} {u2 u5 : zV} : zS 165 125 [zR a0, zI a1, u2, zI a3, zL a4, u5, zI a6] [] sh pp mm Q ↔ zS 165 127 [zR a0, zI a1, zU, zI a3, zU, zU, zI a6] [zL a4] sh pp mm Q := s_go cM_divide_125 cM_divide_127 rfl rfl
theorem rM_divide_127 {a0 : Nat} {a1 a3 a6 s0 : Int} {u2 u4 u5 : zV} : zS 165 127 [zR a0, zI a1, u2, zI a3, u4, u5, zI a6] [zL s0] sh pp mm Q ↔ zS 165 128 [zR a0, zI a1, zU, zI a3, zU, zU, zI a6] [zL 1, zL s0] sh pp mm Q := s_go cM_divide_127 cM_divide_128 rfl rfl
theorem rM_divide_128 {a0 : Nat} {a1 a3 a6 s0 s1 : Int} {u2 u4 u5 : zV} : zS 165 128 [zR a0, zI a1, u2, zI a3, u4, u5, zI a6] [zL s0, zL s1] sh pp mm Q ↔ zS 165 129 [zR a0, zI a1, zU, zI a3, zU, zU, zI a6] [zL (zw64 (s1 + s0))] sh pp mm Q := s_go cM_divide_128 cM_divide_129 rfl rfl
theorem rM_divide_129 {a0 : Nat} {a1 a3 a6 s0 : Int} {u2 u4 u5 : zV} : zS 165 129 [zR a0, zI a1, u2, zI a3, u4, u5, zI a6] [zL s0] sh pp mm Q ↔ zS 165 131 [zR a0, zI a1, zU, zI a3, zL s0, zU, zI a6] [] sh pp mm Q := s_go cM_divide_129 cM_divide_131 rfl rfl
theorem rM_divide_131 {a0 : Nat} {a1 a3 a4 a6 : Int} {u2 u5 : zV} : zS 165 131 [zR a0, zI a1, u2, zI a3, zL a4, u5, zI a6] [] sh pp mm Q ↔ zS 165 134 [zR a0, zI a1, zU, zI a3, zL a4, zU, zI (zw32 (a6 + (-1)))] [] sh pp mm Q := s_go cM_divide_131 cM_divide_134 rfl rfl
theorem rM_divide_134 {a0 : Nat} {a1 a3 a4 a6 : Int} {u2 u5 : zV} : zS 165 134 [zR a0, zI a1, u2, zI a3, zL a4, u5, zI a6] [] sh pp mm Q ↔ zS 165 62 [zR a0, zI a1, zU, zI a3, zL a4, zU, zI a6] [] sh pp mm Q := s_go cM_divide_134 cM_divide_62 rfl rfl
theorem rM_divide_137 {a0 : Nat} {a1 a3 a4 : Int} {u2 u5 u6 : zV} : zS 165 137 [zR a0, zI a1, u2, zI a3, zL a4, u5, u6] [] sh pp mm Q ↔ zS 165 138 [zR a0, zI a1, zU, zI a3, zL a4, zU, zU] [zR a0] sh pp mm Q := s_go cM_divide_137 cM_divide_138 rfl rfl
theorem rM_divide_138 {a0 s0 : Nat} {a1 a3 a4 : Int} {u2 u5 u6 : zV} (hk : zKd sh s0 = 12) : zS 165 138 [zR a0, zI a1, u2, zI a3, zL a4, u5, u6] [zR s0] sh pp mm Q ↔ zS 165 141 [zR a0, zI a1, zU, zI a3, zL a4, zU, zU] [zR (pp s0 4)] sh pp mm Q := s_go cM_divide_138 cM_divide_141 (if_pos hk) rfl
theorem rM_divide_141 {a0 s0 : Nat} {a1 a3 a4 : Int} {u2 u5 u6 : zV} : zS 165 141 [zR a0, zI a1, u2, zI a3, zL a4, u5, u6] [zR s0] sh pp mm Q ↔ zS 165 143 [zR a0, zI a1, zU, zI a3, zL a4, zU, zU] [zI 64, zR s0] sh pp mm Q := s_go cM_divide_141 cM_divide_143 rfl rfl
theorem rM_divide_143 {a0 s1 : Nat} {a1 a3 a4 s0 : Int} {u2 u5 u6 : zV} : zS 165 143 [zR a0, zI a1, u2, zI a3, zL a4, u5, u6] [zI s0, zR s1] sh pp mm Q ↔ zS 165 144 [zR a0, zI a1, zU, zI a3, zL a4, zU, zU] [zI a1, zI s0, zR s1] sh pp mm Q := s_go cM_divide_143 cM_divide_144 rfl rfl
theorem rM_divide_144 {a0 s2 : Nat} {a1 a3 a4 s0 s1 : Int} {u2 u5 u6 : zV} : zS 165 144 [zR a0, zI a1, u2, zI a3, zL a4, u5, u6] [zI s0, zI s1, zR s2] sh pp mm Q ↔ zS 165 145 [zR a0, zI a1, zU, zI a3, zL a4, zU, zU] [zI (zw32 (s1 * s0)), zR s2] sh pp mm Q := s_go cM_divide_144 cM_divide_145 rfl rfl
theorem rM_divide_145 {a0 s1 : Nat} {a1 a3 a4 s0 : Int} {u2 u5 u6 : zV} : zS 165 145 [zR a0, zI a1, u2, zI a3, zL a4, u5, u6] [zI s0, zR s1] sh pp mm Q ↔ zS 165 146 [zR a0, zI a1, zU, zI a3, zL a4, zU, zU] [zI a3, zI s0, zR s1] sh pp mm Q := s_go cM_divide_145 cM_divide_146 rfl rfl
theorem rM_divide_146 {a0 s2 : Nat} {a1 a3 a4 s0 s1 : Int} {u2 u5 u6 : zV} : zS 165 146 [zR a0, zI a1, u2, zI a3, zL a4, u5, u6] [zI s0, zI s1, zR s2] sh pp mm Q ↔ zS 165 147 [zR a0, zI a1, zU, zI a3, zL a4, zU, zU] [zI (zw32 (s1 + s0)), zR s2] sh pp mm Q := s_go cM_divide_146 cM_divide_147 rfl rfl
theorem rM_divide_147 {a0 s1 : Nat} {a1 a3 a4 s0 : Int} {u2 u5 u6 : zV} : zS 165 147 [zR a0, zI a1, u2, zI a3, zL a4, u5, u6] [zI s0, zR s1] sh pp mm Q ↔ zS 165 149 [zR a0, zI a1, zU, zI a3, zU, zU, zU] [zL a4, zI s0, zR s1] sh pp mm Q := s_go cM_divide_147 cM_divide_149 rfl rfl
theorem rM_divide_149 {a0 s2 : Nat} {a1 a3 s0 s1 : Int} {u2 u4 u5 u6 : zV} (hk : zKd sh s2 = 21) (h0 : 0 ≤ s1) (h1 : s1 < zLn sh s2) : zS 165 149 [zR a0, zI a1, u2, zI a3, u4, u5, u6] [zL s0, zI s1, zR s2] sh pp mm Q ↔ zS 165 150 [zR a0, zI a1, zU, zI a3, zU, zU, zU] [] sh pp (zupd mm s2 s1 s0) Q := s_go cM_divide_149 cM_divide_150 (if_pos ⟨hk, h0, h1⟩) rfl
theorem rM_divide_150 {a0 : Nat} {a1 a3 : Int} {u2 u4 u5 u6 : zV} : zS 165 150 [zR a0, zI a1, u2, zI a3, u4, u5, u6] [] sh pp mm Q ↔ zS 165 153 [zR a0, zI a1, zU, zI (zw32 (a3 + (-1))), zU, zU, zU] [] sh pp mm Q := s_go cM_divide_150 cM_divide_153 rfl rfl
theorem rM_divide_153 {a0 : Nat} {a1 a3 : Int} {u2 u4 u5 u6 : zV} : zS 165 153 [zR a0, zI a1, u2, zI a3, u4, u5, u6] [] sh pp mm Q ↔ zS 165 51 [zR a0, zI a1, zU, zI a3, zU, zU, zU] [] sh pp mm Q := s_go cM_divide_153 cM_divide_51 rfl rfl
theorem rM_divide_156 {a0 : Nat} {a1 : Int} {u2 u3 u4 u5 u6 : zV} : zS 165 156 [zR a0, zI a1, u2, u3, u4, u5, u6] [] sh pp mm Q ↔ zS 165 157 [zU, zI a1, zU, zU, zU, zU, zU] [zR a0] sh pp mm Q := s_go cM_divide_156 cM_divide_157 rfl rfl
theorem rM_divide_157 {s0 : Nat} {a1 : Int} {u0 u2 u3 u4 u5 u6 : zV} : zS 165 157 [u0, zI a1, u2, u3, u4, u5, u6] [zR s0] sh pp mm Q ↔ zS 165 158 [zU, zU, zU, zU, zU, zU, zU] [zI a1, zR s0] sh pp mm Q := s_go cM_divide_157 cM_divide_158 rfl rfl
theorem rM_divide_158 {s1 : Nat} {s0 : Int} {u0 u1 u2 u3 u4 u5 u6 : zV} (hk : zKd sh s1 = 12) : zS 165 158 [u0, u1, u2, u3, u4, u5, u6] [zI s0, zR s1] sh pp mm Q ↔ zS 157 0 [zR s1, zI s0] [] sh pp mm (fun v sh pp mm => zS 165 161 [zU, zU, zU, zU, zU, zU, zU] (zPush v []) sh pp mm Q) := s_call cM_divide_158 cM_divide_161 ((if_pos hk).trans rfl) rfl
theorem rM_divide_161 {u0 u1 u2 u3 u4 u5 u6 : zV} : zS 165 161 [u0, u1, u2, u3, u4, u5, u6] [] sh pp mm Q ↔ Q zU sh pp mm := s_ret cM_divide_161 rfl
theorem cAM_addOne : ∀ q ∈ zT166, zCode 166 q.1 = some q.2 := zAll (mid := 166) rfl (by decide +kernel)
theorem cAM_addOne_0 : ∀ q ∈ zT166_0, zCode 166 q.1 = some q.2 := fun q h => cAM_addOne q (List.mem_append_left _ h)
theorem cAM_addOne_1 : ∀ q ∈ zT166_1, zCode 166 q.1 = some q.2 := fun q h => cAM_addOne q (List.mem_append_right _ h)
theorem cM_addOne_0 : zCode 166 0 = some (.aload_n 0, 1, 0, 0, 0, 0, 1) := cAM_addOne_0 _ (List.mem_of_getElem? (i := 0) rfl)
theorem cM_addOne_1 : zCode 166 1 = some (.getfield 27, 4, 12, 5, 2, 1214, 1) := cAM_addOne_0 _ (List.mem_of_getElem? (i := 1) rfl)
theorem cM_addOne_4 : zCode 166 4 = some (.bipush 6, 6, 0, 0, 0, 0, 1) := cAM_addOne_0 _ (List.mem_of_getElem? (i := 2) rfl)
theorem cM_addOne_6 : zCode 166 6 = some (.iaload, 7, 0, 0, 0, 0, 1) := cAM_addOne_0 _ (List.mem_of_getElem? (i := 3) rfl)
theorem cM_addOne_7 : zCode 166 7 = some (.ifCond .ne 13, 10, 20, 0, 0, 0, 1) := cAM_addOne_0 _ (List.mem_of_getElem? (i := 4) rfl)
theorem cM_addOne_10 : zCode 166 10 = some (.aload_n 0, 11, 0, 0, 0, 0, 1) := cAM_addOne_0 _ (List.mem_of_getElem? (i := 5) rfl)
theorem cM_addOne_11 : zCode 166 11 = some (.bipush 6, 13, 0, 0, 0, 0, 0) := cAM_addOne_0 _ (List.mem_of_getElem? (i := 6) rfl)
theorem cM_addOne_13 : zCode 166 13 = some (.lconst 1, 14, 0, 0, 0, 0, 0) := cAM_addOne_0 _ (List.mem_of_getElem? (i := 7) rfl)
theorem cM_addOne_14 : zCode 166 14 = some (.invokevirtual 73, 17, 155, 2, 6, 12, 0) := cAM_addOne_0 _ (List.mem_of_getElem? (i := 8) rfl)
theorem cM_addOne_17 : zCode 166 17 = some (.goto 15, 20, 32, 0, 0, 0, 0) := cAM_addOne_0 _ (List.mem_of_getElem? (i := 9) rfl)
theorem cM_addOne_20 : zCode 166 20 = some (.aload_n 0, 21, 0, 0, 0, 0, 1) := cAM_addOne_0 _ (List.mem_of_getElem? (i := 10) rfl)
theorem cM_addOne_21 : zCode 166 21 = some (.getfield 23, 24, 12, 4, 2, 1213, 0) := cAM_addOne_0 _ (List.mem_of_getElem? (i := 11) rfl)
theorem cM_addOne_24 : zCode 166 24 = some (.sipush 384, 27, 0, 0, 0, 0, 0) := cAM_addOne_0 _ (List.mem_of_getElem? (i := 12) rfl)
theorem cM_addOne_27 : zCode 166 27 = some (.dup2, 28, 0, 0, 0, 0, 0) := cAM_addOne_0 _ (List.mem_of_getElem? (i := 13) rfl)
theorem cM_addOne_28 : zCode 166 28 = some (.laload, 29, 0, 0, 0, 0, 0) := cAM_addOne_0 _ (List.mem_of_getElem? (i := 14) rfl)
theorem cM_addOne_29 : zCode 166 29 = some (.lconst 1, 30, 0, 0, 0, 0, 0) := cAM_addOne_0 _ (List.mem_of_getElem? (i := 15) rfl)
theorem cM_addOne_30 : zCode 166 30 = some (.ladd, 31, 0, 0, 0, 0, 0) := cAM_addOne_1 _ (List.mem_of_getElem? (i := 0) rfl)
theorem cM_addOne_31 : zCode 166 31 = some (.lastore, 32, 0, 0, 0, 0, 0) := cAM_addOne_1 _ (List.mem_of_getElem? (i := 1) rfl)
theorem cM_addOne_32 : zCode 166 32 = some (.return_, 33, 0, 0, 0, 0, 0) := cAM_addOne_1 _ (List.mem_of_getElem? (i := 2) rfl)
theorem rM_addOne_0 {a0 : Nat} : zS 166 0 [zR a0] [] sh pp mm Q ↔ zS 166 1 [zR a0] [zR a0] sh pp mm Q := s_go cM_addOne_0 cM_addOne_1 rfl rfl
theorem rM_addOne_1 {a0 s0 : Nat} (hk : zKd sh s0 = 12) : zS 166 1 [zR a0] [zR s0] sh pp mm Q ↔ zS 166 4 [zR a0] [zR (pp s0 5)] sh pp mm Q := s_go cM_addOne_1 cM_addOne_4 (if_pos hk) rfl
theorem rM_addOne_4 {a0 s0 : Nat} : zS 166 4 [zR a0] [zR s0] sh pp mm Q ↔ zS 166 6 [zR a0] [zI 6, zR s0] sh pp mm Q := s_go cM_addOne_4 cM_addOne_6 rfl rfl
theorem rM_addOne_6 {a0 s1 : Nat} {s0 : Int} (hk : zKd sh s1 = 20 ∨ zKd sh s1 = 30) (h0 : 0 ≤ s0) (h1 : s0 < zLn sh s1) : zS 166 6 [zR a0] [zI s0, zR s1] sh pp mm Q ↔ zS 166 7 [zR a0] [zI (mm s1 s0)] sh pp mm Q := s_go cM_addOne_6 cM_addOne_7 (if_pos ⟨hk, h0, h1⟩) rfl
theorem rM_addOne_7 {a0 : Nat} {s0 : Int} : zS 166 7 [zR a0] [zI s0] sh pp mm Q ↔ (s0 = 0 → zS 166 10 [zR a0] [] sh pp mm Q) ∧ (¬ s0 = 0 → zS 166 20 [zR a0] [] sh pp mm Q) := s_ifn cM_addOne_7 cM_addOne_10 cM_addOne_20 rfl rfl rfl
theorem rM_addOne_10 {a0 : Nat} : zS 166 10 [zR a0] [] sh pp mm Q ↔ zS 166 11 [zU] [zR a0] sh pp mm Q := s_go cM_addOne_10 cM_addOne_11 rfl rfl
theorem rM_addOne_11 {s0 : Nat} {u0 : zV} : zS 166 11 [u0] [zR s0] sh pp mm Q ↔ zS 166 13 [zU] [zI 6, zR s0] sh pp mm Q := s_go cM_addOne_11 cM_addOne_13 rfl rfl
theorem rM_addOne_13 {s1 : Nat} {s0 : Int} {u0 : zV} : zS 166 13 [u0] [zI s0, zR s1] sh pp mm Q ↔ zS 166 14 [zU] [zL 1, zI s0, zR s1] sh pp mm Q := s_go cM_addOne_13 cM_addOne_14 rfl rfl
theorem rM_addOne_14 {s2 : Nat} {s0 s1 : Int} {u0 : zV} (hk : zKd sh s2 = 12) : zS 166 14 [u0] [zL s0, zI s1, zR s2] sh pp mm Q ↔ zS 155 0 [zR s2, zI s1, zL s0, zU, zU, zU] [] sh pp mm (fun v sh pp mm => zS 166 17 [zU] (zPush v []) sh pp mm Q) := s_call cM_addOne_14 cM_addOne_17 ((if_pos hk).trans rfl) rfl
theorem rM_addOne_17 {u0 : zV} : zS 166 17 [u0] [] sh pp mm Q ↔ zS 166 32 [zU] [] sh pp mm Q := s_go cM_addOne_17 cM_addOne_32 rfl rfl
theorem rM_addOne_20 {a0 : Nat} : zS 166 20 [zR a0] [] sh pp mm Q ↔ zS 166 21 [zU] [zR a0] sh pp mm Q := s_go cM_addOne_20 cM_addOne_21 rfl rfl
theorem rM_addOne_21 {s0 : Nat} {u0 : zV} (hk : zKd sh s0 = 12) : zS 166 21 [u0] [zR s0] sh pp mm Q ↔ zS 166 24 [zU] [zR (pp s0 4)] sh pp mm Q := s_go cM_addOne_21 cM_addOne_24 (if_pos hk) rfl
theorem rM_addOne_24 {s0 : Nat} {u0 : zV} : zS 166 24 [u0] [zR s0] sh pp mm Q ↔ zS 166 27 [zU] [zI 384, zR s0] sh pp mm Q := s_go cM_addOne_24 cM_addOne_27 rfl rfl
theorem rM_addOne_27 {s1 : Nat} {s0 : Int} {u0 : zV} : zS 166 27 [u0] [zI s0, zR s1] sh pp mm Q ↔ zS 166 28 [zU] [zI s0, zR s1, zI s0, zR s1] sh pp mm Q := s_go cM_addOne_27 cM_addOne_28 rfl rfl
theorem rM_addOne_28 {s1 s3 : Nat} {s0 s2 : Int} {u0 : zV} (hk : zKd sh s1 = 21) (h0 : 0 ≤ s0) (h1 : s0 < zLn sh s1) : zS 166 28 [u0] [zI s0, zR s1, zI s2, zR s3] sh pp mm Q ↔ zS 166 29 [zU] [zL (mm s1 s0), zI s2, zR s3] sh pp mm Q := s_go cM_addOne_28 cM_addOne_29 (if_pos ⟨hk, h0, h1⟩) rfl
theorem rM_addOne_29 {s2 : Nat} {s0 s1 : Int} {u0 : zV} : zS 166 29 [u0] [zL s0, zI s1, zR s2] sh pp mm Q ↔ zS 166 30 [zU] [zL 1, zL s0, zI s1, zR s2] sh pp mm Q := s_go cM_addOne_29 cM_addOne_30 rfl rfl
theorem rM_addOne_30 {s3 : Nat} {s0 s1 s2 : Int} {u0 : zV} : zS 166 30 [u0] [zL s0, zL s1, zI s2, zR s3] sh pp mm Q ↔ zS 166 31 [zU] [zL (zw64 (s1 + s0)), zI s2, zR s3] sh pp mm Q := s_go cM_addOne_30 cM_addOne_31 rfl rfl
theorem rM_addOne_31 {s2 : Nat} {s0 s1 : Int} {u0 : zV} (hk : zKd sh s2 = 21) (h0 : 0 ≤ s1) (h1 : s1 < zLn sh s2) : zS 166 31 [u0] [zL s0, zI s1, zR s2] sh pp mm Q ↔ zS 166 32 [zU] [] sh pp (zupd mm s2 s1 s0) Q := s_go cM_addOne_31 cM_addOne_32 (if_pos ⟨hk, h0, h1⟩) rfl
theorem rM_addOne_32 {u0 : zV} : zS 166 32 [u0] [] sh pp mm Q ↔ Q zU sh pp mm := s_ret cM_addOne_32 rfl
theorem cAM_tell : ∀ q ∈ zT167, zCode 167 q.1 = some q.2 := zAll (mid := 167) rfl (by decide +kernel)
theorem cAM_tell_0 : ∀ q ∈ zT167_0, zCode 167 q.1 = some q.2 := fun q h => cAM_tell q (List.mem_append_left _ h)
theorem cAM_tell_1 : ∀ q ∈ zT167_1, zCode 167 q.1 = some q.2 := fun q h => cAM_tell q (List.mem_append_right _ (List.mem_append_left _ h))
theorem cAM_tell_2 : ∀ q ∈ zT167_2, zCode 167 q.1 = some q.2 := fun q h => cAM_tell q (List.mem_append_right _ (List.mem_append_right _ h))
theorem cM_tell_0 : zCode 167 0 = some (.aload_n 0, 1, 0, 0, 0, 0, 15) := cAM_tell_0 _ (List.mem_of_getElem? (i := 0) rfl)
theorem cM_tell_1 : zCode 167 1 = some (.getfield 27, 4, 12, 5, 2, 1214, 15) := cAM_tell_0 _ (List.mem_of_getElem? (i := 1) rfl)
theorem cM_tell_4 : zCode 167 4 = some (.iload_n 1, 5, 0, 0, 0, 0, 15) := cAM_tell_0 _ (List.mem_of_getElem? (i := 2) rfl)
theorem cM_tell_5 : zCode 167 5 = some (.iaload, 6, 0, 0, 0, 0, 15) := cAM_tell_0 _ (List.mem_of_getElem? (i := 3) rfl)
theorem cM_tell_6 : zCode 167 6 = some (.ifCond .ne 21, 9, 27, 0, 0, 0, 15) := cAM_tell_0 _ (List.mem_of_getElem? (i := 4) rfl)
theorem cM_tell_9 : zCode 167 9 = some (.aload_n 0, 10, 0, 0, 0, 0, 1) := cAM_tell_0 _ (List.mem_of_getElem? (i := 5) rfl)
theorem cM_tell_10 : zCode 167 10 = some (.iconst 0, 11, 0, 0, 0, 0, 1) := cAM_tell_0 _ (List.mem_of_getElem? (i := 6) rfl)
theorem cM_tell_11 : zCode 167 11 = some (.lconst 0, 12, 0, 0, 0, 0, 1) := cAM_tell_0 _ (List.mem_of_getElem? (i := 7) rfl)
theorem cM_tell_12 : zCode 167 12 = some (.invokevirtual 73, 15, 155, 2, 6, 12, 1) := cAM_tell_0 _ (List.mem_of_getElem? (i := 8) rfl)
theorem cM_tell_15 : zCode 167 15 = some (.aload_n 0, 16, 0, 0, 0, 0, 1) := cAM_tell_0 _ (List.mem_of_getElem? (i := 9) rfl)
theorem cM_tell_16 : zCode 167 16 = some (.iconst 1, 17, 0, 0, 0, 0, 1) := cAM_tell_0 _ (List.mem_of_getElem? (i := 10) rfl)
theorem cM_tell_17 : zCode 167 17 = some (.lconst 1, 18, 0, 0, 0, 0, 1) := cAM_tell_0 _ (List.mem_of_getElem? (i := 11) rfl)
theorem cM_tell_18 : zCode 167 18 = some (.invokevirtual 73, 21, 155, 2, 6, 12, 1) := cAM_tell_0 _ (List.mem_of_getElem? (i := 12) rfl)
theorem cM_tell_21 : zCode 167 21 = some (.aload_n 0, 22, 0, 0, 0, 0, 1) := cAM_tell_0 _ (List.mem_of_getElem? (i := 13) rfl)
theorem cM_tell_22 : zCode 167 22 = some (.iconst 0, 23, 0, 0, 0, 0, 0) := cAM_tell_0 _ (List.mem_of_getElem? (i := 14) rfl)
theorem cM_tell_23 : zCode 167 23 = some (.putfield 109, 26, 12, 6, 0, 1215, 0) := cAM_tell_0 _ (List.mem_of_getElem? (i := 15) rfl)
theorem cM_tell_26 : zCode 167 26 = some (.return_, 27, 0, 0, 0, 0, 0) := cAM_tell_1 _ (List.mem_of_getElem? (i := 0) rfl)
theorem cM_tell_27 : zCode 167 27 = some (.aload_n 0, 28, 0, 0, 0, 0, 15) := cAM_tell_1 _ (List.mem_of_getElem? (i := 1) rfl)
theorem cM_tell_28 : zCode 167 28 = some (.iload_n 1, 29, 0, 0, 0, 0, 15) := cAM_tell_1 _ (List.mem_of_getElem? (i := 2) rfl)
theorem cM_tell_29 : zCode 167 29 = some (.iload_n 2, 30, 0, 0, 0, 0, 15) := cAM_tell_1 _ (List.mem_of_getElem? (i := 3) rfl)
theorem cM_tell_30 : zCode 167 30 = some (.invokevirtual 113, 33, 164, 2, 5, 12, 15) := cAM_tell_1 _ (List.mem_of_getElem? (i := 4) rfl)
theorem cM_tell_33 : zCode 167 33 = some (.aload_n 0, 34, 0, 0, 0, 0, 15) := cAM_tell_1 _ (List.mem_of_getElem? (i := 5) rfl)
theorem cM_tell_34 : zCode 167 34 = some (.iconst 0, 35, 0, 0, 0, 0, 15) := cAM_tell_1 _ (List.mem_of_getElem? (i := 6) rfl)
theorem cM_tell_35 : zCode 167 35 = some (.iload_n 1, 36, 0, 0, 0, 0, 15) := cAM_tell_1 _ (List.mem_of_getElem? (i := 7) rfl)
theorem cM_tell_36 : zCode 167 36 = some (.invokevirtual 85, 39, 156, 2, 4, 12, 13) := cAM_tell_1 _ (List.mem_of_getElem? (i := 8) rfl)
theorem cM_tell_39 : zCode 167 39 = some (.aload_n 0, 40, 0, 0, 0, 0, 13) := cAM_tell_1 _ (List.mem_of_getElem? (i := 9) rfl)
theorem cM_tell_40 : zCode 167 40 = some (.iconst 0, 41, 0, 0, 0, 0, 13) := cAM_tell_1 _ (List.mem_of_getElem? (i := 10) rfl)
theorem cM_tell_41 : zCode 167 41 = some (.invokevirtual 116, 44, 165, 1, 7, 12, 13) := cAM_tell_1 _ (List.mem_of_getElem? (i := 11) rfl)
theorem cM_tell_44 : zCode 167 44 = some (.aload_n 0, 45, 0, 0, 0, 0, 13) := cAM_tell_1 _ (List.mem_of_getElem? (i := 12) rfl)
theorem cM_tell_45 : zCode 167 45 = some (.iconst 1, 46, 0, 0, 0, 0, 13) := cAM_tell_1 _ (List.mem_of_getElem? (i := 13) rfl)
theorem cM_tell_46 : zCode 167 46 = some (.iload_n 2, 47, 0, 0, 0, 0, 13) := cAM_tell_1 _ (List.mem_of_getElem? (i := 14) rfl)
theorem cM_tell_47 : zCode 167 47 = some (.invokevirtual 85, 50, 156, 2, 4, 12, 9) := cAM_tell_1 _ (List.mem_of_getElem? (i := 15) rfl)
theorem cM_tell_50 : zCode 167 50 = some (.aload_n 0, 51, 0, 0, 0, 0, 9) := cAM_tell_2 _ (List.mem_of_getElem? (i := 0) rfl)
theorem cM_tell_51 : zCode 167 51 = some (.iconst 1, 52, 0, 0, 0, 0, 9) := cAM_tell_2 _ (List.mem_of_getElem? (i := 1) rfl)
theorem cM_tell_52 : zCode 167 52 = some (.invokevirtual 116, 55, 165, 1, 7, 12, 9) := cAM_tell_2 _ (List.mem_of_getElem? (i := 2) rfl)
theorem cM_tell_55 : zCode 167 55 = some (.aload_n 0, 56, 0, 0, 0, 0, 9) := cAM_tell_2 _ (List.mem_of_getElem? (i := 3) rfl)
theorem cM_tell_56 : zCode 167 56 = some (.iload_n 3, 57, 0, 0, 0, 0, 8) := cAM_tell_2 _ (List.mem_of_getElem? (i := 4) rfl)
theorem cM_tell_57 : zCode 167 57 = some (.ifCond .eq 7, 60, 64, 0, 0, 0, 0) := cAM_tell_2 _ (List.mem_of_getElem? (i := 5) rfl)
theorem cM_tell_60 : zCode 167 60 = some (.iconst (-1), 61, 0, 0, 0, 0, 0) := cAM_tell_2 _ (List.mem_of_getElem? (i := 6) rfl)
theorem cM_tell_61 : zCode 167 61 = some (.goto 4, 64, 65, 0, 0, 0, 0) := cAM_tell_2 _ (List.mem_of_getElem? (i := 7) rfl)
theorem cM_tell_64 : zCode 167 64 = some (.iconst 1, 65, 0, 0, 0, 0, 0) := cAM_tell_2 _ (List.mem_of_getElem? (i := 8) rfl)
theorem cM_tell_65 : zCode 167 65 = some (.putfield 109, 68, 12, 6, 0, 1215, 0) := cAM_tell_2 _ (List.mem_of_getElem? (i := 9) rfl)
theorem cM_tell_68 : zCode 167 68 = some (.return_, 69, 0, 0, 0, 0, 0) := cAM_tell_2 _ (List.mem_of_getElem? (i := 10) rfl)
theorem rM_tell_0 {a0 : Nat} {a1 a2 a3 : Int} : zS 167 0 [zR a0, zI a1, zI a2, zI a3] [] sh pp mm Q ↔ zS 167 1 [zR a0, zI a1, zI a2, zI a3] [zR a0] sh pp mm Q := s_go cM_tell_0 cM_tell_1 rfl rfl
theorem rM_tell_1 {a0 s0 : Nat} {a1 a2 a3 : Int} (hk : zKd sh s0 = 12) : zS 167 1 [zR a0, zI a1, zI a2, zI a3] [zR s0] sh pp mm Q ↔ zS 167 4 [zR a0, zI a1, zI a2, zI a3] [zR (pp s0 5)] sh pp mm Q := s_go cM_tell_1 cM_tell_4 (if_pos hk) rfl
theorem rM_tell_4 {a0 s0 : Nat} {a1 a2 a3 : Int} : zS 167 4 [zR a0, zI a1, zI a2, zI a3] [zR s0] sh pp mm Q ↔ zS 167 5 [zR a0, zI a1, zI a2, zI a3] [zI a1, zR s0] sh pp mm Q := s_go cM_tell_4 cM_tell_5 rfl rfl
theorem rM_tell_5 {a0 s1 : Nat} {a1 a2 a3 s0 : Int} (hk : zKd sh s1 = 20 ∨ zKd sh s1 = 30) (h0 : 0 ≤ s0) (h1 : s0 < zLn sh s1) : zS 167 5 [zR a0, zI a1, zI a2, zI a3] [zI s0, zR s1] sh pp mm Q ↔ zS 167 6 [zR a0, zI a1, zI a2, zI a3] [zI (mm s1 s0)] sh pp mm Q := s_go cM_tell_5 cM_tell_6 (if_pos ⟨hk, h0, h1⟩) rfl
theorem rM_tell_6 {a0 : Nat} {a1 a2 a3 s0 : Int} : zS 167 6 [zR a0, zI a1, zI a2, zI a3] [zI s0] sh pp mm Q ↔ (s0 = 0 → zS 167 9 [zR a0, zU, zU, zU] [] sh pp mm Q) ∧ (¬ s0 = 0 → zS 167 27 [zR a0, zI a1, zI a2, zI a3] [] sh pp mm Q) := s_ifn cM_tell_6 cM_tell_9 cM_tell_27 rfl rfl rfl
theorem rM_tell_9 {a0 : Nat} {u1 u2 u3 : zV} : zS 167 9 [zR a0, u1, u2, u3] [] sh pp mm Q ↔ zS 167 10 [zR a0, zU, zU, zU] [zR a0] sh pp mm Q := s_go cM_tell_9 cM_tell_10 rfl rfl
theorem rM_tell_10 {a0 s0 : Nat} {u1 u2 u3 : zV} : zS 167 10 [zR a0, u1, u2, u3] [zR s0] sh pp mm Q ↔ zS 167 11 [zR a0, zU, zU, zU] [zI 0, zR s0] sh pp mm Q := s_go cM_tell_10 cM_tell_11 rfl rfl
theorem rM_tell_11 {a0 s1 : Nat} {s0 : Int} {u1 u2 u3 : zV} : zS 167 11 [zR a0, u1, u2, u3] [zI s0, zR s1] sh pp mm Q ↔ zS 167 12 [zR a0, zU, zU, zU] [zL 0, zI s0, zR s1] sh pp mm Q := s_go cM_tell_11 cM_tell_12 rfl rfl
theorem rM_tell_12 {a0 s2 : Nat} {s0 s1 : Int} {u1 u2 u3 : zV} (hk : zKd sh s2 = 12) : zS 167 12 [zR a0, u1, u2, u3] [zL s0, zI s1, zR s2] sh pp mm Q ↔ zS 155 0 [zR s2, zI s1, zL s0, zU, zU, zU] [] sh pp mm (fun v sh pp mm => zS 167 15 [zR a0, zU, zU, zU] (zPush v []) sh pp mm Q) := s_call cM_tell_12 cM_tell_15 ((if_pos hk).trans rfl) rfl
theorem rM_tell_15 {a0 : Nat} {u1 u2 u3 : zV} : zS 167 15 [zR a0, u1, u2, u3] [] sh pp mm Q ↔ zS 167 16 [zR a0, zU, zU, zU] [zR a0] sh pp mm Q := s_go cM_tell_15 cM_tell_16 rfl rfl
theorem rM_tell_16 {a0 s0 : Nat} {u1 u2 u3 : zV} : zS 167 16 [zR a0, u1, u2, u3] [zR s0] sh pp mm Q ↔ zS 167 17 [zR a0, zU, zU, zU] [zI 1, zR s0] sh pp mm Q := s_go cM_tell_16 cM_tell_17 rfl rfl
theorem rM_tell_17 {a0 s1 : Nat} {s0 : Int} {u1 u2 u3 : zV} : zS 167 17 [zR a0, u1, u2, u3] [zI s0, zR s1] sh pp mm Q ↔ zS 167 18 [zR a0, zU, zU, zU] [zL 1, zI s0, zR s1] sh pp mm Q := s_go cM_tell_17 cM_tell_18 rfl rfl
theorem rM_tell_18 {a0 s2 : Nat} {s0 s1 : Int} {u1 u2 u3 : zV} (hk : zKd sh s2 = 12) : zS 167 18 [zR a0, u1, u2, u3] [zL s0, zI s1, zR s2] sh pp mm Q ↔ zS 155 0 [zR s2, zI s1, zL s0, zU, zU, zU] [] sh pp mm (fun v sh pp mm => zS 167 21 [zR a0, zU, zU, zU] (zPush v []) sh pp mm Q) := s_call cM_tell_18 cM_tell_21 ((if_pos hk).trans rfl) rfl
theorem rM_tell_21 {a0 : Nat} {u1 u2 u3 : zV} : zS 167 21 [zR a0, u1, u2, u3] [] sh pp mm Q ↔ zS 167 22 [zU, zU, zU, zU] [zR a0] sh pp mm Q := s_go cM_tell_21 cM_tell_22 rfl rfl
theorem rM_tell_22 {s0 : Nat} {u0 u1 u2 u3 : zV} : zS 167 22 [u0, u1, u2, u3] [zR s0] sh pp mm Q ↔ zS 167 23 [zU, zU, zU, zU] [zI 0, zR s0] sh pp mm Q := s_go cM_tell_22 cM_tell_23 rfl rfl
theorem rM_tell_23 {s1 : Nat} {s0 : Int} {u0 u1 u2 u3 : zV} (hk : zKd sh s1 = 12) : zS 167 23 [u0, u1, u2, u3] [zI s0, zR s1] sh pp mm Q ↔ zS 167 26 [zU, zU, zU, zU] [] sh pp (zupd mm s1 6 s0) Q := s_go cM_tell_23 cM_tell_26 (if_pos ⟨hk, Or.inl rfl⟩) rfl
theorem rM_tell_26 {u0 u1 u2 u3 : zV} : zS 167 26 [u0, u1, u2, u3] [] sh pp mm Q ↔ Q zU sh pp mm := s_ret cM_tell_26 rfl
theorem rM_tell_27 {a0 : Nat} {a1 a2 a3 : Int} : zS 167 27 [zR a0, zI a1, zI a2, zI a3] [] sh pp mm Q ↔ zS 167 28 [zR a0, zI a1, zI a2, zI a3] [zR a0] sh pp mm Q := s_go cM_tell_27 cM_tell_28 rfl rfl
theorem rM_tell_28 {a0 s0 : Nat} {a1 a2 a3 : Int} : zS 167 28 [zR a0, zI a1, zI a2, zI a3] [zR s0] sh pp mm Q ↔ zS 167 29 [zR a0, zI a1, zI a2, zI a3] [zI a1, zR s0] sh pp mm Q := s_go cM_tell_28 cM_tell_29 rfl rfl
theorem rM_tell_29 {a0 s1 : Nat} {a1 a2 a3 s0 : Int} : zS 167 29 [zR a0, zI a1, zI a2, zI a3] [zI s0, zR s1] sh pp mm Q ↔ zS 167 30 [zR a0, zI a1, zI a2, zI a3] [zI a2, zI s0, zR s1] sh pp mm Q := s_go cM_tell_29 cM_tell_30 rfl rfl
theorem rM_tell_30 {a0 s2 : Nat} {a1 a2 a3 s0 s1 : Int} (hk : zKd sh s2 = 12) : zS 167 30 [zR a0, zI a1, zI a2, zI a3] [zI s0, zI s1, zR s2] sh pp mm Q ↔ zS 164 0 [zR s2, zI s1, zI s0, zU, zU] [] sh pp mm (fun v sh pp mm => zS 167 33 [zR a0, zI a1, zI a2, zI a3] (zPush v []) sh pp mm Q) := s_call cM_tell_30 cM_tell_33 ((if_pos hk).trans rfl) rfl
theorem rM_tell_33 {a0 : Nat} {a1 a2 a3 : Int} : zS 167 33 [zR a0, zI a1, zI a2, zI a3] [] sh pp mm Q ↔ zS 167 34 [zR a0, zI a1, zI a2, zI a3] [zR a0] sh pp mm Q := s_go cM_tell_33 cM_tell_34 rfl rfl
theorem rM_tell_34 {a0 s0 : Nat} {a1 a2 a3 : Int} : zS 167 34 [zR a0, zI a1, zI a2, zI a3] [zR s0] sh pp mm Q ↔ zS 167 35 [zR a0, zI a1, zI a2, zI a3] [zI 0, zR s0] sh pp mm Q := s_go cM_tell_34 cM_tell_35 rfl rfl
theorem rM_tell_35 {a0 s1 : Nat} {a1 a2 a3 s0 : Int} : zS 167 35 [zR a0, zI a1, zI a2, zI a3] [zI s0, zR s1] sh pp mm Q ↔ zS 167 36 [zR a0, zU, zI a2, zI a3] [zI a1, zI s0, zR s1] sh pp mm Q := s_go cM_tell_35 cM_tell_36 rfl rfl
theorem rM_tell_36 {a0 s2 : Nat} {a2 a3 s0 s1 : Int} {u1 : zV} (hk : zKd sh s2 = 12) : zS 167 36 [zR a0, u1, zI a2, zI a3] [zI s0, zI s1, zR s2] sh pp mm Q ↔ zS 156 0 [zR s2, zI s1, zI s0, zU] [] sh pp mm (fun v sh pp mm => zS 167 39 [zR a0, zU, zI a2, zI a3] (zPush v []) sh pp mm Q) := s_call cM_tell_36 cM_tell_39 ((if_pos hk).trans rfl) rfl
theorem rM_tell_39 {a0 : Nat} {a2 a3 : Int} {u1 : zV} : zS 167 39 [zR a0, u1, zI a2, zI a3] [] sh pp mm Q ↔ zS 167 40 [zR a0, zU, zI a2, zI a3] [zR a0] sh pp mm Q := s_go cM_tell_39 cM_tell_40 rfl rfl
theorem rM_tell_40 {a0 s0 : Nat} {a2 a3 : Int} {u1 : zV} : zS 167 40 [zR a0, u1, zI a2, zI a3] [zR s0] sh pp mm Q ↔ zS 167 41 [zR a0, zU, zI a2, zI a3] [zI 0, zR s0] sh pp mm Q := s_go cM_tell_40 cM_tell_41 rfl rfl
theorem rM_tell_41 {a0 s1 : Nat} {a2 a3 s0 : Int} {u1 : zV} (hk : zKd sh s1 = 12) : zS 167 41 [zR a0, u1, zI a2, zI a3] [zI s0, zR s1] sh pp mm Q ↔ zS 165 0 [zR s1, zI s0, zU, zU, zU, zU, zU] [] sh pp mm (fun v sh pp mm => zS 167 44 [zR a0, zU, zI a2, zI a3] (zPush v []) sh pp mm Q) := s_call cM_tell_41 cM_tell_44 ((if_pos hk).trans rfl) rfl
theorem rM_tell_44 {a0 : Nat} {a2 a3 : Int} {u1 : zV} : zS 167 44 [zR a0, u1, zI a2, zI a3] [] sh pp mm Q ↔ zS 167 45 [zR a0, zU, zI a2, zI a3] [zR a0] sh pp mm Q := s_go cM_tell_44 cM_tell_45 rfl rfl
theorem rM_tell_45 {a0 s0 : Nat} {a2 a3 : Int} {u1 : zV} : zS 167 45 [zR a0, u1, zI a2, zI a3] [zR s0] sh pp mm Q ↔ zS 167 46 [zR a0, zU, zI a2, zI a3] [zI 1, zR s0] sh pp mm Q := s_go cM_tell_45 cM_tell_46 rfl rfl
theorem rM_tell_46 {a0 s1 : Nat} {a2 a3 s0 : Int} {u1 : zV} : zS 167 46 [zR a0, u1, zI a2, zI a3] [zI s0, zR s1] sh pp mm Q ↔ zS 167 47 [zR a0, zU, zU, zI a3] [zI a2, zI s0, zR s1] sh pp mm Q := s_go cM_tell_46 cM_tell_47 rfl rfl
theorem rM_tell_47 {a0 s2 : Nat} {a3 s0 s1 : Int} {u1 u2 : zV} (hk : zKd sh s2 = 12) : zS 167 47 [zR a0, u1, u2, zI a3] [zI s0, zI s1, zR s2] sh pp mm Q ↔ zS 156 0 [zR s2, zI s1, zI s0, zU] [] sh pp mm (fun v sh pp mm => zS 167 50 [zR a0, zU, zU, zI a3] (zPush v []) sh pp mm Q) := s_call cM_tell_47 cM_tell_50 ((if_pos hk).trans rfl) rfl
theorem rM_tell_50 {a0 : Nat} {a3 : Int} {u1 u2 : zV} : zS 167 50 [zR a0, u1, u2, zI a3] [] sh pp mm Q ↔ zS 167 51 [zR a0, zU, zU, zI a3] [zR a0] sh pp mm Q := s_go cM_tell_50 cM_tell_51 rfl rfl
theorem rM_tell_51 {a0 s0 : Nat} {a3 : Int} {u1 u2 : zV} : zS 167 51 [zR a0, u1, u2, zI a3] [zR s0] sh pp mm Q ↔ zS 167 52 [zR a0, zU, zU, zI a3] [zI 1, zR s0] sh pp mm Q := s_go cM_tell_51 cM_tell_52 rfl rfl
theorem rM_tell_52 {a0 s1 : Nat} {a3 s0 : Int} {u1 u2 : zV} (hk : zKd sh s1 = 12) : zS 167 52 [zR a0, u1, u2, zI a3] [zI s0, zR s1] sh pp mm Q ↔ zS 165 0 [zR s1, zI s0, zU, zU, zU, zU, zU] [] sh pp mm (fun v sh pp mm => zS 167 55 [zR a0, zU, zU, zI a3] (zPush v []) sh pp mm Q) := s_call cM_tell_52 cM_tell_55 ((if_pos hk).trans rfl) rfl
theorem rM_tell_55 {a0 : Nat} {a3 : Int} {u1 u2 : zV} : zS 167 55 [zR a0, u1, u2, zI a3] [] sh pp mm Q ↔ zS 167 56 [zU, zU, zU, zI a3] [zR a0] sh pp mm Q := s_go cM_tell_55 cM_tell_56 rfl rfl
theorem rM_tell_56 {s0 : Nat} {a3 : Int} {u0 u1 u2 : zV} : zS 167 56 [u0, u1, u2, zI a3] [zR s0] sh pp mm Q ↔ zS 167 57 [zU, zU, zU, zU] [zI a3, zR s0] sh pp mm Q := s_go cM_tell_56 cM_tell_57 rfl rfl
theorem rM_tell_57 {s1 : Nat} {s0 : Int} {u0 u1 u2 u3 : zV} : zS 167 57 [u0, u1, u2, u3] [zI s0, zR s1] sh pp mm Q ↔ (s0 = 0 → zS 167 64 [zU, zU, zU, zU] [zR s1] sh pp mm Q) ∧ (¬ s0 = 0 → zS 167 60 [zU, zU, zU, zU] [zR s1] sh pp mm Q) := s_if cM_tell_57 cM_tell_64 cM_tell_60 rfl rfl rfl
theorem rM_tell_60 {s0 : Nat} {u0 u1 u2 u3 : zV} : zS 167 60 [u0, u1, u2, u3] [zR s0] sh pp mm Q ↔ zS 167 61 [zU, zU, zU, zU] [zI (-1), zR s0] sh pp mm Q := s_go cM_tell_60 cM_tell_61 rfl rfl
theorem rM_tell_61 {s1 : Nat} {s0 : Int} {u0 u1 u2 u3 : zV} : zS 167 61 [u0, u1, u2, u3] [zI s0, zR s1] sh pp mm Q ↔ zS 167 65 [zU, zU, zU, zU] [zI s0, zR s1] sh pp mm Q := s_go cM_tell_61 cM_tell_65 rfl rfl
theorem rM_tell_64 {s0 : Nat} {u0 u1 u2 u3 : zV} : zS 167 64 [u0, u1, u2, u3] [zR s0] sh pp mm Q ↔ zS 167 65 [zU, zU, zU, zU] [zI 1, zR s0] sh pp mm Q := s_go cM_tell_64 cM_tell_65 rfl rfl
theorem rM_tell_65 {s1 : Nat} {s0 : Int} {u0 u1 u2 u3 : zV} (hk : zKd sh s1 = 12) : zS 167 65 [u0, u1, u2, u3] [zI s0, zR s1] sh pp mm Q ↔ zS 167 68 [zU, zU, zU, zU] [] sh pp (zupd mm s1 6 s0) Q := s_go cM_tell_65 cM_tell_68 (if_pos ⟨hk, Or.inl rfl⟩) rfl
theorem rM_tell_68 {u0 u1 u2 u3 : zV} : zS 167 68 [u0, u1, u2, u3] [] sh pp mm Q ↔ Q zU sh pp mm := s_ret cM_tell_68 rfl
theorem cAM_of : ∀ q ∈ zT168, zCode 168 q.1 = some q.2 := zAll (mid := 168) rfl (by decide +kernel)
theorem cAM_of_0 : ∀ q ∈ zT168_0, zCode 168 q.1 = some q.2 := fun q h => cAM_of q (h)
theorem cM_of_0 : zCode 168 0 = some (.aload_n 0, 1, 0, 0, 0, 0, 3) := cAM_of_0 _ (List.mem_of_getElem? (i := 0) rfl)
theorem cM_of_1 : zCode 168 1 = some (.getfield 7, 4, 12, 0, 2, 1209, 2) := cAM_of_0 _ (List.mem_of_getElem? (i := 1) rfl)
theorem cM_of_4 : zCode 168 4 = some (.iconst 0, 5, 0, 0, 0, 0, 2) := cAM_of_0 _ (List.mem_of_getElem? (i := 2) rfl)
theorem cM_of_5 : zCode 168 5 = some (.iload_n 1, 6, 0, 0, 0, 0, 2) := cAM_of_0 _ (List.mem_of_getElem? (i := 3) rfl)
theorem cM_of_6 : zCode 168 6 = some (.iadd, 7, 0, 0, 0, 0, 0) := cAM_of_0 _ (List.mem_of_getElem? (i := 4) rfl)
theorem cM_of_7 : zCode 168 7 = some (.iaload, 8, 0, 0, 0, 0, 0) := cAM_of_0 _ (List.mem_of_getElem? (i := 5) rfl)
theorem cM_of_8 : zCode 168 8 = some (.ireturn, 9, 0, 0, 0, 0, 0) := cAM_of_0 _ (List.mem_of_getElem? (i := 6) rfl)
theorem rM_of_0 {a0 : Nat} {a1 : Int} : zS 168 0 [zR a0, zI a1] [] sh pp mm Q ↔ zS 168 1 [zU, zI a1] [zR a0] sh pp mm Q := s_go cM_of_0 cM_of_1 rfl rfl
theorem rM_of_1 {s0 : Nat} {a1 : Int} {u0 : zV} (hk : zKd sh s0 = 12) : zS 168 1 [u0, zI a1] [zR s0] sh pp mm Q ↔ zS 168 4 [zU, zI a1] [zR (pp s0 0)] sh pp mm Q := s_go cM_of_1 cM_of_4 (if_pos hk) rfl
theorem rM_of_4 {s0 : Nat} {a1 : Int} {u0 : zV} : zS 168 4 [u0, zI a1] [zR s0] sh pp mm Q ↔ zS 168 5 [zU, zI a1] [zI 0, zR s0] sh pp mm Q := s_go cM_of_4 cM_of_5 rfl rfl
theorem rM_of_5 {s1 : Nat} {a1 s0 : Int} {u0 : zV} : zS 168 5 [u0, zI a1] [zI s0, zR s1] sh pp mm Q ↔ zS 168 6 [zU, zU] [zI a1, zI s0, zR s1] sh pp mm Q := s_go cM_of_5 cM_of_6 rfl rfl
theorem rM_of_6 {s2 : Nat} {s0 s1 : Int} {u0 u1 : zV} : zS 168 6 [u0, u1] [zI s0, zI s1, zR s2] sh pp mm Q ↔ zS 168 7 [zU, zU] [zI (zw32 (s1 + s0)), zR s2] sh pp mm Q := s_go cM_of_6 cM_of_7 rfl rfl
theorem rM_of_7 {s1 : Nat} {s0 : Int} {u0 u1 : zV} (hk : zKd sh s1 = 20 ∨ zKd sh s1 = 30) (h0 : 0 ≤ s0) (h1 : s0 < zLn sh s1) : zS 168 7 [u0, u1] [zI s0, zR s1] sh pp mm Q ↔ zS 168 8 [zU, zU] [zI (mm s1 s0)] sh pp mm Q := s_go cM_of_7 cM_of_8 (if_pos ⟨hk, h0, h1⟩) rfl
theorem rM_of_8 {s0 : Int} {u0 u1 : zV} : zS 168 8 [u0, u1] [zI s0] sh pp mm Q ↔ Q (zI s0) sh pp mm := s_ret cM_of_8 rfl
theorem cAM_many : ∀ q ∈ zT169, zCode 169 q.1 = some q.2 := zAll (mid := 169) rfl (by decide +kernel)
theorem cAM_many_0 : ∀ q ∈ zT169_0, zCode 169 q.1 = some q.2 := fun q h => cAM_many q (h)
theorem cM_many_0 : zCode 169 0 = some (.aload_n 0, 1, 0, 0, 0, 0, 3) := cAM_many_0 _ (List.mem_of_getElem? (i := 0) rfl)
theorem cM_many_1 : zCode 169 1 = some (.getfield 7, 4, 12, 0, 2, 1209, 2) := cAM_many_0 _ (List.mem_of_getElem? (i := 1) rfl)
theorem cM_many_4 : zCode 169 4 = some (.sipush 981, 7, 0, 0, 0, 0, 2) := cAM_many_0 _ (List.mem_of_getElem? (i := 2) rfl)
theorem cM_many_7 : zCode 169 7 = some (.iload_n 1, 8, 0, 0, 0, 0, 2) := cAM_many_0 _ (List.mem_of_getElem? (i := 3) rfl)
theorem cM_many_8 : zCode 169 8 = some (.iadd, 9, 0, 0, 0, 0, 0) := cAM_many_0 _ (List.mem_of_getElem? (i := 4) rfl)
theorem cM_many_9 : zCode 169 9 = some (.iaload, 10, 0, 0, 0, 0, 0) := cAM_many_0 _ (List.mem_of_getElem? (i := 5) rfl)
theorem cM_many_10 : zCode 169 10 = some (.ireturn, 11, 0, 0, 0, 0, 0) := cAM_many_0 _ (List.mem_of_getElem? (i := 6) rfl)
theorem rM_many_0 {a0 : Nat} {a1 : Int} : zS 169 0 [zR a0, zI a1] [] sh pp mm Q ↔ zS 169 1 [zU, zI a1] [zR a0] sh pp mm Q := s_go cM_many_0 cM_many_1 rfl rfl
theorem rM_many_1 {s0 : Nat} {a1 : Int} {u0 : zV} (hk : zKd sh s0 = 12) : zS 169 1 [u0, zI a1] [zR s0] sh pp mm Q ↔ zS 169 4 [zU, zI a1] [zR (pp s0 0)] sh pp mm Q := s_go cM_many_1 cM_many_4 (if_pos hk) rfl
theorem rM_many_4 {s0 : Nat} {a1 : Int} {u0 : zV} : zS 169 4 [u0, zI a1] [zR s0] sh pp mm Q ↔ zS 169 7 [zU, zI a1] [zI 981, zR s0] sh pp mm Q := s_go cM_many_4 cM_many_7 rfl rfl
theorem rM_many_7 {s1 : Nat} {a1 s0 : Int} {u0 : zV} : zS 169 7 [u0, zI a1] [zI s0, zR s1] sh pp mm Q ↔ zS 169 8 [zU, zU] [zI a1, zI s0, zR s1] sh pp mm Q := s_go cM_many_7 cM_many_8 rfl rfl
theorem rM_many_8 {s2 : Nat} {s0 s1 : Int} {u0 u1 : zV} : zS 169 8 [u0, u1] [zI s0, zI s1, zR s2] sh pp mm Q ↔ zS 169 9 [zU, zU] [zI (zw32 (s1 + s0)), zR s2] sh pp mm Q := s_go cM_many_8 cM_many_9 rfl rfl
theorem rM_many_9 {s1 : Nat} {s0 : Int} {u0 u1 : zV} (hk : zKd sh s1 = 20 ∨ zKd sh s1 = 30) (h0 : 0 ≤ s0) (h1 : s0 < zLn sh s1) : zS 169 9 [u0, u1] [zI s0, zR s1] sh pp mm Q ↔ zS 169 10 [zU, zU] [zI (mm s1 s0)] sh pp mm Q := s_go cM_many_9 cM_many_10 (if_pos ⟨hk, h0, h1⟩) rfl
theorem rM_many_10 {s0 : Int} {u0 u1 : zV} : zS 169 10 [u0, u1] [zI s0] sh pp mm Q ↔ Q (zI s0) sh pp mm := s_ret cM_many_10 rfl
theorem cAM_leastOf : ∀ q ∈ zT170, zCode 170 q.1 = some q.2 := zAll (mid := 170) rfl (by decide +kernel)
theorem cAM_leastOf_0 : ∀ q ∈ zT170_0, zCode 170 q.1 = some q.2 := fun q h => cAM_leastOf q (h)
theorem cM_leastOf_0 : zCode 170 0 = some (.iload_n 0, 1, 0, 0, 0, 0, 1) := cAM_leastOf_0 _ (List.mem_of_getElem? (i := 0) rfl)
theorem cM_leastOf_1 : zCode 170 1 = some (.iconst 4, 2, 0, 0, 0, 0, 1) := cAM_leastOf_0 _ (List.mem_of_getElem? (i := 1) rfl)
theorem cM_leastOf_2 : zCode 170 2 = some (.if_icmp .eq 14, 5, 16, 0, 0, 0, 1) := cAM_leastOf_0 _ (List.mem_of_getElem? (i := 2) rfl)
theorem cM_leastOf_5 : zCode 170 5 = some (.iload_n 0, 6, 0, 0, 0, 0, 1) := cAM_leastOf_0 _ (List.mem_of_getElem? (i := 3) rfl)
theorem cM_leastOf_6 : zCode 170 6 = some (.iconst 5, 7, 0, 0, 0, 0, 1) := cAM_leastOf_0 _ (List.mem_of_getElem? (i := 4) rfl)
theorem cM_leastOf_7 : zCode 170 7 = some (.if_icmp .eq 9, 10, 16, 0, 0, 0, 1) := cAM_leastOf_0 _ (List.mem_of_getElem? (i := 5) rfl)
theorem cM_leastOf_10 : zCode 170 10 = some (.iload_n 0, 11, 0, 0, 0, 0, 1) := cAM_leastOf_0 _ (List.mem_of_getElem? (i := 6) rfl)
theorem cM_leastOf_11 : zCode 170 11 = some (.bipush 8, 13, 0, 0, 0, 0, 0) := cAM_leastOf_0 _ (List.mem_of_getElem? (i := 7) rfl)
theorem cM_leastOf_13 : zCode 170 13 = some (.if_icmp .ne 7, 16, 20, 0, 0, 0, 0) := cAM_leastOf_0 _ (List.mem_of_getElem? (i := 8) rfl)
theorem cM_leastOf_16 : zCode 170 16 = some (.iconst 1, 17, 0, 0, 0, 0, 0) := cAM_leastOf_0 _ (List.mem_of_getElem? (i := 9) rfl)
theorem cM_leastOf_17 : zCode 170 17 = some (.goto 4, 20, 21, 0, 0, 0, 0) := cAM_leastOf_0 _ (List.mem_of_getElem? (i := 10) rfl)
theorem cM_leastOf_20 : zCode 170 20 = some (.iconst 0, 21, 0, 0, 0, 0, 0) := cAM_leastOf_0 _ (List.mem_of_getElem? (i := 11) rfl)
theorem cM_leastOf_21 : zCode 170 21 = some (.ireturn, 22, 0, 0, 0, 0, 0) := cAM_leastOf_0 _ (List.mem_of_getElem? (i := 12) rfl)
theorem rM_leastOf_0 {a0 : Int} : zS 170 0 [zI a0] [] sh pp mm Q ↔ zS 170 1 [zI a0] [zI a0] sh pp mm Q := s_go cM_leastOf_0 cM_leastOf_1 rfl rfl
theorem rM_leastOf_1 {a0 s0 : Int} : zS 170 1 [zI a0] [zI s0] sh pp mm Q ↔ zS 170 2 [zI a0] [zI 4, zI s0] sh pp mm Q := s_go cM_leastOf_1 cM_leastOf_2 rfl rfl
theorem rM_leastOf_2 {a0 s0 s1 : Int} : zS 170 2 [zI a0] [zI s0, zI s1] sh pp mm Q ↔ (s1 = s0 → zS 170 16 [zU] [] sh pp mm Q) ∧ (¬ s1 = s0 → zS 170 5 [zI a0] [] sh pp mm Q) := s_if cM_leastOf_2 cM_leastOf_16 cM_leastOf_5 rfl rfl rfl
theorem rM_leastOf_5 {a0 : Int} : zS 170 5 [zI a0] [] sh pp mm Q ↔ zS 170 6 [zI a0] [zI a0] sh pp mm Q := s_go cM_leastOf_5 cM_leastOf_6 rfl rfl
theorem rM_leastOf_6 {a0 s0 : Int} : zS 170 6 [zI a0] [zI s0] sh pp mm Q ↔ zS 170 7 [zI a0] [zI 5, zI s0] sh pp mm Q := s_go cM_leastOf_6 cM_leastOf_7 rfl rfl
theorem rM_leastOf_7 {a0 s0 s1 : Int} : zS 170 7 [zI a0] [zI s0, zI s1] sh pp mm Q ↔ (s1 = s0 → zS 170 16 [zU] [] sh pp mm Q) ∧ (¬ s1 = s0 → zS 170 10 [zI a0] [] sh pp mm Q) := s_if cM_leastOf_7 cM_leastOf_16 cM_leastOf_10 rfl rfl rfl
theorem rM_leastOf_10 {a0 : Int} : zS 170 10 [zI a0] [] sh pp mm Q ↔ zS 170 11 [zU] [zI a0] sh pp mm Q := s_go cM_leastOf_10 cM_leastOf_11 rfl rfl
theorem rM_leastOf_11 {s0 : Int} {u0 : zV} : zS 170 11 [u0] [zI s0] sh pp mm Q ↔ zS 170 13 [zU] [zI 8, zI s0] sh pp mm Q := s_go cM_leastOf_11 cM_leastOf_13 rfl rfl
theorem rM_leastOf_13 {s0 s1 : Int} {u0 : zV} : zS 170 13 [u0] [zI s0, zI s1] sh pp mm Q ↔ (s1 = s0 → zS 170 16 [zU] [] sh pp mm Q) ∧ (¬ s1 = s0 → zS 170 20 [zU] [] sh pp mm Q) := s_ifn cM_leastOf_13 cM_leastOf_16 cM_leastOf_20 rfl rfl rfl
theorem rM_leastOf_16 {u0 : zV} : zS 170 16 [u0] [] sh pp mm Q ↔ zS 170 17 [zU] [zI 1] sh pp mm Q := s_go cM_leastOf_16 cM_leastOf_17 rfl rfl
theorem rM_leastOf_17 {s0 : Int} {u0 : zV} : zS 170 17 [u0] [zI s0] sh pp mm Q ↔ zS 170 21 [zU] [zI s0] sh pp mm Q := s_go cM_leastOf_17 cM_leastOf_21 rfl rfl
theorem rM_leastOf_20 {u0 : zV} : zS 170 20 [u0] [] sh pp mm Q ↔ zS 170 21 [zU] [zI 0] sh pp mm Q := s_go cM_leastOf_20 cM_leastOf_21 rfl rfl
theorem rM_leastOf_21 {s0 : Int} {u0 : zV} : zS 170 21 [u0] [zI s0] sh pp mm Q ↔ Q (zI s0) sh pp mm := s_ret cM_leastOf_21 rfl
theorem cAM_mostOf : ∀ q ∈ zT171, zCode 171 q.1 = some q.2 := zAll (mid := 171) rfl (by decide +kernel)
theorem cAM_mostOf_0 : ∀ q ∈ zT171_0, zCode 171 q.1 = some q.2 := fun q h => cAM_mostOf q (List.mem_append_left _ h)
theorem cAM_mostOf_1 : ∀ q ∈ zT171_1, zCode 171 q.1 = some q.2 := fun q h => cAM_mostOf q (List.mem_append_right _ h)
theorem cM_mostOf_0 : zCode 171 0 = some (.iload_n 0, 1, 0, 0, 0, 0, 1) := cAM_mostOf_0 _ (List.mem_of_getElem? (i := 0) rfl)
theorem cM_mostOf_1 : zCode 171 1 = some (.iconst 2, 2, 0, 0, 0, 0, 1) := cAM_mostOf_0 _ (List.mem_of_getElem? (i := 1) rfl)
theorem cM_mostOf_2 : zCode 171 2 = some (.if_icmp .ne 8, 5, 10, 0, 0, 0, 1) := cAM_mostOf_0 _ (List.mem_of_getElem? (i := 2) rfl)
theorem cM_mostOf_5 : zCode 171 5 = some (.bipush 23, 7, 0, 0, 0, 0, 0) := cAM_mostOf_0 _ (List.mem_of_getElem? (i := 3) rfl)
theorem cM_mostOf_7 : zCode 171 7 = some (.goto 26, 10, 33, 0, 0, 0, 0) := cAM_mostOf_0 _ (List.mem_of_getElem? (i := 4) rfl)
theorem cM_mostOf_10 : zCode 171 10 = some (.iload_n 0, 11, 0, 0, 0, 0, 1) := cAM_mostOf_0 _ (List.mem_of_getElem? (i := 5) rfl)
theorem cM_mostOf_11 : zCode 171 11 = some (.iconst 3, 12, 0, 0, 0, 0, 1) := cAM_mostOf_0 _ (List.mem_of_getElem? (i := 6) rfl)
theorem cM_mostOf_12 : zCode 171 12 = some (.if_icmp .ne 8, 15, 20, 0, 0, 0, 1) := cAM_mostOf_0 _ (List.mem_of_getElem? (i := 7) rfl)
theorem cM_mostOf_15 : zCode 171 15 = some (.bipush 15, 17, 0, 0, 0, 0, 0) := cAM_mostOf_0 _ (List.mem_of_getElem? (i := 8) rfl)
theorem cM_mostOf_17 : zCode 171 17 = some (.goto 16, 20, 33, 0, 0, 0, 0) := cAM_mostOf_0 _ (List.mem_of_getElem? (i := 9) rfl)
theorem cM_mostOf_20 : zCode 171 20 = some (.iload_n 0, 21, 0, 0, 0, 0, 1) := cAM_mostOf_0 _ (List.mem_of_getElem? (i := 10) rfl)
theorem cM_mostOf_21 : zCode 171 21 = some (.bipush 7, 23, 0, 0, 0, 0, 0) := cAM_mostOf_0 _ (List.mem_of_getElem? (i := 11) rfl)
theorem cM_mostOf_23 : zCode 171 23 = some (.if_icmp .ne 8, 26, 31, 0, 0, 0, 0) := cAM_mostOf_0 _ (List.mem_of_getElem? (i := 12) rfl)
theorem cM_mostOf_26 : zCode 171 26 = some (.bipush 10, 28, 0, 0, 0, 0, 0) := cAM_mostOf_0 _ (List.mem_of_getElem? (i := 13) rfl)
theorem cM_mostOf_28 : zCode 171 28 = some (.goto 5, 31, 33, 0, 0, 0, 0) := cAM_mostOf_0 _ (List.mem_of_getElem? (i := 14) rfl)
theorem cM_mostOf_31 : zCode 171 31 = some (.bipush 9, 33, 0, 0, 0, 0, 0) := cAM_mostOf_0 _ (List.mem_of_getElem? (i := 15) rfl)
theorem cM_mostOf_33 : zCode 171 33 = some (.ireturn, 34, 0, 0, 0, 0, 0) := cAM_mostOf_1 _ (List.mem_of_getElem? (i := 0) rfl)
theorem rM_mostOf_0 {a0 : Int} : zS 171 0 [zI a0] [] sh pp mm Q ↔ zS 171 1 [zI a0] [zI a0] sh pp mm Q := s_go cM_mostOf_0 cM_mostOf_1 rfl rfl
theorem rM_mostOf_1 {a0 s0 : Int} : zS 171 1 [zI a0] [zI s0] sh pp mm Q ↔ zS 171 2 [zI a0] [zI 2, zI s0] sh pp mm Q := s_go cM_mostOf_1 cM_mostOf_2 rfl rfl
theorem rM_mostOf_2 {a0 s0 s1 : Int} : zS 171 2 [zI a0] [zI s0, zI s1] sh pp mm Q ↔ (s1 = s0 → zS 171 5 [zU] [] sh pp mm Q) ∧ (¬ s1 = s0 → zS 171 10 [zI a0] [] sh pp mm Q) := s_ifn cM_mostOf_2 cM_mostOf_5 cM_mostOf_10 rfl rfl rfl
theorem rM_mostOf_5 {u0 : zV} : zS 171 5 [u0] [] sh pp mm Q ↔ zS 171 7 [zU] [zI 23] sh pp mm Q := s_go cM_mostOf_5 cM_mostOf_7 rfl rfl
theorem rM_mostOf_7 {s0 : Int} {u0 : zV} : zS 171 7 [u0] [zI s0] sh pp mm Q ↔ zS 171 33 [zU] [zI s0] sh pp mm Q := s_go cM_mostOf_7 cM_mostOf_33 rfl rfl
theorem rM_mostOf_10 {a0 : Int} : zS 171 10 [zI a0] [] sh pp mm Q ↔ zS 171 11 [zI a0] [zI a0] sh pp mm Q := s_go cM_mostOf_10 cM_mostOf_11 rfl rfl
theorem rM_mostOf_11 {a0 s0 : Int} : zS 171 11 [zI a0] [zI s0] sh pp mm Q ↔ zS 171 12 [zI a0] [zI 3, zI s0] sh pp mm Q := s_go cM_mostOf_11 cM_mostOf_12 rfl rfl
theorem rM_mostOf_12 {a0 s0 s1 : Int} : zS 171 12 [zI a0] [zI s0, zI s1] sh pp mm Q ↔ (s1 = s0 → zS 171 15 [zU] [] sh pp mm Q) ∧ (¬ s1 = s0 → zS 171 20 [zI a0] [] sh pp mm Q) := s_ifn cM_mostOf_12 cM_mostOf_15 cM_mostOf_20 rfl rfl rfl
theorem rM_mostOf_15 {u0 : zV} : zS 171 15 [u0] [] sh pp mm Q ↔ zS 171 17 [zU] [zI 15] sh pp mm Q := s_go cM_mostOf_15 cM_mostOf_17 rfl rfl
theorem rM_mostOf_17 {s0 : Int} {u0 : zV} : zS 171 17 [u0] [zI s0] sh pp mm Q ↔ zS 171 33 [zU] [zI s0] sh pp mm Q := s_go cM_mostOf_17 cM_mostOf_33 rfl rfl
theorem rM_mostOf_20 {a0 : Int} : zS 171 20 [zI a0] [] sh pp mm Q ↔ zS 171 21 [zU] [zI a0] sh pp mm Q := s_go cM_mostOf_20 cM_mostOf_21 rfl rfl
theorem rM_mostOf_21 {s0 : Int} {u0 : zV} : zS 171 21 [u0] [zI s0] sh pp mm Q ↔ zS 171 23 [zU] [zI 7, zI s0] sh pp mm Q := s_go cM_mostOf_21 cM_mostOf_23 rfl rfl
theorem rM_mostOf_23 {s0 s1 : Int} {u0 : zV} : zS 171 23 [u0] [zI s0, zI s1] sh pp mm Q ↔ (s1 = s0 → zS 171 26 [zU] [] sh pp mm Q) ∧ (¬ s1 = s0 → zS 171 31 [zU] [] sh pp mm Q) := s_ifn cM_mostOf_23 cM_mostOf_26 cM_mostOf_31 rfl rfl rfl
theorem rM_mostOf_26 {u0 : zV} : zS 171 26 [u0] [] sh pp mm Q ↔ zS 171 28 [zU] [zI 10] sh pp mm Q := s_go cM_mostOf_26 cM_mostOf_28 rfl rfl
theorem rM_mostOf_28 {s0 : Int} {u0 : zV} : zS 171 28 [u0] [zI s0] sh pp mm Q ↔ zS 171 33 [zU] [zI s0] sh pp mm Q := s_go cM_mostOf_28 cM_mostOf_33 rfl rfl
theorem rM_mostOf_31 {u0 : zV} : zS 171 31 [u0] [] sh pp mm Q ↔ zS 171 33 [zU] [zI 9] sh pp mm Q := s_go cM_mostOf_31 cM_mostOf_33 rfl rfl
theorem rM_mostOf_33 {s0 : Int} {u0 : zV} : zS 171 33 [u0] [zI s0] sh pp mm Q ↔ Q (zI s0) sh pp mm := s_ret cM_mostOf_33 rfl
theorem cAM_put : ∀ q ∈ zT172, zCode 172 q.1 = some q.2 := zAll (mid := 172) rfl (by decide +kernel)
theorem cAM_put_0 : ∀ q ∈ zT172_0, zCode 172 q.1 = some q.2 := fun q h => cAM_put q (List.mem_append_left _ h)
theorem cAM_put_1 : ∀ q ∈ zT172_1, zCode 172 q.1 = some q.2 := fun q h => cAM_put q (List.mem_append_right _ (List.mem_append_left _ h))
theorem cAM_put_2 : ∀ q ∈ zT172_2, zCode 172 q.1 = some q.2 := fun q h => cAM_put q (List.mem_append_right _ (List.mem_append_right _ h))
theorem cM_put_0 : zCode 172 0 = some (.iload_n 1, 1, 0, 0, 0, 0, 7) := cAM_put_0 _ (List.mem_of_getElem? (i := 0) rfl)
theorem cM_put_1 : zCode 172 1 = some (.i2l, 2, 0, 0, 0, 0, 7) := cAM_put_0 _ (List.mem_of_getElem? (i := 1) rfl)
theorem cM_put_2 : zCode 172 2 = some (.lconst 0, 3, 0, 0, 0, 0, 7) := cAM_put_0 _ (List.mem_of_getElem? (i := 2) rfl)
theorem cM_put_3 : zCode 172 3 = some (.ldc2_w 119, 6, 0, 0, 1323, 8, 7) := cAM_put_0 _ (List.mem_of_getElem? (i := 3) rfl)
theorem cM_put_6 : zCode 172 6 = some (.invokestatic 121, 9, 151, 3, 6, 12, 7) := cAM_put_0 _ (List.mem_of_getElem? (i := 4) rfl)
theorem cM_put_9 : zCode 172 9 = some (.ifCond .eq 21, 12, 30, 0, 0, 0, 7) := cAM_put_0 _ (List.mem_of_getElem? (i := 5) rfl)
theorem cM_put_12 : zCode 172 12 = some (.iload_n 2, 13, 0, 0, 0, 0, 7) := cAM_put_0 _ (List.mem_of_getElem? (i := 6) rfl)
theorem cM_put_13 : zCode 172 13 = some (.i2l, 14, 0, 0, 0, 0, 7) := cAM_put_0 _ (List.mem_of_getElem? (i := 7) rfl)
theorem cM_put_14 : zCode 172 14 = some (.iload_n 1, 15, 0, 0, 0, 0, 7) := cAM_put_0 _ (List.mem_of_getElem? (i := 8) rfl)
theorem cM_put_15 : zCode 172 15 = some (.invokestatic 125, 18, 170, 1, 1, 12, 7) := cAM_put_0 _ (List.mem_of_getElem? (i := 9) rfl)
theorem cM_put_18 : zCode 172 18 = some (.i2l, 19, 0, 0, 0, 0, 7) := cAM_put_0 _ (List.mem_of_getElem? (i := 10) rfl)
theorem cM_put_19 : zCode 172 19 = some (.iload_n 1, 20, 0, 0, 0, 0, 7) := cAM_put_0 _ (List.mem_of_getElem? (i := 11) rfl)
theorem cM_put_20 : zCode 172 20 = some (.invokestatic 129, 23, 171, 1, 1, 12, 7) := cAM_put_0 _ (List.mem_of_getElem? (i := 12) rfl)
theorem cM_put_23 : zCode 172 23 = some (.i2l, 24, 0, 0, 0, 0, 7) := cAM_put_0 _ (List.mem_of_getElem? (i := 13) rfl)
theorem cM_put_24 : zCode 172 24 = some (.invokestatic 121, 27, 151, 3, 6, 12, 7) := cAM_put_0 _ (List.mem_of_getElem? (i := 14) rfl)
theorem cM_put_27 : zCode 172 27 = some (.ifCond .ne 10, 30, 37, 0, 0, 0, 7) := cAM_put_0 _ (List.mem_of_getElem? (i := 15) rfl)
theorem cM_put_30 : zCode 172 30 = some (.aload_n 0, 31, 0, 0, 0, 0, 1) := cAM_put_1 _ (List.mem_of_getElem? (i := 0) rfl)
theorem cM_put_31 : zCode 172 31 = some (.bipush (-2), 33, 0, 0, 0, 0, 0) := cAM_put_1 _ (List.mem_of_getElem? (i := 1) rfl)
theorem cM_put_33 : zCode 172 33 = some (.invokevirtual 132, 36, 152, 1, 2, 12, 0) := cAM_put_1 _ (List.mem_of_getElem? (i := 2) rfl)
theorem cM_put_36 : zCode 172 36 = some (.ireturn, 37, 0, 0, 0, 0, 0) := cAM_put_1 _ (List.mem_of_getElem? (i := 3) rfl)
theorem cM_put_37 : zCode 172 37 = some (.aload_n 0, 38, 0, 0, 0, 0, 7) := cAM_put_1 _ (List.mem_of_getElem? (i := 4) rfl)
theorem cM_put_38 : zCode 172 38 = some (.iload_n 1, 39, 0, 0, 0, 0, 7) := cAM_put_1 _ (List.mem_of_getElem? (i := 5) rfl)
theorem cM_put_39 : zCode 172 39 = some (.invokevirtual 135, 42, 168, 1, 2, 12, 7) := cAM_put_1 _ (List.mem_of_getElem? (i := 6) rfl)
theorem cM_put_42 : zCode 172 42 = some (.istore_n 3, 43, 0, 0, 0, 0, 7) := cAM_put_1 _ (List.mem_of_getElem? (i := 7) rfl)
theorem cM_put_43 : zCode 172 43 = some (.aload_n 0, 44, 0, 0, 0, 0, 15) := cAM_put_1 _ (List.mem_of_getElem? (i := 8) rfl)
theorem cM_put_44 : zCode 172 44 = some (.getfield 7, 47, 12, 0, 2, 1209, 14) := cAM_put_1 _ (List.mem_of_getElem? (i := 9) rfl)
theorem cM_put_47 : zCode 172 47 = some (.iconst 0, 48, 0, 0, 0, 0, 14) := cAM_put_1 _ (List.mem_of_getElem? (i := 10) rfl)
theorem cM_put_48 : zCode 172 48 = some (.iload_n 1, 49, 0, 0, 0, 0, 14) := cAM_put_1 _ (List.mem_of_getElem? (i := 11) rfl)
theorem cM_put_49 : zCode 172 49 = some (.iadd, 50, 0, 0, 0, 0, 12) := cAM_put_1 _ (List.mem_of_getElem? (i := 12) rfl)
theorem cM_put_50 : zCode 172 50 = some (.iload_n 2, 51, 0, 0, 0, 0, 12) := cAM_put_1 _ (List.mem_of_getElem? (i := 13) rfl)
theorem cM_put_51 : zCode 172 51 = some (.iastore, 52, 0, 0, 0, 0, 8) := cAM_put_1 _ (List.mem_of_getElem? (i := 14) rfl)
theorem cM_put_52 : zCode 172 52 = some (.iload_n 3, 53, 0, 0, 0, 0, 8) := cAM_put_1 _ (List.mem_of_getElem? (i := 15) rfl)
theorem cM_put_53 : zCode 172 53 = some (.ireturn, 54, 0, 0, 0, 0, 0) := cAM_put_2 _ (List.mem_of_getElem? (i := 0) rfl)
theorem rM_put_0 {a0 : Nat} {a1 a2 : Int} {u3 : zV} : zS 172 0 [zR a0, zI a1, zI a2, u3] [] sh pp mm Q ↔ zS 172 1 [zR a0, zI a1, zI a2, zU] [zI a1] sh pp mm Q := s_go cM_put_0 cM_put_1 rfl rfl
theorem rM_put_1 {a0 : Nat} {a1 a2 s0 : Int} {u3 : zV} : zS 172 1 [zR a0, zI a1, zI a2, u3] [zI s0] sh pp mm Q ↔ zS 172 2 [zR a0, zI a1, zI a2, zU] [zL s0] sh pp mm Q := s_go cM_put_1 cM_put_2 rfl rfl
theorem rM_put_2 {a0 : Nat} {a1 a2 s0 : Int} {u3 : zV} : zS 172 2 [zR a0, zI a1, zI a2, u3] [zL s0] sh pp mm Q ↔ zS 172 3 [zR a0, zI a1, zI a2, zU] [zL 0, zL s0] sh pp mm Q := s_go cM_put_2 cM_put_3 rfl rfl
theorem rM_put_3 {a0 : Nat} {a1 a2 s0 s1 : Int} {u3 : zV} : zS 172 3 [zR a0, zI a1, zI a2, u3] [zL s0, zL s1] sh pp mm Q ↔ zS 172 6 [zR a0, zI a1, zI a2, zU] [zL 8, zL s0, zL s1] sh pp mm Q := s_go cM_put_3 cM_put_6 rfl rfl
theorem rM_put_6 {a0 : Nat} {a1 a2 s0 s1 s2 : Int} {u3 : zV} : zS 172 6 [zR a0, zI a1, zI a2, u3] [zL s0, zL s1, zL s2] sh pp mm Q ↔ zS 151 0 [zL s2, zU, zL s1, zU, zL s0, zU] [] sh pp mm (fun v sh pp mm => zS 172 9 [zR a0, zI a1, zI a2, zU] (zPush v []) sh pp mm Q) := s_call cM_put_6 cM_put_9 rfl rfl
theorem rM_put_9 {a0 : Nat} {a1 a2 s0 : Int} {u3 : zV} : zS 172 9 [zR a0, zI a1, zI a2, u3] [zI s0] sh pp mm Q ↔ (s0 = 0 → zS 172 30 [zR a0, zU, zU, zU] [] sh pp mm Q) ∧ (¬ s0 = 0 → zS 172 12 [zR a0, zI a1, zI a2, zU] [] sh pp mm Q) := s_if cM_put_9 cM_put_30 cM_put_12 rfl rfl rfl
theorem rM_put_12 {a0 : Nat} {a1 a2 : Int} {u3 : zV} : zS 172 12 [zR a0, zI a1, zI a2, u3] [] sh pp mm Q ↔ zS 172 13 [zR a0, zI a1, zI a2, zU] [zI a2] sh pp mm Q := s_go cM_put_12 cM_put_13 rfl rfl
theorem rM_put_13 {a0 : Nat} {a1 a2 s0 : Int} {u3 : zV} : zS 172 13 [zR a0, zI a1, zI a2, u3] [zI s0] sh pp mm Q ↔ zS 172 14 [zR a0, zI a1, zI a2, zU] [zL s0] sh pp mm Q := s_go cM_put_13 cM_put_14 rfl rfl
theorem rM_put_14 {a0 : Nat} {a1 a2 s0 : Int} {u3 : zV} : zS 172 14 [zR a0, zI a1, zI a2, u3] [zL s0] sh pp mm Q ↔ zS 172 15 [zR a0, zI a1, zI a2, zU] [zI a1, zL s0] sh pp mm Q := s_go cM_put_14 cM_put_15 rfl rfl
theorem rM_put_15 {a0 : Nat} {a1 a2 s0 s1 : Int} {u3 : zV} : zS 172 15 [zR a0, zI a1, zI a2, u3] [zI s0, zL s1] sh pp mm Q ↔ zS 170 0 [zI s0] [] sh pp mm (fun v sh pp mm => zS 172 18 [zR a0, zI a1, zI a2, zU] (zPush v [zL s1]) sh pp mm Q) := s_call cM_put_15 cM_put_18 rfl rfl
theorem rM_put_18 {a0 : Nat} {a1 a2 s0 s1 : Int} {u3 : zV} : zS 172 18 [zR a0, zI a1, zI a2, u3] [zI s0, zL s1] sh pp mm Q ↔ zS 172 19 [zR a0, zI a1, zI a2, zU] [zL s0, zL s1] sh pp mm Q := s_go cM_put_18 cM_put_19 rfl rfl
theorem rM_put_19 {a0 : Nat} {a1 a2 s0 s1 : Int} {u3 : zV} : zS 172 19 [zR a0, zI a1, zI a2, u3] [zL s0, zL s1] sh pp mm Q ↔ zS 172 20 [zR a0, zI a1, zI a2, zU] [zI a1, zL s0, zL s1] sh pp mm Q := s_go cM_put_19 cM_put_20 rfl rfl
theorem rM_put_20 {a0 : Nat} {a1 a2 s0 s1 s2 : Int} {u3 : zV} : zS 172 20 [zR a0, zI a1, zI a2, u3] [zI s0, zL s1, zL s2] sh pp mm Q ↔ zS 171 0 [zI s0] [] sh pp mm (fun v sh pp mm => zS 172 23 [zR a0, zI a1, zI a2, zU] (zPush v [zL s1, zL s2]) sh pp mm Q) := s_call cM_put_20 cM_put_23 rfl rfl
theorem rM_put_23 {a0 : Nat} {a1 a2 s0 s1 s2 : Int} {u3 : zV} : zS 172 23 [zR a0, zI a1, zI a2, u3] [zI s0, zL s1, zL s2] sh pp mm Q ↔ zS 172 24 [zR a0, zI a1, zI a2, zU] [zL s0, zL s1, zL s2] sh pp mm Q := s_go cM_put_23 cM_put_24 rfl rfl
theorem rM_put_24 {a0 : Nat} {a1 a2 s0 s1 s2 : Int} {u3 : zV} : zS 172 24 [zR a0, zI a1, zI a2, u3] [zL s0, zL s1, zL s2] sh pp mm Q ↔ zS 151 0 [zL s2, zU, zL s1, zU, zL s0, zU] [] sh pp mm (fun v sh pp mm => zS 172 27 [zR a0, zI a1, zI a2, zU] (zPush v []) sh pp mm Q) := s_call cM_put_24 cM_put_27 rfl rfl
theorem rM_put_27 {a0 : Nat} {a1 a2 s0 : Int} {u3 : zV} : zS 172 27 [zR a0, zI a1, zI a2, u3] [zI s0] sh pp mm Q ↔ (s0 = 0 → zS 172 30 [zR a0, zU, zU, zU] [] sh pp mm Q) ∧ (¬ s0 = 0 → zS 172 37 [zR a0, zI a1, zI a2, zU] [] sh pp mm Q) := s_ifn cM_put_27 cM_put_30 cM_put_37 rfl rfl rfl
theorem rM_put_30 {a0 : Nat} {u1 u2 u3 : zV} : zS 172 30 [zR a0, u1, u2, u3] [] sh pp mm Q ↔ zS 172 31 [zU, zU, zU, zU] [zR a0] sh pp mm Q := s_go cM_put_30 cM_put_31 rfl rfl
theorem rM_put_31 {s0 : Nat} {u0 u1 u2 u3 : zV} : zS 172 31 [u0, u1, u2, u3] [zR s0] sh pp mm Q ↔ zS 172 33 [zU, zU, zU, zU] [zI (-2), zR s0] sh pp mm Q := s_go cM_put_31 cM_put_33 rfl rfl
theorem rM_put_33 {s1 : Nat} {s0 : Int} {u0 u1 u2 u3 : zV} (hk : zKd sh s1 = 12) : zS 172 33 [u0, u1, u2, u3] [zI s0, zR s1] sh pp mm Q ↔ zS 152 0 [zR s1, zI s0] [] sh pp mm (fun v sh pp mm => zS 172 36 [zU, zU, zU, zU] (zPush v []) sh pp mm Q) := s_call cM_put_33 cM_put_36 ((if_pos hk).trans rfl) rfl
theorem rM_put_36 {s0 : Int} {u0 u1 u2 u3 : zV} : zS 172 36 [u0, u1, u2, u3] [zI s0] sh pp mm Q ↔ Q (zI s0) sh pp mm := s_ret cM_put_36 rfl
theorem rM_put_37 {a0 : Nat} {a1 a2 : Int} {u3 : zV} : zS 172 37 [zR a0, zI a1, zI a2, u3] [] sh pp mm Q ↔ zS 172 38 [zR a0, zI a1, zI a2, zU] [zR a0] sh pp mm Q := s_go cM_put_37 cM_put_38 rfl rfl
theorem rM_put_38 {a0 s0 : Nat} {a1 a2 : Int} {u3 : zV} : zS 172 38 [zR a0, zI a1, zI a2, u3] [zR s0] sh pp mm Q ↔ zS 172 39 [zR a0, zI a1, zI a2, zU] [zI a1, zR s0] sh pp mm Q := s_go cM_put_38 cM_put_39 rfl rfl
theorem rM_put_39 {a0 s1 : Nat} {a1 a2 s0 : Int} {u3 : zV} (hk : zKd sh s1 = 12) : zS 172 39 [zR a0, zI a1, zI a2, u3] [zI s0, zR s1] sh pp mm Q ↔ zS 168 0 [zR s1, zI s0] [] sh pp mm (fun v sh pp mm => zS 172 42 [zR a0, zI a1, zI a2, zU] (zPush v []) sh pp mm Q) := s_call cM_put_39 cM_put_42 ((if_pos hk).trans rfl) rfl
theorem rM_put_42 {a0 : Nat} {a1 a2 s0 : Int} {u3 : zV} : zS 172 42 [zR a0, zI a1, zI a2, u3] [zI s0] sh pp mm Q ↔ zS 172 43 [zR a0, zI a1, zI a2, zI s0] [] sh pp mm Q := s_go cM_put_42 cM_put_43 rfl rfl
theorem rM_put_43 {a0 : Nat} {a1 a2 a3 : Int} : zS 172 43 [zR a0, zI a1, zI a2, zI a3] [] sh pp mm Q ↔ zS 172 44 [zU, zI a1, zI a2, zI a3] [zR a0] sh pp mm Q := s_go cM_put_43 cM_put_44 rfl rfl
theorem rM_put_44 {s0 : Nat} {a1 a2 a3 : Int} {u0 : zV} (hk : zKd sh s0 = 12) : zS 172 44 [u0, zI a1, zI a2, zI a3] [zR s0] sh pp mm Q ↔ zS 172 47 [zU, zI a1, zI a2, zI a3] [zR (pp s0 0)] sh pp mm Q := s_go cM_put_44 cM_put_47 (if_pos hk) rfl
theorem rM_put_47 {s0 : Nat} {a1 a2 a3 : Int} {u0 : zV} : zS 172 47 [u0, zI a1, zI a2, zI a3] [zR s0] sh pp mm Q ↔ zS 172 48 [zU, zI a1, zI a2, zI a3] [zI 0, zR s0] sh pp mm Q := s_go cM_put_47 cM_put_48 rfl rfl
theorem rM_put_48 {s1 : Nat} {a1 a2 a3 s0 : Int} {u0 : zV} : zS 172 48 [u0, zI a1, zI a2, zI a3] [zI s0, zR s1] sh pp mm Q ↔ zS 172 49 [zU, zU, zI a2, zI a3] [zI a1, zI s0, zR s1] sh pp mm Q := s_go cM_put_48 cM_put_49 rfl rfl
theorem rM_put_49 {s2 : Nat} {a2 a3 s0 s1 : Int} {u0 u1 : zV} : zS 172 49 [u0, u1, zI a2, zI a3] [zI s0, zI s1, zR s2] sh pp mm Q ↔ zS 172 50 [zU, zU, zI a2, zI a3] [zI (zw32 (s1 + s0)), zR s2] sh pp mm Q := s_go cM_put_49 cM_put_50 rfl rfl
theorem rM_put_50 {s1 : Nat} {a2 a3 s0 : Int} {u0 u1 : zV} : zS 172 50 [u0, u1, zI a2, zI a3] [zI s0, zR s1] sh pp mm Q ↔ zS 172 51 [zU, zU, zU, zI a3] [zI a2, zI s0, zR s1] sh pp mm Q := s_go cM_put_50 cM_put_51 rfl rfl
theorem rM_put_51 {s2 : Nat} {a3 s0 s1 : Int} {u0 u1 u2 : zV} (hk : zKd sh s2 = 20) (h0 : 0 ≤ s1) (h1 : s1 < zLn sh s2) : zS 172 51 [u0, u1, u2, zI a3] [zI s0, zI s1, zR s2] sh pp mm Q ↔ zS 172 52 [zU, zU, zU, zI a3] [] sh pp (zupd mm s2 s1 s0) Q := s_go cM_put_51 cM_put_52 (if_pos ⟨hk, h0, h1, fun h => absurd h (by decide)⟩) rfl
theorem rM_put_52 {a3 : Int} {u0 u1 u2 : zV} : zS 172 52 [u0, u1, u2, zI a3] [] sh pp mm Q ↔ zS 172 53 [zU, zU, zU, zU] [zI a3] sh pp mm Q := s_go cM_put_52 cM_put_53 rfl rfl
theorem rM_put_53 {s0 : Int} {u0 u1 u2 u3 : zV} : zS 172 53 [u0, u1, u2, u3] [zI s0] sh pp mm Q ↔ Q (zI s0) sh pp mm := s_ret cM_put_53 rfl
theorem cAM_isProgram : ∀ q ∈ zT173, zCode 173 q.1 = some q.2 := zAll (mid := 173) rfl (by decide +kernel)
theorem cAM_isProgram_0 : ∀ q ∈ zT173_0, zCode 173 q.1 = some q.2 := fun q h => cAM_isProgram q (h)
theorem cM_isProgram_0 : zCode 173 0 = some (.iload_n 0, 1, 0, 0, 0, 0, 1) := cAM_isProgram_0 _ (List.mem_of_getElem? (i := 0) rfl)
theorem cM_isProgram_1 : zCode 173 1 = some (.i2l, 2, 0, 0, 0, 0, 0) := cAM_isProgram_0 _ (List.mem_of_getElem? (i := 1) rfl)
theorem cM_isProgram_2 : zCode 173 2 = some (.lconst 0, 3, 0, 0, 0, 0, 0) := cAM_isProgram_0 _ (List.mem_of_getElem? (i := 2) rfl)
theorem cM_isProgram_3 : zCode 173 3 = some (.ldc2_w 138, 6, 0, 0, 1348, 3, 0) := cAM_isProgram_0 _ (List.mem_of_getElem? (i := 3) rfl)
theorem cM_isProgram_6 : zCode 173 6 = some (.invokestatic 121, 9, 151, 3, 6, 12, 0) := cAM_isProgram_0 _ (List.mem_of_getElem? (i := 4) rfl)
theorem cM_isProgram_9 : zCode 173 9 = some (.ireturn, 10, 0, 3, 0, 0, 0) := cAM_isProgram_0 _ (List.mem_of_getElem? (i := 5) rfl)
theorem rM_isProgram_0 {a0 : Int} : zS 173 0 [zI a0] [] sh pp mm Q ↔ zS 173 1 [zU] [zI a0] sh pp mm Q := s_go cM_isProgram_0 cM_isProgram_1 rfl rfl
theorem rM_isProgram_1 {s0 : Int} {u0 : zV} : zS 173 1 [u0] [zI s0] sh pp mm Q ↔ zS 173 2 [zU] [zL s0] sh pp mm Q := s_go cM_isProgram_1 cM_isProgram_2 rfl rfl
theorem rM_isProgram_2 {s0 : Int} {u0 : zV} : zS 173 2 [u0] [zL s0] sh pp mm Q ↔ zS 173 3 [zU] [zL 0, zL s0] sh pp mm Q := s_go cM_isProgram_2 cM_isProgram_3 rfl rfl
theorem rM_isProgram_3 {s0 s1 : Int} {u0 : zV} : zS 173 3 [u0] [zL s0, zL s1] sh pp mm Q ↔ zS 173 6 [zU] [zL 3, zL s0, zL s1] sh pp mm Q := s_go cM_isProgram_3 cM_isProgram_6 rfl rfl
theorem rM_isProgram_6 {s0 s1 s2 : Int} {u0 : zV} : zS 173 6 [u0] [zL s0, zL s1, zL s2] sh pp mm Q ↔ zS 151 0 [zL s2, zU, zL s1, zU, zL s0, zU] [] sh pp mm (fun v sh pp mm => zS 173 9 [zU] (zPush v []) sh pp mm Q) := s_call cM_isProgram_6 cM_isProgram_9 rfl rfl
theorem rM_isProgram_9 {s0 : Int} {u0 : zV} (hb : s0 = 0 ∨ s0 = 1) : zS 173 9 [u0] [zI s0] sh pp mm Q ↔ Q (zI s0) sh pp mm := s_ret cM_isProgram_9 (if_pos (decide_eq_true hb))
theorem cAM_isCell : ∀ q ∈ zT174, zCode 174 q.1 = some q.2 := zAll (mid := 174) rfl (by decide +kernel)
theorem cAM_isCell_0 : ∀ q ∈ zT174_0, zCode 174 q.1 = some q.2 := fun q h => cAM_isCell q (h)
theorem cM_isCell_0 : zCode 174 0 = some (.iload_n 0, 1, 0, 0, 0, 0, 3) := cAM_isCell_0 _ (List.mem_of_getElem? (i := 0) rfl)
theorem cM_isCell_1 : zCode 174 1 = some (.i2l, 2, 0, 0, 0, 0, 2) := cAM_isCell_0 _ (List.mem_of_getElem? (i := 1) rfl)
theorem cM_isCell_2 : zCode 174 2 = some (.lconst 0, 3, 0, 0, 0, 0, 2) := cAM_isCell_0 _ (List.mem_of_getElem? (i := 2) rfl)
theorem cM_isCell_3 : zCode 174 3 = some (.ldc2_w 140, 6, 0, 0, 1443, 23, 2) := cAM_isCell_0 _ (List.mem_of_getElem? (i := 3) rfl)
theorem cM_isCell_6 : zCode 174 6 = some (.invokestatic 121, 9, 151, 3, 6, 12, 2) := cAM_isCell_0 _ (List.mem_of_getElem? (i := 4) rfl)
theorem cM_isCell_9 : zCode 174 9 = some (.ifCond .eq 19, 12, 28, 0, 0, 0, 2) := cAM_isCell_0 _ (List.mem_of_getElem? (i := 5) rfl)
theorem cM_isCell_12 : zCode 174 12 = some (.iload_n 1, 13, 0, 0, 0, 0, 2) := cAM_isCell_0 _ (List.mem_of_getElem? (i := 6) rfl)
theorem cM_isCell_13 : zCode 174 13 = some (.i2l, 14, 0, 0, 0, 0, 0) := cAM_isCell_0 _ (List.mem_of_getElem? (i := 7) rfl)
theorem cM_isCell_14 : zCode 174 14 = some (.lconst 0, 15, 0, 0, 0, 0, 0) := cAM_isCell_0 _ (List.mem_of_getElem? (i := 8) rfl)
theorem cM_isCell_15 : zCode 174 15 = some (.ldc2_w 142, 18, 0, 0, 1444, 15, 0) := cAM_isCell_0 _ (List.mem_of_getElem? (i := 9) rfl)
theorem cM_isCell_18 : zCode 174 18 = some (.invokestatic 121, 21, 151, 3, 6, 12, 0) := cAM_isCell_0 _ (List.mem_of_getElem? (i := 10) rfl)
theorem cM_isCell_21 : zCode 174 21 = some (.ifCond .eq 7, 24, 28, 0, 0, 0, 0) := cAM_isCell_0 _ (List.mem_of_getElem? (i := 11) rfl)
theorem cM_isCell_24 : zCode 174 24 = some (.iconst 1, 25, 0, 0, 0, 0, 0) := cAM_isCell_0 _ (List.mem_of_getElem? (i := 12) rfl)
theorem cM_isCell_25 : zCode 174 25 = some (.goto 4, 28, 29, 0, 0, 0, 0) := cAM_isCell_0 _ (List.mem_of_getElem? (i := 13) rfl)
theorem cM_isCell_28 : zCode 174 28 = some (.iconst 0, 29, 0, 0, 0, 0, 0) := cAM_isCell_0 _ (List.mem_of_getElem? (i := 14) rfl)
theorem cM_isCell_29 : zCode 174 29 = some (.ireturn, 30, 0, 3, 0, 0, 0) := cAM_isCell_0 _ (List.mem_of_getElem? (i := 15) rfl)
theorem rM_isCell_0 {a0 a1 : Int} : zS 174 0 [zI a0, zI a1] [] sh pp mm Q ↔ zS 174 1 [zU, zI a1] [zI a0] sh pp mm Q := s_go cM_isCell_0 cM_isCell_1 rfl rfl
theorem rM_isCell_1 {a1 s0 : Int} {u0 : zV} : zS 174 1 [u0, zI a1] [zI s0] sh pp mm Q ↔ zS 174 2 [zU, zI a1] [zL s0] sh pp mm Q := s_go cM_isCell_1 cM_isCell_2 rfl rfl
theorem rM_isCell_2 {a1 s0 : Int} {u0 : zV} : zS 174 2 [u0, zI a1] [zL s0] sh pp mm Q ↔ zS 174 3 [zU, zI a1] [zL 0, zL s0] sh pp mm Q := s_go cM_isCell_2 cM_isCell_3 rfl rfl
theorem rM_isCell_3 {a1 s0 s1 : Int} {u0 : zV} : zS 174 3 [u0, zI a1] [zL s0, zL s1] sh pp mm Q ↔ zS 174 6 [zU, zI a1] [zL 23, zL s0, zL s1] sh pp mm Q := s_go cM_isCell_3 cM_isCell_6 rfl rfl
theorem rM_isCell_6 {a1 s0 s1 s2 : Int} {u0 : zV} : zS 174 6 [u0, zI a1] [zL s0, zL s1, zL s2] sh pp mm Q ↔ zS 151 0 [zL s2, zU, zL s1, zU, zL s0, zU] [] sh pp mm (fun v sh pp mm => zS 174 9 [zU, zI a1] (zPush v []) sh pp mm Q) := s_call cM_isCell_6 cM_isCell_9 rfl rfl
theorem rM_isCell_9 {a1 s0 : Int} {u0 : zV} : zS 174 9 [u0, zI a1] [zI s0] sh pp mm Q ↔ (s0 = 0 → zS 174 28 [zU, zU] [] sh pp mm Q) ∧ (¬ s0 = 0 → zS 174 12 [zU, zI a1] [] sh pp mm Q) := s_if cM_isCell_9 cM_isCell_28 cM_isCell_12 rfl rfl rfl
theorem rM_isCell_12 {a1 : Int} {u0 : zV} : zS 174 12 [u0, zI a1] [] sh pp mm Q ↔ zS 174 13 [zU, zU] [zI a1] sh pp mm Q := s_go cM_isCell_12 cM_isCell_13 rfl rfl
theorem rM_isCell_13 {s0 : Int} {u0 u1 : zV} : zS 174 13 [u0, u1] [zI s0] sh pp mm Q ↔ zS 174 14 [zU, zU] [zL s0] sh pp mm Q := s_go cM_isCell_13 cM_isCell_14 rfl rfl
theorem rM_isCell_14 {s0 : Int} {u0 u1 : zV} : zS 174 14 [u0, u1] [zL s0] sh pp mm Q ↔ zS 174 15 [zU, zU] [zL 0, zL s0] sh pp mm Q := s_go cM_isCell_14 cM_isCell_15 rfl rfl
theorem rM_isCell_15 {s0 s1 : Int} {u0 u1 : zV} : zS 174 15 [u0, u1] [zL s0, zL s1] sh pp mm Q ↔ zS 174 18 [zU, zU] [zL 15, zL s0, zL s1] sh pp mm Q := s_go cM_isCell_15 cM_isCell_18 rfl rfl
theorem rM_isCell_18 {s0 s1 s2 : Int} {u0 u1 : zV} : zS 174 18 [u0, u1] [zL s0, zL s1, zL s2] sh pp mm Q ↔ zS 151 0 [zL s2, zU, zL s1, zU, zL s0, zU] [] sh pp mm (fun v sh pp mm => zS 174 21 [zU, zU] (zPush v []) sh pp mm Q) := s_call cM_isCell_18 cM_isCell_21 rfl rfl
theorem rM_isCell_21 {s0 : Int} {u0 u1 : zV} : zS 174 21 [u0, u1] [zI s0] sh pp mm Q ↔ (s0 = 0 → zS 174 28 [zU, zU] [] sh pp mm Q) ∧ (¬ s0 = 0 → zS 174 24 [zU, zU] [] sh pp mm Q) := s_if cM_isCell_21 cM_isCell_28 cM_isCell_24 rfl rfl rfl
theorem rM_isCell_24 {u0 u1 : zV} : zS 174 24 [u0, u1] [] sh pp mm Q ↔ zS 174 25 [zU, zU] [zI 1] sh pp mm Q := s_go cM_isCell_24 cM_isCell_25 rfl rfl
theorem rM_isCell_25 {s0 : Int} {u0 u1 : zV} : zS 174 25 [u0, u1] [zI s0] sh pp mm Q ↔ zS 174 29 [zU, zU] [zI s0] sh pp mm Q := s_go cM_isCell_25 cM_isCell_29 rfl rfl
theorem rM_isCell_28 {u0 u1 : zV} : zS 174 28 [u0, u1] [] sh pp mm Q ↔ zS 174 29 [zU, zU] [zI 0] sh pp mm Q := s_go cM_isCell_28 cM_isCell_29 rfl rfl
theorem rM_isCell_29 {s0 : Int} {u0 u1 : zV} (hb : s0 = 0 ∨ s0 = 1) : zS 174 29 [u0, u1] [zI s0] sh pp mm Q ↔ Q (zI s0) sh pp mm := s_ret cM_isCell_29 (if_pos (decide_eq_true hb))
theorem cAM_textLong : ∀ q ∈ zT175, zCode 175 q.1 = some q.2 := zAll (mid := 175) rfl (by decide +kernel)
theorem cAM_textLong_0 : ∀ q ∈ zT175_0, zCode 175 q.1 = some q.2 := fun q h => cAM_textLong q (h)
theorem cM_textLong_0 : zCode 175 0 = some (.aload_n 0, 1, 0, 0, 0, 0, 1) := cAM_textLong_0 _ (List.mem_of_getElem? (i := 0) rfl)
theorem cM_textLong_1 : zCode 175 1 = some (.getfield 7, 4, 12, 0, 2, 1209, 1) := cAM_textLong_0 _ (List.mem_of_getElem? (i := 1) rfl)
theorem cM_textLong_4 : zCode 175 4 = some (.bipush 9, 6, 0, 0, 0, 0, 1) := cAM_textLong_0 _ (List.mem_of_getElem? (i := 2) rfl)
theorem cM_textLong_6 : zCode 175 6 = some (.bipush 121, 8, 0, 0, 0, 0, 1) := cAM_textLong_0 _ (List.mem_of_getElem? (i := 3) rfl)
theorem cM_textLong_8 : zCode 175 8 = some (.aload_n 0, 9, 0, 0, 0, 0, 1) := cAM_textLong_0 _ (List.mem_of_getElem? (i := 4) rfl)
theorem cM_textLong_9 : zCode 175 9 = some (.getfield 144, 12, 12, 7, 0, 1216, 0) := cAM_textLong_0 _ (List.mem_of_getElem? (i := 5) rfl)
theorem cM_textLong_12 : zCode 175 12 = some (.imul, 13, 0, 0, 0, 0, 0) := cAM_textLong_0 _ (List.mem_of_getElem? (i := 6) rfl)
theorem cM_textLong_13 : zCode 175 13 = some (.iadd, 14, 0, 0, 0, 0, 0) := cAM_textLong_0 _ (List.mem_of_getElem? (i := 7) rfl)
theorem cM_textLong_14 : zCode 175 14 = some (.iaload, 15, 0, 0, 0, 0, 0) := cAM_textLong_0 _ (List.mem_of_getElem? (i := 8) rfl)
theorem cM_textLong_15 : zCode 175 15 = some (.ireturn, 16, 0, 0, 0, 0, 0) := cAM_textLong_0 _ (List.mem_of_getElem? (i := 9) rfl)
theorem rM_textLong_0 {a0 : Nat} : zS 175 0 [zR a0] [] sh pp mm Q ↔ zS 175 1 [zR a0] [zR a0] sh pp mm Q := s_go cM_textLong_0 cM_textLong_1 rfl rfl
theorem rM_textLong_1 {a0 s0 : Nat} (hk : zKd sh s0 = 12) : zS 175 1 [zR a0] [zR s0] sh pp mm Q ↔ zS 175 4 [zR a0] [zR (pp s0 0)] sh pp mm Q := s_go cM_textLong_1 cM_textLong_4 (if_pos hk) rfl
theorem rM_textLong_4 {a0 s0 : Nat} : zS 175 4 [zR a0] [zR s0] sh pp mm Q ↔ zS 175 6 [zR a0] [zI 9, zR s0] sh pp mm Q := s_go cM_textLong_4 cM_textLong_6 rfl rfl
theorem rM_textLong_6 {a0 s1 : Nat} {s0 : Int} : zS 175 6 [zR a0] [zI s0, zR s1] sh pp mm Q ↔ zS 175 8 [zR a0] [zI 121, zI s0, zR s1] sh pp mm Q := s_go cM_textLong_6 cM_textLong_8 rfl rfl
theorem rM_textLong_8 {a0 s2 : Nat} {s0 s1 : Int} : zS 175 8 [zR a0] [zI s0, zI s1, zR s2] sh pp mm Q ↔ zS 175 9 [zU] [zR a0, zI s0, zI s1, zR s2] sh pp mm Q := s_go cM_textLong_8 cM_textLong_9 rfl rfl
theorem rM_textLong_9 {s0 s3 : Nat} {s1 s2 : Int} {u0 : zV} (hk : zKd sh s0 = 12) : zS 175 9 [u0] [zR s0, zI s1, zI s2, zR s3] sh pp mm Q ↔ zS 175 12 [zU] [zI (mm s0 7), zI s1, zI s2, zR s3] sh pp mm Q := s_go cM_textLong_9 cM_textLong_12 (if_pos hk) rfl
theorem rM_textLong_12 {s3 : Nat} {s0 s1 s2 : Int} {u0 : zV} : zS 175 12 [u0] [zI s0, zI s1, zI s2, zR s3] sh pp mm Q ↔ zS 175 13 [zU] [zI (zw32 (s1 * s0)), zI s2, zR s3] sh pp mm Q := s_go cM_textLong_12 cM_textLong_13 rfl rfl
theorem rM_textLong_13 {s2 : Nat} {s0 s1 : Int} {u0 : zV} : zS 175 13 [u0] [zI s0, zI s1, zR s2] sh pp mm Q ↔ zS 175 14 [zU] [zI (zw32 (s1 + s0)), zR s2] sh pp mm Q := s_go cM_textLong_13 cM_textLong_14 rfl rfl
theorem rM_textLong_14 {s1 : Nat} {s0 : Int} {u0 : zV} (hk : zKd sh s1 = 20 ∨ zKd sh s1 = 30) (h0 : 0 ≤ s0) (h1 : s0 < zLn sh s1) : zS 175 14 [u0] [zI s0, zR s1] sh pp mm Q ↔ zS 175 15 [zU] [zI (mm s1 s0)] sh pp mm Q := s_go cM_textLong_14 cM_textLong_15 (if_pos ⟨hk, h0, h1⟩) rfl
theorem rM_textLong_15 {s0 : Int} {u0 : zV} : zS 175 15 [u0] [zI s0] sh pp mm Q ↔ Q (zI s0) sh pp mm := s_ret cM_textLong_15 rfl
theorem cAM_byteAt : ∀ q ∈ zT176, zCode 176 q.1 = some q.2 := zAll (mid := 176) rfl (by decide +kernel)
theorem cAM_byteAt_0 : ∀ q ∈ zT176_0, zCode 176 q.1 = some q.2 := fun q h => cAM_byteAt q (h)
theorem cM_byteAt_0 : zCode 176 0 = some (.aload_n 0, 1, 0, 0, 0, 0, 3) := cAM_byteAt_0 _ (List.mem_of_getElem? (i := 0) rfl)
theorem cM_byteAt_1 : zCode 176 1 = some (.getfield 7, 4, 12, 0, 2, 1209, 3) := cAM_byteAt_0 _ (List.mem_of_getElem? (i := 1) rfl)
theorem cM_byteAt_4 : zCode 176 4 = some (.bipush 9, 6, 0, 0, 0, 0, 3) := cAM_byteAt_0 _ (List.mem_of_getElem? (i := 2) rfl)
theorem cM_byteAt_6 : zCode 176 6 = some (.bipush 121, 8, 0, 0, 0, 0, 3) := cAM_byteAt_0 _ (List.mem_of_getElem? (i := 3) rfl)
theorem cM_byteAt_8 : zCode 176 8 = some (.aload_n 0, 9, 0, 0, 0, 0, 3) := cAM_byteAt_0 _ (List.mem_of_getElem? (i := 4) rfl)
theorem cM_byteAt_9 : zCode 176 9 = some (.getfield 144, 12, 12, 7, 0, 1216, 2) := cAM_byteAt_0 _ (List.mem_of_getElem? (i := 5) rfl)
theorem cM_byteAt_12 : zCode 176 12 = some (.imul, 13, 0, 0, 0, 0, 2) := cAM_byteAt_0 _ (List.mem_of_getElem? (i := 6) rfl)
theorem cM_byteAt_13 : zCode 176 13 = some (.iadd, 14, 0, 0, 0, 0, 2) := cAM_byteAt_0 _ (List.mem_of_getElem? (i := 7) rfl)
theorem cM_byteAt_14 : zCode 176 14 = some (.iconst 1, 15, 0, 0, 0, 0, 2) := cAM_byteAt_0 _ (List.mem_of_getElem? (i := 8) rfl)
theorem cM_byteAt_15 : zCode 176 15 = some (.iadd, 16, 0, 0, 0, 0, 2) := cAM_byteAt_0 _ (List.mem_of_getElem? (i := 9) rfl)
theorem cM_byteAt_16 : zCode 176 16 = some (.iload_n 1, 17, 0, 0, 0, 0, 2) := cAM_byteAt_0 _ (List.mem_of_getElem? (i := 10) rfl)
theorem cM_byteAt_17 : zCode 176 17 = some (.iadd, 18, 0, 0, 0, 0, 0) := cAM_byteAt_0 _ (List.mem_of_getElem? (i := 11) rfl)
theorem cM_byteAt_18 : zCode 176 18 = some (.iaload, 19, 0, 0, 0, 0, 0) := cAM_byteAt_0 _ (List.mem_of_getElem? (i := 12) rfl)
theorem cM_byteAt_19 : zCode 176 19 = some (.ireturn, 20, 0, 0, 0, 0, 0) := cAM_byteAt_0 _ (List.mem_of_getElem? (i := 13) rfl)
theorem rM_byteAt_0 {a0 : Nat} {a1 : Int} : zS 176 0 [zR a0, zI a1] [] sh pp mm Q ↔ zS 176 1 [zR a0, zI a1] [zR a0] sh pp mm Q := s_go cM_byteAt_0 cM_byteAt_1 rfl rfl
theorem rM_byteAt_1 {a0 s0 : Nat} {a1 : Int} (hk : zKd sh s0 = 12) : zS 176 1 [zR a0, zI a1] [zR s0] sh pp mm Q ↔ zS 176 4 [zR a0, zI a1] [zR (pp s0 0)] sh pp mm Q := s_go cM_byteAt_1 cM_byteAt_4 (if_pos hk) rfl
theorem rM_byteAt_4 {a0 s0 : Nat} {a1 : Int} : zS 176 4 [zR a0, zI a1] [zR s0] sh pp mm Q ↔ zS 176 6 [zR a0, zI a1] [zI 9, zR s0] sh pp mm Q := s_go cM_byteAt_4 cM_byteAt_6 rfl rfl
theorem rM_byteAt_6 {a0 s1 : Nat} {a1 s0 : Int} : zS 176 6 [zR a0, zI a1] [zI s0, zR s1] sh pp mm Q ↔ zS 176 8 [zR a0, zI a1] [zI 121, zI s0, zR s1] sh pp mm Q := s_go cM_byteAt_6 cM_byteAt_8 rfl rfl
theorem rM_byteAt_8 {a0 s2 : Nat} {a1 s0 s1 : Int} : zS 176 8 [zR a0, zI a1] [zI s0, zI s1, zR s2] sh pp mm Q ↔ zS 176 9 [zU, zI a1] [zR a0, zI s0, zI s1, zR s2] sh pp mm Q := s_go cM_byteAt_8 cM_byteAt_9 rfl rfl
theorem rM_byteAt_9 {s0 s3 : Nat} {a1 s1 s2 : Int} {u0 : zV} (hk : zKd sh s0 = 12) : zS 176 9 [u0, zI a1] [zR s0, zI s1, zI s2, zR s3] sh pp mm Q ↔ zS 176 12 [zU, zI a1] [zI (mm s0 7), zI s1, zI s2, zR s3] sh pp mm Q := s_go cM_byteAt_9 cM_byteAt_12 (if_pos hk) rfl
theorem rM_byteAt_12 {s3 : Nat} {a1 s0 s1 s2 : Int} {u0 : zV} : zS 176 12 [u0, zI a1] [zI s0, zI s1, zI s2, zR s3] sh pp mm Q ↔ zS 176 13 [zU, zI a1] [zI (zw32 (s1 * s0)), zI s2, zR s3] sh pp mm Q := s_go cM_byteAt_12 cM_byteAt_13 rfl rfl
theorem rM_byteAt_13 {s2 : Nat} {a1 s0 s1 : Int} {u0 : zV} : zS 176 13 [u0, zI a1] [zI s0, zI s1, zR s2] sh pp mm Q ↔ zS 176 14 [zU, zI a1] [zI (zw32 (s1 + s0)), zR s2] sh pp mm Q := s_go cM_byteAt_13 cM_byteAt_14 rfl rfl
theorem rM_byteAt_14 {s1 : Nat} {a1 s0 : Int} {u0 : zV} : zS 176 14 [u0, zI a1] [zI s0, zR s1] sh pp mm Q ↔ zS 176 15 [zU, zI a1] [zI 1, zI s0, zR s1] sh pp mm Q := s_go cM_byteAt_14 cM_byteAt_15 rfl rfl
theorem rM_byteAt_15 {s2 : Nat} {a1 s0 s1 : Int} {u0 : zV} : zS 176 15 [u0, zI a1] [zI s0, zI s1, zR s2] sh pp mm Q ↔ zS 176 16 [zU, zI a1] [zI (zw32 (s1 + s0)), zR s2] sh pp mm Q := s_go cM_byteAt_15 cM_byteAt_16 rfl rfl
theorem rM_byteAt_16 {s1 : Nat} {a1 s0 : Int} {u0 : zV} : zS 176 16 [u0, zI a1] [zI s0, zR s1] sh pp mm Q ↔ zS 176 17 [zU, zU] [zI a1, zI s0, zR s1] sh pp mm Q := s_go cM_byteAt_16 cM_byteAt_17 rfl rfl
theorem rM_byteAt_17 {s2 : Nat} {s0 s1 : Int} {u0 u1 : zV} : zS 176 17 [u0, u1] [zI s0, zI s1, zR s2] sh pp mm Q ↔ zS 176 18 [zU, zU] [zI (zw32 (s1 + s0)), zR s2] sh pp mm Q := s_go cM_byteAt_17 cM_byteAt_18 rfl rfl
theorem rM_byteAt_18 {s1 : Nat} {s0 : Int} {u0 u1 : zV} (hk : zKd sh s1 = 20 ∨ zKd sh s1 = 30) (h0 : 0 ≤ s0) (h1 : s0 < zLn sh s1) : zS 176 18 [u0, u1] [zI s0, zR s1] sh pp mm Q ↔ zS 176 19 [zU, zU] [zI (mm s1 s0)] sh pp mm Q := s_go cM_byteAt_18 cM_byteAt_19 (if_pos ⟨hk, h0, h1⟩) rfl
theorem rM_byteAt_19 {s0 : Int} {u0 u1 : zV} : zS 176 19 [u0, u1] [zI s0] sh pp mm Q ↔ Q (zI s0) sh pp mm := s_ret cM_byteAt_19 rfl
theorem cAM_type : ∀ q ∈ zT177, zCode 177 q.1 = some q.2 := zAll (mid := 177) rfl (by decide +kernel)
theorem cAM_type_0 : ∀ q ∈ zT177_0, zCode 177 q.1 = some q.2 := fun q h => cAM_type q (List.mem_append_left _ h)
theorem cAM_type_1 : ∀ q ∈ zT177_1, zCode 177 q.1 = some q.2 := fun q h => cAM_type q (List.mem_append_right _ (List.mem_append_left _ h))
theorem cAM_type_2 : ∀ q ∈ zT177_2, zCode 177 q.1 = some q.2 := fun q h => cAM_type q (List.mem_append_right _ (List.mem_append_right _ (List.mem_append_left _ h)))
theorem cAM_type_3 : ∀ q ∈ zT177_3, zCode 177 q.1 = some q.2 := fun q h => cAM_type q (List.mem_append_right _ (List.mem_append_right _ (List.mem_append_right _ (List.mem_append_left _ h))))
theorem cAM_type_4 : ∀ q ∈ zT177_4, zCode 177 q.1 = some q.2 := fun q h => cAM_type q (List.mem_append_right _ (List.mem_append_right _ (List.mem_append_right _ (List.mem_append_right _ h))))
theorem cM_type_0 : zCode 177 0 = some (.iload_n 1, 1, 0, 0, 0, 0, 23) := cAM_type_0 _ (List.mem_of_getElem? (i := 0) rfl)
theorem cM_type_1 : zCode 177 1 = some (.invokestatic 147, 4, 173, 1, 1, 12, 23) := cAM_type_0 _ (List.mem_of_getElem? (i := 1) rfl)
theorem cM_type_4 : zCode 177 4 = some (.ifCond .eq 16, 7, 20, 0, 0, 0, 23) := cAM_type_0 _ (List.mem_of_getElem? (i := 2) rfl)
theorem cM_type_7 : zCode 177 7 = some (.iload 4, 9, 0, 0, 0, 0, 23) := cAM_type_0 _ (List.mem_of_getElem? (i := 3) rfl)
theorem cM_type_9 : zCode 177 9 = some (.i2l, 10, 0, 0, 0, 0, 23) := cAM_type_0 _ (List.mem_of_getElem? (i := 4) rfl)
theorem cM_type_10 : zCode 177 10 = some (.lconst 1, 11, 0, 0, 0, 0, 23) := cAM_type_0 _ (List.mem_of_getElem? (i := 5) rfl)
theorem cM_type_11 : zCode 177 11 = some (.ldc2_w 119, 14, 0, 0, 1323, 8, 23) := cAM_type_0 _ (List.mem_of_getElem? (i := 6) rfl)
theorem cM_type_14 : zCode 177 14 = some (.invokestatic 121, 17, 151, 3, 6, 12, 23) := cAM_type_0 _ (List.mem_of_getElem? (i := 7) rfl)
theorem cM_type_17 : zCode 177 17 = some (.ifCond .ne 10, 20, 27, 0, 0, 0, 23) := cAM_type_0 _ (List.mem_of_getElem? (i := 8) rfl)
theorem cM_type_20 : zCode 177 20 = some (.aload_n 0, 21, 0, 0, 0, 0, 1) := cAM_type_0 _ (List.mem_of_getElem? (i := 9) rfl)
theorem cM_type_21 : zCode 177 21 = some (.bipush (-2), 23, 0, 0, 0, 0, 0) := cAM_type_0 _ (List.mem_of_getElem? (i := 10) rfl)
theorem cM_type_23 : zCode 177 23 = some (.invokevirtual 132, 26, 152, 1, 2, 12, 0) := cAM_type_0 _ (List.mem_of_getElem? (i := 11) rfl)
theorem cM_type_26 : zCode 177 26 = some (.ireturn, 27, 0, 0, 0, 0, 0) := cAM_type_0 _ (List.mem_of_getElem? (i := 12) rfl)
theorem cM_type_27 : zCode 177 27 = some (.aload_n 0, 28, 0, 0, 0, 0, 23) := cAM_type_0 _ (List.mem_of_getElem? (i := 13) rfl)
theorem cM_type_28 : zCode 177 28 = some (.iload_n 1, 29, 0, 0, 0, 0, 23) := cAM_type_0 _ (List.mem_of_getElem? (i := 14) rfl)
theorem cM_type_29 : zCode 177 29 = some (.putfield 144, 32, 12, 7, 0, 1216, 21) := cAM_type_0 _ (List.mem_of_getElem? (i := 15) rfl)
theorem cM_type_32 : zCode 177 32 = some (.aload_n 0, 33, 0, 0, 0, 0, 21) := cAM_type_1 _ (List.mem_of_getElem? (i := 0) rfl)
theorem cM_type_33 : zCode 177 33 = some (.invokevirtual 150, 36, 175, 0, 1, 12, 21) := cAM_type_1 _ (List.mem_of_getElem? (i := 1) rfl)
theorem cM_type_36 : zCode 177 36 = some (.iload 4, 38, 0, 0, 0, 0, 21) := cAM_type_1 _ (List.mem_of_getElem? (i := 2) rfl)
theorem cM_type_38 : zCode 177 38 = some (.iadd, 39, 0, 0, 0, 0, 21) := cAM_type_1 _ (List.mem_of_getElem? (i := 3) rfl)
theorem cM_type_39 : zCode 177 39 = some (.bipush 120, 41, 0, 0, 0, 0, 21) := cAM_type_1 _ (List.mem_of_getElem? (i := 4) rfl)
theorem cM_type_41 : zCode 177 41 = some (.if_icmp .le 8, 44, 49, 0, 0, 0, 21) := cAM_type_1 _ (List.mem_of_getElem? (i := 5) rfl)
theorem cM_type_44 : zCode 177 44 = some (.aload_n 0, 45, 0, 0, 0, 0, 1) := cAM_type_1 _ (List.mem_of_getElem? (i := 6) rfl)
theorem cM_type_45 : zCode 177 45 = some (.invokevirtual 154, 48, 154, 0, 1, 12, 0) := cAM_type_1 _ (List.mem_of_getElem? (i := 7) rfl)
theorem cM_type_48 : zCode 177 48 = some (.ireturn, 49, 0, 0, 0, 0, 0) := cAM_type_1 _ (List.mem_of_getElem? (i := 8) rfl)
theorem cM_type_49 : zCode 177 49 = some (.iload 4, 51, 0, 0, 0, 0, 21) := cAM_type_1 _ (List.mem_of_getElem? (i := 9) rfl)
theorem cM_type_51 : zCode 177 51 = some (.iconst 1, 52, 0, 0, 0, 0, 5) := cAM_type_1 _ (List.mem_of_getElem? (i := 10) rfl)
theorem cM_type_52 : zCode 177 52 = some (.isub, 53, 0, 0, 0, 0, 5) := cAM_type_1 _ (List.mem_of_getElem? (i := 11) rfl)
theorem cM_type_53 : zCode 177 53 = some (.istore 5, 55, 0, 0, 0, 0, 5) := cAM_type_1 _ (List.mem_of_getElem? (i := 12) rfl)
theorem cM_type_55 : zCode 177 55 = some (.iload 5, 57, 0, 0, 0, 0, 37) := cAM_type_1 _ (List.mem_of_getElem? (i := 13) rfl)
theorem cM_type_57 : zCode 177 57 = some (.ifCond .lt 62, 60, 119, 0, 0, 0, 37) := cAM_type_1 _ (List.mem_of_getElem? (i := 14) rfl)
theorem cM_type_60 : zCode 177 60 = some (.aload_n 0, 61, 0, 0, 0, 0, 37) := cAM_type_1 _ (List.mem_of_getElem? (i := 15) rfl)
theorem cM_type_61 : zCode 177 61 = some (.getfield 7, 64, 12, 0, 2, 1209, 37) := cAM_type_2 _ (List.mem_of_getElem? (i := 0) rfl)
theorem cM_type_64 : zCode 177 64 = some (.bipush 9, 66, 0, 0, 0, 0, 37) := cAM_type_2 _ (List.mem_of_getElem? (i := 1) rfl)
theorem cM_type_66 : zCode 177 66 = some (.bipush 121, 68, 0, 0, 0, 0, 37) := cAM_type_2 _ (List.mem_of_getElem? (i := 2) rfl)
theorem cM_type_68 : zCode 177 68 = some (.aload_n 0, 69, 0, 0, 0, 0, 37) := cAM_type_2 _ (List.mem_of_getElem? (i := 3) rfl)
theorem cM_type_69 : zCode 177 69 = some (.getfield 144, 72, 12, 7, 0, 1216, 37) := cAM_type_2 _ (List.mem_of_getElem? (i := 4) rfl)
theorem cM_type_72 : zCode 177 72 = some (.imul, 73, 0, 0, 0, 0, 37) := cAM_type_2 _ (List.mem_of_getElem? (i := 5) rfl)
theorem cM_type_73 : zCode 177 73 = some (.iadd, 74, 0, 0, 0, 0, 37) := cAM_type_2 _ (List.mem_of_getElem? (i := 6) rfl)
theorem cM_type_74 : zCode 177 74 = some (.iconst 1, 75, 0, 0, 0, 0, 37) := cAM_type_2 _ (List.mem_of_getElem? (i := 7) rfl)
theorem cM_type_75 : zCode 177 75 = some (.iadd, 76, 0, 0, 0, 0, 37) := cAM_type_2 _ (List.mem_of_getElem? (i := 8) rfl)
theorem cM_type_76 : zCode 177 76 = some (.aload_n 0, 77, 0, 0, 0, 0, 37) := cAM_type_2 _ (List.mem_of_getElem? (i := 9) rfl)
theorem cM_type_77 : zCode 177 77 = some (.invokevirtual 150, 80, 175, 0, 1, 12, 37) := cAM_type_2 _ (List.mem_of_getElem? (i := 10) rfl)
theorem cM_type_80 : zCode 177 80 = some (.iadd, 81, 0, 0, 0, 0, 37) := cAM_type_2 _ (List.mem_of_getElem? (i := 11) rfl)
theorem cM_type_81 : zCode 177 81 = some (.lload_n 2, 82, 0, 0, 0, 0, 37) := cAM_type_2 _ (List.mem_of_getElem? (i := 12) rfl)
theorem cM_type_82 : zCode 177 82 = some (.bipush 8, 84, 0, 0, 0, 0, 37) := cAM_type_2 _ (List.mem_of_getElem? (i := 13) rfl)
theorem cM_type_84 : zCode 177 84 = some (.iload 5, 86, 0, 0, 0, 0, 37) := cAM_type_2 _ (List.mem_of_getElem? (i := 14) rfl)
theorem cM_type_86 : zCode 177 86 = some (.imul, 87, 0, 0, 0, 0, 37) := cAM_type_2 _ (List.mem_of_getElem? (i := 15) rfl)
theorem cM_type_87 : zCode 177 87 = some (.lushr, 88, 0, 0, 0, 0, 37) := cAM_type_3 _ (List.mem_of_getElem? (i := 0) rfl)
theorem cM_type_88 : zCode 177 88 = some (.ldc2_w 157, 91, 0, 0, 1357, 255, 37) := cAM_type_3 _ (List.mem_of_getElem? (i := 1) rfl)
theorem cM_type_91 : zCode 177 91 = some (.land, 92, 0, 0, 0, 0, 37) := cAM_type_3 _ (List.mem_of_getElem? (i := 2) rfl)
theorem cM_type_92 : zCode 177 92 = some (.l2i, 93, 0, 0, 0, 0, 37) := cAM_type_3 _ (List.mem_of_getElem? (i := 3) rfl)
theorem cM_type_93 : zCode 177 93 = some (.iastore, 94, 0, 0, 0, 0, 37) := cAM_type_3 _ (List.mem_of_getElem? (i := 4) rfl)
theorem cM_type_94 : zCode 177 94 = some (.aload_n 0, 95, 0, 0, 0, 0, 37) := cAM_type_3 _ (List.mem_of_getElem? (i := 5) rfl)
theorem cM_type_95 : zCode 177 95 = some (.getfield 7, 98, 12, 0, 2, 1209, 37) := cAM_type_3 _ (List.mem_of_getElem? (i := 6) rfl)
theorem cM_type_98 : zCode 177 98 = some (.bipush 9, 100, 0, 0, 0, 0, 37) := cAM_type_3 _ (List.mem_of_getElem? (i := 7) rfl)
theorem cM_type_100 : zCode 177 100 = some (.bipush 121, 102, 0, 0, 0, 0, 37) := cAM_type_3 _ (List.mem_of_getElem? (i := 8) rfl)
theorem cM_type_102 : zCode 177 102 = some (.aload_n 0, 103, 0, 0, 0, 0, 37) := cAM_type_3 _ (List.mem_of_getElem? (i := 9) rfl)
theorem cM_type_103 : zCode 177 103 = some (.getfield 144, 106, 12, 7, 0, 1216, 37) := cAM_type_3 _ (List.mem_of_getElem? (i := 10) rfl)
theorem cM_type_106 : zCode 177 106 = some (.imul, 107, 0, 0, 0, 0, 37) := cAM_type_3 _ (List.mem_of_getElem? (i := 11) rfl)
theorem cM_type_107 : zCode 177 107 = some (.iadd, 108, 0, 0, 0, 0, 37) := cAM_type_3 _ (List.mem_of_getElem? (i := 12) rfl)
theorem cM_type_108 : zCode 177 108 = some (.dup2, 109, 0, 0, 0, 0, 37) := cAM_type_3 _ (List.mem_of_getElem? (i := 13) rfl)
theorem cM_type_109 : zCode 177 109 = some (.iaload, 110, 0, 0, 0, 0, 37) := cAM_type_3 _ (List.mem_of_getElem? (i := 14) rfl)
theorem cM_type_110 : zCode 177 110 = some (.iconst 1, 111, 0, 0, 0, 0, 37) := cAM_type_3 _ (List.mem_of_getElem? (i := 15) rfl)
theorem cM_type_111 : zCode 177 111 = some (.iadd, 112, 0, 0, 0, 0, 37) := cAM_type_4 _ (List.mem_of_getElem? (i := 0) rfl)
theorem cM_type_112 : zCode 177 112 = some (.iastore, 113, 0, 0, 0, 0, 37) := cAM_type_4 _ (List.mem_of_getElem? (i := 1) rfl)
theorem cM_type_113 : zCode 177 113 = some (.iinc 5 (-1), 116, 0, 0, 0, 0, 37) := cAM_type_4 _ (List.mem_of_getElem? (i := 2) rfl)
theorem cM_type_116 : zCode 177 116 = some (.goto (-61), 119, 55, 0, 0, 0, 37) := cAM_type_4 _ (List.mem_of_getElem? (i := 3) rfl)
theorem cM_type_119 : zCode 177 119 = some (.aload_n 0, 120, 0, 0, 0, 0, 1) := cAM_type_4 _ (List.mem_of_getElem? (i := 4) rfl)
theorem cM_type_120 : zCode 177 120 = some (.invokevirtual 150, 123, 175, 0, 1, 12, 0) := cAM_type_4 _ (List.mem_of_getElem? (i := 5) rfl)
theorem cM_type_123 : zCode 177 123 = some (.ireturn, 124, 0, 0, 0, 0, 0) := cAM_type_4 _ (List.mem_of_getElem? (i := 6) rfl)
theorem rM_type_0 {a0 : Nat} {a1 a2 a4 : Int} {u3 u5 : zV} : zS 177 0 [zR a0, zI a1, zL a2, u3, zI a4, u5] [] sh pp mm Q ↔ zS 177 1 [zR a0, zI a1, zL a2, zU, zI a4, zU] [zI a1] sh pp mm Q := s_go cM_type_0 cM_type_1 rfl rfl
theorem rM_type_1 {a0 : Nat} {a1 a2 a4 s0 : Int} {u3 u5 : zV} : zS 177 1 [zR a0, zI a1, zL a2, u3, zI a4, u5] [zI s0] sh pp mm Q ↔ zS 173 0 [zI s0] [] sh pp mm (fun v sh pp mm => zS 177 4 [zR a0, zI a1, zL a2, zU, zI a4, zU] (zPush v []) sh pp mm Q) := s_call cM_type_1 cM_type_4 rfl rfl
theorem rM_type_4 {a0 : Nat} {a1 a2 a4 s0 : Int} {u3 u5 : zV} : zS 177 4 [zR a0, zI a1, zL a2, u3, zI a4, u5] [zI s0] sh pp mm Q ↔ (s0 = 0 → zS 177 20 [zR a0, zU, zU, zU, zU, zU] [] sh pp mm Q) ∧ (¬ s0 = 0 → zS 177 7 [zR a0, zI a1, zL a2, zU, zI a4, zU] [] sh pp mm Q) := s_if cM_type_4 cM_type_20 cM_type_7 rfl rfl rfl
theorem rM_type_7 {a0 : Nat} {a1 a2 a4 : Int} {u3 u5 : zV} : zS 177 7 [zR a0, zI a1, zL a2, u3, zI a4, u5] [] sh pp mm Q ↔ zS 177 9 [zR a0, zI a1, zL a2, zU, zI a4, zU] [zI a4] sh pp mm Q := s_go cM_type_7 cM_type_9 rfl rfl
theorem rM_type_9 {a0 : Nat} {a1 a2 a4 s0 : Int} {u3 u5 : zV} : zS 177 9 [zR a0, zI a1, zL a2, u3, zI a4, u5] [zI s0] sh pp mm Q ↔ zS 177 10 [zR a0, zI a1, zL a2, zU, zI a4, zU] [zL s0] sh pp mm Q := s_go cM_type_9 cM_type_10 rfl rfl
theorem rM_type_10 {a0 : Nat} {a1 a2 a4 s0 : Int} {u3 u5 : zV} : zS 177 10 [zR a0, zI a1, zL a2, u3, zI a4, u5] [zL s0] sh pp mm Q ↔ zS 177 11 [zR a0, zI a1, zL a2, zU, zI a4, zU] [zL 1, zL s0] sh pp mm Q := s_go cM_type_10 cM_type_11 rfl rfl
theorem rM_type_11 {a0 : Nat} {a1 a2 a4 s0 s1 : Int} {u3 u5 : zV} : zS 177 11 [zR a0, zI a1, zL a2, u3, zI a4, u5] [zL s0, zL s1] sh pp mm Q ↔ zS 177 14 [zR a0, zI a1, zL a2, zU, zI a4, zU] [zL 8, zL s0, zL s1] sh pp mm Q := s_go cM_type_11 cM_type_14 rfl rfl
theorem rM_type_14 {a0 : Nat} {a1 a2 a4 s0 s1 s2 : Int} {u3 u5 : zV} : zS 177 14 [zR a0, zI a1, zL a2, u3, zI a4, u5] [zL s0, zL s1, zL s2] sh pp mm Q ↔ zS 151 0 [zL s2, zU, zL s1, zU, zL s0, zU] [] sh pp mm (fun v sh pp mm => zS 177 17 [zR a0, zI a1, zL a2, zU, zI a4, zU] (zPush v []) sh pp mm Q) := s_call cM_type_14 cM_type_17 rfl rfl
theorem rM_type_17 {a0 : Nat} {a1 a2 a4 s0 : Int} {u3 u5 : zV} : zS 177 17 [zR a0, zI a1, zL a2, u3, zI a4, u5] [zI s0] sh pp mm Q ↔ (s0 = 0 → zS 177 20 [zR a0, zU, zU, zU, zU, zU] [] sh pp mm Q) ∧ (¬ s0 = 0 → zS 177 27 [zR a0, zI a1, zL a2, zU, zI a4, zU] [] sh pp mm Q) := s_ifn cM_type_17 cM_type_20 cM_type_27 rfl rfl rfl
theorem rM_type_20 {a0 : Nat} {u1 u2 u3 u4 u5 : zV} : zS 177 20 [zR a0, u1, u2, u3, u4, u5] [] sh pp mm Q ↔ zS 177 21 [zU, zU, zU, zU, zU, zU] [zR a0] sh pp mm Q := s_go cM_type_20 cM_type_21 rfl rfl
theorem rM_type_21 {s0 : Nat} {u0 u1 u2 u3 u4 u5 : zV} : zS 177 21 [u0, u1, u2, u3, u4, u5] [zR s0] sh pp mm Q ↔ zS 177 23 [zU, zU, zU, zU, zU, zU] [zI (-2), zR s0] sh pp mm Q := s_go cM_type_21 cM_type_23 rfl rfl
theorem rM_type_23 {s1 : Nat} {s0 : Int} {u0 u1 u2 u3 u4 u5 : zV} (hk : zKd sh s1 = 12) : zS 177 23 [u0, u1, u2, u3, u4, u5] [zI s0, zR s1] sh pp mm Q ↔ zS 152 0 [zR s1, zI s0] [] sh pp mm (fun v sh pp mm => zS 177 26 [zU, zU, zU, zU, zU, zU] (zPush v []) sh pp mm Q) := s_call cM_type_23 cM_type_26 ((if_pos hk).trans rfl) rfl
theorem rM_type_26 {s0 : Int} {u0 u1 u2 u3 u4 u5 : zV} : zS 177 26 [u0, u1, u2, u3, u4, u5] [zI s0] sh pp mm Q ↔ Q (zI s0) sh pp mm := s_ret cM_type_26 rfl
theorem rM_type_27 {a0 : Nat} {a1 a2 a4 : Int} {u3 u5 : zV} : zS 177 27 [zR a0, zI a1, zL a2, u3, zI a4, u5] [] sh pp mm Q ↔ zS 177 28 [zR a0, zI a1, zL a2, zU, zI a4, zU] [zR a0] sh pp mm Q := s_go cM_type_27 cM_type_28 rfl rfl
theorem rM_type_28 {a0 s0 : Nat} {a1 a2 a4 : Int} {u3 u5 : zV} : zS 177 28 [zR a0, zI a1, zL a2, u3, zI a4, u5] [zR s0] sh pp mm Q ↔ zS 177 29 [zR a0, zU, zL a2, zU, zI a4, zU] [zI a1, zR s0] sh pp mm Q := s_go cM_type_28 cM_type_29 rfl rfl
theorem rM_type_29 {a0 s1 : Nat} {a2 a4 s0 : Int} {u1 u3 u5 : zV} (hk : zKd sh s1 = 12) : zS 177 29 [zR a0, u1, zL a2, u3, zI a4, u5] [zI s0, zR s1] sh pp mm Q ↔ zS 177 32 [zR a0, zU, zL a2, zU, zI a4, zU] [] sh pp (zupd mm s1 7 s0) Q := s_go cM_type_29 cM_type_32 (if_pos ⟨hk, Or.inl rfl⟩) rfl
theorem rM_type_32 {a0 : Nat} {a2 a4 : Int} {u1 u3 u5 : zV} : zS 177 32 [zR a0, u1, zL a2, u3, zI a4, u5] [] sh pp mm Q ↔ zS 177 33 [zR a0, zU, zL a2, zU, zI a4, zU] [zR a0] sh pp mm Q := s_go cM_type_32 cM_type_33 rfl rfl
theorem rM_type_33 {a0 s0 : Nat} {a2 a4 : Int} {u1 u3 u5 : zV} (hk : zKd sh s0 = 12) : zS 177 33 [zR a0, u1, zL a2, u3, zI a4, u5] [zR s0] sh pp mm Q ↔ zS 175 0 [zR s0] [] sh pp mm (fun v sh pp mm => zS 177 36 [zR a0, zU, zL a2, zU, zI a4, zU] (zPush v []) sh pp mm Q) := s_call cM_type_33 cM_type_36 ((if_pos hk).trans rfl) rfl
theorem rM_type_36 {a0 : Nat} {a2 a4 s0 : Int} {u1 u3 u5 : zV} : zS 177 36 [zR a0, u1, zL a2, u3, zI a4, u5] [zI s0] sh pp mm Q ↔ zS 177 38 [zR a0, zU, zL a2, zU, zI a4, zU] [zI a4, zI s0] sh pp mm Q := s_go cM_type_36 cM_type_38 rfl rfl
theorem rM_type_38 {a0 : Nat} {a2 a4 s0 s1 : Int} {u1 u3 u5 : zV} : zS 177 38 [zR a0, u1, zL a2, u3, zI a4, u5] [zI s0, zI s1] sh pp mm Q ↔ zS 177 39 [zR a0, zU, zL a2, zU, zI a4, zU] [zI (zw32 (s1 + s0))] sh pp mm Q := s_go cM_type_38 cM_type_39 rfl rfl
theorem rM_type_39 {a0 : Nat} {a2 a4 s0 : Int} {u1 u3 u5 : zV} : zS 177 39 [zR a0, u1, zL a2, u3, zI a4, u5] [zI s0] sh pp mm Q ↔ zS 177 41 [zR a0, zU, zL a2, zU, zI a4, zU] [zI 120, zI s0] sh pp mm Q := s_go cM_type_39 cM_type_41 rfl rfl
theorem rM_type_41 {a0 : Nat} {a2 a4 s0 s1 : Int} {u1 u3 u5 : zV} : zS 177 41 [zR a0, u1, zL a2, u3, zI a4, u5] [zI s0, zI s1] sh pp mm Q ↔ (s0 < s1 → zS 177 44 [zR a0, zU, zU, zU, zU, zU] [] sh pp mm Q) ∧ (¬ s0 < s1 → zS 177 49 [zR a0, zU, zL a2, zU, zI a4, zU] [] sh pp mm Q) := s_ifn cM_type_41 cM_type_44 cM_type_49 rfl rfl rfl
theorem rM_type_44 {a0 : Nat} {u1 u2 u3 u4 u5 : zV} : zS 177 44 [zR a0, u1, u2, u3, u4, u5] [] sh pp mm Q ↔ zS 177 45 [zU, zU, zU, zU, zU, zU] [zR a0] sh pp mm Q := s_go cM_type_44 cM_type_45 rfl rfl
theorem rM_type_45 {s0 : Nat} {u0 u1 u2 u3 u4 u5 : zV} (hk : zKd sh s0 = 12) : zS 177 45 [u0, u1, u2, u3, u4, u5] [zR s0] sh pp mm Q ↔ zS 154 0 [zR s0] [] sh pp mm (fun v sh pp mm => zS 177 48 [zU, zU, zU, zU, zU, zU] (zPush v []) sh pp mm Q) := s_call cM_type_45 cM_type_48 ((if_pos hk).trans rfl) rfl
theorem rM_type_48 {s0 : Int} {u0 u1 u2 u3 u4 u5 : zV} : zS 177 48 [u0, u1, u2, u3, u4, u5] [zI s0] sh pp mm Q ↔ Q (zI s0) sh pp mm := s_ret cM_type_48 rfl
theorem rM_type_49 {a0 : Nat} {a2 a4 : Int} {u1 u3 u5 : zV} : zS 177 49 [zR a0, u1, zL a2, u3, zI a4, u5] [] sh pp mm Q ↔ zS 177 51 [zR a0, zU, zL a2, zU, zU, zU] [zI a4] sh pp mm Q := s_go cM_type_49 cM_type_51 rfl rfl
theorem rM_type_51 {a0 : Nat} {a2 s0 : Int} {u1 u3 u4 u5 : zV} : zS 177 51 [zR a0, u1, zL a2, u3, u4, u5] [zI s0] sh pp mm Q ↔ zS 177 52 [zR a0, zU, zL a2, zU, zU, zU] [zI 1, zI s0] sh pp mm Q := s_go cM_type_51 cM_type_52 rfl rfl
theorem rM_type_52 {a0 : Nat} {a2 s0 s1 : Int} {u1 u3 u4 u5 : zV} : zS 177 52 [zR a0, u1, zL a2, u3, u4, u5] [zI s0, zI s1] sh pp mm Q ↔ zS 177 53 [zR a0, zU, zL a2, zU, zU, zU] [zI (zw32 (s1 - s0))] sh pp mm Q := s_go cM_type_52 cM_type_53 rfl rfl
theorem rM_type_53 {a0 : Nat} {a2 s0 : Int} {u1 u3 u4 u5 : zV} : zS 177 53 [zR a0, u1, zL a2, u3, u4, u5] [zI s0] sh pp mm Q ↔ zS 177 55 [zR a0, zU, zL a2, zU, zU, zI s0] [] sh pp mm Q := s_go cM_type_53 cM_type_55 rfl rfl
theorem rM_type_55 {a0 : Nat} {a2 a5 : Int} {u1 u3 u4 : zV} : zS 177 55 [zR a0, u1, zL a2, u3, u4, zI a5] [] sh pp mm Q ↔ zS 177 57 [zR a0, zU, zL a2, zU, zU, zI a5] [zI a5] sh pp mm Q := s_go cM_type_55 cM_type_57 rfl rfl
theorem rM_type_57 {a0 : Nat} {a2 a5 s0 : Int} {u1 u3 u4 : zV} : zS 177 57 [zR a0, u1, zL a2, u3, u4, zI a5] [zI s0] sh pp mm Q ↔ (s0 < 0 → zS 177 119 [zR a0, zU, zU, zU, zU, zU] [] sh pp mm Q) ∧ (¬ s0 < 0 → zS 177 60 [zR a0, zU, zL a2, zU, zU, zI a5] [] sh pp mm Q) := s_if cM_type_57 cM_type_119 cM_type_60 rfl rfl rfl
theorem rM_type_60 {a0 : Nat} {a2 a5 : Int} {u1 u3 u4 : zV} : zS 177 60 [zR a0, u1, zL a2, u3, u4, zI a5] [] sh pp mm Q ↔ zS 177 61 [zR a0, zU, zL a2, zU, zU, zI a5] [zR a0] sh pp mm Q := s_go cM_type_60 cM_type_61 rfl rfl
theorem rM_type_61 {a0 s0 : Nat} {a2 a5 : Int} {u1 u3 u4 : zV} (hk : zKd sh s0 = 12) : zS 177 61 [zR a0, u1, zL a2, u3, u4, zI a5] [zR s0] sh pp mm Q ↔ zS 177 64 [zR a0, zU, zL a2, zU, zU, zI a5] [zR (pp s0 0)] sh pp mm Q := s_go cM_type_61 cM_type_64 (if_pos hk) rfl
theorem rM_type_64 {a0 s0 : Nat} {a2 a5 : Int} {u1 u3 u4 : zV} : zS 177 64 [zR a0, u1, zL a2, u3, u4, zI a5] [zR s0] sh pp mm Q ↔ zS 177 66 [zR a0, zU, zL a2, zU, zU, zI a5] [zI 9, zR s0] sh pp mm Q := s_go cM_type_64 cM_type_66 rfl rfl
theorem rM_type_66 {a0 s1 : Nat} {a2 a5 s0 : Int} {u1 u3 u4 : zV} : zS 177 66 [zR a0, u1, zL a2, u3, u4, zI a5] [zI s0, zR s1] sh pp mm Q ↔ zS 177 68 [zR a0, zU, zL a2, zU, zU, zI a5] [zI 121, zI s0, zR s1] sh pp mm Q := s_go cM_type_66 cM_type_68 rfl rfl
theorem rM_type_68 {a0 s2 : Nat} {a2 a5 s0 s1 : Int} {u1 u3 u4 : zV} : zS 177 68 [zR a0, u1, zL a2, u3, u4, zI a5] [zI s0, zI s1, zR s2] sh pp mm Q ↔ zS 177 69 [zR a0, zU, zL a2, zU, zU, zI a5] [zR a0, zI s0, zI s1, zR s2] sh pp mm Q := s_go cM_type_68 cM_type_69 rfl rfl
theorem rM_type_69 {a0 s0 s3 : Nat} {a2 a5 s1 s2 : Int} {u1 u3 u4 : zV} (hk : zKd sh s0 = 12) : zS 177 69 [zR a0, u1, zL a2, u3, u4, zI a5] [zR s0, zI s1, zI s2, zR s3] sh pp mm Q ↔ zS 177 72 [zR a0, zU, zL a2, zU, zU, zI a5] [zI (mm s0 7), zI s1, zI s2, zR s3] sh pp mm Q := s_go cM_type_69 cM_type_72 (if_pos hk) rfl
theorem rM_type_72 {a0 s3 : Nat} {a2 a5 s0 s1 s2 : Int} {u1 u3 u4 : zV} : zS 177 72 [zR a0, u1, zL a2, u3, u4, zI a5] [zI s0, zI s1, zI s2, zR s3] sh pp mm Q ↔ zS 177 73 [zR a0, zU, zL a2, zU, zU, zI a5] [zI (zw32 (s1 * s0)), zI s2, zR s3] sh pp mm Q := s_go cM_type_72 cM_type_73 rfl rfl
theorem rM_type_73 {a0 s2 : Nat} {a2 a5 s0 s1 : Int} {u1 u3 u4 : zV} : zS 177 73 [zR a0, u1, zL a2, u3, u4, zI a5] [zI s0, zI s1, zR s2] sh pp mm Q ↔ zS 177 74 [zR a0, zU, zL a2, zU, zU, zI a5] [zI (zw32 (s1 + s0)), zR s2] sh pp mm Q := s_go cM_type_73 cM_type_74 rfl rfl
theorem rM_type_74 {a0 s1 : Nat} {a2 a5 s0 : Int} {u1 u3 u4 : zV} : zS 177 74 [zR a0, u1, zL a2, u3, u4, zI a5] [zI s0, zR s1] sh pp mm Q ↔ zS 177 75 [zR a0, zU, zL a2, zU, zU, zI a5] [zI 1, zI s0, zR s1] sh pp mm Q := s_go cM_type_74 cM_type_75 rfl rfl
theorem rM_type_75 {a0 s2 : Nat} {a2 a5 s0 s1 : Int} {u1 u3 u4 : zV} : zS 177 75 [zR a0, u1, zL a2, u3, u4, zI a5] [zI s0, zI s1, zR s2] sh pp mm Q ↔ zS 177 76 [zR a0, zU, zL a2, zU, zU, zI a5] [zI (zw32 (s1 + s0)), zR s2] sh pp mm Q := s_go cM_type_75 cM_type_76 rfl rfl
theorem rM_type_76 {a0 s1 : Nat} {a2 a5 s0 : Int} {u1 u3 u4 : zV} : zS 177 76 [zR a0, u1, zL a2, u3, u4, zI a5] [zI s0, zR s1] sh pp mm Q ↔ zS 177 77 [zR a0, zU, zL a2, zU, zU, zI a5] [zR a0, zI s0, zR s1] sh pp mm Q := s_go cM_type_76 cM_type_77 rfl rfl
theorem rM_type_77 {a0 s0 s2 : Nat} {a2 a5 s1 : Int} {u1 u3 u4 : zV} (hk : zKd sh s0 = 12) : zS 177 77 [zR a0, u1, zL a2, u3, u4, zI a5] [zR s0, zI s1, zR s2] sh pp mm Q ↔ zS 175 0 [zR s0] [] sh pp mm (fun v sh pp mm => zS 177 80 [zR a0, zU, zL a2, zU, zU, zI a5] (zPush v [zI s1, zR s2]) sh pp mm Q) := s_call cM_type_77 cM_type_80 ((if_pos hk).trans rfl) rfl
theorem rM_type_80 {a0 s2 : Nat} {a2 a5 s0 s1 : Int} {u1 u3 u4 : zV} : zS 177 80 [zR a0, u1, zL a2, u3, u4, zI a5] [zI s0, zI s1, zR s2] sh pp mm Q ↔ zS 177 81 [zR a0, zU, zL a2, zU, zU, zI a5] [zI (zw32 (s1 + s0)), zR s2] sh pp mm Q := s_go cM_type_80 cM_type_81 rfl rfl
theorem rM_type_81 {a0 s1 : Nat} {a2 a5 s0 : Int} {u1 u3 u4 : zV} : zS 177 81 [zR a0, u1, zL a2, u3, u4, zI a5] [zI s0, zR s1] sh pp mm Q ↔ zS 177 82 [zR a0, zU, zL a2, zU, zU, zI a5] [zL a2, zI s0, zR s1] sh pp mm Q := s_go cM_type_81 cM_type_82 rfl rfl
theorem rM_type_82 {a0 s2 : Nat} {a2 a5 s0 s1 : Int} {u1 u3 u4 : zV} : zS 177 82 [zR a0, u1, zL a2, u3, u4, zI a5] [zL s0, zI s1, zR s2] sh pp mm Q ↔ zS 177 84 [zR a0, zU, zL a2, zU, zU, zI a5] [zI 8, zL s0, zI s1, zR s2] sh pp mm Q := s_go cM_type_82 cM_type_84 rfl rfl
theorem rM_type_84 {a0 s3 : Nat} {a2 a5 s0 s1 s2 : Int} {u1 u3 u4 : zV} : zS 177 84 [zR a0, u1, zL a2, u3, u4, zI a5] [zI s0, zL s1, zI s2, zR s3] sh pp mm Q ↔ zS 177 86 [zR a0, zU, zL a2, zU, zU, zI a5] [zI a5, zI s0, zL s1, zI s2, zR s3] sh pp mm Q := s_go cM_type_84 cM_type_86 rfl rfl
theorem rM_type_86 {a0 s4 : Nat} {a2 a5 s0 s1 s2 s3 : Int} {u1 u3 u4 : zV} : zS 177 86 [zR a0, u1, zL a2, u3, u4, zI a5] [zI s0, zI s1, zL s2, zI s3, zR s4] sh pp mm Q ↔ zS 177 87 [zR a0, zU, zL a2, zU, zU, zI a5] [zI (zw32 (s1 * s0)), zL s2, zI s3, zR s4] sh pp mm Q := s_go cM_type_86 cM_type_87 rfl rfl
theorem rM_type_87 {a0 s3 : Nat} {a2 a5 s0 s1 s2 : Int} {u1 u3 u4 : zV} : zS 177 87 [zR a0, u1, zL a2, u3, u4, zI a5] [zI s0, zL s1, zI s2, zR s3] sh pp mm Q ↔ zS 177 88 [zR a0, zU, zL a2, zU, zU, zI a5] [zL (zlushr s1 s0), zI s2, zR s3] sh pp mm Q := s_go cM_type_87 cM_type_88 rfl rfl
theorem rM_type_88 {a0 s2 : Nat} {a2 a5 s0 s1 : Int} {u1 u3 u4 : zV} : zS 177 88 [zR a0, u1, zL a2, u3, u4, zI a5] [zL s0, zI s1, zR s2] sh pp mm Q ↔ zS 177 91 [zR a0, zU, zL a2, zU, zU, zI a5] [zL 255, zL s0, zI s1, zR s2] sh pp mm Q := s_go cM_type_88 cM_type_91 rfl rfl
theorem rM_type_91 {a0 s3 : Nat} {a2 a5 s0 s1 s2 : Int} {u1 u3 u4 : zV} : zS 177 91 [zR a0, u1, zL a2, u3, u4, zI a5] [zL s0, zL s1, zI s2, zR s3] sh pp mm Q ↔ zS 177 92 [zR a0, zU, zL a2, zU, zU, zI a5] [zL (zland s1 s0), zI s2, zR s3] sh pp mm Q := s_go cM_type_91 cM_type_92 rfl rfl
theorem rM_type_92 {a0 s2 : Nat} {a2 a5 s0 s1 : Int} {u1 u3 u4 : zV} : zS 177 92 [zR a0, u1, zL a2, u3, u4, zI a5] [zL s0, zI s1, zR s2] sh pp mm Q ↔ zS 177 93 [zR a0, zU, zL a2, zU, zU, zI a5] [zI (zw32 s0), zI s1, zR s2] sh pp mm Q := s_go cM_type_92 cM_type_93 rfl rfl
theorem rM_type_93 {a0 s2 : Nat} {a2 a5 s0 s1 : Int} {u1 u3 u4 : zV} (hk : zKd sh s2 = 20) (h0 : 0 ≤ s1) (h1 : s1 < zLn sh s2) : zS 177 93 [zR a0, u1, zL a2, u3, u4, zI a5] [zI s0, zI s1, zR s2] sh pp mm Q ↔ zS 177 94 [zR a0, zU, zL a2, zU, zU, zI a5] [] sh pp (zupd mm s2 s1 s0) Q := s_go cM_type_93 cM_type_94 (if_pos ⟨hk, h0, h1, fun h => absurd h (by decide)⟩) rfl
theorem rM_type_94 {a0 : Nat} {a2 a5 : Int} {u1 u3 u4 : zV} : zS 177 94 [zR a0, u1, zL a2, u3, u4, zI a5] [] sh pp mm Q ↔ zS 177 95 [zR a0, zU, zL a2, zU, zU, zI a5] [zR a0] sh pp mm Q := s_go cM_type_94 cM_type_95 rfl rfl
theorem rM_type_95 {a0 s0 : Nat} {a2 a5 : Int} {u1 u3 u4 : zV} (hk : zKd sh s0 = 12) : zS 177 95 [zR a0, u1, zL a2, u3, u4, zI a5] [zR s0] sh pp mm Q ↔ zS 177 98 [zR a0, zU, zL a2, zU, zU, zI a5] [zR (pp s0 0)] sh pp mm Q := s_go cM_type_95 cM_type_98 (if_pos hk) rfl
theorem rM_type_98 {a0 s0 : Nat} {a2 a5 : Int} {u1 u3 u4 : zV} : zS 177 98 [zR a0, u1, zL a2, u3, u4, zI a5] [zR s0] sh pp mm Q ↔ zS 177 100 [zR a0, zU, zL a2, zU, zU, zI a5] [zI 9, zR s0] sh pp mm Q := s_go cM_type_98 cM_type_100 rfl rfl
theorem rM_type_100 {a0 s1 : Nat} {a2 a5 s0 : Int} {u1 u3 u4 : zV} : zS 177 100 [zR a0, u1, zL a2, u3, u4, zI a5] [zI s0, zR s1] sh pp mm Q ↔ zS 177 102 [zR a0, zU, zL a2, zU, zU, zI a5] [zI 121, zI s0, zR s1] sh pp mm Q := s_go cM_type_100 cM_type_102 rfl rfl
theorem rM_type_102 {a0 s2 : Nat} {a2 a5 s0 s1 : Int} {u1 u3 u4 : zV} : zS 177 102 [zR a0, u1, zL a2, u3, u4, zI a5] [zI s0, zI s1, zR s2] sh pp mm Q ↔ zS 177 103 [zR a0, zU, zL a2, zU, zU, zI a5] [zR a0, zI s0, zI s1, zR s2] sh pp mm Q := s_go cM_type_102 cM_type_103 rfl rfl
theorem rM_type_103 {a0 s0 s3 : Nat} {a2 a5 s1 s2 : Int} {u1 u3 u4 : zV} (hk : zKd sh s0 = 12) : zS 177 103 [zR a0, u1, zL a2, u3, u4, zI a5] [zR s0, zI s1, zI s2, zR s3] sh pp mm Q ↔ zS 177 106 [zR a0, zU, zL a2, zU, zU, zI a5] [zI (mm s0 7), zI s1, zI s2, zR s3] sh pp mm Q := s_go cM_type_103 cM_type_106 (if_pos hk) rfl
theorem rM_type_106 {a0 s3 : Nat} {a2 a5 s0 s1 s2 : Int} {u1 u3 u4 : zV} : zS 177 106 [zR a0, u1, zL a2, u3, u4, zI a5] [zI s0, zI s1, zI s2, zR s3] sh pp mm Q ↔ zS 177 107 [zR a0, zU, zL a2, zU, zU, zI a5] [zI (zw32 (s1 * s0)), zI s2, zR s3] sh pp mm Q := s_go cM_type_106 cM_type_107 rfl rfl
theorem rM_type_107 {a0 s2 : Nat} {a2 a5 s0 s1 : Int} {u1 u3 u4 : zV} : zS 177 107 [zR a0, u1, zL a2, u3, u4, zI a5] [zI s0, zI s1, zR s2] sh pp mm Q ↔ zS 177 108 [zR a0, zU, zL a2, zU, zU, zI a5] [zI (zw32 (s1 + s0)), zR s2] sh pp mm Q := s_go cM_type_107 cM_type_108 rfl rfl
theorem rM_type_108 {a0 s1 : Nat} {a2 a5 s0 : Int} {u1 u3 u4 : zV} : zS 177 108 [zR a0, u1, zL a2, u3, u4, zI a5] [zI s0, zR s1] sh pp mm Q ↔ zS 177 109 [zR a0, zU, zL a2, zU, zU, zI a5] [zI s0, zR s1, zI s0, zR s1] sh pp mm Q := s_go cM_type_108 cM_type_109 rfl rfl
theorem rM_type_109 {a0 s1 s3 : Nat} {a2 a5 s0 s2 : Int} {u1 u3 u4 : zV} (hk : zKd sh s1 = 20 ∨ zKd sh s1 = 30) (h0 : 0 ≤ s0) (h1 : s0 < zLn sh s1) : zS 177 109 [zR a0, u1, zL a2, u3, u4, zI a5] [zI s0, zR s1, zI s2, zR s3] sh pp mm Q ↔ zS 177 110 [zR a0, zU, zL a2, zU, zU, zI a5] [zI (mm s1 s0), zI s2, zR s3] sh pp mm Q := s_go cM_type_109 cM_type_110 (if_pos ⟨hk, h0, h1⟩) rfl
theorem rM_type_110 {a0 s2 : Nat} {a2 a5 s0 s1 : Int} {u1 u3 u4 : zV} : zS 177 110 [zR a0, u1, zL a2, u3, u4, zI a5] [zI s0, zI s1, zR s2] sh pp mm Q ↔ zS 177 111 [zR a0, zU, zL a2, zU, zU, zI a5] [zI 1, zI s0, zI s1, zR s2] sh pp mm Q := s_go cM_type_110 cM_type_111 rfl rfl
theorem rM_type_111 {a0 s3 : Nat} {a2 a5 s0 s1 s2 : Int} {u1 u3 u4 : zV} : zS 177 111 [zR a0, u1, zL a2, u3, u4, zI a5] [zI s0, zI s1, zI s2, zR s3] sh pp mm Q ↔ zS 177 112 [zR a0, zU, zL a2, zU, zU, zI a5] [zI (zw32 (s1 + s0)), zI s2, zR s3] sh pp mm Q := s_go cM_type_111 cM_type_112 rfl rfl
theorem rM_type_112 {a0 s2 : Nat} {a2 a5 s0 s1 : Int} {u1 u3 u4 : zV} (hk : zKd sh s2 = 20) (h0 : 0 ≤ s1) (h1 : s1 < zLn sh s2) : zS 177 112 [zR a0, u1, zL a2, u3, u4, zI a5] [zI s0, zI s1, zR s2] sh pp mm Q ↔ zS 177 113 [zR a0, zU, zL a2, zU, zU, zI a5] [] sh pp (zupd mm s2 s1 s0) Q := s_go cM_type_112 cM_type_113 (if_pos ⟨hk, h0, h1, fun h => absurd h (by decide)⟩) rfl
theorem rM_type_113 {a0 : Nat} {a2 a5 : Int} {u1 u3 u4 : zV} : zS 177 113 [zR a0, u1, zL a2, u3, u4, zI a5] [] sh pp mm Q ↔ zS 177 116 [zR a0, zU, zL a2, zU, zU, zI (zw32 (a5 + (-1)))] [] sh pp mm Q := s_go cM_type_113 cM_type_116 rfl rfl
theorem rM_type_116 {a0 : Nat} {a2 a5 : Int} {u1 u3 u4 : zV} : zS 177 116 [zR a0, u1, zL a2, u3, u4, zI a5] [] sh pp mm Q ↔ zS 177 55 [zR a0, zU, zL a2, zU, zU, zI a5] [] sh pp mm Q := s_go cM_type_116 cM_type_55 rfl rfl
theorem rM_type_119 {a0 : Nat} {u1 u2 u3 u4 u5 : zV} : zS 177 119 [zR a0, u1, u2, u3, u4, u5] [] sh pp mm Q ↔ zS 177 120 [zU, zU, zU, zU, zU, zU] [zR a0] sh pp mm Q := s_go cM_type_119 cM_type_120 rfl rfl
theorem rM_type_120 {s0 : Nat} {u0 u1 u2 u3 u4 u5 : zV} (hk : zKd sh s0 = 12) : zS 177 120 [u0, u1, u2, u3, u4, u5] [zR s0] sh pp mm Q ↔ zS 175 0 [zR s0] [] sh pp mm (fun v sh pp mm => zS 177 123 [zU, zU, zU, zU, zU, zU] (zPush v []) sh pp mm Q) := s_call cM_type_120 cM_type_123 ((if_pos hk).trans rfl) rfl
theorem rM_type_123 {s0 : Int} {u0 u1 u2 u3 u4 u5 : zV} : zS 177 123 [u0, u1, u2, u3, u4, u5] [zI s0] sh pp mm Q ↔ Q (zI s0) sh pp mm := s_ret cM_type_123 rfl
theorem cAM_clear : ∀ q ∈ zT178, zCode 178 q.1 = some q.2 := zAll (mid := 178) rfl (by decide +kernel)
theorem cAM_clear_0 : ∀ q ∈ zT178_0, zCode 178 q.1 = some q.2 := fun q h => cAM_clear q (List.mem_append_left _ h)
theorem cAM_clear_1 : ∀ q ∈ zT178_1, zCode 178 q.1 = some q.2 := fun q h => cAM_clear q (List.mem_append_right _ h)
theorem cM_clear_0 : zCode 178 0 = some (.iload_n 1, 1, 0, 0, 0, 0, 3) := cAM_clear_0 _ (List.mem_of_getElem? (i := 0) rfl)
theorem cM_clear_1 : zCode 178 1 = some (.invokestatic 147, 4, 173, 1, 1, 12, 3) := cAM_clear_0 _ (List.mem_of_getElem? (i := 1) rfl)
theorem cM_clear_4 : zCode 178 4 = some (.ifCond .ne 10, 7, 14, 0, 0, 0, 3) := cAM_clear_0 _ (List.mem_of_getElem? (i := 2) rfl)
theorem cM_clear_7 : zCode 178 7 = some (.aload_n 0, 8, 0, 0, 0, 0, 1) := cAM_clear_0 _ (List.mem_of_getElem? (i := 3) rfl)
theorem cM_clear_8 : zCode 178 8 = some (.bipush (-2), 10, 0, 0, 0, 0, 0) := cAM_clear_0 _ (List.mem_of_getElem? (i := 4) rfl)
theorem cM_clear_10 : zCode 178 10 = some (.invokevirtual 132, 13, 152, 1, 2, 12, 0) := cAM_clear_0 _ (List.mem_of_getElem? (i := 5) rfl)
theorem cM_clear_13 : zCode 178 13 = some (.ireturn, 14, 0, 0, 0, 0, 0) := cAM_clear_0 _ (List.mem_of_getElem? (i := 6) rfl)
theorem cM_clear_14 : zCode 178 14 = some (.aload_n 0, 15, 0, 0, 0, 0, 3) := cAM_clear_0 _ (List.mem_of_getElem? (i := 7) rfl)
theorem cM_clear_15 : zCode 178 15 = some (.getfield 7, 18, 12, 0, 2, 1209, 3) := cAM_clear_0 _ (List.mem_of_getElem? (i := 8) rfl)
theorem cM_clear_18 : zCode 178 18 = some (.bipush 9, 20, 0, 0, 0, 0, 3) := cAM_clear_0 _ (List.mem_of_getElem? (i := 9) rfl)
theorem cM_clear_20 : zCode 178 20 = some (.bipush 121, 22, 0, 0, 0, 0, 3) := cAM_clear_0 _ (List.mem_of_getElem? (i := 10) rfl)
theorem cM_clear_22 : zCode 178 22 = some (.iload_n 1, 23, 0, 0, 0, 0, 3) := cAM_clear_0 _ (List.mem_of_getElem? (i := 11) rfl)
theorem cM_clear_23 : zCode 178 23 = some (.imul, 24, 0, 0, 0, 0, 3) := cAM_clear_0 _ (List.mem_of_getElem? (i := 12) rfl)
theorem cM_clear_24 : zCode 178 24 = some (.iadd, 25, 0, 0, 0, 0, 3) := cAM_clear_0 _ (List.mem_of_getElem? (i := 13) rfl)
theorem cM_clear_25 : zCode 178 25 = some (.iaload, 26, 0, 0, 0, 0, 3) := cAM_clear_0 _ (List.mem_of_getElem? (i := 14) rfl)
theorem cM_clear_26 : zCode 178 26 = some (.istore_n 2, 27, 0, 0, 0, 0, 3) := cAM_clear_0 _ (List.mem_of_getElem? (i := 15) rfl)
theorem cM_clear_27 : zCode 178 27 = some (.aload_n 0, 28, 0, 0, 0, 0, 7) := cAM_clear_1 _ (List.mem_of_getElem? (i := 0) rfl)
theorem cM_clear_28 : zCode 178 28 = some (.getfield 7, 31, 12, 0, 2, 1209, 6) := cAM_clear_1 _ (List.mem_of_getElem? (i := 1) rfl)
theorem cM_clear_31 : zCode 178 31 = some (.bipush 9, 33, 0, 0, 0, 0, 6) := cAM_clear_1 _ (List.mem_of_getElem? (i := 2) rfl)
theorem cM_clear_33 : zCode 178 33 = some (.bipush 121, 35, 0, 0, 0, 0, 6) := cAM_clear_1 _ (List.mem_of_getElem? (i := 3) rfl)
theorem cM_clear_35 : zCode 178 35 = some (.iload_n 1, 36, 0, 0, 0, 0, 6) := cAM_clear_1 _ (List.mem_of_getElem? (i := 4) rfl)
theorem cM_clear_36 : zCode 178 36 = some (.imul, 37, 0, 0, 0, 0, 4) := cAM_clear_1 _ (List.mem_of_getElem? (i := 5) rfl)
theorem cM_clear_37 : zCode 178 37 = some (.iadd, 38, 0, 0, 0, 0, 4) := cAM_clear_1 _ (List.mem_of_getElem? (i := 6) rfl)
theorem cM_clear_38 : zCode 178 38 = some (.iconst 0, 39, 0, 0, 0, 0, 4) := cAM_clear_1 _ (List.mem_of_getElem? (i := 7) rfl)
theorem cM_clear_39 : zCode 178 39 = some (.iastore, 40, 0, 0, 0, 0, 4) := cAM_clear_1 _ (List.mem_of_getElem? (i := 8) rfl)
theorem cM_clear_40 : zCode 178 40 = some (.iload_n 2, 41, 0, 0, 0, 0, 4) := cAM_clear_1 _ (List.mem_of_getElem? (i := 9) rfl)
theorem cM_clear_41 : zCode 178 41 = some (.ireturn, 42, 0, 0, 0, 0, 0) := cAM_clear_1 _ (List.mem_of_getElem? (i := 10) rfl)
theorem rM_clear_0 {a0 : Nat} {a1 : Int} {u2 : zV} : zS 178 0 [zR a0, zI a1, u2] [] sh pp mm Q ↔ zS 178 1 [zR a0, zI a1, zU] [zI a1] sh pp mm Q := s_go cM_clear_0 cM_clear_1 rfl rfl
theorem rM_clear_1 {a0 : Nat} {a1 s0 : Int} {u2 : zV} : zS 178 1 [zR a0, zI a1, u2] [zI s0] sh pp mm Q ↔ zS 173 0 [zI s0] [] sh pp mm (fun v sh pp mm => zS 178 4 [zR a0, zI a1, zU] (zPush v []) sh pp mm Q) := s_call cM_clear_1 cM_clear_4 rfl rfl
theorem rM_clear_4 {a0 : Nat} {a1 s0 : Int} {u2 : zV} : zS 178 4 [zR a0, zI a1, u2] [zI s0] sh pp mm Q ↔ (s0 = 0 → zS 178 7 [zR a0, zU, zU] [] sh pp mm Q) ∧ (¬ s0 = 0 → zS 178 14 [zR a0, zI a1, zU] [] sh pp mm Q) := s_ifn cM_clear_4 cM_clear_7 cM_clear_14 rfl rfl rfl
theorem rM_clear_7 {a0 : Nat} {u1 u2 : zV} : zS 178 7 [zR a0, u1, u2] [] sh pp mm Q ↔ zS 178 8 [zU, zU, zU] [zR a0] sh pp mm Q := s_go cM_clear_7 cM_clear_8 rfl rfl
theorem rM_clear_8 {s0 : Nat} {u0 u1 u2 : zV} : zS 178 8 [u0, u1, u2] [zR s0] sh pp mm Q ↔ zS 178 10 [zU, zU, zU] [zI (-2), zR s0] sh pp mm Q := s_go cM_clear_8 cM_clear_10 rfl rfl
theorem rM_clear_10 {s1 : Nat} {s0 : Int} {u0 u1 u2 : zV} (hk : zKd sh s1 = 12) : zS 178 10 [u0, u1, u2] [zI s0, zR s1] sh pp mm Q ↔ zS 152 0 [zR s1, zI s0] [] sh pp mm (fun v sh pp mm => zS 178 13 [zU, zU, zU] (zPush v []) sh pp mm Q) := s_call cM_clear_10 cM_clear_13 ((if_pos hk).trans rfl) rfl
theorem rM_clear_13 {s0 : Int} {u0 u1 u2 : zV} : zS 178 13 [u0, u1, u2] [zI s0] sh pp mm Q ↔ Q (zI s0) sh pp mm := s_ret cM_clear_13 rfl
theorem rM_clear_14 {a0 : Nat} {a1 : Int} {u2 : zV} : zS 178 14 [zR a0, zI a1, u2] [] sh pp mm Q ↔ zS 178 15 [zR a0, zI a1, zU] [zR a0] sh pp mm Q := s_go cM_clear_14 cM_clear_15 rfl rfl
theorem rM_clear_15 {a0 s0 : Nat} {a1 : Int} {u2 : zV} (hk : zKd sh s0 = 12) : zS 178 15 [zR a0, zI a1, u2] [zR s0] sh pp mm Q ↔ zS 178 18 [zR a0, zI a1, zU] [zR (pp s0 0)] sh pp mm Q := s_go cM_clear_15 cM_clear_18 (if_pos hk) rfl
theorem rM_clear_18 {a0 s0 : Nat} {a1 : Int} {u2 : zV} : zS 178 18 [zR a0, zI a1, u2] [zR s0] sh pp mm Q ↔ zS 178 20 [zR a0, zI a1, zU] [zI 9, zR s0] sh pp mm Q := s_go cM_clear_18 cM_clear_20 rfl rfl
theorem rM_clear_20 {a0 s1 : Nat} {a1 s0 : Int} {u2 : zV} : zS 178 20 [zR a0, zI a1, u2] [zI s0, zR s1] sh pp mm Q ↔ zS 178 22 [zR a0, zI a1, zU] [zI 121, zI s0, zR s1] sh pp mm Q := s_go cM_clear_20 cM_clear_22 rfl rfl
theorem rM_clear_22 {a0 s2 : Nat} {a1 s0 s1 : Int} {u2 : zV} : zS 178 22 [zR a0, zI a1, u2] [zI s0, zI s1, zR s2] sh pp mm Q ↔ zS 178 23 [zR a0, zI a1, zU] [zI a1, zI s0, zI s1, zR s2] sh pp mm Q := s_go cM_clear_22 cM_clear_23 rfl rfl
theorem rM_clear_23 {a0 s3 : Nat} {a1 s0 s1 s2 : Int} {u2 : zV} : zS 178 23 [zR a0, zI a1, u2] [zI s0, zI s1, zI s2, zR s3] sh pp mm Q ↔ zS 178 24 [zR a0, zI a1, zU] [zI (zw32 (s1 * s0)), zI s2, zR s3] sh pp mm Q := s_go cM_clear_23 cM_clear_24 rfl rfl
theorem rM_clear_24 {a0 s2 : Nat} {a1 s0 s1 : Int} {u2 : zV} : zS 178 24 [zR a0, zI a1, u2] [zI s0, zI s1, zR s2] sh pp mm Q ↔ zS 178 25 [zR a0, zI a1, zU] [zI (zw32 (s1 + s0)), zR s2] sh pp mm Q := s_go cM_clear_24 cM_clear_25 rfl rfl
theorem rM_clear_25 {a0 s1 : Nat} {a1 s0 : Int} {u2 : zV} (hk : zKd sh s1 = 20 ∨ zKd sh s1 = 30) (h0 : 0 ≤ s0) (h1 : s0 < zLn sh s1) : zS 178 25 [zR a0, zI a1, u2] [zI s0, zR s1] sh pp mm Q ↔ zS 178 26 [zR a0, zI a1, zU] [zI (mm s1 s0)] sh pp mm Q := s_go cM_clear_25 cM_clear_26 (if_pos ⟨hk, h0, h1⟩) rfl
theorem rM_clear_26 {a0 : Nat} {a1 s0 : Int} {u2 : zV} : zS 178 26 [zR a0, zI a1, u2] [zI s0] sh pp mm Q ↔ zS 178 27 [zR a0, zI a1, zI s0] [] sh pp mm Q := s_go cM_clear_26 cM_clear_27 rfl rfl
theorem rM_clear_27 {a0 : Nat} {a1 a2 : Int} : zS 178 27 [zR a0, zI a1, zI a2] [] sh pp mm Q ↔ zS 178 28 [zU, zI a1, zI a2] [zR a0] sh pp mm Q := s_go cM_clear_27 cM_clear_28 rfl rfl
theorem rM_clear_28 {s0 : Nat} {a1 a2 : Int} {u0 : zV} (hk : zKd sh s0 = 12) : zS 178 28 [u0, zI a1, zI a2] [zR s0] sh pp mm Q ↔ zS 178 31 [zU, zI a1, zI a2] [zR (pp s0 0)] sh pp mm Q := s_go cM_clear_28 cM_clear_31 (if_pos hk) rfl
theorem rM_clear_31 {s0 : Nat} {a1 a2 : Int} {u0 : zV} : zS 178 31 [u0, zI a1, zI a2] [zR s0] sh pp mm Q ↔ zS 178 33 [zU, zI a1, zI a2] [zI 9, zR s0] sh pp mm Q := s_go cM_clear_31 cM_clear_33 rfl rfl
theorem rM_clear_33 {s1 : Nat} {a1 a2 s0 : Int} {u0 : zV} : zS 178 33 [u0, zI a1, zI a2] [zI s0, zR s1] sh pp mm Q ↔ zS 178 35 [zU, zI a1, zI a2] [zI 121, zI s0, zR s1] sh pp mm Q := s_go cM_clear_33 cM_clear_35 rfl rfl
theorem rM_clear_35 {s2 : Nat} {a1 a2 s0 s1 : Int} {u0 : zV} : zS 178 35 [u0, zI a1, zI a2] [zI s0, zI s1, zR s2] sh pp mm Q ↔ zS 178 36 [zU, zU, zI a2] [zI a1, zI s0, zI s1, zR s2] sh pp mm Q := s_go cM_clear_35 cM_clear_36 rfl rfl
theorem rM_clear_36 {s3 : Nat} {a2 s0 s1 s2 : Int} {u0 u1 : zV} : zS 178 36 [u0, u1, zI a2] [zI s0, zI s1, zI s2, zR s3] sh pp mm Q ↔ zS 178 37 [zU, zU, zI a2] [zI (zw32 (s1 * s0)), zI s2, zR s3] sh pp mm Q := s_go cM_clear_36 cM_clear_37 rfl rfl
theorem rM_clear_37 {s2 : Nat} {a2 s0 s1 : Int} {u0 u1 : zV} : zS 178 37 [u0, u1, zI a2] [zI s0, zI s1, zR s2] sh pp mm Q ↔ zS 178 38 [zU, zU, zI a2] [zI (zw32 (s1 + s0)), zR s2] sh pp mm Q := s_go cM_clear_37 cM_clear_38 rfl rfl
theorem rM_clear_38 {s1 : Nat} {a2 s0 : Int} {u0 u1 : zV} : zS 178 38 [u0, u1, zI a2] [zI s0, zR s1] sh pp mm Q ↔ zS 178 39 [zU, zU, zI a2] [zI 0, zI s0, zR s1] sh pp mm Q := s_go cM_clear_38 cM_clear_39 rfl rfl
theorem rM_clear_39 {s2 : Nat} {a2 s0 s1 : Int} {u0 u1 : zV} (hk : zKd sh s2 = 20) (h0 : 0 ≤ s1) (h1 : s1 < zLn sh s2) : zS 178 39 [u0, u1, zI a2] [zI s0, zI s1, zR s2] sh pp mm Q ↔ zS 178 40 [zU, zU, zI a2] [] sh pp (zupd mm s2 s1 s0) Q := s_go cM_clear_39 cM_clear_40 (if_pos ⟨hk, h0, h1, fun h => absurd h (by decide)⟩) rfl
theorem rM_clear_40 {a2 : Int} {u0 u1 : zV} : zS 178 40 [u0, u1, zI a2] [] sh pp mm Q ↔ zS 178 41 [zU, zU, zU] [zI a2] sh pp mm Q := s_go cM_clear_40 cM_clear_41 rfl rfl
theorem rM_clear_41 {s0 : Int} {u0 u1 u2 : zV} : zS 178 41 [u0, u1, u2] [zI s0] sh pp mm Q ↔ Q (zI s0) sh pp mm := s_ret cM_clear_41 rfl
theorem cAM_isSmall : ∀ q ∈ zT179, zCode 179 q.1 = some q.2 := zAll (mid := 179) rfl (by decide +kernel)
theorem cAM_isSmall_0 : ∀ q ∈ zT179_0, zCode 179 q.1 = some q.2 := fun q h => cAM_isSmall q (h)
theorem cM_isSmall_0 : zCode 179 0 = some (.iload_n 0, 1, 0, 0, 0, 0, 1) := cAM_isSmall_0 _ (List.mem_of_getElem? (i := 0) rfl)
theorem cM_isSmall_1 : zCode 179 1 = some (.i2l, 2, 0, 0, 0, 0, 0) := cAM_isSmall_0 _ (List.mem_of_getElem? (i := 1) rfl)
theorem cM_isSmall_2 : zCode 179 2 = some (.ldc2_w 159, 5, 0, 0, 1387, 97, 0) := cAM_isSmall_0 _ (List.mem_of_getElem? (i := 2) rfl)
theorem cM_isSmall_5 : zCode 179 5 = some (.ldc2_w 161, 8, 0, 0, 1388, 122, 0) := cAM_isSmall_0 _ (List.mem_of_getElem? (i := 3) rfl)
theorem cM_isSmall_8 : zCode 179 8 = some (.invokestatic 121, 11, 151, 3, 6, 12, 0) := cAM_isSmall_0 _ (List.mem_of_getElem? (i := 4) rfl)
theorem cM_isSmall_11 : zCode 179 11 = some (.ireturn, 12, 0, 3, 0, 0, 0) := cAM_isSmall_0 _ (List.mem_of_getElem? (i := 5) rfl)
theorem rM_isSmall_0 {a0 : Int} : zS 179 0 [zI a0] [] sh pp mm Q ↔ zS 179 1 [zU] [zI a0] sh pp mm Q := s_go cM_isSmall_0 cM_isSmall_1 rfl rfl
theorem rM_isSmall_1 {s0 : Int} {u0 : zV} : zS 179 1 [u0] [zI s0] sh pp mm Q ↔ zS 179 2 [zU] [zL s0] sh pp mm Q := s_go cM_isSmall_1 cM_isSmall_2 rfl rfl
theorem rM_isSmall_2 {s0 : Int} {u0 : zV} : zS 179 2 [u0] [zL s0] sh pp mm Q ↔ zS 179 5 [zU] [zL 97, zL s0] sh pp mm Q := s_go cM_isSmall_2 cM_isSmall_5 rfl rfl
theorem rM_isSmall_5 {s0 s1 : Int} {u0 : zV} : zS 179 5 [u0] [zL s0, zL s1] sh pp mm Q ↔ zS 179 8 [zU] [zL 122, zL s0, zL s1] sh pp mm Q := s_go cM_isSmall_5 cM_isSmall_8 rfl rfl
theorem rM_isSmall_8 {s0 s1 s2 : Int} {u0 : zV} : zS 179 8 [u0] [zL s0, zL s1, zL s2] sh pp mm Q ↔ zS 151 0 [zL s2, zU, zL s1, zU, zL s0, zU] [] sh pp mm (fun v sh pp mm => zS 179 11 [zU] (zPush v []) sh pp mm Q) := s_call cM_isSmall_8 cM_isSmall_11 rfl rfl
theorem rM_isSmall_11 {s0 : Int} {u0 : zV} (hb : s0 = 0 ∨ s0 = 1) : zS 179 11 [u0] [zI s0] sh pp mm Q ↔ Q (zI s0) sh pp mm := s_ret cM_isSmall_11 (if_pos (decide_eq_true hb))
theorem cAM_isFigureAt : ∀ q ∈ zT180, zCode 180 q.1 = some q.2 := zAll (mid := 180) rfl (by decide +kernel)
theorem cAM_isFigureAt_0 : ∀ q ∈ zT180_0, zCode 180 q.1 = some q.2 := fun q h => cAM_isFigureAt q (h)
theorem cM_isFigureAt_0 : zCode 180 0 = some (.iload_n 1, 1, 0, 0, 0, 0, 3) := cAM_isFigureAt_0 _ (List.mem_of_getElem? (i := 0) rfl)
theorem cM_isFigureAt_1 : zCode 180 1 = some (.aload_n 0, 2, 0, 0, 0, 0, 3) := cAM_isFigureAt_0 _ (List.mem_of_getElem? (i := 1) rfl)
theorem cM_isFigureAt_2 : zCode 180 2 = some (.invokevirtual 150, 5, 175, 0, 1, 12, 3) := cAM_isFigureAt_0 _ (List.mem_of_getElem? (i := 2) rfl)
theorem cM_isFigureAt_5 : zCode 180 5 = some (.if_icmp .ge 25, 8, 30, 0, 0, 0, 3) := cAM_isFigureAt_0 _ (List.mem_of_getElem? (i := 3) rfl)
theorem cM_isFigureAt_8 : zCode 180 8 = some (.aload_n 0, 9, 0, 0, 0, 0, 3) := cAM_isFigureAt_0 _ (List.mem_of_getElem? (i := 4) rfl)
theorem cM_isFigureAt_9 : zCode 180 9 = some (.iload_n 1, 10, 0, 0, 0, 0, 2) := cAM_isFigureAt_0 _ (List.mem_of_getElem? (i := 5) rfl)
theorem cM_isFigureAt_10 : zCode 180 10 = some (.invokevirtual 163, 13, 176, 1, 2, 12, 0) := cAM_isFigureAt_0 _ (List.mem_of_getElem? (i := 6) rfl)
theorem cM_isFigureAt_13 : zCode 180 13 = some (.i2l, 14, 0, 0, 0, 0, 0) := cAM_isFigureAt_0 _ (List.mem_of_getElem? (i := 7) rfl)
theorem cM_isFigureAt_14 : zCode 180 14 = some (.ldc2_w 166, 17, 0, 0, 1382, 48, 0) := cAM_isFigureAt_0 _ (List.mem_of_getElem? (i := 8) rfl)
theorem cM_isFigureAt_17 : zCode 180 17 = some (.ldc2_w 168, 20, 0, 0, 1383, 57, 0) := cAM_isFigureAt_0 _ (List.mem_of_getElem? (i := 9) rfl)
theorem cM_isFigureAt_20 : zCode 180 20 = some (.invokestatic 121, 23, 151, 3, 6, 12, 0) := cAM_isFigureAt_0 _ (List.mem_of_getElem? (i := 10) rfl)
theorem cM_isFigureAt_23 : zCode 180 23 = some (.ifCond .eq 7, 26, 30, 0, 0, 0, 0) := cAM_isFigureAt_0 _ (List.mem_of_getElem? (i := 11) rfl)
theorem cM_isFigureAt_26 : zCode 180 26 = some (.iconst 1, 27, 0, 0, 0, 0, 0) := cAM_isFigureAt_0 _ (List.mem_of_getElem? (i := 12) rfl)
theorem cM_isFigureAt_27 : zCode 180 27 = some (.goto 4, 30, 31, 0, 0, 0, 0) := cAM_isFigureAt_0 _ (List.mem_of_getElem? (i := 13) rfl)
theorem cM_isFigureAt_30 : zCode 180 30 = some (.iconst 0, 31, 0, 0, 0, 0, 0) := cAM_isFigureAt_0 _ (List.mem_of_getElem? (i := 14) rfl)
theorem cM_isFigureAt_31 : zCode 180 31 = some (.ireturn, 32, 0, 3, 0, 0, 0) := cAM_isFigureAt_0 _ (List.mem_of_getElem? (i := 15) rfl)
theorem rM_isFigureAt_0 {a0 : Nat} {a1 : Int} : zS 180 0 [zR a0, zI a1] [] sh pp mm Q ↔ zS 180 1 [zR a0, zI a1] [zI a1] sh pp mm Q := s_go cM_isFigureAt_0 cM_isFigureAt_1 rfl rfl
theorem rM_isFigureAt_1 {a0 : Nat} {a1 s0 : Int} : zS 180 1 [zR a0, zI a1] [zI s0] sh pp mm Q ↔ zS 180 2 [zR a0, zI a1] [zR a0, zI s0] sh pp mm Q := s_go cM_isFigureAt_1 cM_isFigureAt_2 rfl rfl
theorem rM_isFigureAt_2 {a0 s0 : Nat} {a1 s1 : Int} (hk : zKd sh s0 = 12) : zS 180 2 [zR a0, zI a1] [zR s0, zI s1] sh pp mm Q ↔ zS 175 0 [zR s0] [] sh pp mm (fun v sh pp mm => zS 180 5 [zR a0, zI a1] (zPush v [zI s1]) sh pp mm Q) := s_call cM_isFigureAt_2 cM_isFigureAt_5 ((if_pos hk).trans rfl) rfl
theorem rM_isFigureAt_5 {a0 : Nat} {a1 s0 s1 : Int} : zS 180 5 [zR a0, zI a1] [zI s0, zI s1] sh pp mm Q ↔ (s1 < s0 → zS 180 8 [zR a0, zI a1] [] sh pp mm Q) ∧ (¬ s1 < s0 → zS 180 30 [zU, zU] [] sh pp mm Q) := s_ifn cM_isFigureAt_5 cM_isFigureAt_8 cM_isFigureAt_30 rfl rfl rfl
theorem rM_isFigureAt_8 {a0 : Nat} {a1 : Int} : zS 180 8 [zR a0, zI a1] [] sh pp mm Q ↔ zS 180 9 [zU, zI a1] [zR a0] sh pp mm Q := s_go cM_isFigureAt_8 cM_isFigureAt_9 rfl rfl
theorem rM_isFigureAt_9 {s0 : Nat} {a1 : Int} {u0 : zV} : zS 180 9 [u0, zI a1] [zR s0] sh pp mm Q ↔ zS 180 10 [zU, zU] [zI a1, zR s0] sh pp mm Q := s_go cM_isFigureAt_9 cM_isFigureAt_10 rfl rfl
theorem rM_isFigureAt_10 {s1 : Nat} {s0 : Int} {u0 u1 : zV} (hk : zKd sh s1 = 12) : zS 180 10 [u0, u1] [zI s0, zR s1] sh pp mm Q ↔ zS 176 0 [zR s1, zI s0] [] sh pp mm (fun v sh pp mm => zS 180 13 [zU, zU] (zPush v []) sh pp mm Q) := s_call cM_isFigureAt_10 cM_isFigureAt_13 ((if_pos hk).trans rfl) rfl
theorem rM_isFigureAt_13 {s0 : Int} {u0 u1 : zV} : zS 180 13 [u0, u1] [zI s0] sh pp mm Q ↔ zS 180 14 [zU, zU] [zL s0] sh pp mm Q := s_go cM_isFigureAt_13 cM_isFigureAt_14 rfl rfl
theorem rM_isFigureAt_14 {s0 : Int} {u0 u1 : zV} : zS 180 14 [u0, u1] [zL s0] sh pp mm Q ↔ zS 180 17 [zU, zU] [zL 48, zL s0] sh pp mm Q := s_go cM_isFigureAt_14 cM_isFigureAt_17 rfl rfl
theorem rM_isFigureAt_17 {s0 s1 : Int} {u0 u1 : zV} : zS 180 17 [u0, u1] [zL s0, zL s1] sh pp mm Q ↔ zS 180 20 [zU, zU] [zL 57, zL s0, zL s1] sh pp mm Q := s_go cM_isFigureAt_17 cM_isFigureAt_20 rfl rfl
theorem rM_isFigureAt_20 {s0 s1 s2 : Int} {u0 u1 : zV} : zS 180 20 [u0, u1] [zL s0, zL s1, zL s2] sh pp mm Q ↔ zS 151 0 [zL s2, zU, zL s1, zU, zL s0, zU] [] sh pp mm (fun v sh pp mm => zS 180 23 [zU, zU] (zPush v []) sh pp mm Q) := s_call cM_isFigureAt_20 cM_isFigureAt_23 rfl rfl
theorem rM_isFigureAt_23 {s0 : Int} {u0 u1 : zV} : zS 180 23 [u0, u1] [zI s0] sh pp mm Q ↔ (s0 = 0 → zS 180 30 [zU, zU] [] sh pp mm Q) ∧ (¬ s0 = 0 → zS 180 26 [zU, zU] [] sh pp mm Q) := s_if cM_isFigureAt_23 cM_isFigureAt_30 cM_isFigureAt_26 rfl rfl rfl
theorem rM_isFigureAt_26 {u0 u1 : zV} : zS 180 26 [u0, u1] [] sh pp mm Q ↔ zS 180 27 [zU, zU] [zI 1] sh pp mm Q := s_go cM_isFigureAt_26 cM_isFigureAt_27 rfl rfl
theorem rM_isFigureAt_27 {s0 : Int} {u0 u1 : zV} : zS 180 27 [u0, u1] [zI s0] sh pp mm Q ↔ zS 180 31 [zU, zU] [zI s0] sh pp mm Q := s_go cM_isFigureAt_27 cM_isFigureAt_31 rfl rfl
theorem rM_isFigureAt_30 {u0 u1 : zV} : zS 180 30 [u0, u1] [] sh pp mm Q ↔ zS 180 31 [zU, zU] [zI 0] sh pp mm Q := s_go cM_isFigureAt_30 cM_isFigureAt_31 rfl rfl
theorem rM_isFigureAt_31 {s0 : Int} {u0 u1 : zV} (hb : s0 = 0 ∨ s0 = 1) : zS 180 31 [u0, u1] [zI s0] sh pp mm Q ↔ Q (zI s0) sh pp mm := s_ret cM_isFigureAt_31 (if_pos (decide_eq_true hb))
theorem cAM_look : ∀ q ∈ zT181, zCode 181 q.1 = some q.2 := zAll (mid := 181) rfl (by decide +kernel)
theorem cAM_look_0 : ∀ q ∈ zT181_0, zCode 181 q.1 = some q.2 := fun q h => cAM_look q (List.mem_append_left _ h)
theorem cAM_look_1 : ∀ q ∈ zT181_1, zCode 181 q.1 = some q.2 := fun q h => cAM_look q (List.mem_append_right _ (List.mem_append_left _ h))
theorem cAM_look_2 : ∀ q ∈ zT181_2, zCode 181 q.1 = some q.2 := fun q h => cAM_look q (List.mem_append_right _ (List.mem_append_right _ (List.mem_append_left _ h)))
theorem cAM_look_3 : ∀ q ∈ zT181_3, zCode 181 q.1 = some q.2 := fun q h => cAM_look q (List.mem_append_right _ (List.mem_append_right _ (List.mem_append_right _ (List.mem_append_left _ h))))
theorem cAM_look_4 : ∀ q ∈ zT181_4, zCode 181 q.1 = some q.2 := fun q h => cAM_look q (List.mem_append_right _ (List.mem_append_right _ (List.mem_append_right _ (List.mem_append_right _ (List.mem_append_left _ h)))))
theorem cAM_look_5 : ∀ q ∈ zT181_5, zCode 181 q.1 = some q.2 := fun q h => cAM_look q (List.mem_append_right _ (List.mem_append_right _ (List.mem_append_right _ (List.mem_append_right _ (List.mem_append_right _ (List.mem_append_left _ h))))))
theorem cAM_look_6 : ∀ q ∈ zT181_6, zCode 181 q.1 = some q.2 := fun q h => cAM_look q (List.mem_append_right _ (List.mem_append_right _ (List.mem_append_right _ (List.mem_append_right _ (List.mem_append_right _ (List.mem_append_right _ (List.mem_append_left _ h)))))))
theorem cAM_look_7 : ∀ q ∈ zT181_7, zCode 181 q.1 = some q.2 := fun q h => cAM_look q (List.mem_append_right _ (List.mem_append_right _ (List.mem_append_right _ (List.mem_append_right _ (List.mem_append_right _ (List.mem_append_right _ (List.mem_append_right _ (List.mem_append_left _ h))))))))
theorem cAM_look_8 : ∀ q ∈ zT181_8, zCode 181 q.1 = some q.2 := fun q h => cAM_look q (List.mem_append_right _ (List.mem_append_right _ (List.mem_append_right _ (List.mem_append_right _ (List.mem_append_right _ (List.mem_append_right _ (List.mem_append_right _ (List.mem_append_right _ (List.mem_append_left _ h)))))))))
theorem cAM_look_9 : ∀ q ∈ zT181_9, zCode 181 q.1 = some q.2 := fun q h => cAM_look q (List.mem_append_right _ (List.mem_append_right _ (List.mem_append_right _ (List.mem_append_right _ (List.mem_append_right _ (List.mem_append_right _ (List.mem_append_right _ (List.mem_append_right _ (List.mem_append_right _ (List.mem_append_left _ h))))))))))
theorem cAM_look_10 : ∀ q ∈ zT181_10, zCode 181 q.1 = some q.2 := fun q h => cAM_look q (List.mem_append_right _ (List.mem_append_right _ (List.mem_append_right _ (List.mem_append_right _ (List.mem_append_right _ (List.mem_append_right _ (List.mem_append_right _ (List.mem_append_right _ (List.mem_append_right _ (List.mem_append_right _ h))))))))))
theorem cM_look_0 : zCode 181 0 = some (.aload_n 0, 1, 0, 0, 0, 0, 3) := cAM_look_0 _ (List.mem_of_getElem? (i := 0) rfl)
theorem cM_look_1 : zCode 181 1 = some (.iload_n 1, 2, 0, 0, 0, 0, 3) := cAM_look_0 _ (List.mem_of_getElem? (i := 1) rfl)
theorem cM_look_2 : zCode 181 2 = some (.putfield 170, 5, 12, 8, 0, 1217, 1) := cAM_look_0 _ (List.mem_of_getElem? (i := 2) rfl)
theorem cM_look_5 : zCode 181 5 = some (.aload_n 0, 6, 0, 0, 0, 0, 1) := cAM_look_0 _ (List.mem_of_getElem? (i := 3) rfl)
theorem cM_look_6 : zCode 181 6 = some (.getfield 170, 9, 12, 8, 0, 1217, 1) := cAM_look_0 _ (List.mem_of_getElem? (i := 4) rfl)
theorem cM_look_9 : zCode 181 9 = some (.aload_n 0, 10, 0, 0, 0, 0, 1) := cAM_look_0 _ (List.mem_of_getElem? (i := 5) rfl)
theorem cM_look_10 : zCode 181 10 = some (.invokevirtual 150, 13, 175, 0, 1, 12, 1) := cAM_look_0 _ (List.mem_of_getElem? (i := 6) rfl)
theorem cM_look_13 : zCode 181 13 = some (.if_icmp .ge 29, 16, 42, 0, 0, 0, 1) := cAM_look_0 _ (List.mem_of_getElem? (i := 7) rfl)
theorem cM_look_16 : zCode 181 16 = some (.aload_n 0, 17, 0, 0, 0, 0, 1) := cAM_look_0 _ (List.mem_of_getElem? (i := 8) rfl)
theorem cM_look_17 : zCode 181 17 = some (.aload_n 0, 18, 0, 0, 0, 0, 1) := cAM_look_0 _ (List.mem_of_getElem? (i := 9) rfl)
theorem cM_look_18 : zCode 181 18 = some (.getfield 170, 21, 12, 8, 0, 1217, 1) := cAM_look_0 _ (List.mem_of_getElem? (i := 10) rfl)
theorem cM_look_21 : zCode 181 21 = some (.invokevirtual 163, 24, 176, 1, 2, 12, 1) := cAM_look_0 _ (List.mem_of_getElem? (i := 11) rfl)
theorem cM_look_24 : zCode 181 24 = some (.bipush 32, 26, 0, 0, 0, 0, 1) := cAM_look_0 _ (List.mem_of_getElem? (i := 12) rfl)
theorem cM_look_26 : zCode 181 26 = some (.if_icmp .ne 16, 29, 42, 0, 0, 0, 1) := cAM_look_0 _ (List.mem_of_getElem? (i := 13) rfl)
theorem cM_look_29 : zCode 181 29 = some (.aload_n 0, 30, 0, 0, 0, 0, 1) := cAM_look_0 _ (List.mem_of_getElem? (i := 14) rfl)
theorem cM_look_30 : zCode 181 30 = some (.dup, 31, 0, 0, 0, 0, 1) := cAM_look_0 _ (List.mem_of_getElem? (i := 15) rfl)
theorem cM_look_31 : zCode 181 31 = some (.getfield 170, 34, 12, 8, 0, 1217, 1) := cAM_look_1 _ (List.mem_of_getElem? (i := 0) rfl)
theorem cM_look_34 : zCode 181 34 = some (.iconst 1, 35, 0, 0, 0, 0, 1) := cAM_look_1 _ (List.mem_of_getElem? (i := 1) rfl)
theorem cM_look_35 : zCode 181 35 = some (.iadd, 36, 0, 0, 0, 0, 1) := cAM_look_1 _ (List.mem_of_getElem? (i := 2) rfl)
theorem cM_look_36 : zCode 181 36 = some (.putfield 170, 39, 12, 8, 0, 1217, 1) := cAM_look_1 _ (List.mem_of_getElem? (i := 3) rfl)
theorem cM_look_39 : zCode 181 39 = some (.goto (-34), 42, 5, 0, 0, 0, 1) := cAM_look_1 _ (List.mem_of_getElem? (i := 4) rfl)
theorem cM_look_42 : zCode 181 42 = some (.aload_n 0, 43, 0, 0, 0, 0, 1) := cAM_look_1 _ (List.mem_of_getElem? (i := 5) rfl)
theorem cM_look_43 : zCode 181 43 = some (.iconst 0, 44, 0, 0, 0, 0, 1) := cAM_look_1 _ (List.mem_of_getElem? (i := 6) rfl)
theorem cM_look_44 : zCode 181 44 = some (.putfield 173, 47, 12, 9, 0, 1218, 1) := cAM_look_1 _ (List.mem_of_getElem? (i := 7) rfl)
theorem cM_look_47 : zCode 181 47 = some (.aload_n 0, 48, 0, 0, 0, 0, 1) := cAM_look_1 _ (List.mem_of_getElem? (i := 8) rfl)
theorem cM_look_48 : zCode 181 48 = some (.iconst 0, 49, 0, 0, 0, 0, 1) := cAM_look_1 _ (List.mem_of_getElem? (i := 9) rfl)
theorem cM_look_49 : zCode 181 49 = some (.putfield 176, 52, 12, 10, 0, 1219, 1) := cAM_look_1 _ (List.mem_of_getElem? (i := 10) rfl)
theorem cM_look_52 : zCode 181 52 = some (.aload_n 0, 53, 0, 0, 0, 0, 1) := cAM_look_1 _ (List.mem_of_getElem? (i := 11) rfl)
theorem cM_look_53 : zCode 181 53 = some (.iconst 0, 54, 0, 0, 0, 0, 1) := cAM_look_1 _ (List.mem_of_getElem? (i := 12) rfl)
theorem cM_look_54 : zCode 181 54 = some (.putfield 179, 57, 12, 11, 0, 1220, 1) := cAM_look_1 _ (List.mem_of_getElem? (i := 13) rfl)
theorem cM_look_57 : zCode 181 57 = some (.aload_n 0, 58, 0, 0, 0, 0, 1) := cAM_look_1 _ (List.mem_of_getElem? (i := 14) rfl)
theorem cM_look_58 : zCode 181 58 = some (.getfield 170, 61, 12, 8, 0, 1217, 1) := cAM_look_1 _ (List.mem_of_getElem? (i := 15) rfl)
theorem cM_look_61 : zCode 181 61 = some (.aload_n 0, 62, 0, 0, 0, 0, 1) := cAM_look_2 _ (List.mem_of_getElem? (i := 0) rfl)
theorem cM_look_62 : zCode 181 62 = some (.invokevirtual 150, 65, 175, 0, 1, 12, 1) := cAM_look_2 _ (List.mem_of_getElem? (i := 1) rfl)
theorem cM_look_65 : zCode 181 65 = some (.if_icmp .ne 4, 68, 69, 0, 0, 0, 1) := cAM_look_2 _ (List.mem_of_getElem? (i := 2) rfl)
theorem cM_look_68 : zCode 181 68 = some (.return_, 69, 0, 0, 0, 0, 0) := cAM_look_2 _ (List.mem_of_getElem? (i := 3) rfl)
theorem cM_look_69 : zCode 181 69 = some (.aload_n 0, 70, 0, 0, 0, 0, 1) := cAM_look_2 _ (List.mem_of_getElem? (i := 4) rfl)
theorem cM_look_70 : zCode 181 70 = some (.aload_n 0, 71, 0, 0, 0, 0, 1) := cAM_look_2 _ (List.mem_of_getElem? (i := 5) rfl)
theorem cM_look_71 : zCode 181 71 = some (.getfield 170, 74, 12, 8, 0, 1217, 1) := cAM_look_2 _ (List.mem_of_getElem? (i := 6) rfl)
theorem cM_look_74 : zCode 181 74 = some (.invokevirtual 163, 77, 176, 1, 2, 12, 1) := cAM_look_2 _ (List.mem_of_getElem? (i := 7) rfl)
theorem cM_look_77 : zCode 181 77 = some (.istore_n 2, 78, 0, 0, 0, 0, 1) := cAM_look_2 _ (List.mem_of_getElem? (i := 8) rfl)
theorem cM_look_78 : zCode 181 78 = some (.iload_n 2, 79, 0, 0, 0, 0, 5) := cAM_look_2 _ (List.mem_of_getElem? (i := 9) rfl)
theorem cM_look_79 : zCode 181 79 = some (.bipush 45, 81, 0, 0, 0, 0, 5) := cAM_look_2 _ (List.mem_of_getElem? (i := 10) rfl)
theorem cM_look_81 : zCode 181 81 = some (.if_icmp .ne 20, 84, 101, 0, 0, 0, 5) := cAM_look_2 _ (List.mem_of_getElem? (i := 11) rfl)
theorem cM_look_84 : zCode 181 84 = some (.aload_n 0, 85, 0, 0, 0, 0, 5) := cAM_look_2 _ (List.mem_of_getElem? (i := 12) rfl)
theorem cM_look_85 : zCode 181 85 = some (.aload_n 0, 86, 0, 0, 0, 0, 5) := cAM_look_2 _ (List.mem_of_getElem? (i := 13) rfl)
theorem cM_look_86 : zCode 181 86 = some (.getfield 170, 89, 12, 8, 0, 1217, 5) := cAM_look_2 _ (List.mem_of_getElem? (i := 14) rfl)
theorem cM_look_89 : zCode 181 89 = some (.iconst 1, 90, 0, 0, 0, 0, 5) := cAM_look_2 _ (List.mem_of_getElem? (i := 15) rfl)
theorem cM_look_90 : zCode 181 90 = some (.iadd, 91, 0, 0, 0, 0, 5) := cAM_look_3 _ (List.mem_of_getElem? (i := 0) rfl)
theorem cM_look_91 : zCode 181 91 = some (.invokevirtual 182, 94, 180, 1, 2, 12, 5) := cAM_look_3 _ (List.mem_of_getElem? (i := 1) rfl)
theorem cM_look_94 : zCode 181 94 = some (.ifCond .eq 7, 97, 101, 0, 0, 0, 5) := cAM_look_3 _ (List.mem_of_getElem? (i := 2) rfl)
theorem cM_look_97 : zCode 181 97 = some (.iconst 1, 98, 0, 0, 0, 0, 5) := cAM_look_3 _ (List.mem_of_getElem? (i := 3) rfl)
theorem cM_look_98 : zCode 181 98 = some (.goto 4, 101, 102, 0, 0, 0, 5) := cAM_look_3 _ (List.mem_of_getElem? (i := 4) rfl)
theorem cM_look_101 : zCode 181 101 = some (.iconst 0, 102, 0, 0, 0, 0, 5) := cAM_look_3 _ (List.mem_of_getElem? (i := 5) rfl)
theorem cM_look_102 : zCode 181 102 = some (.istore_n 3, 103, 0, 0, 0, 0, 5) := cAM_look_3 _ (List.mem_of_getElem? (i := 6) rfl)
theorem cM_look_103 : zCode 181 103 = some (.aload_n 0, 104, 0, 0, 0, 0, 13) := cAM_look_3 _ (List.mem_of_getElem? (i := 7) rfl)
theorem cM_look_104 : zCode 181 104 = some (.iconst 1, 105, 0, 0, 0, 0, 13) := cAM_look_3 _ (List.mem_of_getElem? (i := 8) rfl)
theorem cM_look_105 : zCode 181 105 = some (.putfield 173, 108, 12, 9, 0, 1218, 13) := cAM_look_3 _ (List.mem_of_getElem? (i := 9) rfl)
theorem cM_look_108 : zCode 181 108 = some (.iload_n 2, 109, 0, 0, 0, 0, 13) := cAM_look_3 _ (List.mem_of_getElem? (i := 10) rfl)
theorem cM_look_109 : zCode 181 109 = some (.invokestatic 185, 112, 179, 1, 1, 12, 13) := cAM_look_3 _ (List.mem_of_getElem? (i := 11) rfl)
theorem cM_look_112 : zCode 181 112 = some (.ifCond .eq 56, 115, 168, 0, 0, 0, 13) := cAM_look_3 _ (List.mem_of_getElem? (i := 12) rfl)
theorem cM_look_115 : zCode 181 115 = some (.aload_n 0, 116, 0, 0, 0, 0, 1) := cAM_look_3 _ (List.mem_of_getElem? (i := 13) rfl)
theorem cM_look_116 : zCode 181 116 = some (.iconst 1, 117, 0, 0, 0, 0, 1) := cAM_look_3 _ (List.mem_of_getElem? (i := 14) rfl)
theorem cM_look_117 : zCode 181 117 = some (.putfield 176, 120, 12, 10, 0, 1219, 1) := cAM_look_3 _ (List.mem_of_getElem? (i := 15) rfl)
theorem cM_look_120 : zCode 181 120 = some (.aload_n 0, 121, 0, 0, 0, 0, 1) := cAM_look_4 _ (List.mem_of_getElem? (i := 0) rfl)
theorem cM_look_121 : zCode 181 121 = some (.getfield 170, 124, 12, 8, 0, 1217, 1) := cAM_look_4 _ (List.mem_of_getElem? (i := 1) rfl)
theorem cM_look_124 : zCode 181 124 = some (.aload_n 0, 125, 0, 0, 0, 0, 1) := cAM_look_4 _ (List.mem_of_getElem? (i := 2) rfl)
theorem cM_look_125 : zCode 181 125 = some (.getfield 173, 128, 12, 9, 0, 1218, 1) := cAM_look_4 _ (List.mem_of_getElem? (i := 3) rfl)
theorem cM_look_128 : zCode 181 128 = some (.iadd, 129, 0, 0, 0, 0, 1) := cAM_look_4 _ (List.mem_of_getElem? (i := 4) rfl)
theorem cM_look_129 : zCode 181 129 = some (.aload_n 0, 130, 0, 0, 0, 0, 1) := cAM_look_4 _ (List.mem_of_getElem? (i := 5) rfl)
theorem cM_look_130 : zCode 181 130 = some (.invokevirtual 150, 133, 175, 0, 1, 12, 1) := cAM_look_4 _ (List.mem_of_getElem? (i := 6) rfl)
theorem cM_look_133 : zCode 181 133 = some (.if_icmp .ge 194, 136, 327, 0, 0, 0, 1) := cAM_look_4 _ (List.mem_of_getElem? (i := 7) rfl)
theorem cM_look_136 : zCode 181 136 = some (.aload_n 0, 137, 0, 0, 0, 0, 1) := cAM_look_4 _ (List.mem_of_getElem? (i := 8) rfl)
theorem cM_look_137 : zCode 181 137 = some (.aload_n 0, 138, 0, 0, 0, 0, 1) := cAM_look_4 _ (List.mem_of_getElem? (i := 9) rfl)
theorem cM_look_138 : zCode 181 138 = some (.getfield 170, 141, 12, 8, 0, 1217, 1) := cAM_look_4 _ (List.mem_of_getElem? (i := 10) rfl)
theorem cM_look_141 : zCode 181 141 = some (.aload_n 0, 142, 0, 0, 0, 0, 1) := cAM_look_4 _ (List.mem_of_getElem? (i := 11) rfl)
theorem cM_look_142 : zCode 181 142 = some (.getfield 173, 145, 12, 9, 0, 1218, 1) := cAM_look_4 _ (List.mem_of_getElem? (i := 12) rfl)
theorem cM_look_145 : zCode 181 145 = some (.iadd, 146, 0, 0, 0, 0, 1) := cAM_look_4 _ (List.mem_of_getElem? (i := 13) rfl)
theorem cM_look_146 : zCode 181 146 = some (.invokevirtual 163, 149, 176, 1, 2, 12, 1) := cAM_look_4 _ (List.mem_of_getElem? (i := 14) rfl)
theorem cM_look_149 : zCode 181 149 = some (.invokestatic 185, 152, 179, 1, 1, 12, 1) := cAM_look_4 _ (List.mem_of_getElem? (i := 15) rfl)
theorem cM_look_152 : zCode 181 152 = some (.ifCond .eq 175, 155, 327, 0, 0, 0, 1) := cAM_look_5 _ (List.mem_of_getElem? (i := 0) rfl)
theorem cM_look_155 : zCode 181 155 = some (.aload_n 0, 156, 0, 0, 0, 0, 1) := cAM_look_5 _ (List.mem_of_getElem? (i := 1) rfl)
theorem cM_look_156 : zCode 181 156 = some (.dup, 157, 0, 0, 0, 0, 1) := cAM_look_5 _ (List.mem_of_getElem? (i := 2) rfl)
theorem cM_look_157 : zCode 181 157 = some (.getfield 173, 160, 12, 9, 0, 1218, 1) := cAM_look_5 _ (List.mem_of_getElem? (i := 3) rfl)
theorem cM_look_160 : zCode 181 160 = some (.iconst 1, 161, 0, 0, 0, 0, 1) := cAM_look_5 _ (List.mem_of_getElem? (i := 4) rfl)
theorem cM_look_161 : zCode 181 161 = some (.iadd, 162, 0, 0, 0, 0, 1) := cAM_look_5 _ (List.mem_of_getElem? (i := 5) rfl)
theorem cM_look_162 : zCode 181 162 = some (.putfield 173, 165, 12, 9, 0, 1218, 1) := cAM_look_5 _ (List.mem_of_getElem? (i := 6) rfl)
theorem cM_look_165 : zCode 181 165 = some (.goto (-45), 168, 120, 0, 0, 0, 1) := cAM_look_5 _ (List.mem_of_getElem? (i := 7) rfl)
theorem cM_look_168 : zCode 181 168 = some (.iload_n 3, 169, 0, 0, 0, 0, 13) := cAM_look_5 _ (List.mem_of_getElem? (i := 8) rfl)
theorem cM_look_169 : zCode 181 169 = some (.ifCond .ne 14, 172, 183, 0, 0, 0, 13) := cAM_look_5 _ (List.mem_of_getElem? (i := 9) rfl)
theorem cM_look_172 : zCode 181 172 = some (.aload_n 0, 173, 0, 0, 0, 0, 13) := cAM_look_5 _ (List.mem_of_getElem? (i := 10) rfl)
theorem cM_look_173 : zCode 181 173 = some (.aload_n 0, 174, 0, 0, 0, 0, 13) := cAM_look_5 _ (List.mem_of_getElem? (i := 11) rfl)
theorem cM_look_174 : zCode 181 174 = some (.getfield 170, 177, 12, 8, 0, 1217, 13) := cAM_look_5 _ (List.mem_of_getElem? (i := 12) rfl)
theorem cM_look_177 : zCode 181 177 = some (.invokevirtual 182, 180, 180, 1, 2, 12, 13) := cAM_look_5 _ (List.mem_of_getElem? (i := 13) rfl)
theorem cM_look_180 : zCode 181 180 = some (.ifCond .eq 132, 183, 312, 0, 0, 0, 13) := cAM_look_5 _ (List.mem_of_getElem? (i := 14) rfl)
theorem cM_look_183 : zCode 181 183 = some (.iload_n 3, 184, 0, 0, 0, 0, 9) := cAM_look_5 _ (List.mem_of_getElem? (i := 15) rfl)
theorem cM_look_184 : zCode 181 184 = some (.ifCond .eq 12, 187, 196, 0, 0, 0, 9) := cAM_look_6 _ (List.mem_of_getElem? (i := 0) rfl)
theorem cM_look_187 : zCode 181 187 = some (.aload_n 0, 188, 0, 0, 0, 0, 9) := cAM_look_6 _ (List.mem_of_getElem? (i := 1) rfl)
theorem cM_look_188 : zCode 181 188 = some (.getfield 170, 191, 12, 8, 0, 1217, 9) := cAM_look_6 _ (List.mem_of_getElem? (i := 2) rfl)
theorem cM_look_191 : zCode 181 191 = some (.iconst 1, 192, 0, 0, 0, 0, 9) := cAM_look_6 _ (List.mem_of_getElem? (i := 3) rfl)
theorem cM_look_192 : zCode 181 192 = some (.iadd, 193, 0, 0, 0, 0, 9) := cAM_look_6 _ (List.mem_of_getElem? (i := 4) rfl)
theorem cM_look_193 : zCode 181 193 = some (.goto 7, 196, 200, 0, 0, 0, 9) := cAM_look_6 _ (List.mem_of_getElem? (i := 5) rfl)
theorem cM_look_196 : zCode 181 196 = some (.aload_n 0, 197, 0, 0, 0, 0, 9) := cAM_look_6 _ (List.mem_of_getElem? (i := 6) rfl)
theorem cM_look_197 : zCode 181 197 = some (.getfield 170, 200, 12, 8, 0, 1217, 9) := cAM_look_6 _ (List.mem_of_getElem? (i := 7) rfl)
theorem cM_look_200 : zCode 181 200 = some (.istore 4, 202, 0, 0, 0, 0, 9) := cAM_look_6 _ (List.mem_of_getElem? (i := 8) rfl)
theorem cM_look_202 : zCode 181 202 = some (.iconst 0, 203, 0, 0, 0, 0, 25) := cAM_look_6 _ (List.mem_of_getElem? (i := 9) rfl)
theorem cM_look_203 : zCode 181 203 = some (.istore 5, 205, 0, 0, 0, 0, 25) := cAM_look_6 _ (List.mem_of_getElem? (i := 10) rfl)
theorem cM_look_205 : zCode 181 205 = some (.aload_n 0, 206, 0, 0, 0, 0, 57) := cAM_look_6 _ (List.mem_of_getElem? (i := 11) rfl)
theorem cM_look_206 : zCode 181 206 = some (.iload 4, 208, 0, 0, 0, 0, 57) := cAM_look_6 _ (List.mem_of_getElem? (i := 12) rfl)
theorem cM_look_208 : zCode 181 208 = some (.iload 5, 210, 0, 0, 0, 0, 57) := cAM_look_6 _ (List.mem_of_getElem? (i := 13) rfl)
theorem cM_look_210 : zCode 181 210 = some (.iadd, 211, 0, 0, 0, 0, 57) := cAM_look_6 _ (List.mem_of_getElem? (i := 14) rfl)
theorem cM_look_211 : zCode 181 211 = some (.invokevirtual 182, 214, 180, 1, 2, 12, 57) := cAM_look_6 _ (List.mem_of_getElem? (i := 15) rfl)
theorem cM_look_214 : zCode 181 214 = some (.ifCond .eq 46, 217, 260, 0, 0, 0, 57) := cAM_look_7 _ (List.mem_of_getElem? (i := 0) rfl)
theorem cM_look_217 : zCode 181 217 = some (.aload_n 0, 218, 0, 0, 0, 0, 57) := cAM_look_7 _ (List.mem_of_getElem? (i := 1) rfl)
theorem cM_look_218 : zCode 181 218 = some (.iload 5, 220, 0, 0, 0, 0, 57) := cAM_look_7 _ (List.mem_of_getElem? (i := 2) rfl)
theorem cM_look_220 : zCode 181 220 = some (.iconst 2, 221, 0, 0, 0, 0, 57) := cAM_look_7 _ (List.mem_of_getElem? (i := 3) rfl)
theorem cM_look_221 : zCode 181 221 = some (.if_icmp .ge 26, 224, 247, 0, 0, 0, 57) := cAM_look_7 _ (List.mem_of_getElem? (i := 4) rfl)
theorem cM_look_224 : zCode 181 224 = some (.bipush 10, 226, 0, 0, 0, 0, 57) := cAM_look_7 _ (List.mem_of_getElem? (i := 5) rfl)
theorem cM_look_226 : zCode 181 226 = some (.aload_n 0, 227, 0, 0, 0, 0, 57) := cAM_look_7 _ (List.mem_of_getElem? (i := 6) rfl)
theorem cM_look_227 : zCode 181 227 = some (.getfield 179, 230, 12, 11, 0, 1220, 57) := cAM_look_7 _ (List.mem_of_getElem? (i := 7) rfl)
theorem cM_look_230 : zCode 181 230 = some (.imul, 231, 0, 0, 0, 0, 57) := cAM_look_7 _ (List.mem_of_getElem? (i := 8) rfl)
theorem cM_look_231 : zCode 181 231 = some (.aload_n 0, 232, 0, 0, 0, 0, 57) := cAM_look_7 _ (List.mem_of_getElem? (i := 9) rfl)
theorem cM_look_232 : zCode 181 232 = some (.iload 4, 234, 0, 0, 0, 0, 57) := cAM_look_7 _ (List.mem_of_getElem? (i := 10) rfl)
theorem cM_look_234 : zCode 181 234 = some (.iload 5, 236, 0, 0, 0, 0, 57) := cAM_look_7 _ (List.mem_of_getElem? (i := 11) rfl)
theorem cM_look_236 : zCode 181 236 = some (.iadd, 237, 0, 0, 0, 0, 57) := cAM_look_7 _ (List.mem_of_getElem? (i := 12) rfl)
theorem cM_look_237 : zCode 181 237 = some (.invokevirtual 163, 240, 176, 1, 2, 12, 57) := cAM_look_7 _ (List.mem_of_getElem? (i := 13) rfl)
theorem cM_look_240 : zCode 181 240 = some (.iadd, 241, 0, 0, 0, 0, 57) := cAM_look_7 _ (List.mem_of_getElem? (i := 14) rfl)
theorem cM_look_241 : zCode 181 241 = some (.bipush 48, 243, 0, 0, 0, 0, 57) := cAM_look_7 _ (List.mem_of_getElem? (i := 15) rfl)
theorem cM_look_243 : zCode 181 243 = some (.isub, 244, 0, 0, 0, 0, 57) := cAM_look_8 _ (List.mem_of_getElem? (i := 0) rfl)
theorem cM_look_244 : zCode 181 244 = some (.goto 7, 247, 251, 0, 0, 0, 57) := cAM_look_8 _ (List.mem_of_getElem? (i := 1) rfl)
theorem cM_look_247 : zCode 181 247 = some (.aload_n 0, 248, 0, 0, 0, 0, 57) := cAM_look_8 _ (List.mem_of_getElem? (i := 2) rfl)
theorem cM_look_248 : zCode 181 248 = some (.getfield 179, 251, 12, 11, 0, 1220, 57) := cAM_look_8 _ (List.mem_of_getElem? (i := 3) rfl)
theorem cM_look_251 : zCode 181 251 = some (.putfield 179, 254, 12, 11, 0, 1220, 57) := cAM_look_8 _ (List.mem_of_getElem? (i := 4) rfl)
theorem cM_look_254 : zCode 181 254 = some (.iinc 5 1, 257, 0, 0, 0, 0, 57) := cAM_look_8 _ (List.mem_of_getElem? (i := 5) rfl)
theorem cM_look_257 : zCode 181 257 = some (.goto (-52), 260, 205, 0, 0, 0, 57) := cAM_look_8 _ (List.mem_of_getElem? (i := 6) rfl)
theorem cM_look_260 : zCode 181 260 = some (.aload_n 0, 261, 0, 0, 0, 0, 57) := cAM_look_8 _ (List.mem_of_getElem? (i := 7) rfl)
theorem cM_look_261 : zCode 181 261 = some (.iload 5, 263, 0, 0, 0, 0, 57) := cAM_look_8 _ (List.mem_of_getElem? (i := 8) rfl)
theorem cM_look_263 : zCode 181 263 = some (.iconst 2, 264, 0, 0, 0, 0, 57) := cAM_look_8 _ (List.mem_of_getElem? (i := 9) rfl)
theorem cM_look_264 : zCode 181 264 = some (.if_icmp .le 7, 267, 271, 0, 0, 0, 57) := cAM_look_8 _ (List.mem_of_getElem? (i := 10) rfl)
theorem cM_look_267 : zCode 181 267 = some (.iconst 4, 268, 0, 0, 0, 0, 57) := cAM_look_8 _ (List.mem_of_getElem? (i := 11) rfl)
theorem cM_look_268 : zCode 181 268 = some (.goto 4, 271, 272, 0, 0, 0, 57) := cAM_look_8 _ (List.mem_of_getElem? (i := 12) rfl)
theorem cM_look_271 : zCode 181 271 = some (.iconst 2, 272, 0, 0, 0, 0, 57) := cAM_look_8 _ (List.mem_of_getElem? (i := 13) rfl)
theorem cM_look_272 : zCode 181 272 = some (.putfield 176, 275, 12, 10, 0, 1219, 57) := cAM_look_8 _ (List.mem_of_getElem? (i := 14) rfl)
theorem cM_look_275 : zCode 181 275 = some (.aload_n 0, 276, 0, 0, 0, 0, 57) := cAM_look_8 _ (List.mem_of_getElem? (i := 15) rfl)
theorem cM_look_276 : zCode 181 276 = some (.iload 4, 278, 0, 0, 0, 0, 57) := cAM_look_9 _ (List.mem_of_getElem? (i := 0) rfl)
theorem cM_look_278 : zCode 181 278 = some (.iload 5, 280, 0, 0, 0, 0, 41) := cAM_look_9 _ (List.mem_of_getElem? (i := 1) rfl)
theorem cM_look_280 : zCode 181 280 = some (.iadd, 281, 0, 0, 0, 0, 9) := cAM_look_9 _ (List.mem_of_getElem? (i := 2) rfl)
theorem cM_look_281 : zCode 181 281 = some (.aload_n 0, 282, 0, 0, 0, 0, 9) := cAM_look_9 _ (List.mem_of_getElem? (i := 3) rfl)
theorem cM_look_282 : zCode 181 282 = some (.getfield 170, 285, 12, 8, 0, 1217, 9) := cAM_look_9 _ (List.mem_of_getElem? (i := 4) rfl)
theorem cM_look_285 : zCode 181 285 = some (.isub, 286, 0, 0, 0, 0, 9) := cAM_look_9 _ (List.mem_of_getElem? (i := 5) rfl)
theorem cM_look_286 : zCode 181 286 = some (.putfield 173, 289, 12, 9, 0, 1218, 9) := cAM_look_9 _ (List.mem_of_getElem? (i := 6) rfl)
theorem cM_look_289 : zCode 181 289 = some (.aload_n 0, 290, 0, 0, 0, 0, 9) := cAM_look_9 _ (List.mem_of_getElem? (i := 7) rfl)
theorem cM_look_290 : zCode 181 290 = some (.iload_n 3, 291, 0, 0, 0, 0, 9) := cAM_look_9 _ (List.mem_of_getElem? (i := 8) rfl)
theorem cM_look_291 : zCode 181 291 = some (.ifCond .eq 11, 294, 302, 0, 0, 0, 1) := cAM_look_9 _ (List.mem_of_getElem? (i := 9) rfl)
theorem cM_look_294 : zCode 181 294 = some (.aload_n 0, 295, 0, 0, 0, 0, 1) := cAM_look_9 _ (List.mem_of_getElem? (i := 10) rfl)
theorem cM_look_295 : zCode 181 295 = some (.getfield 179, 298, 12, 11, 0, 1220, 0) := cAM_look_9 _ (List.mem_of_getElem? (i := 11) rfl)
theorem cM_look_298 : zCode 181 298 = some (.ineg, 299, 0, 0, 0, 0, 0) := cAM_look_9 _ (List.mem_of_getElem? (i := 12) rfl)
theorem cM_look_299 : zCode 181 299 = some (.goto 7, 302, 306, 0, 0, 0, 0) := cAM_look_9 _ (List.mem_of_getElem? (i := 13) rfl)
theorem cM_look_302 : zCode 181 302 = some (.aload_n 0, 303, 0, 0, 0, 0, 1) := cAM_look_9 _ (List.mem_of_getElem? (i := 14) rfl)
theorem cM_look_303 : zCode 181 303 = some (.getfield 179, 306, 12, 11, 0, 1220, 0) := cAM_look_9 _ (List.mem_of_getElem? (i := 15) rfl)
theorem cM_look_306 : zCode 181 306 = some (.putfield 179, 309, 12, 11, 0, 1220, 0) := cAM_look_10 _ (List.mem_of_getElem? (i := 0) rfl)
theorem cM_look_309 : zCode 181 309 = some (.goto 18, 312, 327, 0, 0, 0, 0) := cAM_look_10 _ (List.mem_of_getElem? (i := 1) rfl)
theorem cM_look_312 : zCode 181 312 = some (.aload_n 0, 313, 0, 0, 0, 0, 5) := cAM_look_10 _ (List.mem_of_getElem? (i := 2) rfl)
theorem cM_look_313 : zCode 181 313 = some (.iload_n 2, 314, 0, 0, 0, 0, 4) := cAM_look_10 _ (List.mem_of_getElem? (i := 3) rfl)
theorem cM_look_314 : zCode 181 314 = some (.bipush 59, 316, 0, 0, 0, 0, 0) := cAM_look_10 _ (List.mem_of_getElem? (i := 4) rfl)
theorem cM_look_316 : zCode 181 316 = some (.if_icmp .ne 7, 319, 323, 0, 0, 0, 0) := cAM_look_10 _ (List.mem_of_getElem? (i := 5) rfl)
theorem cM_look_319 : zCode 181 319 = some (.iconst 3, 320, 0, 0, 0, 0, 0) := cAM_look_10 _ (List.mem_of_getElem? (i := 6) rfl)
theorem cM_look_320 : zCode 181 320 = some (.goto 4, 323, 324, 0, 0, 0, 0) := cAM_look_10 _ (List.mem_of_getElem? (i := 7) rfl)
theorem cM_look_323 : zCode 181 323 = some (.iconst 4, 324, 0, 0, 0, 0, 0) := cAM_look_10 _ (List.mem_of_getElem? (i := 8) rfl)
theorem cM_look_324 : zCode 181 324 = some (.putfield 176, 327, 12, 10, 0, 1219, 0) := cAM_look_10 _ (List.mem_of_getElem? (i := 9) rfl)
theorem cM_look_327 : zCode 181 327 = some (.return_, 328, 0, 0, 0, 0, 0) := cAM_look_10 _ (List.mem_of_getElem? (i := 10) rfl)
theorem rM_look_0 {a0 : Nat} {a1 : Int} {u2 u3 u4 u5 : zV} : zS 181 0 [zR a0, zI a1, u2, u3, u4, u5] [] sh pp mm Q ↔ zS 181 1 [zR a0, zI a1, zU, zU, zU, zU] [zR a0] sh pp mm Q := s_go cM_look_0 cM_look_1 rfl rfl
theorem rM_look_1 {a0 s0 : Nat} {a1 : Int} {u2 u3 u4 u5 : zV} : zS 181 1 [zR a0, zI a1, u2, u3, u4, u5] [zR s0] sh pp mm Q ↔ zS 181 2 [zR a0, zU, zU, zU, zU, zU] [zI a1, zR s0] sh pp mm Q := s_go cM_look_1 cM_look_2 rfl rfl
theorem rM_look_2 {a0 s1 : Nat} {s0 : Int} {u1 u2 u3 u4 u5 : zV} (hk : zKd sh s1 = 12) : zS 181 2 [zR a0, u1, u2, u3, u4, u5] [zI s0, zR s1] sh pp mm Q ↔ zS 181 5 [zR a0, zU, zU, zU, zU, zU] [] sh pp (zupd mm s1 8 s0) Q := s_go cM_look_2 cM_look_5 (if_pos ⟨hk, Or.inl rfl⟩) rfl
theorem rM_look_5 {a0 : Nat} {u1 u2 u3 u4 u5 : zV} : zS 181 5 [zR a0, u1, u2, u3, u4, u5] [] sh pp mm Q ↔ zS 181 6 [zR a0, zU, zU, zU, zU, zU] [zR a0] sh pp mm Q := s_go cM_look_5 cM_look_6 rfl rfl
theorem rM_look_6 {a0 s0 : Nat} {u1 u2 u3 u4 u5 : zV} (hk : zKd sh s0 = 12) : zS 181 6 [zR a0, u1, u2, u3, u4, u5] [zR s0] sh pp mm Q ↔ zS 181 9 [zR a0, zU, zU, zU, zU, zU] [zI (mm s0 8)] sh pp mm Q := s_go cM_look_6 cM_look_9 (if_pos hk) rfl
theorem rM_look_9 {a0 : Nat} {s0 : Int} {u1 u2 u3 u4 u5 : zV} : zS 181 9 [zR a0, u1, u2, u3, u4, u5] [zI s0] sh pp mm Q ↔ zS 181 10 [zR a0, zU, zU, zU, zU, zU] [zR a0, zI s0] sh pp mm Q := s_go cM_look_9 cM_look_10 rfl rfl
theorem rM_look_10 {a0 s0 : Nat} {s1 : Int} {u1 u2 u3 u4 u5 : zV} (hk : zKd sh s0 = 12) : zS 181 10 [zR a0, u1, u2, u3, u4, u5] [zR s0, zI s1] sh pp mm Q ↔ zS 175 0 [zR s0] [] sh pp mm (fun v sh pp mm => zS 181 13 [zR a0, zU, zU, zU, zU, zU] (zPush v [zI s1]) sh pp mm Q) := s_call cM_look_10 cM_look_13 ((if_pos hk).trans rfl) rfl
theorem rM_look_13 {a0 : Nat} {s0 s1 : Int} {u1 u2 u3 u4 u5 : zV} : zS 181 13 [zR a0, u1, u2, u3, u4, u5] [zI s0, zI s1] sh pp mm Q ↔ (s1 < s0 → zS 181 16 [zR a0, zU, zU, zU, zU, zU] [] sh pp mm Q) ∧ (¬ s1 < s0 → zS 181 42 [zR a0, zU, zU, zU, zU, zU] [] sh pp mm Q) := s_ifn cM_look_13 cM_look_16 cM_look_42 rfl rfl rfl
theorem rM_look_16 {a0 : Nat} {u1 u2 u3 u4 u5 : zV} : zS 181 16 [zR a0, u1, u2, u3, u4, u5] [] sh pp mm Q ↔ zS 181 17 [zR a0, zU, zU, zU, zU, zU] [zR a0] sh pp mm Q := s_go cM_look_16 cM_look_17 rfl rfl
theorem rM_look_17 {a0 s0 : Nat} {u1 u2 u3 u4 u5 : zV} : zS 181 17 [zR a0, u1, u2, u3, u4, u5] [zR s0] sh pp mm Q ↔ zS 181 18 [zR a0, zU, zU, zU, zU, zU] [zR a0, zR s0] sh pp mm Q := s_go cM_look_17 cM_look_18 rfl rfl
theorem rM_look_18 {a0 s0 s1 : Nat} {u1 u2 u3 u4 u5 : zV} (hk : zKd sh s0 = 12) : zS 181 18 [zR a0, u1, u2, u3, u4, u5] [zR s0, zR s1] sh pp mm Q ↔ zS 181 21 [zR a0, zU, zU, zU, zU, zU] [zI (mm s0 8), zR s1] sh pp mm Q := s_go cM_look_18 cM_look_21 (if_pos hk) rfl
theorem rM_look_21 {a0 s1 : Nat} {s0 : Int} {u1 u2 u3 u4 u5 : zV} (hk : zKd sh s1 = 12) : zS 181 21 [zR a0, u1, u2, u3, u4, u5] [zI s0, zR s1] sh pp mm Q ↔ zS 176 0 [zR s1, zI s0] [] sh pp mm (fun v sh pp mm => zS 181 24 [zR a0, zU, zU, zU, zU, zU] (zPush v []) sh pp mm Q) := s_call cM_look_21 cM_look_24 ((if_pos hk).trans rfl) rfl
theorem rM_look_24 {a0 : Nat} {s0 : Int} {u1 u2 u3 u4 u5 : zV} : zS 181 24 [zR a0, u1, u2, u3, u4, u5] [zI s0] sh pp mm Q ↔ zS 181 26 [zR a0, zU, zU, zU, zU, zU] [zI 32, zI s0] sh pp mm Q := s_go cM_look_24 cM_look_26 rfl rfl
theorem rM_look_26 {a0 : Nat} {s0 s1 : Int} {u1 u2 u3 u4 u5 : zV} : zS 181 26 [zR a0, u1, u2, u3, u4, u5] [zI s0, zI s1] sh pp mm Q ↔ (s1 = s0 → zS 181 29 [zR a0, zU, zU, zU, zU, zU] [] sh pp mm Q) ∧ (¬ s1 = s0 → zS 181 42 [zR a0, zU, zU, zU, zU, zU] [] sh pp mm Q) := s_ifn cM_look_26 cM_look_29 cM_look_42 rfl rfl rfl
theorem rM_look_29 {a0 : Nat} {u1 u2 u3 u4 u5 : zV} : zS 181 29 [zR a0, u1, u2, u3, u4, u5] [] sh pp mm Q ↔ zS 181 30 [zR a0, zU, zU, zU, zU, zU] [zR a0] sh pp mm Q := s_go cM_look_29 cM_look_30 rfl rfl
theorem rM_look_30 {a0 s0 : Nat} {u1 u2 u3 u4 u5 : zV} : zS 181 30 [zR a0, u1, u2, u3, u4, u5] [zR s0] sh pp mm Q ↔ zS 181 31 [zR a0, zU, zU, zU, zU, zU] [zR s0, zR s0] sh pp mm Q := s_go cM_look_30 cM_look_31 rfl rfl
theorem rM_look_31 {a0 s0 s1 : Nat} {u1 u2 u3 u4 u5 : zV} (hk : zKd sh s0 = 12) : zS 181 31 [zR a0, u1, u2, u3, u4, u5] [zR s0, zR s1] sh pp mm Q ↔ zS 181 34 [zR a0, zU, zU, zU, zU, zU] [zI (mm s0 8), zR s1] sh pp mm Q := s_go cM_look_31 cM_look_34 (if_pos hk) rfl
theorem rM_look_34 {a0 s1 : Nat} {s0 : Int} {u1 u2 u3 u4 u5 : zV} : zS 181 34 [zR a0, u1, u2, u3, u4, u5] [zI s0, zR s1] sh pp mm Q ↔ zS 181 35 [zR a0, zU, zU, zU, zU, zU] [zI 1, zI s0, zR s1] sh pp mm Q := s_go cM_look_34 cM_look_35 rfl rfl
theorem rM_look_35 {a0 s2 : Nat} {s0 s1 : Int} {u1 u2 u3 u4 u5 : zV} : zS 181 35 [zR a0, u1, u2, u3, u4, u5] [zI s0, zI s1, zR s2] sh pp mm Q ↔ zS 181 36 [zR a0, zU, zU, zU, zU, zU] [zI (zw32 (s1 + s0)), zR s2] sh pp mm Q := s_go cM_look_35 cM_look_36 rfl rfl
theorem rM_look_36 {a0 s1 : Nat} {s0 : Int} {u1 u2 u3 u4 u5 : zV} (hk : zKd sh s1 = 12) : zS 181 36 [zR a0, u1, u2, u3, u4, u5] [zI s0, zR s1] sh pp mm Q ↔ zS 181 39 [zR a0, zU, zU, zU, zU, zU] [] sh pp (zupd mm s1 8 s0) Q := s_go cM_look_36 cM_look_39 (if_pos ⟨hk, Or.inl rfl⟩) rfl
theorem rM_look_39 {a0 : Nat} {u1 u2 u3 u4 u5 : zV} : zS 181 39 [zR a0, u1, u2, u3, u4, u5] [] sh pp mm Q ↔ zS 181 5 [zR a0, zU, zU, zU, zU, zU] [] sh pp mm Q := s_go cM_look_39 cM_look_5 rfl rfl
theorem rM_look_42 {a0 : Nat} {u1 u2 u3 u4 u5 : zV} : zS 181 42 [zR a0, u1, u2, u3, u4, u5] [] sh pp mm Q ↔ zS 181 43 [zR a0, zU, zU, zU, zU, zU] [zR a0] sh pp mm Q := s_go cM_look_42 cM_look_43 rfl rfl
theorem rM_look_43 {a0 s0 : Nat} {u1 u2 u3 u4 u5 : zV} : zS 181 43 [zR a0, u1, u2, u3, u4, u5] [zR s0] sh pp mm Q ↔ zS 181 44 [zR a0, zU, zU, zU, zU, zU] [zI 0, zR s0] sh pp mm Q := s_go cM_look_43 cM_look_44 rfl rfl
theorem rM_look_44 {a0 s1 : Nat} {s0 : Int} {u1 u2 u3 u4 u5 : zV} (hk : zKd sh s1 = 12) : zS 181 44 [zR a0, u1, u2, u3, u4, u5] [zI s0, zR s1] sh pp mm Q ↔ zS 181 47 [zR a0, zU, zU, zU, zU, zU] [] sh pp (zupd mm s1 9 s0) Q := s_go cM_look_44 cM_look_47 (if_pos ⟨hk, Or.inl rfl⟩) rfl
theorem rM_look_47 {a0 : Nat} {u1 u2 u3 u4 u5 : zV} : zS 181 47 [zR a0, u1, u2, u3, u4, u5] [] sh pp mm Q ↔ zS 181 48 [zR a0, zU, zU, zU, zU, zU] [zR a0] sh pp mm Q := s_go cM_look_47 cM_look_48 rfl rfl
theorem rM_look_48 {a0 s0 : Nat} {u1 u2 u3 u4 u5 : zV} : zS 181 48 [zR a0, u1, u2, u3, u4, u5] [zR s0] sh pp mm Q ↔ zS 181 49 [zR a0, zU, zU, zU, zU, zU] [zI 0, zR s0] sh pp mm Q := s_go cM_look_48 cM_look_49 rfl rfl
theorem rM_look_49 {a0 s1 : Nat} {s0 : Int} {u1 u2 u3 u4 u5 : zV} (hk : zKd sh s1 = 12) : zS 181 49 [zR a0, u1, u2, u3, u4, u5] [zI s0, zR s1] sh pp mm Q ↔ zS 181 52 [zR a0, zU, zU, zU, zU, zU] [] sh pp (zupd mm s1 10 s0) Q := s_go cM_look_49 cM_look_52 (if_pos ⟨hk, Or.inl rfl⟩) rfl
theorem rM_look_52 {a0 : Nat} {u1 u2 u3 u4 u5 : zV} : zS 181 52 [zR a0, u1, u2, u3, u4, u5] [] sh pp mm Q ↔ zS 181 53 [zR a0, zU, zU, zU, zU, zU] [zR a0] sh pp mm Q := s_go cM_look_52 cM_look_53 rfl rfl
theorem rM_look_53 {a0 s0 : Nat} {u1 u2 u3 u4 u5 : zV} : zS 181 53 [zR a0, u1, u2, u3, u4, u5] [zR s0] sh pp mm Q ↔ zS 181 54 [zR a0, zU, zU, zU, zU, zU] [zI 0, zR s0] sh pp mm Q := s_go cM_look_53 cM_look_54 rfl rfl
theorem rM_look_54 {a0 s1 : Nat} {s0 : Int} {u1 u2 u3 u4 u5 : zV} (hk : zKd sh s1 = 12) : zS 181 54 [zR a0, u1, u2, u3, u4, u5] [zI s0, zR s1] sh pp mm Q ↔ zS 181 57 [zR a0, zU, zU, zU, zU, zU] [] sh pp (zupd mm s1 11 s0) Q := s_go cM_look_54 cM_look_57 (if_pos ⟨hk, Or.inl rfl⟩) rfl
theorem rM_look_57 {a0 : Nat} {u1 u2 u3 u4 u5 : zV} : zS 181 57 [zR a0, u1, u2, u3, u4, u5] [] sh pp mm Q ↔ zS 181 58 [zR a0, zU, zU, zU, zU, zU] [zR a0] sh pp mm Q := s_go cM_look_57 cM_look_58 rfl rfl
theorem rM_look_58 {a0 s0 : Nat} {u1 u2 u3 u4 u5 : zV} (hk : zKd sh s0 = 12) : zS 181 58 [zR a0, u1, u2, u3, u4, u5] [zR s0] sh pp mm Q ↔ zS 181 61 [zR a0, zU, zU, zU, zU, zU] [zI (mm s0 8)] sh pp mm Q := s_go cM_look_58 cM_look_61 (if_pos hk) rfl
theorem rM_look_61 {a0 : Nat} {s0 : Int} {u1 u2 u3 u4 u5 : zV} : zS 181 61 [zR a0, u1, u2, u3, u4, u5] [zI s0] sh pp mm Q ↔ zS 181 62 [zR a0, zU, zU, zU, zU, zU] [zR a0, zI s0] sh pp mm Q := s_go cM_look_61 cM_look_62 rfl rfl
theorem rM_look_62 {a0 s0 : Nat} {s1 : Int} {u1 u2 u3 u4 u5 : zV} (hk : zKd sh s0 = 12) : zS 181 62 [zR a0, u1, u2, u3, u4, u5] [zR s0, zI s1] sh pp mm Q ↔ zS 175 0 [zR s0] [] sh pp mm (fun v sh pp mm => zS 181 65 [zR a0, zU, zU, zU, zU, zU] (zPush v [zI s1]) sh pp mm Q) := s_call cM_look_62 cM_look_65 ((if_pos hk).trans rfl) rfl
theorem rM_look_65 {a0 : Nat} {s0 s1 : Int} {u1 u2 u3 u4 u5 : zV} : zS 181 65 [zR a0, u1, u2, u3, u4, u5] [zI s0, zI s1] sh pp mm Q ↔ (s1 = s0 → zS 181 68 [zU, zU, zU, zU, zU, zU] [] sh pp mm Q) ∧ (¬ s1 = s0 → zS 181 69 [zR a0, zU, zU, zU, zU, zU] [] sh pp mm Q) := s_ifn cM_look_65 cM_look_68 cM_look_69 rfl rfl rfl
theorem rM_look_68 {u0 u1 u2 u3 u4 u5 : zV} : zS 181 68 [u0, u1, u2, u3, u4, u5] [] sh pp mm Q ↔ Q zU sh pp mm := s_ret cM_look_68 rfl
theorem rM_look_69 {a0 : Nat} {u1 u2 u3 u4 u5 : zV} : zS 181 69 [zR a0, u1, u2, u3, u4, u5] [] sh pp mm Q ↔ zS 181 70 [zR a0, zU, zU, zU, zU, zU] [zR a0] sh pp mm Q := s_go cM_look_69 cM_look_70 rfl rfl
theorem rM_look_70 {a0 s0 : Nat} {u1 u2 u3 u4 u5 : zV} : zS 181 70 [zR a0, u1, u2, u3, u4, u5] [zR s0] sh pp mm Q ↔ zS 181 71 [zR a0, zU, zU, zU, zU, zU] [zR a0, zR s0] sh pp mm Q := s_go cM_look_70 cM_look_71 rfl rfl
theorem rM_look_71 {a0 s0 s1 : Nat} {u1 u2 u3 u4 u5 : zV} (hk : zKd sh s0 = 12) : zS 181 71 [zR a0, u1, u2, u3, u4, u5] [zR s0, zR s1] sh pp mm Q ↔ zS 181 74 [zR a0, zU, zU, zU, zU, zU] [zI (mm s0 8), zR s1] sh pp mm Q := s_go cM_look_71 cM_look_74 (if_pos hk) rfl
theorem rM_look_74 {a0 s1 : Nat} {s0 : Int} {u1 u2 u3 u4 u5 : zV} (hk : zKd sh s1 = 12) : zS 181 74 [zR a0, u1, u2, u3, u4, u5] [zI s0, zR s1] sh pp mm Q ↔ zS 176 0 [zR s1, zI s0] [] sh pp mm (fun v sh pp mm => zS 181 77 [zR a0, zU, zU, zU, zU, zU] (zPush v []) sh pp mm Q) := s_call cM_look_74 cM_look_77 ((if_pos hk).trans rfl) rfl
theorem rM_look_77 {a0 : Nat} {s0 : Int} {u1 u2 u3 u4 u5 : zV} : zS 181 77 [zR a0, u1, u2, u3, u4, u5] [zI s0] sh pp mm Q ↔ zS 181 78 [zR a0, zU, zI s0, zU, zU, zU] [] sh pp mm Q := s_go cM_look_77 cM_look_78 rfl rfl
theorem rM_look_78 {a0 : Nat} {a2 : Int} {u1 u3 u4 u5 : zV} : zS 181 78 [zR a0, u1, zI a2, u3, u4, u5] [] sh pp mm Q ↔ zS 181 79 [zR a0, zU, zI a2, zU, zU, zU] [zI a2] sh pp mm Q := s_go cM_look_78 cM_look_79 rfl rfl
theorem rM_look_79 {a0 : Nat} {a2 s0 : Int} {u1 u3 u4 u5 : zV} : zS 181 79 [zR a0, u1, zI a2, u3, u4, u5] [zI s0] sh pp mm Q ↔ zS 181 81 [zR a0, zU, zI a2, zU, zU, zU] [zI 45, zI s0] sh pp mm Q := s_go cM_look_79 cM_look_81 rfl rfl
theorem rM_look_81 {a0 : Nat} {a2 s0 s1 : Int} {u1 u3 u4 u5 : zV} : zS 181 81 [zR a0, u1, zI a2, u3, u4, u5] [zI s0, zI s1] sh pp mm Q ↔ (s1 = s0 → zS 181 84 [zR a0, zU, zI a2, zU, zU, zU] [] sh pp mm Q) ∧ (¬ s1 = s0 → zS 181 101 [zR a0, zU, zI a2, zU, zU, zU] [] sh pp mm Q) := s_ifn cM_look_81 cM_look_84 cM_look_101 rfl rfl rfl
theorem rM_look_84 {a0 : Nat} {a2 : Int} {u1 u3 u4 u5 : zV} : zS 181 84 [zR a0, u1, zI a2, u3, u4, u5] [] sh pp mm Q ↔ zS 181 85 [zR a0, zU, zI a2, zU, zU, zU] [zR a0] sh pp mm Q := s_go cM_look_84 cM_look_85 rfl rfl
theorem rM_look_85 {a0 s0 : Nat} {a2 : Int} {u1 u3 u4 u5 : zV} : zS 181 85 [zR a0, u1, zI a2, u3, u4, u5] [zR s0] sh pp mm Q ↔ zS 181 86 [zR a0, zU, zI a2, zU, zU, zU] [zR a0, zR s0] sh pp mm Q := s_go cM_look_85 cM_look_86 rfl rfl
theorem rM_look_86 {a0 s0 s1 : Nat} {a2 : Int} {u1 u3 u4 u5 : zV} (hk : zKd sh s0 = 12) : zS 181 86 [zR a0, u1, zI a2, u3, u4, u5] [zR s0, zR s1] sh pp mm Q ↔ zS 181 89 [zR a0, zU, zI a2, zU, zU, zU] [zI (mm s0 8), zR s1] sh pp mm Q := s_go cM_look_86 cM_look_89 (if_pos hk) rfl
theorem rM_look_89 {a0 s1 : Nat} {a2 s0 : Int} {u1 u3 u4 u5 : zV} : zS 181 89 [zR a0, u1, zI a2, u3, u4, u5] [zI s0, zR s1] sh pp mm Q ↔ zS 181 90 [zR a0, zU, zI a2, zU, zU, zU] [zI 1, zI s0, zR s1] sh pp mm Q := s_go cM_look_89 cM_look_90 rfl rfl
theorem rM_look_90 {a0 s2 : Nat} {a2 s0 s1 : Int} {u1 u3 u4 u5 : zV} : zS 181 90 [zR a0, u1, zI a2, u3, u4, u5] [zI s0, zI s1, zR s2] sh pp mm Q ↔ zS 181 91 [zR a0, zU, zI a2, zU, zU, zU] [zI (zw32 (s1 + s0)), zR s2] sh pp mm Q := s_go cM_look_90 cM_look_91 rfl rfl
theorem rM_look_91 {a0 s1 : Nat} {a2 s0 : Int} {u1 u3 u4 u5 : zV} (hk : zKd sh s1 = 12) : zS 181 91 [zR a0, u1, zI a2, u3, u4, u5] [zI s0, zR s1] sh pp mm Q ↔ zS 180 0 [zR s1, zI s0] [] sh pp mm (fun v sh pp mm => zS 181 94 [zR a0, zU, zI a2, zU, zU, zU] (zPush v []) sh pp mm Q) := s_call cM_look_91 cM_look_94 ((if_pos hk).trans rfl) rfl
theorem rM_look_94 {a0 : Nat} {a2 s0 : Int} {u1 u3 u4 u5 : zV} : zS 181 94 [zR a0, u1, zI a2, u3, u4, u5] [zI s0] sh pp mm Q ↔ (s0 = 0 → zS 181 101 [zR a0, zU, zI a2, zU, zU, zU] [] sh pp mm Q) ∧ (¬ s0 = 0 → zS 181 97 [zR a0, zU, zI a2, zU, zU, zU] [] sh pp mm Q) := s_if cM_look_94 cM_look_101 cM_look_97 rfl rfl rfl
theorem rM_look_97 {a0 : Nat} {a2 : Int} {u1 u3 u4 u5 : zV} : zS 181 97 [zR a0, u1, zI a2, u3, u4, u5] [] sh pp mm Q ↔ zS 181 98 [zR a0, zU, zI a2, zU, zU, zU] [zI 1] sh pp mm Q := s_go cM_look_97 cM_look_98 rfl rfl
theorem rM_look_98 {a0 : Nat} {a2 s0 : Int} {u1 u3 u4 u5 : zV} : zS 181 98 [zR a0, u1, zI a2, u3, u4, u5] [zI s0] sh pp mm Q ↔ zS 181 102 [zR a0, zU, zI a2, zU, zU, zU] [zI s0] sh pp mm Q := s_go cM_look_98 cM_look_102 rfl rfl
theorem rM_look_101 {a0 : Nat} {a2 : Int} {u1 u3 u4 u5 : zV} : zS 181 101 [zR a0, u1, zI a2, u3, u4, u5] [] sh pp mm Q ↔ zS 181 102 [zR a0, zU, zI a2, zU, zU, zU] [zI 0] sh pp mm Q := s_go cM_look_101 cM_look_102 rfl rfl
theorem rM_look_102 {a0 : Nat} {a2 s0 : Int} {u1 u3 u4 u5 : zV} : zS 181 102 [zR a0, u1, zI a2, u3, u4, u5] [zI s0] sh pp mm Q ↔ zS 181 103 [zR a0, zU, zI a2, zI s0, zU, zU] [] sh pp mm Q := s_go cM_look_102 cM_look_103 rfl rfl
theorem rM_look_103 {a0 : Nat} {a2 a3 : Int} {u1 u4 u5 : zV} : zS 181 103 [zR a0, u1, zI a2, zI a3, u4, u5] [] sh pp mm Q ↔ zS 181 104 [zR a0, zU, zI a2, zI a3, zU, zU] [zR a0] sh pp mm Q := s_go cM_look_103 cM_look_104 rfl rfl
theorem rM_look_104 {a0 s0 : Nat} {a2 a3 : Int} {u1 u4 u5 : zV} : zS 181 104 [zR a0, u1, zI a2, zI a3, u4, u5] [zR s0] sh pp mm Q ↔ zS 181 105 [zR a0, zU, zI a2, zI a3, zU, zU] [zI 1, zR s0] sh pp mm Q := s_go cM_look_104 cM_look_105 rfl rfl
theorem rM_look_105 {a0 s1 : Nat} {a2 a3 s0 : Int} {u1 u4 u5 : zV} (hk : zKd sh s1 = 12) : zS 181 105 [zR a0, u1, zI a2, zI a3, u4, u5] [zI s0, zR s1] sh pp mm Q ↔ zS 181 108 [zR a0, zU, zI a2, zI a3, zU, zU] [] sh pp (zupd mm s1 9 s0) Q := s_go cM_look_105 cM_look_108 (if_pos ⟨hk, Or.inl rfl⟩) rfl
theorem rM_look_108 {a0 : Nat} {a2 a3 : Int} {u1 u4 u5 : zV} : zS 181 108 [zR a0, u1, zI a2, zI a3, u4, u5] [] sh pp mm Q ↔ zS 181 109 [zR a0, zU, zI a2, zI a3, zU, zU] [zI a2] sh pp mm Q := s_go cM_look_108 cM_look_109 rfl rfl
theorem rM_look_109 {a0 : Nat} {a2 a3 s0 : Int} {u1 u4 u5 : zV} : zS 181 109 [zR a0, u1, zI a2, zI a3, u4, u5] [zI s0] sh pp mm Q ↔ zS 179 0 [zI s0] [] sh pp mm (fun v sh pp mm => zS 181 112 [zR a0, zU, zI a2, zI a3, zU, zU] (zPush v []) sh pp mm Q) := s_call cM_look_109 cM_look_112 rfl rfl
theorem rM_look_112 {a0 : Nat} {a2 a3 s0 : Int} {u1 u4 u5 : zV} : zS 181 112 [zR a0, u1, zI a2, zI a3, u4, u5] [zI s0] sh pp mm Q ↔ (s0 = 0 → zS 181 168 [zR a0, zU, zI a2, zI a3, zU, zU] [] sh pp mm Q) ∧ (¬ s0 = 0 → zS 181 115 [zR a0, zU, zU, zU, zU, zU] [] sh pp mm Q) := s_if cM_look_112 cM_look_168 cM_look_115 rfl rfl rfl
theorem rM_look_115 {a0 : Nat} {u1 u2 u3 u4 u5 : zV} : zS 181 115 [zR a0, u1, u2, u3, u4, u5] [] sh pp mm Q ↔ zS 181 116 [zR a0, zU, zU, zU, zU, zU] [zR a0] sh pp mm Q := s_go cM_look_115 cM_look_116 rfl rfl
theorem rM_look_116 {a0 s0 : Nat} {u1 u2 u3 u4 u5 : zV} : zS 181 116 [zR a0, u1, u2, u3, u4, u5] [zR s0] sh pp mm Q ↔ zS 181 117 [zR a0, zU, zU, zU, zU, zU] [zI 1, zR s0] sh pp mm Q := s_go cM_look_116 cM_look_117 rfl rfl
theorem rM_look_117 {a0 s1 : Nat} {s0 : Int} {u1 u2 u3 u4 u5 : zV} (hk : zKd sh s1 = 12) : zS 181 117 [zR a0, u1, u2, u3, u4, u5] [zI s0, zR s1] sh pp mm Q ↔ zS 181 120 [zR a0, zU, zU, zU, zU, zU] [] sh pp (zupd mm s1 10 s0) Q := s_go cM_look_117 cM_look_120 (if_pos ⟨hk, Or.inl rfl⟩) rfl
theorem rM_look_120 {a0 : Nat} {u1 u2 u3 u4 u5 : zV} : zS 181 120 [zR a0, u1, u2, u3, u4, u5] [] sh pp mm Q ↔ zS 181 121 [zR a0, zU, zU, zU, zU, zU] [zR a0] sh pp mm Q := s_go cM_look_120 cM_look_121 rfl rfl
theorem rM_look_121 {a0 s0 : Nat} {u1 u2 u3 u4 u5 : zV} (hk : zKd sh s0 = 12) : zS 181 121 [zR a0, u1, u2, u3, u4, u5] [zR s0] sh pp mm Q ↔ zS 181 124 [zR a0, zU, zU, zU, zU, zU] [zI (mm s0 8)] sh pp mm Q := s_go cM_look_121 cM_look_124 (if_pos hk) rfl
theorem rM_look_124 {a0 : Nat} {s0 : Int} {u1 u2 u3 u4 u5 : zV} : zS 181 124 [zR a0, u1, u2, u3, u4, u5] [zI s0] sh pp mm Q ↔ zS 181 125 [zR a0, zU, zU, zU, zU, zU] [zR a0, zI s0] sh pp mm Q := s_go cM_look_124 cM_look_125 rfl rfl
theorem rM_look_125 {a0 s0 : Nat} {s1 : Int} {u1 u2 u3 u4 u5 : zV} (hk : zKd sh s0 = 12) : zS 181 125 [zR a0, u1, u2, u3, u4, u5] [zR s0, zI s1] sh pp mm Q ↔ zS 181 128 [zR a0, zU, zU, zU, zU, zU] [zI (mm s0 9), zI s1] sh pp mm Q := s_go cM_look_125 cM_look_128 (if_pos hk) rfl
theorem rM_look_128 {a0 : Nat} {s0 s1 : Int} {u1 u2 u3 u4 u5 : zV} : zS 181 128 [zR a0, u1, u2, u3, u4, u5] [zI s0, zI s1] sh pp mm Q ↔ zS 181 129 [zR a0, zU, zU, zU, zU, zU] [zI (zw32 (s1 + s0))] sh pp mm Q := s_go cM_look_128 cM_look_129 rfl rfl
theorem rM_look_129 {a0 : Nat} {s0 : Int} {u1 u2 u3 u4 u5 : zV} : zS 181 129 [zR a0, u1, u2, u3, u4, u5] [zI s0] sh pp mm Q ↔ zS 181 130 [zR a0, zU, zU, zU, zU, zU] [zR a0, zI s0] sh pp mm Q := s_go cM_look_129 cM_look_130 rfl rfl
theorem rM_look_130 {a0 s0 : Nat} {s1 : Int} {u1 u2 u3 u4 u5 : zV} (hk : zKd sh s0 = 12) : zS 181 130 [zR a0, u1, u2, u3, u4, u5] [zR s0, zI s1] sh pp mm Q ↔ zS 175 0 [zR s0] [] sh pp mm (fun v sh pp mm => zS 181 133 [zR a0, zU, zU, zU, zU, zU] (zPush v [zI s1]) sh pp mm Q) := s_call cM_look_130 cM_look_133 ((if_pos hk).trans rfl) rfl
theorem rM_look_133 {a0 : Nat} {s0 s1 : Int} {u1 u2 u3 u4 u5 : zV} : zS 181 133 [zR a0, u1, u2, u3, u4, u5] [zI s0, zI s1] sh pp mm Q ↔ (s1 < s0 → zS 181 136 [zR a0, zU, zU, zU, zU, zU] [] sh pp mm Q) ∧ (¬ s1 < s0 → zS 181 327 [zU, zU, zU, zU, zU, zU] [] sh pp mm Q) := s_ifn cM_look_133 cM_look_136 cM_look_327 rfl rfl rfl
theorem rM_look_136 {a0 : Nat} {u1 u2 u3 u4 u5 : zV} : zS 181 136 [zR a0, u1, u2, u3, u4, u5] [] sh pp mm Q ↔ zS 181 137 [zR a0, zU, zU, zU, zU, zU] [zR a0] sh pp mm Q := s_go cM_look_136 cM_look_137 rfl rfl
theorem rM_look_137 {a0 s0 : Nat} {u1 u2 u3 u4 u5 : zV} : zS 181 137 [zR a0, u1, u2, u3, u4, u5] [zR s0] sh pp mm Q ↔ zS 181 138 [zR a0, zU, zU, zU, zU, zU] [zR a0, zR s0] sh pp mm Q := s_go cM_look_137 cM_look_138 rfl rfl
theorem rM_look_138 {a0 s0 s1 : Nat} {u1 u2 u3 u4 u5 : zV} (hk : zKd sh s0 = 12) : zS 181 138 [zR a0, u1, u2, u3, u4, u5] [zR s0, zR s1] sh pp mm Q ↔ zS 181 141 [zR a0, zU, zU, zU, zU, zU] [zI (mm s0 8), zR s1] sh pp mm Q := s_go cM_look_138 cM_look_141 (if_pos hk) rfl
theorem rM_look_141 {a0 s1 : Nat} {s0 : Int} {u1 u2 u3 u4 u5 : zV} : zS 181 141 [zR a0, u1, u2, u3, u4, u5] [zI s0, zR s1] sh pp mm Q ↔ zS 181 142 [zR a0, zU, zU, zU, zU, zU] [zR a0, zI s0, zR s1] sh pp mm Q := s_go cM_look_141 cM_look_142 rfl rfl
theorem rM_look_142 {a0 s0 s2 : Nat} {s1 : Int} {u1 u2 u3 u4 u5 : zV} (hk : zKd sh s0 = 12) : zS 181 142 [zR a0, u1, u2, u3, u4, u5] [zR s0, zI s1, zR s2] sh pp mm Q ↔ zS 181 145 [zR a0, zU, zU, zU, zU, zU] [zI (mm s0 9), zI s1, zR s2] sh pp mm Q := s_go cM_look_142 cM_look_145 (if_pos hk) rfl
theorem rM_look_145 {a0 s2 : Nat} {s0 s1 : Int} {u1 u2 u3 u4 u5 : zV} : zS 181 145 [zR a0, u1, u2, u3, u4, u5] [zI s0, zI s1, zR s2] sh pp mm Q ↔ zS 181 146 [zR a0, zU, zU, zU, zU, zU] [zI (zw32 (s1 + s0)), zR s2] sh pp mm Q := s_go cM_look_145 cM_look_146 rfl rfl
theorem rM_look_146 {a0 s1 : Nat} {s0 : Int} {u1 u2 u3 u4 u5 : zV} (hk : zKd sh s1 = 12) : zS 181 146 [zR a0, u1, u2, u3, u4, u5] [zI s0, zR s1] sh pp mm Q ↔ zS 176 0 [zR s1, zI s0] [] sh pp mm (fun v sh pp mm => zS 181 149 [zR a0, zU, zU, zU, zU, zU] (zPush v []) sh pp mm Q) := s_call cM_look_146 cM_look_149 ((if_pos hk).trans rfl) rfl
theorem rM_look_149 {a0 : Nat} {s0 : Int} {u1 u2 u3 u4 u5 : zV} : zS 181 149 [zR a0, u1, u2, u3, u4, u5] [zI s0] sh pp mm Q ↔ zS 179 0 [zI s0] [] sh pp mm (fun v sh pp mm => zS 181 152 [zR a0, zU, zU, zU, zU, zU] (zPush v []) sh pp mm Q) := s_call cM_look_149 cM_look_152 rfl rfl
theorem rM_look_152 {a0 : Nat} {s0 : Int} {u1 u2 u3 u4 u5 : zV} : zS 181 152 [zR a0, u1, u2, u3, u4, u5] [zI s0] sh pp mm Q ↔ (s0 = 0 → zS 181 327 [zU, zU, zU, zU, zU, zU] [] sh pp mm Q) ∧ (¬ s0 = 0 → zS 181 155 [zR a0, zU, zU, zU, zU, zU] [] sh pp mm Q) := s_if cM_look_152 cM_look_327 cM_look_155 rfl rfl rfl
theorem rM_look_155 {a0 : Nat} {u1 u2 u3 u4 u5 : zV} : zS 181 155 [zR a0, u1, u2, u3, u4, u5] [] sh pp mm Q ↔ zS 181 156 [zR a0, zU, zU, zU, zU, zU] [zR a0] sh pp mm Q := s_go cM_look_155 cM_look_156 rfl rfl
theorem rM_look_156 {a0 s0 : Nat} {u1 u2 u3 u4 u5 : zV} : zS 181 156 [zR a0, u1, u2, u3, u4, u5] [zR s0] sh pp mm Q ↔ zS 181 157 [zR a0, zU, zU, zU, zU, zU] [zR s0, zR s0] sh pp mm Q := s_go cM_look_156 cM_look_157 rfl rfl
theorem rM_look_157 {a0 s0 s1 : Nat} {u1 u2 u3 u4 u5 : zV} (hk : zKd sh s0 = 12) : zS 181 157 [zR a0, u1, u2, u3, u4, u5] [zR s0, zR s1] sh pp mm Q ↔ zS 181 160 [zR a0, zU, zU, zU, zU, zU] [zI (mm s0 9), zR s1] sh pp mm Q := s_go cM_look_157 cM_look_160 (if_pos hk) rfl
theorem rM_look_160 {a0 s1 : Nat} {s0 : Int} {u1 u2 u3 u4 u5 : zV} : zS 181 160 [zR a0, u1, u2, u3, u4, u5] [zI s0, zR s1] sh pp mm Q ↔ zS 181 161 [zR a0, zU, zU, zU, zU, zU] [zI 1, zI s0, zR s1] sh pp mm Q := s_go cM_look_160 cM_look_161 rfl rfl
theorem rM_look_161 {a0 s2 : Nat} {s0 s1 : Int} {u1 u2 u3 u4 u5 : zV} : zS 181 161 [zR a0, u1, u2, u3, u4, u5] [zI s0, zI s1, zR s2] sh pp mm Q ↔ zS 181 162 [zR a0, zU, zU, zU, zU, zU] [zI (zw32 (s1 + s0)), zR s2] sh pp mm Q := s_go cM_look_161 cM_look_162 rfl rfl
theorem rM_look_162 {a0 s1 : Nat} {s0 : Int} {u1 u2 u3 u4 u5 : zV} (hk : zKd sh s1 = 12) : zS 181 162 [zR a0, u1, u2, u3, u4, u5] [zI s0, zR s1] sh pp mm Q ↔ zS 181 165 [zR a0, zU, zU, zU, zU, zU] [] sh pp (zupd mm s1 9 s0) Q := s_go cM_look_162 cM_look_165 (if_pos ⟨hk, Or.inl rfl⟩) rfl
theorem rM_look_165 {a0 : Nat} {u1 u2 u3 u4 u5 : zV} : zS 181 165 [zR a0, u1, u2, u3, u4, u5] [] sh pp mm Q ↔ zS 181 120 [zR a0, zU, zU, zU, zU, zU] [] sh pp mm Q := s_go cM_look_165 cM_look_120 rfl rfl
theorem rM_look_168 {a0 : Nat} {a2 a3 : Int} {u1 u4 u5 : zV} : zS 181 168 [zR a0, u1, zI a2, zI a3, u4, u5] [] sh pp mm Q ↔ zS 181 169 [zR a0, zU, zI a2, zI a3, zU, zU] [zI a3] sh pp mm Q := s_go cM_look_168 cM_look_169 rfl rfl
theorem rM_look_169 {a0 : Nat} {a2 a3 s0 : Int} {u1 u4 u5 : zV} : zS 181 169 [zR a0, u1, zI a2, zI a3, u4, u5] [zI s0] sh pp mm Q ↔ (s0 = 0 → zS 181 172 [zR a0, zU, zI a2, zI a3, zU, zU] [] sh pp mm Q) ∧ (¬ s0 = 0 → zS 181 183 [zR a0, zU, zU, zI a3, zU, zU] [] sh pp mm Q) := s_ifn cM_look_169 cM_look_172 cM_look_183 rfl rfl rfl
theorem rM_look_172 {a0 : Nat} {a2 a3 : Int} {u1 u4 u5 : zV} : zS 181 172 [zR a0, u1, zI a2, zI a3, u4, u5] [] sh pp mm Q ↔ zS 181 173 [zR a0, zU, zI a2, zI a3, zU, zU] [zR a0] sh pp mm Q := s_go cM_look_172 cM_look_173 rfl rfl
theorem rM_look_173 {a0 s0 : Nat} {a2 a3 : Int} {u1 u4 u5 : zV} : zS 181 173 [zR a0, u1, zI a2, zI a3, u4, u5] [zR s0] sh pp mm Q ↔ zS 181 174 [zR a0, zU, zI a2, zI a3, zU, zU] [zR a0, zR s0] sh pp mm Q := s_go cM_look_173 cM_look_174 rfl rfl
theorem rM_look_174 {a0 s0 s1 : Nat} {a2 a3 : Int} {u1 u4 u5 : zV} (hk : zKd sh s0 = 12) : zS 181 174 [zR a0, u1, zI a2, zI a3, u4, u5] [zR s0, zR s1] sh pp mm Q ↔ zS 181 177 [zR a0, zU, zI a2, zI a3, zU, zU] [zI (mm s0 8), zR s1] sh pp mm Q := s_go cM_look_174 cM_look_177 (if_pos hk) rfl
theorem rM_look_177 {a0 s1 : Nat} {a2 a3 s0 : Int} {u1 u4 u5 : zV} (hk : zKd sh s1 = 12) : zS 181 177 [zR a0, u1, zI a2, zI a3, u4, u5] [zI s0, zR s1] sh pp mm Q ↔ zS 180 0 [zR s1, zI s0] [] sh pp mm (fun v sh pp mm => zS 181 180 [zR a0, zU, zI a2, zI a3, zU, zU] (zPush v []) sh pp mm Q) := s_call cM_look_177 cM_look_180 ((if_pos hk).trans rfl) rfl
theorem rM_look_180 {a0 : Nat} {a2 a3 s0 : Int} {u1 u4 u5 : zV} : zS 181 180 [zR a0, u1, zI a2, zI a3, u4, u5] [zI s0] sh pp mm Q ↔ (s0 = 0 → zS 181 312 [zR a0, zU, zI a2, zU, zU, zU] [] sh pp mm Q) ∧ (¬ s0 = 0 → zS 181 183 [zR a0, zU, zU, zI a3, zU, zU] [] sh pp mm Q) := s_if cM_look_180 cM_look_312 cM_look_183 rfl rfl rfl
theorem rM_look_183 {a0 : Nat} {a3 : Int} {u1 u2 u4 u5 : zV} : zS 181 183 [zR a0, u1, u2, zI a3, u4, u5] [] sh pp mm Q ↔ zS 181 184 [zR a0, zU, zU, zI a3, zU, zU] [zI a3] sh pp mm Q := s_go cM_look_183 cM_look_184 rfl rfl
theorem rM_look_184 {a0 : Nat} {a3 s0 : Int} {u1 u2 u4 u5 : zV} : zS 181 184 [zR a0, u1, u2, zI a3, u4, u5] [zI s0] sh pp mm Q ↔ (s0 = 0 → zS 181 196 [zR a0, zU, zU, zI a3, zU, zU] [] sh pp mm Q) ∧ (¬ s0 = 0 → zS 181 187 [zR a0, zU, zU, zI a3, zU, zU] [] sh pp mm Q) := s_if cM_look_184 cM_look_196 cM_look_187 rfl rfl rfl
theorem rM_look_187 {a0 : Nat} {a3 : Int} {u1 u2 u4 u5 : zV} : zS 181 187 [zR a0, u1, u2, zI a3, u4, u5] [] sh pp mm Q ↔ zS 181 188 [zR a0, zU, zU, zI a3, zU, zU] [zR a0] sh pp mm Q := s_go cM_look_187 cM_look_188 rfl rfl
theorem rM_look_188 {a0 s0 : Nat} {a3 : Int} {u1 u2 u4 u5 : zV} (hk : zKd sh s0 = 12) : zS 181 188 [zR a0, u1, u2, zI a3, u4, u5] [zR s0] sh pp mm Q ↔ zS 181 191 [zR a0, zU, zU, zI a3, zU, zU] [zI (mm s0 8)] sh pp mm Q := s_go cM_look_188 cM_look_191 (if_pos hk) rfl
theorem rM_look_191 {a0 : Nat} {a3 s0 : Int} {u1 u2 u4 u5 : zV} : zS 181 191 [zR a0, u1, u2, zI a3, u4, u5] [zI s0] sh pp mm Q ↔ zS 181 192 [zR a0, zU, zU, zI a3, zU, zU] [zI 1, zI s0] sh pp mm Q := s_go cM_look_191 cM_look_192 rfl rfl
theorem rM_look_192 {a0 : Nat} {a3 s0 s1 : Int} {u1 u2 u4 u5 : zV} : zS 181 192 [zR a0, u1, u2, zI a3, u4, u5] [zI s0, zI s1] sh pp mm Q ↔ zS 181 193 [zR a0, zU, zU, zI a3, zU, zU] [zI (zw32 (s1 + s0))] sh pp mm Q := s_go cM_look_192 cM_look_193 rfl rfl
theorem rM_look_193 {a0 : Nat} {a3 s0 : Int} {u1 u2 u4 u5 : zV} : zS 181 193 [zR a0, u1, u2, zI a3, u4, u5] [zI s0] sh pp mm Q ↔ zS 181 200 [zR a0, zU, zU, zI a3, zU, zU] [zI s0] sh pp mm Q := s_go cM_look_193 cM_look_200 rfl rfl
theorem rM_look_196 {a0 : Nat} {a3 : Int} {u1 u2 u4 u5 : zV} : zS 181 196 [zR a0, u1, u2, zI a3, u4, u5] [] sh pp mm Q ↔ zS 181 197 [zR a0, zU, zU, zI a3, zU, zU] [zR a0] sh pp mm Q := s_go cM_look_196 cM_look_197 rfl rfl
theorem rM_look_197 {a0 s0 : Nat} {a3 : Int} {u1 u2 u4 u5 : zV} (hk : zKd sh s0 = 12) : zS 181 197 [zR a0, u1, u2, zI a3, u4, u5] [zR s0] sh pp mm Q ↔ zS 181 200 [zR a0, zU, zU, zI a3, zU, zU] [zI (mm s0 8)] sh pp mm Q := s_go cM_look_197 cM_look_200 (if_pos hk) rfl
theorem rM_look_200 {a0 : Nat} {a3 s0 : Int} {u1 u2 u4 u5 : zV} : zS 181 200 [zR a0, u1, u2, zI a3, u4, u5] [zI s0] sh pp mm Q ↔ zS 181 202 [zR a0, zU, zU, zI a3, zI s0, zU] [] sh pp mm Q := s_go cM_look_200 cM_look_202 rfl rfl
theorem rM_look_202 {a0 : Nat} {a3 a4 : Int} {u1 u2 u5 : zV} : zS 181 202 [zR a0, u1, u2, zI a3, zI a4, u5] [] sh pp mm Q ↔ zS 181 203 [zR a0, zU, zU, zI a3, zI a4, zU] [zI 0] sh pp mm Q := s_go cM_look_202 cM_look_203 rfl rfl
theorem rM_look_203 {a0 : Nat} {a3 a4 s0 : Int} {u1 u2 u5 : zV} : zS 181 203 [zR a0, u1, u2, zI a3, zI a4, u5] [zI s0] sh pp mm Q ↔ zS 181 205 [zR a0, zU, zU, zI a3, zI a4, zI s0] [] sh pp mm Q := s_go cM_look_203 cM_look_205 rfl rfl
theorem rM_look_205 {a0 : Nat} {a3 a4 a5 : Int} {u1 u2 : zV} : zS 181 205 [zR a0, u1, u2, zI a3, zI a4, zI a5] [] sh pp mm Q ↔ zS 181 206 [zR a0, zU, zU, zI a3, zI a4, zI a5] [zR a0] sh pp mm Q := s_go cM_look_205 cM_look_206 rfl rfl
theorem rM_look_206 {a0 s0 : Nat} {a3 a4 a5 : Int} {u1 u2 : zV} : zS 181 206 [zR a0, u1, u2, zI a3, zI a4, zI a5] [zR s0] sh pp mm Q ↔ zS 181 208 [zR a0, zU, zU, zI a3, zI a4, zI a5] [zI a4, zR s0] sh pp mm Q := s_go cM_look_206 cM_look_208 rfl rfl
theorem rM_look_208 {a0 s1 : Nat} {a3 a4 a5 s0 : Int} {u1 u2 : zV} : zS 181 208 [zR a0, u1, u2, zI a3, zI a4, zI a5] [zI s0, zR s1] sh pp mm Q ↔ zS 181 210 [zR a0, zU, zU, zI a3, zI a4, zI a5] [zI a5, zI s0, zR s1] sh pp mm Q := s_go cM_look_208 cM_look_210 rfl rfl
theorem rM_look_210 {a0 s2 : Nat} {a3 a4 a5 s0 s1 : Int} {u1 u2 : zV} : zS 181 210 [zR a0, u1, u2, zI a3, zI a4, zI a5] [zI s0, zI s1, zR s2] sh pp mm Q ↔ zS 181 211 [zR a0, zU, zU, zI a3, zI a4, zI a5] [zI (zw32 (s1 + s0)), zR s2] sh pp mm Q := s_go cM_look_210 cM_look_211 rfl rfl
theorem rM_look_211 {a0 s1 : Nat} {a3 a4 a5 s0 : Int} {u1 u2 : zV} (hk : zKd sh s1 = 12) : zS 181 211 [zR a0, u1, u2, zI a3, zI a4, zI a5] [zI s0, zR s1] sh pp mm Q ↔ zS 180 0 [zR s1, zI s0] [] sh pp mm (fun v sh pp mm => zS 181 214 [zR a0, zU, zU, zI a3, zI a4, zI a5] (zPush v []) sh pp mm Q) := s_call cM_look_211 cM_look_214 ((if_pos hk).trans rfl) rfl
theorem rM_look_214 {a0 : Nat} {a3 a4 a5 s0 : Int} {u1 u2 : zV} : zS 181 214 [zR a0, u1, u2, zI a3, zI a4, zI a5] [zI s0] sh pp mm Q ↔ (s0 = 0 → zS 181 260 [zR a0, zU, zU, zI a3, zI a4, zI a5] [] sh pp mm Q) ∧ (¬ s0 = 0 → zS 181 217 [zR a0, zU, zU, zI a3, zI a4, zI a5] [] sh pp mm Q) := s_if cM_look_214 cM_look_260 cM_look_217 rfl rfl rfl
theorem rM_look_217 {a0 : Nat} {a3 a4 a5 : Int} {u1 u2 : zV} : zS 181 217 [zR a0, u1, u2, zI a3, zI a4, zI a5] [] sh pp mm Q ↔ zS 181 218 [zR a0, zU, zU, zI a3, zI a4, zI a5] [zR a0] sh pp mm Q := s_go cM_look_217 cM_look_218 rfl rfl
theorem rM_look_218 {a0 s0 : Nat} {a3 a4 a5 : Int} {u1 u2 : zV} : zS 181 218 [zR a0, u1, u2, zI a3, zI a4, zI a5] [zR s0] sh pp mm Q ↔ zS 181 220 [zR a0, zU, zU, zI a3, zI a4, zI a5] [zI a5, zR s0] sh pp mm Q := s_go cM_look_218 cM_look_220 rfl rfl
theorem rM_look_220 {a0 s1 : Nat} {a3 a4 a5 s0 : Int} {u1 u2 : zV} : zS 181 220 [zR a0, u1, u2, zI a3, zI a4, zI a5] [zI s0, zR s1] sh pp mm Q ↔ zS 181 221 [zR a0, zU, zU, zI a3, zI a4, zI a5] [zI 2, zI s0, zR s1] sh pp mm Q := s_go cM_look_220 cM_look_221 rfl rfl
theorem rM_look_221 {a0 s2 : Nat} {a3 a4 a5 s0 s1 : Int} {u1 u2 : zV} : zS 181 221 [zR a0, u1, u2, zI a3, zI a4, zI a5] [zI s0, zI s1, zR s2] sh pp mm Q ↔ (s1 < s0 → zS 181 224 [zR a0, zU, zU, zI a3, zI a4, zI a5] [zR s2] sh pp mm Q) ∧ (¬ s1 < s0 → zS 181 247 [zR a0, zU, zU, zI a3, zI a4, zI a5] [zR s2] sh pp mm Q) := s_ifn cM_look_221 cM_look_224 cM_look_247 rfl rfl rfl
theorem rM_look_224 {a0 s0 : Nat} {a3 a4 a5 : Int} {u1 u2 : zV} : zS 181 224 [zR a0, u1, u2, zI a3, zI a4, zI a5] [zR s0] sh pp mm Q ↔ zS 181 226 [zR a0, zU, zU, zI a3, zI a4, zI a5] [zI 10, zR s0] sh pp mm Q := s_go cM_look_224 cM_look_226 rfl rfl
theorem rM_look_226 {a0 s1 : Nat} {a3 a4 a5 s0 : Int} {u1 u2 : zV} : zS 181 226 [zR a0, u1, u2, zI a3, zI a4, zI a5] [zI s0, zR s1] sh pp mm Q ↔ zS 181 227 [zR a0, zU, zU, zI a3, zI a4, zI a5] [zR a0, zI s0, zR s1] sh pp mm Q := s_go cM_look_226 cM_look_227 rfl rfl
theorem rM_look_227 {a0 s0 s2 : Nat} {a3 a4 a5 s1 : Int} {u1 u2 : zV} (hk : zKd sh s0 = 12) : zS 181 227 [zR a0, u1, u2, zI a3, zI a4, zI a5] [zR s0, zI s1, zR s2] sh pp mm Q ↔ zS 181 230 [zR a0, zU, zU, zI a3, zI a4, zI a5] [zI (mm s0 11), zI s1, zR s2] sh pp mm Q := s_go cM_look_227 cM_look_230 (if_pos hk) rfl
theorem rM_look_230 {a0 s2 : Nat} {a3 a4 a5 s0 s1 : Int} {u1 u2 : zV} : zS 181 230 [zR a0, u1, u2, zI a3, zI a4, zI a5] [zI s0, zI s1, zR s2] sh pp mm Q ↔ zS 181 231 [zR a0, zU, zU, zI a3, zI a4, zI a5] [zI (zw32 (s1 * s0)), zR s2] sh pp mm Q := s_go cM_look_230 cM_look_231 rfl rfl
theorem rM_look_231 {a0 s1 : Nat} {a3 a4 a5 s0 : Int} {u1 u2 : zV} : zS 181 231 [zR a0, u1, u2, zI a3, zI a4, zI a5] [zI s0, zR s1] sh pp mm Q ↔ zS 181 232 [zR a0, zU, zU, zI a3, zI a4, zI a5] [zR a0, zI s0, zR s1] sh pp mm Q := s_go cM_look_231 cM_look_232 rfl rfl
theorem rM_look_232 {a0 s0 s2 : Nat} {a3 a4 a5 s1 : Int} {u1 u2 : zV} : zS 181 232 [zR a0, u1, u2, zI a3, zI a4, zI a5] [zR s0, zI s1, zR s2] sh pp mm Q ↔ zS 181 234 [zR a0, zU, zU, zI a3, zI a4, zI a5] [zI a4, zR s0, zI s1, zR s2] sh pp mm Q := s_go cM_look_232 cM_look_234 rfl rfl
theorem rM_look_234 {a0 s1 s3 : Nat} {a3 a4 a5 s0 s2 : Int} {u1 u2 : zV} : zS 181 234 [zR a0, u1, u2, zI a3, zI a4, zI a5] [zI s0, zR s1, zI s2, zR s3] sh pp mm Q ↔ zS 181 236 [zR a0, zU, zU, zI a3, zI a4, zI a5] [zI a5, zI s0, zR s1, zI s2, zR s3] sh pp mm Q := s_go cM_look_234 cM_look_236 rfl rfl
theorem rM_look_236 {a0 s2 s4 : Nat} {a3 a4 a5 s0 s1 s3 : Int} {u1 u2 : zV} : zS 181 236 [zR a0, u1, u2, zI a3, zI a4, zI a5] [zI s0, zI s1, zR s2, zI s3, zR s4] sh pp mm Q ↔ zS 181 237 [zR a0, zU, zU, zI a3, zI a4, zI a5] [zI (zw32 (s1 + s0)), zR s2, zI s3, zR s4] sh pp mm Q := s_go cM_look_236 cM_look_237 rfl rfl
theorem rM_look_237 {a0 s1 s3 : Nat} {a3 a4 a5 s0 s2 : Int} {u1 u2 : zV} (hk : zKd sh s1 = 12) : zS 181 237 [zR a0, u1, u2, zI a3, zI a4, zI a5] [zI s0, zR s1, zI s2, zR s3] sh pp mm Q ↔ zS 176 0 [zR s1, zI s0] [] sh pp mm (fun v sh pp mm => zS 181 240 [zR a0, zU, zU, zI a3, zI a4, zI a5] (zPush v [zI s2, zR s3]) sh pp mm Q) := s_call cM_look_237 cM_look_240 ((if_pos hk).trans rfl) rfl
theorem rM_look_240 {a0 s2 : Nat} {a3 a4 a5 s0 s1 : Int} {u1 u2 : zV} : zS 181 240 [zR a0, u1, u2, zI a3, zI a4, zI a5] [zI s0, zI s1, zR s2] sh pp mm Q ↔ zS 181 241 [zR a0, zU, zU, zI a3, zI a4, zI a5] [zI (zw32 (s1 + s0)), zR s2] sh pp mm Q := s_go cM_look_240 cM_look_241 rfl rfl
theorem rM_look_241 {a0 s1 : Nat} {a3 a4 a5 s0 : Int} {u1 u2 : zV} : zS 181 241 [zR a0, u1, u2, zI a3, zI a4, zI a5] [zI s0, zR s1] sh pp mm Q ↔ zS 181 243 [zR a0, zU, zU, zI a3, zI a4, zI a5] [zI 48, zI s0, zR s1] sh pp mm Q := s_go cM_look_241 cM_look_243 rfl rfl
theorem rM_look_243 {a0 s2 : Nat} {a3 a4 a5 s0 s1 : Int} {u1 u2 : zV} : zS 181 243 [zR a0, u1, u2, zI a3, zI a4, zI a5] [zI s0, zI s1, zR s2] sh pp mm Q ↔ zS 181 244 [zR a0, zU, zU, zI a3, zI a4, zI a5] [zI (zw32 (s1 - s0)), zR s2] sh pp mm Q := s_go cM_look_243 cM_look_244 rfl rfl
theorem rM_look_244 {a0 s1 : Nat} {a3 a4 a5 s0 : Int} {u1 u2 : zV} : zS 181 244 [zR a0, u1, u2, zI a3, zI a4, zI a5] [zI s0, zR s1] sh pp mm Q ↔ zS 181 251 [zR a0, zU, zU, zI a3, zI a4, zI a5] [zI s0, zR s1] sh pp mm Q := s_go cM_look_244 cM_look_251 rfl rfl
theorem rM_look_247 {a0 s0 : Nat} {a3 a4 a5 : Int} {u1 u2 : zV} : zS 181 247 [zR a0, u1, u2, zI a3, zI a4, zI a5] [zR s0] sh pp mm Q ↔ zS 181 248 [zR a0, zU, zU, zI a3, zI a4, zI a5] [zR a0, zR s0] sh pp mm Q := s_go cM_look_247 cM_look_248 rfl rfl
theorem rM_look_248 {a0 s0 s1 : Nat} {a3 a4 a5 : Int} {u1 u2 : zV} (hk : zKd sh s0 = 12) : zS 181 248 [zR a0, u1, u2, zI a3, zI a4, zI a5] [zR s0, zR s1] sh pp mm Q ↔ zS 181 251 [zR a0, zU, zU, zI a3, zI a4, zI a5] [zI (mm s0 11), zR s1] sh pp mm Q := s_go cM_look_248 cM_look_251 (if_pos hk) rfl
theorem rM_look_251 {a0 s1 : Nat} {a3 a4 a5 s0 : Int} {u1 u2 : zV} (hk : zKd sh s1 = 12) : zS 181 251 [zR a0, u1, u2, zI a3, zI a4, zI a5] [zI s0, zR s1] sh pp mm Q ↔ zS 181 254 [zR a0, zU, zU, zI a3, zI a4, zI a5] [] sh pp (zupd mm s1 11 s0) Q := s_go cM_look_251 cM_look_254 (if_pos ⟨hk, Or.inl rfl⟩) rfl
theorem rM_look_254 {a0 : Nat} {a3 a4 a5 : Int} {u1 u2 : zV} : zS 181 254 [zR a0, u1, u2, zI a3, zI a4, zI a5] [] sh pp mm Q ↔ zS 181 257 [zR a0, zU, zU, zI a3, zI a4, zI (zw32 (a5 + 1))] [] sh pp mm Q := s_go cM_look_254 cM_look_257 rfl rfl
theorem rM_look_257 {a0 : Nat} {a3 a4 a5 : Int} {u1 u2 : zV} : zS 181 257 [zR a0, u1, u2, zI a3, zI a4, zI a5] [] sh pp mm Q ↔ zS 181 205 [zR a0, zU, zU, zI a3, zI a4, zI a5] [] sh pp mm Q := s_go cM_look_257 cM_look_205 rfl rfl
theorem rM_look_260 {a0 : Nat} {a3 a4 a5 : Int} {u1 u2 : zV} : zS 181 260 [zR a0, u1, u2, zI a3, zI a4, zI a5] [] sh pp mm Q ↔ zS 181 261 [zR a0, zU, zU, zI a3, zI a4, zI a5] [zR a0] sh pp mm Q := s_go cM_look_260 cM_look_261 rfl rfl
theorem rM_look_261 {a0 s0 : Nat} {a3 a4 a5 : Int} {u1 u2 : zV} : zS 181 261 [zR a0, u1, u2, zI a3, zI a4, zI a5] [zR s0] sh pp mm Q ↔ zS 181 263 [zR a0, zU, zU, zI a3, zI a4, zI a5] [zI a5, zR s0] sh pp mm Q := s_go cM_look_261 cM_look_263 rfl rfl
theorem rM_look_263 {a0 s1 : Nat} {a3 a4 a5 s0 : Int} {u1 u2 : zV} : zS 181 263 [zR a0, u1, u2, zI a3, zI a4, zI a5] [zI s0, zR s1] sh pp mm Q ↔ zS 181 264 [zR a0, zU, zU, zI a3, zI a4, zI a5] [zI 2, zI s0, zR s1] sh pp mm Q := s_go cM_look_263 cM_look_264 rfl rfl
theorem rM_look_264 {a0 s2 : Nat} {a3 a4 a5 s0 s1 : Int} {u1 u2 : zV} : zS 181 264 [zR a0, u1, u2, zI a3, zI a4, zI a5] [zI s0, zI s1, zR s2] sh pp mm Q ↔ (s0 < s1 → zS 181 267 [zR a0, zU, zU, zI a3, zI a4, zI a5] [zR s2] sh pp mm Q) ∧ (¬ s0 < s1 → zS 181 271 [zR a0, zU, zU, zI a3, zI a4, zI a5] [zR s2] sh pp mm Q) := s_ifn cM_look_264 cM_look_267 cM_look_271 rfl rfl rfl
theorem rM_look_267 {a0 s0 : Nat} {a3 a4 a5 : Int} {u1 u2 : zV} : zS 181 267 [zR a0, u1, u2, zI a3, zI a4, zI a5] [zR s0] sh pp mm Q ↔ zS 181 268 [zR a0, zU, zU, zI a3, zI a4, zI a5] [zI 4, zR s0] sh pp mm Q := s_go cM_look_267 cM_look_268 rfl rfl
theorem rM_look_268 {a0 s1 : Nat} {a3 a4 a5 s0 : Int} {u1 u2 : zV} : zS 181 268 [zR a0, u1, u2, zI a3, zI a4, zI a5] [zI s0, zR s1] sh pp mm Q ↔ zS 181 272 [zR a0, zU, zU, zI a3, zI a4, zI a5] [zI s0, zR s1] sh pp mm Q := s_go cM_look_268 cM_look_272 rfl rfl
theorem rM_look_271 {a0 s0 : Nat} {a3 a4 a5 : Int} {u1 u2 : zV} : zS 181 271 [zR a0, u1, u2, zI a3, zI a4, zI a5] [zR s0] sh pp mm Q ↔ zS 181 272 [zR a0, zU, zU, zI a3, zI a4, zI a5] [zI 2, zR s0] sh pp mm Q := s_go cM_look_271 cM_look_272 rfl rfl
theorem rM_look_272 {a0 s1 : Nat} {a3 a4 a5 s0 : Int} {u1 u2 : zV} (hk : zKd sh s1 = 12) : zS 181 272 [zR a0, u1, u2, zI a3, zI a4, zI a5] [zI s0, zR s1] sh pp mm Q ↔ zS 181 275 [zR a0, zU, zU, zI a3, zI a4, zI a5] [] sh pp (zupd mm s1 10 s0) Q := s_go cM_look_272 cM_look_275 (if_pos ⟨hk, Or.inl rfl⟩) rfl
theorem rM_look_275 {a0 : Nat} {a3 a4 a5 : Int} {u1 u2 : zV} : zS 181 275 [zR a0, u1, u2, zI a3, zI a4, zI a5] [] sh pp mm Q ↔ zS 181 276 [zR a0, zU, zU, zI a3, zI a4, zI a5] [zR a0] sh pp mm Q := s_go cM_look_275 cM_look_276 rfl rfl
theorem rM_look_276 {a0 s0 : Nat} {a3 a4 a5 : Int} {u1 u2 : zV} : zS 181 276 [zR a0, u1, u2, zI a3, zI a4, zI a5] [zR s0] sh pp mm Q ↔ zS 181 278 [zR a0, zU, zU, zI a3, zU, zI a5] [zI a4, zR s0] sh pp mm Q := s_go cM_look_276 cM_look_278 rfl rfl
theorem rM_look_278 {a0 s1 : Nat} {a3 a5 s0 : Int} {u1 u2 u4 : zV} : zS 181 278 [zR a0, u1, u2, zI a3, u4, zI a5] [zI s0, zR s1] sh pp mm Q ↔ zS 181 280 [zR a0, zU, zU, zI a3, zU, zU] [zI a5, zI s0, zR s1] sh pp mm Q := s_go cM_look_278 cM_look_280 rfl rfl
theorem rM_look_280 {a0 s2 : Nat} {a3 s0 s1 : Int} {u1 u2 u4 u5 : zV} : zS 181 280 [zR a0, u1, u2, zI a3, u4, u5] [zI s0, zI s1, zR s2] sh pp mm Q ↔ zS 181 281 [zR a0, zU, zU, zI a3, zU, zU] [zI (zw32 (s1 + s0)), zR s2] sh pp mm Q := s_go cM_look_280 cM_look_281 rfl rfl
theorem rM_look_281 {a0 s1 : Nat} {a3 s0 : Int} {u1 u2 u4 u5 : zV} : zS 181 281 [zR a0, u1, u2, zI a3, u4, u5] [zI s0, zR s1] sh pp mm Q ↔ zS 181 282 [zR a0, zU, zU, zI a3, zU, zU] [zR a0, zI s0, zR s1] sh pp mm Q := s_go cM_look_281 cM_look_282 rfl rfl
theorem rM_look_282 {a0 s0 s2 : Nat} {a3 s1 : Int} {u1 u2 u4 u5 : zV} (hk : zKd sh s0 = 12) : zS 181 282 [zR a0, u1, u2, zI a3, u4, u5] [zR s0, zI s1, zR s2] sh pp mm Q ↔ zS 181 285 [zR a0, zU, zU, zI a3, zU, zU] [zI (mm s0 8), zI s1, zR s2] sh pp mm Q := s_go cM_look_282 cM_look_285 (if_pos hk) rfl
theorem rM_look_285 {a0 s2 : Nat} {a3 s0 s1 : Int} {u1 u2 u4 u5 : zV} : zS 181 285 [zR a0, u1, u2, zI a3, u4, u5] [zI s0, zI s1, zR s2] sh pp mm Q ↔ zS 181 286 [zR a0, zU, zU, zI a3, zU, zU] [zI (zw32 (s1 - s0)), zR s2] sh pp mm Q := s_go cM_look_285 cM_look_286 rfl rfl
theorem rM_look_286 {a0 s1 : Nat} {a3 s0 : Int} {u1 u2 u4 u5 : zV} (hk : zKd sh s1 = 12) : zS 181 286 [zR a0, u1, u2, zI a3, u4, u5] [zI s0, zR s1] sh pp mm Q ↔ zS 181 289 [zR a0, zU, zU, zI a3, zU, zU] [] sh pp (zupd mm s1 9 s0) Q := s_go cM_look_286 cM_look_289 (if_pos ⟨hk, Or.inl rfl⟩) rfl
theorem rM_look_289 {a0 : Nat} {a3 : Int} {u1 u2 u4 u5 : zV} : zS 181 289 [zR a0, u1, u2, zI a3, u4, u5] [] sh pp mm Q ↔ zS 181 290 [zR a0, zU, zU, zI a3, zU, zU] [zR a0] sh pp mm Q := s_go cM_look_289 cM_look_290 rfl rfl
theorem rM_look_290 {a0 s0 : Nat} {a3 : Int} {u1 u2 u4 u5 : zV} : zS 181 290 [zR a0, u1, u2, zI a3, u4, u5] [zR s0] sh pp mm Q ↔ zS 181 291 [zR a0, zU, zU, zU, zU, zU] [zI a3, zR s0] sh pp mm Q := s_go cM_look_290 cM_look_291 rfl rfl
theorem rM_look_291 {a0 s1 : Nat} {s0 : Int} {u1 u2 u3 u4 u5 : zV} : zS 181 291 [zR a0, u1, u2, u3, u4, u5] [zI s0, zR s1] sh pp mm Q ↔ (s0 = 0 → zS 181 302 [zR a0, zU, zU, zU, zU, zU] [zR s1] sh pp mm Q) ∧ (¬ s0 = 0 → zS 181 294 [zR a0, zU, zU, zU, zU, zU] [zR s1] sh pp mm Q) := s_if cM_look_291 cM_look_302 cM_look_294 rfl rfl rfl
theorem rM_look_294 {a0 s0 : Nat} {u1 u2 u3 u4 u5 : zV} : zS 181 294 [zR a0, u1, u2, u3, u4, u5] [zR s0] sh pp mm Q ↔ zS 181 295 [zU, zU, zU, zU, zU, zU] [zR a0, zR s0] sh pp mm Q := s_go cM_look_294 cM_look_295 rfl rfl
theorem rM_look_295 {s0 s1 : Nat} {u0 u1 u2 u3 u4 u5 : zV} (hk : zKd sh s0 = 12) : zS 181 295 [u0, u1, u2, u3, u4, u5] [zR s0, zR s1] sh pp mm Q ↔ zS 181 298 [zU, zU, zU, zU, zU, zU] [zI (mm s0 11), zR s1] sh pp mm Q := s_go cM_look_295 cM_look_298 (if_pos hk) rfl
theorem rM_look_298 {s1 : Nat} {s0 : Int} {u0 u1 u2 u3 u4 u5 : zV} : zS 181 298 [u0, u1, u2, u3, u4, u5] [zI s0, zR s1] sh pp mm Q ↔ zS 181 299 [zU, zU, zU, zU, zU, zU] [zI (zw32 (-s0)), zR s1] sh pp mm Q := s_go cM_look_298 cM_look_299 rfl rfl
theorem rM_look_299 {s1 : Nat} {s0 : Int} {u0 u1 u2 u3 u4 u5 : zV} : zS 181 299 [u0, u1, u2, u3, u4, u5] [zI s0, zR s1] sh pp mm Q ↔ zS 181 306 [zU, zU, zU, zU, zU, zU] [zI s0, zR s1] sh pp mm Q := s_go cM_look_299 cM_look_306 rfl rfl
theorem rM_look_302 {a0 s0 : Nat} {u1 u2 u3 u4 u5 : zV} : zS 181 302 [zR a0, u1, u2, u3, u4, u5] [zR s0] sh pp mm Q ↔ zS 181 303 [zU, zU, zU, zU, zU, zU] [zR a0, zR s0] sh pp mm Q := s_go cM_look_302 cM_look_303 rfl rfl
theorem rM_look_303 {s0 s1 : Nat} {u0 u1 u2 u3 u4 u5 : zV} (hk : zKd sh s0 = 12) : zS 181 303 [u0, u1, u2, u3, u4, u5] [zR s0, zR s1] sh pp mm Q ↔ zS 181 306 [zU, zU, zU, zU, zU, zU] [zI (mm s0 11), zR s1] sh pp mm Q := s_go cM_look_303 cM_look_306 (if_pos hk) rfl
theorem rM_look_306 {s1 : Nat} {s0 : Int} {u0 u1 u2 u3 u4 u5 : zV} (hk : zKd sh s1 = 12) : zS 181 306 [u0, u1, u2, u3, u4, u5] [zI s0, zR s1] sh pp mm Q ↔ zS 181 309 [zU, zU, zU, zU, zU, zU] [] sh pp (zupd mm s1 11 s0) Q := s_go cM_look_306 cM_look_309 (if_pos ⟨hk, Or.inl rfl⟩) rfl
theorem rM_look_309 {u0 u1 u2 u3 u4 u5 : zV} : zS 181 309 [u0, u1, u2, u3, u4, u5] [] sh pp mm Q ↔ zS 181 327 [zU, zU, zU, zU, zU, zU] [] sh pp mm Q := s_go cM_look_309 cM_look_327 rfl rfl
theorem rM_look_312 {a0 : Nat} {a2 : Int} {u1 u3 u4 u5 : zV} : zS 181 312 [zR a0, u1, zI a2, u3, u4, u5] [] sh pp mm Q ↔ zS 181 313 [zU, zU, zI a2, zU, zU, zU] [zR a0] sh pp mm Q := s_go cM_look_312 cM_look_313 rfl rfl
theorem rM_look_313 {s0 : Nat} {a2 : Int} {u0 u1 u3 u4 u5 : zV} : zS 181 313 [u0, u1, zI a2, u3, u4, u5] [zR s0] sh pp mm Q ↔ zS 181 314 [zU, zU, zU, zU, zU, zU] [zI a2, zR s0] sh pp mm Q := s_go cM_look_313 cM_look_314 rfl rfl
theorem rM_look_314 {s1 : Nat} {s0 : Int} {u0 u1 u2 u3 u4 u5 : zV} : zS 181 314 [u0, u1, u2, u3, u4, u5] [zI s0, zR s1] sh pp mm Q ↔ zS 181 316 [zU, zU, zU, zU, zU, zU] [zI 59, zI s0, zR s1] sh pp mm Q := s_go cM_look_314 cM_look_316 rfl rfl
theorem rM_look_316 {s2 : Nat} {s0 s1 : Int} {u0 u1 u2 u3 u4 u5 : zV} : zS 181 316 [u0, u1, u2, u3, u4, u5] [zI s0, zI s1, zR s2] sh pp mm Q ↔ (s1 = s0 → zS 181 319 [zU, zU, zU, zU, zU, zU] [zR s2] sh pp mm Q) ∧ (¬ s1 = s0 → zS 181 323 [zU, zU, zU, zU, zU, zU] [zR s2] sh pp mm Q) := s_ifn cM_look_316 cM_look_319 cM_look_323 rfl rfl rfl
theorem rM_look_319 {s0 : Nat} {u0 u1 u2 u3 u4 u5 : zV} : zS 181 319 [u0, u1, u2, u3, u4, u5] [zR s0] sh pp mm Q ↔ zS 181 320 [zU, zU, zU, zU, zU, zU] [zI 3, zR s0] sh pp mm Q := s_go cM_look_319 cM_look_320 rfl rfl
theorem rM_look_320 {s1 : Nat} {s0 : Int} {u0 u1 u2 u3 u4 u5 : zV} : zS 181 320 [u0, u1, u2, u3, u4, u5] [zI s0, zR s1] sh pp mm Q ↔ zS 181 324 [zU, zU, zU, zU, zU, zU] [zI s0, zR s1] sh pp mm Q := s_go cM_look_320 cM_look_324 rfl rfl
theorem rM_look_323 {s0 : Nat} {u0 u1 u2 u3 u4 u5 : zV} : zS 181 323 [u0, u1, u2, u3, u4, u5] [zR s0] sh pp mm Q ↔ zS 181 324 [zU, zU, zU, zU, zU, zU] [zI 4, zR s0] sh pp mm Q := s_go cM_look_323 cM_look_324 rfl rfl
theorem rM_look_324 {s1 : Nat} {s0 : Int} {u0 u1 u2 u3 u4 u5 : zV} (hk : zKd sh s1 = 12) : zS 181 324 [u0, u1, u2, u3, u4, u5] [zI s0, zR s1] sh pp mm Q ↔ zS 181 327 [zU, zU, zU, zU, zU, zU] [] sh pp (zupd mm s1 10 s0) Q := s_go cM_look_324 cM_look_327 (if_pos ⟨hk, Or.inl rfl⟩) rfl
theorem rM_look_327 {u0 u1 u2 u3 u4 u5 : zV} : zS 181 327 [u0, u1, u2, u3, u4, u5] [] sh pp mm Q ↔ Q zU sh pp mm := s_ret cM_look_327 rfl
end
