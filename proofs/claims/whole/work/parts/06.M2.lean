/-! rules of the small machine at each place of the code, by program: M_goOn, M_isWord, M_takes, M_readItem, M_reads, M_fault, M_place, M_click, M_size, M_sign1, M_greater, M_turn, M_shake, M_startPlate, M_does, M_cellsDrawn, M_draws, M_cell, M_point, M_keepDrawn, M_isAsBefore, M_same, M_quickest, M_wish, M_forget, M_right, M_isCorner, M_corner -/
section
variable {sh : zSh} {pp : zPp} {mm : zMm} {Q : zV → zSh → zPp → zMm → Prop}
theorem cAM_goOn : ∀ q ∈ zT182, zCode 182 q.1 = some q.2 := zAll (mid := 182) rfl (by decide +kernel)
theorem cAM_goOn_0 : ∀ q ∈ zT182_0, zCode 182 q.1 = some q.2 := fun q h => cAM_goOn q (h)
theorem cM_goOn_0 : zCode 182 0 = some (.aload_n 0, 1, 0, 0, 0, 0, 1) := cAM_goOn_0 _ (List.mem_of_getElem? (i := 0) rfl)
theorem cM_goOn_1 : zCode 182 1 = some (.aload_n 0, 2, 0, 0, 0, 0, 1) := cAM_goOn_0 _ (List.mem_of_getElem? (i := 1) rfl)
theorem cM_goOn_2 : zCode 182 2 = some (.getfield 170, 5, 12, 8, 0, 1217, 1) := cAM_goOn_0 _ (List.mem_of_getElem? (i := 2) rfl)
theorem cM_goOn_5 : zCode 182 5 = some (.aload_n 0, 6, 0, 0, 0, 0, 1) := cAM_goOn_0 _ (List.mem_of_getElem? (i := 3) rfl)
theorem cM_goOn_6 : zCode 182 6 = some (.getfield 173, 9, 12, 9, 0, 1218, 0) := cAM_goOn_0 _ (List.mem_of_getElem? (i := 4) rfl)
theorem cM_goOn_9 : zCode 182 9 = some (.iadd, 10, 0, 0, 0, 0, 0) := cAM_goOn_0 _ (List.mem_of_getElem? (i := 5) rfl)
theorem cM_goOn_10 : zCode 182 10 = some (.invokevirtual 188, 13, 181, 1, 6, 12, 0) := cAM_goOn_0 _ (List.mem_of_getElem? (i := 6) rfl)
theorem cM_goOn_13 : zCode 182 13 = some (.return_, 14, 0, 0, 0, 0, 0) := cAM_goOn_0 _ (List.mem_of_getElem? (i := 7) rfl)
theorem rM_goOn_0 {a0 : Nat} : zS 182 0 [zR a0] [] sh pp mm Q ↔ zS 182 1 [zR a0] [zR a0] sh pp mm Q := s_go cM_goOn_0 cM_goOn_1 rfl rfl
theorem rM_goOn_1 {a0 s0 : Nat} : zS 182 1 [zR a0] [zR s0] sh pp mm Q ↔ zS 182 2 [zR a0] [zR a0, zR s0] sh pp mm Q := s_go cM_goOn_1 cM_goOn_2 rfl rfl
theorem rM_goOn_2 {a0 s0 s1 : Nat} (hk : zKd sh s0 = 12) : zS 182 2 [zR a0] [zR s0, zR s1] sh pp mm Q ↔ zS 182 5 [zR a0] [zI (mm s0 8), zR s1] sh pp mm Q := s_go cM_goOn_2 cM_goOn_5 (if_pos hk) rfl
theorem rM_goOn_5 {a0 s1 : Nat} {s0 : Int} : zS 182 5 [zR a0] [zI s0, zR s1] sh pp mm Q ↔ zS 182 6 [zU] [zR a0, zI s0, zR s1] sh pp mm Q := s_go cM_goOn_5 cM_goOn_6 rfl rfl
theorem rM_goOn_6 {s0 s2 : Nat} {s1 : Int} {u0 : zV} (hk : zKd sh s0 = 12) : zS 182 6 [u0] [zR s0, zI s1, zR s2] sh pp mm Q ↔ zS 182 9 [zU] [zI (mm s0 9), zI s1, zR s2] sh pp mm Q := s_go cM_goOn_6 cM_goOn_9 (if_pos hk) rfl
theorem rM_goOn_9 {s2 : Nat} {s0 s1 : Int} {u0 : zV} : zS 182 9 [u0] [zI s0, zI s1, zR s2] sh pp mm Q ↔ zS 182 10 [zU] [zI (zw32 (s1 + s0)), zR s2] sh pp mm Q := s_go cM_goOn_9 cM_goOn_10 rfl rfl
theorem rM_goOn_10 {s1 : Nat} {s0 : Int} {u0 : zV} (hk : zKd sh s1 = 12) : zS 182 10 [u0] [zI s0, zR s1] sh pp mm Q ↔ zS 181 0 [zR s1, zI s0, zU, zU, zU, zU] [] sh pp mm (fun v sh pp mm => zS 182 13 [zU] (zPush v []) sh pp mm Q) := s_call cM_goOn_10 cM_goOn_13 ((if_pos hk).trans rfl) rfl
theorem rM_goOn_13 {u0 : zV} : zS 182 13 [u0] [] sh pp mm Q ↔ Q zU sh pp mm := s_ret cM_goOn_13 rfl
theorem cAM_isWord : ∀ q ∈ zT183, zCode 183 q.1 = some q.2 := zAll (mid := 183) rfl (by decide +kernel)
theorem cAM_isWord_0 : ∀ q ∈ zT183_0, zCode 183 q.1 = some q.2 := fun q h => cAM_isWord q (List.mem_append_left _ h)
theorem cAM_isWord_1 : ∀ q ∈ zT183_1, zCode 183 q.1 = some q.2 := fun q h => cAM_isWord q (List.mem_append_right _ (List.mem_append_left _ h))
theorem cAM_isWord_2 : ∀ q ∈ zT183_2, zCode 183 q.1 = some q.2 := fun q h => cAM_isWord q (List.mem_append_right _ (List.mem_append_right _ (List.mem_append_left _ h)))
theorem cAM_isWord_3 : ∀ q ∈ zT183_3, zCode 183 q.1 = some q.2 := fun q h => cAM_isWord q (List.mem_append_right _ (List.mem_append_right _ (List.mem_append_right _ h)))
theorem cM_isWord_0 : zCode 183 0 = some (.iload 4, 2, 0, 0, 0, 0, 63) := cAM_isWord_0 _ (List.mem_of_getElem? (i := 0) rfl)
theorem cM_isWord_2 : zCode 183 2 = some (.ifCond .ne 7, 5, 9, 0, 0, 0, 63) := cAM_isWord_0 _ (List.mem_of_getElem? (i := 1) rfl)
theorem cM_isWord_5 : zCode 183 5 = some (.iconst 3, 6, 0, 0, 0, 0, 63) := cAM_isWord_0 _ (List.mem_of_getElem? (i := 2) rfl)
theorem cM_isWord_6 : zCode 183 6 = some (.goto 13, 9, 19, 0, 0, 0, 63) := cAM_isWord_0 _ (List.mem_of_getElem? (i := 3) rfl)
theorem cM_isWord_9 : zCode 183 9 = some (.iload 5, 11, 0, 0, 0, 0, 63) := cAM_isWord_0 _ (List.mem_of_getElem? (i := 4) rfl)
theorem cM_isWord_11 : zCode 183 11 = some (.ifCond .ne 7, 14, 18, 0, 0, 0, 63) := cAM_isWord_0 _ (List.mem_of_getElem? (i := 5) rfl)
theorem cM_isWord_14 : zCode 183 14 = some (.iconst 4, 15, 0, 0, 0, 0, 63) := cAM_isWord_0 _ (List.mem_of_getElem? (i := 6) rfl)
theorem cM_isWord_15 : zCode 183 15 = some (.goto 4, 18, 19, 0, 0, 0, 63) := cAM_isWord_0 _ (List.mem_of_getElem? (i := 7) rfl)
theorem cM_isWord_18 : zCode 183 18 = some (.iconst 5, 19, 0, 0, 0, 0, 63) := cAM_isWord_0 _ (List.mem_of_getElem? (i := 8) rfl)
theorem cM_isWord_19 : zCode 183 19 = some (.istore 6, 21, 0, 0, 0, 0, 63) := cAM_isWord_0 _ (List.mem_of_getElem? (i := 9) rfl)
theorem cM_isWord_21 : zCode 183 21 = some (.aload_n 0, 22, 0, 0, 0, 0, 127) := cAM_isWord_0 _ (List.mem_of_getElem? (i := 10) rfl)
theorem cM_isWord_22 : zCode 183 22 = some (.getfield 176, 25, 12, 10, 0, 1219, 127) := cAM_isWord_0 _ (List.mem_of_getElem? (i := 11) rfl)
theorem cM_isWord_25 : zCode 183 25 = some (.iconst 1, 26, 0, 0, 0, 0, 127) := cAM_isWord_0 _ (List.mem_of_getElem? (i := 12) rfl)
theorem cM_isWord_26 : zCode 183 26 = some (.if_icmp .ne 16, 29, 42, 0, 0, 0, 127) := cAM_isWord_0 _ (List.mem_of_getElem? (i := 13) rfl)
theorem cM_isWord_29 : zCode 183 29 = some (.aload_n 0, 30, 0, 0, 0, 0, 127) := cAM_isWord_0 _ (List.mem_of_getElem? (i := 14) rfl)
theorem cM_isWord_30 : zCode 183 30 = some (.getfield 173, 33, 12, 9, 0, 1218, 127) := cAM_isWord_0 _ (List.mem_of_getElem? (i := 15) rfl)
theorem cM_isWord_33 : zCode 183 33 = some (.iload 6, 35, 0, 0, 0, 0, 127) := cAM_isWord_1 _ (List.mem_of_getElem? (i := 0) rfl)
theorem cM_isWord_35 : zCode 183 35 = some (.if_icmp .ne 7, 38, 42, 0, 0, 0, 127) := cAM_isWord_1 _ (List.mem_of_getElem? (i := 1) rfl)
theorem cM_isWord_38 : zCode 183 38 = some (.iconst 1, 39, 0, 0, 0, 0, 127) := cAM_isWord_1 _ (List.mem_of_getElem? (i := 2) rfl)
theorem cM_isWord_39 : zCode 183 39 = some (.goto 4, 42, 43, 0, 0, 0, 127) := cAM_isWord_1 _ (List.mem_of_getElem? (i := 3) rfl)
theorem cM_isWord_42 : zCode 183 42 = some (.iconst 0, 43, 0, 0, 0, 0, 127) := cAM_isWord_1 _ (List.mem_of_getElem? (i := 4) rfl)
theorem cM_isWord_43 : zCode 183 43 = some (.istore 7, 45, 0, 0, 0, 0, 127) := cAM_isWord_1 _ (List.mem_of_getElem? (i := 5) rfl)
theorem cM_isWord_45 : zCode 183 45 = some (.iconst 0, 46, 0, 0, 0, 0, 255) := cAM_isWord_1 _ (List.mem_of_getElem? (i := 6) rfl)
theorem cM_isWord_46 : zCode 183 46 = some (.istore 8, 48, 0, 0, 0, 0, 255) := cAM_isWord_1 _ (List.mem_of_getElem? (i := 7) rfl)
theorem cM_isWord_48 : zCode 183 48 = some (.iload 8, 50, 0, 0, 0, 0, 511) := cAM_isWord_1 _ (List.mem_of_getElem? (i := 8) rfl)
theorem cM_isWord_50 : zCode 183 50 = some (.iload 6, 52, 0, 0, 0, 0, 511) := cAM_isWord_1 _ (List.mem_of_getElem? (i := 9) rfl)
theorem cM_isWord_52 : zCode 183 52 = some (.if_icmp .ge 77, 55, 129, 0, 0, 0, 511) := cAM_isWord_1 _ (List.mem_of_getElem? (i := 10) rfl)
theorem cM_isWord_55 : zCode 183 55 = some (.iload 7, 57, 0, 0, 0, 0, 511) := cAM_isWord_1 _ (List.mem_of_getElem? (i := 11) rfl)
theorem cM_isWord_57 : zCode 183 57 = some (.ifCond .eq 72, 60, 129, 0, 0, 0, 511) := cAM_isWord_1 _ (List.mem_of_getElem? (i := 12) rfl)
theorem cM_isWord_60 : zCode 183 60 = some (.aload_n 0, 61, 0, 0, 0, 0, 383) := cAM_isWord_1 _ (List.mem_of_getElem? (i := 13) rfl)
theorem cM_isWord_61 : zCode 183 61 = some (.aload_n 0, 62, 0, 0, 0, 0, 383) := cAM_isWord_1 _ (List.mem_of_getElem? (i := 14) rfl)
theorem cM_isWord_62 : zCode 183 62 = some (.getfield 170, 65, 12, 8, 0, 1217, 383) := cAM_isWord_1 _ (List.mem_of_getElem? (i := 15) rfl)
theorem cM_isWord_65 : zCode 183 65 = some (.iload 8, 67, 0, 0, 0, 0, 383) := cAM_isWord_2 _ (List.mem_of_getElem? (i := 0) rfl)
theorem cM_isWord_67 : zCode 183 67 = some (.iadd, 68, 0, 0, 0, 0, 383) := cAM_isWord_2 _ (List.mem_of_getElem? (i := 1) rfl)
theorem cM_isWord_68 : zCode 183 68 = some (.invokevirtual 163, 71, 176, 1, 2, 12, 383) := cAM_isWord_2 _ (List.mem_of_getElem? (i := 2) rfl)
theorem cM_isWord_71 : zCode 183 71 = some (.iload 8, 73, 0, 0, 0, 0, 383) := cAM_isWord_2 _ (List.mem_of_getElem? (i := 3) rfl)
theorem cM_isWord_73 : zCode 183 73 = some (.ifCond .ne 7, 76, 80, 0, 0, 0, 383) := cAM_isWord_2 _ (List.mem_of_getElem? (i := 4) rfl)
theorem cM_isWord_76 : zCode 183 76 = some (.iload_n 1, 77, 0, 0, 0, 0, 383) := cAM_isWord_2 _ (List.mem_of_getElem? (i := 5) rfl)
theorem cM_isWord_77 : zCode 183 77 = some (.goto 36, 80, 113, 0, 0, 0, 383) := cAM_isWord_2 _ (List.mem_of_getElem? (i := 6) rfl)
theorem cM_isWord_80 : zCode 183 80 = some (.iload 8, 82, 0, 0, 0, 0, 383) := cAM_isWord_2 _ (List.mem_of_getElem? (i := 7) rfl)
theorem cM_isWord_82 : zCode 183 82 = some (.iconst 1, 83, 0, 0, 0, 0, 383) := cAM_isWord_2 _ (List.mem_of_getElem? (i := 8) rfl)
theorem cM_isWord_83 : zCode 183 83 = some (.if_icmp .ne 7, 86, 90, 0, 0, 0, 383) := cAM_isWord_2 _ (List.mem_of_getElem? (i := 9) rfl)
theorem cM_isWord_86 : zCode 183 86 = some (.iload_n 2, 87, 0, 0, 0, 0, 383) := cAM_isWord_2 _ (List.mem_of_getElem? (i := 10) rfl)
theorem cM_isWord_87 : zCode 183 87 = some (.goto 26, 90, 113, 0, 0, 0, 383) := cAM_isWord_2 _ (List.mem_of_getElem? (i := 11) rfl)
theorem cM_isWord_90 : zCode 183 90 = some (.iload 8, 92, 0, 0, 0, 0, 383) := cAM_isWord_2 _ (List.mem_of_getElem? (i := 12) rfl)
theorem cM_isWord_92 : zCode 183 92 = some (.iconst 2, 93, 0, 0, 0, 0, 383) := cAM_isWord_2 _ (List.mem_of_getElem? (i := 13) rfl)
theorem cM_isWord_93 : zCode 183 93 = some (.if_icmp .ne 7, 96, 100, 0, 0, 0, 383) := cAM_isWord_2 _ (List.mem_of_getElem? (i := 14) rfl)
theorem cM_isWord_96 : zCode 183 96 = some (.iload_n 3, 97, 0, 0, 0, 0, 383) := cAM_isWord_2 _ (List.mem_of_getElem? (i := 15) rfl)
theorem cM_isWord_97 : zCode 183 97 = some (.goto 16, 100, 113, 0, 0, 0, 383) := cAM_isWord_3 _ (List.mem_of_getElem? (i := 0) rfl)
theorem cM_isWord_100 : zCode 183 100 = some (.iload 8, 102, 0, 0, 0, 0, 383) := cAM_isWord_3 _ (List.mem_of_getElem? (i := 1) rfl)
theorem cM_isWord_102 : zCode 183 102 = some (.iconst 3, 103, 0, 0, 0, 0, 383) := cAM_isWord_3 _ (List.mem_of_getElem? (i := 2) rfl)
theorem cM_isWord_103 : zCode 183 103 = some (.if_icmp .ne 8, 106, 111, 0, 0, 0, 383) := cAM_isWord_3 _ (List.mem_of_getElem? (i := 3) rfl)
theorem cM_isWord_106 : zCode 183 106 = some (.iload 4, 108, 0, 0, 0, 0, 383) := cAM_isWord_3 _ (List.mem_of_getElem? (i := 4) rfl)
theorem cM_isWord_108 : zCode 183 108 = some (.goto 5, 111, 113, 0, 0, 0, 383) := cAM_isWord_3 _ (List.mem_of_getElem? (i := 5) rfl)
theorem cM_isWord_111 : zCode 183 111 = some (.iload 5, 113, 0, 0, 0, 0, 383) := cAM_isWord_3 _ (List.mem_of_getElem? (i := 6) rfl)
theorem cM_isWord_113 : zCode 183 113 = some (.if_icmp .ne 7, 116, 120, 0, 0, 0, 383) := cAM_isWord_3 _ (List.mem_of_getElem? (i := 7) rfl)
theorem cM_isWord_116 : zCode 183 116 = some (.iconst 1, 117, 0, 0, 0, 0, 383) := cAM_isWord_3 _ (List.mem_of_getElem? (i := 8) rfl)
theorem cM_isWord_117 : zCode 183 117 = some (.goto 4, 120, 121, 0, 0, 0, 383) := cAM_isWord_3 _ (List.mem_of_getElem? (i := 9) rfl)
theorem cM_isWord_120 : zCode 183 120 = some (.iconst 0, 121, 0, 0, 0, 0, 383) := cAM_isWord_3 _ (List.mem_of_getElem? (i := 10) rfl)
theorem cM_isWord_121 : zCode 183 121 = some (.istore 7, 123, 0, 0, 0, 0, 383) := cAM_isWord_3 _ (List.mem_of_getElem? (i := 11) rfl)
theorem cM_isWord_123 : zCode 183 123 = some (.iinc 8 1, 126, 0, 0, 0, 0, 511) := cAM_isWord_3 _ (List.mem_of_getElem? (i := 12) rfl)
theorem cM_isWord_126 : zCode 183 126 = some (.goto (-78), 129, 48, 0, 0, 0, 511) := cAM_isWord_3 _ (List.mem_of_getElem? (i := 13) rfl)
theorem cM_isWord_129 : zCode 183 129 = some (.iload 7, 131, 0, 0, 0, 0, 128) := cAM_isWord_3 _ (List.mem_of_getElem? (i := 14) rfl)
theorem cM_isWord_131 : zCode 183 131 = some (.ireturn, 132, 0, 3, 0, 0, 0) := cAM_isWord_3 _ (List.mem_of_getElem? (i := 15) rfl)
theorem rM_isWord_0 {a0 : Nat} {a1 a2 a3 a4 a5 : Int} {u6 u7 u8 : zV} : zS 183 0 [zR a0, zI a1, zI a2, zI a3, zI a4, zI a5, u6, u7, u8] [] sh pp mm Q ↔ zS 183 2 [zR a0, zI a1, zI a2, zI a3, zI a4, zI a5, zU, zU, zU] [zI a4] sh pp mm Q := s_go cM_isWord_0 cM_isWord_2 rfl rfl
theorem rM_isWord_2 {a0 : Nat} {a1 a2 a3 a4 a5 s0 : Int} {u6 u7 u8 : zV} : zS 183 2 [zR a0, zI a1, zI a2, zI a3, zI a4, zI a5, u6, u7, u8] [zI s0] sh pp mm Q ↔ (s0 = 0 → zS 183 5 [zR a0, zI a1, zI a2, zI a3, zI a4, zI a5, zU, zU, zU] [] sh pp mm Q) ∧ (¬ s0 = 0 → zS 183 9 [zR a0, zI a1, zI a2, zI a3, zI a4, zI a5, zU, zU, zU] [] sh pp mm Q) := s_ifn cM_isWord_2 cM_isWord_5 cM_isWord_9 rfl rfl rfl
theorem rM_isWord_5 {a0 : Nat} {a1 a2 a3 a4 a5 : Int} {u6 u7 u8 : zV} : zS 183 5 [zR a0, zI a1, zI a2, zI a3, zI a4, zI a5, u6, u7, u8] [] sh pp mm Q ↔ zS 183 6 [zR a0, zI a1, zI a2, zI a3, zI a4, zI a5, zU, zU, zU] [zI 3] sh pp mm Q := s_go cM_isWord_5 cM_isWord_6 rfl rfl
theorem rM_isWord_6 {a0 : Nat} {a1 a2 a3 a4 a5 s0 : Int} {u6 u7 u8 : zV} : zS 183 6 [zR a0, zI a1, zI a2, zI a3, zI a4, zI a5, u6, u7, u8] [zI s0] sh pp mm Q ↔ zS 183 19 [zR a0, zI a1, zI a2, zI a3, zI a4, zI a5, zU, zU, zU] [zI s0] sh pp mm Q := s_go cM_isWord_6 cM_isWord_19 rfl rfl
theorem rM_isWord_9 {a0 : Nat} {a1 a2 a3 a4 a5 : Int} {u6 u7 u8 : zV} : zS 183 9 [zR a0, zI a1, zI a2, zI a3, zI a4, zI a5, u6, u7, u8] [] sh pp mm Q ↔ zS 183 11 [zR a0, zI a1, zI a2, zI a3, zI a4, zI a5, zU, zU, zU] [zI a5] sh pp mm Q := s_go cM_isWord_9 cM_isWord_11 rfl rfl
theorem rM_isWord_11 {a0 : Nat} {a1 a2 a3 a4 a5 s0 : Int} {u6 u7 u8 : zV} : zS 183 11 [zR a0, zI a1, zI a2, zI a3, zI a4, zI a5, u6, u7, u8] [zI s0] sh pp mm Q ↔ (s0 = 0 → zS 183 14 [zR a0, zI a1, zI a2, zI a3, zI a4, zI a5, zU, zU, zU] [] sh pp mm Q) ∧ (¬ s0 = 0 → zS 183 18 [zR a0, zI a1, zI a2, zI a3, zI a4, zI a5, zU, zU, zU] [] sh pp mm Q) := s_ifn cM_isWord_11 cM_isWord_14 cM_isWord_18 rfl rfl rfl
theorem rM_isWord_14 {a0 : Nat} {a1 a2 a3 a4 a5 : Int} {u6 u7 u8 : zV} : zS 183 14 [zR a0, zI a1, zI a2, zI a3, zI a4, zI a5, u6, u7, u8] [] sh pp mm Q ↔ zS 183 15 [zR a0, zI a1, zI a2, zI a3, zI a4, zI a5, zU, zU, zU] [zI 4] sh pp mm Q := s_go cM_isWord_14 cM_isWord_15 rfl rfl
theorem rM_isWord_15 {a0 : Nat} {a1 a2 a3 a4 a5 s0 : Int} {u6 u7 u8 : zV} : zS 183 15 [zR a0, zI a1, zI a2, zI a3, zI a4, zI a5, u6, u7, u8] [zI s0] sh pp mm Q ↔ zS 183 19 [zR a0, zI a1, zI a2, zI a3, zI a4, zI a5, zU, zU, zU] [zI s0] sh pp mm Q := s_go cM_isWord_15 cM_isWord_19 rfl rfl
theorem rM_isWord_18 {a0 : Nat} {a1 a2 a3 a4 a5 : Int} {u6 u7 u8 : zV} : zS 183 18 [zR a0, zI a1, zI a2, zI a3, zI a4, zI a5, u6, u7, u8] [] sh pp mm Q ↔ zS 183 19 [zR a0, zI a1, zI a2, zI a3, zI a4, zI a5, zU, zU, zU] [zI 5] sh pp mm Q := s_go cM_isWord_18 cM_isWord_19 rfl rfl
theorem rM_isWord_19 {a0 : Nat} {a1 a2 a3 a4 a5 s0 : Int} {u6 u7 u8 : zV} : zS 183 19 [zR a0, zI a1, zI a2, zI a3, zI a4, zI a5, u6, u7, u8] [zI s0] sh pp mm Q ↔ zS 183 21 [zR a0, zI a1, zI a2, zI a3, zI a4, zI a5, zI s0, zU, zU] [] sh pp mm Q := s_go cM_isWord_19 cM_isWord_21 rfl rfl
theorem rM_isWord_21 {a0 : Nat} {a1 a2 a3 a4 a5 a6 : Int} {u7 u8 : zV} : zS 183 21 [zR a0, zI a1, zI a2, zI a3, zI a4, zI a5, zI a6, u7, u8] [] sh pp mm Q ↔ zS 183 22 [zR a0, zI a1, zI a2, zI a3, zI a4, zI a5, zI a6, zU, zU] [zR a0] sh pp mm Q := s_go cM_isWord_21 cM_isWord_22 rfl rfl
theorem rM_isWord_22 {a0 s0 : Nat} {a1 a2 a3 a4 a5 a6 : Int} {u7 u8 : zV} (hk : zKd sh s0 = 12) : zS 183 22 [zR a0, zI a1, zI a2, zI a3, zI a4, zI a5, zI a6, u7, u8] [zR s0] sh pp mm Q ↔ zS 183 25 [zR a0, zI a1, zI a2, zI a3, zI a4, zI a5, zI a6, zU, zU] [zI (mm s0 10)] sh pp mm Q := s_go cM_isWord_22 cM_isWord_25 (if_pos hk) rfl
theorem rM_isWord_25 {a0 : Nat} {a1 a2 a3 a4 a5 a6 s0 : Int} {u7 u8 : zV} : zS 183 25 [zR a0, zI a1, zI a2, zI a3, zI a4, zI a5, zI a6, u7, u8] [zI s0] sh pp mm Q ↔ zS 183 26 [zR a0, zI a1, zI a2, zI a3, zI a4, zI a5, zI a6, zU, zU] [zI 1, zI s0] sh pp mm Q := s_go cM_isWord_25 cM_isWord_26 rfl rfl
theorem rM_isWord_26 {a0 : Nat} {a1 a2 a3 a4 a5 a6 s0 s1 : Int} {u7 u8 : zV} : zS 183 26 [zR a0, zI a1, zI a2, zI a3, zI a4, zI a5, zI a6, u7, u8] [zI s0, zI s1] sh pp mm Q ↔ (s1 = s0 → zS 183 29 [zR a0, zI a1, zI a2, zI a3, zI a4, zI a5, zI a6, zU, zU] [] sh pp mm Q) ∧ (¬ s1 = s0 → zS 183 42 [zR a0, zI a1, zI a2, zI a3, zI a4, zI a5, zI a6, zU, zU] [] sh pp mm Q) := s_ifn cM_isWord_26 cM_isWord_29 cM_isWord_42 rfl rfl rfl
theorem rM_isWord_29 {a0 : Nat} {a1 a2 a3 a4 a5 a6 : Int} {u7 u8 : zV} : zS 183 29 [zR a0, zI a1, zI a2, zI a3, zI a4, zI a5, zI a6, u7, u8] [] sh pp mm Q ↔ zS 183 30 [zR a0, zI a1, zI a2, zI a3, zI a4, zI a5, zI a6, zU, zU] [zR a0] sh pp mm Q := s_go cM_isWord_29 cM_isWord_30 rfl rfl
theorem rM_isWord_30 {a0 s0 : Nat} {a1 a2 a3 a4 a5 a6 : Int} {u7 u8 : zV} (hk : zKd sh s0 = 12) : zS 183 30 [zR a0, zI a1, zI a2, zI a3, zI a4, zI a5, zI a6, u7, u8] [zR s0] sh pp mm Q ↔ zS 183 33 [zR a0, zI a1, zI a2, zI a3, zI a4, zI a5, zI a6, zU, zU] [zI (mm s0 9)] sh pp mm Q := s_go cM_isWord_30 cM_isWord_33 (if_pos hk) rfl
theorem rM_isWord_33 {a0 : Nat} {a1 a2 a3 a4 a5 a6 s0 : Int} {u7 u8 : zV} : zS 183 33 [zR a0, zI a1, zI a2, zI a3, zI a4, zI a5, zI a6, u7, u8] [zI s0] sh pp mm Q ↔ zS 183 35 [zR a0, zI a1, zI a2, zI a3, zI a4, zI a5, zI a6, zU, zU] [zI a6, zI s0] sh pp mm Q := s_go cM_isWord_33 cM_isWord_35 rfl rfl
theorem rM_isWord_35 {a0 : Nat} {a1 a2 a3 a4 a5 a6 s0 s1 : Int} {u7 u8 : zV} : zS 183 35 [zR a0, zI a1, zI a2, zI a3, zI a4, zI a5, zI a6, u7, u8] [zI s0, zI s1] sh pp mm Q ↔ (s1 = s0 → zS 183 38 [zR a0, zI a1, zI a2, zI a3, zI a4, zI a5, zI a6, zU, zU] [] sh pp mm Q) ∧ (¬ s1 = s0 → zS 183 42 [zR a0, zI a1, zI a2, zI a3, zI a4, zI a5, zI a6, zU, zU] [] sh pp mm Q) := s_ifn cM_isWord_35 cM_isWord_38 cM_isWord_42 rfl rfl rfl
theorem rM_isWord_38 {a0 : Nat} {a1 a2 a3 a4 a5 a6 : Int} {u7 u8 : zV} : zS 183 38 [zR a0, zI a1, zI a2, zI a3, zI a4, zI a5, zI a6, u7, u8] [] sh pp mm Q ↔ zS 183 39 [zR a0, zI a1, zI a2, zI a3, zI a4, zI a5, zI a6, zU, zU] [zI 1] sh pp mm Q := s_go cM_isWord_38 cM_isWord_39 rfl rfl
theorem rM_isWord_39 {a0 : Nat} {a1 a2 a3 a4 a5 a6 s0 : Int} {u7 u8 : zV} : zS 183 39 [zR a0, zI a1, zI a2, zI a3, zI a4, zI a5, zI a6, u7, u8] [zI s0] sh pp mm Q ↔ zS 183 43 [zR a0, zI a1, zI a2, zI a3, zI a4, zI a5, zI a6, zU, zU] [zI s0] sh pp mm Q := s_go cM_isWord_39 cM_isWord_43 rfl rfl
theorem rM_isWord_42 {a0 : Nat} {a1 a2 a3 a4 a5 a6 : Int} {u7 u8 : zV} : zS 183 42 [zR a0, zI a1, zI a2, zI a3, zI a4, zI a5, zI a6, u7, u8] [] sh pp mm Q ↔ zS 183 43 [zR a0, zI a1, zI a2, zI a3, zI a4, zI a5, zI a6, zU, zU] [zI 0] sh pp mm Q := s_go cM_isWord_42 cM_isWord_43 rfl rfl
theorem rM_isWord_43 {a0 : Nat} {a1 a2 a3 a4 a5 a6 s0 : Int} {u7 u8 : zV} : zS 183 43 [zR a0, zI a1, zI a2, zI a3, zI a4, zI a5, zI a6, u7, u8] [zI s0] sh pp mm Q ↔ zS 183 45 [zR a0, zI a1, zI a2, zI a3, zI a4, zI a5, zI a6, zI s0, zU] [] sh pp mm Q := s_go cM_isWord_43 cM_isWord_45 rfl rfl
theorem rM_isWord_45 {a0 : Nat} {a1 a2 a3 a4 a5 a6 a7 : Int} {u8 : zV} : zS 183 45 [zR a0, zI a1, zI a2, zI a3, zI a4, zI a5, zI a6, zI a7, u8] [] sh pp mm Q ↔ zS 183 46 [zR a0, zI a1, zI a2, zI a3, zI a4, zI a5, zI a6, zI a7, zU] [zI 0] sh pp mm Q := s_go cM_isWord_45 cM_isWord_46 rfl rfl
theorem rM_isWord_46 {a0 : Nat} {a1 a2 a3 a4 a5 a6 a7 s0 : Int} {u8 : zV} : zS 183 46 [zR a0, zI a1, zI a2, zI a3, zI a4, zI a5, zI a6, zI a7, u8] [zI s0] sh pp mm Q ↔ zS 183 48 [zR a0, zI a1, zI a2, zI a3, zI a4, zI a5, zI a6, zI a7, zI s0] [] sh pp mm Q := s_go cM_isWord_46 cM_isWord_48 rfl rfl
theorem rM_isWord_48 {a0 : Nat} {a1 a2 a3 a4 a5 a6 a7 a8 : Int} : zS 183 48 [zR a0, zI a1, zI a2, zI a3, zI a4, zI a5, zI a6, zI a7, zI a8] [] sh pp mm Q ↔ zS 183 50 [zR a0, zI a1, zI a2, zI a3, zI a4, zI a5, zI a6, zI a7, zI a8] [zI a8] sh pp mm Q := s_go cM_isWord_48 cM_isWord_50 rfl rfl
theorem rM_isWord_50 {a0 : Nat} {a1 a2 a3 a4 a5 a6 a7 a8 s0 : Int} : zS 183 50 [zR a0, zI a1, zI a2, zI a3, zI a4, zI a5, zI a6, zI a7, zI a8] [zI s0] sh pp mm Q ↔ zS 183 52 [zR a0, zI a1, zI a2, zI a3, zI a4, zI a5, zI a6, zI a7, zI a8] [zI a6, zI s0] sh pp mm Q := s_go cM_isWord_50 cM_isWord_52 rfl rfl
theorem rM_isWord_52 {a0 : Nat} {a1 a2 a3 a4 a5 a6 a7 a8 s0 s1 : Int} : zS 183 52 [zR a0, zI a1, zI a2, zI a3, zI a4, zI a5, zI a6, zI a7, zI a8] [zI s0, zI s1] sh pp mm Q ↔ (s1 < s0 → zS 183 55 [zR a0, zI a1, zI a2, zI a3, zI a4, zI a5, zI a6, zI a7, zI a8] [] sh pp mm Q) ∧ (¬ s1 < s0 → zS 183 129 [zU, zU, zU, zU, zU, zU, zU, zI a7, zU] [] sh pp mm Q) := s_ifn cM_isWord_52 cM_isWord_55 cM_isWord_129 rfl rfl rfl
theorem rM_isWord_55 {a0 : Nat} {a1 a2 a3 a4 a5 a6 a7 a8 : Int} : zS 183 55 [zR a0, zI a1, zI a2, zI a3, zI a4, zI a5, zI a6, zI a7, zI a8] [] sh pp mm Q ↔ zS 183 57 [zR a0, zI a1, zI a2, zI a3, zI a4, zI a5, zI a6, zI a7, zI a8] [zI a7] sh pp mm Q := s_go cM_isWord_55 cM_isWord_57 rfl rfl
theorem rM_isWord_57 {a0 : Nat} {a1 a2 a3 a4 a5 a6 a7 a8 s0 : Int} : zS 183 57 [zR a0, zI a1, zI a2, zI a3, zI a4, zI a5, zI a6, zI a7, zI a8] [zI s0] sh pp mm Q ↔ (s0 = 0 → zS 183 129 [zU, zU, zU, zU, zU, zU, zU, zI a7, zU] [] sh pp mm Q) ∧ (¬ s0 = 0 → zS 183 60 [zR a0, zI a1, zI a2, zI a3, zI a4, zI a5, zI a6, zU, zI a8] [] sh pp mm Q) := s_if cM_isWord_57 cM_isWord_129 cM_isWord_60 rfl rfl rfl
theorem rM_isWord_60 {a0 : Nat} {a1 a2 a3 a4 a5 a6 a8 : Int} {u7 : zV} : zS 183 60 [zR a0, zI a1, zI a2, zI a3, zI a4, zI a5, zI a6, u7, zI a8] [] sh pp mm Q ↔ zS 183 61 [zR a0, zI a1, zI a2, zI a3, zI a4, zI a5, zI a6, zU, zI a8] [zR a0] sh pp mm Q := s_go cM_isWord_60 cM_isWord_61 rfl rfl
theorem rM_isWord_61 {a0 s0 : Nat} {a1 a2 a3 a4 a5 a6 a8 : Int} {u7 : zV} : zS 183 61 [zR a0, zI a1, zI a2, zI a3, zI a4, zI a5, zI a6, u7, zI a8] [zR s0] sh pp mm Q ↔ zS 183 62 [zR a0, zI a1, zI a2, zI a3, zI a4, zI a5, zI a6, zU, zI a8] [zR a0, zR s0] sh pp mm Q := s_go cM_isWord_61 cM_isWord_62 rfl rfl
theorem rM_isWord_62 {a0 s0 s1 : Nat} {a1 a2 a3 a4 a5 a6 a8 : Int} {u7 : zV} (hk : zKd sh s0 = 12) : zS 183 62 [zR a0, zI a1, zI a2, zI a3, zI a4, zI a5, zI a6, u7, zI a8] [zR s0, zR s1] sh pp mm Q ↔ zS 183 65 [zR a0, zI a1, zI a2, zI a3, zI a4, zI a5, zI a6, zU, zI a8] [zI (mm s0 8), zR s1] sh pp mm Q := s_go cM_isWord_62 cM_isWord_65 (if_pos hk) rfl
theorem rM_isWord_65 {a0 s1 : Nat} {a1 a2 a3 a4 a5 a6 a8 s0 : Int} {u7 : zV} : zS 183 65 [zR a0, zI a1, zI a2, zI a3, zI a4, zI a5, zI a6, u7, zI a8] [zI s0, zR s1] sh pp mm Q ↔ zS 183 67 [zR a0, zI a1, zI a2, zI a3, zI a4, zI a5, zI a6, zU, zI a8] [zI a8, zI s0, zR s1] sh pp mm Q := s_go cM_isWord_65 cM_isWord_67 rfl rfl
theorem rM_isWord_67 {a0 s2 : Nat} {a1 a2 a3 a4 a5 a6 a8 s0 s1 : Int} {u7 : zV} : zS 183 67 [zR a0, zI a1, zI a2, zI a3, zI a4, zI a5, zI a6, u7, zI a8] [zI s0, zI s1, zR s2] sh pp mm Q ↔ zS 183 68 [zR a0, zI a1, zI a2, zI a3, zI a4, zI a5, zI a6, zU, zI a8] [zI (zw32 (s1 + s0)), zR s2] sh pp mm Q := s_go cM_isWord_67 cM_isWord_68 rfl rfl
theorem rM_isWord_68 {a0 s1 : Nat} {a1 a2 a3 a4 a5 a6 a8 s0 : Int} {u7 : zV} (hk : zKd sh s1 = 12) : zS 183 68 [zR a0, zI a1, zI a2, zI a3, zI a4, zI a5, zI a6, u7, zI a8] [zI s0, zR s1] sh pp mm Q ↔ zS 176 0 [zR s1, zI s0] [] sh pp mm (fun v sh pp mm => zS 183 71 [zR a0, zI a1, zI a2, zI a3, zI a4, zI a5, zI a6, zU, zI a8] (zPush v []) sh pp mm Q) := s_call cM_isWord_68 cM_isWord_71 ((if_pos hk).trans rfl) rfl
theorem rM_isWord_71 {a0 : Nat} {a1 a2 a3 a4 a5 a6 a8 s0 : Int} {u7 : zV} : zS 183 71 [zR a0, zI a1, zI a2, zI a3, zI a4, zI a5, zI a6, u7, zI a8] [zI s0] sh pp mm Q ↔ zS 183 73 [zR a0, zI a1, zI a2, zI a3, zI a4, zI a5, zI a6, zU, zI a8] [zI a8, zI s0] sh pp mm Q := s_go cM_isWord_71 cM_isWord_73 rfl rfl
theorem rM_isWord_73 {a0 : Nat} {a1 a2 a3 a4 a5 a6 a8 s0 s1 : Int} {u7 : zV} : zS 183 73 [zR a0, zI a1, zI a2, zI a3, zI a4, zI a5, zI a6, u7, zI a8] [zI s0, zI s1] sh pp mm Q ↔ (s0 = 0 → zS 183 76 [zR a0, zI a1, zI a2, zI a3, zI a4, zI a5, zI a6, zU, zI a8] [zI s1] sh pp mm Q) ∧ (¬ s0 = 0 → zS 183 80 [zR a0, zI a1, zI a2, zI a3, zI a4, zI a5, zI a6, zU, zI a8] [zI s1] sh pp mm Q) := s_ifn cM_isWord_73 cM_isWord_76 cM_isWord_80 rfl rfl rfl
theorem rM_isWord_76 {a0 : Nat} {a1 a2 a3 a4 a5 a6 a8 s0 : Int} {u7 : zV} : zS 183 76 [zR a0, zI a1, zI a2, zI a3, zI a4, zI a5, zI a6, u7, zI a8] [zI s0] sh pp mm Q ↔ zS 183 77 [zR a0, zI a1, zI a2, zI a3, zI a4, zI a5, zI a6, zU, zI a8] [zI a1, zI s0] sh pp mm Q := s_go cM_isWord_76 cM_isWord_77 rfl rfl
theorem rM_isWord_77 {a0 : Nat} {a1 a2 a3 a4 a5 a6 a8 s0 s1 : Int} {u7 : zV} : zS 183 77 [zR a0, zI a1, zI a2, zI a3, zI a4, zI a5, zI a6, u7, zI a8] [zI s0, zI s1] sh pp mm Q ↔ zS 183 113 [zR a0, zI a1, zI a2, zI a3, zI a4, zI a5, zI a6, zU, zI a8] [zI s0, zI s1] sh pp mm Q := s_go cM_isWord_77 cM_isWord_113 rfl rfl
theorem rM_isWord_80 {a0 : Nat} {a1 a2 a3 a4 a5 a6 a8 s0 : Int} {u7 : zV} : zS 183 80 [zR a0, zI a1, zI a2, zI a3, zI a4, zI a5, zI a6, u7, zI a8] [zI s0] sh pp mm Q ↔ zS 183 82 [zR a0, zI a1, zI a2, zI a3, zI a4, zI a5, zI a6, zU, zI a8] [zI a8, zI s0] sh pp mm Q := s_go cM_isWord_80 cM_isWord_82 rfl rfl
theorem rM_isWord_82 {a0 : Nat} {a1 a2 a3 a4 a5 a6 a8 s0 s1 : Int} {u7 : zV} : zS 183 82 [zR a0, zI a1, zI a2, zI a3, zI a4, zI a5, zI a6, u7, zI a8] [zI s0, zI s1] sh pp mm Q ↔ zS 183 83 [zR a0, zI a1, zI a2, zI a3, zI a4, zI a5, zI a6, zU, zI a8] [zI 1, zI s0, zI s1] sh pp mm Q := s_go cM_isWord_82 cM_isWord_83 rfl rfl
theorem rM_isWord_83 {a0 : Nat} {a1 a2 a3 a4 a5 a6 a8 s0 s1 s2 : Int} {u7 : zV} : zS 183 83 [zR a0, zI a1, zI a2, zI a3, zI a4, zI a5, zI a6, u7, zI a8] [zI s0, zI s1, zI s2] sh pp mm Q ↔ (s1 = s0 → zS 183 86 [zR a0, zI a1, zI a2, zI a3, zI a4, zI a5, zI a6, zU, zI a8] [zI s2] sh pp mm Q) ∧ (¬ s1 = s0 → zS 183 90 [zR a0, zI a1, zI a2, zI a3, zI a4, zI a5, zI a6, zU, zI a8] [zI s2] sh pp mm Q) := s_ifn cM_isWord_83 cM_isWord_86 cM_isWord_90 rfl rfl rfl
theorem rM_isWord_86 {a0 : Nat} {a1 a2 a3 a4 a5 a6 a8 s0 : Int} {u7 : zV} : zS 183 86 [zR a0, zI a1, zI a2, zI a3, zI a4, zI a5, zI a6, u7, zI a8] [zI s0] sh pp mm Q ↔ zS 183 87 [zR a0, zI a1, zI a2, zI a3, zI a4, zI a5, zI a6, zU, zI a8] [zI a2, zI s0] sh pp mm Q := s_go cM_isWord_86 cM_isWord_87 rfl rfl
theorem rM_isWord_87 {a0 : Nat} {a1 a2 a3 a4 a5 a6 a8 s0 s1 : Int} {u7 : zV} : zS 183 87 [zR a0, zI a1, zI a2, zI a3, zI a4, zI a5, zI a6, u7, zI a8] [zI s0, zI s1] sh pp mm Q ↔ zS 183 113 [zR a0, zI a1, zI a2, zI a3, zI a4, zI a5, zI a6, zU, zI a8] [zI s0, zI s1] sh pp mm Q := s_go cM_isWord_87 cM_isWord_113 rfl rfl
theorem rM_isWord_90 {a0 : Nat} {a1 a2 a3 a4 a5 a6 a8 s0 : Int} {u7 : zV} : zS 183 90 [zR a0, zI a1, zI a2, zI a3, zI a4, zI a5, zI a6, u7, zI a8] [zI s0] sh pp mm Q ↔ zS 183 92 [zR a0, zI a1, zI a2, zI a3, zI a4, zI a5, zI a6, zU, zI a8] [zI a8, zI s0] sh pp mm Q := s_go cM_isWord_90 cM_isWord_92 rfl rfl
theorem rM_isWord_92 {a0 : Nat} {a1 a2 a3 a4 a5 a6 a8 s0 s1 : Int} {u7 : zV} : zS 183 92 [zR a0, zI a1, zI a2, zI a3, zI a4, zI a5, zI a6, u7, zI a8] [zI s0, zI s1] sh pp mm Q ↔ zS 183 93 [zR a0, zI a1, zI a2, zI a3, zI a4, zI a5, zI a6, zU, zI a8] [zI 2, zI s0, zI s1] sh pp mm Q := s_go cM_isWord_92 cM_isWord_93 rfl rfl
theorem rM_isWord_93 {a0 : Nat} {a1 a2 a3 a4 a5 a6 a8 s0 s1 s2 : Int} {u7 : zV} : zS 183 93 [zR a0, zI a1, zI a2, zI a3, zI a4, zI a5, zI a6, u7, zI a8] [zI s0, zI s1, zI s2] sh pp mm Q ↔ (s1 = s0 → zS 183 96 [zR a0, zI a1, zI a2, zI a3, zI a4, zI a5, zI a6, zU, zI a8] [zI s2] sh pp mm Q) ∧ (¬ s1 = s0 → zS 183 100 [zR a0, zI a1, zI a2, zI a3, zI a4, zI a5, zI a6, zU, zI a8] [zI s2] sh pp mm Q) := s_ifn cM_isWord_93 cM_isWord_96 cM_isWord_100 rfl rfl rfl
theorem rM_isWord_96 {a0 : Nat} {a1 a2 a3 a4 a5 a6 a8 s0 : Int} {u7 : zV} : zS 183 96 [zR a0, zI a1, zI a2, zI a3, zI a4, zI a5, zI a6, u7, zI a8] [zI s0] sh pp mm Q ↔ zS 183 97 [zR a0, zI a1, zI a2, zI a3, zI a4, zI a5, zI a6, zU, zI a8] [zI a3, zI s0] sh pp mm Q := s_go cM_isWord_96 cM_isWord_97 rfl rfl
theorem rM_isWord_97 {a0 : Nat} {a1 a2 a3 a4 a5 a6 a8 s0 s1 : Int} {u7 : zV} : zS 183 97 [zR a0, zI a1, zI a2, zI a3, zI a4, zI a5, zI a6, u7, zI a8] [zI s0, zI s1] sh pp mm Q ↔ zS 183 113 [zR a0, zI a1, zI a2, zI a3, zI a4, zI a5, zI a6, zU, zI a8] [zI s0, zI s1] sh pp mm Q := s_go cM_isWord_97 cM_isWord_113 rfl rfl
theorem rM_isWord_100 {a0 : Nat} {a1 a2 a3 a4 a5 a6 a8 s0 : Int} {u7 : zV} : zS 183 100 [zR a0, zI a1, zI a2, zI a3, zI a4, zI a5, zI a6, u7, zI a8] [zI s0] sh pp mm Q ↔ zS 183 102 [zR a0, zI a1, zI a2, zI a3, zI a4, zI a5, zI a6, zU, zI a8] [zI a8, zI s0] sh pp mm Q := s_go cM_isWord_100 cM_isWord_102 rfl rfl
theorem rM_isWord_102 {a0 : Nat} {a1 a2 a3 a4 a5 a6 a8 s0 s1 : Int} {u7 : zV} : zS 183 102 [zR a0, zI a1, zI a2, zI a3, zI a4, zI a5, zI a6, u7, zI a8] [zI s0, zI s1] sh pp mm Q ↔ zS 183 103 [zR a0, zI a1, zI a2, zI a3, zI a4, zI a5, zI a6, zU, zI a8] [zI 3, zI s0, zI s1] sh pp mm Q := s_go cM_isWord_102 cM_isWord_103 rfl rfl
theorem rM_isWord_103 {a0 : Nat} {a1 a2 a3 a4 a5 a6 a8 s0 s1 s2 : Int} {u7 : zV} : zS 183 103 [zR a0, zI a1, zI a2, zI a3, zI a4, zI a5, zI a6, u7, zI a8] [zI s0, zI s1, zI s2] sh pp mm Q ↔ (s1 = s0 → zS 183 106 [zR a0, zI a1, zI a2, zI a3, zI a4, zI a5, zI a6, zU, zI a8] [zI s2] sh pp mm Q) ∧ (¬ s1 = s0 → zS 183 111 [zR a0, zI a1, zI a2, zI a3, zI a4, zI a5, zI a6, zU, zI a8] [zI s2] sh pp mm Q) := s_ifn cM_isWord_103 cM_isWord_106 cM_isWord_111 rfl rfl rfl
theorem rM_isWord_106 {a0 : Nat} {a1 a2 a3 a4 a5 a6 a8 s0 : Int} {u7 : zV} : zS 183 106 [zR a0, zI a1, zI a2, zI a3, zI a4, zI a5, zI a6, u7, zI a8] [zI s0] sh pp mm Q ↔ zS 183 108 [zR a0, zI a1, zI a2, zI a3, zI a4, zI a5, zI a6, zU, zI a8] [zI a4, zI s0] sh pp mm Q := s_go cM_isWord_106 cM_isWord_108 rfl rfl
theorem rM_isWord_108 {a0 : Nat} {a1 a2 a3 a4 a5 a6 a8 s0 s1 : Int} {u7 : zV} : zS 183 108 [zR a0, zI a1, zI a2, zI a3, zI a4, zI a5, zI a6, u7, zI a8] [zI s0, zI s1] sh pp mm Q ↔ zS 183 113 [zR a0, zI a1, zI a2, zI a3, zI a4, zI a5, zI a6, zU, zI a8] [zI s0, zI s1] sh pp mm Q := s_go cM_isWord_108 cM_isWord_113 rfl rfl
theorem rM_isWord_111 {a0 : Nat} {a1 a2 a3 a4 a5 a6 a8 s0 : Int} {u7 : zV} : zS 183 111 [zR a0, zI a1, zI a2, zI a3, zI a4, zI a5, zI a6, u7, zI a8] [zI s0] sh pp mm Q ↔ zS 183 113 [zR a0, zI a1, zI a2, zI a3, zI a4, zI a5, zI a6, zU, zI a8] [zI a5, zI s0] sh pp mm Q := s_go cM_isWord_111 cM_isWord_113 rfl rfl
theorem rM_isWord_113 {a0 : Nat} {a1 a2 a3 a4 a5 a6 a8 s0 s1 : Int} {u7 : zV} : zS 183 113 [zR a0, zI a1, zI a2, zI a3, zI a4, zI a5, zI a6, u7, zI a8] [zI s0, zI s1] sh pp mm Q ↔ (s1 = s0 → zS 183 116 [zR a0, zI a1, zI a2, zI a3, zI a4, zI a5, zI a6, zU, zI a8] [] sh pp mm Q) ∧ (¬ s1 = s0 → zS 183 120 [zR a0, zI a1, zI a2, zI a3, zI a4, zI a5, zI a6, zU, zI a8] [] sh pp mm Q) := s_ifn cM_isWord_113 cM_isWord_116 cM_isWord_120 rfl rfl rfl
theorem rM_isWord_116 {a0 : Nat} {a1 a2 a3 a4 a5 a6 a8 : Int} {u7 : zV} : zS 183 116 [zR a0, zI a1, zI a2, zI a3, zI a4, zI a5, zI a6, u7, zI a8] [] sh pp mm Q ↔ zS 183 117 [zR a0, zI a1, zI a2, zI a3, zI a4, zI a5, zI a6, zU, zI a8] [zI 1] sh pp mm Q := s_go cM_isWord_116 cM_isWord_117 rfl rfl
theorem rM_isWord_117 {a0 : Nat} {a1 a2 a3 a4 a5 a6 a8 s0 : Int} {u7 : zV} : zS 183 117 [zR a0, zI a1, zI a2, zI a3, zI a4, zI a5, zI a6, u7, zI a8] [zI s0] sh pp mm Q ↔ zS 183 121 [zR a0, zI a1, zI a2, zI a3, zI a4, zI a5, zI a6, zU, zI a8] [zI s0] sh pp mm Q := s_go cM_isWord_117 cM_isWord_121 rfl rfl
theorem rM_isWord_120 {a0 : Nat} {a1 a2 a3 a4 a5 a6 a8 : Int} {u7 : zV} : zS 183 120 [zR a0, zI a1, zI a2, zI a3, zI a4, zI a5, zI a6, u7, zI a8] [] sh pp mm Q ↔ zS 183 121 [zR a0, zI a1, zI a2, zI a3, zI a4, zI a5, zI a6, zU, zI a8] [zI 0] sh pp mm Q := s_go cM_isWord_120 cM_isWord_121 rfl rfl
theorem rM_isWord_121 {a0 : Nat} {a1 a2 a3 a4 a5 a6 a8 s0 : Int} {u7 : zV} : zS 183 121 [zR a0, zI a1, zI a2, zI a3, zI a4, zI a5, zI a6, u7, zI a8] [zI s0] sh pp mm Q ↔ zS 183 123 [zR a0, zI a1, zI a2, zI a3, zI a4, zI a5, zI a6, zI s0, zI a8] [] sh pp mm Q := s_go cM_isWord_121 cM_isWord_123 rfl rfl
theorem rM_isWord_123 {a0 : Nat} {a1 a2 a3 a4 a5 a6 a7 a8 : Int} : zS 183 123 [zR a0, zI a1, zI a2, zI a3, zI a4, zI a5, zI a6, zI a7, zI a8] [] sh pp mm Q ↔ zS 183 126 [zR a0, zI a1, zI a2, zI a3, zI a4, zI a5, zI a6, zI a7, zI (zw32 (a8 + 1))] [] sh pp mm Q := s_go cM_isWord_123 cM_isWord_126 rfl rfl
theorem rM_isWord_126 {a0 : Nat} {a1 a2 a3 a4 a5 a6 a7 a8 : Int} : zS 183 126 [zR a0, zI a1, zI a2, zI a3, zI a4, zI a5, zI a6, zI a7, zI a8] [] sh pp mm Q ↔ zS 183 48 [zR a0, zI a1, zI a2, zI a3, zI a4, zI a5, zI a6, zI a7, zI a8] [] sh pp mm Q := s_go cM_isWord_126 cM_isWord_48 rfl rfl
theorem rM_isWord_129 {a7 : Int} {u0 u1 u2 u3 u4 u5 u6 u8 : zV} : zS 183 129 [u0, u1, u2, u3, u4, u5, u6, zI a7, u8] [] sh pp mm Q ↔ zS 183 131 [zU, zU, zU, zU, zU, zU, zU, zU, zU] [zI a7] sh pp mm Q := s_go cM_isWord_129 cM_isWord_131 rfl rfl
theorem rM_isWord_131 {s0 : Int} {u0 u1 u2 u3 u4 u5 u6 u7 u8 : zV} (hb : s0 = 0 ∨ s0 = 1) : zS 183 131 [u0, u1, u2, u3, u4, u5, u6, u7, u8] [zI s0] sh pp mm Q ↔ Q (zI s0) sh pp mm := s_ret cM_isWord_131 (if_pos (decide_eq_true hb))
theorem cAM_takes : ∀ q ∈ zT184, zCode 184 q.1 = some q.2 := zAll (mid := 184) rfl (by decide +kernel)
theorem cAM_takes_0 : ∀ q ∈ zT184_0, zCode 184 q.1 = some q.2 := fun q h => cAM_takes q (List.mem_append_left _ h)
theorem cAM_takes_1 : ∀ q ∈ zT184_1, zCode 184 q.1 = some q.2 := fun q h => cAM_takes q (List.mem_append_right _ h)
theorem cM_takes_0 : zCode 184 0 = some (.aload_n 0, 1, 0, 0, 0, 0, 7) := cAM_takes_0 _ (List.mem_of_getElem? (i := 0) rfl)
theorem cM_takes_1 : zCode 184 1 = some (.getfield 176, 4, 12, 10, 0, 1219, 7) := cAM_takes_0 _ (List.mem_of_getElem? (i := 1) rfl)
theorem cM_takes_4 : zCode 184 4 = some (.iconst 2, 5, 0, 0, 0, 0, 7) := cAM_takes_0 _ (List.mem_of_getElem? (i := 2) rfl)
theorem cM_takes_5 : zCode 184 5 = some (.if_icmp .ne 18, 8, 23, 0, 0, 0, 7) := cAM_takes_0 _ (List.mem_of_getElem? (i := 3) rfl)
theorem cM_takes_8 : zCode 184 8 = some (.aload_n 0, 9, 0, 0, 0, 0, 7) := cAM_takes_0 _ (List.mem_of_getElem? (i := 4) rfl)
theorem cM_takes_9 : zCode 184 9 = some (.getfield 179, 12, 12, 11, 0, 1220, 7) := cAM_takes_0 _ (List.mem_of_getElem? (i := 5) rfl)
theorem cM_takes_12 : zCode 184 12 = some (.i2l, 13, 0, 0, 0, 0, 7) := cAM_takes_0 _ (List.mem_of_getElem? (i := 6) rfl)
theorem cM_takes_13 : zCode 184 13 = some (.iload_n 1, 14, 0, 0, 0, 0, 7) := cAM_takes_0 _ (List.mem_of_getElem? (i := 7) rfl)
theorem cM_takes_14 : zCode 184 14 = some (.i2l, 15, 0, 0, 0, 0, 5) := cAM_takes_0 _ (List.mem_of_getElem? (i := 8) rfl)
theorem cM_takes_15 : zCode 184 15 = some (.iload_n 2, 16, 0, 0, 0, 0, 5) := cAM_takes_0 _ (List.mem_of_getElem? (i := 9) rfl)
theorem cM_takes_16 : zCode 184 16 = some (.i2l, 17, 0, 0, 0, 0, 1) := cAM_takes_0 _ (List.mem_of_getElem? (i := 10) rfl)
theorem cM_takes_17 : zCode 184 17 = some (.invokestatic 121, 20, 151, 3, 6, 12, 1) := cAM_takes_0 _ (List.mem_of_getElem? (i := 11) rfl)
theorem cM_takes_20 : zCode 184 20 = some (.ifCond .ne 5, 23, 25, 0, 0, 0, 1) := cAM_takes_0 _ (List.mem_of_getElem? (i := 12) rfl)
theorem cM_takes_23 : zCode 184 23 = some (.iconst 0, 24, 0, 0, 0, 0, 0) := cAM_takes_0 _ (List.mem_of_getElem? (i := 13) rfl)
theorem cM_takes_24 : zCode 184 24 = some (.ireturn, 25, 0, 3, 0, 0, 0) := cAM_takes_0 _ (List.mem_of_getElem? (i := 14) rfl)
theorem cM_takes_25 : zCode 184 25 = some (.aload_n 0, 26, 0, 0, 0, 0, 1) := cAM_takes_0 _ (List.mem_of_getElem? (i := 15) rfl)
theorem cM_takes_26 : zCode 184 26 = some (.aload_n 0, 27, 0, 0, 0, 0, 1) := cAM_takes_1 _ (List.mem_of_getElem? (i := 0) rfl)
theorem cM_takes_27 : zCode 184 27 = some (.getfield 179, 30, 12, 11, 0, 1220, 1) := cAM_takes_1 _ (List.mem_of_getElem? (i := 1) rfl)
theorem cM_takes_30 : zCode 184 30 = some (.putfield 191, 33, 12, 14, 0, 1223, 1) := cAM_takes_1 _ (List.mem_of_getElem? (i := 2) rfl)
theorem cM_takes_33 : zCode 184 33 = some (.aload_n 0, 34, 0, 0, 0, 0, 1) := cAM_takes_1 _ (List.mem_of_getElem? (i := 3) rfl)
theorem cM_takes_34 : zCode 184 34 = some (.invokevirtual 194, 37, 182, 0, 1, 12, 0) := cAM_takes_1 _ (List.mem_of_getElem? (i := 4) rfl)
theorem cM_takes_37 : zCode 184 37 = some (.iconst 1, 38, 0, 0, 0, 0, 0) := cAM_takes_1 _ (List.mem_of_getElem? (i := 5) rfl)
theorem cM_takes_38 : zCode 184 38 = some (.ireturn, 39, 0, 3, 0, 0, 0) := cAM_takes_1 _ (List.mem_of_getElem? (i := 6) rfl)
theorem rM_takes_0 {a0 : Nat} {a1 a2 : Int} : zS 184 0 [zR a0, zI a1, zI a2] [] sh pp mm Q ↔ zS 184 1 [zR a0, zI a1, zI a2] [zR a0] sh pp mm Q := s_go cM_takes_0 cM_takes_1 rfl rfl
theorem rM_takes_1 {a0 s0 : Nat} {a1 a2 : Int} (hk : zKd sh s0 = 12) : zS 184 1 [zR a0, zI a1, zI a2] [zR s0] sh pp mm Q ↔ zS 184 4 [zR a0, zI a1, zI a2] [zI (mm s0 10)] sh pp mm Q := s_go cM_takes_1 cM_takes_4 (if_pos hk) rfl
theorem rM_takes_4 {a0 : Nat} {a1 a2 s0 : Int} : zS 184 4 [zR a0, zI a1, zI a2] [zI s0] sh pp mm Q ↔ zS 184 5 [zR a0, zI a1, zI a2] [zI 2, zI s0] sh pp mm Q := s_go cM_takes_4 cM_takes_5 rfl rfl
theorem rM_takes_5 {a0 : Nat} {a1 a2 s0 s1 : Int} : zS 184 5 [zR a0, zI a1, zI a2] [zI s0, zI s1] sh pp mm Q ↔ (s1 = s0 → zS 184 8 [zR a0, zI a1, zI a2] [] sh pp mm Q) ∧ (¬ s1 = s0 → zS 184 23 [zU, zU, zU] [] sh pp mm Q) := s_ifn cM_takes_5 cM_takes_8 cM_takes_23 rfl rfl rfl
theorem rM_takes_8 {a0 : Nat} {a1 a2 : Int} : zS 184 8 [zR a0, zI a1, zI a2] [] sh pp mm Q ↔ zS 184 9 [zR a0, zI a1, zI a2] [zR a0] sh pp mm Q := s_go cM_takes_8 cM_takes_9 rfl rfl
theorem rM_takes_9 {a0 s0 : Nat} {a1 a2 : Int} (hk : zKd sh s0 = 12) : zS 184 9 [zR a0, zI a1, zI a2] [zR s0] sh pp mm Q ↔ zS 184 12 [zR a0, zI a1, zI a2] [zI (mm s0 11)] sh pp mm Q := s_go cM_takes_9 cM_takes_12 (if_pos hk) rfl
theorem rM_takes_12 {a0 : Nat} {a1 a2 s0 : Int} : zS 184 12 [zR a0, zI a1, zI a2] [zI s0] sh pp mm Q ↔ zS 184 13 [zR a0, zI a1, zI a2] [zL s0] sh pp mm Q := s_go cM_takes_12 cM_takes_13 rfl rfl
theorem rM_takes_13 {a0 : Nat} {a1 a2 s0 : Int} : zS 184 13 [zR a0, zI a1, zI a2] [zL s0] sh pp mm Q ↔ zS 184 14 [zR a0, zU, zI a2] [zI a1, zL s0] sh pp mm Q := s_go cM_takes_13 cM_takes_14 rfl rfl
theorem rM_takes_14 {a0 : Nat} {a2 s0 s1 : Int} {u1 : zV} : zS 184 14 [zR a0, u1, zI a2] [zI s0, zL s1] sh pp mm Q ↔ zS 184 15 [zR a0, zU, zI a2] [zL s0, zL s1] sh pp mm Q := s_go cM_takes_14 cM_takes_15 rfl rfl
theorem rM_takes_15 {a0 : Nat} {a2 s0 s1 : Int} {u1 : zV} : zS 184 15 [zR a0, u1, zI a2] [zL s0, zL s1] sh pp mm Q ↔ zS 184 16 [zR a0, zU, zU] [zI a2, zL s0, zL s1] sh pp mm Q := s_go cM_takes_15 cM_takes_16 rfl rfl
theorem rM_takes_16 {a0 : Nat} {s0 s1 s2 : Int} {u1 u2 : zV} : zS 184 16 [zR a0, u1, u2] [zI s0, zL s1, zL s2] sh pp mm Q ↔ zS 184 17 [zR a0, zU, zU] [zL s0, zL s1, zL s2] sh pp mm Q := s_go cM_takes_16 cM_takes_17 rfl rfl
theorem rM_takes_17 {a0 : Nat} {s0 s1 s2 : Int} {u1 u2 : zV} : zS 184 17 [zR a0, u1, u2] [zL s0, zL s1, zL s2] sh pp mm Q ↔ zS 151 0 [zL s2, zU, zL s1, zU, zL s0, zU] [] sh pp mm (fun v sh pp mm => zS 184 20 [zR a0, zU, zU] (zPush v []) sh pp mm Q) := s_call cM_takes_17 cM_takes_20 rfl rfl
theorem rM_takes_20 {a0 : Nat} {s0 : Int} {u1 u2 : zV} : zS 184 20 [zR a0, u1, u2] [zI s0] sh pp mm Q ↔ (s0 = 0 → zS 184 23 [zU, zU, zU] [] sh pp mm Q) ∧ (¬ s0 = 0 → zS 184 25 [zR a0, zU, zU] [] sh pp mm Q) := s_ifn cM_takes_20 cM_takes_23 cM_takes_25 rfl rfl rfl
theorem rM_takes_23 {u0 u1 u2 : zV} : zS 184 23 [u0, u1, u2] [] sh pp mm Q ↔ zS 184 24 [zU, zU, zU] [zI 0] sh pp mm Q := s_go cM_takes_23 cM_takes_24 rfl rfl
theorem rM_takes_24 {s0 : Int} {u0 u1 u2 : zV} (hb : s0 = 0 ∨ s0 = 1) : zS 184 24 [u0, u1, u2] [zI s0] sh pp mm Q ↔ Q (zI s0) sh pp mm := s_ret cM_takes_24 (if_pos (decide_eq_true hb))
theorem rM_takes_25 {a0 : Nat} {u1 u2 : zV} : zS 184 25 [zR a0, u1, u2] [] sh pp mm Q ↔ zS 184 26 [zR a0, zU, zU] [zR a0] sh pp mm Q := s_go cM_takes_25 cM_takes_26 rfl rfl
theorem rM_takes_26 {a0 s0 : Nat} {u1 u2 : zV} : zS 184 26 [zR a0, u1, u2] [zR s0] sh pp mm Q ↔ zS 184 27 [zR a0, zU, zU] [zR a0, zR s0] sh pp mm Q := s_go cM_takes_26 cM_takes_27 rfl rfl
theorem rM_takes_27 {a0 s0 s1 : Nat} {u1 u2 : zV} (hk : zKd sh s0 = 12) : zS 184 27 [zR a0, u1, u2] [zR s0, zR s1] sh pp mm Q ↔ zS 184 30 [zR a0, zU, zU] [zI (mm s0 11), zR s1] sh pp mm Q := s_go cM_takes_27 cM_takes_30 (if_pos hk) rfl
theorem rM_takes_30 {a0 s1 : Nat} {s0 : Int} {u1 u2 : zV} (hk : zKd sh s1 = 12) : zS 184 30 [zR a0, u1, u2] [zI s0, zR s1] sh pp mm Q ↔ zS 184 33 [zR a0, zU, zU] [] sh pp (zupd mm s1 14 s0) Q := s_go cM_takes_30 cM_takes_33 (if_pos ⟨hk, Or.inl rfl⟩) rfl
theorem rM_takes_33 {a0 : Nat} {u1 u2 : zV} : zS 184 33 [zR a0, u1, u2] [] sh pp mm Q ↔ zS 184 34 [zU, zU, zU] [zR a0] sh pp mm Q := s_go cM_takes_33 cM_takes_34 rfl rfl
theorem rM_takes_34 {s0 : Nat} {u0 u1 u2 : zV} (hk : zKd sh s0 = 12) : zS 184 34 [u0, u1, u2] [zR s0] sh pp mm Q ↔ zS 182 0 [zR s0] [] sh pp mm (fun v sh pp mm => zS 184 37 [zU, zU, zU] (zPush v []) sh pp mm Q) := s_call cM_takes_34 cM_takes_37 ((if_pos hk).trans rfl) rfl
theorem rM_takes_37 {u0 u1 u2 : zV} : zS 184 37 [u0, u1, u2] [] sh pp mm Q ↔ zS 184 38 [zU, zU, zU] [zI 1] sh pp mm Q := s_go cM_takes_37 cM_takes_38 rfl rfl
theorem rM_takes_38 {s0 : Int} {u0 u1 u2 : zV} (hb : s0 = 0 ∨ s0 = 1) : zS 184 38 [u0, u1, u2] [zI s0] sh pp mm Q ↔ Q (zI s0) sh pp mm := s_ret cM_takes_38 (if_pos (decide_eq_true hb))
theorem cAM_readItem : ∀ q ∈ zT185, zCode 185 q.1 = some q.2 := zAll (mid := 185) rfl (by decide +kernel)
theorem cAM_readItem_0 : ∀ q ∈ zT185_0, zCode 185 q.1 = some q.2 := fun q h => cAM_readItem q (List.mem_append_left _ h)
theorem cAM_readItem_1 : ∀ q ∈ zT185_1, zCode 185 q.1 = some q.2 := fun q h => cAM_readItem q (List.mem_append_right _ (List.mem_append_left _ h))
theorem cAM_readItem_2 : ∀ q ∈ zT185_2, zCode 185 q.1 = some q.2 := fun q h => cAM_readItem q (List.mem_append_right _ (List.mem_append_right _ (List.mem_append_left _ h)))
theorem cAM_readItem_3 : ∀ q ∈ zT185_3, zCode 185 q.1 = some q.2 := fun q h => cAM_readItem q (List.mem_append_right _ (List.mem_append_right _ (List.mem_append_right _ (List.mem_append_left _ h))))
theorem cAM_readItem_4 : ∀ q ∈ zT185_4, zCode 185 q.1 = some q.2 := fun q h => cAM_readItem q (List.mem_append_right _ (List.mem_append_right _ (List.mem_append_right _ (List.mem_append_right _ (List.mem_append_left _ h)))))
theorem cAM_readItem_5 : ∀ q ∈ zT185_5, zCode 185 q.1 = some q.2 := fun q h => cAM_readItem q (List.mem_append_right _ (List.mem_append_right _ (List.mem_append_right _ (List.mem_append_right _ (List.mem_append_right _ (List.mem_append_left _ h))))))
theorem cAM_readItem_6 : ∀ q ∈ zT185_6, zCode 185 q.1 = some q.2 := fun q h => cAM_readItem q (List.mem_append_right _ (List.mem_append_right _ (List.mem_append_right _ (List.mem_append_right _ (List.mem_append_right _ (List.mem_append_right _ (List.mem_append_left _ h)))))))
theorem cAM_readItem_7 : ∀ q ∈ zT185_7, zCode 185 q.1 = some q.2 := fun q h => cAM_readItem q (List.mem_append_right _ (List.mem_append_right _ (List.mem_append_right _ (List.mem_append_right _ (List.mem_append_right _ (List.mem_append_right _ (List.mem_append_right _ h)))))))
theorem cM_readItem_0 : zCode 185 0 = some (.aload_n 0, 1, 0, 0, 0, 0, 3) := cAM_readItem_0 _ (List.mem_of_getElem? (i := 0) rfl)
theorem cM_readItem_1 : zCode 185 1 = some (.aload_n 0, 2, 0, 0, 0, 0, 3) := cAM_readItem_0 _ (List.mem_of_getElem? (i := 1) rfl)
theorem cM_readItem_2 : zCode 185 2 = some (.bipush 116, 4, 0, 0, 0, 0, 3) := cAM_readItem_0 _ (List.mem_of_getElem? (i := 2) rfl)
theorem cM_readItem_4 : zCode 185 4 = some (.bipush 117, 6, 0, 0, 0, 0, 3) := cAM_readItem_0 _ (List.mem_of_getElem? (i := 3) rfl)
theorem cM_readItem_6 : zCode 185 6 = some (.bipush 114, 8, 0, 0, 0, 0, 3) := cAM_readItem_0 _ (List.mem_of_getElem? (i := 4) rfl)
theorem cM_readItem_8 : zCode 185 8 = some (.bipush 110, 10, 0, 0, 0, 0, 3) := cAM_readItem_0 _ (List.mem_of_getElem? (i := 5) rfl)
theorem cM_readItem_10 : zCode 185 10 = some (.iconst 0, 11, 0, 0, 0, 0, 3) := cAM_readItem_0 _ (List.mem_of_getElem? (i := 6) rfl)
theorem cM_readItem_11 : zCode 185 11 = some (.invokevirtual 197, 14, 183, 5, 9, 12, 3) := cAM_readItem_0 _ (List.mem_of_getElem? (i := 7) rfl)
theorem cM_readItem_14 : zCode 185 14 = some (.ifCond .eq 7, 17, 21, 0, 0, 0, 3) := cAM_readItem_0 _ (List.mem_of_getElem? (i := 8) rfl)
theorem cM_readItem_17 : zCode 185 17 = some (.iconst 0, 18, 0, 0, 0, 0, 3) := cAM_readItem_0 _ (List.mem_of_getElem? (i := 9) rfl)
theorem cM_readItem_18 : zCode 185 18 = some (.goto 64, 21, 82, 0, 0, 0, 3) := cAM_readItem_0 _ (List.mem_of_getElem? (i := 10) rfl)
theorem cM_readItem_21 : zCode 185 21 = some (.aload_n 0, 22, 0, 0, 0, 0, 3) := cAM_readItem_0 _ (List.mem_of_getElem? (i := 11) rfl)
theorem cM_readItem_22 : zCode 185 22 = some (.bipush 115, 24, 0, 0, 0, 0, 3) := cAM_readItem_0 _ (List.mem_of_getElem? (i := 12) rfl)
theorem cM_readItem_24 : zCode 185 24 = some (.bipush 104, 26, 0, 0, 0, 0, 3) := cAM_readItem_0 _ (List.mem_of_getElem? (i := 13) rfl)
theorem cM_readItem_26 : zCode 185 26 = some (.bipush 97, 28, 0, 0, 0, 0, 3) := cAM_readItem_0 _ (List.mem_of_getElem? (i := 14) rfl)
theorem cM_readItem_28 : zCode 185 28 = some (.bipush 107, 30, 0, 0, 0, 0, 3) := cAM_readItem_0 _ (List.mem_of_getElem? (i := 15) rfl)
theorem cM_readItem_30 : zCode 185 30 = some (.bipush 101, 32, 0, 0, 0, 0, 3) := cAM_readItem_1 _ (List.mem_of_getElem? (i := 0) rfl)
theorem cM_readItem_32 : zCode 185 32 = some (.invokevirtual 197, 35, 183, 5, 9, 12, 3) := cAM_readItem_1 _ (List.mem_of_getElem? (i := 1) rfl)
theorem cM_readItem_35 : zCode 185 35 = some (.ifCond .eq 7, 38, 42, 0, 0, 0, 3) := cAM_readItem_1 _ (List.mem_of_getElem? (i := 2) rfl)
theorem cM_readItem_38 : zCode 185 38 = some (.iconst 1, 39, 0, 0, 0, 0, 3) := cAM_readItem_1 _ (List.mem_of_getElem? (i := 3) rfl)
theorem cM_readItem_39 : zCode 185 39 = some (.goto 43, 42, 82, 0, 0, 0, 3) := cAM_readItem_1 _ (List.mem_of_getElem? (i := 4) rfl)
theorem cM_readItem_42 : zCode 185 42 = some (.aload_n 0, 43, 0, 0, 0, 0, 3) := cAM_readItem_1 _ (List.mem_of_getElem? (i := 5) rfl)
theorem cM_readItem_43 : zCode 185 43 = some (.bipush 108, 45, 0, 0, 0, 0, 3) := cAM_readItem_1 _ (List.mem_of_getElem? (i := 6) rfl)
theorem cM_readItem_45 : zCode 185 45 = some (.bipush 111, 47, 0, 0, 0, 0, 3) := cAM_readItem_1 _ (List.mem_of_getElem? (i := 7) rfl)
theorem cM_readItem_47 : zCode 185 47 = some (.bipush 111, 49, 0, 0, 0, 0, 3) := cAM_readItem_1 _ (List.mem_of_getElem? (i := 8) rfl)
theorem cM_readItem_49 : zCode 185 49 = some (.bipush 112, 51, 0, 0, 0, 0, 3) := cAM_readItem_1 _ (List.mem_of_getElem? (i := 9) rfl)
theorem cM_readItem_51 : zCode 185 51 = some (.iconst 0, 52, 0, 0, 0, 0, 3) := cAM_readItem_1 _ (List.mem_of_getElem? (i := 10) rfl)
theorem cM_readItem_52 : zCode 185 52 = some (.invokevirtual 197, 55, 183, 5, 9, 12, 3) := cAM_readItem_1 _ (List.mem_of_getElem? (i := 11) rfl)
theorem cM_readItem_55 : zCode 185 55 = some (.ifCond .eq 7, 58, 62, 0, 0, 0, 3) := cAM_readItem_1 _ (List.mem_of_getElem? (i := 12) rfl)
theorem cM_readItem_58 : zCode 185 58 = some (.iconst 2, 59, 0, 0, 0, 0, 3) := cAM_readItem_1 _ (List.mem_of_getElem? (i := 13) rfl)
theorem cM_readItem_59 : zCode 185 59 = some (.goto 23, 62, 82, 0, 0, 0, 3) := cAM_readItem_1 _ (List.mem_of_getElem? (i := 14) rfl)
theorem cM_readItem_62 : zCode 185 62 = some (.aload_n 0, 63, 0, 0, 0, 0, 3) := cAM_readItem_1 _ (List.mem_of_getElem? (i := 15) rfl)
theorem cM_readItem_63 : zCode 185 63 = some (.bipush 101, 65, 0, 0, 0, 0, 3) := cAM_readItem_2 _ (List.mem_of_getElem? (i := 0) rfl)
theorem cM_readItem_65 : zCode 185 65 = some (.bipush 110, 67, 0, 0, 0, 0, 3) := cAM_readItem_2 _ (List.mem_of_getElem? (i := 1) rfl)
theorem cM_readItem_67 : zCode 185 67 = some (.bipush 100, 69, 0, 0, 0, 0, 3) := cAM_readItem_2 _ (List.mem_of_getElem? (i := 2) rfl)
theorem cM_readItem_69 : zCode 185 69 = some (.iconst 0, 70, 0, 0, 0, 0, 3) := cAM_readItem_2 _ (List.mem_of_getElem? (i := 3) rfl)
theorem cM_readItem_70 : zCode 185 70 = some (.iconst 0, 71, 0, 0, 0, 0, 3) := cAM_readItem_2 _ (List.mem_of_getElem? (i := 4) rfl)
theorem cM_readItem_71 : zCode 185 71 = some (.invokevirtual 197, 74, 183, 5, 9, 12, 3) := cAM_readItem_2 _ (List.mem_of_getElem? (i := 5) rfl)
theorem cM_readItem_74 : zCode 185 74 = some (.ifCond .eq 7, 77, 81, 0, 0, 0, 3) := cAM_readItem_2 _ (List.mem_of_getElem? (i := 6) rfl)
theorem cM_readItem_77 : zCode 185 77 = some (.iconst 3, 78, 0, 0, 0, 0, 3) := cAM_readItem_2 _ (List.mem_of_getElem? (i := 7) rfl)
theorem cM_readItem_78 : zCode 185 78 = some (.goto 4, 81, 82, 0, 0, 0, 3) := cAM_readItem_2 _ (List.mem_of_getElem? (i := 8) rfl)
theorem cM_readItem_81 : zCode 185 81 = some (.iconst (-1), 82, 0, 0, 0, 0, 3) := cAM_readItem_2 _ (List.mem_of_getElem? (i := 9) rfl)
theorem cM_readItem_82 : zCode 185 82 = some (.putfield 201, 85, 12, 12, 0, 1221, 3) := cAM_readItem_2 _ (List.mem_of_getElem? (i := 10) rfl)
theorem cM_readItem_85 : zCode 185 85 = some (.aload_n 0, 86, 0, 0, 0, 0, 3) := cAM_readItem_2 _ (List.mem_of_getElem? (i := 11) rfl)
theorem cM_readItem_86 : zCode 185 86 = some (.getfield 201, 89, 12, 12, 0, 1221, 3) := cAM_readItem_2 _ (List.mem_of_getElem? (i := 12) rfl)
theorem cM_readItem_89 : zCode 185 89 = some (.iconst (-1), 90, 0, 0, 0, 0, 3) := cAM_readItem_2 _ (List.mem_of_getElem? (i := 13) rfl)
theorem cM_readItem_90 : zCode 185 90 = some (.if_icmp .eq 28, 93, 118, 0, 0, 0, 3) := cAM_readItem_2 _ (List.mem_of_getElem? (i := 14) rfl)
theorem cM_readItem_93 : zCode 185 93 = some (.aload_n 0, 94, 0, 0, 0, 0, 3) := cAM_readItem_2 _ (List.mem_of_getElem? (i := 15) rfl)
theorem cM_readItem_94 : zCode 185 94 = some (.getfield 201, 97, 12, 12, 0, 1221, 3) := cAM_readItem_3 _ (List.mem_of_getElem? (i := 0) rfl)
theorem cM_readItem_97 : zCode 185 97 = some (.iconst 3, 98, 0, 0, 0, 0, 3) := cAM_readItem_3 _ (List.mem_of_getElem? (i := 1) rfl)
theorem cM_readItem_98 : zCode 185 98 = some (.if_icmp .ne 7, 101, 105, 0, 0, 0, 3) := cAM_readItem_3 _ (List.mem_of_getElem? (i := 2) rfl)
theorem cM_readItem_101 : zCode 185 101 = some (.iload_n 1, 102, 0, 0, 0, 0, 3) := cAM_readItem_3 _ (List.mem_of_getElem? (i := 3) rfl)
theorem cM_readItem_102 : zCode 185 102 = some (.ifCond .eq 16, 105, 118, 0, 0, 0, 3) := cAM_readItem_3 _ (List.mem_of_getElem? (i := 4) rfl)
theorem cM_readItem_105 : zCode 185 105 = some (.aload_n 0, 106, 0, 0, 0, 0, 3) := cAM_readItem_3 _ (List.mem_of_getElem? (i := 5) rfl)
theorem cM_readItem_106 : zCode 185 106 = some (.getfield 201, 109, 12, 12, 0, 1221, 3) := cAM_readItem_3 _ (List.mem_of_getElem? (i := 6) rfl)
theorem cM_readItem_109 : zCode 185 109 = some (.iconst 2, 110, 0, 0, 0, 0, 3) := cAM_readItem_3 _ (List.mem_of_getElem? (i := 7) rfl)
theorem cM_readItem_110 : zCode 185 110 = some (.if_icmp .ne 10, 113, 120, 0, 0, 0, 3) := cAM_readItem_3 _ (List.mem_of_getElem? (i := 8) rfl)
theorem cM_readItem_113 : zCode 185 113 = some (.iload_n 1, 114, 0, 0, 0, 0, 3) := cAM_readItem_3 _ (List.mem_of_getElem? (i := 9) rfl)
theorem cM_readItem_114 : zCode 185 114 = some (.iconst 3, 115, 0, 0, 0, 0, 1) := cAM_readItem_3 _ (List.mem_of_getElem? (i := 10) rfl)
theorem cM_readItem_115 : zCode 185 115 = some (.if_icmp .ne 5, 118, 120, 0, 0, 0, 1) := cAM_readItem_3 _ (List.mem_of_getElem? (i := 11) rfl)
theorem cM_readItem_118 : zCode 185 118 = some (.iconst 0, 119, 0, 0, 0, 0, 0) := cAM_readItem_3 _ (List.mem_of_getElem? (i := 12) rfl)
theorem cM_readItem_119 : zCode 185 119 = some (.ireturn, 120, 0, 3, 0, 0, 0) := cAM_readItem_3 _ (List.mem_of_getElem? (i := 13) rfl)
theorem cM_readItem_120 : zCode 185 120 = some (.aload_n 0, 121, 0, 0, 0, 0, 1) := cAM_readItem_3 _ (List.mem_of_getElem? (i := 14) rfl)
theorem cM_readItem_121 : zCode 185 121 = some (.invokevirtual 194, 124, 182, 0, 1, 12, 1) := cAM_readItem_3 _ (List.mem_of_getElem? (i := 15) rfl)
theorem cM_readItem_124 : zCode 185 124 = some (.aload_n 0, 125, 0, 0, 0, 0, 1) := cAM_readItem_4 _ (List.mem_of_getElem? (i := 0) rfl)
theorem cM_readItem_125 : zCode 185 125 = some (.getfield 201, 128, 12, 12, 0, 1221, 1) := cAM_readItem_4 _ (List.mem_of_getElem? (i := 1) rfl)
theorem cM_readItem_128 : zCode 185 128 = some (.ifCond .ne 37, 131, 165, 0, 0, 0, 1) := cAM_readItem_4 _ (List.mem_of_getElem? (i := 2) rfl)
theorem cM_readItem_131 : zCode 185 131 = some (.aload_n 0, 132, 0, 0, 0, 0, 1) := cAM_readItem_4 _ (List.mem_of_getElem? (i := 3) rfl)
theorem cM_readItem_132 : zCode 185 132 = some (.bipush (-99), 134, 0, 0, 0, 0, 1) := cAM_readItem_4 _ (List.mem_of_getElem? (i := 4) rfl)
theorem cM_readItem_134 : zCode 185 134 = some (.bipush 99, 136, 0, 0, 0, 0, 1) := cAM_readItem_4 _ (List.mem_of_getElem? (i := 5) rfl)
theorem cM_readItem_136 : zCode 185 136 = some (.invokevirtual 204, 139, 184, 2, 3, 12, 1) := cAM_readItem_4 _ (List.mem_of_getElem? (i := 6) rfl)
theorem cM_readItem_139 : zCode 185 139 = some (.ifCond .ne 5, 142, 144, 0, 0, 0, 1) := cAM_readItem_4 _ (List.mem_of_getElem? (i := 7) rfl)
theorem cM_readItem_142 : zCode 185 142 = some (.iconst 0, 143, 0, 0, 0, 0, 0) := cAM_readItem_4 _ (List.mem_of_getElem? (i := 8) rfl)
theorem cM_readItem_143 : zCode 185 143 = some (.ireturn, 144, 0, 3, 0, 0, 0) := cAM_readItem_4 _ (List.mem_of_getElem? (i := 9) rfl)
theorem cM_readItem_144 : zCode 185 144 = some (.aload_n 0, 145, 0, 0, 0, 0, 1) := cAM_readItem_4 _ (List.mem_of_getElem? (i := 10) rfl)
theorem cM_readItem_145 : zCode 185 145 = some (.aload_n 0, 146, 0, 0, 0, 0, 1) := cAM_readItem_4 _ (List.mem_of_getElem? (i := 11) rfl)
theorem cM_readItem_146 : zCode 185 146 = some (.getfield 191, 149, 12, 14, 0, 1223, 1) := cAM_readItem_4 _ (List.mem_of_getElem? (i := 12) rfl)
theorem cM_readItem_149 : zCode 185 149 = some (.putfield 208, 152, 12, 13, 0, 1222, 1) := cAM_readItem_4 _ (List.mem_of_getElem? (i := 13) rfl)
theorem cM_readItem_152 : zCode 185 152 = some (.aload_n 0, 153, 0, 0, 0, 0, 1) := cAM_readItem_4 _ (List.mem_of_getElem? (i := 14) rfl)
theorem cM_readItem_153 : zCode 185 153 = some (.bipush (-99), 155, 0, 0, 0, 0, 1) := cAM_readItem_4 _ (List.mem_of_getElem? (i := 15) rfl)
theorem cM_readItem_155 : zCode 185 155 = some (.bipush 99, 157, 0, 0, 0, 0, 1) := cAM_readItem_5 _ (List.mem_of_getElem? (i := 0) rfl)
theorem cM_readItem_157 : zCode 185 157 = some (.invokevirtual 204, 160, 184, 2, 3, 12, 1) := cAM_readItem_5 _ (List.mem_of_getElem? (i := 1) rfl)
theorem cM_readItem_160 : zCode 185 160 = some (.ifCond .ne 49, 163, 209, 0, 0, 0, 1) := cAM_readItem_5 _ (List.mem_of_getElem? (i := 2) rfl)
theorem cM_readItem_163 : zCode 185 163 = some (.iconst 0, 164, 0, 0, 0, 0, 0) := cAM_readItem_5 _ (List.mem_of_getElem? (i := 3) rfl)
theorem cM_readItem_164 : zCode 185 164 = some (.ireturn, 165, 0, 3, 0, 0, 0) := cAM_readItem_5 _ (List.mem_of_getElem? (i := 4) rfl)
theorem cM_readItem_165 : zCode 185 165 = some (.aload_n 0, 166, 0, 0, 0, 0, 1) := cAM_readItem_5 _ (List.mem_of_getElem? (i := 5) rfl)
theorem cM_readItem_166 : zCode 185 166 = some (.getfield 201, 169, 12, 12, 0, 1221, 1) := cAM_readItem_5 _ (List.mem_of_getElem? (i := 6) rfl)
theorem cM_readItem_169 : zCode 185 169 = some (.iconst 3, 170, 0, 0, 0, 0, 1) := cAM_readItem_5 _ (List.mem_of_getElem? (i := 7) rfl)
theorem cM_readItem_170 : zCode 185 170 = some (.if_icmp .eq 39, 173, 209, 0, 0, 0, 1) := cAM_readItem_5 _ (List.mem_of_getElem? (i := 8) rfl)
theorem cM_readItem_173 : zCode 185 173 = some (.aload_n 0, 174, 0, 0, 0, 0, 1) := cAM_readItem_5 _ (List.mem_of_getElem? (i := 9) rfl)
theorem cM_readItem_174 : zCode 185 174 = some (.aload_n 0, 175, 0, 0, 0, 0, 1) := cAM_readItem_5 _ (List.mem_of_getElem? (i := 10) rfl)
theorem cM_readItem_175 : zCode 185 175 = some (.getfield 201, 178, 12, 12, 0, 1221, 1) := cAM_readItem_5 _ (List.mem_of_getElem? (i := 11) rfl)
theorem cM_readItem_178 : zCode 185 178 = some (.iconst 2, 179, 0, 0, 0, 0, 1) := cAM_readItem_5 _ (List.mem_of_getElem? (i := 12) rfl)
theorem cM_readItem_179 : zCode 185 179 = some (.if_icmp .ne 7, 182, 186, 0, 0, 0, 1) := cAM_readItem_5 _ (List.mem_of_getElem? (i := 13) rfl)
theorem cM_readItem_182 : zCode 185 182 = some (.iconst 1, 183, 0, 0, 0, 0, 1) := cAM_readItem_5 _ (List.mem_of_getElem? (i := 14) rfl)
theorem cM_readItem_183 : zCode 185 183 = some (.goto 4, 186, 187, 0, 0, 0, 1) := cAM_readItem_5 _ (List.mem_of_getElem? (i := 15) rfl)
theorem cM_readItem_186 : zCode 185 186 = some (.iconst 0, 187, 0, 0, 0, 0, 1) := cAM_readItem_6 _ (List.mem_of_getElem? (i := 0) rfl)
theorem cM_readItem_187 : zCode 185 187 = some (.aload_n 0, 188, 0, 0, 0, 0, 1) := cAM_readItem_6 _ (List.mem_of_getElem? (i := 1) rfl)
theorem cM_readItem_188 : zCode 185 188 = some (.getfield 201, 191, 12, 12, 0, 1221, 1) := cAM_readItem_6 _ (List.mem_of_getElem? (i := 2) rfl)
theorem cM_readItem_191 : zCode 185 191 = some (.iconst 2, 192, 0, 0, 0, 0, 1) := cAM_readItem_6 _ (List.mem_of_getElem? (i := 3) rfl)
theorem cM_readItem_192 : zCode 185 192 = some (.if_icmp .ne 8, 195, 200, 0, 0, 0, 1) := cAM_readItem_6 _ (List.mem_of_getElem? (i := 4) rfl)
theorem cM_readItem_195 : zCode 185 195 = some (.bipush 20, 197, 0, 0, 0, 0, 1) := cAM_readItem_6 _ (List.mem_of_getElem? (i := 5) rfl)
theorem cM_readItem_197 : zCode 185 197 = some (.goto 4, 200, 201, 0, 0, 0, 1) := cAM_readItem_6 _ (List.mem_of_getElem? (i := 6) rfl)
theorem cM_readItem_200 : zCode 185 200 = some (.iconst 2, 201, 0, 0, 0, 0, 1) := cAM_readItem_6 _ (List.mem_of_getElem? (i := 7) rfl)
theorem cM_readItem_201 : zCode 185 201 = some (.invokevirtual 204, 204, 184, 2, 3, 12, 1) := cAM_readItem_6 _ (List.mem_of_getElem? (i := 8) rfl)
theorem cM_readItem_204 : zCode 185 204 = some (.ifCond .ne 5, 207, 209, 0, 0, 0, 1) := cAM_readItem_6 _ (List.mem_of_getElem? (i := 9) rfl)
theorem cM_readItem_207 : zCode 185 207 = some (.iconst 0, 208, 0, 0, 0, 0, 0) := cAM_readItem_6 _ (List.mem_of_getElem? (i := 10) rfl)
theorem cM_readItem_208 : zCode 185 208 = some (.ireturn, 209, 0, 3, 0, 0, 0) := cAM_readItem_6 _ (List.mem_of_getElem? (i := 11) rfl)
theorem cM_readItem_209 : zCode 185 209 = some (.aload_n 0, 210, 0, 0, 0, 0, 1) := cAM_readItem_6 _ (List.mem_of_getElem? (i := 12) rfl)
theorem cM_readItem_210 : zCode 185 210 = some (.getfield 176, 213, 12, 10, 0, 1219, 1) := cAM_readItem_6 _ (List.mem_of_getElem? (i := 13) rfl)
theorem cM_readItem_213 : zCode 185 213 = some (.iconst 3, 214, 0, 0, 0, 0, 1) := cAM_readItem_6 _ (List.mem_of_getElem? (i := 14) rfl)
theorem cM_readItem_214 : zCode 185 214 = some (.if_icmp .eq 5, 217, 219, 0, 0, 0, 1) := cAM_readItem_6 _ (List.mem_of_getElem? (i := 15) rfl)
theorem cM_readItem_217 : zCode 185 217 = some (.iconst 0, 218, 0, 0, 0, 0, 0) := cAM_readItem_7 _ (List.mem_of_getElem? (i := 0) rfl)
theorem cM_readItem_218 : zCode 185 218 = some (.ireturn, 219, 0, 3, 0, 0, 0) := cAM_readItem_7 _ (List.mem_of_getElem? (i := 1) rfl)
theorem cM_readItem_219 : zCode 185 219 = some (.aload_n 0, 220, 0, 0, 0, 0, 1) := cAM_readItem_7 _ (List.mem_of_getElem? (i := 2) rfl)
theorem cM_readItem_220 : zCode 185 220 = some (.invokevirtual 194, 223, 182, 0, 1, 12, 0) := cAM_readItem_7 _ (List.mem_of_getElem? (i := 3) rfl)
theorem cM_readItem_223 : zCode 185 223 = some (.iconst 1, 224, 0, 0, 0, 0, 0) := cAM_readItem_7 _ (List.mem_of_getElem? (i := 4) rfl)
theorem cM_readItem_224 : zCode 185 224 = some (.ireturn, 225, 0, 3, 0, 0, 0) := cAM_readItem_7 _ (List.mem_of_getElem? (i := 5) rfl)
theorem rM_readItem_0 {a0 : Nat} {a1 : Int} : zS 185 0 [zR a0, zI a1] [] sh pp mm Q ↔ zS 185 1 [zR a0, zI a1] [zR a0] sh pp mm Q := s_go cM_readItem_0 cM_readItem_1 rfl rfl
theorem rM_readItem_1 {a0 s0 : Nat} {a1 : Int} : zS 185 1 [zR a0, zI a1] [zR s0] sh pp mm Q ↔ zS 185 2 [zR a0, zI a1] [zR a0, zR s0] sh pp mm Q := s_go cM_readItem_1 cM_readItem_2 rfl rfl
theorem rM_readItem_2 {a0 s0 s1 : Nat} {a1 : Int} : zS 185 2 [zR a0, zI a1] [zR s0, zR s1] sh pp mm Q ↔ zS 185 4 [zR a0, zI a1] [zI 116, zR s0, zR s1] sh pp mm Q := s_go cM_readItem_2 cM_readItem_4 rfl rfl
theorem rM_readItem_4 {a0 s1 s2 : Nat} {a1 s0 : Int} : zS 185 4 [zR a0, zI a1] [zI s0, zR s1, zR s2] sh pp mm Q ↔ zS 185 6 [zR a0, zI a1] [zI 117, zI s0, zR s1, zR s2] sh pp mm Q := s_go cM_readItem_4 cM_readItem_6 rfl rfl
theorem rM_readItem_6 {a0 s2 s3 : Nat} {a1 s0 s1 : Int} : zS 185 6 [zR a0, zI a1] [zI s0, zI s1, zR s2, zR s3] sh pp mm Q ↔ zS 185 8 [zR a0, zI a1] [zI 114, zI s0, zI s1, zR s2, zR s3] sh pp mm Q := s_go cM_readItem_6 cM_readItem_8 rfl rfl
theorem rM_readItem_8 {a0 s3 s4 : Nat} {a1 s0 s1 s2 : Int} : zS 185 8 [zR a0, zI a1] [zI s0, zI s1, zI s2, zR s3, zR s4] sh pp mm Q ↔ zS 185 10 [zR a0, zI a1] [zI 110, zI s0, zI s1, zI s2, zR s3, zR s4] sh pp mm Q := s_go cM_readItem_8 cM_readItem_10 rfl rfl
theorem rM_readItem_10 {a0 s4 s5 : Nat} {a1 s0 s1 s2 s3 : Int} : zS 185 10 [zR a0, zI a1] [zI s0, zI s1, zI s2, zI s3, zR s4, zR s5] sh pp mm Q ↔ zS 185 11 [zR a0, zI a1] [zI 0, zI s0, zI s1, zI s2, zI s3, zR s4, zR s5] sh pp mm Q := s_go cM_readItem_10 cM_readItem_11 rfl rfl
theorem rM_readItem_11 {a0 s5 s6 : Nat} {a1 s0 s1 s2 s3 s4 : Int} (hk : zKd sh s5 = 12) : zS 185 11 [zR a0, zI a1] [zI s0, zI s1, zI s2, zI s3, zI s4, zR s5, zR s6] sh pp mm Q ↔ zS 183 0 [zR s5, zI s4, zI s3, zI s2, zI s1, zI s0, zU, zU, zU] [] sh pp mm (fun v sh pp mm => zS 185 14 [zR a0, zI a1] (zPush v [zR s6]) sh pp mm Q) := s_call cM_readItem_11 cM_readItem_14 ((if_pos hk).trans rfl) rfl
theorem rM_readItem_14 {a0 s1 : Nat} {a1 s0 : Int} : zS 185 14 [zR a0, zI a1] [zI s0, zR s1] sh pp mm Q ↔ (s0 = 0 → zS 185 21 [zR a0, zI a1] [zR s1] sh pp mm Q) ∧ (¬ s0 = 0 → zS 185 17 [zR a0, zI a1] [zR s1] sh pp mm Q) := s_if cM_readItem_14 cM_readItem_21 cM_readItem_17 rfl rfl rfl
theorem rM_readItem_17 {a0 s0 : Nat} {a1 : Int} : zS 185 17 [zR a0, zI a1] [zR s0] sh pp mm Q ↔ zS 185 18 [zR a0, zI a1] [zI 0, zR s0] sh pp mm Q := s_go cM_readItem_17 cM_readItem_18 rfl rfl
theorem rM_readItem_18 {a0 s1 : Nat} {a1 s0 : Int} : zS 185 18 [zR a0, zI a1] [zI s0, zR s1] sh pp mm Q ↔ zS 185 82 [zR a0, zI a1] [zI s0, zR s1] sh pp mm Q := s_go cM_readItem_18 cM_readItem_82 rfl rfl
theorem rM_readItem_21 {a0 s0 : Nat} {a1 : Int} : zS 185 21 [zR a0, zI a1] [zR s0] sh pp mm Q ↔ zS 185 22 [zR a0, zI a1] [zR a0, zR s0] sh pp mm Q := s_go cM_readItem_21 cM_readItem_22 rfl rfl
theorem rM_readItem_22 {a0 s0 s1 : Nat} {a1 : Int} : zS 185 22 [zR a0, zI a1] [zR s0, zR s1] sh pp mm Q ↔ zS 185 24 [zR a0, zI a1] [zI 115, zR s0, zR s1] sh pp mm Q := s_go cM_readItem_22 cM_readItem_24 rfl rfl
theorem rM_readItem_24 {a0 s1 s2 : Nat} {a1 s0 : Int} : zS 185 24 [zR a0, zI a1] [zI s0, zR s1, zR s2] sh pp mm Q ↔ zS 185 26 [zR a0, zI a1] [zI 104, zI s0, zR s1, zR s2] sh pp mm Q := s_go cM_readItem_24 cM_readItem_26 rfl rfl
theorem rM_readItem_26 {a0 s2 s3 : Nat} {a1 s0 s1 : Int} : zS 185 26 [zR a0, zI a1] [zI s0, zI s1, zR s2, zR s3] sh pp mm Q ↔ zS 185 28 [zR a0, zI a1] [zI 97, zI s0, zI s1, zR s2, zR s3] sh pp mm Q := s_go cM_readItem_26 cM_readItem_28 rfl rfl
theorem rM_readItem_28 {a0 s3 s4 : Nat} {a1 s0 s1 s2 : Int} : zS 185 28 [zR a0, zI a1] [zI s0, zI s1, zI s2, zR s3, zR s4] sh pp mm Q ↔ zS 185 30 [zR a0, zI a1] [zI 107, zI s0, zI s1, zI s2, zR s3, zR s4] sh pp mm Q := s_go cM_readItem_28 cM_readItem_30 rfl rfl
theorem rM_readItem_30 {a0 s4 s5 : Nat} {a1 s0 s1 s2 s3 : Int} : zS 185 30 [zR a0, zI a1] [zI s0, zI s1, zI s2, zI s3, zR s4, zR s5] sh pp mm Q ↔ zS 185 32 [zR a0, zI a1] [zI 101, zI s0, zI s1, zI s2, zI s3, zR s4, zR s5] sh pp mm Q := s_go cM_readItem_30 cM_readItem_32 rfl rfl
theorem rM_readItem_32 {a0 s5 s6 : Nat} {a1 s0 s1 s2 s3 s4 : Int} (hk : zKd sh s5 = 12) : zS 185 32 [zR a0, zI a1] [zI s0, zI s1, zI s2, zI s3, zI s4, zR s5, zR s6] sh pp mm Q ↔ zS 183 0 [zR s5, zI s4, zI s3, zI s2, zI s1, zI s0, zU, zU, zU] [] sh pp mm (fun v sh pp mm => zS 185 35 [zR a0, zI a1] (zPush v [zR s6]) sh pp mm Q) := s_call cM_readItem_32 cM_readItem_35 ((if_pos hk).trans rfl) rfl
theorem rM_readItem_35 {a0 s1 : Nat} {a1 s0 : Int} : zS 185 35 [zR a0, zI a1] [zI s0, zR s1] sh pp mm Q ↔ (s0 = 0 → zS 185 42 [zR a0, zI a1] [zR s1] sh pp mm Q) ∧ (¬ s0 = 0 → zS 185 38 [zR a0, zI a1] [zR s1] sh pp mm Q) := s_if cM_readItem_35 cM_readItem_42 cM_readItem_38 rfl rfl rfl
theorem rM_readItem_38 {a0 s0 : Nat} {a1 : Int} : zS 185 38 [zR a0, zI a1] [zR s0] sh pp mm Q ↔ zS 185 39 [zR a0, zI a1] [zI 1, zR s0] sh pp mm Q := s_go cM_readItem_38 cM_readItem_39 rfl rfl
theorem rM_readItem_39 {a0 s1 : Nat} {a1 s0 : Int} : zS 185 39 [zR a0, zI a1] [zI s0, zR s1] sh pp mm Q ↔ zS 185 82 [zR a0, zI a1] [zI s0, zR s1] sh pp mm Q := s_go cM_readItem_39 cM_readItem_82 rfl rfl
theorem rM_readItem_42 {a0 s0 : Nat} {a1 : Int} : zS 185 42 [zR a0, zI a1] [zR s0] sh pp mm Q ↔ zS 185 43 [zR a0, zI a1] [zR a0, zR s0] sh pp mm Q := s_go cM_readItem_42 cM_readItem_43 rfl rfl
theorem rM_readItem_43 {a0 s0 s1 : Nat} {a1 : Int} : zS 185 43 [zR a0, zI a1] [zR s0, zR s1] sh pp mm Q ↔ zS 185 45 [zR a0, zI a1] [zI 108, zR s0, zR s1] sh pp mm Q := s_go cM_readItem_43 cM_readItem_45 rfl rfl
theorem rM_readItem_45 {a0 s1 s2 : Nat} {a1 s0 : Int} : zS 185 45 [zR a0, zI a1] [zI s0, zR s1, zR s2] sh pp mm Q ↔ zS 185 47 [zR a0, zI a1] [zI 111, zI s0, zR s1, zR s2] sh pp mm Q := s_go cM_readItem_45 cM_readItem_47 rfl rfl
theorem rM_readItem_47 {a0 s2 s3 : Nat} {a1 s0 s1 : Int} : zS 185 47 [zR a0, zI a1] [zI s0, zI s1, zR s2, zR s3] sh pp mm Q ↔ zS 185 49 [zR a0, zI a1] [zI 111, zI s0, zI s1, zR s2, zR s3] sh pp mm Q := s_go cM_readItem_47 cM_readItem_49 rfl rfl
theorem rM_readItem_49 {a0 s3 s4 : Nat} {a1 s0 s1 s2 : Int} : zS 185 49 [zR a0, zI a1] [zI s0, zI s1, zI s2, zR s3, zR s4] sh pp mm Q ↔ zS 185 51 [zR a0, zI a1] [zI 112, zI s0, zI s1, zI s2, zR s3, zR s4] sh pp mm Q := s_go cM_readItem_49 cM_readItem_51 rfl rfl
theorem rM_readItem_51 {a0 s4 s5 : Nat} {a1 s0 s1 s2 s3 : Int} : zS 185 51 [zR a0, zI a1] [zI s0, zI s1, zI s2, zI s3, zR s4, zR s5] sh pp mm Q ↔ zS 185 52 [zR a0, zI a1] [zI 0, zI s0, zI s1, zI s2, zI s3, zR s4, zR s5] sh pp mm Q := s_go cM_readItem_51 cM_readItem_52 rfl rfl
theorem rM_readItem_52 {a0 s5 s6 : Nat} {a1 s0 s1 s2 s3 s4 : Int} (hk : zKd sh s5 = 12) : zS 185 52 [zR a0, zI a1] [zI s0, zI s1, zI s2, zI s3, zI s4, zR s5, zR s6] sh pp mm Q ↔ zS 183 0 [zR s5, zI s4, zI s3, zI s2, zI s1, zI s0, zU, zU, zU] [] sh pp mm (fun v sh pp mm => zS 185 55 [zR a0, zI a1] (zPush v [zR s6]) sh pp mm Q) := s_call cM_readItem_52 cM_readItem_55 ((if_pos hk).trans rfl) rfl
theorem rM_readItem_55 {a0 s1 : Nat} {a1 s0 : Int} : zS 185 55 [zR a0, zI a1] [zI s0, zR s1] sh pp mm Q ↔ (s0 = 0 → zS 185 62 [zR a0, zI a1] [zR s1] sh pp mm Q) ∧ (¬ s0 = 0 → zS 185 58 [zR a0, zI a1] [zR s1] sh pp mm Q) := s_if cM_readItem_55 cM_readItem_62 cM_readItem_58 rfl rfl rfl
theorem rM_readItem_58 {a0 s0 : Nat} {a1 : Int} : zS 185 58 [zR a0, zI a1] [zR s0] sh pp mm Q ↔ zS 185 59 [zR a0, zI a1] [zI 2, zR s0] sh pp mm Q := s_go cM_readItem_58 cM_readItem_59 rfl rfl
theorem rM_readItem_59 {a0 s1 : Nat} {a1 s0 : Int} : zS 185 59 [zR a0, zI a1] [zI s0, zR s1] sh pp mm Q ↔ zS 185 82 [zR a0, zI a1] [zI s0, zR s1] sh pp mm Q := s_go cM_readItem_59 cM_readItem_82 rfl rfl
theorem rM_readItem_62 {a0 s0 : Nat} {a1 : Int} : zS 185 62 [zR a0, zI a1] [zR s0] sh pp mm Q ↔ zS 185 63 [zR a0, zI a1] [zR a0, zR s0] sh pp mm Q := s_go cM_readItem_62 cM_readItem_63 rfl rfl
theorem rM_readItem_63 {a0 s0 s1 : Nat} {a1 : Int} : zS 185 63 [zR a0, zI a1] [zR s0, zR s1] sh pp mm Q ↔ zS 185 65 [zR a0, zI a1] [zI 101, zR s0, zR s1] sh pp mm Q := s_go cM_readItem_63 cM_readItem_65 rfl rfl
theorem rM_readItem_65 {a0 s1 s2 : Nat} {a1 s0 : Int} : zS 185 65 [zR a0, zI a1] [zI s0, zR s1, zR s2] sh pp mm Q ↔ zS 185 67 [zR a0, zI a1] [zI 110, zI s0, zR s1, zR s2] sh pp mm Q := s_go cM_readItem_65 cM_readItem_67 rfl rfl
theorem rM_readItem_67 {a0 s2 s3 : Nat} {a1 s0 s1 : Int} : zS 185 67 [zR a0, zI a1] [zI s0, zI s1, zR s2, zR s3] sh pp mm Q ↔ zS 185 69 [zR a0, zI a1] [zI 100, zI s0, zI s1, zR s2, zR s3] sh pp mm Q := s_go cM_readItem_67 cM_readItem_69 rfl rfl
theorem rM_readItem_69 {a0 s3 s4 : Nat} {a1 s0 s1 s2 : Int} : zS 185 69 [zR a0, zI a1] [zI s0, zI s1, zI s2, zR s3, zR s4] sh pp mm Q ↔ zS 185 70 [zR a0, zI a1] [zI 0, zI s0, zI s1, zI s2, zR s3, zR s4] sh pp mm Q := s_go cM_readItem_69 cM_readItem_70 rfl rfl
theorem rM_readItem_70 {a0 s4 s5 : Nat} {a1 s0 s1 s2 s3 : Int} : zS 185 70 [zR a0, zI a1] [zI s0, zI s1, zI s2, zI s3, zR s4, zR s5] sh pp mm Q ↔ zS 185 71 [zR a0, zI a1] [zI 0, zI s0, zI s1, zI s2, zI s3, zR s4, zR s5] sh pp mm Q := s_go cM_readItem_70 cM_readItem_71 rfl rfl
theorem rM_readItem_71 {a0 s5 s6 : Nat} {a1 s0 s1 s2 s3 s4 : Int} (hk : zKd sh s5 = 12) : zS 185 71 [zR a0, zI a1] [zI s0, zI s1, zI s2, zI s3, zI s4, zR s5, zR s6] sh pp mm Q ↔ zS 183 0 [zR s5, zI s4, zI s3, zI s2, zI s1, zI s0, zU, zU, zU] [] sh pp mm (fun v sh pp mm => zS 185 74 [zR a0, zI a1] (zPush v [zR s6]) sh pp mm Q) := s_call cM_readItem_71 cM_readItem_74 ((if_pos hk).trans rfl) rfl
theorem rM_readItem_74 {a0 s1 : Nat} {a1 s0 : Int} : zS 185 74 [zR a0, zI a1] [zI s0, zR s1] sh pp mm Q ↔ (s0 = 0 → zS 185 81 [zR a0, zI a1] [zR s1] sh pp mm Q) ∧ (¬ s0 = 0 → zS 185 77 [zR a0, zI a1] [zR s1] sh pp mm Q) := s_if cM_readItem_74 cM_readItem_81 cM_readItem_77 rfl rfl rfl
theorem rM_readItem_77 {a0 s0 : Nat} {a1 : Int} : zS 185 77 [zR a0, zI a1] [zR s0] sh pp mm Q ↔ zS 185 78 [zR a0, zI a1] [zI 3, zR s0] sh pp mm Q := s_go cM_readItem_77 cM_readItem_78 rfl rfl
theorem rM_readItem_78 {a0 s1 : Nat} {a1 s0 : Int} : zS 185 78 [zR a0, zI a1] [zI s0, zR s1] sh pp mm Q ↔ zS 185 82 [zR a0, zI a1] [zI s0, zR s1] sh pp mm Q := s_go cM_readItem_78 cM_readItem_82 rfl rfl
theorem rM_readItem_81 {a0 s0 : Nat} {a1 : Int} : zS 185 81 [zR a0, zI a1] [zR s0] sh pp mm Q ↔ zS 185 82 [zR a0, zI a1] [zI (-1), zR s0] sh pp mm Q := s_go cM_readItem_81 cM_readItem_82 rfl rfl
theorem rM_readItem_82 {a0 s1 : Nat} {a1 s0 : Int} (hk : zKd sh s1 = 12) : zS 185 82 [zR a0, zI a1] [zI s0, zR s1] sh pp mm Q ↔ zS 185 85 [zR a0, zI a1] [] sh pp (zupd mm s1 12 s0) Q := s_go cM_readItem_82 cM_readItem_85 (if_pos ⟨hk, Or.inl rfl⟩) rfl
theorem rM_readItem_85 {a0 : Nat} {a1 : Int} : zS 185 85 [zR a0, zI a1] [] sh pp mm Q ↔ zS 185 86 [zR a0, zI a1] [zR a0] sh pp mm Q := s_go cM_readItem_85 cM_readItem_86 rfl rfl
theorem rM_readItem_86 {a0 s0 : Nat} {a1 : Int} (hk : zKd sh s0 = 12) : zS 185 86 [zR a0, zI a1] [zR s0] sh pp mm Q ↔ zS 185 89 [zR a0, zI a1] [zI (mm s0 12)] sh pp mm Q := s_go cM_readItem_86 cM_readItem_89 (if_pos hk) rfl
theorem rM_readItem_89 {a0 : Nat} {a1 s0 : Int} : zS 185 89 [zR a0, zI a1] [zI s0] sh pp mm Q ↔ zS 185 90 [zR a0, zI a1] [zI (-1), zI s0] sh pp mm Q := s_go cM_readItem_89 cM_readItem_90 rfl rfl
theorem rM_readItem_90 {a0 : Nat} {a1 s0 s1 : Int} : zS 185 90 [zR a0, zI a1] [zI s0, zI s1] sh pp mm Q ↔ (s1 = s0 → zS 185 118 [zU, zU] [] sh pp mm Q) ∧ (¬ s1 = s0 → zS 185 93 [zR a0, zI a1] [] sh pp mm Q) := s_if cM_readItem_90 cM_readItem_118 cM_readItem_93 rfl rfl rfl
theorem rM_readItem_93 {a0 : Nat} {a1 : Int} : zS 185 93 [zR a0, zI a1] [] sh pp mm Q ↔ zS 185 94 [zR a0, zI a1] [zR a0] sh pp mm Q := s_go cM_readItem_93 cM_readItem_94 rfl rfl
theorem rM_readItem_94 {a0 s0 : Nat} {a1 : Int} (hk : zKd sh s0 = 12) : zS 185 94 [zR a0, zI a1] [zR s0] sh pp mm Q ↔ zS 185 97 [zR a0, zI a1] [zI (mm s0 12)] sh pp mm Q := s_go cM_readItem_94 cM_readItem_97 (if_pos hk) rfl
theorem rM_readItem_97 {a0 : Nat} {a1 s0 : Int} : zS 185 97 [zR a0, zI a1] [zI s0] sh pp mm Q ↔ zS 185 98 [zR a0, zI a1] [zI 3, zI s0] sh pp mm Q := s_go cM_readItem_97 cM_readItem_98 rfl rfl
theorem rM_readItem_98 {a0 : Nat} {a1 s0 s1 : Int} : zS 185 98 [zR a0, zI a1] [zI s0, zI s1] sh pp mm Q ↔ (s1 = s0 → zS 185 101 [zR a0, zI a1] [] sh pp mm Q) ∧ (¬ s1 = s0 → zS 185 105 [zR a0, zI a1] [] sh pp mm Q) := s_ifn cM_readItem_98 cM_readItem_101 cM_readItem_105 rfl rfl rfl
theorem rM_readItem_101 {a0 : Nat} {a1 : Int} : zS 185 101 [zR a0, zI a1] [] sh pp mm Q ↔ zS 185 102 [zR a0, zI a1] [zI a1] sh pp mm Q := s_go cM_readItem_101 cM_readItem_102 rfl rfl
theorem rM_readItem_102 {a0 : Nat} {a1 s0 : Int} : zS 185 102 [zR a0, zI a1] [zI s0] sh pp mm Q ↔ (s0 = 0 → zS 185 118 [zU, zU] [] sh pp mm Q) ∧ (¬ s0 = 0 → zS 185 105 [zR a0, zI a1] [] sh pp mm Q) := s_if cM_readItem_102 cM_readItem_118 cM_readItem_105 rfl rfl rfl
theorem rM_readItem_105 {a0 : Nat} {a1 : Int} : zS 185 105 [zR a0, zI a1] [] sh pp mm Q ↔ zS 185 106 [zR a0, zI a1] [zR a0] sh pp mm Q := s_go cM_readItem_105 cM_readItem_106 rfl rfl
theorem rM_readItem_106 {a0 s0 : Nat} {a1 : Int} (hk : zKd sh s0 = 12) : zS 185 106 [zR a0, zI a1] [zR s0] sh pp mm Q ↔ zS 185 109 [zR a0, zI a1] [zI (mm s0 12)] sh pp mm Q := s_go cM_readItem_106 cM_readItem_109 (if_pos hk) rfl
theorem rM_readItem_109 {a0 : Nat} {a1 s0 : Int} : zS 185 109 [zR a0, zI a1] [zI s0] sh pp mm Q ↔ zS 185 110 [zR a0, zI a1] [zI 2, zI s0] sh pp mm Q := s_go cM_readItem_109 cM_readItem_110 rfl rfl
theorem rM_readItem_110 {a0 : Nat} {a1 s0 s1 : Int} : zS 185 110 [zR a0, zI a1] [zI s0, zI s1] sh pp mm Q ↔ (s1 = s0 → zS 185 113 [zR a0, zI a1] [] sh pp mm Q) ∧ (¬ s1 = s0 → zS 185 120 [zR a0, zU] [] sh pp mm Q) := s_ifn cM_readItem_110 cM_readItem_113 cM_readItem_120 rfl rfl rfl
theorem rM_readItem_113 {a0 : Nat} {a1 : Int} : zS 185 113 [zR a0, zI a1] [] sh pp mm Q ↔ zS 185 114 [zR a0, zU] [zI a1] sh pp mm Q := s_go cM_readItem_113 cM_readItem_114 rfl rfl
theorem rM_readItem_114 {a0 : Nat} {s0 : Int} {u1 : zV} : zS 185 114 [zR a0, u1] [zI s0] sh pp mm Q ↔ zS 185 115 [zR a0, zU] [zI 3, zI s0] sh pp mm Q := s_go cM_readItem_114 cM_readItem_115 rfl rfl
theorem rM_readItem_115 {a0 : Nat} {s0 s1 : Int} {u1 : zV} : zS 185 115 [zR a0, u1] [zI s0, zI s1] sh pp mm Q ↔ (s1 = s0 → zS 185 118 [zU, zU] [] sh pp mm Q) ∧ (¬ s1 = s0 → zS 185 120 [zR a0, zU] [] sh pp mm Q) := s_ifn cM_readItem_115 cM_readItem_118 cM_readItem_120 rfl rfl rfl
theorem rM_readItem_118 {u0 u1 : zV} : zS 185 118 [u0, u1] [] sh pp mm Q ↔ zS 185 119 [zU, zU] [zI 0] sh pp mm Q := s_go cM_readItem_118 cM_readItem_119 rfl rfl
theorem rM_readItem_119 {s0 : Int} {u0 u1 : zV} (hb : s0 = 0 ∨ s0 = 1) : zS 185 119 [u0, u1] [zI s0] sh pp mm Q ↔ Q (zI s0) sh pp mm := s_ret cM_readItem_119 (if_pos (decide_eq_true hb))
theorem rM_readItem_120 {a0 : Nat} {u1 : zV} : zS 185 120 [zR a0, u1] [] sh pp mm Q ↔ zS 185 121 [zR a0, zU] [zR a0] sh pp mm Q := s_go cM_readItem_120 cM_readItem_121 rfl rfl
theorem rM_readItem_121 {a0 s0 : Nat} {u1 : zV} (hk : zKd sh s0 = 12) : zS 185 121 [zR a0, u1] [zR s0] sh pp mm Q ↔ zS 182 0 [zR s0] [] sh pp mm (fun v sh pp mm => zS 185 124 [zR a0, zU] (zPush v []) sh pp mm Q) := s_call cM_readItem_121 cM_readItem_124 ((if_pos hk).trans rfl) rfl
theorem rM_readItem_124 {a0 : Nat} {u1 : zV} : zS 185 124 [zR a0, u1] [] sh pp mm Q ↔ zS 185 125 [zR a0, zU] [zR a0] sh pp mm Q := s_go cM_readItem_124 cM_readItem_125 rfl rfl
theorem rM_readItem_125 {a0 s0 : Nat} {u1 : zV} (hk : zKd sh s0 = 12) : zS 185 125 [zR a0, u1] [zR s0] sh pp mm Q ↔ zS 185 128 [zR a0, zU] [zI (mm s0 12)] sh pp mm Q := s_go cM_readItem_125 cM_readItem_128 (if_pos hk) rfl
theorem rM_readItem_128 {a0 : Nat} {s0 : Int} {u1 : zV} : zS 185 128 [zR a0, u1] [zI s0] sh pp mm Q ↔ (s0 = 0 → zS 185 131 [zR a0, zU] [] sh pp mm Q) ∧ (¬ s0 = 0 → zS 185 165 [zR a0, zU] [] sh pp mm Q) := s_ifn cM_readItem_128 cM_readItem_131 cM_readItem_165 rfl rfl rfl
theorem rM_readItem_131 {a0 : Nat} {u1 : zV} : zS 185 131 [zR a0, u1] [] sh pp mm Q ↔ zS 185 132 [zR a0, zU] [zR a0] sh pp mm Q := s_go cM_readItem_131 cM_readItem_132 rfl rfl
theorem rM_readItem_132 {a0 s0 : Nat} {u1 : zV} : zS 185 132 [zR a0, u1] [zR s0] sh pp mm Q ↔ zS 185 134 [zR a0, zU] [zI (-99), zR s0] sh pp mm Q := s_go cM_readItem_132 cM_readItem_134 rfl rfl
theorem rM_readItem_134 {a0 s1 : Nat} {s0 : Int} {u1 : zV} : zS 185 134 [zR a0, u1] [zI s0, zR s1] sh pp mm Q ↔ zS 185 136 [zR a0, zU] [zI 99, zI s0, zR s1] sh pp mm Q := s_go cM_readItem_134 cM_readItem_136 rfl rfl
theorem rM_readItem_136 {a0 s2 : Nat} {s0 s1 : Int} {u1 : zV} (hk : zKd sh s2 = 12) : zS 185 136 [zR a0, u1] [zI s0, zI s1, zR s2] sh pp mm Q ↔ zS 184 0 [zR s2, zI s1, zI s0] [] sh pp mm (fun v sh pp mm => zS 185 139 [zR a0, zU] (zPush v []) sh pp mm Q) := s_call cM_readItem_136 cM_readItem_139 ((if_pos hk).trans rfl) rfl
theorem rM_readItem_139 {a0 : Nat} {s0 : Int} {u1 : zV} : zS 185 139 [zR a0, u1] [zI s0] sh pp mm Q ↔ (s0 = 0 → zS 185 142 [zU, zU] [] sh pp mm Q) ∧ (¬ s0 = 0 → zS 185 144 [zR a0, zU] [] sh pp mm Q) := s_ifn cM_readItem_139 cM_readItem_142 cM_readItem_144 rfl rfl rfl
theorem rM_readItem_142 {u0 u1 : zV} : zS 185 142 [u0, u1] [] sh pp mm Q ↔ zS 185 143 [zU, zU] [zI 0] sh pp mm Q := s_go cM_readItem_142 cM_readItem_143 rfl rfl
theorem rM_readItem_143 {s0 : Int} {u0 u1 : zV} (hb : s0 = 0 ∨ s0 = 1) : zS 185 143 [u0, u1] [zI s0] sh pp mm Q ↔ Q (zI s0) sh pp mm := s_ret cM_readItem_143 (if_pos (decide_eq_true hb))
theorem rM_readItem_144 {a0 : Nat} {u1 : zV} : zS 185 144 [zR a0, u1] [] sh pp mm Q ↔ zS 185 145 [zR a0, zU] [zR a0] sh pp mm Q := s_go cM_readItem_144 cM_readItem_145 rfl rfl
theorem rM_readItem_145 {a0 s0 : Nat} {u1 : zV} : zS 185 145 [zR a0, u1] [zR s0] sh pp mm Q ↔ zS 185 146 [zR a0, zU] [zR a0, zR s0] sh pp mm Q := s_go cM_readItem_145 cM_readItem_146 rfl rfl
theorem rM_readItem_146 {a0 s0 s1 : Nat} {u1 : zV} (hk : zKd sh s0 = 12) : zS 185 146 [zR a0, u1] [zR s0, zR s1] sh pp mm Q ↔ zS 185 149 [zR a0, zU] [zI (mm s0 14), zR s1] sh pp mm Q := s_go cM_readItem_146 cM_readItem_149 (if_pos hk) rfl
theorem rM_readItem_149 {a0 s1 : Nat} {s0 : Int} {u1 : zV} (hk : zKd sh s1 = 12) : zS 185 149 [zR a0, u1] [zI s0, zR s1] sh pp mm Q ↔ zS 185 152 [zR a0, zU] [] sh pp (zupd mm s1 13 s0) Q := s_go cM_readItem_149 cM_readItem_152 (if_pos ⟨hk, Or.inl rfl⟩) rfl
theorem rM_readItem_152 {a0 : Nat} {u1 : zV} : zS 185 152 [zR a0, u1] [] sh pp mm Q ↔ zS 185 153 [zR a0, zU] [zR a0] sh pp mm Q := s_go cM_readItem_152 cM_readItem_153 rfl rfl
theorem rM_readItem_153 {a0 s0 : Nat} {u1 : zV} : zS 185 153 [zR a0, u1] [zR s0] sh pp mm Q ↔ zS 185 155 [zR a0, zU] [zI (-99), zR s0] sh pp mm Q := s_go cM_readItem_153 cM_readItem_155 rfl rfl
theorem rM_readItem_155 {a0 s1 : Nat} {s0 : Int} {u1 : zV} : zS 185 155 [zR a0, u1] [zI s0, zR s1] sh pp mm Q ↔ zS 185 157 [zR a0, zU] [zI 99, zI s0, zR s1] sh pp mm Q := s_go cM_readItem_155 cM_readItem_157 rfl rfl
theorem rM_readItem_157 {a0 s2 : Nat} {s0 s1 : Int} {u1 : zV} (hk : zKd sh s2 = 12) : zS 185 157 [zR a0, u1] [zI s0, zI s1, zR s2] sh pp mm Q ↔ zS 184 0 [zR s2, zI s1, zI s0] [] sh pp mm (fun v sh pp mm => zS 185 160 [zR a0, zU] (zPush v []) sh pp mm Q) := s_call cM_readItem_157 cM_readItem_160 ((if_pos hk).trans rfl) rfl
theorem rM_readItem_160 {a0 : Nat} {s0 : Int} {u1 : zV} : zS 185 160 [zR a0, u1] [zI s0] sh pp mm Q ↔ (s0 = 0 → zS 185 163 [zU, zU] [] sh pp mm Q) ∧ (¬ s0 = 0 → zS 185 209 [zR a0, zU] [] sh pp mm Q) := s_ifn cM_readItem_160 cM_readItem_163 cM_readItem_209 rfl rfl rfl
theorem rM_readItem_163 {u0 u1 : zV} : zS 185 163 [u0, u1] [] sh pp mm Q ↔ zS 185 164 [zU, zU] [zI 0] sh pp mm Q := s_go cM_readItem_163 cM_readItem_164 rfl rfl
theorem rM_readItem_164 {s0 : Int} {u0 u1 : zV} (hb : s0 = 0 ∨ s0 = 1) : zS 185 164 [u0, u1] [zI s0] sh pp mm Q ↔ Q (zI s0) sh pp mm := s_ret cM_readItem_164 (if_pos (decide_eq_true hb))
theorem rM_readItem_165 {a0 : Nat} {u1 : zV} : zS 185 165 [zR a0, u1] [] sh pp mm Q ↔ zS 185 166 [zR a0, zU] [zR a0] sh pp mm Q := s_go cM_readItem_165 cM_readItem_166 rfl rfl
theorem rM_readItem_166 {a0 s0 : Nat} {u1 : zV} (hk : zKd sh s0 = 12) : zS 185 166 [zR a0, u1] [zR s0] sh pp mm Q ↔ zS 185 169 [zR a0, zU] [zI (mm s0 12)] sh pp mm Q := s_go cM_readItem_166 cM_readItem_169 (if_pos hk) rfl
theorem rM_readItem_169 {a0 : Nat} {s0 : Int} {u1 : zV} : zS 185 169 [zR a0, u1] [zI s0] sh pp mm Q ↔ zS 185 170 [zR a0, zU] [zI 3, zI s0] sh pp mm Q := s_go cM_readItem_169 cM_readItem_170 rfl rfl
theorem rM_readItem_170 {a0 : Nat} {s0 s1 : Int} {u1 : zV} : zS 185 170 [zR a0, u1] [zI s0, zI s1] sh pp mm Q ↔ (s1 = s0 → zS 185 209 [zR a0, zU] [] sh pp mm Q) ∧ (¬ s1 = s0 → zS 185 173 [zR a0, zU] [] sh pp mm Q) := s_if cM_readItem_170 cM_readItem_209 cM_readItem_173 rfl rfl rfl
theorem rM_readItem_173 {a0 : Nat} {u1 : zV} : zS 185 173 [zR a0, u1] [] sh pp mm Q ↔ zS 185 174 [zR a0, zU] [zR a0] sh pp mm Q := s_go cM_readItem_173 cM_readItem_174 rfl rfl
theorem rM_readItem_174 {a0 s0 : Nat} {u1 : zV} : zS 185 174 [zR a0, u1] [zR s0] sh pp mm Q ↔ zS 185 175 [zR a0, zU] [zR a0, zR s0] sh pp mm Q := s_go cM_readItem_174 cM_readItem_175 rfl rfl
theorem rM_readItem_175 {a0 s0 s1 : Nat} {u1 : zV} (hk : zKd sh s0 = 12) : zS 185 175 [zR a0, u1] [zR s0, zR s1] sh pp mm Q ↔ zS 185 178 [zR a0, zU] [zI (mm s0 12), zR s1] sh pp mm Q := s_go cM_readItem_175 cM_readItem_178 (if_pos hk) rfl
theorem rM_readItem_178 {a0 s1 : Nat} {s0 : Int} {u1 : zV} : zS 185 178 [zR a0, u1] [zI s0, zR s1] sh pp mm Q ↔ zS 185 179 [zR a0, zU] [zI 2, zI s0, zR s1] sh pp mm Q := s_go cM_readItem_178 cM_readItem_179 rfl rfl
theorem rM_readItem_179 {a0 s2 : Nat} {s0 s1 : Int} {u1 : zV} : zS 185 179 [zR a0, u1] [zI s0, zI s1, zR s2] sh pp mm Q ↔ (s1 = s0 → zS 185 182 [zR a0, zU] [zR s2] sh pp mm Q) ∧ (¬ s1 = s0 → zS 185 186 [zR a0, zU] [zR s2] sh pp mm Q) := s_ifn cM_readItem_179 cM_readItem_182 cM_readItem_186 rfl rfl rfl
theorem rM_readItem_182 {a0 s0 : Nat} {u1 : zV} : zS 185 182 [zR a0, u1] [zR s0] sh pp mm Q ↔ zS 185 183 [zR a0, zU] [zI 1, zR s0] sh pp mm Q := s_go cM_readItem_182 cM_readItem_183 rfl rfl
theorem rM_readItem_183 {a0 s1 : Nat} {s0 : Int} {u1 : zV} : zS 185 183 [zR a0, u1] [zI s0, zR s1] sh pp mm Q ↔ zS 185 187 [zR a0, zU] [zI s0, zR s1] sh pp mm Q := s_go cM_readItem_183 cM_readItem_187 rfl rfl
theorem rM_readItem_186 {a0 s0 : Nat} {u1 : zV} : zS 185 186 [zR a0, u1] [zR s0] sh pp mm Q ↔ zS 185 187 [zR a0, zU] [zI 0, zR s0] sh pp mm Q := s_go cM_readItem_186 cM_readItem_187 rfl rfl
theorem rM_readItem_187 {a0 s1 : Nat} {s0 : Int} {u1 : zV} : zS 185 187 [zR a0, u1] [zI s0, zR s1] sh pp mm Q ↔ zS 185 188 [zR a0, zU] [zR a0, zI s0, zR s1] sh pp mm Q := s_go cM_readItem_187 cM_readItem_188 rfl rfl
theorem rM_readItem_188 {a0 s0 s2 : Nat} {s1 : Int} {u1 : zV} (hk : zKd sh s0 = 12) : zS 185 188 [zR a0, u1] [zR s0, zI s1, zR s2] sh pp mm Q ↔ zS 185 191 [zR a0, zU] [zI (mm s0 12), zI s1, zR s2] sh pp mm Q := s_go cM_readItem_188 cM_readItem_191 (if_pos hk) rfl
theorem rM_readItem_191 {a0 s2 : Nat} {s0 s1 : Int} {u1 : zV} : zS 185 191 [zR a0, u1] [zI s0, zI s1, zR s2] sh pp mm Q ↔ zS 185 192 [zR a0, zU] [zI 2, zI s0, zI s1, zR s2] sh pp mm Q := s_go cM_readItem_191 cM_readItem_192 rfl rfl
theorem rM_readItem_192 {a0 s3 : Nat} {s0 s1 s2 : Int} {u1 : zV} : zS 185 192 [zR a0, u1] [zI s0, zI s1, zI s2, zR s3] sh pp mm Q ↔ (s1 = s0 → zS 185 195 [zR a0, zU] [zI s2, zR s3] sh pp mm Q) ∧ (¬ s1 = s0 → zS 185 200 [zR a0, zU] [zI s2, zR s3] sh pp mm Q) := s_ifn cM_readItem_192 cM_readItem_195 cM_readItem_200 rfl rfl rfl
theorem rM_readItem_195 {a0 s1 : Nat} {s0 : Int} {u1 : zV} : zS 185 195 [zR a0, u1] [zI s0, zR s1] sh pp mm Q ↔ zS 185 197 [zR a0, zU] [zI 20, zI s0, zR s1] sh pp mm Q := s_go cM_readItem_195 cM_readItem_197 rfl rfl
theorem rM_readItem_197 {a0 s2 : Nat} {s0 s1 : Int} {u1 : zV} : zS 185 197 [zR a0, u1] [zI s0, zI s1, zR s2] sh pp mm Q ↔ zS 185 201 [zR a0, zU] [zI s0, zI s1, zR s2] sh pp mm Q := s_go cM_readItem_197 cM_readItem_201 rfl rfl
theorem rM_readItem_200 {a0 s1 : Nat} {s0 : Int} {u1 : zV} : zS 185 200 [zR a0, u1] [zI s0, zR s1] sh pp mm Q ↔ zS 185 201 [zR a0, zU] [zI 2, zI s0, zR s1] sh pp mm Q := s_go cM_readItem_200 cM_readItem_201 rfl rfl
theorem rM_readItem_201 {a0 s2 : Nat} {s0 s1 : Int} {u1 : zV} (hk : zKd sh s2 = 12) : zS 185 201 [zR a0, u1] [zI s0, zI s1, zR s2] sh pp mm Q ↔ zS 184 0 [zR s2, zI s1, zI s0] [] sh pp mm (fun v sh pp mm => zS 185 204 [zR a0, zU] (zPush v []) sh pp mm Q) := s_call cM_readItem_201 cM_readItem_204 ((if_pos hk).trans rfl) rfl
theorem rM_readItem_204 {a0 : Nat} {s0 : Int} {u1 : zV} : zS 185 204 [zR a0, u1] [zI s0] sh pp mm Q ↔ (s0 = 0 → zS 185 207 [zU, zU] [] sh pp mm Q) ∧ (¬ s0 = 0 → zS 185 209 [zR a0, zU] [] sh pp mm Q) := s_ifn cM_readItem_204 cM_readItem_207 cM_readItem_209 rfl rfl rfl
theorem rM_readItem_207 {u0 u1 : zV} : zS 185 207 [u0, u1] [] sh pp mm Q ↔ zS 185 208 [zU, zU] [zI 0] sh pp mm Q := s_go cM_readItem_207 cM_readItem_208 rfl rfl
theorem rM_readItem_208 {s0 : Int} {u0 u1 : zV} (hb : s0 = 0 ∨ s0 = 1) : zS 185 208 [u0, u1] [zI s0] sh pp mm Q ↔ Q (zI s0) sh pp mm := s_ret cM_readItem_208 (if_pos (decide_eq_true hb))
theorem rM_readItem_209 {a0 : Nat} {u1 : zV} : zS 185 209 [zR a0, u1] [] sh pp mm Q ↔ zS 185 210 [zR a0, zU] [zR a0] sh pp mm Q := s_go cM_readItem_209 cM_readItem_210 rfl rfl
theorem rM_readItem_210 {a0 s0 : Nat} {u1 : zV} (hk : zKd sh s0 = 12) : zS 185 210 [zR a0, u1] [zR s0] sh pp mm Q ↔ zS 185 213 [zR a0, zU] [zI (mm s0 10)] sh pp mm Q := s_go cM_readItem_210 cM_readItem_213 (if_pos hk) rfl
theorem rM_readItem_213 {a0 : Nat} {s0 : Int} {u1 : zV} : zS 185 213 [zR a0, u1] [zI s0] sh pp mm Q ↔ zS 185 214 [zR a0, zU] [zI 3, zI s0] sh pp mm Q := s_go cM_readItem_213 cM_readItem_214 rfl rfl
theorem rM_readItem_214 {a0 : Nat} {s0 s1 : Int} {u1 : zV} : zS 185 214 [zR a0, u1] [zI s0, zI s1] sh pp mm Q ↔ (s1 = s0 → zS 185 219 [zR a0, zU] [] sh pp mm Q) ∧ (¬ s1 = s0 → zS 185 217 [zU, zU] [] sh pp mm Q) := s_if cM_readItem_214 cM_readItem_219 cM_readItem_217 rfl rfl rfl
theorem rM_readItem_217 {u0 u1 : zV} : zS 185 217 [u0, u1] [] sh pp mm Q ↔ zS 185 218 [zU, zU] [zI 0] sh pp mm Q := s_go cM_readItem_217 cM_readItem_218 rfl rfl
theorem rM_readItem_218 {s0 : Int} {u0 u1 : zV} (hb : s0 = 0 ∨ s0 = 1) : zS 185 218 [u0, u1] [zI s0] sh pp mm Q ↔ Q (zI s0) sh pp mm := s_ret cM_readItem_218 (if_pos (decide_eq_true hb))
theorem rM_readItem_219 {a0 : Nat} {u1 : zV} : zS 185 219 [zR a0, u1] [] sh pp mm Q ↔ zS 185 220 [zU, zU] [zR a0] sh pp mm Q := s_go cM_readItem_219 cM_readItem_220 rfl rfl
theorem rM_readItem_220 {s0 : Nat} {u0 u1 : zV} (hk : zKd sh s0 = 12) : zS 185 220 [u0, u1] [zR s0] sh pp mm Q ↔ zS 182 0 [zR s0] [] sh pp mm (fun v sh pp mm => zS 185 223 [zU, zU] (zPush v []) sh pp mm Q) := s_call cM_readItem_220 cM_readItem_223 ((if_pos hk).trans rfl) rfl
theorem rM_readItem_223 {u0 u1 : zV} : zS 185 223 [u0, u1] [] sh pp mm Q ↔ zS 185 224 [zU, zU] [zI 1] sh pp mm Q := s_go cM_readItem_223 cM_readItem_224 rfl rfl
theorem rM_readItem_224 {s0 : Int} {u0 u1 : zV} (hb : s0 = 0 ∨ s0 = 1) : zS 185 224 [u0, u1] [zI s0] sh pp mm Q ↔ Q (zI s0) sh pp mm := s_ret cM_readItem_224 (if_pos (decide_eq_true hb))
theorem cAM_reads : ∀ q ∈ zT186, zCode 186 q.1 = some q.2 := zAll (mid := 186) rfl (by decide +kernel)
theorem cAM_reads_0 : ∀ q ∈ zT186_0, zCode 186 q.1 = some q.2 := fun q h => cAM_reads q (List.mem_append_left _ h)
theorem cAM_reads_1 : ∀ q ∈ zT186_1, zCode 186 q.1 = some q.2 := fun q h => cAM_reads q (List.mem_append_right _ (List.mem_append_left _ h))
theorem cAM_reads_2 : ∀ q ∈ zT186_2, zCode 186 q.1 = some q.2 := fun q h => cAM_reads q (List.mem_append_right _ (List.mem_append_right _ h))
theorem cM_reads_0 : zCode 186 0 = some (.aload_n 0, 1, 0, 0, 0, 0, 3) := cAM_reads_0 _ (List.mem_of_getElem? (i := 0) rfl)
theorem cM_reads_1 : zCode 186 1 = some (.iload_n 1, 2, 0, 0, 0, 0, 3) := cAM_reads_0 _ (List.mem_of_getElem? (i := 1) rfl)
theorem cM_reads_2 : zCode 186 2 = some (.putfield 144, 5, 12, 7, 0, 1216, 1) := cAM_reads_0 _ (List.mem_of_getElem? (i := 2) rfl)
theorem cM_reads_5 : zCode 186 5 = some (.iconst 0, 6, 0, 0, 0, 0, 1) := cAM_reads_0 _ (List.mem_of_getElem? (i := 3) rfl)
theorem cM_reads_6 : zCode 186 6 = some (.istore_n 2, 7, 0, 0, 0, 0, 1) := cAM_reads_0 _ (List.mem_of_getElem? (i := 4) rfl)
theorem cM_reads_7 : zCode 186 7 = some (.aload_n 0, 8, 0, 0, 0, 0, 5) := cAM_reads_0 _ (List.mem_of_getElem? (i := 5) rfl)
theorem cM_reads_8 : zCode 186 8 = some (.iconst 0, 9, 0, 0, 0, 0, 5) := cAM_reads_0 _ (List.mem_of_getElem? (i := 6) rfl)
theorem cM_reads_9 : zCode 186 9 = some (.invokevirtual 188, 12, 181, 1, 6, 12, 5) := cAM_reads_0 _ (List.mem_of_getElem? (i := 7) rfl)
theorem cM_reads_12 : zCode 186 12 = some (.iconst 1, 13, 0, 0, 0, 0, 5) := cAM_reads_0 _ (List.mem_of_getElem? (i := 8) rfl)
theorem cM_reads_13 : zCode 186 13 = some (.istore_n 3, 14, 0, 0, 0, 0, 5) := cAM_reads_0 _ (List.mem_of_getElem? (i := 9) rfl)
theorem cM_reads_14 : zCode 186 14 = some (.iload_n 3, 15, 0, 0, 0, 0, 13) := cAM_reads_0 _ (List.mem_of_getElem? (i := 10) rfl)
theorem cM_reads_15 : zCode 186 15 = some (.ifCond .eq 55, 18, 70, 0, 0, 0, 13) := cAM_reads_0 _ (List.mem_of_getElem? (i := 11) rfl)
theorem cM_reads_18 : zCode 186 18 = some (.aload_n 0, 19, 0, 0, 0, 0, 13) := cAM_reads_0 _ (List.mem_of_getElem? (i := 12) rfl)
theorem cM_reads_19 : zCode 186 19 = some (.getfield 176, 22, 12, 10, 0, 1219, 13) := cAM_reads_0 _ (List.mem_of_getElem? (i := 13) rfl)
theorem cM_reads_22 : zCode 186 22 = some (.ifCond .eq 48, 25, 70, 0, 0, 0, 13) := cAM_reads_0 _ (List.mem_of_getElem? (i := 14) rfl)
theorem cM_reads_25 : zCode 186 25 = some (.aload_n 0, 26, 0, 0, 0, 0, 5) := cAM_reads_0 _ (List.mem_of_getElem? (i := 15) rfl)
theorem cM_reads_26 : zCode 186 26 = some (.iload_n 2, 27, 0, 0, 0, 0, 5) := cAM_reads_1 _ (List.mem_of_getElem? (i := 0) rfl)
theorem cM_reads_27 : zCode 186 27 = some (.invokevirtual 211, 30, 185, 1, 2, 12, 5) := cAM_reads_1 _ (List.mem_of_getElem? (i := 1) rfl)
theorem cM_reads_30 : zCode 186 30 = some (.istore_n 3, 31, 0, 0, 0, 0, 5) := cAM_reads_1 _ (List.mem_of_getElem? (i := 2) rfl)
theorem cM_reads_31 : zCode 186 31 = some (.iload_n 2, 32, 0, 0, 0, 0, 13) := cAM_reads_1 _ (List.mem_of_getElem? (i := 3) rfl)
theorem cM_reads_32 : zCode 186 32 = some (.iload_n 3, 33, 0, 0, 0, 0, 9) := cAM_reads_1 _ (List.mem_of_getElem? (i := 4) rfl)
theorem cM_reads_33 : zCode 186 33 = some (.ifCond .ne 7, 36, 40, 0, 0, 0, 9) := cAM_reads_1 _ (List.mem_of_getElem? (i := 5) rfl)
theorem cM_reads_36 : zCode 186 36 = some (.iconst 0, 37, 0, 0, 0, 0, 9) := cAM_reads_1 _ (List.mem_of_getElem? (i := 6) rfl)
theorem cM_reads_37 : zCode 186 37 = some (.goto 28, 40, 65, 0, 0, 0, 9) := cAM_reads_1 _ (List.mem_of_getElem? (i := 7) rfl)
theorem cM_reads_40 : zCode 186 40 = some (.aload_n 0, 41, 0, 0, 0, 0, 9) := cAM_reads_1 _ (List.mem_of_getElem? (i := 8) rfl)
theorem cM_reads_41 : zCode 186 41 = some (.getfield 201, 44, 12, 12, 0, 1221, 9) := cAM_reads_1 _ (List.mem_of_getElem? (i := 9) rfl)
theorem cM_reads_44 : zCode 186 44 = some (.iconst 2, 45, 0, 0, 0, 0, 9) := cAM_reads_1 _ (List.mem_of_getElem? (i := 10) rfl)
theorem cM_reads_45 : zCode 186 45 = some (.if_icmp .ne 7, 48, 52, 0, 0, 0, 9) := cAM_reads_1 _ (List.mem_of_getElem? (i := 11) rfl)
theorem cM_reads_48 : zCode 186 48 = some (.iconst 1, 49, 0, 0, 0, 0, 9) := cAM_reads_1 _ (List.mem_of_getElem? (i := 12) rfl)
theorem cM_reads_49 : zCode 186 49 = some (.goto 16, 52, 65, 0, 0, 0, 9) := cAM_reads_1 _ (List.mem_of_getElem? (i := 13) rfl)
theorem cM_reads_52 : zCode 186 52 = some (.aload_n 0, 53, 0, 0, 0, 0, 9) := cAM_reads_1 _ (List.mem_of_getElem? (i := 14) rfl)
theorem cM_reads_53 : zCode 186 53 = some (.getfield 201, 56, 12, 12, 0, 1221, 9) := cAM_reads_1 _ (List.mem_of_getElem? (i := 15) rfl)
theorem cM_reads_56 : zCode 186 56 = some (.iconst 3, 57, 0, 0, 0, 0, 9) := cAM_reads_2 _ (List.mem_of_getElem? (i := 0) rfl)
theorem cM_reads_57 : zCode 186 57 = some (.if_icmp .ne 7, 60, 64, 0, 0, 0, 9) := cAM_reads_2 _ (List.mem_of_getElem? (i := 1) rfl)
theorem cM_reads_60 : zCode 186 60 = some (.iconst (-1), 61, 0, 0, 0, 0, 9) := cAM_reads_2 _ (List.mem_of_getElem? (i := 2) rfl)
theorem cM_reads_61 : zCode 186 61 = some (.goto 4, 64, 65, 0, 0, 0, 9) := cAM_reads_2 _ (List.mem_of_getElem? (i := 3) rfl)
theorem cM_reads_64 : zCode 186 64 = some (.iconst 0, 65, 0, 0, 0, 0, 9) := cAM_reads_2 _ (List.mem_of_getElem? (i := 4) rfl)
theorem cM_reads_65 : zCode 186 65 = some (.iadd, 66, 0, 0, 0, 0, 9) := cAM_reads_2 _ (List.mem_of_getElem? (i := 5) rfl)
theorem cM_reads_66 : zCode 186 66 = some (.istore_n 2, 67, 0, 0, 0, 0, 9) := cAM_reads_2 _ (List.mem_of_getElem? (i := 6) rfl)
theorem cM_reads_67 : zCode 186 67 = some (.goto (-53), 70, 14, 0, 0, 0, 13) := cAM_reads_2 _ (List.mem_of_getElem? (i := 7) rfl)
theorem cM_reads_70 : zCode 186 70 = some (.iload_n 3, 71, 0, 0, 0, 0, 12) := cAM_reads_2 _ (List.mem_of_getElem? (i := 8) rfl)
theorem cM_reads_71 : zCode 186 71 = some (.ifCond .eq 11, 74, 82, 0, 0, 0, 4) := cAM_reads_2 _ (List.mem_of_getElem? (i := 9) rfl)
theorem cM_reads_74 : zCode 186 74 = some (.iload_n 2, 75, 0, 0, 0, 0, 4) := cAM_reads_2 _ (List.mem_of_getElem? (i := 10) rfl)
theorem cM_reads_75 : zCode 186 75 = some (.ifCond .ne 7, 78, 82, 0, 0, 0, 0) := cAM_reads_2 _ (List.mem_of_getElem? (i := 11) rfl)
theorem cM_reads_78 : zCode 186 78 = some (.iconst 1, 79, 0, 0, 0, 0, 0) := cAM_reads_2 _ (List.mem_of_getElem? (i := 12) rfl)
theorem cM_reads_79 : zCode 186 79 = some (.goto 4, 82, 83, 0, 0, 0, 0) := cAM_reads_2 _ (List.mem_of_getElem? (i := 13) rfl)
theorem cM_reads_82 : zCode 186 82 = some (.iconst 0, 83, 0, 0, 0, 0, 0) := cAM_reads_2 _ (List.mem_of_getElem? (i := 14) rfl)
theorem cM_reads_83 : zCode 186 83 = some (.ireturn, 84, 0, 3, 0, 0, 0) := cAM_reads_2 _ (List.mem_of_getElem? (i := 15) rfl)
theorem rM_reads_0 {a0 : Nat} {a1 : Int} {u2 u3 : zV} : zS 186 0 [zR a0, zI a1, u2, u3] [] sh pp mm Q ↔ zS 186 1 [zR a0, zI a1, zU, zU] [zR a0] sh pp mm Q := s_go cM_reads_0 cM_reads_1 rfl rfl
theorem rM_reads_1 {a0 s0 : Nat} {a1 : Int} {u2 u3 : zV} : zS 186 1 [zR a0, zI a1, u2, u3] [zR s0] sh pp mm Q ↔ zS 186 2 [zR a0, zU, zU, zU] [zI a1, zR s0] sh pp mm Q := s_go cM_reads_1 cM_reads_2 rfl rfl
theorem rM_reads_2 {a0 s1 : Nat} {s0 : Int} {u1 u2 u3 : zV} (hk : zKd sh s1 = 12) : zS 186 2 [zR a0, u1, u2, u3] [zI s0, zR s1] sh pp mm Q ↔ zS 186 5 [zR a0, zU, zU, zU] [] sh pp (zupd mm s1 7 s0) Q := s_go cM_reads_2 cM_reads_5 (if_pos ⟨hk, Or.inl rfl⟩) rfl
theorem rM_reads_5 {a0 : Nat} {u1 u2 u3 : zV} : zS 186 5 [zR a0, u1, u2, u3] [] sh pp mm Q ↔ zS 186 6 [zR a0, zU, zU, zU] [zI 0] sh pp mm Q := s_go cM_reads_5 cM_reads_6 rfl rfl
theorem rM_reads_6 {a0 : Nat} {s0 : Int} {u1 u2 u3 : zV} : zS 186 6 [zR a0, u1, u2, u3] [zI s0] sh pp mm Q ↔ zS 186 7 [zR a0, zU, zI s0, zU] [] sh pp mm Q := s_go cM_reads_6 cM_reads_7 rfl rfl
theorem rM_reads_7 {a0 : Nat} {a2 : Int} {u1 u3 : zV} : zS 186 7 [zR a0, u1, zI a2, u3] [] sh pp mm Q ↔ zS 186 8 [zR a0, zU, zI a2, zU] [zR a0] sh pp mm Q := s_go cM_reads_7 cM_reads_8 rfl rfl
theorem rM_reads_8 {a0 s0 : Nat} {a2 : Int} {u1 u3 : zV} : zS 186 8 [zR a0, u1, zI a2, u3] [zR s0] sh pp mm Q ↔ zS 186 9 [zR a0, zU, zI a2, zU] [zI 0, zR s0] sh pp mm Q := s_go cM_reads_8 cM_reads_9 rfl rfl
theorem rM_reads_9 {a0 s1 : Nat} {a2 s0 : Int} {u1 u3 : zV} (hk : zKd sh s1 = 12) : zS 186 9 [zR a0, u1, zI a2, u3] [zI s0, zR s1] sh pp mm Q ↔ zS 181 0 [zR s1, zI s0, zU, zU, zU, zU] [] sh pp mm (fun v sh pp mm => zS 186 12 [zR a0, zU, zI a2, zU] (zPush v []) sh pp mm Q) := s_call cM_reads_9 cM_reads_12 ((if_pos hk).trans rfl) rfl
theorem rM_reads_12 {a0 : Nat} {a2 : Int} {u1 u3 : zV} : zS 186 12 [zR a0, u1, zI a2, u3] [] sh pp mm Q ↔ zS 186 13 [zR a0, zU, zI a2, zU] [zI 1] sh pp mm Q := s_go cM_reads_12 cM_reads_13 rfl rfl
theorem rM_reads_13 {a0 : Nat} {a2 s0 : Int} {u1 u3 : zV} : zS 186 13 [zR a0, u1, zI a2, u3] [zI s0] sh pp mm Q ↔ zS 186 14 [zR a0, zU, zI a2, zI s0] [] sh pp mm Q := s_go cM_reads_13 cM_reads_14 rfl rfl
theorem rM_reads_14 {a0 : Nat} {a2 a3 : Int} {u1 : zV} : zS 186 14 [zR a0, u1, zI a2, zI a3] [] sh pp mm Q ↔ zS 186 15 [zR a0, zU, zI a2, zI a3] [zI a3] sh pp mm Q := s_go cM_reads_14 cM_reads_15 rfl rfl
theorem rM_reads_15 {a0 : Nat} {a2 a3 s0 : Int} {u1 : zV} : zS 186 15 [zR a0, u1, zI a2, zI a3] [zI s0] sh pp mm Q ↔ (s0 = 0 → zS 186 70 [zU, zU, zI a2, zI a3] [] sh pp mm Q) ∧ (¬ s0 = 0 → zS 186 18 [zR a0, zU, zI a2, zI a3] [] sh pp mm Q) := s_if cM_reads_15 cM_reads_70 cM_reads_18 rfl rfl rfl
theorem rM_reads_18 {a0 : Nat} {a2 a3 : Int} {u1 : zV} : zS 186 18 [zR a0, u1, zI a2, zI a3] [] sh pp mm Q ↔ zS 186 19 [zR a0, zU, zI a2, zI a3] [zR a0] sh pp mm Q := s_go cM_reads_18 cM_reads_19 rfl rfl
theorem rM_reads_19 {a0 s0 : Nat} {a2 a3 : Int} {u1 : zV} (hk : zKd sh s0 = 12) : zS 186 19 [zR a0, u1, zI a2, zI a3] [zR s0] sh pp mm Q ↔ zS 186 22 [zR a0, zU, zI a2, zI a3] [zI (mm s0 10)] sh pp mm Q := s_go cM_reads_19 cM_reads_22 (if_pos hk) rfl
theorem rM_reads_22 {a0 : Nat} {a2 a3 s0 : Int} {u1 : zV} : zS 186 22 [zR a0, u1, zI a2, zI a3] [zI s0] sh pp mm Q ↔ (s0 = 0 → zS 186 70 [zU, zU, zI a2, zI a3] [] sh pp mm Q) ∧ (¬ s0 = 0 → zS 186 25 [zR a0, zU, zI a2, zU] [] sh pp mm Q) := s_if cM_reads_22 cM_reads_70 cM_reads_25 rfl rfl rfl
theorem rM_reads_25 {a0 : Nat} {a2 : Int} {u1 u3 : zV} : zS 186 25 [zR a0, u1, zI a2, u3] [] sh pp mm Q ↔ zS 186 26 [zR a0, zU, zI a2, zU] [zR a0] sh pp mm Q := s_go cM_reads_25 cM_reads_26 rfl rfl
theorem rM_reads_26 {a0 s0 : Nat} {a2 : Int} {u1 u3 : zV} : zS 186 26 [zR a0, u1, zI a2, u3] [zR s0] sh pp mm Q ↔ zS 186 27 [zR a0, zU, zI a2, zU] [zI a2, zR s0] sh pp mm Q := s_go cM_reads_26 cM_reads_27 rfl rfl
theorem rM_reads_27 {a0 s1 : Nat} {a2 s0 : Int} {u1 u3 : zV} (hk : zKd sh s1 = 12) : zS 186 27 [zR a0, u1, zI a2, u3] [zI s0, zR s1] sh pp mm Q ↔ zS 185 0 [zR s1, zI s0] [] sh pp mm (fun v sh pp mm => zS 186 30 [zR a0, zU, zI a2, zU] (zPush v []) sh pp mm Q) := s_call cM_reads_27 cM_reads_30 ((if_pos hk).trans rfl) rfl
theorem rM_reads_30 {a0 : Nat} {a2 s0 : Int} {u1 u3 : zV} : zS 186 30 [zR a0, u1, zI a2, u3] [zI s0] sh pp mm Q ↔ zS 186 31 [zR a0, zU, zI a2, zI s0] [] sh pp mm Q := s_go cM_reads_30 cM_reads_31 rfl rfl
theorem rM_reads_31 {a0 : Nat} {a2 a3 : Int} {u1 : zV} : zS 186 31 [zR a0, u1, zI a2, zI a3] [] sh pp mm Q ↔ zS 186 32 [zR a0, zU, zU, zI a3] [zI a2] sh pp mm Q := s_go cM_reads_31 cM_reads_32 rfl rfl
theorem rM_reads_32 {a0 : Nat} {a3 s0 : Int} {u1 u2 : zV} : zS 186 32 [zR a0, u1, u2, zI a3] [zI s0] sh pp mm Q ↔ zS 186 33 [zR a0, zU, zU, zI a3] [zI a3, zI s0] sh pp mm Q := s_go cM_reads_32 cM_reads_33 rfl rfl
theorem rM_reads_33 {a0 : Nat} {a3 s0 s1 : Int} {u1 u2 : zV} : zS 186 33 [zR a0, u1, u2, zI a3] [zI s0, zI s1] sh pp mm Q ↔ (s0 = 0 → zS 186 36 [zR a0, zU, zU, zI a3] [zI s1] sh pp mm Q) ∧ (¬ s0 = 0 → zS 186 40 [zR a0, zU, zU, zI a3] [zI s1] sh pp mm Q) := s_ifn cM_reads_33 cM_reads_36 cM_reads_40 rfl rfl rfl
theorem rM_reads_36 {a0 : Nat} {a3 s0 : Int} {u1 u2 : zV} : zS 186 36 [zR a0, u1, u2, zI a3] [zI s0] sh pp mm Q ↔ zS 186 37 [zR a0, zU, zU, zI a3] [zI 0, zI s0] sh pp mm Q := s_go cM_reads_36 cM_reads_37 rfl rfl
theorem rM_reads_37 {a0 : Nat} {a3 s0 s1 : Int} {u1 u2 : zV} : zS 186 37 [zR a0, u1, u2, zI a3] [zI s0, zI s1] sh pp mm Q ↔ zS 186 65 [zR a0, zU, zU, zI a3] [zI s0, zI s1] sh pp mm Q := s_go cM_reads_37 cM_reads_65 rfl rfl
theorem rM_reads_40 {a0 : Nat} {a3 s0 : Int} {u1 u2 : zV} : zS 186 40 [zR a0, u1, u2, zI a3] [zI s0] sh pp mm Q ↔ zS 186 41 [zR a0, zU, zU, zI a3] [zR a0, zI s0] sh pp mm Q := s_go cM_reads_40 cM_reads_41 rfl rfl
theorem rM_reads_41 {a0 s0 : Nat} {a3 s1 : Int} {u1 u2 : zV} (hk : zKd sh s0 = 12) : zS 186 41 [zR a0, u1, u2, zI a3] [zR s0, zI s1] sh pp mm Q ↔ zS 186 44 [zR a0, zU, zU, zI a3] [zI (mm s0 12), zI s1] sh pp mm Q := s_go cM_reads_41 cM_reads_44 (if_pos hk) rfl
theorem rM_reads_44 {a0 : Nat} {a3 s0 s1 : Int} {u1 u2 : zV} : zS 186 44 [zR a0, u1, u2, zI a3] [zI s0, zI s1] sh pp mm Q ↔ zS 186 45 [zR a0, zU, zU, zI a3] [zI 2, zI s0, zI s1] sh pp mm Q := s_go cM_reads_44 cM_reads_45 rfl rfl
theorem rM_reads_45 {a0 : Nat} {a3 s0 s1 s2 : Int} {u1 u2 : zV} : zS 186 45 [zR a0, u1, u2, zI a3] [zI s0, zI s1, zI s2] sh pp mm Q ↔ (s1 = s0 → zS 186 48 [zR a0, zU, zU, zI a3] [zI s2] sh pp mm Q) ∧ (¬ s1 = s0 → zS 186 52 [zR a0, zU, zU, zI a3] [zI s2] sh pp mm Q) := s_ifn cM_reads_45 cM_reads_48 cM_reads_52 rfl rfl rfl
theorem rM_reads_48 {a0 : Nat} {a3 s0 : Int} {u1 u2 : zV} : zS 186 48 [zR a0, u1, u2, zI a3] [zI s0] sh pp mm Q ↔ zS 186 49 [zR a0, zU, zU, zI a3] [zI 1, zI s0] sh pp mm Q := s_go cM_reads_48 cM_reads_49 rfl rfl
theorem rM_reads_49 {a0 : Nat} {a3 s0 s1 : Int} {u1 u2 : zV} : zS 186 49 [zR a0, u1, u2, zI a3] [zI s0, zI s1] sh pp mm Q ↔ zS 186 65 [zR a0, zU, zU, zI a3] [zI s0, zI s1] sh pp mm Q := s_go cM_reads_49 cM_reads_65 rfl rfl
theorem rM_reads_52 {a0 : Nat} {a3 s0 : Int} {u1 u2 : zV} : zS 186 52 [zR a0, u1, u2, zI a3] [zI s0] sh pp mm Q ↔ zS 186 53 [zR a0, zU, zU, zI a3] [zR a0, zI s0] sh pp mm Q := s_go cM_reads_52 cM_reads_53 rfl rfl
theorem rM_reads_53 {a0 s0 : Nat} {a3 s1 : Int} {u1 u2 : zV} (hk : zKd sh s0 = 12) : zS 186 53 [zR a0, u1, u2, zI a3] [zR s0, zI s1] sh pp mm Q ↔ zS 186 56 [zR a0, zU, zU, zI a3] [zI (mm s0 12), zI s1] sh pp mm Q := s_go cM_reads_53 cM_reads_56 (if_pos hk) rfl
theorem rM_reads_56 {a0 : Nat} {a3 s0 s1 : Int} {u1 u2 : zV} : zS 186 56 [zR a0, u1, u2, zI a3] [zI s0, zI s1] sh pp mm Q ↔ zS 186 57 [zR a0, zU, zU, zI a3] [zI 3, zI s0, zI s1] sh pp mm Q := s_go cM_reads_56 cM_reads_57 rfl rfl
theorem rM_reads_57 {a0 : Nat} {a3 s0 s1 s2 : Int} {u1 u2 : zV} : zS 186 57 [zR a0, u1, u2, zI a3] [zI s0, zI s1, zI s2] sh pp mm Q ↔ (s1 = s0 → zS 186 60 [zR a0, zU, zU, zI a3] [zI s2] sh pp mm Q) ∧ (¬ s1 = s0 → zS 186 64 [zR a0, zU, zU, zI a3] [zI s2] sh pp mm Q) := s_ifn cM_reads_57 cM_reads_60 cM_reads_64 rfl rfl rfl
theorem rM_reads_60 {a0 : Nat} {a3 s0 : Int} {u1 u2 : zV} : zS 186 60 [zR a0, u1, u2, zI a3] [zI s0] sh pp mm Q ↔ zS 186 61 [zR a0, zU, zU, zI a3] [zI (-1), zI s0] sh pp mm Q := s_go cM_reads_60 cM_reads_61 rfl rfl
theorem rM_reads_61 {a0 : Nat} {a3 s0 s1 : Int} {u1 u2 : zV} : zS 186 61 [zR a0, u1, u2, zI a3] [zI s0, zI s1] sh pp mm Q ↔ zS 186 65 [zR a0, zU, zU, zI a3] [zI s0, zI s1] sh pp mm Q := s_go cM_reads_61 cM_reads_65 rfl rfl
theorem rM_reads_64 {a0 : Nat} {a3 s0 : Int} {u1 u2 : zV} : zS 186 64 [zR a0, u1, u2, zI a3] [zI s0] sh pp mm Q ↔ zS 186 65 [zR a0, zU, zU, zI a3] [zI 0, zI s0] sh pp mm Q := s_go cM_reads_64 cM_reads_65 rfl rfl
theorem rM_reads_65 {a0 : Nat} {a3 s0 s1 : Int} {u1 u2 : zV} : zS 186 65 [zR a0, u1, u2, zI a3] [zI s0, zI s1] sh pp mm Q ↔ zS 186 66 [zR a0, zU, zU, zI a3] [zI (zw32 (s1 + s0))] sh pp mm Q := s_go cM_reads_65 cM_reads_66 rfl rfl
theorem rM_reads_66 {a0 : Nat} {a3 s0 : Int} {u1 u2 : zV} : zS 186 66 [zR a0, u1, u2, zI a3] [zI s0] sh pp mm Q ↔ zS 186 67 [zR a0, zU, zI s0, zI a3] [] sh pp mm Q := s_go cM_reads_66 cM_reads_67 rfl rfl
theorem rM_reads_67 {a0 : Nat} {a2 a3 : Int} {u1 : zV} : zS 186 67 [zR a0, u1, zI a2, zI a3] [] sh pp mm Q ↔ zS 186 14 [zR a0, zU, zI a2, zI a3] [] sh pp mm Q := s_go cM_reads_67 cM_reads_14 rfl rfl
theorem rM_reads_70 {a2 a3 : Int} {u0 u1 : zV} : zS 186 70 [u0, u1, zI a2, zI a3] [] sh pp mm Q ↔ zS 186 71 [zU, zU, zI a2, zU] [zI a3] sh pp mm Q := s_go cM_reads_70 cM_reads_71 rfl rfl
theorem rM_reads_71 {a2 s0 : Int} {u0 u1 u3 : zV} : zS 186 71 [u0, u1, zI a2, u3] [zI s0] sh pp mm Q ↔ (s0 = 0 → zS 186 82 [zU, zU, zU, zU] [] sh pp mm Q) ∧ (¬ s0 = 0 → zS 186 74 [zU, zU, zI a2, zU] [] sh pp mm Q) := s_if cM_reads_71 cM_reads_82 cM_reads_74 rfl rfl rfl
theorem rM_reads_74 {a2 : Int} {u0 u1 u3 : zV} : zS 186 74 [u0, u1, zI a2, u3] [] sh pp mm Q ↔ zS 186 75 [zU, zU, zU, zU] [zI a2] sh pp mm Q := s_go cM_reads_74 cM_reads_75 rfl rfl
theorem rM_reads_75 {s0 : Int} {u0 u1 u2 u3 : zV} : zS 186 75 [u0, u1, u2, u3] [zI s0] sh pp mm Q ↔ (s0 = 0 → zS 186 78 [zU, zU, zU, zU] [] sh pp mm Q) ∧ (¬ s0 = 0 → zS 186 82 [zU, zU, zU, zU] [] sh pp mm Q) := s_ifn cM_reads_75 cM_reads_78 cM_reads_82 rfl rfl rfl
theorem rM_reads_78 {u0 u1 u2 u3 : zV} : zS 186 78 [u0, u1, u2, u3] [] sh pp mm Q ↔ zS 186 79 [zU, zU, zU, zU] [zI 1] sh pp mm Q := s_go cM_reads_78 cM_reads_79 rfl rfl
theorem rM_reads_79 {s0 : Int} {u0 u1 u2 u3 : zV} : zS 186 79 [u0, u1, u2, u3] [zI s0] sh pp mm Q ↔ zS 186 83 [zU, zU, zU, zU] [zI s0] sh pp mm Q := s_go cM_reads_79 cM_reads_83 rfl rfl
theorem rM_reads_82 {u0 u1 u2 u3 : zV} : zS 186 82 [u0, u1, u2, u3] [] sh pp mm Q ↔ zS 186 83 [zU, zU, zU, zU] [zI 0] sh pp mm Q := s_go cM_reads_82 cM_reads_83 rfl rfl
theorem rM_reads_83 {s0 : Int} {u0 u1 u2 u3 : zV} (hb : s0 = 0 ∨ s0 = 1) : zS 186 83 [u0, u1, u2, u3] [zI s0] sh pp mm Q ↔ Q (zI s0) sh pp mm := s_ret cM_reads_83 (if_pos (decide_eq_true hb))
theorem cAM_fault : ∀ q ∈ zT187, zCode 187 q.1 = some q.2 := zAll (mid := 187) rfl (by decide +kernel)
theorem cAM_fault_0 : ∀ q ∈ zT187_0, zCode 187 q.1 = some q.2 := fun q h => cAM_fault q (h)
theorem cM_fault_0 : zCode 187 0 = some (.iload_n 1, 1, 0, 0, 0, 0, 3) := cAM_fault_0 _ (List.mem_of_getElem? (i := 0) rfl)
theorem cM_fault_1 : zCode 187 1 = some (.invokestatic 147, 4, 173, 1, 1, 12, 3) := cAM_fault_0 _ (List.mem_of_getElem? (i := 1) rfl)
theorem cM_fault_4 : zCode 187 4 = some (.ifCond .ne 10, 7, 14, 0, 0, 0, 3) := cAM_fault_0 _ (List.mem_of_getElem? (i := 2) rfl)
theorem cM_fault_7 : zCode 187 7 = some (.aload_n 0, 8, 0, 0, 0, 0, 1) := cAM_fault_0 _ (List.mem_of_getElem? (i := 3) rfl)
theorem cM_fault_8 : zCode 187 8 = some (.bipush (-2), 10, 0, 0, 0, 0, 0) := cAM_fault_0 _ (List.mem_of_getElem? (i := 4) rfl)
theorem cM_fault_10 : zCode 187 10 = some (.invokevirtual 132, 13, 152, 1, 2, 12, 0) := cAM_fault_0 _ (List.mem_of_getElem? (i := 5) rfl)
theorem cM_fault_13 : zCode 187 13 = some (.ireturn, 14, 0, 0, 0, 0, 0) := cAM_fault_0 _ (List.mem_of_getElem? (i := 6) rfl)
theorem cM_fault_14 : zCode 187 14 = some (.aload_n 0, 15, 0, 0, 0, 0, 3) := cAM_fault_0 _ (List.mem_of_getElem? (i := 7) rfl)
theorem cM_fault_15 : zCode 187 15 = some (.iload_n 1, 16, 0, 0, 0, 0, 3) := cAM_fault_0 _ (List.mem_of_getElem? (i := 8) rfl)
theorem cM_fault_16 : zCode 187 16 = some (.invokevirtual 214, 19, 186, 1, 4, 12, 1) := cAM_fault_0 _ (List.mem_of_getElem? (i := 9) rfl)
theorem cM_fault_19 : zCode 187 19 = some (.ifCond .eq 7, 22, 26, 0, 0, 0, 1) := cAM_fault_0 _ (List.mem_of_getElem? (i := 10) rfl)
theorem cM_fault_22 : zCode 187 22 = some (.iconst (-1), 23, 0, 0, 0, 0, 0) := cAM_fault_0 _ (List.mem_of_getElem? (i := 11) rfl)
theorem cM_fault_23 : zCode 187 23 = some (.goto 7, 26, 30, 0, 0, 0, 0) := cAM_fault_0 _ (List.mem_of_getElem? (i := 12) rfl)
theorem cM_fault_26 : zCode 187 26 = some (.aload_n 0, 27, 0, 0, 0, 0, 1) := cAM_fault_0 _ (List.mem_of_getElem? (i := 13) rfl)
theorem cM_fault_27 : zCode 187 27 = some (.getfield 170, 30, 12, 8, 0, 1217, 0) := cAM_fault_0 _ (List.mem_of_getElem? (i := 14) rfl)
theorem cM_fault_30 : zCode 187 30 = some (.ireturn, 31, 0, 0, 0, 0, 0) := cAM_fault_0 _ (List.mem_of_getElem? (i := 15) rfl)
theorem rM_fault_0 {a0 : Nat} {a1 : Int} : zS 187 0 [zR a0, zI a1] [] sh pp mm Q ↔ zS 187 1 [zR a0, zI a1] [zI a1] sh pp mm Q := s_go cM_fault_0 cM_fault_1 rfl rfl
theorem rM_fault_1 {a0 : Nat} {a1 s0 : Int} : zS 187 1 [zR a0, zI a1] [zI s0] sh pp mm Q ↔ zS 173 0 [zI s0] [] sh pp mm (fun v sh pp mm => zS 187 4 [zR a0, zI a1] (zPush v []) sh pp mm Q) := s_call cM_fault_1 cM_fault_4 rfl rfl
theorem rM_fault_4 {a0 : Nat} {a1 s0 : Int} : zS 187 4 [zR a0, zI a1] [zI s0] sh pp mm Q ↔ (s0 = 0 → zS 187 7 [zR a0, zU] [] sh pp mm Q) ∧ (¬ s0 = 0 → zS 187 14 [zR a0, zI a1] [] sh pp mm Q) := s_ifn cM_fault_4 cM_fault_7 cM_fault_14 rfl rfl rfl
theorem rM_fault_7 {a0 : Nat} {u1 : zV} : zS 187 7 [zR a0, u1] [] sh pp mm Q ↔ zS 187 8 [zU, zU] [zR a0] sh pp mm Q := s_go cM_fault_7 cM_fault_8 rfl rfl
theorem rM_fault_8 {s0 : Nat} {u0 u1 : zV} : zS 187 8 [u0, u1] [zR s0] sh pp mm Q ↔ zS 187 10 [zU, zU] [zI (-2), zR s0] sh pp mm Q := s_go cM_fault_8 cM_fault_10 rfl rfl
theorem rM_fault_10 {s1 : Nat} {s0 : Int} {u0 u1 : zV} (hk : zKd sh s1 = 12) : zS 187 10 [u0, u1] [zI s0, zR s1] sh pp mm Q ↔ zS 152 0 [zR s1, zI s0] [] sh pp mm (fun v sh pp mm => zS 187 13 [zU, zU] (zPush v []) sh pp mm Q) := s_call cM_fault_10 cM_fault_13 ((if_pos hk).trans rfl) rfl
theorem rM_fault_13 {s0 : Int} {u0 u1 : zV} : zS 187 13 [u0, u1] [zI s0] sh pp mm Q ↔ Q (zI s0) sh pp mm := s_ret cM_fault_13 rfl
theorem rM_fault_14 {a0 : Nat} {a1 : Int} : zS 187 14 [zR a0, zI a1] [] sh pp mm Q ↔ zS 187 15 [zR a0, zI a1] [zR a0] sh pp mm Q := s_go cM_fault_14 cM_fault_15 rfl rfl
theorem rM_fault_15 {a0 s0 : Nat} {a1 : Int} : zS 187 15 [zR a0, zI a1] [zR s0] sh pp mm Q ↔ zS 187 16 [zR a0, zU] [zI a1, zR s0] sh pp mm Q := s_go cM_fault_15 cM_fault_16 rfl rfl
theorem rM_fault_16 {a0 s1 : Nat} {s0 : Int} {u1 : zV} (hk : zKd sh s1 = 12) : zS 187 16 [zR a0, u1] [zI s0, zR s1] sh pp mm Q ↔ zS 186 0 [zR s1, zI s0, zU, zU] [] sh pp mm (fun v sh pp mm => zS 187 19 [zR a0, zU] (zPush v []) sh pp mm Q) := s_call cM_fault_16 cM_fault_19 ((if_pos hk).trans rfl) rfl
theorem rM_fault_19 {a0 : Nat} {s0 : Int} {u1 : zV} : zS 187 19 [zR a0, u1] [zI s0] sh pp mm Q ↔ (s0 = 0 → zS 187 26 [zR a0, zU] [] sh pp mm Q) ∧ (¬ s0 = 0 → zS 187 22 [zU, zU] [] sh pp mm Q) := s_if cM_fault_19 cM_fault_26 cM_fault_22 rfl rfl rfl
theorem rM_fault_22 {u0 u1 : zV} : zS 187 22 [u0, u1] [] sh pp mm Q ↔ zS 187 23 [zU, zU] [zI (-1)] sh pp mm Q := s_go cM_fault_22 cM_fault_23 rfl rfl
theorem rM_fault_23 {s0 : Int} {u0 u1 : zV} : zS 187 23 [u0, u1] [zI s0] sh pp mm Q ↔ zS 187 30 [zU, zU] [zI s0] sh pp mm Q := s_go cM_fault_23 cM_fault_30 rfl rfl
theorem rM_fault_26 {a0 : Nat} {u1 : zV} : zS 187 26 [zR a0, u1] [] sh pp mm Q ↔ zS 187 27 [zU, zU] [zR a0] sh pp mm Q := s_go cM_fault_26 cM_fault_27 rfl rfl
theorem rM_fault_27 {s0 : Nat} {u0 u1 : zV} (hk : zKd sh s0 = 12) : zS 187 27 [u0, u1] [zR s0] sh pp mm Q ↔ zS 187 30 [zU, zU] [zI (mm s0 8)] sh pp mm Q := s_go cM_fault_27 cM_fault_30 (if_pos hk) rfl
theorem rM_fault_30 {s0 : Int} {u0 u1 : zV} : zS 187 30 [u0, u1] [zI s0] sh pp mm Q ↔ Q (zI s0) sh pp mm := s_ret cM_fault_30 rfl
theorem cAM_place : ∀ q ∈ zT188, zCode 188 q.1 = some q.2 := zAll (mid := 188) rfl (by decide +kernel)
theorem cAM_place_0 : ∀ q ∈ zT188_0, zCode 188 q.1 = some q.2 := fun q h => cAM_place q (h)
theorem cM_place_0 : zCode 188 0 = some (.bipush 24, 2, 0, 0, 0, 0, 1) := cAM_place_0 _ (List.mem_of_getElem? (i := 0) rfl)
theorem cM_place_2 : zCode 188 2 = some (.aload_n 0, 3, 0, 0, 0, 0, 1) := cAM_place_0 _ (List.mem_of_getElem? (i := 1) rfl)
theorem cM_place_3 : zCode 188 3 = some (.getfield 33, 6, 12, 16, 2, 1225, 1) := cAM_place_0 _ (List.mem_of_getElem? (i := 2) rfl)
theorem cM_place_6 : zCode 188 6 = some (.iconst 1, 7, 0, 0, 0, 0, 1) := cAM_place_0 _ (List.mem_of_getElem? (i := 3) rfl)
theorem cM_place_7 : zCode 188 7 = some (.iaload, 8, 0, 0, 0, 0, 1) := cAM_place_0 _ (List.mem_of_getElem? (i := 4) rfl)
theorem cM_place_8 : zCode 188 8 = some (.imul, 9, 0, 0, 0, 0, 1) := cAM_place_0 _ (List.mem_of_getElem? (i := 5) rfl)
theorem cM_place_9 : zCode 188 9 = some (.aload_n 0, 10, 0, 0, 0, 0, 1) := cAM_place_0 _ (List.mem_of_getElem? (i := 6) rfl)
theorem cM_place_10 : zCode 188 10 = some (.getfield 33, 13, 12, 16, 2, 1225, 0) := cAM_place_0 _ (List.mem_of_getElem? (i := 7) rfl)
theorem cM_place_13 : zCode 188 13 = some (.iconst 0, 14, 0, 0, 0, 0, 0) := cAM_place_0 _ (List.mem_of_getElem? (i := 8) rfl)
theorem cM_place_14 : zCode 188 14 = some (.iaload, 15, 0, 0, 0, 0, 0) := cAM_place_0 _ (List.mem_of_getElem? (i := 9) rfl)
theorem cM_place_15 : zCode 188 15 = some (.iadd, 16, 0, 0, 0, 0, 0) := cAM_place_0 _ (List.mem_of_getElem? (i := 10) rfl)
theorem cM_place_16 : zCode 188 16 = some (.ireturn, 17, 0, 0, 0, 0, 0) := cAM_place_0 _ (List.mem_of_getElem? (i := 11) rfl)
theorem rM_place_0 {a0 : Nat} : zS 188 0 [zR a0] [] sh pp mm Q ↔ zS 188 2 [zR a0] [zI 24] sh pp mm Q := s_go cM_place_0 cM_place_2 rfl rfl
theorem rM_place_2 {a0 : Nat} {s0 : Int} : zS 188 2 [zR a0] [zI s0] sh pp mm Q ↔ zS 188 3 [zR a0] [zR a0, zI s0] sh pp mm Q := s_go cM_place_2 cM_place_3 rfl rfl
theorem rM_place_3 {a0 s0 : Nat} {s1 : Int} (hk : zKd sh s0 = 12) : zS 188 3 [zR a0] [zR s0, zI s1] sh pp mm Q ↔ zS 188 6 [zR a0] [zR (pp s0 16), zI s1] sh pp mm Q := s_go cM_place_3 cM_place_6 (if_pos hk) rfl
theorem rM_place_6 {a0 s0 : Nat} {s1 : Int} : zS 188 6 [zR a0] [zR s0, zI s1] sh pp mm Q ↔ zS 188 7 [zR a0] [zI 1, zR s0, zI s1] sh pp mm Q := s_go cM_place_6 cM_place_7 rfl rfl
theorem rM_place_7 {a0 s1 : Nat} {s0 s2 : Int} (hk : zKd sh s1 = 20 ∨ zKd sh s1 = 30) (h0 : 0 ≤ s0) (h1 : s0 < zLn sh s1) : zS 188 7 [zR a0] [zI s0, zR s1, zI s2] sh pp mm Q ↔ zS 188 8 [zR a0] [zI (mm s1 s0), zI s2] sh pp mm Q := s_go cM_place_7 cM_place_8 (if_pos ⟨hk, h0, h1⟩) rfl
theorem rM_place_8 {a0 : Nat} {s0 s1 : Int} : zS 188 8 [zR a0] [zI s0, zI s1] sh pp mm Q ↔ zS 188 9 [zR a0] [zI (zw32 (s1 * s0))] sh pp mm Q := s_go cM_place_8 cM_place_9 rfl rfl
theorem rM_place_9 {a0 : Nat} {s0 : Int} : zS 188 9 [zR a0] [zI s0] sh pp mm Q ↔ zS 188 10 [zU] [zR a0, zI s0] sh pp mm Q := s_go cM_place_9 cM_place_10 rfl rfl
theorem rM_place_10 {s0 : Nat} {s1 : Int} {u0 : zV} (hk : zKd sh s0 = 12) : zS 188 10 [u0] [zR s0, zI s1] sh pp mm Q ↔ zS 188 13 [zU] [zR (pp s0 16), zI s1] sh pp mm Q := s_go cM_place_10 cM_place_13 (if_pos hk) rfl
theorem rM_place_13 {s0 : Nat} {s1 : Int} {u0 : zV} : zS 188 13 [u0] [zR s0, zI s1] sh pp mm Q ↔ zS 188 14 [zU] [zI 0, zR s0, zI s1] sh pp mm Q := s_go cM_place_13 cM_place_14 rfl rfl
theorem rM_place_14 {s1 : Nat} {s0 s2 : Int} {u0 : zV} (hk : zKd sh s1 = 20 ∨ zKd sh s1 = 30) (h0 : 0 ≤ s0) (h1 : s0 < zLn sh s1) : zS 188 14 [u0] [zI s0, zR s1, zI s2] sh pp mm Q ↔ zS 188 15 [zU] [zI (mm s1 s0), zI s2] sh pp mm Q := s_go cM_place_14 cM_place_15 (if_pos ⟨hk, h0, h1⟩) rfl
theorem rM_place_15 {s0 s1 : Int} {u0 : zV} : zS 188 15 [u0] [zI s0, zI s1] sh pp mm Q ↔ zS 188 16 [zU] [zI (zw32 (s1 + s0))] sh pp mm Q := s_go cM_place_15 cM_place_16 rfl rfl
theorem rM_place_16 {s0 : Int} {u0 : zV} : zS 188 16 [u0] [zI s0] sh pp mm Q ↔ Q (zI s0) sh pp mm := s_ret cM_place_16 rfl
theorem cAM_click : ∀ q ∈ zT189, zCode 189 q.1 = some q.2 := zAll (mid := 189) rfl (by decide +kernel)
theorem cAM_click_0 : ∀ q ∈ zT189_0, zCode 189 q.1 = some q.2 := fun q h => cAM_click q (List.mem_append_left _ h)
theorem cAM_click_1 : ∀ q ∈ zT189_1, zCode 189 q.1 = some q.2 := fun q h => cAM_click q (List.mem_append_right _ (List.mem_append_left _ h))
theorem cAM_click_2 : ∀ q ∈ zT189_2, zCode 189 q.1 = some q.2 := fun q h => cAM_click q (List.mem_append_right _ (List.mem_append_right _ (List.mem_append_left _ h)))
theorem cAM_click_3 : ∀ q ∈ zT189_3, zCode 189 q.1 = some q.2 := fun q h => cAM_click q (List.mem_append_right _ (List.mem_append_right _ (List.mem_append_right _ (List.mem_append_left _ h))))
theorem cAM_click_4 : ∀ q ∈ zT189_4, zCode 189 q.1 = some q.2 := fun q h => cAM_click q (List.mem_append_right _ (List.mem_append_right _ (List.mem_append_right _ (List.mem_append_right _ (List.mem_append_left _ h)))))
theorem cAM_click_5 : ∀ q ∈ zT189_5, zCode 189 q.1 = some q.2 := fun q h => cAM_click q (List.mem_append_right _ (List.mem_append_right _ (List.mem_append_right _ (List.mem_append_right _ (List.mem_append_right _ h)))))
theorem cM_click_0 : zCode 189 0 = some (.aload_n 0, 1, 0, 0, 0, 0, 7) := cAM_click_0 _ (List.mem_of_getElem? (i := 0) rfl)
theorem cM_click_1 : zCode 189 1 = some (.dup, 2, 0, 0, 0, 0, 7) := cAM_click_0 _ (List.mem_of_getElem? (i := 1) rfl)
theorem cM_click_2 : zCode 189 2 = some (.getfield 217, 5, 12, 21, 0, 1230, 7) := cAM_click_0 _ (List.mem_of_getElem? (i := 2) rfl)
theorem cM_click_5 : zCode 189 5 = some (.iconst 1, 6, 0, 0, 0, 0, 7) := cAM_click_0 _ (List.mem_of_getElem? (i := 3) rfl)
theorem cM_click_6 : zCode 189 6 = some (.iadd, 7, 0, 0, 0, 0, 7) := cAM_click_0 _ (List.mem_of_getElem? (i := 4) rfl)
theorem cM_click_7 : zCode 189 7 = some (.putfield 217, 10, 12, 21, 0, 1230, 7) := cAM_click_0 _ (List.mem_of_getElem? (i := 5) rfl)
theorem cM_click_10 : zCode 189 10 = some (.aload_n 0, 11, 0, 0, 0, 0, 7) := cAM_click_0 _ (List.mem_of_getElem? (i := 6) rfl)
theorem cM_click_11 : zCode 189 11 = some (.dup, 12, 0, 0, 0, 0, 7) := cAM_click_0 _ (List.mem_of_getElem? (i := 7) rfl)
theorem cM_click_12 : zCode 189 12 = some (.getfield 220, 15, 12, 24, 0, 1233, 7) := cAM_click_0 _ (List.mem_of_getElem? (i := 8) rfl)
theorem cM_click_15 : zCode 189 15 = some (.aload_n 0, 16, 0, 0, 0, 0, 7) := cAM_click_0 _ (List.mem_of_getElem? (i := 9) rfl)
theorem cM_click_16 : zCode 189 16 = some (.getfield 36, 19, 12, 17, 2, 1226, 7) := cAM_click_0 _ (List.mem_of_getElem? (i := 10) rfl)
theorem cM_click_19 : zCode 189 19 = some (.iload_n 1, 20, 0, 0, 0, 0, 7) := cAM_click_0 _ (List.mem_of_getElem? (i := 11) rfl)
theorem cM_click_20 : zCode 189 20 = some (.iaload, 21, 0, 0, 0, 0, 7) := cAM_click_0 _ (List.mem_of_getElem? (i := 12) rfl)
theorem cM_click_21 : zCode 189 21 = some (.ifCond .eq 17, 24, 38, 0, 0, 0, 7) := cAM_click_0 _ (List.mem_of_getElem? (i := 13) rfl)
theorem cM_click_24 : zCode 189 24 = some (.aload_n 0, 25, 0, 0, 0, 0, 7) := cAM_click_0 _ (List.mem_of_getElem? (i := 14) rfl)
theorem cM_click_25 : zCode 189 25 = some (.getfield 36, 28, 12, 17, 2, 1226, 7) := cAM_click_0 _ (List.mem_of_getElem? (i := 15) rfl)
theorem cM_click_28 : zCode 189 28 = some (.iload_n 1, 29, 0, 0, 0, 0, 7) := cAM_click_1 _ (List.mem_of_getElem? (i := 0) rfl)
theorem cM_click_29 : zCode 189 29 = some (.iaload, 30, 0, 0, 0, 0, 7) := cAM_click_1 _ (List.mem_of_getElem? (i := 1) rfl)
theorem cM_click_30 : zCode 189 30 = some (.iload_n 2, 31, 0, 0, 0, 0, 7) := cAM_click_1 _ (List.mem_of_getElem? (i := 2) rfl)
theorem cM_click_31 : zCode 189 31 = some (.if_icmp .eq 7, 34, 38, 0, 0, 0, 7) := cAM_click_1 _ (List.mem_of_getElem? (i := 3) rfl)
theorem cM_click_34 : zCode 189 34 = some (.iconst 1, 35, 0, 0, 0, 0, 7) := cAM_click_1 _ (List.mem_of_getElem? (i := 4) rfl)
theorem cM_click_35 : zCode 189 35 = some (.goto 4, 38, 39, 0, 0, 0, 7) := cAM_click_1 _ (List.mem_of_getElem? (i := 5) rfl)
theorem cM_click_38 : zCode 189 38 = some (.iconst 0, 39, 0, 0, 0, 0, 7) := cAM_click_1 _ (List.mem_of_getElem? (i := 6) rfl)
theorem cM_click_39 : zCode 189 39 = some (.iadd, 40, 0, 0, 0, 0, 7) := cAM_click_1 _ (List.mem_of_getElem? (i := 7) rfl)
theorem cM_click_40 : zCode 189 40 = some (.putfield 220, 43, 12, 24, 0, 1233, 7) := cAM_click_1 _ (List.mem_of_getElem? (i := 8) rfl)
theorem cM_click_43 : zCode 189 43 = some (.aload_n 0, 44, 0, 0, 0, 0, 7) := cAM_click_1 _ (List.mem_of_getElem? (i := 9) rfl)
theorem cM_click_44 : zCode 189 44 = some (.getfield 36, 47, 12, 17, 2, 1226, 7) := cAM_click_1 _ (List.mem_of_getElem? (i := 10) rfl)
theorem cM_click_47 : zCode 189 47 = some (.iload_n 1, 48, 0, 0, 0, 0, 7) := cAM_click_1 _ (List.mem_of_getElem? (i := 11) rfl)
theorem cM_click_48 : zCode 189 48 = some (.iload_n 2, 49, 0, 0, 0, 0, 7) := cAM_click_1 _ (List.mem_of_getElem? (i := 12) rfl)
theorem cM_click_49 : zCode 189 49 = some (.iastore, 50, 0, 0, 0, 0, 7) := cAM_click_1 _ (List.mem_of_getElem? (i := 13) rfl)
theorem cM_click_50 : zCode 189 50 = some (.iload_n 2, 51, 0, 0, 0, 0, 7) := cAM_click_1 _ (List.mem_of_getElem? (i := 14) rfl)
theorem cM_click_51 : zCode 189 51 = some (.ifCond .le 19, 54, 70, 0, 0, 0, 7) := cAM_click_1 _ (List.mem_of_getElem? (i := 15) rfl)
theorem cM_click_54 : zCode 189 54 = some (.aload_n 0, 55, 0, 0, 0, 0, 7) := cAM_click_2 _ (List.mem_of_getElem? (i := 0) rfl)
theorem cM_click_55 : zCode 189 55 = some (.getfield 30, 58, 12, 15, 2, 1224, 7) := cAM_click_2 _ (List.mem_of_getElem? (i := 1) rfl)
theorem cM_click_58 : zCode 189 58 = some (.iload_n 1, 59, 0, 0, 0, 0, 7) := cAM_click_2 _ (List.mem_of_getElem? (i := 2) rfl)
theorem cM_click_59 : zCode 189 59 = some (.iaload, 60, 0, 0, 0, 0, 7) := cAM_click_2 _ (List.mem_of_getElem? (i := 3) rfl)
theorem cM_click_60 : zCode 189 60 = some (.aload_n 0, 61, 0, 0, 0, 0, 7) := cAM_click_2 _ (List.mem_of_getElem? (i := 4) rfl)
theorem cM_click_61 : zCode 189 61 = some (.iconst 0, 62, 0, 0, 0, 0, 7) := cAM_click_2 _ (List.mem_of_getElem? (i := 5) rfl)
theorem cM_click_62 : zCode 189 62 = some (.iload_n 1, 63, 0, 0, 0, 0, 7) := cAM_click_2 _ (List.mem_of_getElem? (i := 6) rfl)
theorem cM_click_63 : zCode 189 63 = some (.iadd, 64, 0, 0, 0, 0, 7) := cAM_click_2 _ (List.mem_of_getElem? (i := 7) rfl)
theorem cM_click_64 : zCode 189 64 = some (.invokevirtual 135, 67, 168, 1, 2, 12, 7) := cAM_click_2 _ (List.mem_of_getElem? (i := 8) rfl)
theorem cM_click_67 : zCode 189 67 = some (.if_icmp .lt 16, 70, 83, 0, 0, 0, 7) := cAM_click_2 _ (List.mem_of_getElem? (i := 9) rfl)
theorem cM_click_70 : zCode 189 70 = some (.iload_n 2, 71, 0, 0, 0, 0, 7) := cAM_click_2 _ (List.mem_of_getElem? (i := 10) rfl)
theorem cM_click_71 : zCode 189 71 = some (.ifCond .ge 33, 74, 104, 0, 0, 0, 7) := cAM_click_2 _ (List.mem_of_getElem? (i := 11) rfl)
theorem cM_click_74 : zCode 189 74 = some (.aload_n 0, 75, 0, 0, 0, 0, 7) := cAM_click_2 _ (List.mem_of_getElem? (i := 12) rfl)
theorem cM_click_75 : zCode 189 75 = some (.getfield 30, 78, 12, 15, 2, 1224, 7) := cAM_click_2 _ (List.mem_of_getElem? (i := 13) rfl)
theorem cM_click_78 : zCode 189 78 = some (.iload_n 1, 79, 0, 0, 0, 0, 7) := cAM_click_2 _ (List.mem_of_getElem? (i := 14) rfl)
theorem cM_click_79 : zCode 189 79 = some (.iaload, 80, 0, 0, 0, 0, 7) := cAM_click_2 _ (List.mem_of_getElem? (i := 15) rfl)
theorem cM_click_80 : zCode 189 80 = some (.ifCond .le 24, 83, 104, 0, 0, 0, 7) := cAM_click_3 _ (List.mem_of_getElem? (i := 0) rfl)
theorem cM_click_83 : zCode 189 83 = some (.aload_n 0, 84, 0, 0, 0, 0, 7) := cAM_click_3 _ (List.mem_of_getElem? (i := 1) rfl)
theorem cM_click_84 : zCode 189 84 = some (.getfield 30, 87, 12, 15, 2, 1224, 7) := cAM_click_3 _ (List.mem_of_getElem? (i := 2) rfl)
theorem cM_click_87 : zCode 189 87 = some (.iload_n 1, 88, 0, 0, 0, 0, 7) := cAM_click_3 _ (List.mem_of_getElem? (i := 3) rfl)
theorem cM_click_88 : zCode 189 88 = some (.dup2, 89, 0, 0, 0, 0, 5) := cAM_click_3 _ (List.mem_of_getElem? (i := 4) rfl)
theorem cM_click_89 : zCode 189 89 = some (.iaload, 90, 0, 0, 0, 0, 5) := cAM_click_3 _ (List.mem_of_getElem? (i := 5) rfl)
theorem cM_click_90 : zCode 189 90 = some (.iload_n 2, 91, 0, 0, 0, 0, 5) := cAM_click_3 _ (List.mem_of_getElem? (i := 6) rfl)
theorem cM_click_91 : zCode 189 91 = some (.iadd, 92, 0, 0, 0, 0, 1) := cAM_click_3 _ (List.mem_of_getElem? (i := 7) rfl)
theorem cM_click_92 : zCode 189 92 = some (.iastore, 93, 0, 0, 0, 0, 1) := cAM_click_3 _ (List.mem_of_getElem? (i := 8) rfl)
theorem cM_click_93 : zCode 189 93 = some (.aload_n 0, 94, 0, 0, 0, 0, 1) := cAM_click_3 _ (List.mem_of_getElem? (i := 9) rfl)
theorem cM_click_94 : zCode 189 94 = some (.dup, 95, 0, 0, 0, 0, 0) := cAM_click_3 _ (List.mem_of_getElem? (i := 10) rfl)
theorem cM_click_95 : zCode 189 95 = some (.getfield 223, 98, 12, 22, 0, 1231, 0) := cAM_click_3 _ (List.mem_of_getElem? (i := 11) rfl)
theorem cM_click_98 : zCode 189 98 = some (.iconst 1, 99, 0, 0, 0, 0, 0) := cAM_click_3 _ (List.mem_of_getElem? (i := 12) rfl)
theorem cM_click_99 : zCode 189 99 = some (.iadd, 100, 0, 0, 0, 0, 0) := cAM_click_3 _ (List.mem_of_getElem? (i := 13) rfl)
theorem cM_click_100 : zCode 189 100 = some (.putfield 223, 103, 12, 22, 0, 1231, 0) := cAM_click_3 _ (List.mem_of_getElem? (i := 14) rfl)
theorem cM_click_103 : zCode 189 103 = some (.return_, 104, 0, 0, 0, 0, 0) := cAM_click_3 _ (List.mem_of_getElem? (i := 15) rfl)
theorem cM_click_104 : zCode 189 104 = some (.aload_n 0, 105, 0, 0, 0, 0, 7) := cAM_click_4 _ (List.mem_of_getElem? (i := 0) rfl)
theorem cM_click_105 : zCode 189 105 = some (.getfield 33, 108, 12, 16, 2, 1225, 7) := cAM_click_4 _ (List.mem_of_getElem? (i := 1) rfl)
theorem cM_click_108 : zCode 189 108 = some (.iload_n 1, 109, 0, 0, 0, 0, 7) := cAM_click_4 _ (List.mem_of_getElem? (i := 2) rfl)
theorem cM_click_109 : zCode 189 109 = some (.iaload, 110, 0, 0, 0, 0, 7) := cAM_click_4 _ (List.mem_of_getElem? (i := 3) rfl)
theorem cM_click_110 : zCode 189 110 = some (.iload_n 2, 111, 0, 0, 0, 0, 7) := cAM_click_4 _ (List.mem_of_getElem? (i := 4) rfl)
theorem cM_click_111 : zCode 189 111 = some (.iadd, 112, 0, 0, 0, 0, 3) := cAM_click_4 _ (List.mem_of_getElem? (i := 5) rfl)
theorem cM_click_112 : zCode 189 112 = some (.istore_n 3, 113, 0, 0, 0, 0, 3) := cAM_click_4 _ (List.mem_of_getElem? (i := 6) rfl)
theorem cM_click_113 : zCode 189 113 = some (.iload_n 3, 114, 0, 0, 0, 0, 11) := cAM_click_4 _ (List.mem_of_getElem? (i := 7) rfl)
theorem cM_click_114 : zCode 189 114 = some (.i2l, 115, 0, 0, 0, 0, 11) := cAM_click_4 _ (List.mem_of_getElem? (i := 8) rfl)
theorem cM_click_115 : zCode 189 115 = some (.lconst 0, 116, 0, 0, 0, 0, 11) := cAM_click_4 _ (List.mem_of_getElem? (i := 9) rfl)
theorem cM_click_116 : zCode 189 116 = some (.iload_n 1, 117, 0, 0, 0, 0, 11) := cAM_click_4 _ (List.mem_of_getElem? (i := 10) rfl)
theorem cM_click_117 : zCode 189 117 = some (.ifCond .ne 9, 120, 126, 0, 0, 0, 11) := cAM_click_4 _ (List.mem_of_getElem? (i := 11) rfl)
theorem cM_click_120 : zCode 189 120 = some (.ldc2_w 140, 123, 0, 0, 1443, 23, 11) := cAM_click_4 _ (List.mem_of_getElem? (i := 12) rfl)
theorem cM_click_123 : zCode 189 123 = some (.goto 6, 126, 129, 0, 0, 0, 11) := cAM_click_4 _ (List.mem_of_getElem? (i := 13) rfl)
theorem cM_click_126 : zCode 189 126 = some (.ldc2_w 142, 129, 0, 0, 1444, 15, 11) := cAM_click_4 _ (List.mem_of_getElem? (i := 14) rfl)
theorem cM_click_129 : zCode 189 129 = some (.invokestatic 121, 132, 151, 3, 6, 12, 11) := cAM_click_4 _ (List.mem_of_getElem? (i := 15) rfl)
theorem cM_click_132 : zCode 189 132 = some (.ifCond .eq 13, 135, 145, 0, 0, 0, 11) := cAM_click_5 _ (List.mem_of_getElem? (i := 0) rfl)
theorem cM_click_135 : zCode 189 135 = some (.aload_n 0, 136, 0, 0, 0, 0, 11) := cAM_click_5 _ (List.mem_of_getElem? (i := 1) rfl)
theorem cM_click_136 : zCode 189 136 = some (.getfield 33, 139, 12, 16, 2, 1225, 10) := cAM_click_5 _ (List.mem_of_getElem? (i := 2) rfl)
theorem cM_click_139 : zCode 189 139 = some (.iload_n 1, 140, 0, 0, 0, 0, 10) := cAM_click_5 _ (List.mem_of_getElem? (i := 3) rfl)
theorem cM_click_140 : zCode 189 140 = some (.iload_n 3, 141, 0, 0, 0, 0, 8) := cAM_click_5 _ (List.mem_of_getElem? (i := 4) rfl)
theorem cM_click_141 : zCode 189 141 = some (.iastore, 142, 0, 0, 0, 0, 0) := cAM_click_5 _ (List.mem_of_getElem? (i := 5) rfl)
theorem cM_click_142 : zCode 189 142 = some (.goto 13, 145, 155, 0, 0, 0, 0) := cAM_click_5 _ (List.mem_of_getElem? (i := 6) rfl)
theorem cM_click_145 : zCode 189 145 = some (.aload_n 0, 146, 0, 0, 0, 0, 1) := cAM_click_5 _ (List.mem_of_getElem? (i := 7) rfl)
theorem cM_click_146 : zCode 189 146 = some (.dup, 147, 0, 0, 0, 0, 0) := cAM_click_5 _ (List.mem_of_getElem? (i := 8) rfl)
theorem cM_click_147 : zCode 189 147 = some (.getfield 226, 150, 12, 23, 0, 1232, 0) := cAM_click_5 _ (List.mem_of_getElem? (i := 9) rfl)
theorem cM_click_150 : zCode 189 150 = some (.iconst 1, 151, 0, 0, 0, 0, 0) := cAM_click_5 _ (List.mem_of_getElem? (i := 10) rfl)
theorem cM_click_151 : zCode 189 151 = some (.iadd, 152, 0, 0, 0, 0, 0) := cAM_click_5 _ (List.mem_of_getElem? (i := 11) rfl)
theorem cM_click_152 : zCode 189 152 = some (.putfield 226, 155, 12, 23, 0, 1232, 0) := cAM_click_5 _ (List.mem_of_getElem? (i := 12) rfl)
theorem cM_click_155 : zCode 189 155 = some (.return_, 156, 0, 0, 0, 0, 0) := cAM_click_5 _ (List.mem_of_getElem? (i := 13) rfl)
theorem rM_click_0 {a0 : Nat} {a1 a2 : Int} {u3 : zV} : zS 189 0 [zR a0, zI a1, zI a2, u3] [] sh pp mm Q ↔ zS 189 1 [zR a0, zI a1, zI a2, zU] [zR a0] sh pp mm Q := s_go cM_click_0 cM_click_1 rfl rfl
theorem rM_click_1 {a0 s0 : Nat} {a1 a2 : Int} {u3 : zV} : zS 189 1 [zR a0, zI a1, zI a2, u3] [zR s0] sh pp mm Q ↔ zS 189 2 [zR a0, zI a1, zI a2, zU] [zR s0, zR s0] sh pp mm Q := s_go cM_click_1 cM_click_2 rfl rfl
theorem rM_click_2 {a0 s0 s1 : Nat} {a1 a2 : Int} {u3 : zV} (hk : zKd sh s0 = 12) : zS 189 2 [zR a0, zI a1, zI a2, u3] [zR s0, zR s1] sh pp mm Q ↔ zS 189 5 [zR a0, zI a1, zI a2, zU] [zI (mm s0 21), zR s1] sh pp mm Q := s_go cM_click_2 cM_click_5 (if_pos hk) rfl
theorem rM_click_5 {a0 s1 : Nat} {a1 a2 s0 : Int} {u3 : zV} : zS 189 5 [zR a0, zI a1, zI a2, u3] [zI s0, zR s1] sh pp mm Q ↔ zS 189 6 [zR a0, zI a1, zI a2, zU] [zI 1, zI s0, zR s1] sh pp mm Q := s_go cM_click_5 cM_click_6 rfl rfl
theorem rM_click_6 {a0 s2 : Nat} {a1 a2 s0 s1 : Int} {u3 : zV} : zS 189 6 [zR a0, zI a1, zI a2, u3] [zI s0, zI s1, zR s2] sh pp mm Q ↔ zS 189 7 [zR a0, zI a1, zI a2, zU] [zI (zw32 (s1 + s0)), zR s2] sh pp mm Q := s_go cM_click_6 cM_click_7 rfl rfl
theorem rM_click_7 {a0 s1 : Nat} {a1 a2 s0 : Int} {u3 : zV} (hk : zKd sh s1 = 12) : zS 189 7 [zR a0, zI a1, zI a2, u3] [zI s0, zR s1] sh pp mm Q ↔ zS 189 10 [zR a0, zI a1, zI a2, zU] [] sh pp (zupd mm s1 21 s0) Q := s_go cM_click_7 cM_click_10 (if_pos ⟨hk, Or.inl rfl⟩) rfl
theorem rM_click_10 {a0 : Nat} {a1 a2 : Int} {u3 : zV} : zS 189 10 [zR a0, zI a1, zI a2, u3] [] sh pp mm Q ↔ zS 189 11 [zR a0, zI a1, zI a2, zU] [zR a0] sh pp mm Q := s_go cM_click_10 cM_click_11 rfl rfl
theorem rM_click_11 {a0 s0 : Nat} {a1 a2 : Int} {u3 : zV} : zS 189 11 [zR a0, zI a1, zI a2, u3] [zR s0] sh pp mm Q ↔ zS 189 12 [zR a0, zI a1, zI a2, zU] [zR s0, zR s0] sh pp mm Q := s_go cM_click_11 cM_click_12 rfl rfl
theorem rM_click_12 {a0 s0 s1 : Nat} {a1 a2 : Int} {u3 : zV} (hk : zKd sh s0 = 12) : zS 189 12 [zR a0, zI a1, zI a2, u3] [zR s0, zR s1] sh pp mm Q ↔ zS 189 15 [zR a0, zI a1, zI a2, zU] [zI (mm s0 24), zR s1] sh pp mm Q := s_go cM_click_12 cM_click_15 (if_pos hk) rfl
theorem rM_click_15 {a0 s1 : Nat} {a1 a2 s0 : Int} {u3 : zV} : zS 189 15 [zR a0, zI a1, zI a2, u3] [zI s0, zR s1] sh pp mm Q ↔ zS 189 16 [zR a0, zI a1, zI a2, zU] [zR a0, zI s0, zR s1] sh pp mm Q := s_go cM_click_15 cM_click_16 rfl rfl
theorem rM_click_16 {a0 s0 s2 : Nat} {a1 a2 s1 : Int} {u3 : zV} (hk : zKd sh s0 = 12) : zS 189 16 [zR a0, zI a1, zI a2, u3] [zR s0, zI s1, zR s2] sh pp mm Q ↔ zS 189 19 [zR a0, zI a1, zI a2, zU] [zR (pp s0 17), zI s1, zR s2] sh pp mm Q := s_go cM_click_16 cM_click_19 (if_pos hk) rfl
theorem rM_click_19 {a0 s0 s2 : Nat} {a1 a2 s1 : Int} {u3 : zV} : zS 189 19 [zR a0, zI a1, zI a2, u3] [zR s0, zI s1, zR s2] sh pp mm Q ↔ zS 189 20 [zR a0, zI a1, zI a2, zU] [zI a1, zR s0, zI s1, zR s2] sh pp mm Q := s_go cM_click_19 cM_click_20 rfl rfl
theorem rM_click_20 {a0 s1 s3 : Nat} {a1 a2 s0 s2 : Int} {u3 : zV} (hk : zKd sh s1 = 20 ∨ zKd sh s1 = 30) (h0 : 0 ≤ s0) (h1 : s0 < zLn sh s1) : zS 189 20 [zR a0, zI a1, zI a2, u3] [zI s0, zR s1, zI s2, zR s3] sh pp mm Q ↔ zS 189 21 [zR a0, zI a1, zI a2, zU] [zI (mm s1 s0), zI s2, zR s3] sh pp mm Q := s_go cM_click_20 cM_click_21 (if_pos ⟨hk, h0, h1⟩) rfl
theorem rM_click_21 {a0 s2 : Nat} {a1 a2 s0 s1 : Int} {u3 : zV} : zS 189 21 [zR a0, zI a1, zI a2, u3] [zI s0, zI s1, zR s2] sh pp mm Q ↔ (s0 = 0 → zS 189 38 [zR a0, zI a1, zI a2, zU] [zI s1, zR s2] sh pp mm Q) ∧ (¬ s0 = 0 → zS 189 24 [zR a0, zI a1, zI a2, zU] [zI s1, zR s2] sh pp mm Q) := s_if cM_click_21 cM_click_38 cM_click_24 rfl rfl rfl
theorem rM_click_24 {a0 s1 : Nat} {a1 a2 s0 : Int} {u3 : zV} : zS 189 24 [zR a0, zI a1, zI a2, u3] [zI s0, zR s1] sh pp mm Q ↔ zS 189 25 [zR a0, zI a1, zI a2, zU] [zR a0, zI s0, zR s1] sh pp mm Q := s_go cM_click_24 cM_click_25 rfl rfl
theorem rM_click_25 {a0 s0 s2 : Nat} {a1 a2 s1 : Int} {u3 : zV} (hk : zKd sh s0 = 12) : zS 189 25 [zR a0, zI a1, zI a2, u3] [zR s0, zI s1, zR s2] sh pp mm Q ↔ zS 189 28 [zR a0, zI a1, zI a2, zU] [zR (pp s0 17), zI s1, zR s2] sh pp mm Q := s_go cM_click_25 cM_click_28 (if_pos hk) rfl
theorem rM_click_28 {a0 s0 s2 : Nat} {a1 a2 s1 : Int} {u3 : zV} : zS 189 28 [zR a0, zI a1, zI a2, u3] [zR s0, zI s1, zR s2] sh pp mm Q ↔ zS 189 29 [zR a0, zI a1, zI a2, zU] [zI a1, zR s0, zI s1, zR s2] sh pp mm Q := s_go cM_click_28 cM_click_29 rfl rfl
theorem rM_click_29 {a0 s1 s3 : Nat} {a1 a2 s0 s2 : Int} {u3 : zV} (hk : zKd sh s1 = 20 ∨ zKd sh s1 = 30) (h0 : 0 ≤ s0) (h1 : s0 < zLn sh s1) : zS 189 29 [zR a0, zI a1, zI a2, u3] [zI s0, zR s1, zI s2, zR s3] sh pp mm Q ↔ zS 189 30 [zR a0, zI a1, zI a2, zU] [zI (mm s1 s0), zI s2, zR s3] sh pp mm Q := s_go cM_click_29 cM_click_30 (if_pos ⟨hk, h0, h1⟩) rfl
theorem rM_click_30 {a0 s2 : Nat} {a1 a2 s0 s1 : Int} {u3 : zV} : zS 189 30 [zR a0, zI a1, zI a2, u3] [zI s0, zI s1, zR s2] sh pp mm Q ↔ zS 189 31 [zR a0, zI a1, zI a2, zU] [zI a2, zI s0, zI s1, zR s2] sh pp mm Q := s_go cM_click_30 cM_click_31 rfl rfl
theorem rM_click_31 {a0 s3 : Nat} {a1 a2 s0 s1 s2 : Int} {u3 : zV} : zS 189 31 [zR a0, zI a1, zI a2, u3] [zI s0, zI s1, zI s2, zR s3] sh pp mm Q ↔ (s1 = s0 → zS 189 38 [zR a0, zI a1, zI a2, zU] [zI s2, zR s3] sh pp mm Q) ∧ (¬ s1 = s0 → zS 189 34 [zR a0, zI a1, zI a2, zU] [zI s2, zR s3] sh pp mm Q) := s_if cM_click_31 cM_click_38 cM_click_34 rfl rfl rfl
theorem rM_click_34 {a0 s1 : Nat} {a1 a2 s0 : Int} {u3 : zV} : zS 189 34 [zR a0, zI a1, zI a2, u3] [zI s0, zR s1] sh pp mm Q ↔ zS 189 35 [zR a0, zI a1, zI a2, zU] [zI 1, zI s0, zR s1] sh pp mm Q := s_go cM_click_34 cM_click_35 rfl rfl
theorem rM_click_35 {a0 s2 : Nat} {a1 a2 s0 s1 : Int} {u3 : zV} : zS 189 35 [zR a0, zI a1, zI a2, u3] [zI s0, zI s1, zR s2] sh pp mm Q ↔ zS 189 39 [zR a0, zI a1, zI a2, zU] [zI s0, zI s1, zR s2] sh pp mm Q := s_go cM_click_35 cM_click_39 rfl rfl
theorem rM_click_38 {a0 s1 : Nat} {a1 a2 s0 : Int} {u3 : zV} : zS 189 38 [zR a0, zI a1, zI a2, u3] [zI s0, zR s1] sh pp mm Q ↔ zS 189 39 [zR a0, zI a1, zI a2, zU] [zI 0, zI s0, zR s1] sh pp mm Q := s_go cM_click_38 cM_click_39 rfl rfl
theorem rM_click_39 {a0 s2 : Nat} {a1 a2 s0 s1 : Int} {u3 : zV} : zS 189 39 [zR a0, zI a1, zI a2, u3] [zI s0, zI s1, zR s2] sh pp mm Q ↔ zS 189 40 [zR a0, zI a1, zI a2, zU] [zI (zw32 (s1 + s0)), zR s2] sh pp mm Q := s_go cM_click_39 cM_click_40 rfl rfl
theorem rM_click_40 {a0 s1 : Nat} {a1 a2 s0 : Int} {u3 : zV} (hk : zKd sh s1 = 12) : zS 189 40 [zR a0, zI a1, zI a2, u3] [zI s0, zR s1] sh pp mm Q ↔ zS 189 43 [zR a0, zI a1, zI a2, zU] [] sh pp (zupd mm s1 24 s0) Q := s_go cM_click_40 cM_click_43 (if_pos ⟨hk, Or.inl rfl⟩) rfl
theorem rM_click_43 {a0 : Nat} {a1 a2 : Int} {u3 : zV} : zS 189 43 [zR a0, zI a1, zI a2, u3] [] sh pp mm Q ↔ zS 189 44 [zR a0, zI a1, zI a2, zU] [zR a0] sh pp mm Q := s_go cM_click_43 cM_click_44 rfl rfl
theorem rM_click_44 {a0 s0 : Nat} {a1 a2 : Int} {u3 : zV} (hk : zKd sh s0 = 12) : zS 189 44 [zR a0, zI a1, zI a2, u3] [zR s0] sh pp mm Q ↔ zS 189 47 [zR a0, zI a1, zI a2, zU] [zR (pp s0 17)] sh pp mm Q := s_go cM_click_44 cM_click_47 (if_pos hk) rfl
theorem rM_click_47 {a0 s0 : Nat} {a1 a2 : Int} {u3 : zV} : zS 189 47 [zR a0, zI a1, zI a2, u3] [zR s0] sh pp mm Q ↔ zS 189 48 [zR a0, zI a1, zI a2, zU] [zI a1, zR s0] sh pp mm Q := s_go cM_click_47 cM_click_48 rfl rfl
theorem rM_click_48 {a0 s1 : Nat} {a1 a2 s0 : Int} {u3 : zV} : zS 189 48 [zR a0, zI a1, zI a2, u3] [zI s0, zR s1] sh pp mm Q ↔ zS 189 49 [zR a0, zI a1, zI a2, zU] [zI a2, zI s0, zR s1] sh pp mm Q := s_go cM_click_48 cM_click_49 rfl rfl
theorem rM_click_49 {a0 s2 : Nat} {a1 a2 s0 s1 : Int} {u3 : zV} (hk : zKd sh s2 = 20) (h0 : 0 ≤ s1) (h1 : s1 < zLn sh s2) : zS 189 49 [zR a0, zI a1, zI a2, u3] [zI s0, zI s1, zR s2] sh pp mm Q ↔ zS 189 50 [zR a0, zI a1, zI a2, zU] [] sh pp (zupd mm s2 s1 s0) Q := s_go cM_click_49 cM_click_50 (if_pos ⟨hk, h0, h1, fun h => absurd h (by decide)⟩) rfl
theorem rM_click_50 {a0 : Nat} {a1 a2 : Int} {u3 : zV} : zS 189 50 [zR a0, zI a1, zI a2, u3] [] sh pp mm Q ↔ zS 189 51 [zR a0, zI a1, zI a2, zU] [zI a2] sh pp mm Q := s_go cM_click_50 cM_click_51 rfl rfl
theorem rM_click_51 {a0 : Nat} {a1 a2 s0 : Int} {u3 : zV} : zS 189 51 [zR a0, zI a1, zI a2, u3] [zI s0] sh pp mm Q ↔ (0 < s0 → zS 189 54 [zR a0, zI a1, zI a2, zU] [] sh pp mm Q) ∧ (¬ 0 < s0 → zS 189 70 [zR a0, zI a1, zI a2, zU] [] sh pp mm Q) := s_ifn cM_click_51 cM_click_54 cM_click_70 rfl rfl rfl
theorem rM_click_54 {a0 : Nat} {a1 a2 : Int} {u3 : zV} : zS 189 54 [zR a0, zI a1, zI a2, u3] [] sh pp mm Q ↔ zS 189 55 [zR a0, zI a1, zI a2, zU] [zR a0] sh pp mm Q := s_go cM_click_54 cM_click_55 rfl rfl
theorem rM_click_55 {a0 s0 : Nat} {a1 a2 : Int} {u3 : zV} (hk : zKd sh s0 = 12) : zS 189 55 [zR a0, zI a1, zI a2, u3] [zR s0] sh pp mm Q ↔ zS 189 58 [zR a0, zI a1, zI a2, zU] [zR (pp s0 15)] sh pp mm Q := s_go cM_click_55 cM_click_58 (if_pos hk) rfl
theorem rM_click_58 {a0 s0 : Nat} {a1 a2 : Int} {u3 : zV} : zS 189 58 [zR a0, zI a1, zI a2, u3] [zR s0] sh pp mm Q ↔ zS 189 59 [zR a0, zI a1, zI a2, zU] [zI a1, zR s0] sh pp mm Q := s_go cM_click_58 cM_click_59 rfl rfl
theorem rM_click_59 {a0 s1 : Nat} {a1 a2 s0 : Int} {u3 : zV} (hk : zKd sh s1 = 20 ∨ zKd sh s1 = 30) (h0 : 0 ≤ s0) (h1 : s0 < zLn sh s1) : zS 189 59 [zR a0, zI a1, zI a2, u3] [zI s0, zR s1] sh pp mm Q ↔ zS 189 60 [zR a0, zI a1, zI a2, zU] [zI (mm s1 s0)] sh pp mm Q := s_go cM_click_59 cM_click_60 (if_pos ⟨hk, h0, h1⟩) rfl
theorem rM_click_60 {a0 : Nat} {a1 a2 s0 : Int} {u3 : zV} : zS 189 60 [zR a0, zI a1, zI a2, u3] [zI s0] sh pp mm Q ↔ zS 189 61 [zR a0, zI a1, zI a2, zU] [zR a0, zI s0] sh pp mm Q := s_go cM_click_60 cM_click_61 rfl rfl
theorem rM_click_61 {a0 s0 : Nat} {a1 a2 s1 : Int} {u3 : zV} : zS 189 61 [zR a0, zI a1, zI a2, u3] [zR s0, zI s1] sh pp mm Q ↔ zS 189 62 [zR a0, zI a1, zI a2, zU] [zI 0, zR s0, zI s1] sh pp mm Q := s_go cM_click_61 cM_click_62 rfl rfl
theorem rM_click_62 {a0 s1 : Nat} {a1 a2 s0 s2 : Int} {u3 : zV} : zS 189 62 [zR a0, zI a1, zI a2, u3] [zI s0, zR s1, zI s2] sh pp mm Q ↔ zS 189 63 [zR a0, zI a1, zI a2, zU] [zI a1, zI s0, zR s1, zI s2] sh pp mm Q := s_go cM_click_62 cM_click_63 rfl rfl
theorem rM_click_63 {a0 s2 : Nat} {a1 a2 s0 s1 s3 : Int} {u3 : zV} : zS 189 63 [zR a0, zI a1, zI a2, u3] [zI s0, zI s1, zR s2, zI s3] sh pp mm Q ↔ zS 189 64 [zR a0, zI a1, zI a2, zU] [zI (zw32 (s1 + s0)), zR s2, zI s3] sh pp mm Q := s_go cM_click_63 cM_click_64 rfl rfl
theorem rM_click_64 {a0 s1 : Nat} {a1 a2 s0 s2 : Int} {u3 : zV} (hk : zKd sh s1 = 12) : zS 189 64 [zR a0, zI a1, zI a2, u3] [zI s0, zR s1, zI s2] sh pp mm Q ↔ zS 168 0 [zR s1, zI s0] [] sh pp mm (fun v sh pp mm => zS 189 67 [zR a0, zI a1, zI a2, zU] (zPush v [zI s2]) sh pp mm Q) := s_call cM_click_64 cM_click_67 ((if_pos hk).trans rfl) rfl
theorem rM_click_67 {a0 : Nat} {a1 a2 s0 s1 : Int} {u3 : zV} : zS 189 67 [zR a0, zI a1, zI a2, u3] [zI s0, zI s1] sh pp mm Q ↔ (s1 < s0 → zS 189 83 [zR a0, zI a1, zI a2, zU] [] sh pp mm Q) ∧ (¬ s1 < s0 → zS 189 70 [zR a0, zI a1, zI a2, zU] [] sh pp mm Q) := s_if cM_click_67 cM_click_83 cM_click_70 rfl rfl rfl
theorem rM_click_70 {a0 : Nat} {a1 a2 : Int} {u3 : zV} : zS 189 70 [zR a0, zI a1, zI a2, u3] [] sh pp mm Q ↔ zS 189 71 [zR a0, zI a1, zI a2, zU] [zI a2] sh pp mm Q := s_go cM_click_70 cM_click_71 rfl rfl
theorem rM_click_71 {a0 : Nat} {a1 a2 s0 : Int} {u3 : zV} : zS 189 71 [zR a0, zI a1, zI a2, u3] [zI s0] sh pp mm Q ↔ (s0 < 0 → zS 189 74 [zR a0, zI a1, zI a2, zU] [] sh pp mm Q) ∧ (¬ s0 < 0 → zS 189 104 [zR a0, zI a1, zI a2, zU] [] sh pp mm Q) := s_ifn cM_click_71 cM_click_74 cM_click_104 rfl rfl rfl
theorem rM_click_74 {a0 : Nat} {a1 a2 : Int} {u3 : zV} : zS 189 74 [zR a0, zI a1, zI a2, u3] [] sh pp mm Q ↔ zS 189 75 [zR a0, zI a1, zI a2, zU] [zR a0] sh pp mm Q := s_go cM_click_74 cM_click_75 rfl rfl
theorem rM_click_75 {a0 s0 : Nat} {a1 a2 : Int} {u3 : zV} (hk : zKd sh s0 = 12) : zS 189 75 [zR a0, zI a1, zI a2, u3] [zR s0] sh pp mm Q ↔ zS 189 78 [zR a0, zI a1, zI a2, zU] [zR (pp s0 15)] sh pp mm Q := s_go cM_click_75 cM_click_78 (if_pos hk) rfl
theorem rM_click_78 {a0 s0 : Nat} {a1 a2 : Int} {u3 : zV} : zS 189 78 [zR a0, zI a1, zI a2, u3] [zR s0] sh pp mm Q ↔ zS 189 79 [zR a0, zI a1, zI a2, zU] [zI a1, zR s0] sh pp mm Q := s_go cM_click_78 cM_click_79 rfl rfl
theorem rM_click_79 {a0 s1 : Nat} {a1 a2 s0 : Int} {u3 : zV} (hk : zKd sh s1 = 20 ∨ zKd sh s1 = 30) (h0 : 0 ≤ s0) (h1 : s0 < zLn sh s1) : zS 189 79 [zR a0, zI a1, zI a2, u3] [zI s0, zR s1] sh pp mm Q ↔ zS 189 80 [zR a0, zI a1, zI a2, zU] [zI (mm s1 s0)] sh pp mm Q := s_go cM_click_79 cM_click_80 (if_pos ⟨hk, h0, h1⟩) rfl
theorem rM_click_80 {a0 : Nat} {a1 a2 s0 : Int} {u3 : zV} : zS 189 80 [zR a0, zI a1, zI a2, u3] [zI s0] sh pp mm Q ↔ (0 < s0 → zS 189 83 [zR a0, zI a1, zI a2, zU] [] sh pp mm Q) ∧ (¬ 0 < s0 → zS 189 104 [zR a0, zI a1, zI a2, zU] [] sh pp mm Q) := s_ifn cM_click_80 cM_click_83 cM_click_104 rfl rfl rfl
theorem rM_click_83 {a0 : Nat} {a1 a2 : Int} {u3 : zV} : zS 189 83 [zR a0, zI a1, zI a2, u3] [] sh pp mm Q ↔ zS 189 84 [zR a0, zI a1, zI a2, zU] [zR a0] sh pp mm Q := s_go cM_click_83 cM_click_84 rfl rfl
theorem rM_click_84 {a0 s0 : Nat} {a1 a2 : Int} {u3 : zV} (hk : zKd sh s0 = 12) : zS 189 84 [zR a0, zI a1, zI a2, u3] [zR s0] sh pp mm Q ↔ zS 189 87 [zR a0, zI a1, zI a2, zU] [zR (pp s0 15)] sh pp mm Q := s_go cM_click_84 cM_click_87 (if_pos hk) rfl
theorem rM_click_87 {a0 s0 : Nat} {a1 a2 : Int} {u3 : zV} : zS 189 87 [zR a0, zI a1, zI a2, u3] [zR s0] sh pp mm Q ↔ zS 189 88 [zR a0, zU, zI a2, zU] [zI a1, zR s0] sh pp mm Q := s_go cM_click_87 cM_click_88 rfl rfl
theorem rM_click_88 {a0 s1 : Nat} {a2 s0 : Int} {u1 u3 : zV} : zS 189 88 [zR a0, u1, zI a2, u3] [zI s0, zR s1] sh pp mm Q ↔ zS 189 89 [zR a0, zU, zI a2, zU] [zI s0, zR s1, zI s0, zR s1] sh pp mm Q := s_go cM_click_88 cM_click_89 rfl rfl
theorem rM_click_89 {a0 s1 s3 : Nat} {a2 s0 s2 : Int} {u1 u3 : zV} (hk : zKd sh s1 = 20 ∨ zKd sh s1 = 30) (h0 : 0 ≤ s0) (h1 : s0 < zLn sh s1) : zS 189 89 [zR a0, u1, zI a2, u3] [zI s0, zR s1, zI s2, zR s3] sh pp mm Q ↔ zS 189 90 [zR a0, zU, zI a2, zU] [zI (mm s1 s0), zI s2, zR s3] sh pp mm Q := s_go cM_click_89 cM_click_90 (if_pos ⟨hk, h0, h1⟩) rfl
theorem rM_click_90 {a0 s2 : Nat} {a2 s0 s1 : Int} {u1 u3 : zV} : zS 189 90 [zR a0, u1, zI a2, u3] [zI s0, zI s1, zR s2] sh pp mm Q ↔ zS 189 91 [zR a0, zU, zU, zU] [zI a2, zI s0, zI s1, zR s2] sh pp mm Q := s_go cM_click_90 cM_click_91 rfl rfl
theorem rM_click_91 {a0 s3 : Nat} {s0 s1 s2 : Int} {u1 u2 u3 : zV} : zS 189 91 [zR a0, u1, u2, u3] [zI s0, zI s1, zI s2, zR s3] sh pp mm Q ↔ zS 189 92 [zR a0, zU, zU, zU] [zI (zw32 (s1 + s0)), zI s2, zR s3] sh pp mm Q := s_go cM_click_91 cM_click_92 rfl rfl
theorem rM_click_92 {a0 s2 : Nat} {s0 s1 : Int} {u1 u2 u3 : zV} (hk : zKd sh s2 = 20) (h0 : 0 ≤ s1) (h1 : s1 < zLn sh s2) : zS 189 92 [zR a0, u1, u2, u3] [zI s0, zI s1, zR s2] sh pp mm Q ↔ zS 189 93 [zR a0, zU, zU, zU] [] sh pp (zupd mm s2 s1 s0) Q := s_go cM_click_92 cM_click_93 (if_pos ⟨hk, h0, h1, fun h => absurd h (by decide)⟩) rfl
theorem rM_click_93 {a0 : Nat} {u1 u2 u3 : zV} : zS 189 93 [zR a0, u1, u2, u3] [] sh pp mm Q ↔ zS 189 94 [zU, zU, zU, zU] [zR a0] sh pp mm Q := s_go cM_click_93 cM_click_94 rfl rfl
theorem rM_click_94 {s0 : Nat} {u0 u1 u2 u3 : zV} : zS 189 94 [u0, u1, u2, u3] [zR s0] sh pp mm Q ↔ zS 189 95 [zU, zU, zU, zU] [zR s0, zR s0] sh pp mm Q := s_go cM_click_94 cM_click_95 rfl rfl
theorem rM_click_95 {s0 s1 : Nat} {u0 u1 u2 u3 : zV} (hk : zKd sh s0 = 12) : zS 189 95 [u0, u1, u2, u3] [zR s0, zR s1] sh pp mm Q ↔ zS 189 98 [zU, zU, zU, zU] [zI (mm s0 22), zR s1] sh pp mm Q := s_go cM_click_95 cM_click_98 (if_pos hk) rfl
theorem rM_click_98 {s1 : Nat} {s0 : Int} {u0 u1 u2 u3 : zV} : zS 189 98 [u0, u1, u2, u3] [zI s0, zR s1] sh pp mm Q ↔ zS 189 99 [zU, zU, zU, zU] [zI 1, zI s0, zR s1] sh pp mm Q := s_go cM_click_98 cM_click_99 rfl rfl
theorem rM_click_99 {s2 : Nat} {s0 s1 : Int} {u0 u1 u2 u3 : zV} : zS 189 99 [u0, u1, u2, u3] [zI s0, zI s1, zR s2] sh pp mm Q ↔ zS 189 100 [zU, zU, zU, zU] [zI (zw32 (s1 + s0)), zR s2] sh pp mm Q := s_go cM_click_99 cM_click_100 rfl rfl
theorem rM_click_100 {s1 : Nat} {s0 : Int} {u0 u1 u2 u3 : zV} (hk : zKd sh s1 = 12) : zS 189 100 [u0, u1, u2, u3] [zI s0, zR s1] sh pp mm Q ↔ zS 189 103 [zU, zU, zU, zU] [] sh pp (zupd mm s1 22 s0) Q := s_go cM_click_100 cM_click_103 (if_pos ⟨hk, Or.inl rfl⟩) rfl
theorem rM_click_103 {u0 u1 u2 u3 : zV} : zS 189 103 [u0, u1, u2, u3] [] sh pp mm Q ↔ Q zU sh pp mm := s_ret cM_click_103 rfl
theorem rM_click_104 {a0 : Nat} {a1 a2 : Int} {u3 : zV} : zS 189 104 [zR a0, zI a1, zI a2, u3] [] sh pp mm Q ↔ zS 189 105 [zR a0, zI a1, zI a2, zU] [zR a0] sh pp mm Q := s_go cM_click_104 cM_click_105 rfl rfl
theorem rM_click_105 {a0 s0 : Nat} {a1 a2 : Int} {u3 : zV} (hk : zKd sh s0 = 12) : zS 189 105 [zR a0, zI a1, zI a2, u3] [zR s0] sh pp mm Q ↔ zS 189 108 [zR a0, zI a1, zI a2, zU] [zR (pp s0 16)] sh pp mm Q := s_go cM_click_105 cM_click_108 (if_pos hk) rfl
theorem rM_click_108 {a0 s0 : Nat} {a1 a2 : Int} {u3 : zV} : zS 189 108 [zR a0, zI a1, zI a2, u3] [zR s0] sh pp mm Q ↔ zS 189 109 [zR a0, zI a1, zI a2, zU] [zI a1, zR s0] sh pp mm Q := s_go cM_click_108 cM_click_109 rfl rfl
theorem rM_click_109 {a0 s1 : Nat} {a1 a2 s0 : Int} {u3 : zV} (hk : zKd sh s1 = 20 ∨ zKd sh s1 = 30) (h0 : 0 ≤ s0) (h1 : s0 < zLn sh s1) : zS 189 109 [zR a0, zI a1, zI a2, u3] [zI s0, zR s1] sh pp mm Q ↔ zS 189 110 [zR a0, zI a1, zI a2, zU] [zI (mm s1 s0)] sh pp mm Q := s_go cM_click_109 cM_click_110 (if_pos ⟨hk, h0, h1⟩) rfl
theorem rM_click_110 {a0 : Nat} {a1 a2 s0 : Int} {u3 : zV} : zS 189 110 [zR a0, zI a1, zI a2, u3] [zI s0] sh pp mm Q ↔ zS 189 111 [zR a0, zI a1, zU, zU] [zI a2, zI s0] sh pp mm Q := s_go cM_click_110 cM_click_111 rfl rfl
theorem rM_click_111 {a0 : Nat} {a1 s0 s1 : Int} {u2 u3 : zV} : zS 189 111 [zR a0, zI a1, u2, u3] [zI s0, zI s1] sh pp mm Q ↔ zS 189 112 [zR a0, zI a1, zU, zU] [zI (zw32 (s1 + s0))] sh pp mm Q := s_go cM_click_111 cM_click_112 rfl rfl
theorem rM_click_112 {a0 : Nat} {a1 s0 : Int} {u2 u3 : zV} : zS 189 112 [zR a0, zI a1, u2, u3] [zI s0] sh pp mm Q ↔ zS 189 113 [zR a0, zI a1, zU, zI s0] [] sh pp mm Q := s_go cM_click_112 cM_click_113 rfl rfl
theorem rM_click_113 {a0 : Nat} {a1 a3 : Int} {u2 : zV} : zS 189 113 [zR a0, zI a1, u2, zI a3] [] sh pp mm Q ↔ zS 189 114 [zR a0, zI a1, zU, zI a3] [zI a3] sh pp mm Q := s_go cM_click_113 cM_click_114 rfl rfl
theorem rM_click_114 {a0 : Nat} {a1 a3 s0 : Int} {u2 : zV} : zS 189 114 [zR a0, zI a1, u2, zI a3] [zI s0] sh pp mm Q ↔ zS 189 115 [zR a0, zI a1, zU, zI a3] [zL s0] sh pp mm Q := s_go cM_click_114 cM_click_115 rfl rfl
theorem rM_click_115 {a0 : Nat} {a1 a3 s0 : Int} {u2 : zV} : zS 189 115 [zR a0, zI a1, u2, zI a3] [zL s0] sh pp mm Q ↔ zS 189 116 [zR a0, zI a1, zU, zI a3] [zL 0, zL s0] sh pp mm Q := s_go cM_click_115 cM_click_116 rfl rfl
theorem rM_click_116 {a0 : Nat} {a1 a3 s0 s1 : Int} {u2 : zV} : zS 189 116 [zR a0, zI a1, u2, zI a3] [zL s0, zL s1] sh pp mm Q ↔ zS 189 117 [zR a0, zI a1, zU, zI a3] [zI a1, zL s0, zL s1] sh pp mm Q := s_go cM_click_116 cM_click_117 rfl rfl
theorem rM_click_117 {a0 : Nat} {a1 a3 s0 s1 s2 : Int} {u2 : zV} : zS 189 117 [zR a0, zI a1, u2, zI a3] [zI s0, zL s1, zL s2] sh pp mm Q ↔ (s0 = 0 → zS 189 120 [zR a0, zI a1, zU, zI a3] [zL s1, zL s2] sh pp mm Q) ∧ (¬ s0 = 0 → zS 189 126 [zR a0, zI a1, zU, zI a3] [zL s1, zL s2] sh pp mm Q) := s_ifn cM_click_117 cM_click_120 cM_click_126 rfl rfl rfl
theorem rM_click_120 {a0 : Nat} {a1 a3 s0 s1 : Int} {u2 : zV} : zS 189 120 [zR a0, zI a1, u2, zI a3] [zL s0, zL s1] sh pp mm Q ↔ zS 189 123 [zR a0, zI a1, zU, zI a3] [zL 23, zL s0, zL s1] sh pp mm Q := s_go cM_click_120 cM_click_123 rfl rfl
theorem rM_click_123 {a0 : Nat} {a1 a3 s0 s1 s2 : Int} {u2 : zV} : zS 189 123 [zR a0, zI a1, u2, zI a3] [zL s0, zL s1, zL s2] sh pp mm Q ↔ zS 189 129 [zR a0, zI a1, zU, zI a3] [zL s0, zL s1, zL s2] sh pp mm Q := s_go cM_click_123 cM_click_129 rfl rfl
theorem rM_click_126 {a0 : Nat} {a1 a3 s0 s1 : Int} {u2 : zV} : zS 189 126 [zR a0, zI a1, u2, zI a3] [zL s0, zL s1] sh pp mm Q ↔ zS 189 129 [zR a0, zI a1, zU, zI a3] [zL 15, zL s0, zL s1] sh pp mm Q := s_go cM_click_126 cM_click_129 rfl rfl
theorem rM_click_129 {a0 : Nat} {a1 a3 s0 s1 s2 : Int} {u2 : zV} : zS 189 129 [zR a0, zI a1, u2, zI a3] [zL s0, zL s1, zL s2] sh pp mm Q ↔ zS 151 0 [zL s2, zU, zL s1, zU, zL s0, zU] [] sh pp mm (fun v sh pp mm => zS 189 132 [zR a0, zI a1, zU, zI a3] (zPush v []) sh pp mm Q) := s_call cM_click_129 cM_click_132 rfl rfl
theorem rM_click_132 {a0 : Nat} {a1 a3 s0 : Int} {u2 : zV} : zS 189 132 [zR a0, zI a1, u2, zI a3] [zI s0] sh pp mm Q ↔ (s0 = 0 → zS 189 145 [zR a0, zU, zU, zU] [] sh pp mm Q) ∧ (¬ s0 = 0 → zS 189 135 [zR a0, zI a1, zU, zI a3] [] sh pp mm Q) := s_if cM_click_132 cM_click_145 cM_click_135 rfl rfl rfl
theorem rM_click_135 {a0 : Nat} {a1 a3 : Int} {u2 : zV} : zS 189 135 [zR a0, zI a1, u2, zI a3] [] sh pp mm Q ↔ zS 189 136 [zU, zI a1, zU, zI a3] [zR a0] sh pp mm Q := s_go cM_click_135 cM_click_136 rfl rfl
theorem rM_click_136 {s0 : Nat} {a1 a3 : Int} {u0 u2 : zV} (hk : zKd sh s0 = 12) : zS 189 136 [u0, zI a1, u2, zI a3] [zR s0] sh pp mm Q ↔ zS 189 139 [zU, zI a1, zU, zI a3] [zR (pp s0 16)] sh pp mm Q := s_go cM_click_136 cM_click_139 (if_pos hk) rfl
theorem rM_click_139 {s0 : Nat} {a1 a3 : Int} {u0 u2 : zV} : zS 189 139 [u0, zI a1, u2, zI a3] [zR s0] sh pp mm Q ↔ zS 189 140 [zU, zU, zU, zI a3] [zI a1, zR s0] sh pp mm Q := s_go cM_click_139 cM_click_140 rfl rfl
theorem rM_click_140 {s1 : Nat} {a3 s0 : Int} {u0 u1 u2 : zV} : zS 189 140 [u0, u1, u2, zI a3] [zI s0, zR s1] sh pp mm Q ↔ zS 189 141 [zU, zU, zU, zU] [zI a3, zI s0, zR s1] sh pp mm Q := s_go cM_click_140 cM_click_141 rfl rfl
theorem rM_click_141 {s2 : Nat} {s0 s1 : Int} {u0 u1 u2 u3 : zV} (hk : zKd sh s2 = 20) (h0 : 0 ≤ s1) (h1 : s1 < zLn sh s2) : zS 189 141 [u0, u1, u2, u3] [zI s0, zI s1, zR s2] sh pp mm Q ↔ zS 189 142 [zU, zU, zU, zU] [] sh pp (zupd mm s2 s1 s0) Q := s_go cM_click_141 cM_click_142 (if_pos ⟨hk, h0, h1, fun h => absurd h (by decide)⟩) rfl
theorem rM_click_142 {u0 u1 u2 u3 : zV} : zS 189 142 [u0, u1, u2, u3] [] sh pp mm Q ↔ zS 189 155 [zU, zU, zU, zU] [] sh pp mm Q := s_go cM_click_142 cM_click_155 rfl rfl
theorem rM_click_145 {a0 : Nat} {u1 u2 u3 : zV} : zS 189 145 [zR a0, u1, u2, u3] [] sh pp mm Q ↔ zS 189 146 [zU, zU, zU, zU] [zR a0] sh pp mm Q := s_go cM_click_145 cM_click_146 rfl rfl
theorem rM_click_146 {s0 : Nat} {u0 u1 u2 u3 : zV} : zS 189 146 [u0, u1, u2, u3] [zR s0] sh pp mm Q ↔ zS 189 147 [zU, zU, zU, zU] [zR s0, zR s0] sh pp mm Q := s_go cM_click_146 cM_click_147 rfl rfl
theorem rM_click_147 {s0 s1 : Nat} {u0 u1 u2 u3 : zV} (hk : zKd sh s0 = 12) : zS 189 147 [u0, u1, u2, u3] [zR s0, zR s1] sh pp mm Q ↔ zS 189 150 [zU, zU, zU, zU] [zI (mm s0 23), zR s1] sh pp mm Q := s_go cM_click_147 cM_click_150 (if_pos hk) rfl
theorem rM_click_150 {s1 : Nat} {s0 : Int} {u0 u1 u2 u3 : zV} : zS 189 150 [u0, u1, u2, u3] [zI s0, zR s1] sh pp mm Q ↔ zS 189 151 [zU, zU, zU, zU] [zI 1, zI s0, zR s1] sh pp mm Q := s_go cM_click_150 cM_click_151 rfl rfl
theorem rM_click_151 {s2 : Nat} {s0 s1 : Int} {u0 u1 u2 u3 : zV} : zS 189 151 [u0, u1, u2, u3] [zI s0, zI s1, zR s2] sh pp mm Q ↔ zS 189 152 [zU, zU, zU, zU] [zI (zw32 (s1 + s0)), zR s2] sh pp mm Q := s_go cM_click_151 cM_click_152 rfl rfl
theorem rM_click_152 {s1 : Nat} {s0 : Int} {u0 u1 u2 u3 : zV} (hk : zKd sh s1 = 12) : zS 189 152 [u0, u1, u2, u3] [zI s0, zR s1] sh pp mm Q ↔ zS 189 155 [zU, zU, zU, zU] [] sh pp (zupd mm s1 23 s0) Q := s_go cM_click_152 cM_click_155 (if_pos ⟨hk, Or.inl rfl⟩) rfl
theorem rM_click_155 {u0 u1 u2 u3 : zV} : zS 189 155 [u0, u1, u2, u3] [] sh pp mm Q ↔ Q zU sh pp mm := s_ret cM_click_155 rfl
theorem cAM_size : ∀ q ∈ zT190, zCode 190 q.1 = some q.2 := zAll (mid := 190) rfl (by decide +kernel)
theorem cAM_size_0 : ∀ q ∈ zT190_0, zCode 190 q.1 = some q.2 := fun q h => cAM_size q (h)
theorem cM_size_0 : zCode 190 0 = some (.iload_n 0, 1, 0, 0, 0, 0, 1) := cAM_size_0 _ (List.mem_of_getElem? (i := 0) rfl)
theorem cM_size_1 : zCode 190 1 = some (.ifCond .ge 8, 4, 9, 0, 0, 0, 1) := cAM_size_0 _ (List.mem_of_getElem? (i := 1) rfl)
theorem cM_size_4 : zCode 190 4 = some (.iload_n 0, 5, 0, 0, 0, 0, 1) := cAM_size_0 _ (List.mem_of_getElem? (i := 2) rfl)
theorem cM_size_5 : zCode 190 5 = some (.ineg, 6, 0, 0, 0, 0, 0) := cAM_size_0 _ (List.mem_of_getElem? (i := 3) rfl)
theorem cM_size_6 : zCode 190 6 = some (.goto 4, 9, 10, 0, 0, 0, 0) := cAM_size_0 _ (List.mem_of_getElem? (i := 4) rfl)
theorem cM_size_9 : zCode 190 9 = some (.iload_n 0, 10, 0, 0, 0, 0, 1) := cAM_size_0 _ (List.mem_of_getElem? (i := 5) rfl)
theorem cM_size_10 : zCode 190 10 = some (.ireturn, 11, 0, 0, 0, 0, 0) := cAM_size_0 _ (List.mem_of_getElem? (i := 6) rfl)
theorem rM_size_0 {a0 : Int} : zS 190 0 [zI a0] [] sh pp mm Q ↔ zS 190 1 [zI a0] [zI a0] sh pp mm Q := s_go cM_size_0 cM_size_1 rfl rfl
theorem rM_size_1 {a0 s0 : Int} : zS 190 1 [zI a0] [zI s0] sh pp mm Q ↔ (s0 < 0 → zS 190 4 [zI a0] [] sh pp mm Q) ∧ (¬ s0 < 0 → zS 190 9 [zI a0] [] sh pp mm Q) := s_ifn cM_size_1 cM_size_4 cM_size_9 rfl rfl rfl
theorem rM_size_4 {a0 : Int} : zS 190 4 [zI a0] [] sh pp mm Q ↔ zS 190 5 [zU] [zI a0] sh pp mm Q := s_go cM_size_4 cM_size_5 rfl rfl
theorem rM_size_5 {s0 : Int} {u0 : zV} : zS 190 5 [u0] [zI s0] sh pp mm Q ↔ zS 190 6 [zU] [zI (zw32 (-s0))] sh pp mm Q := s_go cM_size_5 cM_size_6 rfl rfl
theorem rM_size_6 {s0 : Int} {u0 : zV} : zS 190 6 [u0] [zI s0] sh pp mm Q ↔ zS 190 10 [zU] [zI s0] sh pp mm Q := s_go cM_size_6 cM_size_10 rfl rfl
theorem rM_size_9 {a0 : Int} : zS 190 9 [zI a0] [] sh pp mm Q ↔ zS 190 10 [zU] [zI a0] sh pp mm Q := s_go cM_size_9 cM_size_10 rfl rfl
theorem rM_size_10 {s0 : Int} {u0 : zV} : zS 190 10 [u0] [zI s0] sh pp mm Q ↔ Q (zI s0) sh pp mm := s_ret cM_size_10 rfl
theorem cAM_sign1 : ∀ q ∈ zT191, zCode 191 q.1 = some q.2 := zAll (mid := 191) rfl (by decide +kernel)
theorem cAM_sign1_0 : ∀ q ∈ zT191_0, zCode 191 q.1 = some q.2 := fun q h => cAM_sign1 q (h)
theorem cM_sign1_0 : zCode 191 0 = some (.iload_n 0, 1, 0, 0, 0, 0, 1) := cAM_sign1_0 _ (List.mem_of_getElem? (i := 0) rfl)
theorem cM_sign1_1 : zCode 191 1 = some (.ifCond .ge 7, 4, 8, 0, 0, 0, 1) := cAM_sign1_0 _ (List.mem_of_getElem? (i := 1) rfl)
theorem cM_sign1_4 : zCode 191 4 = some (.iconst (-1), 5, 0, 0, 0, 0, 0) := cAM_sign1_0 _ (List.mem_of_getElem? (i := 2) rfl)
theorem cM_sign1_5 : zCode 191 5 = some (.goto 12, 8, 17, 0, 0, 0, 0) := cAM_sign1_0 _ (List.mem_of_getElem? (i := 3) rfl)
theorem cM_sign1_8 : zCode 191 8 = some (.iload_n 0, 9, 0, 0, 0, 0, 1) := cAM_sign1_0 _ (List.mem_of_getElem? (i := 4) rfl)
theorem cM_sign1_9 : zCode 191 9 = some (.ifCond .le 7, 12, 16, 0, 0, 0, 0) := cAM_sign1_0 _ (List.mem_of_getElem? (i := 5) rfl)
theorem cM_sign1_12 : zCode 191 12 = some (.iconst 1, 13, 0, 0, 0, 0, 0) := cAM_sign1_0 _ (List.mem_of_getElem? (i := 6) rfl)
theorem cM_sign1_13 : zCode 191 13 = some (.goto 4, 16, 17, 0, 0, 0, 0) := cAM_sign1_0 _ (List.mem_of_getElem? (i := 7) rfl)
theorem cM_sign1_16 : zCode 191 16 = some (.iconst 0, 17, 0, 0, 0, 0, 0) := cAM_sign1_0 _ (List.mem_of_getElem? (i := 8) rfl)
theorem cM_sign1_17 : zCode 191 17 = some (.ireturn, 18, 0, 0, 0, 0, 0) := cAM_sign1_0 _ (List.mem_of_getElem? (i := 9) rfl)
theorem rM_sign1_0 {a0 : Int} : zS 191 0 [zI a0] [] sh pp mm Q ↔ zS 191 1 [zI a0] [zI a0] sh pp mm Q := s_go cM_sign1_0 cM_sign1_1 rfl rfl
theorem rM_sign1_1 {a0 s0 : Int} : zS 191 1 [zI a0] [zI s0] sh pp mm Q ↔ (s0 < 0 → zS 191 4 [zU] [] sh pp mm Q) ∧ (¬ s0 < 0 → zS 191 8 [zI a0] [] sh pp mm Q) := s_ifn cM_sign1_1 cM_sign1_4 cM_sign1_8 rfl rfl rfl
theorem rM_sign1_4 {u0 : zV} : zS 191 4 [u0] [] sh pp mm Q ↔ zS 191 5 [zU] [zI (-1)] sh pp mm Q := s_go cM_sign1_4 cM_sign1_5 rfl rfl
theorem rM_sign1_5 {s0 : Int} {u0 : zV} : zS 191 5 [u0] [zI s0] sh pp mm Q ↔ zS 191 17 [zU] [zI s0] sh pp mm Q := s_go cM_sign1_5 cM_sign1_17 rfl rfl
theorem rM_sign1_8 {a0 : Int} : zS 191 8 [zI a0] [] sh pp mm Q ↔ zS 191 9 [zU] [zI a0] sh pp mm Q := s_go cM_sign1_8 cM_sign1_9 rfl rfl
theorem rM_sign1_9 {s0 : Int} {u0 : zV} : zS 191 9 [u0] [zI s0] sh pp mm Q ↔ (0 < s0 → zS 191 12 [zU] [] sh pp mm Q) ∧ (¬ 0 < s0 → zS 191 16 [zU] [] sh pp mm Q) := s_ifn cM_sign1_9 cM_sign1_12 cM_sign1_16 rfl rfl rfl
theorem rM_sign1_12 {u0 : zV} : zS 191 12 [u0] [] sh pp mm Q ↔ zS 191 13 [zU] [zI 1] sh pp mm Q := s_go cM_sign1_12 cM_sign1_13 rfl rfl
theorem rM_sign1_13 {s0 : Int} {u0 : zV} : zS 191 13 [u0] [zI s0] sh pp mm Q ↔ zS 191 17 [zU] [zI s0] sh pp mm Q := s_go cM_sign1_13 cM_sign1_17 rfl rfl
theorem rM_sign1_16 {u0 : zV} : zS 191 16 [u0] [] sh pp mm Q ↔ zS 191 17 [zU] [zI 0] sh pp mm Q := s_go cM_sign1_16 cM_sign1_17 rfl rfl
theorem rM_sign1_17 {s0 : Int} {u0 : zV} : zS 191 17 [u0] [zI s0] sh pp mm Q ↔ Q (zI s0) sh pp mm := s_ret cM_sign1_17 rfl
theorem cAM_greater : ∀ q ∈ zT192, zCode 192 q.1 = some q.2 := zAll (mid := 192) rfl (by decide +kernel)
theorem cAM_greater_0 : ∀ q ∈ zT192_0, zCode 192 q.1 = some q.2 := fun q h => cAM_greater q (h)
theorem cM_greater_0 : zCode 192 0 = some (.iload_n 0, 1, 0, 0, 0, 0, 3) := cAM_greater_0 _ (List.mem_of_getElem? (i := 0) rfl)
theorem cM_greater_1 : zCode 192 1 = some (.iload_n 1, 2, 0, 0, 0, 0, 3) := cAM_greater_0 _ (List.mem_of_getElem? (i := 1) rfl)
theorem cM_greater_2 : zCode 192 2 = some (.if_icmp .le 7, 5, 9, 0, 0, 0, 3) := cAM_greater_0 _ (List.mem_of_getElem? (i := 2) rfl)
theorem cM_greater_5 : zCode 192 5 = some (.iload_n 0, 6, 0, 0, 0, 0, 1) := cAM_greater_0 _ (List.mem_of_getElem? (i := 3) rfl)
theorem cM_greater_6 : zCode 192 6 = some (.goto 4, 9, 10, 0, 0, 0, 0) := cAM_greater_0 _ (List.mem_of_getElem? (i := 4) rfl)
theorem cM_greater_9 : zCode 192 9 = some (.iload_n 1, 10, 0, 0, 0, 0, 2) := cAM_greater_0 _ (List.mem_of_getElem? (i := 5) rfl)
theorem cM_greater_10 : zCode 192 10 = some (.ireturn, 11, 0, 0, 0, 0, 0) := cAM_greater_0 _ (List.mem_of_getElem? (i := 6) rfl)
theorem rM_greater_0 {a0 a1 : Int} : zS 192 0 [zI a0, zI a1] [] sh pp mm Q ↔ zS 192 1 [zI a0, zI a1] [zI a0] sh pp mm Q := s_go cM_greater_0 cM_greater_1 rfl rfl
theorem rM_greater_1 {a0 a1 s0 : Int} : zS 192 1 [zI a0, zI a1] [zI s0] sh pp mm Q ↔ zS 192 2 [zI a0, zI a1] [zI a1, zI s0] sh pp mm Q := s_go cM_greater_1 cM_greater_2 rfl rfl
theorem rM_greater_2 {a0 a1 s0 s1 : Int} : zS 192 2 [zI a0, zI a1] [zI s0, zI s1] sh pp mm Q ↔ (s0 < s1 → zS 192 5 [zI a0, zU] [] sh pp mm Q) ∧ (¬ s0 < s1 → zS 192 9 [zU, zI a1] [] sh pp mm Q) := s_ifn cM_greater_2 cM_greater_5 cM_greater_9 rfl rfl rfl
theorem rM_greater_5 {a0 : Int} {u1 : zV} : zS 192 5 [zI a0, u1] [] sh pp mm Q ↔ zS 192 6 [zU, zU] [zI a0] sh pp mm Q := s_go cM_greater_5 cM_greater_6 rfl rfl
theorem rM_greater_6 {s0 : Int} {u0 u1 : zV} : zS 192 6 [u0, u1] [zI s0] sh pp mm Q ↔ zS 192 10 [zU, zU] [zI s0] sh pp mm Q := s_go cM_greater_6 cM_greater_10 rfl rfl
theorem rM_greater_9 {a1 : Int} {u0 : zV} : zS 192 9 [u0, zI a1] [] sh pp mm Q ↔ zS 192 10 [zU, zU] [zI a1] sh pp mm Q := s_go cM_greater_9 cM_greater_10 rfl rfl
theorem rM_greater_10 {s0 : Int} {u0 u1 : zV} : zS 192 10 [u0, u1] [zI s0] sh pp mm Q ↔ Q (zI s0) sh pp mm := s_ret cM_greater_10 rfl
theorem cAM_turn : ∀ q ∈ zT193, zCode 193 q.1 = some q.2 := zAll (mid := 193) rfl (by decide +kernel)
theorem cAM_turn_0 : ∀ q ∈ zT193_0, zCode 193 q.1 = some q.2 := fun q h => cAM_turn q (List.mem_append_left _ h)
theorem cAM_turn_1 : ∀ q ∈ zT193_1, zCode 193 q.1 = some q.2 := fun q h => cAM_turn q (List.mem_append_right _ (List.mem_append_left _ h))
theorem cAM_turn_2 : ∀ q ∈ zT193_2, zCode 193 q.1 = some q.2 := fun q h => cAM_turn q (List.mem_append_right _ (List.mem_append_right _ (List.mem_append_left _ h)))
theorem cAM_turn_3 : ∀ q ∈ zT193_3, zCode 193 q.1 = some q.2 := fun q h => cAM_turn q (List.mem_append_right _ (List.mem_append_right _ (List.mem_append_right _ (List.mem_append_left _ h))))
theorem cAM_turn_4 : ∀ q ∈ zT193_4, zCode 193 q.1 = some q.2 := fun q h => cAM_turn q (List.mem_append_right _ (List.mem_append_right _ (List.mem_append_right _ (List.mem_append_right _ (List.mem_append_left _ h)))))
theorem cAM_turn_5 : ∀ q ∈ zT193_5, zCode 193 q.1 = some q.2 := fun q h => cAM_turn q (List.mem_append_right _ (List.mem_append_right _ (List.mem_append_right _ (List.mem_append_right _ (List.mem_append_right _ (List.mem_append_left _ h))))))
theorem cAM_turn_6 : ∀ q ∈ zT193_6, zCode 193 q.1 = some q.2 := fun q h => cAM_turn q (List.mem_append_right _ (List.mem_append_right _ (List.mem_append_right _ (List.mem_append_right _ (List.mem_append_right _ (List.mem_append_right _ (List.mem_append_left _ h)))))))
theorem cAM_turn_7 : ∀ q ∈ zT193_7, zCode 193 q.1 = some q.2 := fun q h => cAM_turn q (List.mem_append_right _ (List.mem_append_right _ (List.mem_append_right _ (List.mem_append_right _ (List.mem_append_right _ (List.mem_append_right _ (List.mem_append_right _ h)))))))
theorem cM_turn_0 : zCode 193 0 = some (.iload_n 1, 1, 0, 0, 0, 0, 7) := cAM_turn_0 _ (List.mem_of_getElem? (i := 0) rfl)
theorem cM_turn_1 : zCode 193 1 = some (.invokestatic 229, 4, 190, 1, 1, 12, 7) := cAM_turn_0 _ (List.mem_of_getElem? (i := 1) rfl)
theorem cM_turn_4 : zCode 193 4 = some (.iload_n 2, 5, 0, 0, 0, 0, 7) := cAM_turn_0 _ (List.mem_of_getElem? (i := 2) rfl)
theorem cM_turn_5 : zCode 193 5 = some (.invokestatic 229, 8, 190, 1, 1, 12, 7) := cAM_turn_0 _ (List.mem_of_getElem? (i := 3) rfl)
theorem cM_turn_8 : zCode 193 8 = some (.invokestatic 232, 11, 192, 2, 2, 12, 7) := cAM_turn_0 _ (List.mem_of_getElem? (i := 4) rfl)
theorem cM_turn_11 : zCode 193 11 = some (.istore_n 3, 12, 0, 0, 0, 0, 7) := cAM_turn_0 _ (List.mem_of_getElem? (i := 5) rfl)
theorem cM_turn_12 : zCode 193 12 = some (.aload_n 0, 13, 0, 0, 0, 0, 15) := cAM_turn_0 _ (List.mem_of_getElem? (i := 6) rfl)
theorem cM_turn_13 : zCode 193 13 = some (.getfield 220, 16, 12, 24, 0, 1233, 15) := cAM_turn_0 _ (List.mem_of_getElem? (i := 7) rfl)
theorem cM_turn_16 : zCode 193 16 = some (.istore 4, 18, 0, 0, 0, 0, 15) := cAM_turn_0 _ (List.mem_of_getElem? (i := 8) rfl)
theorem cM_turn_18 : zCode 193 18 = some (.iconst 1, 19, 0, 0, 0, 0, 31) := cAM_turn_0 _ (List.mem_of_getElem? (i := 9) rfl)
theorem cM_turn_19 : zCode 193 19 = some (.istore 5, 21, 0, 0, 0, 0, 31) := cAM_turn_0 _ (List.mem_of_getElem? (i := 10) rfl)
theorem cM_turn_21 : zCode 193 21 = some (.iload 5, 23, 0, 0, 0, 0, 63) := cAM_turn_0 _ (List.mem_of_getElem? (i := 11) rfl)
theorem cM_turn_23 : zCode 193 23 = some (.iload_n 3, 24, 0, 0, 0, 0, 63) := cAM_turn_0 _ (List.mem_of_getElem? (i := 12) rfl)
theorem cM_turn_24 : zCode 193 24 = some (.if_icmp .gt 106, 27, 130, 0, 0, 0, 63) := cAM_turn_0 _ (List.mem_of_getElem? (i := 13) rfl)
theorem cM_turn_27 : zCode 193 27 = some (.iload 5, 29, 0, 0, 0, 0, 63) := cAM_turn_0 _ (List.mem_of_getElem? (i := 14) rfl)
theorem cM_turn_29 : zCode 193 29 = some (.iload_n 1, 30, 0, 0, 0, 0, 63) := cAM_turn_0 _ (List.mem_of_getElem? (i := 15) rfl)
theorem cM_turn_30 : zCode 193 30 = some (.invokestatic 229, 33, 190, 1, 1, 12, 63) := cAM_turn_1 _ (List.mem_of_getElem? (i := 0) rfl)
theorem cM_turn_33 : zCode 193 33 = some (.imul, 34, 0, 0, 0, 0, 63) := cAM_turn_1 _ (List.mem_of_getElem? (i := 1) rfl)
theorem cM_turn_34 : zCode 193 34 = some (.iload_n 3, 35, 0, 0, 0, 0, 63) := cAM_turn_1 _ (List.mem_of_getElem? (i := 2) rfl)
theorem cM_turn_35 : zCode 193 35 = some (.idiv, 36, 0, 0, 0, 0, 63) := cAM_turn_1 _ (List.mem_of_getElem? (i := 3) rfl)
theorem cM_turn_36 : zCode 193 36 = some (.iload 5, 38, 0, 0, 0, 0, 63) := cAM_turn_1 _ (List.mem_of_getElem? (i := 4) rfl)
theorem cM_turn_38 : zCode 193 38 = some (.iconst 1, 39, 0, 0, 0, 0, 63) := cAM_turn_1 _ (List.mem_of_getElem? (i := 5) rfl)
theorem cM_turn_39 : zCode 193 39 = some (.isub, 40, 0, 0, 0, 0, 63) := cAM_turn_1 _ (List.mem_of_getElem? (i := 6) rfl)
theorem cM_turn_40 : zCode 193 40 = some (.iload_n 1, 41, 0, 0, 0, 0, 63) := cAM_turn_1 _ (List.mem_of_getElem? (i := 7) rfl)
theorem cM_turn_41 : zCode 193 41 = some (.invokestatic 229, 44, 190, 1, 1, 12, 63) := cAM_turn_1 _ (List.mem_of_getElem? (i := 8) rfl)
theorem cM_turn_44 : zCode 193 44 = some (.imul, 45, 0, 0, 0, 0, 63) := cAM_turn_1 _ (List.mem_of_getElem? (i := 9) rfl)
theorem cM_turn_45 : zCode 193 45 = some (.iload_n 3, 46, 0, 0, 0, 0, 63) := cAM_turn_1 _ (List.mem_of_getElem? (i := 10) rfl)
theorem cM_turn_46 : zCode 193 46 = some (.idiv, 47, 0, 0, 0, 0, 63) := cAM_turn_1 _ (List.mem_of_getElem? (i := 11) rfl)
theorem cM_turn_47 : zCode 193 47 = some (.if_icmp .le 12, 50, 59, 0, 0, 0, 63) := cAM_turn_1 _ (List.mem_of_getElem? (i := 12) rfl)
theorem cM_turn_50 : zCode 193 50 = some (.aload_n 0, 51, 0, 0, 0, 0, 63) := cAM_turn_1 _ (List.mem_of_getElem? (i := 13) rfl)
theorem cM_turn_51 : zCode 193 51 = some (.iconst 0, 52, 0, 0, 0, 0, 63) := cAM_turn_1 _ (List.mem_of_getElem? (i := 14) rfl)
theorem cM_turn_52 : zCode 193 52 = some (.iload_n 1, 53, 0, 0, 0, 0, 63) := cAM_turn_1 _ (List.mem_of_getElem? (i := 15) rfl)
theorem cM_turn_53 : zCode 193 53 = some (.invokestatic 235, 56, 191, 1, 1, 12, 63) := cAM_turn_2 _ (List.mem_of_getElem? (i := 0) rfl)
theorem cM_turn_56 : zCode 193 56 = some (.invokevirtual 238, 59, 189, 2, 4, 12, 63) := cAM_turn_2 _ (List.mem_of_getElem? (i := 1) rfl)
theorem cM_turn_59 : zCode 193 59 = some (.iload 5, 61, 0, 0, 0, 0, 63) := cAM_turn_2 _ (List.mem_of_getElem? (i := 2) rfl)
theorem cM_turn_61 : zCode 193 61 = some (.iload_n 2, 62, 0, 0, 0, 0, 63) := cAM_turn_2 _ (List.mem_of_getElem? (i := 3) rfl)
theorem cM_turn_62 : zCode 193 62 = some (.invokestatic 229, 65, 190, 1, 1, 12, 63) := cAM_turn_2 _ (List.mem_of_getElem? (i := 4) rfl)
theorem cM_turn_65 : zCode 193 65 = some (.imul, 66, 0, 0, 0, 0, 63) := cAM_turn_2 _ (List.mem_of_getElem? (i := 5) rfl)
theorem cM_turn_66 : zCode 193 66 = some (.iload_n 3, 67, 0, 0, 0, 0, 63) := cAM_turn_2 _ (List.mem_of_getElem? (i := 6) rfl)
theorem cM_turn_67 : zCode 193 67 = some (.idiv, 68, 0, 0, 0, 0, 63) := cAM_turn_2 _ (List.mem_of_getElem? (i := 7) rfl)
theorem cM_turn_68 : zCode 193 68 = some (.iload 5, 70, 0, 0, 0, 0, 63) := cAM_turn_2 _ (List.mem_of_getElem? (i := 8) rfl)
theorem cM_turn_70 : zCode 193 70 = some (.iconst 1, 71, 0, 0, 0, 0, 63) := cAM_turn_2 _ (List.mem_of_getElem? (i := 9) rfl)
theorem cM_turn_71 : zCode 193 71 = some (.isub, 72, 0, 0, 0, 0, 63) := cAM_turn_2 _ (List.mem_of_getElem? (i := 10) rfl)
theorem cM_turn_72 : zCode 193 72 = some (.iload_n 2, 73, 0, 0, 0, 0, 63) := cAM_turn_2 _ (List.mem_of_getElem? (i := 11) rfl)
theorem cM_turn_73 : zCode 193 73 = some (.invokestatic 229, 76, 190, 1, 1, 12, 63) := cAM_turn_2 _ (List.mem_of_getElem? (i := 12) rfl)
theorem cM_turn_76 : zCode 193 76 = some (.imul, 77, 0, 0, 0, 0, 63) := cAM_turn_2 _ (List.mem_of_getElem? (i := 13) rfl)
theorem cM_turn_77 : zCode 193 77 = some (.iload_n 3, 78, 0, 0, 0, 0, 63) := cAM_turn_2 _ (List.mem_of_getElem? (i := 14) rfl)
theorem cM_turn_78 : zCode 193 78 = some (.idiv, 79, 0, 0, 0, 0, 63) := cAM_turn_2 _ (List.mem_of_getElem? (i := 15) rfl)
theorem cM_turn_79 : zCode 193 79 = some (.if_icmp .le 12, 82, 91, 0, 0, 0, 63) := cAM_turn_3 _ (List.mem_of_getElem? (i := 0) rfl)
theorem cM_turn_82 : zCode 193 82 = some (.aload_n 0, 83, 0, 0, 0, 0, 63) := cAM_turn_3 _ (List.mem_of_getElem? (i := 1) rfl)
theorem cM_turn_83 : zCode 193 83 = some (.iconst 1, 84, 0, 0, 0, 0, 63) := cAM_turn_3 _ (List.mem_of_getElem? (i := 2) rfl)
theorem cM_turn_84 : zCode 193 84 = some (.iload_n 2, 85, 0, 0, 0, 0, 63) := cAM_turn_3 _ (List.mem_of_getElem? (i := 3) rfl)
theorem cM_turn_85 : zCode 193 85 = some (.invokestatic 235, 88, 191, 1, 1, 12, 63) := cAM_turn_3 _ (List.mem_of_getElem? (i := 4) rfl)
theorem cM_turn_88 : zCode 193 88 = some (.invokevirtual 238, 91, 189, 2, 4, 12, 63) := cAM_turn_3 _ (List.mem_of_getElem? (i := 5) rfl)
theorem cM_turn_91 : zCode 193 91 = some (.aload_n 0, 92, 0, 0, 0, 0, 63) := cAM_turn_3 _ (List.mem_of_getElem? (i := 6) rfl)
theorem cM_turn_92 : zCode 193 92 = some (.dup, 93, 0, 0, 0, 0, 63) := cAM_turn_3 _ (List.mem_of_getElem? (i := 7) rfl)
theorem cM_turn_93 : zCode 193 93 = some (.getfield 241, 96, 12, 20, 0, 1229, 63) := cAM_turn_3 _ (List.mem_of_getElem? (i := 8) rfl)
theorem cM_turn_96 : zCode 193 96 = some (.iconst 1, 97, 0, 0, 0, 0, 63) := cAM_turn_3 _ (List.mem_of_getElem? (i := 9) rfl)
theorem cM_turn_97 : zCode 193 97 = some (.iadd, 98, 0, 0, 0, 0, 63) := cAM_turn_3 _ (List.mem_of_getElem? (i := 10) rfl)
theorem cM_turn_98 : zCode 193 98 = some (.putfield 241, 101, 12, 20, 0, 1229, 63) := cAM_turn_3 _ (List.mem_of_getElem? (i := 11) rfl)
theorem cM_turn_101 : zCode 193 101 = some (.aload_n 0, 102, 0, 0, 0, 0, 63) := cAM_turn_3 _ (List.mem_of_getElem? (i := 12) rfl)
theorem cM_turn_102 : zCode 193 102 = some (.getfield 39, 105, 12, 18, 2, 1227, 63) := cAM_turn_3 _ (List.mem_of_getElem? (i := 13) rfl)
theorem cM_turn_105 : zCode 193 105 = some (.aload_n 0, 106, 0, 0, 0, 0, 63) := cAM_turn_3 _ (List.mem_of_getElem? (i := 14) rfl)
theorem cM_turn_106 : zCode 193 106 = some (.invokevirtual 244, 109, 188, 0, 1, 12, 63) := cAM_turn_3 _ (List.mem_of_getElem? (i := 15) rfl)
theorem cM_turn_109 : zCode 193 109 = some (.iconst 1, 110, 0, 0, 0, 0, 63) := cAM_turn_4 _ (List.mem_of_getElem? (i := 0) rfl)
theorem cM_turn_110 : zCode 193 110 = some (.bastore, 111, 0, 0, 0, 0, 63) := cAM_turn_4 _ (List.mem_of_getElem? (i := 1) rfl)
theorem cM_turn_111 : zCode 193 111 = some (.aload_n 0, 112, 0, 0, 0, 0, 63) := cAM_turn_4 _ (List.mem_of_getElem? (i := 2) rfl)
theorem cM_turn_112 : zCode 193 112 = some (.getfield 42, 115, 12, 19, 2, 1228, 63) := cAM_turn_4 _ (List.mem_of_getElem? (i := 3) rfl)
theorem cM_turn_115 : zCode 193 115 = some (.aload_n 0, 116, 0, 0, 0, 0, 63) := cAM_turn_4 _ (List.mem_of_getElem? (i := 4) rfl)
theorem cM_turn_116 : zCode 193 116 = some (.getfield 241, 119, 12, 20, 0, 1229, 63) := cAM_turn_4 _ (List.mem_of_getElem? (i := 5) rfl)
theorem cM_turn_119 : zCode 193 119 = some (.aload_n 0, 120, 0, 0, 0, 0, 63) := cAM_turn_4 _ (List.mem_of_getElem? (i := 6) rfl)
theorem cM_turn_120 : zCode 193 120 = some (.invokevirtual 244, 123, 188, 0, 1, 12, 63) := cAM_turn_4 _ (List.mem_of_getElem? (i := 7) rfl)
theorem cM_turn_123 : zCode 193 123 = some (.iastore, 124, 0, 0, 0, 0, 63) := cAM_turn_4 _ (List.mem_of_getElem? (i := 8) rfl)
theorem cM_turn_124 : zCode 193 124 = some (.iinc 5 1, 127, 0, 0, 0, 0, 63) := cAM_turn_4 _ (List.mem_of_getElem? (i := 9) rfl)
theorem cM_turn_127 : zCode 193 127 = some (.goto (-106), 130, 21, 0, 0, 0, 63) := cAM_turn_4 _ (List.mem_of_getElem? (i := 10) rfl)
theorem cM_turn_130 : zCode 193 130 = some (.aload_n 0, 131, 0, 0, 0, 0, 23) := cAM_turn_4 _ (List.mem_of_getElem? (i := 11) rfl)
theorem cM_turn_131 : zCode 193 131 = some (.dup, 132, 0, 0, 0, 0, 23) := cAM_turn_4 _ (List.mem_of_getElem? (i := 12) rfl)
theorem cM_turn_132 : zCode 193 132 = some (.getfield 247, 135, 12, 25, 0, 1234, 23) := cAM_turn_4 _ (List.mem_of_getElem? (i := 13) rfl)
theorem cM_turn_135 : zCode 193 135 = some (.iload_n 1, 136, 0, 0, 0, 0, 23) := cAM_turn_4 _ (List.mem_of_getElem? (i := 14) rfl)
theorem cM_turn_136 : zCode 193 136 = some (.invokestatic 229, 139, 190, 1, 1, 12, 21) := cAM_turn_4 _ (List.mem_of_getElem? (i := 15) rfl)
theorem cM_turn_139 : zCode 193 139 = some (.aload_n 0, 140, 0, 0, 0, 0, 21) := cAM_turn_5 _ (List.mem_of_getElem? (i := 0) rfl)
theorem cM_turn_140 : zCode 193 140 = some (.iconst 4, 141, 0, 0, 0, 0, 21) := cAM_turn_5 _ (List.mem_of_getElem? (i := 1) rfl)
theorem cM_turn_141 : zCode 193 141 = some (.invokevirtual 135, 144, 168, 1, 2, 12, 21) := cAM_turn_5 _ (List.mem_of_getElem? (i := 2) rfl)
theorem cM_turn_144 : zCode 193 144 = some (.iadd, 145, 0, 0, 0, 0, 21) := cAM_turn_5 _ (List.mem_of_getElem? (i := 3) rfl)
theorem cM_turn_145 : zCode 193 145 = some (.iconst 1, 146, 0, 0, 0, 0, 21) := cAM_turn_5 _ (List.mem_of_getElem? (i := 4) rfl)
theorem cM_turn_146 : zCode 193 146 = some (.isub, 147, 0, 0, 0, 0, 21) := cAM_turn_5 _ (List.mem_of_getElem? (i := 5) rfl)
theorem cM_turn_147 : zCode 193 147 = some (.aload_n 0, 148, 0, 0, 0, 0, 21) := cAM_turn_5 _ (List.mem_of_getElem? (i := 6) rfl)
theorem cM_turn_148 : zCode 193 148 = some (.iconst 4, 149, 0, 0, 0, 0, 21) := cAM_turn_5 _ (List.mem_of_getElem? (i := 7) rfl)
theorem cM_turn_149 : zCode 193 149 = some (.invokevirtual 135, 152, 168, 1, 2, 12, 21) := cAM_turn_5 _ (List.mem_of_getElem? (i := 8) rfl)
theorem cM_turn_152 : zCode 193 152 = some (.idiv, 153, 0, 0, 0, 0, 21) := cAM_turn_5 _ (List.mem_of_getElem? (i := 9) rfl)
theorem cM_turn_153 : zCode 193 153 = some (.iload_n 2, 154, 0, 0, 0, 0, 21) := cAM_turn_5 _ (List.mem_of_getElem? (i := 10) rfl)
theorem cM_turn_154 : zCode 193 154 = some (.invokestatic 229, 157, 190, 1, 1, 12, 17) := cAM_turn_5 _ (List.mem_of_getElem? (i := 11) rfl)
theorem cM_turn_157 : zCode 193 157 = some (.aload_n 0, 158, 0, 0, 0, 0, 17) := cAM_turn_5 _ (List.mem_of_getElem? (i := 12) rfl)
theorem cM_turn_158 : zCode 193 158 = some (.iconst 5, 159, 0, 0, 0, 0, 17) := cAM_turn_5 _ (List.mem_of_getElem? (i := 13) rfl)
theorem cM_turn_159 : zCode 193 159 = some (.invokevirtual 135, 162, 168, 1, 2, 12, 17) := cAM_turn_5 _ (List.mem_of_getElem? (i := 14) rfl)
theorem cM_turn_162 : zCode 193 162 = some (.iadd, 163, 0, 0, 0, 0, 17) := cAM_turn_5 _ (List.mem_of_getElem? (i := 15) rfl)
theorem cM_turn_163 : zCode 193 163 = some (.iconst 1, 164, 0, 0, 0, 0, 17) := cAM_turn_6 _ (List.mem_of_getElem? (i := 0) rfl)
theorem cM_turn_164 : zCode 193 164 = some (.isub, 165, 0, 0, 0, 0, 17) := cAM_turn_6 _ (List.mem_of_getElem? (i := 1) rfl)
theorem cM_turn_165 : zCode 193 165 = some (.aload_n 0, 166, 0, 0, 0, 0, 17) := cAM_turn_6 _ (List.mem_of_getElem? (i := 2) rfl)
theorem cM_turn_166 : zCode 193 166 = some (.iconst 5, 167, 0, 0, 0, 0, 17) := cAM_turn_6 _ (List.mem_of_getElem? (i := 3) rfl)
theorem cM_turn_167 : zCode 193 167 = some (.invokevirtual 135, 170, 168, 1, 2, 12, 17) := cAM_turn_6 _ (List.mem_of_getElem? (i := 4) rfl)
theorem cM_turn_170 : zCode 193 170 = some (.idiv, 171, 0, 0, 0, 0, 17) := cAM_turn_6 _ (List.mem_of_getElem? (i := 5) rfl)
theorem cM_turn_171 : zCode 193 171 = some (.invokestatic 232, 174, 192, 2, 2, 12, 17) := cAM_turn_6 _ (List.mem_of_getElem? (i := 6) rfl)
theorem cM_turn_174 : zCode 193 174 = some (.aload_n 0, 175, 0, 0, 0, 0, 17) := cAM_turn_6 _ (List.mem_of_getElem? (i := 7) rfl)
theorem cM_turn_175 : zCode 193 175 = some (.bipush 6, 177, 0, 0, 0, 0, 17) := cAM_turn_6 _ (List.mem_of_getElem? (i := 8) rfl)
theorem cM_turn_177 : zCode 193 177 = some (.invokevirtual 135, 180, 168, 1, 2, 12, 17) := cAM_turn_6 _ (List.mem_of_getElem? (i := 9) rfl)
theorem cM_turn_180 : zCode 193 180 = some (.aload_n 0, 181, 0, 0, 0, 0, 17) := cAM_turn_6 _ (List.mem_of_getElem? (i := 10) rfl)
theorem cM_turn_181 : zCode 193 181 = some (.getfield 220, 184, 12, 24, 0, 1233, 16) := cAM_turn_6 _ (List.mem_of_getElem? (i := 11) rfl)
theorem cM_turn_184 : zCode 193 184 = some (.iload 4, 186, 0, 0, 0, 0, 16) := cAM_turn_6 _ (List.mem_of_getElem? (i := 12) rfl)
theorem cM_turn_186 : zCode 193 186 = some (.isub, 187, 0, 0, 0, 0, 0) := cAM_turn_6 _ (List.mem_of_getElem? (i := 13) rfl)
theorem cM_turn_187 : zCode 193 187 = some (.imul, 188, 0, 0, 0, 0, 0) := cAM_turn_6 _ (List.mem_of_getElem? (i := 14) rfl)
theorem cM_turn_188 : zCode 193 188 = some (.iadd, 189, 0, 0, 0, 0, 0) := cAM_turn_6 _ (List.mem_of_getElem? (i := 15) rfl)
theorem cM_turn_189 : zCode 193 189 = some (.iadd, 190, 0, 0, 0, 0, 0) := cAM_turn_7 _ (List.mem_of_getElem? (i := 0) rfl)
theorem cM_turn_190 : zCode 193 190 = some (.putfield 247, 193, 12, 25, 0, 1234, 0) := cAM_turn_7 _ (List.mem_of_getElem? (i := 1) rfl)
theorem cM_turn_193 : zCode 193 193 = some (.return_, 194, 0, 0, 0, 0, 0) := cAM_turn_7 _ (List.mem_of_getElem? (i := 2) rfl)
theorem rM_turn_0 {a0 : Nat} {a1 a2 : Int} {u3 u4 u5 : zV} : zS 193 0 [zR a0, zI a1, zI a2, u3, u4, u5] [] sh pp mm Q ↔ zS 193 1 [zR a0, zI a1, zI a2, zU, zU, zU] [zI a1] sh pp mm Q := s_go cM_turn_0 cM_turn_1 rfl rfl
theorem rM_turn_1 {a0 : Nat} {a1 a2 s0 : Int} {u3 u4 u5 : zV} : zS 193 1 [zR a0, zI a1, zI a2, u3, u4, u5] [zI s0] sh pp mm Q ↔ zS 190 0 [zI s0] [] sh pp mm (fun v sh pp mm => zS 193 4 [zR a0, zI a1, zI a2, zU, zU, zU] (zPush v []) sh pp mm Q) := s_call cM_turn_1 cM_turn_4 rfl rfl
theorem rM_turn_4 {a0 : Nat} {a1 a2 s0 : Int} {u3 u4 u5 : zV} : zS 193 4 [zR a0, zI a1, zI a2, u3, u4, u5] [zI s0] sh pp mm Q ↔ zS 193 5 [zR a0, zI a1, zI a2, zU, zU, zU] [zI a2, zI s0] sh pp mm Q := s_go cM_turn_4 cM_turn_5 rfl rfl
theorem rM_turn_5 {a0 : Nat} {a1 a2 s0 s1 : Int} {u3 u4 u5 : zV} : zS 193 5 [zR a0, zI a1, zI a2, u3, u4, u5] [zI s0, zI s1] sh pp mm Q ↔ zS 190 0 [zI s0] [] sh pp mm (fun v sh pp mm => zS 193 8 [zR a0, zI a1, zI a2, zU, zU, zU] (zPush v [zI s1]) sh pp mm Q) := s_call cM_turn_5 cM_turn_8 rfl rfl
theorem rM_turn_8 {a0 : Nat} {a1 a2 s0 s1 : Int} {u3 u4 u5 : zV} : zS 193 8 [zR a0, zI a1, zI a2, u3, u4, u5] [zI s0, zI s1] sh pp mm Q ↔ zS 192 0 [zI s1, zI s0] [] sh pp mm (fun v sh pp mm => zS 193 11 [zR a0, zI a1, zI a2, zU, zU, zU] (zPush v []) sh pp mm Q) := s_call cM_turn_8 cM_turn_11 rfl rfl
theorem rM_turn_11 {a0 : Nat} {a1 a2 s0 : Int} {u3 u4 u5 : zV} : zS 193 11 [zR a0, zI a1, zI a2, u3, u4, u5] [zI s0] sh pp mm Q ↔ zS 193 12 [zR a0, zI a1, zI a2, zI s0, zU, zU] [] sh pp mm Q := s_go cM_turn_11 cM_turn_12 rfl rfl
theorem rM_turn_12 {a0 : Nat} {a1 a2 a3 : Int} {u4 u5 : zV} : zS 193 12 [zR a0, zI a1, zI a2, zI a3, u4, u5] [] sh pp mm Q ↔ zS 193 13 [zR a0, zI a1, zI a2, zI a3, zU, zU] [zR a0] sh pp mm Q := s_go cM_turn_12 cM_turn_13 rfl rfl
theorem rM_turn_13 {a0 s0 : Nat} {a1 a2 a3 : Int} {u4 u5 : zV} (hk : zKd sh s0 = 12) : zS 193 13 [zR a0, zI a1, zI a2, zI a3, u4, u5] [zR s0] sh pp mm Q ↔ zS 193 16 [zR a0, zI a1, zI a2, zI a3, zU, zU] [zI (mm s0 24)] sh pp mm Q := s_go cM_turn_13 cM_turn_16 (if_pos hk) rfl
theorem rM_turn_16 {a0 : Nat} {a1 a2 a3 s0 : Int} {u4 u5 : zV} : zS 193 16 [zR a0, zI a1, zI a2, zI a3, u4, u5] [zI s0] sh pp mm Q ↔ zS 193 18 [zR a0, zI a1, zI a2, zI a3, zI s0, zU] [] sh pp mm Q := s_go cM_turn_16 cM_turn_18 rfl rfl
theorem rM_turn_18 {a0 : Nat} {a1 a2 a3 a4 : Int} {u5 : zV} : zS 193 18 [zR a0, zI a1, zI a2, zI a3, zI a4, u5] [] sh pp mm Q ↔ zS 193 19 [zR a0, zI a1, zI a2, zI a3, zI a4, zU] [zI 1] sh pp mm Q := s_go cM_turn_18 cM_turn_19 rfl rfl
theorem rM_turn_19 {a0 : Nat} {a1 a2 a3 a4 s0 : Int} {u5 : zV} : zS 193 19 [zR a0, zI a1, zI a2, zI a3, zI a4, u5] [zI s0] sh pp mm Q ↔ zS 193 21 [zR a0, zI a1, zI a2, zI a3, zI a4, zI s0] [] sh pp mm Q := s_go cM_turn_19 cM_turn_21 rfl rfl
theorem rM_turn_21 {a0 : Nat} {a1 a2 a3 a4 a5 : Int} : zS 193 21 [zR a0, zI a1, zI a2, zI a3, zI a4, zI a5] [] sh pp mm Q ↔ zS 193 23 [zR a0, zI a1, zI a2, zI a3, zI a4, zI a5] [zI a5] sh pp mm Q := s_go cM_turn_21 cM_turn_23 rfl rfl
theorem rM_turn_23 {a0 : Nat} {a1 a2 a3 a4 a5 s0 : Int} : zS 193 23 [zR a0, zI a1, zI a2, zI a3, zI a4, zI a5] [zI s0] sh pp mm Q ↔ zS 193 24 [zR a0, zI a1, zI a2, zI a3, zI a4, zI a5] [zI a3, zI s0] sh pp mm Q := s_go cM_turn_23 cM_turn_24 rfl rfl
theorem rM_turn_24 {a0 : Nat} {a1 a2 a3 a4 a5 s0 s1 : Int} : zS 193 24 [zR a0, zI a1, zI a2, zI a3, zI a4, zI a5] [zI s0, zI s1] sh pp mm Q ↔ (s0 < s1 → zS 193 130 [zR a0, zI a1, zI a2, zU, zI a4, zU] [] sh pp mm Q) ∧ (¬ s0 < s1 → zS 193 27 [zR a0, zI a1, zI a2, zI a3, zI a4, zI a5] [] sh pp mm Q) := s_if cM_turn_24 cM_turn_130 cM_turn_27 rfl rfl rfl
theorem rM_turn_27 {a0 : Nat} {a1 a2 a3 a4 a5 : Int} : zS 193 27 [zR a0, zI a1, zI a2, zI a3, zI a4, zI a5] [] sh pp mm Q ↔ zS 193 29 [zR a0, zI a1, zI a2, zI a3, zI a4, zI a5] [zI a5] sh pp mm Q := s_go cM_turn_27 cM_turn_29 rfl rfl
theorem rM_turn_29 {a0 : Nat} {a1 a2 a3 a4 a5 s0 : Int} : zS 193 29 [zR a0, zI a1, zI a2, zI a3, zI a4, zI a5] [zI s0] sh pp mm Q ↔ zS 193 30 [zR a0, zI a1, zI a2, zI a3, zI a4, zI a5] [zI a1, zI s0] sh pp mm Q := s_go cM_turn_29 cM_turn_30 rfl rfl
theorem rM_turn_30 {a0 : Nat} {a1 a2 a3 a4 a5 s0 s1 : Int} : zS 193 30 [zR a0, zI a1, zI a2, zI a3, zI a4, zI a5] [zI s0, zI s1] sh pp mm Q ↔ zS 190 0 [zI s0] [] sh pp mm (fun v sh pp mm => zS 193 33 [zR a0, zI a1, zI a2, zI a3, zI a4, zI a5] (zPush v [zI s1]) sh pp mm Q) := s_call cM_turn_30 cM_turn_33 rfl rfl
theorem rM_turn_33 {a0 : Nat} {a1 a2 a3 a4 a5 s0 s1 : Int} : zS 193 33 [zR a0, zI a1, zI a2, zI a3, zI a4, zI a5] [zI s0, zI s1] sh pp mm Q ↔ zS 193 34 [zR a0, zI a1, zI a2, zI a3, zI a4, zI a5] [zI (zw32 (s1 * s0))] sh pp mm Q := s_go cM_turn_33 cM_turn_34 rfl rfl
theorem rM_turn_34 {a0 : Nat} {a1 a2 a3 a4 a5 s0 : Int} : zS 193 34 [zR a0, zI a1, zI a2, zI a3, zI a4, zI a5] [zI s0] sh pp mm Q ↔ zS 193 35 [zR a0, zI a1, zI a2, zI a3, zI a4, zI a5] [zI a3, zI s0] sh pp mm Q := s_go cM_turn_34 cM_turn_35 rfl rfl
theorem rM_turn_35 {a0 : Nat} {a1 a2 a3 a4 a5 s0 s1 : Int} (hz : s0 ≠ 0) : zS 193 35 [zR a0, zI a1, zI a2, zI a3, zI a4, zI a5] [zI s0, zI s1] sh pp mm Q ↔ zS 193 36 [zR a0, zI a1, zI a2, zI a3, zI a4, zI a5] [zI (zw32 (s1.tdiv s0))] sh pp mm Q := s_go cM_turn_35 cM_turn_36 (if_neg hz) rfl
theorem rM_turn_36 {a0 : Nat} {a1 a2 a3 a4 a5 s0 : Int} : zS 193 36 [zR a0, zI a1, zI a2, zI a3, zI a4, zI a5] [zI s0] sh pp mm Q ↔ zS 193 38 [zR a0, zI a1, zI a2, zI a3, zI a4, zI a5] [zI a5, zI s0] sh pp mm Q := s_go cM_turn_36 cM_turn_38 rfl rfl
theorem rM_turn_38 {a0 : Nat} {a1 a2 a3 a4 a5 s0 s1 : Int} : zS 193 38 [zR a0, zI a1, zI a2, zI a3, zI a4, zI a5] [zI s0, zI s1] sh pp mm Q ↔ zS 193 39 [zR a0, zI a1, zI a2, zI a3, zI a4, zI a5] [zI 1, zI s0, zI s1] sh pp mm Q := s_go cM_turn_38 cM_turn_39 rfl rfl
theorem rM_turn_39 {a0 : Nat} {a1 a2 a3 a4 a5 s0 s1 s2 : Int} : zS 193 39 [zR a0, zI a1, zI a2, zI a3, zI a4, zI a5] [zI s0, zI s1, zI s2] sh pp mm Q ↔ zS 193 40 [zR a0, zI a1, zI a2, zI a3, zI a4, zI a5] [zI (zw32 (s1 - s0)), zI s2] sh pp mm Q := s_go cM_turn_39 cM_turn_40 rfl rfl
theorem rM_turn_40 {a0 : Nat} {a1 a2 a3 a4 a5 s0 s1 : Int} : zS 193 40 [zR a0, zI a1, zI a2, zI a3, zI a4, zI a5] [zI s0, zI s1] sh pp mm Q ↔ zS 193 41 [zR a0, zI a1, zI a2, zI a3, zI a4, zI a5] [zI a1, zI s0, zI s1] sh pp mm Q := s_go cM_turn_40 cM_turn_41 rfl rfl
theorem rM_turn_41 {a0 : Nat} {a1 a2 a3 a4 a5 s0 s1 s2 : Int} : zS 193 41 [zR a0, zI a1, zI a2, zI a3, zI a4, zI a5] [zI s0, zI s1, zI s2] sh pp mm Q ↔ zS 190 0 [zI s0] [] sh pp mm (fun v sh pp mm => zS 193 44 [zR a0, zI a1, zI a2, zI a3, zI a4, zI a5] (zPush v [zI s1, zI s2]) sh pp mm Q) := s_call cM_turn_41 cM_turn_44 rfl rfl
theorem rM_turn_44 {a0 : Nat} {a1 a2 a3 a4 a5 s0 s1 s2 : Int} : zS 193 44 [zR a0, zI a1, zI a2, zI a3, zI a4, zI a5] [zI s0, zI s1, zI s2] sh pp mm Q ↔ zS 193 45 [zR a0, zI a1, zI a2, zI a3, zI a4, zI a5] [zI (zw32 (s1 * s0)), zI s2] sh pp mm Q := s_go cM_turn_44 cM_turn_45 rfl rfl
theorem rM_turn_45 {a0 : Nat} {a1 a2 a3 a4 a5 s0 s1 : Int} : zS 193 45 [zR a0, zI a1, zI a2, zI a3, zI a4, zI a5] [zI s0, zI s1] sh pp mm Q ↔ zS 193 46 [zR a0, zI a1, zI a2, zI a3, zI a4, zI a5] [zI a3, zI s0, zI s1] sh pp mm Q := s_go cM_turn_45 cM_turn_46 rfl rfl
theorem rM_turn_46 {a0 : Nat} {a1 a2 a3 a4 a5 s0 s1 s2 : Int} (hz : s0 ≠ 0) : zS 193 46 [zR a0, zI a1, zI a2, zI a3, zI a4, zI a5] [zI s0, zI s1, zI s2] sh pp mm Q ↔ zS 193 47 [zR a0, zI a1, zI a2, zI a3, zI a4, zI a5] [zI (zw32 (s1.tdiv s0)), zI s2] sh pp mm Q := s_go cM_turn_46 cM_turn_47 (if_neg hz) rfl
theorem rM_turn_47 {a0 : Nat} {a1 a2 a3 a4 a5 s0 s1 : Int} : zS 193 47 [zR a0, zI a1, zI a2, zI a3, zI a4, zI a5] [zI s0, zI s1] sh pp mm Q ↔ (s0 < s1 → zS 193 50 [zR a0, zI a1, zI a2, zI a3, zI a4, zI a5] [] sh pp mm Q) ∧ (¬ s0 < s1 → zS 193 59 [zR a0, zI a1, zI a2, zI a3, zI a4, zI a5] [] sh pp mm Q) := s_ifn cM_turn_47 cM_turn_50 cM_turn_59 rfl rfl rfl
theorem rM_turn_50 {a0 : Nat} {a1 a2 a3 a4 a5 : Int} : zS 193 50 [zR a0, zI a1, zI a2, zI a3, zI a4, zI a5] [] sh pp mm Q ↔ zS 193 51 [zR a0, zI a1, zI a2, zI a3, zI a4, zI a5] [zR a0] sh pp mm Q := s_go cM_turn_50 cM_turn_51 rfl rfl
theorem rM_turn_51 {a0 s0 : Nat} {a1 a2 a3 a4 a5 : Int} : zS 193 51 [zR a0, zI a1, zI a2, zI a3, zI a4, zI a5] [zR s0] sh pp mm Q ↔ zS 193 52 [zR a0, zI a1, zI a2, zI a3, zI a4, zI a5] [zI 0, zR s0] sh pp mm Q := s_go cM_turn_51 cM_turn_52 rfl rfl
theorem rM_turn_52 {a0 s1 : Nat} {a1 a2 a3 a4 a5 s0 : Int} : zS 193 52 [zR a0, zI a1, zI a2, zI a3, zI a4, zI a5] [zI s0, zR s1] sh pp mm Q ↔ zS 193 53 [zR a0, zI a1, zI a2, zI a3, zI a4, zI a5] [zI a1, zI s0, zR s1] sh pp mm Q := s_go cM_turn_52 cM_turn_53 rfl rfl
theorem rM_turn_53 {a0 s2 : Nat} {a1 a2 a3 a4 a5 s0 s1 : Int} : zS 193 53 [zR a0, zI a1, zI a2, zI a3, zI a4, zI a5] [zI s0, zI s1, zR s2] sh pp mm Q ↔ zS 191 0 [zI s0] [] sh pp mm (fun v sh pp mm => zS 193 56 [zR a0, zI a1, zI a2, zI a3, zI a4, zI a5] (zPush v [zI s1, zR s2]) sh pp mm Q) := s_call cM_turn_53 cM_turn_56 rfl rfl
theorem rM_turn_56 {a0 s2 : Nat} {a1 a2 a3 a4 a5 s0 s1 : Int} (hk : zKd sh s2 = 12) : zS 193 56 [zR a0, zI a1, zI a2, zI a3, zI a4, zI a5] [zI s0, zI s1, zR s2] sh pp mm Q ↔ zS 189 0 [zR s2, zI s1, zI s0, zU] [] sh pp mm (fun v sh pp mm => zS 193 59 [zR a0, zI a1, zI a2, zI a3, zI a4, zI a5] (zPush v []) sh pp mm Q) := s_call cM_turn_56 cM_turn_59 ((if_pos hk).trans rfl) rfl
theorem rM_turn_59 {a0 : Nat} {a1 a2 a3 a4 a5 : Int} : zS 193 59 [zR a0, zI a1, zI a2, zI a3, zI a4, zI a5] [] sh pp mm Q ↔ zS 193 61 [zR a0, zI a1, zI a2, zI a3, zI a4, zI a5] [zI a5] sh pp mm Q := s_go cM_turn_59 cM_turn_61 rfl rfl
theorem rM_turn_61 {a0 : Nat} {a1 a2 a3 a4 a5 s0 : Int} : zS 193 61 [zR a0, zI a1, zI a2, zI a3, zI a4, zI a5] [zI s0] sh pp mm Q ↔ zS 193 62 [zR a0, zI a1, zI a2, zI a3, zI a4, zI a5] [zI a2, zI s0] sh pp mm Q := s_go cM_turn_61 cM_turn_62 rfl rfl
theorem rM_turn_62 {a0 : Nat} {a1 a2 a3 a4 a5 s0 s1 : Int} : zS 193 62 [zR a0, zI a1, zI a2, zI a3, zI a4, zI a5] [zI s0, zI s1] sh pp mm Q ↔ zS 190 0 [zI s0] [] sh pp mm (fun v sh pp mm => zS 193 65 [zR a0, zI a1, zI a2, zI a3, zI a4, zI a5] (zPush v [zI s1]) sh pp mm Q) := s_call cM_turn_62 cM_turn_65 rfl rfl
theorem rM_turn_65 {a0 : Nat} {a1 a2 a3 a4 a5 s0 s1 : Int} : zS 193 65 [zR a0, zI a1, zI a2, zI a3, zI a4, zI a5] [zI s0, zI s1] sh pp mm Q ↔ zS 193 66 [zR a0, zI a1, zI a2, zI a3, zI a4, zI a5] [zI (zw32 (s1 * s0))] sh pp mm Q := s_go cM_turn_65 cM_turn_66 rfl rfl
theorem rM_turn_66 {a0 : Nat} {a1 a2 a3 a4 a5 s0 : Int} : zS 193 66 [zR a0, zI a1, zI a2, zI a3, zI a4, zI a5] [zI s0] sh pp mm Q ↔ zS 193 67 [zR a0, zI a1, zI a2, zI a3, zI a4, zI a5] [zI a3, zI s0] sh pp mm Q := s_go cM_turn_66 cM_turn_67 rfl rfl
theorem rM_turn_67 {a0 : Nat} {a1 a2 a3 a4 a5 s0 s1 : Int} (hz : s0 ≠ 0) : zS 193 67 [zR a0, zI a1, zI a2, zI a3, zI a4, zI a5] [zI s0, zI s1] sh pp mm Q ↔ zS 193 68 [zR a0, zI a1, zI a2, zI a3, zI a4, zI a5] [zI (zw32 (s1.tdiv s0))] sh pp mm Q := s_go cM_turn_67 cM_turn_68 (if_neg hz) rfl
theorem rM_turn_68 {a0 : Nat} {a1 a2 a3 a4 a5 s0 : Int} : zS 193 68 [zR a0, zI a1, zI a2, zI a3, zI a4, zI a5] [zI s0] sh pp mm Q ↔ zS 193 70 [zR a0, zI a1, zI a2, zI a3, zI a4, zI a5] [zI a5, zI s0] sh pp mm Q := s_go cM_turn_68 cM_turn_70 rfl rfl
theorem rM_turn_70 {a0 : Nat} {a1 a2 a3 a4 a5 s0 s1 : Int} : zS 193 70 [zR a0, zI a1, zI a2, zI a3, zI a4, zI a5] [zI s0, zI s1] sh pp mm Q ↔ zS 193 71 [zR a0, zI a1, zI a2, zI a3, zI a4, zI a5] [zI 1, zI s0, zI s1] sh pp mm Q := s_go cM_turn_70 cM_turn_71 rfl rfl
theorem rM_turn_71 {a0 : Nat} {a1 a2 a3 a4 a5 s0 s1 s2 : Int} : zS 193 71 [zR a0, zI a1, zI a2, zI a3, zI a4, zI a5] [zI s0, zI s1, zI s2] sh pp mm Q ↔ zS 193 72 [zR a0, zI a1, zI a2, zI a3, zI a4, zI a5] [zI (zw32 (s1 - s0)), zI s2] sh pp mm Q := s_go cM_turn_71 cM_turn_72 rfl rfl
theorem rM_turn_72 {a0 : Nat} {a1 a2 a3 a4 a5 s0 s1 : Int} : zS 193 72 [zR a0, zI a1, zI a2, zI a3, zI a4, zI a5] [zI s0, zI s1] sh pp mm Q ↔ zS 193 73 [zR a0, zI a1, zI a2, zI a3, zI a4, zI a5] [zI a2, zI s0, zI s1] sh pp mm Q := s_go cM_turn_72 cM_turn_73 rfl rfl
theorem rM_turn_73 {a0 : Nat} {a1 a2 a3 a4 a5 s0 s1 s2 : Int} : zS 193 73 [zR a0, zI a1, zI a2, zI a3, zI a4, zI a5] [zI s0, zI s1, zI s2] sh pp mm Q ↔ zS 190 0 [zI s0] [] sh pp mm (fun v sh pp mm => zS 193 76 [zR a0, zI a1, zI a2, zI a3, zI a4, zI a5] (zPush v [zI s1, zI s2]) sh pp mm Q) := s_call cM_turn_73 cM_turn_76 rfl rfl
theorem rM_turn_76 {a0 : Nat} {a1 a2 a3 a4 a5 s0 s1 s2 : Int} : zS 193 76 [zR a0, zI a1, zI a2, zI a3, zI a4, zI a5] [zI s0, zI s1, zI s2] sh pp mm Q ↔ zS 193 77 [zR a0, zI a1, zI a2, zI a3, zI a4, zI a5] [zI (zw32 (s1 * s0)), zI s2] sh pp mm Q := s_go cM_turn_76 cM_turn_77 rfl rfl
theorem rM_turn_77 {a0 : Nat} {a1 a2 a3 a4 a5 s0 s1 : Int} : zS 193 77 [zR a0, zI a1, zI a2, zI a3, zI a4, zI a5] [zI s0, zI s1] sh pp mm Q ↔ zS 193 78 [zR a0, zI a1, zI a2, zI a3, zI a4, zI a5] [zI a3, zI s0, zI s1] sh pp mm Q := s_go cM_turn_77 cM_turn_78 rfl rfl
theorem rM_turn_78 {a0 : Nat} {a1 a2 a3 a4 a5 s0 s1 s2 : Int} (hz : s0 ≠ 0) : zS 193 78 [zR a0, zI a1, zI a2, zI a3, zI a4, zI a5] [zI s0, zI s1, zI s2] sh pp mm Q ↔ zS 193 79 [zR a0, zI a1, zI a2, zI a3, zI a4, zI a5] [zI (zw32 (s1.tdiv s0)), zI s2] sh pp mm Q := s_go cM_turn_78 cM_turn_79 (if_neg hz) rfl
theorem rM_turn_79 {a0 : Nat} {a1 a2 a3 a4 a5 s0 s1 : Int} : zS 193 79 [zR a0, zI a1, zI a2, zI a3, zI a4, zI a5] [zI s0, zI s1] sh pp mm Q ↔ (s0 < s1 → zS 193 82 [zR a0, zI a1, zI a2, zI a3, zI a4, zI a5] [] sh pp mm Q) ∧ (¬ s0 < s1 → zS 193 91 [zR a0, zI a1, zI a2, zI a3, zI a4, zI a5] [] sh pp mm Q) := s_ifn cM_turn_79 cM_turn_82 cM_turn_91 rfl rfl rfl
theorem rM_turn_82 {a0 : Nat} {a1 a2 a3 a4 a5 : Int} : zS 193 82 [zR a0, zI a1, zI a2, zI a3, zI a4, zI a5] [] sh pp mm Q ↔ zS 193 83 [zR a0, zI a1, zI a2, zI a3, zI a4, zI a5] [zR a0] sh pp mm Q := s_go cM_turn_82 cM_turn_83 rfl rfl
theorem rM_turn_83 {a0 s0 : Nat} {a1 a2 a3 a4 a5 : Int} : zS 193 83 [zR a0, zI a1, zI a2, zI a3, zI a4, zI a5] [zR s0] sh pp mm Q ↔ zS 193 84 [zR a0, zI a1, zI a2, zI a3, zI a4, zI a5] [zI 1, zR s0] sh pp mm Q := s_go cM_turn_83 cM_turn_84 rfl rfl
theorem rM_turn_84 {a0 s1 : Nat} {a1 a2 a3 a4 a5 s0 : Int} : zS 193 84 [zR a0, zI a1, zI a2, zI a3, zI a4, zI a5] [zI s0, zR s1] sh pp mm Q ↔ zS 193 85 [zR a0, zI a1, zI a2, zI a3, zI a4, zI a5] [zI a2, zI s0, zR s1] sh pp mm Q := s_go cM_turn_84 cM_turn_85 rfl rfl
theorem rM_turn_85 {a0 s2 : Nat} {a1 a2 a3 a4 a5 s0 s1 : Int} : zS 193 85 [zR a0, zI a1, zI a2, zI a3, zI a4, zI a5] [zI s0, zI s1, zR s2] sh pp mm Q ↔ zS 191 0 [zI s0] [] sh pp mm (fun v sh pp mm => zS 193 88 [zR a0, zI a1, zI a2, zI a3, zI a4, zI a5] (zPush v [zI s1, zR s2]) sh pp mm Q) := s_call cM_turn_85 cM_turn_88 rfl rfl
theorem rM_turn_88 {a0 s2 : Nat} {a1 a2 a3 a4 a5 s0 s1 : Int} (hk : zKd sh s2 = 12) : zS 193 88 [zR a0, zI a1, zI a2, zI a3, zI a4, zI a5] [zI s0, zI s1, zR s2] sh pp mm Q ↔ zS 189 0 [zR s2, zI s1, zI s0, zU] [] sh pp mm (fun v sh pp mm => zS 193 91 [zR a0, zI a1, zI a2, zI a3, zI a4, zI a5] (zPush v []) sh pp mm Q) := s_call cM_turn_88 cM_turn_91 ((if_pos hk).trans rfl) rfl
theorem rM_turn_91 {a0 : Nat} {a1 a2 a3 a4 a5 : Int} : zS 193 91 [zR a0, zI a1, zI a2, zI a3, zI a4, zI a5] [] sh pp mm Q ↔ zS 193 92 [zR a0, zI a1, zI a2, zI a3, zI a4, zI a5] [zR a0] sh pp mm Q := s_go cM_turn_91 cM_turn_92 rfl rfl
theorem rM_turn_92 {a0 s0 : Nat} {a1 a2 a3 a4 a5 : Int} : zS 193 92 [zR a0, zI a1, zI a2, zI a3, zI a4, zI a5] [zR s0] sh pp mm Q ↔ zS 193 93 [zR a0, zI a1, zI a2, zI a3, zI a4, zI a5] [zR s0, zR s0] sh pp mm Q := s_go cM_turn_92 cM_turn_93 rfl rfl
theorem rM_turn_93 {a0 s0 s1 : Nat} {a1 a2 a3 a4 a5 : Int} (hk : zKd sh s0 = 12) : zS 193 93 [zR a0, zI a1, zI a2, zI a3, zI a4, zI a5] [zR s0, zR s1] sh pp mm Q ↔ zS 193 96 [zR a0, zI a1, zI a2, zI a3, zI a4, zI a5] [zI (mm s0 20), zR s1] sh pp mm Q := s_go cM_turn_93 cM_turn_96 (if_pos hk) rfl
theorem rM_turn_96 {a0 s1 : Nat} {a1 a2 a3 a4 a5 s0 : Int} : zS 193 96 [zR a0, zI a1, zI a2, zI a3, zI a4, zI a5] [zI s0, zR s1] sh pp mm Q ↔ zS 193 97 [zR a0, zI a1, zI a2, zI a3, zI a4, zI a5] [zI 1, zI s0, zR s1] sh pp mm Q := s_go cM_turn_96 cM_turn_97 rfl rfl
theorem rM_turn_97 {a0 s2 : Nat} {a1 a2 a3 a4 a5 s0 s1 : Int} : zS 193 97 [zR a0, zI a1, zI a2, zI a3, zI a4, zI a5] [zI s0, zI s1, zR s2] sh pp mm Q ↔ zS 193 98 [zR a0, zI a1, zI a2, zI a3, zI a4, zI a5] [zI (zw32 (s1 + s0)), zR s2] sh pp mm Q := s_go cM_turn_97 cM_turn_98 rfl rfl
theorem rM_turn_98 {a0 s1 : Nat} {a1 a2 a3 a4 a5 s0 : Int} (hk : zKd sh s1 = 12) : zS 193 98 [zR a0, zI a1, zI a2, zI a3, zI a4, zI a5] [zI s0, zR s1] sh pp mm Q ↔ zS 193 101 [zR a0, zI a1, zI a2, zI a3, zI a4, zI a5] [] sh pp (zupd mm s1 20 s0) Q := s_go cM_turn_98 cM_turn_101 (if_pos ⟨hk, Or.inl rfl⟩) rfl
theorem rM_turn_101 {a0 : Nat} {a1 a2 a3 a4 a5 : Int} : zS 193 101 [zR a0, zI a1, zI a2, zI a3, zI a4, zI a5] [] sh pp mm Q ↔ zS 193 102 [zR a0, zI a1, zI a2, zI a3, zI a4, zI a5] [zR a0] sh pp mm Q := s_go cM_turn_101 cM_turn_102 rfl rfl
theorem rM_turn_102 {a0 s0 : Nat} {a1 a2 a3 a4 a5 : Int} (hk : zKd sh s0 = 12) : zS 193 102 [zR a0, zI a1, zI a2, zI a3, zI a4, zI a5] [zR s0] sh pp mm Q ↔ zS 193 105 [zR a0, zI a1, zI a2, zI a3, zI a4, zI a5] [zR (pp s0 18)] sh pp mm Q := s_go cM_turn_102 cM_turn_105 (if_pos hk) rfl
theorem rM_turn_105 {a0 s0 : Nat} {a1 a2 a3 a4 a5 : Int} : zS 193 105 [zR a0, zI a1, zI a2, zI a3, zI a4, zI a5] [zR s0] sh pp mm Q ↔ zS 193 106 [zR a0, zI a1, zI a2, zI a3, zI a4, zI a5] [zR a0, zR s0] sh pp mm Q := s_go cM_turn_105 cM_turn_106 rfl rfl
theorem rM_turn_106 {a0 s0 s1 : Nat} {a1 a2 a3 a4 a5 : Int} (hk : zKd sh s0 = 12) : zS 193 106 [zR a0, zI a1, zI a2, zI a3, zI a4, zI a5] [zR s0, zR s1] sh pp mm Q ↔ zS 188 0 [zR s0] [] sh pp mm (fun v sh pp mm => zS 193 109 [zR a0, zI a1, zI a2, zI a3, zI a4, zI a5] (zPush v [zR s1]) sh pp mm Q) := s_call cM_turn_106 cM_turn_109 ((if_pos hk).trans rfl) rfl
theorem rM_turn_109 {a0 s1 : Nat} {a1 a2 a3 a4 a5 s0 : Int} : zS 193 109 [zR a0, zI a1, zI a2, zI a3, zI a4, zI a5] [zI s0, zR s1] sh pp mm Q ↔ zS 193 110 [zR a0, zI a1, zI a2, zI a3, zI a4, zI a5] [zI 1, zI s0, zR s1] sh pp mm Q := s_go cM_turn_109 cM_turn_110 rfl rfl
theorem rM_turn_110 {a0 s2 : Nat} {a1 a2 a3 a4 a5 s0 s1 : Int} (hk : zKd sh s2 = 22) (h0 : 0 ≤ s1) (h1 : s1 < zLn sh s2) (hb : s0 = 0 ∨ s0 = 1) : zS 193 110 [zR a0, zI a1, zI a2, zI a3, zI a4, zI a5] [zI s0, zI s1, zR s2] sh pp mm Q ↔ zS 193 111 [zR a0, zI a1, zI a2, zI a3, zI a4, zI a5] [] sh pp (zupd mm s2 s1 s0) Q := s_go cM_turn_110 cM_turn_111 (if_pos ⟨hk, h0, h1, fun _ => hb⟩) rfl
theorem rM_turn_111 {a0 : Nat} {a1 a2 a3 a4 a5 : Int} : zS 193 111 [zR a0, zI a1, zI a2, zI a3, zI a4, zI a5] [] sh pp mm Q ↔ zS 193 112 [zR a0, zI a1, zI a2, zI a3, zI a4, zI a5] [zR a0] sh pp mm Q := s_go cM_turn_111 cM_turn_112 rfl rfl
theorem rM_turn_112 {a0 s0 : Nat} {a1 a2 a3 a4 a5 : Int} (hk : zKd sh s0 = 12) : zS 193 112 [zR a0, zI a1, zI a2, zI a3, zI a4, zI a5] [zR s0] sh pp mm Q ↔ zS 193 115 [zR a0, zI a1, zI a2, zI a3, zI a4, zI a5] [zR (pp s0 19)] sh pp mm Q := s_go cM_turn_112 cM_turn_115 (if_pos hk) rfl
theorem rM_turn_115 {a0 s0 : Nat} {a1 a2 a3 a4 a5 : Int} : zS 193 115 [zR a0, zI a1, zI a2, zI a3, zI a4, zI a5] [zR s0] sh pp mm Q ↔ zS 193 116 [zR a0, zI a1, zI a2, zI a3, zI a4, zI a5] [zR a0, zR s0] sh pp mm Q := s_go cM_turn_115 cM_turn_116 rfl rfl
theorem rM_turn_116 {a0 s0 s1 : Nat} {a1 a2 a3 a4 a5 : Int} (hk : zKd sh s0 = 12) : zS 193 116 [zR a0, zI a1, zI a2, zI a3, zI a4, zI a5] [zR s0, zR s1] sh pp mm Q ↔ zS 193 119 [zR a0, zI a1, zI a2, zI a3, zI a4, zI a5] [zI (mm s0 20), zR s1] sh pp mm Q := s_go cM_turn_116 cM_turn_119 (if_pos hk) rfl
theorem rM_turn_119 {a0 s1 : Nat} {a1 a2 a3 a4 a5 s0 : Int} : zS 193 119 [zR a0, zI a1, zI a2, zI a3, zI a4, zI a5] [zI s0, zR s1] sh pp mm Q ↔ zS 193 120 [zR a0, zI a1, zI a2, zI a3, zI a4, zI a5] [zR a0, zI s0, zR s1] sh pp mm Q := s_go cM_turn_119 cM_turn_120 rfl rfl
theorem rM_turn_120 {a0 s0 s2 : Nat} {a1 a2 a3 a4 a5 s1 : Int} (hk : zKd sh s0 = 12) : zS 193 120 [zR a0, zI a1, zI a2, zI a3, zI a4, zI a5] [zR s0, zI s1, zR s2] sh pp mm Q ↔ zS 188 0 [zR s0] [] sh pp mm (fun v sh pp mm => zS 193 123 [zR a0, zI a1, zI a2, zI a3, zI a4, zI a5] (zPush v [zI s1, zR s2]) sh pp mm Q) := s_call cM_turn_120 cM_turn_123 ((if_pos hk).trans rfl) rfl
theorem rM_turn_123 {a0 s2 : Nat} {a1 a2 a3 a4 a5 s0 s1 : Int} (hk : zKd sh s2 = 20) (h0 : 0 ≤ s1) (h1 : s1 < zLn sh s2) : zS 193 123 [zR a0, zI a1, zI a2, zI a3, zI a4, zI a5] [zI s0, zI s1, zR s2] sh pp mm Q ↔ zS 193 124 [zR a0, zI a1, zI a2, zI a3, zI a4, zI a5] [] sh pp (zupd mm s2 s1 s0) Q := s_go cM_turn_123 cM_turn_124 (if_pos ⟨hk, h0, h1, fun h => absurd h (by decide)⟩) rfl
theorem rM_turn_124 {a0 : Nat} {a1 a2 a3 a4 a5 : Int} : zS 193 124 [zR a0, zI a1, zI a2, zI a3, zI a4, zI a5] [] sh pp mm Q ↔ zS 193 127 [zR a0, zI a1, zI a2, zI a3, zI a4, zI (zw32 (a5 + 1))] [] sh pp mm Q := s_go cM_turn_124 cM_turn_127 rfl rfl
theorem rM_turn_127 {a0 : Nat} {a1 a2 a3 a4 a5 : Int} : zS 193 127 [zR a0, zI a1, zI a2, zI a3, zI a4, zI a5] [] sh pp mm Q ↔ zS 193 21 [zR a0, zI a1, zI a2, zI a3, zI a4, zI a5] [] sh pp mm Q := s_go cM_turn_127 cM_turn_21 rfl rfl
theorem rM_turn_130 {a0 : Nat} {a1 a2 a4 : Int} {u3 u5 : zV} : zS 193 130 [zR a0, zI a1, zI a2, u3, zI a4, u5] [] sh pp mm Q ↔ zS 193 131 [zR a0, zI a1, zI a2, zU, zI a4, zU] [zR a0] sh pp mm Q := s_go cM_turn_130 cM_turn_131 rfl rfl
theorem rM_turn_131 {a0 s0 : Nat} {a1 a2 a4 : Int} {u3 u5 : zV} : zS 193 131 [zR a0, zI a1, zI a2, u3, zI a4, u5] [zR s0] sh pp mm Q ↔ zS 193 132 [zR a0, zI a1, zI a2, zU, zI a4, zU] [zR s0, zR s0] sh pp mm Q := s_go cM_turn_131 cM_turn_132 rfl rfl
theorem rM_turn_132 {a0 s0 s1 : Nat} {a1 a2 a4 : Int} {u3 u5 : zV} (hk : zKd sh s0 = 12) : zS 193 132 [zR a0, zI a1, zI a2, u3, zI a4, u5] [zR s0, zR s1] sh pp mm Q ↔ zS 193 135 [zR a0, zI a1, zI a2, zU, zI a4, zU] [zI (mm s0 25), zR s1] sh pp mm Q := s_go cM_turn_132 cM_turn_135 (if_pos hk) rfl
theorem rM_turn_135 {a0 s1 : Nat} {a1 a2 a4 s0 : Int} {u3 u5 : zV} : zS 193 135 [zR a0, zI a1, zI a2, u3, zI a4, u5] [zI s0, zR s1] sh pp mm Q ↔ zS 193 136 [zR a0, zU, zI a2, zU, zI a4, zU] [zI a1, zI s0, zR s1] sh pp mm Q := s_go cM_turn_135 cM_turn_136 rfl rfl
theorem rM_turn_136 {a0 s2 : Nat} {a2 a4 s0 s1 : Int} {u1 u3 u5 : zV} : zS 193 136 [zR a0, u1, zI a2, u3, zI a4, u5] [zI s0, zI s1, zR s2] sh pp mm Q ↔ zS 190 0 [zI s0] [] sh pp mm (fun v sh pp mm => zS 193 139 [zR a0, zU, zI a2, zU, zI a4, zU] (zPush v [zI s1, zR s2]) sh pp mm Q) := s_call cM_turn_136 cM_turn_139 rfl rfl
theorem rM_turn_139 {a0 s2 : Nat} {a2 a4 s0 s1 : Int} {u1 u3 u5 : zV} : zS 193 139 [zR a0, u1, zI a2, u3, zI a4, u5] [zI s0, zI s1, zR s2] sh pp mm Q ↔ zS 193 140 [zR a0, zU, zI a2, zU, zI a4, zU] [zR a0, zI s0, zI s1, zR s2] sh pp mm Q := s_go cM_turn_139 cM_turn_140 rfl rfl
theorem rM_turn_140 {a0 s0 s3 : Nat} {a2 a4 s1 s2 : Int} {u1 u3 u5 : zV} : zS 193 140 [zR a0, u1, zI a2, u3, zI a4, u5] [zR s0, zI s1, zI s2, zR s3] sh pp mm Q ↔ zS 193 141 [zR a0, zU, zI a2, zU, zI a4, zU] [zI 4, zR s0, zI s1, zI s2, zR s3] sh pp mm Q := s_go cM_turn_140 cM_turn_141 rfl rfl
theorem rM_turn_141 {a0 s1 s4 : Nat} {a2 a4 s0 s2 s3 : Int} {u1 u3 u5 : zV} (hk : zKd sh s1 = 12) : zS 193 141 [zR a0, u1, zI a2, u3, zI a4, u5] [zI s0, zR s1, zI s2, zI s3, zR s4] sh pp mm Q ↔ zS 168 0 [zR s1, zI s0] [] sh pp mm (fun v sh pp mm => zS 193 144 [zR a0, zU, zI a2, zU, zI a4, zU] (zPush v [zI s2, zI s3, zR s4]) sh pp mm Q) := s_call cM_turn_141 cM_turn_144 ((if_pos hk).trans rfl) rfl
theorem rM_turn_144 {a0 s3 : Nat} {a2 a4 s0 s1 s2 : Int} {u1 u3 u5 : zV} : zS 193 144 [zR a0, u1, zI a2, u3, zI a4, u5] [zI s0, zI s1, zI s2, zR s3] sh pp mm Q ↔ zS 193 145 [zR a0, zU, zI a2, zU, zI a4, zU] [zI (zw32 (s1 + s0)), zI s2, zR s3] sh pp mm Q := s_go cM_turn_144 cM_turn_145 rfl rfl
theorem rM_turn_145 {a0 s2 : Nat} {a2 a4 s0 s1 : Int} {u1 u3 u5 : zV} : zS 193 145 [zR a0, u1, zI a2, u3, zI a4, u5] [zI s0, zI s1, zR s2] sh pp mm Q ↔ zS 193 146 [zR a0, zU, zI a2, zU, zI a4, zU] [zI 1, zI s0, zI s1, zR s2] sh pp mm Q := s_go cM_turn_145 cM_turn_146 rfl rfl
theorem rM_turn_146 {a0 s3 : Nat} {a2 a4 s0 s1 s2 : Int} {u1 u3 u5 : zV} : zS 193 146 [zR a0, u1, zI a2, u3, zI a4, u5] [zI s0, zI s1, zI s2, zR s3] sh pp mm Q ↔ zS 193 147 [zR a0, zU, zI a2, zU, zI a4, zU] [zI (zw32 (s1 - s0)), zI s2, zR s3] sh pp mm Q := s_go cM_turn_146 cM_turn_147 rfl rfl
theorem rM_turn_147 {a0 s2 : Nat} {a2 a4 s0 s1 : Int} {u1 u3 u5 : zV} : zS 193 147 [zR a0, u1, zI a2, u3, zI a4, u5] [zI s0, zI s1, zR s2] sh pp mm Q ↔ zS 193 148 [zR a0, zU, zI a2, zU, zI a4, zU] [zR a0, zI s0, zI s1, zR s2] sh pp mm Q := s_go cM_turn_147 cM_turn_148 rfl rfl
theorem rM_turn_148 {a0 s0 s3 : Nat} {a2 a4 s1 s2 : Int} {u1 u3 u5 : zV} : zS 193 148 [zR a0, u1, zI a2, u3, zI a4, u5] [zR s0, zI s1, zI s2, zR s3] sh pp mm Q ↔ zS 193 149 [zR a0, zU, zI a2, zU, zI a4, zU] [zI 4, zR s0, zI s1, zI s2, zR s3] sh pp mm Q := s_go cM_turn_148 cM_turn_149 rfl rfl
theorem rM_turn_149 {a0 s1 s4 : Nat} {a2 a4 s0 s2 s3 : Int} {u1 u3 u5 : zV} (hk : zKd sh s1 = 12) : zS 193 149 [zR a0, u1, zI a2, u3, zI a4, u5] [zI s0, zR s1, zI s2, zI s3, zR s4] sh pp mm Q ↔ zS 168 0 [zR s1, zI s0] [] sh pp mm (fun v sh pp mm => zS 193 152 [zR a0, zU, zI a2, zU, zI a4, zU] (zPush v [zI s2, zI s3, zR s4]) sh pp mm Q) := s_call cM_turn_149 cM_turn_152 ((if_pos hk).trans rfl) rfl
theorem rM_turn_152 {a0 s3 : Nat} {a2 a4 s0 s1 s2 : Int} {u1 u3 u5 : zV} (hz : s0 ≠ 0) : zS 193 152 [zR a0, u1, zI a2, u3, zI a4, u5] [zI s0, zI s1, zI s2, zR s3] sh pp mm Q ↔ zS 193 153 [zR a0, zU, zI a2, zU, zI a4, zU] [zI (zw32 (s1.tdiv s0)), zI s2, zR s3] sh pp mm Q := s_go cM_turn_152 cM_turn_153 (if_neg hz) rfl
theorem rM_turn_153 {a0 s2 : Nat} {a2 a4 s0 s1 : Int} {u1 u3 u5 : zV} : zS 193 153 [zR a0, u1, zI a2, u3, zI a4, u5] [zI s0, zI s1, zR s2] sh pp mm Q ↔ zS 193 154 [zR a0, zU, zU, zU, zI a4, zU] [zI a2, zI s0, zI s1, zR s2] sh pp mm Q := s_go cM_turn_153 cM_turn_154 rfl rfl
theorem rM_turn_154 {a0 s3 : Nat} {a4 s0 s1 s2 : Int} {u1 u2 u3 u5 : zV} : zS 193 154 [zR a0, u1, u2, u3, zI a4, u5] [zI s0, zI s1, zI s2, zR s3] sh pp mm Q ↔ zS 190 0 [zI s0] [] sh pp mm (fun v sh pp mm => zS 193 157 [zR a0, zU, zU, zU, zI a4, zU] (zPush v [zI s1, zI s2, zR s3]) sh pp mm Q) := s_call cM_turn_154 cM_turn_157 rfl rfl
theorem rM_turn_157 {a0 s3 : Nat} {a4 s0 s1 s2 : Int} {u1 u2 u3 u5 : zV} : zS 193 157 [zR a0, u1, u2, u3, zI a4, u5] [zI s0, zI s1, zI s2, zR s3] sh pp mm Q ↔ zS 193 158 [zR a0, zU, zU, zU, zI a4, zU] [zR a0, zI s0, zI s1, zI s2, zR s3] sh pp mm Q := s_go cM_turn_157 cM_turn_158 rfl rfl
theorem rM_turn_158 {a0 s0 s4 : Nat} {a4 s1 s2 s3 : Int} {u1 u2 u3 u5 : zV} : zS 193 158 [zR a0, u1, u2, u3, zI a4, u5] [zR s0, zI s1, zI s2, zI s3, zR s4] sh pp mm Q ↔ zS 193 159 [zR a0, zU, zU, zU, zI a4, zU] [zI 5, zR s0, zI s1, zI s2, zI s3, zR s4] sh pp mm Q := s_go cM_turn_158 cM_turn_159 rfl rfl
theorem rM_turn_159 {a0 s1 s5 : Nat} {a4 s0 s2 s3 s4 : Int} {u1 u2 u3 u5 : zV} (hk : zKd sh s1 = 12) : zS 193 159 [zR a0, u1, u2, u3, zI a4, u5] [zI s0, zR s1, zI s2, zI s3, zI s4, zR s5] sh pp mm Q ↔ zS 168 0 [zR s1, zI s0] [] sh pp mm (fun v sh pp mm => zS 193 162 [zR a0, zU, zU, zU, zI a4, zU] (zPush v [zI s2, zI s3, zI s4, zR s5]) sh pp mm Q) := s_call cM_turn_159 cM_turn_162 ((if_pos hk).trans rfl) rfl
theorem rM_turn_162 {a0 s4 : Nat} {a4 s0 s1 s2 s3 : Int} {u1 u2 u3 u5 : zV} : zS 193 162 [zR a0, u1, u2, u3, zI a4, u5] [zI s0, zI s1, zI s2, zI s3, zR s4] sh pp mm Q ↔ zS 193 163 [zR a0, zU, zU, zU, zI a4, zU] [zI (zw32 (s1 + s0)), zI s2, zI s3, zR s4] sh pp mm Q := s_go cM_turn_162 cM_turn_163 rfl rfl
theorem rM_turn_163 {a0 s3 : Nat} {a4 s0 s1 s2 : Int} {u1 u2 u3 u5 : zV} : zS 193 163 [zR a0, u1, u2, u3, zI a4, u5] [zI s0, zI s1, zI s2, zR s3] sh pp mm Q ↔ zS 193 164 [zR a0, zU, zU, zU, zI a4, zU] [zI 1, zI s0, zI s1, zI s2, zR s3] sh pp mm Q := s_go cM_turn_163 cM_turn_164 rfl rfl
theorem rM_turn_164 {a0 s4 : Nat} {a4 s0 s1 s2 s3 : Int} {u1 u2 u3 u5 : zV} : zS 193 164 [zR a0, u1, u2, u3, zI a4, u5] [zI s0, zI s1, zI s2, zI s3, zR s4] sh pp mm Q ↔ zS 193 165 [zR a0, zU, zU, zU, zI a4, zU] [zI (zw32 (s1 - s0)), zI s2, zI s3, zR s4] sh pp mm Q := s_go cM_turn_164 cM_turn_165 rfl rfl
theorem rM_turn_165 {a0 s3 : Nat} {a4 s0 s1 s2 : Int} {u1 u2 u3 u5 : zV} : zS 193 165 [zR a0, u1, u2, u3, zI a4, u5] [zI s0, zI s1, zI s2, zR s3] sh pp mm Q ↔ zS 193 166 [zR a0, zU, zU, zU, zI a4, zU] [zR a0, zI s0, zI s1, zI s2, zR s3] sh pp mm Q := s_go cM_turn_165 cM_turn_166 rfl rfl
theorem rM_turn_166 {a0 s0 s4 : Nat} {a4 s1 s2 s3 : Int} {u1 u2 u3 u5 : zV} : zS 193 166 [zR a0, u1, u2, u3, zI a4, u5] [zR s0, zI s1, zI s2, zI s3, zR s4] sh pp mm Q ↔ zS 193 167 [zR a0, zU, zU, zU, zI a4, zU] [zI 5, zR s0, zI s1, zI s2, zI s3, zR s4] sh pp mm Q := s_go cM_turn_166 cM_turn_167 rfl rfl
theorem rM_turn_167 {a0 s1 s5 : Nat} {a4 s0 s2 s3 s4 : Int} {u1 u2 u3 u5 : zV} (hk : zKd sh s1 = 12) : zS 193 167 [zR a0, u1, u2, u3, zI a4, u5] [zI s0, zR s1, zI s2, zI s3, zI s4, zR s5] sh pp mm Q ↔ zS 168 0 [zR s1, zI s0] [] sh pp mm (fun v sh pp mm => zS 193 170 [zR a0, zU, zU, zU, zI a4, zU] (zPush v [zI s2, zI s3, zI s4, zR s5]) sh pp mm Q) := s_call cM_turn_167 cM_turn_170 ((if_pos hk).trans rfl) rfl
theorem rM_turn_170 {a0 s4 : Nat} {a4 s0 s1 s2 s3 : Int} {u1 u2 u3 u5 : zV} (hz : s0 ≠ 0) : zS 193 170 [zR a0, u1, u2, u3, zI a4, u5] [zI s0, zI s1, zI s2, zI s3, zR s4] sh pp mm Q ↔ zS 193 171 [zR a0, zU, zU, zU, zI a4, zU] [zI (zw32 (s1.tdiv s0)), zI s2, zI s3, zR s4] sh pp mm Q := s_go cM_turn_170 cM_turn_171 (if_neg hz) rfl
theorem rM_turn_171 {a0 s3 : Nat} {a4 s0 s1 s2 : Int} {u1 u2 u3 u5 : zV} : zS 193 171 [zR a0, u1, u2, u3, zI a4, u5] [zI s0, zI s1, zI s2, zR s3] sh pp mm Q ↔ zS 192 0 [zI s1, zI s0] [] sh pp mm (fun v sh pp mm => zS 193 174 [zR a0, zU, zU, zU, zI a4, zU] (zPush v [zI s2, zR s3]) sh pp mm Q) := s_call cM_turn_171 cM_turn_174 rfl rfl
theorem rM_turn_174 {a0 s2 : Nat} {a4 s0 s1 : Int} {u1 u2 u3 u5 : zV} : zS 193 174 [zR a0, u1, u2, u3, zI a4, u5] [zI s0, zI s1, zR s2] sh pp mm Q ↔ zS 193 175 [zR a0, zU, zU, zU, zI a4, zU] [zR a0, zI s0, zI s1, zR s2] sh pp mm Q := s_go cM_turn_174 cM_turn_175 rfl rfl
theorem rM_turn_175 {a0 s0 s3 : Nat} {a4 s1 s2 : Int} {u1 u2 u3 u5 : zV} : zS 193 175 [zR a0, u1, u2, u3, zI a4, u5] [zR s0, zI s1, zI s2, zR s3] sh pp mm Q ↔ zS 193 177 [zR a0, zU, zU, zU, zI a4, zU] [zI 6, zR s0, zI s1, zI s2, zR s3] sh pp mm Q := s_go cM_turn_175 cM_turn_177 rfl rfl
theorem rM_turn_177 {a0 s1 s4 : Nat} {a4 s0 s2 s3 : Int} {u1 u2 u3 u5 : zV} (hk : zKd sh s1 = 12) : zS 193 177 [zR a0, u1, u2, u3, zI a4, u5] [zI s0, zR s1, zI s2, zI s3, zR s4] sh pp mm Q ↔ zS 168 0 [zR s1, zI s0] [] sh pp mm (fun v sh pp mm => zS 193 180 [zR a0, zU, zU, zU, zI a4, zU] (zPush v [zI s2, zI s3, zR s4]) sh pp mm Q) := s_call cM_turn_177 cM_turn_180 ((if_pos hk).trans rfl) rfl
theorem rM_turn_180 {a0 s3 : Nat} {a4 s0 s1 s2 : Int} {u1 u2 u3 u5 : zV} : zS 193 180 [zR a0, u1, u2, u3, zI a4, u5] [zI s0, zI s1, zI s2, zR s3] sh pp mm Q ↔ zS 193 181 [zU, zU, zU, zU, zI a4, zU] [zR a0, zI s0, zI s1, zI s2, zR s3] sh pp mm Q := s_go cM_turn_180 cM_turn_181 rfl rfl
theorem rM_turn_181 {s0 s4 : Nat} {a4 s1 s2 s3 : Int} {u0 u1 u2 u3 u5 : zV} (hk : zKd sh s0 = 12) : zS 193 181 [u0, u1, u2, u3, zI a4, u5] [zR s0, zI s1, zI s2, zI s3, zR s4] sh pp mm Q ↔ zS 193 184 [zU, zU, zU, zU, zI a4, zU] [zI (mm s0 24), zI s1, zI s2, zI s3, zR s4] sh pp mm Q := s_go cM_turn_181 cM_turn_184 (if_pos hk) rfl
theorem rM_turn_184 {s4 : Nat} {a4 s0 s1 s2 s3 : Int} {u0 u1 u2 u3 u5 : zV} : zS 193 184 [u0, u1, u2, u3, zI a4, u5] [zI s0, zI s1, zI s2, zI s3, zR s4] sh pp mm Q ↔ zS 193 186 [zU, zU, zU, zU, zU, zU] [zI a4, zI s0, zI s1, zI s2, zI s3, zR s4] sh pp mm Q := s_go cM_turn_184 cM_turn_186 rfl rfl
theorem rM_turn_186 {s5 : Nat} {s0 s1 s2 s3 s4 : Int} {u0 u1 u2 u3 u4 u5 : zV} : zS 193 186 [u0, u1, u2, u3, u4, u5] [zI s0, zI s1, zI s2, zI s3, zI s4, zR s5] sh pp mm Q ↔ zS 193 187 [zU, zU, zU, zU, zU, zU] [zI (zw32 (s1 - s0)), zI s2, zI s3, zI s4, zR s5] sh pp mm Q := s_go cM_turn_186 cM_turn_187 rfl rfl
theorem rM_turn_187 {s4 : Nat} {s0 s1 s2 s3 : Int} {u0 u1 u2 u3 u4 u5 : zV} : zS 193 187 [u0, u1, u2, u3, u4, u5] [zI s0, zI s1, zI s2, zI s3, zR s4] sh pp mm Q ↔ zS 193 188 [zU, zU, zU, zU, zU, zU] [zI (zw32 (s1 * s0)), zI s2, zI s3, zR s4] sh pp mm Q := s_go cM_turn_187 cM_turn_188 rfl rfl
theorem rM_turn_188 {s3 : Nat} {s0 s1 s2 : Int} {u0 u1 u2 u3 u4 u5 : zV} : zS 193 188 [u0, u1, u2, u3, u4, u5] [zI s0, zI s1, zI s2, zR s3] sh pp mm Q ↔ zS 193 189 [zU, zU, zU, zU, zU, zU] [zI (zw32 (s1 + s0)), zI s2, zR s3] sh pp mm Q := s_go cM_turn_188 cM_turn_189 rfl rfl
theorem rM_turn_189 {s2 : Nat} {s0 s1 : Int} {u0 u1 u2 u3 u4 u5 : zV} : zS 193 189 [u0, u1, u2, u3, u4, u5] [zI s0, zI s1, zR s2] sh pp mm Q ↔ zS 193 190 [zU, zU, zU, zU, zU, zU] [zI (zw32 (s1 + s0)), zR s2] sh pp mm Q := s_go cM_turn_189 cM_turn_190 rfl rfl
theorem rM_turn_190 {s1 : Nat} {s0 : Int} {u0 u1 u2 u3 u4 u5 : zV} (hk : zKd sh s1 = 12) : zS 193 190 [u0, u1, u2, u3, u4, u5] [zI s0, zR s1] sh pp mm Q ↔ zS 193 193 [zU, zU, zU, zU, zU, zU] [] sh pp (zupd mm s1 25 s0) Q := s_go cM_turn_190 cM_turn_193 (if_pos ⟨hk, Or.inl rfl⟩) rfl
theorem rM_turn_193 {u0 u1 u2 u3 u4 u5 : zV} : zS 193 193 [u0, u1, u2, u3, u4, u5] [] sh pp mm Q ↔ Q zU sh pp mm := s_ret cM_turn_193 rfl
theorem cAM_shake : ∀ q ∈ zT194, zCode 194 q.1 = some q.2 := zAll (mid := 194) rfl (by decide +kernel)
theorem cAM_shake_0 : ∀ q ∈ zT194_0, zCode 194 q.1 = some q.2 := fun q h => cAM_shake q (List.mem_append_left _ h)
theorem cAM_shake_1 : ∀ q ∈ zT194_1, zCode 194 q.1 = some q.2 := fun q h => cAM_shake q (List.mem_append_right _ (List.mem_append_left _ h))
theorem cAM_shake_2 : ∀ q ∈ zT194_2, zCode 194 q.1 = some q.2 := fun q h => cAM_shake q (List.mem_append_right _ (List.mem_append_right _ h))
theorem cM_shake_0 : zCode 194 0 = some (.iconst 0, 1, 0, 0, 0, 0, 3) := cAM_shake_0 _ (List.mem_of_getElem? (i := 0) rfl)
theorem cM_shake_1 : zCode 194 1 = some (.istore_n 2, 2, 0, 0, 0, 0, 3) := cAM_shake_0 _ (List.mem_of_getElem? (i := 1) rfl)
theorem cM_shake_2 : zCode 194 2 = some (.iload_n 2, 3, 0, 0, 0, 0, 7) := cAM_shake_0 _ (List.mem_of_getElem? (i := 2) rfl)
theorem cM_shake_3 : zCode 194 3 = some (.bipush 16, 5, 0, 0, 0, 0, 7) := cAM_shake_0 _ (List.mem_of_getElem? (i := 3) rfl)
theorem cM_shake_5 : zCode 194 5 = some (.if_icmp .ge 74, 8, 79, 0, 0, 0, 7) := cAM_shake_0 _ (List.mem_of_getElem? (i := 4) rfl)
theorem cM_shake_8 : zCode 194 8 = some (.iconst 0, 9, 0, 0, 0, 0, 7) := cAM_shake_0 _ (List.mem_of_getElem? (i := 5) rfl)
theorem cM_shake_9 : zCode 194 9 = some (.istore_n 3, 10, 0, 0, 0, 0, 7) := cAM_shake_0 _ (List.mem_of_getElem? (i := 6) rfl)
theorem cM_shake_10 : zCode 194 10 = some (.iload_n 3, 11, 0, 0, 0, 0, 15) := cAM_shake_0 _ (List.mem_of_getElem? (i := 7) rfl)
theorem cM_shake_11 : zCode 194 11 = some (.bipush 24, 13, 0, 0, 0, 0, 15) := cAM_shake_0 _ (List.mem_of_getElem? (i := 8) rfl)
theorem cM_shake_13 : zCode 194 13 = some (.if_icmp .ge 60, 16, 73, 0, 0, 0, 15) := cAM_shake_0 _ (List.mem_of_getElem? (i := 9) rfl)
theorem cM_shake_16 : zCode 194 16 = some (.bipush 24, 18, 0, 0, 0, 0, 15) := cAM_shake_0 _ (List.mem_of_getElem? (i := 10) rfl)
theorem cM_shake_18 : zCode 194 18 = some (.iload_n 2, 19, 0, 0, 0, 0, 15) := cAM_shake_0 _ (List.mem_of_getElem? (i := 11) rfl)
theorem cM_shake_19 : zCode 194 19 = some (.imul, 20, 0, 0, 0, 0, 15) := cAM_shake_0 _ (List.mem_of_getElem? (i := 12) rfl)
theorem cM_shake_20 : zCode 194 20 = some (.iload_n 3, 21, 0, 0, 0, 0, 15) := cAM_shake_0 _ (List.mem_of_getElem? (i := 13) rfl)
theorem cM_shake_21 : zCode 194 21 = some (.iadd, 22, 0, 0, 0, 0, 15) := cAM_shake_0 _ (List.mem_of_getElem? (i := 14) rfl)
theorem cM_shake_22 : zCode 194 22 = some (.istore 4, 24, 0, 0, 0, 0, 15) := cAM_shake_0 _ (List.mem_of_getElem? (i := 15) rfl)
theorem cM_shake_24 : zCode 194 24 = some (.aload_n 0, 25, 0, 0, 0, 0, 31) := cAM_shake_1 _ (List.mem_of_getElem? (i := 0) rfl)
theorem cM_shake_25 : zCode 194 25 = some (.getfield 39, 28, 12, 18, 2, 1227, 31) := cAM_shake_1 _ (List.mem_of_getElem? (i := 1) rfl)
theorem cM_shake_28 : zCode 194 28 = some (.iload 4, 30, 0, 0, 0, 0, 31) := cAM_shake_1 _ (List.mem_of_getElem? (i := 2) rfl)
theorem cM_shake_30 : zCode 194 30 = some (.aload_n 0, 31, 0, 0, 0, 0, 31) := cAM_shake_1 _ (List.mem_of_getElem? (i := 3) rfl)
theorem cM_shake_31 : zCode 194 31 = some (.getfield 39, 34, 12, 18, 2, 1227, 31) := cAM_shake_1 _ (List.mem_of_getElem? (i := 4) rfl)
theorem cM_shake_34 : zCode 194 34 = some (.iload 4, 36, 0, 0, 0, 0, 31) := cAM_shake_1 _ (List.mem_of_getElem? (i := 5) rfl)
theorem cM_shake_36 : zCode 194 36 = some (.baload, 37, 0, 0, 0, 0, 31) := cAM_shake_1 _ (List.mem_of_getElem? (i := 6) rfl)
theorem cM_shake_37 : zCode 194 37 = some (.ifCond .eq 28, 40, 65, 0, 0, 0, 31) := cAM_shake_1 _ (List.mem_of_getElem? (i := 7) rfl)
theorem cM_shake_40 : zCode 194 40 = some (.iload_n 3, 41, 0, 0, 0, 0, 31) := cAM_shake_1 _ (List.mem_of_getElem? (i := 8) rfl)
theorem cM_shake_41 : zCode 194 41 = some (.iconst 2, 42, 0, 0, 0, 0, 31) := cAM_shake_1 _ (List.mem_of_getElem? (i := 9) rfl)
theorem cM_shake_42 : zCode 194 42 = some (.iload_n 2, 43, 0, 0, 0, 0, 31) := cAM_shake_1 _ (List.mem_of_getElem? (i := 10) rfl)
theorem cM_shake_43 : zCode 194 43 = some (.imul, 44, 0, 0, 0, 0, 31) := cAM_shake_1 _ (List.mem_of_getElem? (i := 11) rfl)
theorem cM_shake_44 : zCode 194 44 = some (.iadd, 45, 0, 0, 0, 0, 31) := cAM_shake_1 _ (List.mem_of_getElem? (i := 12) rfl)
theorem cM_shake_45 : zCode 194 45 = some (.iload_n 1, 46, 0, 0, 0, 0, 31) := cAM_shake_1 _ (List.mem_of_getElem? (i := 13) rfl)
theorem cM_shake_46 : zCode 194 46 = some (.iadd, 47, 0, 0, 0, 0, 31) := cAM_shake_1 _ (List.mem_of_getElem? (i := 14) rfl)
theorem cM_shake_47 : zCode 194 47 = some (.iconst 3, 48, 0, 0, 0, 0, 31) := cAM_shake_1 _ (List.mem_of_getElem? (i := 15) rfl)
theorem cM_shake_48 : zCode 194 48 = some (.irem, 49, 0, 0, 0, 0, 31) := cAM_shake_2 _ (List.mem_of_getElem? (i := 0) rfl)
theorem cM_shake_49 : zCode 194 49 = some (.ifCond .ne 12, 52, 61, 0, 0, 0, 31) := cAM_shake_2 _ (List.mem_of_getElem? (i := 1) rfl)
theorem cM_shake_52 : zCode 194 52 = some (.iload 4, 54, 0, 0, 0, 0, 31) := cAM_shake_2 _ (List.mem_of_getElem? (i := 2) rfl)
theorem cM_shake_54 : zCode 194 54 = some (.aload_n 0, 55, 0, 0, 0, 0, 15) := cAM_shake_2 _ (List.mem_of_getElem? (i := 3) rfl)
theorem cM_shake_55 : zCode 194 55 = some (.invokevirtual 244, 58, 188, 0, 1, 12, 15) := cAM_shake_2 _ (List.mem_of_getElem? (i := 4) rfl)
theorem cM_shake_58 : zCode 194 58 = some (.if_icmp .ne 7, 61, 65, 0, 0, 0, 15) := cAM_shake_2 _ (List.mem_of_getElem? (i := 5) rfl)
theorem cM_shake_61 : zCode 194 61 = some (.iconst 1, 62, 0, 0, 0, 0, 15) := cAM_shake_2 _ (List.mem_of_getElem? (i := 6) rfl)
theorem cM_shake_62 : zCode 194 62 = some (.goto 4, 65, 66, 0, 0, 0, 15) := cAM_shake_2 _ (List.mem_of_getElem? (i := 7) rfl)
theorem cM_shake_65 : zCode 194 65 = some (.iconst 0, 66, 0, 0, 0, 0, 15) := cAM_shake_2 _ (List.mem_of_getElem? (i := 8) rfl)
theorem cM_shake_66 : zCode 194 66 = some (.bastore, 67, 0, 0, 0, 0, 15) := cAM_shake_2 _ (List.mem_of_getElem? (i := 9) rfl)
theorem cM_shake_67 : zCode 194 67 = some (.iinc 3 1, 70, 0, 0, 0, 0, 15) := cAM_shake_2 _ (List.mem_of_getElem? (i := 10) rfl)
theorem cM_shake_70 : zCode 194 70 = some (.goto (-60), 73, 10, 0, 0, 0, 15) := cAM_shake_2 _ (List.mem_of_getElem? (i := 11) rfl)
theorem cM_shake_73 : zCode 194 73 = some (.iinc 2 1, 76, 0, 0, 0, 0, 7) := cAM_shake_2 _ (List.mem_of_getElem? (i := 12) rfl)
theorem cM_shake_76 : zCode 194 76 = some (.goto (-74), 79, 2, 0, 0, 0, 7) := cAM_shake_2 _ (List.mem_of_getElem? (i := 13) rfl)
theorem cM_shake_79 : zCode 194 79 = some (.return_, 80, 0, 0, 0, 0, 0) := cAM_shake_2 _ (List.mem_of_getElem? (i := 14) rfl)
theorem rM_shake_0 {a0 : Nat} {a1 : Int} {u2 u3 u4 : zV} : zS 194 0 [zR a0, zI a1, u2, u3, u4] [] sh pp mm Q ↔ zS 194 1 [zR a0, zI a1, zU, zU, zU] [zI 0] sh pp mm Q := s_go cM_shake_0 cM_shake_1 rfl rfl
theorem rM_shake_1 {a0 : Nat} {a1 s0 : Int} {u2 u3 u4 : zV} : zS 194 1 [zR a0, zI a1, u2, u3, u4] [zI s0] sh pp mm Q ↔ zS 194 2 [zR a0, zI a1, zI s0, zU, zU] [] sh pp mm Q := s_go cM_shake_1 cM_shake_2 rfl rfl
theorem rM_shake_2 {a0 : Nat} {a1 a2 : Int} {u3 u4 : zV} : zS 194 2 [zR a0, zI a1, zI a2, u3, u4] [] sh pp mm Q ↔ zS 194 3 [zR a0, zI a1, zI a2, zU, zU] [zI a2] sh pp mm Q := s_go cM_shake_2 cM_shake_3 rfl rfl
theorem rM_shake_3 {a0 : Nat} {a1 a2 s0 : Int} {u3 u4 : zV} : zS 194 3 [zR a0, zI a1, zI a2, u3, u4] [zI s0] sh pp mm Q ↔ zS 194 5 [zR a0, zI a1, zI a2, zU, zU] [zI 16, zI s0] sh pp mm Q := s_go cM_shake_3 cM_shake_5 rfl rfl
theorem rM_shake_5 {a0 : Nat} {a1 a2 s0 s1 : Int} {u3 u4 : zV} : zS 194 5 [zR a0, zI a1, zI a2, u3, u4] [zI s0, zI s1] sh pp mm Q ↔ (s1 < s0 → zS 194 8 [zR a0, zI a1, zI a2, zU, zU] [] sh pp mm Q) ∧ (¬ s1 < s0 → zS 194 79 [zU, zU, zU, zU, zU] [] sh pp mm Q) := s_ifn cM_shake_5 cM_shake_8 cM_shake_79 rfl rfl rfl
theorem rM_shake_8 {a0 : Nat} {a1 a2 : Int} {u3 u4 : zV} : zS 194 8 [zR a0, zI a1, zI a2, u3, u4] [] sh pp mm Q ↔ zS 194 9 [zR a0, zI a1, zI a2, zU, zU] [zI 0] sh pp mm Q := s_go cM_shake_8 cM_shake_9 rfl rfl
theorem rM_shake_9 {a0 : Nat} {a1 a2 s0 : Int} {u3 u4 : zV} : zS 194 9 [zR a0, zI a1, zI a2, u3, u4] [zI s0] sh pp mm Q ↔ zS 194 10 [zR a0, zI a1, zI a2, zI s0, zU] [] sh pp mm Q := s_go cM_shake_9 cM_shake_10 rfl rfl
theorem rM_shake_10 {a0 : Nat} {a1 a2 a3 : Int} {u4 : zV} : zS 194 10 [zR a0, zI a1, zI a2, zI a3, u4] [] sh pp mm Q ↔ zS 194 11 [zR a0, zI a1, zI a2, zI a3, zU] [zI a3] sh pp mm Q := s_go cM_shake_10 cM_shake_11 rfl rfl
theorem rM_shake_11 {a0 : Nat} {a1 a2 a3 s0 : Int} {u4 : zV} : zS 194 11 [zR a0, zI a1, zI a2, zI a3, u4] [zI s0] sh pp mm Q ↔ zS 194 13 [zR a0, zI a1, zI a2, zI a3, zU] [zI 24, zI s0] sh pp mm Q := s_go cM_shake_11 cM_shake_13 rfl rfl
theorem rM_shake_13 {a0 : Nat} {a1 a2 a3 s0 s1 : Int} {u4 : zV} : zS 194 13 [zR a0, zI a1, zI a2, zI a3, u4] [zI s0, zI s1] sh pp mm Q ↔ (s1 < s0 → zS 194 16 [zR a0, zI a1, zI a2, zI a3, zU] [] sh pp mm Q) ∧ (¬ s1 < s0 → zS 194 73 [zR a0, zI a1, zI a2, zU, zU] [] sh pp mm Q) := s_ifn cM_shake_13 cM_shake_16 cM_shake_73 rfl rfl rfl
theorem rM_shake_16 {a0 : Nat} {a1 a2 a3 : Int} {u4 : zV} : zS 194 16 [zR a0, zI a1, zI a2, zI a3, u4] [] sh pp mm Q ↔ zS 194 18 [zR a0, zI a1, zI a2, zI a3, zU] [zI 24] sh pp mm Q := s_go cM_shake_16 cM_shake_18 rfl rfl
theorem rM_shake_18 {a0 : Nat} {a1 a2 a3 s0 : Int} {u4 : zV} : zS 194 18 [zR a0, zI a1, zI a2, zI a3, u4] [zI s0] sh pp mm Q ↔ zS 194 19 [zR a0, zI a1, zI a2, zI a3, zU] [zI a2, zI s0] sh pp mm Q := s_go cM_shake_18 cM_shake_19 rfl rfl
theorem rM_shake_19 {a0 : Nat} {a1 a2 a3 s0 s1 : Int} {u4 : zV} : zS 194 19 [zR a0, zI a1, zI a2, zI a3, u4] [zI s0, zI s1] sh pp mm Q ↔ zS 194 20 [zR a0, zI a1, zI a2, zI a3, zU] [zI (zw32 (s1 * s0))] sh pp mm Q := s_go cM_shake_19 cM_shake_20 rfl rfl
theorem rM_shake_20 {a0 : Nat} {a1 a2 a3 s0 : Int} {u4 : zV} : zS 194 20 [zR a0, zI a1, zI a2, zI a3, u4] [zI s0] sh pp mm Q ↔ zS 194 21 [zR a0, zI a1, zI a2, zI a3, zU] [zI a3, zI s0] sh pp mm Q := s_go cM_shake_20 cM_shake_21 rfl rfl
theorem rM_shake_21 {a0 : Nat} {a1 a2 a3 s0 s1 : Int} {u4 : zV} : zS 194 21 [zR a0, zI a1, zI a2, zI a3, u4] [zI s0, zI s1] sh pp mm Q ↔ zS 194 22 [zR a0, zI a1, zI a2, zI a3, zU] [zI (zw32 (s1 + s0))] sh pp mm Q := s_go cM_shake_21 cM_shake_22 rfl rfl
theorem rM_shake_22 {a0 : Nat} {a1 a2 a3 s0 : Int} {u4 : zV} : zS 194 22 [zR a0, zI a1, zI a2, zI a3, u4] [zI s0] sh pp mm Q ↔ zS 194 24 [zR a0, zI a1, zI a2, zI a3, zI s0] [] sh pp mm Q := s_go cM_shake_22 cM_shake_24 rfl rfl
theorem rM_shake_24 {a0 : Nat} {a1 a2 a3 a4 : Int} : zS 194 24 [zR a0, zI a1, zI a2, zI a3, zI a4] [] sh pp mm Q ↔ zS 194 25 [zR a0, zI a1, zI a2, zI a3, zI a4] [zR a0] sh pp mm Q := s_go cM_shake_24 cM_shake_25 rfl rfl
theorem rM_shake_25 {a0 s0 : Nat} {a1 a2 a3 a4 : Int} (hk : zKd sh s0 = 12) : zS 194 25 [zR a0, zI a1, zI a2, zI a3, zI a4] [zR s0] sh pp mm Q ↔ zS 194 28 [zR a0, zI a1, zI a2, zI a3, zI a4] [zR (pp s0 18)] sh pp mm Q := s_go cM_shake_25 cM_shake_28 (if_pos hk) rfl
theorem rM_shake_28 {a0 s0 : Nat} {a1 a2 a3 a4 : Int} : zS 194 28 [zR a0, zI a1, zI a2, zI a3, zI a4] [zR s0] sh pp mm Q ↔ zS 194 30 [zR a0, zI a1, zI a2, zI a3, zI a4] [zI a4, zR s0] sh pp mm Q := s_go cM_shake_28 cM_shake_30 rfl rfl
theorem rM_shake_30 {a0 s1 : Nat} {a1 a2 a3 a4 s0 : Int} : zS 194 30 [zR a0, zI a1, zI a2, zI a3, zI a4] [zI s0, zR s1] sh pp mm Q ↔ zS 194 31 [zR a0, zI a1, zI a2, zI a3, zI a4] [zR a0, zI s0, zR s1] sh pp mm Q := s_go cM_shake_30 cM_shake_31 rfl rfl
theorem rM_shake_31 {a0 s0 s2 : Nat} {a1 a2 a3 a4 s1 : Int} (hk : zKd sh s0 = 12) : zS 194 31 [zR a0, zI a1, zI a2, zI a3, zI a4] [zR s0, zI s1, zR s2] sh pp mm Q ↔ zS 194 34 [zR a0, zI a1, zI a2, zI a3, zI a4] [zR (pp s0 18), zI s1, zR s2] sh pp mm Q := s_go cM_shake_31 cM_shake_34 (if_pos hk) rfl
theorem rM_shake_34 {a0 s0 s2 : Nat} {a1 a2 a3 a4 s1 : Int} : zS 194 34 [zR a0, zI a1, zI a2, zI a3, zI a4] [zR s0, zI s1, zR s2] sh pp mm Q ↔ zS 194 36 [zR a0, zI a1, zI a2, zI a3, zI a4] [zI a4, zR s0, zI s1, zR s2] sh pp mm Q := s_go cM_shake_34 cM_shake_36 rfl rfl
theorem rM_shake_36 {a0 s1 s3 : Nat} {a1 a2 a3 a4 s0 s2 : Int} (hk : zKd sh s1 = 22 ∨ zKd sh s1 = 32) (h0 : 0 ≤ s0) (h1 : s0 < zLn sh s1) : zS 194 36 [zR a0, zI a1, zI a2, zI a3, zI a4] [zI s0, zR s1, zI s2, zR s3] sh pp mm Q ↔ zS 194 37 [zR a0, zI a1, zI a2, zI a3, zI a4] [zI (mm s1 s0), zI s2, zR s3] sh pp mm Q := s_go cM_shake_36 cM_shake_37 (if_pos ⟨hk, h0, h1⟩) rfl
theorem rM_shake_37 {a0 s2 : Nat} {a1 a2 a3 a4 s0 s1 : Int} : zS 194 37 [zR a0, zI a1, zI a2, zI a3, zI a4] [zI s0, zI s1, zR s2] sh pp mm Q ↔ (s0 = 0 → zS 194 65 [zR a0, zI a1, zI a2, zI a3, zU] [zI s1, zR s2] sh pp mm Q) ∧ (¬ s0 = 0 → zS 194 40 [zR a0, zI a1, zI a2, zI a3, zI a4] [zI s1, zR s2] sh pp mm Q) := s_if cM_shake_37 cM_shake_65 cM_shake_40 rfl rfl rfl
theorem rM_shake_40 {a0 s1 : Nat} {a1 a2 a3 a4 s0 : Int} : zS 194 40 [zR a0, zI a1, zI a2, zI a3, zI a4] [zI s0, zR s1] sh pp mm Q ↔ zS 194 41 [zR a0, zI a1, zI a2, zI a3, zI a4] [zI a3, zI s0, zR s1] sh pp mm Q := s_go cM_shake_40 cM_shake_41 rfl rfl
theorem rM_shake_41 {a0 s2 : Nat} {a1 a2 a3 a4 s0 s1 : Int} : zS 194 41 [zR a0, zI a1, zI a2, zI a3, zI a4] [zI s0, zI s1, zR s2] sh pp mm Q ↔ zS 194 42 [zR a0, zI a1, zI a2, zI a3, zI a4] [zI 2, zI s0, zI s1, zR s2] sh pp mm Q := s_go cM_shake_41 cM_shake_42 rfl rfl
theorem rM_shake_42 {a0 s3 : Nat} {a1 a2 a3 a4 s0 s1 s2 : Int} : zS 194 42 [zR a0, zI a1, zI a2, zI a3, zI a4] [zI s0, zI s1, zI s2, zR s3] sh pp mm Q ↔ zS 194 43 [zR a0, zI a1, zI a2, zI a3, zI a4] [zI a2, zI s0, zI s1, zI s2, zR s3] sh pp mm Q := s_go cM_shake_42 cM_shake_43 rfl rfl
theorem rM_shake_43 {a0 s4 : Nat} {a1 a2 a3 a4 s0 s1 s2 s3 : Int} : zS 194 43 [zR a0, zI a1, zI a2, zI a3, zI a4] [zI s0, zI s1, zI s2, zI s3, zR s4] sh pp mm Q ↔ zS 194 44 [zR a0, zI a1, zI a2, zI a3, zI a4] [zI (zw32 (s1 * s0)), zI s2, zI s3, zR s4] sh pp mm Q := s_go cM_shake_43 cM_shake_44 rfl rfl
theorem rM_shake_44 {a0 s3 : Nat} {a1 a2 a3 a4 s0 s1 s2 : Int} : zS 194 44 [zR a0, zI a1, zI a2, zI a3, zI a4] [zI s0, zI s1, zI s2, zR s3] sh pp mm Q ↔ zS 194 45 [zR a0, zI a1, zI a2, zI a3, zI a4] [zI (zw32 (s1 + s0)), zI s2, zR s3] sh pp mm Q := s_go cM_shake_44 cM_shake_45 rfl rfl
theorem rM_shake_45 {a0 s2 : Nat} {a1 a2 a3 a4 s0 s1 : Int} : zS 194 45 [zR a0, zI a1, zI a2, zI a3, zI a4] [zI s0, zI s1, zR s2] sh pp mm Q ↔ zS 194 46 [zR a0, zI a1, zI a2, zI a3, zI a4] [zI a1, zI s0, zI s1, zR s2] sh pp mm Q := s_go cM_shake_45 cM_shake_46 rfl rfl
theorem rM_shake_46 {a0 s3 : Nat} {a1 a2 a3 a4 s0 s1 s2 : Int} : zS 194 46 [zR a0, zI a1, zI a2, zI a3, zI a4] [zI s0, zI s1, zI s2, zR s3] sh pp mm Q ↔ zS 194 47 [zR a0, zI a1, zI a2, zI a3, zI a4] [zI (zw32 (s1 + s0)), zI s2, zR s3] sh pp mm Q := s_go cM_shake_46 cM_shake_47 rfl rfl
theorem rM_shake_47 {a0 s2 : Nat} {a1 a2 a3 a4 s0 s1 : Int} : zS 194 47 [zR a0, zI a1, zI a2, zI a3, zI a4] [zI s0, zI s1, zR s2] sh pp mm Q ↔ zS 194 48 [zR a0, zI a1, zI a2, zI a3, zI a4] [zI 3, zI s0, zI s1, zR s2] sh pp mm Q := s_go cM_shake_47 cM_shake_48 rfl rfl
theorem rM_shake_48 {a0 s3 : Nat} {a1 a2 a3 a4 s0 s1 s2 : Int} (hz : s0 ≠ 0) : zS 194 48 [zR a0, zI a1, zI a2, zI a3, zI a4] [zI s0, zI s1, zI s2, zR s3] sh pp mm Q ↔ zS 194 49 [zR a0, zI a1, zI a2, zI a3, zI a4] [zI (s1.tmod s0), zI s2, zR s3] sh pp mm Q := s_go cM_shake_48 cM_shake_49 (if_neg hz) rfl
theorem rM_shake_49 {a0 s2 : Nat} {a1 a2 a3 a4 s0 s1 : Int} : zS 194 49 [zR a0, zI a1, zI a2, zI a3, zI a4] [zI s0, zI s1, zR s2] sh pp mm Q ↔ (s0 = 0 → zS 194 52 [zR a0, zI a1, zI a2, zI a3, zI a4] [zI s1, zR s2] sh pp mm Q) ∧ (¬ s0 = 0 → zS 194 61 [zR a0, zI a1, zI a2, zI a3, zU] [zI s1, zR s2] sh pp mm Q) := s_ifn cM_shake_49 cM_shake_52 cM_shake_61 rfl rfl rfl
theorem rM_shake_52 {a0 s1 : Nat} {a1 a2 a3 a4 s0 : Int} : zS 194 52 [zR a0, zI a1, zI a2, zI a3, zI a4] [zI s0, zR s1] sh pp mm Q ↔ zS 194 54 [zR a0, zI a1, zI a2, zI a3, zU] [zI a4, zI s0, zR s1] sh pp mm Q := s_go cM_shake_52 cM_shake_54 rfl rfl
theorem rM_shake_54 {a0 s2 : Nat} {a1 a2 a3 s0 s1 : Int} {u4 : zV} : zS 194 54 [zR a0, zI a1, zI a2, zI a3, u4] [zI s0, zI s1, zR s2] sh pp mm Q ↔ zS 194 55 [zR a0, zI a1, zI a2, zI a3, zU] [zR a0, zI s0, zI s1, zR s2] sh pp mm Q := s_go cM_shake_54 cM_shake_55 rfl rfl
theorem rM_shake_55 {a0 s0 s3 : Nat} {a1 a2 a3 s1 s2 : Int} {u4 : zV} (hk : zKd sh s0 = 12) : zS 194 55 [zR a0, zI a1, zI a2, zI a3, u4] [zR s0, zI s1, zI s2, zR s3] sh pp mm Q ↔ zS 188 0 [zR s0] [] sh pp mm (fun v sh pp mm => zS 194 58 [zR a0, zI a1, zI a2, zI a3, zU] (zPush v [zI s1, zI s2, zR s3]) sh pp mm Q) := s_call cM_shake_55 cM_shake_58 ((if_pos hk).trans rfl) rfl
theorem rM_shake_58 {a0 s3 : Nat} {a1 a2 a3 s0 s1 s2 : Int} {u4 : zV} : zS 194 58 [zR a0, zI a1, zI a2, zI a3, u4] [zI s0, zI s1, zI s2, zR s3] sh pp mm Q ↔ (s1 = s0 → zS 194 61 [zR a0, zI a1, zI a2, zI a3, zU] [zI s2, zR s3] sh pp mm Q) ∧ (¬ s1 = s0 → zS 194 65 [zR a0, zI a1, zI a2, zI a3, zU] [zI s2, zR s3] sh pp mm Q) := s_ifn cM_shake_58 cM_shake_61 cM_shake_65 rfl rfl rfl
theorem rM_shake_61 {a0 s1 : Nat} {a1 a2 a3 s0 : Int} {u4 : zV} : zS 194 61 [zR a0, zI a1, zI a2, zI a3, u4] [zI s0, zR s1] sh pp mm Q ↔ zS 194 62 [zR a0, zI a1, zI a2, zI a3, zU] [zI 1, zI s0, zR s1] sh pp mm Q := s_go cM_shake_61 cM_shake_62 rfl rfl
theorem rM_shake_62 {a0 s2 : Nat} {a1 a2 a3 s0 s1 : Int} {u4 : zV} : zS 194 62 [zR a0, zI a1, zI a2, zI a3, u4] [zI s0, zI s1, zR s2] sh pp mm Q ↔ zS 194 66 [zR a0, zI a1, zI a2, zI a3, zU] [zI s0, zI s1, zR s2] sh pp mm Q := s_go cM_shake_62 cM_shake_66 rfl rfl
theorem rM_shake_65 {a0 s1 : Nat} {a1 a2 a3 s0 : Int} {u4 : zV} : zS 194 65 [zR a0, zI a1, zI a2, zI a3, u4] [zI s0, zR s1] sh pp mm Q ↔ zS 194 66 [zR a0, zI a1, zI a2, zI a3, zU] [zI 0, zI s0, zR s1] sh pp mm Q := s_go cM_shake_65 cM_shake_66 rfl rfl
theorem rM_shake_66 {a0 s2 : Nat} {a1 a2 a3 s0 s1 : Int} {u4 : zV} (hk : zKd sh s2 = 22) (h0 : 0 ≤ s1) (h1 : s1 < zLn sh s2) (hb : s0 = 0 ∨ s0 = 1) : zS 194 66 [zR a0, zI a1, zI a2, zI a3, u4] [zI s0, zI s1, zR s2] sh pp mm Q ↔ zS 194 67 [zR a0, zI a1, zI a2, zI a3, zU] [] sh pp (zupd mm s2 s1 s0) Q := s_go cM_shake_66 cM_shake_67 (if_pos ⟨hk, h0, h1, fun _ => hb⟩) rfl
theorem rM_shake_67 {a0 : Nat} {a1 a2 a3 : Int} {u4 : zV} : zS 194 67 [zR a0, zI a1, zI a2, zI a3, u4] [] sh pp mm Q ↔ zS 194 70 [zR a0, zI a1, zI a2, zI (zw32 (a3 + 1)), zU] [] sh pp mm Q := s_go cM_shake_67 cM_shake_70 rfl rfl
theorem rM_shake_70 {a0 : Nat} {a1 a2 a3 : Int} {u4 : zV} : zS 194 70 [zR a0, zI a1, zI a2, zI a3, u4] [] sh pp mm Q ↔ zS 194 10 [zR a0, zI a1, zI a2, zI a3, zU] [] sh pp mm Q := s_go cM_shake_70 cM_shake_10 rfl rfl
theorem rM_shake_73 {a0 : Nat} {a1 a2 : Int} {u3 u4 : zV} : zS 194 73 [zR a0, zI a1, zI a2, u3, u4] [] sh pp mm Q ↔ zS 194 76 [zR a0, zI a1, zI (zw32 (a2 + 1)), zU, zU] [] sh pp mm Q := s_go cM_shake_73 cM_shake_76 rfl rfl
theorem rM_shake_76 {a0 : Nat} {a1 a2 : Int} {u3 u4 : zV} : zS 194 76 [zR a0, zI a1, zI a2, u3, u4] [] sh pp mm Q ↔ zS 194 2 [zR a0, zI a1, zI a2, zU, zU] [] sh pp mm Q := s_go cM_shake_76 cM_shake_2 rfl rfl
theorem rM_shake_79 {u0 u1 u2 u3 u4 : zV} : zS 194 79 [u0, u1, u2, u3, u4] [] sh pp mm Q ↔ Q zU sh pp mm := s_ret cM_shake_79 rfl
theorem cAM_startPlate : ∀ q ∈ zT195, zCode 195 q.1 = some q.2 := zAll (mid := 195) rfl (by decide +kernel)
theorem cAM_startPlate_0 : ∀ q ∈ zT195_0, zCode 195 q.1 = some q.2 := fun q h => cAM_startPlate q (List.mem_append_left _ h)
theorem cAM_startPlate_1 : ∀ q ∈ zT195_1, zCode 195 q.1 = some q.2 := fun q h => cAM_startPlate q (List.mem_append_right _ (List.mem_append_left _ h))
theorem cAM_startPlate_2 : ∀ q ∈ zT195_2, zCode 195 q.1 = some q.2 := fun q h => cAM_startPlate q (List.mem_append_right _ (List.mem_append_right _ (List.mem_append_left _ h)))
theorem cAM_startPlate_3 : ∀ q ∈ zT195_3, zCode 195 q.1 = some q.2 := fun q h => cAM_startPlate q (List.mem_append_right _ (List.mem_append_right _ (List.mem_append_right _ (List.mem_append_left _ h))))
theorem cAM_startPlate_4 : ∀ q ∈ zT195_4, zCode 195 q.1 = some q.2 := fun q h => cAM_startPlate q (List.mem_append_right _ (List.mem_append_right _ (List.mem_append_right _ (List.mem_append_right _ h))))
theorem cM_startPlate_0 : zCode 195 0 = some (.iconst 0, 1, 0, 0, 0, 0, 1) := cAM_startPlate_0 _ (List.mem_of_getElem? (i := 0) rfl)
theorem cM_startPlate_1 : zCode 195 1 = some (.istore_n 1, 2, 0, 0, 0, 0, 1) := cAM_startPlate_0 _ (List.mem_of_getElem? (i := 1) rfl)
theorem cM_startPlate_2 : zCode 195 2 = some (.iload_n 1, 3, 0, 0, 0, 0, 3) := cAM_startPlate_0 _ (List.mem_of_getElem? (i := 2) rfl)
theorem cM_startPlate_3 : zCode 195 3 = some (.sipush 384, 6, 0, 0, 0, 0, 3) := cAM_startPlate_0 _ (List.mem_of_getElem? (i := 3) rfl)
theorem cM_startPlate_6 : zCode 195 6 = some (.if_icmp .ge 16, 9, 22, 0, 0, 0, 3) := cAM_startPlate_0 _ (List.mem_of_getElem? (i := 4) rfl)
theorem cM_startPlate_9 : zCode 195 9 = some (.aload_n 0, 10, 0, 0, 0, 0, 3) := cAM_startPlate_0 _ (List.mem_of_getElem? (i := 5) rfl)
theorem cM_startPlate_10 : zCode 195 10 = some (.getfield 39, 13, 12, 18, 2, 1227, 3) := cAM_startPlate_0 _ (List.mem_of_getElem? (i := 6) rfl)
theorem cM_startPlate_13 : zCode 195 13 = some (.iload_n 1, 14, 0, 0, 0, 0, 3) := cAM_startPlate_0 _ (List.mem_of_getElem? (i := 7) rfl)
theorem cM_startPlate_14 : zCode 195 14 = some (.iconst 0, 15, 0, 0, 0, 0, 3) := cAM_startPlate_0 _ (List.mem_of_getElem? (i := 8) rfl)
theorem cM_startPlate_15 : zCode 195 15 = some (.bastore, 16, 0, 0, 0, 0, 3) := cAM_startPlate_0 _ (List.mem_of_getElem? (i := 9) rfl)
theorem cM_startPlate_16 : zCode 195 16 = some (.iinc 1 1, 19, 0, 0, 0, 0, 3) := cAM_startPlate_0 _ (List.mem_of_getElem? (i := 10) rfl)
theorem cM_startPlate_19 : zCode 195 19 = some (.goto (-17), 22, 2, 0, 0, 0, 3) := cAM_startPlate_0 _ (List.mem_of_getElem? (i := 11) rfl)
theorem cM_startPlate_22 : zCode 195 22 = some (.iconst 0, 23, 0, 0, 0, 0, 1) := cAM_startPlate_0 _ (List.mem_of_getElem? (i := 12) rfl)
theorem cM_startPlate_23 : zCode 195 23 = some (.istore_n 1, 24, 0, 0, 0, 0, 1) := cAM_startPlate_0 _ (List.mem_of_getElem? (i := 13) rfl)
theorem cM_startPlate_24 : zCode 195 24 = some (.iload_n 1, 25, 0, 0, 0, 0, 3) := cAM_startPlate_0 _ (List.mem_of_getElem? (i := 14) rfl)
theorem cM_startPlate_25 : zCode 195 25 = some (.iconst 2, 26, 0, 0, 0, 0, 3) := cAM_startPlate_0 _ (List.mem_of_getElem? (i := 15) rfl)
theorem cM_startPlate_26 : zCode 195 26 = some (.if_icmp .ge 36, 29, 62, 0, 0, 0, 3) := cAM_startPlate_1 _ (List.mem_of_getElem? (i := 0) rfl)
theorem cM_startPlate_29 : zCode 195 29 = some (.aload_n 0, 30, 0, 0, 0, 0, 3) := cAM_startPlate_1 _ (List.mem_of_getElem? (i := 1) rfl)
theorem cM_startPlate_30 : zCode 195 30 = some (.getfield 30, 33, 12, 15, 2, 1224, 3) := cAM_startPlate_1 _ (List.mem_of_getElem? (i := 2) rfl)
theorem cM_startPlate_33 : zCode 195 33 = some (.iload_n 1, 34, 0, 0, 0, 0, 3) := cAM_startPlate_1 _ (List.mem_of_getElem? (i := 3) rfl)
theorem cM_startPlate_34 : zCode 195 34 = some (.iconst 0, 35, 0, 0, 0, 0, 3) := cAM_startPlate_1 _ (List.mem_of_getElem? (i := 4) rfl)
theorem cM_startPlate_35 : zCode 195 35 = some (.iastore, 36, 0, 0, 0, 0, 3) := cAM_startPlate_1 _ (List.mem_of_getElem? (i := 5) rfl)
theorem cM_startPlate_36 : zCode 195 36 = some (.aload_n 0, 37, 0, 0, 0, 0, 3) := cAM_startPlate_1 _ (List.mem_of_getElem? (i := 6) rfl)
theorem cM_startPlate_37 : zCode 195 37 = some (.getfield 33, 40, 12, 16, 2, 1225, 3) := cAM_startPlate_1 _ (List.mem_of_getElem? (i := 7) rfl)
theorem cM_startPlate_40 : zCode 195 40 = some (.iload_n 1, 41, 0, 0, 0, 0, 3) := cAM_startPlate_1 _ (List.mem_of_getElem? (i := 8) rfl)
theorem cM_startPlate_41 : zCode 195 41 = some (.aload_n 0, 42, 0, 0, 0, 0, 3) := cAM_startPlate_1 _ (List.mem_of_getElem? (i := 9) rfl)
theorem cM_startPlate_42 : zCode 195 42 = some (.iconst 2, 43, 0, 0, 0, 0, 3) := cAM_startPlate_1 _ (List.mem_of_getElem? (i := 10) rfl)
theorem cM_startPlate_43 : zCode 195 43 = some (.iload_n 1, 44, 0, 0, 0, 0, 3) := cAM_startPlate_1 _ (List.mem_of_getElem? (i := 11) rfl)
theorem cM_startPlate_44 : zCode 195 44 = some (.iadd, 45, 0, 0, 0, 0, 3) := cAM_startPlate_1 _ (List.mem_of_getElem? (i := 12) rfl)
theorem cM_startPlate_45 : zCode 195 45 = some (.invokevirtual 135, 48, 168, 1, 2, 12, 3) := cAM_startPlate_1 _ (List.mem_of_getElem? (i := 13) rfl)
theorem cM_startPlate_48 : zCode 195 48 = some (.iastore, 49, 0, 0, 0, 0, 3) := cAM_startPlate_1 _ (List.mem_of_getElem? (i := 14) rfl)
theorem cM_startPlate_49 : zCode 195 49 = some (.aload_n 0, 50, 0, 0, 0, 0, 3) := cAM_startPlate_1 _ (List.mem_of_getElem? (i := 15) rfl)
theorem cM_startPlate_50 : zCode 195 50 = some (.getfield 36, 53, 12, 17, 2, 1226, 3) := cAM_startPlate_2 _ (List.mem_of_getElem? (i := 0) rfl)
theorem cM_startPlate_53 : zCode 195 53 = some (.iload_n 1, 54, 0, 0, 0, 0, 3) := cAM_startPlate_2 _ (List.mem_of_getElem? (i := 1) rfl)
theorem cM_startPlate_54 : zCode 195 54 = some (.iconst 0, 55, 0, 0, 0, 0, 3) := cAM_startPlate_2 _ (List.mem_of_getElem? (i := 2) rfl)
theorem cM_startPlate_55 : zCode 195 55 = some (.iastore, 56, 0, 0, 0, 0, 3) := cAM_startPlate_2 _ (List.mem_of_getElem? (i := 3) rfl)
theorem cM_startPlate_56 : zCode 195 56 = some (.iinc 1 1, 59, 0, 0, 0, 0, 3) := cAM_startPlate_2 _ (List.mem_of_getElem? (i := 4) rfl)
theorem cM_startPlate_59 : zCode 195 59 = some (.goto (-35), 62, 24, 0, 0, 0, 3) := cAM_startPlate_2 _ (List.mem_of_getElem? (i := 5) rfl)
theorem cM_startPlate_62 : zCode 195 62 = some (.aload_n 0, 63, 0, 0, 0, 0, 1) := cAM_startPlate_2 _ (List.mem_of_getElem? (i := 6) rfl)
theorem cM_startPlate_63 : zCode 195 63 = some (.iconst 0, 64, 0, 0, 0, 0, 1) := cAM_startPlate_2 _ (List.mem_of_getElem? (i := 7) rfl)
theorem cM_startPlate_64 : zCode 195 64 = some (.putfield 241, 67, 12, 20, 0, 1229, 1) := cAM_startPlate_2 _ (List.mem_of_getElem? (i := 8) rfl)
theorem cM_startPlate_67 : zCode 195 67 = some (.aload_n 0, 68, 0, 0, 0, 0, 1) := cAM_startPlate_2 _ (List.mem_of_getElem? (i := 9) rfl)
theorem cM_startPlate_68 : zCode 195 68 = some (.iconst 0, 69, 0, 0, 0, 0, 1) := cAM_startPlate_2 _ (List.mem_of_getElem? (i := 10) rfl)
theorem cM_startPlate_69 : zCode 195 69 = some (.putfield 217, 72, 12, 21, 0, 1230, 1) := cAM_startPlate_2 _ (List.mem_of_getElem? (i := 11) rfl)
theorem cM_startPlate_72 : zCode 195 72 = some (.aload_n 0, 73, 0, 0, 0, 0, 1) := cAM_startPlate_2 _ (List.mem_of_getElem? (i := 12) rfl)
theorem cM_startPlate_73 : zCode 195 73 = some (.iconst 0, 74, 0, 0, 0, 0, 1) := cAM_startPlate_2 _ (List.mem_of_getElem? (i := 13) rfl)
theorem cM_startPlate_74 : zCode 195 74 = some (.putfield 223, 77, 12, 22, 0, 1231, 1) := cAM_startPlate_2 _ (List.mem_of_getElem? (i := 14) rfl)
theorem cM_startPlate_77 : zCode 195 77 = some (.aload_n 0, 78, 0, 0, 0, 0, 1) := cAM_startPlate_2 _ (List.mem_of_getElem? (i := 15) rfl)
theorem cM_startPlate_78 : zCode 195 78 = some (.iconst 0, 79, 0, 0, 0, 0, 1) := cAM_startPlate_3 _ (List.mem_of_getElem? (i := 0) rfl)
theorem cM_startPlate_79 : zCode 195 79 = some (.putfield 226, 82, 12, 23, 0, 1232, 1) := cAM_startPlate_3 _ (List.mem_of_getElem? (i := 1) rfl)
theorem cM_startPlate_82 : zCode 195 82 = some (.aload_n 0, 83, 0, 0, 0, 0, 1) := cAM_startPlate_3 _ (List.mem_of_getElem? (i := 2) rfl)
theorem cM_startPlate_83 : zCode 195 83 = some (.iconst 0, 84, 0, 0, 0, 0, 1) := cAM_startPlate_3 _ (List.mem_of_getElem? (i := 3) rfl)
theorem cM_startPlate_84 : zCode 195 84 = some (.putfield 220, 87, 12, 24, 0, 1233, 1) := cAM_startPlate_3 _ (List.mem_of_getElem? (i := 4) rfl)
theorem cM_startPlate_87 : zCode 195 87 = some (.aload_n 0, 88, 0, 0, 0, 0, 1) := cAM_startPlate_3 _ (List.mem_of_getElem? (i := 5) rfl)
theorem cM_startPlate_88 : zCode 195 88 = some (.iconst 0, 89, 0, 0, 0, 0, 1) := cAM_startPlate_3 _ (List.mem_of_getElem? (i := 6) rfl)
theorem cM_startPlate_89 : zCode 195 89 = some (.putfield 247, 92, 12, 25, 0, 1234, 1) := cAM_startPlate_3 _ (List.mem_of_getElem? (i := 7) rfl)
theorem cM_startPlate_92 : zCode 195 92 = some (.aload_n 0, 93, 0, 0, 0, 0, 1) := cAM_startPlate_3 _ (List.mem_of_getElem? (i := 8) rfl)
theorem cM_startPlate_93 : zCode 195 93 = some (.iconst 0, 94, 0, 0, 0, 0, 1) := cAM_startPlate_3 _ (List.mem_of_getElem? (i := 9) rfl)
theorem cM_startPlate_94 : zCode 195 94 = some (.putfield 250, 97, 12, 26, 3, 1235, 1) := cAM_startPlate_3 _ (List.mem_of_getElem? (i := 10) rfl)
theorem cM_startPlate_97 : zCode 195 97 = some (.aload_n 0, 98, 0, 0, 0, 0, 1) := cAM_startPlate_3 _ (List.mem_of_getElem? (i := 11) rfl)
theorem cM_startPlate_98 : zCode 195 98 = some (.getfield 39, 101, 12, 18, 2, 1227, 1) := cAM_startPlate_3 _ (List.mem_of_getElem? (i := 12) rfl)
theorem cM_startPlate_101 : zCode 195 101 = some (.aload_n 0, 102, 0, 0, 0, 0, 1) := cAM_startPlate_3 _ (List.mem_of_getElem? (i := 13) rfl)
theorem cM_startPlate_102 : zCode 195 102 = some (.invokevirtual 244, 105, 188, 0, 1, 12, 1) := cAM_startPlate_3 _ (List.mem_of_getElem? (i := 14) rfl)
theorem cM_startPlate_105 : zCode 195 105 = some (.iconst 1, 106, 0, 0, 0, 0, 1) := cAM_startPlate_3 _ (List.mem_of_getElem? (i := 15) rfl)
theorem cM_startPlate_106 : zCode 195 106 = some (.bastore, 107, 0, 0, 0, 0, 1) := cAM_startPlate_4 _ (List.mem_of_getElem? (i := 0) rfl)
theorem cM_startPlate_107 : zCode 195 107 = some (.aload_n 0, 108, 0, 0, 0, 0, 1) := cAM_startPlate_4 _ (List.mem_of_getElem? (i := 1) rfl)
theorem cM_startPlate_108 : zCode 195 108 = some (.getfield 42, 111, 12, 19, 2, 1228, 1) := cAM_startPlate_4 _ (List.mem_of_getElem? (i := 2) rfl)
theorem cM_startPlate_111 : zCode 195 111 = some (.iconst 0, 112, 0, 0, 0, 0, 1) := cAM_startPlate_4 _ (List.mem_of_getElem? (i := 3) rfl)
theorem cM_startPlate_112 : zCode 195 112 = some (.aload_n 0, 113, 0, 0, 0, 0, 1) := cAM_startPlate_4 _ (List.mem_of_getElem? (i := 4) rfl)
theorem cM_startPlate_113 : zCode 195 113 = some (.invokevirtual 244, 116, 188, 0, 1, 12, 0) := cAM_startPlate_4 _ (List.mem_of_getElem? (i := 5) rfl)
theorem cM_startPlate_116 : zCode 195 116 = some (.iastore, 117, 0, 0, 0, 0, 0) := cAM_startPlate_4 _ (List.mem_of_getElem? (i := 6) rfl)
theorem cM_startPlate_117 : zCode 195 117 = some (.return_, 118, 0, 0, 0, 0, 0) := cAM_startPlate_4 _ (List.mem_of_getElem? (i := 7) rfl)
theorem rM_startPlate_0 {a0 : Nat} {u1 : zV} : zS 195 0 [zR a0, u1] [] sh pp mm Q ↔ zS 195 1 [zR a0, zU] [zI 0] sh pp mm Q := s_go cM_startPlate_0 cM_startPlate_1 rfl rfl
theorem rM_startPlate_1 {a0 : Nat} {s0 : Int} {u1 : zV} : zS 195 1 [zR a0, u1] [zI s0] sh pp mm Q ↔ zS 195 2 [zR a0, zI s0] [] sh pp mm Q := s_go cM_startPlate_1 cM_startPlate_2 rfl rfl
theorem rM_startPlate_2 {a0 : Nat} {a1 : Int} : zS 195 2 [zR a0, zI a1] [] sh pp mm Q ↔ zS 195 3 [zR a0, zI a1] [zI a1] sh pp mm Q := s_go cM_startPlate_2 cM_startPlate_3 rfl rfl
theorem rM_startPlate_3 {a0 : Nat} {a1 s0 : Int} : zS 195 3 [zR a0, zI a1] [zI s0] sh pp mm Q ↔ zS 195 6 [zR a0, zI a1] [zI 384, zI s0] sh pp mm Q := s_go cM_startPlate_3 cM_startPlate_6 rfl rfl
theorem rM_startPlate_6 {a0 : Nat} {a1 s0 s1 : Int} : zS 195 6 [zR a0, zI a1] [zI s0, zI s1] sh pp mm Q ↔ (s1 < s0 → zS 195 9 [zR a0, zI a1] [] sh pp mm Q) ∧ (¬ s1 < s0 → zS 195 22 [zR a0, zU] [] sh pp mm Q) := s_ifn cM_startPlate_6 cM_startPlate_9 cM_startPlate_22 rfl rfl rfl
theorem rM_startPlate_9 {a0 : Nat} {a1 : Int} : zS 195 9 [zR a0, zI a1] [] sh pp mm Q ↔ zS 195 10 [zR a0, zI a1] [zR a0] sh pp mm Q := s_go cM_startPlate_9 cM_startPlate_10 rfl rfl
theorem rM_startPlate_10 {a0 s0 : Nat} {a1 : Int} (hk : zKd sh s0 = 12) : zS 195 10 [zR a0, zI a1] [zR s0] sh pp mm Q ↔ zS 195 13 [zR a0, zI a1] [zR (pp s0 18)] sh pp mm Q := s_go cM_startPlate_10 cM_startPlate_13 (if_pos hk) rfl
theorem rM_startPlate_13 {a0 s0 : Nat} {a1 : Int} : zS 195 13 [zR a0, zI a1] [zR s0] sh pp mm Q ↔ zS 195 14 [zR a0, zI a1] [zI a1, zR s0] sh pp mm Q := s_go cM_startPlate_13 cM_startPlate_14 rfl rfl
theorem rM_startPlate_14 {a0 s1 : Nat} {a1 s0 : Int} : zS 195 14 [zR a0, zI a1] [zI s0, zR s1] sh pp mm Q ↔ zS 195 15 [zR a0, zI a1] [zI 0, zI s0, zR s1] sh pp mm Q := s_go cM_startPlate_14 cM_startPlate_15 rfl rfl
theorem rM_startPlate_15 {a0 s2 : Nat} {a1 s0 s1 : Int} (hk : zKd sh s2 = 22) (h0 : 0 ≤ s1) (h1 : s1 < zLn sh s2) (hb : s0 = 0 ∨ s0 = 1) : zS 195 15 [zR a0, zI a1] [zI s0, zI s1, zR s2] sh pp mm Q ↔ zS 195 16 [zR a0, zI a1] [] sh pp (zupd mm s2 s1 s0) Q := s_go cM_startPlate_15 cM_startPlate_16 (if_pos ⟨hk, h0, h1, fun _ => hb⟩) rfl
theorem rM_startPlate_16 {a0 : Nat} {a1 : Int} : zS 195 16 [zR a0, zI a1] [] sh pp mm Q ↔ zS 195 19 [zR a0, zI (zw32 (a1 + 1))] [] sh pp mm Q := s_go cM_startPlate_16 cM_startPlate_19 rfl rfl
theorem rM_startPlate_19 {a0 : Nat} {a1 : Int} : zS 195 19 [zR a0, zI a1] [] sh pp mm Q ↔ zS 195 2 [zR a0, zI a1] [] sh pp mm Q := s_go cM_startPlate_19 cM_startPlate_2 rfl rfl
theorem rM_startPlate_22 {a0 : Nat} {u1 : zV} : zS 195 22 [zR a0, u1] [] sh pp mm Q ↔ zS 195 23 [zR a0, zU] [zI 0] sh pp mm Q := s_go cM_startPlate_22 cM_startPlate_23 rfl rfl
theorem rM_startPlate_23 {a0 : Nat} {s0 : Int} {u1 : zV} : zS 195 23 [zR a0, u1] [zI s0] sh pp mm Q ↔ zS 195 24 [zR a0, zI s0] [] sh pp mm Q := s_go cM_startPlate_23 cM_startPlate_24 rfl rfl
theorem rM_startPlate_24 {a0 : Nat} {a1 : Int} : zS 195 24 [zR a0, zI a1] [] sh pp mm Q ↔ zS 195 25 [zR a0, zI a1] [zI a1] sh pp mm Q := s_go cM_startPlate_24 cM_startPlate_25 rfl rfl
theorem rM_startPlate_25 {a0 : Nat} {a1 s0 : Int} : zS 195 25 [zR a0, zI a1] [zI s0] sh pp mm Q ↔ zS 195 26 [zR a0, zI a1] [zI 2, zI s0] sh pp mm Q := s_go cM_startPlate_25 cM_startPlate_26 rfl rfl
theorem rM_startPlate_26 {a0 : Nat} {a1 s0 s1 : Int} : zS 195 26 [zR a0, zI a1] [zI s0, zI s1] sh pp mm Q ↔ (s1 < s0 → zS 195 29 [zR a0, zI a1] [] sh pp mm Q) ∧ (¬ s1 < s0 → zS 195 62 [zR a0, zU] [] sh pp mm Q) := s_ifn cM_startPlate_26 cM_startPlate_29 cM_startPlate_62 rfl rfl rfl
theorem rM_startPlate_29 {a0 : Nat} {a1 : Int} : zS 195 29 [zR a0, zI a1] [] sh pp mm Q ↔ zS 195 30 [zR a0, zI a1] [zR a0] sh pp mm Q := s_go cM_startPlate_29 cM_startPlate_30 rfl rfl
theorem rM_startPlate_30 {a0 s0 : Nat} {a1 : Int} (hk : zKd sh s0 = 12) : zS 195 30 [zR a0, zI a1] [zR s0] sh pp mm Q ↔ zS 195 33 [zR a0, zI a1] [zR (pp s0 15)] sh pp mm Q := s_go cM_startPlate_30 cM_startPlate_33 (if_pos hk) rfl
theorem rM_startPlate_33 {a0 s0 : Nat} {a1 : Int} : zS 195 33 [zR a0, zI a1] [zR s0] sh pp mm Q ↔ zS 195 34 [zR a0, zI a1] [zI a1, zR s0] sh pp mm Q := s_go cM_startPlate_33 cM_startPlate_34 rfl rfl
theorem rM_startPlate_34 {a0 s1 : Nat} {a1 s0 : Int} : zS 195 34 [zR a0, zI a1] [zI s0, zR s1] sh pp mm Q ↔ zS 195 35 [zR a0, zI a1] [zI 0, zI s0, zR s1] sh pp mm Q := s_go cM_startPlate_34 cM_startPlate_35 rfl rfl
theorem rM_startPlate_35 {a0 s2 : Nat} {a1 s0 s1 : Int} (hk : zKd sh s2 = 20) (h0 : 0 ≤ s1) (h1 : s1 < zLn sh s2) : zS 195 35 [zR a0, zI a1] [zI s0, zI s1, zR s2] sh pp mm Q ↔ zS 195 36 [zR a0, zI a1] [] sh pp (zupd mm s2 s1 s0) Q := s_go cM_startPlate_35 cM_startPlate_36 (if_pos ⟨hk, h0, h1, fun h => absurd h (by decide)⟩) rfl
theorem rM_startPlate_36 {a0 : Nat} {a1 : Int} : zS 195 36 [zR a0, zI a1] [] sh pp mm Q ↔ zS 195 37 [zR a0, zI a1] [zR a0] sh pp mm Q := s_go cM_startPlate_36 cM_startPlate_37 rfl rfl
theorem rM_startPlate_37 {a0 s0 : Nat} {a1 : Int} (hk : zKd sh s0 = 12) : zS 195 37 [zR a0, zI a1] [zR s0] sh pp mm Q ↔ zS 195 40 [zR a0, zI a1] [zR (pp s0 16)] sh pp mm Q := s_go cM_startPlate_37 cM_startPlate_40 (if_pos hk) rfl
theorem rM_startPlate_40 {a0 s0 : Nat} {a1 : Int} : zS 195 40 [zR a0, zI a1] [zR s0] sh pp mm Q ↔ zS 195 41 [zR a0, zI a1] [zI a1, zR s0] sh pp mm Q := s_go cM_startPlate_40 cM_startPlate_41 rfl rfl
theorem rM_startPlate_41 {a0 s1 : Nat} {a1 s0 : Int} : zS 195 41 [zR a0, zI a1] [zI s0, zR s1] sh pp mm Q ↔ zS 195 42 [zR a0, zI a1] [zR a0, zI s0, zR s1] sh pp mm Q := s_go cM_startPlate_41 cM_startPlate_42 rfl rfl
theorem rM_startPlate_42 {a0 s0 s2 : Nat} {a1 s1 : Int} : zS 195 42 [zR a0, zI a1] [zR s0, zI s1, zR s2] sh pp mm Q ↔ zS 195 43 [zR a0, zI a1] [zI 2, zR s0, zI s1, zR s2] sh pp mm Q := s_go cM_startPlate_42 cM_startPlate_43 rfl rfl
theorem rM_startPlate_43 {a0 s1 s3 : Nat} {a1 s0 s2 : Int} : zS 195 43 [zR a0, zI a1] [zI s0, zR s1, zI s2, zR s3] sh pp mm Q ↔ zS 195 44 [zR a0, zI a1] [zI a1, zI s0, zR s1, zI s2, zR s3] sh pp mm Q := s_go cM_startPlate_43 cM_startPlate_44 rfl rfl
theorem rM_startPlate_44 {a0 s2 s4 : Nat} {a1 s0 s1 s3 : Int} : zS 195 44 [zR a0, zI a1] [zI s0, zI s1, zR s2, zI s3, zR s4] sh pp mm Q ↔ zS 195 45 [zR a0, zI a1] [zI (zw32 (s1 + s0)), zR s2, zI s3, zR s4] sh pp mm Q := s_go cM_startPlate_44 cM_startPlate_45 rfl rfl
theorem rM_startPlate_45 {a0 s1 s3 : Nat} {a1 s0 s2 : Int} (hk : zKd sh s1 = 12) : zS 195 45 [zR a0, zI a1] [zI s0, zR s1, zI s2, zR s3] sh pp mm Q ↔ zS 168 0 [zR s1, zI s0] [] sh pp mm (fun v sh pp mm => zS 195 48 [zR a0, zI a1] (zPush v [zI s2, zR s3]) sh pp mm Q) := s_call cM_startPlate_45 cM_startPlate_48 ((if_pos hk).trans rfl) rfl
theorem rM_startPlate_48 {a0 s2 : Nat} {a1 s0 s1 : Int} (hk : zKd sh s2 = 20) (h0 : 0 ≤ s1) (h1 : s1 < zLn sh s2) : zS 195 48 [zR a0, zI a1] [zI s0, zI s1, zR s2] sh pp mm Q ↔ zS 195 49 [zR a0, zI a1] [] sh pp (zupd mm s2 s1 s0) Q := s_go cM_startPlate_48 cM_startPlate_49 (if_pos ⟨hk, h0, h1, fun h => absurd h (by decide)⟩) rfl
theorem rM_startPlate_49 {a0 : Nat} {a1 : Int} : zS 195 49 [zR a0, zI a1] [] sh pp mm Q ↔ zS 195 50 [zR a0, zI a1] [zR a0] sh pp mm Q := s_go cM_startPlate_49 cM_startPlate_50 rfl rfl
theorem rM_startPlate_50 {a0 s0 : Nat} {a1 : Int} (hk : zKd sh s0 = 12) : zS 195 50 [zR a0, zI a1] [zR s0] sh pp mm Q ↔ zS 195 53 [zR a0, zI a1] [zR (pp s0 17)] sh pp mm Q := s_go cM_startPlate_50 cM_startPlate_53 (if_pos hk) rfl
theorem rM_startPlate_53 {a0 s0 : Nat} {a1 : Int} : zS 195 53 [zR a0, zI a1] [zR s0] sh pp mm Q ↔ zS 195 54 [zR a0, zI a1] [zI a1, zR s0] sh pp mm Q := s_go cM_startPlate_53 cM_startPlate_54 rfl rfl
theorem rM_startPlate_54 {a0 s1 : Nat} {a1 s0 : Int} : zS 195 54 [zR a0, zI a1] [zI s0, zR s1] sh pp mm Q ↔ zS 195 55 [zR a0, zI a1] [zI 0, zI s0, zR s1] sh pp mm Q := s_go cM_startPlate_54 cM_startPlate_55 rfl rfl
theorem rM_startPlate_55 {a0 s2 : Nat} {a1 s0 s1 : Int} (hk : zKd sh s2 = 20) (h0 : 0 ≤ s1) (h1 : s1 < zLn sh s2) : zS 195 55 [zR a0, zI a1] [zI s0, zI s1, zR s2] sh pp mm Q ↔ zS 195 56 [zR a0, zI a1] [] sh pp (zupd mm s2 s1 s0) Q := s_go cM_startPlate_55 cM_startPlate_56 (if_pos ⟨hk, h0, h1, fun h => absurd h (by decide)⟩) rfl
theorem rM_startPlate_56 {a0 : Nat} {a1 : Int} : zS 195 56 [zR a0, zI a1] [] sh pp mm Q ↔ zS 195 59 [zR a0, zI (zw32 (a1 + 1))] [] sh pp mm Q := s_go cM_startPlate_56 cM_startPlate_59 rfl rfl
theorem rM_startPlate_59 {a0 : Nat} {a1 : Int} : zS 195 59 [zR a0, zI a1] [] sh pp mm Q ↔ zS 195 24 [zR a0, zI a1] [] sh pp mm Q := s_go cM_startPlate_59 cM_startPlate_24 rfl rfl
theorem rM_startPlate_62 {a0 : Nat} {u1 : zV} : zS 195 62 [zR a0, u1] [] sh pp mm Q ↔ zS 195 63 [zR a0, zU] [zR a0] sh pp mm Q := s_go cM_startPlate_62 cM_startPlate_63 rfl rfl
theorem rM_startPlate_63 {a0 s0 : Nat} {u1 : zV} : zS 195 63 [zR a0, u1] [zR s0] sh pp mm Q ↔ zS 195 64 [zR a0, zU] [zI 0, zR s0] sh pp mm Q := s_go cM_startPlate_63 cM_startPlate_64 rfl rfl
theorem rM_startPlate_64 {a0 s1 : Nat} {s0 : Int} {u1 : zV} (hk : zKd sh s1 = 12) : zS 195 64 [zR a0, u1] [zI s0, zR s1] sh pp mm Q ↔ zS 195 67 [zR a0, zU] [] sh pp (zupd mm s1 20 s0) Q := s_go cM_startPlate_64 cM_startPlate_67 (if_pos ⟨hk, Or.inl rfl⟩) rfl
theorem rM_startPlate_67 {a0 : Nat} {u1 : zV} : zS 195 67 [zR a0, u1] [] sh pp mm Q ↔ zS 195 68 [zR a0, zU] [zR a0] sh pp mm Q := s_go cM_startPlate_67 cM_startPlate_68 rfl rfl
theorem rM_startPlate_68 {a0 s0 : Nat} {u1 : zV} : zS 195 68 [zR a0, u1] [zR s0] sh pp mm Q ↔ zS 195 69 [zR a0, zU] [zI 0, zR s0] sh pp mm Q := s_go cM_startPlate_68 cM_startPlate_69 rfl rfl
theorem rM_startPlate_69 {a0 s1 : Nat} {s0 : Int} {u1 : zV} (hk : zKd sh s1 = 12) : zS 195 69 [zR a0, u1] [zI s0, zR s1] sh pp mm Q ↔ zS 195 72 [zR a0, zU] [] sh pp (zupd mm s1 21 s0) Q := s_go cM_startPlate_69 cM_startPlate_72 (if_pos ⟨hk, Or.inl rfl⟩) rfl
theorem rM_startPlate_72 {a0 : Nat} {u1 : zV} : zS 195 72 [zR a0, u1] [] sh pp mm Q ↔ zS 195 73 [zR a0, zU] [zR a0] sh pp mm Q := s_go cM_startPlate_72 cM_startPlate_73 rfl rfl
theorem rM_startPlate_73 {a0 s0 : Nat} {u1 : zV} : zS 195 73 [zR a0, u1] [zR s0] sh pp mm Q ↔ zS 195 74 [zR a0, zU] [zI 0, zR s0] sh pp mm Q := s_go cM_startPlate_73 cM_startPlate_74 rfl rfl
theorem rM_startPlate_74 {a0 s1 : Nat} {s0 : Int} {u1 : zV} (hk : zKd sh s1 = 12) : zS 195 74 [zR a0, u1] [zI s0, zR s1] sh pp mm Q ↔ zS 195 77 [zR a0, zU] [] sh pp (zupd mm s1 22 s0) Q := s_go cM_startPlate_74 cM_startPlate_77 (if_pos ⟨hk, Or.inl rfl⟩) rfl
theorem rM_startPlate_77 {a0 : Nat} {u1 : zV} : zS 195 77 [zR a0, u1] [] sh pp mm Q ↔ zS 195 78 [zR a0, zU] [zR a0] sh pp mm Q := s_go cM_startPlate_77 cM_startPlate_78 rfl rfl
theorem rM_startPlate_78 {a0 s0 : Nat} {u1 : zV} : zS 195 78 [zR a0, u1] [zR s0] sh pp mm Q ↔ zS 195 79 [zR a0, zU] [zI 0, zR s0] sh pp mm Q := s_go cM_startPlate_78 cM_startPlate_79 rfl rfl
theorem rM_startPlate_79 {a0 s1 : Nat} {s0 : Int} {u1 : zV} (hk : zKd sh s1 = 12) : zS 195 79 [zR a0, u1] [zI s0, zR s1] sh pp mm Q ↔ zS 195 82 [zR a0, zU] [] sh pp (zupd mm s1 23 s0) Q := s_go cM_startPlate_79 cM_startPlate_82 (if_pos ⟨hk, Or.inl rfl⟩) rfl
theorem rM_startPlate_82 {a0 : Nat} {u1 : zV} : zS 195 82 [zR a0, u1] [] sh pp mm Q ↔ zS 195 83 [zR a0, zU] [zR a0] sh pp mm Q := s_go cM_startPlate_82 cM_startPlate_83 rfl rfl
theorem rM_startPlate_83 {a0 s0 : Nat} {u1 : zV} : zS 195 83 [zR a0, u1] [zR s0] sh pp mm Q ↔ zS 195 84 [zR a0, zU] [zI 0, zR s0] sh pp mm Q := s_go cM_startPlate_83 cM_startPlate_84 rfl rfl
theorem rM_startPlate_84 {a0 s1 : Nat} {s0 : Int} {u1 : zV} (hk : zKd sh s1 = 12) : zS 195 84 [zR a0, u1] [zI s0, zR s1] sh pp mm Q ↔ zS 195 87 [zR a0, zU] [] sh pp (zupd mm s1 24 s0) Q := s_go cM_startPlate_84 cM_startPlate_87 (if_pos ⟨hk, Or.inl rfl⟩) rfl
theorem rM_startPlate_87 {a0 : Nat} {u1 : zV} : zS 195 87 [zR a0, u1] [] sh pp mm Q ↔ zS 195 88 [zR a0, zU] [zR a0] sh pp mm Q := s_go cM_startPlate_87 cM_startPlate_88 rfl rfl
theorem rM_startPlate_88 {a0 s0 : Nat} {u1 : zV} : zS 195 88 [zR a0, u1] [zR s0] sh pp mm Q ↔ zS 195 89 [zR a0, zU] [zI 0, zR s0] sh pp mm Q := s_go cM_startPlate_88 cM_startPlate_89 rfl rfl
theorem rM_startPlate_89 {a0 s1 : Nat} {s0 : Int} {u1 : zV} (hk : zKd sh s1 = 12) : zS 195 89 [zR a0, u1] [zI s0, zR s1] sh pp mm Q ↔ zS 195 92 [zR a0, zU] [] sh pp (zupd mm s1 25 s0) Q := s_go cM_startPlate_89 cM_startPlate_92 (if_pos ⟨hk, Or.inl rfl⟩) rfl
theorem rM_startPlate_92 {a0 : Nat} {u1 : zV} : zS 195 92 [zR a0, u1] [] sh pp mm Q ↔ zS 195 93 [zR a0, zU] [zR a0] sh pp mm Q := s_go cM_startPlate_92 cM_startPlate_93 rfl rfl
theorem rM_startPlate_93 {a0 s0 : Nat} {u1 : zV} : zS 195 93 [zR a0, u1] [zR s0] sh pp mm Q ↔ zS 195 94 [zR a0, zU] [zI 0, zR s0] sh pp mm Q := s_go cM_startPlate_93 cM_startPlate_94 rfl rfl
theorem rM_startPlate_94 {a0 s1 : Nat} {s0 : Int} {u1 : zV} (hk : zKd sh s1 = 12) (hb : s0 = 0 ∨ s0 = 1) : zS 195 94 [zR a0, u1] [zI s0, zR s1] sh pp mm Q ↔ zS 195 97 [zR a0, zU] [] sh pp (zupd mm s1 26 s0) Q := s_go cM_startPlate_94 cM_startPlate_97 (if_pos ⟨hk, Or.inr ⟨rfl, hb⟩⟩) rfl
theorem rM_startPlate_97 {a0 : Nat} {u1 : zV} : zS 195 97 [zR a0, u1] [] sh pp mm Q ↔ zS 195 98 [zR a0, zU] [zR a0] sh pp mm Q := s_go cM_startPlate_97 cM_startPlate_98 rfl rfl
theorem rM_startPlate_98 {a0 s0 : Nat} {u1 : zV} (hk : zKd sh s0 = 12) : zS 195 98 [zR a0, u1] [zR s0] sh pp mm Q ↔ zS 195 101 [zR a0, zU] [zR (pp s0 18)] sh pp mm Q := s_go cM_startPlate_98 cM_startPlate_101 (if_pos hk) rfl
theorem rM_startPlate_101 {a0 s0 : Nat} {u1 : zV} : zS 195 101 [zR a0, u1] [zR s0] sh pp mm Q ↔ zS 195 102 [zR a0, zU] [zR a0, zR s0] sh pp mm Q := s_go cM_startPlate_101 cM_startPlate_102 rfl rfl
theorem rM_startPlate_102 {a0 s0 s1 : Nat} {u1 : zV} (hk : zKd sh s0 = 12) : zS 195 102 [zR a0, u1] [zR s0, zR s1] sh pp mm Q ↔ zS 188 0 [zR s0] [] sh pp mm (fun v sh pp mm => zS 195 105 [zR a0, zU] (zPush v [zR s1]) sh pp mm Q) := s_call cM_startPlate_102 cM_startPlate_105 ((if_pos hk).trans rfl) rfl
theorem rM_startPlate_105 {a0 s1 : Nat} {s0 : Int} {u1 : zV} : zS 195 105 [zR a0, u1] [zI s0, zR s1] sh pp mm Q ↔ zS 195 106 [zR a0, zU] [zI 1, zI s0, zR s1] sh pp mm Q := s_go cM_startPlate_105 cM_startPlate_106 rfl rfl
theorem rM_startPlate_106 {a0 s2 : Nat} {s0 s1 : Int} {u1 : zV} (hk : zKd sh s2 = 22) (h0 : 0 ≤ s1) (h1 : s1 < zLn sh s2) (hb : s0 = 0 ∨ s0 = 1) : zS 195 106 [zR a0, u1] [zI s0, zI s1, zR s2] sh pp mm Q ↔ zS 195 107 [zR a0, zU] [] sh pp (zupd mm s2 s1 s0) Q := s_go cM_startPlate_106 cM_startPlate_107 (if_pos ⟨hk, h0, h1, fun _ => hb⟩) rfl
theorem rM_startPlate_107 {a0 : Nat} {u1 : zV} : zS 195 107 [zR a0, u1] [] sh pp mm Q ↔ zS 195 108 [zR a0, zU] [zR a0] sh pp mm Q := s_go cM_startPlate_107 cM_startPlate_108 rfl rfl
theorem rM_startPlate_108 {a0 s0 : Nat} {u1 : zV} (hk : zKd sh s0 = 12) : zS 195 108 [zR a0, u1] [zR s0] sh pp mm Q ↔ zS 195 111 [zR a0, zU] [zR (pp s0 19)] sh pp mm Q := s_go cM_startPlate_108 cM_startPlate_111 (if_pos hk) rfl
theorem rM_startPlate_111 {a0 s0 : Nat} {u1 : zV} : zS 195 111 [zR a0, u1] [zR s0] sh pp mm Q ↔ zS 195 112 [zR a0, zU] [zI 0, zR s0] sh pp mm Q := s_go cM_startPlate_111 cM_startPlate_112 rfl rfl
theorem rM_startPlate_112 {a0 s1 : Nat} {s0 : Int} {u1 : zV} : zS 195 112 [zR a0, u1] [zI s0, zR s1] sh pp mm Q ↔ zS 195 113 [zU, zU] [zR a0, zI s0, zR s1] sh pp mm Q := s_go cM_startPlate_112 cM_startPlate_113 rfl rfl
theorem rM_startPlate_113 {s0 s2 : Nat} {s1 : Int} {u0 u1 : zV} (hk : zKd sh s0 = 12) : zS 195 113 [u0, u1] [zR s0, zI s1, zR s2] sh pp mm Q ↔ zS 188 0 [zR s0] [] sh pp mm (fun v sh pp mm => zS 195 116 [zU, zU] (zPush v [zI s1, zR s2]) sh pp mm Q) := s_call cM_startPlate_113 cM_startPlate_116 ((if_pos hk).trans rfl) rfl
theorem rM_startPlate_116 {s2 : Nat} {s0 s1 : Int} {u0 u1 : zV} (hk : zKd sh s2 = 20) (h0 : 0 ≤ s1) (h1 : s1 < zLn sh s2) : zS 195 116 [u0, u1] [zI s0, zI s1, zR s2] sh pp mm Q ↔ zS 195 117 [zU, zU] [] sh pp (zupd mm s2 s1 s0) Q := s_go cM_startPlate_116 cM_startPlate_117 (if_pos ⟨hk, h0, h1, fun h => absurd h (by decide)⟩) rfl
theorem rM_startPlate_117 {u0 u1 : zV} : zS 195 117 [u0, u1] [] sh pp mm Q ↔ Q zU sh pp mm := s_ret cM_startPlate_117 rfl
theorem cAM_does : ∀ q ∈ zT196, zCode 196 q.1 = some q.2 := zAll (mid := 196) rfl (by decide +kernel)
theorem cAM_does_0 : ∀ q ∈ zT196_0, zCode 196 q.1 = some q.2 := fun q h => cAM_does q (List.mem_append_left _ h)
theorem cAM_does_1 : ∀ q ∈ zT196_1, zCode 196 q.1 = some q.2 := fun q h => cAM_does q (List.mem_append_right _ (List.mem_append_left _ h))
theorem cAM_does_2 : ∀ q ∈ zT196_2, zCode 196 q.1 = some q.2 := fun q h => cAM_does q (List.mem_append_right _ (List.mem_append_right _ (List.mem_append_left _ h)))
theorem cAM_does_3 : ∀ q ∈ zT196_3, zCode 196 q.1 = some q.2 := fun q h => cAM_does q (List.mem_append_right _ (List.mem_append_right _ (List.mem_append_right _ (List.mem_append_left _ h))))
theorem cAM_does_4 : ∀ q ∈ zT196_4, zCode 196 q.1 = some q.2 := fun q h => cAM_does q (List.mem_append_right _ (List.mem_append_right _ (List.mem_append_right _ (List.mem_append_right _ (List.mem_append_left _ h)))))
theorem cAM_does_5 : ∀ q ∈ zT196_5, zCode 196 q.1 = some q.2 := fun q h => cAM_does q (List.mem_append_right _ (List.mem_append_right _ (List.mem_append_right _ (List.mem_append_right _ (List.mem_append_right _ (List.mem_append_left _ h))))))
theorem cAM_does_6 : ∀ q ∈ zT196_6, zCode 196 q.1 = some q.2 := fun q h => cAM_does q (List.mem_append_right _ (List.mem_append_right _ (List.mem_append_right _ (List.mem_append_right _ (List.mem_append_right _ (List.mem_append_right _ (List.mem_append_left _ h)))))))
theorem cAM_does_7 : ∀ q ∈ zT196_7, zCode 196 q.1 = some q.2 := fun q h => cAM_does q (List.mem_append_right _ (List.mem_append_right _ (List.mem_append_right _ (List.mem_append_right _ (List.mem_append_right _ (List.mem_append_right _ (List.mem_append_right _ h)))))))
theorem cM_does_0 : zCode 196 0 = some (.aload_n 0, 1, 0, 0, 0, 0, 3) := cAM_does_0 _ (List.mem_of_getElem? (i := 0) rfl)
theorem cM_does_1 : zCode 196 1 = some (.iload_n 1, 2, 0, 0, 0, 0, 3) := cAM_does_0 _ (List.mem_of_getElem? (i := 1) rfl)
theorem cM_does_2 : zCode 196 2 = some (.putfield 144, 5, 12, 7, 0, 1216, 1) := cAM_does_0 _ (List.mem_of_getElem? (i := 2) rfl)
theorem cM_does_5 : zCode 196 5 = some (.aload_n 0, 6, 0, 0, 0, 0, 1) := cAM_does_0 _ (List.mem_of_getElem? (i := 3) rfl)
theorem cM_does_6 : zCode 196 6 = some (.invokevirtual 254, 9, 195, 0, 2, 12, 1) := cAM_does_0 _ (List.mem_of_getElem? (i := 4) rfl)
theorem cM_does_9 : zCode 196 9 = some (.iconst 0, 10, 0, 0, 0, 0, 1) := cAM_does_0 _ (List.mem_of_getElem? (i := 5) rfl)
theorem cM_does_10 : zCode 196 10 = some (.istore_n 2, 11, 0, 0, 0, 0, 1) := cAM_does_0 _ (List.mem_of_getElem? (i := 6) rfl)
theorem cM_does_11 : zCode 196 11 = some (.iconst 0, 12, 0, 0, 0, 0, 5) := cAM_does_0 _ (List.mem_of_getElem? (i := 7) rfl)
theorem cM_does_12 : zCode 196 12 = some (.istore_n 3, 13, 0, 0, 0, 0, 5) := cAM_does_0 _ (List.mem_of_getElem? (i := 8) rfl)
theorem cM_does_13 : zCode 196 13 = some (.aload_n 0, 14, 0, 0, 0, 0, 13) := cAM_does_0 _ (List.mem_of_getElem? (i := 9) rfl)
theorem cM_does_14 : zCode 196 14 = some (.iconst 0, 15, 0, 0, 0, 0, 13) := cAM_does_0 _ (List.mem_of_getElem? (i := 10) rfl)
theorem cM_does_15 : zCode 196 15 = some (.invokevirtual 188, 18, 181, 1, 6, 12, 13) := cAM_does_0 _ (List.mem_of_getElem? (i := 11) rfl)
theorem cM_does_18 : zCode 196 18 = some (.aload_n 0, 19, 0, 0, 0, 0, 13) := cAM_does_0 _ (List.mem_of_getElem? (i := 12) rfl)
theorem cM_does_19 : zCode 196 19 = some (.getfield 176, 22, 12, 10, 0, 1219, 13) := cAM_does_0 _ (List.mem_of_getElem? (i := 13) rfl)
theorem cM_does_22 : zCode 196 22 = some (.ifCond .eq 211, 25, 233, 0, 0, 0, 13) := cAM_does_0 _ (List.mem_of_getElem? (i := 14) rfl)
theorem cM_does_25 : zCode 196 25 = some (.aload_n 0, 26, 0, 0, 0, 0, 13) := cAM_does_0 _ (List.mem_of_getElem? (i := 15) rfl)
theorem cM_does_26 : zCode 196 26 = some (.getfield 250, 29, 12, 26, 3, 1235, 13) := cAM_does_1 _ (List.mem_of_getElem? (i := 0) rfl)
theorem cM_does_29 : zCode 196 29 = some (.ifCond .ne 204, 32, 233, 0, 0, 0, 13) := cAM_does_1 _ (List.mem_of_getElem? (i := 1) rfl)
theorem cM_does_32 : zCode 196 32 = some (.aload_n 0, 33, 0, 0, 0, 0, 13) := cAM_does_1 _ (List.mem_of_getElem? (i := 2) rfl)
theorem cM_does_33 : zCode 196 33 = some (.iload_n 2, 34, 0, 0, 0, 0, 13) := cAM_does_1 _ (List.mem_of_getElem? (i := 3) rfl)
theorem cM_does_34 : zCode 196 34 = some (.invokevirtual 211, 37, 185, 1, 2, 12, 13) := cAM_does_1 _ (List.mem_of_getElem? (i := 4) rfl)
theorem cM_does_37 : zCode 196 37 = some (.istore 4, 39, 0, 0, 0, 0, 13) := cAM_does_1 _ (List.mem_of_getElem? (i := 5) rfl)
theorem cM_does_39 : zCode 196 39 = some (.aload_n 0, 40, 0, 0, 0, 0, 13) := cAM_does_1 _ (List.mem_of_getElem? (i := 6) rfl)
theorem cM_does_40 : zCode 196 40 = some (.getfield 201, 43, 12, 12, 0, 1221, 13) := cAM_does_1 _ (List.mem_of_getElem? (i := 7) rfl)
theorem cM_does_43 : zCode 196 43 = some (.iconst 3, 44, 0, 0, 0, 0, 13) := cAM_does_1 _ (List.mem_of_getElem? (i := 8) rfl)
theorem cM_does_44 : zCode 196 44 = some (.if_icmp .ne 47, 47, 91, 0, 0, 0, 13) := cAM_does_1 _ (List.mem_of_getElem? (i := 9) rfl)
theorem cM_does_47 : zCode 196 47 = some (.aload_n 0, 48, 0, 0, 0, 0, 13) := cAM_does_1 _ (List.mem_of_getElem? (i := 10) rfl)
theorem cM_does_48 : zCode 196 48 = some (.getfield 48, 51, 12, 28, 2, 1237, 13) := cAM_does_1 _ (List.mem_of_getElem? (i := 11) rfl)
theorem cM_does_51 : zCode 196 51 = some (.iload_n 2, 52, 0, 0, 0, 0, 13) := cAM_does_1 _ (List.mem_of_getElem? (i := 12) rfl)
theorem cM_does_52 : zCode 196 52 = some (.iconst 1, 53, 0, 0, 0, 0, 13) := cAM_does_1 _ (List.mem_of_getElem? (i := 13) rfl)
theorem cM_does_53 : zCode 196 53 = some (.isub, 54, 0, 0, 0, 0, 13) := cAM_does_1 _ (List.mem_of_getElem? (i := 14) rfl)
theorem cM_does_54 : zCode 196 54 = some (.dup2, 55, 0, 0, 0, 0, 13) := cAM_does_1 _ (List.mem_of_getElem? (i := 15) rfl)
theorem cM_does_55 : zCode 196 55 = some (.iaload, 56, 0, 0, 0, 0, 13) := cAM_does_2 _ (List.mem_of_getElem? (i := 0) rfl)
theorem cM_does_56 : zCode 196 56 = some (.iconst 1, 57, 0, 0, 0, 0, 13) := cAM_does_2 _ (List.mem_of_getElem? (i := 1) rfl)
theorem cM_does_57 : zCode 196 57 = some (.isub, 58, 0, 0, 0, 0, 13) := cAM_does_2 _ (List.mem_of_getElem? (i := 2) rfl)
theorem cM_does_58 : zCode 196 58 = some (.iastore, 59, 0, 0, 0, 0, 13) := cAM_does_2 _ (List.mem_of_getElem? (i := 3) rfl)
theorem cM_does_59 : zCode 196 59 = some (.aload_n 0, 60, 0, 0, 0, 0, 13) := cAM_does_2 _ (List.mem_of_getElem? (i := 4) rfl)
theorem cM_does_60 : zCode 196 60 = some (.getfield 48, 63, 12, 28, 2, 1237, 13) := cAM_does_2 _ (List.mem_of_getElem? (i := 5) rfl)
theorem cM_does_63 : zCode 196 63 = some (.iload_n 2, 64, 0, 0, 0, 0, 13) := cAM_does_2 _ (List.mem_of_getElem? (i := 6) rfl)
theorem cM_does_64 : zCode 196 64 = some (.iconst 1, 65, 0, 0, 0, 0, 13) := cAM_does_2 _ (List.mem_of_getElem? (i := 7) rfl)
theorem cM_does_65 : zCode 196 65 = some (.isub, 66, 0, 0, 0, 0, 13) := cAM_does_2 _ (List.mem_of_getElem? (i := 8) rfl)
theorem cM_does_66 : zCode 196 66 = some (.iaload, 67, 0, 0, 0, 0, 13) := cAM_does_2 _ (List.mem_of_getElem? (i := 9) rfl)
theorem cM_does_67 : zCode 196 67 = some (.ifCond .le 18, 70, 85, 0, 0, 0, 13) := cAM_does_2 _ (List.mem_of_getElem? (i := 10) rfl)
theorem cM_does_70 : zCode 196 70 = some (.aload_n 0, 71, 0, 0, 0, 0, 13) := cAM_does_2 _ (List.mem_of_getElem? (i := 11) rfl)
theorem cM_does_71 : zCode 196 71 = some (.aload_n 0, 72, 0, 0, 0, 0, 13) := cAM_does_2 _ (List.mem_of_getElem? (i := 12) rfl)
theorem cM_does_72 : zCode 196 72 = some (.getfield 45, 75, 12, 27, 2, 1236, 13) := cAM_does_2 _ (List.mem_of_getElem? (i := 13) rfl)
theorem cM_does_75 : zCode 196 75 = some (.iload_n 2, 76, 0, 0, 0, 0, 13) := cAM_does_2 _ (List.mem_of_getElem? (i := 14) rfl)
theorem cM_does_76 : zCode 196 76 = some (.iconst 1, 77, 0, 0, 0, 0, 13) := cAM_does_2 _ (List.mem_of_getElem? (i := 15) rfl)
theorem cM_does_77 : zCode 196 77 = some (.isub, 78, 0, 0, 0, 0, 13) := cAM_does_3 _ (List.mem_of_getElem? (i := 0) rfl)
theorem cM_does_78 : zCode 196 78 = some (.iaload, 79, 0, 0, 0, 0, 13) := cAM_does_3 _ (List.mem_of_getElem? (i := 1) rfl)
theorem cM_does_79 : zCode 196 79 = some (.invokevirtual 188, 82, 181, 1, 6, 12, 13) := cAM_does_3 _ (List.mem_of_getElem? (i := 2) rfl)
theorem cM_does_82 : zCode 196 82 = some (.goto 148, 85, 230, 0, 0, 0, 13) := cAM_does_3 _ (List.mem_of_getElem? (i := 3) rfl)
theorem cM_does_85 : zCode 196 85 = some (.iinc 2 (-1), 88, 0, 0, 0, 0, 13) := cAM_does_3 _ (List.mem_of_getElem? (i := 4) rfl)
theorem cM_does_88 : zCode 196 88 = some (.goto 142, 91, 230, 0, 0, 0, 13) := cAM_does_3 _ (List.mem_of_getElem? (i := 5) rfl)
theorem cM_does_91 : zCode 196 91 = some (.aload_n 0, 92, 0, 0, 0, 0, 13) := cAM_does_3 _ (List.mem_of_getElem? (i := 6) rfl)
theorem cM_does_92 : zCode 196 92 = some (.iload_n 3, 93, 0, 0, 0, 0, 13) := cAM_does_3 _ (List.mem_of_getElem? (i := 7) rfl)
theorem cM_does_93 : zCode 196 93 = some (.sipush 300, 96, 0, 0, 0, 0, 13) := cAM_does_3 _ (List.mem_of_getElem? (i := 8) rfl)
theorem cM_does_96 : zCode 196 96 = some (.if_icmp .eq 38, 99, 134, 0, 0, 0, 13) := cAM_does_3 _ (List.mem_of_getElem? (i := 9) rfl)
theorem cM_does_99 : zCode 196 99 = some (.aload_n 0, 100, 0, 0, 0, 0, 13) := cAM_does_3 _ (List.mem_of_getElem? (i := 10) rfl)
theorem cM_does_100 : zCode 196 100 = some (.getfield 201, 103, 12, 12, 0, 1221, 13) := cAM_does_3 _ (List.mem_of_getElem? (i := 11) rfl)
theorem cM_does_103 : zCode 196 103 = some (.ifCond .ne 35, 106, 138, 0, 0, 0, 13) := cAM_does_3 _ (List.mem_of_getElem? (i := 12) rfl)
theorem cM_does_106 : zCode 196 106 = some (.aload_n 0, 107, 0, 0, 0, 0, 13) := cAM_does_3 _ (List.mem_of_getElem? (i := 13) rfl)
theorem cM_does_107 : zCode 196 107 = some (.getfield 241, 110, 12, 20, 0, 1229, 13) := cAM_does_3 _ (List.mem_of_getElem? (i := 14) rfl)
theorem cM_does_110 : zCode 196 110 = some (.aload_n 0, 111, 0, 0, 0, 0, 13) := cAM_does_3 _ (List.mem_of_getElem? (i := 15) rfl)
theorem cM_does_111 : zCode 196 111 = some (.getfield 208, 114, 12, 13, 0, 1222, 13) := cAM_does_4 _ (List.mem_of_getElem? (i := 0) rfl)
theorem cM_does_114 : zCode 196 114 = some (.invokestatic 229, 117, 190, 1, 1, 12, 13) := cAM_does_4 _ (List.mem_of_getElem? (i := 1) rfl)
theorem cM_does_117 : zCode 196 117 = some (.aload_n 0, 118, 0, 0, 0, 0, 13) := cAM_does_4 _ (List.mem_of_getElem? (i := 2) rfl)
theorem cM_does_118 : zCode 196 118 = some (.getfield 191, 121, 12, 14, 0, 1223, 13) := cAM_does_4 _ (List.mem_of_getElem? (i := 3) rfl)
theorem cM_does_121 : zCode 196 121 = some (.invokestatic 229, 124, 190, 1, 1, 12, 13) := cAM_does_4 _ (List.mem_of_getElem? (i := 4) rfl)
theorem cM_does_124 : zCode 196 124 = some (.invokestatic 232, 127, 192, 2, 2, 12, 13) := cAM_does_4 _ (List.mem_of_getElem? (i := 5) rfl)
theorem cM_does_127 : zCode 196 127 = some (.iadd, 128, 0, 0, 0, 0, 13) := cAM_does_4 _ (List.mem_of_getElem? (i := 6) rfl)
theorem cM_does_128 : zCode 196 128 = some (.sipush 2000, 131, 0, 0, 0, 0, 13) := cAM_does_4 _ (List.mem_of_getElem? (i := 7) rfl)
theorem cM_does_131 : zCode 196 131 = some (.if_icmp .le 7, 134, 138, 0, 0, 0, 13) := cAM_does_4 _ (List.mem_of_getElem? (i := 8) rfl)
theorem cM_does_134 : zCode 196 134 = some (.iconst 1, 135, 0, 0, 0, 0, 13) := cAM_does_4 _ (List.mem_of_getElem? (i := 9) rfl)
theorem cM_does_135 : zCode 196 135 = some (.goto 4, 138, 139, 0, 0, 0, 13) := cAM_does_4 _ (List.mem_of_getElem? (i := 10) rfl)
theorem cM_does_138 : zCode 196 138 = some (.iconst 0, 139, 0, 0, 0, 0, 13) := cAM_does_4 _ (List.mem_of_getElem? (i := 11) rfl)
theorem cM_does_139 : zCode 196 139 = some (.putfield 250, 142, 12, 26, 3, 1235, 13) := cAM_does_4 _ (List.mem_of_getElem? (i := 12) rfl)
theorem cM_does_142 : zCode 196 142 = some (.iinc 3 1, 145, 0, 0, 0, 0, 13) := cAM_does_4 _ (List.mem_of_getElem? (i := 13) rfl)
theorem cM_does_145 : zCode 196 145 = some (.aload_n 0, 146, 0, 0, 0, 0, 13) := cAM_does_4 _ (List.mem_of_getElem? (i := 14) rfl)
theorem cM_does_146 : zCode 196 146 = some (.getfield 250, 149, 12, 26, 3, 1235, 13) := cAM_does_4 _ (List.mem_of_getElem? (i := 15) rfl)
theorem cM_does_149 : zCode 196 149 = some (.ifCond .ne 25, 152, 174, 0, 0, 0, 13) := cAM_does_5 _ (List.mem_of_getElem? (i := 0) rfl)
theorem cM_does_152 : zCode 196 152 = some (.aload_n 0, 153, 0, 0, 0, 0, 13) := cAM_does_5 _ (List.mem_of_getElem? (i := 1) rfl)
theorem cM_does_153 : zCode 196 153 = some (.getfield 201, 156, 12, 12, 0, 1221, 13) := cAM_does_5 _ (List.mem_of_getElem? (i := 2) rfl)
theorem cM_does_156 : zCode 196 156 = some (.ifCond .ne 18, 159, 174, 0, 0, 0, 13) := cAM_does_5 _ (List.mem_of_getElem? (i := 3) rfl)
theorem cM_does_159 : zCode 196 159 = some (.aload_n 0, 160, 0, 0, 0, 0, 13) := cAM_does_5 _ (List.mem_of_getElem? (i := 4) rfl)
theorem cM_does_160 : zCode 196 160 = some (.aload_n 0, 161, 0, 0, 0, 0, 13) := cAM_does_5 _ (List.mem_of_getElem? (i := 5) rfl)
theorem cM_does_161 : zCode 196 161 = some (.getfield 208, 164, 12, 13, 0, 1222, 13) := cAM_does_5 _ (List.mem_of_getElem? (i := 6) rfl)
theorem cM_does_164 : zCode 196 164 = some (.aload_n 0, 165, 0, 0, 0, 0, 13) := cAM_does_5 _ (List.mem_of_getElem? (i := 7) rfl)
theorem cM_does_165 : zCode 196 165 = some (.getfield 191, 168, 12, 14, 0, 1223, 13) := cAM_does_5 _ (List.mem_of_getElem? (i := 8) rfl)
theorem cM_does_168 : zCode 196 168 = some (.invokevirtual 257, 171, 193, 2, 6, 12, 13) := cAM_does_5 _ (List.mem_of_getElem? (i := 9) rfl)
theorem cM_does_171 : zCode 196 171 = some (.goto 59, 174, 230, 0, 0, 0, 13) := cAM_does_5 _ (List.mem_of_getElem? (i := 10) rfl)
theorem cM_does_174 : zCode 196 174 = some (.aload_n 0, 175, 0, 0, 0, 0, 13) := cAM_does_5 _ (List.mem_of_getElem? (i := 11) rfl)
theorem cM_does_175 : zCode 196 175 = some (.getfield 250, 178, 12, 26, 3, 1235, 13) := cAM_does_5 _ (List.mem_of_getElem? (i := 12) rfl)
theorem cM_does_178 : zCode 196 178 = some (.ifCond .ne 22, 181, 200, 0, 0, 0, 13) := cAM_does_5 _ (List.mem_of_getElem? (i := 13) rfl)
theorem cM_does_181 : zCode 196 181 = some (.aload_n 0, 182, 0, 0, 0, 0, 13) := cAM_does_5 _ (List.mem_of_getElem? (i := 14) rfl)
theorem cM_does_182 : zCode 196 182 = some (.getfield 201, 185, 12, 12, 0, 1221, 13) := cAM_does_5 _ (List.mem_of_getElem? (i := 15) rfl)
theorem cM_does_185 : zCode 196 185 = some (.iconst 1, 186, 0, 0, 0, 0, 13) := cAM_does_6 _ (List.mem_of_getElem? (i := 0) rfl)
theorem cM_does_186 : zCode 196 186 = some (.if_icmp .ne 14, 189, 200, 0, 0, 0, 13) := cAM_does_6 _ (List.mem_of_getElem? (i := 1) rfl)
theorem cM_does_189 : zCode 196 189 = some (.aload_n 0, 190, 0, 0, 0, 0, 13) := cAM_does_6 _ (List.mem_of_getElem? (i := 2) rfl)
theorem cM_does_190 : zCode 196 190 = some (.aload_n 0, 191, 0, 0, 0, 0, 13) := cAM_does_6 _ (List.mem_of_getElem? (i := 3) rfl)
theorem cM_does_191 : zCode 196 191 = some (.getfield 191, 194, 12, 14, 0, 1223, 13) := cAM_does_6 _ (List.mem_of_getElem? (i := 4) rfl)
theorem cM_does_194 : zCode 196 194 = some (.invokevirtual 260, 197, 194, 1, 5, 12, 13) := cAM_does_6 _ (List.mem_of_getElem? (i := 5) rfl)
theorem cM_does_197 : zCode 196 197 = some (.goto 33, 200, 230, 0, 0, 0, 13) := cAM_does_6 _ (List.mem_of_getElem? (i := 6) rfl)
theorem cM_does_200 : zCode 196 200 = some (.aload_n 0, 201, 0, 0, 0, 0, 13) := cAM_does_6 _ (List.mem_of_getElem? (i := 7) rfl)
theorem cM_does_201 : zCode 196 201 = some (.getfield 250, 204, 12, 26, 3, 1235, 13) := cAM_does_6 _ (List.mem_of_getElem? (i := 8) rfl)
theorem cM_does_204 : zCode 196 204 = some (.ifCond .ne 26, 207, 230, 0, 0, 0, 13) := cAM_does_6 _ (List.mem_of_getElem? (i := 9) rfl)
theorem cM_does_207 : zCode 196 207 = some (.aload_n 0, 208, 0, 0, 0, 0, 13) := cAM_does_6 _ (List.mem_of_getElem? (i := 10) rfl)
theorem cM_does_208 : zCode 196 208 = some (.getfield 45, 211, 12, 27, 2, 1236, 13) := cAM_does_6 _ (List.mem_of_getElem? (i := 11) rfl)
theorem cM_does_211 : zCode 196 211 = some (.iload_n 2, 212, 0, 0, 0, 0, 13) := cAM_does_6 _ (List.mem_of_getElem? (i := 12) rfl)
theorem cM_does_212 : zCode 196 212 = some (.aload_n 0, 213, 0, 0, 0, 0, 13) := cAM_does_6 _ (List.mem_of_getElem? (i := 13) rfl)
theorem cM_does_213 : zCode 196 213 = some (.getfield 170, 216, 12, 8, 0, 1217, 13) := cAM_does_6 _ (List.mem_of_getElem? (i := 14) rfl)
theorem cM_does_216 : zCode 196 216 = some (.iastore, 217, 0, 0, 0, 0, 13) := cAM_does_6 _ (List.mem_of_getElem? (i := 15) rfl)
theorem cM_does_217 : zCode 196 217 = some (.aload_n 0, 218, 0, 0, 0, 0, 13) := cAM_does_7 _ (List.mem_of_getElem? (i := 0) rfl)
theorem cM_does_218 : zCode 196 218 = some (.getfield 48, 221, 12, 28, 2, 1237, 13) := cAM_does_7 _ (List.mem_of_getElem? (i := 1) rfl)
theorem cM_does_221 : zCode 196 221 = some (.iload_n 2, 222, 0, 0, 0, 0, 13) := cAM_does_7 _ (List.mem_of_getElem? (i := 2) rfl)
theorem cM_does_222 : zCode 196 222 = some (.aload_n 0, 223, 0, 0, 0, 0, 13) := cAM_does_7 _ (List.mem_of_getElem? (i := 3) rfl)
theorem cM_does_223 : zCode 196 223 = some (.getfield 191, 226, 12, 14, 0, 1223, 13) := cAM_does_7 _ (List.mem_of_getElem? (i := 4) rfl)
theorem cM_does_226 : zCode 196 226 = some (.iastore, 227, 0, 0, 0, 0, 13) := cAM_does_7 _ (List.mem_of_getElem? (i := 5) rfl)
theorem cM_does_227 : zCode 196 227 = some (.iinc 2 1, 230, 0, 0, 0, 0, 13) := cAM_does_7 _ (List.mem_of_getElem? (i := 6) rfl)
theorem cM_does_230 : zCode 196 230 = some (.goto (-212), 233, 18, 0, 0, 0, 13) := cAM_does_7 _ (List.mem_of_getElem? (i := 7) rfl)
theorem cM_does_233 : zCode 196 233 = some (.return_, 234, 0, 0, 0, 0, 0) := cAM_does_7 _ (List.mem_of_getElem? (i := 8) rfl)
theorem rM_does_0 {a0 : Nat} {a1 : Int} {u2 u3 u4 : zV} : zS 196 0 [zR a0, zI a1, u2, u3, u4] [] sh pp mm Q ↔ zS 196 1 [zR a0, zI a1, zU, zU, zU] [zR a0] sh pp mm Q := s_go cM_does_0 cM_does_1 rfl rfl
theorem rM_does_1 {a0 s0 : Nat} {a1 : Int} {u2 u3 u4 : zV} : zS 196 1 [zR a0, zI a1, u2, u3, u4] [zR s0] sh pp mm Q ↔ zS 196 2 [zR a0, zU, zU, zU, zU] [zI a1, zR s0] sh pp mm Q := s_go cM_does_1 cM_does_2 rfl rfl
theorem rM_does_2 {a0 s1 : Nat} {s0 : Int} {u1 u2 u3 u4 : zV} (hk : zKd sh s1 = 12) : zS 196 2 [zR a0, u1, u2, u3, u4] [zI s0, zR s1] sh pp mm Q ↔ zS 196 5 [zR a0, zU, zU, zU, zU] [] sh pp (zupd mm s1 7 s0) Q := s_go cM_does_2 cM_does_5 (if_pos ⟨hk, Or.inl rfl⟩) rfl
theorem rM_does_5 {a0 : Nat} {u1 u2 u3 u4 : zV} : zS 196 5 [zR a0, u1, u2, u3, u4] [] sh pp mm Q ↔ zS 196 6 [zR a0, zU, zU, zU, zU] [zR a0] sh pp mm Q := s_go cM_does_5 cM_does_6 rfl rfl
theorem rM_does_6 {a0 s0 : Nat} {u1 u2 u3 u4 : zV} (hk : zKd sh s0 = 12) : zS 196 6 [zR a0, u1, u2, u3, u4] [zR s0] sh pp mm Q ↔ zS 195 0 [zR s0, zU] [] sh pp mm (fun v sh pp mm => zS 196 9 [zR a0, zU, zU, zU, zU] (zPush v []) sh pp mm Q) := s_call cM_does_6 cM_does_9 ((if_pos hk).trans rfl) rfl
theorem rM_does_9 {a0 : Nat} {u1 u2 u3 u4 : zV} : zS 196 9 [zR a0, u1, u2, u3, u4] [] sh pp mm Q ↔ zS 196 10 [zR a0, zU, zU, zU, zU] [zI 0] sh pp mm Q := s_go cM_does_9 cM_does_10 rfl rfl
theorem rM_does_10 {a0 : Nat} {s0 : Int} {u1 u2 u3 u4 : zV} : zS 196 10 [zR a0, u1, u2, u3, u4] [zI s0] sh pp mm Q ↔ zS 196 11 [zR a0, zU, zI s0, zU, zU] [] sh pp mm Q := s_go cM_does_10 cM_does_11 rfl rfl
theorem rM_does_11 {a0 : Nat} {a2 : Int} {u1 u3 u4 : zV} : zS 196 11 [zR a0, u1, zI a2, u3, u4] [] sh pp mm Q ↔ zS 196 12 [zR a0, zU, zI a2, zU, zU] [zI 0] sh pp mm Q := s_go cM_does_11 cM_does_12 rfl rfl
theorem rM_does_12 {a0 : Nat} {a2 s0 : Int} {u1 u3 u4 : zV} : zS 196 12 [zR a0, u1, zI a2, u3, u4] [zI s0] sh pp mm Q ↔ zS 196 13 [zR a0, zU, zI a2, zI s0, zU] [] sh pp mm Q := s_go cM_does_12 cM_does_13 rfl rfl
theorem rM_does_13 {a0 : Nat} {a2 a3 : Int} {u1 u4 : zV} : zS 196 13 [zR a0, u1, zI a2, zI a3, u4] [] sh pp mm Q ↔ zS 196 14 [zR a0, zU, zI a2, zI a3, zU] [zR a0] sh pp mm Q := s_go cM_does_13 cM_does_14 rfl rfl
theorem rM_does_14 {a0 s0 : Nat} {a2 a3 : Int} {u1 u4 : zV} : zS 196 14 [zR a0, u1, zI a2, zI a3, u4] [zR s0] sh pp mm Q ↔ zS 196 15 [zR a0, zU, zI a2, zI a3, zU] [zI 0, zR s0] sh pp mm Q := s_go cM_does_14 cM_does_15 rfl rfl
theorem rM_does_15 {a0 s1 : Nat} {a2 a3 s0 : Int} {u1 u4 : zV} (hk : zKd sh s1 = 12) : zS 196 15 [zR a0, u1, zI a2, zI a3, u4] [zI s0, zR s1] sh pp mm Q ↔ zS 181 0 [zR s1, zI s0, zU, zU, zU, zU] [] sh pp mm (fun v sh pp mm => zS 196 18 [zR a0, zU, zI a2, zI a3, zU] (zPush v []) sh pp mm Q) := s_call cM_does_15 cM_does_18 ((if_pos hk).trans rfl) rfl
theorem rM_does_18 {a0 : Nat} {a2 a3 : Int} {u1 u4 : zV} : zS 196 18 [zR a0, u1, zI a2, zI a3, u4] [] sh pp mm Q ↔ zS 196 19 [zR a0, zU, zI a2, zI a3, zU] [zR a0] sh pp mm Q := s_go cM_does_18 cM_does_19 rfl rfl
theorem rM_does_19 {a0 s0 : Nat} {a2 a3 : Int} {u1 u4 : zV} (hk : zKd sh s0 = 12) : zS 196 19 [zR a0, u1, zI a2, zI a3, u4] [zR s0] sh pp mm Q ↔ zS 196 22 [zR a0, zU, zI a2, zI a3, zU] [zI (mm s0 10)] sh pp mm Q := s_go cM_does_19 cM_does_22 (if_pos hk) rfl
theorem rM_does_22 {a0 : Nat} {a2 a3 s0 : Int} {u1 u4 : zV} : zS 196 22 [zR a0, u1, zI a2, zI a3, u4] [zI s0] sh pp mm Q ↔ (s0 = 0 → zS 196 233 [zU, zU, zU, zU, zU] [] sh pp mm Q) ∧ (¬ s0 = 0 → zS 196 25 [zR a0, zU, zI a2, zI a3, zU] [] sh pp mm Q) := s_if cM_does_22 cM_does_233 cM_does_25 rfl rfl rfl
theorem rM_does_25 {a0 : Nat} {a2 a3 : Int} {u1 u4 : zV} : zS 196 25 [zR a0, u1, zI a2, zI a3, u4] [] sh pp mm Q ↔ zS 196 26 [zR a0, zU, zI a2, zI a3, zU] [zR a0] sh pp mm Q := s_go cM_does_25 cM_does_26 rfl rfl
theorem rM_does_26 {a0 s0 : Nat} {a2 a3 : Int} {u1 u4 : zV} (hk : zKd sh s0 = 12) : zS 196 26 [zR a0, u1, zI a2, zI a3, u4] [zR s0] sh pp mm Q ↔ zS 196 29 [zR a0, zU, zI a2, zI a3, zU] [zI (mm s0 26)] sh pp mm Q := s_go cM_does_26 cM_does_29 (if_pos hk) rfl
theorem rM_does_29 {a0 : Nat} {a2 a3 s0 : Int} {u1 u4 : zV} : zS 196 29 [zR a0, u1, zI a2, zI a3, u4] [zI s0] sh pp mm Q ↔ (s0 = 0 → zS 196 32 [zR a0, zU, zI a2, zI a3, zU] [] sh pp mm Q) ∧ (¬ s0 = 0 → zS 196 233 [zU, zU, zU, zU, zU] [] sh pp mm Q) := s_ifn cM_does_29 cM_does_32 cM_does_233 rfl rfl rfl
theorem rM_does_32 {a0 : Nat} {a2 a3 : Int} {u1 u4 : zV} : zS 196 32 [zR a0, u1, zI a2, zI a3, u4] [] sh pp mm Q ↔ zS 196 33 [zR a0, zU, zI a2, zI a3, zU] [zR a0] sh pp mm Q := s_go cM_does_32 cM_does_33 rfl rfl
theorem rM_does_33 {a0 s0 : Nat} {a2 a3 : Int} {u1 u4 : zV} : zS 196 33 [zR a0, u1, zI a2, zI a3, u4] [zR s0] sh pp mm Q ↔ zS 196 34 [zR a0, zU, zI a2, zI a3, zU] [zI a2, zR s0] sh pp mm Q := s_go cM_does_33 cM_does_34 rfl rfl
theorem rM_does_34 {a0 s1 : Nat} {a2 a3 s0 : Int} {u1 u4 : zV} (hk : zKd sh s1 = 12) : zS 196 34 [zR a0, u1, zI a2, zI a3, u4] [zI s0, zR s1] sh pp mm Q ↔ zS 185 0 [zR s1, zI s0] [] sh pp mm (fun v sh pp mm => zS 196 37 [zR a0, zU, zI a2, zI a3, zU] (zPush v []) sh pp mm Q) := s_call cM_does_34 cM_does_37 ((if_pos hk).trans rfl) rfl
theorem rM_does_37 {a0 : Nat} {a2 a3 s0 : Int} {u1 u4 : zV} : zS 196 37 [zR a0, u1, zI a2, zI a3, u4] [zI s0] sh pp mm Q ↔ zS 196 39 [zR a0, zU, zI a2, zI a3, zU] [] sh pp mm Q := s_go cM_does_37 cM_does_39 rfl rfl
theorem rM_does_39 {a0 : Nat} {a2 a3 : Int} {u1 u4 : zV} : zS 196 39 [zR a0, u1, zI a2, zI a3, u4] [] sh pp mm Q ↔ zS 196 40 [zR a0, zU, zI a2, zI a3, zU] [zR a0] sh pp mm Q := s_go cM_does_39 cM_does_40 rfl rfl
theorem rM_does_40 {a0 s0 : Nat} {a2 a3 : Int} {u1 u4 : zV} (hk : zKd sh s0 = 12) : zS 196 40 [zR a0, u1, zI a2, zI a3, u4] [zR s0] sh pp mm Q ↔ zS 196 43 [zR a0, zU, zI a2, zI a3, zU] [zI (mm s0 12)] sh pp mm Q := s_go cM_does_40 cM_does_43 (if_pos hk) rfl
theorem rM_does_43 {a0 : Nat} {a2 a3 s0 : Int} {u1 u4 : zV} : zS 196 43 [zR a0, u1, zI a2, zI a3, u4] [zI s0] sh pp mm Q ↔ zS 196 44 [zR a0, zU, zI a2, zI a3, zU] [zI 3, zI s0] sh pp mm Q := s_go cM_does_43 cM_does_44 rfl rfl
theorem rM_does_44 {a0 : Nat} {a2 a3 s0 s1 : Int} {u1 u4 : zV} : zS 196 44 [zR a0, u1, zI a2, zI a3, u4] [zI s0, zI s1] sh pp mm Q ↔ (s1 = s0 → zS 196 47 [zR a0, zU, zI a2, zI a3, zU] [] sh pp mm Q) ∧ (¬ s1 = s0 → zS 196 91 [zR a0, zU, zI a2, zI a3, zU] [] sh pp mm Q) := s_ifn cM_does_44 cM_does_47 cM_does_91 rfl rfl rfl
theorem rM_does_47 {a0 : Nat} {a2 a3 : Int} {u1 u4 : zV} : zS 196 47 [zR a0, u1, zI a2, zI a3, u4] [] sh pp mm Q ↔ zS 196 48 [zR a0, zU, zI a2, zI a3, zU] [zR a0] sh pp mm Q := s_go cM_does_47 cM_does_48 rfl rfl
theorem rM_does_48 {a0 s0 : Nat} {a2 a3 : Int} {u1 u4 : zV} (hk : zKd sh s0 = 12) : zS 196 48 [zR a0, u1, zI a2, zI a3, u4] [zR s0] sh pp mm Q ↔ zS 196 51 [zR a0, zU, zI a2, zI a3, zU] [zR (pp s0 28)] sh pp mm Q := s_go cM_does_48 cM_does_51 (if_pos hk) rfl
theorem rM_does_51 {a0 s0 : Nat} {a2 a3 : Int} {u1 u4 : zV} : zS 196 51 [zR a0, u1, zI a2, zI a3, u4] [zR s0] sh pp mm Q ↔ zS 196 52 [zR a0, zU, zI a2, zI a3, zU] [zI a2, zR s0] sh pp mm Q := s_go cM_does_51 cM_does_52 rfl rfl
theorem rM_does_52 {a0 s1 : Nat} {a2 a3 s0 : Int} {u1 u4 : zV} : zS 196 52 [zR a0, u1, zI a2, zI a3, u4] [zI s0, zR s1] sh pp mm Q ↔ zS 196 53 [zR a0, zU, zI a2, zI a3, zU] [zI 1, zI s0, zR s1] sh pp mm Q := s_go cM_does_52 cM_does_53 rfl rfl
theorem rM_does_53 {a0 s2 : Nat} {a2 a3 s0 s1 : Int} {u1 u4 : zV} : zS 196 53 [zR a0, u1, zI a2, zI a3, u4] [zI s0, zI s1, zR s2] sh pp mm Q ↔ zS 196 54 [zR a0, zU, zI a2, zI a3, zU] [zI (zw32 (s1 - s0)), zR s2] sh pp mm Q := s_go cM_does_53 cM_does_54 rfl rfl
theorem rM_does_54 {a0 s1 : Nat} {a2 a3 s0 : Int} {u1 u4 : zV} : zS 196 54 [zR a0, u1, zI a2, zI a3, u4] [zI s0, zR s1] sh pp mm Q ↔ zS 196 55 [zR a0, zU, zI a2, zI a3, zU] [zI s0, zR s1, zI s0, zR s1] sh pp mm Q := s_go cM_does_54 cM_does_55 rfl rfl
theorem rM_does_55 {a0 s1 s3 : Nat} {a2 a3 s0 s2 : Int} {u1 u4 : zV} (hk : zKd sh s1 = 20 ∨ zKd sh s1 = 30) (h0 : 0 ≤ s0) (h1 : s0 < zLn sh s1) : zS 196 55 [zR a0, u1, zI a2, zI a3, u4] [zI s0, zR s1, zI s2, zR s3] sh pp mm Q ↔ zS 196 56 [zR a0, zU, zI a2, zI a3, zU] [zI (mm s1 s0), zI s2, zR s3] sh pp mm Q := s_go cM_does_55 cM_does_56 (if_pos ⟨hk, h0, h1⟩) rfl
theorem rM_does_56 {a0 s2 : Nat} {a2 a3 s0 s1 : Int} {u1 u4 : zV} : zS 196 56 [zR a0, u1, zI a2, zI a3, u4] [zI s0, zI s1, zR s2] sh pp mm Q ↔ zS 196 57 [zR a0, zU, zI a2, zI a3, zU] [zI 1, zI s0, zI s1, zR s2] sh pp mm Q := s_go cM_does_56 cM_does_57 rfl rfl
theorem rM_does_57 {a0 s3 : Nat} {a2 a3 s0 s1 s2 : Int} {u1 u4 : zV} : zS 196 57 [zR a0, u1, zI a2, zI a3, u4] [zI s0, zI s1, zI s2, zR s3] sh pp mm Q ↔ zS 196 58 [zR a0, zU, zI a2, zI a3, zU] [zI (zw32 (s1 - s0)), zI s2, zR s3] sh pp mm Q := s_go cM_does_57 cM_does_58 rfl rfl
theorem rM_does_58 {a0 s2 : Nat} {a2 a3 s0 s1 : Int} {u1 u4 : zV} (hk : zKd sh s2 = 20) (h0 : 0 ≤ s1) (h1 : s1 < zLn sh s2) : zS 196 58 [zR a0, u1, zI a2, zI a3, u4] [zI s0, zI s1, zR s2] sh pp mm Q ↔ zS 196 59 [zR a0, zU, zI a2, zI a3, zU] [] sh pp (zupd mm s2 s1 s0) Q := s_go cM_does_58 cM_does_59 (if_pos ⟨hk, h0, h1, fun h => absurd h (by decide)⟩) rfl
theorem rM_does_59 {a0 : Nat} {a2 a3 : Int} {u1 u4 : zV} : zS 196 59 [zR a0, u1, zI a2, zI a3, u4] [] sh pp mm Q ↔ zS 196 60 [zR a0, zU, zI a2, zI a3, zU] [zR a0] sh pp mm Q := s_go cM_does_59 cM_does_60 rfl rfl
theorem rM_does_60 {a0 s0 : Nat} {a2 a3 : Int} {u1 u4 : zV} (hk : zKd sh s0 = 12) : zS 196 60 [zR a0, u1, zI a2, zI a3, u4] [zR s0] sh pp mm Q ↔ zS 196 63 [zR a0, zU, zI a2, zI a3, zU] [zR (pp s0 28)] sh pp mm Q := s_go cM_does_60 cM_does_63 (if_pos hk) rfl
theorem rM_does_63 {a0 s0 : Nat} {a2 a3 : Int} {u1 u4 : zV} : zS 196 63 [zR a0, u1, zI a2, zI a3, u4] [zR s0] sh pp mm Q ↔ zS 196 64 [zR a0, zU, zI a2, zI a3, zU] [zI a2, zR s0] sh pp mm Q := s_go cM_does_63 cM_does_64 rfl rfl
theorem rM_does_64 {a0 s1 : Nat} {a2 a3 s0 : Int} {u1 u4 : zV} : zS 196 64 [zR a0, u1, zI a2, zI a3, u4] [zI s0, zR s1] sh pp mm Q ↔ zS 196 65 [zR a0, zU, zI a2, zI a3, zU] [zI 1, zI s0, zR s1] sh pp mm Q := s_go cM_does_64 cM_does_65 rfl rfl
theorem rM_does_65 {a0 s2 : Nat} {a2 a3 s0 s1 : Int} {u1 u4 : zV} : zS 196 65 [zR a0, u1, zI a2, zI a3, u4] [zI s0, zI s1, zR s2] sh pp mm Q ↔ zS 196 66 [zR a0, zU, zI a2, zI a3, zU] [zI (zw32 (s1 - s0)), zR s2] sh pp mm Q := s_go cM_does_65 cM_does_66 rfl rfl
theorem rM_does_66 {a0 s1 : Nat} {a2 a3 s0 : Int} {u1 u4 : zV} (hk : zKd sh s1 = 20 ∨ zKd sh s1 = 30) (h0 : 0 ≤ s0) (h1 : s0 < zLn sh s1) : zS 196 66 [zR a0, u1, zI a2, zI a3, u4] [zI s0, zR s1] sh pp mm Q ↔ zS 196 67 [zR a0, zU, zI a2, zI a3, zU] [zI (mm s1 s0)] sh pp mm Q := s_go cM_does_66 cM_does_67 (if_pos ⟨hk, h0, h1⟩) rfl
theorem rM_does_67 {a0 : Nat} {a2 a3 s0 : Int} {u1 u4 : zV} : zS 196 67 [zR a0, u1, zI a2, zI a3, u4] [zI s0] sh pp mm Q ↔ (0 < s0 → zS 196 70 [zR a0, zU, zI a2, zI a3, zU] [] sh pp mm Q) ∧ (¬ 0 < s0 → zS 196 85 [zR a0, zU, zI a2, zI a3, zU] [] sh pp mm Q) := s_ifn cM_does_67 cM_does_70 cM_does_85 rfl rfl rfl
theorem rM_does_70 {a0 : Nat} {a2 a3 : Int} {u1 u4 : zV} : zS 196 70 [zR a0, u1, zI a2, zI a3, u4] [] sh pp mm Q ↔ zS 196 71 [zR a0, zU, zI a2, zI a3, zU] [zR a0] sh pp mm Q := s_go cM_does_70 cM_does_71 rfl rfl
theorem rM_does_71 {a0 s0 : Nat} {a2 a3 : Int} {u1 u4 : zV} : zS 196 71 [zR a0, u1, zI a2, zI a3, u4] [zR s0] sh pp mm Q ↔ zS 196 72 [zR a0, zU, zI a2, zI a3, zU] [zR a0, zR s0] sh pp mm Q := s_go cM_does_71 cM_does_72 rfl rfl
theorem rM_does_72 {a0 s0 s1 : Nat} {a2 a3 : Int} {u1 u4 : zV} (hk : zKd sh s0 = 12) : zS 196 72 [zR a0, u1, zI a2, zI a3, u4] [zR s0, zR s1] sh pp mm Q ↔ zS 196 75 [zR a0, zU, zI a2, zI a3, zU] [zR (pp s0 27), zR s1] sh pp mm Q := s_go cM_does_72 cM_does_75 (if_pos hk) rfl
theorem rM_does_75 {a0 s0 s1 : Nat} {a2 a3 : Int} {u1 u4 : zV} : zS 196 75 [zR a0, u1, zI a2, zI a3, u4] [zR s0, zR s1] sh pp mm Q ↔ zS 196 76 [zR a0, zU, zI a2, zI a3, zU] [zI a2, zR s0, zR s1] sh pp mm Q := s_go cM_does_75 cM_does_76 rfl rfl
theorem rM_does_76 {a0 s1 s2 : Nat} {a2 a3 s0 : Int} {u1 u4 : zV} : zS 196 76 [zR a0, u1, zI a2, zI a3, u4] [zI s0, zR s1, zR s2] sh pp mm Q ↔ zS 196 77 [zR a0, zU, zI a2, zI a3, zU] [zI 1, zI s0, zR s1, zR s2] sh pp mm Q := s_go cM_does_76 cM_does_77 rfl rfl
theorem rM_does_77 {a0 s2 s3 : Nat} {a2 a3 s0 s1 : Int} {u1 u4 : zV} : zS 196 77 [zR a0, u1, zI a2, zI a3, u4] [zI s0, zI s1, zR s2, zR s3] sh pp mm Q ↔ zS 196 78 [zR a0, zU, zI a2, zI a3, zU] [zI (zw32 (s1 - s0)), zR s2, zR s3] sh pp mm Q := s_go cM_does_77 cM_does_78 rfl rfl
theorem rM_does_78 {a0 s1 s2 : Nat} {a2 a3 s0 : Int} {u1 u4 : zV} (hk : zKd sh s1 = 20 ∨ zKd sh s1 = 30) (h0 : 0 ≤ s0) (h1 : s0 < zLn sh s1) : zS 196 78 [zR a0, u1, zI a2, zI a3, u4] [zI s0, zR s1, zR s2] sh pp mm Q ↔ zS 196 79 [zR a0, zU, zI a2, zI a3, zU] [zI (mm s1 s0), zR s2] sh pp mm Q := s_go cM_does_78 cM_does_79 (if_pos ⟨hk, h0, h1⟩) rfl
theorem rM_does_79 {a0 s1 : Nat} {a2 a3 s0 : Int} {u1 u4 : zV} (hk : zKd sh s1 = 12) : zS 196 79 [zR a0, u1, zI a2, zI a3, u4] [zI s0, zR s1] sh pp mm Q ↔ zS 181 0 [zR s1, zI s0, zU, zU, zU, zU] [] sh pp mm (fun v sh pp mm => zS 196 82 [zR a0, zU, zI a2, zI a3, zU] (zPush v []) sh pp mm Q) := s_call cM_does_79 cM_does_82 ((if_pos hk).trans rfl) rfl
theorem rM_does_82 {a0 : Nat} {a2 a3 : Int} {u1 u4 : zV} : zS 196 82 [zR a0, u1, zI a2, zI a3, u4] [] sh pp mm Q ↔ zS 196 230 [zR a0, zU, zI a2, zI a3, zU] [] sh pp mm Q := s_go cM_does_82 cM_does_230 rfl rfl
theorem rM_does_85 {a0 : Nat} {a2 a3 : Int} {u1 u4 : zV} : zS 196 85 [zR a0, u1, zI a2, zI a3, u4] [] sh pp mm Q ↔ zS 196 88 [zR a0, zU, zI (zw32 (a2 + (-1))), zI a3, zU] [] sh pp mm Q := s_go cM_does_85 cM_does_88 rfl rfl
theorem rM_does_88 {a0 : Nat} {a2 a3 : Int} {u1 u4 : zV} : zS 196 88 [zR a0, u1, zI a2, zI a3, u4] [] sh pp mm Q ↔ zS 196 230 [zR a0, zU, zI a2, zI a3, zU] [] sh pp mm Q := s_go cM_does_88 cM_does_230 rfl rfl
theorem rM_does_91 {a0 : Nat} {a2 a3 : Int} {u1 u4 : zV} : zS 196 91 [zR a0, u1, zI a2, zI a3, u4] [] sh pp mm Q ↔ zS 196 92 [zR a0, zU, zI a2, zI a3, zU] [zR a0] sh pp mm Q := s_go cM_does_91 cM_does_92 rfl rfl
theorem rM_does_92 {a0 s0 : Nat} {a2 a3 : Int} {u1 u4 : zV} : zS 196 92 [zR a0, u1, zI a2, zI a3, u4] [zR s0] sh pp mm Q ↔ zS 196 93 [zR a0, zU, zI a2, zI a3, zU] [zI a3, zR s0] sh pp mm Q := s_go cM_does_92 cM_does_93 rfl rfl
theorem rM_does_93 {a0 s1 : Nat} {a2 a3 s0 : Int} {u1 u4 : zV} : zS 196 93 [zR a0, u1, zI a2, zI a3, u4] [zI s0, zR s1] sh pp mm Q ↔ zS 196 96 [zR a0, zU, zI a2, zI a3, zU] [zI 300, zI s0, zR s1] sh pp mm Q := s_go cM_does_93 cM_does_96 rfl rfl
theorem rM_does_96 {a0 s2 : Nat} {a2 a3 s0 s1 : Int} {u1 u4 : zV} : zS 196 96 [zR a0, u1, zI a2, zI a3, u4] [zI s0, zI s1, zR s2] sh pp mm Q ↔ (s1 = s0 → zS 196 134 [zR a0, zU, zI a2, zI a3, zU] [zR s2] sh pp mm Q) ∧ (¬ s1 = s0 → zS 196 99 [zR a0, zU, zI a2, zI a3, zU] [zR s2] sh pp mm Q) := s_if cM_does_96 cM_does_134 cM_does_99 rfl rfl rfl
theorem rM_does_99 {a0 s0 : Nat} {a2 a3 : Int} {u1 u4 : zV} : zS 196 99 [zR a0, u1, zI a2, zI a3, u4] [zR s0] sh pp mm Q ↔ zS 196 100 [zR a0, zU, zI a2, zI a3, zU] [zR a0, zR s0] sh pp mm Q := s_go cM_does_99 cM_does_100 rfl rfl
theorem rM_does_100 {a0 s0 s1 : Nat} {a2 a3 : Int} {u1 u4 : zV} (hk : zKd sh s0 = 12) : zS 196 100 [zR a0, u1, zI a2, zI a3, u4] [zR s0, zR s1] sh pp mm Q ↔ zS 196 103 [zR a0, zU, zI a2, zI a3, zU] [zI (mm s0 12), zR s1] sh pp mm Q := s_go cM_does_100 cM_does_103 (if_pos hk) rfl
theorem rM_does_103 {a0 s1 : Nat} {a2 a3 s0 : Int} {u1 u4 : zV} : zS 196 103 [zR a0, u1, zI a2, zI a3, u4] [zI s0, zR s1] sh pp mm Q ↔ (s0 = 0 → zS 196 106 [zR a0, zU, zI a2, zI a3, zU] [zR s1] sh pp mm Q) ∧ (¬ s0 = 0 → zS 196 138 [zR a0, zU, zI a2, zI a3, zU] [zR s1] sh pp mm Q) := s_ifn cM_does_103 cM_does_106 cM_does_138 rfl rfl rfl
theorem rM_does_106 {a0 s0 : Nat} {a2 a3 : Int} {u1 u4 : zV} : zS 196 106 [zR a0, u1, zI a2, zI a3, u4] [zR s0] sh pp mm Q ↔ zS 196 107 [zR a0, zU, zI a2, zI a3, zU] [zR a0, zR s0] sh pp mm Q := s_go cM_does_106 cM_does_107 rfl rfl
theorem rM_does_107 {a0 s0 s1 : Nat} {a2 a3 : Int} {u1 u4 : zV} (hk : zKd sh s0 = 12) : zS 196 107 [zR a0, u1, zI a2, zI a3, u4] [zR s0, zR s1] sh pp mm Q ↔ zS 196 110 [zR a0, zU, zI a2, zI a3, zU] [zI (mm s0 20), zR s1] sh pp mm Q := s_go cM_does_107 cM_does_110 (if_pos hk) rfl
theorem rM_does_110 {a0 s1 : Nat} {a2 a3 s0 : Int} {u1 u4 : zV} : zS 196 110 [zR a0, u1, zI a2, zI a3, u4] [zI s0, zR s1] sh pp mm Q ↔ zS 196 111 [zR a0, zU, zI a2, zI a3, zU] [zR a0, zI s0, zR s1] sh pp mm Q := s_go cM_does_110 cM_does_111 rfl rfl
theorem rM_does_111 {a0 s0 s2 : Nat} {a2 a3 s1 : Int} {u1 u4 : zV} (hk : zKd sh s0 = 12) : zS 196 111 [zR a0, u1, zI a2, zI a3, u4] [zR s0, zI s1, zR s2] sh pp mm Q ↔ zS 196 114 [zR a0, zU, zI a2, zI a3, zU] [zI (mm s0 13), zI s1, zR s2] sh pp mm Q := s_go cM_does_111 cM_does_114 (if_pos hk) rfl
theorem rM_does_114 {a0 s2 : Nat} {a2 a3 s0 s1 : Int} {u1 u4 : zV} : zS 196 114 [zR a0, u1, zI a2, zI a3, u4] [zI s0, zI s1, zR s2] sh pp mm Q ↔ zS 190 0 [zI s0] [] sh pp mm (fun v sh pp mm => zS 196 117 [zR a0, zU, zI a2, zI a3, zU] (zPush v [zI s1, zR s2]) sh pp mm Q) := s_call cM_does_114 cM_does_117 rfl rfl
theorem rM_does_117 {a0 s2 : Nat} {a2 a3 s0 s1 : Int} {u1 u4 : zV} : zS 196 117 [zR a0, u1, zI a2, zI a3, u4] [zI s0, zI s1, zR s2] sh pp mm Q ↔ zS 196 118 [zR a0, zU, zI a2, zI a3, zU] [zR a0, zI s0, zI s1, zR s2] sh pp mm Q := s_go cM_does_117 cM_does_118 rfl rfl
theorem rM_does_118 {a0 s0 s3 : Nat} {a2 a3 s1 s2 : Int} {u1 u4 : zV} (hk : zKd sh s0 = 12) : zS 196 118 [zR a0, u1, zI a2, zI a3, u4] [zR s0, zI s1, zI s2, zR s3] sh pp mm Q ↔ zS 196 121 [zR a0, zU, zI a2, zI a3, zU] [zI (mm s0 14), zI s1, zI s2, zR s3] sh pp mm Q := s_go cM_does_118 cM_does_121 (if_pos hk) rfl
theorem rM_does_121 {a0 s3 : Nat} {a2 a3 s0 s1 s2 : Int} {u1 u4 : zV} : zS 196 121 [zR a0, u1, zI a2, zI a3, u4] [zI s0, zI s1, zI s2, zR s3] sh pp mm Q ↔ zS 190 0 [zI s0] [] sh pp mm (fun v sh pp mm => zS 196 124 [zR a0, zU, zI a2, zI a3, zU] (zPush v [zI s1, zI s2, zR s3]) sh pp mm Q) := s_call cM_does_121 cM_does_124 rfl rfl
theorem rM_does_124 {a0 s3 : Nat} {a2 a3 s0 s1 s2 : Int} {u1 u4 : zV} : zS 196 124 [zR a0, u1, zI a2, zI a3, u4] [zI s0, zI s1, zI s2, zR s3] sh pp mm Q ↔ zS 192 0 [zI s1, zI s0] [] sh pp mm (fun v sh pp mm => zS 196 127 [zR a0, zU, zI a2, zI a3, zU] (zPush v [zI s2, zR s3]) sh pp mm Q) := s_call cM_does_124 cM_does_127 rfl rfl
theorem rM_does_127 {a0 s2 : Nat} {a2 a3 s0 s1 : Int} {u1 u4 : zV} : zS 196 127 [zR a0, u1, zI a2, zI a3, u4] [zI s0, zI s1, zR s2] sh pp mm Q ↔ zS 196 128 [zR a0, zU, zI a2, zI a3, zU] [zI (zw32 (s1 + s0)), zR s2] sh pp mm Q := s_go cM_does_127 cM_does_128 rfl rfl
theorem rM_does_128 {a0 s1 : Nat} {a2 a3 s0 : Int} {u1 u4 : zV} : zS 196 128 [zR a0, u1, zI a2, zI a3, u4] [zI s0, zR s1] sh pp mm Q ↔ zS 196 131 [zR a0, zU, zI a2, zI a3, zU] [zI 2000, zI s0, zR s1] sh pp mm Q := s_go cM_does_128 cM_does_131 rfl rfl
theorem rM_does_131 {a0 s2 : Nat} {a2 a3 s0 s1 : Int} {u1 u4 : zV} : zS 196 131 [zR a0, u1, zI a2, zI a3, u4] [zI s0, zI s1, zR s2] sh pp mm Q ↔ (s0 < s1 → zS 196 134 [zR a0, zU, zI a2, zI a3, zU] [zR s2] sh pp mm Q) ∧ (¬ s0 < s1 → zS 196 138 [zR a0, zU, zI a2, zI a3, zU] [zR s2] sh pp mm Q) := s_ifn cM_does_131 cM_does_134 cM_does_138 rfl rfl rfl
theorem rM_does_134 {a0 s0 : Nat} {a2 a3 : Int} {u1 u4 : zV} : zS 196 134 [zR a0, u1, zI a2, zI a3, u4] [zR s0] sh pp mm Q ↔ zS 196 135 [zR a0, zU, zI a2, zI a3, zU] [zI 1, zR s0] sh pp mm Q := s_go cM_does_134 cM_does_135 rfl rfl
theorem rM_does_135 {a0 s1 : Nat} {a2 a3 s0 : Int} {u1 u4 : zV} : zS 196 135 [zR a0, u1, zI a2, zI a3, u4] [zI s0, zR s1] sh pp mm Q ↔ zS 196 139 [zR a0, zU, zI a2, zI a3, zU] [zI s0, zR s1] sh pp mm Q := s_go cM_does_135 cM_does_139 rfl rfl
theorem rM_does_138 {a0 s0 : Nat} {a2 a3 : Int} {u1 u4 : zV} : zS 196 138 [zR a0, u1, zI a2, zI a3, u4] [zR s0] sh pp mm Q ↔ zS 196 139 [zR a0, zU, zI a2, zI a3, zU] [zI 0, zR s0] sh pp mm Q := s_go cM_does_138 cM_does_139 rfl rfl
theorem rM_does_139 {a0 s1 : Nat} {a2 a3 s0 : Int} {u1 u4 : zV} (hk : zKd sh s1 = 12) (hb : s0 = 0 ∨ s0 = 1) : zS 196 139 [zR a0, u1, zI a2, zI a3, u4] [zI s0, zR s1] sh pp mm Q ↔ zS 196 142 [zR a0, zU, zI a2, zI a3, zU] [] sh pp (zupd mm s1 26 s0) Q := s_go cM_does_139 cM_does_142 (if_pos ⟨hk, Or.inr ⟨rfl, hb⟩⟩) rfl
theorem rM_does_142 {a0 : Nat} {a2 a3 : Int} {u1 u4 : zV} : zS 196 142 [zR a0, u1, zI a2, zI a3, u4] [] sh pp mm Q ↔ zS 196 145 [zR a0, zU, zI a2, zI (zw32 (a3 + 1)), zU] [] sh pp mm Q := s_go cM_does_142 cM_does_145 rfl rfl
theorem rM_does_145 {a0 : Nat} {a2 a3 : Int} {u1 u4 : zV} : zS 196 145 [zR a0, u1, zI a2, zI a3, u4] [] sh pp mm Q ↔ zS 196 146 [zR a0, zU, zI a2, zI a3, zU] [zR a0] sh pp mm Q := s_go cM_does_145 cM_does_146 rfl rfl
theorem rM_does_146 {a0 s0 : Nat} {a2 a3 : Int} {u1 u4 : zV} (hk : zKd sh s0 = 12) : zS 196 146 [zR a0, u1, zI a2, zI a3, u4] [zR s0] sh pp mm Q ↔ zS 196 149 [zR a0, zU, zI a2, zI a3, zU] [zI (mm s0 26)] sh pp mm Q := s_go cM_does_146 cM_does_149 (if_pos hk) rfl
theorem rM_does_149 {a0 : Nat} {a2 a3 s0 : Int} {u1 u4 : zV} : zS 196 149 [zR a0, u1, zI a2, zI a3, u4] [zI s0] sh pp mm Q ↔ (s0 = 0 → zS 196 152 [zR a0, zU, zI a2, zI a3, zU] [] sh pp mm Q) ∧ (¬ s0 = 0 → zS 196 174 [zR a0, zU, zI a2, zI a3, zU] [] sh pp mm Q) := s_ifn cM_does_149 cM_does_152 cM_does_174 rfl rfl rfl
theorem rM_does_152 {a0 : Nat} {a2 a3 : Int} {u1 u4 : zV} : zS 196 152 [zR a0, u1, zI a2, zI a3, u4] [] sh pp mm Q ↔ zS 196 153 [zR a0, zU, zI a2, zI a3, zU] [zR a0] sh pp mm Q := s_go cM_does_152 cM_does_153 rfl rfl
theorem rM_does_153 {a0 s0 : Nat} {a2 a3 : Int} {u1 u4 : zV} (hk : zKd sh s0 = 12) : zS 196 153 [zR a0, u1, zI a2, zI a3, u4] [zR s0] sh pp mm Q ↔ zS 196 156 [zR a0, zU, zI a2, zI a3, zU] [zI (mm s0 12)] sh pp mm Q := s_go cM_does_153 cM_does_156 (if_pos hk) rfl
theorem rM_does_156 {a0 : Nat} {a2 a3 s0 : Int} {u1 u4 : zV} : zS 196 156 [zR a0, u1, zI a2, zI a3, u4] [zI s0] sh pp mm Q ↔ (s0 = 0 → zS 196 159 [zR a0, zU, zI a2, zI a3, zU] [] sh pp mm Q) ∧ (¬ s0 = 0 → zS 196 174 [zR a0, zU, zI a2, zI a3, zU] [] sh pp mm Q) := s_ifn cM_does_156 cM_does_159 cM_does_174 rfl rfl rfl
theorem rM_does_159 {a0 : Nat} {a2 a3 : Int} {u1 u4 : zV} : zS 196 159 [zR a0, u1, zI a2, zI a3, u4] [] sh pp mm Q ↔ zS 196 160 [zR a0, zU, zI a2, zI a3, zU] [zR a0] sh pp mm Q := s_go cM_does_159 cM_does_160 rfl rfl
theorem rM_does_160 {a0 s0 : Nat} {a2 a3 : Int} {u1 u4 : zV} : zS 196 160 [zR a0, u1, zI a2, zI a3, u4] [zR s0] sh pp mm Q ↔ zS 196 161 [zR a0, zU, zI a2, zI a3, zU] [zR a0, zR s0] sh pp mm Q := s_go cM_does_160 cM_does_161 rfl rfl
theorem rM_does_161 {a0 s0 s1 : Nat} {a2 a3 : Int} {u1 u4 : zV} (hk : zKd sh s0 = 12) : zS 196 161 [zR a0, u1, zI a2, zI a3, u4] [zR s0, zR s1] sh pp mm Q ↔ zS 196 164 [zR a0, zU, zI a2, zI a3, zU] [zI (mm s0 13), zR s1] sh pp mm Q := s_go cM_does_161 cM_does_164 (if_pos hk) rfl
theorem rM_does_164 {a0 s1 : Nat} {a2 a3 s0 : Int} {u1 u4 : zV} : zS 196 164 [zR a0, u1, zI a2, zI a3, u4] [zI s0, zR s1] sh pp mm Q ↔ zS 196 165 [zR a0, zU, zI a2, zI a3, zU] [zR a0, zI s0, zR s1] sh pp mm Q := s_go cM_does_164 cM_does_165 rfl rfl
theorem rM_does_165 {a0 s0 s2 : Nat} {a2 a3 s1 : Int} {u1 u4 : zV} (hk : zKd sh s0 = 12) : zS 196 165 [zR a0, u1, zI a2, zI a3, u4] [zR s0, zI s1, zR s2] sh pp mm Q ↔ zS 196 168 [zR a0, zU, zI a2, zI a3, zU] [zI (mm s0 14), zI s1, zR s2] sh pp mm Q := s_go cM_does_165 cM_does_168 (if_pos hk) rfl
theorem rM_does_168 {a0 s2 : Nat} {a2 a3 s0 s1 : Int} {u1 u4 : zV} (hk : zKd sh s2 = 12) : zS 196 168 [zR a0, u1, zI a2, zI a3, u4] [zI s0, zI s1, zR s2] sh pp mm Q ↔ zS 193 0 [zR s2, zI s1, zI s0, zU, zU, zU] [] sh pp mm (fun v sh pp mm => zS 196 171 [zR a0, zU, zI a2, zI a3, zU] (zPush v []) sh pp mm Q) := s_call cM_does_168 cM_does_171 ((if_pos hk).trans rfl) rfl
theorem rM_does_171 {a0 : Nat} {a2 a3 : Int} {u1 u4 : zV} : zS 196 171 [zR a0, u1, zI a2, zI a3, u4] [] sh pp mm Q ↔ zS 196 230 [zR a0, zU, zI a2, zI a3, zU] [] sh pp mm Q := s_go cM_does_171 cM_does_230 rfl rfl
theorem rM_does_174 {a0 : Nat} {a2 a3 : Int} {u1 u4 : zV} : zS 196 174 [zR a0, u1, zI a2, zI a3, u4] [] sh pp mm Q ↔ zS 196 175 [zR a0, zU, zI a2, zI a3, zU] [zR a0] sh pp mm Q := s_go cM_does_174 cM_does_175 rfl rfl
theorem rM_does_175 {a0 s0 : Nat} {a2 a3 : Int} {u1 u4 : zV} (hk : zKd sh s0 = 12) : zS 196 175 [zR a0, u1, zI a2, zI a3, u4] [zR s0] sh pp mm Q ↔ zS 196 178 [zR a0, zU, zI a2, zI a3, zU] [zI (mm s0 26)] sh pp mm Q := s_go cM_does_175 cM_does_178 (if_pos hk) rfl
theorem rM_does_178 {a0 : Nat} {a2 a3 s0 : Int} {u1 u4 : zV} : zS 196 178 [zR a0, u1, zI a2, zI a3, u4] [zI s0] sh pp mm Q ↔ (s0 = 0 → zS 196 181 [zR a0, zU, zI a2, zI a3, zU] [] sh pp mm Q) ∧ (¬ s0 = 0 → zS 196 200 [zR a0, zU, zI a2, zI a3, zU] [] sh pp mm Q) := s_ifn cM_does_178 cM_does_181 cM_does_200 rfl rfl rfl
theorem rM_does_181 {a0 : Nat} {a2 a3 : Int} {u1 u4 : zV} : zS 196 181 [zR a0, u1, zI a2, zI a3, u4] [] sh pp mm Q ↔ zS 196 182 [zR a0, zU, zI a2, zI a3, zU] [zR a0] sh pp mm Q := s_go cM_does_181 cM_does_182 rfl rfl
theorem rM_does_182 {a0 s0 : Nat} {a2 a3 : Int} {u1 u4 : zV} (hk : zKd sh s0 = 12) : zS 196 182 [zR a0, u1, zI a2, zI a3, u4] [zR s0] sh pp mm Q ↔ zS 196 185 [zR a0, zU, zI a2, zI a3, zU] [zI (mm s0 12)] sh pp mm Q := s_go cM_does_182 cM_does_185 (if_pos hk) rfl
theorem rM_does_185 {a0 : Nat} {a2 a3 s0 : Int} {u1 u4 : zV} : zS 196 185 [zR a0, u1, zI a2, zI a3, u4] [zI s0] sh pp mm Q ↔ zS 196 186 [zR a0, zU, zI a2, zI a3, zU] [zI 1, zI s0] sh pp mm Q := s_go cM_does_185 cM_does_186 rfl rfl
theorem rM_does_186 {a0 : Nat} {a2 a3 s0 s1 : Int} {u1 u4 : zV} : zS 196 186 [zR a0, u1, zI a2, zI a3, u4] [zI s0, zI s1] sh pp mm Q ↔ (s1 = s0 → zS 196 189 [zR a0, zU, zI a2, zI a3, zU] [] sh pp mm Q) ∧ (¬ s1 = s0 → zS 196 200 [zR a0, zU, zI a2, zI a3, zU] [] sh pp mm Q) := s_ifn cM_does_186 cM_does_189 cM_does_200 rfl rfl rfl
theorem rM_does_189 {a0 : Nat} {a2 a3 : Int} {u1 u4 : zV} : zS 196 189 [zR a0, u1, zI a2, zI a3, u4] [] sh pp mm Q ↔ zS 196 190 [zR a0, zU, zI a2, zI a3, zU] [zR a0] sh pp mm Q := s_go cM_does_189 cM_does_190 rfl rfl
theorem rM_does_190 {a0 s0 : Nat} {a2 a3 : Int} {u1 u4 : zV} : zS 196 190 [zR a0, u1, zI a2, zI a3, u4] [zR s0] sh pp mm Q ↔ zS 196 191 [zR a0, zU, zI a2, zI a3, zU] [zR a0, zR s0] sh pp mm Q := s_go cM_does_190 cM_does_191 rfl rfl
theorem rM_does_191 {a0 s0 s1 : Nat} {a2 a3 : Int} {u1 u4 : zV} (hk : zKd sh s0 = 12) : zS 196 191 [zR a0, u1, zI a2, zI a3, u4] [zR s0, zR s1] sh pp mm Q ↔ zS 196 194 [zR a0, zU, zI a2, zI a3, zU] [zI (mm s0 14), zR s1] sh pp mm Q := s_go cM_does_191 cM_does_194 (if_pos hk) rfl
theorem rM_does_194 {a0 s1 : Nat} {a2 a3 s0 : Int} {u1 u4 : zV} (hk : zKd sh s1 = 12) : zS 196 194 [zR a0, u1, zI a2, zI a3, u4] [zI s0, zR s1] sh pp mm Q ↔ zS 194 0 [zR s1, zI s0, zU, zU, zU] [] sh pp mm (fun v sh pp mm => zS 196 197 [zR a0, zU, zI a2, zI a3, zU] (zPush v []) sh pp mm Q) := s_call cM_does_194 cM_does_197 ((if_pos hk).trans rfl) rfl
theorem rM_does_197 {a0 : Nat} {a2 a3 : Int} {u1 u4 : zV} : zS 196 197 [zR a0, u1, zI a2, zI a3, u4] [] sh pp mm Q ↔ zS 196 230 [zR a0, zU, zI a2, zI a3, zU] [] sh pp mm Q := s_go cM_does_197 cM_does_230 rfl rfl
theorem rM_does_200 {a0 : Nat} {a2 a3 : Int} {u1 u4 : zV} : zS 196 200 [zR a0, u1, zI a2, zI a3, u4] [] sh pp mm Q ↔ zS 196 201 [zR a0, zU, zI a2, zI a3, zU] [zR a0] sh pp mm Q := s_go cM_does_200 cM_does_201 rfl rfl
theorem rM_does_201 {a0 s0 : Nat} {a2 a3 : Int} {u1 u4 : zV} (hk : zKd sh s0 = 12) : zS 196 201 [zR a0, u1, zI a2, zI a3, u4] [zR s0] sh pp mm Q ↔ zS 196 204 [zR a0, zU, zI a2, zI a3, zU] [zI (mm s0 26)] sh pp mm Q := s_go cM_does_201 cM_does_204 (if_pos hk) rfl
theorem rM_does_204 {a0 : Nat} {a2 a3 s0 : Int} {u1 u4 : zV} : zS 196 204 [zR a0, u1, zI a2, zI a3, u4] [zI s0] sh pp mm Q ↔ (s0 = 0 → zS 196 207 [zR a0, zU, zI a2, zI a3, zU] [] sh pp mm Q) ∧ (¬ s0 = 0 → zS 196 230 [zR a0, zU, zI a2, zI a3, zU] [] sh pp mm Q) := s_ifn cM_does_204 cM_does_207 cM_does_230 rfl rfl rfl
theorem rM_does_207 {a0 : Nat} {a2 a3 : Int} {u1 u4 : zV} : zS 196 207 [zR a0, u1, zI a2, zI a3, u4] [] sh pp mm Q ↔ zS 196 208 [zR a0, zU, zI a2, zI a3, zU] [zR a0] sh pp mm Q := s_go cM_does_207 cM_does_208 rfl rfl
theorem rM_does_208 {a0 s0 : Nat} {a2 a3 : Int} {u1 u4 : zV} (hk : zKd sh s0 = 12) : zS 196 208 [zR a0, u1, zI a2, zI a3, u4] [zR s0] sh pp mm Q ↔ zS 196 211 [zR a0, zU, zI a2, zI a3, zU] [zR (pp s0 27)] sh pp mm Q := s_go cM_does_208 cM_does_211 (if_pos hk) rfl
theorem rM_does_211 {a0 s0 : Nat} {a2 a3 : Int} {u1 u4 : zV} : zS 196 211 [zR a0, u1, zI a2, zI a3, u4] [zR s0] sh pp mm Q ↔ zS 196 212 [zR a0, zU, zI a2, zI a3, zU] [zI a2, zR s0] sh pp mm Q := s_go cM_does_211 cM_does_212 rfl rfl
theorem rM_does_212 {a0 s1 : Nat} {a2 a3 s0 : Int} {u1 u4 : zV} : zS 196 212 [zR a0, u1, zI a2, zI a3, u4] [zI s0, zR s1] sh pp mm Q ↔ zS 196 213 [zR a0, zU, zI a2, zI a3, zU] [zR a0, zI s0, zR s1] sh pp mm Q := s_go cM_does_212 cM_does_213 rfl rfl
theorem rM_does_213 {a0 s0 s2 : Nat} {a2 a3 s1 : Int} {u1 u4 : zV} (hk : zKd sh s0 = 12) : zS 196 213 [zR a0, u1, zI a2, zI a3, u4] [zR s0, zI s1, zR s2] sh pp mm Q ↔ zS 196 216 [zR a0, zU, zI a2, zI a3, zU] [zI (mm s0 8), zI s1, zR s2] sh pp mm Q := s_go cM_does_213 cM_does_216 (if_pos hk) rfl
theorem rM_does_216 {a0 s2 : Nat} {a2 a3 s0 s1 : Int} {u1 u4 : zV} (hk : zKd sh s2 = 20) (h0 : 0 ≤ s1) (h1 : s1 < zLn sh s2) : zS 196 216 [zR a0, u1, zI a2, zI a3, u4] [zI s0, zI s1, zR s2] sh pp mm Q ↔ zS 196 217 [zR a0, zU, zI a2, zI a3, zU] [] sh pp (zupd mm s2 s1 s0) Q := s_go cM_does_216 cM_does_217 (if_pos ⟨hk, h0, h1, fun h => absurd h (by decide)⟩) rfl
theorem rM_does_217 {a0 : Nat} {a2 a3 : Int} {u1 u4 : zV} : zS 196 217 [zR a0, u1, zI a2, zI a3, u4] [] sh pp mm Q ↔ zS 196 218 [zR a0, zU, zI a2, zI a3, zU] [zR a0] sh pp mm Q := s_go cM_does_217 cM_does_218 rfl rfl
theorem rM_does_218 {a0 s0 : Nat} {a2 a3 : Int} {u1 u4 : zV} (hk : zKd sh s0 = 12) : zS 196 218 [zR a0, u1, zI a2, zI a3, u4] [zR s0] sh pp mm Q ↔ zS 196 221 [zR a0, zU, zI a2, zI a3, zU] [zR (pp s0 28)] sh pp mm Q := s_go cM_does_218 cM_does_221 (if_pos hk) rfl
theorem rM_does_221 {a0 s0 : Nat} {a2 a3 : Int} {u1 u4 : zV} : zS 196 221 [zR a0, u1, zI a2, zI a3, u4] [zR s0] sh pp mm Q ↔ zS 196 222 [zR a0, zU, zI a2, zI a3, zU] [zI a2, zR s0] sh pp mm Q := s_go cM_does_221 cM_does_222 rfl rfl
theorem rM_does_222 {a0 s1 : Nat} {a2 a3 s0 : Int} {u1 u4 : zV} : zS 196 222 [zR a0, u1, zI a2, zI a3, u4] [zI s0, zR s1] sh pp mm Q ↔ zS 196 223 [zR a0, zU, zI a2, zI a3, zU] [zR a0, zI s0, zR s1] sh pp mm Q := s_go cM_does_222 cM_does_223 rfl rfl
theorem rM_does_223 {a0 s0 s2 : Nat} {a2 a3 s1 : Int} {u1 u4 : zV} (hk : zKd sh s0 = 12) : zS 196 223 [zR a0, u1, zI a2, zI a3, u4] [zR s0, zI s1, zR s2] sh pp mm Q ↔ zS 196 226 [zR a0, zU, zI a2, zI a3, zU] [zI (mm s0 14), zI s1, zR s2] sh pp mm Q := s_go cM_does_223 cM_does_226 (if_pos hk) rfl
theorem rM_does_226 {a0 s2 : Nat} {a2 a3 s0 s1 : Int} {u1 u4 : zV} (hk : zKd sh s2 = 20) (h0 : 0 ≤ s1) (h1 : s1 < zLn sh s2) : zS 196 226 [zR a0, u1, zI a2, zI a3, u4] [zI s0, zI s1, zR s2] sh pp mm Q ↔ zS 196 227 [zR a0, zU, zI a2, zI a3, zU] [] sh pp (zupd mm s2 s1 s0) Q := s_go cM_does_226 cM_does_227 (if_pos ⟨hk, h0, h1, fun h => absurd h (by decide)⟩) rfl
theorem rM_does_227 {a0 : Nat} {a2 a3 : Int} {u1 u4 : zV} : zS 196 227 [zR a0, u1, zI a2, zI a3, u4] [] sh pp mm Q ↔ zS 196 230 [zR a0, zU, zI (zw32 (a2 + 1)), zI a3, zU] [] sh pp mm Q := s_go cM_does_227 cM_does_230 rfl rfl
theorem rM_does_230 {a0 : Nat} {a2 a3 : Int} {u1 u4 : zV} : zS 196 230 [zR a0, u1, zI a2, zI a3, u4] [] sh pp mm Q ↔ zS 196 18 [zR a0, zU, zI a2, zI a3, zU] [] sh pp mm Q := s_go cM_does_230 cM_does_18 rfl rfl
theorem rM_does_233 {u0 u1 u2 u3 u4 : zV} : zS 196 233 [u0, u1, u2, u3, u4] [] sh pp mm Q ↔ Q zU sh pp mm := s_ret cM_does_233 rfl
theorem cAM_cellsDrawn : ∀ q ∈ zT197, zCode 197 q.1 = some q.2 := zAll (mid := 197) rfl (by decide +kernel)
theorem cAM_cellsDrawn_0 : ∀ q ∈ zT197_0, zCode 197 q.1 = some q.2 := fun q h => cAM_cellsDrawn q (List.mem_append_left _ h)
theorem cAM_cellsDrawn_1 : ∀ q ∈ zT197_1, zCode 197 q.1 = some q.2 := fun q h => cAM_cellsDrawn q (List.mem_append_right _ h)
theorem cM_cellsDrawn_0 : zCode 197 0 = some (.iconst 0, 1, 0, 0, 0, 0, 1) := cAM_cellsDrawn_0 _ (List.mem_of_getElem? (i := 0) rfl)
theorem cM_cellsDrawn_1 : zCode 197 1 = some (.istore_n 1, 2, 0, 0, 0, 0, 1) := cAM_cellsDrawn_0 _ (List.mem_of_getElem? (i := 1) rfl)
theorem cM_cellsDrawn_2 : zCode 197 2 = some (.iconst 0, 3, 0, 0, 0, 0, 3) := cAM_cellsDrawn_0 _ (List.mem_of_getElem? (i := 2) rfl)
theorem cM_cellsDrawn_3 : zCode 197 3 = some (.istore_n 2, 4, 0, 0, 0, 0, 3) := cAM_cellsDrawn_0 _ (List.mem_of_getElem? (i := 3) rfl)
theorem cM_cellsDrawn_4 : zCode 197 4 = some (.iload_n 2, 5, 0, 0, 0, 0, 7) := cAM_cellsDrawn_0 _ (List.mem_of_getElem? (i := 4) rfl)
theorem cM_cellsDrawn_5 : zCode 197 5 = some (.sipush 384, 8, 0, 0, 0, 0, 7) := cAM_cellsDrawn_0 _ (List.mem_of_getElem? (i := 5) rfl)
theorem cM_cellsDrawn_8 : zCode 197 8 = some (.if_icmp .ge 26, 11, 34, 0, 0, 0, 7) := cAM_cellsDrawn_0 _ (List.mem_of_getElem? (i := 6) rfl)
theorem cM_cellsDrawn_11 : zCode 197 11 = some (.iload_n 1, 12, 0, 0, 0, 0, 7) := cAM_cellsDrawn_0 _ (List.mem_of_getElem? (i := 7) rfl)
theorem cM_cellsDrawn_12 : zCode 197 12 = some (.aload_n 0, 13, 0, 0, 0, 0, 5) := cAM_cellsDrawn_0 _ (List.mem_of_getElem? (i := 8) rfl)
theorem cM_cellsDrawn_13 : zCode 197 13 = some (.getfield 39, 16, 12, 18, 2, 1227, 5) := cAM_cellsDrawn_0 _ (List.mem_of_getElem? (i := 9) rfl)
theorem cM_cellsDrawn_16 : zCode 197 16 = some (.iload_n 2, 17, 0, 0, 0, 0, 5) := cAM_cellsDrawn_0 _ (List.mem_of_getElem? (i := 10) rfl)
theorem cM_cellsDrawn_17 : zCode 197 17 = some (.baload, 18, 0, 0, 0, 0, 5) := cAM_cellsDrawn_0 _ (List.mem_of_getElem? (i := 11) rfl)
theorem cM_cellsDrawn_18 : zCode 197 18 = some (.ifCond .eq 7, 21, 25, 0, 0, 0, 5) := cAM_cellsDrawn_0 _ (List.mem_of_getElem? (i := 12) rfl)
theorem cM_cellsDrawn_21 : zCode 197 21 = some (.iconst 1, 22, 0, 0, 0, 0, 5) := cAM_cellsDrawn_0 _ (List.mem_of_getElem? (i := 13) rfl)
theorem cM_cellsDrawn_22 : zCode 197 22 = some (.goto 4, 25, 26, 0, 0, 0, 5) := cAM_cellsDrawn_0 _ (List.mem_of_getElem? (i := 14) rfl)
theorem cM_cellsDrawn_25 : zCode 197 25 = some (.iconst 0, 26, 0, 0, 0, 0, 5) := cAM_cellsDrawn_0 _ (List.mem_of_getElem? (i := 15) rfl)
theorem cM_cellsDrawn_26 : zCode 197 26 = some (.iadd, 27, 0, 0, 0, 0, 5) := cAM_cellsDrawn_1 _ (List.mem_of_getElem? (i := 0) rfl)
theorem cM_cellsDrawn_27 : zCode 197 27 = some (.istore_n 1, 28, 0, 0, 0, 0, 5) := cAM_cellsDrawn_1 _ (List.mem_of_getElem? (i := 1) rfl)
theorem cM_cellsDrawn_28 : zCode 197 28 = some (.iinc 2 1, 31, 0, 0, 0, 0, 7) := cAM_cellsDrawn_1 _ (List.mem_of_getElem? (i := 2) rfl)
theorem cM_cellsDrawn_31 : zCode 197 31 = some (.goto (-27), 34, 4, 0, 0, 0, 7) := cAM_cellsDrawn_1 _ (List.mem_of_getElem? (i := 3) rfl)
theorem cM_cellsDrawn_34 : zCode 197 34 = some (.iload_n 1, 35, 0, 0, 0, 0, 2) := cAM_cellsDrawn_1 _ (List.mem_of_getElem? (i := 4) rfl)
theorem cM_cellsDrawn_35 : zCode 197 35 = some (.ireturn, 36, 0, 0, 0, 0, 0) := cAM_cellsDrawn_1 _ (List.mem_of_getElem? (i := 5) rfl)
theorem rM_cellsDrawn_0 {a0 : Nat} {u1 u2 : zV} : zS 197 0 [zR a0, u1, u2] [] sh pp mm Q ↔ zS 197 1 [zR a0, zU, zU] [zI 0] sh pp mm Q := s_go cM_cellsDrawn_0 cM_cellsDrawn_1 rfl rfl
theorem rM_cellsDrawn_1 {a0 : Nat} {s0 : Int} {u1 u2 : zV} : zS 197 1 [zR a0, u1, u2] [zI s0] sh pp mm Q ↔ zS 197 2 [zR a0, zI s0, zU] [] sh pp mm Q := s_go cM_cellsDrawn_1 cM_cellsDrawn_2 rfl rfl
theorem rM_cellsDrawn_2 {a0 : Nat} {a1 : Int} {u2 : zV} : zS 197 2 [zR a0, zI a1, u2] [] sh pp mm Q ↔ zS 197 3 [zR a0, zI a1, zU] [zI 0] sh pp mm Q := s_go cM_cellsDrawn_2 cM_cellsDrawn_3 rfl rfl
theorem rM_cellsDrawn_3 {a0 : Nat} {a1 s0 : Int} {u2 : zV} : zS 197 3 [zR a0, zI a1, u2] [zI s0] sh pp mm Q ↔ zS 197 4 [zR a0, zI a1, zI s0] [] sh pp mm Q := s_go cM_cellsDrawn_3 cM_cellsDrawn_4 rfl rfl
theorem rM_cellsDrawn_4 {a0 : Nat} {a1 a2 : Int} : zS 197 4 [zR a0, zI a1, zI a2] [] sh pp mm Q ↔ zS 197 5 [zR a0, zI a1, zI a2] [zI a2] sh pp mm Q := s_go cM_cellsDrawn_4 cM_cellsDrawn_5 rfl rfl
theorem rM_cellsDrawn_5 {a0 : Nat} {a1 a2 s0 : Int} : zS 197 5 [zR a0, zI a1, zI a2] [zI s0] sh pp mm Q ↔ zS 197 8 [zR a0, zI a1, zI a2] [zI 384, zI s0] sh pp mm Q := s_go cM_cellsDrawn_5 cM_cellsDrawn_8 rfl rfl
theorem rM_cellsDrawn_8 {a0 : Nat} {a1 a2 s0 s1 : Int} : zS 197 8 [zR a0, zI a1, zI a2] [zI s0, zI s1] sh pp mm Q ↔ (s1 < s0 → zS 197 11 [zR a0, zI a1, zI a2] [] sh pp mm Q) ∧ (¬ s1 < s0 → zS 197 34 [zU, zI a1, zU] [] sh pp mm Q) := s_ifn cM_cellsDrawn_8 cM_cellsDrawn_11 cM_cellsDrawn_34 rfl rfl rfl
theorem rM_cellsDrawn_11 {a0 : Nat} {a1 a2 : Int} : zS 197 11 [zR a0, zI a1, zI a2] [] sh pp mm Q ↔ zS 197 12 [zR a0, zU, zI a2] [zI a1] sh pp mm Q := s_go cM_cellsDrawn_11 cM_cellsDrawn_12 rfl rfl
theorem rM_cellsDrawn_12 {a0 : Nat} {a2 s0 : Int} {u1 : zV} : zS 197 12 [zR a0, u1, zI a2] [zI s0] sh pp mm Q ↔ zS 197 13 [zR a0, zU, zI a2] [zR a0, zI s0] sh pp mm Q := s_go cM_cellsDrawn_12 cM_cellsDrawn_13 rfl rfl
theorem rM_cellsDrawn_13 {a0 s0 : Nat} {a2 s1 : Int} {u1 : zV} (hk : zKd sh s0 = 12) : zS 197 13 [zR a0, u1, zI a2] [zR s0, zI s1] sh pp mm Q ↔ zS 197 16 [zR a0, zU, zI a2] [zR (pp s0 18), zI s1] sh pp mm Q := s_go cM_cellsDrawn_13 cM_cellsDrawn_16 (if_pos hk) rfl
theorem rM_cellsDrawn_16 {a0 s0 : Nat} {a2 s1 : Int} {u1 : zV} : zS 197 16 [zR a0, u1, zI a2] [zR s0, zI s1] sh pp mm Q ↔ zS 197 17 [zR a0, zU, zI a2] [zI a2, zR s0, zI s1] sh pp mm Q := s_go cM_cellsDrawn_16 cM_cellsDrawn_17 rfl rfl
theorem rM_cellsDrawn_17 {a0 s1 : Nat} {a2 s0 s2 : Int} {u1 : zV} (hk : zKd sh s1 = 22 ∨ zKd sh s1 = 32) (h0 : 0 ≤ s0) (h1 : s0 < zLn sh s1) : zS 197 17 [zR a0, u1, zI a2] [zI s0, zR s1, zI s2] sh pp mm Q ↔ zS 197 18 [zR a0, zU, zI a2] [zI (mm s1 s0), zI s2] sh pp mm Q := s_go cM_cellsDrawn_17 cM_cellsDrawn_18 (if_pos ⟨hk, h0, h1⟩) rfl
theorem rM_cellsDrawn_18 {a0 : Nat} {a2 s0 s1 : Int} {u1 : zV} : zS 197 18 [zR a0, u1, zI a2] [zI s0, zI s1] sh pp mm Q ↔ (s0 = 0 → zS 197 25 [zR a0, zU, zI a2] [zI s1] sh pp mm Q) ∧ (¬ s0 = 0 → zS 197 21 [zR a0, zU, zI a2] [zI s1] sh pp mm Q) := s_if cM_cellsDrawn_18 cM_cellsDrawn_25 cM_cellsDrawn_21 rfl rfl rfl
theorem rM_cellsDrawn_21 {a0 : Nat} {a2 s0 : Int} {u1 : zV} : zS 197 21 [zR a0, u1, zI a2] [zI s0] sh pp mm Q ↔ zS 197 22 [zR a0, zU, zI a2] [zI 1, zI s0] sh pp mm Q := s_go cM_cellsDrawn_21 cM_cellsDrawn_22 rfl rfl
theorem rM_cellsDrawn_22 {a0 : Nat} {a2 s0 s1 : Int} {u1 : zV} : zS 197 22 [zR a0, u1, zI a2] [zI s0, zI s1] sh pp mm Q ↔ zS 197 26 [zR a0, zU, zI a2] [zI s0, zI s1] sh pp mm Q := s_go cM_cellsDrawn_22 cM_cellsDrawn_26 rfl rfl
theorem rM_cellsDrawn_25 {a0 : Nat} {a2 s0 : Int} {u1 : zV} : zS 197 25 [zR a0, u1, zI a2] [zI s0] sh pp mm Q ↔ zS 197 26 [zR a0, zU, zI a2] [zI 0, zI s0] sh pp mm Q := s_go cM_cellsDrawn_25 cM_cellsDrawn_26 rfl rfl
theorem rM_cellsDrawn_26 {a0 : Nat} {a2 s0 s1 : Int} {u1 : zV} : zS 197 26 [zR a0, u1, zI a2] [zI s0, zI s1] sh pp mm Q ↔ zS 197 27 [zR a0, zU, zI a2] [zI (zw32 (s1 + s0))] sh pp mm Q := s_go cM_cellsDrawn_26 cM_cellsDrawn_27 rfl rfl
theorem rM_cellsDrawn_27 {a0 : Nat} {a2 s0 : Int} {u1 : zV} : zS 197 27 [zR a0, u1, zI a2] [zI s0] sh pp mm Q ↔ zS 197 28 [zR a0, zI s0, zI a2] [] sh pp mm Q := s_go cM_cellsDrawn_27 cM_cellsDrawn_28 rfl rfl
theorem rM_cellsDrawn_28 {a0 : Nat} {a1 a2 : Int} : zS 197 28 [zR a0, zI a1, zI a2] [] sh pp mm Q ↔ zS 197 31 [zR a0, zI a1, zI (zw32 (a2 + 1))] [] sh pp mm Q := s_go cM_cellsDrawn_28 cM_cellsDrawn_31 rfl rfl
theorem rM_cellsDrawn_31 {a0 : Nat} {a1 a2 : Int} : zS 197 31 [zR a0, zI a1, zI a2] [] sh pp mm Q ↔ zS 197 4 [zR a0, zI a1, zI a2] [] sh pp mm Q := s_go cM_cellsDrawn_31 cM_cellsDrawn_4 rfl rfl
theorem rM_cellsDrawn_34 {a1 : Int} {u0 u2 : zV} : zS 197 34 [u0, zI a1, u2] [] sh pp mm Q ↔ zS 197 35 [zU, zU, zU] [zI a1] sh pp mm Q := s_go cM_cellsDrawn_34 cM_cellsDrawn_35 rfl rfl
theorem rM_cellsDrawn_35 {s0 : Int} {u0 u1 u2 : zV} : zS 197 35 [u0, u1, u2] [zI s0] sh pp mm Q ↔ Q (zI s0) sh pp mm := s_ret cM_cellsDrawn_35 rfl
theorem cAM_draws : ∀ q ∈ zT198, zCode 198 q.1 = some q.2 := zAll (mid := 198) rfl (by decide +kernel)
theorem cAM_draws_0 : ∀ q ∈ zT198_0, zCode 198 q.1 = some q.2 := fun q h => cAM_draws q (List.mem_append_left _ h)
theorem cAM_draws_1 : ∀ q ∈ zT198_1, zCode 198 q.1 = some q.2 := fun q h => cAM_draws q (List.mem_append_right _ (List.mem_append_left _ h))
theorem cAM_draws_2 : ∀ q ∈ zT198_2, zCode 198 q.1 = some q.2 := fun q h => cAM_draws q (List.mem_append_right _ (List.mem_append_right _ (List.mem_append_left _ h)))
theorem cAM_draws_3 : ∀ q ∈ zT198_3, zCode 198 q.1 = some q.2 := fun q h => cAM_draws q (List.mem_append_right _ (List.mem_append_right _ (List.mem_append_right _ h)))
theorem cM_draws_0 : zCode 198 0 = some (.iload_n 1, 1, 0, 0, 0, 0, 7) := cAM_draws_0 _ (List.mem_of_getElem? (i := 0) rfl)
theorem cM_draws_1 : zCode 198 1 = some (.invokestatic 147, 4, 173, 1, 1, 12, 7) := cAM_draws_0 _ (List.mem_of_getElem? (i := 1) rfl)
theorem cM_draws_4 : zCode 198 4 = some (.ifCond .eq 15, 7, 19, 0, 0, 0, 7) := cAM_draws_0 _ (List.mem_of_getElem? (i := 2) rfl)
theorem cM_draws_7 : zCode 198 7 = some (.iload_n 2, 8, 0, 0, 0, 0, 7) := cAM_draws_0 _ (List.mem_of_getElem? (i := 3) rfl)
theorem cM_draws_8 : zCode 198 8 = some (.i2l, 9, 0, 0, 0, 0, 7) := cAM_draws_0 _ (List.mem_of_getElem? (i := 4) rfl)
theorem cM_draws_9 : zCode 198 9 = some (.lconst 0, 10, 0, 0, 0, 0, 7) := cAM_draws_0 _ (List.mem_of_getElem? (i := 5) rfl)
theorem cM_draws_10 : zCode 198 10 = some (.ldc2_w 263, 13, 0, 0, 1409, 9, 7) := cAM_draws_0 _ (List.mem_of_getElem? (i := 6) rfl)
theorem cM_draws_13 : zCode 198 13 = some (.invokestatic 121, 16, 151, 3, 6, 12, 7) := cAM_draws_0 _ (List.mem_of_getElem? (i := 7) rfl)
theorem cM_draws_16 : zCode 198 16 = some (.ifCond .ne 10, 19, 26, 0, 0, 0, 7) := cAM_draws_0 _ (List.mem_of_getElem? (i := 8) rfl)
theorem cM_draws_19 : zCode 198 19 = some (.aload_n 0, 20, 0, 0, 0, 0, 1) := cAM_draws_0 _ (List.mem_of_getElem? (i := 9) rfl)
theorem cM_draws_20 : zCode 198 20 = some (.bipush (-2), 22, 0, 0, 0, 0, 0) := cAM_draws_0 _ (List.mem_of_getElem? (i := 10) rfl)
theorem cM_draws_22 : zCode 198 22 = some (.invokevirtual 132, 25, 152, 1, 2, 12, 0) := cAM_draws_0 _ (List.mem_of_getElem? (i := 11) rfl)
theorem cM_draws_25 : zCode 198 25 = some (.ireturn, 26, 0, 0, 0, 0, 0) := cAM_draws_0 _ (List.mem_of_getElem? (i := 12) rfl)
theorem cM_draws_26 : zCode 198 26 = some (.aload_n 0, 27, 0, 0, 0, 0, 7) := cAM_draws_0 _ (List.mem_of_getElem? (i := 13) rfl)
theorem cM_draws_27 : zCode 198 27 = some (.iload_n 1, 28, 0, 0, 0, 0, 7) := cAM_draws_0 _ (List.mem_of_getElem? (i := 14) rfl)
theorem cM_draws_28 : zCode 198 28 = some (.invokevirtual 214, 31, 186, 1, 4, 12, 7) := cAM_draws_0 _ (List.mem_of_getElem? (i := 15) rfl)
theorem cM_draws_31 : zCode 198 31 = some (.ifCond .ne 10, 34, 41, 0, 0, 0, 7) := cAM_draws_1 _ (List.mem_of_getElem? (i := 0) rfl)
theorem cM_draws_34 : zCode 198 34 = some (.aload_n 0, 35, 0, 0, 0, 0, 1) := cAM_draws_1 _ (List.mem_of_getElem? (i := 1) rfl)
theorem cM_draws_35 : zCode 198 35 = some (.bipush (-3), 37, 0, 0, 0, 0, 0) := cAM_draws_1 _ (List.mem_of_getElem? (i := 2) rfl)
theorem cM_draws_37 : zCode 198 37 = some (.invokevirtual 265, 40, 153, 1, 2, 12, 0) := cAM_draws_1 _ (List.mem_of_getElem? (i := 3) rfl)
theorem cM_draws_40 : zCode 198 40 = some (.ireturn, 41, 0, 0, 0, 0, 0) := cAM_draws_1 _ (List.mem_of_getElem? (i := 4) rfl)
theorem cM_draws_41 : zCode 198 41 = some (.aload_n 0, 42, 0, 0, 0, 0, 7) := cAM_draws_1 _ (List.mem_of_getElem? (i := 5) rfl)
theorem cM_draws_42 : zCode 198 42 = some (.iload_n 1, 43, 0, 0, 0, 0, 7) := cAM_draws_1 _ (List.mem_of_getElem? (i := 6) rfl)
theorem cM_draws_43 : zCode 198 43 = some (.invokevirtual 268, 46, 196, 1, 5, 12, 5) := cAM_draws_1 _ (List.mem_of_getElem? (i := 7) rfl)
theorem cM_draws_46 : zCode 198 46 = some (.iload_n 2, 47, 0, 0, 0, 0, 5) := cAM_draws_1 _ (List.mem_of_getElem? (i := 8) rfl)
theorem cM_draws_47 : zCode 198 47 = some (.tableswitch 94 0 8 #[49, 54, 59, 64, 69, 74, 79, 79, 89], 96, 0, 0, 0, 0, 5) := cAM_draws_1 _ (List.mem_of_getElem? (i := 9) rfl)
theorem cM_draws_96 : zCode 198 96 = some (.aload_n 0, 97, 0, 0, 0, 0, 1) := cAM_draws_1 _ (List.mem_of_getElem? (i := 10) rfl)
theorem cM_draws_97 : zCode 198 97 = some (.invokevirtual 271, 100, 197, 0, 3, 12, 0) := cAM_draws_1 _ (List.mem_of_getElem? (i := 11) rfl)
theorem cM_draws_100 : zCode 198 100 = some (.ireturn, 101, 0, 0, 0, 0, 0) := cAM_draws_1 _ (List.mem_of_getElem? (i := 12) rfl)
theorem cM_draws_101 : zCode 198 101 = some (.aload_n 0, 102, 0, 0, 0, 0, 1) := cAM_draws_1 _ (List.mem_of_getElem? (i := 13) rfl)
theorem cM_draws_102 : zCode 198 102 = some (.getfield 241, 105, 12, 20, 0, 1229, 0) := cAM_draws_1 _ (List.mem_of_getElem? (i := 14) rfl)
theorem cM_draws_105 : zCode 198 105 = some (.ireturn, 106, 0, 0, 0, 0, 0) := cAM_draws_1 _ (List.mem_of_getElem? (i := 15) rfl)
theorem cM_draws_106 : zCode 198 106 = some (.aload_n 0, 107, 0, 0, 0, 0, 1) := cAM_draws_2 _ (List.mem_of_getElem? (i := 0) rfl)
theorem cM_draws_107 : zCode 198 107 = some (.getfield 217, 110, 12, 21, 0, 1230, 0) := cAM_draws_2 _ (List.mem_of_getElem? (i := 1) rfl)
theorem cM_draws_110 : zCode 198 110 = some (.ireturn, 111, 0, 0, 0, 0, 0) := cAM_draws_2 _ (List.mem_of_getElem? (i := 2) rfl)
theorem cM_draws_111 : zCode 198 111 = some (.aload_n 0, 112, 0, 0, 0, 0, 1) := cAM_draws_2 _ (List.mem_of_getElem? (i := 3) rfl)
theorem cM_draws_112 : zCode 198 112 = some (.getfield 223, 115, 12, 22, 0, 1231, 0) := cAM_draws_2 _ (List.mem_of_getElem? (i := 4) rfl)
theorem cM_draws_115 : zCode 198 115 = some (.ireturn, 116, 0, 0, 0, 0, 0) := cAM_draws_2 _ (List.mem_of_getElem? (i := 5) rfl)
theorem cM_draws_116 : zCode 198 116 = some (.aload_n 0, 117, 0, 0, 0, 0, 1) := cAM_draws_2 _ (List.mem_of_getElem? (i := 6) rfl)
theorem cM_draws_117 : zCode 198 117 = some (.getfield 226, 120, 12, 23, 0, 1232, 0) := cAM_draws_2 _ (List.mem_of_getElem? (i := 7) rfl)
theorem cM_draws_120 : zCode 198 120 = some (.ireturn, 121, 0, 0, 0, 0, 0) := cAM_draws_2 _ (List.mem_of_getElem? (i := 8) rfl)
theorem cM_draws_121 : zCode 198 121 = some (.aload_n 0, 122, 0, 0, 0, 0, 1) := cAM_draws_2 _ (List.mem_of_getElem? (i := 9) rfl)
theorem cM_draws_122 : zCode 198 122 = some (.getfield 220, 125, 12, 24, 0, 1233, 0) := cAM_draws_2 _ (List.mem_of_getElem? (i := 10) rfl)
theorem cM_draws_125 : zCode 198 125 = some (.ireturn, 126, 0, 0, 0, 0, 0) := cAM_draws_2 _ (List.mem_of_getElem? (i := 11) rfl)
theorem cM_draws_126 : zCode 198 126 = some (.aload_n 0, 127, 0, 0, 0, 0, 5) := cAM_draws_2 _ (List.mem_of_getElem? (i := 12) rfl)
theorem cM_draws_127 : zCode 198 127 = some (.getfield 33, 130, 12, 16, 2, 1225, 4) := cAM_draws_2 _ (List.mem_of_getElem? (i := 13) rfl)
theorem cM_draws_130 : zCode 198 130 = some (.iload_n 2, 131, 0, 0, 0, 0, 4) := cAM_draws_2 _ (List.mem_of_getElem? (i := 14) rfl)
theorem cM_draws_131 : zCode 198 131 = some (.bipush 6, 133, 0, 0, 0, 0, 0) := cAM_draws_2 _ (List.mem_of_getElem? (i := 15) rfl)
theorem cM_draws_133 : zCode 198 133 = some (.isub, 134, 0, 0, 0, 0, 0) := cAM_draws_3 _ (List.mem_of_getElem? (i := 0) rfl)
theorem cM_draws_134 : zCode 198 134 = some (.iaload, 135, 0, 0, 0, 0, 0) := cAM_draws_3 _ (List.mem_of_getElem? (i := 1) rfl)
theorem cM_draws_135 : zCode 198 135 = some (.ireturn, 136, 0, 0, 0, 0, 0) := cAM_draws_3 _ (List.mem_of_getElem? (i := 2) rfl)
theorem cM_draws_136 : zCode 198 136 = some (.aload_n 0, 137, 0, 0, 0, 0, 1) := cAM_draws_3 _ (List.mem_of_getElem? (i := 3) rfl)
theorem cM_draws_137 : zCode 198 137 = some (.getfield 247, 140, 12, 25, 0, 1234, 0) := cAM_draws_3 _ (List.mem_of_getElem? (i := 4) rfl)
theorem cM_draws_140 : zCode 198 140 = some (.ireturn, 141, 0, 0, 0, 0, 0) := cAM_draws_3 _ (List.mem_of_getElem? (i := 5) rfl)
theorem cM_draws_141 : zCode 198 141 = some (.aload_n 0, 142, 0, 0, 0, 0, 1) := cAM_draws_3 _ (List.mem_of_getElem? (i := 6) rfl)
theorem cM_draws_142 : zCode 198 142 = some (.getfield 250, 145, 12, 26, 3, 1235, 0) := cAM_draws_3 _ (List.mem_of_getElem? (i := 7) rfl)
theorem cM_draws_145 : zCode 198 145 = some (.ifCond .eq 7, 148, 152, 0, 0, 0, 0) := cAM_draws_3 _ (List.mem_of_getElem? (i := 8) rfl)
theorem cM_draws_148 : zCode 198 148 = some (.iconst 1, 149, 0, 0, 0, 0, 0) := cAM_draws_3 _ (List.mem_of_getElem? (i := 9) rfl)
theorem cM_draws_149 : zCode 198 149 = some (.goto 4, 152, 153, 0, 0, 0, 0) := cAM_draws_3 _ (List.mem_of_getElem? (i := 10) rfl)
theorem cM_draws_152 : zCode 198 152 = some (.iconst 0, 153, 0, 0, 0, 0, 0) := cAM_draws_3 _ (List.mem_of_getElem? (i := 11) rfl)
theorem cM_draws_153 : zCode 198 153 = some (.ireturn, 154, 0, 0, 0, 0, 0) := cAM_draws_3 _ (List.mem_of_getElem? (i := 12) rfl)
theorem rM_draws_0 {a0 : Nat} {a1 a2 : Int} : zS 198 0 [zR a0, zI a1, zI a2] [] sh pp mm Q ↔ zS 198 1 [zR a0, zI a1, zI a2] [zI a1] sh pp mm Q := s_go cM_draws_0 cM_draws_1 rfl rfl
theorem rM_draws_1 {a0 : Nat} {a1 a2 s0 : Int} : zS 198 1 [zR a0, zI a1, zI a2] [zI s0] sh pp mm Q ↔ zS 173 0 [zI s0] [] sh pp mm (fun v sh pp mm => zS 198 4 [zR a0, zI a1, zI a2] (zPush v []) sh pp mm Q) := s_call cM_draws_1 cM_draws_4 rfl rfl
theorem rM_draws_4 {a0 : Nat} {a1 a2 s0 : Int} : zS 198 4 [zR a0, zI a1, zI a2] [zI s0] sh pp mm Q ↔ (s0 = 0 → zS 198 19 [zR a0, zU, zU] [] sh pp mm Q) ∧ (¬ s0 = 0 → zS 198 7 [zR a0, zI a1, zI a2] [] sh pp mm Q) := s_if cM_draws_4 cM_draws_19 cM_draws_7 rfl rfl rfl
theorem rM_draws_7 {a0 : Nat} {a1 a2 : Int} : zS 198 7 [zR a0, zI a1, zI a2] [] sh pp mm Q ↔ zS 198 8 [zR a0, zI a1, zI a2] [zI a2] sh pp mm Q := s_go cM_draws_7 cM_draws_8 rfl rfl
theorem rM_draws_8 {a0 : Nat} {a1 a2 s0 : Int} : zS 198 8 [zR a0, zI a1, zI a2] [zI s0] sh pp mm Q ↔ zS 198 9 [zR a0, zI a1, zI a2] [zL s0] sh pp mm Q := s_go cM_draws_8 cM_draws_9 rfl rfl
theorem rM_draws_9 {a0 : Nat} {a1 a2 s0 : Int} : zS 198 9 [zR a0, zI a1, zI a2] [zL s0] sh pp mm Q ↔ zS 198 10 [zR a0, zI a1, zI a2] [zL 0, zL s0] sh pp mm Q := s_go cM_draws_9 cM_draws_10 rfl rfl
theorem rM_draws_10 {a0 : Nat} {a1 a2 s0 s1 : Int} : zS 198 10 [zR a0, zI a1, zI a2] [zL s0, zL s1] sh pp mm Q ↔ zS 198 13 [zR a0, zI a1, zI a2] [zL 9, zL s0, zL s1] sh pp mm Q := s_go cM_draws_10 cM_draws_13 rfl rfl
theorem rM_draws_13 {a0 : Nat} {a1 a2 s0 s1 s2 : Int} : zS 198 13 [zR a0, zI a1, zI a2] [zL s0, zL s1, zL s2] sh pp mm Q ↔ zS 151 0 [zL s2, zU, zL s1, zU, zL s0, zU] [] sh pp mm (fun v sh pp mm => zS 198 16 [zR a0, zI a1, zI a2] (zPush v []) sh pp mm Q) := s_call cM_draws_13 cM_draws_16 rfl rfl
theorem rM_draws_16 {a0 : Nat} {a1 a2 s0 : Int} : zS 198 16 [zR a0, zI a1, zI a2] [zI s0] sh pp mm Q ↔ (s0 = 0 → zS 198 19 [zR a0, zU, zU] [] sh pp mm Q) ∧ (¬ s0 = 0 → zS 198 26 [zR a0, zI a1, zI a2] [] sh pp mm Q) := s_ifn cM_draws_16 cM_draws_19 cM_draws_26 rfl rfl rfl
theorem rM_draws_19 {a0 : Nat} {u1 u2 : zV} : zS 198 19 [zR a0, u1, u2] [] sh pp mm Q ↔ zS 198 20 [zU, zU, zU] [zR a0] sh pp mm Q := s_go cM_draws_19 cM_draws_20 rfl rfl
theorem rM_draws_20 {s0 : Nat} {u0 u1 u2 : zV} : zS 198 20 [u0, u1, u2] [zR s0] sh pp mm Q ↔ zS 198 22 [zU, zU, zU] [zI (-2), zR s0] sh pp mm Q := s_go cM_draws_20 cM_draws_22 rfl rfl
theorem rM_draws_22 {s1 : Nat} {s0 : Int} {u0 u1 u2 : zV} (hk : zKd sh s1 = 12) : zS 198 22 [u0, u1, u2] [zI s0, zR s1] sh pp mm Q ↔ zS 152 0 [zR s1, zI s0] [] sh pp mm (fun v sh pp mm => zS 198 25 [zU, zU, zU] (zPush v []) sh pp mm Q) := s_call cM_draws_22 cM_draws_25 ((if_pos hk).trans rfl) rfl
theorem rM_draws_25 {s0 : Int} {u0 u1 u2 : zV} : zS 198 25 [u0, u1, u2] [zI s0] sh pp mm Q ↔ Q (zI s0) sh pp mm := s_ret cM_draws_25 rfl
theorem rM_draws_26 {a0 : Nat} {a1 a2 : Int} : zS 198 26 [zR a0, zI a1, zI a2] [] sh pp mm Q ↔ zS 198 27 [zR a0, zI a1, zI a2] [zR a0] sh pp mm Q := s_go cM_draws_26 cM_draws_27 rfl rfl
theorem rM_draws_27 {a0 s0 : Nat} {a1 a2 : Int} : zS 198 27 [zR a0, zI a1, zI a2] [zR s0] sh pp mm Q ↔ zS 198 28 [zR a0, zI a1, zI a2] [zI a1, zR s0] sh pp mm Q := s_go cM_draws_27 cM_draws_28 rfl rfl
theorem rM_draws_28 {a0 s1 : Nat} {a1 a2 s0 : Int} (hk : zKd sh s1 = 12) : zS 198 28 [zR a0, zI a1, zI a2] [zI s0, zR s1] sh pp mm Q ↔ zS 186 0 [zR s1, zI s0, zU, zU] [] sh pp mm (fun v sh pp mm => zS 198 31 [zR a0, zI a1, zI a2] (zPush v []) sh pp mm Q) := s_call cM_draws_28 cM_draws_31 ((if_pos hk).trans rfl) rfl
theorem rM_draws_31 {a0 : Nat} {a1 a2 s0 : Int} : zS 198 31 [zR a0, zI a1, zI a2] [zI s0] sh pp mm Q ↔ (s0 = 0 → zS 198 34 [zR a0, zU, zU] [] sh pp mm Q) ∧ (¬ s0 = 0 → zS 198 41 [zR a0, zI a1, zI a2] [] sh pp mm Q) := s_ifn cM_draws_31 cM_draws_34 cM_draws_41 rfl rfl rfl
theorem rM_draws_34 {a0 : Nat} {u1 u2 : zV} : zS 198 34 [zR a0, u1, u2] [] sh pp mm Q ↔ zS 198 35 [zU, zU, zU] [zR a0] sh pp mm Q := s_go cM_draws_34 cM_draws_35 rfl rfl
theorem rM_draws_35 {s0 : Nat} {u0 u1 u2 : zV} : zS 198 35 [u0, u1, u2] [zR s0] sh pp mm Q ↔ zS 198 37 [zU, zU, zU] [zI (-3), zR s0] sh pp mm Q := s_go cM_draws_35 cM_draws_37 rfl rfl
theorem rM_draws_37 {s1 : Nat} {s0 : Int} {u0 u1 u2 : zV} (hk : zKd sh s1 = 12) : zS 198 37 [u0, u1, u2] [zI s0, zR s1] sh pp mm Q ↔ zS 153 0 [zR s1, zI s0] [] sh pp mm (fun v sh pp mm => zS 198 40 [zU, zU, zU] (zPush v []) sh pp mm Q) := s_call cM_draws_37 cM_draws_40 ((if_pos hk).trans rfl) rfl
theorem rM_draws_40 {s0 : Int} {u0 u1 u2 : zV} : zS 198 40 [u0, u1, u2] [zI s0] sh pp mm Q ↔ Q (zI s0) sh pp mm := s_ret cM_draws_40 rfl
theorem rM_draws_41 {a0 : Nat} {a1 a2 : Int} : zS 198 41 [zR a0, zI a1, zI a2] [] sh pp mm Q ↔ zS 198 42 [zR a0, zI a1, zI a2] [zR a0] sh pp mm Q := s_go cM_draws_41 cM_draws_42 rfl rfl
theorem rM_draws_42 {a0 s0 : Nat} {a1 a2 : Int} : zS 198 42 [zR a0, zI a1, zI a2] [zR s0] sh pp mm Q ↔ zS 198 43 [zR a0, zU, zI a2] [zI a1, zR s0] sh pp mm Q := s_go cM_draws_42 cM_draws_43 rfl rfl
theorem rM_draws_43 {a0 s1 : Nat} {a2 s0 : Int} {u1 : zV} (hk : zKd sh s1 = 12) : zS 198 43 [zR a0, u1, zI a2] [zI s0, zR s1] sh pp mm Q ↔ zS 196 0 [zR s1, zI s0, zU, zU, zU] [] sh pp mm (fun v sh pp mm => zS 198 46 [zR a0, zU, zI a2] (zPush v []) sh pp mm Q) := s_call cM_draws_43 cM_draws_46 ((if_pos hk).trans rfl) rfl
theorem rM_draws_46 {a0 : Nat} {a2 : Int} {u1 : zV} : zS 198 46 [zR a0, u1, zI a2] [] sh pp mm Q ↔ zS 198 47 [zR a0, zU, zI a2] [zI a2] sh pp mm Q := s_go cM_draws_46 cM_draws_47 rfl rfl
theorem rM_draws_47_0 {a0 : Nat} {a2 : Int} {u1 : zV} : zS 198 47 [zR a0, u1, zI a2] [zI 0] sh pp mm Q ↔ zS 198 96 [zR a0, zU, zU] [] sh pp mm Q := s_go cM_draws_47 cM_draws_96 rfl rfl
theorem rM_draws_47_1 {a0 : Nat} {a2 : Int} {u1 : zV} : zS 198 47 [zR a0, u1, zI a2] [zI 1] sh pp mm Q ↔ zS 198 101 [zR a0, zU, zU] [] sh pp mm Q := s_go cM_draws_47 cM_draws_101 rfl rfl
theorem rM_draws_47_2 {a0 : Nat} {a2 : Int} {u1 : zV} : zS 198 47 [zR a0, u1, zI a2] [zI 2] sh pp mm Q ↔ zS 198 106 [zR a0, zU, zU] [] sh pp mm Q := s_go cM_draws_47 cM_draws_106 rfl rfl
theorem rM_draws_47_3 {a0 : Nat} {a2 : Int} {u1 : zV} : zS 198 47 [zR a0, u1, zI a2] [zI 3] sh pp mm Q ↔ zS 198 111 [zR a0, zU, zU] [] sh pp mm Q := s_go cM_draws_47 cM_draws_111 rfl rfl
theorem rM_draws_47_4 {a0 : Nat} {a2 : Int} {u1 : zV} : zS 198 47 [zR a0, u1, zI a2] [zI 4] sh pp mm Q ↔ zS 198 116 [zR a0, zU, zU] [] sh pp mm Q := s_go cM_draws_47 cM_draws_116 rfl rfl
theorem rM_draws_47_5 {a0 : Nat} {a2 : Int} {u1 : zV} : zS 198 47 [zR a0, u1, zI a2] [zI 5] sh pp mm Q ↔ zS 198 121 [zR a0, zU, zU] [] sh pp mm Q := s_go cM_draws_47 cM_draws_121 rfl rfl
theorem rM_draws_47_6 {a0 : Nat} {a2 : Int} {u1 : zV} : zS 198 47 [zR a0, u1, zI a2] [zI 6] sh pp mm Q ↔ zS 198 126 [zR a0, zU, zI a2] [] sh pp mm Q := s_go cM_draws_47 cM_draws_126 rfl rfl
theorem rM_draws_47_7 {a0 : Nat} {a2 : Int} {u1 : zV} : zS 198 47 [zR a0, u1, zI a2] [zI 7] sh pp mm Q ↔ zS 198 126 [zR a0, zU, zI a2] [] sh pp mm Q := s_go cM_draws_47 cM_draws_126 rfl rfl
theorem rM_draws_47_8 {a0 : Nat} {a2 : Int} {u1 : zV} : zS 198 47 [zR a0, u1, zI a2] [zI 8] sh pp mm Q ↔ zS 198 136 [zR a0, zU, zU] [] sh pp mm Q := s_go cM_draws_47 cM_draws_136 rfl rfl
theorem rM_draws_47_d {a0 : Nat} {a2 s0 : Int} {u1 : zV} (hd : s0 < 0 ∨ 8 < s0) : zS 198 47 [zR a0, u1, zI a2] [zI s0] sh pp mm Q ↔ zS 198 141 [zR a0, zU, zU] [] sh pp mm Q := s_go cM_draws_47 cM_draws_141 (if_pos hd) rfl
theorem rM_draws_96 {a0 : Nat} {u1 u2 : zV} : zS 198 96 [zR a0, u1, u2] [] sh pp mm Q ↔ zS 198 97 [zU, zU, zU] [zR a0] sh pp mm Q := s_go cM_draws_96 cM_draws_97 rfl rfl
theorem rM_draws_97 {s0 : Nat} {u0 u1 u2 : zV} (hk : zKd sh s0 = 12) : zS 198 97 [u0, u1, u2] [zR s0] sh pp mm Q ↔ zS 197 0 [zR s0, zU, zU] [] sh pp mm (fun v sh pp mm => zS 198 100 [zU, zU, zU] (zPush v []) sh pp mm Q) := s_call cM_draws_97 cM_draws_100 ((if_pos hk).trans rfl) rfl
theorem rM_draws_100 {s0 : Int} {u0 u1 u2 : zV} : zS 198 100 [u0, u1, u2] [zI s0] sh pp mm Q ↔ Q (zI s0) sh pp mm := s_ret cM_draws_100 rfl
theorem rM_draws_101 {a0 : Nat} {u1 u2 : zV} : zS 198 101 [zR a0, u1, u2] [] sh pp mm Q ↔ zS 198 102 [zU, zU, zU] [zR a0] sh pp mm Q := s_go cM_draws_101 cM_draws_102 rfl rfl
theorem rM_draws_102 {s0 : Nat} {u0 u1 u2 : zV} (hk : zKd sh s0 = 12) : zS 198 102 [u0, u1, u2] [zR s0] sh pp mm Q ↔ zS 198 105 [zU, zU, zU] [zI (mm s0 20)] sh pp mm Q := s_go cM_draws_102 cM_draws_105 (if_pos hk) rfl
theorem rM_draws_105 {s0 : Int} {u0 u1 u2 : zV} : zS 198 105 [u0, u1, u2] [zI s0] sh pp mm Q ↔ Q (zI s0) sh pp mm := s_ret cM_draws_105 rfl
theorem rM_draws_106 {a0 : Nat} {u1 u2 : zV} : zS 198 106 [zR a0, u1, u2] [] sh pp mm Q ↔ zS 198 107 [zU, zU, zU] [zR a0] sh pp mm Q := s_go cM_draws_106 cM_draws_107 rfl rfl
theorem rM_draws_107 {s0 : Nat} {u0 u1 u2 : zV} (hk : zKd sh s0 = 12) : zS 198 107 [u0, u1, u2] [zR s0] sh pp mm Q ↔ zS 198 110 [zU, zU, zU] [zI (mm s0 21)] sh pp mm Q := s_go cM_draws_107 cM_draws_110 (if_pos hk) rfl
theorem rM_draws_110 {s0 : Int} {u0 u1 u2 : zV} : zS 198 110 [u0, u1, u2] [zI s0] sh pp mm Q ↔ Q (zI s0) sh pp mm := s_ret cM_draws_110 rfl
theorem rM_draws_111 {a0 : Nat} {u1 u2 : zV} : zS 198 111 [zR a0, u1, u2] [] sh pp mm Q ↔ zS 198 112 [zU, zU, zU] [zR a0] sh pp mm Q := s_go cM_draws_111 cM_draws_112 rfl rfl
theorem rM_draws_112 {s0 : Nat} {u0 u1 u2 : zV} (hk : zKd sh s0 = 12) : zS 198 112 [u0, u1, u2] [zR s0] sh pp mm Q ↔ zS 198 115 [zU, zU, zU] [zI (mm s0 22)] sh pp mm Q := s_go cM_draws_112 cM_draws_115 (if_pos hk) rfl
theorem rM_draws_115 {s0 : Int} {u0 u1 u2 : zV} : zS 198 115 [u0, u1, u2] [zI s0] sh pp mm Q ↔ Q (zI s0) sh pp mm := s_ret cM_draws_115 rfl
theorem rM_draws_116 {a0 : Nat} {u1 u2 : zV} : zS 198 116 [zR a0, u1, u2] [] sh pp mm Q ↔ zS 198 117 [zU, zU, zU] [zR a0] sh pp mm Q := s_go cM_draws_116 cM_draws_117 rfl rfl
theorem rM_draws_117 {s0 : Nat} {u0 u1 u2 : zV} (hk : zKd sh s0 = 12) : zS 198 117 [u0, u1, u2] [zR s0] sh pp mm Q ↔ zS 198 120 [zU, zU, zU] [zI (mm s0 23)] sh pp mm Q := s_go cM_draws_117 cM_draws_120 (if_pos hk) rfl
theorem rM_draws_120 {s0 : Int} {u0 u1 u2 : zV} : zS 198 120 [u0, u1, u2] [zI s0] sh pp mm Q ↔ Q (zI s0) sh pp mm := s_ret cM_draws_120 rfl
theorem rM_draws_121 {a0 : Nat} {u1 u2 : zV} : zS 198 121 [zR a0, u1, u2] [] sh pp mm Q ↔ zS 198 122 [zU, zU, zU] [zR a0] sh pp mm Q := s_go cM_draws_121 cM_draws_122 rfl rfl
theorem rM_draws_122 {s0 : Nat} {u0 u1 u2 : zV} (hk : zKd sh s0 = 12) : zS 198 122 [u0, u1, u2] [zR s0] sh pp mm Q ↔ zS 198 125 [zU, zU, zU] [zI (mm s0 24)] sh pp mm Q := s_go cM_draws_122 cM_draws_125 (if_pos hk) rfl
theorem rM_draws_125 {s0 : Int} {u0 u1 u2 : zV} : zS 198 125 [u0, u1, u2] [zI s0] sh pp mm Q ↔ Q (zI s0) sh pp mm := s_ret cM_draws_125 rfl
theorem rM_draws_126 {a0 : Nat} {a2 : Int} {u1 : zV} : zS 198 126 [zR a0, u1, zI a2] [] sh pp mm Q ↔ zS 198 127 [zU, zU, zI a2] [zR a0] sh pp mm Q := s_go cM_draws_126 cM_draws_127 rfl rfl
theorem rM_draws_127 {s0 : Nat} {a2 : Int} {u0 u1 : zV} (hk : zKd sh s0 = 12) : zS 198 127 [u0, u1, zI a2] [zR s0] sh pp mm Q ↔ zS 198 130 [zU, zU, zI a2] [zR (pp s0 16)] sh pp mm Q := s_go cM_draws_127 cM_draws_130 (if_pos hk) rfl
theorem rM_draws_130 {s0 : Nat} {a2 : Int} {u0 u1 : zV} : zS 198 130 [u0, u1, zI a2] [zR s0] sh pp mm Q ↔ zS 198 131 [zU, zU, zU] [zI a2, zR s0] sh pp mm Q := s_go cM_draws_130 cM_draws_131 rfl rfl
theorem rM_draws_131 {s1 : Nat} {s0 : Int} {u0 u1 u2 : zV} : zS 198 131 [u0, u1, u2] [zI s0, zR s1] sh pp mm Q ↔ zS 198 133 [zU, zU, zU] [zI 6, zI s0, zR s1] sh pp mm Q := s_go cM_draws_131 cM_draws_133 rfl rfl
theorem rM_draws_133 {s2 : Nat} {s0 s1 : Int} {u0 u1 u2 : zV} : zS 198 133 [u0, u1, u2] [zI s0, zI s1, zR s2] sh pp mm Q ↔ zS 198 134 [zU, zU, zU] [zI (zw32 (s1 - s0)), zR s2] sh pp mm Q := s_go cM_draws_133 cM_draws_134 rfl rfl
theorem rM_draws_134 {s1 : Nat} {s0 : Int} {u0 u1 u2 : zV} (hk : zKd sh s1 = 20 ∨ zKd sh s1 = 30) (h0 : 0 ≤ s0) (h1 : s0 < zLn sh s1) : zS 198 134 [u0, u1, u2] [zI s0, zR s1] sh pp mm Q ↔ zS 198 135 [zU, zU, zU] [zI (mm s1 s0)] sh pp mm Q := s_go cM_draws_134 cM_draws_135 (if_pos ⟨hk, h0, h1⟩) rfl
theorem rM_draws_135 {s0 : Int} {u0 u1 u2 : zV} : zS 198 135 [u0, u1, u2] [zI s0] sh pp mm Q ↔ Q (zI s0) sh pp mm := s_ret cM_draws_135 rfl
theorem rM_draws_136 {a0 : Nat} {u1 u2 : zV} : zS 198 136 [zR a0, u1, u2] [] sh pp mm Q ↔ zS 198 137 [zU, zU, zU] [zR a0] sh pp mm Q := s_go cM_draws_136 cM_draws_137 rfl rfl
theorem rM_draws_137 {s0 : Nat} {u0 u1 u2 : zV} (hk : zKd sh s0 = 12) : zS 198 137 [u0, u1, u2] [zR s0] sh pp mm Q ↔ zS 198 140 [zU, zU, zU] [zI (mm s0 25)] sh pp mm Q := s_go cM_draws_137 cM_draws_140 (if_pos hk) rfl
theorem rM_draws_140 {s0 : Int} {u0 u1 u2 : zV} : zS 198 140 [u0, u1, u2] [zI s0] sh pp mm Q ↔ Q (zI s0) sh pp mm := s_ret cM_draws_140 rfl
theorem rM_draws_141 {a0 : Nat} {u1 u2 : zV} : zS 198 141 [zR a0, u1, u2] [] sh pp mm Q ↔ zS 198 142 [zU, zU, zU] [zR a0] sh pp mm Q := s_go cM_draws_141 cM_draws_142 rfl rfl
theorem rM_draws_142 {s0 : Nat} {u0 u1 u2 : zV} (hk : zKd sh s0 = 12) : zS 198 142 [u0, u1, u2] [zR s0] sh pp mm Q ↔ zS 198 145 [zU, zU, zU] [zI (mm s0 26)] sh pp mm Q := s_go cM_draws_142 cM_draws_145 (if_pos hk) rfl
theorem rM_draws_145 {s0 : Int} {u0 u1 u2 : zV} : zS 198 145 [u0, u1, u2] [zI s0] sh pp mm Q ↔ (s0 = 0 → zS 198 152 [zU, zU, zU] [] sh pp mm Q) ∧ (¬ s0 = 0 → zS 198 148 [zU, zU, zU] [] sh pp mm Q) := s_if cM_draws_145 cM_draws_152 cM_draws_148 rfl rfl rfl
theorem rM_draws_148 {u0 u1 u2 : zV} : zS 198 148 [u0, u1, u2] [] sh pp mm Q ↔ zS 198 149 [zU, zU, zU] [zI 1] sh pp mm Q := s_go cM_draws_148 cM_draws_149 rfl rfl
theorem rM_draws_149 {s0 : Int} {u0 u1 u2 : zV} : zS 198 149 [u0, u1, u2] [zI s0] sh pp mm Q ↔ zS 198 153 [zU, zU, zU] [zI s0] sh pp mm Q := s_go cM_draws_149 cM_draws_153 rfl rfl
theorem rM_draws_152 {u0 u1 u2 : zV} : zS 198 152 [u0, u1, u2] [] sh pp mm Q ↔ zS 198 153 [zU, zU, zU] [zI 0] sh pp mm Q := s_go cM_draws_152 cM_draws_153 rfl rfl
theorem rM_draws_153 {s0 : Int} {u0 u1 u2 : zV} : zS 198 153 [u0, u1, u2] [zI s0] sh pp mm Q ↔ Q (zI s0) sh pp mm := s_ret cM_draws_153 rfl
theorem cAM_cell : ∀ q ∈ zT199, zCode 199 q.1 = some q.2 := zAll (mid := 199) rfl (by decide +kernel)
theorem cAM_cell_0 : ∀ q ∈ zT199_0, zCode 199 q.1 = some q.2 := fun q h => cAM_cell q (List.mem_append_left _ h)
theorem cAM_cell_1 : ∀ q ∈ zT199_1, zCode 199 q.1 = some q.2 := fun q h => cAM_cell q (List.mem_append_right _ (List.mem_append_left _ h))
theorem cAM_cell_2 : ∀ q ∈ zT199_2, zCode 199 q.1 = some q.2 := fun q h => cAM_cell q (List.mem_append_right _ (List.mem_append_right _ h))
theorem cM_cell_0 : zCode 199 0 = some (.iload_n 1, 1, 0, 0, 0, 0, 15) := cAM_cell_0 _ (List.mem_of_getElem? (i := 0) rfl)
theorem cM_cell_1 : zCode 199 1 = some (.invokestatic 147, 4, 173, 1, 1, 12, 15) := cAM_cell_0 _ (List.mem_of_getElem? (i := 1) rfl)
theorem cM_cell_4 : zCode 199 4 = some (.ifCond .eq 11, 7, 15, 0, 0, 0, 15) := cAM_cell_0 _ (List.mem_of_getElem? (i := 2) rfl)
theorem cM_cell_7 : zCode 199 7 = some (.iload_n 2, 8, 0, 0, 0, 0, 15) := cAM_cell_0 _ (List.mem_of_getElem? (i := 3) rfl)
theorem cM_cell_8 : zCode 199 8 = some (.iload_n 3, 9, 0, 0, 0, 0, 15) := cAM_cell_0 _ (List.mem_of_getElem? (i := 4) rfl)
theorem cM_cell_9 : zCode 199 9 = some (.invokestatic 274, 12, 174, 2, 2, 12, 15) := cAM_cell_0 _ (List.mem_of_getElem? (i := 5) rfl)
theorem cM_cell_12 : zCode 199 12 = some (.ifCond .ne 10, 15, 22, 0, 0, 0, 15) := cAM_cell_0 _ (List.mem_of_getElem? (i := 6) rfl)
theorem cM_cell_15 : zCode 199 15 = some (.aload_n 0, 16, 0, 0, 0, 0, 1) := cAM_cell_0 _ (List.mem_of_getElem? (i := 7) rfl)
theorem cM_cell_16 : zCode 199 16 = some (.bipush (-2), 18, 0, 0, 0, 0, 0) := cAM_cell_0 _ (List.mem_of_getElem? (i := 8) rfl)
theorem cM_cell_18 : zCode 199 18 = some (.invokevirtual 132, 21, 152, 1, 2, 12, 0) := cAM_cell_0 _ (List.mem_of_getElem? (i := 9) rfl)
theorem cM_cell_21 : zCode 199 21 = some (.ireturn, 22, 0, 0, 0, 0, 0) := cAM_cell_0 _ (List.mem_of_getElem? (i := 10) rfl)
theorem cM_cell_22 : zCode 199 22 = some (.aload_n 0, 23, 0, 0, 0, 0, 15) := cAM_cell_0 _ (List.mem_of_getElem? (i := 11) rfl)
theorem cM_cell_23 : zCode 199 23 = some (.iload_n 1, 24, 0, 0, 0, 0, 15) := cAM_cell_0 _ (List.mem_of_getElem? (i := 12) rfl)
theorem cM_cell_24 : zCode 199 24 = some (.invokevirtual 214, 27, 186, 1, 4, 12, 15) := cAM_cell_0 _ (List.mem_of_getElem? (i := 13) rfl)
theorem cM_cell_27 : zCode 199 27 = some (.ifCond .ne 10, 30, 37, 0, 0, 0, 15) := cAM_cell_0 _ (List.mem_of_getElem? (i := 14) rfl)
theorem cM_cell_30 : zCode 199 30 = some (.aload_n 0, 31, 0, 0, 0, 0, 1) := cAM_cell_0 _ (List.mem_of_getElem? (i := 15) rfl)
theorem cM_cell_31 : zCode 199 31 = some (.bipush (-3), 33, 0, 0, 0, 0, 0) := cAM_cell_1 _ (List.mem_of_getElem? (i := 0) rfl)
theorem cM_cell_33 : zCode 199 33 = some (.invokevirtual 265, 36, 153, 1, 2, 12, 0) := cAM_cell_1 _ (List.mem_of_getElem? (i := 1) rfl)
theorem cM_cell_36 : zCode 199 36 = some (.ireturn, 37, 0, 0, 0, 0, 0) := cAM_cell_1 _ (List.mem_of_getElem? (i := 2) rfl)
theorem cM_cell_37 : zCode 199 37 = some (.aload_n 0, 38, 0, 0, 0, 0, 15) := cAM_cell_1 _ (List.mem_of_getElem? (i := 3) rfl)
theorem cM_cell_38 : zCode 199 38 = some (.iload_n 1, 39, 0, 0, 0, 0, 15) := cAM_cell_1 _ (List.mem_of_getElem? (i := 4) rfl)
theorem cM_cell_39 : zCode 199 39 = some (.invokevirtual 268, 42, 196, 1, 5, 12, 13) := cAM_cell_1 _ (List.mem_of_getElem? (i := 5) rfl)
theorem cM_cell_42 : zCode 199 42 = some (.aload_n 0, 43, 0, 0, 0, 0, 13) := cAM_cell_1 _ (List.mem_of_getElem? (i := 6) rfl)
theorem cM_cell_43 : zCode 199 43 = some (.getfield 39, 46, 12, 18, 2, 1227, 12) := cAM_cell_1 _ (List.mem_of_getElem? (i := 7) rfl)
theorem cM_cell_46 : zCode 199 46 = some (.bipush 24, 48, 0, 0, 0, 0, 12) := cAM_cell_1 _ (List.mem_of_getElem? (i := 8) rfl)
theorem cM_cell_48 : zCode 199 48 = some (.iload_n 3, 49, 0, 0, 0, 0, 12) := cAM_cell_1 _ (List.mem_of_getElem? (i := 9) rfl)
theorem cM_cell_49 : zCode 199 49 = some (.imul, 50, 0, 0, 0, 0, 4) := cAM_cell_1 _ (List.mem_of_getElem? (i := 10) rfl)
theorem cM_cell_50 : zCode 199 50 = some (.iload_n 2, 51, 0, 0, 0, 0, 4) := cAM_cell_1 _ (List.mem_of_getElem? (i := 11) rfl)
theorem cM_cell_51 : zCode 199 51 = some (.iadd, 52, 0, 0, 0, 0, 0) := cAM_cell_1 _ (List.mem_of_getElem? (i := 12) rfl)
theorem cM_cell_52 : zCode 199 52 = some (.baload, 53, 0, 0, 0, 0, 0) := cAM_cell_1 _ (List.mem_of_getElem? (i := 13) rfl)
theorem cM_cell_53 : zCode 199 53 = some (.ifCond .eq 7, 56, 60, 0, 0, 0, 0) := cAM_cell_1 _ (List.mem_of_getElem? (i := 14) rfl)
theorem cM_cell_56 : zCode 199 56 = some (.iconst 1, 57, 0, 0, 0, 0, 0) := cAM_cell_1 _ (List.mem_of_getElem? (i := 15) rfl)
theorem cM_cell_57 : zCode 199 57 = some (.goto 4, 60, 61, 0, 0, 0, 0) := cAM_cell_2 _ (List.mem_of_getElem? (i := 0) rfl)
theorem cM_cell_60 : zCode 199 60 = some (.iconst 0, 61, 0, 0, 0, 0, 0) := cAM_cell_2 _ (List.mem_of_getElem? (i := 1) rfl)
theorem cM_cell_61 : zCode 199 61 = some (.ireturn, 62, 0, 0, 0, 0, 0) := cAM_cell_2 _ (List.mem_of_getElem? (i := 2) rfl)
theorem rM_cell_0 {a0 : Nat} {a1 a2 a3 : Int} : zS 199 0 [zR a0, zI a1, zI a2, zI a3] [] sh pp mm Q ↔ zS 199 1 [zR a0, zI a1, zI a2, zI a3] [zI a1] sh pp mm Q := s_go cM_cell_0 cM_cell_1 rfl rfl
theorem rM_cell_1 {a0 : Nat} {a1 a2 a3 s0 : Int} : zS 199 1 [zR a0, zI a1, zI a2, zI a3] [zI s0] sh pp mm Q ↔ zS 173 0 [zI s0] [] sh pp mm (fun v sh pp mm => zS 199 4 [zR a0, zI a1, zI a2, zI a3] (zPush v []) sh pp mm Q) := s_call cM_cell_1 cM_cell_4 rfl rfl
theorem rM_cell_4 {a0 : Nat} {a1 a2 a3 s0 : Int} : zS 199 4 [zR a0, zI a1, zI a2, zI a3] [zI s0] sh pp mm Q ↔ (s0 = 0 → zS 199 15 [zR a0, zU, zU, zU] [] sh pp mm Q) ∧ (¬ s0 = 0 → zS 199 7 [zR a0, zI a1, zI a2, zI a3] [] sh pp mm Q) := s_if cM_cell_4 cM_cell_15 cM_cell_7 rfl rfl rfl
theorem rM_cell_7 {a0 : Nat} {a1 a2 a3 : Int} : zS 199 7 [zR a0, zI a1, zI a2, zI a3] [] sh pp mm Q ↔ zS 199 8 [zR a0, zI a1, zI a2, zI a3] [zI a2] sh pp mm Q := s_go cM_cell_7 cM_cell_8 rfl rfl
theorem rM_cell_8 {a0 : Nat} {a1 a2 a3 s0 : Int} : zS 199 8 [zR a0, zI a1, zI a2, zI a3] [zI s0] sh pp mm Q ↔ zS 199 9 [zR a0, zI a1, zI a2, zI a3] [zI a3, zI s0] sh pp mm Q := s_go cM_cell_8 cM_cell_9 rfl rfl
theorem rM_cell_9 {a0 : Nat} {a1 a2 a3 s0 s1 : Int} : zS 199 9 [zR a0, zI a1, zI a2, zI a3] [zI s0, zI s1] sh pp mm Q ↔ zS 174 0 [zI s1, zI s0] [] sh pp mm (fun v sh pp mm => zS 199 12 [zR a0, zI a1, zI a2, zI a3] (zPush v []) sh pp mm Q) := s_call cM_cell_9 cM_cell_12 rfl rfl
theorem rM_cell_12 {a0 : Nat} {a1 a2 a3 s0 : Int} : zS 199 12 [zR a0, zI a1, zI a2, zI a3] [zI s0] sh pp mm Q ↔ (s0 = 0 → zS 199 15 [zR a0, zU, zU, zU] [] sh pp mm Q) ∧ (¬ s0 = 0 → zS 199 22 [zR a0, zI a1, zI a2, zI a3] [] sh pp mm Q) := s_ifn cM_cell_12 cM_cell_15 cM_cell_22 rfl rfl rfl
theorem rM_cell_15 {a0 : Nat} {u1 u2 u3 : zV} : zS 199 15 [zR a0, u1, u2, u3] [] sh pp mm Q ↔ zS 199 16 [zU, zU, zU, zU] [zR a0] sh pp mm Q := s_go cM_cell_15 cM_cell_16 rfl rfl
theorem rM_cell_16 {s0 : Nat} {u0 u1 u2 u3 : zV} : zS 199 16 [u0, u1, u2, u3] [zR s0] sh pp mm Q ↔ zS 199 18 [zU, zU, zU, zU] [zI (-2), zR s0] sh pp mm Q := s_go cM_cell_16 cM_cell_18 rfl rfl
theorem rM_cell_18 {s1 : Nat} {s0 : Int} {u0 u1 u2 u3 : zV} (hk : zKd sh s1 = 12) : zS 199 18 [u0, u1, u2, u3] [zI s0, zR s1] sh pp mm Q ↔ zS 152 0 [zR s1, zI s0] [] sh pp mm (fun v sh pp mm => zS 199 21 [zU, zU, zU, zU] (zPush v []) sh pp mm Q) := s_call cM_cell_18 cM_cell_21 ((if_pos hk).trans rfl) rfl
theorem rM_cell_21 {s0 : Int} {u0 u1 u2 u3 : zV} : zS 199 21 [u0, u1, u2, u3] [zI s0] sh pp mm Q ↔ Q (zI s0) sh pp mm := s_ret cM_cell_21 rfl
theorem rM_cell_22 {a0 : Nat} {a1 a2 a3 : Int} : zS 199 22 [zR a0, zI a1, zI a2, zI a3] [] sh pp mm Q ↔ zS 199 23 [zR a0, zI a1, zI a2, zI a3] [zR a0] sh pp mm Q := s_go cM_cell_22 cM_cell_23 rfl rfl
theorem rM_cell_23 {a0 s0 : Nat} {a1 a2 a3 : Int} : zS 199 23 [zR a0, zI a1, zI a2, zI a3] [zR s0] sh pp mm Q ↔ zS 199 24 [zR a0, zI a1, zI a2, zI a3] [zI a1, zR s0] sh pp mm Q := s_go cM_cell_23 cM_cell_24 rfl rfl
theorem rM_cell_24 {a0 s1 : Nat} {a1 a2 a3 s0 : Int} (hk : zKd sh s1 = 12) : zS 199 24 [zR a0, zI a1, zI a2, zI a3] [zI s0, zR s1] sh pp mm Q ↔ zS 186 0 [zR s1, zI s0, zU, zU] [] sh pp mm (fun v sh pp mm => zS 199 27 [zR a0, zI a1, zI a2, zI a3] (zPush v []) sh pp mm Q) := s_call cM_cell_24 cM_cell_27 ((if_pos hk).trans rfl) rfl
theorem rM_cell_27 {a0 : Nat} {a1 a2 a3 s0 : Int} : zS 199 27 [zR a0, zI a1, zI a2, zI a3] [zI s0] sh pp mm Q ↔ (s0 = 0 → zS 199 30 [zR a0, zU, zU, zU] [] sh pp mm Q) ∧ (¬ s0 = 0 → zS 199 37 [zR a0, zI a1, zI a2, zI a3] [] sh pp mm Q) := s_ifn cM_cell_27 cM_cell_30 cM_cell_37 rfl rfl rfl
theorem rM_cell_30 {a0 : Nat} {u1 u2 u3 : zV} : zS 199 30 [zR a0, u1, u2, u3] [] sh pp mm Q ↔ zS 199 31 [zU, zU, zU, zU] [zR a0] sh pp mm Q := s_go cM_cell_30 cM_cell_31 rfl rfl
theorem rM_cell_31 {s0 : Nat} {u0 u1 u2 u3 : zV} : zS 199 31 [u0, u1, u2, u3] [zR s0] sh pp mm Q ↔ zS 199 33 [zU, zU, zU, zU] [zI (-3), zR s0] sh pp mm Q := s_go cM_cell_31 cM_cell_33 rfl rfl
theorem rM_cell_33 {s1 : Nat} {s0 : Int} {u0 u1 u2 u3 : zV} (hk : zKd sh s1 = 12) : zS 199 33 [u0, u1, u2, u3] [zI s0, zR s1] sh pp mm Q ↔ zS 153 0 [zR s1, zI s0] [] sh pp mm (fun v sh pp mm => zS 199 36 [zU, zU, zU, zU] (zPush v []) sh pp mm Q) := s_call cM_cell_33 cM_cell_36 ((if_pos hk).trans rfl) rfl
theorem rM_cell_36 {s0 : Int} {u0 u1 u2 u3 : zV} : zS 199 36 [u0, u1, u2, u3] [zI s0] sh pp mm Q ↔ Q (zI s0) sh pp mm := s_ret cM_cell_36 rfl
theorem rM_cell_37 {a0 : Nat} {a1 a2 a3 : Int} : zS 199 37 [zR a0, zI a1, zI a2, zI a3] [] sh pp mm Q ↔ zS 199 38 [zR a0, zI a1, zI a2, zI a3] [zR a0] sh pp mm Q := s_go cM_cell_37 cM_cell_38 rfl rfl
theorem rM_cell_38 {a0 s0 : Nat} {a1 a2 a3 : Int} : zS 199 38 [zR a0, zI a1, zI a2, zI a3] [zR s0] sh pp mm Q ↔ zS 199 39 [zR a0, zU, zI a2, zI a3] [zI a1, zR s0] sh pp mm Q := s_go cM_cell_38 cM_cell_39 rfl rfl
theorem rM_cell_39 {a0 s1 : Nat} {a2 a3 s0 : Int} {u1 : zV} (hk : zKd sh s1 = 12) : zS 199 39 [zR a0, u1, zI a2, zI a3] [zI s0, zR s1] sh pp mm Q ↔ zS 196 0 [zR s1, zI s0, zU, zU, zU] [] sh pp mm (fun v sh pp mm => zS 199 42 [zR a0, zU, zI a2, zI a3] (zPush v []) sh pp mm Q) := s_call cM_cell_39 cM_cell_42 ((if_pos hk).trans rfl) rfl
theorem rM_cell_42 {a0 : Nat} {a2 a3 : Int} {u1 : zV} : zS 199 42 [zR a0, u1, zI a2, zI a3] [] sh pp mm Q ↔ zS 199 43 [zU, zU, zI a2, zI a3] [zR a0] sh pp mm Q := s_go cM_cell_42 cM_cell_43 rfl rfl
theorem rM_cell_43 {s0 : Nat} {a2 a3 : Int} {u0 u1 : zV} (hk : zKd sh s0 = 12) : zS 199 43 [u0, u1, zI a2, zI a3] [zR s0] sh pp mm Q ↔ zS 199 46 [zU, zU, zI a2, zI a3] [zR (pp s0 18)] sh pp mm Q := s_go cM_cell_43 cM_cell_46 (if_pos hk) rfl
theorem rM_cell_46 {s0 : Nat} {a2 a3 : Int} {u0 u1 : zV} : zS 199 46 [u0, u1, zI a2, zI a3] [zR s0] sh pp mm Q ↔ zS 199 48 [zU, zU, zI a2, zI a3] [zI 24, zR s0] sh pp mm Q := s_go cM_cell_46 cM_cell_48 rfl rfl
theorem rM_cell_48 {s1 : Nat} {a2 a3 s0 : Int} {u0 u1 : zV} : zS 199 48 [u0, u1, zI a2, zI a3] [zI s0, zR s1] sh pp mm Q ↔ zS 199 49 [zU, zU, zI a2, zU] [zI a3, zI s0, zR s1] sh pp mm Q := s_go cM_cell_48 cM_cell_49 rfl rfl
theorem rM_cell_49 {s2 : Nat} {a2 s0 s1 : Int} {u0 u1 u3 : zV} : zS 199 49 [u0, u1, zI a2, u3] [zI s0, zI s1, zR s2] sh pp mm Q ↔ zS 199 50 [zU, zU, zI a2, zU] [zI (zw32 (s1 * s0)), zR s2] sh pp mm Q := s_go cM_cell_49 cM_cell_50 rfl rfl
theorem rM_cell_50 {s1 : Nat} {a2 s0 : Int} {u0 u1 u3 : zV} : zS 199 50 [u0, u1, zI a2, u3] [zI s0, zR s1] sh pp mm Q ↔ zS 199 51 [zU, zU, zU, zU] [zI a2, zI s0, zR s1] sh pp mm Q := s_go cM_cell_50 cM_cell_51 rfl rfl
theorem rM_cell_51 {s2 : Nat} {s0 s1 : Int} {u0 u1 u2 u3 : zV} : zS 199 51 [u0, u1, u2, u3] [zI s0, zI s1, zR s2] sh pp mm Q ↔ zS 199 52 [zU, zU, zU, zU] [zI (zw32 (s1 + s0)), zR s2] sh pp mm Q := s_go cM_cell_51 cM_cell_52 rfl rfl
theorem rM_cell_52 {s1 : Nat} {s0 : Int} {u0 u1 u2 u3 : zV} (hk : zKd sh s1 = 22 ∨ zKd sh s1 = 32) (h0 : 0 ≤ s0) (h1 : s0 < zLn sh s1) : zS 199 52 [u0, u1, u2, u3] [zI s0, zR s1] sh pp mm Q ↔ zS 199 53 [zU, zU, zU, zU] [zI (mm s1 s0)] sh pp mm Q := s_go cM_cell_52 cM_cell_53 (if_pos ⟨hk, h0, h1⟩) rfl
theorem rM_cell_53 {s0 : Int} {u0 u1 u2 u3 : zV} : zS 199 53 [u0, u1, u2, u3] [zI s0] sh pp mm Q ↔ (s0 = 0 → zS 199 60 [zU, zU, zU, zU] [] sh pp mm Q) ∧ (¬ s0 = 0 → zS 199 56 [zU, zU, zU, zU] [] sh pp mm Q) := s_if cM_cell_53 cM_cell_60 cM_cell_56 rfl rfl rfl
theorem rM_cell_56 {u0 u1 u2 u3 : zV} : zS 199 56 [u0, u1, u2, u3] [] sh pp mm Q ↔ zS 199 57 [zU, zU, zU, zU] [zI 1] sh pp mm Q := s_go cM_cell_56 cM_cell_57 rfl rfl
theorem rM_cell_57 {s0 : Int} {u0 u1 u2 u3 : zV} : zS 199 57 [u0, u1, u2, u3] [zI s0] sh pp mm Q ↔ zS 199 61 [zU, zU, zU, zU] [zI s0] sh pp mm Q := s_go cM_cell_57 cM_cell_61 rfl rfl
theorem rM_cell_60 {u0 u1 u2 u3 : zV} : zS 199 60 [u0, u1, u2, u3] [] sh pp mm Q ↔ zS 199 61 [zU, zU, zU, zU] [zI 0] sh pp mm Q := s_go cM_cell_60 cM_cell_61 rfl rfl
theorem rM_cell_61 {s0 : Int} {u0 u1 u2 u3 : zV} : zS 199 61 [u0, u1, u2, u3] [zI s0] sh pp mm Q ↔ Q (zI s0) sh pp mm := s_ret cM_cell_61 rfl
theorem cAM_point : ∀ q ∈ zT200, zCode 200 q.1 = some q.2 := zAll (mid := 200) rfl (by decide +kernel)
theorem cAM_point_0 : ∀ q ∈ zT200_0, zCode 200 q.1 = some q.2 := fun q h => cAM_point q (List.mem_append_left _ h)
theorem cAM_point_1 : ∀ q ∈ zT200_1, zCode 200 q.1 = some q.2 := fun q h => cAM_point q (List.mem_append_right _ h)
theorem cM_point_0 : zCode 200 0 = some (.iload_n 1, 1, 0, 0, 0, 0, 7) := cAM_point_0 _ (List.mem_of_getElem? (i := 0) rfl)
theorem cM_point_1 : zCode 200 1 = some (.invokestatic 147, 4, 173, 1, 1, 12, 7) := cAM_point_0 _ (List.mem_of_getElem? (i := 1) rfl)
theorem cM_point_4 : zCode 200 4 = some (.ifCond .eq 7, 7, 11, 0, 0, 0, 7) := cAM_point_0 _ (List.mem_of_getElem? (i := 2) rfl)
theorem cM_point_7 : zCode 200 7 = some (.iload_n 2, 8, 0, 0, 0, 0, 7) := cAM_point_0 _ (List.mem_of_getElem? (i := 3) rfl)
theorem cM_point_8 : zCode 200 8 = some (.ifCond .ge 10, 11, 18, 0, 0, 0, 7) := cAM_point_0 _ (List.mem_of_getElem? (i := 4) rfl)
theorem cM_point_11 : zCode 200 11 = some (.aload_n 0, 12, 0, 0, 0, 0, 1) := cAM_point_0 _ (List.mem_of_getElem? (i := 5) rfl)
theorem cM_point_12 : zCode 200 12 = some (.bipush (-10), 14, 0, 0, 0, 0, 0) := cAM_point_0 _ (List.mem_of_getElem? (i := 6) rfl)
theorem cM_point_14 : zCode 200 14 = some (.invokevirtual 132, 17, 152, 1, 2, 12, 0) := cAM_point_0 _ (List.mem_of_getElem? (i := 7) rfl)
theorem cM_point_17 : zCode 200 17 = some (.ireturn, 18, 0, 0, 0, 0, 0) := cAM_point_0 _ (List.mem_of_getElem? (i := 8) rfl)
theorem cM_point_18 : zCode 200 18 = some (.aload_n 0, 19, 0, 0, 0, 0, 7) := cAM_point_0 _ (List.mem_of_getElem? (i := 9) rfl)
theorem cM_point_19 : zCode 200 19 = some (.iload_n 1, 20, 0, 0, 0, 0, 7) := cAM_point_0 _ (List.mem_of_getElem? (i := 10) rfl)
theorem cM_point_20 : zCode 200 20 = some (.invokevirtual 214, 23, 186, 1, 4, 12, 7) := cAM_point_0 _ (List.mem_of_getElem? (i := 11) rfl)
theorem cM_point_23 : zCode 200 23 = some (.ifCond .ne 10, 26, 33, 0, 0, 0, 7) := cAM_point_0 _ (List.mem_of_getElem? (i := 12) rfl)
theorem cM_point_26 : zCode 200 26 = some (.aload_n 0, 27, 0, 0, 0, 0, 1) := cAM_point_0 _ (List.mem_of_getElem? (i := 13) rfl)
theorem cM_point_27 : zCode 200 27 = some (.bipush (-20), 29, 0, 0, 0, 0, 0) := cAM_point_0 _ (List.mem_of_getElem? (i := 14) rfl)
theorem cM_point_29 : zCode 200 29 = some (.invokevirtual 265, 32, 153, 1, 2, 12, 0) := cAM_point_0 _ (List.mem_of_getElem? (i := 15) rfl)
theorem cM_point_32 : zCode 200 32 = some (.ireturn, 33, 0, 0, 0, 0, 0) := cAM_point_1 _ (List.mem_of_getElem? (i := 0) rfl)
theorem cM_point_33 : zCode 200 33 = some (.aload_n 0, 34, 0, 0, 0, 0, 7) := cAM_point_1 _ (List.mem_of_getElem? (i := 1) rfl)
theorem cM_point_34 : zCode 200 34 = some (.iload_n 1, 35, 0, 0, 0, 0, 7) := cAM_point_1 _ (List.mem_of_getElem? (i := 2) rfl)
theorem cM_point_35 : zCode 200 35 = some (.invokevirtual 268, 38, 196, 1, 5, 12, 5) := cAM_point_1 _ (List.mem_of_getElem? (i := 3) rfl)
theorem cM_point_38 : zCode 200 38 = some (.iload_n 2, 39, 0, 0, 0, 0, 5) := cAM_point_1 _ (List.mem_of_getElem? (i := 4) rfl)
theorem cM_point_39 : zCode 200 39 = some (.aload_n 0, 40, 0, 0, 0, 0, 5) := cAM_point_1 _ (List.mem_of_getElem? (i := 5) rfl)
theorem cM_point_40 : zCode 200 40 = some (.getfield 241, 43, 12, 20, 0, 1229, 5) := cAM_point_1 _ (List.mem_of_getElem? (i := 6) rfl)
theorem cM_point_43 : zCode 200 43 = some (.if_icmp .gt 12, 46, 55, 0, 0, 0, 5) := cAM_point_1 _ (List.mem_of_getElem? (i := 7) rfl)
theorem cM_point_46 : zCode 200 46 = some (.aload_n 0, 47, 0, 0, 0, 0, 5) := cAM_point_1 _ (List.mem_of_getElem? (i := 8) rfl)
theorem cM_point_47 : zCode 200 47 = some (.getfield 42, 50, 12, 19, 2, 1228, 4) := cAM_point_1 _ (List.mem_of_getElem? (i := 9) rfl)
theorem cM_point_50 : zCode 200 50 = some (.iload_n 2, 51, 0, 0, 0, 0, 4) := cAM_point_1 _ (List.mem_of_getElem? (i := 10) rfl)
theorem cM_point_51 : zCode 200 51 = some (.iaload, 52, 0, 0, 0, 0, 0) := cAM_point_1 _ (List.mem_of_getElem? (i := 11) rfl)
theorem cM_point_52 : zCode 200 52 = some (.goto 5, 55, 57, 0, 0, 0, 0) := cAM_point_1 _ (List.mem_of_getElem? (i := 12) rfl)
theorem cM_point_55 : zCode 200 55 = some (.bipush (-5), 57, 0, 0, 0, 0, 0) := cAM_point_1 _ (List.mem_of_getElem? (i := 13) rfl)
theorem cM_point_57 : zCode 200 57 = some (.ireturn, 58, 0, 0, 0, 0, 0) := cAM_point_1 _ (List.mem_of_getElem? (i := 14) rfl)
theorem rM_point_0 {a0 : Nat} {a1 a2 : Int} : zS 200 0 [zR a0, zI a1, zI a2] [] sh pp mm Q ↔ zS 200 1 [zR a0, zI a1, zI a2] [zI a1] sh pp mm Q := s_go cM_point_0 cM_point_1 rfl rfl
theorem rM_point_1 {a0 : Nat} {a1 a2 s0 : Int} : zS 200 1 [zR a0, zI a1, zI a2] [zI s0] sh pp mm Q ↔ zS 173 0 [zI s0] [] sh pp mm (fun v sh pp mm => zS 200 4 [zR a0, zI a1, zI a2] (zPush v []) sh pp mm Q) := s_call cM_point_1 cM_point_4 rfl rfl
theorem rM_point_4 {a0 : Nat} {a1 a2 s0 : Int} : zS 200 4 [zR a0, zI a1, zI a2] [zI s0] sh pp mm Q ↔ (s0 = 0 → zS 200 11 [zR a0, zU, zU] [] sh pp mm Q) ∧ (¬ s0 = 0 → zS 200 7 [zR a0, zI a1, zI a2] [] sh pp mm Q) := s_if cM_point_4 cM_point_11 cM_point_7 rfl rfl rfl
theorem rM_point_7 {a0 : Nat} {a1 a2 : Int} : zS 200 7 [zR a0, zI a1, zI a2] [] sh pp mm Q ↔ zS 200 8 [zR a0, zI a1, zI a2] [zI a2] sh pp mm Q := s_go cM_point_7 cM_point_8 rfl rfl
theorem rM_point_8 {a0 : Nat} {a1 a2 s0 : Int} : zS 200 8 [zR a0, zI a1, zI a2] [zI s0] sh pp mm Q ↔ (s0 < 0 → zS 200 11 [zR a0, zU, zU] [] sh pp mm Q) ∧ (¬ s0 < 0 → zS 200 18 [zR a0, zI a1, zI a2] [] sh pp mm Q) := s_ifn cM_point_8 cM_point_11 cM_point_18 rfl rfl rfl
theorem rM_point_11 {a0 : Nat} {u1 u2 : zV} : zS 200 11 [zR a0, u1, u2] [] sh pp mm Q ↔ zS 200 12 [zU, zU, zU] [zR a0] sh pp mm Q := s_go cM_point_11 cM_point_12 rfl rfl
theorem rM_point_12 {s0 : Nat} {u0 u1 u2 : zV} : zS 200 12 [u0, u1, u2] [zR s0] sh pp mm Q ↔ zS 200 14 [zU, zU, zU] [zI (-10), zR s0] sh pp mm Q := s_go cM_point_12 cM_point_14 rfl rfl
theorem rM_point_14 {s1 : Nat} {s0 : Int} {u0 u1 u2 : zV} (hk : zKd sh s1 = 12) : zS 200 14 [u0, u1, u2] [zI s0, zR s1] sh pp mm Q ↔ zS 152 0 [zR s1, zI s0] [] sh pp mm (fun v sh pp mm => zS 200 17 [zU, zU, zU] (zPush v []) sh pp mm Q) := s_call cM_point_14 cM_point_17 ((if_pos hk).trans rfl) rfl
theorem rM_point_17 {s0 : Int} {u0 u1 u2 : zV} : zS 200 17 [u0, u1, u2] [zI s0] sh pp mm Q ↔ Q (zI s0) sh pp mm := s_ret cM_point_17 rfl
theorem rM_point_18 {a0 : Nat} {a1 a2 : Int} : zS 200 18 [zR a0, zI a1, zI a2] [] sh pp mm Q ↔ zS 200 19 [zR a0, zI a1, zI a2] [zR a0] sh pp mm Q := s_go cM_point_18 cM_point_19 rfl rfl
theorem rM_point_19 {a0 s0 : Nat} {a1 a2 : Int} : zS 200 19 [zR a0, zI a1, zI a2] [zR s0] sh pp mm Q ↔ zS 200 20 [zR a0, zI a1, zI a2] [zI a1, zR s0] sh pp mm Q := s_go cM_point_19 cM_point_20 rfl rfl
theorem rM_point_20 {a0 s1 : Nat} {a1 a2 s0 : Int} (hk : zKd sh s1 = 12) : zS 200 20 [zR a0, zI a1, zI a2] [zI s0, zR s1] sh pp mm Q ↔ zS 186 0 [zR s1, zI s0, zU, zU] [] sh pp mm (fun v sh pp mm => zS 200 23 [zR a0, zI a1, zI a2] (zPush v []) sh pp mm Q) := s_call cM_point_20 cM_point_23 ((if_pos hk).trans rfl) rfl
theorem rM_point_23 {a0 : Nat} {a1 a2 s0 : Int} : zS 200 23 [zR a0, zI a1, zI a2] [zI s0] sh pp mm Q ↔ (s0 = 0 → zS 200 26 [zR a0, zU, zU] [] sh pp mm Q) ∧ (¬ s0 = 0 → zS 200 33 [zR a0, zI a1, zI a2] [] sh pp mm Q) := s_ifn cM_point_23 cM_point_26 cM_point_33 rfl rfl rfl
theorem rM_point_26 {a0 : Nat} {u1 u2 : zV} : zS 200 26 [zR a0, u1, u2] [] sh pp mm Q ↔ zS 200 27 [zU, zU, zU] [zR a0] sh pp mm Q := s_go cM_point_26 cM_point_27 rfl rfl
theorem rM_point_27 {s0 : Nat} {u0 u1 u2 : zV} : zS 200 27 [u0, u1, u2] [zR s0] sh pp mm Q ↔ zS 200 29 [zU, zU, zU] [zI (-20), zR s0] sh pp mm Q := s_go cM_point_27 cM_point_29 rfl rfl
theorem rM_point_29 {s1 : Nat} {s0 : Int} {u0 u1 u2 : zV} (hk : zKd sh s1 = 12) : zS 200 29 [u0, u1, u2] [zI s0, zR s1] sh pp mm Q ↔ zS 153 0 [zR s1, zI s0] [] sh pp mm (fun v sh pp mm => zS 200 32 [zU, zU, zU] (zPush v []) sh pp mm Q) := s_call cM_point_29 cM_point_32 ((if_pos hk).trans rfl) rfl
theorem rM_point_32 {s0 : Int} {u0 u1 u2 : zV} : zS 200 32 [u0, u1, u2] [zI s0] sh pp mm Q ↔ Q (zI s0) sh pp mm := s_ret cM_point_32 rfl
theorem rM_point_33 {a0 : Nat} {a1 a2 : Int} : zS 200 33 [zR a0, zI a1, zI a2] [] sh pp mm Q ↔ zS 200 34 [zR a0, zI a1, zI a2] [zR a0] sh pp mm Q := s_go cM_point_33 cM_point_34 rfl rfl
theorem rM_point_34 {a0 s0 : Nat} {a1 a2 : Int} : zS 200 34 [zR a0, zI a1, zI a2] [zR s0] sh pp mm Q ↔ zS 200 35 [zR a0, zU, zI a2] [zI a1, zR s0] sh pp mm Q := s_go cM_point_34 cM_point_35 rfl rfl
theorem rM_point_35 {a0 s1 : Nat} {a2 s0 : Int} {u1 : zV} (hk : zKd sh s1 = 12) : zS 200 35 [zR a0, u1, zI a2] [zI s0, zR s1] sh pp mm Q ↔ zS 196 0 [zR s1, zI s0, zU, zU, zU] [] sh pp mm (fun v sh pp mm => zS 200 38 [zR a0, zU, zI a2] (zPush v []) sh pp mm Q) := s_call cM_point_35 cM_point_38 ((if_pos hk).trans rfl) rfl
theorem rM_point_38 {a0 : Nat} {a2 : Int} {u1 : zV} : zS 200 38 [zR a0, u1, zI a2] [] sh pp mm Q ↔ zS 200 39 [zR a0, zU, zI a2] [zI a2] sh pp mm Q := s_go cM_point_38 cM_point_39 rfl rfl
theorem rM_point_39 {a0 : Nat} {a2 s0 : Int} {u1 : zV} : zS 200 39 [zR a0, u1, zI a2] [zI s0] sh pp mm Q ↔ zS 200 40 [zR a0, zU, zI a2] [zR a0, zI s0] sh pp mm Q := s_go cM_point_39 cM_point_40 rfl rfl
theorem rM_point_40 {a0 s0 : Nat} {a2 s1 : Int} {u1 : zV} (hk : zKd sh s0 = 12) : zS 200 40 [zR a0, u1, zI a2] [zR s0, zI s1] sh pp mm Q ↔ zS 200 43 [zR a0, zU, zI a2] [zI (mm s0 20), zI s1] sh pp mm Q := s_go cM_point_40 cM_point_43 (if_pos hk) rfl
theorem rM_point_43 {a0 : Nat} {a2 s0 s1 : Int} {u1 : zV} : zS 200 43 [zR a0, u1, zI a2] [zI s0, zI s1] sh pp mm Q ↔ (s0 < s1 → zS 200 55 [zU, zU, zU] [] sh pp mm Q) ∧ (¬ s0 < s1 → zS 200 46 [zR a0, zU, zI a2] [] sh pp mm Q) := s_if cM_point_43 cM_point_55 cM_point_46 rfl rfl rfl
theorem rM_point_46 {a0 : Nat} {a2 : Int} {u1 : zV} : zS 200 46 [zR a0, u1, zI a2] [] sh pp mm Q ↔ zS 200 47 [zU, zU, zI a2] [zR a0] sh pp mm Q := s_go cM_point_46 cM_point_47 rfl rfl
theorem rM_point_47 {s0 : Nat} {a2 : Int} {u0 u1 : zV} (hk : zKd sh s0 = 12) : zS 200 47 [u0, u1, zI a2] [zR s0] sh pp mm Q ↔ zS 200 50 [zU, zU, zI a2] [zR (pp s0 19)] sh pp mm Q := s_go cM_point_47 cM_point_50 (if_pos hk) rfl
theorem rM_point_50 {s0 : Nat} {a2 : Int} {u0 u1 : zV} : zS 200 50 [u0, u1, zI a2] [zR s0] sh pp mm Q ↔ zS 200 51 [zU, zU, zU] [zI a2, zR s0] sh pp mm Q := s_go cM_point_50 cM_point_51 rfl rfl
theorem rM_point_51 {s1 : Nat} {s0 : Int} {u0 u1 u2 : zV} (hk : zKd sh s1 = 20 ∨ zKd sh s1 = 30) (h0 : 0 ≤ s0) (h1 : s0 < zLn sh s1) : zS 200 51 [u0, u1, u2] [zI s0, zR s1] sh pp mm Q ↔ zS 200 52 [zU, zU, zU] [zI (mm s1 s0)] sh pp mm Q := s_go cM_point_51 cM_point_52 (if_pos ⟨hk, h0, h1⟩) rfl
theorem rM_point_52 {s0 : Int} {u0 u1 u2 : zV} : zS 200 52 [u0, u1, u2] [zI s0] sh pp mm Q ↔ zS 200 57 [zU, zU, zU] [zI s0] sh pp mm Q := s_go cM_point_52 cM_point_57 rfl rfl
theorem rM_point_55 {u0 u1 u2 : zV} : zS 200 55 [u0, u1, u2] [] sh pp mm Q ↔ zS 200 57 [zU, zU, zU] [zI (-5)] sh pp mm Q := s_go cM_point_55 cM_point_57 rfl rfl
theorem rM_point_57 {s0 : Int} {u0 u1 u2 : zV} : zS 200 57 [u0, u1, u2] [zI s0] sh pp mm Q ↔ Q (zI s0) sh pp mm := s_ret cM_point_57 rfl
theorem cAM_keepDrawn : ∀ q ∈ zT201, zCode 201 q.1 = some q.2 := zAll (mid := 201) rfl (by decide +kernel)
theorem cAM_keepDrawn_0 : ∀ q ∈ zT201_0, zCode 201 q.1 = some q.2 := fun q h => cAM_keepDrawn q (h)
theorem cM_keepDrawn_0 : zCode 201 0 = some (.iconst 0, 1, 0, 0, 0, 0, 1) := cAM_keepDrawn_0 _ (List.mem_of_getElem? (i := 0) rfl)
theorem cM_keepDrawn_1 : zCode 201 1 = some (.istore_n 1, 2, 0, 0, 0, 0, 1) := cAM_keepDrawn_0 _ (List.mem_of_getElem? (i := 1) rfl)
theorem cM_keepDrawn_2 : zCode 201 2 = some (.iload_n 1, 3, 0, 0, 0, 0, 3) := cAM_keepDrawn_0 _ (List.mem_of_getElem? (i := 2) rfl)
theorem cM_keepDrawn_3 : zCode 201 3 = some (.sipush 384, 6, 0, 0, 0, 0, 3) := cAM_keepDrawn_0 _ (List.mem_of_getElem? (i := 3) rfl)
theorem cM_keepDrawn_6 : zCode 201 6 = some (.if_icmp .ge 21, 9, 27, 0, 0, 0, 3) := cAM_keepDrawn_0 _ (List.mem_of_getElem? (i := 4) rfl)
theorem cM_keepDrawn_9 : zCode 201 9 = some (.aload_n 0, 10, 0, 0, 0, 0, 3) := cAM_keepDrawn_0 _ (List.mem_of_getElem? (i := 5) rfl)
theorem cM_keepDrawn_10 : zCode 201 10 = some (.getfield 51, 13, 12, 29, 2, 1238, 3) := cAM_keepDrawn_0 _ (List.mem_of_getElem? (i := 6) rfl)
theorem cM_keepDrawn_13 : zCode 201 13 = some (.iload_n 1, 14, 0, 0, 0, 0, 3) := cAM_keepDrawn_0 _ (List.mem_of_getElem? (i := 7) rfl)
theorem cM_keepDrawn_14 : zCode 201 14 = some (.aload_n 0, 15, 0, 0, 0, 0, 3) := cAM_keepDrawn_0 _ (List.mem_of_getElem? (i := 8) rfl)
theorem cM_keepDrawn_15 : zCode 201 15 = some (.getfield 39, 18, 12, 18, 2, 1227, 3) := cAM_keepDrawn_0 _ (List.mem_of_getElem? (i := 9) rfl)
theorem cM_keepDrawn_18 : zCode 201 18 = some (.iload_n 1, 19, 0, 0, 0, 0, 3) := cAM_keepDrawn_0 _ (List.mem_of_getElem? (i := 10) rfl)
theorem cM_keepDrawn_19 : zCode 201 19 = some (.baload, 20, 0, 0, 0, 0, 3) := cAM_keepDrawn_0 _ (List.mem_of_getElem? (i := 11) rfl)
theorem cM_keepDrawn_20 : zCode 201 20 = some (.bastore, 21, 0, 0, 0, 0, 3) := cAM_keepDrawn_0 _ (List.mem_of_getElem? (i := 12) rfl)
theorem cM_keepDrawn_21 : zCode 201 21 = some (.iinc 1 1, 24, 0, 0, 0, 0, 3) := cAM_keepDrawn_0 _ (List.mem_of_getElem? (i := 13) rfl)
theorem cM_keepDrawn_24 : zCode 201 24 = some (.goto (-22), 27, 2, 0, 0, 0, 3) := cAM_keepDrawn_0 _ (List.mem_of_getElem? (i := 14) rfl)
theorem cM_keepDrawn_27 : zCode 201 27 = some (.return_, 28, 0, 0, 0, 0, 0) := cAM_keepDrawn_0 _ (List.mem_of_getElem? (i := 15) rfl)
theorem rM_keepDrawn_0 {a0 : Nat} {u1 : zV} : zS 201 0 [zR a0, u1] [] sh pp mm Q ↔ zS 201 1 [zR a0, zU] [zI 0] sh pp mm Q := s_go cM_keepDrawn_0 cM_keepDrawn_1 rfl rfl
theorem rM_keepDrawn_1 {a0 : Nat} {s0 : Int} {u1 : zV} : zS 201 1 [zR a0, u1] [zI s0] sh pp mm Q ↔ zS 201 2 [zR a0, zI s0] [] sh pp mm Q := s_go cM_keepDrawn_1 cM_keepDrawn_2 rfl rfl
theorem rM_keepDrawn_2 {a0 : Nat} {a1 : Int} : zS 201 2 [zR a0, zI a1] [] sh pp mm Q ↔ zS 201 3 [zR a0, zI a1] [zI a1] sh pp mm Q := s_go cM_keepDrawn_2 cM_keepDrawn_3 rfl rfl
theorem rM_keepDrawn_3 {a0 : Nat} {a1 s0 : Int} : zS 201 3 [zR a0, zI a1] [zI s0] sh pp mm Q ↔ zS 201 6 [zR a0, zI a1] [zI 384, zI s0] sh pp mm Q := s_go cM_keepDrawn_3 cM_keepDrawn_6 rfl rfl
theorem rM_keepDrawn_6 {a0 : Nat} {a1 s0 s1 : Int} : zS 201 6 [zR a0, zI a1] [zI s0, zI s1] sh pp mm Q ↔ (s1 < s0 → zS 201 9 [zR a0, zI a1] [] sh pp mm Q) ∧ (¬ s1 < s0 → zS 201 27 [zU, zU] [] sh pp mm Q) := s_ifn cM_keepDrawn_6 cM_keepDrawn_9 cM_keepDrawn_27 rfl rfl rfl
theorem rM_keepDrawn_9 {a0 : Nat} {a1 : Int} : zS 201 9 [zR a0, zI a1] [] sh pp mm Q ↔ zS 201 10 [zR a0, zI a1] [zR a0] sh pp mm Q := s_go cM_keepDrawn_9 cM_keepDrawn_10 rfl rfl
theorem rM_keepDrawn_10 {a0 s0 : Nat} {a1 : Int} (hk : zKd sh s0 = 12) : zS 201 10 [zR a0, zI a1] [zR s0] sh pp mm Q ↔ zS 201 13 [zR a0, zI a1] [zR (pp s0 29)] sh pp mm Q := s_go cM_keepDrawn_10 cM_keepDrawn_13 (if_pos hk) rfl
theorem rM_keepDrawn_13 {a0 s0 : Nat} {a1 : Int} : zS 201 13 [zR a0, zI a1] [zR s0] sh pp mm Q ↔ zS 201 14 [zR a0, zI a1] [zI a1, zR s0] sh pp mm Q := s_go cM_keepDrawn_13 cM_keepDrawn_14 rfl rfl
theorem rM_keepDrawn_14 {a0 s1 : Nat} {a1 s0 : Int} : zS 201 14 [zR a0, zI a1] [zI s0, zR s1] sh pp mm Q ↔ zS 201 15 [zR a0, zI a1] [zR a0, zI s0, zR s1] sh pp mm Q := s_go cM_keepDrawn_14 cM_keepDrawn_15 rfl rfl
theorem rM_keepDrawn_15 {a0 s0 s2 : Nat} {a1 s1 : Int} (hk : zKd sh s0 = 12) : zS 201 15 [zR a0, zI a1] [zR s0, zI s1, zR s2] sh pp mm Q ↔ zS 201 18 [zR a0, zI a1] [zR (pp s0 18), zI s1, zR s2] sh pp mm Q := s_go cM_keepDrawn_15 cM_keepDrawn_18 (if_pos hk) rfl
theorem rM_keepDrawn_18 {a0 s0 s2 : Nat} {a1 s1 : Int} : zS 201 18 [zR a0, zI a1] [zR s0, zI s1, zR s2] sh pp mm Q ↔ zS 201 19 [zR a0, zI a1] [zI a1, zR s0, zI s1, zR s2] sh pp mm Q := s_go cM_keepDrawn_18 cM_keepDrawn_19 rfl rfl
theorem rM_keepDrawn_19 {a0 s1 s3 : Nat} {a1 s0 s2 : Int} (hk : zKd sh s1 = 22 ∨ zKd sh s1 = 32) (h0 : 0 ≤ s0) (h1 : s0 < zLn sh s1) : zS 201 19 [zR a0, zI a1] [zI s0, zR s1, zI s2, zR s3] sh pp mm Q ↔ zS 201 20 [zR a0, zI a1] [zI (mm s1 s0), zI s2, zR s3] sh pp mm Q := s_go cM_keepDrawn_19 cM_keepDrawn_20 (if_pos ⟨hk, h0, h1⟩) rfl
theorem rM_keepDrawn_20 {a0 s2 : Nat} {a1 s0 s1 : Int} (hk : zKd sh s2 = 22) (h0 : 0 ≤ s1) (h1 : s1 < zLn sh s2) (hb : s0 = 0 ∨ s0 = 1) : zS 201 20 [zR a0, zI a1] [zI s0, zI s1, zR s2] sh pp mm Q ↔ zS 201 21 [zR a0, zI a1] [] sh pp (zupd mm s2 s1 s0) Q := s_go cM_keepDrawn_20 cM_keepDrawn_21 (if_pos ⟨hk, h0, h1, fun _ => hb⟩) rfl
theorem rM_keepDrawn_21 {a0 : Nat} {a1 : Int} : zS 201 21 [zR a0, zI a1] [] sh pp mm Q ↔ zS 201 24 [zR a0, zI (zw32 (a1 + 1))] [] sh pp mm Q := s_go cM_keepDrawn_21 cM_keepDrawn_24 rfl rfl
theorem rM_keepDrawn_24 {a0 : Nat} {a1 : Int} : zS 201 24 [zR a0, zI a1] [] sh pp mm Q ↔ zS 201 2 [zR a0, zI a1] [] sh pp mm Q := s_go cM_keepDrawn_24 cM_keepDrawn_2 rfl rfl
theorem rM_keepDrawn_27 {u0 u1 : zV} : zS 201 27 [u0, u1] [] sh pp mm Q ↔ Q zU sh pp mm := s_ret cM_keepDrawn_27 rfl
theorem cAM_isAsBefore : ∀ q ∈ zT202, zCode 202 q.1 = some q.2 := zAll (mid := 202) rfl (by decide +kernel)
theorem cAM_isAsBefore_0 : ∀ q ∈ zT202_0, zCode 202 q.1 = some q.2 := fun q h => cAM_isAsBefore q (List.mem_append_left _ h)
theorem cAM_isAsBefore_1 : ∀ q ∈ zT202_1, zCode 202 q.1 = some q.2 := fun q h => cAM_isAsBefore q (List.mem_append_right _ h)
theorem cM_isAsBefore_0 : zCode 202 0 = some (.iconst 1, 1, 0, 0, 0, 0, 1) := cAM_isAsBefore_0 _ (List.mem_of_getElem? (i := 0) rfl)
theorem cM_isAsBefore_1 : zCode 202 1 = some (.istore_n 1, 2, 0, 0, 0, 0, 1) := cAM_isAsBefore_0 _ (List.mem_of_getElem? (i := 1) rfl)
theorem cM_isAsBefore_2 : zCode 202 2 = some (.iconst 0, 3, 0, 0, 0, 0, 3) := cAM_isAsBefore_0 _ (List.mem_of_getElem? (i := 2) rfl)
theorem cM_isAsBefore_3 : zCode 202 3 = some (.istore_n 2, 4, 0, 0, 0, 0, 3) := cAM_isAsBefore_0 _ (List.mem_of_getElem? (i := 3) rfl)
theorem cM_isAsBefore_4 : zCode 202 4 = some (.iload_n 2, 5, 0, 0, 0, 0, 7) := cAM_isAsBefore_0 _ (List.mem_of_getElem? (i := 4) rfl)
theorem cM_isAsBefore_5 : zCode 202 5 = some (.sipush 384, 8, 0, 0, 0, 0, 7) := cAM_isAsBefore_0 _ (List.mem_of_getElem? (i := 5) rfl)
theorem cM_isAsBefore_8 : zCode 202 8 = some (.if_icmp .ge 34, 11, 42, 0, 0, 0, 7) := cAM_isAsBefore_0 _ (List.mem_of_getElem? (i := 6) rfl)
theorem cM_isAsBefore_11 : zCode 202 11 = some (.iload_n 1, 12, 0, 0, 0, 0, 7) := cAM_isAsBefore_0 _ (List.mem_of_getElem? (i := 7) rfl)
theorem cM_isAsBefore_12 : zCode 202 12 = some (.ifCond .eq 22, 15, 34, 0, 0, 0, 5) := cAM_isAsBefore_0 _ (List.mem_of_getElem? (i := 8) rfl)
theorem cM_isAsBefore_15 : zCode 202 15 = some (.aload_n 0, 16, 0, 0, 0, 0, 5) := cAM_isAsBefore_0 _ (List.mem_of_getElem? (i := 9) rfl)
theorem cM_isAsBefore_16 : zCode 202 16 = some (.getfield 51, 19, 12, 29, 2, 1238, 5) := cAM_isAsBefore_0 _ (List.mem_of_getElem? (i := 10) rfl)
theorem cM_isAsBefore_19 : zCode 202 19 = some (.iload_n 2, 20, 0, 0, 0, 0, 5) := cAM_isAsBefore_0 _ (List.mem_of_getElem? (i := 11) rfl)
theorem cM_isAsBefore_20 : zCode 202 20 = some (.baload, 21, 0, 0, 0, 0, 5) := cAM_isAsBefore_0 _ (List.mem_of_getElem? (i := 12) rfl)
theorem cM_isAsBefore_21 : zCode 202 21 = some (.aload_n 0, 22, 0, 0, 0, 0, 5) := cAM_isAsBefore_0 _ (List.mem_of_getElem? (i := 13) rfl)
theorem cM_isAsBefore_22 : zCode 202 22 = some (.getfield 39, 25, 12, 18, 2, 1227, 5) := cAM_isAsBefore_0 _ (List.mem_of_getElem? (i := 14) rfl)
theorem cM_isAsBefore_25 : zCode 202 25 = some (.iload_n 2, 26, 0, 0, 0, 0, 5) := cAM_isAsBefore_0 _ (List.mem_of_getElem? (i := 15) rfl)
theorem cM_isAsBefore_26 : zCode 202 26 = some (.baload, 27, 0, 0, 0, 0, 5) := cAM_isAsBefore_1 _ (List.mem_of_getElem? (i := 0) rfl)
theorem cM_isAsBefore_27 : zCode 202 27 = some (.if_icmp .ne 7, 30, 34, 0, 0, 0, 5) := cAM_isAsBefore_1 _ (List.mem_of_getElem? (i := 1) rfl)
theorem cM_isAsBefore_30 : zCode 202 30 = some (.iconst 1, 31, 0, 0, 0, 0, 5) := cAM_isAsBefore_1 _ (List.mem_of_getElem? (i := 2) rfl)
theorem cM_isAsBefore_31 : zCode 202 31 = some (.goto 4, 34, 35, 0, 0, 0, 5) := cAM_isAsBefore_1 _ (List.mem_of_getElem? (i := 3) rfl)
theorem cM_isAsBefore_34 : zCode 202 34 = some (.iconst 0, 35, 0, 0, 0, 0, 5) := cAM_isAsBefore_1 _ (List.mem_of_getElem? (i := 4) rfl)
theorem cM_isAsBefore_35 : zCode 202 35 = some (.istore_n 1, 36, 0, 0, 0, 0, 5) := cAM_isAsBefore_1 _ (List.mem_of_getElem? (i := 5) rfl)
theorem cM_isAsBefore_36 : zCode 202 36 = some (.iinc 2 1, 39, 0, 0, 0, 0, 7) := cAM_isAsBefore_1 _ (List.mem_of_getElem? (i := 6) rfl)
theorem cM_isAsBefore_39 : zCode 202 39 = some (.goto (-35), 42, 4, 0, 0, 0, 7) := cAM_isAsBefore_1 _ (List.mem_of_getElem? (i := 7) rfl)
theorem cM_isAsBefore_42 : zCode 202 42 = some (.iload_n 1, 43, 0, 0, 0, 0, 2) := cAM_isAsBefore_1 _ (List.mem_of_getElem? (i := 8) rfl)
theorem cM_isAsBefore_43 : zCode 202 43 = some (.ireturn, 44, 0, 3, 0, 0, 0) := cAM_isAsBefore_1 _ (List.mem_of_getElem? (i := 9) rfl)
theorem rM_isAsBefore_0 {a0 : Nat} {u1 u2 : zV} : zS 202 0 [zR a0, u1, u2] [] sh pp mm Q ↔ zS 202 1 [zR a0, zU, zU] [zI 1] sh pp mm Q := s_go cM_isAsBefore_0 cM_isAsBefore_1 rfl rfl
theorem rM_isAsBefore_1 {a0 : Nat} {s0 : Int} {u1 u2 : zV} : zS 202 1 [zR a0, u1, u2] [zI s0] sh pp mm Q ↔ zS 202 2 [zR a0, zI s0, zU] [] sh pp mm Q := s_go cM_isAsBefore_1 cM_isAsBefore_2 rfl rfl
theorem rM_isAsBefore_2 {a0 : Nat} {a1 : Int} {u2 : zV} : zS 202 2 [zR a0, zI a1, u2] [] sh pp mm Q ↔ zS 202 3 [zR a0, zI a1, zU] [zI 0] sh pp mm Q := s_go cM_isAsBefore_2 cM_isAsBefore_3 rfl rfl
theorem rM_isAsBefore_3 {a0 : Nat} {a1 s0 : Int} {u2 : zV} : zS 202 3 [zR a0, zI a1, u2] [zI s0] sh pp mm Q ↔ zS 202 4 [zR a0, zI a1, zI s0] [] sh pp mm Q := s_go cM_isAsBefore_3 cM_isAsBefore_4 rfl rfl
theorem rM_isAsBefore_4 {a0 : Nat} {a1 a2 : Int} : zS 202 4 [zR a0, zI a1, zI a2] [] sh pp mm Q ↔ zS 202 5 [zR a0, zI a1, zI a2] [zI a2] sh pp mm Q := s_go cM_isAsBefore_4 cM_isAsBefore_5 rfl rfl
theorem rM_isAsBefore_5 {a0 : Nat} {a1 a2 s0 : Int} : zS 202 5 [zR a0, zI a1, zI a2] [zI s0] sh pp mm Q ↔ zS 202 8 [zR a0, zI a1, zI a2] [zI 384, zI s0] sh pp mm Q := s_go cM_isAsBefore_5 cM_isAsBefore_8 rfl rfl
theorem rM_isAsBefore_8 {a0 : Nat} {a1 a2 s0 s1 : Int} : zS 202 8 [zR a0, zI a1, zI a2] [zI s0, zI s1] sh pp mm Q ↔ (s1 < s0 → zS 202 11 [zR a0, zI a1, zI a2] [] sh pp mm Q) ∧ (¬ s1 < s0 → zS 202 42 [zU, zI a1, zU] [] sh pp mm Q) := s_ifn cM_isAsBefore_8 cM_isAsBefore_11 cM_isAsBefore_42 rfl rfl rfl
theorem rM_isAsBefore_11 {a0 : Nat} {a1 a2 : Int} : zS 202 11 [zR a0, zI a1, zI a2] [] sh pp mm Q ↔ zS 202 12 [zR a0, zU, zI a2] [zI a1] sh pp mm Q := s_go cM_isAsBefore_11 cM_isAsBefore_12 rfl rfl
theorem rM_isAsBefore_12 {a0 : Nat} {a2 s0 : Int} {u1 : zV} : zS 202 12 [zR a0, u1, zI a2] [zI s0] sh pp mm Q ↔ (s0 = 0 → zS 202 34 [zR a0, zU, zI a2] [] sh pp mm Q) ∧ (¬ s0 = 0 → zS 202 15 [zR a0, zU, zI a2] [] sh pp mm Q) := s_if cM_isAsBefore_12 cM_isAsBefore_34 cM_isAsBefore_15 rfl rfl rfl
theorem rM_isAsBefore_15 {a0 : Nat} {a2 : Int} {u1 : zV} : zS 202 15 [zR a0, u1, zI a2] [] sh pp mm Q ↔ zS 202 16 [zR a0, zU, zI a2] [zR a0] sh pp mm Q := s_go cM_isAsBefore_15 cM_isAsBefore_16 rfl rfl
theorem rM_isAsBefore_16 {a0 s0 : Nat} {a2 : Int} {u1 : zV} (hk : zKd sh s0 = 12) : zS 202 16 [zR a0, u1, zI a2] [zR s0] sh pp mm Q ↔ zS 202 19 [zR a0, zU, zI a2] [zR (pp s0 29)] sh pp mm Q := s_go cM_isAsBefore_16 cM_isAsBefore_19 (if_pos hk) rfl
theorem rM_isAsBefore_19 {a0 s0 : Nat} {a2 : Int} {u1 : zV} : zS 202 19 [zR a0, u1, zI a2] [zR s0] sh pp mm Q ↔ zS 202 20 [zR a0, zU, zI a2] [zI a2, zR s0] sh pp mm Q := s_go cM_isAsBefore_19 cM_isAsBefore_20 rfl rfl
theorem rM_isAsBefore_20 {a0 s1 : Nat} {a2 s0 : Int} {u1 : zV} (hk : zKd sh s1 = 22 ∨ zKd sh s1 = 32) (h0 : 0 ≤ s0) (h1 : s0 < zLn sh s1) : zS 202 20 [zR a0, u1, zI a2] [zI s0, zR s1] sh pp mm Q ↔ zS 202 21 [zR a0, zU, zI a2] [zI (mm s1 s0)] sh pp mm Q := s_go cM_isAsBefore_20 cM_isAsBefore_21 (if_pos ⟨hk, h0, h1⟩) rfl
theorem rM_isAsBefore_21 {a0 : Nat} {a2 s0 : Int} {u1 : zV} : zS 202 21 [zR a0, u1, zI a2] [zI s0] sh pp mm Q ↔ zS 202 22 [zR a0, zU, zI a2] [zR a0, zI s0] sh pp mm Q := s_go cM_isAsBefore_21 cM_isAsBefore_22 rfl rfl
theorem rM_isAsBefore_22 {a0 s0 : Nat} {a2 s1 : Int} {u1 : zV} (hk : zKd sh s0 = 12) : zS 202 22 [zR a0, u1, zI a2] [zR s0, zI s1] sh pp mm Q ↔ zS 202 25 [zR a0, zU, zI a2] [zR (pp s0 18), zI s1] sh pp mm Q := s_go cM_isAsBefore_22 cM_isAsBefore_25 (if_pos hk) rfl
theorem rM_isAsBefore_25 {a0 s0 : Nat} {a2 s1 : Int} {u1 : zV} : zS 202 25 [zR a0, u1, zI a2] [zR s0, zI s1] sh pp mm Q ↔ zS 202 26 [zR a0, zU, zI a2] [zI a2, zR s0, zI s1] sh pp mm Q := s_go cM_isAsBefore_25 cM_isAsBefore_26 rfl rfl
theorem rM_isAsBefore_26 {a0 s1 : Nat} {a2 s0 s2 : Int} {u1 : zV} (hk : zKd sh s1 = 22 ∨ zKd sh s1 = 32) (h0 : 0 ≤ s0) (h1 : s0 < zLn sh s1) : zS 202 26 [zR a0, u1, zI a2] [zI s0, zR s1, zI s2] sh pp mm Q ↔ zS 202 27 [zR a0, zU, zI a2] [zI (mm s1 s0), zI s2] sh pp mm Q := s_go cM_isAsBefore_26 cM_isAsBefore_27 (if_pos ⟨hk, h0, h1⟩) rfl
theorem rM_isAsBefore_27 {a0 : Nat} {a2 s0 s1 : Int} {u1 : zV} : zS 202 27 [zR a0, u1, zI a2] [zI s0, zI s1] sh pp mm Q ↔ (s1 = s0 → zS 202 30 [zR a0, zU, zI a2] [] sh pp mm Q) ∧ (¬ s1 = s0 → zS 202 34 [zR a0, zU, zI a2] [] sh pp mm Q) := s_ifn cM_isAsBefore_27 cM_isAsBefore_30 cM_isAsBefore_34 rfl rfl rfl
theorem rM_isAsBefore_30 {a0 : Nat} {a2 : Int} {u1 : zV} : zS 202 30 [zR a0, u1, zI a2] [] sh pp mm Q ↔ zS 202 31 [zR a0, zU, zI a2] [zI 1] sh pp mm Q := s_go cM_isAsBefore_30 cM_isAsBefore_31 rfl rfl
theorem rM_isAsBefore_31 {a0 : Nat} {a2 s0 : Int} {u1 : zV} : zS 202 31 [zR a0, u1, zI a2] [zI s0] sh pp mm Q ↔ zS 202 35 [zR a0, zU, zI a2] [zI s0] sh pp mm Q := s_go cM_isAsBefore_31 cM_isAsBefore_35 rfl rfl
theorem rM_isAsBefore_34 {a0 : Nat} {a2 : Int} {u1 : zV} : zS 202 34 [zR a0, u1, zI a2] [] sh pp mm Q ↔ zS 202 35 [zR a0, zU, zI a2] [zI 0] sh pp mm Q := s_go cM_isAsBefore_34 cM_isAsBefore_35 rfl rfl
theorem rM_isAsBefore_35 {a0 : Nat} {a2 s0 : Int} {u1 : zV} : zS 202 35 [zR a0, u1, zI a2] [zI s0] sh pp mm Q ↔ zS 202 36 [zR a0, zI s0, zI a2] [] sh pp mm Q := s_go cM_isAsBefore_35 cM_isAsBefore_36 rfl rfl
theorem rM_isAsBefore_36 {a0 : Nat} {a1 a2 : Int} : zS 202 36 [zR a0, zI a1, zI a2] [] sh pp mm Q ↔ zS 202 39 [zR a0, zI a1, zI (zw32 (a2 + 1))] [] sh pp mm Q := s_go cM_isAsBefore_36 cM_isAsBefore_39 rfl rfl
theorem rM_isAsBefore_39 {a0 : Nat} {a1 a2 : Int} : zS 202 39 [zR a0, zI a1, zI a2] [] sh pp mm Q ↔ zS 202 4 [zR a0, zI a1, zI a2] [] sh pp mm Q := s_go cM_isAsBefore_39 cM_isAsBefore_4 rfl rfl
theorem rM_isAsBefore_42 {a1 : Int} {u0 u2 : zV} : zS 202 42 [u0, zI a1, u2] [] sh pp mm Q ↔ zS 202 43 [zU, zU, zU] [zI a1] sh pp mm Q := s_go cM_isAsBefore_42 cM_isAsBefore_43 rfl rfl
theorem rM_isAsBefore_43 {s0 : Int} {u0 u1 u2 : zV} (hb : s0 = 0 ∨ s0 = 1) : zS 202 43 [u0, u1, u2] [zI s0] sh pp mm Q ↔ Q (zI s0) sh pp mm := s_ret cM_isAsBefore_43 (if_pos (decide_eq_true hb))
theorem cAM_same : ∀ q ∈ zT203, zCode 203 q.1 = some q.2 := zAll (mid := 203) rfl (by decide +kernel)
theorem cAM_same_0 : ∀ q ∈ zT203_0, zCode 203 q.1 = some q.2 := fun q h => cAM_same q (List.mem_append_left _ h)
theorem cAM_same_1 : ∀ q ∈ zT203_1, zCode 203 q.1 = some q.2 := fun q h => cAM_same q (List.mem_append_right _ (List.mem_append_left _ h))
theorem cAM_same_2 : ∀ q ∈ zT203_2, zCode 203 q.1 = some q.2 := fun q h => cAM_same q (List.mem_append_right _ (List.mem_append_right _ h))
theorem cM_same_0 : zCode 203 0 = some (.iload_n 1, 1, 0, 0, 0, 0, 7) := cAM_same_0 _ (List.mem_of_getElem? (i := 0) rfl)
theorem cM_same_1 : zCode 203 1 = some (.invokestatic 147, 4, 173, 1, 1, 12, 7) := cAM_same_0 _ (List.mem_of_getElem? (i := 1) rfl)
theorem cM_same_4 : zCode 203 4 = some (.ifCond .eq 10, 7, 14, 0, 0, 0, 7) := cAM_same_0 _ (List.mem_of_getElem? (i := 2) rfl)
theorem cM_same_7 : zCode 203 7 = some (.iload_n 2, 8, 0, 0, 0, 0, 7) := cAM_same_0 _ (List.mem_of_getElem? (i := 3) rfl)
theorem cM_same_8 : zCode 203 8 = some (.invokestatic 147, 11, 173, 1, 1, 12, 7) := cAM_same_0 _ (List.mem_of_getElem? (i := 4) rfl)
theorem cM_same_11 : zCode 203 11 = some (.ifCond .ne 10, 14, 21, 0, 0, 0, 7) := cAM_same_0 _ (List.mem_of_getElem? (i := 5) rfl)
theorem cM_same_14 : zCode 203 14 = some (.aload_n 0, 15, 0, 0, 0, 0, 1) := cAM_same_0 _ (List.mem_of_getElem? (i := 6) rfl)
theorem cM_same_15 : zCode 203 15 = some (.bipush (-2), 17, 0, 0, 0, 0, 0) := cAM_same_0 _ (List.mem_of_getElem? (i := 7) rfl)
theorem cM_same_17 : zCode 203 17 = some (.invokevirtual 132, 20, 152, 1, 2, 12, 0) := cAM_same_0 _ (List.mem_of_getElem? (i := 8) rfl)
theorem cM_same_20 : zCode 203 20 = some (.ireturn, 21, 0, 0, 0, 0, 0) := cAM_same_0 _ (List.mem_of_getElem? (i := 9) rfl)
theorem cM_same_21 : zCode 203 21 = some (.aload_n 0, 22, 0, 0, 0, 0, 7) := cAM_same_0 _ (List.mem_of_getElem? (i := 10) rfl)
theorem cM_same_22 : zCode 203 22 = some (.iload_n 1, 23, 0, 0, 0, 0, 7) := cAM_same_0 _ (List.mem_of_getElem? (i := 11) rfl)
theorem cM_same_23 : zCode 203 23 = some (.invokevirtual 214, 26, 186, 1, 4, 12, 7) := cAM_same_0 _ (List.mem_of_getElem? (i := 12) rfl)
theorem cM_same_26 : zCode 203 26 = some (.ifCond .eq 11, 29, 37, 0, 0, 0, 7) := cAM_same_0 _ (List.mem_of_getElem? (i := 13) rfl)
theorem cM_same_29 : zCode 203 29 = some (.aload_n 0, 30, 0, 0, 0, 0, 7) := cAM_same_0 _ (List.mem_of_getElem? (i := 14) rfl)
theorem cM_same_30 : zCode 203 30 = some (.iload_n 2, 31, 0, 0, 0, 0, 7) := cAM_same_0 _ (List.mem_of_getElem? (i := 15) rfl)
theorem cM_same_31 : zCode 203 31 = some (.invokevirtual 214, 34, 186, 1, 4, 12, 7) := cAM_same_1 _ (List.mem_of_getElem? (i := 0) rfl)
theorem cM_same_34 : zCode 203 34 = some (.ifCond .ne 10, 37, 44, 0, 0, 0, 7) := cAM_same_1 _ (List.mem_of_getElem? (i := 1) rfl)
theorem cM_same_37 : zCode 203 37 = some (.aload_n 0, 38, 0, 0, 0, 0, 1) := cAM_same_1 _ (List.mem_of_getElem? (i := 2) rfl)
theorem cM_same_38 : zCode 203 38 = some (.bipush (-3), 40, 0, 0, 0, 0, 0) := cAM_same_1 _ (List.mem_of_getElem? (i := 3) rfl)
theorem cM_same_40 : zCode 203 40 = some (.invokevirtual 265, 43, 153, 1, 2, 12, 0) := cAM_same_1 _ (List.mem_of_getElem? (i := 4) rfl)
theorem cM_same_43 : zCode 203 43 = some (.ireturn, 44, 0, 0, 0, 0, 0) := cAM_same_1 _ (List.mem_of_getElem? (i := 5) rfl)
theorem cM_same_44 : zCode 203 44 = some (.aload_n 0, 45, 0, 0, 0, 0, 7) := cAM_same_1 _ (List.mem_of_getElem? (i := 6) rfl)
theorem cM_same_45 : zCode 203 45 = some (.iload_n 1, 46, 0, 0, 0, 0, 7) := cAM_same_1 _ (List.mem_of_getElem? (i := 7) rfl)
theorem cM_same_46 : zCode 203 46 = some (.invokevirtual 268, 49, 196, 1, 5, 12, 5) := cAM_same_1 _ (List.mem_of_getElem? (i := 8) rfl)
theorem cM_same_49 : zCode 203 49 = some (.aload_n 0, 50, 0, 0, 0, 0, 5) := cAM_same_1 _ (List.mem_of_getElem? (i := 9) rfl)
theorem cM_same_50 : zCode 203 50 = some (.invokevirtual 277, 53, 201, 0, 2, 12, 5) := cAM_same_1 _ (List.mem_of_getElem? (i := 10) rfl)
theorem cM_same_53 : zCode 203 53 = some (.aload_n 0, 54, 0, 0, 0, 0, 5) := cAM_same_1 _ (List.mem_of_getElem? (i := 11) rfl)
theorem cM_same_54 : zCode 203 54 = some (.iload_n 2, 55, 0, 0, 0, 0, 5) := cAM_same_1 _ (List.mem_of_getElem? (i := 12) rfl)
theorem cM_same_55 : zCode 203 55 = some (.invokevirtual 268, 58, 196, 1, 5, 12, 1) := cAM_same_1 _ (List.mem_of_getElem? (i := 13) rfl)
theorem cM_same_58 : zCode 203 58 = some (.aload_n 0, 59, 0, 0, 0, 0, 1) := cAM_same_1 _ (List.mem_of_getElem? (i := 14) rfl)
theorem cM_same_59 : zCode 203 59 = some (.invokevirtual 280, 62, 202, 0, 3, 12, 0) := cAM_same_1 _ (List.mem_of_getElem? (i := 15) rfl)
theorem cM_same_62 : zCode 203 62 = some (.ifCond .eq 7, 65, 69, 0, 0, 0, 0) := cAM_same_2 _ (List.mem_of_getElem? (i := 0) rfl)
theorem cM_same_65 : zCode 203 65 = some (.iconst 1, 66, 0, 0, 0, 0, 0) := cAM_same_2 _ (List.mem_of_getElem? (i := 1) rfl)
theorem cM_same_66 : zCode 203 66 = some (.goto 4, 69, 70, 0, 0, 0, 0) := cAM_same_2 _ (List.mem_of_getElem? (i := 2) rfl)
theorem cM_same_69 : zCode 203 69 = some (.iconst 0, 70, 0, 0, 0, 0, 0) := cAM_same_2 _ (List.mem_of_getElem? (i := 3) rfl)
theorem cM_same_70 : zCode 203 70 = some (.ireturn, 71, 0, 0, 0, 0, 0) := cAM_same_2 _ (List.mem_of_getElem? (i := 4) rfl)
theorem rM_same_0 {a0 : Nat} {a1 a2 : Int} : zS 203 0 [zR a0, zI a1, zI a2] [] sh pp mm Q ↔ zS 203 1 [zR a0, zI a1, zI a2] [zI a1] sh pp mm Q := s_go cM_same_0 cM_same_1 rfl rfl
theorem rM_same_1 {a0 : Nat} {a1 a2 s0 : Int} : zS 203 1 [zR a0, zI a1, zI a2] [zI s0] sh pp mm Q ↔ zS 173 0 [zI s0] [] sh pp mm (fun v sh pp mm => zS 203 4 [zR a0, zI a1, zI a2] (zPush v []) sh pp mm Q) := s_call cM_same_1 cM_same_4 rfl rfl
theorem rM_same_4 {a0 : Nat} {a1 a2 s0 : Int} : zS 203 4 [zR a0, zI a1, zI a2] [zI s0] sh pp mm Q ↔ (s0 = 0 → zS 203 14 [zR a0, zU, zU] [] sh pp mm Q) ∧ (¬ s0 = 0 → zS 203 7 [zR a0, zI a1, zI a2] [] sh pp mm Q) := s_if cM_same_4 cM_same_14 cM_same_7 rfl rfl rfl
theorem rM_same_7 {a0 : Nat} {a1 a2 : Int} : zS 203 7 [zR a0, zI a1, zI a2] [] sh pp mm Q ↔ zS 203 8 [zR a0, zI a1, zI a2] [zI a2] sh pp mm Q := s_go cM_same_7 cM_same_8 rfl rfl
theorem rM_same_8 {a0 : Nat} {a1 a2 s0 : Int} : zS 203 8 [zR a0, zI a1, zI a2] [zI s0] sh pp mm Q ↔ zS 173 0 [zI s0] [] sh pp mm (fun v sh pp mm => zS 203 11 [zR a0, zI a1, zI a2] (zPush v []) sh pp mm Q) := s_call cM_same_8 cM_same_11 rfl rfl
theorem rM_same_11 {a0 : Nat} {a1 a2 s0 : Int} : zS 203 11 [zR a0, zI a1, zI a2] [zI s0] sh pp mm Q ↔ (s0 = 0 → zS 203 14 [zR a0, zU, zU] [] sh pp mm Q) ∧ (¬ s0 = 0 → zS 203 21 [zR a0, zI a1, zI a2] [] sh pp mm Q) := s_ifn cM_same_11 cM_same_14 cM_same_21 rfl rfl rfl
theorem rM_same_14 {a0 : Nat} {u1 u2 : zV} : zS 203 14 [zR a0, u1, u2] [] sh pp mm Q ↔ zS 203 15 [zU, zU, zU] [zR a0] sh pp mm Q := s_go cM_same_14 cM_same_15 rfl rfl
theorem rM_same_15 {s0 : Nat} {u0 u1 u2 : zV} : zS 203 15 [u0, u1, u2] [zR s0] sh pp mm Q ↔ zS 203 17 [zU, zU, zU] [zI (-2), zR s0] sh pp mm Q := s_go cM_same_15 cM_same_17 rfl rfl
theorem rM_same_17 {s1 : Nat} {s0 : Int} {u0 u1 u2 : zV} (hk : zKd sh s1 = 12) : zS 203 17 [u0, u1, u2] [zI s0, zR s1] sh pp mm Q ↔ zS 152 0 [zR s1, zI s0] [] sh pp mm (fun v sh pp mm => zS 203 20 [zU, zU, zU] (zPush v []) sh pp mm Q) := s_call cM_same_17 cM_same_20 ((if_pos hk).trans rfl) rfl
theorem rM_same_20 {s0 : Int} {u0 u1 u2 : zV} : zS 203 20 [u0, u1, u2] [zI s0] sh pp mm Q ↔ Q (zI s0) sh pp mm := s_ret cM_same_20 rfl
theorem rM_same_21 {a0 : Nat} {a1 a2 : Int} : zS 203 21 [zR a0, zI a1, zI a2] [] sh pp mm Q ↔ zS 203 22 [zR a0, zI a1, zI a2] [zR a0] sh pp mm Q := s_go cM_same_21 cM_same_22 rfl rfl
theorem rM_same_22 {a0 s0 : Nat} {a1 a2 : Int} : zS 203 22 [zR a0, zI a1, zI a2] [zR s0] sh pp mm Q ↔ zS 203 23 [zR a0, zI a1, zI a2] [zI a1, zR s0] sh pp mm Q := s_go cM_same_22 cM_same_23 rfl rfl
theorem rM_same_23 {a0 s1 : Nat} {a1 a2 s0 : Int} (hk : zKd sh s1 = 12) : zS 203 23 [zR a0, zI a1, zI a2] [zI s0, zR s1] sh pp mm Q ↔ zS 186 0 [zR s1, zI s0, zU, zU] [] sh pp mm (fun v sh pp mm => zS 203 26 [zR a0, zI a1, zI a2] (zPush v []) sh pp mm Q) := s_call cM_same_23 cM_same_26 ((if_pos hk).trans rfl) rfl
theorem rM_same_26 {a0 : Nat} {a1 a2 s0 : Int} : zS 203 26 [zR a0, zI a1, zI a2] [zI s0] sh pp mm Q ↔ (s0 = 0 → zS 203 37 [zR a0, zU, zU] [] sh pp mm Q) ∧ (¬ s0 = 0 → zS 203 29 [zR a0, zI a1, zI a2] [] sh pp mm Q) := s_if cM_same_26 cM_same_37 cM_same_29 rfl rfl rfl
theorem rM_same_29 {a0 : Nat} {a1 a2 : Int} : zS 203 29 [zR a0, zI a1, zI a2] [] sh pp mm Q ↔ zS 203 30 [zR a0, zI a1, zI a2] [zR a0] sh pp mm Q := s_go cM_same_29 cM_same_30 rfl rfl
theorem rM_same_30 {a0 s0 : Nat} {a1 a2 : Int} : zS 203 30 [zR a0, zI a1, zI a2] [zR s0] sh pp mm Q ↔ zS 203 31 [zR a0, zI a1, zI a2] [zI a2, zR s0] sh pp mm Q := s_go cM_same_30 cM_same_31 rfl rfl
theorem rM_same_31 {a0 s1 : Nat} {a1 a2 s0 : Int} (hk : zKd sh s1 = 12) : zS 203 31 [zR a0, zI a1, zI a2] [zI s0, zR s1] sh pp mm Q ↔ zS 186 0 [zR s1, zI s0, zU, zU] [] sh pp mm (fun v sh pp mm => zS 203 34 [zR a0, zI a1, zI a2] (zPush v []) sh pp mm Q) := s_call cM_same_31 cM_same_34 ((if_pos hk).trans rfl) rfl
theorem rM_same_34 {a0 : Nat} {a1 a2 s0 : Int} : zS 203 34 [zR a0, zI a1, zI a2] [zI s0] sh pp mm Q ↔ (s0 = 0 → zS 203 37 [zR a0, zU, zU] [] sh pp mm Q) ∧ (¬ s0 = 0 → zS 203 44 [zR a0, zI a1, zI a2] [] sh pp mm Q) := s_ifn cM_same_34 cM_same_37 cM_same_44 rfl rfl rfl
theorem rM_same_37 {a0 : Nat} {u1 u2 : zV} : zS 203 37 [zR a0, u1, u2] [] sh pp mm Q ↔ zS 203 38 [zU, zU, zU] [zR a0] sh pp mm Q := s_go cM_same_37 cM_same_38 rfl rfl
theorem rM_same_38 {s0 : Nat} {u0 u1 u2 : zV} : zS 203 38 [u0, u1, u2] [zR s0] sh pp mm Q ↔ zS 203 40 [zU, zU, zU] [zI (-3), zR s0] sh pp mm Q := s_go cM_same_38 cM_same_40 rfl rfl
theorem rM_same_40 {s1 : Nat} {s0 : Int} {u0 u1 u2 : zV} (hk : zKd sh s1 = 12) : zS 203 40 [u0, u1, u2] [zI s0, zR s1] sh pp mm Q ↔ zS 153 0 [zR s1, zI s0] [] sh pp mm (fun v sh pp mm => zS 203 43 [zU, zU, zU] (zPush v []) sh pp mm Q) := s_call cM_same_40 cM_same_43 ((if_pos hk).trans rfl) rfl
theorem rM_same_43 {s0 : Int} {u0 u1 u2 : zV} : zS 203 43 [u0, u1, u2] [zI s0] sh pp mm Q ↔ Q (zI s0) sh pp mm := s_ret cM_same_43 rfl
theorem rM_same_44 {a0 : Nat} {a1 a2 : Int} : zS 203 44 [zR a0, zI a1, zI a2] [] sh pp mm Q ↔ zS 203 45 [zR a0, zI a1, zI a2] [zR a0] sh pp mm Q := s_go cM_same_44 cM_same_45 rfl rfl
theorem rM_same_45 {a0 s0 : Nat} {a1 a2 : Int} : zS 203 45 [zR a0, zI a1, zI a2] [zR s0] sh pp mm Q ↔ zS 203 46 [zR a0, zU, zI a2] [zI a1, zR s0] sh pp mm Q := s_go cM_same_45 cM_same_46 rfl rfl
theorem rM_same_46 {a0 s1 : Nat} {a2 s0 : Int} {u1 : zV} (hk : zKd sh s1 = 12) : zS 203 46 [zR a0, u1, zI a2] [zI s0, zR s1] sh pp mm Q ↔ zS 196 0 [zR s1, zI s0, zU, zU, zU] [] sh pp mm (fun v sh pp mm => zS 203 49 [zR a0, zU, zI a2] (zPush v []) sh pp mm Q) := s_call cM_same_46 cM_same_49 ((if_pos hk).trans rfl) rfl
theorem rM_same_49 {a0 : Nat} {a2 : Int} {u1 : zV} : zS 203 49 [zR a0, u1, zI a2] [] sh pp mm Q ↔ zS 203 50 [zR a0, zU, zI a2] [zR a0] sh pp mm Q := s_go cM_same_49 cM_same_50 rfl rfl
theorem rM_same_50 {a0 s0 : Nat} {a2 : Int} {u1 : zV} (hk : zKd sh s0 = 12) : zS 203 50 [zR a0, u1, zI a2] [zR s0] sh pp mm Q ↔ zS 201 0 [zR s0, zU] [] sh pp mm (fun v sh pp mm => zS 203 53 [zR a0, zU, zI a2] (zPush v []) sh pp mm Q) := s_call cM_same_50 cM_same_53 ((if_pos hk).trans rfl) rfl
theorem rM_same_53 {a0 : Nat} {a2 : Int} {u1 : zV} : zS 203 53 [zR a0, u1, zI a2] [] sh pp mm Q ↔ zS 203 54 [zR a0, zU, zI a2] [zR a0] sh pp mm Q := s_go cM_same_53 cM_same_54 rfl rfl
theorem rM_same_54 {a0 s0 : Nat} {a2 : Int} {u1 : zV} : zS 203 54 [zR a0, u1, zI a2] [zR s0] sh pp mm Q ↔ zS 203 55 [zR a0, zU, zU] [zI a2, zR s0] sh pp mm Q := s_go cM_same_54 cM_same_55 rfl rfl
theorem rM_same_55 {a0 s1 : Nat} {s0 : Int} {u1 u2 : zV} (hk : zKd sh s1 = 12) : zS 203 55 [zR a0, u1, u2] [zI s0, zR s1] sh pp mm Q ↔ zS 196 0 [zR s1, zI s0, zU, zU, zU] [] sh pp mm (fun v sh pp mm => zS 203 58 [zR a0, zU, zU] (zPush v []) sh pp mm Q) := s_call cM_same_55 cM_same_58 ((if_pos hk).trans rfl) rfl
theorem rM_same_58 {a0 : Nat} {u1 u2 : zV} : zS 203 58 [zR a0, u1, u2] [] sh pp mm Q ↔ zS 203 59 [zU, zU, zU] [zR a0] sh pp mm Q := s_go cM_same_58 cM_same_59 rfl rfl
theorem rM_same_59 {s0 : Nat} {u0 u1 u2 : zV} (hk : zKd sh s0 = 12) : zS 203 59 [u0, u1, u2] [zR s0] sh pp mm Q ↔ zS 202 0 [zR s0, zU, zU] [] sh pp mm (fun v sh pp mm => zS 203 62 [zU, zU, zU] (zPush v []) sh pp mm Q) := s_call cM_same_59 cM_same_62 ((if_pos hk).trans rfl) rfl
theorem rM_same_62 {s0 : Int} {u0 u1 u2 : zV} : zS 203 62 [u0, u1, u2] [zI s0] sh pp mm Q ↔ (s0 = 0 → zS 203 69 [zU, zU, zU] [] sh pp mm Q) ∧ (¬ s0 = 0 → zS 203 65 [zU, zU, zU] [] sh pp mm Q) := s_if cM_same_62 cM_same_69 cM_same_65 rfl rfl rfl
theorem rM_same_65 {u0 u1 u2 : zV} : zS 203 65 [u0, u1, u2] [] sh pp mm Q ↔ zS 203 66 [zU, zU, zU] [zI 1] sh pp mm Q := s_go cM_same_65 cM_same_66 rfl rfl
theorem rM_same_66 {s0 : Int} {u0 u1 u2 : zV} : zS 203 66 [u0, u1, u2] [zI s0] sh pp mm Q ↔ zS 203 70 [zU, zU, zU] [zI s0] sh pp mm Q := s_go cM_same_66 cM_same_70 rfl rfl
theorem rM_same_69 {u0 u1 u2 : zV} : zS 203 69 [u0, u1, u2] [] sh pp mm Q ↔ zS 203 70 [zU, zU, zU] [zI 0] sh pp mm Q := s_go cM_same_69 cM_same_70 rfl rfl
theorem rM_same_70 {s0 : Int} {u0 u1 u2 : zV} : zS 203 70 [u0, u1, u2] [zI s0] sh pp mm Q ↔ Q (zI s0) sh pp mm := s_ret cM_same_70 rfl
theorem cAM_quickest : ∀ q ∈ zT204, zCode 204 q.1 = some q.2 := zAll (mid := 204) rfl (by decide +kernel)
theorem cAM_quickest_0 : ∀ q ∈ zT204_0, zCode 204 q.1 = some q.2 := fun q h => cAM_quickest q (List.mem_append_left _ h)
theorem cAM_quickest_1 : ∀ q ∈ zT204_1, zCode 204 q.1 = some q.2 := fun q h => cAM_quickest q (List.mem_append_right _ (List.mem_append_left _ h))
theorem cAM_quickest_2 : ∀ q ∈ zT204_2, zCode 204 q.1 = some q.2 := fun q h => cAM_quickest q (List.mem_append_right _ (List.mem_append_right _ (List.mem_append_left _ h)))
theorem cAM_quickest_3 : ∀ q ∈ zT204_3, zCode 204 q.1 = some q.2 := fun q h => cAM_quickest q (List.mem_append_right _ (List.mem_append_right _ (List.mem_append_right _ h)))
theorem cM_quickest_0 : zCode 204 0 = some (.iload_n 1, 1, 0, 0, 0, 0, 3) := cAM_quickest_0 _ (List.mem_of_getElem? (i := 0) rfl)
theorem cM_quickest_1 : zCode 204 1 = some (.invokestatic 147, 4, 173, 1, 1, 12, 3) := cAM_quickest_0 _ (List.mem_of_getElem? (i := 1) rfl)
theorem cM_quickest_4 : zCode 204 4 = some (.ifCond .ne 10, 7, 14, 0, 0, 0, 3) := cAM_quickest_0 _ (List.mem_of_getElem? (i := 2) rfl)
theorem cM_quickest_7 : zCode 204 7 = some (.aload_n 0, 8, 0, 0, 0, 0, 1) := cAM_quickest_0 _ (List.mem_of_getElem? (i := 3) rfl)
theorem cM_quickest_8 : zCode 204 8 = some (.bipush (-2), 10, 0, 0, 0, 0, 0) := cAM_quickest_0 _ (List.mem_of_getElem? (i := 4) rfl)
theorem cM_quickest_10 : zCode 204 10 = some (.invokevirtual 132, 13, 152, 1, 2, 12, 0) := cAM_quickest_0 _ (List.mem_of_getElem? (i := 5) rfl)
theorem cM_quickest_13 : zCode 204 13 = some (.ireturn, 14, 0, 0, 0, 0, 0) := cAM_quickest_0 _ (List.mem_of_getElem? (i := 6) rfl)
theorem cM_quickest_14 : zCode 204 14 = some (.aload_n 0, 15, 0, 0, 0, 0, 3) := cAM_quickest_0 _ (List.mem_of_getElem? (i := 7) rfl)
theorem cM_quickest_15 : zCode 204 15 = some (.iload_n 1, 16, 0, 0, 0, 0, 3) := cAM_quickest_0 _ (List.mem_of_getElem? (i := 8) rfl)
theorem cM_quickest_16 : zCode 204 16 = some (.invokevirtual 214, 19, 186, 1, 4, 12, 3) := cAM_quickest_0 _ (List.mem_of_getElem? (i := 9) rfl)
theorem cM_quickest_19 : zCode 204 19 = some (.ifCond .ne 10, 22, 29, 0, 0, 0, 3) := cAM_quickest_0 _ (List.mem_of_getElem? (i := 10) rfl)
theorem cM_quickest_22 : zCode 204 22 = some (.aload_n 0, 23, 0, 0, 0, 0, 1) := cAM_quickest_0 _ (List.mem_of_getElem? (i := 11) rfl)
theorem cM_quickest_23 : zCode 204 23 = some (.bipush (-3), 25, 0, 0, 0, 0, 0) := cAM_quickest_0 _ (List.mem_of_getElem? (i := 12) rfl)
theorem cM_quickest_25 : zCode 204 25 = some (.invokevirtual 265, 28, 153, 1, 2, 12, 0) := cAM_quickest_0 _ (List.mem_of_getElem? (i := 13) rfl)
theorem cM_quickest_28 : zCode 204 28 = some (.ireturn, 29, 0, 0, 0, 0, 0) := cAM_quickest_0 _ (List.mem_of_getElem? (i := 14) rfl)
theorem cM_quickest_29 : zCode 204 29 = some (.aload_n 0, 30, 0, 0, 0, 0, 3) := cAM_quickest_0 _ (List.mem_of_getElem? (i := 15) rfl)
theorem cM_quickest_30 : zCode 204 30 = some (.iload_n 1, 31, 0, 0, 0, 0, 3) := cAM_quickest_1 _ (List.mem_of_getElem? (i := 0) rfl)
theorem cM_quickest_31 : zCode 204 31 = some (.invokevirtual 268, 34, 196, 1, 5, 12, 1) := cAM_quickest_1 _ (List.mem_of_getElem? (i := 1) rfl)
theorem cM_quickest_34 : zCode 204 34 = some (.aload_n 0, 35, 0, 0, 0, 0, 1) := cAM_quickest_1 _ (List.mem_of_getElem? (i := 2) rfl)
theorem cM_quickest_35 : zCode 204 35 = some (.invokevirtual 277, 38, 201, 0, 2, 12, 1) := cAM_quickest_1 _ (List.mem_of_getElem? (i := 3) rfl)
theorem cM_quickest_38 : zCode 204 38 = some (.iconst (-1), 39, 0, 0, 0, 0, 1) := cAM_quickest_1 _ (List.mem_of_getElem? (i := 4) rfl)
theorem cM_quickest_39 : zCode 204 39 = some (.istore_n 2, 40, 0, 0, 0, 0, 1) := cAM_quickest_1 _ (List.mem_of_getElem? (i := 5) rfl)
theorem cM_quickest_40 : zCode 204 40 = some (.iconst 0, 41, 0, 0, 0, 0, 5) := cAM_quickest_1 _ (List.mem_of_getElem? (i := 6) rfl)
theorem cM_quickest_41 : zCode 204 41 = some (.istore_n 3, 42, 0, 0, 0, 0, 5) := cAM_quickest_1 _ (List.mem_of_getElem? (i := 7) rfl)
theorem cM_quickest_42 : zCode 204 42 = some (.iconst 0, 43, 0, 0, 0, 0, 13) := cAM_quickest_1 _ (List.mem_of_getElem? (i := 8) rfl)
theorem cM_quickest_43 : zCode 204 43 = some (.istore 4, 45, 0, 0, 0, 0, 13) := cAM_quickest_1 _ (List.mem_of_getElem? (i := 9) rfl)
theorem cM_quickest_45 : zCode 204 45 = some (.iload 4, 47, 0, 0, 0, 0, 29) := cAM_quickest_1 _ (List.mem_of_getElem? (i := 10) rfl)
theorem cM_quickest_47 : zCode 204 47 = some (.iconst 4, 48, 0, 0, 0, 0, 29) := cAM_quickest_1 _ (List.mem_of_getElem? (i := 11) rfl)
theorem cM_quickest_48 : zCode 204 48 = some (.if_icmp .ge 52, 51, 100, 0, 0, 0, 29) := cAM_quickest_1 _ (List.mem_of_getElem? (i := 12) rfl)
theorem cM_quickest_51 : zCode 204 51 = some (.aload_n 0, 52, 0, 0, 0, 0, 29) := cAM_quickest_1 _ (List.mem_of_getElem? (i := 13) rfl)
theorem cM_quickest_52 : zCode 204 52 = some (.iload 4, 54, 0, 0, 0, 0, 29) := cAM_quickest_1 _ (List.mem_of_getElem? (i := 14) rfl)
theorem cM_quickest_54 : zCode 204 54 = some (.invokevirtual 214, 57, 186, 1, 4, 12, 29) := cAM_quickest_1 _ (List.mem_of_getElem? (i := 15) rfl)
theorem cM_quickest_57 : zCode 204 57 = some (.ifCond .eq 37, 60, 94, 0, 0, 0, 29) := cAM_quickest_2 _ (List.mem_of_getElem? (i := 0) rfl)
theorem cM_quickest_60 : zCode 204 60 = some (.aload_n 0, 61, 0, 0, 0, 0, 29) := cAM_quickest_2 _ (List.mem_of_getElem? (i := 1) rfl)
theorem cM_quickest_61 : zCode 204 61 = some (.iload 4, 63, 0, 0, 0, 0, 29) := cAM_quickest_2 _ (List.mem_of_getElem? (i := 2) rfl)
theorem cM_quickest_63 : zCode 204 63 = some (.invokevirtual 268, 66, 196, 1, 5, 12, 29) := cAM_quickest_2 _ (List.mem_of_getElem? (i := 3) rfl)
theorem cM_quickest_66 : zCode 204 66 = some (.aload_n 0, 67, 0, 0, 0, 0, 29) := cAM_quickest_2 _ (List.mem_of_getElem? (i := 4) rfl)
theorem cM_quickest_67 : zCode 204 67 = some (.invokevirtual 280, 70, 202, 0, 3, 12, 29) := cAM_quickest_2 _ (List.mem_of_getElem? (i := 5) rfl)
theorem cM_quickest_70 : zCode 204 70 = some (.ifCond .eq 24, 73, 94, 0, 0, 0, 29) := cAM_quickest_2 _ (List.mem_of_getElem? (i := 6) rfl)
theorem cM_quickest_73 : zCode 204 73 = some (.iload_n 2, 74, 0, 0, 0, 0, 29) := cAM_quickest_2 _ (List.mem_of_getElem? (i := 7) rfl)
theorem cM_quickest_74 : zCode 204 74 = some (.iconst (-1), 75, 0, 0, 0, 0, 29) := cAM_quickest_2 _ (List.mem_of_getElem? (i := 8) rfl)
theorem cM_quickest_75 : zCode 204 75 = some (.if_icmp .eq 11, 78, 86, 0, 0, 0, 29) := cAM_quickest_2 _ (List.mem_of_getElem? (i := 9) rfl)
theorem cM_quickest_78 : zCode 204 78 = some (.aload_n 0, 79, 0, 0, 0, 0, 29) := cAM_quickest_2 _ (List.mem_of_getElem? (i := 10) rfl)
theorem cM_quickest_79 : zCode 204 79 = some (.getfield 247, 82, 12, 25, 0, 1234, 29) := cAM_quickest_2 _ (List.mem_of_getElem? (i := 11) rfl)
theorem cM_quickest_82 : zCode 204 82 = some (.iload_n 3, 83, 0, 0, 0, 0, 29) := cAM_quickest_2 _ (List.mem_of_getElem? (i := 12) rfl)
theorem cM_quickest_83 : zCode 204 83 = some (.if_icmp .ge 11, 86, 94, 0, 0, 0, 29) := cAM_quickest_2 _ (List.mem_of_getElem? (i := 13) rfl)
theorem cM_quickest_86 : zCode 204 86 = some (.iload 4, 88, 0, 0, 0, 0, 17) := cAM_quickest_2 _ (List.mem_of_getElem? (i := 14) rfl)
theorem cM_quickest_88 : zCode 204 88 = some (.istore_n 2, 89, 0, 0, 0, 0, 17) := cAM_quickest_2 _ (List.mem_of_getElem? (i := 15) rfl)
theorem cM_quickest_89 : zCode 204 89 = some (.aload_n 0, 90, 0, 0, 0, 0, 21) := cAM_quickest_3 _ (List.mem_of_getElem? (i := 0) rfl)
theorem cM_quickest_90 : zCode 204 90 = some (.getfield 247, 93, 12, 25, 0, 1234, 21) := cAM_quickest_3 _ (List.mem_of_getElem? (i := 1) rfl)
theorem cM_quickest_93 : zCode 204 93 = some (.istore_n 3, 94, 0, 0, 0, 0, 21) := cAM_quickest_3 _ (List.mem_of_getElem? (i := 2) rfl)
theorem cM_quickest_94 : zCode 204 94 = some (.iinc 4 1, 97, 0, 0, 0, 0, 29) := cAM_quickest_3 _ (List.mem_of_getElem? (i := 3) rfl)
theorem cM_quickest_97 : zCode 204 97 = some (.goto (-52), 100, 45, 0, 0, 0, 29) := cAM_quickest_3 _ (List.mem_of_getElem? (i := 4) rfl)
theorem cM_quickest_100 : zCode 204 100 = some (.iload_n 2, 101, 0, 0, 0, 0, 4) := cAM_quickest_3 _ (List.mem_of_getElem? (i := 5) rfl)
theorem cM_quickest_101 : zCode 204 101 = some (.ireturn, 102, 0, 0, 0, 0, 0) := cAM_quickest_3 _ (List.mem_of_getElem? (i := 6) rfl)
theorem rM_quickest_0 {a0 : Nat} {a1 : Int} {u2 u3 u4 : zV} : zS 204 0 [zR a0, zI a1, u2, u3, u4] [] sh pp mm Q ↔ zS 204 1 [zR a0, zI a1, zU, zU, zU] [zI a1] sh pp mm Q := s_go cM_quickest_0 cM_quickest_1 rfl rfl
theorem rM_quickest_1 {a0 : Nat} {a1 s0 : Int} {u2 u3 u4 : zV} : zS 204 1 [zR a0, zI a1, u2, u3, u4] [zI s0] sh pp mm Q ↔ zS 173 0 [zI s0] [] sh pp mm (fun v sh pp mm => zS 204 4 [zR a0, zI a1, zU, zU, zU] (zPush v []) sh pp mm Q) := s_call cM_quickest_1 cM_quickest_4 rfl rfl
theorem rM_quickest_4 {a0 : Nat} {a1 s0 : Int} {u2 u3 u4 : zV} : zS 204 4 [zR a0, zI a1, u2, u3, u4] [zI s0] sh pp mm Q ↔ (s0 = 0 → zS 204 7 [zR a0, zU, zU, zU, zU] [] sh pp mm Q) ∧ (¬ s0 = 0 → zS 204 14 [zR a0, zI a1, zU, zU, zU] [] sh pp mm Q) := s_ifn cM_quickest_4 cM_quickest_7 cM_quickest_14 rfl rfl rfl
theorem rM_quickest_7 {a0 : Nat} {u1 u2 u3 u4 : zV} : zS 204 7 [zR a0, u1, u2, u3, u4] [] sh pp mm Q ↔ zS 204 8 [zU, zU, zU, zU, zU] [zR a0] sh pp mm Q := s_go cM_quickest_7 cM_quickest_8 rfl rfl
theorem rM_quickest_8 {s0 : Nat} {u0 u1 u2 u3 u4 : zV} : zS 204 8 [u0, u1, u2, u3, u4] [zR s0] sh pp mm Q ↔ zS 204 10 [zU, zU, zU, zU, zU] [zI (-2), zR s0] sh pp mm Q := s_go cM_quickest_8 cM_quickest_10 rfl rfl
theorem rM_quickest_10 {s1 : Nat} {s0 : Int} {u0 u1 u2 u3 u4 : zV} (hk : zKd sh s1 = 12) : zS 204 10 [u0, u1, u2, u3, u4] [zI s0, zR s1] sh pp mm Q ↔ zS 152 0 [zR s1, zI s0] [] sh pp mm (fun v sh pp mm => zS 204 13 [zU, zU, zU, zU, zU] (zPush v []) sh pp mm Q) := s_call cM_quickest_10 cM_quickest_13 ((if_pos hk).trans rfl) rfl
theorem rM_quickest_13 {s0 : Int} {u0 u1 u2 u3 u4 : zV} : zS 204 13 [u0, u1, u2, u3, u4] [zI s0] sh pp mm Q ↔ Q (zI s0) sh pp mm := s_ret cM_quickest_13 rfl
theorem rM_quickest_14 {a0 : Nat} {a1 : Int} {u2 u3 u4 : zV} : zS 204 14 [zR a0, zI a1, u2, u3, u4] [] sh pp mm Q ↔ zS 204 15 [zR a0, zI a1, zU, zU, zU] [zR a0] sh pp mm Q := s_go cM_quickest_14 cM_quickest_15 rfl rfl
theorem rM_quickest_15 {a0 s0 : Nat} {a1 : Int} {u2 u3 u4 : zV} : zS 204 15 [zR a0, zI a1, u2, u3, u4] [zR s0] sh pp mm Q ↔ zS 204 16 [zR a0, zI a1, zU, zU, zU] [zI a1, zR s0] sh pp mm Q := s_go cM_quickest_15 cM_quickest_16 rfl rfl
theorem rM_quickest_16 {a0 s1 : Nat} {a1 s0 : Int} {u2 u3 u4 : zV} (hk : zKd sh s1 = 12) : zS 204 16 [zR a0, zI a1, u2, u3, u4] [zI s0, zR s1] sh pp mm Q ↔ zS 186 0 [zR s1, zI s0, zU, zU] [] sh pp mm (fun v sh pp mm => zS 204 19 [zR a0, zI a1, zU, zU, zU] (zPush v []) sh pp mm Q) := s_call cM_quickest_16 cM_quickest_19 ((if_pos hk).trans rfl) rfl
theorem rM_quickest_19 {a0 : Nat} {a1 s0 : Int} {u2 u3 u4 : zV} : zS 204 19 [zR a0, zI a1, u2, u3, u4] [zI s0] sh pp mm Q ↔ (s0 = 0 → zS 204 22 [zR a0, zU, zU, zU, zU] [] sh pp mm Q) ∧ (¬ s0 = 0 → zS 204 29 [zR a0, zI a1, zU, zU, zU] [] sh pp mm Q) := s_ifn cM_quickest_19 cM_quickest_22 cM_quickest_29 rfl rfl rfl
theorem rM_quickest_22 {a0 : Nat} {u1 u2 u3 u4 : zV} : zS 204 22 [zR a0, u1, u2, u3, u4] [] sh pp mm Q ↔ zS 204 23 [zU, zU, zU, zU, zU] [zR a0] sh pp mm Q := s_go cM_quickest_22 cM_quickest_23 rfl rfl
theorem rM_quickest_23 {s0 : Nat} {u0 u1 u2 u3 u4 : zV} : zS 204 23 [u0, u1, u2, u3, u4] [zR s0] sh pp mm Q ↔ zS 204 25 [zU, zU, zU, zU, zU] [zI (-3), zR s0] sh pp mm Q := s_go cM_quickest_23 cM_quickest_25 rfl rfl
theorem rM_quickest_25 {s1 : Nat} {s0 : Int} {u0 u1 u2 u3 u4 : zV} (hk : zKd sh s1 = 12) : zS 204 25 [u0, u1, u2, u3, u4] [zI s0, zR s1] sh pp mm Q ↔ zS 153 0 [zR s1, zI s0] [] sh pp mm (fun v sh pp mm => zS 204 28 [zU, zU, zU, zU, zU] (zPush v []) sh pp mm Q) := s_call cM_quickest_25 cM_quickest_28 ((if_pos hk).trans rfl) rfl
theorem rM_quickest_28 {s0 : Int} {u0 u1 u2 u3 u4 : zV} : zS 204 28 [u0, u1, u2, u3, u4] [zI s0] sh pp mm Q ↔ Q (zI s0) sh pp mm := s_ret cM_quickest_28 rfl
theorem rM_quickest_29 {a0 : Nat} {a1 : Int} {u2 u3 u4 : zV} : zS 204 29 [zR a0, zI a1, u2, u3, u4] [] sh pp mm Q ↔ zS 204 30 [zR a0, zI a1, zU, zU, zU] [zR a0] sh pp mm Q := s_go cM_quickest_29 cM_quickest_30 rfl rfl
theorem rM_quickest_30 {a0 s0 : Nat} {a1 : Int} {u2 u3 u4 : zV} : zS 204 30 [zR a0, zI a1, u2, u3, u4] [zR s0] sh pp mm Q ↔ zS 204 31 [zR a0, zU, zU, zU, zU] [zI a1, zR s0] sh pp mm Q := s_go cM_quickest_30 cM_quickest_31 rfl rfl
theorem rM_quickest_31 {a0 s1 : Nat} {s0 : Int} {u1 u2 u3 u4 : zV} (hk : zKd sh s1 = 12) : zS 204 31 [zR a0, u1, u2, u3, u4] [zI s0, zR s1] sh pp mm Q ↔ zS 196 0 [zR s1, zI s0, zU, zU, zU] [] sh pp mm (fun v sh pp mm => zS 204 34 [zR a0, zU, zU, zU, zU] (zPush v []) sh pp mm Q) := s_call cM_quickest_31 cM_quickest_34 ((if_pos hk).trans rfl) rfl
theorem rM_quickest_34 {a0 : Nat} {u1 u2 u3 u4 : zV} : zS 204 34 [zR a0, u1, u2, u3, u4] [] sh pp mm Q ↔ zS 204 35 [zR a0, zU, zU, zU, zU] [zR a0] sh pp mm Q := s_go cM_quickest_34 cM_quickest_35 rfl rfl
theorem rM_quickest_35 {a0 s0 : Nat} {u1 u2 u3 u4 : zV} (hk : zKd sh s0 = 12) : zS 204 35 [zR a0, u1, u2, u3, u4] [zR s0] sh pp mm Q ↔ zS 201 0 [zR s0, zU] [] sh pp mm (fun v sh pp mm => zS 204 38 [zR a0, zU, zU, zU, zU] (zPush v []) sh pp mm Q) := s_call cM_quickest_35 cM_quickest_38 ((if_pos hk).trans rfl) rfl
theorem rM_quickest_38 {a0 : Nat} {u1 u2 u3 u4 : zV} : zS 204 38 [zR a0, u1, u2, u3, u4] [] sh pp mm Q ↔ zS 204 39 [zR a0, zU, zU, zU, zU] [zI (-1)] sh pp mm Q := s_go cM_quickest_38 cM_quickest_39 rfl rfl
theorem rM_quickest_39 {a0 : Nat} {s0 : Int} {u1 u2 u3 u4 : zV} : zS 204 39 [zR a0, u1, u2, u3, u4] [zI s0] sh pp mm Q ↔ zS 204 40 [zR a0, zU, zI s0, zU, zU] [] sh pp mm Q := s_go cM_quickest_39 cM_quickest_40 rfl rfl
theorem rM_quickest_40 {a0 : Nat} {a2 : Int} {u1 u3 u4 : zV} : zS 204 40 [zR a0, u1, zI a2, u3, u4] [] sh pp mm Q ↔ zS 204 41 [zR a0, zU, zI a2, zU, zU] [zI 0] sh pp mm Q := s_go cM_quickest_40 cM_quickest_41 rfl rfl
theorem rM_quickest_41 {a0 : Nat} {a2 s0 : Int} {u1 u3 u4 : zV} : zS 204 41 [zR a0, u1, zI a2, u3, u4] [zI s0] sh pp mm Q ↔ zS 204 42 [zR a0, zU, zI a2, zI s0, zU] [] sh pp mm Q := s_go cM_quickest_41 cM_quickest_42 rfl rfl
theorem rM_quickest_42 {a0 : Nat} {a2 a3 : Int} {u1 u4 : zV} : zS 204 42 [zR a0, u1, zI a2, zI a3, u4] [] sh pp mm Q ↔ zS 204 43 [zR a0, zU, zI a2, zI a3, zU] [zI 0] sh pp mm Q := s_go cM_quickest_42 cM_quickest_43 rfl rfl
theorem rM_quickest_43 {a0 : Nat} {a2 a3 s0 : Int} {u1 u4 : zV} : zS 204 43 [zR a0, u1, zI a2, zI a3, u4] [zI s0] sh pp mm Q ↔ zS 204 45 [zR a0, zU, zI a2, zI a3, zI s0] [] sh pp mm Q := s_go cM_quickest_43 cM_quickest_45 rfl rfl
theorem rM_quickest_45 {a0 : Nat} {a2 a3 a4 : Int} {u1 : zV} : zS 204 45 [zR a0, u1, zI a2, zI a3, zI a4] [] sh pp mm Q ↔ zS 204 47 [zR a0, zU, zI a2, zI a3, zI a4] [zI a4] sh pp mm Q := s_go cM_quickest_45 cM_quickest_47 rfl rfl
theorem rM_quickest_47 {a0 : Nat} {a2 a3 a4 s0 : Int} {u1 : zV} : zS 204 47 [zR a0, u1, zI a2, zI a3, zI a4] [zI s0] sh pp mm Q ↔ zS 204 48 [zR a0, zU, zI a2, zI a3, zI a4] [zI 4, zI s0] sh pp mm Q := s_go cM_quickest_47 cM_quickest_48 rfl rfl
theorem rM_quickest_48 {a0 : Nat} {a2 a3 a4 s0 s1 : Int} {u1 : zV} : zS 204 48 [zR a0, u1, zI a2, zI a3, zI a4] [zI s0, zI s1] sh pp mm Q ↔ (s1 < s0 → zS 204 51 [zR a0, zU, zI a2, zI a3, zI a4] [] sh pp mm Q) ∧ (¬ s1 < s0 → zS 204 100 [zU, zU, zI a2, zU, zU] [] sh pp mm Q) := s_ifn cM_quickest_48 cM_quickest_51 cM_quickest_100 rfl rfl rfl
theorem rM_quickest_51 {a0 : Nat} {a2 a3 a4 : Int} {u1 : zV} : zS 204 51 [zR a0, u1, zI a2, zI a3, zI a4] [] sh pp mm Q ↔ zS 204 52 [zR a0, zU, zI a2, zI a3, zI a4] [zR a0] sh pp mm Q := s_go cM_quickest_51 cM_quickest_52 rfl rfl
theorem rM_quickest_52 {a0 s0 : Nat} {a2 a3 a4 : Int} {u1 : zV} : zS 204 52 [zR a0, u1, zI a2, zI a3, zI a4] [zR s0] sh pp mm Q ↔ zS 204 54 [zR a0, zU, zI a2, zI a3, zI a4] [zI a4, zR s0] sh pp mm Q := s_go cM_quickest_52 cM_quickest_54 rfl rfl
theorem rM_quickest_54 {a0 s1 : Nat} {a2 a3 a4 s0 : Int} {u1 : zV} (hk : zKd sh s1 = 12) : zS 204 54 [zR a0, u1, zI a2, zI a3, zI a4] [zI s0, zR s1] sh pp mm Q ↔ zS 186 0 [zR s1, zI s0, zU, zU] [] sh pp mm (fun v sh pp mm => zS 204 57 [zR a0, zU, zI a2, zI a3, zI a4] (zPush v []) sh pp mm Q) := s_call cM_quickest_54 cM_quickest_57 ((if_pos hk).trans rfl) rfl
theorem rM_quickest_57 {a0 : Nat} {a2 a3 a4 s0 : Int} {u1 : zV} : zS 204 57 [zR a0, u1, zI a2, zI a3, zI a4] [zI s0] sh pp mm Q ↔ (s0 = 0 → zS 204 94 [zR a0, zU, zI a2, zI a3, zI a4] [] sh pp mm Q) ∧ (¬ s0 = 0 → zS 204 60 [zR a0, zU, zI a2, zI a3, zI a4] [] sh pp mm Q) := s_if cM_quickest_57 cM_quickest_94 cM_quickest_60 rfl rfl rfl
theorem rM_quickest_60 {a0 : Nat} {a2 a3 a4 : Int} {u1 : zV} : zS 204 60 [zR a0, u1, zI a2, zI a3, zI a4] [] sh pp mm Q ↔ zS 204 61 [zR a0, zU, zI a2, zI a3, zI a4] [zR a0] sh pp mm Q := s_go cM_quickest_60 cM_quickest_61 rfl rfl
theorem rM_quickest_61 {a0 s0 : Nat} {a2 a3 a4 : Int} {u1 : zV} : zS 204 61 [zR a0, u1, zI a2, zI a3, zI a4] [zR s0] sh pp mm Q ↔ zS 204 63 [zR a0, zU, zI a2, zI a3, zI a4] [zI a4, zR s0] sh pp mm Q := s_go cM_quickest_61 cM_quickest_63 rfl rfl
theorem rM_quickest_63 {a0 s1 : Nat} {a2 a3 a4 s0 : Int} {u1 : zV} (hk : zKd sh s1 = 12) : zS 204 63 [zR a0, u1, zI a2, zI a3, zI a4] [zI s0, zR s1] sh pp mm Q ↔ zS 196 0 [zR s1, zI s0, zU, zU, zU] [] sh pp mm (fun v sh pp mm => zS 204 66 [zR a0, zU, zI a2, zI a3, zI a4] (zPush v []) sh pp mm Q) := s_call cM_quickest_63 cM_quickest_66 ((if_pos hk).trans rfl) rfl
theorem rM_quickest_66 {a0 : Nat} {a2 a3 a4 : Int} {u1 : zV} : zS 204 66 [zR a0, u1, zI a2, zI a3, zI a4] [] sh pp mm Q ↔ zS 204 67 [zR a0, zU, zI a2, zI a3, zI a4] [zR a0] sh pp mm Q := s_go cM_quickest_66 cM_quickest_67 rfl rfl
theorem rM_quickest_67 {a0 s0 : Nat} {a2 a3 a4 : Int} {u1 : zV} (hk : zKd sh s0 = 12) : zS 204 67 [zR a0, u1, zI a2, zI a3, zI a4] [zR s0] sh pp mm Q ↔ zS 202 0 [zR s0, zU, zU] [] sh pp mm (fun v sh pp mm => zS 204 70 [zR a0, zU, zI a2, zI a3, zI a4] (zPush v []) sh pp mm Q) := s_call cM_quickest_67 cM_quickest_70 ((if_pos hk).trans rfl) rfl
theorem rM_quickest_70 {a0 : Nat} {a2 a3 a4 s0 : Int} {u1 : zV} : zS 204 70 [zR a0, u1, zI a2, zI a3, zI a4] [zI s0] sh pp mm Q ↔ (s0 = 0 → zS 204 94 [zR a0, zU, zI a2, zI a3, zI a4] [] sh pp mm Q) ∧ (¬ s0 = 0 → zS 204 73 [zR a0, zU, zI a2, zI a3, zI a4] [] sh pp mm Q) := s_if cM_quickest_70 cM_quickest_94 cM_quickest_73 rfl rfl rfl
theorem rM_quickest_73 {a0 : Nat} {a2 a3 a4 : Int} {u1 : zV} : zS 204 73 [zR a0, u1, zI a2, zI a3, zI a4] [] sh pp mm Q ↔ zS 204 74 [zR a0, zU, zI a2, zI a3, zI a4] [zI a2] sh pp mm Q := s_go cM_quickest_73 cM_quickest_74 rfl rfl
theorem rM_quickest_74 {a0 : Nat} {a2 a3 a4 s0 : Int} {u1 : zV} : zS 204 74 [zR a0, u1, zI a2, zI a3, zI a4] [zI s0] sh pp mm Q ↔ zS 204 75 [zR a0, zU, zI a2, zI a3, zI a4] [zI (-1), zI s0] sh pp mm Q := s_go cM_quickest_74 cM_quickest_75 rfl rfl
theorem rM_quickest_75 {a0 : Nat} {a2 a3 a4 s0 s1 : Int} {u1 : zV} : zS 204 75 [zR a0, u1, zI a2, zI a3, zI a4] [zI s0, zI s1] sh pp mm Q ↔ (s1 = s0 → zS 204 86 [zR a0, zU, zU, zU, zI a4] [] sh pp mm Q) ∧ (¬ s1 = s0 → zS 204 78 [zR a0, zU, zI a2, zI a3, zI a4] [] sh pp mm Q) := s_if cM_quickest_75 cM_quickest_86 cM_quickest_78 rfl rfl rfl
theorem rM_quickest_78 {a0 : Nat} {a2 a3 a4 : Int} {u1 : zV} : zS 204 78 [zR a0, u1, zI a2, zI a3, zI a4] [] sh pp mm Q ↔ zS 204 79 [zR a0, zU, zI a2, zI a3, zI a4] [zR a0] sh pp mm Q := s_go cM_quickest_78 cM_quickest_79 rfl rfl
theorem rM_quickest_79 {a0 s0 : Nat} {a2 a3 a4 : Int} {u1 : zV} (hk : zKd sh s0 = 12) : zS 204 79 [zR a0, u1, zI a2, zI a3, zI a4] [zR s0] sh pp mm Q ↔ zS 204 82 [zR a0, zU, zI a2, zI a3, zI a4] [zI (mm s0 25)] sh pp mm Q := s_go cM_quickest_79 cM_quickest_82 (if_pos hk) rfl
theorem rM_quickest_82 {a0 : Nat} {a2 a3 a4 s0 : Int} {u1 : zV} : zS 204 82 [zR a0, u1, zI a2, zI a3, zI a4] [zI s0] sh pp mm Q ↔ zS 204 83 [zR a0, zU, zI a2, zI a3, zI a4] [zI a3, zI s0] sh pp mm Q := s_go cM_quickest_82 cM_quickest_83 rfl rfl
theorem rM_quickest_83 {a0 : Nat} {a2 a3 a4 s0 s1 : Int} {u1 : zV} : zS 204 83 [zR a0, u1, zI a2, zI a3, zI a4] [zI s0, zI s1] sh pp mm Q ↔ (s1 < s0 → zS 204 86 [zR a0, zU, zU, zU, zI a4] [] sh pp mm Q) ∧ (¬ s1 < s0 → zS 204 94 [zR a0, zU, zI a2, zI a3, zI a4] [] sh pp mm Q) := s_ifn cM_quickest_83 cM_quickest_86 cM_quickest_94 rfl rfl rfl
theorem rM_quickest_86 {a0 : Nat} {a4 : Int} {u1 u2 u3 : zV} : zS 204 86 [zR a0, u1, u2, u3, zI a4] [] sh pp mm Q ↔ zS 204 88 [zR a0, zU, zU, zU, zI a4] [zI a4] sh pp mm Q := s_go cM_quickest_86 cM_quickest_88 rfl rfl
theorem rM_quickest_88 {a0 : Nat} {a4 s0 : Int} {u1 u2 u3 : zV} : zS 204 88 [zR a0, u1, u2, u3, zI a4] [zI s0] sh pp mm Q ↔ zS 204 89 [zR a0, zU, zI s0, zU, zI a4] [] sh pp mm Q := s_go cM_quickest_88 cM_quickest_89 rfl rfl
theorem rM_quickest_89 {a0 : Nat} {a2 a4 : Int} {u1 u3 : zV} : zS 204 89 [zR a0, u1, zI a2, u3, zI a4] [] sh pp mm Q ↔ zS 204 90 [zR a0, zU, zI a2, zU, zI a4] [zR a0] sh pp mm Q := s_go cM_quickest_89 cM_quickest_90 rfl rfl
theorem rM_quickest_90 {a0 s0 : Nat} {a2 a4 : Int} {u1 u3 : zV} (hk : zKd sh s0 = 12) : zS 204 90 [zR a0, u1, zI a2, u3, zI a4] [zR s0] sh pp mm Q ↔ zS 204 93 [zR a0, zU, zI a2, zU, zI a4] [zI (mm s0 25)] sh pp mm Q := s_go cM_quickest_90 cM_quickest_93 (if_pos hk) rfl
theorem rM_quickest_93 {a0 : Nat} {a2 a4 s0 : Int} {u1 u3 : zV} : zS 204 93 [zR a0, u1, zI a2, u3, zI a4] [zI s0] sh pp mm Q ↔ zS 204 94 [zR a0, zU, zI a2, zI s0, zI a4] [] sh pp mm Q := s_go cM_quickest_93 cM_quickest_94 rfl rfl
theorem rM_quickest_94 {a0 : Nat} {a2 a3 a4 : Int} {u1 : zV} : zS 204 94 [zR a0, u1, zI a2, zI a3, zI a4] [] sh pp mm Q ↔ zS 204 97 [zR a0, zU, zI a2, zI a3, zI (zw32 (a4 + 1))] [] sh pp mm Q := s_go cM_quickest_94 cM_quickest_97 rfl rfl
theorem rM_quickest_97 {a0 : Nat} {a2 a3 a4 : Int} {u1 : zV} : zS 204 97 [zR a0, u1, zI a2, zI a3, zI a4] [] sh pp mm Q ↔ zS 204 45 [zR a0, zU, zI a2, zI a3, zI a4] [] sh pp mm Q := s_go cM_quickest_97 cM_quickest_45 rfl rfl
theorem rM_quickest_100 {a2 : Int} {u0 u1 u3 u4 : zV} : zS 204 100 [u0, u1, zI a2, u3, u4] [] sh pp mm Q ↔ zS 204 101 [zU, zU, zU, zU, zU] [zI a2] sh pp mm Q := s_go cM_quickest_100 cM_quickest_101 rfl rfl
theorem rM_quickest_101 {s0 : Int} {u0 u1 u2 u3 u4 : zV} : zS 204 101 [u0, u1, u2, u3, u4] [zI s0] sh pp mm Q ↔ Q (zI s0) sh pp mm := s_ret cM_quickest_101 rfl
theorem cAM_wish : ∀ q ∈ zT205, zCode 205 q.1 = some q.2 := zAll (mid := 205) rfl (by decide +kernel)
theorem cAM_wish_0 : ∀ q ∈ zT205_0, zCode 205 q.1 = some q.2 := fun q h => cAM_wish q (List.mem_append_left _ h)
theorem cAM_wish_1 : ∀ q ∈ zT205_1, zCode 205 q.1 = some q.2 := fun q h => cAM_wish q (List.mem_append_right _ (List.mem_append_left _ h))
theorem cAM_wish_2 : ∀ q ∈ zT205_2, zCode 205 q.1 = some q.2 := fun q h => cAM_wish q (List.mem_append_right _ (List.mem_append_right _ (List.mem_append_left _ h)))
theorem cAM_wish_3 : ∀ q ∈ zT205_3, zCode 205 q.1 = some q.2 := fun q h => cAM_wish q (List.mem_append_right _ (List.mem_append_right _ (List.mem_append_right _ h)))
theorem cM_wish_0 : zCode 205 0 = some (.iload_n 1, 1, 0, 0, 0, 0, 7) := cAM_wish_0 _ (List.mem_of_getElem? (i := 0) rfl)
theorem cM_wish_1 : zCode 205 1 = some (.i2l, 2, 0, 0, 0, 0, 7) := cAM_wish_0 _ (List.mem_of_getElem? (i := 1) rfl)
theorem cM_wish_2 : zCode 205 2 = some (.ldc2_w 284, 5, 0, 0, 1484, (-23), 7) := cAM_wish_0 _ (List.mem_of_getElem? (i := 2) rfl)
theorem cM_wish_5 : zCode 205 5 = some (.ldc2_w 140, 8, 0, 0, 1443, 23, 7) := cAM_wish_0 _ (List.mem_of_getElem? (i := 3) rfl)
theorem cM_wish_8 : zCode 205 8 = some (.invokestatic 121, 11, 151, 3, 6, 12, 7) := cAM_wish_0 _ (List.mem_of_getElem? (i := 4) rfl)
theorem cM_wish_11 : zCode 205 11 = some (.ifCond .eq 25, 14, 36, 0, 0, 0, 7) := cAM_wish_0 _ (List.mem_of_getElem? (i := 5) rfl)
theorem cM_wish_14 : zCode 205 14 = some (.iload_n 2, 15, 0, 0, 0, 0, 7) := cAM_wish_0 _ (List.mem_of_getElem? (i := 6) rfl)
theorem cM_wish_15 : zCode 205 15 = some (.i2l, 16, 0, 0, 0, 0, 7) := cAM_wish_0 _ (List.mem_of_getElem? (i := 7) rfl)
theorem cM_wish_16 : zCode 205 16 = some (.ldc2_w 286, 19, 0, 0, 1485, (-15), 7) := cAM_wish_0 _ (List.mem_of_getElem? (i := 8) rfl)
theorem cM_wish_19 : zCode 205 19 = some (.ldc2_w 142, 22, 0, 0, 1444, 15, 7) := cAM_wish_0 _ (List.mem_of_getElem? (i := 9) rfl)
theorem cM_wish_22 : zCode 205 22 = some (.invokestatic 121, 25, 151, 3, 6, 12, 7) := cAM_wish_0 _ (List.mem_of_getElem? (i := 10) rfl)
theorem cM_wish_25 : zCode 205 25 = some (.ifCond .eq 11, 28, 36, 0, 0, 0, 7) := cAM_wish_0 _ (List.mem_of_getElem? (i := 11) rfl)
theorem cM_wish_28 : zCode 205 28 = some (.iload_n 1, 29, 0, 0, 0, 0, 7) := cAM_wish_0 _ (List.mem_of_getElem? (i := 12) rfl)
theorem cM_wish_29 : zCode 205 29 = some (.ifCond .ne 14, 32, 43, 0, 0, 0, 7) := cAM_wish_0 _ (List.mem_of_getElem? (i := 13) rfl)
theorem cM_wish_32 : zCode 205 32 = some (.iload_n 2, 33, 0, 0, 0, 0, 7) := cAM_wish_0 _ (List.mem_of_getElem? (i := 14) rfl)
theorem cM_wish_33 : zCode 205 33 = some (.ifCond .ne 10, 36, 43, 0, 0, 0, 7) := cAM_wish_0 _ (List.mem_of_getElem? (i := 15) rfl)
theorem cM_wish_36 : zCode 205 36 = some (.aload_n 0, 37, 0, 0, 0, 0, 1) := cAM_wish_1 _ (List.mem_of_getElem? (i := 0) rfl)
theorem cM_wish_37 : zCode 205 37 = some (.bipush (-2), 39, 0, 0, 0, 0, 0) := cAM_wish_1 _ (List.mem_of_getElem? (i := 1) rfl)
theorem cM_wish_39 : zCode 205 39 = some (.invokevirtual 132, 42, 152, 1, 2, 12, 0) := cAM_wish_1 _ (List.mem_of_getElem? (i := 2) rfl)
theorem cM_wish_42 : zCode 205 42 = some (.ireturn, 43, 0, 0, 0, 0, 0) := cAM_wish_1 _ (List.mem_of_getElem? (i := 3) rfl)
theorem cM_wish_43 : zCode 205 43 = some (.aload_n 0, 44, 0, 0, 0, 0, 7) := cAM_wish_1 _ (List.mem_of_getElem? (i := 4) rfl)
theorem cM_wish_44 : zCode 205 44 = some (.iconst 0, 45, 0, 0, 0, 0, 7) := cAM_wish_1 _ (List.mem_of_getElem? (i := 5) rfl)
theorem cM_wish_45 : zCode 205 45 = some (.invokevirtual 288, 48, 169, 1, 2, 12, 7) := cAM_wish_1 _ (List.mem_of_getElem? (i := 6) rfl)
theorem cM_wish_48 : zCode 205 48 = some (.istore_n 3, 49, 0, 0, 0, 0, 7) := cAM_wish_1 _ (List.mem_of_getElem? (i := 7) rfl)
theorem cM_wish_49 : zCode 205 49 = some (.iload_n 3, 50, 0, 0, 0, 0, 15) := cAM_wish_1 _ (List.mem_of_getElem? (i := 8) rfl)
theorem cM_wish_50 : zCode 205 50 = some (.bipush 12, 52, 0, 0, 0, 0, 15) := cAM_wish_1 _ (List.mem_of_getElem? (i := 9) rfl)
theorem cM_wish_52 : zCode 205 52 = some (.if_icmp .ne 8, 55, 60, 0, 0, 0, 15) := cAM_wish_1 _ (List.mem_of_getElem? (i := 10) rfl)
theorem cM_wish_55 : zCode 205 55 = some (.aload_n 0, 56, 0, 0, 0, 0, 1) := cAM_wish_1 _ (List.mem_of_getElem? (i := 11) rfl)
theorem cM_wish_56 : zCode 205 56 = some (.invokevirtual 154, 59, 154, 0, 1, 12, 0) := cAM_wish_1 _ (List.mem_of_getElem? (i := 12) rfl)
theorem cM_wish_59 : zCode 205 59 = some (.ireturn, 60, 0, 0, 0, 0, 0) := cAM_wish_1 _ (List.mem_of_getElem? (i := 13) rfl)
theorem cM_wish_60 : zCode 205 60 = some (.aload_n 0, 61, 0, 0, 0, 0, 15) := cAM_wish_1 _ (List.mem_of_getElem? (i := 14) rfl)
theorem cM_wish_61 : zCode 205 61 = some (.getfield 7, 64, 12, 0, 2, 1209, 15) := cAM_wish_1 _ (List.mem_of_getElem? (i := 15) rfl)
theorem cM_wish_64 : zCode 205 64 = some (.sipush 493, 67, 0, 0, 0, 0, 15) := cAM_wish_2 _ (List.mem_of_getElem? (i := 0) rfl)
theorem cM_wish_67 : zCode 205 67 = some (.iconst 2, 68, 0, 0, 0, 0, 15) := cAM_wish_2 _ (List.mem_of_getElem? (i := 1) rfl)
theorem cM_wish_68 : zCode 205 68 = some (.iload_n 3, 69, 0, 0, 0, 0, 15) := cAM_wish_2 _ (List.mem_of_getElem? (i := 2) rfl)
theorem cM_wish_69 : zCode 205 69 = some (.imul, 70, 0, 0, 0, 0, 15) := cAM_wish_2 _ (List.mem_of_getElem? (i := 3) rfl)
theorem cM_wish_70 : zCode 205 70 = some (.iadd, 71, 0, 0, 0, 0, 15) := cAM_wish_2 _ (List.mem_of_getElem? (i := 4) rfl)
theorem cM_wish_71 : zCode 205 71 = some (.iload_n 1, 72, 0, 0, 0, 0, 15) := cAM_wish_2 _ (List.mem_of_getElem? (i := 5) rfl)
theorem cM_wish_72 : zCode 205 72 = some (.iastore, 73, 0, 0, 0, 0, 13) := cAM_wish_2 _ (List.mem_of_getElem? (i := 6) rfl)
theorem cM_wish_73 : zCode 205 73 = some (.aload_n 0, 74, 0, 0, 0, 0, 13) := cAM_wish_2 _ (List.mem_of_getElem? (i := 7) rfl)
theorem cM_wish_74 : zCode 205 74 = some (.getfield 7, 77, 12, 0, 2, 1209, 13) := cAM_wish_2 _ (List.mem_of_getElem? (i := 8) rfl)
theorem cM_wish_77 : zCode 205 77 = some (.sipush 493, 80, 0, 0, 0, 0, 13) := cAM_wish_2 _ (List.mem_of_getElem? (i := 9) rfl)
theorem cM_wish_80 : zCode 205 80 = some (.iconst 2, 81, 0, 0, 0, 0, 13) := cAM_wish_2 _ (List.mem_of_getElem? (i := 10) rfl)
theorem cM_wish_81 : zCode 205 81 = some (.iload_n 3, 82, 0, 0, 0, 0, 13) := cAM_wish_2 _ (List.mem_of_getElem? (i := 11) rfl)
theorem cM_wish_82 : zCode 205 82 = some (.imul, 83, 0, 0, 0, 0, 13) := cAM_wish_2 _ (List.mem_of_getElem? (i := 12) rfl)
theorem cM_wish_83 : zCode 205 83 = some (.iadd, 84, 0, 0, 0, 0, 13) := cAM_wish_2 _ (List.mem_of_getElem? (i := 13) rfl)
theorem cM_wish_84 : zCode 205 84 = some (.iconst 1, 85, 0, 0, 0, 0, 13) := cAM_wish_2 _ (List.mem_of_getElem? (i := 14) rfl)
theorem cM_wish_85 : zCode 205 85 = some (.iadd, 86, 0, 0, 0, 0, 13) := cAM_wish_2 _ (List.mem_of_getElem? (i := 15) rfl)
theorem cM_wish_86 : zCode 205 86 = some (.iload_n 2, 87, 0, 0, 0, 0, 13) := cAM_wish_3 _ (List.mem_of_getElem? (i := 0) rfl)
theorem cM_wish_87 : zCode 205 87 = some (.iastore, 88, 0, 0, 0, 0, 9) := cAM_wish_3 _ (List.mem_of_getElem? (i := 1) rfl)
theorem cM_wish_88 : zCode 205 88 = some (.aload_n 0, 89, 0, 0, 0, 0, 9) := cAM_wish_3 _ (List.mem_of_getElem? (i := 2) rfl)
theorem cM_wish_89 : zCode 205 89 = some (.getfield 7, 92, 12, 0, 2, 1209, 8) := cAM_wish_3 _ (List.mem_of_getElem? (i := 3) rfl)
theorem cM_wish_92 : zCode 205 92 = some (.sipush 981, 95, 0, 0, 0, 0, 8) := cAM_wish_3 _ (List.mem_of_getElem? (i := 4) rfl)
theorem cM_wish_95 : zCode 205 95 = some (.dup2, 96, 0, 0, 0, 0, 8) := cAM_wish_3 _ (List.mem_of_getElem? (i := 5) rfl)
theorem cM_wish_96 : zCode 205 96 = some (.iaload, 97, 0, 0, 0, 0, 8) := cAM_wish_3 _ (List.mem_of_getElem? (i := 6) rfl)
theorem cM_wish_97 : zCode 205 97 = some (.iconst 1, 98, 0, 0, 0, 0, 8) := cAM_wish_3 _ (List.mem_of_getElem? (i := 7) rfl)
theorem cM_wish_98 : zCode 205 98 = some (.iadd, 99, 0, 0, 0, 0, 8) := cAM_wish_3 _ (List.mem_of_getElem? (i := 8) rfl)
theorem cM_wish_99 : zCode 205 99 = some (.iastore, 100, 0, 0, 0, 0, 8) := cAM_wish_3 _ (List.mem_of_getElem? (i := 9) rfl)
theorem cM_wish_100 : zCode 205 100 = some (.iload_n 3, 101, 0, 0, 0, 0, 8) := cAM_wish_3 _ (List.mem_of_getElem? (i := 10) rfl)
theorem cM_wish_101 : zCode 205 101 = some (.ireturn, 102, 0, 0, 0, 0, 0) := cAM_wish_3 _ (List.mem_of_getElem? (i := 11) rfl)
theorem rM_wish_0 {a0 : Nat} {a1 a2 : Int} {u3 : zV} : zS 205 0 [zR a0, zI a1, zI a2, u3] [] sh pp mm Q ↔ zS 205 1 [zR a0, zI a1, zI a2, zU] [zI a1] sh pp mm Q := s_go cM_wish_0 cM_wish_1 rfl rfl
theorem rM_wish_1 {a0 : Nat} {a1 a2 s0 : Int} {u3 : zV} : zS 205 1 [zR a0, zI a1, zI a2, u3] [zI s0] sh pp mm Q ↔ zS 205 2 [zR a0, zI a1, zI a2, zU] [zL s0] sh pp mm Q := s_go cM_wish_1 cM_wish_2 rfl rfl
theorem rM_wish_2 {a0 : Nat} {a1 a2 s0 : Int} {u3 : zV} : zS 205 2 [zR a0, zI a1, zI a2, u3] [zL s0] sh pp mm Q ↔ zS 205 5 [zR a0, zI a1, zI a2, zU] [zL (-23), zL s0] sh pp mm Q := s_go cM_wish_2 cM_wish_5 rfl rfl
theorem rM_wish_5 {a0 : Nat} {a1 a2 s0 s1 : Int} {u3 : zV} : zS 205 5 [zR a0, zI a1, zI a2, u3] [zL s0, zL s1] sh pp mm Q ↔ zS 205 8 [zR a0, zI a1, zI a2, zU] [zL 23, zL s0, zL s1] sh pp mm Q := s_go cM_wish_5 cM_wish_8 rfl rfl
theorem rM_wish_8 {a0 : Nat} {a1 a2 s0 s1 s2 : Int} {u3 : zV} : zS 205 8 [zR a0, zI a1, zI a2, u3] [zL s0, zL s1, zL s2] sh pp mm Q ↔ zS 151 0 [zL s2, zU, zL s1, zU, zL s0, zU] [] sh pp mm (fun v sh pp mm => zS 205 11 [zR a0, zI a1, zI a2, zU] (zPush v []) sh pp mm Q) := s_call cM_wish_8 cM_wish_11 rfl rfl
theorem rM_wish_11 {a0 : Nat} {a1 a2 s0 : Int} {u3 : zV} : zS 205 11 [zR a0, zI a1, zI a2, u3] [zI s0] sh pp mm Q ↔ (s0 = 0 → zS 205 36 [zR a0, zU, zU, zU] [] sh pp mm Q) ∧ (¬ s0 = 0 → zS 205 14 [zR a0, zI a1, zI a2, zU] [] sh pp mm Q) := s_if cM_wish_11 cM_wish_36 cM_wish_14 rfl rfl rfl
theorem rM_wish_14 {a0 : Nat} {a1 a2 : Int} {u3 : zV} : zS 205 14 [zR a0, zI a1, zI a2, u3] [] sh pp mm Q ↔ zS 205 15 [zR a0, zI a1, zI a2, zU] [zI a2] sh pp mm Q := s_go cM_wish_14 cM_wish_15 rfl rfl
theorem rM_wish_15 {a0 : Nat} {a1 a2 s0 : Int} {u3 : zV} : zS 205 15 [zR a0, zI a1, zI a2, u3] [zI s0] sh pp mm Q ↔ zS 205 16 [zR a0, zI a1, zI a2, zU] [zL s0] sh pp mm Q := s_go cM_wish_15 cM_wish_16 rfl rfl
theorem rM_wish_16 {a0 : Nat} {a1 a2 s0 : Int} {u3 : zV} : zS 205 16 [zR a0, zI a1, zI a2, u3] [zL s0] sh pp mm Q ↔ zS 205 19 [zR a0, zI a1, zI a2, zU] [zL (-15), zL s0] sh pp mm Q := s_go cM_wish_16 cM_wish_19 rfl rfl
theorem rM_wish_19 {a0 : Nat} {a1 a2 s0 s1 : Int} {u3 : zV} : zS 205 19 [zR a0, zI a1, zI a2, u3] [zL s0, zL s1] sh pp mm Q ↔ zS 205 22 [zR a0, zI a1, zI a2, zU] [zL 15, zL s0, zL s1] sh pp mm Q := s_go cM_wish_19 cM_wish_22 rfl rfl
theorem rM_wish_22 {a0 : Nat} {a1 a2 s0 s1 s2 : Int} {u3 : zV} : zS 205 22 [zR a0, zI a1, zI a2, u3] [zL s0, zL s1, zL s2] sh pp mm Q ↔ zS 151 0 [zL s2, zU, zL s1, zU, zL s0, zU] [] sh pp mm (fun v sh pp mm => zS 205 25 [zR a0, zI a1, zI a2, zU] (zPush v []) sh pp mm Q) := s_call cM_wish_22 cM_wish_25 rfl rfl
theorem rM_wish_25 {a0 : Nat} {a1 a2 s0 : Int} {u3 : zV} : zS 205 25 [zR a0, zI a1, zI a2, u3] [zI s0] sh pp mm Q ↔ (s0 = 0 → zS 205 36 [zR a0, zU, zU, zU] [] sh pp mm Q) ∧ (¬ s0 = 0 → zS 205 28 [zR a0, zI a1, zI a2, zU] [] sh pp mm Q) := s_if cM_wish_25 cM_wish_36 cM_wish_28 rfl rfl rfl
theorem rM_wish_28 {a0 : Nat} {a1 a2 : Int} {u3 : zV} : zS 205 28 [zR a0, zI a1, zI a2, u3] [] sh pp mm Q ↔ zS 205 29 [zR a0, zI a1, zI a2, zU] [zI a1] sh pp mm Q := s_go cM_wish_28 cM_wish_29 rfl rfl
theorem rM_wish_29 {a0 : Nat} {a1 a2 s0 : Int} {u3 : zV} : zS 205 29 [zR a0, zI a1, zI a2, u3] [zI s0] sh pp mm Q ↔ (s0 = 0 → zS 205 32 [zR a0, zI a1, zI a2, zU] [] sh pp mm Q) ∧ (¬ s0 = 0 → zS 205 43 [zR a0, zI a1, zI a2, zU] [] sh pp mm Q) := s_ifn cM_wish_29 cM_wish_32 cM_wish_43 rfl rfl rfl
theorem rM_wish_32 {a0 : Nat} {a1 a2 : Int} {u3 : zV} : zS 205 32 [zR a0, zI a1, zI a2, u3] [] sh pp mm Q ↔ zS 205 33 [zR a0, zI a1, zI a2, zU] [zI a2] sh pp mm Q := s_go cM_wish_32 cM_wish_33 rfl rfl
theorem rM_wish_33 {a0 : Nat} {a1 a2 s0 : Int} {u3 : zV} : zS 205 33 [zR a0, zI a1, zI a2, u3] [zI s0] sh pp mm Q ↔ (s0 = 0 → zS 205 36 [zR a0, zU, zU, zU] [] sh pp mm Q) ∧ (¬ s0 = 0 → zS 205 43 [zR a0, zI a1, zI a2, zU] [] sh pp mm Q) := s_ifn cM_wish_33 cM_wish_36 cM_wish_43 rfl rfl rfl
theorem rM_wish_36 {a0 : Nat} {u1 u2 u3 : zV} : zS 205 36 [zR a0, u1, u2, u3] [] sh pp mm Q ↔ zS 205 37 [zU, zU, zU, zU] [zR a0] sh pp mm Q := s_go cM_wish_36 cM_wish_37 rfl rfl
theorem rM_wish_37 {s0 : Nat} {u0 u1 u2 u3 : zV} : zS 205 37 [u0, u1, u2, u3] [zR s0] sh pp mm Q ↔ zS 205 39 [zU, zU, zU, zU] [zI (-2), zR s0] sh pp mm Q := s_go cM_wish_37 cM_wish_39 rfl rfl
theorem rM_wish_39 {s1 : Nat} {s0 : Int} {u0 u1 u2 u3 : zV} (hk : zKd sh s1 = 12) : zS 205 39 [u0, u1, u2, u3] [zI s0, zR s1] sh pp mm Q ↔ zS 152 0 [zR s1, zI s0] [] sh pp mm (fun v sh pp mm => zS 205 42 [zU, zU, zU, zU] (zPush v []) sh pp mm Q) := s_call cM_wish_39 cM_wish_42 ((if_pos hk).trans rfl) rfl
theorem rM_wish_42 {s0 : Int} {u0 u1 u2 u3 : zV} : zS 205 42 [u0, u1, u2, u3] [zI s0] sh pp mm Q ↔ Q (zI s0) sh pp mm := s_ret cM_wish_42 rfl
theorem rM_wish_43 {a0 : Nat} {a1 a2 : Int} {u3 : zV} : zS 205 43 [zR a0, zI a1, zI a2, u3] [] sh pp mm Q ↔ zS 205 44 [zR a0, zI a1, zI a2, zU] [zR a0] sh pp mm Q := s_go cM_wish_43 cM_wish_44 rfl rfl
theorem rM_wish_44 {a0 s0 : Nat} {a1 a2 : Int} {u3 : zV} : zS 205 44 [zR a0, zI a1, zI a2, u3] [zR s0] sh pp mm Q ↔ zS 205 45 [zR a0, zI a1, zI a2, zU] [zI 0, zR s0] sh pp mm Q := s_go cM_wish_44 cM_wish_45 rfl rfl
theorem rM_wish_45 {a0 s1 : Nat} {a1 a2 s0 : Int} {u3 : zV} (hk : zKd sh s1 = 12) : zS 205 45 [zR a0, zI a1, zI a2, u3] [zI s0, zR s1] sh pp mm Q ↔ zS 169 0 [zR s1, zI s0] [] sh pp mm (fun v sh pp mm => zS 205 48 [zR a0, zI a1, zI a2, zU] (zPush v []) sh pp mm Q) := s_call cM_wish_45 cM_wish_48 ((if_pos hk).trans rfl) rfl
theorem rM_wish_48 {a0 : Nat} {a1 a2 s0 : Int} {u3 : zV} : zS 205 48 [zR a0, zI a1, zI a2, u3] [zI s0] sh pp mm Q ↔ zS 205 49 [zR a0, zI a1, zI a2, zI s0] [] sh pp mm Q := s_go cM_wish_48 cM_wish_49 rfl rfl
theorem rM_wish_49 {a0 : Nat} {a1 a2 a3 : Int} : zS 205 49 [zR a0, zI a1, zI a2, zI a3] [] sh pp mm Q ↔ zS 205 50 [zR a0, zI a1, zI a2, zI a3] [zI a3] sh pp mm Q := s_go cM_wish_49 cM_wish_50 rfl rfl
theorem rM_wish_50 {a0 : Nat} {a1 a2 a3 s0 : Int} : zS 205 50 [zR a0, zI a1, zI a2, zI a3] [zI s0] sh pp mm Q ↔ zS 205 52 [zR a0, zI a1, zI a2, zI a3] [zI 12, zI s0] sh pp mm Q := s_go cM_wish_50 cM_wish_52 rfl rfl
theorem rM_wish_52 {a0 : Nat} {a1 a2 a3 s0 s1 : Int} : zS 205 52 [zR a0, zI a1, zI a2, zI a3] [zI s0, zI s1] sh pp mm Q ↔ (s1 = s0 → zS 205 55 [zR a0, zU, zU, zU] [] sh pp mm Q) ∧ (¬ s1 = s0 → zS 205 60 [zR a0, zI a1, zI a2, zI a3] [] sh pp mm Q) := s_ifn cM_wish_52 cM_wish_55 cM_wish_60 rfl rfl rfl
theorem rM_wish_55 {a0 : Nat} {u1 u2 u3 : zV} : zS 205 55 [zR a0, u1, u2, u3] [] sh pp mm Q ↔ zS 205 56 [zU, zU, zU, zU] [zR a0] sh pp mm Q := s_go cM_wish_55 cM_wish_56 rfl rfl
theorem rM_wish_56 {s0 : Nat} {u0 u1 u2 u3 : zV} (hk : zKd sh s0 = 12) : zS 205 56 [u0, u1, u2, u3] [zR s0] sh pp mm Q ↔ zS 154 0 [zR s0] [] sh pp mm (fun v sh pp mm => zS 205 59 [zU, zU, zU, zU] (zPush v []) sh pp mm Q) := s_call cM_wish_56 cM_wish_59 ((if_pos hk).trans rfl) rfl
theorem rM_wish_59 {s0 : Int} {u0 u1 u2 u3 : zV} : zS 205 59 [u0, u1, u2, u3] [zI s0] sh pp mm Q ↔ Q (zI s0) sh pp mm := s_ret cM_wish_59 rfl
theorem rM_wish_60 {a0 : Nat} {a1 a2 a3 : Int} : zS 205 60 [zR a0, zI a1, zI a2, zI a3] [] sh pp mm Q ↔ zS 205 61 [zR a0, zI a1, zI a2, zI a3] [zR a0] sh pp mm Q := s_go cM_wish_60 cM_wish_61 rfl rfl
theorem rM_wish_61 {a0 s0 : Nat} {a1 a2 a3 : Int} (hk : zKd sh s0 = 12) : zS 205 61 [zR a0, zI a1, zI a2, zI a3] [zR s0] sh pp mm Q ↔ zS 205 64 [zR a0, zI a1, zI a2, zI a3] [zR (pp s0 0)] sh pp mm Q := s_go cM_wish_61 cM_wish_64 (if_pos hk) rfl
theorem rM_wish_64 {a0 s0 : Nat} {a1 a2 a3 : Int} : zS 205 64 [zR a0, zI a1, zI a2, zI a3] [zR s0] sh pp mm Q ↔ zS 205 67 [zR a0, zI a1, zI a2, zI a3] [zI 493, zR s0] sh pp mm Q := s_go cM_wish_64 cM_wish_67 rfl rfl
theorem rM_wish_67 {a0 s1 : Nat} {a1 a2 a3 s0 : Int} : zS 205 67 [zR a0, zI a1, zI a2, zI a3] [zI s0, zR s1] sh pp mm Q ↔ zS 205 68 [zR a0, zI a1, zI a2, zI a3] [zI 2, zI s0, zR s1] sh pp mm Q := s_go cM_wish_67 cM_wish_68 rfl rfl
theorem rM_wish_68 {a0 s2 : Nat} {a1 a2 a3 s0 s1 : Int} : zS 205 68 [zR a0, zI a1, zI a2, zI a3] [zI s0, zI s1, zR s2] sh pp mm Q ↔ zS 205 69 [zR a0, zI a1, zI a2, zI a3] [zI a3, zI s0, zI s1, zR s2] sh pp mm Q := s_go cM_wish_68 cM_wish_69 rfl rfl
theorem rM_wish_69 {a0 s3 : Nat} {a1 a2 a3 s0 s1 s2 : Int} : zS 205 69 [zR a0, zI a1, zI a2, zI a3] [zI s0, zI s1, zI s2, zR s3] sh pp mm Q ↔ zS 205 70 [zR a0, zI a1, zI a2, zI a3] [zI (zw32 (s1 * s0)), zI s2, zR s3] sh pp mm Q := s_go cM_wish_69 cM_wish_70 rfl rfl
theorem rM_wish_70 {a0 s2 : Nat} {a1 a2 a3 s0 s1 : Int} : zS 205 70 [zR a0, zI a1, zI a2, zI a3] [zI s0, zI s1, zR s2] sh pp mm Q ↔ zS 205 71 [zR a0, zI a1, zI a2, zI a3] [zI (zw32 (s1 + s0)), zR s2] sh pp mm Q := s_go cM_wish_70 cM_wish_71 rfl rfl
theorem rM_wish_71 {a0 s1 : Nat} {a1 a2 a3 s0 : Int} : zS 205 71 [zR a0, zI a1, zI a2, zI a3] [zI s0, zR s1] sh pp mm Q ↔ zS 205 72 [zR a0, zU, zI a2, zI a3] [zI a1, zI s0, zR s1] sh pp mm Q := s_go cM_wish_71 cM_wish_72 rfl rfl
theorem rM_wish_72 {a0 s2 : Nat} {a2 a3 s0 s1 : Int} {u1 : zV} (hk : zKd sh s2 = 20) (h0 : 0 ≤ s1) (h1 : s1 < zLn sh s2) : zS 205 72 [zR a0, u1, zI a2, zI a3] [zI s0, zI s1, zR s2] sh pp mm Q ↔ zS 205 73 [zR a0, zU, zI a2, zI a3] [] sh pp (zupd mm s2 s1 s0) Q := s_go cM_wish_72 cM_wish_73 (if_pos ⟨hk, h0, h1, fun h => absurd h (by decide)⟩) rfl
theorem rM_wish_73 {a0 : Nat} {a2 a3 : Int} {u1 : zV} : zS 205 73 [zR a0, u1, zI a2, zI a3] [] sh pp mm Q ↔ zS 205 74 [zR a0, zU, zI a2, zI a3] [zR a0] sh pp mm Q := s_go cM_wish_73 cM_wish_74 rfl rfl
theorem rM_wish_74 {a0 s0 : Nat} {a2 a3 : Int} {u1 : zV} (hk : zKd sh s0 = 12) : zS 205 74 [zR a0, u1, zI a2, zI a3] [zR s0] sh pp mm Q ↔ zS 205 77 [zR a0, zU, zI a2, zI a3] [zR (pp s0 0)] sh pp mm Q := s_go cM_wish_74 cM_wish_77 (if_pos hk) rfl
theorem rM_wish_77 {a0 s0 : Nat} {a2 a3 : Int} {u1 : zV} : zS 205 77 [zR a0, u1, zI a2, zI a3] [zR s0] sh pp mm Q ↔ zS 205 80 [zR a0, zU, zI a2, zI a3] [zI 493, zR s0] sh pp mm Q := s_go cM_wish_77 cM_wish_80 rfl rfl
theorem rM_wish_80 {a0 s1 : Nat} {a2 a3 s0 : Int} {u1 : zV} : zS 205 80 [zR a0, u1, zI a2, zI a3] [zI s0, zR s1] sh pp mm Q ↔ zS 205 81 [zR a0, zU, zI a2, zI a3] [zI 2, zI s0, zR s1] sh pp mm Q := s_go cM_wish_80 cM_wish_81 rfl rfl
theorem rM_wish_81 {a0 s2 : Nat} {a2 a3 s0 s1 : Int} {u1 : zV} : zS 205 81 [zR a0, u1, zI a2, zI a3] [zI s0, zI s1, zR s2] sh pp mm Q ↔ zS 205 82 [zR a0, zU, zI a2, zI a3] [zI a3, zI s0, zI s1, zR s2] sh pp mm Q := s_go cM_wish_81 cM_wish_82 rfl rfl
theorem rM_wish_82 {a0 s3 : Nat} {a2 a3 s0 s1 s2 : Int} {u1 : zV} : zS 205 82 [zR a0, u1, zI a2, zI a3] [zI s0, zI s1, zI s2, zR s3] sh pp mm Q ↔ zS 205 83 [zR a0, zU, zI a2, zI a3] [zI (zw32 (s1 * s0)), zI s2, zR s3] sh pp mm Q := s_go cM_wish_82 cM_wish_83 rfl rfl
theorem rM_wish_83 {a0 s2 : Nat} {a2 a3 s0 s1 : Int} {u1 : zV} : zS 205 83 [zR a0, u1, zI a2, zI a3] [zI s0, zI s1, zR s2] sh pp mm Q ↔ zS 205 84 [zR a0, zU, zI a2, zI a3] [zI (zw32 (s1 + s0)), zR s2] sh pp mm Q := s_go cM_wish_83 cM_wish_84 rfl rfl
theorem rM_wish_84 {a0 s1 : Nat} {a2 a3 s0 : Int} {u1 : zV} : zS 205 84 [zR a0, u1, zI a2, zI a3] [zI s0, zR s1] sh pp mm Q ↔ zS 205 85 [zR a0, zU, zI a2, zI a3] [zI 1, zI s0, zR s1] sh pp mm Q := s_go cM_wish_84 cM_wish_85 rfl rfl
theorem rM_wish_85 {a0 s2 : Nat} {a2 a3 s0 s1 : Int} {u1 : zV} : zS 205 85 [zR a0, u1, zI a2, zI a3] [zI s0, zI s1, zR s2] sh pp mm Q ↔ zS 205 86 [zR a0, zU, zI a2, zI a3] [zI (zw32 (s1 + s0)), zR s2] sh pp mm Q := s_go cM_wish_85 cM_wish_86 rfl rfl
theorem rM_wish_86 {a0 s1 : Nat} {a2 a3 s0 : Int} {u1 : zV} : zS 205 86 [zR a0, u1, zI a2, zI a3] [zI s0, zR s1] sh pp mm Q ↔ zS 205 87 [zR a0, zU, zU, zI a3] [zI a2, zI s0, zR s1] sh pp mm Q := s_go cM_wish_86 cM_wish_87 rfl rfl
theorem rM_wish_87 {a0 s2 : Nat} {a3 s0 s1 : Int} {u1 u2 : zV} (hk : zKd sh s2 = 20) (h0 : 0 ≤ s1) (h1 : s1 < zLn sh s2) : zS 205 87 [zR a0, u1, u2, zI a3] [zI s0, zI s1, zR s2] sh pp mm Q ↔ zS 205 88 [zR a0, zU, zU, zI a3] [] sh pp (zupd mm s2 s1 s0) Q := s_go cM_wish_87 cM_wish_88 (if_pos ⟨hk, h0, h1, fun h => absurd h (by decide)⟩) rfl
theorem rM_wish_88 {a0 : Nat} {a3 : Int} {u1 u2 : zV} : zS 205 88 [zR a0, u1, u2, zI a3] [] sh pp mm Q ↔ zS 205 89 [zU, zU, zU, zI a3] [zR a0] sh pp mm Q := s_go cM_wish_88 cM_wish_89 rfl rfl
theorem rM_wish_89 {s0 : Nat} {a3 : Int} {u0 u1 u2 : zV} (hk : zKd sh s0 = 12) : zS 205 89 [u0, u1, u2, zI a3] [zR s0] sh pp mm Q ↔ zS 205 92 [zU, zU, zU, zI a3] [zR (pp s0 0)] sh pp mm Q := s_go cM_wish_89 cM_wish_92 (if_pos hk) rfl
theorem rM_wish_92 {s0 : Nat} {a3 : Int} {u0 u1 u2 : zV} : zS 205 92 [u0, u1, u2, zI a3] [zR s0] sh pp mm Q ↔ zS 205 95 [zU, zU, zU, zI a3] [zI 981, zR s0] sh pp mm Q := s_go cM_wish_92 cM_wish_95 rfl rfl
theorem rM_wish_95 {s1 : Nat} {a3 s0 : Int} {u0 u1 u2 : zV} : zS 205 95 [u0, u1, u2, zI a3] [zI s0, zR s1] sh pp mm Q ↔ zS 205 96 [zU, zU, zU, zI a3] [zI s0, zR s1, zI s0, zR s1] sh pp mm Q := s_go cM_wish_95 cM_wish_96 rfl rfl
theorem rM_wish_96 {s1 s3 : Nat} {a3 s0 s2 : Int} {u0 u1 u2 : zV} (hk : zKd sh s1 = 20 ∨ zKd sh s1 = 30) (h0 : 0 ≤ s0) (h1 : s0 < zLn sh s1) : zS 205 96 [u0, u1, u2, zI a3] [zI s0, zR s1, zI s2, zR s3] sh pp mm Q ↔ zS 205 97 [zU, zU, zU, zI a3] [zI (mm s1 s0), zI s2, zR s3] sh pp mm Q := s_go cM_wish_96 cM_wish_97 (if_pos ⟨hk, h0, h1⟩) rfl
theorem rM_wish_97 {s2 : Nat} {a3 s0 s1 : Int} {u0 u1 u2 : zV} : zS 205 97 [u0, u1, u2, zI a3] [zI s0, zI s1, zR s2] sh pp mm Q ↔ zS 205 98 [zU, zU, zU, zI a3] [zI 1, zI s0, zI s1, zR s2] sh pp mm Q := s_go cM_wish_97 cM_wish_98 rfl rfl
theorem rM_wish_98 {s3 : Nat} {a3 s0 s1 s2 : Int} {u0 u1 u2 : zV} : zS 205 98 [u0, u1, u2, zI a3] [zI s0, zI s1, zI s2, zR s3] sh pp mm Q ↔ zS 205 99 [zU, zU, zU, zI a3] [zI (zw32 (s1 + s0)), zI s2, zR s3] sh pp mm Q := s_go cM_wish_98 cM_wish_99 rfl rfl
theorem rM_wish_99 {s2 : Nat} {a3 s0 s1 : Int} {u0 u1 u2 : zV} (hk : zKd sh s2 = 20) (h0 : 0 ≤ s1) (h1 : s1 < zLn sh s2) : zS 205 99 [u0, u1, u2, zI a3] [zI s0, zI s1, zR s2] sh pp mm Q ↔ zS 205 100 [zU, zU, zU, zI a3] [] sh pp (zupd mm s2 s1 s0) Q := s_go cM_wish_99 cM_wish_100 (if_pos ⟨hk, h0, h1, fun h => absurd h (by decide)⟩) rfl
theorem rM_wish_100 {a3 : Int} {u0 u1 u2 : zV} : zS 205 100 [u0, u1, u2, zI a3] [] sh pp mm Q ↔ zS 205 101 [zU, zU, zU, zU] [zI a3] sh pp mm Q := s_go cM_wish_100 cM_wish_101 rfl rfl
theorem rM_wish_101 {s0 : Int} {u0 u1 u2 u3 : zV} : zS 205 101 [u0, u1, u2, u3] [zI s0] sh pp mm Q ↔ Q (zI s0) sh pp mm := s_ret cM_wish_101 rfl
theorem cAM_forget : ∀ q ∈ zT206, zCode 206 q.1 = some q.2 := zAll (mid := 206) rfl (by decide +kernel)
theorem cAM_forget_0 : ∀ q ∈ zT206_0, zCode 206 q.1 = some q.2 := fun q h => cAM_forget q (h)
theorem cM_forget_0 : zCode 206 0 = some (.aload_n 0, 1, 0, 0, 0, 0, 1) := cAM_forget_0 _ (List.mem_of_getElem? (i := 0) rfl)
theorem cM_forget_1 : zCode 206 1 = some (.iconst 0, 2, 0, 0, 0, 0, 1) := cAM_forget_0 _ (List.mem_of_getElem? (i := 1) rfl)
theorem cM_forget_2 : zCode 206 2 = some (.invokevirtual 288, 5, 169, 1, 2, 12, 1) := cAM_forget_0 _ (List.mem_of_getElem? (i := 2) rfl)
theorem cM_forget_5 : zCode 206 5 = some (.istore_n 1, 6, 0, 0, 0, 0, 1) := cAM_forget_0 _ (List.mem_of_getElem? (i := 3) rfl)
theorem cM_forget_6 : zCode 206 6 = some (.aload_n 0, 7, 0, 0, 0, 0, 3) := cAM_forget_0 _ (List.mem_of_getElem? (i := 4) rfl)
theorem cM_forget_7 : zCode 206 7 = some (.getfield 7, 10, 12, 0, 2, 1209, 2) := cAM_forget_0 _ (List.mem_of_getElem? (i := 5) rfl)
theorem cM_forget_10 : zCode 206 10 = some (.sipush 981, 13, 0, 0, 0, 0, 2) := cAM_forget_0 _ (List.mem_of_getElem? (i := 6) rfl)
theorem cM_forget_13 : zCode 206 13 = some (.iconst 0, 14, 0, 0, 0, 0, 2) := cAM_forget_0 _ (List.mem_of_getElem? (i := 7) rfl)
theorem cM_forget_14 : zCode 206 14 = some (.iastore, 15, 0, 0, 0, 0, 2) := cAM_forget_0 _ (List.mem_of_getElem? (i := 8) rfl)
theorem cM_forget_15 : zCode 206 15 = some (.iload_n 1, 16, 0, 0, 0, 0, 2) := cAM_forget_0 _ (List.mem_of_getElem? (i := 9) rfl)
theorem cM_forget_16 : zCode 206 16 = some (.ireturn, 17, 0, 0, 0, 0, 0) := cAM_forget_0 _ (List.mem_of_getElem? (i := 10) rfl)
theorem rM_forget_0 {a0 : Nat} {u1 : zV} : zS 206 0 [zR a0, u1] [] sh pp mm Q ↔ zS 206 1 [zR a0, zU] [zR a0] sh pp mm Q := s_go cM_forget_0 cM_forget_1 rfl rfl
theorem rM_forget_1 {a0 s0 : Nat} {u1 : zV} : zS 206 1 [zR a0, u1] [zR s0] sh pp mm Q ↔ zS 206 2 [zR a0, zU] [zI 0, zR s0] sh pp mm Q := s_go cM_forget_1 cM_forget_2 rfl rfl
theorem rM_forget_2 {a0 s1 : Nat} {s0 : Int} {u1 : zV} (hk : zKd sh s1 = 12) : zS 206 2 [zR a0, u1] [zI s0, zR s1] sh pp mm Q ↔ zS 169 0 [zR s1, zI s0] [] sh pp mm (fun v sh pp mm => zS 206 5 [zR a0, zU] (zPush v []) sh pp mm Q) := s_call cM_forget_2 cM_forget_5 ((if_pos hk).trans rfl) rfl
theorem rM_forget_5 {a0 : Nat} {s0 : Int} {u1 : zV} : zS 206 5 [zR a0, u1] [zI s0] sh pp mm Q ↔ zS 206 6 [zR a0, zI s0] [] sh pp mm Q := s_go cM_forget_5 cM_forget_6 rfl rfl
theorem rM_forget_6 {a0 : Nat} {a1 : Int} : zS 206 6 [zR a0, zI a1] [] sh pp mm Q ↔ zS 206 7 [zU, zI a1] [zR a0] sh pp mm Q := s_go cM_forget_6 cM_forget_7 rfl rfl
theorem rM_forget_7 {s0 : Nat} {a1 : Int} {u0 : zV} (hk : zKd sh s0 = 12) : zS 206 7 [u0, zI a1] [zR s0] sh pp mm Q ↔ zS 206 10 [zU, zI a1] [zR (pp s0 0)] sh pp mm Q := s_go cM_forget_7 cM_forget_10 (if_pos hk) rfl
theorem rM_forget_10 {s0 : Nat} {a1 : Int} {u0 : zV} : zS 206 10 [u0, zI a1] [zR s0] sh pp mm Q ↔ zS 206 13 [zU, zI a1] [zI 981, zR s0] sh pp mm Q := s_go cM_forget_10 cM_forget_13 rfl rfl
theorem rM_forget_13 {s1 : Nat} {a1 s0 : Int} {u0 : zV} : zS 206 13 [u0, zI a1] [zI s0, zR s1] sh pp mm Q ↔ zS 206 14 [zU, zI a1] [zI 0, zI s0, zR s1] sh pp mm Q := s_go cM_forget_13 cM_forget_14 rfl rfl
theorem rM_forget_14 {s2 : Nat} {a1 s0 s1 : Int} {u0 : zV} (hk : zKd sh s2 = 20) (h0 : 0 ≤ s1) (h1 : s1 < zLn sh s2) : zS 206 14 [u0, zI a1] [zI s0, zI s1, zR s2] sh pp mm Q ↔ zS 206 15 [zU, zI a1] [] sh pp (zupd mm s2 s1 s0) Q := s_go cM_forget_14 cM_forget_15 (if_pos ⟨hk, h0, h1, fun h => absurd h (by decide)⟩) rfl
theorem rM_forget_15 {a1 : Int} {u0 : zV} : zS 206 15 [u0, zI a1] [] sh pp mm Q ↔ zS 206 16 [zU, zU] [zI a1] sh pp mm Q := s_go cM_forget_15 cM_forget_16 rfl rfl
theorem rM_forget_16 {s0 : Int} {u0 u1 : zV} : zS 206 16 [u0, u1] [zI s0] sh pp mm Q ↔ Q (zI s0) sh pp mm := s_ret cM_forget_16 rfl
theorem cAM_right : ∀ q ∈ zT207, zCode 207 q.1 = some q.2 := zAll (mid := 207) rfl (by decide +kernel)
theorem cAM_right_0 : ∀ q ∈ zT207_0, zCode 207 q.1 = some q.2 := fun q h => cAM_right q (List.mem_append_left _ h)
theorem cAM_right_1 : ∀ q ∈ zT207_1, zCode 207 q.1 = some q.2 := fun q h => cAM_right q (List.mem_append_right _ (List.mem_append_left _ h))
theorem cAM_right_2 : ∀ q ∈ zT207_2, zCode 207 q.1 = some q.2 := fun q h => cAM_right q (List.mem_append_right _ (List.mem_append_right _ (List.mem_append_left _ h)))
theorem cAM_right_3 : ∀ q ∈ zT207_3, zCode 207 q.1 = some q.2 := fun q h => cAM_right q (List.mem_append_right _ (List.mem_append_right _ (List.mem_append_right _ (List.mem_append_left _ h))))
theorem cAM_right_4 : ∀ q ∈ zT207_4, zCode 207 q.1 = some q.2 := fun q h => cAM_right q (List.mem_append_right _ (List.mem_append_right _ (List.mem_append_right _ (List.mem_append_right _ h))))
theorem cM_right_0 : zCode 207 0 = some (.iload_n 1, 1, 0, 0, 0, 0, 7) := cAM_right_0 _ (List.mem_of_getElem? (i := 0) rfl)
theorem cM_right_1 : zCode 207 1 = some (.i2l, 2, 0, 0, 0, 0, 7) := cAM_right_0 _ (List.mem_of_getElem? (i := 1) rfl)
theorem cM_right_2 : zCode 207 2 = some (.lconst 0, 3, 0, 0, 0, 0, 7) := cAM_right_0 _ (List.mem_of_getElem? (i := 2) rfl)
theorem cM_right_3 : zCode 207 3 = some (.aload_n 0, 4, 0, 0, 0, 0, 7) := cAM_right_0 _ (List.mem_of_getElem? (i := 3) rfl)
theorem cM_right_4 : zCode 207 4 = some (.iconst 0, 5, 0, 0, 0, 0, 7) := cAM_right_0 _ (List.mem_of_getElem? (i := 4) rfl)
theorem cM_right_5 : zCode 207 5 = some (.invokevirtual 288, 8, 169, 1, 2, 12, 7) := cAM_right_0 _ (List.mem_of_getElem? (i := 5) rfl)
theorem cM_right_8 : zCode 207 8 = some (.iconst 1, 9, 0, 0, 0, 0, 7) := cAM_right_0 _ (List.mem_of_getElem? (i := 6) rfl)
theorem cM_right_9 : zCode 207 9 = some (.isub, 10, 0, 0, 0, 0, 7) := cAM_right_0 _ (List.mem_of_getElem? (i := 7) rfl)
theorem cM_right_10 : zCode 207 10 = some (.i2l, 11, 0, 0, 0, 0, 7) := cAM_right_0 _ (List.mem_of_getElem? (i := 8) rfl)
theorem cM_right_11 : zCode 207 11 = some (.invokestatic 121, 14, 151, 3, 6, 12, 7) := cAM_right_0 _ (List.mem_of_getElem? (i := 9) rfl)
theorem cM_right_14 : zCode 207 14 = some (.ifCond .eq 13, 17, 27, 0, 0, 0, 7) := cAM_right_0 _ (List.mem_of_getElem? (i := 10) rfl)
theorem cM_right_17 : zCode 207 17 = some (.iload_n 2, 18, 0, 0, 0, 0, 7) := cAM_right_0 _ (List.mem_of_getElem? (i := 11) rfl)
theorem cM_right_18 : zCode 207 18 = some (.i2l, 19, 0, 0, 0, 0, 7) := cAM_right_0 _ (List.mem_of_getElem? (i := 12) rfl)
theorem cM_right_19 : zCode 207 19 = some (.lconst 0, 20, 0, 0, 0, 0, 7) := cAM_right_0 _ (List.mem_of_getElem? (i := 13) rfl)
theorem cM_right_20 : zCode 207 20 = some (.lconst 1, 21, 0, 0, 0, 0, 7) := cAM_right_0 _ (List.mem_of_getElem? (i := 14) rfl)
theorem cM_right_21 : zCode 207 21 = some (.invokestatic 121, 24, 151, 3, 6, 12, 7) := cAM_right_0 _ (List.mem_of_getElem? (i := 15) rfl)
theorem cM_right_24 : zCode 207 24 = some (.ifCond .ne 10, 27, 34, 0, 0, 0, 7) := cAM_right_1 _ (List.mem_of_getElem? (i := 0) rfl)
theorem cM_right_27 : zCode 207 27 = some (.aload_n 0, 28, 0, 0, 0, 0, 1) := cAM_right_1 _ (List.mem_of_getElem? (i := 1) rfl)
theorem cM_right_28 : zCode 207 28 = some (.bipush (-2), 30, 0, 0, 0, 0, 0) := cAM_right_1 _ (List.mem_of_getElem? (i := 2) rfl)
theorem cM_right_30 : zCode 207 30 = some (.invokevirtual 132, 33, 152, 1, 2, 12, 0) := cAM_right_1 _ (List.mem_of_getElem? (i := 3) rfl)
theorem cM_right_33 : zCode 207 33 = some (.ireturn, 34, 0, 0, 0, 0, 0) := cAM_right_1 _ (List.mem_of_getElem? (i := 4) rfl)
theorem cM_right_34 : zCode 207 34 = some (.iconst 0, 35, 0, 0, 0, 0, 7) := cAM_right_1 _ (List.mem_of_getElem? (i := 5) rfl)
theorem cM_right_35 : zCode 207 35 = some (.istore_n 3, 36, 0, 0, 0, 0, 7) := cAM_right_1 _ (List.mem_of_getElem? (i := 6) rfl)
theorem cM_right_36 : zCode 207 36 = some (.iconst 0, 37, 0, 0, 0, 0, 15) := cAM_right_1 _ (List.mem_of_getElem? (i := 7) rfl)
theorem cM_right_37 : zCode 207 37 = some (.istore 4, 39, 0, 0, 0, 0, 15) := cAM_right_1 _ (List.mem_of_getElem? (i := 8) rfl)
theorem cM_right_39 : zCode 207 39 = some (.iconst 0, 40, 0, 0, 0, 0, 31) := cAM_right_1 _ (List.mem_of_getElem? (i := 9) rfl)
theorem cM_right_40 : zCode 207 40 = some (.istore 5, 42, 0, 0, 0, 0, 31) := cAM_right_1 _ (List.mem_of_getElem? (i := 10) rfl)
theorem cM_right_42 : zCode 207 42 = some (.iload 5, 44, 0, 0, 0, 0, 63) := cAM_right_1 _ (List.mem_of_getElem? (i := 11) rfl)
theorem cM_right_44 : zCode 207 44 = some (.iload_n 1, 45, 0, 0, 0, 0, 63) := cAM_right_1 _ (List.mem_of_getElem? (i := 12) rfl)
theorem cM_right_45 : zCode 207 45 = some (.if_icmp .gt 65, 48, 110, 0, 0, 0, 63) := cAM_right_1 _ (List.mem_of_getElem? (i := 13) rfl)
theorem cM_right_48 : zCode 207 48 = some (.aload_n 0, 49, 0, 0, 0, 0, 47) := cAM_right_1 _ (List.mem_of_getElem? (i := 14) rfl)
theorem cM_right_49 : zCode 207 49 = some (.getfield 7, 52, 12, 0, 2, 1209, 47) := cAM_right_1 _ (List.mem_of_getElem? (i := 15) rfl)
theorem cM_right_52 : zCode 207 52 = some (.sipush 493, 55, 0, 0, 0, 0, 47) := cAM_right_2 _ (List.mem_of_getElem? (i := 0) rfl)
theorem cM_right_55 : zCode 207 55 = some (.iconst 2, 56, 0, 0, 0, 0, 47) := cAM_right_2 _ (List.mem_of_getElem? (i := 1) rfl)
theorem cM_right_56 : zCode 207 56 = some (.iload 5, 58, 0, 0, 0, 0, 47) := cAM_right_2 _ (List.mem_of_getElem? (i := 2) rfl)
theorem cM_right_58 : zCode 207 58 = some (.imul, 59, 0, 0, 0, 0, 47) := cAM_right_2 _ (List.mem_of_getElem? (i := 3) rfl)
theorem cM_right_59 : zCode 207 59 = some (.iadd, 60, 0, 0, 0, 0, 47) := cAM_right_2 _ (List.mem_of_getElem? (i := 4) rfl)
theorem cM_right_60 : zCode 207 60 = some (.iload_n 2, 61, 0, 0, 0, 0, 47) := cAM_right_2 _ (List.mem_of_getElem? (i := 5) rfl)
theorem cM_right_61 : zCode 207 61 = some (.iadd, 62, 0, 0, 0, 0, 47) := cAM_right_2 _ (List.mem_of_getElem? (i := 6) rfl)
theorem cM_right_62 : zCode 207 62 = some (.iaload, 63, 0, 0, 0, 0, 47) := cAM_right_2 _ (List.mem_of_getElem? (i := 7) rfl)
theorem cM_right_63 : zCode 207 63 = some (.istore 6, 65, 0, 0, 0, 0, 47) := cAM_right_2 _ (List.mem_of_getElem? (i := 8) rfl)
theorem cM_right_65 : zCode 207 65 = some (.iload 6, 67, 0, 0, 0, 0, 111) := cAM_right_2 _ (List.mem_of_getElem? (i := 9) rfl)
theorem cM_right_67 : zCode 207 67 = some (.ifCond .le 13, 70, 80, 0, 0, 0, 111) := cAM_right_2 _ (List.mem_of_getElem? (i := 10) rfl)
theorem cM_right_70 : zCode 207 70 = some (.aload_n 0, 71, 0, 0, 0, 0, 47) := cAM_right_2 _ (List.mem_of_getElem? (i := 11) rfl)
theorem cM_right_71 : zCode 207 71 = some (.iconst 0, 72, 0, 0, 0, 0, 47) := cAM_right_2 _ (List.mem_of_getElem? (i := 12) rfl)
theorem cM_right_72 : zCode 207 72 = some (.iload_n 2, 73, 0, 0, 0, 0, 47) := cAM_right_2 _ (List.mem_of_getElem? (i := 13) rfl)
theorem cM_right_73 : zCode 207 73 = some (.iadd, 74, 0, 0, 0, 0, 47) := cAM_right_2 _ (List.mem_of_getElem? (i := 14) rfl)
theorem cM_right_74 : zCode 207 74 = some (.invokevirtual 135, 77, 168, 1, 2, 12, 47) := cAM_right_2 _ (List.mem_of_getElem? (i := 15) rfl)
theorem cM_right_77 : zCode 207 77 = some (.goto 13, 80, 90, 0, 0, 0, 47) := cAM_right_3 _ (List.mem_of_getElem? (i := 0) rfl)
theorem cM_right_80 : zCode 207 80 = some (.iload 6, 82, 0, 0, 0, 0, 111) := cAM_right_3 _ (List.mem_of_getElem? (i := 1) rfl)
theorem cM_right_82 : zCode 207 82 = some (.ifCond .ge 7, 85, 89, 0, 0, 0, 47) := cAM_right_3 _ (List.mem_of_getElem? (i := 2) rfl)
theorem cM_right_85 : zCode 207 85 = some (.iconst 0, 86, 0, 0, 0, 0, 47) := cAM_right_3 _ (List.mem_of_getElem? (i := 3) rfl)
theorem cM_right_86 : zCode 207 86 = some (.goto 4, 89, 90, 0, 0, 0, 47) := cAM_right_3 _ (List.mem_of_getElem? (i := 4) rfl)
theorem cM_right_89 : zCode 207 89 = some (.iload_n 3, 90, 0, 0, 0, 0, 47) := cAM_right_3 _ (List.mem_of_getElem? (i := 5) rfl)
theorem cM_right_90 : zCode 207 90 = some (.istore 7, 92, 0, 0, 0, 0, 47) := cAM_right_3 _ (List.mem_of_getElem? (i := 6) rfl)
theorem cM_right_92 : zCode 207 92 = some (.iload 7, 94, 0, 0, 0, 0, 175) := cAM_right_3 _ (List.mem_of_getElem? (i := 7) rfl)
theorem cM_right_94 : zCode 207 94 = some (.iload_n 3, 95, 0, 0, 0, 0, 175) := cAM_right_3 _ (List.mem_of_getElem? (i := 8) rfl)
theorem cM_right_95 : zCode 207 95 = some (.isub, 96, 0, 0, 0, 0, 167) := cAM_right_3 _ (List.mem_of_getElem? (i := 9) rfl)
theorem cM_right_96 : zCode 207 96 = some (.invokestatic 229, 99, 190, 1, 1, 12, 167) := cAM_right_3 _ (List.mem_of_getElem? (i := 10) rfl)
theorem cM_right_99 : zCode 207 99 = some (.istore 4, 101, 0, 0, 0, 0, 167) := cAM_right_3 _ (List.mem_of_getElem? (i := 11) rfl)
theorem cM_right_101 : zCode 207 101 = some (.iload 7, 103, 0, 0, 0, 0, 183) := cAM_right_3 _ (List.mem_of_getElem? (i := 12) rfl)
theorem cM_right_103 : zCode 207 103 = some (.istore_n 3, 104, 0, 0, 0, 0, 55) := cAM_right_3 _ (List.mem_of_getElem? (i := 13) rfl)
theorem cM_right_104 : zCode 207 104 = some (.iinc 5 1, 107, 0, 0, 0, 0, 63) := cAM_right_3 _ (List.mem_of_getElem? (i := 14) rfl)
theorem cM_right_107 : zCode 207 107 = some (.goto (-65), 110, 42, 0, 0, 0, 63) := cAM_right_3 _ (List.mem_of_getElem? (i := 15) rfl)
theorem cM_right_110 : zCode 207 110 = some (.iload 4, 112, 0, 0, 0, 0, 16) := cAM_right_4 _ (List.mem_of_getElem? (i := 0) rfl)
theorem cM_right_112 : zCode 207 112 = some (.ireturn, 113, 0, 0, 0, 0, 0) := cAM_right_4 _ (List.mem_of_getElem? (i := 1) rfl)
theorem rM_right_0 {a0 : Nat} {a1 a2 : Int} {u3 u4 u5 u6 u7 : zV} : zS 207 0 [zR a0, zI a1, zI a2, u3, u4, u5, u6, u7] [] sh pp mm Q ↔ zS 207 1 [zR a0, zI a1, zI a2, zU, zU, zU, zU, zU] [zI a1] sh pp mm Q := s_go cM_right_0 cM_right_1 rfl rfl
theorem rM_right_1 {a0 : Nat} {a1 a2 s0 : Int} {u3 u4 u5 u6 u7 : zV} : zS 207 1 [zR a0, zI a1, zI a2, u3, u4, u5, u6, u7] [zI s0] sh pp mm Q ↔ zS 207 2 [zR a0, zI a1, zI a2, zU, zU, zU, zU, zU] [zL s0] sh pp mm Q := s_go cM_right_1 cM_right_2 rfl rfl
theorem rM_right_2 {a0 : Nat} {a1 a2 s0 : Int} {u3 u4 u5 u6 u7 : zV} : zS 207 2 [zR a0, zI a1, zI a2, u3, u4, u5, u6, u7] [zL s0] sh pp mm Q ↔ zS 207 3 [zR a0, zI a1, zI a2, zU, zU, zU, zU, zU] [zL 0, zL s0] sh pp mm Q := s_go cM_right_2 cM_right_3 rfl rfl
theorem rM_right_3 {a0 : Nat} {a1 a2 s0 s1 : Int} {u3 u4 u5 u6 u7 : zV} : zS 207 3 [zR a0, zI a1, zI a2, u3, u4, u5, u6, u7] [zL s0, zL s1] sh pp mm Q ↔ zS 207 4 [zR a0, zI a1, zI a2, zU, zU, zU, zU, zU] [zR a0, zL s0, zL s1] sh pp mm Q := s_go cM_right_3 cM_right_4 rfl rfl
theorem rM_right_4 {a0 s0 : Nat} {a1 a2 s1 s2 : Int} {u3 u4 u5 u6 u7 : zV} : zS 207 4 [zR a0, zI a1, zI a2, u3, u4, u5, u6, u7] [zR s0, zL s1, zL s2] sh pp mm Q ↔ zS 207 5 [zR a0, zI a1, zI a2, zU, zU, zU, zU, zU] [zI 0, zR s0, zL s1, zL s2] sh pp mm Q := s_go cM_right_4 cM_right_5 rfl rfl
theorem rM_right_5 {a0 s1 : Nat} {a1 a2 s0 s2 s3 : Int} {u3 u4 u5 u6 u7 : zV} (hk : zKd sh s1 = 12) : zS 207 5 [zR a0, zI a1, zI a2, u3, u4, u5, u6, u7] [zI s0, zR s1, zL s2, zL s3] sh pp mm Q ↔ zS 169 0 [zR s1, zI s0] [] sh pp mm (fun v sh pp mm => zS 207 8 [zR a0, zI a1, zI a2, zU, zU, zU, zU, zU] (zPush v [zL s2, zL s3]) sh pp mm Q) := s_call cM_right_5 cM_right_8 ((if_pos hk).trans rfl) rfl
theorem rM_right_8 {a0 : Nat} {a1 a2 s0 s1 s2 : Int} {u3 u4 u5 u6 u7 : zV} : zS 207 8 [zR a0, zI a1, zI a2, u3, u4, u5, u6, u7] [zI s0, zL s1, zL s2] sh pp mm Q ↔ zS 207 9 [zR a0, zI a1, zI a2, zU, zU, zU, zU, zU] [zI 1, zI s0, zL s1, zL s2] sh pp mm Q := s_go cM_right_8 cM_right_9 rfl rfl
theorem rM_right_9 {a0 : Nat} {a1 a2 s0 s1 s2 s3 : Int} {u3 u4 u5 u6 u7 : zV} : zS 207 9 [zR a0, zI a1, zI a2, u3, u4, u5, u6, u7] [zI s0, zI s1, zL s2, zL s3] sh pp mm Q ↔ zS 207 10 [zR a0, zI a1, zI a2, zU, zU, zU, zU, zU] [zI (zw32 (s1 - s0)), zL s2, zL s3] sh pp mm Q := s_go cM_right_9 cM_right_10 rfl rfl
theorem rM_right_10 {a0 : Nat} {a1 a2 s0 s1 s2 : Int} {u3 u4 u5 u6 u7 : zV} : zS 207 10 [zR a0, zI a1, zI a2, u3, u4, u5, u6, u7] [zI s0, zL s1, zL s2] sh pp mm Q ↔ zS 207 11 [zR a0, zI a1, zI a2, zU, zU, zU, zU, zU] [zL s0, zL s1, zL s2] sh pp mm Q := s_go cM_right_10 cM_right_11 rfl rfl
theorem rM_right_11 {a0 : Nat} {a1 a2 s0 s1 s2 : Int} {u3 u4 u5 u6 u7 : zV} : zS 207 11 [zR a0, zI a1, zI a2, u3, u4, u5, u6, u7] [zL s0, zL s1, zL s2] sh pp mm Q ↔ zS 151 0 [zL s2, zU, zL s1, zU, zL s0, zU] [] sh pp mm (fun v sh pp mm => zS 207 14 [zR a0, zI a1, zI a2, zU, zU, zU, zU, zU] (zPush v []) sh pp mm Q) := s_call cM_right_11 cM_right_14 rfl rfl
theorem rM_right_14 {a0 : Nat} {a1 a2 s0 : Int} {u3 u4 u5 u6 u7 : zV} : zS 207 14 [zR a0, zI a1, zI a2, u3, u4, u5, u6, u7] [zI s0] sh pp mm Q ↔ (s0 = 0 → zS 207 27 [zR a0, zU, zU, zU, zU, zU, zU, zU] [] sh pp mm Q) ∧ (¬ s0 = 0 → zS 207 17 [zR a0, zI a1, zI a2, zU, zU, zU, zU, zU] [] sh pp mm Q) := s_if cM_right_14 cM_right_27 cM_right_17 rfl rfl rfl
theorem rM_right_17 {a0 : Nat} {a1 a2 : Int} {u3 u4 u5 u6 u7 : zV} : zS 207 17 [zR a0, zI a1, zI a2, u3, u4, u5, u6, u7] [] sh pp mm Q ↔ zS 207 18 [zR a0, zI a1, zI a2, zU, zU, zU, zU, zU] [zI a2] sh pp mm Q := s_go cM_right_17 cM_right_18 rfl rfl
theorem rM_right_18 {a0 : Nat} {a1 a2 s0 : Int} {u3 u4 u5 u6 u7 : zV} : zS 207 18 [zR a0, zI a1, zI a2, u3, u4, u5, u6, u7] [zI s0] sh pp mm Q ↔ zS 207 19 [zR a0, zI a1, zI a2, zU, zU, zU, zU, zU] [zL s0] sh pp mm Q := s_go cM_right_18 cM_right_19 rfl rfl
theorem rM_right_19 {a0 : Nat} {a1 a2 s0 : Int} {u3 u4 u5 u6 u7 : zV} : zS 207 19 [zR a0, zI a1, zI a2, u3, u4, u5, u6, u7] [zL s0] sh pp mm Q ↔ zS 207 20 [zR a0, zI a1, zI a2, zU, zU, zU, zU, zU] [zL 0, zL s0] sh pp mm Q := s_go cM_right_19 cM_right_20 rfl rfl
theorem rM_right_20 {a0 : Nat} {a1 a2 s0 s1 : Int} {u3 u4 u5 u6 u7 : zV} : zS 207 20 [zR a0, zI a1, zI a2, u3, u4, u5, u6, u7] [zL s0, zL s1] sh pp mm Q ↔ zS 207 21 [zR a0, zI a1, zI a2, zU, zU, zU, zU, zU] [zL 1, zL s0, zL s1] sh pp mm Q := s_go cM_right_20 cM_right_21 rfl rfl
theorem rM_right_21 {a0 : Nat} {a1 a2 s0 s1 s2 : Int} {u3 u4 u5 u6 u7 : zV} : zS 207 21 [zR a0, zI a1, zI a2, u3, u4, u5, u6, u7] [zL s0, zL s1, zL s2] sh pp mm Q ↔ zS 151 0 [zL s2, zU, zL s1, zU, zL s0, zU] [] sh pp mm (fun v sh pp mm => zS 207 24 [zR a0, zI a1, zI a2, zU, zU, zU, zU, zU] (zPush v []) sh pp mm Q) := s_call cM_right_21 cM_right_24 rfl rfl
theorem rM_right_24 {a0 : Nat} {a1 a2 s0 : Int} {u3 u4 u5 u6 u7 : zV} : zS 207 24 [zR a0, zI a1, zI a2, u3, u4, u5, u6, u7] [zI s0] sh pp mm Q ↔ (s0 = 0 → zS 207 27 [zR a0, zU, zU, zU, zU, zU, zU, zU] [] sh pp mm Q) ∧ (¬ s0 = 0 → zS 207 34 [zR a0, zI a1, zI a2, zU, zU, zU, zU, zU] [] sh pp mm Q) := s_ifn cM_right_24 cM_right_27 cM_right_34 rfl rfl rfl
theorem rM_right_27 {a0 : Nat} {u1 u2 u3 u4 u5 u6 u7 : zV} : zS 207 27 [zR a0, u1, u2, u3, u4, u5, u6, u7] [] sh pp mm Q ↔ zS 207 28 [zU, zU, zU, zU, zU, zU, zU, zU] [zR a0] sh pp mm Q := s_go cM_right_27 cM_right_28 rfl rfl
theorem rM_right_28 {s0 : Nat} {u0 u1 u2 u3 u4 u5 u6 u7 : zV} : zS 207 28 [u0, u1, u2, u3, u4, u5, u6, u7] [zR s0] sh pp mm Q ↔ zS 207 30 [zU, zU, zU, zU, zU, zU, zU, zU] [zI (-2), zR s0] sh pp mm Q := s_go cM_right_28 cM_right_30 rfl rfl
theorem rM_right_30 {s1 : Nat} {s0 : Int} {u0 u1 u2 u3 u4 u5 u6 u7 : zV} (hk : zKd sh s1 = 12) : zS 207 30 [u0, u1, u2, u3, u4, u5, u6, u7] [zI s0, zR s1] sh pp mm Q ↔ zS 152 0 [zR s1, zI s0] [] sh pp mm (fun v sh pp mm => zS 207 33 [zU, zU, zU, zU, zU, zU, zU, zU] (zPush v []) sh pp mm Q) := s_call cM_right_30 cM_right_33 ((if_pos hk).trans rfl) rfl
theorem rM_right_33 {s0 : Int} {u0 u1 u2 u3 u4 u5 u6 u7 : zV} : zS 207 33 [u0, u1, u2, u3, u4, u5, u6, u7] [zI s0] sh pp mm Q ↔ Q (zI s0) sh pp mm := s_ret cM_right_33 rfl
theorem rM_right_34 {a0 : Nat} {a1 a2 : Int} {u3 u4 u5 u6 u7 : zV} : zS 207 34 [zR a0, zI a1, zI a2, u3, u4, u5, u6, u7] [] sh pp mm Q ↔ zS 207 35 [zR a0, zI a1, zI a2, zU, zU, zU, zU, zU] [zI 0] sh pp mm Q := s_go cM_right_34 cM_right_35 rfl rfl
theorem rM_right_35 {a0 : Nat} {a1 a2 s0 : Int} {u3 u4 u5 u6 u7 : zV} : zS 207 35 [zR a0, zI a1, zI a2, u3, u4, u5, u6, u7] [zI s0] sh pp mm Q ↔ zS 207 36 [zR a0, zI a1, zI a2, zI s0, zU, zU, zU, zU] [] sh pp mm Q := s_go cM_right_35 cM_right_36 rfl rfl
theorem rM_right_36 {a0 : Nat} {a1 a2 a3 : Int} {u4 u5 u6 u7 : zV} : zS 207 36 [zR a0, zI a1, zI a2, zI a3, u4, u5, u6, u7] [] sh pp mm Q ↔ zS 207 37 [zR a0, zI a1, zI a2, zI a3, zU, zU, zU, zU] [zI 0] sh pp mm Q := s_go cM_right_36 cM_right_37 rfl rfl
theorem rM_right_37 {a0 : Nat} {a1 a2 a3 s0 : Int} {u4 u5 u6 u7 : zV} : zS 207 37 [zR a0, zI a1, zI a2, zI a3, u4, u5, u6, u7] [zI s0] sh pp mm Q ↔ zS 207 39 [zR a0, zI a1, zI a2, zI a3, zI s0, zU, zU, zU] [] sh pp mm Q := s_go cM_right_37 cM_right_39 rfl rfl
theorem rM_right_39 {a0 : Nat} {a1 a2 a3 a4 : Int} {u5 u6 u7 : zV} : zS 207 39 [zR a0, zI a1, zI a2, zI a3, zI a4, u5, u6, u7] [] sh pp mm Q ↔ zS 207 40 [zR a0, zI a1, zI a2, zI a3, zI a4, zU, zU, zU] [zI 0] sh pp mm Q := s_go cM_right_39 cM_right_40 rfl rfl
theorem rM_right_40 {a0 : Nat} {a1 a2 a3 a4 s0 : Int} {u5 u6 u7 : zV} : zS 207 40 [zR a0, zI a1, zI a2, zI a3, zI a4, u5, u6, u7] [zI s0] sh pp mm Q ↔ zS 207 42 [zR a0, zI a1, zI a2, zI a3, zI a4, zI s0, zU, zU] [] sh pp mm Q := s_go cM_right_40 cM_right_42 rfl rfl
theorem rM_right_42 {a0 : Nat} {a1 a2 a3 a4 a5 : Int} {u6 u7 : zV} : zS 207 42 [zR a0, zI a1, zI a2, zI a3, zI a4, zI a5, u6, u7] [] sh pp mm Q ↔ zS 207 44 [zR a0, zI a1, zI a2, zI a3, zI a4, zI a5, zU, zU] [zI a5] sh pp mm Q := s_go cM_right_42 cM_right_44 rfl rfl
theorem rM_right_44 {a0 : Nat} {a1 a2 a3 a4 a5 s0 : Int} {u6 u7 : zV} : zS 207 44 [zR a0, zI a1, zI a2, zI a3, zI a4, zI a5, u6, u7] [zI s0] sh pp mm Q ↔ zS 207 45 [zR a0, zI a1, zI a2, zI a3, zI a4, zI a5, zU, zU] [zI a1, zI s0] sh pp mm Q := s_go cM_right_44 cM_right_45 rfl rfl
theorem rM_right_45 {a0 : Nat} {a1 a2 a3 a4 a5 s0 s1 : Int} {u6 u7 : zV} : zS 207 45 [zR a0, zI a1, zI a2, zI a3, zI a4, zI a5, u6, u7] [zI s0, zI s1] sh pp mm Q ↔ (s0 < s1 → zS 207 110 [zU, zU, zU, zU, zI a4, zU, zU, zU] [] sh pp mm Q) ∧ (¬ s0 < s1 → zS 207 48 [zR a0, zI a1, zI a2, zI a3, zU, zI a5, zU, zU] [] sh pp mm Q) := s_if cM_right_45 cM_right_110 cM_right_48 rfl rfl rfl
theorem rM_right_48 {a0 : Nat} {a1 a2 a3 a5 : Int} {u4 u6 u7 : zV} : zS 207 48 [zR a0, zI a1, zI a2, zI a3, u4, zI a5, u6, u7] [] sh pp mm Q ↔ zS 207 49 [zR a0, zI a1, zI a2, zI a3, zU, zI a5, zU, zU] [zR a0] sh pp mm Q := s_go cM_right_48 cM_right_49 rfl rfl
theorem rM_right_49 {a0 s0 : Nat} {a1 a2 a3 a5 : Int} {u4 u6 u7 : zV} (hk : zKd sh s0 = 12) : zS 207 49 [zR a0, zI a1, zI a2, zI a3, u4, zI a5, u6, u7] [zR s0] sh pp mm Q ↔ zS 207 52 [zR a0, zI a1, zI a2, zI a3, zU, zI a5, zU, zU] [zR (pp s0 0)] sh pp mm Q := s_go cM_right_49 cM_right_52 (if_pos hk) rfl
theorem rM_right_52 {a0 s0 : Nat} {a1 a2 a3 a5 : Int} {u4 u6 u7 : zV} : zS 207 52 [zR a0, zI a1, zI a2, zI a3, u4, zI a5, u6, u7] [zR s0] sh pp mm Q ↔ zS 207 55 [zR a0, zI a1, zI a2, zI a3, zU, zI a5, zU, zU] [zI 493, zR s0] sh pp mm Q := s_go cM_right_52 cM_right_55 rfl rfl
theorem rM_right_55 {a0 s1 : Nat} {a1 a2 a3 a5 s0 : Int} {u4 u6 u7 : zV} : zS 207 55 [zR a0, zI a1, zI a2, zI a3, u4, zI a5, u6, u7] [zI s0, zR s1] sh pp mm Q ↔ zS 207 56 [zR a0, zI a1, zI a2, zI a3, zU, zI a5, zU, zU] [zI 2, zI s0, zR s1] sh pp mm Q := s_go cM_right_55 cM_right_56 rfl rfl
theorem rM_right_56 {a0 s2 : Nat} {a1 a2 a3 a5 s0 s1 : Int} {u4 u6 u7 : zV} : zS 207 56 [zR a0, zI a1, zI a2, zI a3, u4, zI a5, u6, u7] [zI s0, zI s1, zR s2] sh pp mm Q ↔ zS 207 58 [zR a0, zI a1, zI a2, zI a3, zU, zI a5, zU, zU] [zI a5, zI s0, zI s1, zR s2] sh pp mm Q := s_go cM_right_56 cM_right_58 rfl rfl
theorem rM_right_58 {a0 s3 : Nat} {a1 a2 a3 a5 s0 s1 s2 : Int} {u4 u6 u7 : zV} : zS 207 58 [zR a0, zI a1, zI a2, zI a3, u4, zI a5, u6, u7] [zI s0, zI s1, zI s2, zR s3] sh pp mm Q ↔ zS 207 59 [zR a0, zI a1, zI a2, zI a3, zU, zI a5, zU, zU] [zI (zw32 (s1 * s0)), zI s2, zR s3] sh pp mm Q := s_go cM_right_58 cM_right_59 rfl rfl
theorem rM_right_59 {a0 s2 : Nat} {a1 a2 a3 a5 s0 s1 : Int} {u4 u6 u7 : zV} : zS 207 59 [zR a0, zI a1, zI a2, zI a3, u4, zI a5, u6, u7] [zI s0, zI s1, zR s2] sh pp mm Q ↔ zS 207 60 [zR a0, zI a1, zI a2, zI a3, zU, zI a5, zU, zU] [zI (zw32 (s1 + s0)), zR s2] sh pp mm Q := s_go cM_right_59 cM_right_60 rfl rfl
theorem rM_right_60 {a0 s1 : Nat} {a1 a2 a3 a5 s0 : Int} {u4 u6 u7 : zV} : zS 207 60 [zR a0, zI a1, zI a2, zI a3, u4, zI a5, u6, u7] [zI s0, zR s1] sh pp mm Q ↔ zS 207 61 [zR a0, zI a1, zI a2, zI a3, zU, zI a5, zU, zU] [zI a2, zI s0, zR s1] sh pp mm Q := s_go cM_right_60 cM_right_61 rfl rfl
theorem rM_right_61 {a0 s2 : Nat} {a1 a2 a3 a5 s0 s1 : Int} {u4 u6 u7 : zV} : zS 207 61 [zR a0, zI a1, zI a2, zI a3, u4, zI a5, u6, u7] [zI s0, zI s1, zR s2] sh pp mm Q ↔ zS 207 62 [zR a0, zI a1, zI a2, zI a3, zU, zI a5, zU, zU] [zI (zw32 (s1 + s0)), zR s2] sh pp mm Q := s_go cM_right_61 cM_right_62 rfl rfl
theorem rM_right_62 {a0 s1 : Nat} {a1 a2 a3 a5 s0 : Int} {u4 u6 u7 : zV} (hk : zKd sh s1 = 20 ∨ zKd sh s1 = 30) (h0 : 0 ≤ s0) (h1 : s0 < zLn sh s1) : zS 207 62 [zR a0, zI a1, zI a2, zI a3, u4, zI a5, u6, u7] [zI s0, zR s1] sh pp mm Q ↔ zS 207 63 [zR a0, zI a1, zI a2, zI a3, zU, zI a5, zU, zU] [zI (mm s1 s0)] sh pp mm Q := s_go cM_right_62 cM_right_63 (if_pos ⟨hk, h0, h1⟩) rfl
theorem rM_right_63 {a0 : Nat} {a1 a2 a3 a5 s0 : Int} {u4 u6 u7 : zV} : zS 207 63 [zR a0, zI a1, zI a2, zI a3, u4, zI a5, u6, u7] [zI s0] sh pp mm Q ↔ zS 207 65 [zR a0, zI a1, zI a2, zI a3, zU, zI a5, zI s0, zU] [] sh pp mm Q := s_go cM_right_63 cM_right_65 rfl rfl
theorem rM_right_65 {a0 : Nat} {a1 a2 a3 a5 a6 : Int} {u4 u7 : zV} : zS 207 65 [zR a0, zI a1, zI a2, zI a3, u4, zI a5, zI a6, u7] [] sh pp mm Q ↔ zS 207 67 [zR a0, zI a1, zI a2, zI a3, zU, zI a5, zI a6, zU] [zI a6] sh pp mm Q := s_go cM_right_65 cM_right_67 rfl rfl
theorem rM_right_67 {a0 : Nat} {a1 a2 a3 a5 a6 s0 : Int} {u4 u7 : zV} : zS 207 67 [zR a0, zI a1, zI a2, zI a3, u4, zI a5, zI a6, u7] [zI s0] sh pp mm Q ↔ (0 < s0 → zS 207 70 [zR a0, zI a1, zI a2, zI a3, zU, zI a5, zU, zU] [] sh pp mm Q) ∧ (¬ 0 < s0 → zS 207 80 [zR a0, zI a1, zI a2, zI a3, zU, zI a5, zI a6, zU] [] sh pp mm Q) := s_ifn cM_right_67 cM_right_70 cM_right_80 rfl rfl rfl
theorem rM_right_70 {a0 : Nat} {a1 a2 a3 a5 : Int} {u4 u6 u7 : zV} : zS 207 70 [zR a0, zI a1, zI a2, zI a3, u4, zI a5, u6, u7] [] sh pp mm Q ↔ zS 207 71 [zR a0, zI a1, zI a2, zI a3, zU, zI a5, zU, zU] [zR a0] sh pp mm Q := s_go cM_right_70 cM_right_71 rfl rfl
theorem rM_right_71 {a0 s0 : Nat} {a1 a2 a3 a5 : Int} {u4 u6 u7 : zV} : zS 207 71 [zR a0, zI a1, zI a2, zI a3, u4, zI a5, u6, u7] [zR s0] sh pp mm Q ↔ zS 207 72 [zR a0, zI a1, zI a2, zI a3, zU, zI a5, zU, zU] [zI 0, zR s0] sh pp mm Q := s_go cM_right_71 cM_right_72 rfl rfl
theorem rM_right_72 {a0 s1 : Nat} {a1 a2 a3 a5 s0 : Int} {u4 u6 u7 : zV} : zS 207 72 [zR a0, zI a1, zI a2, zI a3, u4, zI a5, u6, u7] [zI s0, zR s1] sh pp mm Q ↔ zS 207 73 [zR a0, zI a1, zI a2, zI a3, zU, zI a5, zU, zU] [zI a2, zI s0, zR s1] sh pp mm Q := s_go cM_right_72 cM_right_73 rfl rfl
theorem rM_right_73 {a0 s2 : Nat} {a1 a2 a3 a5 s0 s1 : Int} {u4 u6 u7 : zV} : zS 207 73 [zR a0, zI a1, zI a2, zI a3, u4, zI a5, u6, u7] [zI s0, zI s1, zR s2] sh pp mm Q ↔ zS 207 74 [zR a0, zI a1, zI a2, zI a3, zU, zI a5, zU, zU] [zI (zw32 (s1 + s0)), zR s2] sh pp mm Q := s_go cM_right_73 cM_right_74 rfl rfl
theorem rM_right_74 {a0 s1 : Nat} {a1 a2 a3 a5 s0 : Int} {u4 u6 u7 : zV} (hk : zKd sh s1 = 12) : zS 207 74 [zR a0, zI a1, zI a2, zI a3, u4, zI a5, u6, u7] [zI s0, zR s1] sh pp mm Q ↔ zS 168 0 [zR s1, zI s0] [] sh pp mm (fun v sh pp mm => zS 207 77 [zR a0, zI a1, zI a2, zI a3, zU, zI a5, zU, zU] (zPush v []) sh pp mm Q) := s_call cM_right_74 cM_right_77 ((if_pos hk).trans rfl) rfl
theorem rM_right_77 {a0 : Nat} {a1 a2 a3 a5 s0 : Int} {u4 u6 u7 : zV} : zS 207 77 [zR a0, zI a1, zI a2, zI a3, u4, zI a5, u6, u7] [zI s0] sh pp mm Q ↔ zS 207 90 [zR a0, zI a1, zI a2, zI a3, zU, zI a5, zU, zU] [zI s0] sh pp mm Q := s_go cM_right_77 cM_right_90 rfl rfl
theorem rM_right_80 {a0 : Nat} {a1 a2 a3 a5 a6 : Int} {u4 u7 : zV} : zS 207 80 [zR a0, zI a1, zI a2, zI a3, u4, zI a5, zI a6, u7] [] sh pp mm Q ↔ zS 207 82 [zR a0, zI a1, zI a2, zI a3, zU, zI a5, zU, zU] [zI a6] sh pp mm Q := s_go cM_right_80 cM_right_82 rfl rfl
theorem rM_right_82 {a0 : Nat} {a1 a2 a3 a5 s0 : Int} {u4 u6 u7 : zV} : zS 207 82 [zR a0, zI a1, zI a2, zI a3, u4, zI a5, u6, u7] [zI s0] sh pp mm Q ↔ (s0 < 0 → zS 207 85 [zR a0, zI a1, zI a2, zI a3, zU, zI a5, zU, zU] [] sh pp mm Q) ∧ (¬ s0 < 0 → zS 207 89 [zR a0, zI a1, zI a2, zI a3, zU, zI a5, zU, zU] [] sh pp mm Q) := s_ifn cM_right_82 cM_right_85 cM_right_89 rfl rfl rfl
theorem rM_right_85 {a0 : Nat} {a1 a2 a3 a5 : Int} {u4 u6 u7 : zV} : zS 207 85 [zR a0, zI a1, zI a2, zI a3, u4, zI a5, u6, u7] [] sh pp mm Q ↔ zS 207 86 [zR a0, zI a1, zI a2, zI a3, zU, zI a5, zU, zU] [zI 0] sh pp mm Q := s_go cM_right_85 cM_right_86 rfl rfl
theorem rM_right_86 {a0 : Nat} {a1 a2 a3 a5 s0 : Int} {u4 u6 u7 : zV} : zS 207 86 [zR a0, zI a1, zI a2, zI a3, u4, zI a5, u6, u7] [zI s0] sh pp mm Q ↔ zS 207 90 [zR a0, zI a1, zI a2, zI a3, zU, zI a5, zU, zU] [zI s0] sh pp mm Q := s_go cM_right_86 cM_right_90 rfl rfl
theorem rM_right_89 {a0 : Nat} {a1 a2 a3 a5 : Int} {u4 u6 u7 : zV} : zS 207 89 [zR a0, zI a1, zI a2, zI a3, u4, zI a5, u6, u7] [] sh pp mm Q ↔ zS 207 90 [zR a0, zI a1, zI a2, zI a3, zU, zI a5, zU, zU] [zI a3] sh pp mm Q := s_go cM_right_89 cM_right_90 rfl rfl
theorem rM_right_90 {a0 : Nat} {a1 a2 a3 a5 s0 : Int} {u4 u6 u7 : zV} : zS 207 90 [zR a0, zI a1, zI a2, zI a3, u4, zI a5, u6, u7] [zI s0] sh pp mm Q ↔ zS 207 92 [zR a0, zI a1, zI a2, zI a3, zU, zI a5, zU, zI s0] [] sh pp mm Q := s_go cM_right_90 cM_right_92 rfl rfl
theorem rM_right_92 {a0 : Nat} {a1 a2 a3 a5 a7 : Int} {u4 u6 : zV} : zS 207 92 [zR a0, zI a1, zI a2, zI a3, u4, zI a5, u6, zI a7] [] sh pp mm Q ↔ zS 207 94 [zR a0, zI a1, zI a2, zI a3, zU, zI a5, zU, zI a7] [zI a7] sh pp mm Q := s_go cM_right_92 cM_right_94 rfl rfl
theorem rM_right_94 {a0 : Nat} {a1 a2 a3 a5 a7 s0 : Int} {u4 u6 : zV} : zS 207 94 [zR a0, zI a1, zI a2, zI a3, u4, zI a5, u6, zI a7] [zI s0] sh pp mm Q ↔ zS 207 95 [zR a0, zI a1, zI a2, zU, zU, zI a5, zU, zI a7] [zI a3, zI s0] sh pp mm Q := s_go cM_right_94 cM_right_95 rfl rfl
theorem rM_right_95 {a0 : Nat} {a1 a2 a5 a7 s0 s1 : Int} {u3 u4 u6 : zV} : zS 207 95 [zR a0, zI a1, zI a2, u3, u4, zI a5, u6, zI a7] [zI s0, zI s1] sh pp mm Q ↔ zS 207 96 [zR a0, zI a1, zI a2, zU, zU, zI a5, zU, zI a7] [zI (zw32 (s1 - s0))] sh pp mm Q := s_go cM_right_95 cM_right_96 rfl rfl
theorem rM_right_96 {a0 : Nat} {a1 a2 a5 a7 s0 : Int} {u3 u4 u6 : zV} : zS 207 96 [zR a0, zI a1, zI a2, u3, u4, zI a5, u6, zI a7] [zI s0] sh pp mm Q ↔ zS 190 0 [zI s0] [] sh pp mm (fun v sh pp mm => zS 207 99 [zR a0, zI a1, zI a2, zU, zU, zI a5, zU, zI a7] (zPush v []) sh pp mm Q) := s_call cM_right_96 cM_right_99 rfl rfl
theorem rM_right_99 {a0 : Nat} {a1 a2 a5 a7 s0 : Int} {u3 u4 u6 : zV} : zS 207 99 [zR a0, zI a1, zI a2, u3, u4, zI a5, u6, zI a7] [zI s0] sh pp mm Q ↔ zS 207 101 [zR a0, zI a1, zI a2, zU, zI s0, zI a5, zU, zI a7] [] sh pp mm Q := s_go cM_right_99 cM_right_101 rfl rfl
theorem rM_right_101 {a0 : Nat} {a1 a2 a4 a5 a7 : Int} {u3 u6 : zV} : zS 207 101 [zR a0, zI a1, zI a2, u3, zI a4, zI a5, u6, zI a7] [] sh pp mm Q ↔ zS 207 103 [zR a0, zI a1, zI a2, zU, zI a4, zI a5, zU, zU] [zI a7] sh pp mm Q := s_go cM_right_101 cM_right_103 rfl rfl
theorem rM_right_103 {a0 : Nat} {a1 a2 a4 a5 s0 : Int} {u3 u6 u7 : zV} : zS 207 103 [zR a0, zI a1, zI a2, u3, zI a4, zI a5, u6, u7] [zI s0] sh pp mm Q ↔ zS 207 104 [zR a0, zI a1, zI a2, zI s0, zI a4, zI a5, zU, zU] [] sh pp mm Q := s_go cM_right_103 cM_right_104 rfl rfl
theorem rM_right_104 {a0 : Nat} {a1 a2 a3 a4 a5 : Int} {u6 u7 : zV} : zS 207 104 [zR a0, zI a1, zI a2, zI a3, zI a4, zI a5, u6, u7] [] sh pp mm Q ↔ zS 207 107 [zR a0, zI a1, zI a2, zI a3, zI a4, zI (zw32 (a5 + 1)), zU, zU] [] sh pp mm Q := s_go cM_right_104 cM_right_107 rfl rfl
theorem rM_right_107 {a0 : Nat} {a1 a2 a3 a4 a5 : Int} {u6 u7 : zV} : zS 207 107 [zR a0, zI a1, zI a2, zI a3, zI a4, zI a5, u6, u7] [] sh pp mm Q ↔ zS 207 42 [zR a0, zI a1, zI a2, zI a3, zI a4, zI a5, zU, zU] [] sh pp mm Q := s_go cM_right_107 cM_right_42 rfl rfl
theorem rM_right_110 {a4 : Int} {u0 u1 u2 u3 u5 u6 u7 : zV} : zS 207 110 [u0, u1, u2, u3, zI a4, u5, u6, u7] [] sh pp mm Q ↔ zS 207 112 [zU, zU, zU, zU, zU, zU, zU, zU] [zI a4] sh pp mm Q := s_go cM_right_110 cM_right_112 rfl rfl
theorem rM_right_112 {s0 : Int} {u0 u1 u2 u3 u4 u5 u6 u7 : zV} : zS 207 112 [u0, u1, u2, u3, u4, u5, u6, u7] [zI s0] sh pp mm Q ↔ Q (zI s0) sh pp mm := s_ret cM_right_112 rfl
theorem cAM_isCorner : ∀ q ∈ zT208, zCode 208 q.1 = some q.2 := zAll (mid := 208) rfl (by decide +kernel)
theorem cAM_isCorner_0 : ∀ q ∈ zT208_0, zCode 208 q.1 = some q.2 := fun q h => cAM_isCorner q (h)
theorem cM_isCorner_0 : zCode 208 0 = some (.iload_n 1, 1, 0, 0, 0, 0, 3) := cAM_isCorner_0 _ (List.mem_of_getElem? (i := 0) rfl)
theorem cM_isCorner_1 : zCode 208 1 = some (.i2l, 2, 0, 0, 0, 0, 1) := cAM_isCorner_0 _ (List.mem_of_getElem? (i := 1) rfl)
theorem cM_isCorner_2 : zCode 208 2 = some (.lconst 0, 3, 0, 0, 0, 0, 1) := cAM_isCorner_0 _ (List.mem_of_getElem? (i := 2) rfl)
theorem cM_isCorner_3 : zCode 208 3 = some (.aload_n 0, 4, 0, 0, 0, 0, 1) := cAM_isCorner_0 _ (List.mem_of_getElem? (i := 3) rfl)
theorem cM_isCorner_4 : zCode 208 4 = some (.iconst 1, 5, 0, 0, 0, 0, 0) := cAM_isCorner_0 _ (List.mem_of_getElem? (i := 4) rfl)
theorem cM_isCorner_5 : zCode 208 5 = some (.invokevirtual 288, 8, 169, 1, 2, 12, 0) := cAM_isCorner_0 _ (List.mem_of_getElem? (i := 5) rfl)
theorem cM_isCorner_8 : zCode 208 8 = some (.iconst 1, 9, 0, 0, 0, 0, 0) := cAM_isCorner_0 _ (List.mem_of_getElem? (i := 6) rfl)
theorem cM_isCorner_9 : zCode 208 9 = some (.isub, 10, 0, 0, 0, 0, 0) := cAM_isCorner_0 _ (List.mem_of_getElem? (i := 7) rfl)
theorem cM_isCorner_10 : zCode 208 10 = some (.i2l, 11, 0, 0, 0, 0, 0) := cAM_isCorner_0 _ (List.mem_of_getElem? (i := 8) rfl)
theorem cM_isCorner_11 : zCode 208 11 = some (.invokestatic 121, 14, 151, 3, 6, 12, 0) := cAM_isCorner_0 _ (List.mem_of_getElem? (i := 9) rfl)
theorem cM_isCorner_14 : zCode 208 14 = some (.ireturn, 15, 0, 3, 0, 0, 0) := cAM_isCorner_0 _ (List.mem_of_getElem? (i := 10) rfl)
theorem rM_isCorner_0 {a0 : Nat} {a1 : Int} : zS 208 0 [zR a0, zI a1] [] sh pp mm Q ↔ zS 208 1 [zR a0, zU] [zI a1] sh pp mm Q := s_go cM_isCorner_0 cM_isCorner_1 rfl rfl
theorem rM_isCorner_1 {a0 : Nat} {s0 : Int} {u1 : zV} : zS 208 1 [zR a0, u1] [zI s0] sh pp mm Q ↔ zS 208 2 [zR a0, zU] [zL s0] sh pp mm Q := s_go cM_isCorner_1 cM_isCorner_2 rfl rfl
theorem rM_isCorner_2 {a0 : Nat} {s0 : Int} {u1 : zV} : zS 208 2 [zR a0, u1] [zL s0] sh pp mm Q ↔ zS 208 3 [zR a0, zU] [zL 0, zL s0] sh pp mm Q := s_go cM_isCorner_2 cM_isCorner_3 rfl rfl
theorem rM_isCorner_3 {a0 : Nat} {s0 s1 : Int} {u1 : zV} : zS 208 3 [zR a0, u1] [zL s0, zL s1] sh pp mm Q ↔ zS 208 4 [zU, zU] [zR a0, zL s0, zL s1] sh pp mm Q := s_go cM_isCorner_3 cM_isCorner_4 rfl rfl
theorem rM_isCorner_4 {s0 : Nat} {s1 s2 : Int} {u0 u1 : zV} : zS 208 4 [u0, u1] [zR s0, zL s1, zL s2] sh pp mm Q ↔ zS 208 5 [zU, zU] [zI 1, zR s0, zL s1, zL s2] sh pp mm Q := s_go cM_isCorner_4 cM_isCorner_5 rfl rfl
theorem rM_isCorner_5 {s1 : Nat} {s0 s2 s3 : Int} {u0 u1 : zV} (hk : zKd sh s1 = 12) : zS 208 5 [u0, u1] [zI s0, zR s1, zL s2, zL s3] sh pp mm Q ↔ zS 169 0 [zR s1, zI s0] [] sh pp mm (fun v sh pp mm => zS 208 8 [zU, zU] (zPush v [zL s2, zL s3]) sh pp mm Q) := s_call cM_isCorner_5 cM_isCorner_8 ((if_pos hk).trans rfl) rfl
theorem rM_isCorner_8 {s0 s1 s2 : Int} {u0 u1 : zV} : zS 208 8 [u0, u1] [zI s0, zL s1, zL s2] sh pp mm Q ↔ zS 208 9 [zU, zU] [zI 1, zI s0, zL s1, zL s2] sh pp mm Q := s_go cM_isCorner_8 cM_isCorner_9 rfl rfl
theorem rM_isCorner_9 {s0 s1 s2 s3 : Int} {u0 u1 : zV} : zS 208 9 [u0, u1] [zI s0, zI s1, zL s2, zL s3] sh pp mm Q ↔ zS 208 10 [zU, zU] [zI (zw32 (s1 - s0)), zL s2, zL s3] sh pp mm Q := s_go cM_isCorner_9 cM_isCorner_10 rfl rfl
theorem rM_isCorner_10 {s0 s1 s2 : Int} {u0 u1 : zV} : zS 208 10 [u0, u1] [zI s0, zL s1, zL s2] sh pp mm Q ↔ zS 208 11 [zU, zU] [zL s0, zL s1, zL s2] sh pp mm Q := s_go cM_isCorner_10 cM_isCorner_11 rfl rfl
theorem rM_isCorner_11 {s0 s1 s2 : Int} {u0 u1 : zV} : zS 208 11 [u0, u1] [zL s0, zL s1, zL s2] sh pp mm Q ↔ zS 151 0 [zL s2, zU, zL s1, zU, zL s0, zU] [] sh pp mm (fun v sh pp mm => zS 208 14 [zU, zU] (zPush v []) sh pp mm Q) := s_call cM_isCorner_11 cM_isCorner_14 rfl rfl
theorem rM_isCorner_14 {s0 : Int} {u0 u1 : zV} (hb : s0 = 0 ∨ s0 = 1) : zS 208 14 [u0, u1] [zI s0] sh pp mm Q ↔ Q (zI s0) sh pp mm := s_ret cM_isCorner_14 (if_pos (decide_eq_true hb))
theorem cAM_corner : ∀ q ∈ zT209, zCode 209 q.1 = some q.2 := zAll (mid := 209) rfl (by decide +kernel)
theorem cAM_corner_0 : ∀ q ∈ zT209_0, zCode 209 q.1 = some q.2 := fun q h => cAM_corner q (List.mem_append_left _ h)
theorem cAM_corner_1 : ∀ q ∈ zT209_1, zCode 209 q.1 = some q.2 := fun q h => cAM_corner q (List.mem_append_right _ (List.mem_append_left _ h))
theorem cAM_corner_2 : ∀ q ∈ zT209_2, zCode 209 q.1 = some q.2 := fun q h => cAM_corner q (List.mem_append_right _ (List.mem_append_right _ h))
theorem cM_corner_0 : zCode 209 0 = some (.iload_n 1, 1, 0, 0, 0, 0, 7) := cAM_corner_0 _ (List.mem_of_getElem? (i := 0) rfl)
theorem cM_corner_1 : zCode 209 1 = some (.iload_n 2, 2, 0, 0, 0, 0, 7) := cAM_corner_0 _ (List.mem_of_getElem? (i := 1) rfl)
theorem cM_corner_2 : zCode 209 2 = some (.invokestatic 274, 5, 174, 2, 2, 12, 7) := cAM_corner_0 _ (List.mem_of_getElem? (i := 2) rfl)
theorem cM_corner_5 : zCode 209 5 = some (.ifCond .ne 10, 8, 15, 0, 0, 0, 7) := cAM_corner_0 _ (List.mem_of_getElem? (i := 3) rfl)
theorem cM_corner_8 : zCode 209 8 = some (.aload_n 0, 9, 0, 0, 0, 0, 1) := cAM_corner_0 _ (List.mem_of_getElem? (i := 4) rfl)
theorem cM_corner_9 : zCode 209 9 = some (.bipush (-2), 11, 0, 0, 0, 0, 0) := cAM_corner_0 _ (List.mem_of_getElem? (i := 5) rfl)
theorem cM_corner_11 : zCode 209 11 = some (.invokevirtual 132, 14, 152, 1, 2, 12, 0) := cAM_corner_0 _ (List.mem_of_getElem? (i := 6) rfl)
theorem cM_corner_14 : zCode 209 14 = some (.ireturn, 15, 0, 0, 0, 0, 0) := cAM_corner_0 _ (List.mem_of_getElem? (i := 7) rfl)
theorem cM_corner_15 : zCode 209 15 = some (.aload_n 0, 16, 0, 0, 0, 0, 7) := cAM_corner_0 _ (List.mem_of_getElem? (i := 8) rfl)
theorem cM_corner_16 : zCode 209 16 = some (.iconst 1, 17, 0, 0, 0, 0, 7) := cAM_corner_0 _ (List.mem_of_getElem? (i := 9) rfl)
theorem cM_corner_17 : zCode 209 17 = some (.invokevirtual 288, 20, 169, 1, 2, 12, 7) := cAM_corner_0 _ (List.mem_of_getElem? (i := 10) rfl)
theorem cM_corner_20 : zCode 209 20 = some (.istore_n 3, 21, 0, 0, 0, 0, 7) := cAM_corner_0 _ (List.mem_of_getElem? (i := 11) rfl)
theorem cM_corner_21 : zCode 209 21 = some (.iload_n 3, 22, 0, 0, 0, 0, 15) := cAM_corner_0 _ (List.mem_of_getElem? (i := 12) rfl)
theorem cM_corner_22 : zCode 209 22 = some (.bipush 10, 24, 0, 0, 0, 0, 15) := cAM_corner_0 _ (List.mem_of_getElem? (i := 13) rfl)
theorem cM_corner_24 : zCode 209 24 = some (.if_icmp .ne 8, 27, 32, 0, 0, 0, 15) := cAM_corner_0 _ (List.mem_of_getElem? (i := 14) rfl)
theorem cM_corner_27 : zCode 209 27 = some (.aload_n 0, 28, 0, 0, 0, 0, 1) := cAM_corner_0 _ (List.mem_of_getElem? (i := 15) rfl)
theorem cM_corner_28 : zCode 209 28 = some (.invokevirtual 154, 31, 154, 0, 1, 12, 0) := cAM_corner_1 _ (List.mem_of_getElem? (i := 0) rfl)
theorem cM_corner_31 : zCode 209 31 = some (.ireturn, 32, 0, 0, 0, 0, 0) := cAM_corner_1 _ (List.mem_of_getElem? (i := 1) rfl)
theorem cM_corner_32 : zCode 209 32 = some (.aload_n 0, 33, 0, 0, 0, 0, 15) := cAM_corner_1 _ (List.mem_of_getElem? (i := 2) rfl)
theorem cM_corner_33 : zCode 209 33 = some (.getfield 7, 36, 12, 0, 2, 1209, 15) := cAM_corner_1 _ (List.mem_of_getElem? (i := 3) rfl)
theorem cM_corner_36 : zCode 209 36 = some (.sipush 517, 39, 0, 0, 0, 0, 15) := cAM_corner_1 _ (List.mem_of_getElem? (i := 4) rfl)
theorem cM_corner_39 : zCode 209 39 = some (.iconst 2, 40, 0, 0, 0, 0, 15) := cAM_corner_1 _ (List.mem_of_getElem? (i := 5) rfl)
theorem cM_corner_40 : zCode 209 40 = some (.iload_n 3, 41, 0, 0, 0, 0, 15) := cAM_corner_1 _ (List.mem_of_getElem? (i := 6) rfl)
theorem cM_corner_41 : zCode 209 41 = some (.imul, 42, 0, 0, 0, 0, 15) := cAM_corner_1 _ (List.mem_of_getElem? (i := 7) rfl)
theorem cM_corner_42 : zCode 209 42 = some (.iadd, 43, 0, 0, 0, 0, 15) := cAM_corner_1 _ (List.mem_of_getElem? (i := 8) rfl)
theorem cM_corner_43 : zCode 209 43 = some (.iload_n 1, 44, 0, 0, 0, 0, 15) := cAM_corner_1 _ (List.mem_of_getElem? (i := 9) rfl)
theorem cM_corner_44 : zCode 209 44 = some (.iastore, 45, 0, 0, 0, 0, 13) := cAM_corner_1 _ (List.mem_of_getElem? (i := 10) rfl)
theorem cM_corner_45 : zCode 209 45 = some (.aload_n 0, 46, 0, 0, 0, 0, 13) := cAM_corner_1 _ (List.mem_of_getElem? (i := 11) rfl)
theorem cM_corner_46 : zCode 209 46 = some (.getfield 7, 49, 12, 0, 2, 1209, 13) := cAM_corner_1 _ (List.mem_of_getElem? (i := 12) rfl)
theorem cM_corner_49 : zCode 209 49 = some (.sipush 517, 52, 0, 0, 0, 0, 13) := cAM_corner_1 _ (List.mem_of_getElem? (i := 13) rfl)
theorem cM_corner_52 : zCode 209 52 = some (.iconst 2, 53, 0, 0, 0, 0, 13) := cAM_corner_1 _ (List.mem_of_getElem? (i := 14) rfl)
theorem cM_corner_53 : zCode 209 53 = some (.iload_n 3, 54, 0, 0, 0, 0, 13) := cAM_corner_1 _ (List.mem_of_getElem? (i := 15) rfl)
theorem cM_corner_54 : zCode 209 54 = some (.imul, 55, 0, 0, 0, 0, 13) := cAM_corner_2 _ (List.mem_of_getElem? (i := 0) rfl)
theorem cM_corner_55 : zCode 209 55 = some (.iadd, 56, 0, 0, 0, 0, 13) := cAM_corner_2 _ (List.mem_of_getElem? (i := 1) rfl)
theorem cM_corner_56 : zCode 209 56 = some (.iconst 1, 57, 0, 0, 0, 0, 13) := cAM_corner_2 _ (List.mem_of_getElem? (i := 2) rfl)
theorem cM_corner_57 : zCode 209 57 = some (.iadd, 58, 0, 0, 0, 0, 13) := cAM_corner_2 _ (List.mem_of_getElem? (i := 3) rfl)
theorem cM_corner_58 : zCode 209 58 = some (.iload_n 2, 59, 0, 0, 0, 0, 13) := cAM_corner_2 _ (List.mem_of_getElem? (i := 4) rfl)
theorem cM_corner_59 : zCode 209 59 = some (.iastore, 60, 0, 0, 0, 0, 9) := cAM_corner_2 _ (List.mem_of_getElem? (i := 5) rfl)
theorem cM_corner_60 : zCode 209 60 = some (.aload_n 0, 61, 0, 0, 0, 0, 9) := cAM_corner_2 _ (List.mem_of_getElem? (i := 6) rfl)
theorem cM_corner_61 : zCode 209 61 = some (.getfield 7, 64, 12, 0, 2, 1209, 8) := cAM_corner_2 _ (List.mem_of_getElem? (i := 7) rfl)
theorem cM_corner_64 : zCode 209 64 = some (.sipush 982, 67, 0, 0, 0, 0, 8) := cAM_corner_2 _ (List.mem_of_getElem? (i := 8) rfl)
theorem cM_corner_67 : zCode 209 67 = some (.dup2, 68, 0, 0, 0, 0, 8) := cAM_corner_2 _ (List.mem_of_getElem? (i := 9) rfl)
theorem cM_corner_68 : zCode 209 68 = some (.iaload, 69, 0, 0, 0, 0, 8) := cAM_corner_2 _ (List.mem_of_getElem? (i := 10) rfl)
theorem cM_corner_69 : zCode 209 69 = some (.iconst 1, 70, 0, 0, 0, 0, 8) := cAM_corner_2 _ (List.mem_of_getElem? (i := 11) rfl)
theorem cM_corner_70 : zCode 209 70 = some (.iadd, 71, 0, 0, 0, 0, 8) := cAM_corner_2 _ (List.mem_of_getElem? (i := 12) rfl)
theorem cM_corner_71 : zCode 209 71 = some (.iastore, 72, 0, 0, 0, 0, 8) := cAM_corner_2 _ (List.mem_of_getElem? (i := 13) rfl)
theorem cM_corner_72 : zCode 209 72 = some (.iload_n 3, 73, 0, 0, 0, 0, 8) := cAM_corner_2 _ (List.mem_of_getElem? (i := 14) rfl)
theorem cM_corner_73 : zCode 209 73 = some (.ireturn, 74, 0, 0, 0, 0, 0) := cAM_corner_2 _ (List.mem_of_getElem? (i := 15) rfl)
theorem rM_corner_0 {a0 : Nat} {a1 a2 : Int} {u3 : zV} : zS 209 0 [zR a0, zI a1, zI a2, u3] [] sh pp mm Q ↔ zS 209 1 [zR a0, zI a1, zI a2, zU] [zI a1] sh pp mm Q := s_go cM_corner_0 cM_corner_1 rfl rfl
theorem rM_corner_1 {a0 : Nat} {a1 a2 s0 : Int} {u3 : zV} : zS 209 1 [zR a0, zI a1, zI a2, u3] [zI s0] sh pp mm Q ↔ zS 209 2 [zR a0, zI a1, zI a2, zU] [zI a2, zI s0] sh pp mm Q := s_go cM_corner_1 cM_corner_2 rfl rfl
theorem rM_corner_2 {a0 : Nat} {a1 a2 s0 s1 : Int} {u3 : zV} : zS 209 2 [zR a0, zI a1, zI a2, u3] [zI s0, zI s1] sh pp mm Q ↔ zS 174 0 [zI s1, zI s0] [] sh pp mm (fun v sh pp mm => zS 209 5 [zR a0, zI a1, zI a2, zU] (zPush v []) sh pp mm Q) := s_call cM_corner_2 cM_corner_5 rfl rfl
theorem rM_corner_5 {a0 : Nat} {a1 a2 s0 : Int} {u3 : zV} : zS 209 5 [zR a0, zI a1, zI a2, u3] [zI s0] sh pp mm Q ↔ (s0 = 0 → zS 209 8 [zR a0, zU, zU, zU] [] sh pp mm Q) ∧ (¬ s0 = 0 → zS 209 15 [zR a0, zI a1, zI a2, zU] [] sh pp mm Q) := s_ifn cM_corner_5 cM_corner_8 cM_corner_15 rfl rfl rfl
theorem rM_corner_8 {a0 : Nat} {u1 u2 u3 : zV} : zS 209 8 [zR a0, u1, u2, u3] [] sh pp mm Q ↔ zS 209 9 [zU, zU, zU, zU] [zR a0] sh pp mm Q := s_go cM_corner_8 cM_corner_9 rfl rfl
theorem rM_corner_9 {s0 : Nat} {u0 u1 u2 u3 : zV} : zS 209 9 [u0, u1, u2, u3] [zR s0] sh pp mm Q ↔ zS 209 11 [zU, zU, zU, zU] [zI (-2), zR s0] sh pp mm Q := s_go cM_corner_9 cM_corner_11 rfl rfl
theorem rM_corner_11 {s1 : Nat} {s0 : Int} {u0 u1 u2 u3 : zV} (hk : zKd sh s1 = 12) : zS 209 11 [u0, u1, u2, u3] [zI s0, zR s1] sh pp mm Q ↔ zS 152 0 [zR s1, zI s0] [] sh pp mm (fun v sh pp mm => zS 209 14 [zU, zU, zU, zU] (zPush v []) sh pp mm Q) := s_call cM_corner_11 cM_corner_14 ((if_pos hk).trans rfl) rfl
theorem rM_corner_14 {s0 : Int} {u0 u1 u2 u3 : zV} : zS 209 14 [u0, u1, u2, u3] [zI s0] sh pp mm Q ↔ Q (zI s0) sh pp mm := s_ret cM_corner_14 rfl
theorem rM_corner_15 {a0 : Nat} {a1 a2 : Int} {u3 : zV} : zS 209 15 [zR a0, zI a1, zI a2, u3] [] sh pp mm Q ↔ zS 209 16 [zR a0, zI a1, zI a2, zU] [zR a0] sh pp mm Q := s_go cM_corner_15 cM_corner_16 rfl rfl
theorem rM_corner_16 {a0 s0 : Nat} {a1 a2 : Int} {u3 : zV} : zS 209 16 [zR a0, zI a1, zI a2, u3] [zR s0] sh pp mm Q ↔ zS 209 17 [zR a0, zI a1, zI a2, zU] [zI 1, zR s0] sh pp mm Q := s_go cM_corner_16 cM_corner_17 rfl rfl
theorem rM_corner_17 {a0 s1 : Nat} {a1 a2 s0 : Int} {u3 : zV} (hk : zKd sh s1 = 12) : zS 209 17 [zR a0, zI a1, zI a2, u3] [zI s0, zR s1] sh pp mm Q ↔ zS 169 0 [zR s1, zI s0] [] sh pp mm (fun v sh pp mm => zS 209 20 [zR a0, zI a1, zI a2, zU] (zPush v []) sh pp mm Q) := s_call cM_corner_17 cM_corner_20 ((if_pos hk).trans rfl) rfl
theorem rM_corner_20 {a0 : Nat} {a1 a2 s0 : Int} {u3 : zV} : zS 209 20 [zR a0, zI a1, zI a2, u3] [zI s0] sh pp mm Q ↔ zS 209 21 [zR a0, zI a1, zI a2, zI s0] [] sh pp mm Q := s_go cM_corner_20 cM_corner_21 rfl rfl
theorem rM_corner_21 {a0 : Nat} {a1 a2 a3 : Int} : zS 209 21 [zR a0, zI a1, zI a2, zI a3] [] sh pp mm Q ↔ zS 209 22 [zR a0, zI a1, zI a2, zI a3] [zI a3] sh pp mm Q := s_go cM_corner_21 cM_corner_22 rfl rfl
theorem rM_corner_22 {a0 : Nat} {a1 a2 a3 s0 : Int} : zS 209 22 [zR a0, zI a1, zI a2, zI a3] [zI s0] sh pp mm Q ↔ zS 209 24 [zR a0, zI a1, zI a2, zI a3] [zI 10, zI s0] sh pp mm Q := s_go cM_corner_22 cM_corner_24 rfl rfl
theorem rM_corner_24 {a0 : Nat} {a1 a2 a3 s0 s1 : Int} : zS 209 24 [zR a0, zI a1, zI a2, zI a3] [zI s0, zI s1] sh pp mm Q ↔ (s1 = s0 → zS 209 27 [zR a0, zU, zU, zU] [] sh pp mm Q) ∧ (¬ s1 = s0 → zS 209 32 [zR a0, zI a1, zI a2, zI a3] [] sh pp mm Q) := s_ifn cM_corner_24 cM_corner_27 cM_corner_32 rfl rfl rfl
theorem rM_corner_27 {a0 : Nat} {u1 u2 u3 : zV} : zS 209 27 [zR a0, u1, u2, u3] [] sh pp mm Q ↔ zS 209 28 [zU, zU, zU, zU] [zR a0] sh pp mm Q := s_go cM_corner_27 cM_corner_28 rfl rfl
theorem rM_corner_28 {s0 : Nat} {u0 u1 u2 u3 : zV} (hk : zKd sh s0 = 12) : zS 209 28 [u0, u1, u2, u3] [zR s0] sh pp mm Q ↔ zS 154 0 [zR s0] [] sh pp mm (fun v sh pp mm => zS 209 31 [zU, zU, zU, zU] (zPush v []) sh pp mm Q) := s_call cM_corner_28 cM_corner_31 ((if_pos hk).trans rfl) rfl
theorem rM_corner_31 {s0 : Int} {u0 u1 u2 u3 : zV} : zS 209 31 [u0, u1, u2, u3] [zI s0] sh pp mm Q ↔ Q (zI s0) sh pp mm := s_ret cM_corner_31 rfl
theorem rM_corner_32 {a0 : Nat} {a1 a2 a3 : Int} : zS 209 32 [zR a0, zI a1, zI a2, zI a3] [] sh pp mm Q ↔ zS 209 33 [zR a0, zI a1, zI a2, zI a3] [zR a0] sh pp mm Q := s_go cM_corner_32 cM_corner_33 rfl rfl
theorem rM_corner_33 {a0 s0 : Nat} {a1 a2 a3 : Int} (hk : zKd sh s0 = 12) : zS 209 33 [zR a0, zI a1, zI a2, zI a3] [zR s0] sh pp mm Q ↔ zS 209 36 [zR a0, zI a1, zI a2, zI a3] [zR (pp s0 0)] sh pp mm Q := s_go cM_corner_33 cM_corner_36 (if_pos hk) rfl
theorem rM_corner_36 {a0 s0 : Nat} {a1 a2 a3 : Int} : zS 209 36 [zR a0, zI a1, zI a2, zI a3] [zR s0] sh pp mm Q ↔ zS 209 39 [zR a0, zI a1, zI a2, zI a3] [zI 517, zR s0] sh pp mm Q := s_go cM_corner_36 cM_corner_39 rfl rfl
theorem rM_corner_39 {a0 s1 : Nat} {a1 a2 a3 s0 : Int} : zS 209 39 [zR a0, zI a1, zI a2, zI a3] [zI s0, zR s1] sh pp mm Q ↔ zS 209 40 [zR a0, zI a1, zI a2, zI a3] [zI 2, zI s0, zR s1] sh pp mm Q := s_go cM_corner_39 cM_corner_40 rfl rfl
theorem rM_corner_40 {a0 s2 : Nat} {a1 a2 a3 s0 s1 : Int} : zS 209 40 [zR a0, zI a1, zI a2, zI a3] [zI s0, zI s1, zR s2] sh pp mm Q ↔ zS 209 41 [zR a0, zI a1, zI a2, zI a3] [zI a3, zI s0, zI s1, zR s2] sh pp mm Q := s_go cM_corner_40 cM_corner_41 rfl rfl
theorem rM_corner_41 {a0 s3 : Nat} {a1 a2 a3 s0 s1 s2 : Int} : zS 209 41 [zR a0, zI a1, zI a2, zI a3] [zI s0, zI s1, zI s2, zR s3] sh pp mm Q ↔ zS 209 42 [zR a0, zI a1, zI a2, zI a3] [zI (zw32 (s1 * s0)), zI s2, zR s3] sh pp mm Q := s_go cM_corner_41 cM_corner_42 rfl rfl
theorem rM_corner_42 {a0 s2 : Nat} {a1 a2 a3 s0 s1 : Int} : zS 209 42 [zR a0, zI a1, zI a2, zI a3] [zI s0, zI s1, zR s2] sh pp mm Q ↔ zS 209 43 [zR a0, zI a1, zI a2, zI a3] [zI (zw32 (s1 + s0)), zR s2] sh pp mm Q := s_go cM_corner_42 cM_corner_43 rfl rfl
theorem rM_corner_43 {a0 s1 : Nat} {a1 a2 a3 s0 : Int} : zS 209 43 [zR a0, zI a1, zI a2, zI a3] [zI s0, zR s1] sh pp mm Q ↔ zS 209 44 [zR a0, zU, zI a2, zI a3] [zI a1, zI s0, zR s1] sh pp mm Q := s_go cM_corner_43 cM_corner_44 rfl rfl
theorem rM_corner_44 {a0 s2 : Nat} {a2 a3 s0 s1 : Int} {u1 : zV} (hk : zKd sh s2 = 20) (h0 : 0 ≤ s1) (h1 : s1 < zLn sh s2) : zS 209 44 [zR a0, u1, zI a2, zI a3] [zI s0, zI s1, zR s2] sh pp mm Q ↔ zS 209 45 [zR a0, zU, zI a2, zI a3] [] sh pp (zupd mm s2 s1 s0) Q := s_go cM_corner_44 cM_corner_45 (if_pos ⟨hk, h0, h1, fun h => absurd h (by decide)⟩) rfl
theorem rM_corner_45 {a0 : Nat} {a2 a3 : Int} {u1 : zV} : zS 209 45 [zR a0, u1, zI a2, zI a3] [] sh pp mm Q ↔ zS 209 46 [zR a0, zU, zI a2, zI a3] [zR a0] sh pp mm Q := s_go cM_corner_45 cM_corner_46 rfl rfl
theorem rM_corner_46 {a0 s0 : Nat} {a2 a3 : Int} {u1 : zV} (hk : zKd sh s0 = 12) : zS 209 46 [zR a0, u1, zI a2, zI a3] [zR s0] sh pp mm Q ↔ zS 209 49 [zR a0, zU, zI a2, zI a3] [zR (pp s0 0)] sh pp mm Q := s_go cM_corner_46 cM_corner_49 (if_pos hk) rfl
theorem rM_corner_49 {a0 s0 : Nat} {a2 a3 : Int} {u1 : zV} : zS 209 49 [zR a0, u1, zI a2, zI a3] [zR s0] sh pp mm Q ↔ zS 209 52 [zR a0, zU, zI a2, zI a3] [zI 517, zR s0] sh pp mm Q := s_go cM_corner_49 cM_corner_52 rfl rfl
theorem rM_corner_52 {a0 s1 : Nat} {a2 a3 s0 : Int} {u1 : zV} : zS 209 52 [zR a0, u1, zI a2, zI a3] [zI s0, zR s1] sh pp mm Q ↔ zS 209 53 [zR a0, zU, zI a2, zI a3] [zI 2, zI s0, zR s1] sh pp mm Q := s_go cM_corner_52 cM_corner_53 rfl rfl
theorem rM_corner_53 {a0 s2 : Nat} {a2 a3 s0 s1 : Int} {u1 : zV} : zS 209 53 [zR a0, u1, zI a2, zI a3] [zI s0, zI s1, zR s2] sh pp mm Q ↔ zS 209 54 [zR a0, zU, zI a2, zI a3] [zI a3, zI s0, zI s1, zR s2] sh pp mm Q := s_go cM_corner_53 cM_corner_54 rfl rfl
theorem rM_corner_54 {a0 s3 : Nat} {a2 a3 s0 s1 s2 : Int} {u1 : zV} : zS 209 54 [zR a0, u1, zI a2, zI a3] [zI s0, zI s1, zI s2, zR s3] sh pp mm Q ↔ zS 209 55 [zR a0, zU, zI a2, zI a3] [zI (zw32 (s1 * s0)), zI s2, zR s3] sh pp mm Q := s_go cM_corner_54 cM_corner_55 rfl rfl
theorem rM_corner_55 {a0 s2 : Nat} {a2 a3 s0 s1 : Int} {u1 : zV} : zS 209 55 [zR a0, u1, zI a2, zI a3] [zI s0, zI s1, zR s2] sh pp mm Q ↔ zS 209 56 [zR a0, zU, zI a2, zI a3] [zI (zw32 (s1 + s0)), zR s2] sh pp mm Q := s_go cM_corner_55 cM_corner_56 rfl rfl
theorem rM_corner_56 {a0 s1 : Nat} {a2 a3 s0 : Int} {u1 : zV} : zS 209 56 [zR a0, u1, zI a2, zI a3] [zI s0, zR s1] sh pp mm Q ↔ zS 209 57 [zR a0, zU, zI a2, zI a3] [zI 1, zI s0, zR s1] sh pp mm Q := s_go cM_corner_56 cM_corner_57 rfl rfl
theorem rM_corner_57 {a0 s2 : Nat} {a2 a3 s0 s1 : Int} {u1 : zV} : zS 209 57 [zR a0, u1, zI a2, zI a3] [zI s0, zI s1, zR s2] sh pp mm Q ↔ zS 209 58 [zR a0, zU, zI a2, zI a3] [zI (zw32 (s1 + s0)), zR s2] sh pp mm Q := s_go cM_corner_57 cM_corner_58 rfl rfl
theorem rM_corner_58 {a0 s1 : Nat} {a2 a3 s0 : Int} {u1 : zV} : zS 209 58 [zR a0, u1, zI a2, zI a3] [zI s0, zR s1] sh pp mm Q ↔ zS 209 59 [zR a0, zU, zU, zI a3] [zI a2, zI s0, zR s1] sh pp mm Q := s_go cM_corner_58 cM_corner_59 rfl rfl
theorem rM_corner_59 {a0 s2 : Nat} {a3 s0 s1 : Int} {u1 u2 : zV} (hk : zKd sh s2 = 20) (h0 : 0 ≤ s1) (h1 : s1 < zLn sh s2) : zS 209 59 [zR a0, u1, u2, zI a3] [zI s0, zI s1, zR s2] sh pp mm Q ↔ zS 209 60 [zR a0, zU, zU, zI a3] [] sh pp (zupd mm s2 s1 s0) Q := s_go cM_corner_59 cM_corner_60 (if_pos ⟨hk, h0, h1, fun h => absurd h (by decide)⟩) rfl
theorem rM_corner_60 {a0 : Nat} {a3 : Int} {u1 u2 : zV} : zS 209 60 [zR a0, u1, u2, zI a3] [] sh pp mm Q ↔ zS 209 61 [zU, zU, zU, zI a3] [zR a0] sh pp mm Q := s_go cM_corner_60 cM_corner_61 rfl rfl
theorem rM_corner_61 {s0 : Nat} {a3 : Int} {u0 u1 u2 : zV} (hk : zKd sh s0 = 12) : zS 209 61 [u0, u1, u2, zI a3] [zR s0] sh pp mm Q ↔ zS 209 64 [zU, zU, zU, zI a3] [zR (pp s0 0)] sh pp mm Q := s_go cM_corner_61 cM_corner_64 (if_pos hk) rfl
theorem rM_corner_64 {s0 : Nat} {a3 : Int} {u0 u1 u2 : zV} : zS 209 64 [u0, u1, u2, zI a3] [zR s0] sh pp mm Q ↔ zS 209 67 [zU, zU, zU, zI a3] [zI 982, zR s0] sh pp mm Q := s_go cM_corner_64 cM_corner_67 rfl rfl
theorem rM_corner_67 {s1 : Nat} {a3 s0 : Int} {u0 u1 u2 : zV} : zS 209 67 [u0, u1, u2, zI a3] [zI s0, zR s1] sh pp mm Q ↔ zS 209 68 [zU, zU, zU, zI a3] [zI s0, zR s1, zI s0, zR s1] sh pp mm Q := s_go cM_corner_67 cM_corner_68 rfl rfl
theorem rM_corner_68 {s1 s3 : Nat} {a3 s0 s2 : Int} {u0 u1 u2 : zV} (hk : zKd sh s1 = 20 ∨ zKd sh s1 = 30) (h0 : 0 ≤ s0) (h1 : s0 < zLn sh s1) : zS 209 68 [u0, u1, u2, zI a3] [zI s0, zR s1, zI s2, zR s3] sh pp mm Q ↔ zS 209 69 [zU, zU, zU, zI a3] [zI (mm s1 s0), zI s2, zR s3] sh pp mm Q := s_go cM_corner_68 cM_corner_69 (if_pos ⟨hk, h0, h1⟩) rfl
theorem rM_corner_69 {s2 : Nat} {a3 s0 s1 : Int} {u0 u1 u2 : zV} : zS 209 69 [u0, u1, u2, zI a3] [zI s0, zI s1, zR s2] sh pp mm Q ↔ zS 209 70 [zU, zU, zU, zI a3] [zI 1, zI s0, zI s1, zR s2] sh pp mm Q := s_go cM_corner_69 cM_corner_70 rfl rfl
theorem rM_corner_70 {s3 : Nat} {a3 s0 s1 s2 : Int} {u0 u1 u2 : zV} : zS 209 70 [u0, u1, u2, zI a3] [zI s0, zI s1, zI s2, zR s3] sh pp mm Q ↔ zS 209 71 [zU, zU, zU, zI a3] [zI (zw32 (s1 + s0)), zI s2, zR s3] sh pp mm Q := s_go cM_corner_70 cM_corner_71 rfl rfl
theorem rM_corner_71 {s2 : Nat} {a3 s0 s1 : Int} {u0 u1 u2 : zV} (hk : zKd sh s2 = 20) (h0 : 0 ≤ s1) (h1 : s1 < zLn sh s2) : zS 209 71 [u0, u1, u2, zI a3] [zI s0, zI s1, zR s2] sh pp mm Q ↔ zS 209 72 [zU, zU, zU, zI a3] [] sh pp (zupd mm s2 s1 s0) Q := s_go cM_corner_71 cM_corner_72 (if_pos ⟨hk, h0, h1, fun h => absurd h (by decide)⟩) rfl
theorem rM_corner_72 {a3 : Int} {u0 u1 u2 : zV} : zS 209 72 [u0, u1, u2, zI a3] [] sh pp mm Q ↔ zS 209 73 [zU, zU, zU, zU] [zI a3] sh pp mm Q := s_go cM_corner_72 cM_corner_73 rfl rfl
theorem rM_corner_73 {s0 : Int} {u0 u1 u2 u3 : zV} : zS 209 73 [u0, u1, u2, u3] [zI s0] sh pp mm Q ↔ Q (zI s0) sh pp mm := s_ret cM_corner_73 rfl
end
