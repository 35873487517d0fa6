/-! rules of the small machine at each place of the code, by program: L_init, L_fewestFrom, L_come, L_goOn, L_stroke, L_turnsAbout, L_holdAfter, N_init, N_outdate, N_learn, N_learnEdge, N_twinsAhead, N_allEdges, N_otherEnd, N_hangsOn, N_hasLine, N_firstCorners, N_placeOfTrail, N_findTrail, N_goLeastFrom, N_leastStep, N_isTriedFirst, N_fewestAbouts, N_leastPrice, N_lowestBit -/
section
variable {sh : zSh} {pp : zPp} {mm : zMm} {Q : zV → zSh → zPp → zMm → Prop}
theorem cAL_init : ∀ q ∈ zT46, zCode 46 q.1 = some q.2 := zAll (mid := 46) rfl (by decide +kernel)
theorem cAL_init_0 : ∀ q ∈ zT46_0, zCode 46 q.1 = some q.2 := fun q h => cAL_init q (h)
theorem cL_init_0 : zCode 46 0 = some (.aload_n 0, 1, 0, 0, 0, 0, 1) := cAL_init_0 _ (List.mem_of_getElem? (i := 0) rfl)
theorem cL_init_1 : zCode 46 1 = some (.invokespecial 3, 4, 0, 78, 0, 929, 1) := cAL_init_0 _ (List.mem_of_getElem? (i := 1) rfl)
theorem cL_init_4 : zCode 46 4 = some (.aload_n 0, 5, 0, 0, 0, 0, 1) := cAL_init_0 _ (List.mem_of_getElem? (i := 2) rfl)
theorem cL_init_5 : zCode 46 5 = some (.sipush 4096, 8, 0, 0, 0, 0, 1) := cAL_init_0 _ (List.mem_of_getElem? (i := 3) rfl)
theorem cL_init_8 : zCode 46 8 = some (.newarray .int, 10, 20, 0, 0, 0, 1) := cAL_init_0 _ (List.mem_of_getElem? (i := 4) rfl)
theorem cL_init_10 : zCode 46 10 = some (.putfield 9, 13, 5, 0, 2, 931, 1) := cAL_init_0 _ (List.mem_of_getElem? (i := 5) rfl)
theorem cL_init_13 : zCode 46 13 = some (.aload_n 0, 14, 0, 0, 0, 0, 1) := cAL_init_0 _ (List.mem_of_getElem? (i := 6) rfl)
theorem cL_init_14 : zCode 46 14 = some (.ldc 15, 16, 0, 0, 930, 36864, 0) := cAL_init_0 _ (List.mem_of_getElem? (i := 7) rfl)
theorem cL_init_16 : zCode 46 16 = some (.newarray .int, 18, 20, 0, 0, 0, 0) := cAL_init_0 _ (List.mem_of_getElem? (i := 8) rfl)
theorem cL_init_18 : zCode 46 18 = some (.putfield 16, 21, 5, 1, 2, 932, 0) := cAL_init_0 _ (List.mem_of_getElem? (i := 9) rfl)
theorem cL_init_21 : zCode 46 21 = some (.return_, 22, 0, 0, 0, 0, 0) := cAL_init_0 _ (List.mem_of_getElem? (i := 10) rfl)
theorem rL_init_0 {a0 : Nat} : zS 46 0 [zR a0] [] sh pp mm Q ↔ zS 46 1 [zR a0] [zR a0] sh pp mm Q := s_go cL_init_0 cL_init_1 rfl rfl
theorem rL_init_1 {a0 s0 : Nat} (hr : s0 ≠ 0) (hl : s0 < sh.length) : zS 46 1 [zR a0] [zR s0] sh pp mm Q ↔ zS 46 4 [zR a0] [] sh pp mm Q := s_go cL_init_1 cL_init_4 (if_pos ⟨hr, hl, by decide⟩) rfl
theorem rL_init_4 {a0 : Nat} : zS 46 4 [zR a0] [] sh pp mm Q ↔ zS 46 5 [zR a0] [zR a0] sh pp mm Q := s_go cL_init_4 cL_init_5 rfl rfl
theorem rL_init_5 {a0 s0 : Nat} : zS 46 5 [zR a0] [zR s0] sh pp mm Q ↔ zS 46 8 [zR a0] [zI 4096, zR s0] sh pp mm Q := s_go cL_init_5 cL_init_8 rfl rfl
theorem rL_init_8 {a0 s1 : Nat} {s0 : Int} (h0 : 0 ≤ s0) (h1 : s0 ≤ 100000) : zS 46 8 [zR a0] [zI s0, zR s1] sh pp mm Q ↔ zS 46 10 [zR a0] [zR sh.length, zR s1] (sh ++ [(20, s0.toNat)]) (zclp pp sh.length) (zclr mm sh.length) Q := s_go cL_init_8 cL_init_10 (if_pos ⟨h0, h1⟩) rfl
theorem rL_init_10 {a0 s0 s1 : Nat} (hk : zKd sh s1 = 5) : zS 46 10 [zR a0] [zR s0, zR s1] sh pp mm Q ↔ zS 46 13 [zR a0] [] sh (zupp pp s1 0 s0) mm Q := s_go cL_init_10 cL_init_13 (if_pos ⟨hk, rfl⟩) rfl
theorem rL_init_13 {a0 : Nat} : zS 46 13 [zR a0] [] sh pp mm Q ↔ zS 46 14 [zU] [zR a0] sh pp mm Q := s_go cL_init_13 cL_init_14 rfl rfl
theorem rL_init_14 {s0 : Nat} {u0 : zV} : zS 46 14 [u0] [zR s0] sh pp mm Q ↔ zS 46 16 [zU] [zI 36864, zR s0] sh pp mm Q := s_go cL_init_14 cL_init_16 rfl rfl
theorem rL_init_16 {s1 : Nat} {s0 : Int} {u0 : zV} (h0 : 0 ≤ s0) (h1 : s0 ≤ 100000) : zS 46 16 [u0] [zI s0, zR s1] sh pp mm Q ↔ zS 46 18 [zU] [zR sh.length, zR s1] (sh ++ [(20, s0.toNat)]) (zclp pp sh.length) (zclr mm sh.length) Q := s_go cL_init_16 cL_init_18 (if_pos ⟨h0, h1⟩) rfl
theorem rL_init_18 {s0 s1 : Nat} {u0 : zV} (hk : zKd sh s1 = 5) : zS 46 18 [u0] [zR s0, zR s1] sh pp mm Q ↔ zS 46 21 [zU] [] sh (zupp pp s1 1 s0) mm Q := s_go cL_init_18 cL_init_21 (if_pos ⟨hk, rfl⟩) rfl
theorem rL_init_21 {u0 : zV} : zS 46 21 [u0] [] sh pp mm Q ↔ Q zU sh pp mm := s_ret cL_init_21 rfl
theorem cAL_fewestFrom : ∀ q ∈ zT47, zCode 47 q.1 = some q.2 := zAll (mid := 47) rfl (by decide +kernel)
theorem cAL_fewestFrom_0 : ∀ q ∈ zT47_0, zCode 47 q.1 = some q.2 := fun q h => cAL_fewestFrom q (List.mem_append_left _ h)
theorem cAL_fewestFrom_1 : ∀ q ∈ zT47_1, zCode 47 q.1 = some q.2 := fun q h => cAL_fewestFrom q (List.mem_append_right _ (List.mem_append_left _ h))
theorem cAL_fewestFrom_2 : ∀ q ∈ zT47_2, zCode 47 q.1 = some q.2 := fun q h => cAL_fewestFrom q (List.mem_append_right _ (List.mem_append_right _ (List.mem_append_left _ h)))
theorem cAL_fewestFrom_3 : ∀ q ∈ zT47_3, zCode 47 q.1 = some q.2 := fun q h => cAL_fewestFrom q (List.mem_append_right _ (List.mem_append_right _ (List.mem_append_right _ (List.mem_append_left _ h))))
theorem cAL_fewestFrom_4 : ∀ q ∈ zT47_4, zCode 47 q.1 = some q.2 := fun q h => cAL_fewestFrom q (List.mem_append_right _ (List.mem_append_right _ (List.mem_append_right _ (List.mem_append_right _ h))))
theorem cL_fewestFrom_0 : zCode 47 0 = some (.aload_n 2, 1, 0, 0, 0, 0, 7) := cAL_fewestFrom_0 _ (List.mem_of_getElem? (i := 0) rfl)
theorem cL_fewestFrom_1 : zCode 47 1 = some (.invokevirtual 19, 4, 58, 0, 1, 6, 7) := cAL_fewestFrom_0 _ (List.mem_of_getElem? (i := 1) rfl)
theorem cL_fewestFrom_4 : zCode 47 4 = some (.istore_n 3, 5, 0, 0, 0, 0, 7) := cAL_fewestFrom_0 _ (List.mem_of_getElem? (i := 2) rfl)
theorem cL_fewestFrom_5 : zCode 47 5 = some (.iconst 0, 6, 0, 0, 0, 0, 15) := cAL_fewestFrom_0 _ (List.mem_of_getElem? (i := 3) rfl)
theorem cL_fewestFrom_6 : zCode 47 6 = some (.istore 4, 8, 0, 0, 0, 0, 15) := cAL_fewestFrom_0 _ (List.mem_of_getElem? (i := 4) rfl)
theorem cL_fewestFrom_8 : zCode 47 8 = some (.iload 4, 10, 0, 0, 0, 0, 31) := cAL_fewestFrom_0 _ (List.mem_of_getElem? (i := 5) rfl)
theorem cL_fewestFrom_10 : zCode 47 10 = some (.iload_n 3, 11, 0, 0, 0, 0, 31) := cAL_fewestFrom_0 _ (List.mem_of_getElem? (i := 6) rfl)
theorem cL_fewestFrom_11 : zCode 47 11 = some (.if_icmp .gt 17, 14, 28, 0, 0, 0, 31) := cAL_fewestFrom_0 _ (List.mem_of_getElem? (i := 7) rfl)
theorem cL_fewestFrom_14 : zCode 47 14 = some (.aload_n 0, 15, 0, 0, 0, 0, 31) := cAL_fewestFrom_0 _ (List.mem_of_getElem? (i := 8) rfl)
theorem cL_fewestFrom_15 : zCode 47 15 = some (.getfield 9, 18, 5, 0, 2, 931, 31) := cAL_fewestFrom_0 _ (List.mem_of_getElem? (i := 9) rfl)
theorem cL_fewestFrom_18 : zCode 47 18 = some (.iload 4, 20, 0, 0, 0, 0, 31) := cAL_fewestFrom_0 _ (List.mem_of_getElem? (i := 10) rfl)
theorem cL_fewestFrom_20 : zCode 47 20 = some (.iconst (-1), 21, 0, 0, 0, 0, 31) := cAL_fewestFrom_0 _ (List.mem_of_getElem? (i := 11) rfl)
theorem cL_fewestFrom_21 : zCode 47 21 = some (.iastore, 22, 0, 0, 0, 0, 31) := cAL_fewestFrom_0 _ (List.mem_of_getElem? (i := 12) rfl)
theorem cL_fewestFrom_22 : zCode 47 22 = some (.iinc 4 1, 25, 0, 0, 0, 0, 31) := cAL_fewestFrom_0 _ (List.mem_of_getElem? (i := 13) rfl)
theorem cL_fewestFrom_25 : zCode 47 25 = some (.goto (-17), 28, 8, 0, 0, 0, 31) := cAL_fewestFrom_0 _ (List.mem_of_getElem? (i := 14) rfl)
theorem cL_fewestFrom_28 : zCode 47 28 = some (.aload_n 0, 29, 0, 0, 0, 0, 15) := cAL_fewestFrom_0 _ (List.mem_of_getElem? (i := 15) rfl)
theorem cL_fewestFrom_29 : zCode 47 29 = some (.iconst 0, 30, 0, 0, 0, 0, 15) := cAL_fewestFrom_1 _ (List.mem_of_getElem? (i := 0) rfl)
theorem cL_fewestFrom_30 : zCode 47 30 = some (.iload_n 1, 31, 0, 0, 0, 0, 15) := cAL_fewestFrom_1 _ (List.mem_of_getElem? (i := 1) rfl)
theorem cL_fewestFrom_31 : zCode 47 31 = some (.invokevirtual 25, 34, 48, 2, 4, 5, 13) := cAL_fewestFrom_1 _ (List.mem_of_getElem? (i := 2) rfl)
theorem cL_fewestFrom_34 : zCode 47 34 = some (.aload_n 0, 35, 0, 0, 0, 0, 13) := cAL_fewestFrom_1 _ (List.mem_of_getElem? (i := 3) rfl)
theorem cL_fewestFrom_35 : zCode 47 35 = some (.getfield 16, 38, 5, 1, 2, 932, 13) := cAL_fewestFrom_1 _ (List.mem_of_getElem? (i := 4) rfl)
theorem cL_fewestFrom_38 : zCode 47 38 = some (.iconst 0, 39, 0, 0, 0, 0, 13) := cAL_fewestFrom_1 _ (List.mem_of_getElem? (i := 5) rfl)
theorem cL_fewestFrom_39 : zCode 47 39 = some (.iconst 0, 40, 0, 0, 0, 0, 13) := cAL_fewestFrom_1 _ (List.mem_of_getElem? (i := 6) rfl)
theorem cL_fewestFrom_40 : zCode 47 40 = some (.iastore, 41, 0, 0, 0, 0, 13) := cAL_fewestFrom_1 _ (List.mem_of_getElem? (i := 7) rfl)
theorem cL_fewestFrom_41 : zCode 47 41 = some (.iconst 0, 42, 0, 0, 0, 0, 13) := cAL_fewestFrom_1 _ (List.mem_of_getElem? (i := 8) rfl)
theorem cL_fewestFrom_42 : zCode 47 42 = some (.istore 4, 44, 0, 0, 0, 0, 13) := cAL_fewestFrom_1 _ (List.mem_of_getElem? (i := 9) rfl)
theorem cL_fewestFrom_44 : zCode 47 44 = some (.iload 4, 46, 0, 0, 0, 0, 29) := cAL_fewestFrom_1 _ (List.mem_of_getElem? (i := 10) rfl)
theorem cL_fewestFrom_46 : zCode 47 46 = some (.iload_n 3, 47, 0, 0, 0, 0, 29) := cAL_fewestFrom_1 _ (List.mem_of_getElem? (i := 11) rfl)
theorem cL_fewestFrom_47 : zCode 47 47 = some (.if_icmp .ge 27, 50, 74, 0, 0, 0, 29) := cAL_fewestFrom_1 _ (List.mem_of_getElem? (i := 12) rfl)
theorem cL_fewestFrom_50 : zCode 47 50 = some (.aload_n 0, 51, 0, 0, 0, 0, 29) := cAL_fewestFrom_1 _ (List.mem_of_getElem? (i := 13) rfl)
theorem cL_fewestFrom_51 : zCode 47 51 = some (.getfield 9, 54, 5, 0, 2, 931, 29) := cAL_fewestFrom_1 _ (List.mem_of_getElem? (i := 14) rfl)
theorem cL_fewestFrom_54 : zCode 47 54 = some (.iload 4, 56, 0, 0, 0, 0, 29) := cAL_fewestFrom_1 _ (List.mem_of_getElem? (i := 15) rfl)
theorem cL_fewestFrom_56 : zCode 47 56 = some (.iaload, 57, 0, 0, 0, 0, 29) := cAL_fewestFrom_2 _ (List.mem_of_getElem? (i := 0) rfl)
theorem cL_fewestFrom_57 : zCode 47 57 = some (.iconst (-1), 58, 0, 0, 0, 0, 29) := cAL_fewestFrom_2 _ (List.mem_of_getElem? (i := 1) rfl)
theorem cL_fewestFrom_58 : zCode 47 58 = some (.if_icmp .eq 10, 61, 68, 0, 0, 0, 29) := cAL_fewestFrom_2 _ (List.mem_of_getElem? (i := 2) rfl)
theorem cL_fewestFrom_61 : zCode 47 61 = some (.aload_n 0, 62, 0, 0, 0, 0, 29) := cAL_fewestFrom_2 _ (List.mem_of_getElem? (i := 3) rfl)
theorem cL_fewestFrom_62 : zCode 47 62 = some (.iload 4, 64, 0, 0, 0, 0, 29) := cAL_fewestFrom_2 _ (List.mem_of_getElem? (i := 4) rfl)
theorem cL_fewestFrom_64 : zCode 47 64 = some (.aload_n 2, 65, 0, 0, 0, 0, 29) := cAL_fewestFrom_2 _ (List.mem_of_getElem? (i := 5) rfl)
theorem cL_fewestFrom_65 : zCode 47 65 = some (.invokevirtual 29, 68, 49, 2, 8, 5, 29) := cAL_fewestFrom_2 _ (List.mem_of_getElem? (i := 6) rfl)
theorem cL_fewestFrom_68 : zCode 47 68 = some (.iinc 4 1, 71, 0, 0, 0, 0, 29) := cAL_fewestFrom_2 _ (List.mem_of_getElem? (i := 7) rfl)
theorem cL_fewestFrom_71 : zCode 47 71 = some (.goto (-27), 74, 44, 0, 0, 0, 29) := cAL_fewestFrom_2 _ (List.mem_of_getElem? (i := 8) rfl)
theorem cL_fewestFrom_74 : zCode 47 74 = some (.ldc 33, 76, 0, 0, 948, 1000000, 9) := cAL_fewestFrom_2 _ (List.mem_of_getElem? (i := 9) rfl)
theorem cL_fewestFrom_76 : zCode 47 76 = some (.istore 4, 78, 0, 0, 0, 0, 9) := cAL_fewestFrom_2 _ (List.mem_of_getElem? (i := 10) rfl)
theorem cL_fewestFrom_78 : zCode 47 78 = some (.iconst 0, 79, 0, 0, 0, 0, 25) := cAL_fewestFrom_2 _ (List.mem_of_getElem? (i := 11) rfl)
theorem cL_fewestFrom_79 : zCode 47 79 = some (.istore 5, 81, 0, 0, 0, 0, 25) := cAL_fewestFrom_2 _ (List.mem_of_getElem? (i := 12) rfl)
theorem cL_fewestFrom_81 : zCode 47 81 = some (.iload 5, 83, 0, 0, 0, 0, 57) := cAL_fewestFrom_2 _ (List.mem_of_getElem? (i := 13) rfl)
theorem cL_fewestFrom_83 : zCode 47 83 = some (.bipush 9, 85, 0, 0, 0, 0, 57) := cAL_fewestFrom_2 _ (List.mem_of_getElem? (i := 14) rfl)
theorem cL_fewestFrom_85 : zCode 47 85 = some (.if_icmp .ge 38, 88, 123, 0, 0, 0, 57) := cAL_fewestFrom_2 _ (List.mem_of_getElem? (i := 15) rfl)
theorem cL_fewestFrom_88 : zCode 47 88 = some (.aload_n 0, 89, 0, 0, 0, 0, 57) := cAL_fewestFrom_3 _ (List.mem_of_getElem? (i := 0) rfl)
theorem cL_fewestFrom_89 : zCode 47 89 = some (.getfield 9, 92, 5, 0, 2, 931, 57) := cAL_fewestFrom_3 _ (List.mem_of_getElem? (i := 1) rfl)
theorem cL_fewestFrom_92 : zCode 47 92 = some (.iload_n 3, 93, 0, 0, 0, 0, 57) := cAL_fewestFrom_3 _ (List.mem_of_getElem? (i := 2) rfl)
theorem cL_fewestFrom_93 : zCode 47 93 = some (.iaload, 94, 0, 0, 0, 0, 57) := cAL_fewestFrom_3 _ (List.mem_of_getElem? (i := 3) rfl)
theorem cL_fewestFrom_94 : zCode 47 94 = some (.iconst (-1), 95, 0, 0, 0, 0, 57) := cAL_fewestFrom_3 _ (List.mem_of_getElem? (i := 4) rfl)
theorem cL_fewestFrom_95 : zCode 47 95 = some (.if_icmp .eq 28, 98, 123, 0, 0, 0, 57) := cAL_fewestFrom_3 _ (List.mem_of_getElem? (i := 5) rfl)
theorem cL_fewestFrom_98 : zCode 47 98 = some (.iload 4, 100, 0, 0, 0, 0, 57) := cAL_fewestFrom_3 _ (List.mem_of_getElem? (i := 6) rfl)
theorem cL_fewestFrom_100 : zCode 47 100 = some (.aload_n 0, 101, 0, 0, 0, 0, 41) := cAL_fewestFrom_3 _ (List.mem_of_getElem? (i := 7) rfl)
theorem cL_fewestFrom_101 : zCode 47 101 = some (.getfield 16, 104, 5, 1, 2, 932, 41) := cAL_fewestFrom_3 _ (List.mem_of_getElem? (i := 8) rfl)
theorem cL_fewestFrom_104 : zCode 47 104 = some (.iload_n 3, 105, 0, 0, 0, 0, 41) := cAL_fewestFrom_3 _ (List.mem_of_getElem? (i := 9) rfl)
theorem cL_fewestFrom_105 : zCode 47 105 = some (.bipush 9, 107, 0, 0, 0, 0, 41) := cAL_fewestFrom_3 _ (List.mem_of_getElem? (i := 10) rfl)
theorem cL_fewestFrom_107 : zCode 47 107 = some (.imul, 108, 0, 0, 0, 0, 41) := cAL_fewestFrom_3 _ (List.mem_of_getElem? (i := 11) rfl)
theorem cL_fewestFrom_108 : zCode 47 108 = some (.iload 5, 110, 0, 0, 0, 0, 41) := cAL_fewestFrom_3 _ (List.mem_of_getElem? (i := 12) rfl)
theorem cL_fewestFrom_110 : zCode 47 110 = some (.iadd, 111, 0, 0, 0, 0, 41) := cAL_fewestFrom_3 _ (List.mem_of_getElem? (i := 13) rfl)
theorem cL_fewestFrom_111 : zCode 47 111 = some (.iaload, 112, 0, 0, 0, 0, 41) := cAL_fewestFrom_3 _ (List.mem_of_getElem? (i := 14) rfl)
theorem cL_fewestFrom_112 : zCode 47 112 = some (.invokestatic 34, 115, 260, 2, 2, 15, 41) := cAL_fewestFrom_3 _ (List.mem_of_getElem? (i := 15) rfl)
theorem cL_fewestFrom_115 : zCode 47 115 = some (.istore 4, 117, 0, 0, 0, 0, 41) := cAL_fewestFrom_4 _ (List.mem_of_getElem? (i := 0) rfl)
theorem cL_fewestFrom_117 : zCode 47 117 = some (.iinc 5 1, 120, 0, 0, 0, 0, 57) := cAL_fewestFrom_4 _ (List.mem_of_getElem? (i := 1) rfl)
theorem cL_fewestFrom_120 : zCode 47 120 = some (.goto (-39), 123, 81, 0, 0, 0, 57) := cAL_fewestFrom_4 _ (List.mem_of_getElem? (i := 2) rfl)
theorem cL_fewestFrom_123 : zCode 47 123 = some (.iload 4, 125, 0, 0, 0, 0, 16) := cAL_fewestFrom_4 _ (List.mem_of_getElem? (i := 3) rfl)
theorem cL_fewestFrom_125 : zCode 47 125 = some (.ireturn, 126, 0, 0, 0, 0, 0) := cAL_fewestFrom_4 _ (List.mem_of_getElem? (i := 4) rfl)
theorem rL_fewestFrom_0 {a0 a2 : Nat} {a1 : Int} {u3 u4 u5 : zV} : zS 47 0 [zR a0, zI a1, zR a2, u3, u4, u5] [] sh pp mm Q ↔ zS 47 1 [zR a0, zI a1, zR a2, zU, zU, zU] [zR a2] sh pp mm Q := s_go cL_fewestFrom_0 cL_fewestFrom_1 rfl rfl
theorem rL_fewestFrom_1 {a0 a2 s0 : Nat} {a1 : Int} {u3 u4 u5 : zV} (hk : zKd sh s0 = 6) : zS 47 1 [zR a0, zI a1, zR a2, u3, u4, u5] [zR s0] sh pp mm Q ↔ zS 58 0 [zR s0] [] sh pp mm (fun v sh pp mm => zS 47 4 [zR a0, zI a1, zR a2, zU, zU, zU] (zPush v []) sh pp mm Q) := s_call cL_fewestFrom_1 cL_fewestFrom_4 ((if_pos hk).trans rfl) rfl
theorem rL_fewestFrom_4 {a0 a2 : Nat} {a1 s0 : Int} {u3 u4 u5 : zV} : zS 47 4 [zR a0, zI a1, zR a2, u3, u4, u5] [zI s0] sh pp mm Q ↔ zS 47 5 [zR a0, zI a1, zR a2, zI s0, zU, zU] [] sh pp mm Q := s_go cL_fewestFrom_4 cL_fewestFrom_5 rfl rfl
theorem rL_fewestFrom_5 {a0 a2 : Nat} {a1 a3 : Int} {u4 u5 : zV} : zS 47 5 [zR a0, zI a1, zR a2, zI a3, u4, u5] [] sh pp mm Q ↔ zS 47 6 [zR a0, zI a1, zR a2, zI a3, zU, zU] [zI 0] sh pp mm Q := s_go cL_fewestFrom_5 cL_fewestFrom_6 rfl rfl
theorem rL_fewestFrom_6 {a0 a2 : Nat} {a1 a3 s0 : Int} {u4 u5 : zV} : zS 47 6 [zR a0, zI a1, zR a2, zI a3, u4, u5] [zI s0] sh pp mm Q ↔ zS 47 8 [zR a0, zI a1, zR a2, zI a3, zI s0, zU] [] sh pp mm Q := s_go cL_fewestFrom_6 cL_fewestFrom_8 rfl rfl
theorem rL_fewestFrom_8 {a0 a2 : Nat} {a1 a3 a4 : Int} {u5 : zV} : zS 47 8 [zR a0, zI a1, zR a2, zI a3, zI a4, u5] [] sh pp mm Q ↔ zS 47 10 [zR a0, zI a1, zR a2, zI a3, zI a4, zU] [zI a4] sh pp mm Q := s_go cL_fewestFrom_8 cL_fewestFrom_10 rfl rfl
theorem rL_fewestFrom_10 {a0 a2 : Nat} {a1 a3 a4 s0 : Int} {u5 : zV} : zS 47 10 [zR a0, zI a1, zR a2, zI a3, zI a4, u5] [zI s0] sh pp mm Q ↔ zS 47 11 [zR a0, zI a1, zR a2, zI a3, zI a4, zU] [zI a3, zI s0] sh pp mm Q := s_go cL_fewestFrom_10 cL_fewestFrom_11 rfl rfl
theorem rL_fewestFrom_11 {a0 a2 : Nat} {a1 a3 a4 s0 s1 : Int} {u5 : zV} : zS 47 11 [zR a0, zI a1, zR a2, zI a3, zI a4, u5] [zI s0, zI s1] sh pp mm Q ↔ (s0 < s1 → zS 47 28 [zR a0, zI a1, zR a2, zI a3, zU, zU] [] sh pp mm Q) ∧ (¬ s0 < s1 → zS 47 14 [zR a0, zI a1, zR a2, zI a3, zI a4, zU] [] sh pp mm Q) := s_if cL_fewestFrom_11 cL_fewestFrom_28 cL_fewestFrom_14 rfl rfl rfl
theorem rL_fewestFrom_14 {a0 a2 : Nat} {a1 a3 a4 : Int} {u5 : zV} : zS 47 14 [zR a0, zI a1, zR a2, zI a3, zI a4, u5] [] sh pp mm Q ↔ zS 47 15 [zR a0, zI a1, zR a2, zI a3, zI a4, zU] [zR a0] sh pp mm Q := s_go cL_fewestFrom_14 cL_fewestFrom_15 rfl rfl
theorem rL_fewestFrom_15 {a0 a2 s0 : Nat} {a1 a3 a4 : Int} {u5 : zV} (hk : zKd sh s0 = 5) : zS 47 15 [zR a0, zI a1, zR a2, zI a3, zI a4, u5] [zR s0] sh pp mm Q ↔ zS 47 18 [zR a0, zI a1, zR a2, zI a3, zI a4, zU] [zR (pp s0 0)] sh pp mm Q := s_go cL_fewestFrom_15 cL_fewestFrom_18 (if_pos hk) rfl
theorem rL_fewestFrom_18 {a0 a2 s0 : Nat} {a1 a3 a4 : Int} {u5 : zV} : zS 47 18 [zR a0, zI a1, zR a2, zI a3, zI a4, u5] [zR s0] sh pp mm Q ↔ zS 47 20 [zR a0, zI a1, zR a2, zI a3, zI a4, zU] [zI a4, zR s0] sh pp mm Q := s_go cL_fewestFrom_18 cL_fewestFrom_20 rfl rfl
theorem rL_fewestFrom_20 {a0 a2 s1 : Nat} {a1 a3 a4 s0 : Int} {u5 : zV} : zS 47 20 [zR a0, zI a1, zR a2, zI a3, zI a4, u5] [zI s0, zR s1] sh pp mm Q ↔ zS 47 21 [zR a0, zI a1, zR a2, zI a3, zI a4, zU] [zI (-1), zI s0, zR s1] sh pp mm Q := s_go cL_fewestFrom_20 cL_fewestFrom_21 rfl rfl
theorem rL_fewestFrom_21 {a0 a2 s2 : Nat} {a1 a3 a4 s0 s1 : Int} {u5 : zV} (hk : zKd sh s2 = 20) (h0 : 0 ≤ s1) (h1 : s1 < zLn sh s2) : zS 47 21 [zR a0, zI a1, zR a2, zI a3, zI a4, u5] [zI s0, zI s1, zR s2] sh pp mm Q ↔ zS 47 22 [zR a0, zI a1, zR a2, zI a3, zI a4, zU] [] sh pp (zupd mm s2 s1 s0) Q := s_go cL_fewestFrom_21 cL_fewestFrom_22 (if_pos ⟨hk, h0, h1, fun h => absurd h (by decide)⟩) rfl
theorem rL_fewestFrom_22 {a0 a2 : Nat} {a1 a3 a4 : Int} {u5 : zV} : zS 47 22 [zR a0, zI a1, zR a2, zI a3, zI a4, u5] [] sh pp mm Q ↔ zS 47 25 [zR a0, zI a1, zR a2, zI a3, zI (zw32 (a4 + 1)), zU] [] sh pp mm Q := s_go cL_fewestFrom_22 cL_fewestFrom_25 rfl rfl
theorem rL_fewestFrom_25 {a0 a2 : Nat} {a1 a3 a4 : Int} {u5 : zV} : zS 47 25 [zR a0, zI a1, zR a2, zI a3, zI a4, u5] [] sh pp mm Q ↔ zS 47 8 [zR a0, zI a1, zR a2, zI a3, zI a4, zU] [] sh pp mm Q := s_go cL_fewestFrom_25 cL_fewestFrom_8 rfl rfl
theorem rL_fewestFrom_28 {a0 a2 : Nat} {a1 a3 : Int} {u4 u5 : zV} : zS 47 28 [zR a0, zI a1, zR a2, zI a3, u4, u5] [] sh pp mm Q ↔ zS 47 29 [zR a0, zI a1, zR a2, zI a3, zU, zU] [zR a0] sh pp mm Q := s_go cL_fewestFrom_28 cL_fewestFrom_29 rfl rfl
theorem rL_fewestFrom_29 {a0 a2 s0 : Nat} {a1 a3 : Int} {u4 u5 : zV} : zS 47 29 [zR a0, zI a1, zR a2, zI a3, u4, u5] [zR s0] sh pp mm Q ↔ zS 47 30 [zR a0, zI a1, zR a2, zI a3, zU, zU] [zI 0, zR s0] sh pp mm Q := s_go cL_fewestFrom_29 cL_fewestFrom_30 rfl rfl
theorem rL_fewestFrom_30 {a0 a2 s1 : Nat} {a1 a3 s0 : Int} {u4 u5 : zV} : zS 47 30 [zR a0, zI a1, zR a2, zI a3, u4, u5] [zI s0, zR s1] sh pp mm Q ↔ zS 47 31 [zR a0, zU, zR a2, zI a3, zU, zU] [zI a1, zI s0, zR s1] sh pp mm Q := s_go cL_fewestFrom_30 cL_fewestFrom_31 rfl rfl
theorem rL_fewestFrom_31 {a0 a2 s2 : Nat} {a3 s0 s1 : Int} {u1 u4 u5 : zV} (hk : zKd sh s2 = 5) : zS 47 31 [zR a0, u1, zR a2, zI a3, u4, u5] [zI s0, zI s1, zR s2] sh pp mm Q ↔ zS 48 0 [zR s2, zI s1, zI s0, zU] [] sh pp mm (fun v sh pp mm => zS 47 34 [zR a0, zU, zR a2, zI a3, zU, zU] (zPush v []) sh pp mm Q) := s_call cL_fewestFrom_31 cL_fewestFrom_34 ((if_pos hk).trans rfl) rfl
theorem rL_fewestFrom_34 {a0 a2 : Nat} {a3 : Int} {u1 u4 u5 : zV} : zS 47 34 [zR a0, u1, zR a2, zI a3, u4, u5] [] sh pp mm Q ↔ zS 47 35 [zR a0, zU, zR a2, zI a3, zU, zU] [zR a0] sh pp mm Q := s_go cL_fewestFrom_34 cL_fewestFrom_35 rfl rfl
theorem rL_fewestFrom_35 {a0 a2 s0 : Nat} {a3 : Int} {u1 u4 u5 : zV} (hk : zKd sh s0 = 5) : zS 47 35 [zR a0, u1, zR a2, zI a3, u4, u5] [zR s0] sh pp mm Q ↔ zS 47 38 [zR a0, zU, zR a2, zI a3, zU, zU] [zR (pp s0 1)] sh pp mm Q := s_go cL_fewestFrom_35 cL_fewestFrom_38 (if_pos hk) rfl
theorem rL_fewestFrom_38 {a0 a2 s0 : Nat} {a3 : Int} {u1 u4 u5 : zV} : zS 47 38 [zR a0, u1, zR a2, zI a3, u4, u5] [zR s0] sh pp mm Q ↔ zS 47 39 [zR a0, zU, zR a2, zI a3, zU, zU] [zI 0, zR s0] sh pp mm Q := s_go cL_fewestFrom_38 cL_fewestFrom_39 rfl rfl
theorem rL_fewestFrom_39 {a0 a2 s1 : Nat} {a3 s0 : Int} {u1 u4 u5 : zV} : zS 47 39 [zR a0, u1, zR a2, zI a3, u4, u5] [zI s0, zR s1] sh pp mm Q ↔ zS 47 40 [zR a0, zU, zR a2, zI a3, zU, zU] [zI 0, zI s0, zR s1] sh pp mm Q := s_go cL_fewestFrom_39 cL_fewestFrom_40 rfl rfl
theorem rL_fewestFrom_40 {a0 a2 s2 : Nat} {a3 s0 s1 : Int} {u1 u4 u5 : zV} (hk : zKd sh s2 = 20) (h0 : 0 ≤ s1) (h1 : s1 < zLn sh s2) : zS 47 40 [zR a0, u1, zR a2, zI a3, u4, u5] [zI s0, zI s1, zR s2] sh pp mm Q ↔ zS 47 41 [zR a0, zU, zR a2, zI a3, zU, zU] [] sh pp (zupd mm s2 s1 s0) Q := s_go cL_fewestFrom_40 cL_fewestFrom_41 (if_pos ⟨hk, h0, h1, fun h => absurd h (by decide)⟩) rfl
theorem rL_fewestFrom_41 {a0 a2 : Nat} {a3 : Int} {u1 u4 u5 : zV} : zS 47 41 [zR a0, u1, zR a2, zI a3, u4, u5] [] sh pp mm Q ↔ zS 47 42 [zR a0, zU, zR a2, zI a3, zU, zU] [zI 0] sh pp mm Q := s_go cL_fewestFrom_41 cL_fewestFrom_42 rfl rfl
theorem rL_fewestFrom_42 {a0 a2 : Nat} {a3 s0 : Int} {u1 u4 u5 : zV} : zS 47 42 [zR a0, u1, zR a2, zI a3, u4, u5] [zI s0] sh pp mm Q ↔ zS 47 44 [zR a0, zU, zR a2, zI a3, zI s0, zU] [] sh pp mm Q := s_go cL_fewestFrom_42 cL_fewestFrom_44 rfl rfl
theorem rL_fewestFrom_44 {a0 a2 : Nat} {a3 a4 : Int} {u1 u5 : zV} : zS 47 44 [zR a0, u1, zR a2, zI a3, zI a4, u5] [] sh pp mm Q ↔ zS 47 46 [zR a0, zU, zR a2, zI a3, zI a4, zU] [zI a4] sh pp mm Q := s_go cL_fewestFrom_44 cL_fewestFrom_46 rfl rfl
theorem rL_fewestFrom_46 {a0 a2 : Nat} {a3 a4 s0 : Int} {u1 u5 : zV} : zS 47 46 [zR a0, u1, zR a2, zI a3, zI a4, u5] [zI s0] sh pp mm Q ↔ zS 47 47 [zR a0, zU, zR a2, zI a3, zI a4, zU] [zI a3, zI s0] sh pp mm Q := s_go cL_fewestFrom_46 cL_fewestFrom_47 rfl rfl
theorem rL_fewestFrom_47 {a0 a2 : Nat} {a3 a4 s0 s1 : Int} {u1 u5 : zV} : zS 47 47 [zR a0, u1, zR a2, zI a3, zI a4, u5] [zI s0, zI s1] sh pp mm Q ↔ (s1 < s0 → zS 47 50 [zR a0, zU, zR a2, zI a3, zI a4, zU] [] sh pp mm Q) ∧ (¬ s1 < s0 → zS 47 74 [zR a0, zU, zU, zI a3, zU, zU] [] sh pp mm Q) := s_ifn cL_fewestFrom_47 cL_fewestFrom_50 cL_fewestFrom_74 rfl rfl rfl
theorem rL_fewestFrom_50 {a0 a2 : Nat} {a3 a4 : Int} {u1 u5 : zV} : zS 47 50 [zR a0, u1, zR a2, zI a3, zI a4, u5] [] sh pp mm Q ↔ zS 47 51 [zR a0, zU, zR a2, zI a3, zI a4, zU] [zR a0] sh pp mm Q := s_go cL_fewestFrom_50 cL_fewestFrom_51 rfl rfl
theorem rL_fewestFrom_51 {a0 a2 s0 : Nat} {a3 a4 : Int} {u1 u5 : zV} (hk : zKd sh s0 = 5) : zS 47 51 [zR a0, u1, zR a2, zI a3, zI a4, u5] [zR s0] sh pp mm Q ↔ zS 47 54 [zR a0, zU, zR a2, zI a3, zI a4, zU] [zR (pp s0 0)] sh pp mm Q := s_go cL_fewestFrom_51 cL_fewestFrom_54 (if_pos hk) rfl
theorem rL_fewestFrom_54 {a0 a2 s0 : Nat} {a3 a4 : Int} {u1 u5 : zV} : zS 47 54 [zR a0, u1, zR a2, zI a3, zI a4, u5] [zR s0] sh pp mm Q ↔ zS 47 56 [zR a0, zU, zR a2, zI a3, zI a4, zU] [zI a4, zR s0] sh pp mm Q := s_go cL_fewestFrom_54 cL_fewestFrom_56 rfl rfl
theorem rL_fewestFrom_56 {a0 a2 s1 : Nat} {a3 a4 s0 : Int} {u1 u5 : zV} (hk : zKd sh s1 = 20 ∨ zKd sh s1 = 30) (h0 : 0 ≤ s0) (h1 : s0 < zLn sh s1) : zS 47 56 [zR a0, u1, zR a2, zI a3, zI a4, u5] [zI s0, zR s1] sh pp mm Q ↔ zS 47 57 [zR a0, zU, zR a2, zI a3, zI a4, zU] [zI (mm s1 s0)] sh pp mm Q := s_go cL_fewestFrom_56 cL_fewestFrom_57 (if_pos ⟨hk, h0, h1⟩) rfl
theorem rL_fewestFrom_57 {a0 a2 : Nat} {a3 a4 s0 : Int} {u1 u5 : zV} : zS 47 57 [zR a0, u1, zR a2, zI a3, zI a4, u5] [zI s0] sh pp mm Q ↔ zS 47 58 [zR a0, zU, zR a2, zI a3, zI a4, zU] [zI (-1), zI s0] sh pp mm Q := s_go cL_fewestFrom_57 cL_fewestFrom_58 rfl rfl
theorem rL_fewestFrom_58 {a0 a2 : Nat} {a3 a4 s0 s1 : Int} {u1 u5 : zV} : zS 47 58 [zR a0, u1, zR a2, zI a3, zI a4, u5] [zI s0, zI s1] sh pp mm Q ↔ (s1 = s0 → zS 47 68 [zR a0, zU, zR a2, zI a3, zI a4, zU] [] sh pp mm Q) ∧ (¬ s1 = s0 → zS 47 61 [zR a0, zU, zR a2, zI a3, zI a4, zU] [] sh pp mm Q) := s_if cL_fewestFrom_58 cL_fewestFrom_68 cL_fewestFrom_61 rfl rfl rfl
theorem rL_fewestFrom_61 {a0 a2 : Nat} {a3 a4 : Int} {u1 u5 : zV} : zS 47 61 [zR a0, u1, zR a2, zI a3, zI a4, u5] [] sh pp mm Q ↔ zS 47 62 [zR a0, zU, zR a2, zI a3, zI a4, zU] [zR a0] sh pp mm Q := s_go cL_fewestFrom_61 cL_fewestFrom_62 rfl rfl
theorem rL_fewestFrom_62 {a0 a2 s0 : Nat} {a3 a4 : Int} {u1 u5 : zV} : zS 47 62 [zR a0, u1, zR a2, zI a3, zI a4, u5] [zR s0] sh pp mm Q ↔ zS 47 64 [zR a0, zU, zR a2, zI a3, zI a4, zU] [zI a4, zR s0] sh pp mm Q := s_go cL_fewestFrom_62 cL_fewestFrom_64 rfl rfl
theorem rL_fewestFrom_64 {a0 a2 s1 : Nat} {a3 a4 s0 : Int} {u1 u5 : zV} : zS 47 64 [zR a0, u1, zR a2, zI a3, zI a4, u5] [zI s0, zR s1] sh pp mm Q ↔ zS 47 65 [zR a0, zU, zR a2, zI a3, zI a4, zU] [zR a2, zI s0, zR s1] sh pp mm Q := s_go cL_fewestFrom_64 cL_fewestFrom_65 rfl rfl
theorem rL_fewestFrom_65 {a0 a2 s0 s2 : Nat} {a3 a4 s1 : Int} {u1 u5 : zV} (hk : zKd sh s2 = 5) : zS 47 65 [zR a0, u1, zR a2, zI a3, zI a4, u5] [zR s0, zI s1, zR s2] sh pp mm Q ↔ zS 49 0 [zR s2, zI s1, zR s0, zU, zU, zU, zU, zU] [] sh pp mm (fun v sh pp mm => zS 47 68 [zR a0, zU, zR a2, zI a3, zI a4, zU] (zPush v []) sh pp mm Q) := s_call cL_fewestFrom_65 cL_fewestFrom_68 ((if_pos hk).trans rfl) rfl
theorem rL_fewestFrom_68 {a0 a2 : Nat} {a3 a4 : Int} {u1 u5 : zV} : zS 47 68 [zR a0, u1, zR a2, zI a3, zI a4, u5] [] sh pp mm Q ↔ zS 47 71 [zR a0, zU, zR a2, zI a3, zI (zw32 (a4 + 1)), zU] [] sh pp mm Q := s_go cL_fewestFrom_68 cL_fewestFrom_71 rfl rfl
theorem rL_fewestFrom_71 {a0 a2 : Nat} {a3 a4 : Int} {u1 u5 : zV} : zS 47 71 [zR a0, u1, zR a2, zI a3, zI a4, u5] [] sh pp mm Q ↔ zS 47 44 [zR a0, zU, zR a2, zI a3, zI a4, zU] [] sh pp mm Q := s_go cL_fewestFrom_71 cL_fewestFrom_44 rfl rfl
theorem rL_fewestFrom_74 {a0 : Nat} {a3 : Int} {u1 u2 u4 u5 : zV} : zS 47 74 [zR a0, u1, u2, zI a3, u4, u5] [] sh pp mm Q ↔ zS 47 76 [zR a0, zU, zU, zI a3, zU, zU] [zI 1000000] sh pp mm Q := s_go cL_fewestFrom_74 cL_fewestFrom_76 rfl rfl
theorem rL_fewestFrom_76 {a0 : Nat} {a3 s0 : Int} {u1 u2 u4 u5 : zV} : zS 47 76 [zR a0, u1, u2, zI a3, u4, u5] [zI s0] sh pp mm Q ↔ zS 47 78 [zR a0, zU, zU, zI a3, zI s0, zU] [] sh pp mm Q := s_go cL_fewestFrom_76 cL_fewestFrom_78 rfl rfl
theorem rL_fewestFrom_78 {a0 : Nat} {a3 a4 : Int} {u1 u2 u5 : zV} : zS 47 78 [zR a0, u1, u2, zI a3, zI a4, u5] [] sh pp mm Q ↔ zS 47 79 [zR a0, zU, zU, zI a3, zI a4, zU] [zI 0] sh pp mm Q := s_go cL_fewestFrom_78 cL_fewestFrom_79 rfl rfl
theorem rL_fewestFrom_79 {a0 : Nat} {a3 a4 s0 : Int} {u1 u2 u5 : zV} : zS 47 79 [zR a0, u1, u2, zI a3, zI a4, u5] [zI s0] sh pp mm Q ↔ zS 47 81 [zR a0, zU, zU, zI a3, zI a4, zI s0] [] sh pp mm Q := s_go cL_fewestFrom_79 cL_fewestFrom_81 rfl rfl
theorem rL_fewestFrom_81 {a0 : Nat} {a3 a4 a5 : Int} {u1 u2 : zV} : zS 47 81 [zR a0, u1, u2, zI a3, zI a4, zI a5] [] sh pp mm Q ↔ zS 47 83 [zR a0, zU, zU, zI a3, zI a4, zI a5] [zI a5] sh pp mm Q := s_go cL_fewestFrom_81 cL_fewestFrom_83 rfl rfl
theorem rL_fewestFrom_83 {a0 : Nat} {a3 a4 a5 s0 : Int} {u1 u2 : zV} : zS 47 83 [zR a0, u1, u2, zI a3, zI a4, zI a5] [zI s0] sh pp mm Q ↔ zS 47 85 [zR a0, zU, zU, zI a3, zI a4, zI a5] [zI 9, zI s0] sh pp mm Q := s_go cL_fewestFrom_83 cL_fewestFrom_85 rfl rfl
theorem rL_fewestFrom_85 {a0 : Nat} {a3 a4 a5 s0 s1 : Int} {u1 u2 : zV} : zS 47 85 [zR a0, u1, u2, zI a3, zI a4, zI a5] [zI s0, zI s1] sh pp mm Q ↔ (s1 < s0 → zS 47 88 [zR a0, zU, zU, zI a3, zI a4, zI a5] [] sh pp mm Q) ∧ (¬ s1 < s0 → zS 47 123 [zU, zU, zU, zU, zI a4, zU] [] sh pp mm Q) := s_ifn cL_fewestFrom_85 cL_fewestFrom_88 cL_fewestFrom_123 rfl rfl rfl
theorem rL_fewestFrom_88 {a0 : Nat} {a3 a4 a5 : Int} {u1 u2 : zV} : zS 47 88 [zR a0, u1, u2, zI a3, zI a4, zI a5] [] sh pp mm Q ↔ zS 47 89 [zR a0, zU, zU, zI a3, zI a4, zI a5] [zR a0] sh pp mm Q := s_go cL_fewestFrom_88 cL_fewestFrom_89 rfl rfl
theorem rL_fewestFrom_89 {a0 s0 : Nat} {a3 a4 a5 : Int} {u1 u2 : zV} (hk : zKd sh s0 = 5) : zS 47 89 [zR a0, u1, u2, zI a3, zI a4, zI a5] [zR s0] sh pp mm Q ↔ zS 47 92 [zR a0, zU, zU, zI a3, zI a4, zI a5] [zR (pp s0 0)] sh pp mm Q := s_go cL_fewestFrom_89 cL_fewestFrom_92 (if_pos hk) rfl
theorem rL_fewestFrom_92 {a0 s0 : Nat} {a3 a4 a5 : Int} {u1 u2 : zV} : zS 47 92 [zR a0, u1, u2, zI a3, zI a4, zI a5] [zR s0] sh pp mm Q ↔ zS 47 93 [zR a0, zU, zU, zI a3, zI a4, zI a5] [zI a3, zR s0] sh pp mm Q := s_go cL_fewestFrom_92 cL_fewestFrom_93 rfl rfl
theorem rL_fewestFrom_93 {a0 s1 : Nat} {a3 a4 a5 s0 : Int} {u1 u2 : zV} (hk : zKd sh s1 = 20 ∨ zKd sh s1 = 30) (h0 : 0 ≤ s0) (h1 : s0 < zLn sh s1) : zS 47 93 [zR a0, u1, u2, zI a3, zI a4, zI a5] [zI s0, zR s1] sh pp mm Q ↔ zS 47 94 [zR a0, zU, zU, zI a3, zI a4, zI a5] [zI (mm s1 s0)] sh pp mm Q := s_go cL_fewestFrom_93 cL_fewestFrom_94 (if_pos ⟨hk, h0, h1⟩) rfl
theorem rL_fewestFrom_94 {a0 : Nat} {a3 a4 a5 s0 : Int} {u1 u2 : zV} : zS 47 94 [zR a0, u1, u2, zI a3, zI a4, zI a5] [zI s0] sh pp mm Q ↔ zS 47 95 [zR a0, zU, zU, zI a3, zI a4, zI a5] [zI (-1), zI s0] sh pp mm Q := s_go cL_fewestFrom_94 cL_fewestFrom_95 rfl rfl
theorem rL_fewestFrom_95 {a0 : Nat} {a3 a4 a5 s0 s1 : Int} {u1 u2 : zV} : zS 47 95 [zR a0, u1, u2, zI a3, zI a4, zI a5] [zI s0, zI s1] sh pp mm Q ↔ (s1 = s0 → zS 47 123 [zU, zU, zU, zU, zI a4, zU] [] sh pp mm Q) ∧ (¬ s1 = s0 → zS 47 98 [zR a0, zU, zU, zI a3, zI a4, zI a5] [] sh pp mm Q) := s_if cL_fewestFrom_95 cL_fewestFrom_123 cL_fewestFrom_98 rfl rfl rfl
theorem rL_fewestFrom_98 {a0 : Nat} {a3 a4 a5 : Int} {u1 u2 : zV} : zS 47 98 [zR a0, u1, u2, zI a3, zI a4, zI a5] [] sh pp mm Q ↔ zS 47 100 [zR a0, zU, zU, zI a3, zU, zI a5] [zI a4] sh pp mm Q := s_go cL_fewestFrom_98 cL_fewestFrom_100 rfl rfl
theorem rL_fewestFrom_100 {a0 : Nat} {a3 a5 s0 : Int} {u1 u2 u4 : zV} : zS 47 100 [zR a0, u1, u2, zI a3, u4, zI a5] [zI s0] sh pp mm Q ↔ zS 47 101 [zR a0, zU, zU, zI a3, zU, zI a5] [zR a0, zI s0] sh pp mm Q := s_go cL_fewestFrom_100 cL_fewestFrom_101 rfl rfl
theorem rL_fewestFrom_101 {a0 s0 : Nat} {a3 a5 s1 : Int} {u1 u2 u4 : zV} (hk : zKd sh s0 = 5) : zS 47 101 [zR a0, u1, u2, zI a3, u4, zI a5] [zR s0, zI s1] sh pp mm Q ↔ zS 47 104 [zR a0, zU, zU, zI a3, zU, zI a5] [zR (pp s0 1), zI s1] sh pp mm Q := s_go cL_fewestFrom_101 cL_fewestFrom_104 (if_pos hk) rfl
theorem rL_fewestFrom_104 {a0 s0 : Nat} {a3 a5 s1 : Int} {u1 u2 u4 : zV} : zS 47 104 [zR a0, u1, u2, zI a3, u4, zI a5] [zR s0, zI s1] sh pp mm Q ↔ zS 47 105 [zR a0, zU, zU, zI a3, zU, zI a5] [zI a3, zR s0, zI s1] sh pp mm Q := s_go cL_fewestFrom_104 cL_fewestFrom_105 rfl rfl
theorem rL_fewestFrom_105 {a0 s1 : Nat} {a3 a5 s0 s2 : Int} {u1 u2 u4 : zV} : zS 47 105 [zR a0, u1, u2, zI a3, u4, zI a5] [zI s0, zR s1, zI s2] sh pp mm Q ↔ zS 47 107 [zR a0, zU, zU, zI a3, zU, zI a5] [zI 9, zI s0, zR s1, zI s2] sh pp mm Q := s_go cL_fewestFrom_105 cL_fewestFrom_107 rfl rfl
theorem rL_fewestFrom_107 {a0 s2 : Nat} {a3 a5 s0 s1 s3 : Int} {u1 u2 u4 : zV} : zS 47 107 [zR a0, u1, u2, zI a3, u4, zI a5] [zI s0, zI s1, zR s2, zI s3] sh pp mm Q ↔ zS 47 108 [zR a0, zU, zU, zI a3, zU, zI a5] [zI (zw32 (s1 * s0)), zR s2, zI s3] sh pp mm Q := s_go cL_fewestFrom_107 cL_fewestFrom_108 rfl rfl
theorem rL_fewestFrom_108 {a0 s1 : Nat} {a3 a5 s0 s2 : Int} {u1 u2 u4 : zV} : zS 47 108 [zR a0, u1, u2, zI a3, u4, zI a5] [zI s0, zR s1, zI s2] sh pp mm Q ↔ zS 47 110 [zR a0, zU, zU, zI a3, zU, zI a5] [zI a5, zI s0, zR s1, zI s2] sh pp mm Q := s_go cL_fewestFrom_108 cL_fewestFrom_110 rfl rfl
theorem rL_fewestFrom_110 {a0 s2 : Nat} {a3 a5 s0 s1 s3 : Int} {u1 u2 u4 : zV} : zS 47 110 [zR a0, u1, u2, zI a3, u4, zI a5] [zI s0, zI s1, zR s2, zI s3] sh pp mm Q ↔ zS 47 111 [zR a0, zU, zU, zI a3, zU, zI a5] [zI (zw32 (s1 + s0)), zR s2, zI s3] sh pp mm Q := s_go cL_fewestFrom_110 cL_fewestFrom_111 rfl rfl
theorem rL_fewestFrom_111 {a0 s1 : Nat} {a3 a5 s0 s2 : Int} {u1 u2 u4 : zV} (hk : zKd sh s1 = 20 ∨ zKd sh s1 = 30) (h0 : 0 ≤ s0) (h1 : s0 < zLn sh s1) : zS 47 111 [zR a0, u1, u2, zI a3, u4, zI a5] [zI s0, zR s1, zI s2] sh pp mm Q ↔ zS 47 112 [zR a0, zU, zU, zI a3, zU, zI a5] [zI (mm s1 s0), zI s2] sh pp mm Q := s_go cL_fewestFrom_111 cL_fewestFrom_112 (if_pos ⟨hk, h0, h1⟩) rfl
theorem rL_fewestFrom_112 {a0 : Nat} {a3 a5 s0 s1 : Int} {u1 u2 u4 : zV} : zS 47 112 [zR a0, u1, u2, zI a3, u4, zI a5] [zI s0, zI s1] sh pp mm Q ↔ zS 260 0 [zI s1, zI s0] [] sh pp mm (fun v sh pp mm => zS 47 115 [zR a0, zU, zU, zI a3, zU, zI a5] (zPush v []) sh pp mm Q) := s_call cL_fewestFrom_112 cL_fewestFrom_115 rfl rfl
theorem rL_fewestFrom_115 {a0 : Nat} {a3 a5 s0 : Int} {u1 u2 u4 : zV} : zS 47 115 [zR a0, u1, u2, zI a3, u4, zI a5] [zI s0] sh pp mm Q ↔ zS 47 117 [zR a0, zU, zU, zI a3, zI s0, zI a5] [] sh pp mm Q := s_go cL_fewestFrom_115 cL_fewestFrom_117 rfl rfl
theorem rL_fewestFrom_117 {a0 : Nat} {a3 a4 a5 : Int} {u1 u2 : zV} : zS 47 117 [zR a0, u1, u2, zI a3, zI a4, zI a5] [] sh pp mm Q ↔ zS 47 120 [zR a0, zU, zU, zI a3, zI a4, zI (zw32 (a5 + 1))] [] sh pp mm Q := s_go cL_fewestFrom_117 cL_fewestFrom_120 rfl rfl
theorem rL_fewestFrom_120 {a0 : Nat} {a3 a4 a5 : Int} {u1 u2 : zV} : zS 47 120 [zR a0, u1, u2, zI a3, zI a4, zI a5] [] sh pp mm Q ↔ zS 47 81 [zR a0, zU, zU, zI a3, zI a4, zI a5] [] sh pp mm Q := s_go cL_fewestFrom_120 cL_fewestFrom_81 rfl rfl
theorem rL_fewestFrom_123 {a4 : Int} {u0 u1 u2 u3 u5 : zV} : zS 47 123 [u0, u1, u2, u3, zI a4, u5] [] sh pp mm Q ↔ zS 47 125 [zU, zU, zU, zU, zU, zU] [zI a4] sh pp mm Q := s_go cL_fewestFrom_123 cL_fewestFrom_125 rfl rfl
theorem rL_fewestFrom_125 {s0 : Int} {u0 u1 u2 u3 u4 u5 : zV} : zS 47 125 [u0, u1, u2, u3, u4, u5] [zI s0] sh pp mm Q ↔ Q (zI s0) sh pp mm := s_ret cL_fewestFrom_125 rfl
theorem cAL_come : ∀ q ∈ zT48, zCode 48 q.1 = some q.2 := zAll (mid := 48) rfl (by decide +kernel)
theorem cAL_come_0 : ∀ q ∈ zT48_0, zCode 48 q.1 = some q.2 := fun q h => cAL_come q (List.mem_append_left _ h)
theorem cAL_come_1 : ∀ q ∈ zT48_1, zCode 48 q.1 = some q.2 := fun q h => cAL_come q (List.mem_append_right _ h)
theorem cL_come_0 : zCode 48 0 = some (.aload_n 0, 1, 0, 0, 0, 0, 7) := cAL_come_0 _ (List.mem_of_getElem? (i := 0) rfl)
theorem cL_come_1 : zCode 48 1 = some (.getfield 9, 4, 5, 0, 2, 931, 7) := cAL_come_0 _ (List.mem_of_getElem? (i := 1) rfl)
theorem cL_come_4 : zCode 48 4 = some (.iload_n 1, 5, 0, 0, 0, 0, 7) := cAL_come_0 _ (List.mem_of_getElem? (i := 2) rfl)
theorem cL_come_5 : zCode 48 5 = some (.iaload, 6, 0, 0, 0, 0, 7) := cAL_come_0 _ (List.mem_of_getElem? (i := 3) rfl)
theorem cL_come_6 : zCode 48 6 = some (.iconst (-1), 7, 0, 0, 0, 0, 7) := cAL_come_0 _ (List.mem_of_getElem? (i := 4) rfl)
theorem cL_come_7 : zCode 48 7 = some (.if_icmp .ne 37, 10, 44, 0, 0, 0, 7) := cAL_come_0 _ (List.mem_of_getElem? (i := 5) rfl)
theorem cL_come_10 : zCode 48 10 = some (.aload_n 0, 11, 0, 0, 0, 0, 7) := cAL_come_0 _ (List.mem_of_getElem? (i := 6) rfl)
theorem cL_come_11 : zCode 48 11 = some (.getfield 9, 14, 5, 0, 2, 931, 7) := cAL_come_0 _ (List.mem_of_getElem? (i := 7) rfl)
theorem cL_come_14 : zCode 48 14 = some (.iload_n 1, 15, 0, 0, 0, 0, 7) := cAL_come_0 _ (List.mem_of_getElem? (i := 8) rfl)
theorem cL_come_15 : zCode 48 15 = some (.iload_n 2, 16, 0, 0, 0, 0, 7) := cAL_come_0 _ (List.mem_of_getElem? (i := 9) rfl)
theorem cL_come_16 : zCode 48 16 = some (.iastore, 17, 0, 0, 0, 0, 3) := cAL_come_0 _ (List.mem_of_getElem? (i := 10) rfl)
theorem cL_come_17 : zCode 48 17 = some (.iconst 0, 18, 0, 0, 0, 0, 3) := cAL_come_0 _ (List.mem_of_getElem? (i := 11) rfl)
theorem cL_come_18 : zCode 48 18 = some (.istore_n 3, 19, 0, 0, 0, 0, 3) := cAL_come_0 _ (List.mem_of_getElem? (i := 12) rfl)
theorem cL_come_19 : zCode 48 19 = some (.iload_n 3, 20, 0, 0, 0, 0, 11) := cAL_come_0 _ (List.mem_of_getElem? (i := 13) rfl)
theorem cL_come_20 : zCode 48 20 = some (.bipush 9, 22, 0, 0, 0, 0, 11) := cAL_come_0 _ (List.mem_of_getElem? (i := 14) rfl)
theorem cL_come_22 : zCode 48 22 = some (.if_icmp .ge 22, 25, 44, 0, 0, 0, 11) := cAL_come_0 _ (List.mem_of_getElem? (i := 15) rfl)
theorem cL_come_25 : zCode 48 25 = some (.aload_n 0, 26, 0, 0, 0, 0, 11) := cAL_come_1 _ (List.mem_of_getElem? (i := 0) rfl)
theorem cL_come_26 : zCode 48 26 = some (.getfield 16, 29, 5, 1, 2, 932, 11) := cAL_come_1 _ (List.mem_of_getElem? (i := 1) rfl)
theorem cL_come_29 : zCode 48 29 = some (.iload_n 1, 30, 0, 0, 0, 0, 11) := cAL_come_1 _ (List.mem_of_getElem? (i := 2) rfl)
theorem cL_come_30 : zCode 48 30 = some (.bipush 9, 32, 0, 0, 0, 0, 11) := cAL_come_1 _ (List.mem_of_getElem? (i := 3) rfl)
theorem cL_come_32 : zCode 48 32 = some (.imul, 33, 0, 0, 0, 0, 11) := cAL_come_1 _ (List.mem_of_getElem? (i := 4) rfl)
theorem cL_come_33 : zCode 48 33 = some (.iload_n 3, 34, 0, 0, 0, 0, 11) := cAL_come_1 _ (List.mem_of_getElem? (i := 5) rfl)
theorem cL_come_34 : zCode 48 34 = some (.iadd, 35, 0, 0, 0, 0, 11) := cAL_come_1 _ (List.mem_of_getElem? (i := 6) rfl)
theorem cL_come_35 : zCode 48 35 = some (.ldc 33, 37, 0, 0, 948, 1000000, 11) := cAL_come_1 _ (List.mem_of_getElem? (i := 7) rfl)
theorem cL_come_37 : zCode 48 37 = some (.iastore, 38, 0, 0, 0, 0, 11) := cAL_come_1 _ (List.mem_of_getElem? (i := 8) rfl)
theorem cL_come_38 : zCode 48 38 = some (.iinc 3 1, 41, 0, 0, 0, 0, 11) := cAL_come_1 _ (List.mem_of_getElem? (i := 9) rfl)
theorem cL_come_41 : zCode 48 41 = some (.goto (-22), 44, 19, 0, 0, 0, 11) := cAL_come_1 _ (List.mem_of_getElem? (i := 10) rfl)
theorem cL_come_44 : zCode 48 44 = some (.return_, 45, 0, 0, 0, 0, 0) := cAL_come_1 _ (List.mem_of_getElem? (i := 11) rfl)
theorem rL_come_0 {a0 : Nat} {a1 a2 : Int} {u3 : zV} : zS 48 0 [zR a0, zI a1, zI a2, u3] [] sh pp mm Q ↔ zS 48 1 [zR a0, zI a1, zI a2, zU] [zR a0] sh pp mm Q := s_go cL_come_0 cL_come_1 rfl rfl
theorem rL_come_1 {a0 s0 : Nat} {a1 a2 : Int} {u3 : zV} (hk : zKd sh s0 = 5) : zS 48 1 [zR a0, zI a1, zI a2, u3] [zR s0] sh pp mm Q ↔ zS 48 4 [zR a0, zI a1, zI a2, zU] [zR (pp s0 0)] sh pp mm Q := s_go cL_come_1 cL_come_4 (if_pos hk) rfl
theorem rL_come_4 {a0 s0 : Nat} {a1 a2 : Int} {u3 : zV} : zS 48 4 [zR a0, zI a1, zI a2, u3] [zR s0] sh pp mm Q ↔ zS 48 5 [zR a0, zI a1, zI a2, zU] [zI a1, zR s0] sh pp mm Q := s_go cL_come_4 cL_come_5 rfl rfl
theorem rL_come_5 {a0 s1 : Nat} {a1 a2 s0 : Int} {u3 : zV} (hk : zKd sh s1 = 20 ∨ zKd sh s1 = 30) (h0 : 0 ≤ s0) (h1 : s0 < zLn sh s1) : zS 48 5 [zR a0, zI a1, zI a2, u3] [zI s0, zR s1] sh pp mm Q ↔ zS 48 6 [zR a0, zI a1, zI a2, zU] [zI (mm s1 s0)] sh pp mm Q := s_go cL_come_5 cL_come_6 (if_pos ⟨hk, h0, h1⟩) rfl
theorem rL_come_6 {a0 : Nat} {a1 a2 s0 : Int} {u3 : zV} : zS 48 6 [zR a0, zI a1, zI a2, u3] [zI s0] sh pp mm Q ↔ zS 48 7 [zR a0, zI a1, zI a2, zU] [zI (-1), zI s0] sh pp mm Q := s_go cL_come_6 cL_come_7 rfl rfl
theorem rL_come_7 {a0 : Nat} {a1 a2 s0 s1 : Int} {u3 : zV} : zS 48 7 [zR a0, zI a1, zI a2, u3] [zI s0, zI s1] sh pp mm Q ↔ (s1 = s0 → zS 48 10 [zR a0, zI a1, zI a2, zU] [] sh pp mm Q) ∧ (¬ s1 = s0 → zS 48 44 [zU, zU, zU, zU] [] sh pp mm Q) := s_ifn cL_come_7 cL_come_10 cL_come_44 rfl rfl rfl
theorem rL_come_10 {a0 : Nat} {a1 a2 : Int} {u3 : zV} : zS 48 10 [zR a0, zI a1, zI a2, u3] [] sh pp mm Q ↔ zS 48 11 [zR a0, zI a1, zI a2, zU] [zR a0] sh pp mm Q := s_go cL_come_10 cL_come_11 rfl rfl
theorem rL_come_11 {a0 s0 : Nat} {a1 a2 : Int} {u3 : zV} (hk : zKd sh s0 = 5) : zS 48 11 [zR a0, zI a1, zI a2, u3] [zR s0] sh pp mm Q ↔ zS 48 14 [zR a0, zI a1, zI a2, zU] [zR (pp s0 0)] sh pp mm Q := s_go cL_come_11 cL_come_14 (if_pos hk) rfl
theorem rL_come_14 {a0 s0 : Nat} {a1 a2 : Int} {u3 : zV} : zS 48 14 [zR a0, zI a1, zI a2, u3] [zR s0] sh pp mm Q ↔ zS 48 15 [zR a0, zI a1, zI a2, zU] [zI a1, zR s0] sh pp mm Q := s_go cL_come_14 cL_come_15 rfl rfl
theorem rL_come_15 {a0 s1 : Nat} {a1 a2 s0 : Int} {u3 : zV} : zS 48 15 [zR a0, zI a1, zI a2, u3] [zI s0, zR s1] sh pp mm Q ↔ zS 48 16 [zR a0, zI a1, zU, zU] [zI a2, zI s0, zR s1] sh pp mm Q := s_go cL_come_15 cL_come_16 rfl rfl
theorem rL_come_16 {a0 s2 : Nat} {a1 s0 s1 : Int} {u2 u3 : zV} (hk : zKd sh s2 = 20) (h0 : 0 ≤ s1) (h1 : s1 < zLn sh s2) : zS 48 16 [zR a0, zI a1, u2, u3] [zI s0, zI s1, zR s2] sh pp mm Q ↔ zS 48 17 [zR a0, zI a1, zU, zU] [] sh pp (zupd mm s2 s1 s0) Q := s_go cL_come_16 cL_come_17 (if_pos ⟨hk, h0, h1, fun h => absurd h (by decide)⟩) rfl
theorem rL_come_17 {a0 : Nat} {a1 : Int} {u2 u3 : zV} : zS 48 17 [zR a0, zI a1, u2, u3] [] sh pp mm Q ↔ zS 48 18 [zR a0, zI a1, zU, zU] [zI 0] sh pp mm Q := s_go cL_come_17 cL_come_18 rfl rfl
theorem rL_come_18 {a0 : Nat} {a1 s0 : Int} {u2 u3 : zV} : zS 48 18 [zR a0, zI a1, u2, u3] [zI s0] sh pp mm Q ↔ zS 48 19 [zR a0, zI a1, zU, zI s0] [] sh pp mm Q := s_go cL_come_18 cL_come_19 rfl rfl
theorem rL_come_19 {a0 : Nat} {a1 a3 : Int} {u2 : zV} : zS 48 19 [zR a0, zI a1, u2, zI a3] [] sh pp mm Q ↔ zS 48 20 [zR a0, zI a1, zU, zI a3] [zI a3] sh pp mm Q := s_go cL_come_19 cL_come_20 rfl rfl
theorem rL_come_20 {a0 : Nat} {a1 a3 s0 : Int} {u2 : zV} : zS 48 20 [zR a0, zI a1, u2, zI a3] [zI s0] sh pp mm Q ↔ zS 48 22 [zR a0, zI a1, zU, zI a3] [zI 9, zI s0] sh pp mm Q := s_go cL_come_20 cL_come_22 rfl rfl
theorem rL_come_22 {a0 : Nat} {a1 a3 s0 s1 : Int} {u2 : zV} : zS 48 22 [zR a0, zI a1, u2, zI a3] [zI s0, zI s1] sh pp mm Q ↔ (s1 < s0 → zS 48 25 [zR a0, zI a1, zU, zI a3] [] sh pp mm Q) ∧ (¬ s1 < s0 → zS 48 44 [zU, zU, zU, zU] [] sh pp mm Q) := s_ifn cL_come_22 cL_come_25 cL_come_44 rfl rfl rfl
theorem rL_come_25 {a0 : Nat} {a1 a3 : Int} {u2 : zV} : zS 48 25 [zR a0, zI a1, u2, zI a3] [] sh pp mm Q ↔ zS 48 26 [zR a0, zI a1, zU, zI a3] [zR a0] sh pp mm Q := s_go cL_come_25 cL_come_26 rfl rfl
theorem rL_come_26 {a0 s0 : Nat} {a1 a3 : Int} {u2 : zV} (hk : zKd sh s0 = 5) : zS 48 26 [zR a0, zI a1, u2, zI a3] [zR s0] sh pp mm Q ↔ zS 48 29 [zR a0, zI a1, zU, zI a3] [zR (pp s0 1)] sh pp mm Q := s_go cL_come_26 cL_come_29 (if_pos hk) rfl
theorem rL_come_29 {a0 s0 : Nat} {a1 a3 : Int} {u2 : zV} : zS 48 29 [zR a0, zI a1, u2, zI a3] [zR s0] sh pp mm Q ↔ zS 48 30 [zR a0, zI a1, zU, zI a3] [zI a1, zR s0] sh pp mm Q := s_go cL_come_29 cL_come_30 rfl rfl
theorem rL_come_30 {a0 s1 : Nat} {a1 a3 s0 : Int} {u2 : zV} : zS 48 30 [zR a0, zI a1, u2, zI a3] [zI s0, zR s1] sh pp mm Q ↔ zS 48 32 [zR a0, zI a1, zU, zI a3] [zI 9, zI s0, zR s1] sh pp mm Q := s_go cL_come_30 cL_come_32 rfl rfl
theorem rL_come_32 {a0 s2 : Nat} {a1 a3 s0 s1 : Int} {u2 : zV} : zS 48 32 [zR a0, zI a1, u2, zI a3] [zI s0, zI s1, zR s2] sh pp mm Q ↔ zS 48 33 [zR a0, zI a1, zU, zI a3] [zI (zw32 (s1 * s0)), zR s2] sh pp mm Q := s_go cL_come_32 cL_come_33 rfl rfl
theorem rL_come_33 {a0 s1 : Nat} {a1 a3 s0 : Int} {u2 : zV} : zS 48 33 [zR a0, zI a1, u2, zI a3] [zI s0, zR s1] sh pp mm Q ↔ zS 48 34 [zR a0, zI a1, zU, zI a3] [zI a3, zI s0, zR s1] sh pp mm Q := s_go cL_come_33 cL_come_34 rfl rfl
theorem rL_come_34 {a0 s2 : Nat} {a1 a3 s0 s1 : Int} {u2 : zV} : zS 48 34 [zR a0, zI a1, u2, zI a3] [zI s0, zI s1, zR s2] sh pp mm Q ↔ zS 48 35 [zR a0, zI a1, zU, zI a3] [zI (zw32 (s1 + s0)), zR s2] sh pp mm Q := s_go cL_come_34 cL_come_35 rfl rfl
theorem rL_come_35 {a0 s1 : Nat} {a1 a3 s0 : Int} {u2 : zV} : zS 48 35 [zR a0, zI a1, u2, zI a3] [zI s0, zR s1] sh pp mm Q ↔ zS 48 37 [zR a0, zI a1, zU, zI a3] [zI 1000000, zI s0, zR s1] sh pp mm Q := s_go cL_come_35 cL_come_37 rfl rfl
theorem rL_come_37 {a0 s2 : Nat} {a1 a3 s0 s1 : Int} {u2 : zV} (hk : zKd sh s2 = 20) (h0 : 0 ≤ s1) (h1 : s1 < zLn sh s2) : zS 48 37 [zR a0, zI a1, u2, zI a3] [zI s0, zI s1, zR s2] sh pp mm Q ↔ zS 48 38 [zR a0, zI a1, zU, zI a3] [] sh pp (zupd mm s2 s1 s0) Q := s_go cL_come_37 cL_come_38 (if_pos ⟨hk, h0, h1, fun h => absurd h (by decide)⟩) rfl
theorem rL_come_38 {a0 : Nat} {a1 a3 : Int} {u2 : zV} : zS 48 38 [zR a0, zI a1, u2, zI a3] [] sh pp mm Q ↔ zS 48 41 [zR a0, zI a1, zU, zI (zw32 (a3 + 1))] [] sh pp mm Q := s_go cL_come_38 cL_come_41 rfl rfl
theorem rL_come_41 {a0 : Nat} {a1 a3 : Int} {u2 : zV} : zS 48 41 [zR a0, zI a1, u2, zI a3] [] sh pp mm Q ↔ zS 48 19 [zR a0, zI a1, zU, zI a3] [] sh pp mm Q := s_go cL_come_41 cL_come_19 rfl rfl
theorem rL_come_44 {u0 u1 u2 u3 : zV} : zS 48 44 [u0, u1, u2, u3] [] sh pp mm Q ↔ Q zU sh pp mm := s_ret cL_come_44 rfl
theorem cAL_goOn : ∀ q ∈ zT49, zCode 49 q.1 = some q.2 := zAll (mid := 49) rfl (by decide +kernel)
theorem cAL_goOn_0 : ∀ q ∈ zT49_0, zCode 49 q.1 = some q.2 := fun q h => cAL_goOn q (List.mem_append_left _ h)
theorem cAL_goOn_1 : ∀ q ∈ zT49_1, zCode 49 q.1 = some q.2 := fun q h => cAL_goOn q (List.mem_append_right _ (List.mem_append_left _ h))
theorem cAL_goOn_2 : ∀ q ∈ zT49_2, zCode 49 q.1 = some q.2 := fun q h => cAL_goOn q (List.mem_append_right _ (List.mem_append_right _ (List.mem_append_left _ h)))
theorem cAL_goOn_3 : ∀ q ∈ zT49_3, zCode 49 q.1 = some q.2 := fun q h => cAL_goOn q (List.mem_append_right _ (List.mem_append_right _ (List.mem_append_right _ (List.mem_append_left _ h))))
theorem cAL_goOn_4 : ∀ q ∈ zT49_4, zCode 49 q.1 = some q.2 := fun q h => cAL_goOn q (List.mem_append_right _ (List.mem_append_right _ (List.mem_append_right _ (List.mem_append_right _ (List.mem_append_left _ h)))))
theorem cAL_goOn_5 : ∀ q ∈ zT49_5, zCode 49 q.1 = some q.2 := fun q h => cAL_goOn q (List.mem_append_right _ (List.mem_append_right _ (List.mem_append_right _ (List.mem_append_right _ (List.mem_append_right _ h)))))
theorem cL_goOn_0 : zCode 49 0 = some (.aload_n 0, 1, 0, 0, 0, 0, 7) := cAL_goOn_0 _ (List.mem_of_getElem? (i := 0) rfl)
theorem cL_goOn_1 : zCode 49 1 = some (.getfield 9, 4, 5, 0, 2, 931, 7) := cAL_goOn_0 _ (List.mem_of_getElem? (i := 1) rfl)
theorem cL_goOn_4 : zCode 49 4 = some (.iload_n 1, 5, 0, 0, 0, 0, 7) := cAL_goOn_0 _ (List.mem_of_getElem? (i := 2) rfl)
theorem cL_goOn_5 : zCode 49 5 = some (.iaload, 6, 0, 0, 0, 0, 7) := cAL_goOn_0 _ (List.mem_of_getElem? (i := 3) rfl)
theorem cL_goOn_6 : zCode 49 6 = some (.istore_n 3, 7, 0, 0, 0, 0, 7) := cAL_goOn_0 _ (List.mem_of_getElem? (i := 4) rfl)
theorem cL_goOn_7 : zCode 49 7 = some (.iconst 0, 8, 0, 0, 0, 0, 15) := cAL_goOn_0 _ (List.mem_of_getElem? (i := 5) rfl)
theorem cL_goOn_8 : zCode 49 8 = some (.istore 4, 10, 0, 0, 0, 0, 15) := cAL_goOn_0 _ (List.mem_of_getElem? (i := 6) rfl)
theorem cL_goOn_10 : zCode 49 10 = some (.iload 4, 12, 0, 0, 0, 0, 31) := cAL_goOn_0 _ (List.mem_of_getElem? (i := 7) rfl)
theorem cL_goOn_12 : zCode 49 12 = some (.aload_n 2, 13, 0, 0, 0, 0, 31) := cAL_goOn_0 _ (List.mem_of_getElem? (i := 8) rfl)
theorem cL_goOn_13 : zCode 49 13 = some (.getfield 40, 16, 6, 3, 0, 218, 31) := cAL_goOn_0 _ (List.mem_of_getElem? (i := 9) rfl)
theorem cL_goOn_16 : zCode 49 16 = some (.if_icmp .ge 125, 19, 141, 0, 0, 0, 31) := cAL_goOn_0 _ (List.mem_of_getElem? (i := 10) rfl)
theorem cL_goOn_19 : zCode 49 19 = some (.iload_n 1, 20, 0, 0, 0, 0, 31) := cAL_goOn_0 _ (List.mem_of_getElem? (i := 11) rfl)
theorem cL_goOn_20 : zCode 49 20 = some (.iload 4, 22, 0, 0, 0, 0, 31) := cAL_goOn_0 _ (List.mem_of_getElem? (i := 12) rfl)
theorem cL_goOn_22 : zCode 49 22 = some (.ishr, 23, 0, 0, 0, 0, 31) := cAL_goOn_0 _ (List.mem_of_getElem? (i := 13) rfl)
theorem cL_goOn_23 : zCode 49 23 = some (.iconst 1, 24, 0, 0, 0, 0, 31) := cAL_goOn_0 _ (List.mem_of_getElem? (i := 14) rfl)
theorem cL_goOn_24 : zCode 49 24 = some (.iand, 25, 0, 0, 0, 0, 31) := cAL_goOn_0 _ (List.mem_of_getElem? (i := 15) rfl)
theorem cL_goOn_25 : zCode 49 25 = some (.ifCond .ne 21, 28, 46, 0, 0, 0, 31) := cAL_goOn_1 _ (List.mem_of_getElem? (i := 0) rfl)
theorem cL_goOn_28 : zCode 49 28 = some (.aload_n 2, 29, 0, 0, 0, 0, 31) := cAL_goOn_1 _ (List.mem_of_getElem? (i := 1) rfl)
theorem cL_goOn_29 : zCode 49 29 = some (.getfield 44, 32, 6, 9, 2, 229, 31) := cAL_goOn_1 _ (List.mem_of_getElem? (i := 2) rfl)
theorem cL_goOn_32 : zCode 49 32 = some (.iload 4, 34, 0, 0, 0, 0, 31) := cAL_goOn_1 _ (List.mem_of_getElem? (i := 3) rfl)
theorem cL_goOn_34 : zCode 49 34 = some (.iaload, 35, 0, 0, 0, 0, 31) := cAL_goOn_1 _ (List.mem_of_getElem? (i := 4) rfl)
theorem cL_goOn_35 : zCode 49 35 = some (.iload_n 1, 36, 0, 0, 0, 0, 31) := cAL_goOn_1 _ (List.mem_of_getElem? (i := 5) rfl)
theorem cL_goOn_36 : zCode 49 36 = some (.iconst (-1), 37, 0, 0, 0, 0, 31) := cAL_goOn_1 _ (List.mem_of_getElem? (i := 6) rfl)
theorem cL_goOn_37 : zCode 49 37 = some (.ixor, 38, 0, 0, 0, 0, 31) := cAL_goOn_1 _ (List.mem_of_getElem? (i := 7) rfl)
theorem cL_goOn_38 : zCode 49 38 = some (.iand, 39, 0, 0, 0, 0, 31) := cAL_goOn_1 _ (List.mem_of_getElem? (i := 8) rfl)
theorem cL_goOn_39 : zCode 49 39 = some (.ifCond .ne 7, 42, 46, 0, 0, 0, 31) := cAL_goOn_1 _ (List.mem_of_getElem? (i := 9) rfl)
theorem cL_goOn_42 : zCode 49 42 = some (.iconst 1, 43, 0, 0, 0, 0, 31) := cAL_goOn_1 _ (List.mem_of_getElem? (i := 10) rfl)
theorem cL_goOn_43 : zCode 49 43 = some (.goto 4, 46, 47, 0, 0, 0, 31) := cAL_goOn_1 _ (List.mem_of_getElem? (i := 11) rfl)
theorem cL_goOn_46 : zCode 49 46 = some (.iconst 0, 47, 0, 0, 0, 0, 31) := cAL_goOn_1 _ (List.mem_of_getElem? (i := 12) rfl)
theorem cL_goOn_47 : zCode 49 47 = some (.istore 5, 49, 0, 0, 0, 0, 31) := cAL_goOn_1 _ (List.mem_of_getElem? (i := 13) rfl)
theorem cL_goOn_49 : zCode 49 49 = some (.iload 5, 51, 0, 0, 0, 0, 63) := cAL_goOn_1 _ (List.mem_of_getElem? (i := 14) rfl)
theorem cL_goOn_51 : zCode 49 51 = some (.ifCond .eq 84, 54, 135, 0, 0, 0, 31) := cAL_goOn_1 _ (List.mem_of_getElem? (i := 15) rfl)
theorem cL_goOn_54 : zCode 49 54 = some (.aload_n 2, 55, 0, 0, 0, 0, 31) := cAL_goOn_2 _ (List.mem_of_getElem? (i := 0) rfl)
theorem cL_goOn_55 : zCode 49 55 = some (.getfield 47, 58, 6, 6, 2, 223, 31) := cAL_goOn_2 _ (List.mem_of_getElem? (i := 1) rfl)
theorem cL_goOn_58 : zCode 49 58 = some (.iload 4, 60, 0, 0, 0, 0, 31) := cAL_goOn_2 _ (List.mem_of_getElem? (i := 2) rfl)
theorem cL_goOn_60 : zCode 49 60 = some (.iaload, 61, 0, 0, 0, 0, 31) := cAL_goOn_2 _ (List.mem_of_getElem? (i := 3) rfl)
theorem cL_goOn_61 : zCode 49 61 = some (.iload_n 3, 62, 0, 0, 0, 0, 31) := cAL_goOn_2 _ (List.mem_of_getElem? (i := 4) rfl)
theorem cL_goOn_62 : zCode 49 62 = some (.ishr, 63, 0, 0, 0, 0, 31) := cAL_goOn_2 _ (List.mem_of_getElem? (i := 5) rfl)
theorem cL_goOn_63 : zCode 49 63 = some (.iconst 1, 64, 0, 0, 0, 0, 31) := cAL_goOn_2 _ (List.mem_of_getElem? (i := 6) rfl)
theorem cL_goOn_64 : zCode 49 64 = some (.iand, 65, 0, 0, 0, 0, 31) := cAL_goOn_2 _ (List.mem_of_getElem? (i := 7) rfl)
theorem cL_goOn_65 : zCode 49 65 = some (.iconst 1, 66, 0, 0, 0, 0, 31) := cAL_goOn_2 _ (List.mem_of_getElem? (i := 8) rfl)
theorem cL_goOn_66 : zCode 49 66 = some (.if_icmp .ne 69, 69, 135, 0, 0, 0, 31) := cAL_goOn_2 _ (List.mem_of_getElem? (i := 9) rfl)
theorem cL_goOn_69 : zCode 49 69 = some (.iload_n 1, 70, 0, 0, 0, 0, 31) := cAL_goOn_2 _ (List.mem_of_getElem? (i := 10) rfl)
theorem cL_goOn_70 : zCode 49 70 = some (.iconst 1, 71, 0, 0, 0, 0, 31) := cAL_goOn_2 _ (List.mem_of_getElem? (i := 11) rfl)
theorem cL_goOn_71 : zCode 49 71 = some (.iload 4, 73, 0, 0, 0, 0, 31) := cAL_goOn_2 _ (List.mem_of_getElem? (i := 12) rfl)
theorem cL_goOn_73 : zCode 49 73 = some (.ishl, 74, 0, 0, 0, 0, 31) := cAL_goOn_2 _ (List.mem_of_getElem? (i := 13) rfl)
theorem cL_goOn_74 : zCode 49 74 = some (.ior, 75, 0, 0, 0, 0, 31) := cAL_goOn_2 _ (List.mem_of_getElem? (i := 14) rfl)
theorem cL_goOn_75 : zCode 49 75 = some (.istore 6, 77, 0, 0, 0, 0, 31) := cAL_goOn_2 _ (List.mem_of_getElem? (i := 15) rfl)
theorem cL_goOn_77 : zCode 49 77 = some (.aload_n 2, 78, 0, 0, 0, 0, 95) := cAL_goOn_3 _ (List.mem_of_getElem? (i := 0) rfl)
theorem cL_goOn_78 : zCode 49 78 = some (.getfield 50, 81, 6, 4, 2, 220, 95) := cAL_goOn_3 _ (List.mem_of_getElem? (i := 1) rfl)
theorem cL_goOn_81 : zCode 49 81 = some (.iload 4, 83, 0, 0, 0, 0, 95) := cAL_goOn_3 _ (List.mem_of_getElem? (i := 2) rfl)
theorem cL_goOn_83 : zCode 49 83 = some (.iaload, 84, 0, 0, 0, 0, 95) := cAL_goOn_3 _ (List.mem_of_getElem? (i := 3) rfl)
theorem cL_goOn_84 : zCode 49 84 = some (.iload_n 3, 85, 0, 0, 0, 0, 95) := cAL_goOn_3 _ (List.mem_of_getElem? (i := 4) rfl)
theorem cL_goOn_85 : zCode 49 85 = some (.if_icmp .ne 7, 88, 92, 0, 0, 0, 95) := cAL_goOn_3 _ (List.mem_of_getElem? (i := 5) rfl)
theorem cL_goOn_88 : zCode 49 88 = some (.iconst 1, 89, 0, 0, 0, 0, 95) := cAL_goOn_3 _ (List.mem_of_getElem? (i := 6) rfl)
theorem cL_goOn_89 : zCode 49 89 = some (.goto 4, 92, 93, 0, 0, 0, 95) := cAL_goOn_3 _ (List.mem_of_getElem? (i := 7) rfl)
theorem cL_goOn_92 : zCode 49 92 = some (.iconst (-1), 93, 0, 0, 0, 0, 95) := cAL_goOn_3 _ (List.mem_of_getElem? (i := 8) rfl)
theorem cL_goOn_93 : zCode 49 93 = some (.istore 7, 95, 0, 0, 0, 0, 95) := cAL_goOn_3 _ (List.mem_of_getElem? (i := 9) rfl)
theorem cL_goOn_95 : zCode 49 95 = some (.aload_n 0, 96, 0, 0, 0, 0, 223) := cAL_goOn_3 _ (List.mem_of_getElem? (i := 10) rfl)
theorem cL_goOn_96 : zCode 49 96 = some (.iload 6, 98, 0, 0, 0, 0, 223) := cAL_goOn_3 _ (List.mem_of_getElem? (i := 11) rfl)
theorem cL_goOn_98 : zCode 49 98 = some (.aload_n 2, 99, 0, 0, 0, 0, 223) := cAL_goOn_3 _ (List.mem_of_getElem? (i := 12) rfl)
theorem cL_goOn_99 : zCode 49 99 = some (.iload 4, 101, 0, 0, 0, 0, 223) := cAL_goOn_3 _ (List.mem_of_getElem? (i := 13) rfl)
theorem cL_goOn_101 : zCode 49 101 = some (.iload_n 3, 102, 0, 0, 0, 0, 223) := cAL_goOn_3 _ (List.mem_of_getElem? (i := 14) rfl)
theorem cL_goOn_102 : zCode 49 102 = some (.invokevirtual 53, 105, 59, 2, 3, 6, 223) := cAL_goOn_3 _ (List.mem_of_getElem? (i := 15) rfl)
theorem cL_goOn_105 : zCode 49 105 = some (.invokevirtual 25, 108, 48, 2, 4, 5, 223) := cAL_goOn_4 _ (List.mem_of_getElem? (i := 0) rfl)
theorem cL_goOn_108 : zCode 49 108 = some (.aload_n 0, 109, 0, 0, 0, 0, 223) := cAL_goOn_4 _ (List.mem_of_getElem? (i := 1) rfl)
theorem cL_goOn_109 : zCode 49 109 = some (.iload_n 1, 110, 0, 0, 0, 0, 223) := cAL_goOn_4 _ (List.mem_of_getElem? (i := 2) rfl)
theorem cL_goOn_110 : zCode 49 110 = some (.iload 6, 112, 0, 0, 0, 0, 223) := cAL_goOn_4 _ (List.mem_of_getElem? (i := 3) rfl)
theorem cL_goOn_112 : zCode 49 112 = some (.iload 7, 114, 0, 0, 0, 0, 159) := cAL_goOn_4 _ (List.mem_of_getElem? (i := 4) rfl)
theorem cL_goOn_114 : zCode 49 114 = some (.aload_n 2, 115, 0, 0, 0, 0, 159) := cAL_goOn_4 _ (List.mem_of_getElem? (i := 5) rfl)
theorem cL_goOn_115 : zCode 49 115 = some (.getfield 56, 118, 6, 7, 2, 225, 159) := cAL_goOn_4 _ (List.mem_of_getElem? (i := 6) rfl)
theorem cL_goOn_118 : zCode 49 118 = some (.iload 4, 120, 0, 0, 0, 0, 159) := cAL_goOn_4 _ (List.mem_of_getElem? (i := 7) rfl)
theorem cL_goOn_120 : zCode 49 120 = some (.iaload, 121, 0, 0, 0, 0, 159) := cAL_goOn_4 _ (List.mem_of_getElem? (i := 8) rfl)
theorem cL_goOn_121 : zCode 49 121 = some (.imul, 122, 0, 0, 0, 0, 159) := cAL_goOn_4 _ (List.mem_of_getElem? (i := 9) rfl)
theorem cL_goOn_122 : zCode 49 122 = some (.iload 7, 124, 0, 0, 0, 0, 159) := cAL_goOn_4 _ (List.mem_of_getElem? (i := 10) rfl)
theorem cL_goOn_124 : zCode 49 124 = some (.aload_n 2, 125, 0, 0, 0, 0, 31) := cAL_goOn_4 _ (List.mem_of_getElem? (i := 11) rfl)
theorem cL_goOn_125 : zCode 49 125 = some (.getfield 59, 128, 6, 8, 2, 227, 31) := cAL_goOn_4 _ (List.mem_of_getElem? (i := 12) rfl)
theorem cL_goOn_128 : zCode 49 128 = some (.iload 4, 130, 0, 0, 0, 0, 31) := cAL_goOn_4 _ (List.mem_of_getElem? (i := 13) rfl)
theorem cL_goOn_130 : zCode 49 130 = some (.iaload, 131, 0, 0, 0, 0, 31) := cAL_goOn_4 _ (List.mem_of_getElem? (i := 14) rfl)
theorem cL_goOn_131 : zCode 49 131 = some (.imul, 132, 0, 0, 0, 0, 31) := cAL_goOn_4 _ (List.mem_of_getElem? (i := 15) rfl)
theorem cL_goOn_132 : zCode 49 132 = some (.invokevirtual 62, 135, 50, 4, 10, 5, 31) := cAL_goOn_5 _ (List.mem_of_getElem? (i := 0) rfl)
theorem cL_goOn_135 : zCode 49 135 = some (.iinc 4 1, 138, 0, 0, 0, 0, 31) := cAL_goOn_5 _ (List.mem_of_getElem? (i := 1) rfl)
theorem cL_goOn_138 : zCode 49 138 = some (.goto (-128), 141, 10, 0, 0, 0, 31) := cAL_goOn_5 _ (List.mem_of_getElem? (i := 2) rfl)
theorem cL_goOn_141 : zCode 49 141 = some (.return_, 142, 0, 0, 0, 0, 0) := cAL_goOn_5 _ (List.mem_of_getElem? (i := 3) rfl)
theorem rL_goOn_0 {a0 a2 : Nat} {a1 : Int} {u3 u4 u5 u6 u7 : zV} : zS 49 0 [zR a0, zI a1, zR a2, u3, u4, u5, u6, u7] [] sh pp mm Q ↔ zS 49 1 [zR a0, zI a1, zR a2, zU, zU, zU, zU, zU] [zR a0] sh pp mm Q := s_go cL_goOn_0 cL_goOn_1 rfl rfl
theorem rL_goOn_1 {a0 a2 s0 : Nat} {a1 : Int} {u3 u4 u5 u6 u7 : zV} (hk : zKd sh s0 = 5) : zS 49 1 [zR a0, zI a1, zR a2, u3, u4, u5, u6, u7] [zR s0] sh pp mm Q ↔ zS 49 4 [zR a0, zI a1, zR a2, zU, zU, zU, zU, zU] [zR (pp s0 0)] sh pp mm Q := s_go cL_goOn_1 cL_goOn_4 (if_pos hk) rfl
theorem rL_goOn_4 {a0 a2 s0 : Nat} {a1 : Int} {u3 u4 u5 u6 u7 : zV} : zS 49 4 [zR a0, zI a1, zR a2, u3, u4, u5, u6, u7] [zR s0] sh pp mm Q ↔ zS 49 5 [zR a0, zI a1, zR a2, zU, zU, zU, zU, zU] [zI a1, zR s0] sh pp mm Q := s_go cL_goOn_4 cL_goOn_5 rfl rfl
theorem rL_goOn_5 {a0 a2 s1 : Nat} {a1 s0 : Int} {u3 u4 u5 u6 u7 : zV} (hk : zKd sh s1 = 20 ∨ zKd sh s1 = 30) (h0 : 0 ≤ s0) (h1 : s0 < zLn sh s1) : zS 49 5 [zR a0, zI a1, zR a2, u3, u4, u5, u6, u7] [zI s0, zR s1] sh pp mm Q ↔ zS 49 6 [zR a0, zI a1, zR a2, zU, zU, zU, zU, zU] [zI (mm s1 s0)] sh pp mm Q := s_go cL_goOn_5 cL_goOn_6 (if_pos ⟨hk, h0, h1⟩) rfl
theorem rL_goOn_6 {a0 a2 : Nat} {a1 s0 : Int} {u3 u4 u5 u6 u7 : zV} : zS 49 6 [zR a0, zI a1, zR a2, u3, u4, u5, u6, u7] [zI s0] sh pp mm Q ↔ zS 49 7 [zR a0, zI a1, zR a2, zI s0, zU, zU, zU, zU] [] sh pp mm Q := s_go cL_goOn_6 cL_goOn_7 rfl rfl
theorem rL_goOn_7 {a0 a2 : Nat} {a1 a3 : Int} {u4 u5 u6 u7 : zV} : zS 49 7 [zR a0, zI a1, zR a2, zI a3, u4, u5, u6, u7] [] sh pp mm Q ↔ zS 49 8 [zR a0, zI a1, zR a2, zI a3, zU, zU, zU, zU] [zI 0] sh pp mm Q := s_go cL_goOn_7 cL_goOn_8 rfl rfl
theorem rL_goOn_8 {a0 a2 : Nat} {a1 a3 s0 : Int} {u4 u5 u6 u7 : zV} : zS 49 8 [zR a0, zI a1, zR a2, zI a3, u4, u5, u6, u7] [zI s0] sh pp mm Q ↔ zS 49 10 [zR a0, zI a1, zR a2, zI a3, zI s0, zU, zU, zU] [] sh pp mm Q := s_go cL_goOn_8 cL_goOn_10 rfl rfl
theorem rL_goOn_10 {a0 a2 : Nat} {a1 a3 a4 : Int} {u5 u6 u7 : zV} : zS 49 10 [zR a0, zI a1, zR a2, zI a3, zI a4, u5, u6, u7] [] sh pp mm Q ↔ zS 49 12 [zR a0, zI a1, zR a2, zI a3, zI a4, zU, zU, zU] [zI a4] sh pp mm Q := s_go cL_goOn_10 cL_goOn_12 rfl rfl
theorem rL_goOn_12 {a0 a2 : Nat} {a1 a3 a4 s0 : Int} {u5 u6 u7 : zV} : zS 49 12 [zR a0, zI a1, zR a2, zI a3, zI a4, u5, u6, u7] [zI s0] sh pp mm Q ↔ zS 49 13 [zR a0, zI a1, zR a2, zI a3, zI a4, zU, zU, zU] [zR a2, zI s0] sh pp mm Q := s_go cL_goOn_12 cL_goOn_13 rfl rfl
theorem rL_goOn_13 {a0 a2 s0 : Nat} {a1 a3 a4 s1 : Int} {u5 u6 u7 : zV} (hk : zKd sh s0 = 6) : zS 49 13 [zR a0, zI a1, zR a2, zI a3, zI a4, u5, u6, u7] [zR s0, zI s1] sh pp mm Q ↔ zS 49 16 [zR a0, zI a1, zR a2, zI a3, zI a4, zU, zU, zU] [zI (mm s0 3), zI s1] sh pp mm Q := s_go cL_goOn_13 cL_goOn_16 (if_pos hk) rfl
theorem rL_goOn_16 {a0 a2 : Nat} {a1 a3 a4 s0 s1 : Int} {u5 u6 u7 : zV} : zS 49 16 [zR a0, zI a1, zR a2, zI a3, zI a4, u5, u6, u7] [zI s0, zI s1] sh pp mm Q ↔ (s1 < s0 → zS 49 19 [zR a0, zI a1, zR a2, zI a3, zI a4, zU, zU, zU] [] sh pp mm Q) ∧ (¬ s1 < s0 → zS 49 141 [zU, zU, zU, zU, zU, zU, zU, zU] [] sh pp mm Q) := s_ifn cL_goOn_16 cL_goOn_19 cL_goOn_141 rfl rfl rfl
theorem rL_goOn_19 {a0 a2 : Nat} {a1 a3 a4 : Int} {u5 u6 u7 : zV} : zS 49 19 [zR a0, zI a1, zR a2, zI a3, zI a4, u5, u6, u7] [] sh pp mm Q ↔ zS 49 20 [zR a0, zI a1, zR a2, zI a3, zI a4, zU, zU, zU] [zI a1] sh pp mm Q := s_go cL_goOn_19 cL_goOn_20 rfl rfl
theorem rL_goOn_20 {a0 a2 : Nat} {a1 a3 a4 s0 : Int} {u5 u6 u7 : zV} : zS 49 20 [zR a0, zI a1, zR a2, zI a3, zI a4, u5, u6, u7] [zI s0] sh pp mm Q ↔ zS 49 22 [zR a0, zI a1, zR a2, zI a3, zI a4, zU, zU, zU] [zI a4, zI s0] sh pp mm Q := s_go cL_goOn_20 cL_goOn_22 rfl rfl
theorem rL_goOn_22 {a0 a2 : Nat} {a1 a3 a4 s0 s1 : Int} {u5 u6 u7 : zV} : zS 49 22 [zR a0, zI a1, zR a2, zI a3, zI a4, u5, u6, u7] [zI s0, zI s1] sh pp mm Q ↔ zS 49 23 [zR a0, zI a1, zR a2, zI a3, zI a4, zU, zU, zU] [zI (zshr s1 s0)] sh pp mm Q := s_go cL_goOn_22 cL_goOn_23 rfl rfl
theorem rL_goOn_23 {a0 a2 : Nat} {a1 a3 a4 s0 : Int} {u5 u6 u7 : zV} : zS 49 23 [zR a0, zI a1, zR a2, zI a3, zI a4, u5, u6, u7] [zI s0] sh pp mm Q ↔ zS 49 24 [zR a0, zI a1, zR a2, zI a3, zI a4, zU, zU, zU] [zI 1, zI s0] sh pp mm Q := s_go cL_goOn_23 cL_goOn_24 rfl rfl
theorem rL_goOn_24 {a0 a2 : Nat} {a1 a3 a4 s0 s1 : Int} {u5 u6 u7 : zV} : zS 49 24 [zR a0, zI a1, zR a2, zI a3, zI a4, u5, u6, u7] [zI s0, zI s1] sh pp mm Q ↔ zS 49 25 [zR a0, zI a1, zR a2, zI a3, zI a4, zU, zU, zU] [zI (zand s1 s0)] sh pp mm Q := s_go cL_goOn_24 cL_goOn_25 rfl rfl
theorem rL_goOn_25 {a0 a2 : Nat} {a1 a3 a4 s0 : Int} {u5 u6 u7 : zV} : zS 49 25 [zR a0, zI a1, zR a2, zI a3, zI a4, u5, u6, u7] [zI s0] sh pp mm Q ↔ (s0 = 0 → zS 49 28 [zR a0, zI a1, zR a2, zI a3, zI a4, zU, zU, zU] [] sh pp mm Q) ∧ (¬ s0 = 0 → zS 49 46 [zR a0, zI a1, zR a2, zI a3, zI a4, zU, zU, zU] [] sh pp mm Q) := s_ifn cL_goOn_25 cL_goOn_28 cL_goOn_46 rfl rfl rfl
theorem rL_goOn_28 {a0 a2 : Nat} {a1 a3 a4 : Int} {u5 u6 u7 : zV} : zS 49 28 [zR a0, zI a1, zR a2, zI a3, zI a4, u5, u6, u7] [] sh pp mm Q ↔ zS 49 29 [zR a0, zI a1, zR a2, zI a3, zI a4, zU, zU, zU] [zR a2] sh pp mm Q := s_go cL_goOn_28 cL_goOn_29 rfl rfl
theorem rL_goOn_29 {a0 a2 s0 : Nat} {a1 a3 a4 : Int} {u5 u6 u7 : zV} (hk : zKd sh s0 = 6) : zS 49 29 [zR a0, zI a1, zR a2, zI a3, zI a4, u5, u6, u7] [zR s0] sh pp mm Q ↔ zS 49 32 [zR a0, zI a1, zR a2, zI a3, zI a4, zU, zU, zU] [zR (pp s0 9)] sh pp mm Q := s_go cL_goOn_29 cL_goOn_32 (if_pos hk) rfl
theorem rL_goOn_32 {a0 a2 s0 : Nat} {a1 a3 a4 : Int} {u5 u6 u7 : zV} : zS 49 32 [zR a0, zI a1, zR a2, zI a3, zI a4, u5, u6, u7] [zR s0] sh pp mm Q ↔ zS 49 34 [zR a0, zI a1, zR a2, zI a3, zI a4, zU, zU, zU] [zI a4, zR s0] sh pp mm Q := s_go cL_goOn_32 cL_goOn_34 rfl rfl
theorem rL_goOn_34 {a0 a2 s1 : Nat} {a1 a3 a4 s0 : Int} {u5 u6 u7 : zV} (hk : zKd sh s1 = 20 ∨ zKd sh s1 = 30) (h0 : 0 ≤ s0) (h1 : s0 < zLn sh s1) : zS 49 34 [zR a0, zI a1, zR a2, zI a3, zI a4, u5, u6, u7] [zI s0, zR s1] sh pp mm Q ↔ zS 49 35 [zR a0, zI a1, zR a2, zI a3, zI a4, zU, zU, zU] [zI (mm s1 s0)] sh pp mm Q := s_go cL_goOn_34 cL_goOn_35 (if_pos ⟨hk, h0, h1⟩) rfl
theorem rL_goOn_35 {a0 a2 : Nat} {a1 a3 a4 s0 : Int} {u5 u6 u7 : zV} : zS 49 35 [zR a0, zI a1, zR a2, zI a3, zI a4, u5, u6, u7] [zI s0] sh pp mm Q ↔ zS 49 36 [zR a0, zI a1, zR a2, zI a3, zI a4, zU, zU, zU] [zI a1, zI s0] sh pp mm Q := s_go cL_goOn_35 cL_goOn_36 rfl rfl
theorem rL_goOn_36 {a0 a2 : Nat} {a1 a3 a4 s0 s1 : Int} {u5 u6 u7 : zV} : zS 49 36 [zR a0, zI a1, zR a2, zI a3, zI a4, u5, u6, u7] [zI s0, zI s1] sh pp mm Q ↔ zS 49 37 [zR a0, zI a1, zR a2, zI a3, zI a4, zU, zU, zU] [zI (-1), zI s0, zI s1] sh pp mm Q := s_go cL_goOn_36 cL_goOn_37 rfl rfl
theorem rL_goOn_37 {a0 a2 : Nat} {a1 a3 a4 s0 s1 s2 : Int} {u5 u6 u7 : zV} : zS 49 37 [zR a0, zI a1, zR a2, zI a3, zI a4, u5, u6, u7] [zI s0, zI s1, zI s2] sh pp mm Q ↔ zS 49 38 [zR a0, zI a1, zR a2, zI a3, zI a4, zU, zU, zU] [zI (zxor s1 s0), zI s2] sh pp mm Q := s_go cL_goOn_37 cL_goOn_38 rfl rfl
theorem rL_goOn_38 {a0 a2 : Nat} {a1 a3 a4 s0 s1 : Int} {u5 u6 u7 : zV} : zS 49 38 [zR a0, zI a1, zR a2, zI a3, zI a4, u5, u6, u7] [zI s0, zI s1] sh pp mm Q ↔ zS 49 39 [zR a0, zI a1, zR a2, zI a3, zI a4, zU, zU, zU] [zI (zand s1 s0)] sh pp mm Q := s_go cL_goOn_38 cL_goOn_39 rfl rfl
theorem rL_goOn_39 {a0 a2 : Nat} {a1 a3 a4 s0 : Int} {u5 u6 u7 : zV} : zS 49 39 [zR a0, zI a1, zR a2, zI a3, zI a4, u5, u6, u7] [zI s0] sh pp mm Q ↔ (s0 = 0 → zS 49 42 [zR a0, zI a1, zR a2, zI a3, zI a4, zU, zU, zU] [] sh pp mm Q) ∧ (¬ s0 = 0 → zS 49 46 [zR a0, zI a1, zR a2, zI a3, zI a4, zU, zU, zU] [] sh pp mm Q) := s_ifn cL_goOn_39 cL_goOn_42 cL_goOn_46 rfl rfl rfl
theorem rL_goOn_42 {a0 a2 : Nat} {a1 a3 a4 : Int} {u5 u6 u7 : zV} : zS 49 42 [zR a0, zI a1, zR a2, zI a3, zI a4, u5, u6, u7] [] sh pp mm Q ↔ zS 49 43 [zR a0, zI a1, zR a2, zI a3, zI a4, zU, zU, zU] [zI 1] sh pp mm Q := s_go cL_goOn_42 cL_goOn_43 rfl rfl
theorem rL_goOn_43 {a0 a2 : Nat} {a1 a3 a4 s0 : Int} {u5 u6 u7 : zV} : zS 49 43 [zR a0, zI a1, zR a2, zI a3, zI a4, u5, u6, u7] [zI s0] sh pp mm Q ↔ zS 49 47 [zR a0, zI a1, zR a2, zI a3, zI a4, zU, zU, zU] [zI s0] sh pp mm Q := s_go cL_goOn_43 cL_goOn_47 rfl rfl
theorem rL_goOn_46 {a0 a2 : Nat} {a1 a3 a4 : Int} {u5 u6 u7 : zV} : zS 49 46 [zR a0, zI a1, zR a2, zI a3, zI a4, u5, u6, u7] [] sh pp mm Q ↔ zS 49 47 [zR a0, zI a1, zR a2, zI a3, zI a4, zU, zU, zU] [zI 0] sh pp mm Q := s_go cL_goOn_46 cL_goOn_47 rfl rfl
theorem rL_goOn_47 {a0 a2 : Nat} {a1 a3 a4 s0 : Int} {u5 u6 u7 : zV} : zS 49 47 [zR a0, zI a1, zR a2, zI a3, zI a4, u5, u6, u7] [zI s0] sh pp mm Q ↔ zS 49 49 [zR a0, zI a1, zR a2, zI a3, zI a4, zI s0, zU, zU] [] sh pp mm Q := s_go cL_goOn_47 cL_goOn_49 rfl rfl
theorem rL_goOn_49 {a0 a2 : Nat} {a1 a3 a4 a5 : Int} {u6 u7 : zV} : zS 49 49 [zR a0, zI a1, zR a2, zI a3, zI a4, zI a5, u6, u7] [] sh pp mm Q ↔ zS 49 51 [zR a0, zI a1, zR a2, zI a3, zI a4, zU, zU, zU] [zI a5] sh pp mm Q := s_go cL_goOn_49 cL_goOn_51 rfl rfl
theorem rL_goOn_51 {a0 a2 : Nat} {a1 a3 a4 s0 : Int} {u5 u6 u7 : zV} : zS 49 51 [zR a0, zI a1, zR a2, zI a3, zI a4, u5, u6, u7] [zI s0] sh pp mm Q ↔ (s0 = 0 → zS 49 135 [zR a0, zI a1, zR a2, zI a3, zI a4, zU, zU, zU] [] sh pp mm Q) ∧ (¬ s0 = 0 → zS 49 54 [zR a0, zI a1, zR a2, zI a3, zI a4, zU, zU, zU] [] sh pp mm Q) := s_if cL_goOn_51 cL_goOn_135 cL_goOn_54 rfl rfl rfl
theorem rL_goOn_54 {a0 a2 : Nat} {a1 a3 a4 : Int} {u5 u6 u7 : zV} : zS 49 54 [zR a0, zI a1, zR a2, zI a3, zI a4, u5, u6, u7] [] sh pp mm Q ↔ zS 49 55 [zR a0, zI a1, zR a2, zI a3, zI a4, zU, zU, zU] [zR a2] sh pp mm Q := s_go cL_goOn_54 cL_goOn_55 rfl rfl
theorem rL_goOn_55 {a0 a2 s0 : Nat} {a1 a3 a4 : Int} {u5 u6 u7 : zV} (hk : zKd sh s0 = 6) : zS 49 55 [zR a0, zI a1, zR a2, zI a3, zI a4, u5, u6, u7] [zR s0] sh pp mm Q ↔ zS 49 58 [zR a0, zI a1, zR a2, zI a3, zI a4, zU, zU, zU] [zR (pp s0 6)] sh pp mm Q := s_go cL_goOn_55 cL_goOn_58 (if_pos hk) rfl
theorem rL_goOn_58 {a0 a2 s0 : Nat} {a1 a3 a4 : Int} {u5 u6 u7 : zV} : zS 49 58 [zR a0, zI a1, zR a2, zI a3, zI a4, u5, u6, u7] [zR s0] sh pp mm Q ↔ zS 49 60 [zR a0, zI a1, zR a2, zI a3, zI a4, zU, zU, zU] [zI a4, zR s0] sh pp mm Q := s_go cL_goOn_58 cL_goOn_60 rfl rfl
theorem rL_goOn_60 {a0 a2 s1 : Nat} {a1 a3 a4 s0 : Int} {u5 u6 u7 : zV} (hk : zKd sh s1 = 20 ∨ zKd sh s1 = 30) (h0 : 0 ≤ s0) (h1 : s0 < zLn sh s1) : zS 49 60 [zR a0, zI a1, zR a2, zI a3, zI a4, u5, u6, u7] [zI s0, zR s1] sh pp mm Q ↔ zS 49 61 [zR a0, zI a1, zR a2, zI a3, zI a4, zU, zU, zU] [zI (mm s1 s0)] sh pp mm Q := s_go cL_goOn_60 cL_goOn_61 (if_pos ⟨hk, h0, h1⟩) rfl
theorem rL_goOn_61 {a0 a2 : Nat} {a1 a3 a4 s0 : Int} {u5 u6 u7 : zV} : zS 49 61 [zR a0, zI a1, zR a2, zI a3, zI a4, u5, u6, u7] [zI s0] sh pp mm Q ↔ zS 49 62 [zR a0, zI a1, zR a2, zI a3, zI a4, zU, zU, zU] [zI a3, zI s0] sh pp mm Q := s_go cL_goOn_61 cL_goOn_62 rfl rfl
theorem rL_goOn_62 {a0 a2 : Nat} {a1 a3 a4 s0 s1 : Int} {u5 u6 u7 : zV} : zS 49 62 [zR a0, zI a1, zR a2, zI a3, zI a4, u5, u6, u7] [zI s0, zI s1] sh pp mm Q ↔ zS 49 63 [zR a0, zI a1, zR a2, zI a3, zI a4, zU, zU, zU] [zI (zshr s1 s0)] sh pp mm Q := s_go cL_goOn_62 cL_goOn_63 rfl rfl
theorem rL_goOn_63 {a0 a2 : Nat} {a1 a3 a4 s0 : Int} {u5 u6 u7 : zV} : zS 49 63 [zR a0, zI a1, zR a2, zI a3, zI a4, u5, u6, u7] [zI s0] sh pp mm Q ↔ zS 49 64 [zR a0, zI a1, zR a2, zI a3, zI a4, zU, zU, zU] [zI 1, zI s0] sh pp mm Q := s_go cL_goOn_63 cL_goOn_64 rfl rfl
theorem rL_goOn_64 {a0 a2 : Nat} {a1 a3 a4 s0 s1 : Int} {u5 u6 u7 : zV} : zS 49 64 [zR a0, zI a1, zR a2, zI a3, zI a4, u5, u6, u7] [zI s0, zI s1] sh pp mm Q ↔ zS 49 65 [zR a0, zI a1, zR a2, zI a3, zI a4, zU, zU, zU] [zI (zand s1 s0)] sh pp mm Q := s_go cL_goOn_64 cL_goOn_65 rfl rfl
theorem rL_goOn_65 {a0 a2 : Nat} {a1 a3 a4 s0 : Int} {u5 u6 u7 : zV} : zS 49 65 [zR a0, zI a1, zR a2, zI a3, zI a4, u5, u6, u7] [zI s0] sh pp mm Q ↔ zS 49 66 [zR a0, zI a1, zR a2, zI a3, zI a4, zU, zU, zU] [zI 1, zI s0] sh pp mm Q := s_go cL_goOn_65 cL_goOn_66 rfl rfl
theorem rL_goOn_66 {a0 a2 : Nat} {a1 a3 a4 s0 s1 : Int} {u5 u6 u7 : zV} : zS 49 66 [zR a0, zI a1, zR a2, zI a3, zI a4, u5, u6, u7] [zI s0, zI s1] sh pp mm Q ↔ (s1 = s0 → zS 49 69 [zR a0, zI a1, zR a2, zI a3, zI a4, zU, zU, zU] [] sh pp mm Q) ∧ (¬ s1 = s0 → zS 49 135 [zR a0, zI a1, zR a2, zI a3, zI a4, zU, zU, zU] [] sh pp mm Q) := s_ifn cL_goOn_66 cL_goOn_69 cL_goOn_135 rfl rfl rfl
theorem rL_goOn_69 {a0 a2 : Nat} {a1 a3 a4 : Int} {u5 u6 u7 : zV} : zS 49 69 [zR a0, zI a1, zR a2, zI a3, zI a4, u5, u6, u7] [] sh pp mm Q ↔ zS 49 70 [zR a0, zI a1, zR a2, zI a3, zI a4, zU, zU, zU] [zI a1] sh pp mm Q := s_go cL_goOn_69 cL_goOn_70 rfl rfl
theorem rL_goOn_70 {a0 a2 : Nat} {a1 a3 a4 s0 : Int} {u5 u6 u7 : zV} : zS 49 70 [zR a0, zI a1, zR a2, zI a3, zI a4, u5, u6, u7] [zI s0] sh pp mm Q ↔ zS 49 71 [zR a0, zI a1, zR a2, zI a3, zI a4, zU, zU, zU] [zI 1, zI s0] sh pp mm Q := s_go cL_goOn_70 cL_goOn_71 rfl rfl
theorem rL_goOn_71 {a0 a2 : Nat} {a1 a3 a4 s0 s1 : Int} {u5 u6 u7 : zV} : zS 49 71 [zR a0, zI a1, zR a2, zI a3, zI a4, u5, u6, u7] [zI s0, zI s1] sh pp mm Q ↔ zS 49 73 [zR a0, zI a1, zR a2, zI a3, zI a4, zU, zU, zU] [zI a4, zI s0, zI s1] sh pp mm Q := s_go cL_goOn_71 cL_goOn_73 rfl rfl
theorem rL_goOn_73 {a0 a2 : Nat} {a1 a3 a4 s0 s1 s2 : Int} {u5 u6 u7 : zV} : zS 49 73 [zR a0, zI a1, zR a2, zI a3, zI a4, u5, u6, u7] [zI s0, zI s1, zI s2] sh pp mm Q ↔ zS 49 74 [zR a0, zI a1, zR a2, zI a3, zI a4, zU, zU, zU] [zI (zshl s1 s0), zI s2] sh pp mm Q := s_go cL_goOn_73 cL_goOn_74 rfl rfl
theorem rL_goOn_74 {a0 a2 : Nat} {a1 a3 a4 s0 s1 : Int} {u5 u6 u7 : zV} : zS 49 74 [zR a0, zI a1, zR a2, zI a3, zI a4, u5, u6, u7] [zI s0, zI s1] sh pp mm Q ↔ zS 49 75 [zR a0, zI a1, zR a2, zI a3, zI a4, zU, zU, zU] [zI (zor s1 s0)] sh pp mm Q := s_go cL_goOn_74 cL_goOn_75 rfl rfl
theorem rL_goOn_75 {a0 a2 : Nat} {a1 a3 a4 s0 : Int} {u5 u6 u7 : zV} : zS 49 75 [zR a0, zI a1, zR a2, zI a3, zI a4, u5, u6, u7] [zI s0] sh pp mm Q ↔ zS 49 77 [zR a0, zI a1, zR a2, zI a3, zI a4, zU, zI s0, zU] [] sh pp mm Q := s_go cL_goOn_75 cL_goOn_77 rfl rfl
theorem rL_goOn_77 {a0 a2 : Nat} {a1 a3 a4 a6 : Int} {u5 u7 : zV} : zS 49 77 [zR a0, zI a1, zR a2, zI a3, zI a4, u5, zI a6, u7] [] sh pp mm Q ↔ zS 49 78 [zR a0, zI a1, zR a2, zI a3, zI a4, zU, zI a6, zU] [zR a2] sh pp mm Q := s_go cL_goOn_77 cL_goOn_78 rfl rfl
theorem rL_goOn_78 {a0 a2 s0 : Nat} {a1 a3 a4 a6 : Int} {u5 u7 : zV} (hk : zKd sh s0 = 6) : zS 49 78 [zR a0, zI a1, zR a2, zI a3, zI a4, u5, zI a6, u7] [zR s0] sh pp mm Q ↔ zS 49 81 [zR a0, zI a1, zR a2, zI a3, zI a4, zU, zI a6, zU] [zR (pp s0 4)] sh pp mm Q := s_go cL_goOn_78 cL_goOn_81 (if_pos hk) rfl
theorem rL_goOn_81 {a0 a2 s0 : Nat} {a1 a3 a4 a6 : Int} {u5 u7 : zV} : zS 49 81 [zR a0, zI a1, zR a2, zI a3, zI a4, u5, zI a6, u7] [zR s0] sh pp mm Q ↔ zS 49 83 [zR a0, zI a1, zR a2, zI a3, zI a4, zU, zI a6, zU] [zI a4, zR s0] sh pp mm Q := s_go cL_goOn_81 cL_goOn_83 rfl rfl
theorem rL_goOn_83 {a0 a2 s1 : Nat} {a1 a3 a4 a6 s0 : Int} {u5 u7 : zV} (hk : zKd sh s1 = 20 ∨ zKd sh s1 = 30) (h0 : 0 ≤ s0) (h1 : s0 < zLn sh s1) : zS 49 83 [zR a0, zI a1, zR a2, zI a3, zI a4, u5, zI a6, u7] [zI s0, zR s1] sh pp mm Q ↔ zS 49 84 [zR a0, zI a1, zR a2, zI a3, zI a4, zU, zI a6, zU] [zI (mm s1 s0)] sh pp mm Q := s_go cL_goOn_83 cL_goOn_84 (if_pos ⟨hk, h0, h1⟩) rfl
theorem rL_goOn_84 {a0 a2 : Nat} {a1 a3 a4 a6 s0 : Int} {u5 u7 : zV} : zS 49 84 [zR a0, zI a1, zR a2, zI a3, zI a4, u5, zI a6, u7] [zI s0] sh pp mm Q ↔ zS 49 85 [zR a0, zI a1, zR a2, zI a3, zI a4, zU, zI a6, zU] [zI a3, zI s0] sh pp mm Q := s_go cL_goOn_84 cL_goOn_85 rfl rfl
theorem rL_goOn_85 {a0 a2 : Nat} {a1 a3 a4 a6 s0 s1 : Int} {u5 u7 : zV} : zS 49 85 [zR a0, zI a1, zR a2, zI a3, zI a4, u5, zI a6, u7] [zI s0, zI s1] sh pp mm Q ↔ (s1 = s0 → zS 49 88 [zR a0, zI a1, zR a2, zI a3, zI a4, zU, zI a6, zU] [] sh pp mm Q) ∧ (¬ s1 = s0 → zS 49 92 [zR a0, zI a1, zR a2, zI a3, zI a4, zU, zI a6, zU] [] sh pp mm Q) := s_ifn cL_goOn_85 cL_goOn_88 cL_goOn_92 rfl rfl rfl
theorem rL_goOn_88 {a0 a2 : Nat} {a1 a3 a4 a6 : Int} {u5 u7 : zV} : zS 49 88 [zR a0, zI a1, zR a2, zI a3, zI a4, u5, zI a6, u7] [] sh pp mm Q ↔ zS 49 89 [zR a0, zI a1, zR a2, zI a3, zI a4, zU, zI a6, zU] [zI 1] sh pp mm Q := s_go cL_goOn_88 cL_goOn_89 rfl rfl
theorem rL_goOn_89 {a0 a2 : Nat} {a1 a3 a4 a6 s0 : Int} {u5 u7 : zV} : zS 49 89 [zR a0, zI a1, zR a2, zI a3, zI a4, u5, zI a6, u7] [zI s0] sh pp mm Q ↔ zS 49 93 [zR a0, zI a1, zR a2, zI a3, zI a4, zU, zI a6, zU] [zI s0] sh pp mm Q := s_go cL_goOn_89 cL_goOn_93 rfl rfl
theorem rL_goOn_92 {a0 a2 : Nat} {a1 a3 a4 a6 : Int} {u5 u7 : zV} : zS 49 92 [zR a0, zI a1, zR a2, zI a3, zI a4, u5, zI a6, u7] [] sh pp mm Q ↔ zS 49 93 [zR a0, zI a1, zR a2, zI a3, zI a4, zU, zI a6, zU] [zI (-1)] sh pp mm Q := s_go cL_goOn_92 cL_goOn_93 rfl rfl
theorem rL_goOn_93 {a0 a2 : Nat} {a1 a3 a4 a6 s0 : Int} {u5 u7 : zV} : zS 49 93 [zR a0, zI a1, zR a2, zI a3, zI a4, u5, zI a6, u7] [zI s0] sh pp mm Q ↔ zS 49 95 [zR a0, zI a1, zR a2, zI a3, zI a4, zU, zI a6, zI s0] [] sh pp mm Q := s_go cL_goOn_93 cL_goOn_95 rfl rfl
theorem rL_goOn_95 {a0 a2 : Nat} {a1 a3 a4 a6 a7 : Int} {u5 : zV} : zS 49 95 [zR a0, zI a1, zR a2, zI a3, zI a4, u5, zI a6, zI a7] [] sh pp mm Q ↔ zS 49 96 [zR a0, zI a1, zR a2, zI a3, zI a4, zU, zI a6, zI a7] [zR a0] sh pp mm Q := s_go cL_goOn_95 cL_goOn_96 rfl rfl
theorem rL_goOn_96 {a0 a2 s0 : Nat} {a1 a3 a4 a6 a7 : Int} {u5 : zV} : zS 49 96 [zR a0, zI a1, zR a2, zI a3, zI a4, u5, zI a6, zI a7] [zR s0] sh pp mm Q ↔ zS 49 98 [zR a0, zI a1, zR a2, zI a3, zI a4, zU, zI a6, zI a7] [zI a6, zR s0] sh pp mm Q := s_go cL_goOn_96 cL_goOn_98 rfl rfl
theorem rL_goOn_98 {a0 a2 s1 : Nat} {a1 a3 a4 a6 a7 s0 : Int} {u5 : zV} : zS 49 98 [zR a0, zI a1, zR a2, zI a3, zI a4, u5, zI a6, zI a7] [zI s0, zR s1] sh pp mm Q ↔ zS 49 99 [zR a0, zI a1, zR a2, zI a3, zI a4, zU, zI a6, zI a7] [zR a2, zI s0, zR s1] sh pp mm Q := s_go cL_goOn_98 cL_goOn_99 rfl rfl
theorem rL_goOn_99 {a0 a2 s0 s2 : Nat} {a1 a3 a4 a6 a7 s1 : Int} {u5 : zV} : zS 49 99 [zR a0, zI a1, zR a2, zI a3, zI a4, u5, zI a6, zI a7] [zR s0, zI s1, zR s2] sh pp mm Q ↔ zS 49 101 [zR a0, zI a1, zR a2, zI a3, zI a4, zU, zI a6, zI a7] [zI a4, zR s0, zI s1, zR s2] sh pp mm Q := s_go cL_goOn_99 cL_goOn_101 rfl rfl
theorem rL_goOn_101 {a0 a2 s1 s3 : Nat} {a1 a3 a4 a6 a7 s0 s2 : Int} {u5 : zV} : zS 49 101 [zR a0, zI a1, zR a2, zI a3, zI a4, u5, zI a6, zI a7] [zI s0, zR s1, zI s2, zR s3] sh pp mm Q ↔ zS 49 102 [zR a0, zI a1, zR a2, zI a3, zI a4, zU, zI a6, zI a7] [zI a3, zI s0, zR s1, zI s2, zR s3] sh pp mm Q := s_go cL_goOn_101 cL_goOn_102 rfl rfl
theorem rL_goOn_102 {a0 a2 s2 s4 : Nat} {a1 a3 a4 a6 a7 s0 s1 s3 : Int} {u5 : zV} (hk : zKd sh s2 = 6) : zS 49 102 [zR a0, zI a1, zR a2, zI a3, zI a4, u5, zI a6, zI a7] [zI s0, zI s1, zR s2, zI s3, zR s4] sh pp mm Q ↔ zS 59 0 [zR s2, zI s1, zI s0] [] sh pp mm (fun v sh pp mm => zS 49 105 [zR a0, zI a1, zR a2, zI a3, zI a4, zU, zI a6, zI a7] (zPush v [zI s3, zR s4]) sh pp mm Q) := s_call cL_goOn_102 cL_goOn_105 ((if_pos hk).trans rfl) rfl
theorem rL_goOn_105 {a0 a2 s2 : Nat} {a1 a3 a4 a6 a7 s0 s1 : Int} {u5 : zV} (hk : zKd sh s2 = 5) : zS 49 105 [zR a0, zI a1, zR a2, zI a3, zI a4, u5, zI a6, zI a7] [zI s0, zI s1, zR s2] sh pp mm Q ↔ zS 48 0 [zR s2, zI s1, zI s0, zU] [] sh pp mm (fun v sh pp mm => zS 49 108 [zR a0, zI a1, zR a2, zI a3, zI a4, zU, zI a6, zI a7] (zPush v []) sh pp mm Q) := s_call cL_goOn_105 cL_goOn_108 ((if_pos hk).trans rfl) rfl
theorem rL_goOn_108 {a0 a2 : Nat} {a1 a3 a4 a6 a7 : Int} {u5 : zV} : zS 49 108 [zR a0, zI a1, zR a2, zI a3, zI a4, u5, zI a6, zI a7] [] sh pp mm Q ↔ zS 49 109 [zR a0, zI a1, zR a2, zI a3, zI a4, zU, zI a6, zI a7] [zR a0] sh pp mm Q := s_go cL_goOn_108 cL_goOn_109 rfl rfl
theorem rL_goOn_109 {a0 a2 s0 : Nat} {a1 a3 a4 a6 a7 : Int} {u5 : zV} : zS 49 109 [zR a0, zI a1, zR a2, zI a3, zI a4, u5, zI a6, zI a7] [zR s0] sh pp mm Q ↔ zS 49 110 [zR a0, zI a1, zR a2, zI a3, zI a4, zU, zI a6, zI a7] [zI a1, zR s0] sh pp mm Q := s_go cL_goOn_109 cL_goOn_110 rfl rfl
theorem rL_goOn_110 {a0 a2 s1 : Nat} {a1 a3 a4 a6 a7 s0 : Int} {u5 : zV} : zS 49 110 [zR a0, zI a1, zR a2, zI a3, zI a4, u5, zI a6, zI a7] [zI s0, zR s1] sh pp mm Q ↔ zS 49 112 [zR a0, zI a1, zR a2, zI a3, zI a4, zU, zU, zI a7] [zI a6, zI s0, zR s1] sh pp mm Q := s_go cL_goOn_110 cL_goOn_112 rfl rfl
theorem rL_goOn_112 {a0 a2 s2 : Nat} {a1 a3 a4 a7 s0 s1 : Int} {u5 u6 : zV} : zS 49 112 [zR a0, zI a1, zR a2, zI a3, zI a4, u5, u6, zI a7] [zI s0, zI s1, zR s2] sh pp mm Q ↔ zS 49 114 [zR a0, zI a1, zR a2, zI a3, zI a4, zU, zU, zI a7] [zI a7, zI s0, zI s1, zR s2] sh pp mm Q := s_go cL_goOn_112 cL_goOn_114 rfl rfl
theorem rL_goOn_114 {a0 a2 s3 : Nat} {a1 a3 a4 a7 s0 s1 s2 : Int} {u5 u6 : zV} : zS 49 114 [zR a0, zI a1, zR a2, zI a3, zI a4, u5, u6, zI a7] [zI s0, zI s1, zI s2, zR s3] sh pp mm Q ↔ zS 49 115 [zR a0, zI a1, zR a2, zI a3, zI a4, zU, zU, zI a7] [zR a2, zI s0, zI s1, zI s2, zR s3] sh pp mm Q := s_go cL_goOn_114 cL_goOn_115 rfl rfl
theorem rL_goOn_115 {a0 a2 s0 s4 : Nat} {a1 a3 a4 a7 s1 s2 s3 : Int} {u5 u6 : zV} (hk : zKd sh s0 = 6) : zS 49 115 [zR a0, zI a1, zR a2, zI a3, zI a4, u5, u6, zI a7] [zR s0, zI s1, zI s2, zI s3, zR s4] sh pp mm Q ↔ zS 49 118 [zR a0, zI a1, zR a2, zI a3, zI a4, zU, zU, zI a7] [zR (pp s0 7), zI s1, zI s2, zI s3, zR s4] sh pp mm Q := s_go cL_goOn_115 cL_goOn_118 (if_pos hk) rfl
theorem rL_goOn_118 {a0 a2 s0 s4 : Nat} {a1 a3 a4 a7 s1 s2 s3 : Int} {u5 u6 : zV} : zS 49 118 [zR a0, zI a1, zR a2, zI a3, zI a4, u5, u6, zI a7] [zR s0, zI s1, zI s2, zI s3, zR s4] sh pp mm Q ↔ zS 49 120 [zR a0, zI a1, zR a2, zI a3, zI a4, zU, zU, zI a7] [zI a4, zR s0, zI s1, zI s2, zI s3, zR s4] sh pp mm Q := s_go cL_goOn_118 cL_goOn_120 rfl rfl
theorem rL_goOn_120 {a0 a2 s1 s5 : Nat} {a1 a3 a4 a7 s0 s2 s3 s4 : Int} {u5 u6 : zV} (hk : zKd sh s1 = 20 ∨ zKd sh s1 = 30) (h0 : 0 ≤ s0) (h1 : s0 < zLn sh s1) : zS 49 120 [zR a0, zI a1, zR a2, zI a3, zI a4, u5, u6, zI a7] [zI s0, zR s1, zI s2, zI s3, zI s4, zR s5] sh pp mm Q ↔ zS 49 121 [zR a0, zI a1, zR a2, zI a3, zI a4, zU, zU, zI a7] [zI (mm s1 s0), zI s2, zI s3, zI s4, zR s5] sh pp mm Q := s_go cL_goOn_120 cL_goOn_121 (if_pos ⟨hk, h0, h1⟩) rfl
theorem rL_goOn_121 {a0 a2 s4 : Nat} {a1 a3 a4 a7 s0 s1 s2 s3 : Int} {u5 u6 : zV} : zS 49 121 [zR a0, zI a1, zR a2, zI a3, zI a4, u5, u6, zI a7] [zI s0, zI s1, zI s2, zI s3, zR s4] sh pp mm Q ↔ zS 49 122 [zR a0, zI a1, zR a2, zI a3, zI a4, zU, zU, zI a7] [zI (zw32 (s1 * s0)), zI s2, zI s3, zR s4] sh pp mm Q := s_go cL_goOn_121 cL_goOn_122 rfl rfl
theorem rL_goOn_122 {a0 a2 s3 : Nat} {a1 a3 a4 a7 s0 s1 s2 : Int} {u5 u6 : zV} : zS 49 122 [zR a0, zI a1, zR a2, zI a3, zI a4, u5, u6, zI a7] [zI s0, zI s1, zI s2, zR s3] sh pp mm Q ↔ zS 49 124 [zR a0, zI a1, zR a2, zI a3, zI a4, zU, zU, zU] [zI a7, zI s0, zI s1, zI s2, zR s3] sh pp mm Q := s_go cL_goOn_122 cL_goOn_124 rfl rfl
theorem rL_goOn_124 {a0 a2 s4 : Nat} {a1 a3 a4 s0 s1 s2 s3 : Int} {u5 u6 u7 : zV} : zS 49 124 [zR a0, zI a1, zR a2, zI a3, zI a4, u5, u6, u7] [zI s0, zI s1, zI s2, zI s3, zR s4] sh pp mm Q ↔ zS 49 125 [zR a0, zI a1, zR a2, zI a3, zI a4, zU, zU, zU] [zR a2, zI s0, zI s1, zI s2, zI s3, zR s4] sh pp mm Q := s_go cL_goOn_124 cL_goOn_125 rfl rfl
theorem rL_goOn_125 {a0 a2 s0 s5 : Nat} {a1 a3 a4 s1 s2 s3 s4 : Int} {u5 u6 u7 : zV} (hk : zKd sh s0 = 6) : zS 49 125 [zR a0, zI a1, zR a2, zI a3, zI a4, u5, u6, u7] [zR s0, zI s1, zI s2, zI s3, zI s4, zR s5] sh pp mm Q ↔ zS 49 128 [zR a0, zI a1, zR a2, zI a3, zI a4, zU, zU, zU] [zR (pp s0 8), zI s1, zI s2, zI s3, zI s4, zR s5] sh pp mm Q := s_go cL_goOn_125 cL_goOn_128 (if_pos hk) rfl
theorem rL_goOn_128 {a0 a2 s0 s5 : Nat} {a1 a3 a4 s1 s2 s3 s4 : Int} {u5 u6 u7 : zV} : zS 49 128 [zR a0, zI a1, zR a2, zI a3, zI a4, u5, u6, u7] [zR s0, zI s1, zI s2, zI s3, zI s4, zR s5] sh pp mm Q ↔ zS 49 130 [zR a0, zI a1, zR a2, zI a3, zI a4, zU, zU, zU] [zI a4, zR s0, zI s1, zI s2, zI s3, zI s4, zR s5] sh pp mm Q := s_go cL_goOn_128 cL_goOn_130 rfl rfl
theorem rL_goOn_130 {a0 a2 s1 s6 : Nat} {a1 a3 a4 s0 s2 s3 s4 s5 : Int} {u5 u6 u7 : zV} (hk : zKd sh s1 = 20 ∨ zKd sh s1 = 30) (h0 : 0 ≤ s0) (h1 : s0 < zLn sh s1) : zS 49 130 [zR a0, zI a1, zR a2, zI a3, zI a4, u5, u6, u7] [zI s0, zR s1, zI s2, zI s3, zI s4, zI s5, zR s6] sh pp mm Q ↔ zS 49 131 [zR a0, zI a1, zR a2, zI a3, zI a4, zU, zU, zU] [zI (mm s1 s0), zI s2, zI s3, zI s4, zI s5, zR s6] sh pp mm Q := s_go cL_goOn_130 cL_goOn_131 (if_pos ⟨hk, h0, h1⟩) rfl
theorem rL_goOn_131 {a0 a2 s5 : Nat} {a1 a3 a4 s0 s1 s2 s3 s4 : Int} {u5 u6 u7 : zV} : zS 49 131 [zR a0, zI a1, zR a2, zI a3, zI a4, u5, u6, u7] [zI s0, zI s1, zI s2, zI s3, zI s4, zR s5] sh pp mm Q ↔ zS 49 132 [zR a0, zI a1, zR a2, zI a3, zI a4, zU, zU, zU] [zI (zw32 (s1 * s0)), zI s2, zI s3, zI s4, zR s5] sh pp mm Q := s_go cL_goOn_131 cL_goOn_132 rfl rfl
theorem rL_goOn_132 {a0 a2 s4 : Nat} {a1 a3 a4 s0 s1 s2 s3 : Int} {u5 u6 u7 : zV} (hk : zKd sh s4 = 5) : zS 49 132 [zR a0, zI a1, zR a2, zI a3, zI a4, u5, u6, u7] [zI s0, zI s1, zI s2, zI s3, zR s4] sh pp mm Q ↔ zS 50 0 [zR s4, zI s3, zI s2, zI s1, zI s0, zU, zU, zU, zU, zU] [] sh pp mm (fun v sh pp mm => zS 49 135 [zR a0, zI a1, zR a2, zI a3, zI a4, zU, zU, zU] (zPush v []) sh pp mm Q) := s_call cL_goOn_132 cL_goOn_135 ((if_pos hk).trans rfl) rfl
theorem rL_goOn_135 {a0 a2 : Nat} {a1 a3 a4 : Int} {u5 u6 u7 : zV} : zS 49 135 [zR a0, zI a1, zR a2, zI a3, zI a4, u5, u6, u7] [] sh pp mm Q ↔ zS 49 138 [zR a0, zI a1, zR a2, zI a3, zI (zw32 (a4 + 1)), zU, zU, zU] [] sh pp mm Q := s_go cL_goOn_135 cL_goOn_138 rfl rfl
theorem rL_goOn_138 {a0 a2 : Nat} {a1 a3 a4 : Int} {u5 u6 u7 : zV} : zS 49 138 [zR a0, zI a1, zR a2, zI a3, zI a4, u5, u6, u7] [] sh pp mm Q ↔ zS 49 10 [zR a0, zI a1, zR a2, zI a3, zI a4, zU, zU, zU] [] sh pp mm Q := s_go cL_goOn_138 cL_goOn_10 rfl rfl
theorem rL_goOn_141 {u0 u1 u2 u3 u4 u5 u6 u7 : zV} : zS 49 141 [u0, u1, u2, u3, u4, u5, u6, u7] [] sh pp mm Q ↔ Q zU sh pp mm := s_ret cL_goOn_141 rfl
theorem cAL_stroke : ∀ q ∈ zT50, zCode 50 q.1 = some q.2 := zAll (mid := 50) rfl (by decide +kernel)
theorem cAL_stroke_0 : ∀ q ∈ zT50_0, zCode 50 q.1 = some q.2 := fun q h => cAL_stroke q (List.mem_append_left _ h)
theorem cAL_stroke_1 : ∀ q ∈ zT50_1, zCode 50 q.1 = some q.2 := fun q h => cAL_stroke q (List.mem_append_right _ (List.mem_append_left _ h))
theorem cAL_stroke_2 : ∀ q ∈ zT50_2, zCode 50 q.1 = some q.2 := fun q h => cAL_stroke q (List.mem_append_right _ (List.mem_append_right _ (List.mem_append_left _ h)))
theorem cAL_stroke_3 : ∀ q ∈ zT50_3, zCode 50 q.1 = some q.2 := fun q h => cAL_stroke q (List.mem_append_right _ (List.mem_append_right _ (List.mem_append_right _ h)))
theorem cL_stroke_0 : zCode 50 0 = some (.iconst 0, 1, 0, 0, 0, 0, 31) := cAL_stroke_0 _ (List.mem_of_getElem? (i := 0) rfl)
theorem cL_stroke_1 : zCode 50 1 = some (.istore 5, 3, 0, 0, 0, 0, 31) := cAL_stroke_0 _ (List.mem_of_getElem? (i := 1) rfl)
theorem cL_stroke_3 : zCode 50 3 = some (.iload 5, 5, 0, 0, 0, 0, 63) := cAL_stroke_0 _ (List.mem_of_getElem? (i := 2) rfl)
theorem cL_stroke_5 : zCode 50 5 = some (.bipush 9, 7, 0, 0, 0, 0, 63) := cAL_stroke_0 _ (List.mem_of_getElem? (i := 3) rfl)
theorem cL_stroke_7 : zCode 50 7 = some (.if_icmp .ge 103, 10, 110, 0, 0, 0, 63) := cAL_stroke_0 _ (List.mem_of_getElem? (i := 4) rfl)
theorem cL_stroke_10 : zCode 50 10 = some (.aload_n 0, 11, 0, 0, 0, 0, 63) := cAL_stroke_0 _ (List.mem_of_getElem? (i := 5) rfl)
theorem cL_stroke_11 : zCode 50 11 = some (.getfield 16, 14, 5, 1, 2, 932, 63) := cAL_stroke_0 _ (List.mem_of_getElem? (i := 6) rfl)
theorem cL_stroke_14 : zCode 50 14 = some (.iload_n 1, 15, 0, 0, 0, 0, 63) := cAL_stroke_0 _ (List.mem_of_getElem? (i := 7) rfl)
theorem cL_stroke_15 : zCode 50 15 = some (.bipush 9, 17, 0, 0, 0, 0, 63) := cAL_stroke_0 _ (List.mem_of_getElem? (i := 8) rfl)
theorem cL_stroke_17 : zCode 50 17 = some (.imul, 18, 0, 0, 0, 0, 63) := cAL_stroke_0 _ (List.mem_of_getElem? (i := 9) rfl)
theorem cL_stroke_18 : zCode 50 18 = some (.iload 5, 20, 0, 0, 0, 0, 63) := cAL_stroke_0 _ (List.mem_of_getElem? (i := 10) rfl)
theorem cL_stroke_20 : zCode 50 20 = some (.iadd, 21, 0, 0, 0, 0, 63) := cAL_stroke_0 _ (List.mem_of_getElem? (i := 11) rfl)
theorem cL_stroke_21 : zCode 50 21 = some (.iaload, 22, 0, 0, 0, 0, 63) := cAL_stroke_0 _ (List.mem_of_getElem? (i := 12) rfl)
theorem cL_stroke_22 : zCode 50 22 = some (.istore 6, 24, 0, 0, 0, 0, 63) := cAL_stroke_0 _ (List.mem_of_getElem? (i := 13) rfl)
theorem cL_stroke_24 : zCode 50 24 = some (.iload 6, 26, 0, 0, 0, 0, 127) := cAL_stroke_0 _ (List.mem_of_getElem? (i := 14) rfl)
theorem cL_stroke_26 : zCode 50 26 = some (.ldc 33, 28, 0, 0, 948, 1000000, 127) := cAL_stroke_0 _ (List.mem_of_getElem? (i := 15) rfl)
theorem cL_stroke_28 : zCode 50 28 = some (.if_icmp .ge 76, 31, 104, 0, 0, 0, 127) := cAL_stroke_1 _ (List.mem_of_getElem? (i := 0) rfl)
theorem cL_stroke_31 : zCode 50 31 = some (.iload 5, 33, 0, 0, 0, 0, 127) := cAL_stroke_1 _ (List.mem_of_getElem? (i := 1) rfl)
theorem cL_stroke_33 : zCode 50 33 = some (.iconst 3, 34, 0, 0, 0, 0, 127) := cAL_stroke_1 _ (List.mem_of_getElem? (i := 2) rfl)
theorem cL_stroke_34 : zCode 50 34 = some (.idiv, 35, 0, 0, 0, 0, 127) := cAL_stroke_1 _ (List.mem_of_getElem? (i := 3) rfl)
theorem cL_stroke_35 : zCode 50 35 = some (.istore 7, 37, 0, 0, 0, 0, 127) := cAL_stroke_1 _ (List.mem_of_getElem? (i := 4) rfl)
theorem cL_stroke_37 : zCode 50 37 = some (.iload 5, 39, 0, 0, 0, 0, 255) := cAL_stroke_1 _ (List.mem_of_getElem? (i := 5) rfl)
theorem cL_stroke_39 : zCode 50 39 = some (.iconst 3, 40, 0, 0, 0, 0, 255) := cAL_stroke_1 _ (List.mem_of_getElem? (i := 6) rfl)
theorem cL_stroke_40 : zCode 50 40 = some (.irem, 41, 0, 0, 0, 0, 255) := cAL_stroke_1 _ (List.mem_of_getElem? (i := 7) rfl)
theorem cL_stroke_41 : zCode 50 41 = some (.istore 8, 43, 0, 0, 0, 0, 255) := cAL_stroke_1 _ (List.mem_of_getElem? (i := 8) rfl)
theorem cL_stroke_43 : zCode 50 43 = some (.iload 6, 45, 0, 0, 0, 0, 511) := cAL_stroke_1 _ (List.mem_of_getElem? (i := 9) rfl)
theorem cL_stroke_45 : zCode 50 45 = some (.iload 7, 47, 0, 0, 0, 0, 447) := cAL_stroke_1 _ (List.mem_of_getElem? (i := 10) rfl)
theorem cL_stroke_47 : zCode 50 47 = some (.iload_n 3, 48, 0, 0, 0, 0, 447) := cAL_stroke_1 _ (List.mem_of_getElem? (i := 11) rfl)
theorem cL_stroke_48 : zCode 50 48 = some (.invokestatic 66, 51, 51, 2, 2, 5, 447) := cAL_stroke_1 _ (List.mem_of_getElem? (i := 12) rfl)
theorem cL_stroke_51 : zCode 50 51 = some (.iload 8, 53, 0, 0, 0, 0, 447) := cAL_stroke_1 _ (List.mem_of_getElem? (i := 13) rfl)
theorem cL_stroke_53 : zCode 50 53 = some (.iload 4, 55, 0, 0, 0, 0, 447) := cAL_stroke_1 _ (List.mem_of_getElem? (i := 14) rfl)
theorem cL_stroke_55 : zCode 50 55 = some (.invokestatic 66, 58, 51, 2, 2, 5, 447) := cAL_stroke_1 _ (List.mem_of_getElem? (i := 15) rfl)
theorem cL_stroke_58 : zCode 50 58 = some (.iadd, 59, 0, 0, 0, 0, 447) := cAL_stroke_2 _ (List.mem_of_getElem? (i := 0) rfl)
theorem cL_stroke_59 : zCode 50 59 = some (.iadd, 60, 0, 0, 0, 0, 447) := cAL_stroke_2 _ (List.mem_of_getElem? (i := 1) rfl)
theorem cL_stroke_60 : zCode 50 60 = some (.istore 6, 62, 0, 0, 0, 0, 447) := cAL_stroke_2 _ (List.mem_of_getElem? (i := 2) rfl)
theorem cL_stroke_62 : zCode 50 62 = some (.iload_n 2, 63, 0, 0, 0, 0, 511) := cAL_stroke_2 _ (List.mem_of_getElem? (i := 3) rfl)
theorem cL_stroke_63 : zCode 50 63 = some (.bipush 9, 65, 0, 0, 0, 0, 511) := cAL_stroke_2 _ (List.mem_of_getElem? (i := 4) rfl)
theorem cL_stroke_65 : zCode 50 65 = some (.imul, 66, 0, 0, 0, 0, 511) := cAL_stroke_2 _ (List.mem_of_getElem? (i := 5) rfl)
theorem cL_stroke_66 : zCode 50 66 = some (.iconst 3, 67, 0, 0, 0, 0, 511) := cAL_stroke_2 _ (List.mem_of_getElem? (i := 6) rfl)
theorem cL_stroke_67 : zCode 50 67 = some (.iload 7, 69, 0, 0, 0, 0, 511) := cAL_stroke_2 _ (List.mem_of_getElem? (i := 7) rfl)
theorem cL_stroke_69 : zCode 50 69 = some (.iload_n 3, 70, 0, 0, 0, 0, 383) := cAL_stroke_2 _ (List.mem_of_getElem? (i := 8) rfl)
theorem cL_stroke_70 : zCode 50 70 = some (.invokestatic 69, 73, 52, 2, 2, 5, 383) := cAL_stroke_2 _ (List.mem_of_getElem? (i := 9) rfl)
theorem cL_stroke_73 : zCode 50 73 = some (.imul, 74, 0, 0, 0, 0, 383) := cAL_stroke_2 _ (List.mem_of_getElem? (i := 10) rfl)
theorem cL_stroke_74 : zCode 50 74 = some (.iadd, 75, 0, 0, 0, 0, 383) := cAL_stroke_2 _ (List.mem_of_getElem? (i := 11) rfl)
theorem cL_stroke_75 : zCode 50 75 = some (.iload 8, 77, 0, 0, 0, 0, 383) := cAL_stroke_2 _ (List.mem_of_getElem? (i := 12) rfl)
theorem cL_stroke_77 : zCode 50 77 = some (.iload 4, 79, 0, 0, 0, 0, 127) := cAL_stroke_2 _ (List.mem_of_getElem? (i := 13) rfl)
theorem cL_stroke_79 : zCode 50 79 = some (.invokestatic 69, 82, 52, 2, 2, 5, 127) := cAL_stroke_2 _ (List.mem_of_getElem? (i := 14) rfl)
theorem cL_stroke_82 : zCode 50 82 = some (.iadd, 83, 0, 0, 0, 0, 127) := cAL_stroke_2 _ (List.mem_of_getElem? (i := 15) rfl)
theorem cL_stroke_83 : zCode 50 83 = some (.istore 9, 85, 0, 0, 0, 0, 127) := cAL_stroke_3 _ (List.mem_of_getElem? (i := 0) rfl)
theorem cL_stroke_85 : zCode 50 85 = some (.aload_n 0, 86, 0, 0, 0, 0, 639) := cAL_stroke_3 _ (List.mem_of_getElem? (i := 1) rfl)
theorem cL_stroke_86 : zCode 50 86 = some (.getfield 16, 89, 5, 1, 2, 932, 639) := cAL_stroke_3 _ (List.mem_of_getElem? (i := 2) rfl)
theorem cL_stroke_89 : zCode 50 89 = some (.iload 9, 91, 0, 0, 0, 0, 639) := cAL_stroke_3 _ (List.mem_of_getElem? (i := 3) rfl)
theorem cL_stroke_91 : zCode 50 91 = some (.aload_n 0, 92, 0, 0, 0, 0, 639) := cAL_stroke_3 _ (List.mem_of_getElem? (i := 4) rfl)
theorem cL_stroke_92 : zCode 50 92 = some (.getfield 16, 95, 5, 1, 2, 932, 639) := cAL_stroke_3 _ (List.mem_of_getElem? (i := 5) rfl)
theorem cL_stroke_95 : zCode 50 95 = some (.iload 9, 97, 0, 0, 0, 0, 639) := cAL_stroke_3 _ (List.mem_of_getElem? (i := 6) rfl)
theorem cL_stroke_97 : zCode 50 97 = some (.iaload, 98, 0, 0, 0, 0, 127) := cAL_stroke_3 _ (List.mem_of_getElem? (i := 7) rfl)
theorem cL_stroke_98 : zCode 50 98 = some (.iload 6, 100, 0, 0, 0, 0, 127) := cAL_stroke_3 _ (List.mem_of_getElem? (i := 8) rfl)
theorem cL_stroke_100 : zCode 50 100 = some (.invokestatic 34, 103, 260, 2, 2, 15, 63) := cAL_stroke_3 _ (List.mem_of_getElem? (i := 9) rfl)
theorem cL_stroke_103 : zCode 50 103 = some (.iastore, 104, 0, 0, 0, 0, 63) := cAL_stroke_3 _ (List.mem_of_getElem? (i := 10) rfl)
theorem cL_stroke_104 : zCode 50 104 = some (.iinc 5 1, 107, 0, 0, 0, 0, 63) := cAL_stroke_3 _ (List.mem_of_getElem? (i := 11) rfl)
theorem cL_stroke_107 : zCode 50 107 = some (.goto (-104), 110, 3, 0, 0, 0, 63) := cAL_stroke_3 _ (List.mem_of_getElem? (i := 12) rfl)
theorem cL_stroke_110 : zCode 50 110 = some (.return_, 111, 0, 0, 0, 0, 0) := cAL_stroke_3 _ (List.mem_of_getElem? (i := 13) rfl)
theorem rL_stroke_0 {a0 : Nat} {a1 a2 a3 a4 : Int} {u5 u6 u7 u8 u9 : zV} : zS 50 0 [zR a0, zI a1, zI a2, zI a3, zI a4, u5, u6, u7, u8, u9] [] sh pp mm Q ↔ zS 50 1 [zR a0, zI a1, zI a2, zI a3, zI a4, zU, zU, zU, zU, zU] [zI 0] sh pp mm Q := s_go cL_stroke_0 cL_stroke_1 rfl rfl
theorem rL_stroke_1 {a0 : Nat} {a1 a2 a3 a4 s0 : Int} {u5 u6 u7 u8 u9 : zV} : zS 50 1 [zR a0, zI a1, zI a2, zI a3, zI a4, u5, u6, u7, u8, u9] [zI s0] sh pp mm Q ↔ zS 50 3 [zR a0, zI a1, zI a2, zI a3, zI a4, zI s0, zU, zU, zU, zU] [] sh pp mm Q := s_go cL_stroke_1 cL_stroke_3 rfl rfl
theorem rL_stroke_3 {a0 : Nat} {a1 a2 a3 a4 a5 : Int} {u6 u7 u8 u9 : zV} : zS 50 3 [zR a0, zI a1, zI a2, zI a3, zI a4, zI a5, u6, u7, u8, u9] [] sh pp mm Q ↔ zS 50 5 [zR a0, zI a1, zI a2, zI a3, zI a4, zI a5, zU, zU, zU, zU] [zI a5] sh pp mm Q := s_go cL_stroke_3 cL_stroke_5 rfl rfl
theorem rL_stroke_5 {a0 : Nat} {a1 a2 a3 a4 a5 s0 : Int} {u6 u7 u8 u9 : zV} : zS 50 5 [zR a0, zI a1, zI a2, zI a3, zI a4, zI a5, u6, u7, u8, u9] [zI s0] sh pp mm Q ↔ zS 50 7 [zR a0, zI a1, zI a2, zI a3, zI a4, zI a5, zU, zU, zU, zU] [zI 9, zI s0] sh pp mm Q := s_go cL_stroke_5 cL_stroke_7 rfl rfl
theorem rL_stroke_7 {a0 : Nat} {a1 a2 a3 a4 a5 s0 s1 : Int} {u6 u7 u8 u9 : zV} : zS 50 7 [zR a0, zI a1, zI a2, zI a3, zI a4, zI a5, u6, u7, u8, u9] [zI s0, zI s1] sh pp mm Q ↔ (s1 < s0 → zS 50 10 [zR a0, zI a1, zI a2, zI a3, zI a4, zI a5, zU, zU, zU, zU] [] sh pp mm Q) ∧ (¬ s1 < s0 → zS 50 110 [zU, zU, zU, zU, zU, zU, zU, zU, zU, zU] [] sh pp mm Q) := s_ifn cL_stroke_7 cL_stroke_10 cL_stroke_110 rfl rfl rfl
theorem rL_stroke_10 {a0 : Nat} {a1 a2 a3 a4 a5 : Int} {u6 u7 u8 u9 : zV} : zS 50 10 [zR a0, zI a1, zI a2, zI a3, zI a4, zI a5, u6, u7, u8, u9] [] sh pp mm Q ↔ zS 50 11 [zR a0, zI a1, zI a2, zI a3, zI a4, zI a5, zU, zU, zU, zU] [zR a0] sh pp mm Q := s_go cL_stroke_10 cL_stroke_11 rfl rfl
theorem rL_stroke_11 {a0 s0 : Nat} {a1 a2 a3 a4 a5 : Int} {u6 u7 u8 u9 : zV} (hk : zKd sh s0 = 5) : zS 50 11 [zR a0, zI a1, zI a2, zI a3, zI a4, zI a5, u6, u7, u8, u9] [zR s0] sh pp mm Q ↔ zS 50 14 [zR a0, zI a1, zI a2, zI a3, zI a4, zI a5, zU, zU, zU, zU] [zR (pp s0 1)] sh pp mm Q := s_go cL_stroke_11 cL_stroke_14 (if_pos hk) rfl
theorem rL_stroke_14 {a0 s0 : Nat} {a1 a2 a3 a4 a5 : Int} {u6 u7 u8 u9 : zV} : zS 50 14 [zR a0, zI a1, zI a2, zI a3, zI a4, zI a5, u6, u7, u8, u9] [zR s0] sh pp mm Q ↔ zS 50 15 [zR a0, zI a1, zI a2, zI a3, zI a4, zI a5, zU, zU, zU, zU] [zI a1, zR s0] sh pp mm Q := s_go cL_stroke_14 cL_stroke_15 rfl rfl
theorem rL_stroke_15 {a0 s1 : Nat} {a1 a2 a3 a4 a5 s0 : Int} {u6 u7 u8 u9 : zV} : zS 50 15 [zR a0, zI a1, zI a2, zI a3, zI a4, zI a5, u6, u7, u8, u9] [zI s0, zR s1] sh pp mm Q ↔ zS 50 17 [zR a0, zI a1, zI a2, zI a3, zI a4, zI a5, zU, zU, zU, zU] [zI 9, zI s0, zR s1] sh pp mm Q := s_go cL_stroke_15 cL_stroke_17 rfl rfl
theorem rL_stroke_17 {a0 s2 : Nat} {a1 a2 a3 a4 a5 s0 s1 : Int} {u6 u7 u8 u9 : zV} : zS 50 17 [zR a0, zI a1, zI a2, zI a3, zI a4, zI a5, u6, u7, u8, u9] [zI s0, zI s1, zR s2] sh pp mm Q ↔ zS 50 18 [zR a0, zI a1, zI a2, zI a3, zI a4, zI a5, zU, zU, zU, zU] [zI (zw32 (s1 * s0)), zR s2] sh pp mm Q := s_go cL_stroke_17 cL_stroke_18 rfl rfl
theorem rL_stroke_18 {a0 s1 : Nat} {a1 a2 a3 a4 a5 s0 : Int} {u6 u7 u8 u9 : zV} : zS 50 18 [zR a0, zI a1, zI a2, zI a3, zI a4, zI a5, u6, u7, u8, u9] [zI s0, zR s1] sh pp mm Q ↔ zS 50 20 [zR a0, zI a1, zI a2, zI a3, zI a4, zI a5, zU, zU, zU, zU] [zI a5, zI s0, zR s1] sh pp mm Q := s_go cL_stroke_18 cL_stroke_20 rfl rfl
theorem rL_stroke_20 {a0 s2 : Nat} {a1 a2 a3 a4 a5 s0 s1 : Int} {u6 u7 u8 u9 : zV} : zS 50 20 [zR a0, zI a1, zI a2, zI a3, zI a4, zI a5, u6, u7, u8, u9] [zI s0, zI s1, zR s2] sh pp mm Q ↔ zS 50 21 [zR a0, zI a1, zI a2, zI a3, zI a4, zI a5, zU, zU, zU, zU] [zI (zw32 (s1 + s0)), zR s2] sh pp mm Q := s_go cL_stroke_20 cL_stroke_21 rfl rfl
theorem rL_stroke_21 {a0 s1 : Nat} {a1 a2 a3 a4 a5 s0 : Int} {u6 u7 u8 u9 : zV} (hk : zKd sh s1 = 20 ∨ zKd sh s1 = 30) (h0 : 0 ≤ s0) (h1 : s0 < zLn sh s1) : zS 50 21 [zR a0, zI a1, zI a2, zI a3, zI a4, zI a5, u6, u7, u8, u9] [zI s0, zR s1] sh pp mm Q ↔ zS 50 22 [zR a0, zI a1, zI a2, zI a3, zI a4, zI a5, zU, zU, zU, zU] [zI (mm s1 s0)] sh pp mm Q := s_go cL_stroke_21 cL_stroke_22 (if_pos ⟨hk, h0, h1⟩) rfl
theorem rL_stroke_22 {a0 : Nat} {a1 a2 a3 a4 a5 s0 : Int} {u6 u7 u8 u9 : zV} : zS 50 22 [zR a0, zI a1, zI a2, zI a3, zI a4, zI a5, u6, u7, u8, u9] [zI s0] sh pp mm Q ↔ zS 50 24 [zR a0, zI a1, zI a2, zI a3, zI a4, zI a5, zI s0, zU, zU, zU] [] sh pp mm Q := s_go cL_stroke_22 cL_stroke_24 rfl rfl
theorem rL_stroke_24 {a0 : Nat} {a1 a2 a3 a4 a5 a6 : Int} {u7 u8 u9 : zV} : zS 50 24 [zR a0, zI a1, zI a2, zI a3, zI a4, zI a5, zI a6, u7, u8, u9] [] sh pp mm Q ↔ zS 50 26 [zR a0, zI a1, zI a2, zI a3, zI a4, zI a5, zI a6, zU, zU, zU] [zI a6] sh pp mm Q := s_go cL_stroke_24 cL_stroke_26 rfl rfl
theorem rL_stroke_26 {a0 : Nat} {a1 a2 a3 a4 a5 a6 s0 : Int} {u7 u8 u9 : zV} : zS 50 26 [zR a0, zI a1, zI a2, zI a3, zI a4, zI a5, zI a6, u7, u8, u9] [zI s0] sh pp mm Q ↔ zS 50 28 [zR a0, zI a1, zI a2, zI a3, zI a4, zI a5, zI a6, zU, zU, zU] [zI 1000000, zI s0] sh pp mm Q := s_go cL_stroke_26 cL_stroke_28 rfl rfl
theorem rL_stroke_28 {a0 : Nat} {a1 a2 a3 a4 a5 a6 s0 s1 : Int} {u7 u8 u9 : zV} : zS 50 28 [zR a0, zI a1, zI a2, zI a3, zI a4, zI a5, zI a6, u7, u8, u9] [zI s0, zI s1] sh pp mm Q ↔ (s1 < s0 → zS 50 31 [zR a0, zI a1, zI a2, zI a3, zI a4, zI a5, zI a6, zU, zU, zU] [] sh pp mm Q) ∧ (¬ s1 < s0 → zS 50 104 [zR a0, zI a1, zI a2, zI a3, zI a4, zI a5, zU, zU, zU, zU] [] sh pp mm Q) := s_ifn cL_stroke_28 cL_stroke_31 cL_stroke_104 rfl rfl rfl
theorem rL_stroke_31 {a0 : Nat} {a1 a2 a3 a4 a5 a6 : Int} {u7 u8 u9 : zV} : zS 50 31 [zR a0, zI a1, zI a2, zI a3, zI a4, zI a5, zI a6, u7, u8, u9] [] sh pp mm Q ↔ zS 50 33 [zR a0, zI a1, zI a2, zI a3, zI a4, zI a5, zI a6, zU, zU, zU] [zI a5] sh pp mm Q := s_go cL_stroke_31 cL_stroke_33 rfl rfl
theorem rL_stroke_33 {a0 : Nat} {a1 a2 a3 a4 a5 a6 s0 : Int} {u7 u8 u9 : zV} : zS 50 33 [zR a0, zI a1, zI a2, zI a3, zI a4, zI a5, zI a6, u7, u8, u9] [zI s0] sh pp mm Q ↔ zS 50 34 [zR a0, zI a1, zI a2, zI a3, zI a4, zI a5, zI a6, zU, zU, zU] [zI 3, zI s0] sh pp mm Q := s_go cL_stroke_33 cL_stroke_34 rfl rfl
theorem rL_stroke_34 {a0 : Nat} {a1 a2 a3 a4 a5 a6 s0 s1 : Int} {u7 u8 u9 : zV} (hz : s0 ≠ 0) : zS 50 34 [zR a0, zI a1, zI a2, zI a3, zI a4, zI a5, zI a6, u7, u8, u9] [zI s0, zI s1] sh pp mm Q ↔ zS 50 35 [zR a0, zI a1, zI a2, zI a3, zI a4, zI a5, zI a6, zU, zU, zU] [zI (zw32 (s1.tdiv s0))] sh pp mm Q := s_go cL_stroke_34 cL_stroke_35 (if_neg hz) rfl
theorem rL_stroke_35 {a0 : Nat} {a1 a2 a3 a4 a5 a6 s0 : Int} {u7 u8 u9 : zV} : zS 50 35 [zR a0, zI a1, zI a2, zI a3, zI a4, zI a5, zI a6, u7, u8, u9] [zI s0] sh pp mm Q ↔ zS 50 37 [zR a0, zI a1, zI a2, zI a3, zI a4, zI a5, zI a6, zI s0, zU, zU] [] sh pp mm Q := s_go cL_stroke_35 cL_stroke_37 rfl rfl
theorem rL_stroke_37 {a0 : Nat} {a1 a2 a3 a4 a5 a6 a7 : Int} {u8 u9 : zV} : zS 50 37 [zR a0, zI a1, zI a2, zI a3, zI a4, zI a5, zI a6, zI a7, u8, u9] [] sh pp mm Q ↔ zS 50 39 [zR a0, zI a1, zI a2, zI a3, zI a4, zI a5, zI a6, zI a7, zU, zU] [zI a5] sh pp mm Q := s_go cL_stroke_37 cL_stroke_39 rfl rfl
theorem rL_stroke_39 {a0 : Nat} {a1 a2 a3 a4 a5 a6 a7 s0 : Int} {u8 u9 : zV} : zS 50 39 [zR a0, zI a1, zI a2, zI a3, zI a4, zI a5, zI a6, zI a7, u8, u9] [zI s0] sh pp mm Q ↔ zS 50 40 [zR a0, zI a1, zI a2, zI a3, zI a4, zI a5, zI a6, zI a7, zU, zU] [zI 3, zI s0] sh pp mm Q := s_go cL_stroke_39 cL_stroke_40 rfl rfl
theorem rL_stroke_40 {a0 : Nat} {a1 a2 a3 a4 a5 a6 a7 s0 s1 : Int} {u8 u9 : zV} (hz : s0 ≠ 0) : zS 50 40 [zR a0, zI a1, zI a2, zI a3, zI a4, zI a5, zI a6, zI a7, u8, u9] [zI s0, zI s1] sh pp mm Q ↔ zS 50 41 [zR a0, zI a1, zI a2, zI a3, zI a4, zI a5, zI a6, zI a7, zU, zU] [zI (s1.tmod s0)] sh pp mm Q := s_go cL_stroke_40 cL_stroke_41 (if_neg hz) rfl
theorem rL_stroke_41 {a0 : Nat} {a1 a2 a3 a4 a5 a6 a7 s0 : Int} {u8 u9 : zV} : zS 50 41 [zR a0, zI a1, zI a2, zI a3, zI a4, zI a5, zI a6, zI a7, u8, u9] [zI s0] sh pp mm Q ↔ zS 50 43 [zR a0, zI a1, zI a2, zI a3, zI a4, zI a5, zI a6, zI a7, zI s0, zU] [] sh pp mm Q := s_go cL_stroke_41 cL_stroke_43 rfl rfl
theorem rL_stroke_43 {a0 : Nat} {a1 a2 a3 a4 a5 a6 a7 a8 : Int} {u9 : zV} : zS 50 43 [zR a0, zI a1, zI a2, zI a3, zI a4, zI a5, zI a6, zI a7, zI a8, u9] [] sh pp mm Q ↔ zS 50 45 [zR a0, zI a1, zI a2, zI a3, zI a4, zI a5, zU, zI a7, zI a8, zU] [zI a6] sh pp mm Q := s_go cL_stroke_43 cL_stroke_45 rfl rfl
theorem rL_stroke_45 {a0 : Nat} {a1 a2 a3 a4 a5 a7 a8 s0 : Int} {u6 u9 : zV} : zS 50 45 [zR a0, zI a1, zI a2, zI a3, zI a4, zI a5, u6, zI a7, zI a8, u9] [zI s0] sh pp mm Q ↔ zS 50 47 [zR a0, zI a1, zI a2, zI a3, zI a4, zI a5, zU, zI a7, zI a8, zU] [zI a7, zI s0] sh pp mm Q := s_go cL_stroke_45 cL_stroke_47 rfl rfl
theorem rL_stroke_47 {a0 : Nat} {a1 a2 a3 a4 a5 a7 a8 s0 s1 : Int} {u6 u9 : zV} : zS 50 47 [zR a0, zI a1, zI a2, zI a3, zI a4, zI a5, u6, zI a7, zI a8, u9] [zI s0, zI s1] sh pp mm Q ↔ zS 50 48 [zR a0, zI a1, zI a2, zI a3, zI a4, zI a5, zU, zI a7, zI a8, zU] [zI a3, zI s0, zI s1] sh pp mm Q := s_go cL_stroke_47 cL_stroke_48 rfl rfl
theorem rL_stroke_48 {a0 : Nat} {a1 a2 a3 a4 a5 a7 a8 s0 s1 s2 : Int} {u6 u9 : zV} : zS 50 48 [zR a0, zI a1, zI a2, zI a3, zI a4, zI a5, u6, zI a7, zI a8, u9] [zI s0, zI s1, zI s2] sh pp mm Q ↔ zS 51 0 [zI s1, zI s0] [] sh pp mm (fun v sh pp mm => zS 50 51 [zR a0, zI a1, zI a2, zI a3, zI a4, zI a5, zU, zI a7, zI a8, zU] (zPush v [zI s2]) sh pp mm Q) := s_call cL_stroke_48 cL_stroke_51 rfl rfl
theorem rL_stroke_51 {a0 : Nat} {a1 a2 a3 a4 a5 a7 a8 s0 s1 : Int} {u6 u9 : zV} : zS 50 51 [zR a0, zI a1, zI a2, zI a3, zI a4, zI a5, u6, zI a7, zI a8, u9] [zI s0, zI s1] sh pp mm Q ↔ zS 50 53 [zR a0, zI a1, zI a2, zI a3, zI a4, zI a5, zU, zI a7, zI a8, zU] [zI a8, zI s0, zI s1] sh pp mm Q := s_go cL_stroke_51 cL_stroke_53 rfl rfl
theorem rL_stroke_53 {a0 : Nat} {a1 a2 a3 a4 a5 a7 a8 s0 s1 s2 : Int} {u6 u9 : zV} : zS 50 53 [zR a0, zI a1, zI a2, zI a3, zI a4, zI a5, u6, zI a7, zI a8, u9] [zI s0, zI s1, zI s2] sh pp mm Q ↔ zS 50 55 [zR a0, zI a1, zI a2, zI a3, zI a4, zI a5, zU, zI a7, zI a8, zU] [zI a4, zI s0, zI s1, zI s2] sh pp mm Q := s_go cL_stroke_53 cL_stroke_55 rfl rfl
theorem rL_stroke_55 {a0 : Nat} {a1 a2 a3 a4 a5 a7 a8 s0 s1 s2 s3 : Int} {u6 u9 : zV} : zS 50 55 [zR a0, zI a1, zI a2, zI a3, zI a4, zI a5, u6, zI a7, zI a8, u9] [zI s0, zI s1, zI s2, zI s3] sh pp mm Q ↔ zS 51 0 [zI s1, zI s0] [] sh pp mm (fun v sh pp mm => zS 50 58 [zR a0, zI a1, zI a2, zI a3, zI a4, zI a5, zU, zI a7, zI a8, zU] (zPush v [zI s2, zI s3]) sh pp mm Q) := s_call cL_stroke_55 cL_stroke_58 rfl rfl
theorem rL_stroke_58 {a0 : Nat} {a1 a2 a3 a4 a5 a7 a8 s0 s1 s2 : Int} {u6 u9 : zV} : zS 50 58 [zR a0, zI a1, zI a2, zI a3, zI a4, zI a5, u6, zI a7, zI a8, u9] [zI s0, zI s1, zI s2] sh pp mm Q ↔ zS 50 59 [zR a0, zI a1, zI a2, zI a3, zI a4, zI a5, zU, zI a7, zI a8, zU] [zI (zw32 (s1 + s0)), zI s2] sh pp mm Q := s_go cL_stroke_58 cL_stroke_59 rfl rfl
theorem rL_stroke_59 {a0 : Nat} {a1 a2 a3 a4 a5 a7 a8 s0 s1 : Int} {u6 u9 : zV} : zS 50 59 [zR a0, zI a1, zI a2, zI a3, zI a4, zI a5, u6, zI a7, zI a8, u9] [zI s0, zI s1] sh pp mm Q ↔ zS 50 60 [zR a0, zI a1, zI a2, zI a3, zI a4, zI a5, zU, zI a7, zI a8, zU] [zI (zw32 (s1 + s0))] sh pp mm Q := s_go cL_stroke_59 cL_stroke_60 rfl rfl
theorem rL_stroke_60 {a0 : Nat} {a1 a2 a3 a4 a5 a7 a8 s0 : Int} {u6 u9 : zV} : zS 50 60 [zR a0, zI a1, zI a2, zI a3, zI a4, zI a5, u6, zI a7, zI a8, u9] [zI s0] sh pp mm Q ↔ zS 50 62 [zR a0, zI a1, zI a2, zI a3, zI a4, zI a5, zI s0, zI a7, zI a8, zU] [] sh pp mm Q := s_go cL_stroke_60 cL_stroke_62 rfl rfl
theorem rL_stroke_62 {a0 : Nat} {a1 a2 a3 a4 a5 a6 a7 a8 : Int} {u9 : zV} : zS 50 62 [zR a0, zI a1, zI a2, zI a3, zI a4, zI a5, zI a6, zI a7, zI a8, u9] [] sh pp mm Q ↔ zS 50 63 [zR a0, zI a1, zI a2, zI a3, zI a4, zI a5, zI a6, zI a7, zI a8, zU] [zI a2] sh pp mm Q := s_go cL_stroke_62 cL_stroke_63 rfl rfl
theorem rL_stroke_63 {a0 : Nat} {a1 a2 a3 a4 a5 a6 a7 a8 s0 : Int} {u9 : zV} : zS 50 63 [zR a0, zI a1, zI a2, zI a3, zI a4, zI a5, zI a6, zI a7, zI a8, u9] [zI s0] sh pp mm Q ↔ zS 50 65 [zR a0, zI a1, zI a2, zI a3, zI a4, zI a5, zI a6, zI a7, zI a8, zU] [zI 9, zI s0] sh pp mm Q := s_go cL_stroke_63 cL_stroke_65 rfl rfl
theorem rL_stroke_65 {a0 : Nat} {a1 a2 a3 a4 a5 a6 a7 a8 s0 s1 : Int} {u9 : zV} : zS 50 65 [zR a0, zI a1, zI a2, zI a3, zI a4, zI a5, zI a6, zI a7, zI a8, u9] [zI s0, zI s1] sh pp mm Q ↔ zS 50 66 [zR a0, zI a1, zI a2, zI a3, zI a4, zI a5, zI a6, zI a7, zI a8, zU] [zI (zw32 (s1 * s0))] sh pp mm Q := s_go cL_stroke_65 cL_stroke_66 rfl rfl
theorem rL_stroke_66 {a0 : Nat} {a1 a2 a3 a4 a5 a6 a7 a8 s0 : Int} {u9 : zV} : zS 50 66 [zR a0, zI a1, zI a2, zI a3, zI a4, zI a5, zI a6, zI a7, zI a8, u9] [zI s0] sh pp mm Q ↔ zS 50 67 [zR a0, zI a1, zI a2, zI a3, zI a4, zI a5, zI a6, zI a7, zI a8, zU] [zI 3, zI s0] sh pp mm Q := s_go cL_stroke_66 cL_stroke_67 rfl rfl
theorem rL_stroke_67 {a0 : Nat} {a1 a2 a3 a4 a5 a6 a7 a8 s0 s1 : Int} {u9 : zV} : zS 50 67 [zR a0, zI a1, zI a2, zI a3, zI a4, zI a5, zI a6, zI a7, zI a8, u9] [zI s0, zI s1] sh pp mm Q ↔ zS 50 69 [zR a0, zI a1, zI a2, zI a3, zI a4, zI a5, zI a6, zU, zI a8, zU] [zI a7, zI s0, zI s1] sh pp mm Q := s_go cL_stroke_67 cL_stroke_69 rfl rfl
theorem rL_stroke_69 {a0 : Nat} {a1 a2 a3 a4 a5 a6 a8 s0 s1 s2 : Int} {u7 u9 : zV} : zS 50 69 [zR a0, zI a1, zI a2, zI a3, zI a4, zI a5, zI a6, u7, zI a8, u9] [zI s0, zI s1, zI s2] sh pp mm Q ↔ zS 50 70 [zR a0, zI a1, zI a2, zI a3, zI a4, zI a5, zI a6, zU, zI a8, zU] [zI a3, zI s0, zI s1, zI s2] sh pp mm Q := s_go cL_stroke_69 cL_stroke_70 rfl rfl
theorem rL_stroke_70 {a0 : Nat} {a1 a2 a3 a4 a5 a6 a8 s0 s1 s2 s3 : Int} {u7 u9 : zV} : zS 50 70 [zR a0, zI a1, zI a2, zI a3, zI a4, zI a5, zI a6, u7, zI a8, u9] [zI s0, zI s1, zI s2, zI s3] sh pp mm Q ↔ zS 52 0 [zI s1, zI s0] [] sh pp mm (fun v sh pp mm => zS 50 73 [zR a0, zI a1, zI a2, zI a3, zI a4, zI a5, zI a6, zU, zI a8, zU] (zPush v [zI s2, zI s3]) sh pp mm Q) := s_call cL_stroke_70 cL_stroke_73 rfl rfl
theorem rL_stroke_73 {a0 : Nat} {a1 a2 a3 a4 a5 a6 a8 s0 s1 s2 : Int} {u7 u9 : zV} : zS 50 73 [zR a0, zI a1, zI a2, zI a3, zI a4, zI a5, zI a6, u7, zI a8, u9] [zI s0, zI s1, zI s2] sh pp mm Q ↔ zS 50 74 [zR a0, zI a1, zI a2, zI a3, zI a4, zI a5, zI a6, zU, zI a8, zU] [zI (zw32 (s1 * s0)), zI s2] sh pp mm Q := s_go cL_stroke_73 cL_stroke_74 rfl rfl
theorem rL_stroke_74 {a0 : Nat} {a1 a2 a3 a4 a5 a6 a8 s0 s1 : Int} {u7 u9 : zV} : zS 50 74 [zR a0, zI a1, zI a2, zI a3, zI a4, zI a5, zI a6, u7, zI a8, u9] [zI s0, zI s1] sh pp mm Q ↔ zS 50 75 [zR a0, zI a1, zI a2, zI a3, zI a4, zI a5, zI a6, zU, zI a8, zU] [zI (zw32 (s1 + s0))] sh pp mm Q := s_go cL_stroke_74 cL_stroke_75 rfl rfl
theorem rL_stroke_75 {a0 : Nat} {a1 a2 a3 a4 a5 a6 a8 s0 : Int} {u7 u9 : zV} : zS 50 75 [zR a0, zI a1, zI a2, zI a3, zI a4, zI a5, zI a6, u7, zI a8, u9] [zI s0] sh pp mm Q ↔ zS 50 77 [zR a0, zI a1, zI a2, zI a3, zI a4, zI a5, zI a6, zU, zU, zU] [zI a8, zI s0] sh pp mm Q := s_go cL_stroke_75 cL_stroke_77 rfl rfl
theorem rL_stroke_77 {a0 : Nat} {a1 a2 a3 a4 a5 a6 s0 s1 : Int} {u7 u8 u9 : zV} : zS 50 77 [zR a0, zI a1, zI a2, zI a3, zI a4, zI a5, zI a6, u7, u8, u9] [zI s0, zI s1] sh pp mm Q ↔ zS 50 79 [zR a0, zI a1, zI a2, zI a3, zI a4, zI a5, zI a6, zU, zU, zU] [zI a4, zI s0, zI s1] sh pp mm Q := s_go cL_stroke_77 cL_stroke_79 rfl rfl
theorem rL_stroke_79 {a0 : Nat} {a1 a2 a3 a4 a5 a6 s0 s1 s2 : Int} {u7 u8 u9 : zV} : zS 50 79 [zR a0, zI a1, zI a2, zI a3, zI a4, zI a5, zI a6, u7, u8, u9] [zI s0, zI s1, zI s2] sh pp mm Q ↔ zS 52 0 [zI s1, zI s0] [] sh pp mm (fun v sh pp mm => zS 50 82 [zR a0, zI a1, zI a2, zI a3, zI a4, zI a5, zI a6, zU, zU, zU] (zPush v [zI s2]) sh pp mm Q) := s_call cL_stroke_79 cL_stroke_82 rfl rfl
theorem rL_stroke_82 {a0 : Nat} {a1 a2 a3 a4 a5 a6 s0 s1 : Int} {u7 u8 u9 : zV} : zS 50 82 [zR a0, zI a1, zI a2, zI a3, zI a4, zI a5, zI a6, u7, u8, u9] [zI s0, zI s1] sh pp mm Q ↔ zS 50 83 [zR a0, zI a1, zI a2, zI a3, zI a4, zI a5, zI a6, zU, zU, zU] [zI (zw32 (s1 + s0))] sh pp mm Q := s_go cL_stroke_82 cL_stroke_83 rfl rfl
theorem rL_stroke_83 {a0 : Nat} {a1 a2 a3 a4 a5 a6 s0 : Int} {u7 u8 u9 : zV} : zS 50 83 [zR a0, zI a1, zI a2, zI a3, zI a4, zI a5, zI a6, u7, u8, u9] [zI s0] sh pp mm Q ↔ zS 50 85 [zR a0, zI a1, zI a2, zI a3, zI a4, zI a5, zI a6, zU, zU, zI s0] [] sh pp mm Q := s_go cL_stroke_83 cL_stroke_85 rfl rfl
theorem rL_stroke_85 {a0 : Nat} {a1 a2 a3 a4 a5 a6 a9 : Int} {u7 u8 : zV} : zS 50 85 [zR a0, zI a1, zI a2, zI a3, zI a4, zI a5, zI a6, u7, u8, zI a9] [] sh pp mm Q ↔ zS 50 86 [zR a0, zI a1, zI a2, zI a3, zI a4, zI a5, zI a6, zU, zU, zI a9] [zR a0] sh pp mm Q := s_go cL_stroke_85 cL_stroke_86 rfl rfl
theorem rL_stroke_86 {a0 s0 : Nat} {a1 a2 a3 a4 a5 a6 a9 : Int} {u7 u8 : zV} (hk : zKd sh s0 = 5) : zS 50 86 [zR a0, zI a1, zI a2, zI a3, zI a4, zI a5, zI a6, u7, u8, zI a9] [zR s0] sh pp mm Q ↔ zS 50 89 [zR a0, zI a1, zI a2, zI a3, zI a4, zI a5, zI a6, zU, zU, zI a9] [zR (pp s0 1)] sh pp mm Q := s_go cL_stroke_86 cL_stroke_89 (if_pos hk) rfl
theorem rL_stroke_89 {a0 s0 : Nat} {a1 a2 a3 a4 a5 a6 a9 : Int} {u7 u8 : zV} : zS 50 89 [zR a0, zI a1, zI a2, zI a3, zI a4, zI a5, zI a6, u7, u8, zI a9] [zR s0] sh pp mm Q ↔ zS 50 91 [zR a0, zI a1, zI a2, zI a3, zI a4, zI a5, zI a6, zU, zU, zI a9] [zI a9, zR s0] sh pp mm Q := s_go cL_stroke_89 cL_stroke_91 rfl rfl
theorem rL_stroke_91 {a0 s1 : Nat} {a1 a2 a3 a4 a5 a6 a9 s0 : Int} {u7 u8 : zV} : zS 50 91 [zR a0, zI a1, zI a2, zI a3, zI a4, zI a5, zI a6, u7, u8, zI a9] [zI s0, zR s1] sh pp mm Q ↔ zS 50 92 [zR a0, zI a1, zI a2, zI a3, zI a4, zI a5, zI a6, zU, zU, zI a9] [zR a0, zI s0, zR s1] sh pp mm Q := s_go cL_stroke_91 cL_stroke_92 rfl rfl
theorem rL_stroke_92 {a0 s0 s2 : Nat} {a1 a2 a3 a4 a5 a6 a9 s1 : Int} {u7 u8 : zV} (hk : zKd sh s0 = 5) : zS 50 92 [zR a0, zI a1, zI a2, zI a3, zI a4, zI a5, zI a6, u7, u8, zI a9] [zR s0, zI s1, zR s2] sh pp mm Q ↔ zS 50 95 [zR a0, zI a1, zI a2, zI a3, zI a4, zI a5, zI a6, zU, zU, zI a9] [zR (pp s0 1), zI s1, zR s2] sh pp mm Q := s_go cL_stroke_92 cL_stroke_95 (if_pos hk) rfl
theorem rL_stroke_95 {a0 s0 s2 : Nat} {a1 a2 a3 a4 a5 a6 a9 s1 : Int} {u7 u8 : zV} : zS 50 95 [zR a0, zI a1, zI a2, zI a3, zI a4, zI a5, zI a6, u7, u8, zI a9] [zR s0, zI s1, zR s2] sh pp mm Q ↔ zS 50 97 [zR a0, zI a1, zI a2, zI a3, zI a4, zI a5, zI a6, zU, zU, zU] [zI a9, zR s0, zI s1, zR s2] sh pp mm Q := s_go cL_stroke_95 cL_stroke_97 rfl rfl
theorem rL_stroke_97 {a0 s1 s3 : Nat} {a1 a2 a3 a4 a5 a6 s0 s2 : Int} {u7 u8 u9 : zV} (hk : zKd sh s1 = 20 ∨ zKd sh s1 = 30) (h0 : 0 ≤ s0) (h1 : s0 < zLn sh s1) : zS 50 97 [zR a0, zI a1, zI a2, zI a3, zI a4, zI a5, zI a6, u7, u8, u9] [zI s0, zR s1, zI s2, zR s3] sh pp mm Q ↔ zS 50 98 [zR a0, zI a1, zI a2, zI a3, zI a4, zI a5, zI a6, zU, zU, zU] [zI (mm s1 s0), zI s2, zR s3] sh pp mm Q := s_go cL_stroke_97 cL_stroke_98 (if_pos ⟨hk, h0, h1⟩) rfl
theorem rL_stroke_98 {a0 s2 : Nat} {a1 a2 a3 a4 a5 a6 s0 s1 : Int} {u7 u8 u9 : zV} : zS 50 98 [zR a0, zI a1, zI a2, zI a3, zI a4, zI a5, zI a6, u7, u8, u9] [zI s0, zI s1, zR s2] sh pp mm Q ↔ zS 50 100 [zR a0, zI a1, zI a2, zI a3, zI a4, zI a5, zU, zU, zU, zU] [zI a6, zI s0, zI s1, zR s2] sh pp mm Q := s_go cL_stroke_98 cL_stroke_100 rfl rfl
theorem rL_stroke_100 {a0 s3 : Nat} {a1 a2 a3 a4 a5 s0 s1 s2 : Int} {u6 u7 u8 u9 : zV} : zS 50 100 [zR a0, zI a1, zI a2, zI a3, zI a4, zI a5, u6, u7, u8, u9] [zI s0, zI s1, zI s2, zR s3] sh pp mm Q ↔ zS 260 0 [zI s1, zI s0] [] sh pp mm (fun v sh pp mm => zS 50 103 [zR a0, zI a1, zI a2, zI a3, zI a4, zI a5, zU, zU, zU, zU] (zPush v [zI s2, zR s3]) sh pp mm Q) := s_call cL_stroke_100 cL_stroke_103 rfl rfl
theorem rL_stroke_103 {a0 s2 : Nat} {a1 a2 a3 a4 a5 s0 s1 : Int} {u6 u7 u8 u9 : zV} (hk : zKd sh s2 = 20) (h0 : 0 ≤ s1) (h1 : s1 < zLn sh s2) : zS 50 103 [zR a0, zI a1, zI a2, zI a3, zI a4, zI a5, u6, u7, u8, u9] [zI s0, zI s1, zR s2] sh pp mm Q ↔ zS 50 104 [zR a0, zI a1, zI a2, zI a3, zI a4, zI a5, zU, zU, zU, zU] [] sh pp (zupd mm s2 s1 s0) Q := s_go cL_stroke_103 cL_stroke_104 (if_pos ⟨hk, h0, h1, fun h => absurd h (by decide)⟩) rfl
theorem rL_stroke_104 {a0 : Nat} {a1 a2 a3 a4 a5 : Int} {u6 u7 u8 u9 : zV} : zS 50 104 [zR a0, zI a1, zI a2, zI a3, zI a4, zI a5, u6, u7, u8, u9] [] sh pp mm Q ↔ zS 50 107 [zR a0, zI a1, zI a2, zI a3, zI a4, zI (zw32 (a5 + 1)), zU, zU, zU, zU] [] sh pp mm Q := s_go cL_stroke_104 cL_stroke_107 rfl rfl
theorem rL_stroke_107 {a0 : Nat} {a1 a2 a3 a4 a5 : Int} {u6 u7 u8 u9 : zV} : zS 50 107 [zR a0, zI a1, zI a2, zI a3, zI a4, zI a5, u6, u7, u8, u9] [] sh pp mm Q ↔ zS 50 3 [zR a0, zI a1, zI a2, zI a3, zI a4, zI a5, zU, zU, zU, zU] [] sh pp mm Q := s_go cL_stroke_107 cL_stroke_3 rfl rfl
theorem rL_stroke_110 {u0 u1 u2 u3 u4 u5 u6 u7 u8 u9 : zV} : zS 50 110 [u0, u1, u2, u3, u4, u5, u6, u7, u8, u9] [] sh pp mm Q ↔ Q zU sh pp mm := s_ret cL_stroke_110 rfl
theorem cAL_turnsAbout : ∀ q ∈ zT51, zCode 51 q.1 = some q.2 := zAll (mid := 51) rfl (by decide +kernel)
theorem cAL_turnsAbout_0 : ∀ q ∈ zT51_0, zCode 51 q.1 = some q.2 := fun q h => cAL_turnsAbout q (h)
theorem cL_turnsAbout_0 : zCode 51 0 = some (.iload_n 0, 1, 0, 0, 0, 0, 3) := cAL_turnsAbout_0 _ (List.mem_of_getElem? (i := 0) rfl)
theorem cL_turnsAbout_1 : zCode 51 1 = some (.ifCond .eq 20, 4, 21, 0, 0, 0, 3) := cAL_turnsAbout_0 _ (List.mem_of_getElem? (i := 1) rfl)
theorem cL_turnsAbout_4 : zCode 51 4 = some (.iload_n 1, 5, 0, 0, 0, 0, 3) := cAL_turnsAbout_0 _ (List.mem_of_getElem? (i := 2) rfl)
theorem cL_turnsAbout_5 : zCode 51 5 = some (.ifCond .eq 16, 8, 21, 0, 0, 0, 3) := cAL_turnsAbout_0 _ (List.mem_of_getElem? (i := 3) rfl)
theorem cL_turnsAbout_8 : zCode 51 8 = some (.iload_n 0, 9, 0, 0, 0, 0, 3) := cAL_turnsAbout_0 _ (List.mem_of_getElem? (i := 4) rfl)
theorem cL_turnsAbout_9 : zCode 51 9 = some (.iload_n 0, 10, 0, 0, 0, 0, 3) := cAL_turnsAbout_0 _ (List.mem_of_getElem? (i := 5) rfl)
theorem cL_turnsAbout_10 : zCode 51 10 = some (.iload_n 1, 11, 0, 0, 0, 0, 2) := cAL_turnsAbout_0 _ (List.mem_of_getElem? (i := 6) rfl)
theorem cL_turnsAbout_11 : zCode 51 11 = some (.invokestatic 69, 14, 52, 2, 2, 5, 0) := cAL_turnsAbout_0 _ (List.mem_of_getElem? (i := 7) rfl)
theorem cL_turnsAbout_14 : zCode 51 14 = some (.if_icmp .eq 7, 17, 21, 0, 0, 0, 0) := cAL_turnsAbout_0 _ (List.mem_of_getElem? (i := 8) rfl)
theorem cL_turnsAbout_17 : zCode 51 17 = some (.iconst 1, 18, 0, 0, 0, 0, 0) := cAL_turnsAbout_0 _ (List.mem_of_getElem? (i := 9) rfl)
theorem cL_turnsAbout_18 : zCode 51 18 = some (.goto 4, 21, 22, 0, 0, 0, 0) := cAL_turnsAbout_0 _ (List.mem_of_getElem? (i := 10) rfl)
theorem cL_turnsAbout_21 : zCode 51 21 = some (.iconst 0, 22, 0, 0, 0, 0, 0) := cAL_turnsAbout_0 _ (List.mem_of_getElem? (i := 11) rfl)
theorem cL_turnsAbout_22 : zCode 51 22 = some (.ireturn, 23, 0, 0, 0, 0, 0) := cAL_turnsAbout_0 _ (List.mem_of_getElem? (i := 12) rfl)
theorem rL_turnsAbout_0 {a0 a1 : Int} : zS 51 0 [zI a0, zI a1] [] sh pp mm Q ↔ zS 51 1 [zI a0, zI a1] [zI a0] sh pp mm Q := s_go cL_turnsAbout_0 cL_turnsAbout_1 rfl rfl
theorem rL_turnsAbout_1 {a0 a1 s0 : Int} : zS 51 1 [zI a0, zI a1] [zI s0] sh pp mm Q ↔ (s0 = 0 → zS 51 21 [zU, zU] [] sh pp mm Q) ∧ (¬ s0 = 0 → zS 51 4 [zI a0, zI a1] [] sh pp mm Q) := s_if cL_turnsAbout_1 cL_turnsAbout_21 cL_turnsAbout_4 rfl rfl rfl
theorem rL_turnsAbout_4 {a0 a1 : Int} : zS 51 4 [zI a0, zI a1] [] sh pp mm Q ↔ zS 51 5 [zI a0, zI a1] [zI a1] sh pp mm Q := s_go cL_turnsAbout_4 cL_turnsAbout_5 rfl rfl
theorem rL_turnsAbout_5 {a0 a1 s0 : Int} : zS 51 5 [zI a0, zI a1] [zI s0] sh pp mm Q ↔ (s0 = 0 → zS 51 21 [zU, zU] [] sh pp mm Q) ∧ (¬ s0 = 0 → zS 51 8 [zI a0, zI a1] [] sh pp mm Q) := s_if cL_turnsAbout_5 cL_turnsAbout_21 cL_turnsAbout_8 rfl rfl rfl
theorem rL_turnsAbout_8 {a0 a1 : Int} : zS 51 8 [zI a0, zI a1] [] sh pp mm Q ↔ zS 51 9 [zI a0, zI a1] [zI a0] sh pp mm Q := s_go cL_turnsAbout_8 cL_turnsAbout_9 rfl rfl
theorem rL_turnsAbout_9 {a0 a1 s0 : Int} : zS 51 9 [zI a0, zI a1] [zI s0] sh pp mm Q ↔ zS 51 10 [zU, zI a1] [zI a0, zI s0] sh pp mm Q := s_go cL_turnsAbout_9 cL_turnsAbout_10 rfl rfl
theorem rL_turnsAbout_10 {a1 s0 s1 : Int} {u0 : zV} : zS 51 10 [u0, zI a1] [zI s0, zI s1] sh pp mm Q ↔ zS 51 11 [zU, zU] [zI a1, zI s0, zI s1] sh pp mm Q := s_go cL_turnsAbout_10 cL_turnsAbout_11 rfl rfl
theorem rL_turnsAbout_11 {s0 s1 s2 : Int} {u0 u1 : zV} : zS 51 11 [u0, u1] [zI s0, zI s1, zI s2] sh pp mm Q ↔ zS 52 0 [zI s1, zI s0] [] sh pp mm (fun v sh pp mm => zS 51 14 [zU, zU] (zPush v [zI s2]) sh pp mm Q) := s_call cL_turnsAbout_11 cL_turnsAbout_14 rfl rfl
theorem rL_turnsAbout_14 {s0 s1 : Int} {u0 u1 : zV} : zS 51 14 [u0, u1] [zI s0, zI s1] sh pp mm Q ↔ (s1 = s0 → zS 51 21 [zU, zU] [] sh pp mm Q) ∧ (¬ s1 = s0 → zS 51 17 [zU, zU] [] sh pp mm Q) := s_if cL_turnsAbout_14 cL_turnsAbout_21 cL_turnsAbout_17 rfl rfl rfl
theorem rL_turnsAbout_17 {u0 u1 : zV} : zS 51 17 [u0, u1] [] sh pp mm Q ↔ zS 51 18 [zU, zU] [zI 1] sh pp mm Q := s_go cL_turnsAbout_17 cL_turnsAbout_18 rfl rfl
theorem rL_turnsAbout_18 {s0 : Int} {u0 u1 : zV} : zS 51 18 [u0, u1] [zI s0] sh pp mm Q ↔ zS 51 22 [zU, zU] [zI s0] sh pp mm Q := s_go cL_turnsAbout_18 cL_turnsAbout_22 rfl rfl
theorem rL_turnsAbout_21 {u0 u1 : zV} : zS 51 21 [u0, u1] [] sh pp mm Q ↔ zS 51 22 [zU, zU] [zI 0] sh pp mm Q := s_go cL_turnsAbout_21 cL_turnsAbout_22 rfl rfl
theorem rL_turnsAbout_22 {s0 : Int} {u0 u1 : zV} : zS 51 22 [u0, u1] [zI s0] sh pp mm Q ↔ Q (zI s0) sh pp mm := s_ret cL_turnsAbout_22 rfl
theorem cAL_holdAfter : ∀ q ∈ zT52, zCode 52 q.1 = some q.2 := zAll (mid := 52) rfl (by decide +kernel)
theorem cAL_holdAfter_0 : ∀ q ∈ zT52_0, zCode 52 q.1 = some q.2 := fun q h => cAL_holdAfter q (h)
theorem cL_holdAfter_0 : zCode 52 0 = some (.iload_n 1, 1, 0, 0, 0, 0, 3) := cAL_holdAfter_0 _ (List.mem_of_getElem? (i := 0) rfl)
theorem cL_holdAfter_1 : zCode 52 1 = some (.ifCond .ne 5, 4, 6, 0, 0, 0, 3) := cAL_holdAfter_0 _ (List.mem_of_getElem? (i := 1) rfl)
theorem cL_holdAfter_4 : zCode 52 4 = some (.iload_n 0, 5, 0, 0, 0, 0, 1) := cAL_holdAfter_0 _ (List.mem_of_getElem? (i := 2) rfl)
theorem cL_holdAfter_5 : zCode 52 5 = some (.ireturn, 6, 0, 0, 0, 0, 0) := cAL_holdAfter_0 _ (List.mem_of_getElem? (i := 3) rfl)
theorem cL_holdAfter_6 : zCode 52 6 = some (.iload_n 1, 7, 0, 0, 0, 0, 2) := cAL_holdAfter_0 _ (List.mem_of_getElem? (i := 4) rfl)
theorem cL_holdAfter_7 : zCode 52 7 = some (.ifCond .le 7, 10, 14, 0, 0, 0, 0) := cAL_holdAfter_0 _ (List.mem_of_getElem? (i := 5) rfl)
theorem cL_holdAfter_10 : zCode 52 10 = some (.iconst 1, 11, 0, 0, 0, 0, 0) := cAL_holdAfter_0 _ (List.mem_of_getElem? (i := 6) rfl)
theorem cL_holdAfter_11 : zCode 52 11 = some (.goto 4, 14, 15, 0, 0, 0, 0) := cAL_holdAfter_0 _ (List.mem_of_getElem? (i := 7) rfl)
theorem cL_holdAfter_14 : zCode 52 14 = some (.iconst 2, 15, 0, 0, 0, 0, 0) := cAL_holdAfter_0 _ (List.mem_of_getElem? (i := 8) rfl)
theorem cL_holdAfter_15 : zCode 52 15 = some (.ireturn, 16, 0, 0, 0, 0, 0) := cAL_holdAfter_0 _ (List.mem_of_getElem? (i := 9) rfl)
theorem rL_holdAfter_0 {a0 a1 : Int} : zS 52 0 [zI a0, zI a1] [] sh pp mm Q ↔ zS 52 1 [zI a0, zI a1] [zI a1] sh pp mm Q := s_go cL_holdAfter_0 cL_holdAfter_1 rfl rfl
theorem rL_holdAfter_1 {a0 a1 s0 : Int} : zS 52 1 [zI a0, zI a1] [zI s0] sh pp mm Q ↔ (s0 = 0 → zS 52 4 [zI a0, zU] [] sh pp mm Q) ∧ (¬ s0 = 0 → zS 52 6 [zU, zI a1] [] sh pp mm Q) := s_ifn cL_holdAfter_1 cL_holdAfter_4 cL_holdAfter_6 rfl rfl rfl
theorem rL_holdAfter_4 {a0 : Int} {u1 : zV} : zS 52 4 [zI a0, u1] [] sh pp mm Q ↔ zS 52 5 [zU, zU] [zI a0] sh pp mm Q := s_go cL_holdAfter_4 cL_holdAfter_5 rfl rfl
theorem rL_holdAfter_5 {s0 : Int} {u0 u1 : zV} : zS 52 5 [u0, u1] [zI s0] sh pp mm Q ↔ Q (zI s0) sh pp mm := s_ret cL_holdAfter_5 rfl
theorem rL_holdAfter_6 {a1 : Int} {u0 : zV} : zS 52 6 [u0, zI a1] [] sh pp mm Q ↔ zS 52 7 [zU, zU] [zI a1] sh pp mm Q := s_go cL_holdAfter_6 cL_holdAfter_7 rfl rfl
theorem rL_holdAfter_7 {s0 : Int} {u0 u1 : zV} : zS 52 7 [u0, u1] [zI s0] sh pp mm Q ↔ (0 < s0 → zS 52 10 [zU, zU] [] sh pp mm Q) ∧ (¬ 0 < s0 → zS 52 14 [zU, zU] [] sh pp mm Q) := s_ifn cL_holdAfter_7 cL_holdAfter_10 cL_holdAfter_14 rfl rfl rfl
theorem rL_holdAfter_10 {u0 u1 : zV} : zS 52 10 [u0, u1] [] sh pp mm Q ↔ zS 52 11 [zU, zU] [zI 1] sh pp mm Q := s_go cL_holdAfter_10 cL_holdAfter_11 rfl rfl
theorem rL_holdAfter_11 {s0 : Int} {u0 u1 : zV} : zS 52 11 [u0, u1] [zI s0] sh pp mm Q ↔ zS 52 15 [zU, zU] [zI s0] sh pp mm Q := s_go cL_holdAfter_11 cL_holdAfter_15 rfl rfl
theorem rL_holdAfter_14 {u0 u1 : zV} : zS 52 14 [u0, u1] [] sh pp mm Q ↔ zS 52 15 [zU, zU] [zI 2] sh pp mm Q := s_go cL_holdAfter_14 cL_holdAfter_15 rfl rfl
theorem rL_holdAfter_15 {s0 : Int} {u0 u1 : zV} : zS 52 15 [u0, u1] [zI s0] sh pp mm Q ↔ Q (zI s0) sh pp mm := s_ret cL_holdAfter_15 rfl
theorem cAN_init : ∀ q ∈ zT53, zCode 53 q.1 = some q.2 := zAll (mid := 53) rfl (by decide +kernel)
theorem cAN_init_0 : ∀ q ∈ zT53_0, zCode 53 q.1 = some q.2 := fun q h => cAN_init q (List.mem_append_left _ h)
theorem cAN_init_1 : ∀ q ∈ zT53_1, zCode 53 q.1 = some q.2 := fun q h => cAN_init q (List.mem_append_right _ (List.mem_append_left _ h))
theorem cAN_init_2 : ∀ q ∈ zT53_2, zCode 53 q.1 = some q.2 := fun q h => cAN_init q (List.mem_append_right _ (List.mem_append_right _ (List.mem_append_left _ h)))
theorem cAN_init_3 : ∀ q ∈ zT53_3, zCode 53 q.1 = some q.2 := fun q h => cAN_init q (List.mem_append_right _ (List.mem_append_right _ (List.mem_append_right _ (List.mem_append_left _ h))))
theorem cAN_init_4 : ∀ q ∈ zT53_4, zCode 53 q.1 = some q.2 := fun q h => cAN_init q (List.mem_append_right _ (List.mem_append_right _ (List.mem_append_right _ (List.mem_append_right _ h))))
theorem cN_init_0 : zCode 53 0 = some (.aload_n 0, 1, 0, 0, 0, 0, 1) := cAN_init_0 _ (List.mem_of_getElem? (i := 0) rfl)
theorem cN_init_1 : zCode 53 1 = some (.invokespecial 3, 4, 0, 78, 0, 210, 1) := cAN_init_0 _ (List.mem_of_getElem? (i := 1) rfl)
theorem cN_init_4 : zCode 53 4 = some (.aload_n 0, 5, 0, 0, 0, 0, 1) := cAN_init_0 _ (List.mem_of_getElem? (i := 2) rfl)
theorem cN_init_5 : zCode 53 5 = some (.iconst 0, 6, 0, 0, 0, 0, 1) := cAN_init_0 _ (List.mem_of_getElem? (i := 3) rfl)
theorem cN_init_6 : zCode 53 6 = some (.putfield 9, 9, 6, 0, 0, 211, 1) := cAN_init_0 _ (List.mem_of_getElem? (i := 4) rfl)
theorem cN_init_9 : zCode 53 9 = some (.aload_n 0, 10, 0, 0, 0, 0, 1) := cAN_init_0 _ (List.mem_of_getElem? (i := 5) rfl)
theorem cN_init_10 : zCode 53 10 = some (.iconst 1, 11, 0, 0, 0, 0, 1) := cAN_init_0 _ (List.mem_of_getElem? (i := 6) rfl)
theorem cN_init_11 : zCode 53 11 = some (.putfield 15, 14, 6, 1, 3, 213, 1) := cAN_init_0 _ (List.mem_of_getElem? (i := 7) rfl)
theorem cN_init_14 : zCode 53 14 = some (.aload_n 0, 15, 0, 0, 0, 0, 1) := cAN_init_0 _ (List.mem_of_getElem? (i := 8) rfl)
theorem cN_init_15 : zCode 53 15 = some (.iconst 1, 16, 0, 0, 0, 0, 1) := cAN_init_0 _ (List.mem_of_getElem? (i := 9) rfl)
theorem cN_init_16 : zCode 53 16 = some (.putfield 19, 19, 6, 2, 3, 215, 1) := cAN_init_0 _ (List.mem_of_getElem? (i := 10) rfl)
theorem cN_init_19 : zCode 53 19 = some (.aload_n 0, 20, 0, 0, 0, 0, 1) := cAN_init_0 _ (List.mem_of_getElem? (i := 11) rfl)
theorem cN_init_20 : zCode 53 20 = some (.iconst 0, 21, 0, 0, 0, 0, 1) := cAN_init_0 _ (List.mem_of_getElem? (i := 12) rfl)
theorem cN_init_21 : zCode 53 21 = some (.putfield 22, 24, 6, 3, 0, 217, 1) := cAN_init_0 _ (List.mem_of_getElem? (i := 13) rfl)
theorem cN_init_24 : zCode 53 24 = some (.aload_n 0, 25, 0, 0, 0, 0, 1) := cAN_init_0 _ (List.mem_of_getElem? (i := 14) rfl)
theorem cN_init_25 : zCode 53 25 = some (.bipush 12, 27, 0, 0, 0, 0, 1) := cAN_init_0 _ (List.mem_of_getElem? (i := 15) rfl)
theorem cN_init_27 : zCode 53 27 = some (.newarray .int, 29, 20, 0, 0, 0, 1) := cAN_init_1 _ (List.mem_of_getElem? (i := 0) rfl)
theorem cN_init_29 : zCode 53 29 = some (.putfield 25, 32, 6, 4, 2, 219, 1) := cAN_init_1 _ (List.mem_of_getElem? (i := 1) rfl)
theorem cN_init_32 : zCode 53 32 = some (.aload_n 0, 33, 0, 0, 0, 0, 1) := cAN_init_1 _ (List.mem_of_getElem? (i := 2) rfl)
theorem cN_init_33 : zCode 53 33 = some (.bipush 12, 35, 0, 0, 0, 0, 1) := cAN_init_1 _ (List.mem_of_getElem? (i := 3) rfl)
theorem cN_init_35 : zCode 53 35 = some (.newarray .int, 37, 20, 0, 0, 0, 1) := cAN_init_1 _ (List.mem_of_getElem? (i := 4) rfl)
theorem cN_init_37 : zCode 53 37 = some (.putfield 29, 40, 6, 5, 2, 221, 1) := cAN_init_1 _ (List.mem_of_getElem? (i := 5) rfl)
theorem cN_init_40 : zCode 53 40 = some (.aload_n 0, 41, 0, 0, 0, 0, 1) := cAN_init_1 _ (List.mem_of_getElem? (i := 6) rfl)
theorem cN_init_41 : zCode 53 41 = some (.bipush 12, 43, 0, 0, 0, 0, 1) := cAN_init_1 _ (List.mem_of_getElem? (i := 7) rfl)
theorem cN_init_43 : zCode 53 43 = some (.newarray .int, 45, 20, 0, 0, 0, 1) := cAN_init_1 _ (List.mem_of_getElem? (i := 8) rfl)
theorem cN_init_45 : zCode 53 45 = some (.putfield 32, 48, 6, 6, 2, 222, 1) := cAN_init_1 _ (List.mem_of_getElem? (i := 9) rfl)
theorem cN_init_48 : zCode 53 48 = some (.aload_n 0, 49, 0, 0, 0, 0, 1) := cAN_init_1 _ (List.mem_of_getElem? (i := 10) rfl)
theorem cN_init_49 : zCode 53 49 = some (.bipush 12, 51, 0, 0, 0, 0, 1) := cAN_init_1 _ (List.mem_of_getElem? (i := 11) rfl)
theorem cN_init_51 : zCode 53 51 = some (.newarray .int, 53, 20, 0, 0, 0, 1) := cAN_init_1 _ (List.mem_of_getElem? (i := 12) rfl)
theorem cN_init_53 : zCode 53 53 = some (.putfield 35, 56, 6, 7, 2, 224, 1) := cAN_init_1 _ (List.mem_of_getElem? (i := 13) rfl)
theorem cN_init_56 : zCode 53 56 = some (.aload_n 0, 57, 0, 0, 0, 0, 1) := cAN_init_1 _ (List.mem_of_getElem? (i := 14) rfl)
theorem cN_init_57 : zCode 53 57 = some (.bipush 12, 59, 0, 0, 0, 0, 1) := cAN_init_1 _ (List.mem_of_getElem? (i := 15) rfl)
theorem cN_init_59 : zCode 53 59 = some (.newarray .int, 61, 20, 0, 0, 0, 1) := cAN_init_2 _ (List.mem_of_getElem? (i := 0) rfl)
theorem cN_init_61 : zCode 53 61 = some (.putfield 38, 64, 6, 8, 2, 226, 1) := cAN_init_2 _ (List.mem_of_getElem? (i := 1) rfl)
theorem cN_init_64 : zCode 53 64 = some (.aload_n 0, 65, 0, 0, 0, 0, 1) := cAN_init_2 _ (List.mem_of_getElem? (i := 2) rfl)
theorem cN_init_65 : zCode 53 65 = some (.bipush 12, 67, 0, 0, 0, 0, 1) := cAN_init_2 _ (List.mem_of_getElem? (i := 3) rfl)
theorem cN_init_67 : zCode 53 67 = some (.newarray .int, 69, 20, 0, 0, 0, 1) := cAN_init_2 _ (List.mem_of_getElem? (i := 4) rfl)
theorem cN_init_69 : zCode 53 69 = some (.putfield 41, 72, 6, 9, 2, 228, 1) := cAN_init_2 _ (List.mem_of_getElem? (i := 5) rfl)
theorem cN_init_72 : zCode 53 72 = some (.aload_n 0, 73, 0, 0, 0, 0, 1) := cAN_init_2 _ (List.mem_of_getElem? (i := 6) rfl)
theorem cN_init_73 : zCode 53 73 = some (.iconst 0, 74, 0, 0, 0, 0, 1) := cAN_init_2 _ (List.mem_of_getElem? (i := 7) rfl)
theorem cN_init_74 : zCode 53 74 = some (.putfield 44, 77, 6, 10, 3, 230, 1) := cAN_init_2 _ (List.mem_of_getElem? (i := 8) rfl)
theorem cN_init_77 : zCode 53 77 = some (.aload_n 0, 78, 0, 0, 0, 0, 1) := cAN_init_2 _ (List.mem_of_getElem? (i := 9) rfl)
theorem cN_init_78 : zCode 53 78 = some (.bipush 12, 80, 0, 0, 0, 0, 1) := cAN_init_2 _ (List.mem_of_getElem? (i := 10) rfl)
theorem cN_init_80 : zCode 53 80 = some (.newarray .int, 82, 20, 0, 0, 0, 1) := cAN_init_2 _ (List.mem_of_getElem? (i := 11) rfl)
theorem cN_init_82 : zCode 53 82 = some (.putfield 47, 85, 6, 11, 2, 231, 1) := cAN_init_2 _ (List.mem_of_getElem? (i := 12) rfl)
theorem cN_init_85 : zCode 53 85 = some (.aload_n 0, 86, 0, 0, 0, 0, 1) := cAN_init_2 _ (List.mem_of_getElem? (i := 13) rfl)
theorem cN_init_86 : zCode 53 86 = some (.bipush 12, 88, 0, 0, 0, 0, 1) := cAN_init_2 _ (List.mem_of_getElem? (i := 14) rfl)
theorem cN_init_88 : zCode 53 88 = some (.newarray .int, 90, 20, 0, 0, 0, 1) := cAN_init_2 _ (List.mem_of_getElem? (i := 15) rfl)
theorem cN_init_90 : zCode 53 90 = some (.putfield 50, 93, 6, 12, 2, 232, 1) := cAN_init_3 _ (List.mem_of_getElem? (i := 0) rfl)
theorem cN_init_93 : zCode 53 93 = some (.aload_n 0, 94, 0, 0, 0, 0, 1) := cAN_init_3 _ (List.mem_of_getElem? (i := 1) rfl)
theorem cN_init_94 : zCode 53 94 = some (.bipush 12, 96, 0, 0, 0, 0, 1) := cAN_init_3 _ (List.mem_of_getElem? (i := 2) rfl)
theorem cN_init_96 : zCode 53 96 = some (.newarray .int, 98, 20, 0, 0, 0, 1) := cAN_init_3 _ (List.mem_of_getElem? (i := 3) rfl)
theorem cN_init_98 : zCode 53 98 = some (.putfield 53, 101, 6, 13, 2, 233, 1) := cAN_init_3 _ (List.mem_of_getElem? (i := 4) rfl)
theorem cN_init_101 : zCode 53 101 = some (.aload_n 0, 102, 0, 0, 0, 0, 1) := cAN_init_3 _ (List.mem_of_getElem? (i := 5) rfl)
theorem cN_init_102 : zCode 53 102 = some (.iconst (-1), 103, 0, 0, 0, 0, 1) := cAN_init_3 _ (List.mem_of_getElem? (i := 6) rfl)
theorem cN_init_103 : zCode 53 103 = some (.putfield 56, 106, 6, 14, 0, 234, 1) := cAN_init_3 _ (List.mem_of_getElem? (i := 7) rfl)
theorem cN_init_106 : zCode 53 106 = some (.aload_n 0, 107, 0, 0, 0, 0, 1) := cAN_init_3 _ (List.mem_of_getElem? (i := 8) rfl)
theorem cN_init_107 : zCode 53 107 = some (.iconst (-1), 108, 0, 0, 0, 0, 1) := cAN_init_3 _ (List.mem_of_getElem? (i := 9) rfl)
theorem cN_init_108 : zCode 53 108 = some (.putfield 59, 111, 6, 15, 0, 235, 1) := cAN_init_3 _ (List.mem_of_getElem? (i := 10) rfl)
theorem cN_init_111 : zCode 53 111 = some (.aload_n 0, 112, 0, 0, 0, 0, 1) := cAN_init_3 _ (List.mem_of_getElem? (i := 11) rfl)
theorem cN_init_112 : zCode 53 112 = some (.iconst (-1), 113, 0, 0, 0, 0, 1) := cAN_init_3 _ (List.mem_of_getElem? (i := 12) rfl)
theorem cN_init_113 : zCode 53 113 = some (.putfield 62, 116, 6, 16, 0, 236, 1) := cAN_init_3 _ (List.mem_of_getElem? (i := 13) rfl)
theorem cN_init_116 : zCode 53 116 = some (.aload_n 0, 117, 0, 0, 0, 0, 1) := cAN_init_3 _ (List.mem_of_getElem? (i := 14) rfl)
theorem cN_init_117 : zCode 53 117 = some (.aconst_null, 118, 0, 0, 0, 0, 0) := cAN_init_3 _ (List.mem_of_getElem? (i := 15) rfl)
theorem cN_init_118 : zCode 53 118 = some (.putfield 65, 121, 6, 17, 2, 237, 0) := cAN_init_4 _ (List.mem_of_getElem? (i := 0) rfl)
theorem cN_init_121 : zCode 53 121 = some (.return_, 122, 0, 0, 0, 0, 0) := cAN_init_4 _ (List.mem_of_getElem? (i := 1) rfl)
theorem rN_init_0 {a0 : Nat} : zS 53 0 [zR a0] [] sh pp mm Q ↔ zS 53 1 [zR a0] [zR a0] sh pp mm Q := s_go cN_init_0 cN_init_1 rfl rfl
theorem rN_init_1 {a0 s0 : Nat} (hr : s0 ≠ 0) (hl : s0 < sh.length) : zS 53 1 [zR a0] [zR s0] sh pp mm Q ↔ zS 53 4 [zR a0] [] sh pp mm Q := s_go cN_init_1 cN_init_4 (if_pos ⟨hr, hl, by decide⟩) rfl
theorem rN_init_4 {a0 : Nat} : zS 53 4 [zR a0] [] sh pp mm Q ↔ zS 53 5 [zR a0] [zR a0] sh pp mm Q := s_go cN_init_4 cN_init_5 rfl rfl
theorem rN_init_5 {a0 s0 : Nat} : zS 53 5 [zR a0] [zR s0] sh pp mm Q ↔ zS 53 6 [zR a0] [zI 0, zR s0] sh pp mm Q := s_go cN_init_5 cN_init_6 rfl rfl
theorem rN_init_6 {a0 s1 : Nat} {s0 : Int} (hk : zKd sh s1 = 6) : zS 53 6 [zR a0] [zI s0, zR s1] sh pp mm Q ↔ zS 53 9 [zR a0] [] sh pp (zupd mm s1 0 s0) Q := s_go cN_init_6 cN_init_9 (if_pos ⟨hk, Or.inl rfl⟩) rfl
theorem rN_init_9 {a0 : Nat} : zS 53 9 [zR a0] [] sh pp mm Q ↔ zS 53 10 [zR a0] [zR a0] sh pp mm Q := s_go cN_init_9 cN_init_10 rfl rfl
theorem rN_init_10 {a0 s0 : Nat} : zS 53 10 [zR a0] [zR s0] sh pp mm Q ↔ zS 53 11 [zR a0] [zI 1, zR s0] sh pp mm Q := s_go cN_init_10 cN_init_11 rfl rfl
theorem rN_init_11 {a0 s1 : Nat} {s0 : Int} (hk : zKd sh s1 = 6) (hb : s0 = 0 ∨ s0 = 1) : zS 53 11 [zR a0] [zI s0, zR s1] sh pp mm Q ↔ zS 53 14 [zR a0] [] sh pp (zupd mm s1 1 s0) Q := s_go cN_init_11 cN_init_14 (if_pos ⟨hk, Or.inr ⟨rfl, hb⟩⟩) rfl
theorem rN_init_14 {a0 : Nat} : zS 53 14 [zR a0] [] sh pp mm Q ↔ zS 53 15 [zR a0] [zR a0] sh pp mm Q := s_go cN_init_14 cN_init_15 rfl rfl
theorem rN_init_15 {a0 s0 : Nat} : zS 53 15 [zR a0] [zR s0] sh pp mm Q ↔ zS 53 16 [zR a0] [zI 1, zR s0] sh pp mm Q := s_go cN_init_15 cN_init_16 rfl rfl
theorem rN_init_16 {a0 s1 : Nat} {s0 : Int} (hk : zKd sh s1 = 6) (hb : s0 = 0 ∨ s0 = 1) : zS 53 16 [zR a0] [zI s0, zR s1] sh pp mm Q ↔ zS 53 19 [zR a0] [] sh pp (zupd mm s1 2 s0) Q := s_go cN_init_16 cN_init_19 (if_pos ⟨hk, Or.inr ⟨rfl, hb⟩⟩) rfl
theorem rN_init_19 {a0 : Nat} : zS 53 19 [zR a0] [] sh pp mm Q ↔ zS 53 20 [zR a0] [zR a0] sh pp mm Q := s_go cN_init_19 cN_init_20 rfl rfl
theorem rN_init_20 {a0 s0 : Nat} : zS 53 20 [zR a0] [zR s0] sh pp mm Q ↔ zS 53 21 [zR a0] [zI 0, zR s0] sh pp mm Q := s_go cN_init_20 cN_init_21 rfl rfl
theorem rN_init_21 {a0 s1 : Nat} {s0 : Int} (hk : zKd sh s1 = 6) : zS 53 21 [zR a0] [zI s0, zR s1] sh pp mm Q ↔ zS 53 24 [zR a0] [] sh pp (zupd mm s1 3 s0) Q := s_go cN_init_21 cN_init_24 (if_pos ⟨hk, Or.inl rfl⟩) rfl
theorem rN_init_24 {a0 : Nat} : zS 53 24 [zR a0] [] sh pp mm Q ↔ zS 53 25 [zR a0] [zR a0] sh pp mm Q := s_go cN_init_24 cN_init_25 rfl rfl
theorem rN_init_25 {a0 s0 : Nat} : zS 53 25 [zR a0] [zR s0] sh pp mm Q ↔ zS 53 27 [zR a0] [zI 12, zR s0] sh pp mm Q := s_go cN_init_25 cN_init_27 rfl rfl
theorem rN_init_27 {a0 s1 : Nat} {s0 : Int} (h0 : 0 ≤ s0) (h1 : s0 ≤ 100000) : zS 53 27 [zR a0] [zI s0, zR s1] sh pp mm Q ↔ zS 53 29 [zR a0] [zR sh.length, zR s1] (sh ++ [(20, s0.toNat)]) (zclp pp sh.length) (zclr mm sh.length) Q := s_go cN_init_27 cN_init_29 (if_pos ⟨h0, h1⟩) rfl
theorem rN_init_29 {a0 s0 s1 : Nat} (hk : zKd sh s1 = 6) : zS 53 29 [zR a0] [zR s0, zR s1] sh pp mm Q ↔ zS 53 32 [zR a0] [] sh (zupp pp s1 4 s0) mm Q := s_go cN_init_29 cN_init_32 (if_pos ⟨hk, rfl⟩) rfl
theorem rN_init_32 {a0 : Nat} : zS 53 32 [zR a0] [] sh pp mm Q ↔ zS 53 33 [zR a0] [zR a0] sh pp mm Q := s_go cN_init_32 cN_init_33 rfl rfl
theorem rN_init_33 {a0 s0 : Nat} : zS 53 33 [zR a0] [zR s0] sh pp mm Q ↔ zS 53 35 [zR a0] [zI 12, zR s0] sh pp mm Q := s_go cN_init_33 cN_init_35 rfl rfl
theorem rN_init_35 {a0 s1 : Nat} {s0 : Int} (h0 : 0 ≤ s0) (h1 : s0 ≤ 100000) : zS 53 35 [zR a0] [zI s0, zR s1] sh pp mm Q ↔ zS 53 37 [zR a0] [zR sh.length, zR s1] (sh ++ [(20, s0.toNat)]) (zclp pp sh.length) (zclr mm sh.length) Q := s_go cN_init_35 cN_init_37 (if_pos ⟨h0, h1⟩) rfl
theorem rN_init_37 {a0 s0 s1 : Nat} (hk : zKd sh s1 = 6) : zS 53 37 [zR a0] [zR s0, zR s1] sh pp mm Q ↔ zS 53 40 [zR a0] [] sh (zupp pp s1 5 s0) mm Q := s_go cN_init_37 cN_init_40 (if_pos ⟨hk, rfl⟩) rfl
theorem rN_init_40 {a0 : Nat} : zS 53 40 [zR a0] [] sh pp mm Q ↔ zS 53 41 [zR a0] [zR a0] sh pp mm Q := s_go cN_init_40 cN_init_41 rfl rfl
theorem rN_init_41 {a0 s0 : Nat} : zS 53 41 [zR a0] [zR s0] sh pp mm Q ↔ zS 53 43 [zR a0] [zI 12, zR s0] sh pp mm Q := s_go cN_init_41 cN_init_43 rfl rfl
theorem rN_init_43 {a0 s1 : Nat} {s0 : Int} (h0 : 0 ≤ s0) (h1 : s0 ≤ 100000) : zS 53 43 [zR a0] [zI s0, zR s1] sh pp mm Q ↔ zS 53 45 [zR a0] [zR sh.length, zR s1] (sh ++ [(20, s0.toNat)]) (zclp pp sh.length) (zclr mm sh.length) Q := s_go cN_init_43 cN_init_45 (if_pos ⟨h0, h1⟩) rfl
theorem rN_init_45 {a0 s0 s1 : Nat} (hk : zKd sh s1 = 6) : zS 53 45 [zR a0] [zR s0, zR s1] sh pp mm Q ↔ zS 53 48 [zR a0] [] sh (zupp pp s1 6 s0) mm Q := s_go cN_init_45 cN_init_48 (if_pos ⟨hk, rfl⟩) rfl
theorem rN_init_48 {a0 : Nat} : zS 53 48 [zR a0] [] sh pp mm Q ↔ zS 53 49 [zR a0] [zR a0] sh pp mm Q := s_go cN_init_48 cN_init_49 rfl rfl
theorem rN_init_49 {a0 s0 : Nat} : zS 53 49 [zR a0] [zR s0] sh pp mm Q ↔ zS 53 51 [zR a0] [zI 12, zR s0] sh pp mm Q := s_go cN_init_49 cN_init_51 rfl rfl
theorem rN_init_51 {a0 s1 : Nat} {s0 : Int} (h0 : 0 ≤ s0) (h1 : s0 ≤ 100000) : zS 53 51 [zR a0] [zI s0, zR s1] sh pp mm Q ↔ zS 53 53 [zR a0] [zR sh.length, zR s1] (sh ++ [(20, s0.toNat)]) (zclp pp sh.length) (zclr mm sh.length) Q := s_go cN_init_51 cN_init_53 (if_pos ⟨h0, h1⟩) rfl
theorem rN_init_53 {a0 s0 s1 : Nat} (hk : zKd sh s1 = 6) : zS 53 53 [zR a0] [zR s0, zR s1] sh pp mm Q ↔ zS 53 56 [zR a0] [] sh (zupp pp s1 7 s0) mm Q := s_go cN_init_53 cN_init_56 (if_pos ⟨hk, rfl⟩) rfl
theorem rN_init_56 {a0 : Nat} : zS 53 56 [zR a0] [] sh pp mm Q ↔ zS 53 57 [zR a0] [zR a0] sh pp mm Q := s_go cN_init_56 cN_init_57 rfl rfl
theorem rN_init_57 {a0 s0 : Nat} : zS 53 57 [zR a0] [zR s0] sh pp mm Q ↔ zS 53 59 [zR a0] [zI 12, zR s0] sh pp mm Q := s_go cN_init_57 cN_init_59 rfl rfl
theorem rN_init_59 {a0 s1 : Nat} {s0 : Int} (h0 : 0 ≤ s0) (h1 : s0 ≤ 100000) : zS 53 59 [zR a0] [zI s0, zR s1] sh pp mm Q ↔ zS 53 61 [zR a0] [zR sh.length, zR s1] (sh ++ [(20, s0.toNat)]) (zclp pp sh.length) (zclr mm sh.length) Q := s_go cN_init_59 cN_init_61 (if_pos ⟨h0, h1⟩) rfl
theorem rN_init_61 {a0 s0 s1 : Nat} (hk : zKd sh s1 = 6) : zS 53 61 [zR a0] [zR s0, zR s1] sh pp mm Q ↔ zS 53 64 [zR a0] [] sh (zupp pp s1 8 s0) mm Q := s_go cN_init_61 cN_init_64 (if_pos ⟨hk, rfl⟩) rfl
theorem rN_init_64 {a0 : Nat} : zS 53 64 [zR a0] [] sh pp mm Q ↔ zS 53 65 [zR a0] [zR a0] sh pp mm Q := s_go cN_init_64 cN_init_65 rfl rfl
theorem rN_init_65 {a0 s0 : Nat} : zS 53 65 [zR a0] [zR s0] sh pp mm Q ↔ zS 53 67 [zR a0] [zI 12, zR s0] sh pp mm Q := s_go cN_init_65 cN_init_67 rfl rfl
theorem rN_init_67 {a0 s1 : Nat} {s0 : Int} (h0 : 0 ≤ s0) (h1 : s0 ≤ 100000) : zS 53 67 [zR a0] [zI s0, zR s1] sh pp mm Q ↔ zS 53 69 [zR a0] [zR sh.length, zR s1] (sh ++ [(20, s0.toNat)]) (zclp pp sh.length) (zclr mm sh.length) Q := s_go cN_init_67 cN_init_69 (if_pos ⟨h0, h1⟩) rfl
theorem rN_init_69 {a0 s0 s1 : Nat} (hk : zKd sh s1 = 6) : zS 53 69 [zR a0] [zR s0, zR s1] sh pp mm Q ↔ zS 53 72 [zR a0] [] sh (zupp pp s1 9 s0) mm Q := s_go cN_init_69 cN_init_72 (if_pos ⟨hk, rfl⟩) rfl
theorem rN_init_72 {a0 : Nat} : zS 53 72 [zR a0] [] sh pp mm Q ↔ zS 53 73 [zR a0] [zR a0] sh pp mm Q := s_go cN_init_72 cN_init_73 rfl rfl
theorem rN_init_73 {a0 s0 : Nat} : zS 53 73 [zR a0] [zR s0] sh pp mm Q ↔ zS 53 74 [zR a0] [zI 0, zR s0] sh pp mm Q := s_go cN_init_73 cN_init_74 rfl rfl
theorem rN_init_74 {a0 s1 : Nat} {s0 : Int} (hk : zKd sh s1 = 6) (hb : s0 = 0 ∨ s0 = 1) : zS 53 74 [zR a0] [zI s0, zR s1] sh pp mm Q ↔ zS 53 77 [zR a0] [] sh pp (zupd mm s1 10 s0) Q := s_go cN_init_74 cN_init_77 (if_pos ⟨hk, Or.inr ⟨rfl, hb⟩⟩) rfl
theorem rN_init_77 {a0 : Nat} : zS 53 77 [zR a0] [] sh pp mm Q ↔ zS 53 78 [zR a0] [zR a0] sh pp mm Q := s_go cN_init_77 cN_init_78 rfl rfl
theorem rN_init_78 {a0 s0 : Nat} : zS 53 78 [zR a0] [zR s0] sh pp mm Q ↔ zS 53 80 [zR a0] [zI 12, zR s0] sh pp mm Q := s_go cN_init_78 cN_init_80 rfl rfl
theorem rN_init_80 {a0 s1 : Nat} {s0 : Int} (h0 : 0 ≤ s0) (h1 : s0 ≤ 100000) : zS 53 80 [zR a0] [zI s0, zR s1] sh pp mm Q ↔ zS 53 82 [zR a0] [zR sh.length, zR s1] (sh ++ [(20, s0.toNat)]) (zclp pp sh.length) (zclr mm sh.length) Q := s_go cN_init_80 cN_init_82 (if_pos ⟨h0, h1⟩) rfl
theorem rN_init_82 {a0 s0 s1 : Nat} (hk : zKd sh s1 = 6) : zS 53 82 [zR a0] [zR s0, zR s1] sh pp mm Q ↔ zS 53 85 [zR a0] [] sh (zupp pp s1 11 s0) mm Q := s_go cN_init_82 cN_init_85 (if_pos ⟨hk, rfl⟩) rfl
theorem rN_init_85 {a0 : Nat} : zS 53 85 [zR a0] [] sh pp mm Q ↔ zS 53 86 [zR a0] [zR a0] sh pp mm Q := s_go cN_init_85 cN_init_86 rfl rfl
theorem rN_init_86 {a0 s0 : Nat} : zS 53 86 [zR a0] [zR s0] sh pp mm Q ↔ zS 53 88 [zR a0] [zI 12, zR s0] sh pp mm Q := s_go cN_init_86 cN_init_88 rfl rfl
theorem rN_init_88 {a0 s1 : Nat} {s0 : Int} (h0 : 0 ≤ s0) (h1 : s0 ≤ 100000) : zS 53 88 [zR a0] [zI s0, zR s1] sh pp mm Q ↔ zS 53 90 [zR a0] [zR sh.length, zR s1] (sh ++ [(20, s0.toNat)]) (zclp pp sh.length) (zclr mm sh.length) Q := s_go cN_init_88 cN_init_90 (if_pos ⟨h0, h1⟩) rfl
theorem rN_init_90 {a0 s0 s1 : Nat} (hk : zKd sh s1 = 6) : zS 53 90 [zR a0] [zR s0, zR s1] sh pp mm Q ↔ zS 53 93 [zR a0] [] sh (zupp pp s1 12 s0) mm Q := s_go cN_init_90 cN_init_93 (if_pos ⟨hk, rfl⟩) rfl
theorem rN_init_93 {a0 : Nat} : zS 53 93 [zR a0] [] sh pp mm Q ↔ zS 53 94 [zR a0] [zR a0] sh pp mm Q := s_go cN_init_93 cN_init_94 rfl rfl
theorem rN_init_94 {a0 s0 : Nat} : zS 53 94 [zR a0] [zR s0] sh pp mm Q ↔ zS 53 96 [zR a0] [zI 12, zR s0] sh pp mm Q := s_go cN_init_94 cN_init_96 rfl rfl
theorem rN_init_96 {a0 s1 : Nat} {s0 : Int} (h0 : 0 ≤ s0) (h1 : s0 ≤ 100000) : zS 53 96 [zR a0] [zI s0, zR s1] sh pp mm Q ↔ zS 53 98 [zR a0] [zR sh.length, zR s1] (sh ++ [(20, s0.toNat)]) (zclp pp sh.length) (zclr mm sh.length) Q := s_go cN_init_96 cN_init_98 (if_pos ⟨h0, h1⟩) rfl
theorem rN_init_98 {a0 s0 s1 : Nat} (hk : zKd sh s1 = 6) : zS 53 98 [zR a0] [zR s0, zR s1] sh pp mm Q ↔ zS 53 101 [zR a0] [] sh (zupp pp s1 13 s0) mm Q := s_go cN_init_98 cN_init_101 (if_pos ⟨hk, rfl⟩) rfl
theorem rN_init_101 {a0 : Nat} : zS 53 101 [zR a0] [] sh pp mm Q ↔ zS 53 102 [zR a0] [zR a0] sh pp mm Q := s_go cN_init_101 cN_init_102 rfl rfl
theorem rN_init_102 {a0 s0 : Nat} : zS 53 102 [zR a0] [zR s0] sh pp mm Q ↔ zS 53 103 [zR a0] [zI (-1), zR s0] sh pp mm Q := s_go cN_init_102 cN_init_103 rfl rfl
theorem rN_init_103 {a0 s1 : Nat} {s0 : Int} (hk : zKd sh s1 = 6) : zS 53 103 [zR a0] [zI s0, zR s1] sh pp mm Q ↔ zS 53 106 [zR a0] [] sh pp (zupd mm s1 14 s0) Q := s_go cN_init_103 cN_init_106 (if_pos ⟨hk, Or.inl rfl⟩) rfl
theorem rN_init_106 {a0 : Nat} : zS 53 106 [zR a0] [] sh pp mm Q ↔ zS 53 107 [zR a0] [zR a0] sh pp mm Q := s_go cN_init_106 cN_init_107 rfl rfl
theorem rN_init_107 {a0 s0 : Nat} : zS 53 107 [zR a0] [zR s0] sh pp mm Q ↔ zS 53 108 [zR a0] [zI (-1), zR s0] sh pp mm Q := s_go cN_init_107 cN_init_108 rfl rfl
theorem rN_init_108 {a0 s1 : Nat} {s0 : Int} (hk : zKd sh s1 = 6) : zS 53 108 [zR a0] [zI s0, zR s1] sh pp mm Q ↔ zS 53 111 [zR a0] [] sh pp (zupd mm s1 15 s0) Q := s_go cN_init_108 cN_init_111 (if_pos ⟨hk, Or.inl rfl⟩) rfl
theorem rN_init_111 {a0 : Nat} : zS 53 111 [zR a0] [] sh pp mm Q ↔ zS 53 112 [zR a0] [zR a0] sh pp mm Q := s_go cN_init_111 cN_init_112 rfl rfl
theorem rN_init_112 {a0 s0 : Nat} : zS 53 112 [zR a0] [zR s0] sh pp mm Q ↔ zS 53 113 [zR a0] [zI (-1), zR s0] sh pp mm Q := s_go cN_init_112 cN_init_113 rfl rfl
theorem rN_init_113 {a0 s1 : Nat} {s0 : Int} (hk : zKd sh s1 = 6) : zS 53 113 [zR a0] [zI s0, zR s1] sh pp mm Q ↔ zS 53 116 [zR a0] [] sh pp (zupd mm s1 16 s0) Q := s_go cN_init_113 cN_init_116 (if_pos ⟨hk, Or.inl rfl⟩) rfl
theorem rN_init_116 {a0 : Nat} : zS 53 116 [zR a0] [] sh pp mm Q ↔ zS 53 117 [zU] [zR a0] sh pp mm Q := s_go cN_init_116 cN_init_117 rfl rfl
theorem rN_init_117 {s0 : Nat} {u0 : zV} : zS 53 117 [u0] [zR s0] sh pp mm Q ↔ zS 53 118 [zU] [zR 0, zR s0] sh pp mm Q := s_go cN_init_117 cN_init_118 rfl rfl
theorem rN_init_118 {s0 s1 : Nat} {u0 : zV} (hk : zKd sh s1 = 6) : zS 53 118 [u0] [zR s0, zR s1] sh pp mm Q ↔ zS 53 121 [zU] [] sh (zupp pp s1 17 s0) mm Q := s_go cN_init_118 cN_init_121 (if_pos ⟨hk, rfl⟩) rfl
theorem rN_init_121 {u0 : zV} : zS 53 121 [u0] [] sh pp mm Q ↔ Q zU sh pp mm := s_ret cN_init_121 rfl
theorem cAN_outdate : ∀ q ∈ zT54, zCode 54 q.1 = some q.2 := zAll (mid := 54) rfl (by decide +kernel)
theorem cAN_outdate_0 : ∀ q ∈ zT54_0, zCode 54 q.1 = some q.2 := fun q h => cAN_outdate q (h)
theorem cN_outdate_0 : zCode 54 0 = some (.aload_n 0, 1, 0, 0, 0, 0, 1) := cAN_outdate_0 _ (List.mem_of_getElem? (i := 0) rfl)
theorem cN_outdate_1 : zCode 54 1 = some (.iconst 0, 2, 0, 0, 0, 0, 0) := cAN_outdate_0 _ (List.mem_of_getElem? (i := 1) rfl)
theorem cN_outdate_2 : zCode 54 2 = some (.putfield 44, 5, 6, 10, 3, 230, 0) := cAN_outdate_0 _ (List.mem_of_getElem? (i := 2) rfl)
theorem cN_outdate_5 : zCode 54 5 = some (.return_, 6, 0, 0, 0, 0, 0) := cAN_outdate_0 _ (List.mem_of_getElem? (i := 3) rfl)
theorem rN_outdate_0 {a0 : Nat} : zS 54 0 [zR a0] [] sh pp mm Q ↔ zS 54 1 [zU] [zR a0] sh pp mm Q := s_go cN_outdate_0 cN_outdate_1 rfl rfl
theorem rN_outdate_1 {s0 : Nat} {u0 : zV} : zS 54 1 [u0] [zR s0] sh pp mm Q ↔ zS 54 2 [zU] [zI 0, zR s0] sh pp mm Q := s_go cN_outdate_1 cN_outdate_2 rfl rfl
theorem rN_outdate_2 {s1 : Nat} {s0 : Int} {u0 : zV} (hk : zKd sh s1 = 6) (hb : s0 = 0 ∨ s0 = 1) : zS 54 2 [u0] [zI s0, zR s1] sh pp mm Q ↔ zS 54 5 [zU] [] sh pp (zupd mm s1 10 s0) Q := s_go cN_outdate_2 cN_outdate_5 (if_pos ⟨hk, Or.inr ⟨rfl, hb⟩⟩) rfl
theorem rN_outdate_5 {u0 : zV} : zS 54 5 [u0] [] sh pp mm Q ↔ Q zU sh pp mm := s_ret cN_outdate_5 rfl
theorem cAN_learn : ∀ q ∈ zT55, zCode 55 q.1 = some q.2 := zAll (mid := 55) rfl (by decide +kernel)
theorem cAN_learn_0 : ∀ q ∈ zT55_0, zCode 55 q.1 = some q.2 := fun q h => cAN_learn q (List.mem_append_left _ h)
theorem cAN_learn_1 : ∀ q ∈ zT55_1, zCode 55 q.1 = some q.2 := fun q h => cAN_learn q (List.mem_append_right _ (List.mem_append_left _ h))
theorem cAN_learn_2 : ∀ q ∈ zT55_2, zCode 55 q.1 = some q.2 := fun q h => cAN_learn q (List.mem_append_right _ (List.mem_append_right _ (List.mem_append_left _ h)))
theorem cAN_learn_3 : ∀ q ∈ zT55_3, zCode 55 q.1 = some q.2 := fun q h => cAN_learn q (List.mem_append_right _ (List.mem_append_right _ (List.mem_append_right _ (List.mem_append_left _ h))))
theorem cAN_learn_4 : ∀ q ∈ zT55_4, zCode 55 q.1 = some q.2 := fun q h => cAN_learn q (List.mem_append_right _ (List.mem_append_right _ (List.mem_append_right _ (List.mem_append_right _ (List.mem_append_left _ h)))))
theorem cAN_learn_5 : ∀ q ∈ zT55_5, zCode 55 q.1 = some q.2 := fun q h => cAN_learn q (List.mem_append_right _ (List.mem_append_right _ (List.mem_append_right _ (List.mem_append_right _ (List.mem_append_right _ h)))))
theorem cN_learn_0 : zCode 55 0 = some (.aload_n 0, 1, 0, 0, 0, 0, 3) := cAN_learn_0 _ (List.mem_of_getElem? (i := 0) rfl)
theorem cN_learn_1 : zCode 55 1 = some (.getfield 44, 4, 6, 10, 3, 230, 3) := cAN_learn_0 _ (List.mem_of_getElem? (i := 1) rfl)
theorem cN_learn_4 : zCode 55 4 = some (.ifCond .eq 4, 7, 8, 0, 0, 0, 3) := cAN_learn_0 _ (List.mem_of_getElem? (i := 2) rfl)
theorem cN_learn_7 : zCode 55 7 = some (.return_, 8, 0, 0, 0, 0, 0) := cAN_learn_0 _ (List.mem_of_getElem? (i := 3) rfl)
theorem cN_learn_8 : zCode 55 8 = some (.aload_n 0, 9, 0, 0, 0, 0, 3) := cAN_learn_0 _ (List.mem_of_getElem? (i := 4) rfl)
theorem cN_learn_9 : zCode 55 9 = some (.aload_n 1, 10, 0, 0, 0, 0, 3) := cAN_learn_0 _ (List.mem_of_getElem? (i := 5) rfl)
theorem cN_learn_10 : zCode 55 10 = some (.getfield 69, 13, 9, 4, 2, 175, 3) := cAN_learn_0 _ (List.mem_of_getElem? (i := 6) rfl)
theorem cN_learn_13 : zCode 55 13 = some (.getfield 74, 16, 10, 3, 0, 143, 3) := cAN_learn_0 _ (List.mem_of_getElem? (i := 7) rfl)
theorem cN_learn_16 : zCode 55 16 = some (.bipush 12, 18, 0, 0, 0, 0, 3) := cAN_learn_0 _ (List.mem_of_getElem? (i := 8) rfl)
theorem cN_learn_18 : zCode 55 18 = some (.invokestatic 79, 21, 260, 2, 2, 15, 3) := cAN_learn_0 _ (List.mem_of_getElem? (i := 9) rfl)
theorem cN_learn_21 : zCode 55 21 = some (.putfield 22, 24, 6, 3, 0, 217, 3) := cAN_learn_0 _ (List.mem_of_getElem? (i := 10) rfl)
theorem cN_learn_24 : zCode 55 24 = some (.aload_n 0, 25, 0, 0, 0, 0, 3) := cAN_learn_0 _ (List.mem_of_getElem? (i := 11) rfl)
theorem cN_learn_25 : zCode 55 25 = some (.iconst 0, 26, 0, 0, 0, 0, 3) := cAN_learn_0 _ (List.mem_of_getElem? (i := 12) rfl)
theorem cN_learn_26 : zCode 55 26 = some (.putfield 9, 29, 6, 0, 0, 211, 3) := cAN_learn_0 _ (List.mem_of_getElem? (i := 13) rfl)
theorem cN_learn_29 : zCode 55 29 = some (.iconst 0, 30, 0, 0, 0, 0, 3) := cAN_learn_0 _ (List.mem_of_getElem? (i := 14) rfl)
theorem cN_learn_30 : zCode 55 30 = some (.istore_n 2, 31, 0, 0, 0, 0, 3) := cAN_learn_0 _ (List.mem_of_getElem? (i := 15) rfl)
theorem cN_learn_31 : zCode 55 31 = some (.iload_n 2, 32, 0, 0, 0, 0, 7) := cAN_learn_1 _ (List.mem_of_getElem? (i := 0) rfl)
theorem cN_learn_32 : zCode 55 32 = some (.aload_n 0, 33, 0, 0, 0, 0, 7) := cAN_learn_1 _ (List.mem_of_getElem? (i := 1) rfl)
theorem cN_learn_33 : zCode 55 33 = some (.getfield 22, 36, 6, 3, 0, 217, 7) := cAN_learn_1 _ (List.mem_of_getElem? (i := 2) rfl)
theorem cN_learn_36 : zCode 55 36 = some (.if_icmp .ge 41, 39, 77, 0, 0, 0, 7) := cAN_learn_1 _ (List.mem_of_getElem? (i := 3) rfl)
theorem cN_learn_39 : zCode 55 39 = some (.aload_n 0, 40, 0, 0, 0, 0, 7) := cAN_learn_1 _ (List.mem_of_getElem? (i := 4) rfl)
theorem cN_learn_40 : zCode 55 40 = some (.iload_n 2, 41, 0, 0, 0, 0, 7) := cAN_learn_1 _ (List.mem_of_getElem? (i := 5) rfl)
theorem cN_learn_41 : zCode 55 41 = some (.aload_n 1, 42, 0, 0, 0, 0, 7) := cAN_learn_1 _ (List.mem_of_getElem? (i := 6) rfl)
theorem cN_learn_42 : zCode 55 42 = some (.invokevirtual 85, 45, 56, 2, 8, 6, 7) := cAN_learn_1 _ (List.mem_of_getElem? (i := 7) rfl)
theorem cN_learn_45 : zCode 55 45 = some (.aload_n 0, 46, 0, 0, 0, 0, 7) := cAN_learn_1 _ (List.mem_of_getElem? (i := 8) rfl)
theorem cN_learn_46 : zCode 55 46 = some (.getfield 41, 49, 6, 9, 2, 228, 7) := cAN_learn_1 _ (List.mem_of_getElem? (i := 9) rfl)
theorem cN_learn_49 : zCode 55 49 = some (.iload_n 2, 50, 0, 0, 0, 0, 7) := cAN_learn_1 _ (List.mem_of_getElem? (i := 10) rfl)
theorem cN_learn_50 : zCode 55 50 = some (.aload_n 0, 51, 0, 0, 0, 0, 7) := cAN_learn_1 _ (List.mem_of_getElem? (i := 11) rfl)
theorem cN_learn_51 : zCode 55 51 = some (.iload_n 2, 52, 0, 0, 0, 0, 7) := cAN_learn_1 _ (List.mem_of_getElem? (i := 12) rfl)
theorem cN_learn_52 : zCode 55 52 = some (.invokevirtual 89, 55, 57, 1, 4, 6, 7) := cAN_learn_1 _ (List.mem_of_getElem? (i := 13) rfl)
theorem cN_learn_55 : zCode 55 55 = some (.iastore, 56, 0, 0, 0, 0, 7) := cAN_learn_1 _ (List.mem_of_getElem? (i := 14) rfl)
theorem cN_learn_56 : zCode 55 56 = some (.aload_n 0, 57, 0, 0, 0, 0, 7) := cAN_learn_1 _ (List.mem_of_getElem? (i := 15) rfl)
theorem cN_learn_57 : zCode 55 57 = some (.dup, 58, 0, 0, 0, 0, 7) := cAN_learn_2 _ (List.mem_of_getElem? (i := 0) rfl)
theorem cN_learn_58 : zCode 55 58 = some (.getfield 9, 61, 6, 0, 0, 211, 7) := cAN_learn_2 _ (List.mem_of_getElem? (i := 1) rfl)
theorem cN_learn_61 : zCode 55 61 = some (.aload_n 0, 62, 0, 0, 0, 0, 7) := cAN_learn_2 _ (List.mem_of_getElem? (i := 2) rfl)
theorem cN_learn_62 : zCode 55 62 = some (.getfield 32, 65, 6, 6, 2, 222, 7) := cAN_learn_2 _ (List.mem_of_getElem? (i := 3) rfl)
theorem cN_learn_65 : zCode 55 65 = some (.iload_n 2, 66, 0, 0, 0, 0, 7) := cAN_learn_2 _ (List.mem_of_getElem? (i := 4) rfl)
theorem cN_learn_66 : zCode 55 66 = some (.iaload, 67, 0, 0, 0, 0, 7) := cAN_learn_2 _ (List.mem_of_getElem? (i := 5) rfl)
theorem cN_learn_67 : zCode 55 67 = some (.ixor, 68, 0, 0, 0, 0, 7) := cAN_learn_2 _ (List.mem_of_getElem? (i := 6) rfl)
theorem cN_learn_68 : zCode 55 68 = some (.putfield 9, 71, 6, 0, 0, 211, 7) := cAN_learn_2 _ (List.mem_of_getElem? (i := 7) rfl)
theorem cN_learn_71 : zCode 55 71 = some (.iinc 2 1, 74, 0, 0, 0, 0, 7) := cAN_learn_2 _ (List.mem_of_getElem? (i := 8) rfl)
theorem cN_learn_74 : zCode 55 74 = some (.goto (-43), 77, 31, 0, 0, 0, 7) := cAN_learn_2 _ (List.mem_of_getElem? (i := 9) rfl)
theorem cN_learn_77 : zCode 55 77 = some (.aload_n 0, 78, 0, 0, 0, 0, 1) := cAN_learn_2 _ (List.mem_of_getElem? (i := 10) rfl)
theorem cN_learn_78 : zCode 55 78 = some (.aload_n 0, 79, 0, 0, 0, 0, 1) := cAN_learn_2 _ (List.mem_of_getElem? (i := 11) rfl)
theorem cN_learn_79 : zCode 55 79 = some (.getfield 22, 82, 6, 3, 0, 217, 1) := cAN_learn_2 _ (List.mem_of_getElem? (i := 12) rfl)
theorem cN_learn_82 : zCode 55 82 = some (.ifCond .eq 20, 85, 102, 0, 0, 0, 1) := cAN_learn_2 _ (List.mem_of_getElem? (i := 13) rfl)
theorem cN_learn_85 : zCode 55 85 = some (.aload_n 0, 86, 0, 0, 0, 0, 1) := cAN_learn_2 _ (List.mem_of_getElem? (i := 14) rfl)
theorem cN_learn_86 : zCode 55 86 = some (.aload_n 0, 87, 0, 0, 0, 0, 1) := cAN_learn_2 _ (List.mem_of_getElem? (i := 15) rfl)
theorem cN_learn_87 : zCode 55 87 = some (.getfield 25, 90, 6, 4, 2, 219, 1) := cAN_learn_3 _ (List.mem_of_getElem? (i := 0) rfl)
theorem cN_learn_90 : zCode 55 90 = some (.iconst 0, 91, 0, 0, 0, 0, 1) := cAN_learn_3 _ (List.mem_of_getElem? (i := 1) rfl)
theorem cN_learn_91 : zCode 55 91 = some (.iaload, 92, 0, 0, 0, 0, 1) := cAN_learn_3 _ (List.mem_of_getElem? (i := 2) rfl)
theorem cN_learn_92 : zCode 55 92 = some (.aload_n 0, 93, 0, 0, 0, 0, 1) := cAN_learn_3 _ (List.mem_of_getElem? (i := 3) rfl)
theorem cN_learn_93 : zCode 55 93 = some (.invokevirtual 93, 96, 58, 0, 1, 6, 1) := cAN_learn_3 _ (List.mem_of_getElem? (i := 4) rfl)
theorem cN_learn_96 : zCode 55 96 = some (.invokevirtual 97, 99, 60, 2, 8, 6, 1) := cAN_learn_3 _ (List.mem_of_getElem? (i := 5) rfl)
theorem cN_learn_99 : zCode 55 99 = some (.ifCond .eq 7, 102, 106, 0, 0, 0, 1) := cAN_learn_3 _ (List.mem_of_getElem? (i := 6) rfl)
theorem cN_learn_102 : zCode 55 102 = some (.iconst 1, 103, 0, 0, 0, 0, 1) := cAN_learn_3 _ (List.mem_of_getElem? (i := 7) rfl)
theorem cN_learn_103 : zCode 55 103 = some (.goto 4, 106, 107, 0, 0, 0, 1) := cAN_learn_3 _ (List.mem_of_getElem? (i := 8) rfl)
theorem cN_learn_106 : zCode 55 106 = some (.iconst 0, 107, 0, 0, 0, 0, 1) := cAN_learn_3 _ (List.mem_of_getElem? (i := 9) rfl)
theorem cN_learn_107 : zCode 55 107 = some (.putfield 15, 110, 6, 1, 3, 213, 1) := cAN_learn_3 _ (List.mem_of_getElem? (i := 10) rfl)
theorem cN_learn_110 : zCode 55 110 = some (.aload_n 0, 111, 0, 0, 0, 0, 1) := cAN_learn_3 _ (List.mem_of_getElem? (i := 11) rfl)
theorem cN_learn_111 : zCode 55 111 = some (.aload_n 0, 112, 0, 0, 0, 0, 1) := cAN_learn_3 _ (List.mem_of_getElem? (i := 12) rfl)
theorem cN_learn_112 : zCode 55 112 = some (.getfield 15, 115, 6, 1, 3, 213, 1) := cAN_learn_3 _ (List.mem_of_getElem? (i := 13) rfl)
theorem cN_learn_115 : zCode 55 115 = some (.ifCond .eq 18, 118, 133, 0, 0, 0, 1) := cAN_learn_3 _ (List.mem_of_getElem? (i := 14) rfl)
theorem cN_learn_118 : zCode 55 118 = some (.aload_n 0, 119, 0, 0, 0, 0, 1) := cAN_learn_3 _ (List.mem_of_getElem? (i := 15) rfl)
theorem cN_learn_119 : zCode 55 119 = some (.getfield 9, 122, 6, 0, 0, 211, 1) := cAN_learn_4 _ (List.mem_of_getElem? (i := 0) rfl)
theorem cN_learn_122 : zCode 55 122 = some (.invokestatic 101, 125, 256, 1, 1, 14, 1) := cAN_learn_4 _ (List.mem_of_getElem? (i := 1) rfl)
theorem cN_learn_125 : zCode 55 125 = some (.iconst 2, 126, 0, 0, 0, 0, 1) := cAN_learn_4 _ (List.mem_of_getElem? (i := 2) rfl)
theorem cN_learn_126 : zCode 55 126 = some (.if_icmp .gt 7, 129, 133, 0, 0, 0, 1) := cAN_learn_4 _ (List.mem_of_getElem? (i := 3) rfl)
theorem cN_learn_129 : zCode 55 129 = some (.iconst 1, 130, 0, 0, 0, 0, 1) := cAN_learn_4 _ (List.mem_of_getElem? (i := 4) rfl)
theorem cN_learn_130 : zCode 55 130 = some (.goto 4, 133, 134, 0, 0, 0, 1) := cAN_learn_4 _ (List.mem_of_getElem? (i := 5) rfl)
theorem cN_learn_133 : zCode 55 133 = some (.iconst 0, 134, 0, 0, 0, 0, 1) := cAN_learn_4 _ (List.mem_of_getElem? (i := 6) rfl)
theorem cN_learn_134 : zCode 55 134 = some (.putfield 19, 137, 6, 2, 3, 215, 1) := cAN_learn_4 _ (List.mem_of_getElem? (i := 7) rfl)
theorem cN_learn_137 : zCode 55 137 = some (.aload_n 0, 138, 0, 0, 0, 0, 1) := cAN_learn_4 _ (List.mem_of_getElem? (i := 8) rfl)
theorem cN_learn_138 : zCode 55 138 = some (.iconst (-1), 139, 0, 0, 0, 0, 1) := cAN_learn_4 _ (List.mem_of_getElem? (i := 9) rfl)
theorem cN_learn_139 : zCode 55 139 = some (.putfield 56, 142, 6, 14, 0, 234, 1) := cAN_learn_4 _ (List.mem_of_getElem? (i := 10) rfl)
theorem cN_learn_142 : zCode 55 142 = some (.aload_n 0, 143, 0, 0, 0, 0, 1) := cAN_learn_4 _ (List.mem_of_getElem? (i := 11) rfl)
theorem cN_learn_143 : zCode 55 143 = some (.iconst (-1), 144, 0, 0, 0, 0, 1) := cAN_learn_4 _ (List.mem_of_getElem? (i := 12) rfl)
theorem cN_learn_144 : zCode 55 144 = some (.putfield 59, 147, 6, 15, 0, 235, 1) := cAN_learn_4 _ (List.mem_of_getElem? (i := 13) rfl)
theorem cN_learn_147 : zCode 55 147 = some (.aload_n 0, 148, 0, 0, 0, 0, 1) := cAN_learn_4 _ (List.mem_of_getElem? (i := 14) rfl)
theorem cN_learn_148 : zCode 55 148 = some (.iconst (-1), 149, 0, 0, 0, 0, 1) := cAN_learn_4 _ (List.mem_of_getElem? (i := 15) rfl)
theorem cN_learn_149 : zCode 55 149 = some (.putfield 62, 152, 6, 16, 0, 236, 1) := cAN_learn_5 _ (List.mem_of_getElem? (i := 0) rfl)
theorem cN_learn_152 : zCode 55 152 = some (.aload_n 0, 153, 0, 0, 0, 0, 1) := cAN_learn_5 _ (List.mem_of_getElem? (i := 1) rfl)
theorem cN_learn_153 : zCode 55 153 = some (.iconst 1, 154, 0, 0, 0, 0, 0) := cAN_learn_5 _ (List.mem_of_getElem? (i := 2) rfl)
theorem cN_learn_154 : zCode 55 154 = some (.putfield 44, 157, 6, 10, 3, 230, 0) := cAN_learn_5 _ (List.mem_of_getElem? (i := 3) rfl)
theorem cN_learn_157 : zCode 55 157 = some (.return_, 158, 0, 0, 0, 0, 0) := cAN_learn_5 _ (List.mem_of_getElem? (i := 4) rfl)
theorem rN_learn_0 {a0 a1 : Nat} {u2 : zV} : zS 55 0 [zR a0, zR a1, u2] [] sh pp mm Q ↔ zS 55 1 [zR a0, zR a1, zU] [zR a0] sh pp mm Q := s_go cN_learn_0 cN_learn_1 rfl rfl
theorem rN_learn_1 {a0 a1 s0 : Nat} {u2 : zV} (hk : zKd sh s0 = 6) : zS 55 1 [zR a0, zR a1, u2] [zR s0] sh pp mm Q ↔ zS 55 4 [zR a0, zR a1, zU] [zI (mm s0 10)] sh pp mm Q := s_go cN_learn_1 cN_learn_4 (if_pos hk) rfl
theorem rN_learn_4 {a0 a1 : Nat} {s0 : Int} {u2 : zV} : zS 55 4 [zR a0, zR a1, u2] [zI s0] sh pp mm Q ↔ (s0 = 0 → zS 55 8 [zR a0, zR a1, zU] [] sh pp mm Q) ∧ (¬ s0 = 0 → zS 55 7 [zU, zU, zU] [] sh pp mm Q) := s_if cN_learn_4 cN_learn_8 cN_learn_7 rfl rfl rfl
theorem rN_learn_7 {u0 u1 u2 : zV} : zS 55 7 [u0, u1, u2] [] sh pp mm Q ↔ Q zU sh pp mm := s_ret cN_learn_7 rfl
theorem rN_learn_8 {a0 a1 : Nat} {u2 : zV} : zS 55 8 [zR a0, zR a1, u2] [] sh pp mm Q ↔ zS 55 9 [zR a0, zR a1, zU] [zR a0] sh pp mm Q := s_go cN_learn_8 cN_learn_9 rfl rfl
theorem rN_learn_9 {a0 a1 s0 : Nat} {u2 : zV} : zS 55 9 [zR a0, zR a1, u2] [zR s0] sh pp mm Q ↔ zS 55 10 [zR a0, zR a1, zU] [zR a1, zR s0] sh pp mm Q := s_go cN_learn_9 cN_learn_10 rfl rfl
theorem rN_learn_10 {a0 a1 s0 s1 : Nat} {u2 : zV} (hk : zKd sh s0 = 9) : zS 55 10 [zR a0, zR a1, u2] [zR s0, zR s1] sh pp mm Q ↔ zS 55 13 [zR a0, zR a1, zU] [zR (pp s0 4), zR s1] sh pp mm Q := s_go cN_learn_10 cN_learn_13 (if_pos hk) rfl
theorem rN_learn_13 {a0 a1 s0 s1 : Nat} {u2 : zV} (hk : zKd sh s0 = 10) : zS 55 13 [zR a0, zR a1, u2] [zR s0, zR s1] sh pp mm Q ↔ zS 55 16 [zR a0, zR a1, zU] [zI (mm s0 3), zR s1] sh pp mm Q := s_go cN_learn_13 cN_learn_16 (if_pos hk) rfl
theorem rN_learn_16 {a0 a1 s1 : Nat} {s0 : Int} {u2 : zV} : zS 55 16 [zR a0, zR a1, u2] [zI s0, zR s1] sh pp mm Q ↔ zS 55 18 [zR a0, zR a1, zU] [zI 12, zI s0, zR s1] sh pp mm Q := s_go cN_learn_16 cN_learn_18 rfl rfl
theorem rN_learn_18 {a0 a1 s2 : Nat} {s0 s1 : Int} {u2 : zV} : zS 55 18 [zR a0, zR a1, u2] [zI s0, zI s1, zR s2] sh pp mm Q ↔ zS 260 0 [zI s1, zI s0] [] sh pp mm (fun v sh pp mm => zS 55 21 [zR a0, zR a1, zU] (zPush v [zR s2]) sh pp mm Q) := s_call cN_learn_18 cN_learn_21 rfl rfl
theorem rN_learn_21 {a0 a1 s1 : Nat} {s0 : Int} {u2 : zV} (hk : zKd sh s1 = 6) : zS 55 21 [zR a0, zR a1, u2] [zI s0, zR s1] sh pp mm Q ↔ zS 55 24 [zR a0, zR a1, zU] [] sh pp (zupd mm s1 3 s0) Q := s_go cN_learn_21 cN_learn_24 (if_pos ⟨hk, Or.inl rfl⟩) rfl
theorem rN_learn_24 {a0 a1 : Nat} {u2 : zV} : zS 55 24 [zR a0, zR a1, u2] [] sh pp mm Q ↔ zS 55 25 [zR a0, zR a1, zU] [zR a0] sh pp mm Q := s_go cN_learn_24 cN_learn_25 rfl rfl
theorem rN_learn_25 {a0 a1 s0 : Nat} {u2 : zV} : zS 55 25 [zR a0, zR a1, u2] [zR s0] sh pp mm Q ↔ zS 55 26 [zR a0, zR a1, zU] [zI 0, zR s0] sh pp mm Q := s_go cN_learn_25 cN_learn_26 rfl rfl
theorem rN_learn_26 {a0 a1 s1 : Nat} {s0 : Int} {u2 : zV} (hk : zKd sh s1 = 6) : zS 55 26 [zR a0, zR a1, u2] [zI s0, zR s1] sh pp mm Q ↔ zS 55 29 [zR a0, zR a1, zU] [] sh pp (zupd mm s1 0 s0) Q := s_go cN_learn_26 cN_learn_29 (if_pos ⟨hk, Or.inl rfl⟩) rfl
theorem rN_learn_29 {a0 a1 : Nat} {u2 : zV} : zS 55 29 [zR a0, zR a1, u2] [] sh pp mm Q ↔ zS 55 30 [zR a0, zR a1, zU] [zI 0] sh pp mm Q := s_go cN_learn_29 cN_learn_30 rfl rfl
theorem rN_learn_30 {a0 a1 : Nat} {s0 : Int} {u2 : zV} : zS 55 30 [zR a0, zR a1, u2] [zI s0] sh pp mm Q ↔ zS 55 31 [zR a0, zR a1, zI s0] [] sh pp mm Q := s_go cN_learn_30 cN_learn_31 rfl rfl
theorem rN_learn_31 {a0 a1 : Nat} {a2 : Int} : zS 55 31 [zR a0, zR a1, zI a2] [] sh pp mm Q ↔ zS 55 32 [zR a0, zR a1, zI a2] [zI a2] sh pp mm Q := s_go cN_learn_31 cN_learn_32 rfl rfl
theorem rN_learn_32 {a0 a1 : Nat} {a2 s0 : Int} : zS 55 32 [zR a0, zR a1, zI a2] [zI s0] sh pp mm Q ↔ zS 55 33 [zR a0, zR a1, zI a2] [zR a0, zI s0] sh pp mm Q := s_go cN_learn_32 cN_learn_33 rfl rfl
theorem rN_learn_33 {a0 a1 s0 : Nat} {a2 s1 : Int} (hk : zKd sh s0 = 6) : zS 55 33 [zR a0, zR a1, zI a2] [zR s0, zI s1] sh pp mm Q ↔ zS 55 36 [zR a0, zR a1, zI a2] [zI (mm s0 3), zI s1] sh pp mm Q := s_go cN_learn_33 cN_learn_36 (if_pos hk) rfl
theorem rN_learn_36 {a0 a1 : Nat} {a2 s0 s1 : Int} : zS 55 36 [zR a0, zR a1, zI a2] [zI s0, zI s1] sh pp mm Q ↔ (s1 < s0 → zS 55 39 [zR a0, zR a1, zI a2] [] sh pp mm Q) ∧ (¬ s1 < s0 → zS 55 77 [zR a0, zU, zU] [] sh pp mm Q) := s_ifn cN_learn_36 cN_learn_39 cN_learn_77 rfl rfl rfl
theorem rN_learn_39 {a0 a1 : Nat} {a2 : Int} : zS 55 39 [zR a0, zR a1, zI a2] [] sh pp mm Q ↔ zS 55 40 [zR a0, zR a1, zI a2] [zR a0] sh pp mm Q := s_go cN_learn_39 cN_learn_40 rfl rfl
theorem rN_learn_40 {a0 a1 s0 : Nat} {a2 : Int} : zS 55 40 [zR a0, zR a1, zI a2] [zR s0] sh pp mm Q ↔ zS 55 41 [zR a0, zR a1, zI a2] [zI a2, zR s0] sh pp mm Q := s_go cN_learn_40 cN_learn_41 rfl rfl
theorem rN_learn_41 {a0 a1 s1 : Nat} {a2 s0 : Int} : zS 55 41 [zR a0, zR a1, zI a2] [zI s0, zR s1] sh pp mm Q ↔ zS 55 42 [zR a0, zR a1, zI a2] [zR a1, zI s0, zR s1] sh pp mm Q := s_go cN_learn_41 cN_learn_42 rfl rfl
theorem rN_learn_42 {a0 a1 s0 s2 : Nat} {a2 s1 : Int} (hk : zKd sh s2 = 6) : zS 55 42 [zR a0, zR a1, zI a2] [zR s0, zI s1, zR s2] sh pp mm Q ↔ zS 56 0 [zR s2, zI s1, zR s0, zU, zU, zU, zU, zU] [] sh pp mm (fun v sh pp mm => zS 55 45 [zR a0, zR a1, zI a2] (zPush v []) sh pp mm Q) := s_call cN_learn_42 cN_learn_45 ((if_pos hk).trans rfl) rfl
theorem rN_learn_45 {a0 a1 : Nat} {a2 : Int} : zS 55 45 [zR a0, zR a1, zI a2] [] sh pp mm Q ↔ zS 55 46 [zR a0, zR a1, zI a2] [zR a0] sh pp mm Q := s_go cN_learn_45 cN_learn_46 rfl rfl
theorem rN_learn_46 {a0 a1 s0 : Nat} {a2 : Int} (hk : zKd sh s0 = 6) : zS 55 46 [zR a0, zR a1, zI a2] [zR s0] sh pp mm Q ↔ zS 55 49 [zR a0, zR a1, zI a2] [zR (pp s0 9)] sh pp mm Q := s_go cN_learn_46 cN_learn_49 (if_pos hk) rfl
theorem rN_learn_49 {a0 a1 s0 : Nat} {a2 : Int} : zS 55 49 [zR a0, zR a1, zI a2] [zR s0] sh pp mm Q ↔ zS 55 50 [zR a0, zR a1, zI a2] [zI a2, zR s0] sh pp mm Q := s_go cN_learn_49 cN_learn_50 rfl rfl
theorem rN_learn_50 {a0 a1 s1 : Nat} {a2 s0 : Int} : zS 55 50 [zR a0, zR a1, zI a2] [zI s0, zR s1] sh pp mm Q ↔ zS 55 51 [zR a0, zR a1, zI a2] [zR a0, zI s0, zR s1] sh pp mm Q := s_go cN_learn_50 cN_learn_51 rfl rfl
theorem rN_learn_51 {a0 a1 s0 s2 : Nat} {a2 s1 : Int} : zS 55 51 [zR a0, zR a1, zI a2] [zR s0, zI s1, zR s2] sh pp mm Q ↔ zS 55 52 [zR a0, zR a1, zI a2] [zI a2, zR s0, zI s1, zR s2] sh pp mm Q := s_go cN_learn_51 cN_learn_52 rfl rfl
theorem rN_learn_52 {a0 a1 s1 s3 : Nat} {a2 s0 s2 : Int} (hk : zKd sh s1 = 6) : zS 55 52 [zR a0, zR a1, zI a2] [zI s0, zR s1, zI s2, zR s3] sh pp mm Q ↔ zS 57 0 [zR s1, zI s0, zU, zU] [] sh pp mm (fun v sh pp mm => zS 55 55 [zR a0, zR a1, zI a2] (zPush v [zI s2, zR s3]) sh pp mm Q) := s_call cN_learn_52 cN_learn_55 ((if_pos hk).trans rfl) rfl
theorem rN_learn_55 {a0 a1 s2 : Nat} {a2 s0 s1 : Int} (hk : zKd sh s2 = 20) (h0 : 0 ≤ s1) (h1 : s1 < zLn sh s2) : zS 55 55 [zR a0, zR a1, zI a2] [zI s0, zI s1, zR s2] sh pp mm Q ↔ zS 55 56 [zR a0, zR a1, zI a2] [] sh pp (zupd mm s2 s1 s0) Q := s_go cN_learn_55 cN_learn_56 (if_pos ⟨hk, h0, h1, fun h => absurd h (by decide)⟩) rfl
theorem rN_learn_56 {a0 a1 : Nat} {a2 : Int} : zS 55 56 [zR a0, zR a1, zI a2] [] sh pp mm Q ↔ zS 55 57 [zR a0, zR a1, zI a2] [zR a0] sh pp mm Q := s_go cN_learn_56 cN_learn_57 rfl rfl
theorem rN_learn_57 {a0 a1 s0 : Nat} {a2 : Int} : zS 55 57 [zR a0, zR a1, zI a2] [zR s0] sh pp mm Q ↔ zS 55 58 [zR a0, zR a1, zI a2] [zR s0, zR s0] sh pp mm Q := s_go cN_learn_57 cN_learn_58 rfl rfl
theorem rN_learn_58 {a0 a1 s0 s1 : Nat} {a2 : Int} (hk : zKd sh s0 = 6) : zS 55 58 [zR a0, zR a1, zI a2] [zR s0, zR s1] sh pp mm Q ↔ zS 55 61 [zR a0, zR a1, zI a2] [zI (mm s0 0), zR s1] sh pp mm Q := s_go cN_learn_58 cN_learn_61 (if_pos hk) rfl
theorem rN_learn_61 {a0 a1 s1 : Nat} {a2 s0 : Int} : zS 55 61 [zR a0, zR a1, zI a2] [zI s0, zR s1] sh pp mm Q ↔ zS 55 62 [zR a0, zR a1, zI a2] [zR a0, zI s0, zR s1] sh pp mm Q := s_go cN_learn_61 cN_learn_62 rfl rfl
theorem rN_learn_62 {a0 a1 s0 s2 : Nat} {a2 s1 : Int} (hk : zKd sh s0 = 6) : zS 55 62 [zR a0, zR a1, zI a2] [zR s0, zI s1, zR s2] sh pp mm Q ↔ zS 55 65 [zR a0, zR a1, zI a2] [zR (pp s0 6), zI s1, zR s2] sh pp mm Q := s_go cN_learn_62 cN_learn_65 (if_pos hk) rfl
theorem rN_learn_65 {a0 a1 s0 s2 : Nat} {a2 s1 : Int} : zS 55 65 [zR a0, zR a1, zI a2] [zR s0, zI s1, zR s2] sh pp mm Q ↔ zS 55 66 [zR a0, zR a1, zI a2] [zI a2, zR s0, zI s1, zR s2] sh pp mm Q := s_go cN_learn_65 cN_learn_66 rfl rfl
theorem rN_learn_66 {a0 a1 s1 s3 : Nat} {a2 s0 s2 : Int} (hk : zKd sh s1 = 20 ∨ zKd sh s1 = 30) (h0 : 0 ≤ s0) (h1 : s0 < zLn sh s1) : zS 55 66 [zR a0, zR a1, zI a2] [zI s0, zR s1, zI s2, zR s3] sh pp mm Q ↔ zS 55 67 [zR a0, zR a1, zI a2] [zI (mm s1 s0), zI s2, zR s3] sh pp mm Q := s_go cN_learn_66 cN_learn_67 (if_pos ⟨hk, h0, h1⟩) rfl
theorem rN_learn_67 {a0 a1 s2 : Nat} {a2 s0 s1 : Int} : zS 55 67 [zR a0, zR a1, zI a2] [zI s0, zI s1, zR s2] sh pp mm Q ↔ zS 55 68 [zR a0, zR a1, zI a2] [zI (zxor s1 s0), zR s2] sh pp mm Q := s_go cN_learn_67 cN_learn_68 rfl rfl
theorem rN_learn_68 {a0 a1 s1 : Nat} {a2 s0 : Int} (hk : zKd sh s1 = 6) : zS 55 68 [zR a0, zR a1, zI a2] [zI s0, zR s1] sh pp mm Q ↔ zS 55 71 [zR a0, zR a1, zI a2] [] sh pp (zupd mm s1 0 s0) Q := s_go cN_learn_68 cN_learn_71 (if_pos ⟨hk, Or.inl rfl⟩) rfl
theorem rN_learn_71 {a0 a1 : Nat} {a2 : Int} : zS 55 71 [zR a0, zR a1, zI a2] [] sh pp mm Q ↔ zS 55 74 [zR a0, zR a1, zI (zw32 (a2 + 1))] [] sh pp mm Q := s_go cN_learn_71 cN_learn_74 rfl rfl
theorem rN_learn_74 {a0 a1 : Nat} {a2 : Int} : zS 55 74 [zR a0, zR a1, zI a2] [] sh pp mm Q ↔ zS 55 31 [zR a0, zR a1, zI a2] [] sh pp mm Q := s_go cN_learn_74 cN_learn_31 rfl rfl
theorem rN_learn_77 {a0 : Nat} {u1 u2 : zV} : zS 55 77 [zR a0, u1, u2] [] sh pp mm Q ↔ zS 55 78 [zR a0, zU, zU] [zR a0] sh pp mm Q := s_go cN_learn_77 cN_learn_78 rfl rfl
theorem rN_learn_78 {a0 s0 : Nat} {u1 u2 : zV} : zS 55 78 [zR a0, u1, u2] [zR s0] sh pp mm Q ↔ zS 55 79 [zR a0, zU, zU] [zR a0, zR s0] sh pp mm Q := s_go cN_learn_78 cN_learn_79 rfl rfl
theorem rN_learn_79 {a0 s0 s1 : Nat} {u1 u2 : zV} (hk : zKd sh s0 = 6) : zS 55 79 [zR a0, u1, u2] [zR s0, zR s1] sh pp mm Q ↔ zS 55 82 [zR a0, zU, zU] [zI (mm s0 3), zR s1] sh pp mm Q := s_go cN_learn_79 cN_learn_82 (if_pos hk) rfl
theorem rN_learn_82 {a0 s1 : Nat} {s0 : Int} {u1 u2 : zV} : zS 55 82 [zR a0, u1, u2] [zI s0, zR s1] sh pp mm Q ↔ (s0 = 0 → zS 55 102 [zR a0, zU, zU] [zR s1] sh pp mm Q) ∧ (¬ s0 = 0 → zS 55 85 [zR a0, zU, zU] [zR s1] sh pp mm Q) := s_if cN_learn_82 cN_learn_102 cN_learn_85 rfl rfl rfl
theorem rN_learn_85 {a0 s0 : Nat} {u1 u2 : zV} : zS 55 85 [zR a0, u1, u2] [zR s0] sh pp mm Q ↔ zS 55 86 [zR a0, zU, zU] [zR a0, zR s0] sh pp mm Q := s_go cN_learn_85 cN_learn_86 rfl rfl
theorem rN_learn_86 {a0 s0 s1 : Nat} {u1 u2 : zV} : zS 55 86 [zR a0, u1, u2] [zR s0, zR s1] sh pp mm Q ↔ zS 55 87 [zR a0, zU, zU] [zR a0, zR s0, zR s1] sh pp mm Q := s_go cN_learn_86 cN_learn_87 rfl rfl
theorem rN_learn_87 {a0 s0 s1 s2 : Nat} {u1 u2 : zV} (hk : zKd sh s0 = 6) : zS 55 87 [zR a0, u1, u2] [zR s0, zR s1, zR s2] sh pp mm Q ↔ zS 55 90 [zR a0, zU, zU] [zR (pp s0 4), zR s1, zR s2] sh pp mm Q := s_go cN_learn_87 cN_learn_90 (if_pos hk) rfl
theorem rN_learn_90 {a0 s0 s1 s2 : Nat} {u1 u2 : zV} : zS 55 90 [zR a0, u1, u2] [zR s0, zR s1, zR s2] sh pp mm Q ↔ zS 55 91 [zR a0, zU, zU] [zI 0, zR s0, zR s1, zR s2] sh pp mm Q := s_go cN_learn_90 cN_learn_91 rfl rfl
theorem rN_learn_91 {a0 s1 s2 s3 : Nat} {s0 : Int} {u1 u2 : zV} (hk : zKd sh s1 = 20 ∨ zKd sh s1 = 30) (h0 : 0 ≤ s0) (h1 : s0 < zLn sh s1) : zS 55 91 [zR a0, u1, u2] [zI s0, zR s1, zR s2, zR s3] sh pp mm Q ↔ zS 55 92 [zR a0, zU, zU] [zI (mm s1 s0), zR s2, zR s3] sh pp mm Q := s_go cN_learn_91 cN_learn_92 (if_pos ⟨hk, h0, h1⟩) rfl
theorem rN_learn_92 {a0 s1 s2 : Nat} {s0 : Int} {u1 u2 : zV} : zS 55 92 [zR a0, u1, u2] [zI s0, zR s1, zR s2] sh pp mm Q ↔ zS 55 93 [zR a0, zU, zU] [zR a0, zI s0, zR s1, zR s2] sh pp mm Q := s_go cN_learn_92 cN_learn_93 rfl rfl
theorem rN_learn_93 {a0 s0 s2 s3 : Nat} {s1 : Int} {u1 u2 : zV} (hk : zKd sh s0 = 6) : zS 55 93 [zR a0, u1, u2] [zR s0, zI s1, zR s2, zR s3] sh pp mm Q ↔ zS 58 0 [zR s0] [] sh pp mm (fun v sh pp mm => zS 55 96 [zR a0, zU, zU] (zPush v [zI s1, zR s2, zR s3]) sh pp mm Q) := s_call cN_learn_93 cN_learn_96 ((if_pos hk).trans rfl) rfl
theorem rN_learn_96 {a0 s2 s3 : Nat} {s0 s1 : Int} {u1 u2 : zV} (hk : zKd sh s2 = 6) : zS 55 96 [zR a0, u1, u2] [zI s0, zI s1, zR s2, zR s3] sh pp mm Q ↔ zS 60 0 [zR s2, zI s1, zI s0, zU, zU, zU, zU, zU] [] sh pp mm (fun v sh pp mm => zS 55 99 [zR a0, zU, zU] (zPush v [zR s3]) sh pp mm Q) := s_call cN_learn_96 cN_learn_99 ((if_pos hk).trans rfl) rfl
theorem rN_learn_99 {a0 s1 : Nat} {s0 : Int} {u1 u2 : zV} : zS 55 99 [zR a0, u1, u2] [zI s0, zR s1] sh pp mm Q ↔ (s0 = 0 → zS 55 106 [zR a0, zU, zU] [zR s1] sh pp mm Q) ∧ (¬ s0 = 0 → zS 55 102 [zR a0, zU, zU] [zR s1] sh pp mm Q) := s_if cN_learn_99 cN_learn_106 cN_learn_102 rfl rfl rfl
theorem rN_learn_102 {a0 s0 : Nat} {u1 u2 : zV} : zS 55 102 [zR a0, u1, u2] [zR s0] sh pp mm Q ↔ zS 55 103 [zR a0, zU, zU] [zI 1, zR s0] sh pp mm Q := s_go cN_learn_102 cN_learn_103 rfl rfl
theorem rN_learn_103 {a0 s1 : Nat} {s0 : Int} {u1 u2 : zV} : zS 55 103 [zR a0, u1, u2] [zI s0, zR s1] sh pp mm Q ↔ zS 55 107 [zR a0, zU, zU] [zI s0, zR s1] sh pp mm Q := s_go cN_learn_103 cN_learn_107 rfl rfl
theorem rN_learn_106 {a0 s0 : Nat} {u1 u2 : zV} : zS 55 106 [zR a0, u1, u2] [zR s0] sh pp mm Q ↔ zS 55 107 [zR a0, zU, zU] [zI 0, zR s0] sh pp mm Q := s_go cN_learn_106 cN_learn_107 rfl rfl
theorem rN_learn_107 {a0 s1 : Nat} {s0 : Int} {u1 u2 : zV} (hk : zKd sh s1 = 6) (hb : s0 = 0 ∨ s0 = 1) : zS 55 107 [zR a0, u1, u2] [zI s0, zR s1] sh pp mm Q ↔ zS 55 110 [zR a0, zU, zU] [] sh pp (zupd mm s1 1 s0) Q := s_go cN_learn_107 cN_learn_110 (if_pos ⟨hk, Or.inr ⟨rfl, hb⟩⟩) rfl
theorem rN_learn_110 {a0 : Nat} {u1 u2 : zV} : zS 55 110 [zR a0, u1, u2] [] sh pp mm Q ↔ zS 55 111 [zR a0, zU, zU] [zR a0] sh pp mm Q := s_go cN_learn_110 cN_learn_111 rfl rfl
theorem rN_learn_111 {a0 s0 : Nat} {u1 u2 : zV} : zS 55 111 [zR a0, u1, u2] [zR s0] sh pp mm Q ↔ zS 55 112 [zR a0, zU, zU] [zR a0, zR s0] sh pp mm Q := s_go cN_learn_111 cN_learn_112 rfl rfl
theorem rN_learn_112 {a0 s0 s1 : Nat} {u1 u2 : zV} (hk : zKd sh s0 = 6) : zS 55 112 [zR a0, u1, u2] [zR s0, zR s1] sh pp mm Q ↔ zS 55 115 [zR a0, zU, zU] [zI (mm s0 1), zR s1] sh pp mm Q := s_go cN_learn_112 cN_learn_115 (if_pos hk) rfl
theorem rN_learn_115 {a0 s1 : Nat} {s0 : Int} {u1 u2 : zV} : zS 55 115 [zR a0, u1, u2] [zI s0, zR s1] sh pp mm Q ↔ (s0 = 0 → zS 55 133 [zR a0, zU, zU] [zR s1] sh pp mm Q) ∧ (¬ s0 = 0 → zS 55 118 [zR a0, zU, zU] [zR s1] sh pp mm Q) := s_if cN_learn_115 cN_learn_133 cN_learn_118 rfl rfl rfl
theorem rN_learn_118 {a0 s0 : Nat} {u1 u2 : zV} : zS 55 118 [zR a0, u1, u2] [zR s0] sh pp mm Q ↔ zS 55 119 [zR a0, zU, zU] [zR a0, zR s0] sh pp mm Q := s_go cN_learn_118 cN_learn_119 rfl rfl
theorem rN_learn_119 {a0 s0 s1 : Nat} {u1 u2 : zV} (hk : zKd sh s0 = 6) : zS 55 119 [zR a0, u1, u2] [zR s0, zR s1] sh pp mm Q ↔ zS 55 122 [zR a0, zU, zU] [zI (mm s0 0), zR s1] sh pp mm Q := s_go cN_learn_119 cN_learn_122 (if_pos hk) rfl
theorem rN_learn_122 {a0 s1 : Nat} {s0 : Int} {u1 u2 : zV} : zS 55 122 [zR a0, u1, u2] [zI s0, zR s1] sh pp mm Q ↔ zS 256 0 [zI s0] [] sh pp mm (fun v sh pp mm => zS 55 125 [zR a0, zU, zU] (zPush v [zR s1]) sh pp mm Q) := s_call cN_learn_122 cN_learn_125 rfl rfl
theorem rN_learn_125 {a0 s1 : Nat} {s0 : Int} {u1 u2 : zV} : zS 55 125 [zR a0, u1, u2] [zI s0, zR s1] sh pp mm Q ↔ zS 55 126 [zR a0, zU, zU] [zI 2, zI s0, zR s1] sh pp mm Q := s_go cN_learn_125 cN_learn_126 rfl rfl
theorem rN_learn_126 {a0 s2 : Nat} {s0 s1 : Int} {u1 u2 : zV} : zS 55 126 [zR a0, u1, u2] [zI s0, zI s1, zR s2] sh pp mm Q ↔ (s0 < s1 → zS 55 133 [zR a0, zU, zU] [zR s2] sh pp mm Q) ∧ (¬ s0 < s1 → zS 55 129 [zR a0, zU, zU] [zR s2] sh pp mm Q) := s_if cN_learn_126 cN_learn_133 cN_learn_129 rfl rfl rfl
theorem rN_learn_129 {a0 s0 : Nat} {u1 u2 : zV} : zS 55 129 [zR a0, u1, u2] [zR s0] sh pp mm Q ↔ zS 55 130 [zR a0, zU, zU] [zI 1, zR s0] sh pp mm Q := s_go cN_learn_129 cN_learn_130 rfl rfl
theorem rN_learn_130 {a0 s1 : Nat} {s0 : Int} {u1 u2 : zV} : zS 55 130 [zR a0, u1, u2] [zI s0, zR s1] sh pp mm Q ↔ zS 55 134 [zR a0, zU, zU] [zI s0, zR s1] sh pp mm Q := s_go cN_learn_130 cN_learn_134 rfl rfl
theorem rN_learn_133 {a0 s0 : Nat} {u1 u2 : zV} : zS 55 133 [zR a0, u1, u2] [zR s0] sh pp mm Q ↔ zS 55 134 [zR a0, zU, zU] [zI 0, zR s0] sh pp mm Q := s_go cN_learn_133 cN_learn_134 rfl rfl
theorem rN_learn_134 {a0 s1 : Nat} {s0 : Int} {u1 u2 : zV} (hk : zKd sh s1 = 6) (hb : s0 = 0 ∨ s0 = 1) : zS 55 134 [zR a0, u1, u2] [zI s0, zR s1] sh pp mm Q ↔ zS 55 137 [zR a0, zU, zU] [] sh pp (zupd mm s1 2 s0) Q := s_go cN_learn_134 cN_learn_137 (if_pos ⟨hk, Or.inr ⟨rfl, hb⟩⟩) rfl
theorem rN_learn_137 {a0 : Nat} {u1 u2 : zV} : zS 55 137 [zR a0, u1, u2] [] sh pp mm Q ↔ zS 55 138 [zR a0, zU, zU] [zR a0] sh pp mm Q := s_go cN_learn_137 cN_learn_138 rfl rfl
theorem rN_learn_138 {a0 s0 : Nat} {u1 u2 : zV} : zS 55 138 [zR a0, u1, u2] [zR s0] sh pp mm Q ↔ zS 55 139 [zR a0, zU, zU] [zI (-1), zR s0] sh pp mm Q := s_go cN_learn_138 cN_learn_139 rfl rfl
theorem rN_learn_139 {a0 s1 : Nat} {s0 : Int} {u1 u2 : zV} (hk : zKd sh s1 = 6) : zS 55 139 [zR a0, u1, u2] [zI s0, zR s1] sh pp mm Q ↔ zS 55 142 [zR a0, zU, zU] [] sh pp (zupd mm s1 14 s0) Q := s_go cN_learn_139 cN_learn_142 (if_pos ⟨hk, Or.inl rfl⟩) rfl
theorem rN_learn_142 {a0 : Nat} {u1 u2 : zV} : zS 55 142 [zR a0, u1, u2] [] sh pp mm Q ↔ zS 55 143 [zR a0, zU, zU] [zR a0] sh pp mm Q := s_go cN_learn_142 cN_learn_143 rfl rfl
theorem rN_learn_143 {a0 s0 : Nat} {u1 u2 : zV} : zS 55 143 [zR a0, u1, u2] [zR s0] sh pp mm Q ↔ zS 55 144 [zR a0, zU, zU] [zI (-1), zR s0] sh pp mm Q := s_go cN_learn_143 cN_learn_144 rfl rfl
theorem rN_learn_144 {a0 s1 : Nat} {s0 : Int} {u1 u2 : zV} (hk : zKd sh s1 = 6) : zS 55 144 [zR a0, u1, u2] [zI s0, zR s1] sh pp mm Q ↔ zS 55 147 [zR a0, zU, zU] [] sh pp (zupd mm s1 15 s0) Q := s_go cN_learn_144 cN_learn_147 (if_pos ⟨hk, Or.inl rfl⟩) rfl
theorem rN_learn_147 {a0 : Nat} {u1 u2 : zV} : zS 55 147 [zR a0, u1, u2] [] sh pp mm Q ↔ zS 55 148 [zR a0, zU, zU] [zR a0] sh pp mm Q := s_go cN_learn_147 cN_learn_148 rfl rfl
theorem rN_learn_148 {a0 s0 : Nat} {u1 u2 : zV} : zS 55 148 [zR a0, u1, u2] [zR s0] sh pp mm Q ↔ zS 55 149 [zR a0, zU, zU] [zI (-1), zR s0] sh pp mm Q := s_go cN_learn_148 cN_learn_149 rfl rfl
theorem rN_learn_149 {a0 s1 : Nat} {s0 : Int} {u1 u2 : zV} (hk : zKd sh s1 = 6) : zS 55 149 [zR a0, u1, u2] [zI s0, zR s1] sh pp mm Q ↔ zS 55 152 [zR a0, zU, zU] [] sh pp (zupd mm s1 16 s0) Q := s_go cN_learn_149 cN_learn_152 (if_pos ⟨hk, Or.inl rfl⟩) rfl
theorem rN_learn_152 {a0 : Nat} {u1 u2 : zV} : zS 55 152 [zR a0, u1, u2] [] sh pp mm Q ↔ zS 55 153 [zU, zU, zU] [zR a0] sh pp mm Q := s_go cN_learn_152 cN_learn_153 rfl rfl
theorem rN_learn_153 {s0 : Nat} {u0 u1 u2 : zV} : zS 55 153 [u0, u1, u2] [zR s0] sh pp mm Q ↔ zS 55 154 [zU, zU, zU] [zI 1, zR s0] sh pp mm Q := s_go cN_learn_153 cN_learn_154 rfl rfl
theorem rN_learn_154 {s1 : Nat} {s0 : Int} {u0 u1 u2 : zV} (hk : zKd sh s1 = 6) (hb : s0 = 0 ∨ s0 = 1) : zS 55 154 [u0, u1, u2] [zI s0, zR s1] sh pp mm Q ↔ zS 55 157 [zU, zU, zU] [] sh pp (zupd mm s1 10 s0) Q := s_go cN_learn_154 cN_learn_157 (if_pos ⟨hk, Or.inr ⟨rfl, hb⟩⟩) rfl
theorem rN_learn_157 {u0 u1 u2 : zV} : zS 55 157 [u0, u1, u2] [] sh pp mm Q ↔ Q zU sh pp mm := s_ret cN_learn_157 rfl
theorem cAN_learnEdge : ∀ q ∈ zT56, zCode 56 q.1 = some q.2 := zAll (mid := 56) rfl (by decide +kernel)
theorem cAN_learnEdge_0 : ∀ q ∈ zT56_0, zCode 56 q.1 = some q.2 := fun q h => cAN_learnEdge q (List.mem_append_left _ h)
theorem cAN_learnEdge_1 : ∀ q ∈ zT56_1, zCode 56 q.1 = some q.2 := fun q h => cAN_learnEdge q (List.mem_append_right _ (List.mem_append_left _ h))
theorem cAN_learnEdge_2 : ∀ q ∈ zT56_2, zCode 56 q.1 = some q.2 := fun q h => cAN_learnEdge q (List.mem_append_right _ (List.mem_append_right _ (List.mem_append_left _ h)))
theorem cAN_learnEdge_3 : ∀ q ∈ zT56_3, zCode 56 q.1 = some q.2 := fun q h => cAN_learnEdge q (List.mem_append_right _ (List.mem_append_right _ (List.mem_append_right _ (List.mem_append_left _ h))))
theorem cAN_learnEdge_4 : ∀ q ∈ zT56_4, zCode 56 q.1 = some q.2 := fun q h => cAN_learnEdge q (List.mem_append_right _ (List.mem_append_right _ (List.mem_append_right _ (List.mem_append_right _ (List.mem_append_left _ h)))))
theorem cAN_learnEdge_5 : ∀ q ∈ zT56_5, zCode 56 q.1 = some q.2 := fun q h => cAN_learnEdge q (List.mem_append_right _ (List.mem_append_right _ (List.mem_append_right _ (List.mem_append_right _ (List.mem_append_right _ (List.mem_append_left _ h))))))
theorem cAN_learnEdge_6 : ∀ q ∈ zT56_6, zCode 56 q.1 = some q.2 := fun q h => cAN_learnEdge q (List.mem_append_right _ (List.mem_append_right _ (List.mem_append_right _ (List.mem_append_right _ (List.mem_append_right _ (List.mem_append_right _ h))))))
theorem cN_learnEdge_0 : zCode 56 0 = some (.aload_n 2, 1, 0, 0, 0, 0, 7) := cAN_learnEdge_0 _ (List.mem_of_getElem? (i := 0) rfl)
theorem cN_learnEdge_1 : zCode 56 1 = some (.getfield 69, 4, 9, 4, 2, 175, 7) := cAN_learnEdge_0 _ (List.mem_of_getElem? (i := 1) rfl)
theorem cN_learnEdge_4 : zCode 56 4 = some (.iload_n 1, 5, 0, 0, 0, 0, 7) := cAN_learnEdge_0 _ (List.mem_of_getElem? (i := 2) rfl)
theorem cN_learnEdge_5 : zCode 56 5 = some (.iconst 0, 6, 0, 0, 0, 0, 7) := cAN_learnEdge_0 _ (List.mem_of_getElem? (i := 3) rfl)
theorem cN_learnEdge_6 : zCode 56 6 = some (.invokevirtual 106, 9, 97, 2, 4, 10, 7) := cAN_learnEdge_0 _ (List.mem_of_getElem? (i := 4) rfl)
theorem cN_learnEdge_9 : zCode 56 9 = some (.istore_n 3, 10, 0, 0, 0, 0, 7) := cAN_learnEdge_0 _ (List.mem_of_getElem? (i := 5) rfl)
theorem cN_learnEdge_10 : zCode 56 10 = some (.aload_n 2, 11, 0, 0, 0, 0, 15) := cAN_learnEdge_0 _ (List.mem_of_getElem? (i := 6) rfl)
theorem cN_learnEdge_11 : zCode 56 11 = some (.getfield 69, 14, 9, 4, 2, 175, 15) := cAN_learnEdge_0 _ (List.mem_of_getElem? (i := 7) rfl)
theorem cN_learnEdge_14 : zCode 56 14 = some (.iload_n 1, 15, 0, 0, 0, 0, 15) := cAN_learnEdge_0 _ (List.mem_of_getElem? (i := 8) rfl)
theorem cN_learnEdge_15 : zCode 56 15 = some (.iconst 1, 16, 0, 0, 0, 0, 15) := cAN_learnEdge_0 _ (List.mem_of_getElem? (i := 9) rfl)
theorem cN_learnEdge_16 : zCode 56 16 = some (.invokevirtual 106, 19, 97, 2, 4, 10, 15) := cAN_learnEdge_0 _ (List.mem_of_getElem? (i := 10) rfl)
theorem cN_learnEdge_19 : zCode 56 19 = some (.istore 4, 21, 0, 0, 0, 0, 15) := cAN_learnEdge_0 _ (List.mem_of_getElem? (i := 11) rfl)
theorem cN_learnEdge_21 : zCode 56 21 = some (.aload_n 2, 22, 0, 0, 0, 0, 31) := cAN_learnEdge_0 _ (List.mem_of_getElem? (i := 12) rfl)
theorem cN_learnEdge_22 : zCode 56 22 = some (.getfield 109, 25, 9, 3, 2, 172, 31) := cAN_learnEdge_0 _ (List.mem_of_getElem? (i := 13) rfl)
theorem cN_learnEdge_25 : zCode 56 25 = some (.iload 4, 27, 0, 0, 0, 0, 31) := cAN_learnEdge_0 _ (List.mem_of_getElem? (i := 14) rfl)
theorem cN_learnEdge_27 : zCode 56 27 = some (.iconst 0, 28, 0, 0, 0, 0, 31) := cAN_learnEdge_0 _ (List.mem_of_getElem? (i := 15) rfl)
theorem cN_learnEdge_28 : zCode 56 28 = some (.invokevirtual 106, 31, 97, 2, 4, 10, 31) := cAN_learnEdge_1 _ (List.mem_of_getElem? (i := 0) rfl)
theorem cN_learnEdge_31 : zCode 56 31 = some (.aload_n 2, 32, 0, 0, 0, 0, 31) := cAN_learnEdge_1 _ (List.mem_of_getElem? (i := 1) rfl)
theorem cN_learnEdge_32 : zCode 56 32 = some (.getfield 109, 35, 9, 3, 2, 172, 31) := cAN_learnEdge_1 _ (List.mem_of_getElem? (i := 2) rfl)
theorem cN_learnEdge_35 : zCode 56 35 = some (.iload_n 3, 36, 0, 0, 0, 0, 31) := cAN_learnEdge_1 _ (List.mem_of_getElem? (i := 3) rfl)
theorem cN_learnEdge_36 : zCode 56 36 = some (.iconst 0, 37, 0, 0, 0, 0, 31) := cAN_learnEdge_1 _ (List.mem_of_getElem? (i := 4) rfl)
theorem cN_learnEdge_37 : zCode 56 37 = some (.invokevirtual 106, 40, 97, 2, 4, 10, 31) := cAN_learnEdge_1 _ (List.mem_of_getElem? (i := 5) rfl)
theorem cN_learnEdge_40 : zCode 56 40 = some (.isub, 41, 0, 0, 0, 0, 31) := cAN_learnEdge_1 _ (List.mem_of_getElem? (i := 6) rfl)
theorem cN_learnEdge_41 : zCode 56 41 = some (.istore 5, 43, 0, 0, 0, 0, 31) := cAN_learnEdge_1 _ (List.mem_of_getElem? (i := 7) rfl)
theorem cN_learnEdge_43 : zCode 56 43 = some (.aload_n 2, 44, 0, 0, 0, 0, 63) := cAN_learnEdge_1 _ (List.mem_of_getElem? (i := 8) rfl)
theorem cN_learnEdge_44 : zCode 56 44 = some (.getfield 109, 47, 9, 3, 2, 172, 63) := cAN_learnEdge_1 _ (List.mem_of_getElem? (i := 9) rfl)
theorem cN_learnEdge_47 : zCode 56 47 = some (.iload 4, 49, 0, 0, 0, 0, 63) := cAN_learnEdge_1 _ (List.mem_of_getElem? (i := 10) rfl)
theorem cN_learnEdge_49 : zCode 56 49 = some (.iconst 1, 50, 0, 0, 0, 0, 63) := cAN_learnEdge_1 _ (List.mem_of_getElem? (i := 11) rfl)
theorem cN_learnEdge_50 : zCode 56 50 = some (.invokevirtual 106, 53, 97, 2, 4, 10, 63) := cAN_learnEdge_1 _ (List.mem_of_getElem? (i := 12) rfl)
theorem cN_learnEdge_53 : zCode 56 53 = some (.aload_n 2, 54, 0, 0, 0, 0, 63) := cAN_learnEdge_1 _ (List.mem_of_getElem? (i := 13) rfl)
theorem cN_learnEdge_54 : zCode 56 54 = some (.getfield 109, 57, 9, 3, 2, 172, 63) := cAN_learnEdge_1 _ (List.mem_of_getElem? (i := 14) rfl)
theorem cN_learnEdge_57 : zCode 56 57 = some (.iload_n 3, 58, 0, 0, 0, 0, 63) := cAN_learnEdge_1 _ (List.mem_of_getElem? (i := 15) rfl)
theorem cN_learnEdge_58 : zCode 56 58 = some (.iconst 1, 59, 0, 0, 0, 0, 63) := cAN_learnEdge_2 _ (List.mem_of_getElem? (i := 0) rfl)
theorem cN_learnEdge_59 : zCode 56 59 = some (.invokevirtual 106, 62, 97, 2, 4, 10, 63) := cAN_learnEdge_2 _ (List.mem_of_getElem? (i := 1) rfl)
theorem cN_learnEdge_62 : zCode 56 62 = some (.isub, 63, 0, 0, 0, 0, 63) := cAN_learnEdge_2 _ (List.mem_of_getElem? (i := 2) rfl)
theorem cN_learnEdge_63 : zCode 56 63 = some (.istore 6, 65, 0, 0, 0, 0, 63) := cAN_learnEdge_2 _ (List.mem_of_getElem? (i := 3) rfl)
theorem cN_learnEdge_65 : zCode 56 65 = some (.aload_n 2, 66, 0, 0, 0, 0, 127) := cAN_learnEdge_2 _ (List.mem_of_getElem? (i := 4) rfl)
theorem cN_learnEdge_66 : zCode 56 66 = some (.getfield 69, 69, 9, 4, 2, 175, 127) := cAN_learnEdge_2 _ (List.mem_of_getElem? (i := 5) rfl)
theorem cN_learnEdge_69 : zCode 56 69 = some (.iload_n 1, 70, 0, 0, 0, 0, 127) := cAN_learnEdge_2 _ (List.mem_of_getElem? (i := 6) rfl)
theorem cN_learnEdge_70 : zCode 56 70 = some (.iconst 2, 71, 0, 0, 0, 0, 127) := cAN_learnEdge_2 _ (List.mem_of_getElem? (i := 7) rfl)
theorem cN_learnEdge_71 : zCode 56 71 = some (.invokevirtual 106, 74, 97, 2, 4, 10, 127) := cAN_learnEdge_2 _ (List.mem_of_getElem? (i := 8) rfl)
theorem cN_learnEdge_74 : zCode 56 74 = some (.iconst 1, 75, 0, 0, 0, 0, 127) := cAN_learnEdge_2 _ (List.mem_of_getElem? (i := 9) rfl)
theorem cN_learnEdge_75 : zCode 56 75 = some (.if_icmp .ne 13, 78, 88, 0, 0, 0, 127) := cAN_learnEdge_2 _ (List.mem_of_getElem? (i := 10) rfl)
theorem cN_learnEdge_78 : zCode 56 78 = some (.aload_n 2, 79, 0, 0, 0, 0, 127) := cAN_learnEdge_2 _ (List.mem_of_getElem? (i := 11) rfl)
theorem cN_learnEdge_79 : zCode 56 79 = some (.getfield 112, 82, 9, 0, 2, 166, 123) := cAN_learnEdge_2 _ (List.mem_of_getElem? (i := 12) rfl)
theorem cN_learnEdge_82 : zCode 56 82 = some (.bipush 7, 84, 0, 0, 0, 0, 123) := cAN_learnEdge_2 _ (List.mem_of_getElem? (i := 13) rfl)
theorem cN_learnEdge_84 : zCode 56 84 = some (.iaload, 85, 0, 0, 0, 0, 123) := cAN_learnEdge_2 _ (List.mem_of_getElem? (i := 14) rfl)
theorem cN_learnEdge_85 : zCode 56 85 = some (.goto 5, 88, 90, 0, 0, 0, 123) := cAN_learnEdge_2 _ (List.mem_of_getElem? (i := 15) rfl)
theorem cN_learnEdge_88 : zCode 56 88 = some (.bipush 10, 90, 0, 0, 0, 0, 123) := cAN_learnEdge_3 _ (List.mem_of_getElem? (i := 0) rfl)
theorem cN_learnEdge_90 : zCode 56 90 = some (.istore 7, 92, 0, 0, 0, 0, 123) := cAN_learnEdge_3 _ (List.mem_of_getElem? (i := 1) rfl)
theorem cN_learnEdge_92 : zCode 56 92 = some (.aload_n 0, 93, 0, 0, 0, 0, 251) := cAN_learnEdge_3 _ (List.mem_of_getElem? (i := 2) rfl)
theorem cN_learnEdge_93 : zCode 56 93 = some (.getfield 25, 96, 6, 4, 2, 219, 251) := cAN_learnEdge_3 _ (List.mem_of_getElem? (i := 3) rfl)
theorem cN_learnEdge_96 : zCode 56 96 = some (.iload_n 1, 97, 0, 0, 0, 0, 251) := cAN_learnEdge_3 _ (List.mem_of_getElem? (i := 4) rfl)
theorem cN_learnEdge_97 : zCode 56 97 = some (.iload_n 3, 98, 0, 0, 0, 0, 251) := cAN_learnEdge_3 _ (List.mem_of_getElem? (i := 5) rfl)
theorem cN_learnEdge_98 : zCode 56 98 = some (.iastore, 99, 0, 0, 0, 0, 251) := cAN_learnEdge_3 _ (List.mem_of_getElem? (i := 6) rfl)
theorem cN_learnEdge_99 : zCode 56 99 = some (.aload_n 0, 100, 0, 0, 0, 0, 251) := cAN_learnEdge_3 _ (List.mem_of_getElem? (i := 7) rfl)
theorem cN_learnEdge_100 : zCode 56 100 = some (.getfield 29, 103, 6, 5, 2, 221, 251) := cAN_learnEdge_3 _ (List.mem_of_getElem? (i := 8) rfl)
theorem cN_learnEdge_103 : zCode 56 103 = some (.iload_n 1, 104, 0, 0, 0, 0, 251) := cAN_learnEdge_3 _ (List.mem_of_getElem? (i := 9) rfl)
theorem cN_learnEdge_104 : zCode 56 104 = some (.iload 4, 106, 0, 0, 0, 0, 251) := cAN_learnEdge_3 _ (List.mem_of_getElem? (i := 10) rfl)
theorem cN_learnEdge_106 : zCode 56 106 = some (.iastore, 107, 0, 0, 0, 0, 251) := cAN_learnEdge_3 _ (List.mem_of_getElem? (i := 11) rfl)
theorem cN_learnEdge_107 : zCode 56 107 = some (.aload_n 0, 108, 0, 0, 0, 0, 251) := cAN_learnEdge_3 _ (List.mem_of_getElem? (i := 12) rfl)
theorem cN_learnEdge_108 : zCode 56 108 = some (.getfield 32, 111, 6, 6, 2, 222, 251) := cAN_learnEdge_3 _ (List.mem_of_getElem? (i := 13) rfl)
theorem cN_learnEdge_111 : zCode 56 111 = some (.iload_n 1, 112, 0, 0, 0, 0, 251) := cAN_learnEdge_3 _ (List.mem_of_getElem? (i := 14) rfl)
theorem cN_learnEdge_112 : zCode 56 112 = some (.iconst 1, 113, 0, 0, 0, 0, 251) := cAN_learnEdge_3 _ (List.mem_of_getElem? (i := 15) rfl)
theorem cN_learnEdge_113 : zCode 56 113 = some (.iload_n 3, 114, 0, 0, 0, 0, 251) := cAN_learnEdge_4 _ (List.mem_of_getElem? (i := 0) rfl)
theorem cN_learnEdge_114 : zCode 56 114 = some (.ishl, 115, 0, 0, 0, 0, 243) := cAN_learnEdge_4 _ (List.mem_of_getElem? (i := 1) rfl)
theorem cN_learnEdge_115 : zCode 56 115 = some (.iconst 1, 116, 0, 0, 0, 0, 243) := cAN_learnEdge_4 _ (List.mem_of_getElem? (i := 2) rfl)
theorem cN_learnEdge_116 : zCode 56 116 = some (.iload 4, 118, 0, 0, 0, 0, 243) := cAN_learnEdge_4 _ (List.mem_of_getElem? (i := 3) rfl)
theorem cN_learnEdge_118 : zCode 56 118 = some (.ishl, 119, 0, 0, 0, 0, 227) := cAN_learnEdge_4 _ (List.mem_of_getElem? (i := 4) rfl)
theorem cN_learnEdge_119 : zCode 56 119 = some (.ior, 120, 0, 0, 0, 0, 227) := cAN_learnEdge_4 _ (List.mem_of_getElem? (i := 5) rfl)
theorem cN_learnEdge_120 : zCode 56 120 = some (.iastore, 121, 0, 0, 0, 0, 227) := cAN_learnEdge_4 _ (List.mem_of_getElem? (i := 6) rfl)
theorem cN_learnEdge_121 : zCode 56 121 = some (.aload_n 0, 122, 0, 0, 0, 0, 227) := cAN_learnEdge_4 _ (List.mem_of_getElem? (i := 7) rfl)
theorem cN_learnEdge_122 : zCode 56 122 = some (.getfield 35, 125, 6, 7, 2, 224, 227) := cAN_learnEdge_4 _ (List.mem_of_getElem? (i := 8) rfl)
theorem cN_learnEdge_125 : zCode 56 125 = some (.iload_n 1, 126, 0, 0, 0, 0, 227) := cAN_learnEdge_4 _ (List.mem_of_getElem? (i := 9) rfl)
theorem cN_learnEdge_126 : zCode 56 126 = some (.iload 5, 128, 0, 0, 0, 0, 227) := cAN_learnEdge_4 _ (List.mem_of_getElem? (i := 10) rfl)
theorem cN_learnEdge_128 : zCode 56 128 = some (.iconst 0, 129, 0, 0, 0, 0, 227) := cAN_learnEdge_4 _ (List.mem_of_getElem? (i := 11) rfl)
theorem cN_learnEdge_129 : zCode 56 129 = some (.invokestatic 115, 132, 255, 2, 2, 14, 227) := cAN_learnEdge_4 _ (List.mem_of_getElem? (i := 12) rfl)
theorem cN_learnEdge_132 : zCode 56 132 = some (.iastore, 133, 0, 0, 0, 0, 227) := cAN_learnEdge_4 _ (List.mem_of_getElem? (i := 13) rfl)
theorem cN_learnEdge_133 : zCode 56 133 = some (.aload_n 0, 134, 0, 0, 0, 0, 227) := cAN_learnEdge_4 _ (List.mem_of_getElem? (i := 14) rfl)
theorem cN_learnEdge_134 : zCode 56 134 = some (.getfield 38, 137, 6, 8, 2, 226, 227) := cAN_learnEdge_4 _ (List.mem_of_getElem? (i := 15) rfl)
theorem cN_learnEdge_137 : zCode 56 137 = some (.iload_n 1, 138, 0, 0, 0, 0, 227) := cAN_learnEdge_5 _ (List.mem_of_getElem? (i := 0) rfl)
theorem cN_learnEdge_138 : zCode 56 138 = some (.iload 6, 140, 0, 0, 0, 0, 227) := cAN_learnEdge_5 _ (List.mem_of_getElem? (i := 1) rfl)
theorem cN_learnEdge_140 : zCode 56 140 = some (.iconst 0, 141, 0, 0, 0, 0, 227) := cAN_learnEdge_5 _ (List.mem_of_getElem? (i := 2) rfl)
theorem cN_learnEdge_141 : zCode 56 141 = some (.invokestatic 115, 144, 255, 2, 2, 14, 227) := cAN_learnEdge_5 _ (List.mem_of_getElem? (i := 3) rfl)
theorem cN_learnEdge_144 : zCode 56 144 = some (.iastore, 145, 0, 0, 0, 0, 227) := cAN_learnEdge_5 _ (List.mem_of_getElem? (i := 4) rfl)
theorem cN_learnEdge_145 : zCode 56 145 = some (.aload_n 0, 146, 0, 0, 0, 0, 227) := cAN_learnEdge_5 _ (List.mem_of_getElem? (i := 5) rfl)
theorem cN_learnEdge_146 : zCode 56 146 = some (.getfield 47, 149, 6, 11, 2, 231, 226) := cAN_learnEdge_5 _ (List.mem_of_getElem? (i := 6) rfl)
theorem cN_learnEdge_149 : zCode 56 149 = some (.iload_n 1, 150, 0, 0, 0, 0, 226) := cAN_learnEdge_5 _ (List.mem_of_getElem? (i := 7) rfl)
theorem cN_learnEdge_150 : zCode 56 150 = some (.iload 5, 152, 0, 0, 0, 0, 224) := cAN_learnEdge_5 _ (List.mem_of_getElem? (i := 8) rfl)
theorem cN_learnEdge_152 : zCode 56 152 = some (.invokestatic 118, 155, 258, 1, 1, 15, 192) := cAN_learnEdge_5 _ (List.mem_of_getElem? (i := 9) rfl)
theorem cN_learnEdge_155 : zCode 56 155 = some (.iload 6, 157, 0, 0, 0, 0, 192) := cAN_learnEdge_5 _ (List.mem_of_getElem? (i := 10) rfl)
theorem cN_learnEdge_157 : zCode 56 157 = some (.invokestatic 118, 160, 258, 1, 1, 15, 128) := cAN_learnEdge_5 _ (List.mem_of_getElem? (i := 11) rfl)
theorem cN_learnEdge_160 : zCode 56 160 = some (.invokestatic 121, 163, 259, 2, 2, 15, 128) := cAN_learnEdge_5 _ (List.mem_of_getElem? (i := 12) rfl)
theorem cN_learnEdge_163 : zCode 56 163 = some (.iload 7, 165, 0, 0, 0, 0, 128) := cAN_learnEdge_5 _ (List.mem_of_getElem? (i := 13) rfl)
theorem cN_learnEdge_165 : zCode 56 165 = some (.imul, 166, 0, 0, 0, 0, 0) := cAN_learnEdge_5 _ (List.mem_of_getElem? (i := 14) rfl)
theorem cN_learnEdge_166 : zCode 56 166 = some (.iastore, 167, 0, 0, 0, 0, 0) := cAN_learnEdge_5 _ (List.mem_of_getElem? (i := 15) rfl)
theorem cN_learnEdge_167 : zCode 56 167 = some (.return_, 168, 0, 0, 0, 0, 0) := cAN_learnEdge_6 _ (List.mem_of_getElem? (i := 0) rfl)
theorem rN_learnEdge_0 {a0 a2 : Nat} {a1 : Int} {u3 u4 u5 u6 u7 : zV} : zS 56 0 [zR a0, zI a1, zR a2, u3, u4, u5, u6, u7] [] sh pp mm Q ↔ zS 56 1 [zR a0, zI a1, zR a2, zU, zU, zU, zU, zU] [zR a2] sh pp mm Q := s_go cN_learnEdge_0 cN_learnEdge_1 rfl rfl
theorem rN_learnEdge_1 {a0 a2 s0 : Nat} {a1 : Int} {u3 u4 u5 u6 u7 : zV} (hk : zKd sh s0 = 9) : zS 56 1 [zR a0, zI a1, zR a2, u3, u4, u5, u6, u7] [zR s0] sh pp mm Q ↔ zS 56 4 [zR a0, zI a1, zR a2, zU, zU, zU, zU, zU] [zR (pp s0 4)] sh pp mm Q := s_go cN_learnEdge_1 cN_learnEdge_4 (if_pos hk) rfl
theorem rN_learnEdge_4 {a0 a2 s0 : Nat} {a1 : Int} {u3 u4 u5 u6 u7 : zV} : zS 56 4 [zR a0, zI a1, zR a2, u3, u4, u5, u6, u7] [zR s0] sh pp mm Q ↔ zS 56 5 [zR a0, zI a1, zR a2, zU, zU, zU, zU, zU] [zI a1, zR s0] sh pp mm Q := s_go cN_learnEdge_4 cN_learnEdge_5 rfl rfl
theorem rN_learnEdge_5 {a0 a2 s1 : Nat} {a1 s0 : Int} {u3 u4 u5 u6 u7 : zV} : zS 56 5 [zR a0, zI a1, zR a2, u3, u4, u5, u6, u7] [zI s0, zR s1] sh pp mm Q ↔ zS 56 6 [zR a0, zI a1, zR a2, zU, zU, zU, zU, zU] [zI 0, zI s0, zR s1] sh pp mm Q := s_go cN_learnEdge_5 cN_learnEdge_6 rfl rfl
theorem rN_learnEdge_6 {a0 a2 s2 : Nat} {a1 s0 s1 : Int} {u3 u4 u5 u6 u7 : zV} (hk : zKd sh s2 = 10) : zS 56 6 [zR a0, zI a1, zR a2, u3, u4, u5, u6, u7] [zI s0, zI s1, zR s2] sh pp mm Q ↔ zS 97 0 [zR s2, zI s1, zI s0, zU] [] sh pp mm (fun v sh pp mm => zS 56 9 [zR a0, zI a1, zR a2, zU, zU, zU, zU, zU] (zPush v []) sh pp mm Q) := s_call cN_learnEdge_6 cN_learnEdge_9 ((if_pos hk).trans rfl) rfl
theorem rN_learnEdge_9 {a0 a2 : Nat} {a1 s0 : Int} {u3 u4 u5 u6 u7 : zV} : zS 56 9 [zR a0, zI a1, zR a2, u3, u4, u5, u6, u7] [zI s0] sh pp mm Q ↔ zS 56 10 [zR a0, zI a1, zR a2, zI s0, zU, zU, zU, zU] [] sh pp mm Q := s_go cN_learnEdge_9 cN_learnEdge_10 rfl rfl
theorem rN_learnEdge_10 {a0 a2 : Nat} {a1 a3 : Int} {u4 u5 u6 u7 : zV} : zS 56 10 [zR a0, zI a1, zR a2, zI a3, u4, u5, u6, u7] [] sh pp mm Q ↔ zS 56 11 [zR a0, zI a1, zR a2, zI a3, zU, zU, zU, zU] [zR a2] sh pp mm Q := s_go cN_learnEdge_10 cN_learnEdge_11 rfl rfl
theorem rN_learnEdge_11 {a0 a2 s0 : Nat} {a1 a3 : Int} {u4 u5 u6 u7 : zV} (hk : zKd sh s0 = 9) : zS 56 11 [zR a0, zI a1, zR a2, zI a3, u4, u5, u6, u7] [zR s0] sh pp mm Q ↔ zS 56 14 [zR a0, zI a1, zR a2, zI a3, zU, zU, zU, zU] [zR (pp s0 4)] sh pp mm Q := s_go cN_learnEdge_11 cN_learnEdge_14 (if_pos hk) rfl
theorem rN_learnEdge_14 {a0 a2 s0 : Nat} {a1 a3 : Int} {u4 u5 u6 u7 : zV} : zS 56 14 [zR a0, zI a1, zR a2, zI a3, u4, u5, u6, u7] [zR s0] sh pp mm Q ↔ zS 56 15 [zR a0, zI a1, zR a2, zI a3, zU, zU, zU, zU] [zI a1, zR s0] sh pp mm Q := s_go cN_learnEdge_14 cN_learnEdge_15 rfl rfl
theorem rN_learnEdge_15 {a0 a2 s1 : Nat} {a1 a3 s0 : Int} {u4 u5 u6 u7 : zV} : zS 56 15 [zR a0, zI a1, zR a2, zI a3, u4, u5, u6, u7] [zI s0, zR s1] sh pp mm Q ↔ zS 56 16 [zR a0, zI a1, zR a2, zI a3, zU, zU, zU, zU] [zI 1, zI s0, zR s1] sh pp mm Q := s_go cN_learnEdge_15 cN_learnEdge_16 rfl rfl
theorem rN_learnEdge_16 {a0 a2 s2 : Nat} {a1 a3 s0 s1 : Int} {u4 u5 u6 u7 : zV} (hk : zKd sh s2 = 10) : zS 56 16 [zR a0, zI a1, zR a2, zI a3, u4, u5, u6, u7] [zI s0, zI s1, zR s2] sh pp mm Q ↔ zS 97 0 [zR s2, zI s1, zI s0, zU] [] sh pp mm (fun v sh pp mm => zS 56 19 [zR a0, zI a1, zR a2, zI a3, zU, zU, zU, zU] (zPush v []) sh pp mm Q) := s_call cN_learnEdge_16 cN_learnEdge_19 ((if_pos hk).trans rfl) rfl
theorem rN_learnEdge_19 {a0 a2 : Nat} {a1 a3 s0 : Int} {u4 u5 u6 u7 : zV} : zS 56 19 [zR a0, zI a1, zR a2, zI a3, u4, u5, u6, u7] [zI s0] sh pp mm Q ↔ zS 56 21 [zR a0, zI a1, zR a2, zI a3, zI s0, zU, zU, zU] [] sh pp mm Q := s_go cN_learnEdge_19 cN_learnEdge_21 rfl rfl
theorem rN_learnEdge_21 {a0 a2 : Nat} {a1 a3 a4 : Int} {u5 u6 u7 : zV} : zS 56 21 [zR a0, zI a1, zR a2, zI a3, zI a4, u5, u6, u7] [] sh pp mm Q ↔ zS 56 22 [zR a0, zI a1, zR a2, zI a3, zI a4, zU, zU, zU] [zR a2] sh pp mm Q := s_go cN_learnEdge_21 cN_learnEdge_22 rfl rfl
theorem rN_learnEdge_22 {a0 a2 s0 : Nat} {a1 a3 a4 : Int} {u5 u6 u7 : zV} (hk : zKd sh s0 = 9) : zS 56 22 [zR a0, zI a1, zR a2, zI a3, zI a4, u5, u6, u7] [zR s0] sh pp mm Q ↔ zS 56 25 [zR a0, zI a1, zR a2, zI a3, zI a4, zU, zU, zU] [zR (pp s0 3)] sh pp mm Q := s_go cN_learnEdge_22 cN_learnEdge_25 (if_pos hk) rfl
theorem rN_learnEdge_25 {a0 a2 s0 : Nat} {a1 a3 a4 : Int} {u5 u6 u7 : zV} : zS 56 25 [zR a0, zI a1, zR a2, zI a3, zI a4, u5, u6, u7] [zR s0] sh pp mm Q ↔ zS 56 27 [zR a0, zI a1, zR a2, zI a3, zI a4, zU, zU, zU] [zI a4, zR s0] sh pp mm Q := s_go cN_learnEdge_25 cN_learnEdge_27 rfl rfl
theorem rN_learnEdge_27 {a0 a2 s1 : Nat} {a1 a3 a4 s0 : Int} {u5 u6 u7 : zV} : zS 56 27 [zR a0, zI a1, zR a2, zI a3, zI a4, u5, u6, u7] [zI s0, zR s1] sh pp mm Q ↔ zS 56 28 [zR a0, zI a1, zR a2, zI a3, zI a4, zU, zU, zU] [zI 0, zI s0, zR s1] sh pp mm Q := s_go cN_learnEdge_27 cN_learnEdge_28 rfl rfl
theorem rN_learnEdge_28 {a0 a2 s2 : Nat} {a1 a3 a4 s0 s1 : Int} {u5 u6 u7 : zV} (hk : zKd sh s2 = 10) : zS 56 28 [zR a0, zI a1, zR a2, zI a3, zI a4, u5, u6, u7] [zI s0, zI s1, zR s2] sh pp mm Q ↔ zS 97 0 [zR s2, zI s1, zI s0, zU] [] sh pp mm (fun v sh pp mm => zS 56 31 [zR a0, zI a1, zR a2, zI a3, zI a4, zU, zU, zU] (zPush v []) sh pp mm Q) := s_call cN_learnEdge_28 cN_learnEdge_31 ((if_pos hk).trans rfl) rfl
theorem rN_learnEdge_31 {a0 a2 : Nat} {a1 a3 a4 s0 : Int} {u5 u6 u7 : zV} : zS 56 31 [zR a0, zI a1, zR a2, zI a3, zI a4, u5, u6, u7] [zI s0] sh pp mm Q ↔ zS 56 32 [zR a0, zI a1, zR a2, zI a3, zI a4, zU, zU, zU] [zR a2, zI s0] sh pp mm Q := s_go cN_learnEdge_31 cN_learnEdge_32 rfl rfl
theorem rN_learnEdge_32 {a0 a2 s0 : Nat} {a1 a3 a4 s1 : Int} {u5 u6 u7 : zV} (hk : zKd sh s0 = 9) : zS 56 32 [zR a0, zI a1, zR a2, zI a3, zI a4, u5, u6, u7] [zR s0, zI s1] sh pp mm Q ↔ zS 56 35 [zR a0, zI a1, zR a2, zI a3, zI a4, zU, zU, zU] [zR (pp s0 3), zI s1] sh pp mm Q := s_go cN_learnEdge_32 cN_learnEdge_35 (if_pos hk) rfl
theorem rN_learnEdge_35 {a0 a2 s0 : Nat} {a1 a3 a4 s1 : Int} {u5 u6 u7 : zV} : zS 56 35 [zR a0, zI a1, zR a2, zI a3, zI a4, u5, u6, u7] [zR s0, zI s1] sh pp mm Q ↔ zS 56 36 [zR a0, zI a1, zR a2, zI a3, zI a4, zU, zU, zU] [zI a3, zR s0, zI s1] sh pp mm Q := s_go cN_learnEdge_35 cN_learnEdge_36 rfl rfl
theorem rN_learnEdge_36 {a0 a2 s1 : Nat} {a1 a3 a4 s0 s2 : Int} {u5 u6 u7 : zV} : zS 56 36 [zR a0, zI a1, zR a2, zI a3, zI a4, u5, u6, u7] [zI s0, zR s1, zI s2] sh pp mm Q ↔ zS 56 37 [zR a0, zI a1, zR a2, zI a3, zI a4, zU, zU, zU] [zI 0, zI s0, zR s1, zI s2] sh pp mm Q := s_go cN_learnEdge_36 cN_learnEdge_37 rfl rfl
theorem rN_learnEdge_37 {a0 a2 s2 : Nat} {a1 a3 a4 s0 s1 s3 : Int} {u5 u6 u7 : zV} (hk : zKd sh s2 = 10) : zS 56 37 [zR a0, zI a1, zR a2, zI a3, zI a4, u5, u6, u7] [zI s0, zI s1, zR s2, zI s3] sh pp mm Q ↔ zS 97 0 [zR s2, zI s1, zI s0, zU] [] sh pp mm (fun v sh pp mm => zS 56 40 [zR a0, zI a1, zR a2, zI a3, zI a4, zU, zU, zU] (zPush v [zI s3]) sh pp mm Q) := s_call cN_learnEdge_37 cN_learnEdge_40 ((if_pos hk).trans rfl) rfl
theorem rN_learnEdge_40 {a0 a2 : Nat} {a1 a3 a4 s0 s1 : Int} {u5 u6 u7 : zV} : zS 56 40 [zR a0, zI a1, zR a2, zI a3, zI a4, u5, u6, u7] [zI s0, zI s1] sh pp mm Q ↔ zS 56 41 [zR a0, zI a1, zR a2, zI a3, zI a4, zU, zU, zU] [zI (zw32 (s1 - s0))] sh pp mm Q := s_go cN_learnEdge_40 cN_learnEdge_41 rfl rfl
theorem rN_learnEdge_41 {a0 a2 : Nat} {a1 a3 a4 s0 : Int} {u5 u6 u7 : zV} : zS 56 41 [zR a0, zI a1, zR a2, zI a3, zI a4, u5, u6, u7] [zI s0] sh pp mm Q ↔ zS 56 43 [zR a0, zI a1, zR a2, zI a3, zI a4, zI s0, zU, zU] [] sh pp mm Q := s_go cN_learnEdge_41 cN_learnEdge_43 rfl rfl
theorem rN_learnEdge_43 {a0 a2 : Nat} {a1 a3 a4 a5 : Int} {u6 u7 : zV} : zS 56 43 [zR a0, zI a1, zR a2, zI a3, zI a4, zI a5, u6, u7] [] sh pp mm Q ↔ zS 56 44 [zR a0, zI a1, zR a2, zI a3, zI a4, zI a5, zU, zU] [zR a2] sh pp mm Q := s_go cN_learnEdge_43 cN_learnEdge_44 rfl rfl
theorem rN_learnEdge_44 {a0 a2 s0 : Nat} {a1 a3 a4 a5 : Int} {u6 u7 : zV} (hk : zKd sh s0 = 9) : zS 56 44 [zR a0, zI a1, zR a2, zI a3, zI a4, zI a5, u6, u7] [zR s0] sh pp mm Q ↔ zS 56 47 [zR a0, zI a1, zR a2, zI a3, zI a4, zI a5, zU, zU] [zR (pp s0 3)] sh pp mm Q := s_go cN_learnEdge_44 cN_learnEdge_47 (if_pos hk) rfl
theorem rN_learnEdge_47 {a0 a2 s0 : Nat} {a1 a3 a4 a5 : Int} {u6 u7 : zV} : zS 56 47 [zR a0, zI a1, zR a2, zI a3, zI a4, zI a5, u6, u7] [zR s0] sh pp mm Q ↔ zS 56 49 [zR a0, zI a1, zR a2, zI a3, zI a4, zI a5, zU, zU] [zI a4, zR s0] sh pp mm Q := s_go cN_learnEdge_47 cN_learnEdge_49 rfl rfl
theorem rN_learnEdge_49 {a0 a2 s1 : Nat} {a1 a3 a4 a5 s0 : Int} {u6 u7 : zV} : zS 56 49 [zR a0, zI a1, zR a2, zI a3, zI a4, zI a5, u6, u7] [zI s0, zR s1] sh pp mm Q ↔ zS 56 50 [zR a0, zI a1, zR a2, zI a3, zI a4, zI a5, zU, zU] [zI 1, zI s0, zR s1] sh pp mm Q := s_go cN_learnEdge_49 cN_learnEdge_50 rfl rfl
theorem rN_learnEdge_50 {a0 a2 s2 : Nat} {a1 a3 a4 a5 s0 s1 : Int} {u6 u7 : zV} (hk : zKd sh s2 = 10) : zS 56 50 [zR a0, zI a1, zR a2, zI a3, zI a4, zI a5, u6, u7] [zI s0, zI s1, zR s2] sh pp mm Q ↔ zS 97 0 [zR s2, zI s1, zI s0, zU] [] sh pp mm (fun v sh pp mm => zS 56 53 [zR a0, zI a1, zR a2, zI a3, zI a4, zI a5, zU, zU] (zPush v []) sh pp mm Q) := s_call cN_learnEdge_50 cN_learnEdge_53 ((if_pos hk).trans rfl) rfl
theorem rN_learnEdge_53 {a0 a2 : Nat} {a1 a3 a4 a5 s0 : Int} {u6 u7 : zV} : zS 56 53 [zR a0, zI a1, zR a2, zI a3, zI a4, zI a5, u6, u7] [zI s0] sh pp mm Q ↔ zS 56 54 [zR a0, zI a1, zR a2, zI a3, zI a4, zI a5, zU, zU] [zR a2, zI s0] sh pp mm Q := s_go cN_learnEdge_53 cN_learnEdge_54 rfl rfl
theorem rN_learnEdge_54 {a0 a2 s0 : Nat} {a1 a3 a4 a5 s1 : Int} {u6 u7 : zV} (hk : zKd sh s0 = 9) : zS 56 54 [zR a0, zI a1, zR a2, zI a3, zI a4, zI a5, u6, u7] [zR s0, zI s1] sh pp mm Q ↔ zS 56 57 [zR a0, zI a1, zR a2, zI a3, zI a4, zI a5, zU, zU] [zR (pp s0 3), zI s1] sh pp mm Q := s_go cN_learnEdge_54 cN_learnEdge_57 (if_pos hk) rfl
theorem rN_learnEdge_57 {a0 a2 s0 : Nat} {a1 a3 a4 a5 s1 : Int} {u6 u7 : zV} : zS 56 57 [zR a0, zI a1, zR a2, zI a3, zI a4, zI a5, u6, u7] [zR s0, zI s1] sh pp mm Q ↔ zS 56 58 [zR a0, zI a1, zR a2, zI a3, zI a4, zI a5, zU, zU] [zI a3, zR s0, zI s1] sh pp mm Q := s_go cN_learnEdge_57 cN_learnEdge_58 rfl rfl
theorem rN_learnEdge_58 {a0 a2 s1 : Nat} {a1 a3 a4 a5 s0 s2 : Int} {u6 u7 : zV} : zS 56 58 [zR a0, zI a1, zR a2, zI a3, zI a4, zI a5, u6, u7] [zI s0, zR s1, zI s2] sh pp mm Q ↔ zS 56 59 [zR a0, zI a1, zR a2, zI a3, zI a4, zI a5, zU, zU] [zI 1, zI s0, zR s1, zI s2] sh pp mm Q := s_go cN_learnEdge_58 cN_learnEdge_59 rfl rfl
theorem rN_learnEdge_59 {a0 a2 s2 : Nat} {a1 a3 a4 a5 s0 s1 s3 : Int} {u6 u7 : zV} (hk : zKd sh s2 = 10) : zS 56 59 [zR a0, zI a1, zR a2, zI a3, zI a4, zI a5, u6, u7] [zI s0, zI s1, zR s2, zI s3] sh pp mm Q ↔ zS 97 0 [zR s2, zI s1, zI s0, zU] [] sh pp mm (fun v sh pp mm => zS 56 62 [zR a0, zI a1, zR a2, zI a3, zI a4, zI a5, zU, zU] (zPush v [zI s3]) sh pp mm Q) := s_call cN_learnEdge_59 cN_learnEdge_62 ((if_pos hk).trans rfl) rfl
theorem rN_learnEdge_62 {a0 a2 : Nat} {a1 a3 a4 a5 s0 s1 : Int} {u6 u7 : zV} : zS 56 62 [zR a0, zI a1, zR a2, zI a3, zI a4, zI a5, u6, u7] [zI s0, zI s1] sh pp mm Q ↔ zS 56 63 [zR a0, zI a1, zR a2, zI a3, zI a4, zI a5, zU, zU] [zI (zw32 (s1 - s0))] sh pp mm Q := s_go cN_learnEdge_62 cN_learnEdge_63 rfl rfl
theorem rN_learnEdge_63 {a0 a2 : Nat} {a1 a3 a4 a5 s0 : Int} {u6 u7 : zV} : zS 56 63 [zR a0, zI a1, zR a2, zI a3, zI a4, zI a5, u6, u7] [zI s0] sh pp mm Q ↔ zS 56 65 [zR a0, zI a1, zR a2, zI a3, zI a4, zI a5, zI s0, zU] [] sh pp mm Q := s_go cN_learnEdge_63 cN_learnEdge_65 rfl rfl
theorem rN_learnEdge_65 {a0 a2 : Nat} {a1 a3 a4 a5 a6 : Int} {u7 : zV} : zS 56 65 [zR a0, zI a1, zR a2, zI a3, zI a4, zI a5, zI a6, u7] [] sh pp mm Q ↔ zS 56 66 [zR a0, zI a1, zR a2, zI a3, zI a4, zI a5, zI a6, zU] [zR a2] sh pp mm Q := s_go cN_learnEdge_65 cN_learnEdge_66 rfl rfl
theorem rN_learnEdge_66 {a0 a2 s0 : Nat} {a1 a3 a4 a5 a6 : Int} {u7 : zV} (hk : zKd sh s0 = 9) : zS 56 66 [zR a0, zI a1, zR a2, zI a3, zI a4, zI a5, zI a6, u7] [zR s0] sh pp mm Q ↔ zS 56 69 [zR a0, zI a1, zR a2, zI a3, zI a4, zI a5, zI a6, zU] [zR (pp s0 4)] sh pp mm Q := s_go cN_learnEdge_66 cN_learnEdge_69 (if_pos hk) rfl
theorem rN_learnEdge_69 {a0 a2 s0 : Nat} {a1 a3 a4 a5 a6 : Int} {u7 : zV} : zS 56 69 [zR a0, zI a1, zR a2, zI a3, zI a4, zI a5, zI a6, u7] [zR s0] sh pp mm Q ↔ zS 56 70 [zR a0, zI a1, zR a2, zI a3, zI a4, zI a5, zI a6, zU] [zI a1, zR s0] sh pp mm Q := s_go cN_learnEdge_69 cN_learnEdge_70 rfl rfl
theorem rN_learnEdge_70 {a0 a2 s1 : Nat} {a1 a3 a4 a5 a6 s0 : Int} {u7 : zV} : zS 56 70 [zR a0, zI a1, zR a2, zI a3, zI a4, zI a5, zI a6, u7] [zI s0, zR s1] sh pp mm Q ↔ zS 56 71 [zR a0, zI a1, zR a2, zI a3, zI a4, zI a5, zI a6, zU] [zI 2, zI s0, zR s1] sh pp mm Q := s_go cN_learnEdge_70 cN_learnEdge_71 rfl rfl
theorem rN_learnEdge_71 {a0 a2 s2 : Nat} {a1 a3 a4 a5 a6 s0 s1 : Int} {u7 : zV} (hk : zKd sh s2 = 10) : zS 56 71 [zR a0, zI a1, zR a2, zI a3, zI a4, zI a5, zI a6, u7] [zI s0, zI s1, zR s2] sh pp mm Q ↔ zS 97 0 [zR s2, zI s1, zI s0, zU] [] sh pp mm (fun v sh pp mm => zS 56 74 [zR a0, zI a1, zR a2, zI a3, zI a4, zI a5, zI a6, zU] (zPush v []) sh pp mm Q) := s_call cN_learnEdge_71 cN_learnEdge_74 ((if_pos hk).trans rfl) rfl
theorem rN_learnEdge_74 {a0 a2 : Nat} {a1 a3 a4 a5 a6 s0 : Int} {u7 : zV} : zS 56 74 [zR a0, zI a1, zR a2, zI a3, zI a4, zI a5, zI a6, u7] [zI s0] sh pp mm Q ↔ zS 56 75 [zR a0, zI a1, zR a2, zI a3, zI a4, zI a5, zI a6, zU] [zI 1, zI s0] sh pp mm Q := s_go cN_learnEdge_74 cN_learnEdge_75 rfl rfl
theorem rN_learnEdge_75 {a0 a2 : Nat} {a1 a3 a4 a5 a6 s0 s1 : Int} {u7 : zV} : zS 56 75 [zR a0, zI a1, zR a2, zI a3, zI a4, zI a5, zI a6, u7] [zI s0, zI s1] sh pp mm Q ↔ (s1 = s0 → zS 56 78 [zR a0, zI a1, zR a2, zI a3, zI a4, zI a5, zI a6, zU] [] sh pp mm Q) ∧ (¬ s1 = s0 → zS 56 88 [zR a0, zI a1, zU, zI a3, zI a4, zI a5, zI a6, zU] [] sh pp mm Q) := s_ifn cN_learnEdge_75 cN_learnEdge_78 cN_learnEdge_88 rfl rfl rfl
theorem rN_learnEdge_78 {a0 a2 : Nat} {a1 a3 a4 a5 a6 : Int} {u7 : zV} : zS 56 78 [zR a0, zI a1, zR a2, zI a3, zI a4, zI a5, zI a6, u7] [] sh pp mm Q ↔ zS 56 79 [zR a0, zI a1, zU, zI a3, zI a4, zI a5, zI a6, zU] [zR a2] sh pp mm Q := s_go cN_learnEdge_78 cN_learnEdge_79 rfl rfl
theorem rN_learnEdge_79 {a0 s0 : Nat} {a1 a3 a4 a5 a6 : Int} {u2 u7 : zV} (hk : zKd sh s0 = 9) : zS 56 79 [zR a0, zI a1, u2, zI a3, zI a4, zI a5, zI a6, u7] [zR s0] sh pp mm Q ↔ zS 56 82 [zR a0, zI a1, zU, zI a3, zI a4, zI a5, zI a6, zU] [zR (pp s0 0)] sh pp mm Q := s_go cN_learnEdge_79 cN_learnEdge_82 (if_pos hk) rfl
theorem rN_learnEdge_82 {a0 s0 : Nat} {a1 a3 a4 a5 a6 : Int} {u2 u7 : zV} : zS 56 82 [zR a0, zI a1, u2, zI a3, zI a4, zI a5, zI a6, u7] [zR s0] sh pp mm Q ↔ zS 56 84 [zR a0, zI a1, zU, zI a3, zI a4, zI a5, zI a6, zU] [zI 7, zR s0] sh pp mm Q := s_go cN_learnEdge_82 cN_learnEdge_84 rfl rfl
theorem rN_learnEdge_84 {a0 s1 : Nat} {a1 a3 a4 a5 a6 s0 : Int} {u2 u7 : zV} (hk : zKd sh s1 = 20 ∨ zKd sh s1 = 30) (h0 : 0 ≤ s0) (h1 : s0 < zLn sh s1) : zS 56 84 [zR a0, zI a1, u2, zI a3, zI a4, zI a5, zI a6, u7] [zI s0, zR s1] sh pp mm Q ↔ zS 56 85 [zR a0, zI a1, zU, zI a3, zI a4, zI a5, zI a6, zU] [zI (mm s1 s0)] sh pp mm Q := s_go cN_learnEdge_84 cN_learnEdge_85 (if_pos ⟨hk, h0, h1⟩) rfl
theorem rN_learnEdge_85 {a0 : Nat} {a1 a3 a4 a5 a6 s0 : Int} {u2 u7 : zV} : zS 56 85 [zR a0, zI a1, u2, zI a3, zI a4, zI a5, zI a6, u7] [zI s0] sh pp mm Q ↔ zS 56 90 [zR a0, zI a1, zU, zI a3, zI a4, zI a5, zI a6, zU] [zI s0] sh pp mm Q := s_go cN_learnEdge_85 cN_learnEdge_90 rfl rfl
theorem rN_learnEdge_88 {a0 : Nat} {a1 a3 a4 a5 a6 : Int} {u2 u7 : zV} : zS 56 88 [zR a0, zI a1, u2, zI a3, zI a4, zI a5, zI a6, u7] [] sh pp mm Q ↔ zS 56 90 [zR a0, zI a1, zU, zI a3, zI a4, zI a5, zI a6, zU] [zI 10] sh pp mm Q := s_go cN_learnEdge_88 cN_learnEdge_90 rfl rfl
theorem rN_learnEdge_90 {a0 : Nat} {a1 a3 a4 a5 a6 s0 : Int} {u2 u7 : zV} : zS 56 90 [zR a0, zI a1, u2, zI a3, zI a4, zI a5, zI a6, u7] [zI s0] sh pp mm Q ↔ zS 56 92 [zR a0, zI a1, zU, zI a3, zI a4, zI a5, zI a6, zI s0] [] sh pp mm Q := s_go cN_learnEdge_90 cN_learnEdge_92 rfl rfl
theorem rN_learnEdge_92 {a0 : Nat} {a1 a3 a4 a5 a6 a7 : Int} {u2 : zV} : zS 56 92 [zR a0, zI a1, u2, zI a3, zI a4, zI a5, zI a6, zI a7] [] sh pp mm Q ↔ zS 56 93 [zR a0, zI a1, zU, zI a3, zI a4, zI a5, zI a6, zI a7] [zR a0] sh pp mm Q := s_go cN_learnEdge_92 cN_learnEdge_93 rfl rfl
theorem rN_learnEdge_93 {a0 s0 : Nat} {a1 a3 a4 a5 a6 a7 : Int} {u2 : zV} (hk : zKd sh s0 = 6) : zS 56 93 [zR a0, zI a1, u2, zI a3, zI a4, zI a5, zI a6, zI a7] [zR s0] sh pp mm Q ↔ zS 56 96 [zR a0, zI a1, zU, zI a3, zI a4, zI a5, zI a6, zI a7] [zR (pp s0 4)] sh pp mm Q := s_go cN_learnEdge_93 cN_learnEdge_96 (if_pos hk) rfl
theorem rN_learnEdge_96 {a0 s0 : Nat} {a1 a3 a4 a5 a6 a7 : Int} {u2 : zV} : zS 56 96 [zR a0, zI a1, u2, zI a3, zI a4, zI a5, zI a6, zI a7] [zR s0] sh pp mm Q ↔ zS 56 97 [zR a0, zI a1, zU, zI a3, zI a4, zI a5, zI a6, zI a7] [zI a1, zR s0] sh pp mm Q := s_go cN_learnEdge_96 cN_learnEdge_97 rfl rfl
theorem rN_learnEdge_97 {a0 s1 : Nat} {a1 a3 a4 a5 a6 a7 s0 : Int} {u2 : zV} : zS 56 97 [zR a0, zI a1, u2, zI a3, zI a4, zI a5, zI a6, zI a7] [zI s0, zR s1] sh pp mm Q ↔ zS 56 98 [zR a0, zI a1, zU, zI a3, zI a4, zI a5, zI a6, zI a7] [zI a3, zI s0, zR s1] sh pp mm Q := s_go cN_learnEdge_97 cN_learnEdge_98 rfl rfl
theorem rN_learnEdge_98 {a0 s2 : Nat} {a1 a3 a4 a5 a6 a7 s0 s1 : Int} {u2 : zV} (hk : zKd sh s2 = 20) (h0 : 0 ≤ s1) (h1 : s1 < zLn sh s2) : zS 56 98 [zR a0, zI a1, u2, zI a3, zI a4, zI a5, zI a6, zI a7] [zI s0, zI s1, zR s2] sh pp mm Q ↔ zS 56 99 [zR a0, zI a1, zU, zI a3, zI a4, zI a5, zI a6, zI a7] [] sh pp (zupd mm s2 s1 s0) Q := s_go cN_learnEdge_98 cN_learnEdge_99 (if_pos ⟨hk, h0, h1, fun h => absurd h (by decide)⟩) rfl
theorem rN_learnEdge_99 {a0 : Nat} {a1 a3 a4 a5 a6 a7 : Int} {u2 : zV} : zS 56 99 [zR a0, zI a1, u2, zI a3, zI a4, zI a5, zI a6, zI a7] [] sh pp mm Q ↔ zS 56 100 [zR a0, zI a1, zU, zI a3, zI a4, zI a5, zI a6, zI a7] [zR a0] sh pp mm Q := s_go cN_learnEdge_99 cN_learnEdge_100 rfl rfl
theorem rN_learnEdge_100 {a0 s0 : Nat} {a1 a3 a4 a5 a6 a7 : Int} {u2 : zV} (hk : zKd sh s0 = 6) : zS 56 100 [zR a0, zI a1, u2, zI a3, zI a4, zI a5, zI a6, zI a7] [zR s0] sh pp mm Q ↔ zS 56 103 [zR a0, zI a1, zU, zI a3, zI a4, zI a5, zI a6, zI a7] [zR (pp s0 5)] sh pp mm Q := s_go cN_learnEdge_100 cN_learnEdge_103 (if_pos hk) rfl
theorem rN_learnEdge_103 {a0 s0 : Nat} {a1 a3 a4 a5 a6 a7 : Int} {u2 : zV} : zS 56 103 [zR a0, zI a1, u2, zI a3, zI a4, zI a5, zI a6, zI a7] [zR s0] sh pp mm Q ↔ zS 56 104 [zR a0, zI a1, zU, zI a3, zI a4, zI a5, zI a6, zI a7] [zI a1, zR s0] sh pp mm Q := s_go cN_learnEdge_103 cN_learnEdge_104 rfl rfl
theorem rN_learnEdge_104 {a0 s1 : Nat} {a1 a3 a4 a5 a6 a7 s0 : Int} {u2 : zV} : zS 56 104 [zR a0, zI a1, u2, zI a3, zI a4, zI a5, zI a6, zI a7] [zI s0, zR s1] sh pp mm Q ↔ zS 56 106 [zR a0, zI a1, zU, zI a3, zI a4, zI a5, zI a6, zI a7] [zI a4, zI s0, zR s1] sh pp mm Q := s_go cN_learnEdge_104 cN_learnEdge_106 rfl rfl
theorem rN_learnEdge_106 {a0 s2 : Nat} {a1 a3 a4 a5 a6 a7 s0 s1 : Int} {u2 : zV} (hk : zKd sh s2 = 20) (h0 : 0 ≤ s1) (h1 : s1 < zLn sh s2) : zS 56 106 [zR a0, zI a1, u2, zI a3, zI a4, zI a5, zI a6, zI a7] [zI s0, zI s1, zR s2] sh pp mm Q ↔ zS 56 107 [zR a0, zI a1, zU, zI a3, zI a4, zI a5, zI a6, zI a7] [] sh pp (zupd mm s2 s1 s0) Q := s_go cN_learnEdge_106 cN_learnEdge_107 (if_pos ⟨hk, h0, h1, fun h => absurd h (by decide)⟩) rfl
theorem rN_learnEdge_107 {a0 : Nat} {a1 a3 a4 a5 a6 a7 : Int} {u2 : zV} : zS 56 107 [zR a0, zI a1, u2, zI a3, zI a4, zI a5, zI a6, zI a7] [] sh pp mm Q ↔ zS 56 108 [zR a0, zI a1, zU, zI a3, zI a4, zI a5, zI a6, zI a7] [zR a0] sh pp mm Q := s_go cN_learnEdge_107 cN_learnEdge_108 rfl rfl
theorem rN_learnEdge_108 {a0 s0 : Nat} {a1 a3 a4 a5 a6 a7 : Int} {u2 : zV} (hk : zKd sh s0 = 6) : zS 56 108 [zR a0, zI a1, u2, zI a3, zI a4, zI a5, zI a6, zI a7] [zR s0] sh pp mm Q ↔ zS 56 111 [zR a0, zI a1, zU, zI a3, zI a4, zI a5, zI a6, zI a7] [zR (pp s0 6)] sh pp mm Q := s_go cN_learnEdge_108 cN_learnEdge_111 (if_pos hk) rfl
theorem rN_learnEdge_111 {a0 s0 : Nat} {a1 a3 a4 a5 a6 a7 : Int} {u2 : zV} : zS 56 111 [zR a0, zI a1, u2, zI a3, zI a4, zI a5, zI a6, zI a7] [zR s0] sh pp mm Q ↔ zS 56 112 [zR a0, zI a1, zU, zI a3, zI a4, zI a5, zI a6, zI a7] [zI a1, zR s0] sh pp mm Q := s_go cN_learnEdge_111 cN_learnEdge_112 rfl rfl
theorem rN_learnEdge_112 {a0 s1 : Nat} {a1 a3 a4 a5 a6 a7 s0 : Int} {u2 : zV} : zS 56 112 [zR a0, zI a1, u2, zI a3, zI a4, zI a5, zI a6, zI a7] [zI s0, zR s1] sh pp mm Q ↔ zS 56 113 [zR a0, zI a1, zU, zI a3, zI a4, zI a5, zI a6, zI a7] [zI 1, zI s0, zR s1] sh pp mm Q := s_go cN_learnEdge_112 cN_learnEdge_113 rfl rfl
theorem rN_learnEdge_113 {a0 s2 : Nat} {a1 a3 a4 a5 a6 a7 s0 s1 : Int} {u2 : zV} : zS 56 113 [zR a0, zI a1, u2, zI a3, zI a4, zI a5, zI a6, zI a7] [zI s0, zI s1, zR s2] sh pp mm Q ↔ zS 56 114 [zR a0, zI a1, zU, zU, zI a4, zI a5, zI a6, zI a7] [zI a3, zI s0, zI s1, zR s2] sh pp mm Q := s_go cN_learnEdge_113 cN_learnEdge_114 rfl rfl
theorem rN_learnEdge_114 {a0 s3 : Nat} {a1 a4 a5 a6 a7 s0 s1 s2 : Int} {u2 u3 : zV} : zS 56 114 [zR a0, zI a1, u2, u3, zI a4, zI a5, zI a6, zI a7] [zI s0, zI s1, zI s2, zR s3] sh pp mm Q ↔ zS 56 115 [zR a0, zI a1, zU, zU, zI a4, zI a5, zI a6, zI a7] [zI (zshl s1 s0), zI s2, zR s3] sh pp mm Q := s_go cN_learnEdge_114 cN_learnEdge_115 rfl rfl
theorem rN_learnEdge_115 {a0 s2 : Nat} {a1 a4 a5 a6 a7 s0 s1 : Int} {u2 u3 : zV} : zS 56 115 [zR a0, zI a1, u2, u3, zI a4, zI a5, zI a6, zI a7] [zI s0, zI s1, zR s2] sh pp mm Q ↔ zS 56 116 [zR a0, zI a1, zU, zU, zI a4, zI a5, zI a6, zI a7] [zI 1, zI s0, zI s1, zR s2] sh pp mm Q := s_go cN_learnEdge_115 cN_learnEdge_116 rfl rfl
theorem rN_learnEdge_116 {a0 s3 : Nat} {a1 a4 a5 a6 a7 s0 s1 s2 : Int} {u2 u3 : zV} : zS 56 116 [zR a0, zI a1, u2, u3, zI a4, zI a5, zI a6, zI a7] [zI s0, zI s1, zI s2, zR s3] sh pp mm Q ↔ zS 56 118 [zR a0, zI a1, zU, zU, zU, zI a5, zI a6, zI a7] [zI a4, zI s0, zI s1, zI s2, zR s3] sh pp mm Q := s_go cN_learnEdge_116 cN_learnEdge_118 rfl rfl
theorem rN_learnEdge_118 {a0 s4 : Nat} {a1 a5 a6 a7 s0 s1 s2 s3 : Int} {u2 u3 u4 : zV} : zS 56 118 [zR a0, zI a1, u2, u3, u4, zI a5, zI a6, zI a7] [zI s0, zI s1, zI s2, zI s3, zR s4] sh pp mm Q ↔ zS 56 119 [zR a0, zI a1, zU, zU, zU, zI a5, zI a6, zI a7] [zI (zshl s1 s0), zI s2, zI s3, zR s4] sh pp mm Q := s_go cN_learnEdge_118 cN_learnEdge_119 rfl rfl
theorem rN_learnEdge_119 {a0 s3 : Nat} {a1 a5 a6 a7 s0 s1 s2 : Int} {u2 u3 u4 : zV} : zS 56 119 [zR a0, zI a1, u2, u3, u4, zI a5, zI a6, zI a7] [zI s0, zI s1, zI s2, zR s3] sh pp mm Q ↔ zS 56 120 [zR a0, zI a1, zU, zU, zU, zI a5, zI a6, zI a7] [zI (zor s1 s0), zI s2, zR s3] sh pp mm Q := s_go cN_learnEdge_119 cN_learnEdge_120 rfl rfl
theorem rN_learnEdge_120 {a0 s2 : Nat} {a1 a5 a6 a7 s0 s1 : Int} {u2 u3 u4 : zV} (hk : zKd sh s2 = 20) (h0 : 0 ≤ s1) (h1 : s1 < zLn sh s2) : zS 56 120 [zR a0, zI a1, u2, u3, u4, zI a5, zI a6, zI a7] [zI s0, zI s1, zR s2] sh pp mm Q ↔ zS 56 121 [zR a0, zI a1, zU, zU, zU, zI a5, zI a6, zI a7] [] sh pp (zupd mm s2 s1 s0) Q := s_go cN_learnEdge_120 cN_learnEdge_121 (if_pos ⟨hk, h0, h1, fun h => absurd h (by decide)⟩) rfl
theorem rN_learnEdge_121 {a0 : Nat} {a1 a5 a6 a7 : Int} {u2 u3 u4 : zV} : zS 56 121 [zR a0, zI a1, u2, u3, u4, zI a5, zI a6, zI a7] [] sh pp mm Q ↔ zS 56 122 [zR a0, zI a1, zU, zU, zU, zI a5, zI a6, zI a7] [zR a0] sh pp mm Q := s_go cN_learnEdge_121 cN_learnEdge_122 rfl rfl
theorem rN_learnEdge_122 {a0 s0 : Nat} {a1 a5 a6 a7 : Int} {u2 u3 u4 : zV} (hk : zKd sh s0 = 6) : zS 56 122 [zR a0, zI a1, u2, u3, u4, zI a5, zI a6, zI a7] [zR s0] sh pp mm Q ↔ zS 56 125 [zR a0, zI a1, zU, zU, zU, zI a5, zI a6, zI a7] [zR (pp s0 7)] sh pp mm Q := s_go cN_learnEdge_122 cN_learnEdge_125 (if_pos hk) rfl
theorem rN_learnEdge_125 {a0 s0 : Nat} {a1 a5 a6 a7 : Int} {u2 u3 u4 : zV} : zS 56 125 [zR a0, zI a1, u2, u3, u4, zI a5, zI a6, zI a7] [zR s0] sh pp mm Q ↔ zS 56 126 [zR a0, zI a1, zU, zU, zU, zI a5, zI a6, zI a7] [zI a1, zR s0] sh pp mm Q := s_go cN_learnEdge_125 cN_learnEdge_126 rfl rfl
theorem rN_learnEdge_126 {a0 s1 : Nat} {a1 a5 a6 a7 s0 : Int} {u2 u3 u4 : zV} : zS 56 126 [zR a0, zI a1, u2, u3, u4, zI a5, zI a6, zI a7] [zI s0, zR s1] sh pp mm Q ↔ zS 56 128 [zR a0, zI a1, zU, zU, zU, zI a5, zI a6, zI a7] [zI a5, zI s0, zR s1] sh pp mm Q := s_go cN_learnEdge_126 cN_learnEdge_128 rfl rfl
theorem rN_learnEdge_128 {a0 s2 : Nat} {a1 a5 a6 a7 s0 s1 : Int} {u2 u3 u4 : zV} : zS 56 128 [zR a0, zI a1, u2, u3, u4, zI a5, zI a6, zI a7] [zI s0, zI s1, zR s2] sh pp mm Q ↔ zS 56 129 [zR a0, zI a1, zU, zU, zU, zI a5, zI a6, zI a7] [zI 0, zI s0, zI s1, zR s2] sh pp mm Q := s_go cN_learnEdge_128 cN_learnEdge_129 rfl rfl
theorem rN_learnEdge_129 {a0 s3 : Nat} {a1 a5 a6 a7 s0 s1 s2 : Int} {u2 u3 u4 : zV} : zS 56 129 [zR a0, zI a1, u2, u3, u4, zI a5, zI a6, zI a7] [zI s0, zI s1, zI s2, zR s3] sh pp mm Q ↔ zS 255 0 [zI s1, zI s0] [] sh pp mm (fun v sh pp mm => zS 56 132 [zR a0, zI a1, zU, zU, zU, zI a5, zI a6, zI a7] (zPush v [zI s2, zR s3]) sh pp mm Q) := s_call cN_learnEdge_129 cN_learnEdge_132 rfl rfl
theorem rN_learnEdge_132 {a0 s2 : Nat} {a1 a5 a6 a7 s0 s1 : Int} {u2 u3 u4 : zV} (hk : zKd sh s2 = 20) (h0 : 0 ≤ s1) (h1 : s1 < zLn sh s2) : zS 56 132 [zR a0, zI a1, u2, u3, u4, zI a5, zI a6, zI a7] [zI s0, zI s1, zR s2] sh pp mm Q ↔ zS 56 133 [zR a0, zI a1, zU, zU, zU, zI a5, zI a6, zI a7] [] sh pp (zupd mm s2 s1 s0) Q := s_go cN_learnEdge_132 cN_learnEdge_133 (if_pos ⟨hk, h0, h1, fun h => absurd h (by decide)⟩) rfl
theorem rN_learnEdge_133 {a0 : Nat} {a1 a5 a6 a7 : Int} {u2 u3 u4 : zV} : zS 56 133 [zR a0, zI a1, u2, u3, u4, zI a5, zI a6, zI a7] [] sh pp mm Q ↔ zS 56 134 [zR a0, zI a1, zU, zU, zU, zI a5, zI a6, zI a7] [zR a0] sh pp mm Q := s_go cN_learnEdge_133 cN_learnEdge_134 rfl rfl
theorem rN_learnEdge_134 {a0 s0 : Nat} {a1 a5 a6 a7 : Int} {u2 u3 u4 : zV} (hk : zKd sh s0 = 6) : zS 56 134 [zR a0, zI a1, u2, u3, u4, zI a5, zI a6, zI a7] [zR s0] sh pp mm Q ↔ zS 56 137 [zR a0, zI a1, zU, zU, zU, zI a5, zI a6, zI a7] [zR (pp s0 8)] sh pp mm Q := s_go cN_learnEdge_134 cN_learnEdge_137 (if_pos hk) rfl
theorem rN_learnEdge_137 {a0 s0 : Nat} {a1 a5 a6 a7 : Int} {u2 u3 u4 : zV} : zS 56 137 [zR a0, zI a1, u2, u3, u4, zI a5, zI a6, zI a7] [zR s0] sh pp mm Q ↔ zS 56 138 [zR a0, zI a1, zU, zU, zU, zI a5, zI a6, zI a7] [zI a1, zR s0] sh pp mm Q := s_go cN_learnEdge_137 cN_learnEdge_138 rfl rfl
theorem rN_learnEdge_138 {a0 s1 : Nat} {a1 a5 a6 a7 s0 : Int} {u2 u3 u4 : zV} : zS 56 138 [zR a0, zI a1, u2, u3, u4, zI a5, zI a6, zI a7] [zI s0, zR s1] sh pp mm Q ↔ zS 56 140 [zR a0, zI a1, zU, zU, zU, zI a5, zI a6, zI a7] [zI a6, zI s0, zR s1] sh pp mm Q := s_go cN_learnEdge_138 cN_learnEdge_140 rfl rfl
theorem rN_learnEdge_140 {a0 s2 : Nat} {a1 a5 a6 a7 s0 s1 : Int} {u2 u3 u4 : zV} : zS 56 140 [zR a0, zI a1, u2, u3, u4, zI a5, zI a6, zI a7] [zI s0, zI s1, zR s2] sh pp mm Q ↔ zS 56 141 [zR a0, zI a1, zU, zU, zU, zI a5, zI a6, zI a7] [zI 0, zI s0, zI s1, zR s2] sh pp mm Q := s_go cN_learnEdge_140 cN_learnEdge_141 rfl rfl
theorem rN_learnEdge_141 {a0 s3 : Nat} {a1 a5 a6 a7 s0 s1 s2 : Int} {u2 u3 u4 : zV} : zS 56 141 [zR a0, zI a1, u2, u3, u4, zI a5, zI a6, zI a7] [zI s0, zI s1, zI s2, zR s3] sh pp mm Q ↔ zS 255 0 [zI s1, zI s0] [] sh pp mm (fun v sh pp mm => zS 56 144 [zR a0, zI a1, zU, zU, zU, zI a5, zI a6, zI a7] (zPush v [zI s2, zR s3]) sh pp mm Q) := s_call cN_learnEdge_141 cN_learnEdge_144 rfl rfl
theorem rN_learnEdge_144 {a0 s2 : Nat} {a1 a5 a6 a7 s0 s1 : Int} {u2 u3 u4 : zV} (hk : zKd sh s2 = 20) (h0 : 0 ≤ s1) (h1 : s1 < zLn sh s2) : zS 56 144 [zR a0, zI a1, u2, u3, u4, zI a5, zI a6, zI a7] [zI s0, zI s1, zR s2] sh pp mm Q ↔ zS 56 145 [zR a0, zI a1, zU, zU, zU, zI a5, zI a6, zI a7] [] sh pp (zupd mm s2 s1 s0) Q := s_go cN_learnEdge_144 cN_learnEdge_145 (if_pos ⟨hk, h0, h1, fun h => absurd h (by decide)⟩) rfl
theorem rN_learnEdge_145 {a0 : Nat} {a1 a5 a6 a7 : Int} {u2 u3 u4 : zV} : zS 56 145 [zR a0, zI a1, u2, u3, u4, zI a5, zI a6, zI a7] [] sh pp mm Q ↔ zS 56 146 [zU, zI a1, zU, zU, zU, zI a5, zI a6, zI a7] [zR a0] sh pp mm Q := s_go cN_learnEdge_145 cN_learnEdge_146 rfl rfl
theorem rN_learnEdge_146 {s0 : Nat} {a1 a5 a6 a7 : Int} {u0 u2 u3 u4 : zV} (hk : zKd sh s0 = 6) : zS 56 146 [u0, zI a1, u2, u3, u4, zI a5, zI a6, zI a7] [zR s0] sh pp mm Q ↔ zS 56 149 [zU, zI a1, zU, zU, zU, zI a5, zI a6, zI a7] [zR (pp s0 11)] sh pp mm Q := s_go cN_learnEdge_146 cN_learnEdge_149 (if_pos hk) rfl
theorem rN_learnEdge_149 {s0 : Nat} {a1 a5 a6 a7 : Int} {u0 u2 u3 u4 : zV} : zS 56 149 [u0, zI a1, u2, u3, u4, zI a5, zI a6, zI a7] [zR s0] sh pp mm Q ↔ zS 56 150 [zU, zU, zU, zU, zU, zI a5, zI a6, zI a7] [zI a1, zR s0] sh pp mm Q := s_go cN_learnEdge_149 cN_learnEdge_150 rfl rfl
theorem rN_learnEdge_150 {s1 : Nat} {a5 a6 a7 s0 : Int} {u0 u1 u2 u3 u4 : zV} : zS 56 150 [u0, u1, u2, u3, u4, zI a5, zI a6, zI a7] [zI s0, zR s1] sh pp mm Q ↔ zS 56 152 [zU, zU, zU, zU, zU, zU, zI a6, zI a7] [zI a5, zI s0, zR s1] sh pp mm Q := s_go cN_learnEdge_150 cN_learnEdge_152 rfl rfl
theorem rN_learnEdge_152 {s2 : Nat} {a6 a7 s0 s1 : Int} {u0 u1 u2 u3 u4 u5 : zV} : zS 56 152 [u0, u1, u2, u3, u4, u5, zI a6, zI a7] [zI s0, zI s1, zR s2] sh pp mm Q ↔ zS 258 0 [zI s0] [] sh pp mm (fun v sh pp mm => zS 56 155 [zU, zU, zU, zU, zU, zU, zI a6, zI a7] (zPush v [zI s1, zR s2]) sh pp mm Q) := s_call cN_learnEdge_152 cN_learnEdge_155 rfl rfl
theorem rN_learnEdge_155 {s2 : Nat} {a6 a7 s0 s1 : Int} {u0 u1 u2 u3 u4 u5 : zV} : zS 56 155 [u0, u1, u2, u3, u4, u5, zI a6, zI a7] [zI s0, zI s1, zR s2] sh pp mm Q ↔ zS 56 157 [zU, zU, zU, zU, zU, zU, zU, zI a7] [zI a6, zI s0, zI s1, zR s2] sh pp mm Q := s_go cN_learnEdge_155 cN_learnEdge_157 rfl rfl
theorem rN_learnEdge_157 {s3 : Nat} {a7 s0 s1 s2 : Int} {u0 u1 u2 u3 u4 u5 u6 : zV} : zS 56 157 [u0, u1, u2, u3, u4, u5, u6, zI a7] [zI s0, zI s1, zI s2, zR s3] sh pp mm Q ↔ zS 258 0 [zI s0] [] sh pp mm (fun v sh pp mm => zS 56 160 [zU, zU, zU, zU, zU, zU, zU, zI a7] (zPush v [zI s1, zI s2, zR s3]) sh pp mm Q) := s_call cN_learnEdge_157 cN_learnEdge_160 rfl rfl
theorem rN_learnEdge_160 {s3 : Nat} {a7 s0 s1 s2 : Int} {u0 u1 u2 u3 u4 u5 u6 : zV} : zS 56 160 [u0, u1, u2, u3, u4, u5, u6, zI a7] [zI s0, zI s1, zI s2, zR s3] sh pp mm Q ↔ zS 259 0 [zI s1, zI s0] [] sh pp mm (fun v sh pp mm => zS 56 163 [zU, zU, zU, zU, zU, zU, zU, zI a7] (zPush v [zI s2, zR s3]) sh pp mm Q) := s_call cN_learnEdge_160 cN_learnEdge_163 rfl rfl
theorem rN_learnEdge_163 {s2 : Nat} {a7 s0 s1 : Int} {u0 u1 u2 u3 u4 u5 u6 : zV} : zS 56 163 [u0, u1, u2, u3, u4, u5, u6, zI a7] [zI s0, zI s1, zR s2] sh pp mm Q ↔ zS 56 165 [zU, zU, zU, zU, zU, zU, zU, zU] [zI a7, zI s0, zI s1, zR s2] sh pp mm Q := s_go cN_learnEdge_163 cN_learnEdge_165 rfl rfl
theorem rN_learnEdge_165 {s3 : Nat} {s0 s1 s2 : Int} {u0 u1 u2 u3 u4 u5 u6 u7 : zV} : zS 56 165 [u0, u1, u2, u3, u4, u5, u6, u7] [zI s0, zI s1, zI s2, zR s3] sh pp mm Q ↔ zS 56 166 [zU, zU, zU, zU, zU, zU, zU, zU] [zI (zw32 (s1 * s0)), zI s2, zR s3] sh pp mm Q := s_go cN_learnEdge_165 cN_learnEdge_166 rfl rfl
theorem rN_learnEdge_166 {s2 : Nat} {s0 s1 : Int} {u0 u1 u2 u3 u4 u5 u6 u7 : zV} (hk : zKd sh s2 = 20) (h0 : 0 ≤ s1) (h1 : s1 < zLn sh s2) : zS 56 166 [u0, u1, u2, u3, u4, u5, u6, u7] [zI s0, zI s1, zR s2] sh pp mm Q ↔ zS 56 167 [zU, zU, zU, zU, zU, zU, zU, zU] [] sh pp (zupd mm s2 s1 s0) Q := s_go cN_learnEdge_166 cN_learnEdge_167 (if_pos ⟨hk, h0, h1, fun h => absurd h (by decide)⟩) rfl
theorem rN_learnEdge_167 {u0 u1 u2 u3 u4 u5 u6 u7 : zV} : zS 56 167 [u0, u1, u2, u3, u4, u5, u6, u7] [] sh pp mm Q ↔ Q zU sh pp mm := s_ret cN_learnEdge_167 rfl
theorem cAN_twinsAhead : ∀ q ∈ zT57, zCode 57 q.1 = some q.2 := zAll (mid := 57) rfl (by decide +kernel)
theorem cAN_twinsAhead_0 : ∀ q ∈ zT57_0, zCode 57 q.1 = some q.2 := fun q h => cAN_twinsAhead q (List.mem_append_left _ h)
theorem cAN_twinsAhead_1 : ∀ q ∈ zT57_1, zCode 57 q.1 = some q.2 := fun q h => cAN_twinsAhead q (List.mem_append_right _ h)
theorem cN_twinsAhead_0 : zCode 57 0 = some (.iconst 0, 1, 0, 0, 0, 0, 3) := cAN_twinsAhead_0 _ (List.mem_of_getElem? (i := 0) rfl)
theorem cN_twinsAhead_1 : zCode 57 1 = some (.istore_n 2, 2, 0, 0, 0, 0, 3) := cAN_twinsAhead_0 _ (List.mem_of_getElem? (i := 1) rfl)
theorem cN_twinsAhead_2 : zCode 57 2 = some (.iconst 0, 3, 0, 0, 0, 0, 7) := cAN_twinsAhead_0 _ (List.mem_of_getElem? (i := 2) rfl)
theorem cN_twinsAhead_3 : zCode 57 3 = some (.istore_n 3, 4, 0, 0, 0, 0, 7) := cAN_twinsAhead_0 _ (List.mem_of_getElem? (i := 3) rfl)
theorem cN_twinsAhead_4 : zCode 57 4 = some (.iload_n 3, 5, 0, 0, 0, 0, 15) := cAN_twinsAhead_0 _ (List.mem_of_getElem? (i := 4) rfl)
theorem cN_twinsAhead_5 : zCode 57 5 = some (.iload_n 1, 6, 0, 0, 0, 0, 15) := cAN_twinsAhead_0 _ (List.mem_of_getElem? (i := 5) rfl)
theorem cN_twinsAhead_6 : zCode 57 6 = some (.if_icmp .ge 34, 9, 40, 0, 0, 0, 15) := cAN_twinsAhead_0 _ (List.mem_of_getElem? (i := 6) rfl)
theorem cN_twinsAhead_9 : zCode 57 9 = some (.iload_n 2, 10, 0, 0, 0, 0, 15) := cAN_twinsAhead_0 _ (List.mem_of_getElem? (i := 7) rfl)
theorem cN_twinsAhead_10 : zCode 57 10 = some (.aload_n 0, 11, 0, 0, 0, 0, 11) := cAN_twinsAhead_0 _ (List.mem_of_getElem? (i := 8) rfl)
theorem cN_twinsAhead_11 : zCode 57 11 = some (.getfield 32, 14, 6, 6, 2, 222, 11) := cAN_twinsAhead_0 _ (List.mem_of_getElem? (i := 9) rfl)
theorem cN_twinsAhead_14 : zCode 57 14 = some (.iload_n 3, 15, 0, 0, 0, 0, 11) := cAN_twinsAhead_0 _ (List.mem_of_getElem? (i := 10) rfl)
theorem cN_twinsAhead_15 : zCode 57 15 = some (.iaload, 16, 0, 0, 0, 0, 11) := cAN_twinsAhead_0 _ (List.mem_of_getElem? (i := 11) rfl)
theorem cN_twinsAhead_16 : zCode 57 16 = some (.aload_n 0, 17, 0, 0, 0, 0, 11) := cAN_twinsAhead_0 _ (List.mem_of_getElem? (i := 12) rfl)
theorem cN_twinsAhead_17 : zCode 57 17 = some (.getfield 32, 20, 6, 6, 2, 222, 11) := cAN_twinsAhead_0 _ (List.mem_of_getElem? (i := 13) rfl)
theorem cN_twinsAhead_20 : zCode 57 20 = some (.iload_n 1, 21, 0, 0, 0, 0, 11) := cAN_twinsAhead_0 _ (List.mem_of_getElem? (i := 14) rfl)
theorem cN_twinsAhead_21 : zCode 57 21 = some (.iaload, 22, 0, 0, 0, 0, 11) := cAN_twinsAhead_0 _ (List.mem_of_getElem? (i := 15) rfl)
theorem cN_twinsAhead_22 : zCode 57 22 = some (.if_icmp .ne 9, 25, 31, 0, 0, 0, 11) := cAN_twinsAhead_1 _ (List.mem_of_getElem? (i := 0) rfl)
theorem cN_twinsAhead_25 : zCode 57 25 = some (.iconst 1, 26, 0, 0, 0, 0, 11) := cAN_twinsAhead_1 _ (List.mem_of_getElem? (i := 1) rfl)
theorem cN_twinsAhead_26 : zCode 57 26 = some (.iload_n 3, 27, 0, 0, 0, 0, 11) := cAN_twinsAhead_1 _ (List.mem_of_getElem? (i := 2) rfl)
theorem cN_twinsAhead_27 : zCode 57 27 = some (.ishl, 28, 0, 0, 0, 0, 11) := cAN_twinsAhead_1 _ (List.mem_of_getElem? (i := 3) rfl)
theorem cN_twinsAhead_28 : zCode 57 28 = some (.goto 4, 31, 32, 0, 0, 0, 11) := cAN_twinsAhead_1 _ (List.mem_of_getElem? (i := 4) rfl)
theorem cN_twinsAhead_31 : zCode 57 31 = some (.iconst 0, 32, 0, 0, 0, 0, 11) := cAN_twinsAhead_1 _ (List.mem_of_getElem? (i := 5) rfl)
theorem cN_twinsAhead_32 : zCode 57 32 = some (.ior, 33, 0, 0, 0, 0, 11) := cAN_twinsAhead_1 _ (List.mem_of_getElem? (i := 6) rfl)
theorem cN_twinsAhead_33 : zCode 57 33 = some (.istore_n 2, 34, 0, 0, 0, 0, 11) := cAN_twinsAhead_1 _ (List.mem_of_getElem? (i := 7) rfl)
theorem cN_twinsAhead_34 : zCode 57 34 = some (.iinc 3 1, 37, 0, 0, 0, 0, 15) := cAN_twinsAhead_1 _ (List.mem_of_getElem? (i := 8) rfl)
theorem cN_twinsAhead_37 : zCode 57 37 = some (.goto (-33), 40, 4, 0, 0, 0, 15) := cAN_twinsAhead_1 _ (List.mem_of_getElem? (i := 9) rfl)
theorem cN_twinsAhead_40 : zCode 57 40 = some (.iload_n 2, 41, 0, 0, 0, 0, 4) := cAN_twinsAhead_1 _ (List.mem_of_getElem? (i := 10) rfl)
theorem cN_twinsAhead_41 : zCode 57 41 = some (.ireturn, 42, 0, 0, 0, 0, 0) := cAN_twinsAhead_1 _ (List.mem_of_getElem? (i := 11) rfl)
theorem rN_twinsAhead_0 {a0 : Nat} {a1 : Int} {u2 u3 : zV} : zS 57 0 [zR a0, zI a1, u2, u3] [] sh pp mm Q ↔ zS 57 1 [zR a0, zI a1, zU, zU] [zI 0] sh pp mm Q := s_go cN_twinsAhead_0 cN_twinsAhead_1 rfl rfl
theorem rN_twinsAhead_1 {a0 : Nat} {a1 s0 : Int} {u2 u3 : zV} : zS 57 1 [zR a0, zI a1, u2, u3] [zI s0] sh pp mm Q ↔ zS 57 2 [zR a0, zI a1, zI s0, zU] [] sh pp mm Q := s_go cN_twinsAhead_1 cN_twinsAhead_2 rfl rfl
theorem rN_twinsAhead_2 {a0 : Nat} {a1 a2 : Int} {u3 : zV} : zS 57 2 [zR a0, zI a1, zI a2, u3] [] sh pp mm Q ↔ zS 57 3 [zR a0, zI a1, zI a2, zU] [zI 0] sh pp mm Q := s_go cN_twinsAhead_2 cN_twinsAhead_3 rfl rfl
theorem rN_twinsAhead_3 {a0 : Nat} {a1 a2 s0 : Int} {u3 : zV} : zS 57 3 [zR a0, zI a1, zI a2, u3] [zI s0] sh pp mm Q ↔ zS 57 4 [zR a0, zI a1, zI a2, zI s0] [] sh pp mm Q := s_go cN_twinsAhead_3 cN_twinsAhead_4 rfl rfl
theorem rN_twinsAhead_4 {a0 : Nat} {a1 a2 a3 : Int} : zS 57 4 [zR a0, zI a1, zI a2, zI a3] [] sh pp mm Q ↔ zS 57 5 [zR a0, zI a1, zI a2, zI a3] [zI a3] sh pp mm Q := s_go cN_twinsAhead_4 cN_twinsAhead_5 rfl rfl
theorem rN_twinsAhead_5 {a0 : Nat} {a1 a2 a3 s0 : Int} : zS 57 5 [zR a0, zI a1, zI a2, zI a3] [zI s0] sh pp mm Q ↔ zS 57 6 [zR a0, zI a1, zI a2, zI a3] [zI a1, zI s0] sh pp mm Q := s_go cN_twinsAhead_5 cN_twinsAhead_6 rfl rfl
theorem rN_twinsAhead_6 {a0 : Nat} {a1 a2 a3 s0 s1 : Int} : zS 57 6 [zR a0, zI a1, zI a2, zI a3] [zI s0, zI s1] sh pp mm Q ↔ (s1 < s0 → zS 57 9 [zR a0, zI a1, zI a2, zI a3] [] sh pp mm Q) ∧ (¬ s1 < s0 → zS 57 40 [zU, zU, zI a2, zU] [] sh pp mm Q) := s_ifn cN_twinsAhead_6 cN_twinsAhead_9 cN_twinsAhead_40 rfl rfl rfl
theorem rN_twinsAhead_9 {a0 : Nat} {a1 a2 a3 : Int} : zS 57 9 [zR a0, zI a1, zI a2, zI a3] [] sh pp mm Q ↔ zS 57 10 [zR a0, zI a1, zU, zI a3] [zI a2] sh pp mm Q := s_go cN_twinsAhead_9 cN_twinsAhead_10 rfl rfl
theorem rN_twinsAhead_10 {a0 : Nat} {a1 a3 s0 : Int} {u2 : zV} : zS 57 10 [zR a0, zI a1, u2, zI a3] [zI s0] sh pp mm Q ↔ zS 57 11 [zR a0, zI a1, zU, zI a3] [zR a0, zI s0] sh pp mm Q := s_go cN_twinsAhead_10 cN_twinsAhead_11 rfl rfl
theorem rN_twinsAhead_11 {a0 s0 : Nat} {a1 a3 s1 : Int} {u2 : zV} (hk : zKd sh s0 = 6) : zS 57 11 [zR a0, zI a1, u2, zI a3] [zR s0, zI s1] sh pp mm Q ↔ zS 57 14 [zR a0, zI a1, zU, zI a3] [zR (pp s0 6), zI s1] sh pp mm Q := s_go cN_twinsAhead_11 cN_twinsAhead_14 (if_pos hk) rfl
theorem rN_twinsAhead_14 {a0 s0 : Nat} {a1 a3 s1 : Int} {u2 : zV} : zS 57 14 [zR a0, zI a1, u2, zI a3] [zR s0, zI s1] sh pp mm Q ↔ zS 57 15 [zR a0, zI a1, zU, zI a3] [zI a3, zR s0, zI s1] sh pp mm Q := s_go cN_twinsAhead_14 cN_twinsAhead_15 rfl rfl
theorem rN_twinsAhead_15 {a0 s1 : Nat} {a1 a3 s0 s2 : Int} {u2 : zV} (hk : zKd sh s1 = 20 ∨ zKd sh s1 = 30) (h0 : 0 ≤ s0) (h1 : s0 < zLn sh s1) : zS 57 15 [zR a0, zI a1, u2, zI a3] [zI s0, zR s1, zI s2] sh pp mm Q ↔ zS 57 16 [zR a0, zI a1, zU, zI a3] [zI (mm s1 s0), zI s2] sh pp mm Q := s_go cN_twinsAhead_15 cN_twinsAhead_16 (if_pos ⟨hk, h0, h1⟩) rfl
theorem rN_twinsAhead_16 {a0 : Nat} {a1 a3 s0 s1 : Int} {u2 : zV} : zS 57 16 [zR a0, zI a1, u2, zI a3] [zI s0, zI s1] sh pp mm Q ↔ zS 57 17 [zR a0, zI a1, zU, zI a3] [zR a0, zI s0, zI s1] sh pp mm Q := s_go cN_twinsAhead_16 cN_twinsAhead_17 rfl rfl
theorem rN_twinsAhead_17 {a0 s0 : Nat} {a1 a3 s1 s2 : Int} {u2 : zV} (hk : zKd sh s0 = 6) : zS 57 17 [zR a0, zI a1, u2, zI a3] [zR s0, zI s1, zI s2] sh pp mm Q ↔ zS 57 20 [zR a0, zI a1, zU, zI a3] [zR (pp s0 6), zI s1, zI s2] sh pp mm Q := s_go cN_twinsAhead_17 cN_twinsAhead_20 (if_pos hk) rfl
theorem rN_twinsAhead_20 {a0 s0 : Nat} {a1 a3 s1 s2 : Int} {u2 : zV} : zS 57 20 [zR a0, zI a1, u2, zI a3] [zR s0, zI s1, zI s2] sh pp mm Q ↔ zS 57 21 [zR a0, zI a1, zU, zI a3] [zI a1, zR s0, zI s1, zI s2] sh pp mm Q := s_go cN_twinsAhead_20 cN_twinsAhead_21 rfl rfl
theorem rN_twinsAhead_21 {a0 s1 : Nat} {a1 a3 s0 s2 s3 : Int} {u2 : zV} (hk : zKd sh s1 = 20 ∨ zKd sh s1 = 30) (h0 : 0 ≤ s0) (h1 : s0 < zLn sh s1) : zS 57 21 [zR a0, zI a1, u2, zI a3] [zI s0, zR s1, zI s2, zI s3] sh pp mm Q ↔ zS 57 22 [zR a0, zI a1, zU, zI a3] [zI (mm s1 s0), zI s2, zI s3] sh pp mm Q := s_go cN_twinsAhead_21 cN_twinsAhead_22 (if_pos ⟨hk, h0, h1⟩) rfl
theorem rN_twinsAhead_22 {a0 : Nat} {a1 a3 s0 s1 s2 : Int} {u2 : zV} : zS 57 22 [zR a0, zI a1, u2, zI a3] [zI s0, zI s1, zI s2] sh pp mm Q ↔ (s1 = s0 → zS 57 25 [zR a0, zI a1, zU, zI a3] [zI s2] sh pp mm Q) ∧ (¬ s1 = s0 → zS 57 31 [zR a0, zI a1, zU, zI a3] [zI s2] sh pp mm Q) := s_ifn cN_twinsAhead_22 cN_twinsAhead_25 cN_twinsAhead_31 rfl rfl rfl
theorem rN_twinsAhead_25 {a0 : Nat} {a1 a3 s0 : Int} {u2 : zV} : zS 57 25 [zR a0, zI a1, u2, zI a3] [zI s0] sh pp mm Q ↔ zS 57 26 [zR a0, zI a1, zU, zI a3] [zI 1, zI s0] sh pp mm Q := s_go cN_twinsAhead_25 cN_twinsAhead_26 rfl rfl
theorem rN_twinsAhead_26 {a0 : Nat} {a1 a3 s0 s1 : Int} {u2 : zV} : zS 57 26 [zR a0, zI a1, u2, zI a3] [zI s0, zI s1] sh pp mm Q ↔ zS 57 27 [zR a0, zI a1, zU, zI a3] [zI a3, zI s0, zI s1] sh pp mm Q := s_go cN_twinsAhead_26 cN_twinsAhead_27 rfl rfl
theorem rN_twinsAhead_27 {a0 : Nat} {a1 a3 s0 s1 s2 : Int} {u2 : zV} : zS 57 27 [zR a0, zI a1, u2, zI a3] [zI s0, zI s1, zI s2] sh pp mm Q ↔ zS 57 28 [zR a0, zI a1, zU, zI a3] [zI (zshl s1 s0), zI s2] sh pp mm Q := s_go cN_twinsAhead_27 cN_twinsAhead_28 rfl rfl
theorem rN_twinsAhead_28 {a0 : Nat} {a1 a3 s0 s1 : Int} {u2 : zV} : zS 57 28 [zR a0, zI a1, u2, zI a3] [zI s0, zI s1] sh pp mm Q ↔ zS 57 32 [zR a0, zI a1, zU, zI a3] [zI s0, zI s1] sh pp mm Q := s_go cN_twinsAhead_28 cN_twinsAhead_32 rfl rfl
theorem rN_twinsAhead_31 {a0 : Nat} {a1 a3 s0 : Int} {u2 : zV} : zS 57 31 [zR a0, zI a1, u2, zI a3] [zI s0] sh pp mm Q ↔ zS 57 32 [zR a0, zI a1, zU, zI a3] [zI 0, zI s0] sh pp mm Q := s_go cN_twinsAhead_31 cN_twinsAhead_32 rfl rfl
theorem rN_twinsAhead_32 {a0 : Nat} {a1 a3 s0 s1 : Int} {u2 : zV} : zS 57 32 [zR a0, zI a1, u2, zI a3] [zI s0, zI s1] sh pp mm Q ↔ zS 57 33 [zR a0, zI a1, zU, zI a3] [zI (zor s1 s0)] sh pp mm Q := s_go cN_twinsAhead_32 cN_twinsAhead_33 rfl rfl
theorem rN_twinsAhead_33 {a0 : Nat} {a1 a3 s0 : Int} {u2 : zV} : zS 57 33 [zR a0, zI a1, u2, zI a3] [zI s0] sh pp mm Q ↔ zS 57 34 [zR a0, zI a1, zI s0, zI a3] [] sh pp mm Q := s_go cN_twinsAhead_33 cN_twinsAhead_34 rfl rfl
theorem rN_twinsAhead_34 {a0 : Nat} {a1 a2 a3 : Int} : zS 57 34 [zR a0, zI a1, zI a2, zI a3] [] sh pp mm Q ↔ zS 57 37 [zR a0, zI a1, zI a2, zI (zw32 (a3 + 1))] [] sh pp mm Q := s_go cN_twinsAhead_34 cN_twinsAhead_37 rfl rfl
theorem rN_twinsAhead_37 {a0 : Nat} {a1 a2 a3 : Int} : zS 57 37 [zR a0, zI a1, zI a2, zI a3] [] sh pp mm Q ↔ zS 57 4 [zR a0, zI a1, zI a2, zI a3] [] sh pp mm Q := s_go cN_twinsAhead_37 cN_twinsAhead_4 rfl rfl
theorem rN_twinsAhead_40 {a2 : Int} {u0 u1 u3 : zV} : zS 57 40 [u0, u1, zI a2, u3] [] sh pp mm Q ↔ zS 57 41 [zU, zU, zU, zU] [zI a2] sh pp mm Q := s_go cN_twinsAhead_40 cN_twinsAhead_41 rfl rfl
theorem rN_twinsAhead_41 {s0 : Int} {u0 u1 u2 u3 : zV} : zS 57 41 [u0, u1, u2, u3] [zI s0] sh pp mm Q ↔ Q (zI s0) sh pp mm := s_ret cN_twinsAhead_41 rfl
theorem cAN_allEdges : ∀ q ∈ zT58, zCode 58 q.1 = some q.2 := zAll (mid := 58) rfl (by decide +kernel)
theorem cAN_allEdges_0 : ∀ q ∈ zT58_0, zCode 58 q.1 = some q.2 := fun q h => cAN_allEdges q (h)
theorem cN_allEdges_0 : zCode 58 0 = some (.iconst 1, 1, 0, 0, 0, 0, 1) := cAN_allEdges_0 _ (List.mem_of_getElem? (i := 0) rfl)
theorem cN_allEdges_1 : zCode 58 1 = some (.aload_n 0, 2, 0, 0, 0, 0, 1) := cAN_allEdges_0 _ (List.mem_of_getElem? (i := 1) rfl)
theorem cN_allEdges_2 : zCode 58 2 = some (.getfield 22, 5, 6, 3, 0, 217, 0) := cAN_allEdges_0 _ (List.mem_of_getElem? (i := 2) rfl)
theorem cN_allEdges_5 : zCode 58 5 = some (.ishl, 6, 0, 0, 0, 0, 0) := cAN_allEdges_0 _ (List.mem_of_getElem? (i := 3) rfl)
theorem cN_allEdges_6 : zCode 58 6 = some (.iconst 1, 7, 0, 0, 0, 0, 0) := cAN_allEdges_0 _ (List.mem_of_getElem? (i := 4) rfl)
theorem cN_allEdges_7 : zCode 58 7 = some (.isub, 8, 0, 0, 0, 0, 0) := cAN_allEdges_0 _ (List.mem_of_getElem? (i := 5) rfl)
theorem cN_allEdges_8 : zCode 58 8 = some (.ireturn, 9, 0, 0, 0, 0, 0) := cAN_allEdges_0 _ (List.mem_of_getElem? (i := 6) rfl)
theorem rN_allEdges_0 {a0 : Nat} : zS 58 0 [zR a0] [] sh pp mm Q ↔ zS 58 1 [zR a0] [zI 1] sh pp mm Q := s_go cN_allEdges_0 cN_allEdges_1 rfl rfl
theorem rN_allEdges_1 {a0 : Nat} {s0 : Int} : zS 58 1 [zR a0] [zI s0] sh pp mm Q ↔ zS 58 2 [zU] [zR a0, zI s0] sh pp mm Q := s_go cN_allEdges_1 cN_allEdges_2 rfl rfl
theorem rN_allEdges_2 {s0 : Nat} {s1 : Int} {u0 : zV} (hk : zKd sh s0 = 6) : zS 58 2 [u0] [zR s0, zI s1] sh pp mm Q ↔ zS 58 5 [zU] [zI (mm s0 3), zI s1] sh pp mm Q := s_go cN_allEdges_2 cN_allEdges_5 (if_pos hk) rfl
theorem rN_allEdges_5 {s0 s1 : Int} {u0 : zV} : zS 58 5 [u0] [zI s0, zI s1] sh pp mm Q ↔ zS 58 6 [zU] [zI (zshl s1 s0)] sh pp mm Q := s_go cN_allEdges_5 cN_allEdges_6 rfl rfl
theorem rN_allEdges_6 {s0 : Int} {u0 : zV} : zS 58 6 [u0] [zI s0] sh pp mm Q ↔ zS 58 7 [zU] [zI 1, zI s0] sh pp mm Q := s_go cN_allEdges_6 cN_allEdges_7 rfl rfl
theorem rN_allEdges_7 {s0 s1 : Int} {u0 : zV} : zS 58 7 [u0] [zI s0, zI s1] sh pp mm Q ↔ zS 58 8 [zU] [zI (zw32 (s1 - s0))] sh pp mm Q := s_go cN_allEdges_7 cN_allEdges_8 rfl rfl
theorem rN_allEdges_8 {s0 : Int} {u0 : zV} : zS 58 8 [u0] [zI s0] sh pp mm Q ↔ Q (zI s0) sh pp mm := s_ret cN_allEdges_8 rfl
theorem cAN_otherEnd : ∀ q ∈ zT59, zCode 59 q.1 = some q.2 := zAll (mid := 59) rfl (by decide +kernel)
theorem cAN_otherEnd_0 : ∀ q ∈ zT59_0, zCode 59 q.1 = some q.2 := fun q h => cAN_otherEnd q (h)
theorem cN_otherEnd_0 : zCode 59 0 = some (.aload_n 0, 1, 0, 0, 0, 0, 7) := cAN_otherEnd_0 _ (List.mem_of_getElem? (i := 0) rfl)
theorem cN_otherEnd_1 : zCode 59 1 = some (.getfield 25, 4, 6, 4, 2, 219, 7) := cAN_otherEnd_0 _ (List.mem_of_getElem? (i := 1) rfl)
theorem cN_otherEnd_4 : zCode 59 4 = some (.iload_n 1, 5, 0, 0, 0, 0, 7) := cAN_otherEnd_0 _ (List.mem_of_getElem? (i := 2) rfl)
theorem cN_otherEnd_5 : zCode 59 5 = some (.iaload, 6, 0, 0, 0, 0, 7) := cAN_otherEnd_0 _ (List.mem_of_getElem? (i := 3) rfl)
theorem cN_otherEnd_6 : zCode 59 6 = some (.iload_n 2, 7, 0, 0, 0, 0, 7) := cAN_otherEnd_0 _ (List.mem_of_getElem? (i := 4) rfl)
theorem cN_otherEnd_7 : zCode 59 7 = some (.if_icmp .ne 12, 10, 19, 0, 0, 0, 3) := cAN_otherEnd_0 _ (List.mem_of_getElem? (i := 5) rfl)
theorem cN_otherEnd_10 : zCode 59 10 = some (.aload_n 0, 11, 0, 0, 0, 0, 3) := cAN_otherEnd_0 _ (List.mem_of_getElem? (i := 6) rfl)
theorem cN_otherEnd_11 : zCode 59 11 = some (.getfield 29, 14, 6, 5, 2, 221, 2) := cAN_otherEnd_0 _ (List.mem_of_getElem? (i := 7) rfl)
theorem cN_otherEnd_14 : zCode 59 14 = some (.iload_n 1, 15, 0, 0, 0, 0, 2) := cAN_otherEnd_0 _ (List.mem_of_getElem? (i := 8) rfl)
theorem cN_otherEnd_15 : zCode 59 15 = some (.iaload, 16, 0, 0, 0, 0, 0) := cAN_otherEnd_0 _ (List.mem_of_getElem? (i := 9) rfl)
theorem cN_otherEnd_16 : zCode 59 16 = some (.goto 9, 19, 25, 0, 0, 0, 0) := cAN_otherEnd_0 _ (List.mem_of_getElem? (i := 10) rfl)
theorem cN_otherEnd_19 : zCode 59 19 = some (.aload_n 0, 20, 0, 0, 0, 0, 3) := cAN_otherEnd_0 _ (List.mem_of_getElem? (i := 11) rfl)
theorem cN_otherEnd_20 : zCode 59 20 = some (.getfield 25, 23, 6, 4, 2, 219, 2) := cAN_otherEnd_0 _ (List.mem_of_getElem? (i := 12) rfl)
theorem cN_otherEnd_23 : zCode 59 23 = some (.iload_n 1, 24, 0, 0, 0, 0, 2) := cAN_otherEnd_0 _ (List.mem_of_getElem? (i := 13) rfl)
theorem cN_otherEnd_24 : zCode 59 24 = some (.iaload, 25, 0, 0, 0, 0, 0) := cAN_otherEnd_0 _ (List.mem_of_getElem? (i := 14) rfl)
theorem cN_otherEnd_25 : zCode 59 25 = some (.ireturn, 26, 0, 0, 0, 0, 0) := cAN_otherEnd_0 _ (List.mem_of_getElem? (i := 15) rfl)
theorem rN_otherEnd_0 {a0 : Nat} {a1 a2 : Int} : zS 59 0 [zR a0, zI a1, zI a2] [] sh pp mm Q ↔ zS 59 1 [zR a0, zI a1, zI a2] [zR a0] sh pp mm Q := s_go cN_otherEnd_0 cN_otherEnd_1 rfl rfl
theorem rN_otherEnd_1 {a0 s0 : Nat} {a1 a2 : Int} (hk : zKd sh s0 = 6) : zS 59 1 [zR a0, zI a1, zI a2] [zR s0] sh pp mm Q ↔ zS 59 4 [zR a0, zI a1, zI a2] [zR (pp s0 4)] sh pp mm Q := s_go cN_otherEnd_1 cN_otherEnd_4 (if_pos hk) rfl
theorem rN_otherEnd_4 {a0 s0 : Nat} {a1 a2 : Int} : zS 59 4 [zR a0, zI a1, zI a2] [zR s0] sh pp mm Q ↔ zS 59 5 [zR a0, zI a1, zI a2] [zI a1, zR s0] sh pp mm Q := s_go cN_otherEnd_4 cN_otherEnd_5 rfl rfl
theorem rN_otherEnd_5 {a0 s1 : Nat} {a1 a2 s0 : Int} (hk : zKd sh s1 = 20 ∨ zKd sh s1 = 30) (h0 : 0 ≤ s0) (h1 : s0 < zLn sh s1) : zS 59 5 [zR a0, zI a1, zI a2] [zI s0, zR s1] sh pp mm Q ↔ zS 59 6 [zR a0, zI a1, zI a2] [zI (mm s1 s0)] sh pp mm Q := s_go cN_otherEnd_5 cN_otherEnd_6 (if_pos ⟨hk, h0, h1⟩) rfl
theorem rN_otherEnd_6 {a0 : Nat} {a1 a2 s0 : Int} : zS 59 6 [zR a0, zI a1, zI a2] [zI s0] sh pp mm Q ↔ zS 59 7 [zR a0, zI a1, zU] [zI a2, zI s0] sh pp mm Q := s_go cN_otherEnd_6 cN_otherEnd_7 rfl rfl
theorem rN_otherEnd_7 {a0 : Nat} {a1 s0 s1 : Int} {u2 : zV} : zS 59 7 [zR a0, zI a1, u2] [zI s0, zI s1] sh pp mm Q ↔ (s1 = s0 → zS 59 10 [zR a0, zI a1, zU] [] sh pp mm Q) ∧ (¬ s1 = s0 → zS 59 19 [zR a0, zI a1, zU] [] sh pp mm Q) := s_ifn cN_otherEnd_7 cN_otherEnd_10 cN_otherEnd_19 rfl rfl rfl
theorem rN_otherEnd_10 {a0 : Nat} {a1 : Int} {u2 : zV} : zS 59 10 [zR a0, zI a1, u2] [] sh pp mm Q ↔ zS 59 11 [zU, zI a1, zU] [zR a0] sh pp mm Q := s_go cN_otherEnd_10 cN_otherEnd_11 rfl rfl
theorem rN_otherEnd_11 {s0 : Nat} {a1 : Int} {u0 u2 : zV} (hk : zKd sh s0 = 6) : zS 59 11 [u0, zI a1, u2] [zR s0] sh pp mm Q ↔ zS 59 14 [zU, zI a1, zU] [zR (pp s0 5)] sh pp mm Q := s_go cN_otherEnd_11 cN_otherEnd_14 (if_pos hk) rfl
theorem rN_otherEnd_14 {s0 : Nat} {a1 : Int} {u0 u2 : zV} : zS 59 14 [u0, zI a1, u2] [zR s0] sh pp mm Q ↔ zS 59 15 [zU, zU, zU] [zI a1, zR s0] sh pp mm Q := s_go cN_otherEnd_14 cN_otherEnd_15 rfl rfl
theorem rN_otherEnd_15 {s1 : Nat} {s0 : Int} {u0 u1 u2 : zV} (hk : zKd sh s1 = 20 ∨ zKd sh s1 = 30) (h0 : 0 ≤ s0) (h1 : s0 < zLn sh s1) : zS 59 15 [u0, u1, u2] [zI s0, zR s1] sh pp mm Q ↔ zS 59 16 [zU, zU, zU] [zI (mm s1 s0)] sh pp mm Q := s_go cN_otherEnd_15 cN_otherEnd_16 (if_pos ⟨hk, h0, h1⟩) rfl
theorem rN_otherEnd_16 {s0 : Int} {u0 u1 u2 : zV} : zS 59 16 [u0, u1, u2] [zI s0] sh pp mm Q ↔ zS 59 25 [zU, zU, zU] [zI s0] sh pp mm Q := s_go cN_otherEnd_16 cN_otherEnd_25 rfl rfl
theorem rN_otherEnd_19 {a0 : Nat} {a1 : Int} {u2 : zV} : zS 59 19 [zR a0, zI a1, u2] [] sh pp mm Q ↔ zS 59 20 [zU, zI a1, zU] [zR a0] sh pp mm Q := s_go cN_otherEnd_19 cN_otherEnd_20 rfl rfl
theorem rN_otherEnd_20 {s0 : Nat} {a1 : Int} {u0 u2 : zV} (hk : zKd sh s0 = 6) : zS 59 20 [u0, zI a1, u2] [zR s0] sh pp mm Q ↔ zS 59 23 [zU, zI a1, zU] [zR (pp s0 4)] sh pp mm Q := s_go cN_otherEnd_20 cN_otherEnd_23 (if_pos hk) rfl
theorem rN_otherEnd_23 {s0 : Nat} {a1 : Int} {u0 u2 : zV} : zS 59 23 [u0, zI a1, u2] [zR s0] sh pp mm Q ↔ zS 59 24 [zU, zU, zU] [zI a1, zR s0] sh pp mm Q := s_go cN_otherEnd_23 cN_otherEnd_24 rfl rfl
theorem rN_otherEnd_24 {s1 : Nat} {s0 : Int} {u0 u1 u2 : zV} (hk : zKd sh s1 = 20 ∨ zKd sh s1 = 30) (h0 : 0 ≤ s0) (h1 : s0 < zLn sh s1) : zS 59 24 [u0, u1, u2] [zI s0, zR s1] sh pp mm Q ↔ zS 59 25 [zU, zU, zU] [zI (mm s1 s0)] sh pp mm Q := s_go cN_otherEnd_24 cN_otherEnd_25 (if_pos ⟨hk, h0, h1⟩) rfl
theorem rN_otherEnd_25 {s0 : Int} {u0 u1 u2 : zV} : zS 59 25 [u0, u1, u2] [zI s0] sh pp mm Q ↔ Q (zI s0) sh pp mm := s_ret cN_otherEnd_25 rfl
theorem cAN_hangsOn : ∀ q ∈ zT60, zCode 60 q.1 = some q.2 := zAll (mid := 60) rfl (by decide +kernel)
theorem cAN_hangsOn_0 : ∀ q ∈ zT60_0, zCode 60 q.1 = some q.2 := fun q h => cAN_hangsOn q (List.mem_append_left _ h)
theorem cAN_hangsOn_1 : ∀ q ∈ zT60_1, zCode 60 q.1 = some q.2 := fun q h => cAN_hangsOn q (List.mem_append_right _ (List.mem_append_left _ h))
theorem cAN_hangsOn_2 : ∀ q ∈ zT60_2, zCode 60 q.1 = some q.2 := fun q h => cAN_hangsOn q (List.mem_append_right _ (List.mem_append_right _ (List.mem_append_left _ h)))
theorem cAN_hangsOn_3 : ∀ q ∈ zT60_3, zCode 60 q.1 = some q.2 := fun q h => cAN_hangsOn q (List.mem_append_right _ (List.mem_append_right _ (List.mem_append_right _ (List.mem_append_left _ h))))
theorem cAN_hangsOn_4 : ∀ q ∈ zT60_4, zCode 60 q.1 = some q.2 := fun q h => cAN_hangsOn q (List.mem_append_right _ (List.mem_append_right _ (List.mem_append_right _ (List.mem_append_right _ h))))
theorem cN_hangsOn_0 : zCode 60 0 = some (.iconst 1, 1, 0, 0, 0, 0, 7) := cAN_hangsOn_0 _ (List.mem_of_getElem? (i := 0) rfl)
theorem cN_hangsOn_1 : zCode 60 1 = some (.iload_n 1, 2, 0, 0, 0, 0, 7) := cAN_hangsOn_0 _ (List.mem_of_getElem? (i := 1) rfl)
theorem cN_hangsOn_2 : zCode 60 2 = some (.ishl, 3, 0, 0, 0, 0, 5) := cAN_hangsOn_0 _ (List.mem_of_getElem? (i := 2) rfl)
theorem cN_hangsOn_3 : zCode 60 3 = some (.istore_n 3, 4, 0, 0, 0, 0, 5) := cAN_hangsOn_0 _ (List.mem_of_getElem? (i := 3) rfl)
theorem cN_hangsOn_4 : zCode 60 4 = some (.iload_n 2, 5, 0, 0, 0, 0, 13) := cAN_hangsOn_0 _ (List.mem_of_getElem? (i := 4) rfl)
theorem cN_hangsOn_5 : zCode 60 5 = some (.istore 4, 7, 0, 0, 0, 0, 9) := cAN_hangsOn_0 _ (List.mem_of_getElem? (i := 5) rfl)
theorem cN_hangsOn_7 : zCode 60 7 = some (.iconst 0, 8, 0, 0, 0, 0, 25) := cAN_hangsOn_0 _ (List.mem_of_getElem? (i := 6) rfl)
theorem cN_hangsOn_8 : zCode 60 8 = some (.istore 5, 10, 0, 0, 0, 0, 25) := cAN_hangsOn_0 _ (List.mem_of_getElem? (i := 7) rfl)
theorem cN_hangsOn_10 : zCode 60 10 = some (.iload 5, 12, 0, 0, 0, 0, 57) := cAN_hangsOn_0 _ (List.mem_of_getElem? (i := 8) rfl)
theorem cN_hangsOn_12 : zCode 60 12 = some (.aload_n 0, 13, 0, 0, 0, 0, 57) := cAN_hangsOn_0 _ (List.mem_of_getElem? (i := 9) rfl)
theorem cN_hangsOn_13 : zCode 60 13 = some (.getfield 22, 16, 6, 3, 0, 217, 57) := cAN_hangsOn_0 _ (List.mem_of_getElem? (i := 10) rfl)
theorem cN_hangsOn_16 : zCode 60 16 = some (.if_icmp .ge 90, 19, 106, 0, 0, 0, 57) := cAN_hangsOn_0 _ (List.mem_of_getElem? (i := 11) rfl)
theorem cN_hangsOn_19 : zCode 60 19 = some (.iload 4, 21, 0, 0, 0, 0, 57) := cAN_hangsOn_0 _ (List.mem_of_getElem? (i := 12) rfl)
theorem cN_hangsOn_21 : zCode 60 21 = some (.ifCond .eq 85, 24, 106, 0, 0, 0, 57) := cAN_hangsOn_0 _ (List.mem_of_getElem? (i := 13) rfl)
theorem cN_hangsOn_24 : zCode 60 24 = some (.iload 4, 26, 0, 0, 0, 0, 57) := cAN_hangsOn_0 _ (List.mem_of_getElem? (i := 14) rfl)
theorem cN_hangsOn_26 : zCode 60 26 = some (.istore 6, 28, 0, 0, 0, 0, 57) := cAN_hangsOn_0 _ (List.mem_of_getElem? (i := 15) rfl)
theorem cN_hangsOn_28 : zCode 60 28 = some (.iconst 0, 29, 0, 0, 0, 0, 121) := cAN_hangsOn_1 _ (List.mem_of_getElem? (i := 0) rfl)
theorem cN_hangsOn_29 : zCode 60 29 = some (.istore 7, 31, 0, 0, 0, 0, 121) := cAN_hangsOn_1 _ (List.mem_of_getElem? (i := 1) rfl)
theorem cN_hangsOn_31 : zCode 60 31 = some (.iload 7, 33, 0, 0, 0, 0, 249) := cAN_hangsOn_1 _ (List.mem_of_getElem? (i := 2) rfl)
theorem cN_hangsOn_33 : zCode 60 33 = some (.aload_n 0, 34, 0, 0, 0, 0, 249) := cAN_hangsOn_1 _ (List.mem_of_getElem? (i := 3) rfl)
theorem cN_hangsOn_34 : zCode 60 34 = some (.getfield 22, 37, 6, 3, 0, 217, 249) := cAN_hangsOn_1 _ (List.mem_of_getElem? (i := 4) rfl)
theorem cN_hangsOn_37 : zCode 60 37 = some (.if_icmp .ge 53, 40, 90, 0, 0, 0, 249) := cAN_hangsOn_1 _ (List.mem_of_getElem? (i := 5) rfl)
theorem cN_hangsOn_40 : zCode 60 40 = some (.iload 4, 42, 0, 0, 0, 0, 249) := cAN_hangsOn_1 _ (List.mem_of_getElem? (i := 6) rfl)
theorem cN_hangsOn_42 : zCode 60 42 = some (.iload 7, 44, 0, 0, 0, 0, 249) := cAN_hangsOn_1 _ (List.mem_of_getElem? (i := 7) rfl)
theorem cN_hangsOn_44 : zCode 60 44 = some (.ishr, 45, 0, 0, 0, 0, 249) := cAN_hangsOn_1 _ (List.mem_of_getElem? (i := 8) rfl)
theorem cN_hangsOn_45 : zCode 60 45 = some (.iconst 1, 46, 0, 0, 0, 0, 249) := cAN_hangsOn_1 _ (List.mem_of_getElem? (i := 9) rfl)
theorem cN_hangsOn_46 : zCode 60 46 = some (.iand, 47, 0, 0, 0, 0, 249) := cAN_hangsOn_1 _ (List.mem_of_getElem? (i := 10) rfl)
theorem cN_hangsOn_47 : zCode 60 47 = some (.iconst 1, 48, 0, 0, 0, 0, 249) := cAN_hangsOn_1 _ (List.mem_of_getElem? (i := 11) rfl)
theorem cN_hangsOn_48 : zCode 60 48 = some (.if_icmp .ne 36, 51, 84, 0, 0, 0, 249) := cAN_hangsOn_1 _ (List.mem_of_getElem? (i := 12) rfl)
theorem cN_hangsOn_51 : zCode 60 51 = some (.aload_n 0, 52, 0, 0, 0, 0, 249) := cAN_hangsOn_1 _ (List.mem_of_getElem? (i := 13) rfl)
theorem cN_hangsOn_52 : zCode 60 52 = some (.getfield 32, 55, 6, 6, 2, 222, 249) := cAN_hangsOn_1 _ (List.mem_of_getElem? (i := 14) rfl)
theorem cN_hangsOn_55 : zCode 60 55 = some (.iload 7, 57, 0, 0, 0, 0, 249) := cAN_hangsOn_1 _ (List.mem_of_getElem? (i := 15) rfl)
theorem cN_hangsOn_57 : zCode 60 57 = some (.iaload, 58, 0, 0, 0, 0, 249) := cAN_hangsOn_2 _ (List.mem_of_getElem? (i := 0) rfl)
theorem cN_hangsOn_58 : zCode 60 58 = some (.iload_n 3, 59, 0, 0, 0, 0, 249) := cAN_hangsOn_2 _ (List.mem_of_getElem? (i := 1) rfl)
theorem cN_hangsOn_59 : zCode 60 59 = some (.iand, 60, 0, 0, 0, 0, 249) := cAN_hangsOn_2 _ (List.mem_of_getElem? (i := 2) rfl)
theorem cN_hangsOn_60 : zCode 60 60 = some (.ifCond .eq 24, 63, 84, 0, 0, 0, 249) := cAN_hangsOn_2 _ (List.mem_of_getElem? (i := 3) rfl)
theorem cN_hangsOn_63 : zCode 60 63 = some (.iload_n 3, 64, 0, 0, 0, 0, 249) := cAN_hangsOn_2 _ (List.mem_of_getElem? (i := 4) rfl)
theorem cN_hangsOn_64 : zCode 60 64 = some (.aload_n 0, 65, 0, 0, 0, 0, 241) := cAN_hangsOn_2 _ (List.mem_of_getElem? (i := 5) rfl)
theorem cN_hangsOn_65 : zCode 60 65 = some (.getfield 32, 68, 6, 6, 2, 222, 241) := cAN_hangsOn_2 _ (List.mem_of_getElem? (i := 6) rfl)
theorem cN_hangsOn_68 : zCode 60 68 = some (.iload 7, 70, 0, 0, 0, 0, 241) := cAN_hangsOn_2 _ (List.mem_of_getElem? (i := 7) rfl)
theorem cN_hangsOn_70 : zCode 60 70 = some (.iaload, 71, 0, 0, 0, 0, 241) := cAN_hangsOn_2 _ (List.mem_of_getElem? (i := 8) rfl)
theorem cN_hangsOn_71 : zCode 60 71 = some (.ior, 72, 0, 0, 0, 0, 241) := cAN_hangsOn_2 _ (List.mem_of_getElem? (i := 9) rfl)
theorem cN_hangsOn_72 : zCode 60 72 = some (.istore_n 3, 73, 0, 0, 0, 0, 241) := cAN_hangsOn_2 _ (List.mem_of_getElem? (i := 10) rfl)
theorem cN_hangsOn_73 : zCode 60 73 = some (.iload 4, 75, 0, 0, 0, 0, 249) := cAN_hangsOn_2 _ (List.mem_of_getElem? (i := 11) rfl)
theorem cN_hangsOn_75 : zCode 60 75 = some (.iconst 1, 76, 0, 0, 0, 0, 233) := cAN_hangsOn_2 _ (List.mem_of_getElem? (i := 12) rfl)
theorem cN_hangsOn_76 : zCode 60 76 = some (.iload 7, 78, 0, 0, 0, 0, 233) := cAN_hangsOn_2 _ (List.mem_of_getElem? (i := 13) rfl)
theorem cN_hangsOn_78 : zCode 60 78 = some (.ishl, 79, 0, 0, 0, 0, 233) := cAN_hangsOn_2 _ (List.mem_of_getElem? (i := 14) rfl)
theorem cN_hangsOn_79 : zCode 60 79 = some (.iconst (-1), 80, 0, 0, 0, 0, 233) := cAN_hangsOn_2 _ (List.mem_of_getElem? (i := 15) rfl)
theorem cN_hangsOn_80 : zCode 60 80 = some (.ixor, 81, 0, 0, 0, 0, 233) := cAN_hangsOn_3 _ (List.mem_of_getElem? (i := 0) rfl)
theorem cN_hangsOn_81 : zCode 60 81 = some (.iand, 82, 0, 0, 0, 0, 233) := cAN_hangsOn_3 _ (List.mem_of_getElem? (i := 1) rfl)
theorem cN_hangsOn_82 : zCode 60 82 = some (.istore 4, 84, 0, 0, 0, 0, 233) := cAN_hangsOn_3 _ (List.mem_of_getElem? (i := 2) rfl)
theorem cN_hangsOn_84 : zCode 60 84 = some (.iinc 7 1, 87, 0, 0, 0, 0, 249) := cAN_hangsOn_3 _ (List.mem_of_getElem? (i := 3) rfl)
theorem cN_hangsOn_87 : zCode 60 87 = some (.goto (-56), 90, 31, 0, 0, 0, 249) := cAN_hangsOn_3 _ (List.mem_of_getElem? (i := 4) rfl)
theorem cN_hangsOn_90 : zCode 60 90 = some (.iload 4, 92, 0, 0, 0, 0, 121) := cAN_hangsOn_3 _ (List.mem_of_getElem? (i := 5) rfl)
theorem cN_hangsOn_92 : zCode 60 92 = some (.iload 6, 94, 0, 0, 0, 0, 121) := cAN_hangsOn_3 _ (List.mem_of_getElem? (i := 6) rfl)
theorem cN_hangsOn_94 : zCode 60 94 = some (.if_icmp .ne 6, 97, 100, 0, 0, 0, 57) := cAN_hangsOn_3 _ (List.mem_of_getElem? (i := 7) rfl)
theorem cN_hangsOn_97 : zCode 60 97 = some (.goto 9, 100, 106, 0, 0, 0, 16) := cAN_hangsOn_3 _ (List.mem_of_getElem? (i := 8) rfl)
theorem cN_hangsOn_100 : zCode 60 100 = some (.iinc 5 1, 103, 0, 0, 0, 0, 57) := cAN_hangsOn_3 _ (List.mem_of_getElem? (i := 9) rfl)
theorem cN_hangsOn_103 : zCode 60 103 = some (.goto (-93), 106, 10, 0, 0, 0, 57) := cAN_hangsOn_3 _ (List.mem_of_getElem? (i := 10) rfl)
theorem cN_hangsOn_106 : zCode 60 106 = some (.iload 4, 108, 0, 0, 0, 0, 16) := cAN_hangsOn_3 _ (List.mem_of_getElem? (i := 11) rfl)
theorem cN_hangsOn_108 : zCode 60 108 = some (.ifCond .ne 7, 111, 115, 0, 0, 0, 0) := cAN_hangsOn_3 _ (List.mem_of_getElem? (i := 12) rfl)
theorem cN_hangsOn_111 : zCode 60 111 = some (.iconst 1, 112, 0, 0, 0, 0, 0) := cAN_hangsOn_3 _ (List.mem_of_getElem? (i := 13) rfl)
theorem cN_hangsOn_112 : zCode 60 112 = some (.goto 4, 115, 116, 0, 0, 0, 0) := cAN_hangsOn_3 _ (List.mem_of_getElem? (i := 14) rfl)
theorem cN_hangsOn_115 : zCode 60 115 = some (.iconst 0, 116, 0, 0, 0, 0, 0) := cAN_hangsOn_3 _ (List.mem_of_getElem? (i := 15) rfl)
theorem cN_hangsOn_116 : zCode 60 116 = some (.ireturn, 117, 0, 3, 0, 0, 0) := cAN_hangsOn_4 _ (List.mem_of_getElem? (i := 0) rfl)
theorem rN_hangsOn_0 {a0 : Nat} {a1 a2 : Int} {u3 u4 u5 u6 u7 : zV} : zS 60 0 [zR a0, zI a1, zI a2, u3, u4, u5, u6, u7] [] sh pp mm Q ↔ zS 60 1 [zR a0, zI a1, zI a2, zU, zU, zU, zU, zU] [zI 1] sh pp mm Q := s_go cN_hangsOn_0 cN_hangsOn_1 rfl rfl
theorem rN_hangsOn_1 {a0 : Nat} {a1 a2 s0 : Int} {u3 u4 u5 u6 u7 : zV} : zS 60 1 [zR a0, zI a1, zI a2, u3, u4, u5, u6, u7] [zI s0] sh pp mm Q ↔ zS 60 2 [zR a0, zU, zI a2, zU, zU, zU, zU, zU] [zI a1, zI s0] sh pp mm Q := s_go cN_hangsOn_1 cN_hangsOn_2 rfl rfl
theorem rN_hangsOn_2 {a0 : Nat} {a2 s0 s1 : Int} {u1 u3 u4 u5 u6 u7 : zV} : zS 60 2 [zR a0, u1, zI a2, u3, u4, u5, u6, u7] [zI s0, zI s1] sh pp mm Q ↔ zS 60 3 [zR a0, zU, zI a2, zU, zU, zU, zU, zU] [zI (zshl s1 s0)] sh pp mm Q := s_go cN_hangsOn_2 cN_hangsOn_3 rfl rfl
theorem rN_hangsOn_3 {a0 : Nat} {a2 s0 : Int} {u1 u3 u4 u5 u6 u7 : zV} : zS 60 3 [zR a0, u1, zI a2, u3, u4, u5, u6, u7] [zI s0] sh pp mm Q ↔ zS 60 4 [zR a0, zU, zI a2, zI s0, zU, zU, zU, zU] [] sh pp mm Q := s_go cN_hangsOn_3 cN_hangsOn_4 rfl rfl
theorem rN_hangsOn_4 {a0 : Nat} {a2 a3 : Int} {u1 u4 u5 u6 u7 : zV} : zS 60 4 [zR a0, u1, zI a2, zI a3, u4, u5, u6, u7] [] sh pp mm Q ↔ zS 60 5 [zR a0, zU, zU, zI a3, zU, zU, zU, zU] [zI a2] sh pp mm Q := s_go cN_hangsOn_4 cN_hangsOn_5 rfl rfl
theorem rN_hangsOn_5 {a0 : Nat} {a3 s0 : Int} {u1 u2 u4 u5 u6 u7 : zV} : zS 60 5 [zR a0, u1, u2, zI a3, u4, u5, u6, u7] [zI s0] sh pp mm Q ↔ zS 60 7 [zR a0, zU, zU, zI a3, zI s0, zU, zU, zU] [] sh pp mm Q := s_go cN_hangsOn_5 cN_hangsOn_7 rfl rfl
theorem rN_hangsOn_7 {a0 : Nat} {a3 a4 : Int} {u1 u2 u5 u6 u7 : zV} : zS 60 7 [zR a0, u1, u2, zI a3, zI a4, u5, u6, u7] [] sh pp mm Q ↔ zS 60 8 [zR a0, zU, zU, zI a3, zI a4, zU, zU, zU] [zI 0] sh pp mm Q := s_go cN_hangsOn_7 cN_hangsOn_8 rfl rfl
theorem rN_hangsOn_8 {a0 : Nat} {a3 a4 s0 : Int} {u1 u2 u5 u6 u7 : zV} : zS 60 8 [zR a0, u1, u2, zI a3, zI a4, u5, u6, u7] [zI s0] sh pp mm Q ↔ zS 60 10 [zR a0, zU, zU, zI a3, zI a4, zI s0, zU, zU] [] sh pp mm Q := s_go cN_hangsOn_8 cN_hangsOn_10 rfl rfl
theorem rN_hangsOn_10 {a0 : Nat} {a3 a4 a5 : Int} {u1 u2 u6 u7 : zV} : zS 60 10 [zR a0, u1, u2, zI a3, zI a4, zI a5, u6, u7] [] sh pp mm Q ↔ zS 60 12 [zR a0, zU, zU, zI a3, zI a4, zI a5, zU, zU] [zI a5] sh pp mm Q := s_go cN_hangsOn_10 cN_hangsOn_12 rfl rfl
theorem rN_hangsOn_12 {a0 : Nat} {a3 a4 a5 s0 : Int} {u1 u2 u6 u7 : zV} : zS 60 12 [zR a0, u1, u2, zI a3, zI a4, zI a5, u6, u7] [zI s0] sh pp mm Q ↔ zS 60 13 [zR a0, zU, zU, zI a3, zI a4, zI a5, zU, zU] [zR a0, zI s0] sh pp mm Q := s_go cN_hangsOn_12 cN_hangsOn_13 rfl rfl
theorem rN_hangsOn_13 {a0 s0 : Nat} {a3 a4 a5 s1 : Int} {u1 u2 u6 u7 : zV} (hk : zKd sh s0 = 6) : zS 60 13 [zR a0, u1, u2, zI a3, zI a4, zI a5, u6, u7] [zR s0, zI s1] sh pp mm Q ↔ zS 60 16 [zR a0, zU, zU, zI a3, zI a4, zI a5, zU, zU] [zI (mm s0 3), zI s1] sh pp mm Q := s_go cN_hangsOn_13 cN_hangsOn_16 (if_pos hk) rfl
theorem rN_hangsOn_16 {a0 : Nat} {a3 a4 a5 s0 s1 : Int} {u1 u2 u6 u7 : zV} : zS 60 16 [zR a0, u1, u2, zI a3, zI a4, zI a5, u6, u7] [zI s0, zI s1] sh pp mm Q ↔ (s1 < s0 → zS 60 19 [zR a0, zU, zU, zI a3, zI a4, zI a5, zU, zU] [] sh pp mm Q) ∧ (¬ s1 < s0 → zS 60 106 [zU, zU, zU, zU, zI a4, zU, zU, zU] [] sh pp mm Q) := s_ifn cN_hangsOn_16 cN_hangsOn_19 cN_hangsOn_106 rfl rfl rfl
theorem rN_hangsOn_19 {a0 : Nat} {a3 a4 a5 : Int} {u1 u2 u6 u7 : zV} : zS 60 19 [zR a0, u1, u2, zI a3, zI a4, zI a5, u6, u7] [] sh pp mm Q ↔ zS 60 21 [zR a0, zU, zU, zI a3, zI a4, zI a5, zU, zU] [zI a4] sh pp mm Q := s_go cN_hangsOn_19 cN_hangsOn_21 rfl rfl
theorem rN_hangsOn_21 {a0 : Nat} {a3 a4 a5 s0 : Int} {u1 u2 u6 u7 : zV} : zS 60 21 [zR a0, u1, u2, zI a3, zI a4, zI a5, u6, u7] [zI s0] sh pp mm Q ↔ (s0 = 0 → zS 60 106 [zU, zU, zU, zU, zI a4, zU, zU, zU] [] sh pp mm Q) ∧ (¬ s0 = 0 → zS 60 24 [zR a0, zU, zU, zI a3, zI a4, zI a5, zU, zU] [] sh pp mm Q) := s_if cN_hangsOn_21 cN_hangsOn_106 cN_hangsOn_24 rfl rfl rfl
theorem rN_hangsOn_24 {a0 : Nat} {a3 a4 a5 : Int} {u1 u2 u6 u7 : zV} : zS 60 24 [zR a0, u1, u2, zI a3, zI a4, zI a5, u6, u7] [] sh pp mm Q ↔ zS 60 26 [zR a0, zU, zU, zI a3, zI a4, zI a5, zU, zU] [zI a4] sh pp mm Q := s_go cN_hangsOn_24 cN_hangsOn_26 rfl rfl
theorem rN_hangsOn_26 {a0 : Nat} {a3 a4 a5 s0 : Int} {u1 u2 u6 u7 : zV} : zS 60 26 [zR a0, u1, u2, zI a3, zI a4, zI a5, u6, u7] [zI s0] sh pp mm Q ↔ zS 60 28 [zR a0, zU, zU, zI a3, zI a4, zI a5, zI s0, zU] [] sh pp mm Q := s_go cN_hangsOn_26 cN_hangsOn_28 rfl rfl
theorem rN_hangsOn_28 {a0 : Nat} {a3 a4 a5 a6 : Int} {u1 u2 u7 : zV} : zS 60 28 [zR a0, u1, u2, zI a3, zI a4, zI a5, zI a6, u7] [] sh pp mm Q ↔ zS 60 29 [zR a0, zU, zU, zI a3, zI a4, zI a5, zI a6, zU] [zI 0] sh pp mm Q := s_go cN_hangsOn_28 cN_hangsOn_29 rfl rfl
theorem rN_hangsOn_29 {a0 : Nat} {a3 a4 a5 a6 s0 : Int} {u1 u2 u7 : zV} : zS 60 29 [zR a0, u1, u2, zI a3, zI a4, zI a5, zI a6, u7] [zI s0] sh pp mm Q ↔ zS 60 31 [zR a0, zU, zU, zI a3, zI a4, zI a5, zI a6, zI s0] [] sh pp mm Q := s_go cN_hangsOn_29 cN_hangsOn_31 rfl rfl
theorem rN_hangsOn_31 {a0 : Nat} {a3 a4 a5 a6 a7 : Int} {u1 u2 : zV} : zS 60 31 [zR a0, u1, u2, zI a3, zI a4, zI a5, zI a6, zI a7] [] sh pp mm Q ↔ zS 60 33 [zR a0, zU, zU, zI a3, zI a4, zI a5, zI a6, zI a7] [zI a7] sh pp mm Q := s_go cN_hangsOn_31 cN_hangsOn_33 rfl rfl
theorem rN_hangsOn_33 {a0 : Nat} {a3 a4 a5 a6 a7 s0 : Int} {u1 u2 : zV} : zS 60 33 [zR a0, u1, u2, zI a3, zI a4, zI a5, zI a6, zI a7] [zI s0] sh pp mm Q ↔ zS 60 34 [zR a0, zU, zU, zI a3, zI a4, zI a5, zI a6, zI a7] [zR a0, zI s0] sh pp mm Q := s_go cN_hangsOn_33 cN_hangsOn_34 rfl rfl
theorem rN_hangsOn_34 {a0 s0 : Nat} {a3 a4 a5 a6 a7 s1 : Int} {u1 u2 : zV} (hk : zKd sh s0 = 6) : zS 60 34 [zR a0, u1, u2, zI a3, zI a4, zI a5, zI a6, zI a7] [zR s0, zI s1] sh pp mm Q ↔ zS 60 37 [zR a0, zU, zU, zI a3, zI a4, zI a5, zI a6, zI a7] [zI (mm s0 3), zI s1] sh pp mm Q := s_go cN_hangsOn_34 cN_hangsOn_37 (if_pos hk) rfl
theorem rN_hangsOn_37 {a0 : Nat} {a3 a4 a5 a6 a7 s0 s1 : Int} {u1 u2 : zV} : zS 60 37 [zR a0, u1, u2, zI a3, zI a4, zI a5, zI a6, zI a7] [zI s0, zI s1] sh pp mm Q ↔ (s1 < s0 → zS 60 40 [zR a0, zU, zU, zI a3, zI a4, zI a5, zI a6, zI a7] [] sh pp mm Q) ∧ (¬ s1 < s0 → zS 60 90 [zR a0, zU, zU, zI a3, zI a4, zI a5, zI a6, zU] [] sh pp mm Q) := s_ifn cN_hangsOn_37 cN_hangsOn_40 cN_hangsOn_90 rfl rfl rfl
theorem rN_hangsOn_40 {a0 : Nat} {a3 a4 a5 a6 a7 : Int} {u1 u2 : zV} : zS 60 40 [zR a0, u1, u2, zI a3, zI a4, zI a5, zI a6, zI a7] [] sh pp mm Q ↔ zS 60 42 [zR a0, zU, zU, zI a3, zI a4, zI a5, zI a6, zI a7] [zI a4] sh pp mm Q := s_go cN_hangsOn_40 cN_hangsOn_42 rfl rfl
theorem rN_hangsOn_42 {a0 : Nat} {a3 a4 a5 a6 a7 s0 : Int} {u1 u2 : zV} : zS 60 42 [zR a0, u1, u2, zI a3, zI a4, zI a5, zI a6, zI a7] [zI s0] sh pp mm Q ↔ zS 60 44 [zR a0, zU, zU, zI a3, zI a4, zI a5, zI a6, zI a7] [zI a7, zI s0] sh pp mm Q := s_go cN_hangsOn_42 cN_hangsOn_44 rfl rfl
theorem rN_hangsOn_44 {a0 : Nat} {a3 a4 a5 a6 a7 s0 s1 : Int} {u1 u2 : zV} : zS 60 44 [zR a0, u1, u2, zI a3, zI a4, zI a5, zI a6, zI a7] [zI s0, zI s1] sh pp mm Q ↔ zS 60 45 [zR a0, zU, zU, zI a3, zI a4, zI a5, zI a6, zI a7] [zI (zshr s1 s0)] sh pp mm Q := s_go cN_hangsOn_44 cN_hangsOn_45 rfl rfl
theorem rN_hangsOn_45 {a0 : Nat} {a3 a4 a5 a6 a7 s0 : Int} {u1 u2 : zV} : zS 60 45 [zR a0, u1, u2, zI a3, zI a4, zI a5, zI a6, zI a7] [zI s0] sh pp mm Q ↔ zS 60 46 [zR a0, zU, zU, zI a3, zI a4, zI a5, zI a6, zI a7] [zI 1, zI s0] sh pp mm Q := s_go cN_hangsOn_45 cN_hangsOn_46 rfl rfl
theorem rN_hangsOn_46 {a0 : Nat} {a3 a4 a5 a6 a7 s0 s1 : Int} {u1 u2 : zV} : zS 60 46 [zR a0, u1, u2, zI a3, zI a4, zI a5, zI a6, zI a7] [zI s0, zI s1] sh pp mm Q ↔ zS 60 47 [zR a0, zU, zU, zI a3, zI a4, zI a5, zI a6, zI a7] [zI (zand s1 s0)] sh pp mm Q := s_go cN_hangsOn_46 cN_hangsOn_47 rfl rfl
theorem rN_hangsOn_47 {a0 : Nat} {a3 a4 a5 a6 a7 s0 : Int} {u1 u2 : zV} : zS 60 47 [zR a0, u1, u2, zI a3, zI a4, zI a5, zI a6, zI a7] [zI s0] sh pp mm Q ↔ zS 60 48 [zR a0, zU, zU, zI a3, zI a4, zI a5, zI a6, zI a7] [zI 1, zI s0] sh pp mm Q := s_go cN_hangsOn_47 cN_hangsOn_48 rfl rfl
theorem rN_hangsOn_48 {a0 : Nat} {a3 a4 a5 a6 a7 s0 s1 : Int} {u1 u2 : zV} : zS 60 48 [zR a0, u1, u2, zI a3, zI a4, zI a5, zI a6, zI a7] [zI s0, zI s1] sh pp mm Q ↔ (s1 = s0 → zS 60 51 [zR a0, zU, zU, zI a3, zI a4, zI a5, zI a6, zI a7] [] sh pp mm Q) ∧ (¬ s1 = s0 → zS 60 84 [zR a0, zU, zU, zI a3, zI a4, zI a5, zI a6, zI a7] [] sh pp mm Q) := s_ifn cN_hangsOn_48 cN_hangsOn_51 cN_hangsOn_84 rfl rfl rfl
theorem rN_hangsOn_51 {a0 : Nat} {a3 a4 a5 a6 a7 : Int} {u1 u2 : zV} : zS 60 51 [zR a0, u1, u2, zI a3, zI a4, zI a5, zI a6, zI a7] [] sh pp mm Q ↔ zS 60 52 [zR a0, zU, zU, zI a3, zI a4, zI a5, zI a6, zI a7] [zR a0] sh pp mm Q := s_go cN_hangsOn_51 cN_hangsOn_52 rfl rfl
theorem rN_hangsOn_52 {a0 s0 : Nat} {a3 a4 a5 a6 a7 : Int} {u1 u2 : zV} (hk : zKd sh s0 = 6) : zS 60 52 [zR a0, u1, u2, zI a3, zI a4, zI a5, zI a6, zI a7] [zR s0] sh pp mm Q ↔ zS 60 55 [zR a0, zU, zU, zI a3, zI a4, zI a5, zI a6, zI a7] [zR (pp s0 6)] sh pp mm Q := s_go cN_hangsOn_52 cN_hangsOn_55 (if_pos hk) rfl
theorem rN_hangsOn_55 {a0 s0 : Nat} {a3 a4 a5 a6 a7 : Int} {u1 u2 : zV} : zS 60 55 [zR a0, u1, u2, zI a3, zI a4, zI a5, zI a6, zI a7] [zR s0] sh pp mm Q ↔ zS 60 57 [zR a0, zU, zU, zI a3, zI a4, zI a5, zI a6, zI a7] [zI a7, zR s0] sh pp mm Q := s_go cN_hangsOn_55 cN_hangsOn_57 rfl rfl
theorem rN_hangsOn_57 {a0 s1 : Nat} {a3 a4 a5 a6 a7 s0 : Int} {u1 u2 : zV} (hk : zKd sh s1 = 20 ∨ zKd sh s1 = 30) (h0 : 0 ≤ s0) (h1 : s0 < zLn sh s1) : zS 60 57 [zR a0, u1, u2, zI a3, zI a4, zI a5, zI a6, zI a7] [zI s0, zR s1] sh pp mm Q ↔ zS 60 58 [zR a0, zU, zU, zI a3, zI a4, zI a5, zI a6, zI a7] [zI (mm s1 s0)] sh pp mm Q := s_go cN_hangsOn_57 cN_hangsOn_58 (if_pos ⟨hk, h0, h1⟩) rfl
theorem rN_hangsOn_58 {a0 : Nat} {a3 a4 a5 a6 a7 s0 : Int} {u1 u2 : zV} : zS 60 58 [zR a0, u1, u2, zI a3, zI a4, zI a5, zI a6, zI a7] [zI s0] sh pp mm Q ↔ zS 60 59 [zR a0, zU, zU, zI a3, zI a4, zI a5, zI a6, zI a7] [zI a3, zI s0] sh pp mm Q := s_go cN_hangsOn_58 cN_hangsOn_59 rfl rfl
theorem rN_hangsOn_59 {a0 : Nat} {a3 a4 a5 a6 a7 s0 s1 : Int} {u1 u2 : zV} : zS 60 59 [zR a0, u1, u2, zI a3, zI a4, zI a5, zI a6, zI a7] [zI s0, zI s1] sh pp mm Q ↔ zS 60 60 [zR a0, zU, zU, zI a3, zI a4, zI a5, zI a6, zI a7] [zI (zand s1 s0)] sh pp mm Q := s_go cN_hangsOn_59 cN_hangsOn_60 rfl rfl
theorem rN_hangsOn_60 {a0 : Nat} {a3 a4 a5 a6 a7 s0 : Int} {u1 u2 : zV} : zS 60 60 [zR a0, u1, u2, zI a3, zI a4, zI a5, zI a6, zI a7] [zI s0] sh pp mm Q ↔ (s0 = 0 → zS 60 84 [zR a0, zU, zU, zI a3, zI a4, zI a5, zI a6, zI a7] [] sh pp mm Q) ∧ (¬ s0 = 0 → zS 60 63 [zR a0, zU, zU, zI a3, zI a4, zI a5, zI a6, zI a7] [] sh pp mm Q) := s_if cN_hangsOn_60 cN_hangsOn_84 cN_hangsOn_63 rfl rfl rfl
theorem rN_hangsOn_63 {a0 : Nat} {a3 a4 a5 a6 a7 : Int} {u1 u2 : zV} : zS 60 63 [zR a0, u1, u2, zI a3, zI a4, zI a5, zI a6, zI a7] [] sh pp mm Q ↔ zS 60 64 [zR a0, zU, zU, zU, zI a4, zI a5, zI a6, zI a7] [zI a3] sh pp mm Q := s_go cN_hangsOn_63 cN_hangsOn_64 rfl rfl
theorem rN_hangsOn_64 {a0 : Nat} {a4 a5 a6 a7 s0 : Int} {u1 u2 u3 : zV} : zS 60 64 [zR a0, u1, u2, u3, zI a4, zI a5, zI a6, zI a7] [zI s0] sh pp mm Q ↔ zS 60 65 [zR a0, zU, zU, zU, zI a4, zI a5, zI a6, zI a7] [zR a0, zI s0] sh pp mm Q := s_go cN_hangsOn_64 cN_hangsOn_65 rfl rfl
theorem rN_hangsOn_65 {a0 s0 : Nat} {a4 a5 a6 a7 s1 : Int} {u1 u2 u3 : zV} (hk : zKd sh s0 = 6) : zS 60 65 [zR a0, u1, u2, u3, zI a4, zI a5, zI a6, zI a7] [zR s0, zI s1] sh pp mm Q ↔ zS 60 68 [zR a0, zU, zU, zU, zI a4, zI a5, zI a6, zI a7] [zR (pp s0 6), zI s1] sh pp mm Q := s_go cN_hangsOn_65 cN_hangsOn_68 (if_pos hk) rfl
theorem rN_hangsOn_68 {a0 s0 : Nat} {a4 a5 a6 a7 s1 : Int} {u1 u2 u3 : zV} : zS 60 68 [zR a0, u1, u2, u3, zI a4, zI a5, zI a6, zI a7] [zR s0, zI s1] sh pp mm Q ↔ zS 60 70 [zR a0, zU, zU, zU, zI a4, zI a5, zI a6, zI a7] [zI a7, zR s0, zI s1] sh pp mm Q := s_go cN_hangsOn_68 cN_hangsOn_70 rfl rfl
theorem rN_hangsOn_70 {a0 s1 : Nat} {a4 a5 a6 a7 s0 s2 : Int} {u1 u2 u3 : zV} (hk : zKd sh s1 = 20 ∨ zKd sh s1 = 30) (h0 : 0 ≤ s0) (h1 : s0 < zLn sh s1) : zS 60 70 [zR a0, u1, u2, u3, zI a4, zI a5, zI a6, zI a7] [zI s0, zR s1, zI s2] sh pp mm Q ↔ zS 60 71 [zR a0, zU, zU, zU, zI a4, zI a5, zI a6, zI a7] [zI (mm s1 s0), zI s2] sh pp mm Q := s_go cN_hangsOn_70 cN_hangsOn_71 (if_pos ⟨hk, h0, h1⟩) rfl
theorem rN_hangsOn_71 {a0 : Nat} {a4 a5 a6 a7 s0 s1 : Int} {u1 u2 u3 : zV} : zS 60 71 [zR a0, u1, u2, u3, zI a4, zI a5, zI a6, zI a7] [zI s0, zI s1] sh pp mm Q ↔ zS 60 72 [zR a0, zU, zU, zU, zI a4, zI a5, zI a6, zI a7] [zI (zor s1 s0)] sh pp mm Q := s_go cN_hangsOn_71 cN_hangsOn_72 rfl rfl
theorem rN_hangsOn_72 {a0 : Nat} {a4 a5 a6 a7 s0 : Int} {u1 u2 u3 : zV} : zS 60 72 [zR a0, u1, u2, u3, zI a4, zI a5, zI a6, zI a7] [zI s0] sh pp mm Q ↔ zS 60 73 [zR a0, zU, zU, zI s0, zI a4, zI a5, zI a6, zI a7] [] sh pp mm Q := s_go cN_hangsOn_72 cN_hangsOn_73 rfl rfl
theorem rN_hangsOn_73 {a0 : Nat} {a3 a4 a5 a6 a7 : Int} {u1 u2 : zV} : zS 60 73 [zR a0, u1, u2, zI a3, zI a4, zI a5, zI a6, zI a7] [] sh pp mm Q ↔ zS 60 75 [zR a0, zU, zU, zI a3, zU, zI a5, zI a6, zI a7] [zI a4] sh pp mm Q := s_go cN_hangsOn_73 cN_hangsOn_75 rfl rfl
theorem rN_hangsOn_75 {a0 : Nat} {a3 a5 a6 a7 s0 : Int} {u1 u2 u4 : zV} : zS 60 75 [zR a0, u1, u2, zI a3, u4, zI a5, zI a6, zI a7] [zI s0] sh pp mm Q ↔ zS 60 76 [zR a0, zU, zU, zI a3, zU, zI a5, zI a6, zI a7] [zI 1, zI s0] sh pp mm Q := s_go cN_hangsOn_75 cN_hangsOn_76 rfl rfl
theorem rN_hangsOn_76 {a0 : Nat} {a3 a5 a6 a7 s0 s1 : Int} {u1 u2 u4 : zV} : zS 60 76 [zR a0, u1, u2, zI a3, u4, zI a5, zI a6, zI a7] [zI s0, zI s1] sh pp mm Q ↔ zS 60 78 [zR a0, zU, zU, zI a3, zU, zI a5, zI a6, zI a7] [zI a7, zI s0, zI s1] sh pp mm Q := s_go cN_hangsOn_76 cN_hangsOn_78 rfl rfl
theorem rN_hangsOn_78 {a0 : Nat} {a3 a5 a6 a7 s0 s1 s2 : Int} {u1 u2 u4 : zV} : zS 60 78 [zR a0, u1, u2, zI a3, u4, zI a5, zI a6, zI a7] [zI s0, zI s1, zI s2] sh pp mm Q ↔ zS 60 79 [zR a0, zU, zU, zI a3, zU, zI a5, zI a6, zI a7] [zI (zshl s1 s0), zI s2] sh pp mm Q := s_go cN_hangsOn_78 cN_hangsOn_79 rfl rfl
theorem rN_hangsOn_79 {a0 : Nat} {a3 a5 a6 a7 s0 s1 : Int} {u1 u2 u4 : zV} : zS 60 79 [zR a0, u1, u2, zI a3, u4, zI a5, zI a6, zI a7] [zI s0, zI s1] sh pp mm Q ↔ zS 60 80 [zR a0, zU, zU, zI a3, zU, zI a5, zI a6, zI a7] [zI (-1), zI s0, zI s1] sh pp mm Q := s_go cN_hangsOn_79 cN_hangsOn_80 rfl rfl
theorem rN_hangsOn_80 {a0 : Nat} {a3 a5 a6 a7 s0 s1 s2 : Int} {u1 u2 u4 : zV} : zS 60 80 [zR a0, u1, u2, zI a3, u4, zI a5, zI a6, zI a7] [zI s0, zI s1, zI s2] sh pp mm Q ↔ zS 60 81 [zR a0, zU, zU, zI a3, zU, zI a5, zI a6, zI a7] [zI (zxor s1 s0), zI s2] sh pp mm Q := s_go cN_hangsOn_80 cN_hangsOn_81 rfl rfl
theorem rN_hangsOn_81 {a0 : Nat} {a3 a5 a6 a7 s0 s1 : Int} {u1 u2 u4 : zV} : zS 60 81 [zR a0, u1, u2, zI a3, u4, zI a5, zI a6, zI a7] [zI s0, zI s1] sh pp mm Q ↔ zS 60 82 [zR a0, zU, zU, zI a3, zU, zI a5, zI a6, zI a7] [zI (zand s1 s0)] sh pp mm Q := s_go cN_hangsOn_81 cN_hangsOn_82 rfl rfl
theorem rN_hangsOn_82 {a0 : Nat} {a3 a5 a6 a7 s0 : Int} {u1 u2 u4 : zV} : zS 60 82 [zR a0, u1, u2, zI a3, u4, zI a5, zI a6, zI a7] [zI s0] sh pp mm Q ↔ zS 60 84 [zR a0, zU, zU, zI a3, zI s0, zI a5, zI a6, zI a7] [] sh pp mm Q := s_go cN_hangsOn_82 cN_hangsOn_84 rfl rfl
theorem rN_hangsOn_84 {a0 : Nat} {a3 a4 a5 a6 a7 : Int} {u1 u2 : zV} : zS 60 84 [zR a0, u1, u2, zI a3, zI a4, zI a5, zI a6, zI a7] [] sh pp mm Q ↔ zS 60 87 [zR a0, zU, zU, zI a3, zI a4, zI a5, zI a6, zI (zw32 (a7 + 1))] [] sh pp mm Q := s_go cN_hangsOn_84 cN_hangsOn_87 rfl rfl
theorem rN_hangsOn_87 {a0 : Nat} {a3 a4 a5 a6 a7 : Int} {u1 u2 : zV} : zS 60 87 [zR a0, u1, u2, zI a3, zI a4, zI a5, zI a6, zI a7] [] sh pp mm Q ↔ zS 60 31 [zR a0, zU, zU, zI a3, zI a4, zI a5, zI a6, zI a7] [] sh pp mm Q := s_go cN_hangsOn_87 cN_hangsOn_31 rfl rfl
theorem rN_hangsOn_90 {a0 : Nat} {a3 a4 a5 a6 : Int} {u1 u2 u7 : zV} : zS 60 90 [zR a0, u1, u2, zI a3, zI a4, zI a5, zI a6, u7] [] sh pp mm Q ↔ zS 60 92 [zR a0, zU, zU, zI a3, zI a4, zI a5, zI a6, zU] [zI a4] sh pp mm Q := s_go cN_hangsOn_90 cN_hangsOn_92 rfl rfl
theorem rN_hangsOn_92 {a0 : Nat} {a3 a4 a5 a6 s0 : Int} {u1 u2 u7 : zV} : zS 60 92 [zR a0, u1, u2, zI a3, zI a4, zI a5, zI a6, u7] [zI s0] sh pp mm Q ↔ zS 60 94 [zR a0, zU, zU, zI a3, zI a4, zI a5, zU, zU] [zI a6, zI s0] sh pp mm Q := s_go cN_hangsOn_92 cN_hangsOn_94 rfl rfl
theorem rN_hangsOn_94 {a0 : Nat} {a3 a4 a5 s0 s1 : Int} {u1 u2 u6 u7 : zV} : zS 60 94 [zR a0, u1, u2, zI a3, zI a4, zI a5, u6, u7] [zI s0, zI s1] sh pp mm Q ↔ (s1 = s0 → zS 60 97 [zU, zU, zU, zU, zI a4, zU, zU, zU] [] sh pp mm Q) ∧ (¬ s1 = s0 → zS 60 100 [zR a0, zU, zU, zI a3, zI a4, zI a5, zU, zU] [] sh pp mm Q) := s_ifn cN_hangsOn_94 cN_hangsOn_97 cN_hangsOn_100 rfl rfl rfl
theorem rN_hangsOn_97 {a4 : Int} {u0 u1 u2 u3 u5 u6 u7 : zV} : zS 60 97 [u0, u1, u2, u3, zI a4, u5, u6, u7] [] sh pp mm Q ↔ zS 60 106 [zU, zU, zU, zU, zI a4, zU, zU, zU] [] sh pp mm Q := s_go cN_hangsOn_97 cN_hangsOn_106 rfl rfl
theorem rN_hangsOn_100 {a0 : Nat} {a3 a4 a5 : Int} {u1 u2 u6 u7 : zV} : zS 60 100 [zR a0, u1, u2, zI a3, zI a4, zI a5, u6, u7] [] sh pp mm Q ↔ zS 60 103 [zR a0, zU, zU, zI a3, zI a4, zI (zw32 (a5 + 1)), zU, zU] [] sh pp mm Q := s_go cN_hangsOn_100 cN_hangsOn_103 rfl rfl
theorem rN_hangsOn_103 {a0 : Nat} {a3 a4 a5 : Int} {u1 u2 u6 u7 : zV} : zS 60 103 [zR a0, u1, u2, zI a3, zI a4, zI a5, u6, u7] [] sh pp mm Q ↔ zS 60 10 [zR a0, zU, zU, zI a3, zI a4, zI a5, zU, zU] [] sh pp mm Q := s_go cN_hangsOn_103 cN_hangsOn_10 rfl rfl
theorem rN_hangsOn_106 {a4 : Int} {u0 u1 u2 u3 u5 u6 u7 : zV} : zS 60 106 [u0, u1, u2, u3, zI a4, u5, u6, u7] [] sh pp mm Q ↔ zS 60 108 [zU, zU, zU, zU, zU, zU, zU, zU] [zI a4] sh pp mm Q := s_go cN_hangsOn_106 cN_hangsOn_108 rfl rfl
theorem rN_hangsOn_108 {s0 : Int} {u0 u1 u2 u3 u4 u5 u6 u7 : zV} : zS 60 108 [u0, u1, u2, u3, u4, u5, u6, u7] [zI s0] sh pp mm Q ↔ (s0 = 0 → zS 60 111 [zU, zU, zU, zU, zU, zU, zU, zU] [] sh pp mm Q) ∧ (¬ s0 = 0 → zS 60 115 [zU, zU, zU, zU, zU, zU, zU, zU] [] sh pp mm Q) := s_ifn cN_hangsOn_108 cN_hangsOn_111 cN_hangsOn_115 rfl rfl rfl
theorem rN_hangsOn_111 {u0 u1 u2 u3 u4 u5 u6 u7 : zV} : zS 60 111 [u0, u1, u2, u3, u4, u5, u6, u7] [] sh pp mm Q ↔ zS 60 112 [zU, zU, zU, zU, zU, zU, zU, zU] [zI 1] sh pp mm Q := s_go cN_hangsOn_111 cN_hangsOn_112 rfl rfl
theorem rN_hangsOn_112 {s0 : Int} {u0 u1 u2 u3 u4 u5 u6 u7 : zV} : zS 60 112 [u0, u1, u2, u3, u4, u5, u6, u7] [zI s0] sh pp mm Q ↔ zS 60 116 [zU, zU, zU, zU, zU, zU, zU, zU] [zI s0] sh pp mm Q := s_go cN_hangsOn_112 cN_hangsOn_116 rfl rfl
theorem rN_hangsOn_115 {u0 u1 u2 u3 u4 u5 u6 u7 : zV} : zS 60 115 [u0, u1, u2, u3, u4, u5, u6, u7] [] sh pp mm Q ↔ zS 60 116 [zU, zU, zU, zU, zU, zU, zU, zU] [zI 0] sh pp mm Q := s_go cN_hangsOn_115 cN_hangsOn_116 rfl rfl
theorem rN_hangsOn_116 {s0 : Int} {u0 u1 u2 u3 u4 u5 u6 u7 : zV} (hb : s0 = 0 ∨ s0 = 1) : zS 60 116 [u0, u1, u2, u3, u4, u5, u6, u7] [zI s0] sh pp mm Q ↔ Q (zI s0) sh pp mm := s_ret cN_hangsOn_116 (if_pos (decide_eq_true hb))
theorem cAN_hasLine : ∀ q ∈ zT61, zCode 61 q.1 = some q.2 := zAll (mid := 61) rfl (by decide +kernel)
theorem cAN_hasLine_0 : ∀ q ∈ zT61_0, zCode 61 q.1 = some q.2 := fun q h => cAN_hasLine q (h)
theorem cN_hasLine_0 : zCode 61 0 = some (.aload_n 0, 1, 0, 0, 0, 0, 1) := cAN_hasLine_0 _ (List.mem_of_getElem? (i := 0) rfl)
theorem cN_hasLine_1 : zCode 61 1 = some (.getfield 19, 4, 6, 2, 3, 215, 1) := cAN_hasLine_0 _ (List.mem_of_getElem? (i := 1) rfl)
theorem cN_hasLine_4 : zCode 61 4 = some (.ifCond .eq 14, 7, 18, 0, 0, 0, 1) := cAN_hasLine_0 _ (List.mem_of_getElem? (i := 2) rfl)
theorem cN_hasLine_7 : zCode 61 7 = some (.aload_n 0, 8, 0, 0, 0, 0, 1) := cAN_hasLine_0 _ (List.mem_of_getElem? (i := 3) rfl)
theorem cN_hasLine_8 : zCode 61 8 = some (.getfield 22, 11, 6, 3, 0, 217, 0) := cAN_hasLine_0 _ (List.mem_of_getElem? (i := 4) rfl)
theorem cN_hasLine_11 : zCode 61 11 = some (.ifCond .le 7, 14, 18, 0, 0, 0, 0) := cAN_hasLine_0 _ (List.mem_of_getElem? (i := 5) rfl)
theorem cN_hasLine_14 : zCode 61 14 = some (.iconst 1, 15, 0, 0, 0, 0, 0) := cAN_hasLine_0 _ (List.mem_of_getElem? (i := 6) rfl)
theorem cN_hasLine_15 : zCode 61 15 = some (.goto 4, 18, 19, 0, 0, 0, 0) := cAN_hasLine_0 _ (List.mem_of_getElem? (i := 7) rfl)
theorem cN_hasLine_18 : zCode 61 18 = some (.iconst 0, 19, 0, 0, 0, 0, 0) := cAN_hasLine_0 _ (List.mem_of_getElem? (i := 8) rfl)
theorem cN_hasLine_19 : zCode 61 19 = some (.ireturn, 20, 0, 3, 0, 0, 0) := cAN_hasLine_0 _ (List.mem_of_getElem? (i := 9) rfl)
theorem rN_hasLine_0 {a0 : Nat} : zS 61 0 [zR a0] [] sh pp mm Q ↔ zS 61 1 [zR a0] [zR a0] sh pp mm Q := s_go cN_hasLine_0 cN_hasLine_1 rfl rfl
theorem rN_hasLine_1 {a0 s0 : Nat} (hk : zKd sh s0 = 6) : zS 61 1 [zR a0] [zR s0] sh pp mm Q ↔ zS 61 4 [zR a0] [zI (mm s0 2)] sh pp mm Q := s_go cN_hasLine_1 cN_hasLine_4 (if_pos hk) rfl
theorem rN_hasLine_4 {a0 : Nat} {s0 : Int} : zS 61 4 [zR a0] [zI s0] sh pp mm Q ↔ (s0 = 0 → zS 61 18 [zU] [] sh pp mm Q) ∧ (¬ s0 = 0 → zS 61 7 [zR a0] [] sh pp mm Q) := s_if cN_hasLine_4 cN_hasLine_18 cN_hasLine_7 rfl rfl rfl
theorem rN_hasLine_7 {a0 : Nat} : zS 61 7 [zR a0] [] sh pp mm Q ↔ zS 61 8 [zU] [zR a0] sh pp mm Q := s_go cN_hasLine_7 cN_hasLine_8 rfl rfl
theorem rN_hasLine_8 {s0 : Nat} {u0 : zV} (hk : zKd sh s0 = 6) : zS 61 8 [u0] [zR s0] sh pp mm Q ↔ zS 61 11 [zU] [zI (mm s0 3)] sh pp mm Q := s_go cN_hasLine_8 cN_hasLine_11 (if_pos hk) rfl
theorem rN_hasLine_11 {s0 : Int} {u0 : zV} : zS 61 11 [u0] [zI s0] sh pp mm Q ↔ (0 < s0 → zS 61 14 [zU] [] sh pp mm Q) ∧ (¬ 0 < s0 → zS 61 18 [zU] [] sh pp mm Q) := s_ifn cN_hasLine_11 cN_hasLine_14 cN_hasLine_18 rfl rfl rfl
theorem rN_hasLine_14 {u0 : zV} : zS 61 14 [u0] [] sh pp mm Q ↔ zS 61 15 [zU] [zI 1] sh pp mm Q := s_go cN_hasLine_14 cN_hasLine_15 rfl rfl
theorem rN_hasLine_15 {s0 : Int} {u0 : zV} : zS 61 15 [u0] [zI s0] sh pp mm Q ↔ zS 61 19 [zU] [zI s0] sh pp mm Q := s_go cN_hasLine_15 cN_hasLine_19 rfl rfl
theorem rN_hasLine_18 {u0 : zV} : zS 61 18 [u0] [] sh pp mm Q ↔ zS 61 19 [zU] [zI 0] sh pp mm Q := s_go cN_hasLine_18 cN_hasLine_19 rfl rfl
theorem rN_hasLine_19 {s0 : Int} {u0 : zV} (hb : s0 = 0 ∨ s0 = 1) : zS 61 19 [u0] [zI s0] sh pp mm Q ↔ Q (zI s0) sh pp mm := s_ret cN_hasLine_19 (if_pos (decide_eq_true hb))
theorem cAN_firstCorners : ∀ q ∈ zT62, zCode 62 q.1 = some q.2 := zAll (mid := 62) rfl (by decide +kernel)
theorem cAN_firstCorners_0 : ∀ q ∈ zT62_0, zCode 62 q.1 = some q.2 := fun q h => cAN_firstCorners q (List.mem_append_left _ h)
theorem cAN_firstCorners_1 : ∀ q ∈ zT62_1, zCode 62 q.1 = some q.2 := fun q h => cAN_firstCorners q (List.mem_append_right _ h)
theorem cN_firstCorners_0 : zCode 62 0 = some (.aload_n 0, 1, 0, 0, 0, 0, 1) := cAN_firstCorners_0 _ (List.mem_of_getElem? (i := 0) rfl)
theorem cN_firstCorners_1 : zCode 62 1 = some (.invokevirtual 124, 4, 61, 0, 1, 6, 1) := cAN_firstCorners_0 _ (List.mem_of_getElem? (i := 1) rfl)
theorem cN_firstCorners_4 : zCode 62 4 = some (.ifCond .ne 5, 7, 9, 0, 0, 0, 1) := cAN_firstCorners_0 _ (List.mem_of_getElem? (i := 2) rfl)
theorem cN_firstCorners_7 : zCode 62 7 = some (.iconst 0, 8, 0, 0, 0, 0, 0) := cAN_firstCorners_0 _ (List.mem_of_getElem? (i := 3) rfl)
theorem cN_firstCorners_8 : zCode 62 8 = some (.ireturn, 9, 0, 0, 0, 0, 0) := cAN_firstCorners_0 _ (List.mem_of_getElem? (i := 4) rfl)
theorem cN_firstCorners_9 : zCode 62 9 = some (.aload_n 0, 10, 0, 0, 0, 0, 1) := cAN_firstCorners_0 _ (List.mem_of_getElem? (i := 5) rfl)
theorem cN_firstCorners_10 : zCode 62 10 = some (.getfield 9, 13, 6, 0, 0, 211, 1) := cAN_firstCorners_0 _ (List.mem_of_getElem? (i := 6) rfl)
theorem cN_firstCorners_13 : zCode 62 13 = some (.ifCond .eq 8, 16, 21, 0, 0, 0, 1) := cAN_firstCorners_0 _ (List.mem_of_getElem? (i := 7) rfl)
theorem cN_firstCorners_16 : zCode 62 16 = some (.aload_n 0, 17, 0, 0, 0, 0, 1) := cAN_firstCorners_0 _ (List.mem_of_getElem? (i := 8) rfl)
theorem cN_firstCorners_17 : zCode 62 17 = some (.getfield 9, 20, 6, 0, 0, 211, 0) := cAN_firstCorners_0 _ (List.mem_of_getElem? (i := 9) rfl)
theorem cN_firstCorners_20 : zCode 62 20 = some (.ireturn, 21, 0, 0, 0, 0, 0) := cAN_firstCorners_0 _ (List.mem_of_getElem? (i := 10) rfl)
theorem cN_firstCorners_21 : zCode 62 21 = some (.iconst 0, 22, 0, 0, 0, 0, 1) := cAN_firstCorners_0 _ (List.mem_of_getElem? (i := 11) rfl)
theorem cN_firstCorners_22 : zCode 62 22 = some (.istore_n 1, 23, 0, 0, 0, 0, 1) := cAN_firstCorners_0 _ (List.mem_of_getElem? (i := 12) rfl)
theorem cN_firstCorners_23 : zCode 62 23 = some (.iconst 0, 24, 0, 0, 0, 0, 3) := cAN_firstCorners_0 _ (List.mem_of_getElem? (i := 13) rfl)
theorem cN_firstCorners_24 : zCode 62 24 = some (.istore_n 2, 25, 0, 0, 0, 0, 3) := cAN_firstCorners_0 _ (List.mem_of_getElem? (i := 14) rfl)
theorem cN_firstCorners_25 : zCode 62 25 = some (.iload_n 2, 26, 0, 0, 0, 0, 7) := cAN_firstCorners_0 _ (List.mem_of_getElem? (i := 15) rfl)
theorem cN_firstCorners_26 : zCode 62 26 = some (.aload_n 0, 27, 0, 0, 0, 0, 7) := cAN_firstCorners_1 _ (List.mem_of_getElem? (i := 0) rfl)
theorem cN_firstCorners_27 : zCode 62 27 = some (.getfield 22, 30, 6, 3, 0, 217, 7) := cAN_firstCorners_1 _ (List.mem_of_getElem? (i := 1) rfl)
theorem cN_firstCorners_30 : zCode 62 30 = some (.if_icmp .ge 18, 33, 48, 0, 0, 0, 7) := cAN_firstCorners_1 _ (List.mem_of_getElem? (i := 2) rfl)
theorem cN_firstCorners_33 : zCode 62 33 = some (.iload_n 1, 34, 0, 0, 0, 0, 7) := cAN_firstCorners_1 _ (List.mem_of_getElem? (i := 3) rfl)
theorem cN_firstCorners_34 : zCode 62 34 = some (.aload_n 0, 35, 0, 0, 0, 0, 5) := cAN_firstCorners_1 _ (List.mem_of_getElem? (i := 4) rfl)
theorem cN_firstCorners_35 : zCode 62 35 = some (.getfield 32, 38, 6, 6, 2, 222, 5) := cAN_firstCorners_1 _ (List.mem_of_getElem? (i := 5) rfl)
theorem cN_firstCorners_38 : zCode 62 38 = some (.iload_n 2, 39, 0, 0, 0, 0, 5) := cAN_firstCorners_1 _ (List.mem_of_getElem? (i := 6) rfl)
theorem cN_firstCorners_39 : zCode 62 39 = some (.iaload, 40, 0, 0, 0, 0, 5) := cAN_firstCorners_1 _ (List.mem_of_getElem? (i := 7) rfl)
theorem cN_firstCorners_40 : zCode 62 40 = some (.ior, 41, 0, 0, 0, 0, 5) := cAN_firstCorners_1 _ (List.mem_of_getElem? (i := 8) rfl)
theorem cN_firstCorners_41 : zCode 62 41 = some (.istore_n 1, 42, 0, 0, 0, 0, 5) := cAN_firstCorners_1 _ (List.mem_of_getElem? (i := 9) rfl)
theorem cN_firstCorners_42 : zCode 62 42 = some (.iinc 2 1, 45, 0, 0, 0, 0, 7) := cAN_firstCorners_1 _ (List.mem_of_getElem? (i := 10) rfl)
theorem cN_firstCorners_45 : zCode 62 45 = some (.goto (-20), 48, 25, 0, 0, 0, 7) := cAN_firstCorners_1 _ (List.mem_of_getElem? (i := 11) rfl)
theorem cN_firstCorners_48 : zCode 62 48 = some (.iload_n 1, 49, 0, 0, 0, 0, 2) := cAN_firstCorners_1 _ (List.mem_of_getElem? (i := 12) rfl)
theorem cN_firstCorners_49 : zCode 62 49 = some (.ireturn, 50, 0, 0, 0, 0, 0) := cAN_firstCorners_1 _ (List.mem_of_getElem? (i := 13) rfl)
theorem rN_firstCorners_0 {a0 : Nat} {u1 u2 : zV} : zS 62 0 [zR a0, u1, u2] [] sh pp mm Q ↔ zS 62 1 [zR a0, zU, zU] [zR a0] sh pp mm Q := s_go cN_firstCorners_0 cN_firstCorners_1 rfl rfl
theorem rN_firstCorners_1 {a0 s0 : Nat} {u1 u2 : zV} (hk : zKd sh s0 = 6) : zS 62 1 [zR a0, u1, u2] [zR s0] sh pp mm Q ↔ zS 61 0 [zR s0] [] sh pp mm (fun v sh pp mm => zS 62 4 [zR a0, zU, zU] (zPush v []) sh pp mm Q) := s_call cN_firstCorners_1 cN_firstCorners_4 ((if_pos hk).trans rfl) rfl
theorem rN_firstCorners_4 {a0 : Nat} {s0 : Int} {u1 u2 : zV} : zS 62 4 [zR a0, u1, u2] [zI s0] sh pp mm Q ↔ (s0 = 0 → zS 62 7 [zU, zU, zU] [] sh pp mm Q) ∧ (¬ s0 = 0 → zS 62 9 [zR a0, zU, zU] [] sh pp mm Q) := s_ifn cN_firstCorners_4 cN_firstCorners_7 cN_firstCorners_9 rfl rfl rfl
theorem rN_firstCorners_7 {u0 u1 u2 : zV} : zS 62 7 [u0, u1, u2] [] sh pp mm Q ↔ zS 62 8 [zU, zU, zU] [zI 0] sh pp mm Q := s_go cN_firstCorners_7 cN_firstCorners_8 rfl rfl
theorem rN_firstCorners_8 {s0 : Int} {u0 u1 u2 : zV} : zS 62 8 [u0, u1, u2] [zI s0] sh pp mm Q ↔ Q (zI s0) sh pp mm := s_ret cN_firstCorners_8 rfl
theorem rN_firstCorners_9 {a0 : Nat} {u1 u2 : zV} : zS 62 9 [zR a0, u1, u2] [] sh pp mm Q ↔ zS 62 10 [zR a0, zU, zU] [zR a0] sh pp mm Q := s_go cN_firstCorners_9 cN_firstCorners_10 rfl rfl
theorem rN_firstCorners_10 {a0 s0 : Nat} {u1 u2 : zV} (hk : zKd sh s0 = 6) : zS 62 10 [zR a0, u1, u2] [zR s0] sh pp mm Q ↔ zS 62 13 [zR a0, zU, zU] [zI (mm s0 0)] sh pp mm Q := s_go cN_firstCorners_10 cN_firstCorners_13 (if_pos hk) rfl
theorem rN_firstCorners_13 {a0 : Nat} {s0 : Int} {u1 u2 : zV} : zS 62 13 [zR a0, u1, u2] [zI s0] sh pp mm Q ↔ (s0 = 0 → zS 62 21 [zR a0, zU, zU] [] sh pp mm Q) ∧ (¬ s0 = 0 → zS 62 16 [zR a0, zU, zU] [] sh pp mm Q) := s_if cN_firstCorners_13 cN_firstCorners_21 cN_firstCorners_16 rfl rfl rfl
theorem rN_firstCorners_16 {a0 : Nat} {u1 u2 : zV} : zS 62 16 [zR a0, u1, u2] [] sh pp mm Q ↔ zS 62 17 [zU, zU, zU] [zR a0] sh pp mm Q := s_go cN_firstCorners_16 cN_firstCorners_17 rfl rfl
theorem rN_firstCorners_17 {s0 : Nat} {u0 u1 u2 : zV} (hk : zKd sh s0 = 6) : zS 62 17 [u0, u1, u2] [zR s0] sh pp mm Q ↔ zS 62 20 [zU, zU, zU] [zI (mm s0 0)] sh pp mm Q := s_go cN_firstCorners_17 cN_firstCorners_20 (if_pos hk) rfl
theorem rN_firstCorners_20 {s0 : Int} {u0 u1 u2 : zV} : zS 62 20 [u0, u1, u2] [zI s0] sh pp mm Q ↔ Q (zI s0) sh pp mm := s_ret cN_firstCorners_20 rfl
theorem rN_firstCorners_21 {a0 : Nat} {u1 u2 : zV} : zS 62 21 [zR a0, u1, u2] [] sh pp mm Q ↔ zS 62 22 [zR a0, zU, zU] [zI 0] sh pp mm Q := s_go cN_firstCorners_21 cN_firstCorners_22 rfl rfl
theorem rN_firstCorners_22 {a0 : Nat} {s0 : Int} {u1 u2 : zV} : zS 62 22 [zR a0, u1, u2] [zI s0] sh pp mm Q ↔ zS 62 23 [zR a0, zI s0, zU] [] sh pp mm Q := s_go cN_firstCorners_22 cN_firstCorners_23 rfl rfl
theorem rN_firstCorners_23 {a0 : Nat} {a1 : Int} {u2 : zV} : zS 62 23 [zR a0, zI a1, u2] [] sh pp mm Q ↔ zS 62 24 [zR a0, zI a1, zU] [zI 0] sh pp mm Q := s_go cN_firstCorners_23 cN_firstCorners_24 rfl rfl
theorem rN_firstCorners_24 {a0 : Nat} {a1 s0 : Int} {u2 : zV} : zS 62 24 [zR a0, zI a1, u2] [zI s0] sh pp mm Q ↔ zS 62 25 [zR a0, zI a1, zI s0] [] sh pp mm Q := s_go cN_firstCorners_24 cN_firstCorners_25 rfl rfl
theorem rN_firstCorners_25 {a0 : Nat} {a1 a2 : Int} : zS 62 25 [zR a0, zI a1, zI a2] [] sh pp mm Q ↔ zS 62 26 [zR a0, zI a1, zI a2] [zI a2] sh pp mm Q := s_go cN_firstCorners_25 cN_firstCorners_26 rfl rfl
theorem rN_firstCorners_26 {a0 : Nat} {a1 a2 s0 : Int} : zS 62 26 [zR a0, zI a1, zI a2] [zI s0] sh pp mm Q ↔ zS 62 27 [zR a0, zI a1, zI a2] [zR a0, zI s0] sh pp mm Q := s_go cN_firstCorners_26 cN_firstCorners_27 rfl rfl
theorem rN_firstCorners_27 {a0 s0 : Nat} {a1 a2 s1 : Int} (hk : zKd sh s0 = 6) : zS 62 27 [zR a0, zI a1, zI a2] [zR s0, zI s1] sh pp mm Q ↔ zS 62 30 [zR a0, zI a1, zI a2] [zI (mm s0 3), zI s1] sh pp mm Q := s_go cN_firstCorners_27 cN_firstCorners_30 (if_pos hk) rfl
theorem rN_firstCorners_30 {a0 : Nat} {a1 a2 s0 s1 : Int} : zS 62 30 [zR a0, zI a1, zI a2] [zI s0, zI s1] sh pp mm Q ↔ (s1 < s0 → zS 62 33 [zR a0, zI a1, zI a2] [] sh pp mm Q) ∧ (¬ s1 < s0 → zS 62 48 [zU, zI a1, zU] [] sh pp mm Q) := s_ifn cN_firstCorners_30 cN_firstCorners_33 cN_firstCorners_48 rfl rfl rfl
theorem rN_firstCorners_33 {a0 : Nat} {a1 a2 : Int} : zS 62 33 [zR a0, zI a1, zI a2] [] sh pp mm Q ↔ zS 62 34 [zR a0, zU, zI a2] [zI a1] sh pp mm Q := s_go cN_firstCorners_33 cN_firstCorners_34 rfl rfl
theorem rN_firstCorners_34 {a0 : Nat} {a2 s0 : Int} {u1 : zV} : zS 62 34 [zR a0, u1, zI a2] [zI s0] sh pp mm Q ↔ zS 62 35 [zR a0, zU, zI a2] [zR a0, zI s0] sh pp mm Q := s_go cN_firstCorners_34 cN_firstCorners_35 rfl rfl
theorem rN_firstCorners_35 {a0 s0 : Nat} {a2 s1 : Int} {u1 : zV} (hk : zKd sh s0 = 6) : zS 62 35 [zR a0, u1, zI a2] [zR s0, zI s1] sh pp mm Q ↔ zS 62 38 [zR a0, zU, zI a2] [zR (pp s0 6), zI s1] sh pp mm Q := s_go cN_firstCorners_35 cN_firstCorners_38 (if_pos hk) rfl
theorem rN_firstCorners_38 {a0 s0 : Nat} {a2 s1 : Int} {u1 : zV} : zS 62 38 [zR a0, u1, zI a2] [zR s0, zI s1] sh pp mm Q ↔ zS 62 39 [zR a0, zU, zI a2] [zI a2, zR s0, zI s1] sh pp mm Q := s_go cN_firstCorners_38 cN_firstCorners_39 rfl rfl
theorem rN_firstCorners_39 {a0 s1 : Nat} {a2 s0 s2 : Int} {u1 : zV} (hk : zKd sh s1 = 20 ∨ zKd sh s1 = 30) (h0 : 0 ≤ s0) (h1 : s0 < zLn sh s1) : zS 62 39 [zR a0, u1, zI a2] [zI s0, zR s1, zI s2] sh pp mm Q ↔ zS 62 40 [zR a0, zU, zI a2] [zI (mm s1 s0), zI s2] sh pp mm Q := s_go cN_firstCorners_39 cN_firstCorners_40 (if_pos ⟨hk, h0, h1⟩) rfl
theorem rN_firstCorners_40 {a0 : Nat} {a2 s0 s1 : Int} {u1 : zV} : zS 62 40 [zR a0, u1, zI a2] [zI s0, zI s1] sh pp mm Q ↔ zS 62 41 [zR a0, zU, zI a2] [zI (zor s1 s0)] sh pp mm Q := s_go cN_firstCorners_40 cN_firstCorners_41 rfl rfl
theorem rN_firstCorners_41 {a0 : Nat} {a2 s0 : Int} {u1 : zV} : zS 62 41 [zR a0, u1, zI a2] [zI s0] sh pp mm Q ↔ zS 62 42 [zR a0, zI s0, zI a2] [] sh pp mm Q := s_go cN_firstCorners_41 cN_firstCorners_42 rfl rfl
theorem rN_firstCorners_42 {a0 : Nat} {a1 a2 : Int} : zS 62 42 [zR a0, zI a1, zI a2] [] sh pp mm Q ↔ zS 62 45 [zR a0, zI a1, zI (zw32 (a2 + 1))] [] sh pp mm Q := s_go cN_firstCorners_42 cN_firstCorners_45 rfl rfl
theorem rN_firstCorners_45 {a0 : Nat} {a1 a2 : Int} : zS 62 45 [zR a0, zI a1, zI a2] [] sh pp mm Q ↔ zS 62 25 [zR a0, zI a1, zI a2] [] sh pp mm Q := s_go cN_firstCorners_45 cN_firstCorners_25 rfl rfl
theorem rN_firstCorners_48 {a1 : Int} {u0 u2 : zV} : zS 62 48 [u0, zI a1, u2] [] sh pp mm Q ↔ zS 62 49 [zU, zU, zU] [zI a1] sh pp mm Q := s_go cN_firstCorners_48 cN_firstCorners_49 rfl rfl
theorem rN_firstCorners_49 {s0 : Int} {u0 u1 u2 : zV} : zS 62 49 [u0, u1, u2] [zI s0] sh pp mm Q ↔ Q (zI s0) sh pp mm := s_ret cN_firstCorners_49 rfl
theorem cAN_placeOfTrail : ∀ q ∈ zT63, zCode 63 q.1 = some q.2 := zAll (mid := 63) rfl (by decide +kernel)
theorem cAN_placeOfTrail_0 : ∀ q ∈ zT63_0, zCode 63 q.1 = some q.2 := fun q h => cAN_placeOfTrail q (List.mem_append_left _ h)
theorem cAN_placeOfTrail_1 : ∀ q ∈ zT63_1, zCode 63 q.1 = some q.2 := fun q h => cAN_placeOfTrail q (List.mem_append_right _ h)
theorem cN_placeOfTrail_0 : zCode 63 0 = some (.aload_n 0, 1, 0, 0, 0, 0, 3) := cAN_placeOfTrail_0 _ (List.mem_of_getElem? (i := 0) rfl)
theorem cN_placeOfTrail_1 : zCode 63 1 = some (.getfield 56, 4, 6, 14, 0, 234, 3) := cAN_placeOfTrail_0 _ (List.mem_of_getElem? (i := 1) rfl)
theorem cN_placeOfTrail_4 : zCode 63 4 = some (.iconst (-1), 5, 0, 0, 0, 0, 3) := cAN_placeOfTrail_0 _ (List.mem_of_getElem? (i := 2) rfl)
theorem cN_placeOfTrail_5 : zCode 63 5 = some (.if_icmp .ne 7, 8, 12, 0, 0, 0, 3) := cAN_placeOfTrail_0 _ (List.mem_of_getElem? (i := 3) rfl)
theorem cN_placeOfTrail_8 : zCode 63 8 = some (.aload_n 0, 9, 0, 0, 0, 0, 3) := cAN_placeOfTrail_0 _ (List.mem_of_getElem? (i := 4) rfl)
theorem cN_placeOfTrail_9 : zCode 63 9 = some (.invokevirtual 128, 12, 64, 0, 3, 6, 3) := cAN_placeOfTrail_0 _ (List.mem_of_getElem? (i := 5) rfl)
theorem cN_placeOfTrail_12 : zCode 63 12 = some (.iload_n 1, 13, 0, 0, 0, 0, 3) := cAN_placeOfTrail_0 _ (List.mem_of_getElem? (i := 6) rfl)
theorem cN_placeOfTrail_13 : zCode 63 13 = some (.iconst (-1), 14, 0, 0, 0, 0, 3) := cAN_placeOfTrail_0 _ (List.mem_of_getElem? (i := 7) rfl)
theorem cN_placeOfTrail_14 : zCode 63 14 = some (.if_icmp .ne 8, 17, 22, 0, 0, 0, 3) := cAN_placeOfTrail_0 _ (List.mem_of_getElem? (i := 8) rfl)
theorem cN_placeOfTrail_17 : zCode 63 17 = some (.aload_n 0, 18, 0, 0, 0, 0, 1) := cAN_placeOfTrail_0 _ (List.mem_of_getElem? (i := 9) rfl)
theorem cN_placeOfTrail_18 : zCode 63 18 = some (.getfield 56, 21, 6, 14, 0, 234, 0) := cAN_placeOfTrail_0 _ (List.mem_of_getElem? (i := 10) rfl)
theorem cN_placeOfTrail_21 : zCode 63 21 = some (.ireturn, 22, 0, 0, 0, 0, 0) := cAN_placeOfTrail_0 _ (List.mem_of_getElem? (i := 11) rfl)
theorem cN_placeOfTrail_22 : zCode 63 22 = some (.iload_n 1, 23, 0, 0, 0, 0, 3) := cAN_placeOfTrail_0 _ (List.mem_of_getElem? (i := 12) rfl)
theorem cN_placeOfTrail_23 : zCode 63 23 = some (.ifCond .lt 11, 26, 34, 0, 0, 0, 3) := cAN_placeOfTrail_0 _ (List.mem_of_getElem? (i := 13) rfl)
theorem cN_placeOfTrail_26 : zCode 63 26 = some (.iload_n 1, 27, 0, 0, 0, 0, 3) := cAN_placeOfTrail_0 _ (List.mem_of_getElem? (i := 14) rfl)
theorem cN_placeOfTrail_27 : zCode 63 27 = some (.aload_n 0, 28, 0, 0, 0, 0, 3) := cAN_placeOfTrail_0 _ (List.mem_of_getElem? (i := 15) rfl)
theorem cN_placeOfTrail_28 : zCode 63 28 = some (.getfield 22, 31, 6, 3, 0, 217, 3) := cAN_placeOfTrail_1 _ (List.mem_of_getElem? (i := 0) rfl)
theorem cN_placeOfTrail_31 : zCode 63 31 = some (.if_icmp .lt 8, 34, 39, 0, 0, 0, 3) := cAN_placeOfTrail_1 _ (List.mem_of_getElem? (i := 1) rfl)
theorem cN_placeOfTrail_34 : zCode 63 34 = some (.bipush (-5), 36, 0, 0, 0, 0, 0) := cAN_placeOfTrail_1 _ (List.mem_of_getElem? (i := 2) rfl)
theorem cN_placeOfTrail_36 : zCode 63 36 = some (.goto 9, 39, 45, 0, 0, 0, 0) := cAN_placeOfTrail_1 _ (List.mem_of_getElem? (i := 3) rfl)
theorem cN_placeOfTrail_39 : zCode 63 39 = some (.aload_n 0, 40, 0, 0, 0, 0, 3) := cAN_placeOfTrail_1 _ (List.mem_of_getElem? (i := 4) rfl)
theorem cN_placeOfTrail_40 : zCode 63 40 = some (.getfield 50, 43, 6, 12, 2, 232, 2) := cAN_placeOfTrail_1 _ (List.mem_of_getElem? (i := 5) rfl)
theorem cN_placeOfTrail_43 : zCode 63 43 = some (.iload_n 1, 44, 0, 0, 0, 0, 2) := cAN_placeOfTrail_1 _ (List.mem_of_getElem? (i := 6) rfl)
theorem cN_placeOfTrail_44 : zCode 63 44 = some (.iaload, 45, 0, 0, 0, 0, 0) := cAN_placeOfTrail_1 _ (List.mem_of_getElem? (i := 7) rfl)
theorem cN_placeOfTrail_45 : zCode 63 45 = some (.ireturn, 46, 0, 0, 0, 0, 0) := cAN_placeOfTrail_1 _ (List.mem_of_getElem? (i := 8) rfl)
theorem rN_placeOfTrail_0 {a0 : Nat} {a1 : Int} : zS 63 0 [zR a0, zI a1] [] sh pp mm Q ↔ zS 63 1 [zR a0, zI a1] [zR a0] sh pp mm Q := s_go cN_placeOfTrail_0 cN_placeOfTrail_1 rfl rfl
theorem rN_placeOfTrail_1 {a0 s0 : Nat} {a1 : Int} (hk : zKd sh s0 = 6) : zS 63 1 [zR a0, zI a1] [zR s0] sh pp mm Q ↔ zS 63 4 [zR a0, zI a1] [zI (mm s0 14)] sh pp mm Q := s_go cN_placeOfTrail_1 cN_placeOfTrail_4 (if_pos hk) rfl
theorem rN_placeOfTrail_4 {a0 : Nat} {a1 s0 : Int} : zS 63 4 [zR a0, zI a1] [zI s0] sh pp mm Q ↔ zS 63 5 [zR a0, zI a1] [zI (-1), zI s0] sh pp mm Q := s_go cN_placeOfTrail_4 cN_placeOfTrail_5 rfl rfl
theorem rN_placeOfTrail_5 {a0 : Nat} {a1 s0 s1 : Int} : zS 63 5 [zR a0, zI a1] [zI s0, zI s1] sh pp mm Q ↔ (s1 = s0 → zS 63 8 [zR a0, zI a1] [] sh pp mm Q) ∧ (¬ s1 = s0 → zS 63 12 [zR a0, zI a1] [] sh pp mm Q) := s_ifn cN_placeOfTrail_5 cN_placeOfTrail_8 cN_placeOfTrail_12 rfl rfl rfl
theorem rN_placeOfTrail_8 {a0 : Nat} {a1 : Int} : zS 63 8 [zR a0, zI a1] [] sh pp mm Q ↔ zS 63 9 [zR a0, zI a1] [zR a0] sh pp mm Q := s_go cN_placeOfTrail_8 cN_placeOfTrail_9 rfl rfl
theorem rN_placeOfTrail_9 {a0 s0 : Nat} {a1 : Int} (hk : zKd sh s0 = 6) : zS 63 9 [zR a0, zI a1] [zR s0] sh pp mm Q ↔ zS 64 0 [zR s0, zU, zU] [] sh pp mm (fun v sh pp mm => zS 63 12 [zR a0, zI a1] (zPush v []) sh pp mm Q) := s_call cN_placeOfTrail_9 cN_placeOfTrail_12 ((if_pos hk).trans rfl) rfl
theorem rN_placeOfTrail_12 {a0 : Nat} {a1 : Int} : zS 63 12 [zR a0, zI a1] [] sh pp mm Q ↔ zS 63 13 [zR a0, zI a1] [zI a1] sh pp mm Q := s_go cN_placeOfTrail_12 cN_placeOfTrail_13 rfl rfl
theorem rN_placeOfTrail_13 {a0 : Nat} {a1 s0 : Int} : zS 63 13 [zR a0, zI a1] [zI s0] sh pp mm Q ↔ zS 63 14 [zR a0, zI a1] [zI (-1), zI s0] sh pp mm Q := s_go cN_placeOfTrail_13 cN_placeOfTrail_14 rfl rfl
theorem rN_placeOfTrail_14 {a0 : Nat} {a1 s0 s1 : Int} : zS 63 14 [zR a0, zI a1] [zI s0, zI s1] sh pp mm Q ↔ (s1 = s0 → zS 63 17 [zR a0, zU] [] sh pp mm Q) ∧ (¬ s1 = s0 → zS 63 22 [zR a0, zI a1] [] sh pp mm Q) := s_ifn cN_placeOfTrail_14 cN_placeOfTrail_17 cN_placeOfTrail_22 rfl rfl rfl
theorem rN_placeOfTrail_17 {a0 : Nat} {u1 : zV} : zS 63 17 [zR a0, u1] [] sh pp mm Q ↔ zS 63 18 [zU, zU] [zR a0] sh pp mm Q := s_go cN_placeOfTrail_17 cN_placeOfTrail_18 rfl rfl
theorem rN_placeOfTrail_18 {s0 : Nat} {u0 u1 : zV} (hk : zKd sh s0 = 6) : zS 63 18 [u0, u1] [zR s0] sh pp mm Q ↔ zS 63 21 [zU, zU] [zI (mm s0 14)] sh pp mm Q := s_go cN_placeOfTrail_18 cN_placeOfTrail_21 (if_pos hk) rfl
theorem rN_placeOfTrail_21 {s0 : Int} {u0 u1 : zV} : zS 63 21 [u0, u1] [zI s0] sh pp mm Q ↔ Q (zI s0) sh pp mm := s_ret cN_placeOfTrail_21 rfl
theorem rN_placeOfTrail_22 {a0 : Nat} {a1 : Int} : zS 63 22 [zR a0, zI a1] [] sh pp mm Q ↔ zS 63 23 [zR a0, zI a1] [zI a1] sh pp mm Q := s_go cN_placeOfTrail_22 cN_placeOfTrail_23 rfl rfl
theorem rN_placeOfTrail_23 {a0 : Nat} {a1 s0 : Int} : zS 63 23 [zR a0, zI a1] [zI s0] sh pp mm Q ↔ (s0 < 0 → zS 63 34 [zU, zU] [] sh pp mm Q) ∧ (¬ s0 < 0 → zS 63 26 [zR a0, zI a1] [] sh pp mm Q) := s_if cN_placeOfTrail_23 cN_placeOfTrail_34 cN_placeOfTrail_26 rfl rfl rfl
theorem rN_placeOfTrail_26 {a0 : Nat} {a1 : Int} : zS 63 26 [zR a0, zI a1] [] sh pp mm Q ↔ zS 63 27 [zR a0, zI a1] [zI a1] sh pp mm Q := s_go cN_placeOfTrail_26 cN_placeOfTrail_27 rfl rfl
theorem rN_placeOfTrail_27 {a0 : Nat} {a1 s0 : Int} : zS 63 27 [zR a0, zI a1] [zI s0] sh pp mm Q ↔ zS 63 28 [zR a0, zI a1] [zR a0, zI s0] sh pp mm Q := s_go cN_placeOfTrail_27 cN_placeOfTrail_28 rfl rfl
theorem rN_placeOfTrail_28 {a0 s0 : Nat} {a1 s1 : Int} (hk : zKd sh s0 = 6) : zS 63 28 [zR a0, zI a1] [zR s0, zI s1] sh pp mm Q ↔ zS 63 31 [zR a0, zI a1] [zI (mm s0 3), zI s1] sh pp mm Q := s_go cN_placeOfTrail_28 cN_placeOfTrail_31 (if_pos hk) rfl
theorem rN_placeOfTrail_31 {a0 : Nat} {a1 s0 s1 : Int} : zS 63 31 [zR a0, zI a1] [zI s0, zI s1] sh pp mm Q ↔ (s1 < s0 → zS 63 39 [zR a0, zI a1] [] sh pp mm Q) ∧ (¬ s1 < s0 → zS 63 34 [zU, zU] [] sh pp mm Q) := s_if cN_placeOfTrail_31 cN_placeOfTrail_39 cN_placeOfTrail_34 rfl rfl rfl
theorem rN_placeOfTrail_34 {u0 u1 : zV} : zS 63 34 [u0, u1] [] sh pp mm Q ↔ zS 63 36 [zU, zU] [zI (-5)] sh pp mm Q := s_go cN_placeOfTrail_34 cN_placeOfTrail_36 rfl rfl
theorem rN_placeOfTrail_36 {s0 : Int} {u0 u1 : zV} : zS 63 36 [u0, u1] [zI s0] sh pp mm Q ↔ zS 63 45 [zU, zU] [zI s0] sh pp mm Q := s_go cN_placeOfTrail_36 cN_placeOfTrail_45 rfl rfl
theorem rN_placeOfTrail_39 {a0 : Nat} {a1 : Int} : zS 63 39 [zR a0, zI a1] [] sh pp mm Q ↔ zS 63 40 [zU, zI a1] [zR a0] sh pp mm Q := s_go cN_placeOfTrail_39 cN_placeOfTrail_40 rfl rfl
theorem rN_placeOfTrail_40 {s0 : Nat} {a1 : Int} {u0 : zV} (hk : zKd sh s0 = 6) : zS 63 40 [u0, zI a1] [zR s0] sh pp mm Q ↔ zS 63 43 [zU, zI a1] [zR (pp s0 12)] sh pp mm Q := s_go cN_placeOfTrail_40 cN_placeOfTrail_43 (if_pos hk) rfl
theorem rN_placeOfTrail_43 {s0 : Nat} {a1 : Int} {u0 : zV} : zS 63 43 [u0, zI a1] [zR s0] sh pp mm Q ↔ zS 63 44 [zU, zU] [zI a1, zR s0] sh pp mm Q := s_go cN_placeOfTrail_43 cN_placeOfTrail_44 rfl rfl
theorem rN_placeOfTrail_44 {s1 : Nat} {s0 : Int} {u0 u1 : zV} (hk : zKd sh s1 = 20 ∨ zKd sh s1 = 30) (h0 : 0 ≤ s0) (h1 : s0 < zLn sh s1) : zS 63 44 [u0, u1] [zI s0, zR s1] sh pp mm Q ↔ zS 63 45 [zU, zU] [zI (mm s1 s0)] sh pp mm Q := s_go cN_placeOfTrail_44 cN_placeOfTrail_45 (if_pos ⟨hk, h0, h1⟩) rfl
theorem rN_placeOfTrail_45 {s0 : Int} {u0 u1 : zV} : zS 63 45 [u0, u1] [zI s0] sh pp mm Q ↔ Q (zI s0) sh pp mm := s_ret cN_placeOfTrail_45 rfl
theorem cAN_findTrail : ∀ q ∈ zT64, zCode 64 q.1 = some q.2 := zAll (mid := 64) rfl (by decide +kernel)
theorem cAN_findTrail_0 : ∀ q ∈ zT64_0, zCode 64 q.1 = some q.2 := fun q h => cAN_findTrail q (List.mem_append_left _ h)
theorem cAN_findTrail_1 : ∀ q ∈ zT64_1, zCode 64 q.1 = some q.2 := fun q h => cAN_findTrail q (List.mem_append_right _ (List.mem_append_left _ h))
theorem cAN_findTrail_2 : ∀ q ∈ zT64_2, zCode 64 q.1 = some q.2 := fun q h => cAN_findTrail q (List.mem_append_right _ (List.mem_append_right _ h))
theorem cN_findTrail_0 : zCode 64 0 = some (.aload_n 0, 1, 0, 0, 0, 0, 1) := cAN_findTrail_0 _ (List.mem_of_getElem? (i := 0) rfl)
theorem cN_findTrail_1 : zCode 64 1 = some (.invokevirtual 131, 4, 62, 0, 3, 6, 1) := cAN_findTrail_0 _ (List.mem_of_getElem? (i := 1) rfl)
theorem cN_findTrail_4 : zCode 64 4 = some (.istore_n 1, 5, 0, 0, 0, 0, 1) := cAN_findTrail_0 _ (List.mem_of_getElem? (i := 2) rfl)
theorem cN_findTrail_5 : zCode 64 5 = some (.iconst 0, 6, 0, 0, 0, 0, 3) := cAN_findTrail_0 _ (List.mem_of_getElem? (i := 3) rfl)
theorem cN_findTrail_6 : zCode 64 6 = some (.istore_n 2, 7, 0, 0, 0, 0, 3) := cAN_findTrail_0 _ (List.mem_of_getElem? (i := 4) rfl)
theorem cN_findTrail_7 : zCode 64 7 = some (.iload_n 2, 8, 0, 0, 0, 0, 7) := cAN_findTrail_0 _ (List.mem_of_getElem? (i := 5) rfl)
theorem cN_findTrail_8 : zCode 64 8 = some (.bipush 10, 10, 0, 0, 0, 0, 7) := cAN_findTrail_0 _ (List.mem_of_getElem? (i := 6) rfl)
theorem cN_findTrail_10 : zCode 64 10 = some (.if_icmp .ge 60, 13, 70, 0, 0, 0, 7) := cAN_findTrail_0 _ (List.mem_of_getElem? (i := 7) rfl)
theorem cN_findTrail_13 : zCode 64 13 = some (.iload_n 1, 14, 0, 0, 0, 0, 7) := cAN_findTrail_0 _ (List.mem_of_getElem? (i := 8) rfl)
theorem cN_findTrail_14 : zCode 64 14 = some (.iload_n 2, 15, 0, 0, 0, 0, 7) := cAN_findTrail_0 _ (List.mem_of_getElem? (i := 9) rfl)
theorem cN_findTrail_15 : zCode 64 15 = some (.ishr, 16, 0, 0, 0, 0, 7) := cAN_findTrail_0 _ (List.mem_of_getElem? (i := 10) rfl)
theorem cN_findTrail_16 : zCode 64 16 = some (.iconst 1, 17, 0, 0, 0, 0, 7) := cAN_findTrail_0 _ (List.mem_of_getElem? (i := 11) rfl)
theorem cN_findTrail_17 : zCode 64 17 = some (.iand, 18, 0, 0, 0, 0, 7) := cAN_findTrail_0 _ (List.mem_of_getElem? (i := 12) rfl)
theorem cN_findTrail_18 : zCode 64 18 = some (.iconst 1, 19, 0, 0, 0, 0, 7) := cAN_findTrail_0 _ (List.mem_of_getElem? (i := 13) rfl)
theorem cN_findTrail_19 : zCode 64 19 = some (.if_icmp .ne 45, 22, 64, 0, 0, 0, 7) := cAN_findTrail_0 _ (List.mem_of_getElem? (i := 14) rfl)
theorem cN_findTrail_22 : zCode 64 22 = some (.aload_n 0, 23, 0, 0, 0, 0, 7) := cAN_findTrail_0 _ (List.mem_of_getElem? (i := 15) rfl)
theorem cN_findTrail_23 : zCode 64 23 = some (.iload_n 2, 24, 0, 0, 0, 0, 7) := cAN_findTrail_1 _ (List.mem_of_getElem? (i := 0) rfl)
theorem cN_findTrail_24 : zCode 64 24 = some (.invokevirtual 134, 27, 65, 1, 6, 6, 7) := cAN_findTrail_1 _ (List.mem_of_getElem? (i := 1) rfl)
theorem cN_findTrail_27 : zCode 64 27 = some (.aload_n 0, 28, 0, 0, 0, 0, 7) := cAN_findTrail_1 _ (List.mem_of_getElem? (i := 2) rfl)
theorem cN_findTrail_28 : zCode 64 28 = some (.getfield 56, 31, 6, 14, 0, 234, 7) := cAN_findTrail_1 _ (List.mem_of_getElem? (i := 3) rfl)
theorem cN_findTrail_31 : zCode 64 31 = some (.iconst (-1), 32, 0, 0, 0, 0, 7) := cAN_findTrail_1 _ (List.mem_of_getElem? (i := 4) rfl)
theorem cN_findTrail_32 : zCode 64 32 = some (.if_icmp .eq 10, 35, 42, 0, 0, 0, 7) := cAN_findTrail_1 _ (List.mem_of_getElem? (i := 5) rfl)
theorem cN_findTrail_35 : zCode 64 35 = some (.aload_n 0, 36, 0, 0, 0, 0, 7) := cAN_findTrail_1 _ (List.mem_of_getElem? (i := 6) rfl)
theorem cN_findTrail_36 : zCode 64 36 = some (.invokevirtual 138, 39, 67, 0, 2, 6, 7) := cAN_findTrail_1 _ (List.mem_of_getElem? (i := 7) rfl)
theorem cN_findTrail_39 : zCode 64 39 = some (.ifCond .eq 25, 42, 64, 0, 0, 0, 7) := cAN_findTrail_1 _ (List.mem_of_getElem? (i := 8) rfl)
theorem cN_findTrail_42 : zCode 64 42 = some (.aload_n 0, 43, 0, 0, 0, 0, 7) := cAN_findTrail_1 _ (List.mem_of_getElem? (i := 9) rfl)
theorem cN_findTrail_43 : zCode 64 43 = some (.getfield 53, 46, 6, 13, 2, 233, 7) := cAN_findTrail_1 _ (List.mem_of_getElem? (i := 10) rfl)
theorem cN_findTrail_46 : zCode 64 46 = some (.iconst 0, 47, 0, 0, 0, 0, 7) := cAN_findTrail_1 _ (List.mem_of_getElem? (i := 11) rfl)
theorem cN_findTrail_47 : zCode 64 47 = some (.aload_n 0, 48, 0, 0, 0, 0, 7) := cAN_findTrail_1 _ (List.mem_of_getElem? (i := 12) rfl)
theorem cN_findTrail_48 : zCode 64 48 = some (.getfield 50, 51, 6, 12, 2, 232, 7) := cAN_findTrail_1 _ (List.mem_of_getElem? (i := 13) rfl)
theorem cN_findTrail_51 : zCode 64 51 = some (.iconst 0, 52, 0, 0, 0, 0, 7) := cAN_findTrail_1 _ (List.mem_of_getElem? (i := 14) rfl)
theorem cN_findTrail_52 : zCode 64 52 = some (.aload_n 0, 53, 0, 0, 0, 0, 7) := cAN_findTrail_1 _ (List.mem_of_getElem? (i := 15) rfl)
theorem cN_findTrail_53 : zCode 64 53 = some (.getfield 22, 56, 6, 3, 0, 217, 7) := cAN_findTrail_2 _ (List.mem_of_getElem? (i := 0) rfl)
theorem cN_findTrail_56 : zCode 64 56 = some (.invokestatic 141, 59, 0, 77, 0, 910, 7) := cAN_findTrail_2 _ (List.mem_of_getElem? (i := 1) rfl)
theorem cN_findTrail_59 : zCode 64 59 = some (.aload_n 0, 60, 0, 0, 0, 0, 7) := cAN_findTrail_2 _ (List.mem_of_getElem? (i := 2) rfl)
theorem cN_findTrail_60 : zCode 64 60 = some (.iload_n 2, 61, 0, 0, 0, 0, 7) := cAN_findTrail_2 _ (List.mem_of_getElem? (i := 3) rfl)
theorem cN_findTrail_61 : zCode 64 61 = some (.putfield 56, 64, 6, 14, 0, 234, 7) := cAN_findTrail_2 _ (List.mem_of_getElem? (i := 4) rfl)
theorem cN_findTrail_64 : zCode 64 64 = some (.iinc 2 1, 67, 0, 0, 0, 0, 7) := cAN_findTrail_2 _ (List.mem_of_getElem? (i := 5) rfl)
theorem cN_findTrail_67 : zCode 64 67 = some (.goto (-60), 70, 7, 0, 0, 0, 7) := cAN_findTrail_2 _ (List.mem_of_getElem? (i := 6) rfl)
theorem cN_findTrail_70 : zCode 64 70 = some (.return_, 71, 0, 0, 0, 0, 0) := cAN_findTrail_2 _ (List.mem_of_getElem? (i := 7) rfl)
theorem rN_findTrail_0 {a0 : Nat} {u1 u2 : zV} : zS 64 0 [zR a0, u1, u2] [] sh pp mm Q ↔ zS 64 1 [zR a0, zU, zU] [zR a0] sh pp mm Q := s_go cN_findTrail_0 cN_findTrail_1 rfl rfl
theorem rN_findTrail_1 {a0 s0 : Nat} {u1 u2 : zV} (hk : zKd sh s0 = 6) : zS 64 1 [zR a0, u1, u2] [zR s0] sh pp mm Q ↔ zS 62 0 [zR s0, zU, zU] [] sh pp mm (fun v sh pp mm => zS 64 4 [zR a0, zU, zU] (zPush v []) sh pp mm Q) := s_call cN_findTrail_1 cN_findTrail_4 ((if_pos hk).trans rfl) rfl
theorem rN_findTrail_4 {a0 : Nat} {s0 : Int} {u1 u2 : zV} : zS 64 4 [zR a0, u1, u2] [zI s0] sh pp mm Q ↔ zS 64 5 [zR a0, zI s0, zU] [] sh pp mm Q := s_go cN_findTrail_4 cN_findTrail_5 rfl rfl
theorem rN_findTrail_5 {a0 : Nat} {a1 : Int} {u2 : zV} : zS 64 5 [zR a0, zI a1, u2] [] sh pp mm Q ↔ zS 64 6 [zR a0, zI a1, zU] [zI 0] sh pp mm Q := s_go cN_findTrail_5 cN_findTrail_6 rfl rfl
theorem rN_findTrail_6 {a0 : Nat} {a1 s0 : Int} {u2 : zV} : zS 64 6 [zR a0, zI a1, u2] [zI s0] sh pp mm Q ↔ zS 64 7 [zR a0, zI a1, zI s0] [] sh pp mm Q := s_go cN_findTrail_6 cN_findTrail_7 rfl rfl
theorem rN_findTrail_7 {a0 : Nat} {a1 a2 : Int} : zS 64 7 [zR a0, zI a1, zI a2] [] sh pp mm Q ↔ zS 64 8 [zR a0, zI a1, zI a2] [zI a2] sh pp mm Q := s_go cN_findTrail_7 cN_findTrail_8 rfl rfl
theorem rN_findTrail_8 {a0 : Nat} {a1 a2 s0 : Int} : zS 64 8 [zR a0, zI a1, zI a2] [zI s0] sh pp mm Q ↔ zS 64 10 [zR a0, zI a1, zI a2] [zI 10, zI s0] sh pp mm Q := s_go cN_findTrail_8 cN_findTrail_10 rfl rfl
theorem rN_findTrail_10 {a0 : Nat} {a1 a2 s0 s1 : Int} : zS 64 10 [zR a0, zI a1, zI a2] [zI s0, zI s1] sh pp mm Q ↔ (s1 < s0 → zS 64 13 [zR a0, zI a1, zI a2] [] sh pp mm Q) ∧ (¬ s1 < s0 → zS 64 70 [zU, zU, zU] [] sh pp mm Q) := s_ifn cN_findTrail_10 cN_findTrail_13 cN_findTrail_70 rfl rfl rfl
theorem rN_findTrail_13 {a0 : Nat} {a1 a2 : Int} : zS 64 13 [zR a0, zI a1, zI a2] [] sh pp mm Q ↔ zS 64 14 [zR a0, zI a1, zI a2] [zI a1] sh pp mm Q := s_go cN_findTrail_13 cN_findTrail_14 rfl rfl
theorem rN_findTrail_14 {a0 : Nat} {a1 a2 s0 : Int} : zS 64 14 [zR a0, zI a1, zI a2] [zI s0] sh pp mm Q ↔ zS 64 15 [zR a0, zI a1, zI a2] [zI a2, zI s0] sh pp mm Q := s_go cN_findTrail_14 cN_findTrail_15 rfl rfl
theorem rN_findTrail_15 {a0 : Nat} {a1 a2 s0 s1 : Int} : zS 64 15 [zR a0, zI a1, zI a2] [zI s0, zI s1] sh pp mm Q ↔ zS 64 16 [zR a0, zI a1, zI a2] [zI (zshr s1 s0)] sh pp mm Q := s_go cN_findTrail_15 cN_findTrail_16 rfl rfl
theorem rN_findTrail_16 {a0 : Nat} {a1 a2 s0 : Int} : zS 64 16 [zR a0, zI a1, zI a2] [zI s0] sh pp mm Q ↔ zS 64 17 [zR a0, zI a1, zI a2] [zI 1, zI s0] sh pp mm Q := s_go cN_findTrail_16 cN_findTrail_17 rfl rfl
theorem rN_findTrail_17 {a0 : Nat} {a1 a2 s0 s1 : Int} : zS 64 17 [zR a0, zI a1, zI a2] [zI s0, zI s1] sh pp mm Q ↔ zS 64 18 [zR a0, zI a1, zI a2] [zI (zand s1 s0)] sh pp mm Q := s_go cN_findTrail_17 cN_findTrail_18 rfl rfl
theorem rN_findTrail_18 {a0 : Nat} {a1 a2 s0 : Int} : zS 64 18 [zR a0, zI a1, zI a2] [zI s0] sh pp mm Q ↔ zS 64 19 [zR a0, zI a1, zI a2] [zI 1, zI s0] sh pp mm Q := s_go cN_findTrail_18 cN_findTrail_19 rfl rfl
theorem rN_findTrail_19 {a0 : Nat} {a1 a2 s0 s1 : Int} : zS 64 19 [zR a0, zI a1, zI a2] [zI s0, zI s1] sh pp mm Q ↔ (s1 = s0 → zS 64 22 [zR a0, zI a1, zI a2] [] sh pp mm Q) ∧ (¬ s1 = s0 → zS 64 64 [zR a0, zI a1, zI a2] [] sh pp mm Q) := s_ifn cN_findTrail_19 cN_findTrail_22 cN_findTrail_64 rfl rfl rfl
theorem rN_findTrail_22 {a0 : Nat} {a1 a2 : Int} : zS 64 22 [zR a0, zI a1, zI a2] [] sh pp mm Q ↔ zS 64 23 [zR a0, zI a1, zI a2] [zR a0] sh pp mm Q := s_go cN_findTrail_22 cN_findTrail_23 rfl rfl
theorem rN_findTrail_23 {a0 s0 : Nat} {a1 a2 : Int} : zS 64 23 [zR a0, zI a1, zI a2] [zR s0] sh pp mm Q ↔ zS 64 24 [zR a0, zI a1, zI a2] [zI a2, zR s0] sh pp mm Q := s_go cN_findTrail_23 cN_findTrail_24 rfl rfl
theorem rN_findTrail_24 {a0 s1 : Nat} {a1 a2 s0 : Int} (hk : zKd sh s1 = 6) : zS 64 24 [zR a0, zI a1, zI a2] [zI s0, zR s1] sh pp mm Q ↔ zS 65 0 [zR s1, zI s0, zU, zU, zU, zU] [] sh pp mm (fun v sh pp mm => zS 64 27 [zR a0, zI a1, zI a2] (zPush v []) sh pp mm Q) := s_call cN_findTrail_24 cN_findTrail_27 ((if_pos hk).trans rfl) rfl
theorem rN_findTrail_27 {a0 : Nat} {a1 a2 : Int} : zS 64 27 [zR a0, zI a1, zI a2] [] sh pp mm Q ↔ zS 64 28 [zR a0, zI a1, zI a2] [zR a0] sh pp mm Q := s_go cN_findTrail_27 cN_findTrail_28 rfl rfl
theorem rN_findTrail_28 {a0 s0 : Nat} {a1 a2 : Int} (hk : zKd sh s0 = 6) : zS 64 28 [zR a0, zI a1, zI a2] [zR s0] sh pp mm Q ↔ zS 64 31 [zR a0, zI a1, zI a2] [zI (mm s0 14)] sh pp mm Q := s_go cN_findTrail_28 cN_findTrail_31 (if_pos hk) rfl
theorem rN_findTrail_31 {a0 : Nat} {a1 a2 s0 : Int} : zS 64 31 [zR a0, zI a1, zI a2] [zI s0] sh pp mm Q ↔ zS 64 32 [zR a0, zI a1, zI a2] [zI (-1), zI s0] sh pp mm Q := s_go cN_findTrail_31 cN_findTrail_32 rfl rfl
theorem rN_findTrail_32 {a0 : Nat} {a1 a2 s0 s1 : Int} : zS 64 32 [zR a0, zI a1, zI a2] [zI s0, zI s1] sh pp mm Q ↔ (s1 = s0 → zS 64 42 [zR a0, zI a1, zI a2] [] sh pp mm Q) ∧ (¬ s1 = s0 → zS 64 35 [zR a0, zI a1, zI a2] [] sh pp mm Q) := s_if cN_findTrail_32 cN_findTrail_42 cN_findTrail_35 rfl rfl rfl
theorem rN_findTrail_35 {a0 : Nat} {a1 a2 : Int} : zS 64 35 [zR a0, zI a1, zI a2] [] sh pp mm Q ↔ zS 64 36 [zR a0, zI a1, zI a2] [zR a0] sh pp mm Q := s_go cN_findTrail_35 cN_findTrail_36 rfl rfl
theorem rN_findTrail_36 {a0 s0 : Nat} {a1 a2 : Int} (hk : zKd sh s0 = 6) : zS 64 36 [zR a0, zI a1, zI a2] [zR s0] sh pp mm Q ↔ zS 67 0 [zR s0, zU] [] sh pp mm (fun v sh pp mm => zS 64 39 [zR a0, zI a1, zI a2] (zPush v []) sh pp mm Q) := s_call cN_findTrail_36 cN_findTrail_39 ((if_pos hk).trans rfl) rfl
theorem rN_findTrail_39 {a0 : Nat} {a1 a2 s0 : Int} : zS 64 39 [zR a0, zI a1, zI a2] [zI s0] sh pp mm Q ↔ (s0 = 0 → zS 64 64 [zR a0, zI a1, zI a2] [] sh pp mm Q) ∧ (¬ s0 = 0 → zS 64 42 [zR a0, zI a1, zI a2] [] sh pp mm Q) := s_if cN_findTrail_39 cN_findTrail_64 cN_findTrail_42 rfl rfl rfl
theorem rN_findTrail_42 {a0 : Nat} {a1 a2 : Int} : zS 64 42 [zR a0, zI a1, zI a2] [] sh pp mm Q ↔ zS 64 43 [zR a0, zI a1, zI a2] [zR a0] sh pp mm Q := s_go cN_findTrail_42 cN_findTrail_43 rfl rfl
theorem rN_findTrail_43 {a0 s0 : Nat} {a1 a2 : Int} (hk : zKd sh s0 = 6) : zS 64 43 [zR a0, zI a1, zI a2] [zR s0] sh pp mm Q ↔ zS 64 46 [zR a0, zI a1, zI a2] [zR (pp s0 13)] sh pp mm Q := s_go cN_findTrail_43 cN_findTrail_46 (if_pos hk) rfl
theorem rN_findTrail_46 {a0 s0 : Nat} {a1 a2 : Int} : zS 64 46 [zR a0, zI a1, zI a2] [zR s0] sh pp mm Q ↔ zS 64 47 [zR a0, zI a1, zI a2] [zI 0, zR s0] sh pp mm Q := s_go cN_findTrail_46 cN_findTrail_47 rfl rfl
theorem rN_findTrail_47 {a0 s1 : Nat} {a1 a2 s0 : Int} : zS 64 47 [zR a0, zI a1, zI a2] [zI s0, zR s1] sh pp mm Q ↔ zS 64 48 [zR a0, zI a1, zI a2] [zR a0, zI s0, zR s1] sh pp mm Q := s_go cN_findTrail_47 cN_findTrail_48 rfl rfl
theorem rN_findTrail_48 {a0 s0 s2 : Nat} {a1 a2 s1 : Int} (hk : zKd sh s0 = 6) : zS 64 48 [zR a0, zI a1, zI a2] [zR s0, zI s1, zR s2] sh pp mm Q ↔ zS 64 51 [zR a0, zI a1, zI a2] [zR (pp s0 12), zI s1, zR s2] sh pp mm Q := s_go cN_findTrail_48 cN_findTrail_51 (if_pos hk) rfl
theorem rN_findTrail_51 {a0 s0 s2 : Nat} {a1 a2 s1 : Int} : zS 64 51 [zR a0, zI a1, zI a2] [zR s0, zI s1, zR s2] sh pp mm Q ↔ zS 64 52 [zR a0, zI a1, zI a2] [zI 0, zR s0, zI s1, zR s2] sh pp mm Q := s_go cN_findTrail_51 cN_findTrail_52 rfl rfl
theorem rN_findTrail_52 {a0 s1 s3 : Nat} {a1 a2 s0 s2 : Int} : zS 64 52 [zR a0, zI a1, zI a2] [zI s0, zR s1, zI s2, zR s3] sh pp mm Q ↔ zS 64 53 [zR a0, zI a1, zI a2] [zR a0, zI s0, zR s1, zI s2, zR s3] sh pp mm Q := s_go cN_findTrail_52 cN_findTrail_53 rfl rfl
theorem rN_findTrail_53 {a0 s0 s2 s4 : Nat} {a1 a2 s1 s3 : Int} (hk : zKd sh s0 = 6) : zS 64 53 [zR a0, zI a1, zI a2] [zR s0, zI s1, zR s2, zI s3, zR s4] sh pp mm Q ↔ zS 64 56 [zR a0, zI a1, zI a2] [zI (mm s0 3), zI s1, zR s2, zI s3, zR s4] sh pp mm Q := s_go cN_findTrail_53 cN_findTrail_56 (if_pos hk) rfl
theorem rN_findTrail_56 {a0 s2 s4 : Nat} {a1 a2 s0 s1 s3 : Int} (hs : zKd sh s4 = 20 ∨ zKd sh s4 = 30) (hd : zKd sh s2 = 20) (hn : s4 ≠ s2) (h0 : 0 ≤ s3) (h1 : 0 ≤ s1) (h2 : 0 ≤ s0) (h3 : s3 + s0 ≤ zLn sh s4) (h4 : s1 + s0 ≤ zLn sh s2) : zS 64 56 [zR a0, zI a1, zI a2] [zI s0, zI s1, zR s2, zI s3, zR s4] sh pp mm Q ↔ zS 64 59 [zR a0, zI a1, zI a2] [] sh pp (zcpy mm s4 s3 s2 s1 s0) Q := s_go cN_findTrail_56 cN_findTrail_59 (if_pos ⟨hs, hd, hn, h0, h1, h2, h3, h4, by decide⟩) rfl
theorem rN_findTrail_59 {a0 : Nat} {a1 a2 : Int} : zS 64 59 [zR a0, zI a1, zI a2] [] sh pp mm Q ↔ zS 64 60 [zR a0, zI a1, zI a2] [zR a0] sh pp mm Q := s_go cN_findTrail_59 cN_findTrail_60 rfl rfl
theorem rN_findTrail_60 {a0 s0 : Nat} {a1 a2 : Int} : zS 64 60 [zR a0, zI a1, zI a2] [zR s0] sh pp mm Q ↔ zS 64 61 [zR a0, zI a1, zI a2] [zI a2, zR s0] sh pp mm Q := s_go cN_findTrail_60 cN_findTrail_61 rfl rfl
theorem rN_findTrail_61 {a0 s1 : Nat} {a1 a2 s0 : Int} (hk : zKd sh s1 = 6) : zS 64 61 [zR a0, zI a1, zI a2] [zI s0, zR s1] sh pp mm Q ↔ zS 64 64 [zR a0, zI a1, zI a2] [] sh pp (zupd mm s1 14 s0) Q := s_go cN_findTrail_61 cN_findTrail_64 (if_pos ⟨hk, Or.inl rfl⟩) rfl
theorem rN_findTrail_64 {a0 : Nat} {a1 a2 : Int} : zS 64 64 [zR a0, zI a1, zI a2] [] sh pp mm Q ↔ zS 64 67 [zR a0, zI a1, zI (zw32 (a2 + 1))] [] sh pp mm Q := s_go cN_findTrail_64 cN_findTrail_67 rfl rfl
theorem rN_findTrail_67 {a0 : Nat} {a1 a2 : Int} : zS 64 67 [zR a0, zI a1, zI a2] [] sh pp mm Q ↔ zS 64 7 [zR a0, zI a1, zI a2] [] sh pp mm Q := s_go cN_findTrail_67 cN_findTrail_7 rfl rfl
theorem rN_findTrail_70 {u0 u1 u2 : zV} : zS 64 70 [u0, u1, u2] [] sh pp mm Q ↔ Q zU sh pp mm := s_ret cN_findTrail_70 rfl
theorem cAN_goLeastFrom : ∀ q ∈ zT65, zCode 65 q.1 = some q.2 := zAll (mid := 65) rfl (by decide +kernel)
theorem cAN_goLeastFrom_0 : ∀ q ∈ zT65_0, zCode 65 q.1 = some q.2 := fun q h => cAN_goLeastFrom q (List.mem_append_left _ h)
theorem cAN_goLeastFrom_1 : ∀ q ∈ zT65_1, zCode 65 q.1 = some q.2 := fun q h => cAN_goLeastFrom q (List.mem_append_right _ (List.mem_append_left _ h))
theorem cAN_goLeastFrom_2 : ∀ q ∈ zT65_2, zCode 65 q.1 = some q.2 := fun q h => cAN_goLeastFrom q (List.mem_append_right _ (List.mem_append_right _ h))
theorem cN_goLeastFrom_0 : zCode 65 0 = some (.aload_n 0, 1, 0, 0, 0, 0, 3) := cAN_goLeastFrom_0 _ (List.mem_of_getElem? (i := 0) rfl)
theorem cN_goLeastFrom_1 : zCode 65 1 = some (.invokevirtual 93, 4, 58, 0, 1, 6, 3) := cAN_goLeastFrom_0 _ (List.mem_of_getElem? (i := 1) rfl)
theorem cN_goLeastFrom_4 : zCode 65 4 = some (.istore_n 2, 5, 0, 0, 0, 0, 3) := cAN_goLeastFrom_0 _ (List.mem_of_getElem? (i := 2) rfl)
theorem cN_goLeastFrom_5 : zCode 65 5 = some (.iload_n 1, 6, 0, 0, 0, 0, 7) := cAN_goLeastFrom_0 _ (List.mem_of_getElem? (i := 3) rfl)
theorem cN_goLeastFrom_6 : zCode 65 6 = some (.istore_n 3, 7, 0, 0, 0, 0, 5) := cAN_goLeastFrom_0 _ (List.mem_of_getElem? (i := 4) rfl)
theorem cN_goLeastFrom_7 : zCode 65 7 = some (.iconst 0, 8, 0, 0, 0, 0, 13) := cAN_goLeastFrom_0 _ (List.mem_of_getElem? (i := 5) rfl)
theorem cN_goLeastFrom_8 : zCode 65 8 = some (.istore 4, 10, 0, 0, 0, 0, 13) := cAN_goLeastFrom_0 _ (List.mem_of_getElem? (i := 6) rfl)
theorem cN_goLeastFrom_10 : zCode 65 10 = some (.iload 4, 12, 0, 0, 0, 0, 29) := cAN_goLeastFrom_0 _ (List.mem_of_getElem? (i := 7) rfl)
theorem cN_goLeastFrom_12 : zCode 65 12 = some (.aload_n 0, 13, 0, 0, 0, 0, 29) := cAN_goLeastFrom_0 _ (List.mem_of_getElem? (i := 8) rfl)
theorem cN_goLeastFrom_13 : zCode 65 13 = some (.getfield 22, 16, 6, 3, 0, 217, 29) := cAN_goLeastFrom_0 _ (List.mem_of_getElem? (i := 9) rfl)
theorem cN_goLeastFrom_16 : zCode 65 16 = some (.if_icmp .ge 50, 19, 66, 0, 0, 0, 29) := cAN_goLeastFrom_0 _ (List.mem_of_getElem? (i := 10) rfl)
theorem cN_goLeastFrom_19 : zCode 65 19 = some (.aload_n 0, 20, 0, 0, 0, 0, 29) := cAN_goLeastFrom_0 _ (List.mem_of_getElem? (i := 11) rfl)
theorem cN_goLeastFrom_20 : zCode 65 20 = some (.iload_n 3, 21, 0, 0, 0, 0, 29) := cAN_goLeastFrom_0 _ (List.mem_of_getElem? (i := 12) rfl)
theorem cN_goLeastFrom_21 : zCode 65 21 = some (.iload_n 2, 22, 0, 0, 0, 0, 29) := cAN_goLeastFrom_0 _ (List.mem_of_getElem? (i := 13) rfl)
theorem cN_goLeastFrom_22 : zCode 65 22 = some (.invokevirtual 147, 25, 66, 2, 5, 6, 29) := cAN_goLeastFrom_0 _ (List.mem_of_getElem? (i := 14) rfl)
theorem cN_goLeastFrom_25 : zCode 65 25 = some (.istore 5, 27, 0, 0, 0, 0, 29) := cAN_goLeastFrom_0 _ (List.mem_of_getElem? (i := 15) rfl)
theorem cN_goLeastFrom_27 : zCode 65 27 = some (.iload 5, 29, 0, 0, 0, 0, 61) := cAN_goLeastFrom_1 _ (List.mem_of_getElem? (i := 0) rfl)
theorem cN_goLeastFrom_29 : zCode 65 29 = some (.iconst (-1), 30, 0, 0, 0, 0, 61) := cAN_goLeastFrom_1 _ (List.mem_of_getElem? (i := 1) rfl)
theorem cN_goLeastFrom_30 : zCode 65 30 = some (.if_icmp .ne 4, 33, 34, 0, 0, 0, 61) := cAN_goLeastFrom_1 _ (List.mem_of_getElem? (i := 2) rfl)
theorem cN_goLeastFrom_33 : zCode 65 33 = some (.return_, 34, 0, 0, 0, 0, 0) := cAN_goLeastFrom_1 _ (List.mem_of_getElem? (i := 3) rfl)
theorem cN_goLeastFrom_34 : zCode 65 34 = some (.aload_n 0, 35, 0, 0, 0, 0, 61) := cAN_goLeastFrom_1 _ (List.mem_of_getElem? (i := 4) rfl)
theorem cN_goLeastFrom_35 : zCode 65 35 = some (.getfield 53, 38, 6, 13, 2, 233, 61) := cAN_goLeastFrom_1 _ (List.mem_of_getElem? (i := 5) rfl)
theorem cN_goLeastFrom_38 : zCode 65 38 = some (.iload 4, 40, 0, 0, 0, 0, 61) := cAN_goLeastFrom_1 _ (List.mem_of_getElem? (i := 6) rfl)
theorem cN_goLeastFrom_40 : zCode 65 40 = some (.iload 5, 42, 0, 0, 0, 0, 61) := cAN_goLeastFrom_1 _ (List.mem_of_getElem? (i := 7) rfl)
theorem cN_goLeastFrom_42 : zCode 65 42 = some (.iastore, 43, 0, 0, 0, 0, 61) := cAN_goLeastFrom_1 _ (List.mem_of_getElem? (i := 8) rfl)
theorem cN_goLeastFrom_43 : zCode 65 43 = some (.iload_n 2, 44, 0, 0, 0, 0, 61) := cAN_goLeastFrom_1 _ (List.mem_of_getElem? (i := 9) rfl)
theorem cN_goLeastFrom_44 : zCode 65 44 = some (.iconst 1, 45, 0, 0, 0, 0, 57) := cAN_goLeastFrom_1 _ (List.mem_of_getElem? (i := 10) rfl)
theorem cN_goLeastFrom_45 : zCode 65 45 = some (.iload 5, 47, 0, 0, 0, 0, 57) := cAN_goLeastFrom_1 _ (List.mem_of_getElem? (i := 11) rfl)
theorem cN_goLeastFrom_47 : zCode 65 47 = some (.ishl, 48, 0, 0, 0, 0, 57) := cAN_goLeastFrom_1 _ (List.mem_of_getElem? (i := 12) rfl)
theorem cN_goLeastFrom_48 : zCode 65 48 = some (.iconst (-1), 49, 0, 0, 0, 0, 57) := cAN_goLeastFrom_1 _ (List.mem_of_getElem? (i := 13) rfl)
theorem cN_goLeastFrom_49 : zCode 65 49 = some (.ixor, 50, 0, 0, 0, 0, 57) := cAN_goLeastFrom_1 _ (List.mem_of_getElem? (i := 14) rfl)
theorem cN_goLeastFrom_50 : zCode 65 50 = some (.iand, 51, 0, 0, 0, 0, 57) := cAN_goLeastFrom_1 _ (List.mem_of_getElem? (i := 15) rfl)
theorem cN_goLeastFrom_51 : zCode 65 51 = some (.istore_n 2, 52, 0, 0, 0, 0, 57) := cAN_goLeastFrom_2 _ (List.mem_of_getElem? (i := 0) rfl)
theorem cN_goLeastFrom_52 : zCode 65 52 = some (.aload_n 0, 53, 0, 0, 0, 0, 61) := cAN_goLeastFrom_2 _ (List.mem_of_getElem? (i := 1) rfl)
theorem cN_goLeastFrom_53 : zCode 65 53 = some (.iload 5, 55, 0, 0, 0, 0, 61) := cAN_goLeastFrom_2 _ (List.mem_of_getElem? (i := 2) rfl)
theorem cN_goLeastFrom_55 : zCode 65 55 = some (.iload_n 3, 56, 0, 0, 0, 0, 29) := cAN_goLeastFrom_2 _ (List.mem_of_getElem? (i := 3) rfl)
theorem cN_goLeastFrom_56 : zCode 65 56 = some (.invokevirtual 150, 59, 59, 2, 3, 6, 21) := cAN_goLeastFrom_2 _ (List.mem_of_getElem? (i := 4) rfl)
theorem cN_goLeastFrom_59 : zCode 65 59 = some (.istore_n 3, 60, 0, 0, 0, 0, 21) := cAN_goLeastFrom_2 _ (List.mem_of_getElem? (i := 5) rfl)
theorem cN_goLeastFrom_60 : zCode 65 60 = some (.iinc 4 1, 63, 0, 0, 0, 0, 29) := cAN_goLeastFrom_2 _ (List.mem_of_getElem? (i := 6) rfl)
theorem cN_goLeastFrom_63 : zCode 65 63 = some (.goto (-53), 66, 10, 0, 0, 0, 29) := cAN_goLeastFrom_2 _ (List.mem_of_getElem? (i := 7) rfl)
theorem cN_goLeastFrom_66 : zCode 65 66 = some (.return_, 67, 0, 0, 0, 0, 0) := cAN_goLeastFrom_2 _ (List.mem_of_getElem? (i := 8) rfl)
theorem rN_goLeastFrom_0 {a0 : Nat} {a1 : Int} {u2 u3 u4 u5 : zV} : zS 65 0 [zR a0, zI a1, u2, u3, u4, u5] [] sh pp mm Q ↔ zS 65 1 [zR a0, zI a1, zU, zU, zU, zU] [zR a0] sh pp mm Q := s_go cN_goLeastFrom_0 cN_goLeastFrom_1 rfl rfl
theorem rN_goLeastFrom_1 {a0 s0 : Nat} {a1 : Int} {u2 u3 u4 u5 : zV} (hk : zKd sh s0 = 6) : zS 65 1 [zR a0, zI a1, u2, u3, u4, u5] [zR s0] sh pp mm Q ↔ zS 58 0 [zR s0] [] sh pp mm (fun v sh pp mm => zS 65 4 [zR a0, zI a1, zU, zU, zU, zU] (zPush v []) sh pp mm Q) := s_call cN_goLeastFrom_1 cN_goLeastFrom_4 ((if_pos hk).trans rfl) rfl
theorem rN_goLeastFrom_4 {a0 : Nat} {a1 s0 : Int} {u2 u3 u4 u5 : zV} : zS 65 4 [zR a0, zI a1, u2, u3, u4, u5] [zI s0] sh pp mm Q ↔ zS 65 5 [zR a0, zI a1, zI s0, zU, zU, zU] [] sh pp mm Q := s_go cN_goLeastFrom_4 cN_goLeastFrom_5 rfl rfl
theorem rN_goLeastFrom_5 {a0 : Nat} {a1 a2 : Int} {u3 u4 u5 : zV} : zS 65 5 [zR a0, zI a1, zI a2, u3, u4, u5] [] sh pp mm Q ↔ zS 65 6 [zR a0, zU, zI a2, zU, zU, zU] [zI a1] sh pp mm Q := s_go cN_goLeastFrom_5 cN_goLeastFrom_6 rfl rfl
theorem rN_goLeastFrom_6 {a0 : Nat} {a2 s0 : Int} {u1 u3 u4 u5 : zV} : zS 65 6 [zR a0, u1, zI a2, u3, u4, u5] [zI s0] sh pp mm Q ↔ zS 65 7 [zR a0, zU, zI a2, zI s0, zU, zU] [] sh pp mm Q := s_go cN_goLeastFrom_6 cN_goLeastFrom_7 rfl rfl
theorem rN_goLeastFrom_7 {a0 : Nat} {a2 a3 : Int} {u1 u4 u5 : zV} : zS 65 7 [zR a0, u1, zI a2, zI a3, u4, u5] [] sh pp mm Q ↔ zS 65 8 [zR a0, zU, zI a2, zI a3, zU, zU] [zI 0] sh pp mm Q := s_go cN_goLeastFrom_7 cN_goLeastFrom_8 rfl rfl
theorem rN_goLeastFrom_8 {a0 : Nat} {a2 a3 s0 : Int} {u1 u4 u5 : zV} : zS 65 8 [zR a0, u1, zI a2, zI a3, u4, u5] [zI s0] sh pp mm Q ↔ zS 65 10 [zR a0, zU, zI a2, zI a3, zI s0, zU] [] sh pp mm Q := s_go cN_goLeastFrom_8 cN_goLeastFrom_10 rfl rfl
theorem rN_goLeastFrom_10 {a0 : Nat} {a2 a3 a4 : Int} {u1 u5 : zV} : zS 65 10 [zR a0, u1, zI a2, zI a3, zI a4, u5] [] sh pp mm Q ↔ zS 65 12 [zR a0, zU, zI a2, zI a3, zI a4, zU] [zI a4] sh pp mm Q := s_go cN_goLeastFrom_10 cN_goLeastFrom_12 rfl rfl
theorem rN_goLeastFrom_12 {a0 : Nat} {a2 a3 a4 s0 : Int} {u1 u5 : zV} : zS 65 12 [zR a0, u1, zI a2, zI a3, zI a4, u5] [zI s0] sh pp mm Q ↔ zS 65 13 [zR a0, zU, zI a2, zI a3, zI a4, zU] [zR a0, zI s0] sh pp mm Q := s_go cN_goLeastFrom_12 cN_goLeastFrom_13 rfl rfl
theorem rN_goLeastFrom_13 {a0 s0 : Nat} {a2 a3 a4 s1 : Int} {u1 u5 : zV} (hk : zKd sh s0 = 6) : zS 65 13 [zR a0, u1, zI a2, zI a3, zI a4, u5] [zR s0, zI s1] sh pp mm Q ↔ zS 65 16 [zR a0, zU, zI a2, zI a3, zI a4, zU] [zI (mm s0 3), zI s1] sh pp mm Q := s_go cN_goLeastFrom_13 cN_goLeastFrom_16 (if_pos hk) rfl
theorem rN_goLeastFrom_16 {a0 : Nat} {a2 a3 a4 s0 s1 : Int} {u1 u5 : zV} : zS 65 16 [zR a0, u1, zI a2, zI a3, zI a4, u5] [zI s0, zI s1] sh pp mm Q ↔ (s1 < s0 → zS 65 19 [zR a0, zU, zI a2, zI a3, zI a4, zU] [] sh pp mm Q) ∧ (¬ s1 < s0 → zS 65 66 [zU, zU, zU, zU, zU, zU] [] sh pp mm Q) := s_ifn cN_goLeastFrom_16 cN_goLeastFrom_19 cN_goLeastFrom_66 rfl rfl rfl
theorem rN_goLeastFrom_19 {a0 : Nat} {a2 a3 a4 : Int} {u1 u5 : zV} : zS 65 19 [zR a0, u1, zI a2, zI a3, zI a4, u5] [] sh pp mm Q ↔ zS 65 20 [zR a0, zU, zI a2, zI a3, zI a4, zU] [zR a0] sh pp mm Q := s_go cN_goLeastFrom_19 cN_goLeastFrom_20 rfl rfl
theorem rN_goLeastFrom_20 {a0 s0 : Nat} {a2 a3 a4 : Int} {u1 u5 : zV} : zS 65 20 [zR a0, u1, zI a2, zI a3, zI a4, u5] [zR s0] sh pp mm Q ↔ zS 65 21 [zR a0, zU, zI a2, zI a3, zI a4, zU] [zI a3, zR s0] sh pp mm Q := s_go cN_goLeastFrom_20 cN_goLeastFrom_21 rfl rfl
theorem rN_goLeastFrom_21 {a0 s1 : Nat} {a2 a3 a4 s0 : Int} {u1 u5 : zV} : zS 65 21 [zR a0, u1, zI a2, zI a3, zI a4, u5] [zI s0, zR s1] sh pp mm Q ↔ zS 65 22 [zR a0, zU, zI a2, zI a3, zI a4, zU] [zI a2, zI s0, zR s1] sh pp mm Q := s_go cN_goLeastFrom_21 cN_goLeastFrom_22 rfl rfl
theorem rN_goLeastFrom_22 {a0 s2 : Nat} {a2 a3 a4 s0 s1 : Int} {u1 u5 : zV} (hk : zKd sh s2 = 6) : zS 65 22 [zR a0, u1, zI a2, zI a3, zI a4, u5] [zI s0, zI s1, zR s2] sh pp mm Q ↔ zS 66 0 [zR s2, zI s1, zI s0, zU, zU] [] sh pp mm (fun v sh pp mm => zS 65 25 [zR a0, zU, zI a2, zI a3, zI a4, zU] (zPush v []) sh pp mm Q) := s_call cN_goLeastFrom_22 cN_goLeastFrom_25 ((if_pos hk).trans rfl) rfl
theorem rN_goLeastFrom_25 {a0 : Nat} {a2 a3 a4 s0 : Int} {u1 u5 : zV} : zS 65 25 [zR a0, u1, zI a2, zI a3, zI a4, u5] [zI s0] sh pp mm Q ↔ zS 65 27 [zR a0, zU, zI a2, zI a3, zI a4, zI s0] [] sh pp mm Q := s_go cN_goLeastFrom_25 cN_goLeastFrom_27 rfl rfl
theorem rN_goLeastFrom_27 {a0 : Nat} {a2 a3 a4 a5 : Int} {u1 : zV} : zS 65 27 [zR a0, u1, zI a2, zI a3, zI a4, zI a5] [] sh pp mm Q ↔ zS 65 29 [zR a0, zU, zI a2, zI a3, zI a4, zI a5] [zI a5] sh pp mm Q := s_go cN_goLeastFrom_27 cN_goLeastFrom_29 rfl rfl
theorem rN_goLeastFrom_29 {a0 : Nat} {a2 a3 a4 a5 s0 : Int} {u1 : zV} : zS 65 29 [zR a0, u1, zI a2, zI a3, zI a4, zI a5] [zI s0] sh pp mm Q ↔ zS 65 30 [zR a0, zU, zI a2, zI a3, zI a4, zI a5] [zI (-1), zI s0] sh pp mm Q := s_go cN_goLeastFrom_29 cN_goLeastFrom_30 rfl rfl
theorem rN_goLeastFrom_30 {a0 : Nat} {a2 a3 a4 a5 s0 s1 : Int} {u1 : zV} : zS 65 30 [zR a0, u1, zI a2, zI a3, zI a4, zI a5] [zI s0, zI s1] sh pp mm Q ↔ (s1 = s0 → zS 65 33 [zU, zU, zU, zU, zU, zU] [] sh pp mm Q) ∧ (¬ s1 = s0 → zS 65 34 [zR a0, zU, zI a2, zI a3, zI a4, zI a5] [] sh pp mm Q) := s_ifn cN_goLeastFrom_30 cN_goLeastFrom_33 cN_goLeastFrom_34 rfl rfl rfl
theorem rN_goLeastFrom_33 {u0 u1 u2 u3 u4 u5 : zV} : zS 65 33 [u0, u1, u2, u3, u4, u5] [] sh pp mm Q ↔ Q zU sh pp mm := s_ret cN_goLeastFrom_33 rfl
theorem rN_goLeastFrom_34 {a0 : Nat} {a2 a3 a4 a5 : Int} {u1 : zV} : zS 65 34 [zR a0, u1, zI a2, zI a3, zI a4, zI a5] [] sh pp mm Q ↔ zS 65 35 [zR a0, zU, zI a2, zI a3, zI a4, zI a5] [zR a0] sh pp mm Q := s_go cN_goLeastFrom_34 cN_goLeastFrom_35 rfl rfl
theorem rN_goLeastFrom_35 {a0 s0 : Nat} {a2 a3 a4 a5 : Int} {u1 : zV} (hk : zKd sh s0 = 6) : zS 65 35 [zR a0, u1, zI a2, zI a3, zI a4, zI a5] [zR s0] sh pp mm Q ↔ zS 65 38 [zR a0, zU, zI a2, zI a3, zI a4, zI a5] [zR (pp s0 13)] sh pp mm Q := s_go cN_goLeastFrom_35 cN_goLeastFrom_38 (if_pos hk) rfl
theorem rN_goLeastFrom_38 {a0 s0 : Nat} {a2 a3 a4 a5 : Int} {u1 : zV} : zS 65 38 [zR a0, u1, zI a2, zI a3, zI a4, zI a5] [zR s0] sh pp mm Q ↔ zS 65 40 [zR a0, zU, zI a2, zI a3, zI a4, zI a5] [zI a4, zR s0] sh pp mm Q := s_go cN_goLeastFrom_38 cN_goLeastFrom_40 rfl rfl
theorem rN_goLeastFrom_40 {a0 s1 : Nat} {a2 a3 a4 a5 s0 : Int} {u1 : zV} : zS 65 40 [zR a0, u1, zI a2, zI a3, zI a4, zI a5] [zI s0, zR s1] sh pp mm Q ↔ zS 65 42 [zR a0, zU, zI a2, zI a3, zI a4, zI a5] [zI a5, zI s0, zR s1] sh pp mm Q := s_go cN_goLeastFrom_40 cN_goLeastFrom_42 rfl rfl
theorem rN_goLeastFrom_42 {a0 s2 : Nat} {a2 a3 a4 a5 s0 s1 : Int} {u1 : zV} (hk : zKd sh s2 = 20) (h0 : 0 ≤ s1) (h1 : s1 < zLn sh s2) : zS 65 42 [zR a0, u1, zI a2, zI a3, zI a4, zI a5] [zI s0, zI s1, zR s2] sh pp mm Q ↔ zS 65 43 [zR a0, zU, zI a2, zI a3, zI a4, zI a5] [] sh pp (zupd mm s2 s1 s0) Q := s_go cN_goLeastFrom_42 cN_goLeastFrom_43 (if_pos ⟨hk, h0, h1, fun h => absurd h (by decide)⟩) rfl
theorem rN_goLeastFrom_43 {a0 : Nat} {a2 a3 a4 a5 : Int} {u1 : zV} : zS 65 43 [zR a0, u1, zI a2, zI a3, zI a4, zI a5] [] sh pp mm Q ↔ zS 65 44 [zR a0, zU, zU, zI a3, zI a4, zI a5] [zI a2] sh pp mm Q := s_go cN_goLeastFrom_43 cN_goLeastFrom_44 rfl rfl
theorem rN_goLeastFrom_44 {a0 : Nat} {a3 a4 a5 s0 : Int} {u1 u2 : zV} : zS 65 44 [zR a0, u1, u2, zI a3, zI a4, zI a5] [zI s0] sh pp mm Q ↔ zS 65 45 [zR a0, zU, zU, zI a3, zI a4, zI a5] [zI 1, zI s0] sh pp mm Q := s_go cN_goLeastFrom_44 cN_goLeastFrom_45 rfl rfl
theorem rN_goLeastFrom_45 {a0 : Nat} {a3 a4 a5 s0 s1 : Int} {u1 u2 : zV} : zS 65 45 [zR a0, u1, u2, zI a3, zI a4, zI a5] [zI s0, zI s1] sh pp mm Q ↔ zS 65 47 [zR a0, zU, zU, zI a3, zI a4, zI a5] [zI a5, zI s0, zI s1] sh pp mm Q := s_go cN_goLeastFrom_45 cN_goLeastFrom_47 rfl rfl
theorem rN_goLeastFrom_47 {a0 : Nat} {a3 a4 a5 s0 s1 s2 : Int} {u1 u2 : zV} : zS 65 47 [zR a0, u1, u2, zI a3, zI a4, zI a5] [zI s0, zI s1, zI s2] sh pp mm Q ↔ zS 65 48 [zR a0, zU, zU, zI a3, zI a4, zI a5] [zI (zshl s1 s0), zI s2] sh pp mm Q := s_go cN_goLeastFrom_47 cN_goLeastFrom_48 rfl rfl
theorem rN_goLeastFrom_48 {a0 : Nat} {a3 a4 a5 s0 s1 : Int} {u1 u2 : zV} : zS 65 48 [zR a0, u1, u2, zI a3, zI a4, zI a5] [zI s0, zI s1] sh pp mm Q ↔ zS 65 49 [zR a0, zU, zU, zI a3, zI a4, zI a5] [zI (-1), zI s0, zI s1] sh pp mm Q := s_go cN_goLeastFrom_48 cN_goLeastFrom_49 rfl rfl
theorem rN_goLeastFrom_49 {a0 : Nat} {a3 a4 a5 s0 s1 s2 : Int} {u1 u2 : zV} : zS 65 49 [zR a0, u1, u2, zI a3, zI a4, zI a5] [zI s0, zI s1, zI s2] sh pp mm Q ↔ zS 65 50 [zR a0, zU, zU, zI a3, zI a4, zI a5] [zI (zxor s1 s0), zI s2] sh pp mm Q := s_go cN_goLeastFrom_49 cN_goLeastFrom_50 rfl rfl
theorem rN_goLeastFrom_50 {a0 : Nat} {a3 a4 a5 s0 s1 : Int} {u1 u2 : zV} : zS 65 50 [zR a0, u1, u2, zI a3, zI a4, zI a5] [zI s0, zI s1] sh pp mm Q ↔ zS 65 51 [zR a0, zU, zU, zI a3, zI a4, zI a5] [zI (zand s1 s0)] sh pp mm Q := s_go cN_goLeastFrom_50 cN_goLeastFrom_51 rfl rfl
theorem rN_goLeastFrom_51 {a0 : Nat} {a3 a4 a5 s0 : Int} {u1 u2 : zV} : zS 65 51 [zR a0, u1, u2, zI a3, zI a4, zI a5] [zI s0] sh pp mm Q ↔ zS 65 52 [zR a0, zU, zI s0, zI a3, zI a4, zI a5] [] sh pp mm Q := s_go cN_goLeastFrom_51 cN_goLeastFrom_52 rfl rfl
theorem rN_goLeastFrom_52 {a0 : Nat} {a2 a3 a4 a5 : Int} {u1 : zV} : zS 65 52 [zR a0, u1, zI a2, zI a3, zI a4, zI a5] [] sh pp mm Q ↔ zS 65 53 [zR a0, zU, zI a2, zI a3, zI a4, zI a5] [zR a0] sh pp mm Q := s_go cN_goLeastFrom_52 cN_goLeastFrom_53 rfl rfl
theorem rN_goLeastFrom_53 {a0 s0 : Nat} {a2 a3 a4 a5 : Int} {u1 : zV} : zS 65 53 [zR a0, u1, zI a2, zI a3, zI a4, zI a5] [zR s0] sh pp mm Q ↔ zS 65 55 [zR a0, zU, zI a2, zI a3, zI a4, zU] [zI a5, zR s0] sh pp mm Q := s_go cN_goLeastFrom_53 cN_goLeastFrom_55 rfl rfl
theorem rN_goLeastFrom_55 {a0 s1 : Nat} {a2 a3 a4 s0 : Int} {u1 u5 : zV} : zS 65 55 [zR a0, u1, zI a2, zI a3, zI a4, u5] [zI s0, zR s1] sh pp mm Q ↔ zS 65 56 [zR a0, zU, zI a2, zU, zI a4, zU] [zI a3, zI s0, zR s1] sh pp mm Q := s_go cN_goLeastFrom_55 cN_goLeastFrom_56 rfl rfl
theorem rN_goLeastFrom_56 {a0 s2 : Nat} {a2 a4 s0 s1 : Int} {u1 u3 u5 : zV} (hk : zKd sh s2 = 6) : zS 65 56 [zR a0, u1, zI a2, u3, zI a4, u5] [zI s0, zI s1, zR s2] sh pp mm Q ↔ zS 59 0 [zR s2, zI s1, zI s0] [] sh pp mm (fun v sh pp mm => zS 65 59 [zR a0, zU, zI a2, zU, zI a4, zU] (zPush v []) sh pp mm Q) := s_call cN_goLeastFrom_56 cN_goLeastFrom_59 ((if_pos hk).trans rfl) rfl
theorem rN_goLeastFrom_59 {a0 : Nat} {a2 a4 s0 : Int} {u1 u3 u5 : zV} : zS 65 59 [zR a0, u1, zI a2, u3, zI a4, u5] [zI s0] sh pp mm Q ↔ zS 65 60 [zR a0, zU, zI a2, zI s0, zI a4, zU] [] sh pp mm Q := s_go cN_goLeastFrom_59 cN_goLeastFrom_60 rfl rfl
theorem rN_goLeastFrom_60 {a0 : Nat} {a2 a3 a4 : Int} {u1 u5 : zV} : zS 65 60 [zR a0, u1, zI a2, zI a3, zI a4, u5] [] sh pp mm Q ↔ zS 65 63 [zR a0, zU, zI a2, zI a3, zI (zw32 (a4 + 1)), zU] [] sh pp mm Q := s_go cN_goLeastFrom_60 cN_goLeastFrom_63 rfl rfl
theorem rN_goLeastFrom_63 {a0 : Nat} {a2 a3 a4 : Int} {u1 u5 : zV} : zS 65 63 [zR a0, u1, zI a2, zI a3, zI a4, u5] [] sh pp mm Q ↔ zS 65 10 [zR a0, zU, zI a2, zI a3, zI a4, zU] [] sh pp mm Q := s_go cN_goLeastFrom_63 cN_goLeastFrom_10 rfl rfl
theorem rN_goLeastFrom_66 {u0 u1 u2 u3 u4 u5 : zV} : zS 65 66 [u0, u1, u2, u3, u4, u5] [] sh pp mm Q ↔ Q zU sh pp mm := s_ret cN_goLeastFrom_66 rfl
theorem cAN_leastStep : ∀ q ∈ zT66, zCode 66 q.1 = some q.2 := zAll (mid := 66) rfl (by decide +kernel)
theorem cAN_leastStep_0 : ∀ q ∈ zT66_0, zCode 66 q.1 = some q.2 := fun q h => cAN_leastStep q (List.mem_append_left _ h)
theorem cAN_leastStep_1 : ∀ q ∈ zT66_1, zCode 66 q.1 = some q.2 := fun q h => cAN_leastStep q (List.mem_append_right _ (List.mem_append_left _ h))
theorem cAN_leastStep_2 : ∀ q ∈ zT66_2, zCode 66 q.1 = some q.2 := fun q h => cAN_leastStep q (List.mem_append_right _ (List.mem_append_right _ (List.mem_append_left _ h)))
theorem cAN_leastStep_3 : ∀ q ∈ zT66_3, zCode 66 q.1 = some q.2 := fun q h => cAN_leastStep q (List.mem_append_right _ (List.mem_append_right _ (List.mem_append_right _ h)))
theorem cN_leastStep_0 : zCode 66 0 = some (.iconst 0, 1, 0, 0, 0, 0, 7) := cAN_leastStep_0 _ (List.mem_of_getElem? (i := 0) rfl)
theorem cN_leastStep_1 : zCode 66 1 = some (.istore_n 3, 2, 0, 0, 0, 0, 7) := cAN_leastStep_0 _ (List.mem_of_getElem? (i := 1) rfl)
theorem cN_leastStep_2 : zCode 66 2 = some (.iload_n 3, 3, 0, 0, 0, 0, 15) := cAN_leastStep_0 _ (List.mem_of_getElem? (i := 2) rfl)
theorem cN_leastStep_3 : zCode 66 3 = some (.aload_n 0, 4, 0, 0, 0, 0, 15) := cAN_leastStep_0 _ (List.mem_of_getElem? (i := 3) rfl)
theorem cN_leastStep_4 : zCode 66 4 = some (.getfield 22, 7, 6, 3, 0, 217, 15) := cAN_leastStep_0 _ (List.mem_of_getElem? (i := 4) rfl)
theorem cN_leastStep_7 : zCode 66 7 = some (.if_icmp .ge 66, 10, 73, 0, 0, 0, 15) := cAN_leastStep_0 _ (List.mem_of_getElem? (i := 5) rfl)
theorem cN_leastStep_10 : zCode 66 10 = some (.iload_n 2, 11, 0, 0, 0, 0, 15) := cAN_leastStep_0 _ (List.mem_of_getElem? (i := 6) rfl)
theorem cN_leastStep_11 : zCode 66 11 = some (.iload_n 3, 12, 0, 0, 0, 0, 15) := cAN_leastStep_0 _ (List.mem_of_getElem? (i := 7) rfl)
theorem cN_leastStep_12 : zCode 66 12 = some (.ishr, 13, 0, 0, 0, 0, 15) := cAN_leastStep_0 _ (List.mem_of_getElem? (i := 8) rfl)
theorem cN_leastStep_13 : zCode 66 13 = some (.iconst 1, 14, 0, 0, 0, 0, 15) := cAN_leastStep_0 _ (List.mem_of_getElem? (i := 9) rfl)
theorem cN_leastStep_14 : zCode 66 14 = some (.iand, 15, 0, 0, 0, 0, 15) := cAN_leastStep_0 _ (List.mem_of_getElem? (i := 10) rfl)
theorem cN_leastStep_15 : zCode 66 15 = some (.iconst 1, 16, 0, 0, 0, 0, 15) := cAN_leastStep_0 _ (List.mem_of_getElem? (i := 11) rfl)
theorem cN_leastStep_16 : zCode 66 16 = some (.if_icmp .ne 21, 19, 37, 0, 0, 0, 15) := cAN_leastStep_0 _ (List.mem_of_getElem? (i := 12) rfl)
theorem cN_leastStep_19 : zCode 66 19 = some (.aload_n 0, 20, 0, 0, 0, 0, 15) := cAN_leastStep_0 _ (List.mem_of_getElem? (i := 13) rfl)
theorem cN_leastStep_20 : zCode 66 20 = some (.getfield 32, 23, 6, 6, 2, 222, 15) := cAN_leastStep_0 _ (List.mem_of_getElem? (i := 14) rfl)
theorem cN_leastStep_23 : zCode 66 23 = some (.iload_n 3, 24, 0, 0, 0, 0, 15) := cAN_leastStep_0 _ (List.mem_of_getElem? (i := 15) rfl)
theorem cN_leastStep_24 : zCode 66 24 = some (.iaload, 25, 0, 0, 0, 0, 15) := cAN_leastStep_1 _ (List.mem_of_getElem? (i := 0) rfl)
theorem cN_leastStep_25 : zCode 66 25 = some (.iload_n 1, 26, 0, 0, 0, 0, 15) := cAN_leastStep_1 _ (List.mem_of_getElem? (i := 1) rfl)
theorem cN_leastStep_26 : zCode 66 26 = some (.ishr, 27, 0, 0, 0, 0, 15) := cAN_leastStep_1 _ (List.mem_of_getElem? (i := 2) rfl)
theorem cN_leastStep_27 : zCode 66 27 = some (.iconst 1, 28, 0, 0, 0, 0, 15) := cAN_leastStep_1 _ (List.mem_of_getElem? (i := 3) rfl)
theorem cN_leastStep_28 : zCode 66 28 = some (.iand, 29, 0, 0, 0, 0, 15) := cAN_leastStep_1 _ (List.mem_of_getElem? (i := 4) rfl)
theorem cN_leastStep_29 : zCode 66 29 = some (.iconst 1, 30, 0, 0, 0, 0, 15) := cAN_leastStep_1 _ (List.mem_of_getElem? (i := 5) rfl)
theorem cN_leastStep_30 : zCode 66 30 = some (.if_icmp .ne 7, 33, 37, 0, 0, 0, 15) := cAN_leastStep_1 _ (List.mem_of_getElem? (i := 6) rfl)
theorem cN_leastStep_33 : zCode 66 33 = some (.iconst 1, 34, 0, 0, 0, 0, 15) := cAN_leastStep_1 _ (List.mem_of_getElem? (i := 7) rfl)
theorem cN_leastStep_34 : zCode 66 34 = some (.goto 4, 37, 38, 0, 0, 0, 15) := cAN_leastStep_1 _ (List.mem_of_getElem? (i := 8) rfl)
theorem cN_leastStep_37 : zCode 66 37 = some (.iconst 0, 38, 0, 0, 0, 0, 15) := cAN_leastStep_1 _ (List.mem_of_getElem? (i := 9) rfl)
theorem cN_leastStep_38 : zCode 66 38 = some (.istore 4, 40, 0, 0, 0, 0, 15) := cAN_leastStep_1 _ (List.mem_of_getElem? (i := 10) rfl)
theorem cN_leastStep_40 : zCode 66 40 = some (.iload 4, 42, 0, 0, 0, 0, 31) := cAN_leastStep_1 _ (List.mem_of_getElem? (i := 11) rfl)
theorem cN_leastStep_42 : zCode 66 42 = some (.ifCond .eq 25, 45, 67, 0, 0, 0, 15) := cAN_leastStep_1 _ (List.mem_of_getElem? (i := 12) rfl)
theorem cN_leastStep_45 : zCode 66 45 = some (.aload_n 0, 46, 0, 0, 0, 0, 15) := cAN_leastStep_1 _ (List.mem_of_getElem? (i := 13) rfl)
theorem cN_leastStep_46 : zCode 66 46 = some (.aload_n 0, 47, 0, 0, 0, 0, 15) := cAN_leastStep_1 _ (List.mem_of_getElem? (i := 14) rfl)
theorem cN_leastStep_47 : zCode 66 47 = some (.iload_n 3, 48, 0, 0, 0, 0, 15) := cAN_leastStep_1 _ (List.mem_of_getElem? (i := 15) rfl)
theorem cN_leastStep_48 : zCode 66 48 = some (.iload_n 1, 49, 0, 0, 0, 0, 15) := cAN_leastStep_2 _ (List.mem_of_getElem? (i := 0) rfl)
theorem cN_leastStep_49 : zCode 66 49 = some (.invokevirtual 150, 52, 59, 2, 3, 6, 15) := cAN_leastStep_2 _ (List.mem_of_getElem? (i := 1) rfl)
theorem cN_leastStep_52 : zCode 66 52 = some (.iload_n 2, 53, 0, 0, 0, 0, 15) := cAN_leastStep_2 _ (List.mem_of_getElem? (i := 2) rfl)
theorem cN_leastStep_53 : zCode 66 53 = some (.iconst 1, 54, 0, 0, 0, 0, 15) := cAN_leastStep_2 _ (List.mem_of_getElem? (i := 3) rfl)
theorem cN_leastStep_54 : zCode 66 54 = some (.iload_n 3, 55, 0, 0, 0, 0, 15) := cAN_leastStep_2 _ (List.mem_of_getElem? (i := 4) rfl)
theorem cN_leastStep_55 : zCode 66 55 = some (.ishl, 56, 0, 0, 0, 0, 15) := cAN_leastStep_2 _ (List.mem_of_getElem? (i := 5) rfl)
theorem cN_leastStep_56 : zCode 66 56 = some (.iconst (-1), 57, 0, 0, 0, 0, 15) := cAN_leastStep_2 _ (List.mem_of_getElem? (i := 6) rfl)
theorem cN_leastStep_57 : zCode 66 57 = some (.ixor, 58, 0, 0, 0, 0, 15) := cAN_leastStep_2 _ (List.mem_of_getElem? (i := 7) rfl)
theorem cN_leastStep_58 : zCode 66 58 = some (.iand, 59, 0, 0, 0, 0, 15) := cAN_leastStep_2 _ (List.mem_of_getElem? (i := 8) rfl)
theorem cN_leastStep_59 : zCode 66 59 = some (.invokevirtual 97, 62, 60, 2, 8, 6, 15) := cAN_leastStep_2 _ (List.mem_of_getElem? (i := 9) rfl)
theorem cN_leastStep_62 : zCode 66 62 = some (.ifCond .eq 5, 65, 67, 0, 0, 0, 15) := cAN_leastStep_2 _ (List.mem_of_getElem? (i := 10) rfl)
theorem cN_leastStep_65 : zCode 66 65 = some (.iload_n 3, 66, 0, 0, 0, 0, 8) := cAN_leastStep_2 _ (List.mem_of_getElem? (i := 11) rfl)
theorem cN_leastStep_66 : zCode 66 66 = some (.ireturn, 67, 0, 0, 0, 0, 0) := cAN_leastStep_2 _ (List.mem_of_getElem? (i := 12) rfl)
theorem cN_leastStep_67 : zCode 66 67 = some (.iinc 3 1, 70, 0, 0, 0, 0, 15) := cAN_leastStep_2 _ (List.mem_of_getElem? (i := 13) rfl)
theorem cN_leastStep_70 : zCode 66 70 = some (.goto (-68), 73, 2, 0, 0, 0, 15) := cAN_leastStep_2 _ (List.mem_of_getElem? (i := 14) rfl)
theorem cN_leastStep_73 : zCode 66 73 = some (.iconst (-1), 74, 0, 0, 0, 0, 0) := cAN_leastStep_2 _ (List.mem_of_getElem? (i := 15) rfl)
theorem cN_leastStep_74 : zCode 66 74 = some (.ireturn, 75, 0, 0, 0, 0, 0) := cAN_leastStep_3 _ (List.mem_of_getElem? (i := 0) rfl)
theorem rN_leastStep_0 {a0 : Nat} {a1 a2 : Int} {u3 u4 : zV} : zS 66 0 [zR a0, zI a1, zI a2, u3, u4] [] sh pp mm Q ↔ zS 66 1 [zR a0, zI a1, zI a2, zU, zU] [zI 0] sh pp mm Q := s_go cN_leastStep_0 cN_leastStep_1 rfl rfl
theorem rN_leastStep_1 {a0 : Nat} {a1 a2 s0 : Int} {u3 u4 : zV} : zS 66 1 [zR a0, zI a1, zI a2, u3, u4] [zI s0] sh pp mm Q ↔ zS 66 2 [zR a0, zI a1, zI a2, zI s0, zU] [] sh pp mm Q := s_go cN_leastStep_1 cN_leastStep_2 rfl rfl
theorem rN_leastStep_2 {a0 : Nat} {a1 a2 a3 : Int} {u4 : zV} : zS 66 2 [zR a0, zI a1, zI a2, zI a3, u4] [] sh pp mm Q ↔ zS 66 3 [zR a0, zI a1, zI a2, zI a3, zU] [zI a3] sh pp mm Q := s_go cN_leastStep_2 cN_leastStep_3 rfl rfl
theorem rN_leastStep_3 {a0 : Nat} {a1 a2 a3 s0 : Int} {u4 : zV} : zS 66 3 [zR a0, zI a1, zI a2, zI a3, u4] [zI s0] sh pp mm Q ↔ zS 66 4 [zR a0, zI a1, zI a2, zI a3, zU] [zR a0, zI s0] sh pp mm Q := s_go cN_leastStep_3 cN_leastStep_4 rfl rfl
theorem rN_leastStep_4 {a0 s0 : Nat} {a1 a2 a3 s1 : Int} {u4 : zV} (hk : zKd sh s0 = 6) : zS 66 4 [zR a0, zI a1, zI a2, zI a3, u4] [zR s0, zI s1] sh pp mm Q ↔ zS 66 7 [zR a0, zI a1, zI a2, zI a3, zU] [zI (mm s0 3), zI s1] sh pp mm Q := s_go cN_leastStep_4 cN_leastStep_7 (if_pos hk) rfl
theorem rN_leastStep_7 {a0 : Nat} {a1 a2 a3 s0 s1 : Int} {u4 : zV} : zS 66 7 [zR a0, zI a1, zI a2, zI a3, u4] [zI s0, zI s1] sh pp mm Q ↔ (s1 < s0 → zS 66 10 [zR a0, zI a1, zI a2, zI a3, zU] [] sh pp mm Q) ∧ (¬ s1 < s0 → zS 66 73 [zU, zU, zU, zU, zU] [] sh pp mm Q) := s_ifn cN_leastStep_7 cN_leastStep_10 cN_leastStep_73 rfl rfl rfl
theorem rN_leastStep_10 {a0 : Nat} {a1 a2 a3 : Int} {u4 : zV} : zS 66 10 [zR a0, zI a1, zI a2, zI a3, u4] [] sh pp mm Q ↔ zS 66 11 [zR a0, zI a1, zI a2, zI a3, zU] [zI a2] sh pp mm Q := s_go cN_leastStep_10 cN_leastStep_11 rfl rfl
theorem rN_leastStep_11 {a0 : Nat} {a1 a2 a3 s0 : Int} {u4 : zV} : zS 66 11 [zR a0, zI a1, zI a2, zI a3, u4] [zI s0] sh pp mm Q ↔ zS 66 12 [zR a0, zI a1, zI a2, zI a3, zU] [zI a3, zI s0] sh pp mm Q := s_go cN_leastStep_11 cN_leastStep_12 rfl rfl
theorem rN_leastStep_12 {a0 : Nat} {a1 a2 a3 s0 s1 : Int} {u4 : zV} : zS 66 12 [zR a0, zI a1, zI a2, zI a3, u4] [zI s0, zI s1] sh pp mm Q ↔ zS 66 13 [zR a0, zI a1, zI a2, zI a3, zU] [zI (zshr s1 s0)] sh pp mm Q := s_go cN_leastStep_12 cN_leastStep_13 rfl rfl
theorem rN_leastStep_13 {a0 : Nat} {a1 a2 a3 s0 : Int} {u4 : zV} : zS 66 13 [zR a0, zI a1, zI a2, zI a3, u4] [zI s0] sh pp mm Q ↔ zS 66 14 [zR a0, zI a1, zI a2, zI a3, zU] [zI 1, zI s0] sh pp mm Q := s_go cN_leastStep_13 cN_leastStep_14 rfl rfl
theorem rN_leastStep_14 {a0 : Nat} {a1 a2 a3 s0 s1 : Int} {u4 : zV} : zS 66 14 [zR a0, zI a1, zI a2, zI a3, u4] [zI s0, zI s1] sh pp mm Q ↔ zS 66 15 [zR a0, zI a1, zI a2, zI a3, zU] [zI (zand s1 s0)] sh pp mm Q := s_go cN_leastStep_14 cN_leastStep_15 rfl rfl
theorem rN_leastStep_15 {a0 : Nat} {a1 a2 a3 s0 : Int} {u4 : zV} : zS 66 15 [zR a0, zI a1, zI a2, zI a3, u4] [zI s0] sh pp mm Q ↔ zS 66 16 [zR a0, zI a1, zI a2, zI a3, zU] [zI 1, zI s0] sh pp mm Q := s_go cN_leastStep_15 cN_leastStep_16 rfl rfl
theorem rN_leastStep_16 {a0 : Nat} {a1 a2 a3 s0 s1 : Int} {u4 : zV} : zS 66 16 [zR a0, zI a1, zI a2, zI a3, u4] [zI s0, zI s1] sh pp mm Q ↔ (s1 = s0 → zS 66 19 [zR a0, zI a1, zI a2, zI a3, zU] [] sh pp mm Q) ∧ (¬ s1 = s0 → zS 66 37 [zR a0, zI a1, zI a2, zI a3, zU] [] sh pp mm Q) := s_ifn cN_leastStep_16 cN_leastStep_19 cN_leastStep_37 rfl rfl rfl
theorem rN_leastStep_19 {a0 : Nat} {a1 a2 a3 : Int} {u4 : zV} : zS 66 19 [zR a0, zI a1, zI a2, zI a3, u4] [] sh pp mm Q ↔ zS 66 20 [zR a0, zI a1, zI a2, zI a3, zU] [zR a0] sh pp mm Q := s_go cN_leastStep_19 cN_leastStep_20 rfl rfl
theorem rN_leastStep_20 {a0 s0 : Nat} {a1 a2 a3 : Int} {u4 : zV} (hk : zKd sh s0 = 6) : zS 66 20 [zR a0, zI a1, zI a2, zI a3, u4] [zR s0] sh pp mm Q ↔ zS 66 23 [zR a0, zI a1, zI a2, zI a3, zU] [zR (pp s0 6)] sh pp mm Q := s_go cN_leastStep_20 cN_leastStep_23 (if_pos hk) rfl
theorem rN_leastStep_23 {a0 s0 : Nat} {a1 a2 a3 : Int} {u4 : zV} : zS 66 23 [zR a0, zI a1, zI a2, zI a3, u4] [zR s0] sh pp mm Q ↔ zS 66 24 [zR a0, zI a1, zI a2, zI a3, zU] [zI a3, zR s0] sh pp mm Q := s_go cN_leastStep_23 cN_leastStep_24 rfl rfl
theorem rN_leastStep_24 {a0 s1 : Nat} {a1 a2 a3 s0 : Int} {u4 : zV} (hk : zKd sh s1 = 20 ∨ zKd sh s1 = 30) (h0 : 0 ≤ s0) (h1 : s0 < zLn sh s1) : zS 66 24 [zR a0, zI a1, zI a2, zI a3, u4] [zI s0, zR s1] sh pp mm Q ↔ zS 66 25 [zR a0, zI a1, zI a2, zI a3, zU] [zI (mm s1 s0)] sh pp mm Q := s_go cN_leastStep_24 cN_leastStep_25 (if_pos ⟨hk, h0, h1⟩) rfl
theorem rN_leastStep_25 {a0 : Nat} {a1 a2 a3 s0 : Int} {u4 : zV} : zS 66 25 [zR a0, zI a1, zI a2, zI a3, u4] [zI s0] sh pp mm Q ↔ zS 66 26 [zR a0, zI a1, zI a2, zI a3, zU] [zI a1, zI s0] sh pp mm Q := s_go cN_leastStep_25 cN_leastStep_26 rfl rfl
theorem rN_leastStep_26 {a0 : Nat} {a1 a2 a3 s0 s1 : Int} {u4 : zV} : zS 66 26 [zR a0, zI a1, zI a2, zI a3, u4] [zI s0, zI s1] sh pp mm Q ↔ zS 66 27 [zR a0, zI a1, zI a2, zI a3, zU] [zI (zshr s1 s0)] sh pp mm Q := s_go cN_leastStep_26 cN_leastStep_27 rfl rfl
theorem rN_leastStep_27 {a0 : Nat} {a1 a2 a3 s0 : Int} {u4 : zV} : zS 66 27 [zR a0, zI a1, zI a2, zI a3, u4] [zI s0] sh pp mm Q ↔ zS 66 28 [zR a0, zI a1, zI a2, zI a3, zU] [zI 1, zI s0] sh pp mm Q := s_go cN_leastStep_27 cN_leastStep_28 rfl rfl
theorem rN_leastStep_28 {a0 : Nat} {a1 a2 a3 s0 s1 : Int} {u4 : zV} : zS 66 28 [zR a0, zI a1, zI a2, zI a3, u4] [zI s0, zI s1] sh pp mm Q ↔ zS 66 29 [zR a0, zI a1, zI a2, zI a3, zU] [zI (zand s1 s0)] sh pp mm Q := s_go cN_leastStep_28 cN_leastStep_29 rfl rfl
theorem rN_leastStep_29 {a0 : Nat} {a1 a2 a3 s0 : Int} {u4 : zV} : zS 66 29 [zR a0, zI a1, zI a2, zI a3, u4] [zI s0] sh pp mm Q ↔ zS 66 30 [zR a0, zI a1, zI a2, zI a3, zU] [zI 1, zI s0] sh pp mm Q := s_go cN_leastStep_29 cN_leastStep_30 rfl rfl
theorem rN_leastStep_30 {a0 : Nat} {a1 a2 a3 s0 s1 : Int} {u4 : zV} : zS 66 30 [zR a0, zI a1, zI a2, zI a3, u4] [zI s0, zI s1] sh pp mm Q ↔ (s1 = s0 → zS 66 33 [zR a0, zI a1, zI a2, zI a3, zU] [] sh pp mm Q) ∧ (¬ s1 = s0 → zS 66 37 [zR a0, zI a1, zI a2, zI a3, zU] [] sh pp mm Q) := s_ifn cN_leastStep_30 cN_leastStep_33 cN_leastStep_37 rfl rfl rfl
theorem rN_leastStep_33 {a0 : Nat} {a1 a2 a3 : Int} {u4 : zV} : zS 66 33 [zR a0, zI a1, zI a2, zI a3, u4] [] sh pp mm Q ↔ zS 66 34 [zR a0, zI a1, zI a2, zI a3, zU] [zI 1] sh pp mm Q := s_go cN_leastStep_33 cN_leastStep_34 rfl rfl
theorem rN_leastStep_34 {a0 : Nat} {a1 a2 a3 s0 : Int} {u4 : zV} : zS 66 34 [zR a0, zI a1, zI a2, zI a3, u4] [zI s0] sh pp mm Q ↔ zS 66 38 [zR a0, zI a1, zI a2, zI a3, zU] [zI s0] sh pp mm Q := s_go cN_leastStep_34 cN_leastStep_38 rfl rfl
theorem rN_leastStep_37 {a0 : Nat} {a1 a2 a3 : Int} {u4 : zV} : zS 66 37 [zR a0, zI a1, zI a2, zI a3, u4] [] sh pp mm Q ↔ zS 66 38 [zR a0, zI a1, zI a2, zI a3, zU] [zI 0] sh pp mm Q := s_go cN_leastStep_37 cN_leastStep_38 rfl rfl
theorem rN_leastStep_38 {a0 : Nat} {a1 a2 a3 s0 : Int} {u4 : zV} : zS 66 38 [zR a0, zI a1, zI a2, zI a3, u4] [zI s0] sh pp mm Q ↔ zS 66 40 [zR a0, zI a1, zI a2, zI a3, zI s0] [] sh pp mm Q := s_go cN_leastStep_38 cN_leastStep_40 rfl rfl
theorem rN_leastStep_40 {a0 : Nat} {a1 a2 a3 a4 : Int} : zS 66 40 [zR a0, zI a1, zI a2, zI a3, zI a4] [] sh pp mm Q ↔ zS 66 42 [zR a0, zI a1, zI a2, zI a3, zU] [zI a4] sh pp mm Q := s_go cN_leastStep_40 cN_leastStep_42 rfl rfl
theorem rN_leastStep_42 {a0 : Nat} {a1 a2 a3 s0 : Int} {u4 : zV} : zS 66 42 [zR a0, zI a1, zI a2, zI a3, u4] [zI s0] sh pp mm Q ↔ (s0 = 0 → zS 66 67 [zR a0, zI a1, zI a2, zI a3, zU] [] sh pp mm Q) ∧ (¬ s0 = 0 → zS 66 45 [zR a0, zI a1, zI a2, zI a3, zU] [] sh pp mm Q) := s_if cN_leastStep_42 cN_leastStep_67 cN_leastStep_45 rfl rfl rfl
theorem rN_leastStep_45 {a0 : Nat} {a1 a2 a3 : Int} {u4 : zV} : zS 66 45 [zR a0, zI a1, zI a2, zI a3, u4] [] sh pp mm Q ↔ zS 66 46 [zR a0, zI a1, zI a2, zI a3, zU] [zR a0] sh pp mm Q := s_go cN_leastStep_45 cN_leastStep_46 rfl rfl
theorem rN_leastStep_46 {a0 s0 : Nat} {a1 a2 a3 : Int} {u4 : zV} : zS 66 46 [zR a0, zI a1, zI a2, zI a3, u4] [zR s0] sh pp mm Q ↔ zS 66 47 [zR a0, zI a1, zI a2, zI a3, zU] [zR a0, zR s0] sh pp mm Q := s_go cN_leastStep_46 cN_leastStep_47 rfl rfl
theorem rN_leastStep_47 {a0 s0 s1 : Nat} {a1 a2 a3 : Int} {u4 : zV} : zS 66 47 [zR a0, zI a1, zI a2, zI a3, u4] [zR s0, zR s1] sh pp mm Q ↔ zS 66 48 [zR a0, zI a1, zI a2, zI a3, zU] [zI a3, zR s0, zR s1] sh pp mm Q := s_go cN_leastStep_47 cN_leastStep_48 rfl rfl
theorem rN_leastStep_48 {a0 s1 s2 : Nat} {a1 a2 a3 s0 : Int} {u4 : zV} : zS 66 48 [zR a0, zI a1, zI a2, zI a3, u4] [zI s0, zR s1, zR s2] sh pp mm Q ↔ zS 66 49 [zR a0, zI a1, zI a2, zI a3, zU] [zI a1, zI s0, zR s1, zR s2] sh pp mm Q := s_go cN_leastStep_48 cN_leastStep_49 rfl rfl
theorem rN_leastStep_49 {a0 s2 s3 : Nat} {a1 a2 a3 s0 s1 : Int} {u4 : zV} (hk : zKd sh s2 = 6) : zS 66 49 [zR a0, zI a1, zI a2, zI a3, u4] [zI s0, zI s1, zR s2, zR s3] sh pp mm Q ↔ zS 59 0 [zR s2, zI s1, zI s0] [] sh pp mm (fun v sh pp mm => zS 66 52 [zR a0, zI a1, zI a2, zI a3, zU] (zPush v [zR s3]) sh pp mm Q) := s_call cN_leastStep_49 cN_leastStep_52 ((if_pos hk).trans rfl) rfl
theorem rN_leastStep_52 {a0 s1 : Nat} {a1 a2 a3 s0 : Int} {u4 : zV} : zS 66 52 [zR a0, zI a1, zI a2, zI a3, u4] [zI s0, zR s1] sh pp mm Q ↔ zS 66 53 [zR a0, zI a1, zI a2, zI a3, zU] [zI a2, zI s0, zR s1] sh pp mm Q := s_go cN_leastStep_52 cN_leastStep_53 rfl rfl
theorem rN_leastStep_53 {a0 s2 : Nat} {a1 a2 a3 s0 s1 : Int} {u4 : zV} : zS 66 53 [zR a0, zI a1, zI a2, zI a3, u4] [zI s0, zI s1, zR s2] sh pp mm Q ↔ zS 66 54 [zR a0, zI a1, zI a2, zI a3, zU] [zI 1, zI s0, zI s1, zR s2] sh pp mm Q := s_go cN_leastStep_53 cN_leastStep_54 rfl rfl
theorem rN_leastStep_54 {a0 s3 : Nat} {a1 a2 a3 s0 s1 s2 : Int} {u4 : zV} : zS 66 54 [zR a0, zI a1, zI a2, zI a3, u4] [zI s0, zI s1, zI s2, zR s3] sh pp mm Q ↔ zS 66 55 [zR a0, zI a1, zI a2, zI a3, zU] [zI a3, zI s0, zI s1, zI s2, zR s3] sh pp mm Q := s_go cN_leastStep_54 cN_leastStep_55 rfl rfl
theorem rN_leastStep_55 {a0 s4 : Nat} {a1 a2 a3 s0 s1 s2 s3 : Int} {u4 : zV} : zS 66 55 [zR a0, zI a1, zI a2, zI a3, u4] [zI s0, zI s1, zI s2, zI s3, zR s4] sh pp mm Q ↔ zS 66 56 [zR a0, zI a1, zI a2, zI a3, zU] [zI (zshl s1 s0), zI s2, zI s3, zR s4] sh pp mm Q := s_go cN_leastStep_55 cN_leastStep_56 rfl rfl
theorem rN_leastStep_56 {a0 s3 : Nat} {a1 a2 a3 s0 s1 s2 : Int} {u4 : zV} : zS 66 56 [zR a0, zI a1, zI a2, zI a3, u4] [zI s0, zI s1, zI s2, zR s3] sh pp mm Q ↔ zS 66 57 [zR a0, zI a1, zI a2, zI a3, zU] [zI (-1), zI s0, zI s1, zI s2, zR s3] sh pp mm Q := s_go cN_leastStep_56 cN_leastStep_57 rfl rfl
theorem rN_leastStep_57 {a0 s4 : Nat} {a1 a2 a3 s0 s1 s2 s3 : Int} {u4 : zV} : zS 66 57 [zR a0, zI a1, zI a2, zI a3, u4] [zI s0, zI s1, zI s2, zI s3, zR s4] sh pp mm Q ↔ zS 66 58 [zR a0, zI a1, zI a2, zI a3, zU] [zI (zxor s1 s0), zI s2, zI s3, zR s4] sh pp mm Q := s_go cN_leastStep_57 cN_leastStep_58 rfl rfl
theorem rN_leastStep_58 {a0 s3 : Nat} {a1 a2 a3 s0 s1 s2 : Int} {u4 : zV} : zS 66 58 [zR a0, zI a1, zI a2, zI a3, u4] [zI s0, zI s1, zI s2, zR s3] sh pp mm Q ↔ zS 66 59 [zR a0, zI a1, zI a2, zI a3, zU] [zI (zand s1 s0), zI s2, zR s3] sh pp mm Q := s_go cN_leastStep_58 cN_leastStep_59 rfl rfl
theorem rN_leastStep_59 {a0 s2 : Nat} {a1 a2 a3 s0 s1 : Int} {u4 : zV} (hk : zKd sh s2 = 6) : zS 66 59 [zR a0, zI a1, zI a2, zI a3, u4] [zI s0, zI s1, zR s2] sh pp mm Q ↔ zS 60 0 [zR s2, zI s1, zI s0, zU, zU, zU, zU, zU] [] sh pp mm (fun v sh pp mm => zS 66 62 [zR a0, zI a1, zI a2, zI a3, zU] (zPush v []) sh pp mm Q) := s_call cN_leastStep_59 cN_leastStep_62 ((if_pos hk).trans rfl) rfl
theorem rN_leastStep_62 {a0 : Nat} {a1 a2 a3 s0 : Int} {u4 : zV} : zS 66 62 [zR a0, zI a1, zI a2, zI a3, u4] [zI s0] sh pp mm Q ↔ (s0 = 0 → zS 66 67 [zR a0, zI a1, zI a2, zI a3, zU] [] sh pp mm Q) ∧ (¬ s0 = 0 → zS 66 65 [zU, zU, zU, zI a3, zU] [] sh pp mm Q) := s_if cN_leastStep_62 cN_leastStep_67 cN_leastStep_65 rfl rfl rfl
theorem rN_leastStep_65 {a3 : Int} {u0 u1 u2 u4 : zV} : zS 66 65 [u0, u1, u2, zI a3, u4] [] sh pp mm Q ↔ zS 66 66 [zU, zU, zU, zU, zU] [zI a3] sh pp mm Q := s_go cN_leastStep_65 cN_leastStep_66 rfl rfl
theorem rN_leastStep_66 {s0 : Int} {u0 u1 u2 u3 u4 : zV} : zS 66 66 [u0, u1, u2, u3, u4] [zI s0] sh pp mm Q ↔ Q (zI s0) sh pp mm := s_ret cN_leastStep_66 rfl
theorem rN_leastStep_67 {a0 : Nat} {a1 a2 a3 : Int} {u4 : zV} : zS 66 67 [zR a0, zI a1, zI a2, zI a3, u4] [] sh pp mm Q ↔ zS 66 70 [zR a0, zI a1, zI a2, zI (zw32 (a3 + 1)), zU] [] sh pp mm Q := s_go cN_leastStep_67 cN_leastStep_70 rfl rfl
theorem rN_leastStep_70 {a0 : Nat} {a1 a2 a3 : Int} {u4 : zV} : zS 66 70 [zR a0, zI a1, zI a2, zI a3, u4] [] sh pp mm Q ↔ zS 66 2 [zR a0, zI a1, zI a2, zI a3, zU] [] sh pp mm Q := s_go cN_leastStep_70 cN_leastStep_2 rfl rfl
theorem rN_leastStep_73 {u0 u1 u2 u3 u4 : zV} : zS 66 73 [u0, u1, u2, u3, u4] [] sh pp mm Q ↔ zS 66 74 [zU, zU, zU, zU, zU] [zI (-1)] sh pp mm Q := s_go cN_leastStep_73 cN_leastStep_74 rfl rfl
theorem rN_leastStep_74 {s0 : Int} {u0 u1 u2 u3 u4 : zV} : zS 66 74 [u0, u1, u2, u3, u4] [zI s0] sh pp mm Q ↔ Q (zI s0) sh pp mm := s_ret cN_leastStep_74 rfl
theorem cAN_isTriedFirst : ∀ q ∈ zT67, zCode 67 q.1 = some q.2 := zAll (mid := 67) rfl (by decide +kernel)
theorem cAN_isTriedFirst_0 : ∀ q ∈ zT67_0, zCode 67 q.1 = some q.2 := fun q h => cAN_isTriedFirst q (List.mem_append_left _ h)
theorem cAN_isTriedFirst_1 : ∀ q ∈ zT67_1, zCode 67 q.1 = some q.2 := fun q h => cAN_isTriedFirst q (List.mem_append_right _ h)
theorem cN_isTriedFirst_0 : zCode 67 0 = some (.iconst 0, 1, 0, 0, 0, 0, 1) := cAN_isTriedFirst_0 _ (List.mem_of_getElem? (i := 0) rfl)
theorem cN_isTriedFirst_1 : zCode 67 1 = some (.istore_n 1, 2, 0, 0, 0, 0, 1) := cAN_isTriedFirst_0 _ (List.mem_of_getElem? (i := 1) rfl)
theorem cN_isTriedFirst_2 : zCode 67 2 = some (.iload_n 1, 3, 0, 0, 0, 0, 3) := cAN_isTriedFirst_0 _ (List.mem_of_getElem? (i := 2) rfl)
theorem cN_isTriedFirst_3 : zCode 67 3 = some (.aload_n 0, 4, 0, 0, 0, 0, 3) := cAN_isTriedFirst_0 _ (List.mem_of_getElem? (i := 3) rfl)
theorem cN_isTriedFirst_4 : zCode 67 4 = some (.getfield 22, 7, 6, 3, 0, 217, 3) := cAN_isTriedFirst_0 _ (List.mem_of_getElem? (i := 4) rfl)
theorem cN_isTriedFirst_7 : zCode 67 7 = some (.if_icmp .ge 45, 10, 52, 0, 0, 0, 3) := cAN_isTriedFirst_0 _ (List.mem_of_getElem? (i := 5) rfl)
theorem cN_isTriedFirst_10 : zCode 67 10 = some (.aload_n 0, 11, 0, 0, 0, 0, 3) := cAN_isTriedFirst_0 _ (List.mem_of_getElem? (i := 6) rfl)
theorem cN_isTriedFirst_11 : zCode 67 11 = some (.getfield 53, 14, 6, 13, 2, 233, 3) := cAN_isTriedFirst_0 _ (List.mem_of_getElem? (i := 7) rfl)
theorem cN_isTriedFirst_14 : zCode 67 14 = some (.iload_n 1, 15, 0, 0, 0, 0, 3) := cAN_isTriedFirst_0 _ (List.mem_of_getElem? (i := 8) rfl)
theorem cN_isTriedFirst_15 : zCode 67 15 = some (.iaload, 16, 0, 0, 0, 0, 3) := cAN_isTriedFirst_0 _ (List.mem_of_getElem? (i := 9) rfl)
theorem cN_isTriedFirst_16 : zCode 67 16 = some (.aload_n 0, 17, 0, 0, 0, 0, 3) := cAN_isTriedFirst_0 _ (List.mem_of_getElem? (i := 10) rfl)
theorem cN_isTriedFirst_17 : zCode 67 17 = some (.getfield 50, 20, 6, 12, 2, 232, 3) := cAN_isTriedFirst_0 _ (List.mem_of_getElem? (i := 11) rfl)
theorem cN_isTriedFirst_20 : zCode 67 20 = some (.iload_n 1, 21, 0, 0, 0, 0, 3) := cAN_isTriedFirst_0 _ (List.mem_of_getElem? (i := 12) rfl)
theorem cN_isTriedFirst_21 : zCode 67 21 = some (.iaload, 22, 0, 0, 0, 0, 3) := cAN_isTriedFirst_0 _ (List.mem_of_getElem? (i := 13) rfl)
theorem cN_isTriedFirst_22 : zCode 67 22 = some (.if_icmp .eq 24, 25, 46, 0, 0, 0, 3) := cAN_isTriedFirst_0 _ (List.mem_of_getElem? (i := 14) rfl)
theorem cN_isTriedFirst_25 : zCode 67 25 = some (.aload_n 0, 26, 0, 0, 0, 0, 3) := cAN_isTriedFirst_0 _ (List.mem_of_getElem? (i := 15) rfl)
theorem cN_isTriedFirst_26 : zCode 67 26 = some (.getfield 53, 29, 6, 13, 2, 233, 3) := cAN_isTriedFirst_1 _ (List.mem_of_getElem? (i := 0) rfl)
theorem cN_isTriedFirst_29 : zCode 67 29 = some (.iload_n 1, 30, 0, 0, 0, 0, 3) := cAN_isTriedFirst_1 _ (List.mem_of_getElem? (i := 1) rfl)
theorem cN_isTriedFirst_30 : zCode 67 30 = some (.iaload, 31, 0, 0, 0, 0, 3) := cAN_isTriedFirst_1 _ (List.mem_of_getElem? (i := 2) rfl)
theorem cN_isTriedFirst_31 : zCode 67 31 = some (.aload_n 0, 32, 0, 0, 0, 0, 3) := cAN_isTriedFirst_1 _ (List.mem_of_getElem? (i := 3) rfl)
theorem cN_isTriedFirst_32 : zCode 67 32 = some (.getfield 50, 35, 6, 12, 2, 232, 2) := cAN_isTriedFirst_1 _ (List.mem_of_getElem? (i := 4) rfl)
theorem cN_isTriedFirst_35 : zCode 67 35 = some (.iload_n 1, 36, 0, 0, 0, 0, 2) := cAN_isTriedFirst_1 _ (List.mem_of_getElem? (i := 5) rfl)
theorem cN_isTriedFirst_36 : zCode 67 36 = some (.iaload, 37, 0, 0, 0, 0, 0) := cAN_isTriedFirst_1 _ (List.mem_of_getElem? (i := 6) rfl)
theorem cN_isTriedFirst_37 : zCode 67 37 = some (.if_icmp .ge 7, 40, 44, 0, 0, 0, 0) := cAN_isTriedFirst_1 _ (List.mem_of_getElem? (i := 7) rfl)
theorem cN_isTriedFirst_40 : zCode 67 40 = some (.iconst 1, 41, 0, 0, 0, 0, 0) := cAN_isTriedFirst_1 _ (List.mem_of_getElem? (i := 8) rfl)
theorem cN_isTriedFirst_41 : zCode 67 41 = some (.goto 4, 44, 45, 0, 0, 0, 0) := cAN_isTriedFirst_1 _ (List.mem_of_getElem? (i := 9) rfl)
theorem cN_isTriedFirst_44 : zCode 67 44 = some (.iconst 0, 45, 0, 0, 0, 0, 0) := cAN_isTriedFirst_1 _ (List.mem_of_getElem? (i := 10) rfl)
theorem cN_isTriedFirst_45 : zCode 67 45 = some (.ireturn, 46, 0, 3, 0, 0, 0) := cAN_isTriedFirst_1 _ (List.mem_of_getElem? (i := 11) rfl)
theorem cN_isTriedFirst_46 : zCode 67 46 = some (.iinc 1 1, 49, 0, 0, 0, 0, 3) := cAN_isTriedFirst_1 _ (List.mem_of_getElem? (i := 12) rfl)
theorem cN_isTriedFirst_49 : zCode 67 49 = some (.goto (-47), 52, 2, 0, 0, 0, 3) := cAN_isTriedFirst_1 _ (List.mem_of_getElem? (i := 13) rfl)
theorem cN_isTriedFirst_52 : zCode 67 52 = some (.iconst 0, 53, 0, 0, 0, 0, 0) := cAN_isTriedFirst_1 _ (List.mem_of_getElem? (i := 14) rfl)
theorem cN_isTriedFirst_53 : zCode 67 53 = some (.ireturn, 54, 0, 3, 0, 0, 0) := cAN_isTriedFirst_1 _ (List.mem_of_getElem? (i := 15) rfl)
theorem rN_isTriedFirst_0 {a0 : Nat} {u1 : zV} : zS 67 0 [zR a0, u1] [] sh pp mm Q ↔ zS 67 1 [zR a0, zU] [zI 0] sh pp mm Q := s_go cN_isTriedFirst_0 cN_isTriedFirst_1 rfl rfl
theorem rN_isTriedFirst_1 {a0 : Nat} {s0 : Int} {u1 : zV} : zS 67 1 [zR a0, u1] [zI s0] sh pp mm Q ↔ zS 67 2 [zR a0, zI s0] [] sh pp mm Q := s_go cN_isTriedFirst_1 cN_isTriedFirst_2 rfl rfl
theorem rN_isTriedFirst_2 {a0 : Nat} {a1 : Int} : zS 67 2 [zR a0, zI a1] [] sh pp mm Q ↔ zS 67 3 [zR a0, zI a1] [zI a1] sh pp mm Q := s_go cN_isTriedFirst_2 cN_isTriedFirst_3 rfl rfl
theorem rN_isTriedFirst_3 {a0 : Nat} {a1 s0 : Int} : zS 67 3 [zR a0, zI a1] [zI s0] sh pp mm Q ↔ zS 67 4 [zR a0, zI a1] [zR a0, zI s0] sh pp mm Q := s_go cN_isTriedFirst_3 cN_isTriedFirst_4 rfl rfl
theorem rN_isTriedFirst_4 {a0 s0 : Nat} {a1 s1 : Int} (hk : zKd sh s0 = 6) : zS 67 4 [zR a0, zI a1] [zR s0, zI s1] sh pp mm Q ↔ zS 67 7 [zR a0, zI a1] [zI (mm s0 3), zI s1] sh pp mm Q := s_go cN_isTriedFirst_4 cN_isTriedFirst_7 (if_pos hk) rfl
theorem rN_isTriedFirst_7 {a0 : Nat} {a1 s0 s1 : Int} : zS 67 7 [zR a0, zI a1] [zI s0, zI s1] sh pp mm Q ↔ (s1 < s0 → zS 67 10 [zR a0, zI a1] [] sh pp mm Q) ∧ (¬ s1 < s0 → zS 67 52 [zU, zU] [] sh pp mm Q) := s_ifn cN_isTriedFirst_7 cN_isTriedFirst_10 cN_isTriedFirst_52 rfl rfl rfl
theorem rN_isTriedFirst_10 {a0 : Nat} {a1 : Int} : zS 67 10 [zR a0, zI a1] [] sh pp mm Q ↔ zS 67 11 [zR a0, zI a1] [zR a0] sh pp mm Q := s_go cN_isTriedFirst_10 cN_isTriedFirst_11 rfl rfl
theorem rN_isTriedFirst_11 {a0 s0 : Nat} {a1 : Int} (hk : zKd sh s0 = 6) : zS 67 11 [zR a0, zI a1] [zR s0] sh pp mm Q ↔ zS 67 14 [zR a0, zI a1] [zR (pp s0 13)] sh pp mm Q := s_go cN_isTriedFirst_11 cN_isTriedFirst_14 (if_pos hk) rfl
theorem rN_isTriedFirst_14 {a0 s0 : Nat} {a1 : Int} : zS 67 14 [zR a0, zI a1] [zR s0] sh pp mm Q ↔ zS 67 15 [zR a0, zI a1] [zI a1, zR s0] sh pp mm Q := s_go cN_isTriedFirst_14 cN_isTriedFirst_15 rfl rfl
theorem rN_isTriedFirst_15 {a0 s1 : Nat} {a1 s0 : Int} (hk : zKd sh s1 = 20 ∨ zKd sh s1 = 30) (h0 : 0 ≤ s0) (h1 : s0 < zLn sh s1) : zS 67 15 [zR a0, zI a1] [zI s0, zR s1] sh pp mm Q ↔ zS 67 16 [zR a0, zI a1] [zI (mm s1 s0)] sh pp mm Q := s_go cN_isTriedFirst_15 cN_isTriedFirst_16 (if_pos ⟨hk, h0, h1⟩) rfl
theorem rN_isTriedFirst_16 {a0 : Nat} {a1 s0 : Int} : zS 67 16 [zR a0, zI a1] [zI s0] sh pp mm Q ↔ zS 67 17 [zR a0, zI a1] [zR a0, zI s0] sh pp mm Q := s_go cN_isTriedFirst_16 cN_isTriedFirst_17 rfl rfl
theorem rN_isTriedFirst_17 {a0 s0 : Nat} {a1 s1 : Int} (hk : zKd sh s0 = 6) : zS 67 17 [zR a0, zI a1] [zR s0, zI s1] sh pp mm Q ↔ zS 67 20 [zR a0, zI a1] [zR (pp s0 12), zI s1] sh pp mm Q := s_go cN_isTriedFirst_17 cN_isTriedFirst_20 (if_pos hk) rfl
theorem rN_isTriedFirst_20 {a0 s0 : Nat} {a1 s1 : Int} : zS 67 20 [zR a0, zI a1] [zR s0, zI s1] sh pp mm Q ↔ zS 67 21 [zR a0, zI a1] [zI a1, zR s0, zI s1] sh pp mm Q := s_go cN_isTriedFirst_20 cN_isTriedFirst_21 rfl rfl
theorem rN_isTriedFirst_21 {a0 s1 : Nat} {a1 s0 s2 : Int} (hk : zKd sh s1 = 20 ∨ zKd sh s1 = 30) (h0 : 0 ≤ s0) (h1 : s0 < zLn sh s1) : zS 67 21 [zR a0, zI a1] [zI s0, zR s1, zI s2] sh pp mm Q ↔ zS 67 22 [zR a0, zI a1] [zI (mm s1 s0), zI s2] sh pp mm Q := s_go cN_isTriedFirst_21 cN_isTriedFirst_22 (if_pos ⟨hk, h0, h1⟩) rfl
theorem rN_isTriedFirst_22 {a0 : Nat} {a1 s0 s1 : Int} : zS 67 22 [zR a0, zI a1] [zI s0, zI s1] sh pp mm Q ↔ (s1 = s0 → zS 67 46 [zR a0, zI a1] [] sh pp mm Q) ∧ (¬ s1 = s0 → zS 67 25 [zR a0, zI a1] [] sh pp mm Q) := s_if cN_isTriedFirst_22 cN_isTriedFirst_46 cN_isTriedFirst_25 rfl rfl rfl
theorem rN_isTriedFirst_25 {a0 : Nat} {a1 : Int} : zS 67 25 [zR a0, zI a1] [] sh pp mm Q ↔ zS 67 26 [zR a0, zI a1] [zR a0] sh pp mm Q := s_go cN_isTriedFirst_25 cN_isTriedFirst_26 rfl rfl
theorem rN_isTriedFirst_26 {a0 s0 : Nat} {a1 : Int} (hk : zKd sh s0 = 6) : zS 67 26 [zR a0, zI a1] [zR s0] sh pp mm Q ↔ zS 67 29 [zR a0, zI a1] [zR (pp s0 13)] sh pp mm Q := s_go cN_isTriedFirst_26 cN_isTriedFirst_29 (if_pos hk) rfl
theorem rN_isTriedFirst_29 {a0 s0 : Nat} {a1 : Int} : zS 67 29 [zR a0, zI a1] [zR s0] sh pp mm Q ↔ zS 67 30 [zR a0, zI a1] [zI a1, zR s0] sh pp mm Q := s_go cN_isTriedFirst_29 cN_isTriedFirst_30 rfl rfl
theorem rN_isTriedFirst_30 {a0 s1 : Nat} {a1 s0 : Int} (hk : zKd sh s1 = 20 ∨ zKd sh s1 = 30) (h0 : 0 ≤ s0) (h1 : s0 < zLn sh s1) : zS 67 30 [zR a0, zI a1] [zI s0, zR s1] sh pp mm Q ↔ zS 67 31 [zR a0, zI a1] [zI (mm s1 s0)] sh pp mm Q := s_go cN_isTriedFirst_30 cN_isTriedFirst_31 (if_pos ⟨hk, h0, h1⟩) rfl
theorem rN_isTriedFirst_31 {a0 : Nat} {a1 s0 : Int} : zS 67 31 [zR a0, zI a1] [zI s0] sh pp mm Q ↔ zS 67 32 [zU, zI a1] [zR a0, zI s0] sh pp mm Q := s_go cN_isTriedFirst_31 cN_isTriedFirst_32 rfl rfl
theorem rN_isTriedFirst_32 {s0 : Nat} {a1 s1 : Int} {u0 : zV} (hk : zKd sh s0 = 6) : zS 67 32 [u0, zI a1] [zR s0, zI s1] sh pp mm Q ↔ zS 67 35 [zU, zI a1] [zR (pp s0 12), zI s1] sh pp mm Q := s_go cN_isTriedFirst_32 cN_isTriedFirst_35 (if_pos hk) rfl
theorem rN_isTriedFirst_35 {s0 : Nat} {a1 s1 : Int} {u0 : zV} : zS 67 35 [u0, zI a1] [zR s0, zI s1] sh pp mm Q ↔ zS 67 36 [zU, zU] [zI a1, zR s0, zI s1] sh pp mm Q := s_go cN_isTriedFirst_35 cN_isTriedFirst_36 rfl rfl
theorem rN_isTriedFirst_36 {s1 : Nat} {s0 s2 : Int} {u0 u1 : zV} (hk : zKd sh s1 = 20 ∨ zKd sh s1 = 30) (h0 : 0 ≤ s0) (h1 : s0 < zLn sh s1) : zS 67 36 [u0, u1] [zI s0, zR s1, zI s2] sh pp mm Q ↔ zS 67 37 [zU, zU] [zI (mm s1 s0), zI s2] sh pp mm Q := s_go cN_isTriedFirst_36 cN_isTriedFirst_37 (if_pos ⟨hk, h0, h1⟩) rfl
theorem rN_isTriedFirst_37 {s0 s1 : Int} {u0 u1 : zV} : zS 67 37 [u0, u1] [zI s0, zI s1] sh pp mm Q ↔ (s1 < s0 → zS 67 40 [zU, zU] [] sh pp mm Q) ∧ (¬ s1 < s0 → zS 67 44 [zU, zU] [] sh pp mm Q) := s_ifn cN_isTriedFirst_37 cN_isTriedFirst_40 cN_isTriedFirst_44 rfl rfl rfl
theorem rN_isTriedFirst_40 {u0 u1 : zV} : zS 67 40 [u0, u1] [] sh pp mm Q ↔ zS 67 41 [zU, zU] [zI 1] sh pp mm Q := s_go cN_isTriedFirst_40 cN_isTriedFirst_41 rfl rfl
theorem rN_isTriedFirst_41 {s0 : Int} {u0 u1 : zV} : zS 67 41 [u0, u1] [zI s0] sh pp mm Q ↔ zS 67 45 [zU, zU] [zI s0] sh pp mm Q := s_go cN_isTriedFirst_41 cN_isTriedFirst_45 rfl rfl
theorem rN_isTriedFirst_44 {u0 u1 : zV} : zS 67 44 [u0, u1] [] sh pp mm Q ↔ zS 67 45 [zU, zU] [zI 0] sh pp mm Q := s_go cN_isTriedFirst_44 cN_isTriedFirst_45 rfl rfl
theorem rN_isTriedFirst_45 {s0 : Int} {u0 u1 : zV} (hb : s0 = 0 ∨ s0 = 1) : zS 67 45 [u0, u1] [zI s0] sh pp mm Q ↔ Q (zI s0) sh pp mm := s_ret cN_isTriedFirst_45 (if_pos (decide_eq_true hb))
theorem rN_isTriedFirst_46 {a0 : Nat} {a1 : Int} : zS 67 46 [zR a0, zI a1] [] sh pp mm Q ↔ zS 67 49 [zR a0, zI (zw32 (a1 + 1))] [] sh pp mm Q := s_go cN_isTriedFirst_46 cN_isTriedFirst_49 rfl rfl
theorem rN_isTriedFirst_49 {a0 : Nat} {a1 : Int} : zS 67 49 [zR a0, zI a1] [] sh pp mm Q ↔ zS 67 2 [zR a0, zI a1] [] sh pp mm Q := s_go cN_isTriedFirst_49 cN_isTriedFirst_2 rfl rfl
theorem rN_isTriedFirst_52 {u0 u1 : zV} : zS 67 52 [u0, u1] [] sh pp mm Q ↔ zS 67 53 [zU, zU] [zI 0] sh pp mm Q := s_go cN_isTriedFirst_52 cN_isTriedFirst_53 rfl rfl
theorem rN_isTriedFirst_53 {s0 : Int} {u0 u1 : zV} (hb : s0 = 0 ∨ s0 = 1) : zS 67 53 [u0, u1] [zI s0] sh pp mm Q ↔ Q (zI s0) sh pp mm := s_ret cN_isTriedFirst_53 (if_pos (decide_eq_true hb))
theorem cAN_fewestAbouts : ∀ q ∈ zT68, zCode 68 q.1 = some q.2 := zAll (mid := 68) rfl (by decide +kernel)
theorem cAN_fewestAbouts_0 : ∀ q ∈ zT68_0, zCode 68 q.1 = some q.2 := fun q h => cAN_fewestAbouts q (List.mem_append_left _ h)
theorem cAN_fewestAbouts_1 : ∀ q ∈ zT68_1, zCode 68 q.1 = some q.2 := fun q h => cAN_fewestAbouts q (List.mem_append_right _ (List.mem_append_left _ h))
theorem cAN_fewestAbouts_2 : ∀ q ∈ zT68_2, zCode 68 q.1 = some q.2 := fun q h => cAN_fewestAbouts q (List.mem_append_right _ (List.mem_append_right _ h))
theorem cN_fewestAbouts_0 : zCode 68 0 = some (.aload_n 0, 1, 0, 0, 0, 0, 1) := cAN_fewestAbouts_0 _ (List.mem_of_getElem? (i := 0) rfl)
theorem cN_fewestAbouts_1 : zCode 68 1 = some (.getfield 59, 4, 6, 15, 0, 235, 1) := cAN_fewestAbouts_0 _ (List.mem_of_getElem? (i := 1) rfl)
theorem cN_fewestAbouts_4 : zCode 68 4 = some (.iconst (-1), 5, 0, 0, 0, 0, 1) := cAN_fewestAbouts_0 _ (List.mem_of_getElem? (i := 2) rfl)
theorem cN_fewestAbouts_5 : zCode 68 5 = some (.if_icmp .eq 8, 8, 13, 0, 0, 0, 1) := cAN_fewestAbouts_0 _ (List.mem_of_getElem? (i := 3) rfl)
theorem cN_fewestAbouts_8 : zCode 68 8 = some (.aload_n 0, 9, 0, 0, 0, 0, 1) := cAN_fewestAbouts_0 _ (List.mem_of_getElem? (i := 4) rfl)
theorem cN_fewestAbouts_9 : zCode 68 9 = some (.getfield 59, 12, 6, 15, 0, 235, 0) := cAN_fewestAbouts_0 _ (List.mem_of_getElem? (i := 5) rfl)
theorem cN_fewestAbouts_12 : zCode 68 12 = some (.ireturn, 13, 0, 0, 0, 0, 0) := cAN_fewestAbouts_0 _ (List.mem_of_getElem? (i := 6) rfl)
theorem cN_fewestAbouts_13 : zCode 68 13 = some (.aload_n 0, 14, 0, 0, 0, 0, 1) := cAN_fewestAbouts_0 _ (List.mem_of_getElem? (i := 7) rfl)
theorem cN_fewestAbouts_14 : zCode 68 14 = some (.getfield 65, 17, 6, 17, 2, 237, 1) := cAN_fewestAbouts_0 _ (List.mem_of_getElem? (i := 8) rfl)
theorem cN_fewestAbouts_17 : zCode 68 17 = some (.ifnonnull 14, 20, 31, 0, 0, 0, 1) := cAN_fewestAbouts_0 _ (List.mem_of_getElem? (i := 9) rfl)
theorem cN_fewestAbouts_20 : zCode 68 20 = some (.aload_n 0, 21, 0, 0, 0, 0, 1) := cAN_fewestAbouts_0 _ (List.mem_of_getElem? (i := 10) rfl)
theorem cN_fewestAbouts_21 : zCode 68 21 = some (.new 153, 24, 5, 2, 924, 0, 1) := cAN_fewestAbouts_0 _ (List.mem_of_getElem? (i := 11) rfl)
theorem cN_fewestAbouts_24 : zCode 68 24 = some (.dup, 25, 0, 0, 0, 0, 1) := cAN_fewestAbouts_0 _ (List.mem_of_getElem? (i := 12) rfl)
theorem cN_fewestAbouts_25 : zCode 68 25 = some (.invokespecial 155, 28, 46, 0, 1, 5, 1) := cAN_fewestAbouts_0 _ (List.mem_of_getElem? (i := 13) rfl)
theorem cN_fewestAbouts_28 : zCode 68 28 = some (.putfield 65, 31, 6, 17, 2, 237, 1) := cAN_fewestAbouts_0 _ (List.mem_of_getElem? (i := 14) rfl)
theorem cN_fewestAbouts_31 : zCode 68 31 = some (.aload_n 0, 32, 0, 0, 0, 0, 1) := cAN_fewestAbouts_0 _ (List.mem_of_getElem? (i := 15) rfl)
theorem cN_fewestAbouts_32 : zCode 68 32 = some (.invokevirtual 131, 35, 62, 0, 3, 6, 1) := cAN_fewestAbouts_1 _ (List.mem_of_getElem? (i := 0) rfl)
theorem cN_fewestAbouts_35 : zCode 68 35 = some (.istore_n 1, 36, 0, 0, 0, 0, 1) := cAN_fewestAbouts_1 _ (List.mem_of_getElem? (i := 1) rfl)
theorem cN_fewestAbouts_36 : zCode 68 36 = some (.ldc 156, 38, 0, 0, 938, 1000000, 3) := cAN_fewestAbouts_1 _ (List.mem_of_getElem? (i := 2) rfl)
theorem cN_fewestAbouts_38 : zCode 68 38 = some (.istore_n 2, 39, 0, 0, 0, 0, 3) := cAN_fewestAbouts_1 _ (List.mem_of_getElem? (i := 3) rfl)
theorem cN_fewestAbouts_39 : zCode 68 39 = some (.iconst 0, 40, 0, 0, 0, 0, 7) := cAN_fewestAbouts_1 _ (List.mem_of_getElem? (i := 4) rfl)
theorem cN_fewestAbouts_40 : zCode 68 40 = some (.istore_n 3, 41, 0, 0, 0, 0, 7) := cAN_fewestAbouts_1 _ (List.mem_of_getElem? (i := 5) rfl)
theorem cN_fewestAbouts_41 : zCode 68 41 = some (.iload_n 3, 42, 0, 0, 0, 0, 15) := cAN_fewestAbouts_1 _ (List.mem_of_getElem? (i := 6) rfl)
theorem cN_fewestAbouts_42 : zCode 68 42 = some (.bipush 10, 44, 0, 0, 0, 0, 15) := cAN_fewestAbouts_1 _ (List.mem_of_getElem? (i := 7) rfl)
theorem cN_fewestAbouts_44 : zCode 68 44 = some (.if_icmp .ge 32, 47, 76, 0, 0, 0, 15) := cAN_fewestAbouts_1 _ (List.mem_of_getElem? (i := 8) rfl)
theorem cN_fewestAbouts_47 : zCode 68 47 = some (.iload_n 1, 48, 0, 0, 0, 0, 15) := cAN_fewestAbouts_1 _ (List.mem_of_getElem? (i := 9) rfl)
theorem cN_fewestAbouts_48 : zCode 68 48 = some (.iload_n 3, 49, 0, 0, 0, 0, 15) := cAN_fewestAbouts_1 _ (List.mem_of_getElem? (i := 10) rfl)
theorem cN_fewestAbouts_49 : zCode 68 49 = some (.ishr, 50, 0, 0, 0, 0, 15) := cAN_fewestAbouts_1 _ (List.mem_of_getElem? (i := 11) rfl)
theorem cN_fewestAbouts_50 : zCode 68 50 = some (.iconst 1, 51, 0, 0, 0, 0, 15) := cAN_fewestAbouts_1 _ (List.mem_of_getElem? (i := 12) rfl)
theorem cN_fewestAbouts_51 : zCode 68 51 = some (.iand, 52, 0, 0, 0, 0, 15) := cAN_fewestAbouts_1 _ (List.mem_of_getElem? (i := 13) rfl)
theorem cN_fewestAbouts_52 : zCode 68 52 = some (.iconst 1, 53, 0, 0, 0, 0, 15) := cAN_fewestAbouts_1 _ (List.mem_of_getElem? (i := 14) rfl)
theorem cN_fewestAbouts_53 : zCode 68 53 = some (.if_icmp .ne 17, 56, 70, 0, 0, 0, 15) := cAN_fewestAbouts_1 _ (List.mem_of_getElem? (i := 15) rfl)
theorem cN_fewestAbouts_56 : zCode 68 56 = some (.iload_n 2, 57, 0, 0, 0, 0, 15) := cAN_fewestAbouts_2 _ (List.mem_of_getElem? (i := 0) rfl)
theorem cN_fewestAbouts_57 : zCode 68 57 = some (.aload_n 0, 58, 0, 0, 0, 0, 11) := cAN_fewestAbouts_2 _ (List.mem_of_getElem? (i := 1) rfl)
theorem cN_fewestAbouts_58 : zCode 68 58 = some (.getfield 65, 61, 6, 17, 2, 237, 11) := cAN_fewestAbouts_2 _ (List.mem_of_getElem? (i := 2) rfl)
theorem cN_fewestAbouts_61 : zCode 68 61 = some (.iload_n 3, 62, 0, 0, 0, 0, 11) := cAN_fewestAbouts_2 _ (List.mem_of_getElem? (i := 3) rfl)
theorem cN_fewestAbouts_62 : zCode 68 62 = some (.aload_n 0, 63, 0, 0, 0, 0, 11) := cAN_fewestAbouts_2 _ (List.mem_of_getElem? (i := 4) rfl)
theorem cN_fewestAbouts_63 : zCode 68 63 = some (.invokevirtual 157, 66, 47, 2, 6, 5, 11) := cAN_fewestAbouts_2 _ (List.mem_of_getElem? (i := 5) rfl)
theorem cN_fewestAbouts_66 : zCode 68 66 = some (.invokestatic 79, 69, 260, 2, 2, 15, 11) := cAN_fewestAbouts_2 _ (List.mem_of_getElem? (i := 6) rfl)
theorem cN_fewestAbouts_69 : zCode 68 69 = some (.istore_n 2, 70, 0, 0, 0, 0, 11) := cAN_fewestAbouts_2 _ (List.mem_of_getElem? (i := 7) rfl)
theorem cN_fewestAbouts_70 : zCode 68 70 = some (.iinc 3 1, 73, 0, 0, 0, 0, 15) := cAN_fewestAbouts_2 _ (List.mem_of_getElem? (i := 8) rfl)
theorem cN_fewestAbouts_73 : zCode 68 73 = some (.goto (-32), 76, 41, 0, 0, 0, 15) := cAN_fewestAbouts_2 _ (List.mem_of_getElem? (i := 9) rfl)
theorem cN_fewestAbouts_76 : zCode 68 76 = some (.aload_n 0, 77, 0, 0, 0, 0, 5) := cAN_fewestAbouts_2 _ (List.mem_of_getElem? (i := 10) rfl)
theorem cN_fewestAbouts_77 : zCode 68 77 = some (.iload_n 2, 78, 0, 0, 0, 0, 5) := cAN_fewestAbouts_2 _ (List.mem_of_getElem? (i := 11) rfl)
theorem cN_fewestAbouts_78 : zCode 68 78 = some (.putfield 59, 81, 6, 15, 0, 235, 1) := cAN_fewestAbouts_2 _ (List.mem_of_getElem? (i := 12) rfl)
theorem cN_fewestAbouts_81 : zCode 68 81 = some (.aload_n 0, 82, 0, 0, 0, 0, 1) := cAN_fewestAbouts_2 _ (List.mem_of_getElem? (i := 13) rfl)
theorem cN_fewestAbouts_82 : zCode 68 82 = some (.getfield 59, 85, 6, 15, 0, 235, 0) := cAN_fewestAbouts_2 _ (List.mem_of_getElem? (i := 14) rfl)
theorem cN_fewestAbouts_85 : zCode 68 85 = some (.ireturn, 86, 0, 0, 0, 0, 0) := cAN_fewestAbouts_2 _ (List.mem_of_getElem? (i := 15) rfl)
theorem rN_fewestAbouts_0 {a0 : Nat} {u1 u2 u3 : zV} : zS 68 0 [zR a0, u1, u2, u3] [] sh pp mm Q ↔ zS 68 1 [zR a0, zU, zU, zU] [zR a0] sh pp mm Q := s_go cN_fewestAbouts_0 cN_fewestAbouts_1 rfl rfl
theorem rN_fewestAbouts_1 {a0 s0 : Nat} {u1 u2 u3 : zV} (hk : zKd sh s0 = 6) : zS 68 1 [zR a0, u1, u2, u3] [zR s0] sh pp mm Q ↔ zS 68 4 [zR a0, zU, zU, zU] [zI (mm s0 15)] sh pp mm Q := s_go cN_fewestAbouts_1 cN_fewestAbouts_4 (if_pos hk) rfl
theorem rN_fewestAbouts_4 {a0 : Nat} {s0 : Int} {u1 u2 u3 : zV} : zS 68 4 [zR a0, u1, u2, u3] [zI s0] sh pp mm Q ↔ zS 68 5 [zR a0, zU, zU, zU] [zI (-1), zI s0] sh pp mm Q := s_go cN_fewestAbouts_4 cN_fewestAbouts_5 rfl rfl
theorem rN_fewestAbouts_5 {a0 : Nat} {s0 s1 : Int} {u1 u2 u3 : zV} : zS 68 5 [zR a0, u1, u2, u3] [zI s0, zI s1] sh pp mm Q ↔ (s1 = s0 → zS 68 13 [zR a0, zU, zU, zU] [] sh pp mm Q) ∧ (¬ s1 = s0 → zS 68 8 [zR a0, zU, zU, zU] [] sh pp mm Q) := s_if cN_fewestAbouts_5 cN_fewestAbouts_13 cN_fewestAbouts_8 rfl rfl rfl
theorem rN_fewestAbouts_8 {a0 : Nat} {u1 u2 u3 : zV} : zS 68 8 [zR a0, u1, u2, u3] [] sh pp mm Q ↔ zS 68 9 [zU, zU, zU, zU] [zR a0] sh pp mm Q := s_go cN_fewestAbouts_8 cN_fewestAbouts_9 rfl rfl
theorem rN_fewestAbouts_9 {s0 : Nat} {u0 u1 u2 u3 : zV} (hk : zKd sh s0 = 6) : zS 68 9 [u0, u1, u2, u3] [zR s0] sh pp mm Q ↔ zS 68 12 [zU, zU, zU, zU] [zI (mm s0 15)] sh pp mm Q := s_go cN_fewestAbouts_9 cN_fewestAbouts_12 (if_pos hk) rfl
theorem rN_fewestAbouts_12 {s0 : Int} {u0 u1 u2 u3 : zV} : zS 68 12 [u0, u1, u2, u3] [zI s0] sh pp mm Q ↔ Q (zI s0) sh pp mm := s_ret cN_fewestAbouts_12 rfl
theorem rN_fewestAbouts_13 {a0 : Nat} {u1 u2 u3 : zV} : zS 68 13 [zR a0, u1, u2, u3] [] sh pp mm Q ↔ zS 68 14 [zR a0, zU, zU, zU] [zR a0] sh pp mm Q := s_go cN_fewestAbouts_13 cN_fewestAbouts_14 rfl rfl
theorem rN_fewestAbouts_14 {a0 s0 : Nat} {u1 u2 u3 : zV} (hk : zKd sh s0 = 6) : zS 68 14 [zR a0, u1, u2, u3] [zR s0] sh pp mm Q ↔ zS 68 17 [zR a0, zU, zU, zU] [zR (pp s0 17)] sh pp mm Q := s_go cN_fewestAbouts_14 cN_fewestAbouts_17 (if_pos hk) rfl
theorem rN_fewestAbouts_17 {a0 s0 : Nat} {u1 u2 u3 : zV} : zS 68 17 [zR a0, u1, u2, u3] [zR s0] sh pp mm Q ↔ (s0 = 0 → zS 68 20 [zR a0, zU, zU, zU] [] sh pp mm Q) ∧ (¬ s0 = 0 → zS 68 31 [zR a0, zU, zU, zU] [] sh pp mm Q) := s_br cN_fewestAbouts_17 cN_fewestAbouts_20 cN_fewestAbouts_31 rfl rfl rfl
theorem rN_fewestAbouts_20 {a0 : Nat} {u1 u2 u3 : zV} : zS 68 20 [zR a0, u1, u2, u3] [] sh pp mm Q ↔ zS 68 21 [zR a0, zU, zU, zU] [zR a0] sh pp mm Q := s_go cN_fewestAbouts_20 cN_fewestAbouts_21 rfl rfl
theorem rN_fewestAbouts_21 {a0 s0 : Nat} {u1 u2 u3 : zV} : zS 68 21 [zR a0, u1, u2, u3] [zR s0] sh pp mm Q ↔ zS 68 24 [zR a0, zU, zU, zU] [zR sh.length, zR s0] (sh ++ [(5, 2)]) (zclp pp sh.length) (zclr mm sh.length) Q := s_go cN_fewestAbouts_21 cN_fewestAbouts_24 rfl rfl
theorem rN_fewestAbouts_24 {a0 s0 s1 : Nat} {u1 u2 u3 : zV} : zS 68 24 [zR a0, u1, u2, u3] [zR s0, zR s1] sh pp mm Q ↔ zS 68 25 [zR a0, zU, zU, zU] [zR s0, zR s0, zR s1] sh pp mm Q := s_go cN_fewestAbouts_24 cN_fewestAbouts_25 rfl rfl
theorem rN_fewestAbouts_25 {a0 s0 s1 s2 : Nat} {u1 u2 u3 : zV} (hk : zKd sh s0 = 5) : zS 68 25 [zR a0, u1, u2, u3] [zR s0, zR s1, zR s2] sh pp mm Q ↔ zS 46 0 [zR s0] [] sh pp mm (fun v sh pp mm => zS 68 28 [zR a0, zU, zU, zU] (zPush v [zR s1, zR s2]) sh pp mm Q) := s_call cN_fewestAbouts_25 cN_fewestAbouts_28 ((if_pos hk).trans rfl) rfl
theorem rN_fewestAbouts_28 {a0 s0 s1 : Nat} {u1 u2 u3 : zV} (hk : zKd sh s1 = 6) : zS 68 28 [zR a0, u1, u2, u3] [zR s0, zR s1] sh pp mm Q ↔ zS 68 31 [zR a0, zU, zU, zU] [] sh (zupp pp s1 17 s0) mm Q := s_go cN_fewestAbouts_28 cN_fewestAbouts_31 (if_pos ⟨hk, rfl⟩) rfl
theorem rN_fewestAbouts_31 {a0 : Nat} {u1 u2 u3 : zV} : zS 68 31 [zR a0, u1, u2, u3] [] sh pp mm Q ↔ zS 68 32 [zR a0, zU, zU, zU] [zR a0] sh pp mm Q := s_go cN_fewestAbouts_31 cN_fewestAbouts_32 rfl rfl
theorem rN_fewestAbouts_32 {a0 s0 : Nat} {u1 u2 u3 : zV} (hk : zKd sh s0 = 6) : zS 68 32 [zR a0, u1, u2, u3] [zR s0] sh pp mm Q ↔ zS 62 0 [zR s0, zU, zU] [] sh pp mm (fun v sh pp mm => zS 68 35 [zR a0, zU, zU, zU] (zPush v []) sh pp mm Q) := s_call cN_fewestAbouts_32 cN_fewestAbouts_35 ((if_pos hk).trans rfl) rfl
theorem rN_fewestAbouts_35 {a0 : Nat} {s0 : Int} {u1 u2 u3 : zV} : zS 68 35 [zR a0, u1, u2, u3] [zI s0] sh pp mm Q ↔ zS 68 36 [zR a0, zI s0, zU, zU] [] sh pp mm Q := s_go cN_fewestAbouts_35 cN_fewestAbouts_36 rfl rfl
theorem rN_fewestAbouts_36 {a0 : Nat} {a1 : Int} {u2 u3 : zV} : zS 68 36 [zR a0, zI a1, u2, u3] [] sh pp mm Q ↔ zS 68 38 [zR a0, zI a1, zU, zU] [zI 1000000] sh pp mm Q := s_go cN_fewestAbouts_36 cN_fewestAbouts_38 rfl rfl
theorem rN_fewestAbouts_38 {a0 : Nat} {a1 s0 : Int} {u2 u3 : zV} : zS 68 38 [zR a0, zI a1, u2, u3] [zI s0] sh pp mm Q ↔ zS 68 39 [zR a0, zI a1, zI s0, zU] [] sh pp mm Q := s_go cN_fewestAbouts_38 cN_fewestAbouts_39 rfl rfl
theorem rN_fewestAbouts_39 {a0 : Nat} {a1 a2 : Int} {u3 : zV} : zS 68 39 [zR a0, zI a1, zI a2, u3] [] sh pp mm Q ↔ zS 68 40 [zR a0, zI a1, zI a2, zU] [zI 0] sh pp mm Q := s_go cN_fewestAbouts_39 cN_fewestAbouts_40 rfl rfl
theorem rN_fewestAbouts_40 {a0 : Nat} {a1 a2 s0 : Int} {u3 : zV} : zS 68 40 [zR a0, zI a1, zI a2, u3] [zI s0] sh pp mm Q ↔ zS 68 41 [zR a0, zI a1, zI a2, zI s0] [] sh pp mm Q := s_go cN_fewestAbouts_40 cN_fewestAbouts_41 rfl rfl
theorem rN_fewestAbouts_41 {a0 : Nat} {a1 a2 a3 : Int} : zS 68 41 [zR a0, zI a1, zI a2, zI a3] [] sh pp mm Q ↔ zS 68 42 [zR a0, zI a1, zI a2, zI a3] [zI a3] sh pp mm Q := s_go cN_fewestAbouts_41 cN_fewestAbouts_42 rfl rfl
theorem rN_fewestAbouts_42 {a0 : Nat} {a1 a2 a3 s0 : Int} : zS 68 42 [zR a0, zI a1, zI a2, zI a3] [zI s0] sh pp mm Q ↔ zS 68 44 [zR a0, zI a1, zI a2, zI a3] [zI 10, zI s0] sh pp mm Q := s_go cN_fewestAbouts_42 cN_fewestAbouts_44 rfl rfl
theorem rN_fewestAbouts_44 {a0 : Nat} {a1 a2 a3 s0 s1 : Int} : zS 68 44 [zR a0, zI a1, zI a2, zI a3] [zI s0, zI s1] sh pp mm Q ↔ (s1 < s0 → zS 68 47 [zR a0, zI a1, zI a2, zI a3] [] sh pp mm Q) ∧ (¬ s1 < s0 → zS 68 76 [zR a0, zU, zI a2, zU] [] sh pp mm Q) := s_ifn cN_fewestAbouts_44 cN_fewestAbouts_47 cN_fewestAbouts_76 rfl rfl rfl
theorem rN_fewestAbouts_47 {a0 : Nat} {a1 a2 a3 : Int} : zS 68 47 [zR a0, zI a1, zI a2, zI a3] [] sh pp mm Q ↔ zS 68 48 [zR a0, zI a1, zI a2, zI a3] [zI a1] sh pp mm Q := s_go cN_fewestAbouts_47 cN_fewestAbouts_48 rfl rfl
theorem rN_fewestAbouts_48 {a0 : Nat} {a1 a2 a3 s0 : Int} : zS 68 48 [zR a0, zI a1, zI a2, zI a3] [zI s0] sh pp mm Q ↔ zS 68 49 [zR a0, zI a1, zI a2, zI a3] [zI a3, zI s0] sh pp mm Q := s_go cN_fewestAbouts_48 cN_fewestAbouts_49 rfl rfl
theorem rN_fewestAbouts_49 {a0 : Nat} {a1 a2 a3 s0 s1 : Int} : zS 68 49 [zR a0, zI a1, zI a2, zI a3] [zI s0, zI s1] sh pp mm Q ↔ zS 68 50 [zR a0, zI a1, zI a2, zI a3] [zI (zshr s1 s0)] sh pp mm Q := s_go cN_fewestAbouts_49 cN_fewestAbouts_50 rfl rfl
theorem rN_fewestAbouts_50 {a0 : Nat} {a1 a2 a3 s0 : Int} : zS 68 50 [zR a0, zI a1, zI a2, zI a3] [zI s0] sh pp mm Q ↔ zS 68 51 [zR a0, zI a1, zI a2, zI a3] [zI 1, zI s0] sh pp mm Q := s_go cN_fewestAbouts_50 cN_fewestAbouts_51 rfl rfl
theorem rN_fewestAbouts_51 {a0 : Nat} {a1 a2 a3 s0 s1 : Int} : zS 68 51 [zR a0, zI a1, zI a2, zI a3] [zI s0, zI s1] sh pp mm Q ↔ zS 68 52 [zR a0, zI a1, zI a2, zI a3] [zI (zand s1 s0)] sh pp mm Q := s_go cN_fewestAbouts_51 cN_fewestAbouts_52 rfl rfl
theorem rN_fewestAbouts_52 {a0 : Nat} {a1 a2 a3 s0 : Int} : zS 68 52 [zR a0, zI a1, zI a2, zI a3] [zI s0] sh pp mm Q ↔ zS 68 53 [zR a0, zI a1, zI a2, zI a3] [zI 1, zI s0] sh pp mm Q := s_go cN_fewestAbouts_52 cN_fewestAbouts_53 rfl rfl
theorem rN_fewestAbouts_53 {a0 : Nat} {a1 a2 a3 s0 s1 : Int} : zS 68 53 [zR a0, zI a1, zI a2, zI a3] [zI s0, zI s1] sh pp mm Q ↔ (s1 = s0 → zS 68 56 [zR a0, zI a1, zI a2, zI a3] [] sh pp mm Q) ∧ (¬ s1 = s0 → zS 68 70 [zR a0, zI a1, zI a2, zI a3] [] sh pp mm Q) := s_ifn cN_fewestAbouts_53 cN_fewestAbouts_56 cN_fewestAbouts_70 rfl rfl rfl
theorem rN_fewestAbouts_56 {a0 : Nat} {a1 a2 a3 : Int} : zS 68 56 [zR a0, zI a1, zI a2, zI a3] [] sh pp mm Q ↔ zS 68 57 [zR a0, zI a1, zU, zI a3] [zI a2] sh pp mm Q := s_go cN_fewestAbouts_56 cN_fewestAbouts_57 rfl rfl
theorem rN_fewestAbouts_57 {a0 : Nat} {a1 a3 s0 : Int} {u2 : zV} : zS 68 57 [zR a0, zI a1, u2, zI a3] [zI s0] sh pp mm Q ↔ zS 68 58 [zR a0, zI a1, zU, zI a3] [zR a0, zI s0] sh pp mm Q := s_go cN_fewestAbouts_57 cN_fewestAbouts_58 rfl rfl
theorem rN_fewestAbouts_58 {a0 s0 : Nat} {a1 a3 s1 : Int} {u2 : zV} (hk : zKd sh s0 = 6) : zS 68 58 [zR a0, zI a1, u2, zI a3] [zR s0, zI s1] sh pp mm Q ↔ zS 68 61 [zR a0, zI a1, zU, zI a3] [zR (pp s0 17), zI s1] sh pp mm Q := s_go cN_fewestAbouts_58 cN_fewestAbouts_61 (if_pos hk) rfl
theorem rN_fewestAbouts_61 {a0 s0 : Nat} {a1 a3 s1 : Int} {u2 : zV} : zS 68 61 [zR a0, zI a1, u2, zI a3] [zR s0, zI s1] sh pp mm Q ↔ zS 68 62 [zR a0, zI a1, zU, zI a3] [zI a3, zR s0, zI s1] sh pp mm Q := s_go cN_fewestAbouts_61 cN_fewestAbouts_62 rfl rfl
theorem rN_fewestAbouts_62 {a0 s1 : Nat} {a1 a3 s0 s2 : Int} {u2 : zV} : zS 68 62 [zR a0, zI a1, u2, zI a3] [zI s0, zR s1, zI s2] sh pp mm Q ↔ zS 68 63 [zR a0, zI a1, zU, zI a3] [zR a0, zI s0, zR s1, zI s2] sh pp mm Q := s_go cN_fewestAbouts_62 cN_fewestAbouts_63 rfl rfl
theorem rN_fewestAbouts_63 {a0 s0 s2 : Nat} {a1 a3 s1 s3 : Int} {u2 : zV} (hk : zKd sh s2 = 5) : zS 68 63 [zR a0, zI a1, u2, zI a3] [zR s0, zI s1, zR s2, zI s3] sh pp mm Q ↔ zS 47 0 [zR s2, zI s1, zR s0, zU, zU, zU] [] sh pp mm (fun v sh pp mm => zS 68 66 [zR a0, zI a1, zU, zI a3] (zPush v [zI s3]) sh pp mm Q) := s_call cN_fewestAbouts_63 cN_fewestAbouts_66 ((if_pos hk).trans rfl) rfl
theorem rN_fewestAbouts_66 {a0 : Nat} {a1 a3 s0 s1 : Int} {u2 : zV} : zS 68 66 [zR a0, zI a1, u2, zI a3] [zI s0, zI s1] sh pp mm Q ↔ zS 260 0 [zI s1, zI s0] [] sh pp mm (fun v sh pp mm => zS 68 69 [zR a0, zI a1, zU, zI a3] (zPush v []) sh pp mm Q) := s_call cN_fewestAbouts_66 cN_fewestAbouts_69 rfl rfl
theorem rN_fewestAbouts_69 {a0 : Nat} {a1 a3 s0 : Int} {u2 : zV} : zS 68 69 [zR a0, zI a1, u2, zI a3] [zI s0] sh pp mm Q ↔ zS 68 70 [zR a0, zI a1, zI s0, zI a3] [] sh pp mm Q := s_go cN_fewestAbouts_69 cN_fewestAbouts_70 rfl rfl
theorem rN_fewestAbouts_70 {a0 : Nat} {a1 a2 a3 : Int} : zS 68 70 [zR a0, zI a1, zI a2, zI a3] [] sh pp mm Q ↔ zS 68 73 [zR a0, zI a1, zI a2, zI (zw32 (a3 + 1))] [] sh pp mm Q := s_go cN_fewestAbouts_70 cN_fewestAbouts_73 rfl rfl
theorem rN_fewestAbouts_73 {a0 : Nat} {a1 a2 a3 : Int} : zS 68 73 [zR a0, zI a1, zI a2, zI a3] [] sh pp mm Q ↔ zS 68 41 [zR a0, zI a1, zI a2, zI a3] [] sh pp mm Q := s_go cN_fewestAbouts_73 cN_fewestAbouts_41 rfl rfl
theorem rN_fewestAbouts_76 {a0 : Nat} {a2 : Int} {u1 u3 : zV} : zS 68 76 [zR a0, u1, zI a2, u3] [] sh pp mm Q ↔ zS 68 77 [zR a0, zU, zI a2, zU] [zR a0] sh pp mm Q := s_go cN_fewestAbouts_76 cN_fewestAbouts_77 rfl rfl
theorem rN_fewestAbouts_77 {a0 s0 : Nat} {a2 : Int} {u1 u3 : zV} : zS 68 77 [zR a0, u1, zI a2, u3] [zR s0] sh pp mm Q ↔ zS 68 78 [zR a0, zU, zU, zU] [zI a2, zR s0] sh pp mm Q := s_go cN_fewestAbouts_77 cN_fewestAbouts_78 rfl rfl
theorem rN_fewestAbouts_78 {a0 s1 : Nat} {s0 : Int} {u1 u2 u3 : zV} (hk : zKd sh s1 = 6) : zS 68 78 [zR a0, u1, u2, u3] [zI s0, zR s1] sh pp mm Q ↔ zS 68 81 [zR a0, zU, zU, zU] [] sh pp (zupd mm s1 15 s0) Q := s_go cN_fewestAbouts_78 cN_fewestAbouts_81 (if_pos ⟨hk, Or.inl rfl⟩) rfl
theorem rN_fewestAbouts_81 {a0 : Nat} {u1 u2 u3 : zV} : zS 68 81 [zR a0, u1, u2, u3] [] sh pp mm Q ↔ zS 68 82 [zU, zU, zU, zU] [zR a0] sh pp mm Q := s_go cN_fewestAbouts_81 cN_fewestAbouts_82 rfl rfl
theorem rN_fewestAbouts_82 {s0 : Nat} {u0 u1 u2 u3 : zV} (hk : zKd sh s0 = 6) : zS 68 82 [u0, u1, u2, u3] [zR s0] sh pp mm Q ↔ zS 68 85 [zU, zU, zU, zU] [zI (mm s0 15)] sh pp mm Q := s_go cN_fewestAbouts_82 cN_fewestAbouts_85 (if_pos hk) rfl
theorem rN_fewestAbouts_85 {s0 : Int} {u0 u1 u2 u3 : zV} : zS 68 85 [u0, u1, u2, u3] [zI s0] sh pp mm Q ↔ Q (zI s0) sh pp mm := s_ret cN_fewestAbouts_85 rfl
theorem cAN_leastPrice : ∀ q ∈ zT69, zCode 69 q.1 = some q.2 := zAll (mid := 69) rfl (by decide +kernel)
theorem cAN_leastPrice_0 : ∀ q ∈ zT69_0, zCode 69 q.1 = some q.2 := fun q h => cAN_leastPrice q (List.mem_append_left _ h)
theorem cAN_leastPrice_1 : ∀ q ∈ zT69_1, zCode 69 q.1 = some q.2 := fun q h => cAN_leastPrice q (List.mem_append_right _ (List.mem_append_left _ h))
theorem cAN_leastPrice_2 : ∀ q ∈ zT69_2, zCode 69 q.1 = some q.2 := fun q h => cAN_leastPrice q (List.mem_append_right _ (List.mem_append_right _ (List.mem_append_left _ h)))
theorem cAN_leastPrice_3 : ∀ q ∈ zT69_3, zCode 69 q.1 = some q.2 := fun q h => cAN_leastPrice q (List.mem_append_right _ (List.mem_append_right _ (List.mem_append_right _ (List.mem_append_left _ h))))
theorem cAN_leastPrice_4 : ∀ q ∈ zT69_4, zCode 69 q.1 = some q.2 := fun q h => cAN_leastPrice q (List.mem_append_right _ (List.mem_append_right _ (List.mem_append_right _ (List.mem_append_right _ (List.mem_append_left _ h)))))
theorem cAN_leastPrice_5 : ∀ q ∈ zT69_5, zCode 69 q.1 = some q.2 := fun q h => cAN_leastPrice q (List.mem_append_right _ (List.mem_append_right _ (List.mem_append_right _ (List.mem_append_right _ (List.mem_append_right _ h)))))
theorem cN_leastPrice_0 : zCode 69 0 = some (.aload_n 0, 1, 0, 0, 0, 0, 1) := cAN_leastPrice_0 _ (List.mem_of_getElem? (i := 0) rfl)
theorem cN_leastPrice_1 : zCode 69 1 = some (.getfield 62, 4, 6, 16, 0, 236, 1) := cAN_leastPrice_0 _ (List.mem_of_getElem? (i := 1) rfl)
theorem cN_leastPrice_4 : zCode 69 4 = some (.iconst (-1), 5, 0, 0, 0, 0, 1) := cAN_leastPrice_0 _ (List.mem_of_getElem? (i := 2) rfl)
theorem cN_leastPrice_5 : zCode 69 5 = some (.if_icmp .eq 8, 8, 13, 0, 0, 0, 1) := cAN_leastPrice_0 _ (List.mem_of_getElem? (i := 3) rfl)
theorem cN_leastPrice_8 : zCode 69 8 = some (.aload_n 0, 9, 0, 0, 0, 0, 1) := cAN_leastPrice_0 _ (List.mem_of_getElem? (i := 4) rfl)
theorem cN_leastPrice_9 : zCode 69 9 = some (.getfield 62, 12, 6, 16, 0, 236, 0) := cAN_leastPrice_0 _ (List.mem_of_getElem? (i := 5) rfl)
theorem cN_leastPrice_12 : zCode 69 12 = some (.ireturn, 13, 0, 0, 0, 0, 0) := cAN_leastPrice_0 _ (List.mem_of_getElem? (i := 6) rfl)
theorem cN_leastPrice_13 : zCode 69 13 = some (.ldc 156, 15, 0, 0, 938, 1000000, 1) := cAN_leastPrice_0 _ (List.mem_of_getElem? (i := 7) rfl)
theorem cN_leastPrice_15 : zCode 69 15 = some (.istore_n 1, 16, 0, 0, 0, 0, 1) := cAN_leastPrice_0 _ (List.mem_of_getElem? (i := 8) rfl)
theorem cN_leastPrice_16 : zCode 69 16 = some (.iconst 0, 17, 0, 0, 0, 0, 3) := cAN_leastPrice_0 _ (List.mem_of_getElem? (i := 9) rfl)
theorem cN_leastPrice_17 : zCode 69 17 = some (.istore_n 2, 18, 0, 0, 0, 0, 3) := cAN_leastPrice_0 _ (List.mem_of_getElem? (i := 10) rfl)
theorem cN_leastPrice_18 : zCode 69 18 = some (.iconst 0, 19, 0, 0, 0, 0, 7) := cAN_leastPrice_0 _ (List.mem_of_getElem? (i := 11) rfl)
theorem cN_leastPrice_19 : zCode 69 19 = some (.istore_n 3, 20, 0, 0, 0, 0, 7) := cAN_leastPrice_0 _ (List.mem_of_getElem? (i := 12) rfl)
theorem cN_leastPrice_20 : zCode 69 20 = some (.aload_n 0, 21, 0, 0, 0, 0, 15) := cAN_leastPrice_0 _ (List.mem_of_getElem? (i := 13) rfl)
theorem cN_leastPrice_21 : zCode 69 21 = some (.getfield 9, 24, 6, 0, 0, 211, 15) := cAN_leastPrice_0 _ (List.mem_of_getElem? (i := 14) rfl)
theorem cN_leastPrice_24 : zCode 69 24 = some (.istore 4, 26, 0, 0, 0, 0, 15) := cAN_leastPrice_0 _ (List.mem_of_getElem? (i := 15) rfl)
theorem cN_leastPrice_26 : zCode 69 26 = some (.iconst 1, 27, 0, 0, 0, 0, 31) := cAN_leastPrice_1 _ (List.mem_of_getElem? (i := 0) rfl)
theorem cN_leastPrice_27 : zCode 69 27 = some (.istore 5, 29, 0, 0, 0, 0, 31) := cAN_leastPrice_1 _ (List.mem_of_getElem? (i := 1) rfl)
theorem cN_leastPrice_29 : zCode 69 29 = some (.iload 5, 31, 0, 0, 0, 0, 63) := cAN_leastPrice_1 _ (List.mem_of_getElem? (i := 2) rfl)
theorem cN_leastPrice_31 : zCode 69 31 = some (.iconst 1, 32, 0, 0, 0, 0, 63) := cAN_leastPrice_1 _ (List.mem_of_getElem? (i := 3) rfl)
theorem cN_leastPrice_32 : zCode 69 32 = some (.aload_n 0, 33, 0, 0, 0, 0, 63) := cAN_leastPrice_1 _ (List.mem_of_getElem? (i := 4) rfl)
theorem cN_leastPrice_33 : zCode 69 33 = some (.getfield 22, 36, 6, 3, 0, 217, 63) := cAN_leastPrice_1 _ (List.mem_of_getElem? (i := 5) rfl)
theorem cN_leastPrice_36 : zCode 69 36 = some (.ishl, 37, 0, 0, 0, 0, 63) := cAN_leastPrice_1 _ (List.mem_of_getElem? (i := 6) rfl)
theorem cN_leastPrice_37 : zCode 69 37 = some (.if_icmp .gt 94, 40, 131, 0, 0, 0, 63) := cAN_leastPrice_1 _ (List.mem_of_getElem? (i := 7) rfl)
theorem cN_leastPrice_40 : zCode 69 40 = some (.iload_n 2, 41, 0, 0, 0, 0, 63) := cAN_leastPrice_1 _ (List.mem_of_getElem? (i := 8) rfl)
theorem cN_leastPrice_41 : zCode 69 41 = some (.iload_n 1, 42, 0, 0, 0, 0, 63) := cAN_leastPrice_1 _ (List.mem_of_getElem? (i := 9) rfl)
theorem cN_leastPrice_42 : zCode 69 42 = some (.if_icmp .ge 14, 45, 56, 0, 0, 0, 63) := cAN_leastPrice_1 _ (List.mem_of_getElem? (i := 10) rfl)
theorem cN_leastPrice_45 : zCode 69 45 = some (.iload 4, 47, 0, 0, 0, 0, 63) := cAN_leastPrice_1 _ (List.mem_of_getElem? (i := 11) rfl)
theorem cN_leastPrice_47 : zCode 69 47 = some (.invokestatic 101, 50, 256, 1, 1, 14, 63) := cAN_leastPrice_1 _ (List.mem_of_getElem? (i := 12) rfl)
theorem cN_leastPrice_50 : zCode 69 50 = some (.iconst 2, 51, 0, 0, 0, 0, 63) := cAN_leastPrice_1 _ (List.mem_of_getElem? (i := 13) rfl)
theorem cN_leastPrice_51 : zCode 69 51 = some (.if_icmp .gt 5, 54, 56, 0, 0, 0, 63) := cAN_leastPrice_1 _ (List.mem_of_getElem? (i := 14) rfl)
theorem cN_leastPrice_54 : zCode 69 54 = some (.iload_n 2, 55, 0, 0, 0, 0, 61) := cAN_leastPrice_1 _ (List.mem_of_getElem? (i := 15) rfl)
theorem cN_leastPrice_55 : zCode 69 55 = some (.istore_n 1, 56, 0, 0, 0, 0, 61) := cAN_leastPrice_2 _ (List.mem_of_getElem? (i := 0) rfl)
theorem cN_leastPrice_56 : zCode 69 56 = some (.iload 5, 58, 0, 0, 0, 0, 63) := cAN_leastPrice_2 _ (List.mem_of_getElem? (i := 1) rfl)
theorem cN_leastPrice_58 : zCode 69 58 = some (.invokestatic 161, 61, 70, 1, 2, 6, 63) := cAN_leastPrice_2 _ (List.mem_of_getElem? (i := 2) rfl)
theorem cN_leastPrice_61 : zCode 69 61 = some (.istore 6, 63, 0, 0, 0, 0, 63) := cAN_leastPrice_2 _ (List.mem_of_getElem? (i := 3) rfl)
theorem cN_leastPrice_63 : zCode 69 63 = some (.iload 6, 65, 0, 0, 0, 0, 127) := cAN_leastPrice_2 _ (List.mem_of_getElem? (i := 4) rfl)
theorem cN_leastPrice_65 : zCode 69 65 = some (.aload_n 0, 66, 0, 0, 0, 0, 127) := cAN_leastPrice_2 _ (List.mem_of_getElem? (i := 5) rfl)
theorem cN_leastPrice_66 : zCode 69 66 = some (.getfield 22, 69, 6, 3, 0, 217, 127) := cAN_leastPrice_2 _ (List.mem_of_getElem? (i := 6) rfl)
theorem cN_leastPrice_69 : zCode 69 69 = some (.if_icmp .lt 6, 72, 75, 0, 0, 0, 127) := cAN_leastPrice_2 _ (List.mem_of_getElem? (i := 7) rfl)
theorem cN_leastPrice_72 : zCode 69 72 = some (.goto 59, 75, 131, 0, 0, 0, 3) := cAN_leastPrice_2 _ (List.mem_of_getElem? (i := 8) rfl)
theorem cN_leastPrice_75 : zCode 69 75 = some (.iload_n 3, 76, 0, 0, 0, 0, 127) := cAN_leastPrice_2 _ (List.mem_of_getElem? (i := 9) rfl)
theorem cN_leastPrice_76 : zCode 69 76 = some (.iconst 1, 77, 0, 0, 0, 0, 119) := cAN_leastPrice_2 _ (List.mem_of_getElem? (i := 10) rfl)
theorem cN_leastPrice_77 : zCode 69 77 = some (.iload 6, 79, 0, 0, 0, 0, 119) := cAN_leastPrice_2 _ (List.mem_of_getElem? (i := 11) rfl)
theorem cN_leastPrice_79 : zCode 69 79 = some (.ishl, 80, 0, 0, 0, 0, 119) := cAN_leastPrice_2 _ (List.mem_of_getElem? (i := 12) rfl)
theorem cN_leastPrice_80 : zCode 69 80 = some (.ixor, 81, 0, 0, 0, 0, 119) := cAN_leastPrice_2 _ (List.mem_of_getElem? (i := 13) rfl)
theorem cN_leastPrice_81 : zCode 69 81 = some (.istore_n 3, 82, 0, 0, 0, 0, 119) := cAN_leastPrice_2 _ (List.mem_of_getElem? (i := 14) rfl)
theorem cN_leastPrice_82 : zCode 69 82 = some (.iload 4, 84, 0, 0, 0, 0, 127) := cAN_leastPrice_2 _ (List.mem_of_getElem? (i := 15) rfl)
theorem cN_leastPrice_84 : zCode 69 84 = some (.aload_n 0, 85, 0, 0, 0, 0, 111) := cAN_leastPrice_3 _ (List.mem_of_getElem? (i := 0) rfl)
theorem cN_leastPrice_85 : zCode 69 85 = some (.getfield 32, 88, 6, 6, 2, 222, 111) := cAN_leastPrice_3 _ (List.mem_of_getElem? (i := 1) rfl)
theorem cN_leastPrice_88 : zCode 69 88 = some (.iload 6, 90, 0, 0, 0, 0, 111) := cAN_leastPrice_3 _ (List.mem_of_getElem? (i := 2) rfl)
theorem cN_leastPrice_90 : zCode 69 90 = some (.iaload, 91, 0, 0, 0, 0, 111) := cAN_leastPrice_3 _ (List.mem_of_getElem? (i := 3) rfl)
theorem cN_leastPrice_91 : zCode 69 91 = some (.ixor, 92, 0, 0, 0, 0, 111) := cAN_leastPrice_3 _ (List.mem_of_getElem? (i := 4) rfl)
theorem cN_leastPrice_92 : zCode 69 92 = some (.istore 4, 94, 0, 0, 0, 0, 111) := cAN_leastPrice_3 _ (List.mem_of_getElem? (i := 5) rfl)
theorem cN_leastPrice_94 : zCode 69 94 = some (.iload_n 2, 95, 0, 0, 0, 0, 127) := cAN_leastPrice_3 _ (List.mem_of_getElem? (i := 6) rfl)
theorem cN_leastPrice_95 : zCode 69 95 = some (.iload_n 3, 96, 0, 0, 0, 0, 123) := cAN_leastPrice_3 _ (List.mem_of_getElem? (i := 7) rfl)
theorem cN_leastPrice_96 : zCode 69 96 = some (.iload 6, 98, 0, 0, 0, 0, 123) := cAN_leastPrice_3 _ (List.mem_of_getElem? (i := 8) rfl)
theorem cN_leastPrice_98 : zCode 69 98 = some (.ishr, 99, 0, 0, 0, 0, 123) := cAN_leastPrice_3 _ (List.mem_of_getElem? (i := 9) rfl)
theorem cN_leastPrice_99 : zCode 69 99 = some (.iconst 1, 100, 0, 0, 0, 0, 123) := cAN_leastPrice_3 _ (List.mem_of_getElem? (i := 10) rfl)
theorem cN_leastPrice_100 : zCode 69 100 = some (.iand, 101, 0, 0, 0, 0, 123) := cAN_leastPrice_3 _ (List.mem_of_getElem? (i := 11) rfl)
theorem cN_leastPrice_101 : zCode 69 101 = some (.iconst 1, 102, 0, 0, 0, 0, 123) := cAN_leastPrice_3 _ (List.mem_of_getElem? (i := 12) rfl)
theorem cN_leastPrice_102 : zCode 69 102 = some (.if_icmp .ne 13, 105, 115, 0, 0, 0, 123) := cAN_leastPrice_3 _ (List.mem_of_getElem? (i := 13) rfl)
theorem cN_leastPrice_105 : zCode 69 105 = some (.aload_n 0, 106, 0, 0, 0, 0, 123) := cAN_leastPrice_3 _ (List.mem_of_getElem? (i := 14) rfl)
theorem cN_leastPrice_106 : zCode 69 106 = some (.getfield 47, 109, 6, 11, 2, 231, 123) := cAN_leastPrice_3 _ (List.mem_of_getElem? (i := 15) rfl)
theorem cN_leastPrice_109 : zCode 69 109 = some (.iload 6, 111, 0, 0, 0, 0, 123) := cAN_leastPrice_4 _ (List.mem_of_getElem? (i := 0) rfl)
theorem cN_leastPrice_111 : zCode 69 111 = some (.iaload, 112, 0, 0, 0, 0, 59) := cAN_leastPrice_4 _ (List.mem_of_getElem? (i := 1) rfl)
theorem cN_leastPrice_112 : zCode 69 112 = some (.goto 11, 115, 123, 0, 0, 0, 59) := cAN_leastPrice_4 _ (List.mem_of_getElem? (i := 2) rfl)
theorem cN_leastPrice_115 : zCode 69 115 = some (.aload_n 0, 116, 0, 0, 0, 0, 123) := cAN_leastPrice_4 _ (List.mem_of_getElem? (i := 3) rfl)
theorem cN_leastPrice_116 : zCode 69 116 = some (.getfield 47, 119, 6, 11, 2, 231, 123) := cAN_leastPrice_4 _ (List.mem_of_getElem? (i := 4) rfl)
theorem cN_leastPrice_119 : zCode 69 119 = some (.iload 6, 121, 0, 0, 0, 0, 123) := cAN_leastPrice_4 _ (List.mem_of_getElem? (i := 5) rfl)
theorem cN_leastPrice_121 : zCode 69 121 = some (.iaload, 122, 0, 0, 0, 0, 59) := cAN_leastPrice_4 _ (List.mem_of_getElem? (i := 6) rfl)
theorem cN_leastPrice_122 : zCode 69 122 = some (.ineg, 123, 0, 0, 0, 0, 59) := cAN_leastPrice_4 _ (List.mem_of_getElem? (i := 7) rfl)
theorem cN_leastPrice_123 : zCode 69 123 = some (.iadd, 124, 0, 0, 0, 0, 59) := cAN_leastPrice_4 _ (List.mem_of_getElem? (i := 8) rfl)
theorem cN_leastPrice_124 : zCode 69 124 = some (.istore_n 2, 125, 0, 0, 0, 0, 59) := cAN_leastPrice_4 _ (List.mem_of_getElem? (i := 9) rfl)
theorem cN_leastPrice_125 : zCode 69 125 = some (.iinc 5 1, 128, 0, 0, 0, 0, 63) := cAN_leastPrice_4 _ (List.mem_of_getElem? (i := 10) rfl)
theorem cN_leastPrice_128 : zCode 69 128 = some (.goto (-99), 131, 29, 0, 0, 0, 63) := cAN_leastPrice_4 _ (List.mem_of_getElem? (i := 11) rfl)
theorem cN_leastPrice_131 : zCode 69 131 = some (.aload_n 0, 132, 0, 0, 0, 0, 3) := cAN_leastPrice_4 _ (List.mem_of_getElem? (i := 12) rfl)
theorem cN_leastPrice_132 : zCode 69 132 = some (.iload_n 1, 133, 0, 0, 0, 0, 3) := cAN_leastPrice_4 _ (List.mem_of_getElem? (i := 13) rfl)
theorem cN_leastPrice_133 : zCode 69 133 = some (.putfield 62, 136, 6, 16, 0, 236, 1) := cAN_leastPrice_4 _ (List.mem_of_getElem? (i := 14) rfl)
theorem cN_leastPrice_136 : zCode 69 136 = some (.aload_n 0, 137, 0, 0, 0, 0, 1) := cAN_leastPrice_4 _ (List.mem_of_getElem? (i := 15) rfl)
theorem cN_leastPrice_137 : zCode 69 137 = some (.getfield 62, 140, 6, 16, 0, 236, 0) := cAN_leastPrice_5 _ (List.mem_of_getElem? (i := 0) rfl)
theorem cN_leastPrice_140 : zCode 69 140 = some (.ireturn, 141, 0, 0, 0, 0, 0) := cAN_leastPrice_5 _ (List.mem_of_getElem? (i := 1) rfl)
theorem rN_leastPrice_0 {a0 : Nat} {u1 u2 u3 u4 u5 u6 : zV} : zS 69 0 [zR a0, u1, u2, u3, u4, u5, u6] [] sh pp mm Q ↔ zS 69 1 [zR a0, zU, zU, zU, zU, zU, zU] [zR a0] sh pp mm Q := s_go cN_leastPrice_0 cN_leastPrice_1 rfl rfl
theorem rN_leastPrice_1 {a0 s0 : Nat} {u1 u2 u3 u4 u5 u6 : zV} (hk : zKd sh s0 = 6) : zS 69 1 [zR a0, u1, u2, u3, u4, u5, u6] [zR s0] sh pp mm Q ↔ zS 69 4 [zR a0, zU, zU, zU, zU, zU, zU] [zI (mm s0 16)] sh pp mm Q := s_go cN_leastPrice_1 cN_leastPrice_4 (if_pos hk) rfl
theorem rN_leastPrice_4 {a0 : Nat} {s0 : Int} {u1 u2 u3 u4 u5 u6 : zV} : zS 69 4 [zR a0, u1, u2, u3, u4, u5, u6] [zI s0] sh pp mm Q ↔ zS 69 5 [zR a0, zU, zU, zU, zU, zU, zU] [zI (-1), zI s0] sh pp mm Q := s_go cN_leastPrice_4 cN_leastPrice_5 rfl rfl
theorem rN_leastPrice_5 {a0 : Nat} {s0 s1 : Int} {u1 u2 u3 u4 u5 u6 : zV} : zS 69 5 [zR a0, u1, u2, u3, u4, u5, u6] [zI s0, zI s1] sh pp mm Q ↔ (s1 = s0 → zS 69 13 [zR a0, zU, zU, zU, zU, zU, zU] [] sh pp mm Q) ∧ (¬ s1 = s0 → zS 69 8 [zR a0, zU, zU, zU, zU, zU, zU] [] sh pp mm Q) := s_if cN_leastPrice_5 cN_leastPrice_13 cN_leastPrice_8 rfl rfl rfl
theorem rN_leastPrice_8 {a0 : Nat} {u1 u2 u3 u4 u5 u6 : zV} : zS 69 8 [zR a0, u1, u2, u3, u4, u5, u6] [] sh pp mm Q ↔ zS 69 9 [zU, zU, zU, zU, zU, zU, zU] [zR a0] sh pp mm Q := s_go cN_leastPrice_8 cN_leastPrice_9 rfl rfl
theorem rN_leastPrice_9 {s0 : Nat} {u0 u1 u2 u3 u4 u5 u6 : zV} (hk : zKd sh s0 = 6) : zS 69 9 [u0, u1, u2, u3, u4, u5, u6] [zR s0] sh pp mm Q ↔ zS 69 12 [zU, zU, zU, zU, zU, zU, zU] [zI (mm s0 16)] sh pp mm Q := s_go cN_leastPrice_9 cN_leastPrice_12 (if_pos hk) rfl
theorem rN_leastPrice_12 {s0 : Int} {u0 u1 u2 u3 u4 u5 u6 : zV} : zS 69 12 [u0, u1, u2, u3, u4, u5, u6] [zI s0] sh pp mm Q ↔ Q (zI s0) sh pp mm := s_ret cN_leastPrice_12 rfl
theorem rN_leastPrice_13 {a0 : Nat} {u1 u2 u3 u4 u5 u6 : zV} : zS 69 13 [zR a0, u1, u2, u3, u4, u5, u6] [] sh pp mm Q ↔ zS 69 15 [zR a0, zU, zU, zU, zU, zU, zU] [zI 1000000] sh pp mm Q := s_go cN_leastPrice_13 cN_leastPrice_15 rfl rfl
theorem rN_leastPrice_15 {a0 : Nat} {s0 : Int} {u1 u2 u3 u4 u5 u6 : zV} : zS 69 15 [zR a0, u1, u2, u3, u4, u5, u6] [zI s0] sh pp mm Q ↔ zS 69 16 [zR a0, zI s0, zU, zU, zU, zU, zU] [] sh pp mm Q := s_go cN_leastPrice_15 cN_leastPrice_16 rfl rfl
theorem rN_leastPrice_16 {a0 : Nat} {a1 : Int} {u2 u3 u4 u5 u6 : zV} : zS 69 16 [zR a0, zI a1, u2, u3, u4, u5, u6] [] sh pp mm Q ↔ zS 69 17 [zR a0, zI a1, zU, zU, zU, zU, zU] [zI 0] sh pp mm Q := s_go cN_leastPrice_16 cN_leastPrice_17 rfl rfl
theorem rN_leastPrice_17 {a0 : Nat} {a1 s0 : Int} {u2 u3 u4 u5 u6 : zV} : zS 69 17 [zR a0, zI a1, u2, u3, u4, u5, u6] [zI s0] sh pp mm Q ↔ zS 69 18 [zR a0, zI a1, zI s0, zU, zU, zU, zU] [] sh pp mm Q := s_go cN_leastPrice_17 cN_leastPrice_18 rfl rfl
theorem rN_leastPrice_18 {a0 : Nat} {a1 a2 : Int} {u3 u4 u5 u6 : zV} : zS 69 18 [zR a0, zI a1, zI a2, u3, u4, u5, u6] [] sh pp mm Q ↔ zS 69 19 [zR a0, zI a1, zI a2, zU, zU, zU, zU] [zI 0] sh pp mm Q := s_go cN_leastPrice_18 cN_leastPrice_19 rfl rfl
theorem rN_leastPrice_19 {a0 : Nat} {a1 a2 s0 : Int} {u3 u4 u5 u6 : zV} : zS 69 19 [zR a0, zI a1, zI a2, u3, u4, u5, u6] [zI s0] sh pp mm Q ↔ zS 69 20 [zR a0, zI a1, zI a2, zI s0, zU, zU, zU] [] sh pp mm Q := s_go cN_leastPrice_19 cN_leastPrice_20 rfl rfl
theorem rN_leastPrice_20 {a0 : Nat} {a1 a2 a3 : Int} {u4 u5 u6 : zV} : zS 69 20 [zR a0, zI a1, zI a2, zI a3, u4, u5, u6] [] sh pp mm Q ↔ zS 69 21 [zR a0, zI a1, zI a2, zI a3, zU, zU, zU] [zR a0] sh pp mm Q := s_go cN_leastPrice_20 cN_leastPrice_21 rfl rfl
theorem rN_leastPrice_21 {a0 s0 : Nat} {a1 a2 a3 : Int} {u4 u5 u6 : zV} (hk : zKd sh s0 = 6) : zS 69 21 [zR a0, zI a1, zI a2, zI a3, u4, u5, u6] [zR s0] sh pp mm Q ↔ zS 69 24 [zR a0, zI a1, zI a2, zI a3, zU, zU, zU] [zI (mm s0 0)] sh pp mm Q := s_go cN_leastPrice_21 cN_leastPrice_24 (if_pos hk) rfl
theorem rN_leastPrice_24 {a0 : Nat} {a1 a2 a3 s0 : Int} {u4 u5 u6 : zV} : zS 69 24 [zR a0, zI a1, zI a2, zI a3, u4, u5, u6] [zI s0] sh pp mm Q ↔ zS 69 26 [zR a0, zI a1, zI a2, zI a3, zI s0, zU, zU] [] sh pp mm Q := s_go cN_leastPrice_24 cN_leastPrice_26 rfl rfl
theorem rN_leastPrice_26 {a0 : Nat} {a1 a2 a3 a4 : Int} {u5 u6 : zV} : zS 69 26 [zR a0, zI a1, zI a2, zI a3, zI a4, u5, u6] [] sh pp mm Q ↔ zS 69 27 [zR a0, zI a1, zI a2, zI a3, zI a4, zU, zU] [zI 1] sh pp mm Q := s_go cN_leastPrice_26 cN_leastPrice_27 rfl rfl
theorem rN_leastPrice_27 {a0 : Nat} {a1 a2 a3 a4 s0 : Int} {u5 u6 : zV} : zS 69 27 [zR a0, zI a1, zI a2, zI a3, zI a4, u5, u6] [zI s0] sh pp mm Q ↔ zS 69 29 [zR a0, zI a1, zI a2, zI a3, zI a4, zI s0, zU] [] sh pp mm Q := s_go cN_leastPrice_27 cN_leastPrice_29 rfl rfl
theorem rN_leastPrice_29 {a0 : Nat} {a1 a2 a3 a4 a5 : Int} {u6 : zV} : zS 69 29 [zR a0, zI a1, zI a2, zI a3, zI a4, zI a5, u6] [] sh pp mm Q ↔ zS 69 31 [zR a0, zI a1, zI a2, zI a3, zI a4, zI a5, zU] [zI a5] sh pp mm Q := s_go cN_leastPrice_29 cN_leastPrice_31 rfl rfl
theorem rN_leastPrice_31 {a0 : Nat} {a1 a2 a3 a4 a5 s0 : Int} {u6 : zV} : zS 69 31 [zR a0, zI a1, zI a2, zI a3, zI a4, zI a5, u6] [zI s0] sh pp mm Q ↔ zS 69 32 [zR a0, zI a1, zI a2, zI a3, zI a4, zI a5, zU] [zI 1, zI s0] sh pp mm Q := s_go cN_leastPrice_31 cN_leastPrice_32 rfl rfl
theorem rN_leastPrice_32 {a0 : Nat} {a1 a2 a3 a4 a5 s0 s1 : Int} {u6 : zV} : zS 69 32 [zR a0, zI a1, zI a2, zI a3, zI a4, zI a5, u6] [zI s0, zI s1] sh pp mm Q ↔ zS 69 33 [zR a0, zI a1, zI a2, zI a3, zI a4, zI a5, zU] [zR a0, zI s0, zI s1] sh pp mm Q := s_go cN_leastPrice_32 cN_leastPrice_33 rfl rfl
theorem rN_leastPrice_33 {a0 s0 : Nat} {a1 a2 a3 a4 a5 s1 s2 : Int} {u6 : zV} (hk : zKd sh s0 = 6) : zS 69 33 [zR a0, zI a1, zI a2, zI a3, zI a4, zI a5, u6] [zR s0, zI s1, zI s2] sh pp mm Q ↔ zS 69 36 [zR a0, zI a1, zI a2, zI a3, zI a4, zI a5, zU] [zI (mm s0 3), zI s1, zI s2] sh pp mm Q := s_go cN_leastPrice_33 cN_leastPrice_36 (if_pos hk) rfl
theorem rN_leastPrice_36 {a0 : Nat} {a1 a2 a3 a4 a5 s0 s1 s2 : Int} {u6 : zV} : zS 69 36 [zR a0, zI a1, zI a2, zI a3, zI a4, zI a5, u6] [zI s0, zI s1, zI s2] sh pp mm Q ↔ zS 69 37 [zR a0, zI a1, zI a2, zI a3, zI a4, zI a5, zU] [zI (zshl s1 s0), zI s2] sh pp mm Q := s_go cN_leastPrice_36 cN_leastPrice_37 rfl rfl
theorem rN_leastPrice_37 {a0 : Nat} {a1 a2 a3 a4 a5 s0 s1 : Int} {u6 : zV} : zS 69 37 [zR a0, zI a1, zI a2, zI a3, zI a4, zI a5, u6] [zI s0, zI s1] sh pp mm Q ↔ (s0 < s1 → zS 69 131 [zR a0, zI a1, zU, zU, zU, zU, zU] [] sh pp mm Q) ∧ (¬ s0 < s1 → zS 69 40 [zR a0, zI a1, zI a2, zI a3, zI a4, zI a5, zU] [] sh pp mm Q) := s_if cN_leastPrice_37 cN_leastPrice_131 cN_leastPrice_40 rfl rfl rfl
theorem rN_leastPrice_40 {a0 : Nat} {a1 a2 a3 a4 a5 : Int} {u6 : zV} : zS 69 40 [zR a0, zI a1, zI a2, zI a3, zI a4, zI a5, u6] [] sh pp mm Q ↔ zS 69 41 [zR a0, zI a1, zI a2, zI a3, zI a4, zI a5, zU] [zI a2] sh pp mm Q := s_go cN_leastPrice_40 cN_leastPrice_41 rfl rfl
theorem rN_leastPrice_41 {a0 : Nat} {a1 a2 a3 a4 a5 s0 : Int} {u6 : zV} : zS 69 41 [zR a0, zI a1, zI a2, zI a3, zI a4, zI a5, u6] [zI s0] sh pp mm Q ↔ zS 69 42 [zR a0, zI a1, zI a2, zI a3, zI a4, zI a5, zU] [zI a1, zI s0] sh pp mm Q := s_go cN_leastPrice_41 cN_leastPrice_42 rfl rfl
theorem rN_leastPrice_42 {a0 : Nat} {a1 a2 a3 a4 a5 s0 s1 : Int} {u6 : zV} : zS 69 42 [zR a0, zI a1, zI a2, zI a3, zI a4, zI a5, u6] [zI s0, zI s1] sh pp mm Q ↔ (s1 < s0 → zS 69 45 [zR a0, zI a1, zI a2, zI a3, zI a4, zI a5, zU] [] sh pp mm Q) ∧ (¬ s1 < s0 → zS 69 56 [zR a0, zI a1, zI a2, zI a3, zI a4, zI a5, zU] [] sh pp mm Q) := s_ifn cN_leastPrice_42 cN_leastPrice_45 cN_leastPrice_56 rfl rfl rfl
theorem rN_leastPrice_45 {a0 : Nat} {a1 a2 a3 a4 a5 : Int} {u6 : zV} : zS 69 45 [zR a0, zI a1, zI a2, zI a3, zI a4, zI a5, u6] [] sh pp mm Q ↔ zS 69 47 [zR a0, zI a1, zI a2, zI a3, zI a4, zI a5, zU] [zI a4] sh pp mm Q := s_go cN_leastPrice_45 cN_leastPrice_47 rfl rfl
theorem rN_leastPrice_47 {a0 : Nat} {a1 a2 a3 a4 a5 s0 : Int} {u6 : zV} : zS 69 47 [zR a0, zI a1, zI a2, zI a3, zI a4, zI a5, u6] [zI s0] sh pp mm Q ↔ zS 256 0 [zI s0] [] sh pp mm (fun v sh pp mm => zS 69 50 [zR a0, zI a1, zI a2, zI a3, zI a4, zI a5, zU] (zPush v []) sh pp mm Q) := s_call cN_leastPrice_47 cN_leastPrice_50 rfl rfl
theorem rN_leastPrice_50 {a0 : Nat} {a1 a2 a3 a4 a5 s0 : Int} {u6 : zV} : zS 69 50 [zR a0, zI a1, zI a2, zI a3, zI a4, zI a5, u6] [zI s0] sh pp mm Q ↔ zS 69 51 [zR a0, zI a1, zI a2, zI a3, zI a4, zI a5, zU] [zI 2, zI s0] sh pp mm Q := s_go cN_leastPrice_50 cN_leastPrice_51 rfl rfl
theorem rN_leastPrice_51 {a0 : Nat} {a1 a2 a3 a4 a5 s0 s1 : Int} {u6 : zV} : zS 69 51 [zR a0, zI a1, zI a2, zI a3, zI a4, zI a5, u6] [zI s0, zI s1] sh pp mm Q ↔ (s0 < s1 → zS 69 56 [zR a0, zI a1, zI a2, zI a3, zI a4, zI a5, zU] [] sh pp mm Q) ∧ (¬ s0 < s1 → zS 69 54 [zR a0, zU, zI a2, zI a3, zI a4, zI a5, zU] [] sh pp mm Q) := s_if cN_leastPrice_51 cN_leastPrice_56 cN_leastPrice_54 rfl rfl rfl
theorem rN_leastPrice_54 {a0 : Nat} {a2 a3 a4 a5 : Int} {u1 u6 : zV} : zS 69 54 [zR a0, u1, zI a2, zI a3, zI a4, zI a5, u6] [] sh pp mm Q ↔ zS 69 55 [zR a0, zU, zI a2, zI a3, zI a4, zI a5, zU] [zI a2] sh pp mm Q := s_go cN_leastPrice_54 cN_leastPrice_55 rfl rfl
theorem rN_leastPrice_55 {a0 : Nat} {a2 a3 a4 a5 s0 : Int} {u1 u6 : zV} : zS 69 55 [zR a0, u1, zI a2, zI a3, zI a4, zI a5, u6] [zI s0] sh pp mm Q ↔ zS 69 56 [zR a0, zI s0, zI a2, zI a3, zI a4, zI a5, zU] [] sh pp mm Q := s_go cN_leastPrice_55 cN_leastPrice_56 rfl rfl
theorem rN_leastPrice_56 {a0 : Nat} {a1 a2 a3 a4 a5 : Int} {u6 : zV} : zS 69 56 [zR a0, zI a1, zI a2, zI a3, zI a4, zI a5, u6] [] sh pp mm Q ↔ zS 69 58 [zR a0, zI a1, zI a2, zI a3, zI a4, zI a5, zU] [zI a5] sh pp mm Q := s_go cN_leastPrice_56 cN_leastPrice_58 rfl rfl
theorem rN_leastPrice_58 {a0 : Nat} {a1 a2 a3 a4 a5 s0 : Int} {u6 : zV} : zS 69 58 [zR a0, zI a1, zI a2, zI a3, zI a4, zI a5, u6] [zI s0] sh pp mm Q ↔ zS 70 0 [zI s0, zU] [] sh pp mm (fun v sh pp mm => zS 69 61 [zR a0, zI a1, zI a2, zI a3, zI a4, zI a5, zU] (zPush v []) sh pp mm Q) := s_call cN_leastPrice_58 cN_leastPrice_61 rfl rfl
theorem rN_leastPrice_61 {a0 : Nat} {a1 a2 a3 a4 a5 s0 : Int} {u6 : zV} : zS 69 61 [zR a0, zI a1, zI a2, zI a3, zI a4, zI a5, u6] [zI s0] sh pp mm Q ↔ zS 69 63 [zR a0, zI a1, zI a2, zI a3, zI a4, zI a5, zI s0] [] sh pp mm Q := s_go cN_leastPrice_61 cN_leastPrice_63 rfl rfl
theorem rN_leastPrice_63 {a0 : Nat} {a1 a2 a3 a4 a5 a6 : Int} : zS 69 63 [zR a0, zI a1, zI a2, zI a3, zI a4, zI a5, zI a6] [] sh pp mm Q ↔ zS 69 65 [zR a0, zI a1, zI a2, zI a3, zI a4, zI a5, zI a6] [zI a6] sh pp mm Q := s_go cN_leastPrice_63 cN_leastPrice_65 rfl rfl
theorem rN_leastPrice_65 {a0 : Nat} {a1 a2 a3 a4 a5 a6 s0 : Int} : zS 69 65 [zR a0, zI a1, zI a2, zI a3, zI a4, zI a5, zI a6] [zI s0] sh pp mm Q ↔ zS 69 66 [zR a0, zI a1, zI a2, zI a3, zI a4, zI a5, zI a6] [zR a0, zI s0] sh pp mm Q := s_go cN_leastPrice_65 cN_leastPrice_66 rfl rfl
theorem rN_leastPrice_66 {a0 s0 : Nat} {a1 a2 a3 a4 a5 a6 s1 : Int} (hk : zKd sh s0 = 6) : zS 69 66 [zR a0, zI a1, zI a2, zI a3, zI a4, zI a5, zI a6] [zR s0, zI s1] sh pp mm Q ↔ zS 69 69 [zR a0, zI a1, zI a2, zI a3, zI a4, zI a5, zI a6] [zI (mm s0 3), zI s1] sh pp mm Q := s_go cN_leastPrice_66 cN_leastPrice_69 (if_pos hk) rfl
theorem rN_leastPrice_69 {a0 : Nat} {a1 a2 a3 a4 a5 a6 s0 s1 : Int} : zS 69 69 [zR a0, zI a1, zI a2, zI a3, zI a4, zI a5, zI a6] [zI s0, zI s1] sh pp mm Q ↔ (s1 < s0 → zS 69 75 [zR a0, zI a1, zI a2, zI a3, zI a4, zI a5, zI a6] [] sh pp mm Q) ∧ (¬ s1 < s0 → zS 69 72 [zR a0, zI a1, zU, zU, zU, zU, zU] [] sh pp mm Q) := s_if cN_leastPrice_69 cN_leastPrice_75 cN_leastPrice_72 rfl rfl rfl
theorem rN_leastPrice_72 {a0 : Nat} {a1 : Int} {u2 u3 u4 u5 u6 : zV} : zS 69 72 [zR a0, zI a1, u2, u3, u4, u5, u6] [] sh pp mm Q ↔ zS 69 131 [zR a0, zI a1, zU, zU, zU, zU, zU] [] sh pp mm Q := s_go cN_leastPrice_72 cN_leastPrice_131 rfl rfl
theorem rN_leastPrice_75 {a0 : Nat} {a1 a2 a3 a4 a5 a6 : Int} : zS 69 75 [zR a0, zI a1, zI a2, zI a3, zI a4, zI a5, zI a6] [] sh pp mm Q ↔ zS 69 76 [zR a0, zI a1, zI a2, zU, zI a4, zI a5, zI a6] [zI a3] sh pp mm Q := s_go cN_leastPrice_75 cN_leastPrice_76 rfl rfl
theorem rN_leastPrice_76 {a0 : Nat} {a1 a2 a4 a5 a6 s0 : Int} {u3 : zV} : zS 69 76 [zR a0, zI a1, zI a2, u3, zI a4, zI a5, zI a6] [zI s0] sh pp mm Q ↔ zS 69 77 [zR a0, zI a1, zI a2, zU, zI a4, zI a5, zI a6] [zI 1, zI s0] sh pp mm Q := s_go cN_leastPrice_76 cN_leastPrice_77 rfl rfl
theorem rN_leastPrice_77 {a0 : Nat} {a1 a2 a4 a5 a6 s0 s1 : Int} {u3 : zV} : zS 69 77 [zR a0, zI a1, zI a2, u3, zI a4, zI a5, zI a6] [zI s0, zI s1] sh pp mm Q ↔ zS 69 79 [zR a0, zI a1, zI a2, zU, zI a4, zI a5, zI a6] [zI a6, zI s0, zI s1] sh pp mm Q := s_go cN_leastPrice_77 cN_leastPrice_79 rfl rfl
theorem rN_leastPrice_79 {a0 : Nat} {a1 a2 a4 a5 a6 s0 s1 s2 : Int} {u3 : zV} : zS 69 79 [zR a0, zI a1, zI a2, u3, zI a4, zI a5, zI a6] [zI s0, zI s1, zI s2] sh pp mm Q ↔ zS 69 80 [zR a0, zI a1, zI a2, zU, zI a4, zI a5, zI a6] [zI (zshl s1 s0), zI s2] sh pp mm Q := s_go cN_leastPrice_79 cN_leastPrice_80 rfl rfl
theorem rN_leastPrice_80 {a0 : Nat} {a1 a2 a4 a5 a6 s0 s1 : Int} {u3 : zV} : zS 69 80 [zR a0, zI a1, zI a2, u3, zI a4, zI a5, zI a6] [zI s0, zI s1] sh pp mm Q ↔ zS 69 81 [zR a0, zI a1, zI a2, zU, zI a4, zI a5, zI a6] [zI (zxor s1 s0)] sh pp mm Q := s_go cN_leastPrice_80 cN_leastPrice_81 rfl rfl
theorem rN_leastPrice_81 {a0 : Nat} {a1 a2 a4 a5 a6 s0 : Int} {u3 : zV} : zS 69 81 [zR a0, zI a1, zI a2, u3, zI a4, zI a5, zI a6] [zI s0] sh pp mm Q ↔ zS 69 82 [zR a0, zI a1, zI a2, zI s0, zI a4, zI a5, zI a6] [] sh pp mm Q := s_go cN_leastPrice_81 cN_leastPrice_82 rfl rfl
theorem rN_leastPrice_82 {a0 : Nat} {a1 a2 a3 a4 a5 a6 : Int} : zS 69 82 [zR a0, zI a1, zI a2, zI a3, zI a4, zI a5, zI a6] [] sh pp mm Q ↔ zS 69 84 [zR a0, zI a1, zI a2, zI a3, zU, zI a5, zI a6] [zI a4] sh pp mm Q := s_go cN_leastPrice_82 cN_leastPrice_84 rfl rfl
theorem rN_leastPrice_84 {a0 : Nat} {a1 a2 a3 a5 a6 s0 : Int} {u4 : zV} : zS 69 84 [zR a0, zI a1, zI a2, zI a3, u4, zI a5, zI a6] [zI s0] sh pp mm Q ↔ zS 69 85 [zR a0, zI a1, zI a2, zI a3, zU, zI a5, zI a6] [zR a0, zI s0] sh pp mm Q := s_go cN_leastPrice_84 cN_leastPrice_85 rfl rfl
theorem rN_leastPrice_85 {a0 s0 : Nat} {a1 a2 a3 a5 a6 s1 : Int} {u4 : zV} (hk : zKd sh s0 = 6) : zS 69 85 [zR a0, zI a1, zI a2, zI a3, u4, zI a5, zI a6] [zR s0, zI s1] sh pp mm Q ↔ zS 69 88 [zR a0, zI a1, zI a2, zI a3, zU, zI a5, zI a6] [zR (pp s0 6), zI s1] sh pp mm Q := s_go cN_leastPrice_85 cN_leastPrice_88 (if_pos hk) rfl
theorem rN_leastPrice_88 {a0 s0 : Nat} {a1 a2 a3 a5 a6 s1 : Int} {u4 : zV} : zS 69 88 [zR a0, zI a1, zI a2, zI a3, u4, zI a5, zI a6] [zR s0, zI s1] sh pp mm Q ↔ zS 69 90 [zR a0, zI a1, zI a2, zI a3, zU, zI a5, zI a6] [zI a6, zR s0, zI s1] sh pp mm Q := s_go cN_leastPrice_88 cN_leastPrice_90 rfl rfl
theorem rN_leastPrice_90 {a0 s1 : Nat} {a1 a2 a3 a5 a6 s0 s2 : Int} {u4 : zV} (hk : zKd sh s1 = 20 ∨ zKd sh s1 = 30) (h0 : 0 ≤ s0) (h1 : s0 < zLn sh s1) : zS 69 90 [zR a0, zI a1, zI a2, zI a3, u4, zI a5, zI a6] [zI s0, zR s1, zI s2] sh pp mm Q ↔ zS 69 91 [zR a0, zI a1, zI a2, zI a3, zU, zI a5, zI a6] [zI (mm s1 s0), zI s2] sh pp mm Q := s_go cN_leastPrice_90 cN_leastPrice_91 (if_pos ⟨hk, h0, h1⟩) rfl
theorem rN_leastPrice_91 {a0 : Nat} {a1 a2 a3 a5 a6 s0 s1 : Int} {u4 : zV} : zS 69 91 [zR a0, zI a1, zI a2, zI a3, u4, zI a5, zI a6] [zI s0, zI s1] sh pp mm Q ↔ zS 69 92 [zR a0, zI a1, zI a2, zI a3, zU, zI a5, zI a6] [zI (zxor s1 s0)] sh pp mm Q := s_go cN_leastPrice_91 cN_leastPrice_92 rfl rfl
theorem rN_leastPrice_92 {a0 : Nat} {a1 a2 a3 a5 a6 s0 : Int} {u4 : zV} : zS 69 92 [zR a0, zI a1, zI a2, zI a3, u4, zI a5, zI a6] [zI s0] sh pp mm Q ↔ zS 69 94 [zR a0, zI a1, zI a2, zI a3, zI s0, zI a5, zI a6] [] sh pp mm Q := s_go cN_leastPrice_92 cN_leastPrice_94 rfl rfl
theorem rN_leastPrice_94 {a0 : Nat} {a1 a2 a3 a4 a5 a6 : Int} : zS 69 94 [zR a0, zI a1, zI a2, zI a3, zI a4, zI a5, zI a6] [] sh pp mm Q ↔ zS 69 95 [zR a0, zI a1, zU, zI a3, zI a4, zI a5, zI a6] [zI a2] sh pp mm Q := s_go cN_leastPrice_94 cN_leastPrice_95 rfl rfl
theorem rN_leastPrice_95 {a0 : Nat} {a1 a3 a4 a5 a6 s0 : Int} {u2 : zV} : zS 69 95 [zR a0, zI a1, u2, zI a3, zI a4, zI a5, zI a6] [zI s0] sh pp mm Q ↔ zS 69 96 [zR a0, zI a1, zU, zI a3, zI a4, zI a5, zI a6] [zI a3, zI s0] sh pp mm Q := s_go cN_leastPrice_95 cN_leastPrice_96 rfl rfl
theorem rN_leastPrice_96 {a0 : Nat} {a1 a3 a4 a5 a6 s0 s1 : Int} {u2 : zV} : zS 69 96 [zR a0, zI a1, u2, zI a3, zI a4, zI a5, zI a6] [zI s0, zI s1] sh pp mm Q ↔ zS 69 98 [zR a0, zI a1, zU, zI a3, zI a4, zI a5, zI a6] [zI a6, zI s0, zI s1] sh pp mm Q := s_go cN_leastPrice_96 cN_leastPrice_98 rfl rfl
theorem rN_leastPrice_98 {a0 : Nat} {a1 a3 a4 a5 a6 s0 s1 s2 : Int} {u2 : zV} : zS 69 98 [zR a0, zI a1, u2, zI a3, zI a4, zI a5, zI a6] [zI s0, zI s1, zI s2] sh pp mm Q ↔ zS 69 99 [zR a0, zI a1, zU, zI a3, zI a4, zI a5, zI a6] [zI (zshr s1 s0), zI s2] sh pp mm Q := s_go cN_leastPrice_98 cN_leastPrice_99 rfl rfl
theorem rN_leastPrice_99 {a0 : Nat} {a1 a3 a4 a5 a6 s0 s1 : Int} {u2 : zV} : zS 69 99 [zR a0, zI a1, u2, zI a3, zI a4, zI a5, zI a6] [zI s0, zI s1] sh pp mm Q ↔ zS 69 100 [zR a0, zI a1, zU, zI a3, zI a4, zI a5, zI a6] [zI 1, zI s0, zI s1] sh pp mm Q := s_go cN_leastPrice_99 cN_leastPrice_100 rfl rfl
theorem rN_leastPrice_100 {a0 : Nat} {a1 a3 a4 a5 a6 s0 s1 s2 : Int} {u2 : zV} : zS 69 100 [zR a0, zI a1, u2, zI a3, zI a4, zI a5, zI a6] [zI s0, zI s1, zI s2] sh pp mm Q ↔ zS 69 101 [zR a0, zI a1, zU, zI a3, zI a4, zI a5, zI a6] [zI (zand s1 s0), zI s2] sh pp mm Q := s_go cN_leastPrice_100 cN_leastPrice_101 rfl rfl
theorem rN_leastPrice_101 {a0 : Nat} {a1 a3 a4 a5 a6 s0 s1 : Int} {u2 : zV} : zS 69 101 [zR a0, zI a1, u2, zI a3, zI a4, zI a5, zI a6] [zI s0, zI s1] sh pp mm Q ↔ zS 69 102 [zR a0, zI a1, zU, zI a3, zI a4, zI a5, zI a6] [zI 1, zI s0, zI s1] sh pp mm Q := s_go cN_leastPrice_101 cN_leastPrice_102 rfl rfl
theorem rN_leastPrice_102 {a0 : Nat} {a1 a3 a4 a5 a6 s0 s1 s2 : Int} {u2 : zV} : zS 69 102 [zR a0, zI a1, u2, zI a3, zI a4, zI a5, zI a6] [zI s0, zI s1, zI s2] sh pp mm Q ↔ (s1 = s0 → zS 69 105 [zR a0, zI a1, zU, zI a3, zI a4, zI a5, zI a6] [zI s2] sh pp mm Q) ∧ (¬ s1 = s0 → zS 69 115 [zR a0, zI a1, zU, zI a3, zI a4, zI a5, zI a6] [zI s2] sh pp mm Q) := s_ifn cN_leastPrice_102 cN_leastPrice_105 cN_leastPrice_115 rfl rfl rfl
theorem rN_leastPrice_105 {a0 : Nat} {a1 a3 a4 a5 a6 s0 : Int} {u2 : zV} : zS 69 105 [zR a0, zI a1, u2, zI a3, zI a4, zI a5, zI a6] [zI s0] sh pp mm Q ↔ zS 69 106 [zR a0, zI a1, zU, zI a3, zI a4, zI a5, zI a6] [zR a0, zI s0] sh pp mm Q := s_go cN_leastPrice_105 cN_leastPrice_106 rfl rfl
theorem rN_leastPrice_106 {a0 s0 : Nat} {a1 a3 a4 a5 a6 s1 : Int} {u2 : zV} (hk : zKd sh s0 = 6) : zS 69 106 [zR a0, zI a1, u2, zI a3, zI a4, zI a5, zI a6] [zR s0, zI s1] sh pp mm Q ↔ zS 69 109 [zR a0, zI a1, zU, zI a3, zI a4, zI a5, zI a6] [zR (pp s0 11), zI s1] sh pp mm Q := s_go cN_leastPrice_106 cN_leastPrice_109 (if_pos hk) rfl
theorem rN_leastPrice_109 {a0 s0 : Nat} {a1 a3 a4 a5 a6 s1 : Int} {u2 : zV} : zS 69 109 [zR a0, zI a1, u2, zI a3, zI a4, zI a5, zI a6] [zR s0, zI s1] sh pp mm Q ↔ zS 69 111 [zR a0, zI a1, zU, zI a3, zI a4, zI a5, zU] [zI a6, zR s0, zI s1] sh pp mm Q := s_go cN_leastPrice_109 cN_leastPrice_111 rfl rfl
theorem rN_leastPrice_111 {a0 s1 : Nat} {a1 a3 a4 a5 s0 s2 : Int} {u2 u6 : zV} (hk : zKd sh s1 = 20 ∨ zKd sh s1 = 30) (h0 : 0 ≤ s0) (h1 : s0 < zLn sh s1) : zS 69 111 [zR a0, zI a1, u2, zI a3, zI a4, zI a5, u6] [zI s0, zR s1, zI s2] sh pp mm Q ↔ zS 69 112 [zR a0, zI a1, zU, zI a3, zI a4, zI a5, zU] [zI (mm s1 s0), zI s2] sh pp mm Q := s_go cN_leastPrice_111 cN_leastPrice_112 (if_pos ⟨hk, h0, h1⟩) rfl
theorem rN_leastPrice_112 {a0 : Nat} {a1 a3 a4 a5 s0 s1 : Int} {u2 u6 : zV} : zS 69 112 [zR a0, zI a1, u2, zI a3, zI a4, zI a5, u6] [zI s0, zI s1] sh pp mm Q ↔ zS 69 123 [zR a0, zI a1, zU, zI a3, zI a4, zI a5, zU] [zI s0, zI s1] sh pp mm Q := s_go cN_leastPrice_112 cN_leastPrice_123 rfl rfl
theorem rN_leastPrice_115 {a0 : Nat} {a1 a3 a4 a5 a6 s0 : Int} {u2 : zV} : zS 69 115 [zR a0, zI a1, u2, zI a3, zI a4, zI a5, zI a6] [zI s0] sh pp mm Q ↔ zS 69 116 [zR a0, zI a1, zU, zI a3, zI a4, zI a5, zI a6] [zR a0, zI s0] sh pp mm Q := s_go cN_leastPrice_115 cN_leastPrice_116 rfl rfl
theorem rN_leastPrice_116 {a0 s0 : Nat} {a1 a3 a4 a5 a6 s1 : Int} {u2 : zV} (hk : zKd sh s0 = 6) : zS 69 116 [zR a0, zI a1, u2, zI a3, zI a4, zI a5, zI a6] [zR s0, zI s1] sh pp mm Q ↔ zS 69 119 [zR a0, zI a1, zU, zI a3, zI a4, zI a5, zI a6] [zR (pp s0 11), zI s1] sh pp mm Q := s_go cN_leastPrice_116 cN_leastPrice_119 (if_pos hk) rfl
theorem rN_leastPrice_119 {a0 s0 : Nat} {a1 a3 a4 a5 a6 s1 : Int} {u2 : zV} : zS 69 119 [zR a0, zI a1, u2, zI a3, zI a4, zI a5, zI a6] [zR s0, zI s1] sh pp mm Q ↔ zS 69 121 [zR a0, zI a1, zU, zI a3, zI a4, zI a5, zU] [zI a6, zR s0, zI s1] sh pp mm Q := s_go cN_leastPrice_119 cN_leastPrice_121 rfl rfl
theorem rN_leastPrice_121 {a0 s1 : Nat} {a1 a3 a4 a5 s0 s2 : Int} {u2 u6 : zV} (hk : zKd sh s1 = 20 ∨ zKd sh s1 = 30) (h0 : 0 ≤ s0) (h1 : s0 < zLn sh s1) : zS 69 121 [zR a0, zI a1, u2, zI a3, zI a4, zI a5, u6] [zI s0, zR s1, zI s2] sh pp mm Q ↔ zS 69 122 [zR a0, zI a1, zU, zI a3, zI a4, zI a5, zU] [zI (mm s1 s0), zI s2] sh pp mm Q := s_go cN_leastPrice_121 cN_leastPrice_122 (if_pos ⟨hk, h0, h1⟩) rfl
theorem rN_leastPrice_122 {a0 : Nat} {a1 a3 a4 a5 s0 s1 : Int} {u2 u6 : zV} : zS 69 122 [zR a0, zI a1, u2, zI a3, zI a4, zI a5, u6] [zI s0, zI s1] sh pp mm Q ↔ zS 69 123 [zR a0, zI a1, zU, zI a3, zI a4, zI a5, zU] [zI (zw32 (-s0)), zI s1] sh pp mm Q := s_go cN_leastPrice_122 cN_leastPrice_123 rfl rfl
theorem rN_leastPrice_123 {a0 : Nat} {a1 a3 a4 a5 s0 s1 : Int} {u2 u6 : zV} : zS 69 123 [zR a0, zI a1, u2, zI a3, zI a4, zI a5, u6] [zI s0, zI s1] sh pp mm Q ↔ zS 69 124 [zR a0, zI a1, zU, zI a3, zI a4, zI a5, zU] [zI (zw32 (s1 + s0))] sh pp mm Q := s_go cN_leastPrice_123 cN_leastPrice_124 rfl rfl
theorem rN_leastPrice_124 {a0 : Nat} {a1 a3 a4 a5 s0 : Int} {u2 u6 : zV} : zS 69 124 [zR a0, zI a1, u2, zI a3, zI a4, zI a5, u6] [zI s0] sh pp mm Q ↔ zS 69 125 [zR a0, zI a1, zI s0, zI a3, zI a4, zI a5, zU] [] sh pp mm Q := s_go cN_leastPrice_124 cN_leastPrice_125 rfl rfl
theorem rN_leastPrice_125 {a0 : Nat} {a1 a2 a3 a4 a5 : Int} {u6 : zV} : zS 69 125 [zR a0, zI a1, zI a2, zI a3, zI a4, zI a5, u6] [] sh pp mm Q ↔ zS 69 128 [zR a0, zI a1, zI a2, zI a3, zI a4, zI (zw32 (a5 + 1)), zU] [] sh pp mm Q := s_go cN_leastPrice_125 cN_leastPrice_128 rfl rfl
theorem rN_leastPrice_128 {a0 : Nat} {a1 a2 a3 a4 a5 : Int} {u6 : zV} : zS 69 128 [zR a0, zI a1, zI a2, zI a3, zI a4, zI a5, u6] [] sh pp mm Q ↔ zS 69 29 [zR a0, zI a1, zI a2, zI a3, zI a4, zI a5, zU] [] sh pp mm Q := s_go cN_leastPrice_128 cN_leastPrice_29 rfl rfl
theorem rN_leastPrice_131 {a0 : Nat} {a1 : Int} {u2 u3 u4 u5 u6 : zV} : zS 69 131 [zR a0, zI a1, u2, u3, u4, u5, u6] [] sh pp mm Q ↔ zS 69 132 [zR a0, zI a1, zU, zU, zU, zU, zU] [zR a0] sh pp mm Q := s_go cN_leastPrice_131 cN_leastPrice_132 rfl rfl
theorem rN_leastPrice_132 {a0 s0 : Nat} {a1 : Int} {u2 u3 u4 u5 u6 : zV} : zS 69 132 [zR a0, zI a1, u2, u3, u4, u5, u6] [zR s0] sh pp mm Q ↔ zS 69 133 [zR a0, zU, zU, zU, zU, zU, zU] [zI a1, zR s0] sh pp mm Q := s_go cN_leastPrice_132 cN_leastPrice_133 rfl rfl
theorem rN_leastPrice_133 {a0 s1 : Nat} {s0 : Int} {u1 u2 u3 u4 u5 u6 : zV} (hk : zKd sh s1 = 6) : zS 69 133 [zR a0, u1, u2, u3, u4, u5, u6] [zI s0, zR s1] sh pp mm Q ↔ zS 69 136 [zR a0, zU, zU, zU, zU, zU, zU] [] sh pp (zupd mm s1 16 s0) Q := s_go cN_leastPrice_133 cN_leastPrice_136 (if_pos ⟨hk, Or.inl rfl⟩) rfl
theorem rN_leastPrice_136 {a0 : Nat} {u1 u2 u3 u4 u5 u6 : zV} : zS 69 136 [zR a0, u1, u2, u3, u4, u5, u6] [] sh pp mm Q ↔ zS 69 137 [zU, zU, zU, zU, zU, zU, zU] [zR a0] sh pp mm Q := s_go cN_leastPrice_136 cN_leastPrice_137 rfl rfl
theorem rN_leastPrice_137 {s0 : Nat} {u0 u1 u2 u3 u4 u5 u6 : zV} (hk : zKd sh s0 = 6) : zS 69 137 [u0, u1, u2, u3, u4, u5, u6] [zR s0] sh pp mm Q ↔ zS 69 140 [zU, zU, zU, zU, zU, zU, zU] [zI (mm s0 16)] sh pp mm Q := s_go cN_leastPrice_137 cN_leastPrice_140 (if_pos hk) rfl
theorem rN_leastPrice_140 {s0 : Int} {u0 u1 u2 u3 u4 u5 u6 : zV} : zS 69 140 [u0, u1, u2, u3, u4, u5, u6] [zI s0] sh pp mm Q ↔ Q (zI s0) sh pp mm := s_ret cN_leastPrice_140 rfl
theorem cAN_lowestBit : ∀ q ∈ zT70, zCode 70 q.1 = some q.2 := zAll (mid := 70) rfl (by decide +kernel)
theorem cAN_lowestBit_0 : ∀ q ∈ zT70_0, zCode 70 q.1 = some q.2 := fun q h => cAN_lowestBit q (h)
theorem cN_lowestBit_0 : zCode 70 0 = some (.iconst 0, 1, 0, 0, 0, 0, 1) := cAN_lowestBit_0 _ (List.mem_of_getElem? (i := 0) rfl)
theorem cN_lowestBit_1 : zCode 70 1 = some (.istore_n 1, 2, 0, 0, 0, 0, 1) := cAN_lowestBit_0 _ (List.mem_of_getElem? (i := 1) rfl)
theorem cN_lowestBit_2 : zCode 70 2 = some (.iload_n 1, 3, 0, 0, 0, 0, 3) := cAN_lowestBit_0 _ (List.mem_of_getElem? (i := 2) rfl)
theorem cN_lowestBit_3 : zCode 70 3 = some (.bipush 12, 5, 0, 0, 0, 0, 3) := cAN_lowestBit_0 _ (List.mem_of_getElem? (i := 3) rfl)
theorem cN_lowestBit_5 : zCode 70 5 = some (.if_icmp .ge 17, 8, 22, 0, 0, 0, 3) := cAN_lowestBit_0 _ (List.mem_of_getElem? (i := 4) rfl)
theorem cN_lowestBit_8 : zCode 70 8 = some (.iload_n 0, 9, 0, 0, 0, 0, 3) := cAN_lowestBit_0 _ (List.mem_of_getElem? (i := 5) rfl)
theorem cN_lowestBit_9 : zCode 70 9 = some (.iload_n 1, 10, 0, 0, 0, 0, 3) := cAN_lowestBit_0 _ (List.mem_of_getElem? (i := 6) rfl)
theorem cN_lowestBit_10 : zCode 70 10 = some (.ishr, 11, 0, 0, 0, 0, 3) := cAN_lowestBit_0 _ (List.mem_of_getElem? (i := 7) rfl)
theorem cN_lowestBit_11 : zCode 70 11 = some (.iconst 1, 12, 0, 0, 0, 0, 3) := cAN_lowestBit_0 _ (List.mem_of_getElem? (i := 8) rfl)
theorem cN_lowestBit_12 : zCode 70 12 = some (.iand, 13, 0, 0, 0, 0, 3) := cAN_lowestBit_0 _ (List.mem_of_getElem? (i := 9) rfl)
theorem cN_lowestBit_13 : zCode 70 13 = some (.ifCond .ne 9, 16, 22, 0, 0, 0, 3) := cAN_lowestBit_0 _ (List.mem_of_getElem? (i := 10) rfl)
theorem cN_lowestBit_16 : zCode 70 16 = some (.iinc 1 1, 19, 0, 0, 0, 0, 3) := cAN_lowestBit_0 _ (List.mem_of_getElem? (i := 11) rfl)
theorem cN_lowestBit_19 : zCode 70 19 = some (.goto (-17), 22, 2, 0, 0, 0, 3) := cAN_lowestBit_0 _ (List.mem_of_getElem? (i := 12) rfl)
theorem cN_lowestBit_22 : zCode 70 22 = some (.iload_n 1, 23, 0, 0, 0, 0, 2) := cAN_lowestBit_0 _ (List.mem_of_getElem? (i := 13) rfl)
theorem cN_lowestBit_23 : zCode 70 23 = some (.ireturn, 24, 0, 0, 0, 0, 0) := cAN_lowestBit_0 _ (List.mem_of_getElem? (i := 14) rfl)
theorem rN_lowestBit_0 {a0 : Int} {u1 : zV} : zS 70 0 [zI a0, u1] [] sh pp mm Q ↔ zS 70 1 [zI a0, zU] [zI 0] sh pp mm Q := s_go cN_lowestBit_0 cN_lowestBit_1 rfl rfl
theorem rN_lowestBit_1 {a0 s0 : Int} {u1 : zV} : zS 70 1 [zI a0, u1] [zI s0] sh pp mm Q ↔ zS 70 2 [zI a0, zI s0] [] sh pp mm Q := s_go cN_lowestBit_1 cN_lowestBit_2 rfl rfl
theorem rN_lowestBit_2 {a0 a1 : Int} : zS 70 2 [zI a0, zI a1] [] sh pp mm Q ↔ zS 70 3 [zI a0, zI a1] [zI a1] sh pp mm Q := s_go cN_lowestBit_2 cN_lowestBit_3 rfl rfl
theorem rN_lowestBit_3 {a0 a1 s0 : Int} : zS 70 3 [zI a0, zI a1] [zI s0] sh pp mm Q ↔ zS 70 5 [zI a0, zI a1] [zI 12, zI s0] sh pp mm Q := s_go cN_lowestBit_3 cN_lowestBit_5 rfl rfl
theorem rN_lowestBit_5 {a0 a1 s0 s1 : Int} : zS 70 5 [zI a0, zI a1] [zI s0, zI s1] sh pp mm Q ↔ (s1 < s0 → zS 70 8 [zI a0, zI a1] [] sh pp mm Q) ∧ (¬ s1 < s0 → zS 70 22 [zU, zI a1] [] sh pp mm Q) := s_ifn cN_lowestBit_5 cN_lowestBit_8 cN_lowestBit_22 rfl rfl rfl
theorem rN_lowestBit_8 {a0 a1 : Int} : zS 70 8 [zI a0, zI a1] [] sh pp mm Q ↔ zS 70 9 [zI a0, zI a1] [zI a0] sh pp mm Q := s_go cN_lowestBit_8 cN_lowestBit_9 rfl rfl
theorem rN_lowestBit_9 {a0 a1 s0 : Int} : zS 70 9 [zI a0, zI a1] [zI s0] sh pp mm Q ↔ zS 70 10 [zI a0, zI a1] [zI a1, zI s0] sh pp mm Q := s_go cN_lowestBit_9 cN_lowestBit_10 rfl rfl
theorem rN_lowestBit_10 {a0 a1 s0 s1 : Int} : zS 70 10 [zI a0, zI a1] [zI s0, zI s1] sh pp mm Q ↔ zS 70 11 [zI a0, zI a1] [zI (zshr s1 s0)] sh pp mm Q := s_go cN_lowestBit_10 cN_lowestBit_11 rfl rfl
theorem rN_lowestBit_11 {a0 a1 s0 : Int} : zS 70 11 [zI a0, zI a1] [zI s0] sh pp mm Q ↔ zS 70 12 [zI a0, zI a1] [zI 1, zI s0] sh pp mm Q := s_go cN_lowestBit_11 cN_lowestBit_12 rfl rfl
theorem rN_lowestBit_12 {a0 a1 s0 s1 : Int} : zS 70 12 [zI a0, zI a1] [zI s0, zI s1] sh pp mm Q ↔ zS 70 13 [zI a0, zI a1] [zI (zand s1 s0)] sh pp mm Q := s_go cN_lowestBit_12 cN_lowestBit_13 rfl rfl
theorem rN_lowestBit_13 {a0 a1 s0 : Int} : zS 70 13 [zI a0, zI a1] [zI s0] sh pp mm Q ↔ (s0 = 0 → zS 70 16 [zI a0, zI a1] [] sh pp mm Q) ∧ (¬ s0 = 0 → zS 70 22 [zU, zI a1] [] sh pp mm Q) := s_ifn cN_lowestBit_13 cN_lowestBit_16 cN_lowestBit_22 rfl rfl rfl
theorem rN_lowestBit_16 {a0 a1 : Int} : zS 70 16 [zI a0, zI a1] [] sh pp mm Q ↔ zS 70 19 [zI a0, zI (zw32 (a1 + 1))] [] sh pp mm Q := s_go cN_lowestBit_16 cN_lowestBit_19 rfl rfl
theorem rN_lowestBit_19 {a0 a1 : Int} : zS 70 19 [zI a0, zI a1] [] sh pp mm Q ↔ zS 70 2 [zI a0, zI a1] [] sh pp mm Q := s_go cN_lowestBit_19 cN_lowestBit_2 rfl rfl
theorem rN_lowestBit_22 {a1 : Int} {u0 : zV} : zS 70 22 [u0, zI a1] [] sh pp mm Q ↔ zS 70 23 [zU, zU] [zI a1] sh pp mm Q := s_go cN_lowestBit_22 cN_lowestBit_23 rfl rfl
theorem rN_lowestBit_23 {s0 : Int} {u0 u1 : zV} : zS 70 23 [u0, u1] [zI s0] sh pp mm Q ↔ Q (zI s0) sh pp mm := s_ret cN_lowestBit_23 rfl
end
