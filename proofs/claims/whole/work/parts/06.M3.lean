/-! rules of the small machine at each place of the code, by program: M_edge, M_unnet, M_endOf, M_across, M_oddOf, M_allEdges, M_bitsOf, M_hangTogether, M_isOnce, M_odd, M_once, M_whereBy, M_findEnds, M_starts, M_layLine, M_isLineLess, M_trail, M_along, M_bendsOn, M_bendsFrom, M_bends, M_priceOf, M_again, M_offAt, M_offAlong, M_round, M_see -/
section
variable {sh : zSh} {pp : zPp} {mm : zMm} {Q : zV → zSh → zPp → zMm → Prop}
theorem cAM_edge : ∀ q ∈ zT210, zCode 210 q.1 = some q.2 := zAll (mid := 210) rfl (by decide +kernel)
theorem cAM_edge_0 : ∀ q ∈ zT210_0, zCode 210 q.1 = some q.2 := fun q h => cAM_edge q (List.mem_append_left _ h)
theorem cAM_edge_1 : ∀ q ∈ zT210_1, zCode 210 q.1 = some q.2 := fun q h => cAM_edge q (List.mem_append_right _ (List.mem_append_left _ h))
theorem cAM_edge_2 : ∀ q ∈ zT210_2, zCode 210 q.1 = some q.2 := fun q h => cAM_edge q (List.mem_append_right _ (List.mem_append_right _ (List.mem_append_left _ h)))
theorem cAM_edge_3 : ∀ q ∈ zT210_3, zCode 210 q.1 = some q.2 := fun q h => cAM_edge q (List.mem_append_right _ (List.mem_append_right _ (List.mem_append_right _ (List.mem_append_left _ h))))
theorem cAM_edge_4 : ∀ q ∈ zT210_4, zCode 210 q.1 = some q.2 := fun q h => cAM_edge q (List.mem_append_right _ (List.mem_append_right _ (List.mem_append_right _ (List.mem_append_right _ h))))
theorem cM_edge_0 : zCode 210 0 = some (.aload_n 0, 1, 0, 0, 0, 0, 15) := cAM_edge_0 _ (List.mem_of_getElem? (i := 0) rfl)
theorem cM_edge_1 : zCode 210 1 = some (.iload_n 1, 2, 0, 0, 0, 0, 15) := cAM_edge_0 _ (List.mem_of_getElem? (i := 1) rfl)
theorem cM_edge_2 : zCode 210 2 = some (.invokevirtual 291, 5, 208, 1, 2, 12, 15) := cAM_edge_0 _ (List.mem_of_getElem? (i := 2) rfl)
theorem cM_edge_5 : zCode 210 5 = some (.ifCond .eq 16, 8, 21, 0, 0, 0, 15) := cAM_edge_0 _ (List.mem_of_getElem? (i := 3) rfl)
theorem cM_edge_8 : zCode 210 8 = some (.aload_n 0, 9, 0, 0, 0, 0, 15) := cAM_edge_0 _ (List.mem_of_getElem? (i := 4) rfl)
theorem cM_edge_9 : zCode 210 9 = some (.iload_n 2, 10, 0, 0, 0, 0, 15) := cAM_edge_0 _ (List.mem_of_getElem? (i := 5) rfl)
theorem cM_edge_10 : zCode 210 10 = some (.invokevirtual 291, 13, 208, 1, 2, 12, 15) := cAM_edge_0 _ (List.mem_of_getElem? (i := 6) rfl)
theorem cM_edge_13 : zCode 210 13 = some (.ifCond .eq 8, 16, 21, 0, 0, 0, 15) := cAM_edge_0 _ (List.mem_of_getElem? (i := 7) rfl)
theorem cM_edge_16 : zCode 210 16 = some (.iload_n 1, 17, 0, 0, 0, 0, 15) := cAM_edge_0 _ (List.mem_of_getElem? (i := 8) rfl)
theorem cM_edge_17 : zCode 210 17 = some (.iload_n 2, 18, 0, 0, 0, 0, 15) := cAM_edge_0 _ (List.mem_of_getElem? (i := 9) rfl)
theorem cM_edge_18 : zCode 210 18 = some (.if_icmp .ne 10, 21, 28, 0, 0, 0, 15) := cAM_edge_0 _ (List.mem_of_getElem? (i := 10) rfl)
theorem cM_edge_21 : zCode 210 21 = some (.aload_n 0, 22, 0, 0, 0, 0, 1) := cAM_edge_0 _ (List.mem_of_getElem? (i := 11) rfl)
theorem cM_edge_22 : zCode 210 22 = some (.bipush (-2), 24, 0, 0, 0, 0, 0) := cAM_edge_0 _ (List.mem_of_getElem? (i := 12) rfl)
theorem cM_edge_24 : zCode 210 24 = some (.invokevirtual 132, 27, 152, 1, 2, 12, 0) := cAM_edge_0 _ (List.mem_of_getElem? (i := 13) rfl)
theorem cM_edge_27 : zCode 210 27 = some (.ireturn, 28, 0, 0, 0, 0, 0) := cAM_edge_0 _ (List.mem_of_getElem? (i := 14) rfl)
theorem cM_edge_28 : zCode 210 28 = some (.aload_n 0, 29, 0, 0, 0, 0, 15) := cAM_edge_0 _ (List.mem_of_getElem? (i := 15) rfl)
theorem cM_edge_29 : zCode 210 29 = some (.iconst 2, 30, 0, 0, 0, 0, 15) := cAM_edge_1 _ (List.mem_of_getElem? (i := 0) rfl)
theorem cM_edge_30 : zCode 210 30 = some (.invokevirtual 288, 33, 169, 1, 2, 12, 15) := cAM_edge_1 _ (List.mem_of_getElem? (i := 1) rfl)
theorem cM_edge_33 : zCode 210 33 = some (.istore 4, 35, 0, 0, 0, 0, 15) := cAM_edge_1 _ (List.mem_of_getElem? (i := 2) rfl)
theorem cM_edge_35 : zCode 210 35 = some (.iload 4, 37, 0, 0, 0, 0, 31) := cAM_edge_1 _ (List.mem_of_getElem? (i := 3) rfl)
theorem cM_edge_37 : zCode 210 37 = some (.bipush 12, 39, 0, 0, 0, 0, 31) := cAM_edge_1 _ (List.mem_of_getElem? (i := 4) rfl)
theorem cM_edge_39 : zCode 210 39 = some (.if_icmp .ne 8, 42, 47, 0, 0, 0, 31) := cAM_edge_1 _ (List.mem_of_getElem? (i := 5) rfl)
theorem cM_edge_42 : zCode 210 42 = some (.aload_n 0, 43, 0, 0, 0, 0, 1) := cAM_edge_1 _ (List.mem_of_getElem? (i := 6) rfl)
theorem cM_edge_43 : zCode 210 43 = some (.invokevirtual 154, 46, 154, 0, 1, 12, 0) := cAM_edge_1 _ (List.mem_of_getElem? (i := 7) rfl)
theorem cM_edge_46 : zCode 210 46 = some (.ireturn, 47, 0, 0, 0, 0, 0) := cAM_edge_1 _ (List.mem_of_getElem? (i := 8) rfl)
theorem cM_edge_47 : zCode 210 47 = some (.aload_n 0, 48, 0, 0, 0, 0, 31) := cAM_edge_1 _ (List.mem_of_getElem? (i := 9) rfl)
theorem cM_edge_48 : zCode 210 48 = some (.getfield 7, 51, 12, 0, 2, 1209, 31) := cAM_edge_1 _ (List.mem_of_getElem? (i := 10) rfl)
theorem cM_edge_51 : zCode 210 51 = some (.sipush 537, 54, 0, 0, 0, 0, 31) := cAM_edge_1 _ (List.mem_of_getElem? (i := 11) rfl)
theorem cM_edge_54 : zCode 210 54 = some (.iconst 3, 55, 0, 0, 0, 0, 31) := cAM_edge_1 _ (List.mem_of_getElem? (i := 12) rfl)
theorem cM_edge_55 : zCode 210 55 = some (.iload 4, 57, 0, 0, 0, 0, 31) := cAM_edge_1 _ (List.mem_of_getElem? (i := 13) rfl)
theorem cM_edge_57 : zCode 210 57 = some (.imul, 58, 0, 0, 0, 0, 31) := cAM_edge_1 _ (List.mem_of_getElem? (i := 14) rfl)
theorem cM_edge_58 : zCode 210 58 = some (.iadd, 59, 0, 0, 0, 0, 31) := cAM_edge_1 _ (List.mem_of_getElem? (i := 15) rfl)
theorem cM_edge_59 : zCode 210 59 = some (.iload_n 1, 60, 0, 0, 0, 0, 31) := cAM_edge_2 _ (List.mem_of_getElem? (i := 0) rfl)
theorem cM_edge_60 : zCode 210 60 = some (.iastore, 61, 0, 0, 0, 0, 29) := cAM_edge_2 _ (List.mem_of_getElem? (i := 1) rfl)
theorem cM_edge_61 : zCode 210 61 = some (.aload_n 0, 62, 0, 0, 0, 0, 29) := cAM_edge_2 _ (List.mem_of_getElem? (i := 2) rfl)
theorem cM_edge_62 : zCode 210 62 = some (.getfield 7, 65, 12, 0, 2, 1209, 29) := cAM_edge_2 _ (List.mem_of_getElem? (i := 3) rfl)
theorem cM_edge_65 : zCode 210 65 = some (.sipush 537, 68, 0, 0, 0, 0, 29) := cAM_edge_2 _ (List.mem_of_getElem? (i := 4) rfl)
theorem cM_edge_68 : zCode 210 68 = some (.iconst 3, 69, 0, 0, 0, 0, 29) := cAM_edge_2 _ (List.mem_of_getElem? (i := 5) rfl)
theorem cM_edge_69 : zCode 210 69 = some (.iload 4, 71, 0, 0, 0, 0, 29) := cAM_edge_2 _ (List.mem_of_getElem? (i := 6) rfl)
theorem cM_edge_71 : zCode 210 71 = some (.imul, 72, 0, 0, 0, 0, 29) := cAM_edge_2 _ (List.mem_of_getElem? (i := 7) rfl)
theorem cM_edge_72 : zCode 210 72 = some (.iadd, 73, 0, 0, 0, 0, 29) := cAM_edge_2 _ (List.mem_of_getElem? (i := 8) rfl)
theorem cM_edge_73 : zCode 210 73 = some (.iconst 1, 74, 0, 0, 0, 0, 29) := cAM_edge_2 _ (List.mem_of_getElem? (i := 9) rfl)
theorem cM_edge_74 : zCode 210 74 = some (.iadd, 75, 0, 0, 0, 0, 29) := cAM_edge_2 _ (List.mem_of_getElem? (i := 10) rfl)
theorem cM_edge_75 : zCode 210 75 = some (.iload_n 2, 76, 0, 0, 0, 0, 29) := cAM_edge_2 _ (List.mem_of_getElem? (i := 11) rfl)
theorem cM_edge_76 : zCode 210 76 = some (.iastore, 77, 0, 0, 0, 0, 25) := cAM_edge_2 _ (List.mem_of_getElem? (i := 12) rfl)
theorem cM_edge_77 : zCode 210 77 = some (.aload_n 0, 78, 0, 0, 0, 0, 25) := cAM_edge_2 _ (List.mem_of_getElem? (i := 13) rfl)
theorem cM_edge_78 : zCode 210 78 = some (.getfield 7, 81, 12, 0, 2, 1209, 25) := cAM_edge_2 _ (List.mem_of_getElem? (i := 14) rfl)
theorem cM_edge_81 : zCode 210 81 = some (.sipush 537, 84, 0, 0, 0, 0, 25) := cAM_edge_2 _ (List.mem_of_getElem? (i := 15) rfl)
theorem cM_edge_84 : zCode 210 84 = some (.iconst 3, 85, 0, 0, 0, 0, 25) := cAM_edge_3 _ (List.mem_of_getElem? (i := 0) rfl)
theorem cM_edge_85 : zCode 210 85 = some (.iload 4, 87, 0, 0, 0, 0, 25) := cAM_edge_3 _ (List.mem_of_getElem? (i := 1) rfl)
theorem cM_edge_87 : zCode 210 87 = some (.imul, 88, 0, 0, 0, 0, 25) := cAM_edge_3 _ (List.mem_of_getElem? (i := 2) rfl)
theorem cM_edge_88 : zCode 210 88 = some (.iadd, 89, 0, 0, 0, 0, 25) := cAM_edge_3 _ (List.mem_of_getElem? (i := 3) rfl)
theorem cM_edge_89 : zCode 210 89 = some (.iconst 2, 90, 0, 0, 0, 0, 25) := cAM_edge_3 _ (List.mem_of_getElem? (i := 4) rfl)
theorem cM_edge_90 : zCode 210 90 = some (.iadd, 91, 0, 0, 0, 0, 25) := cAM_edge_3 _ (List.mem_of_getElem? (i := 5) rfl)
theorem cM_edge_91 : zCode 210 91 = some (.iload_n 3, 92, 0, 0, 0, 0, 25) := cAM_edge_3 _ (List.mem_of_getElem? (i := 6) rfl)
theorem cM_edge_92 : zCode 210 92 = some (.ifCond .eq 7, 95, 99, 0, 0, 0, 17) := cAM_edge_3 _ (List.mem_of_getElem? (i := 7) rfl)
theorem cM_edge_95 : zCode 210 95 = some (.iconst 1, 96, 0, 0, 0, 0, 17) := cAM_edge_3 _ (List.mem_of_getElem? (i := 8) rfl)
theorem cM_edge_96 : zCode 210 96 = some (.goto 4, 99, 100, 0, 0, 0, 17) := cAM_edge_3 _ (List.mem_of_getElem? (i := 9) rfl)
theorem cM_edge_99 : zCode 210 99 = some (.iconst 0, 100, 0, 0, 0, 0, 17) := cAM_edge_3 _ (List.mem_of_getElem? (i := 10) rfl)
theorem cM_edge_100 : zCode 210 100 = some (.iastore, 101, 0, 0, 0, 0, 17) := cAM_edge_3 _ (List.mem_of_getElem? (i := 11) rfl)
theorem cM_edge_101 : zCode 210 101 = some (.aload_n 0, 102, 0, 0, 0, 0, 17) := cAM_edge_3 _ (List.mem_of_getElem? (i := 12) rfl)
theorem cM_edge_102 : zCode 210 102 = some (.getfield 7, 105, 12, 0, 2, 1209, 16) := cAM_edge_3 _ (List.mem_of_getElem? (i := 13) rfl)
theorem cM_edge_105 : zCode 210 105 = some (.sipush 983, 108, 0, 0, 0, 0, 16) := cAM_edge_3 _ (List.mem_of_getElem? (i := 14) rfl)
theorem cM_edge_108 : zCode 210 108 = some (.dup2, 109, 0, 0, 0, 0, 16) := cAM_edge_3 _ (List.mem_of_getElem? (i := 15) rfl)
theorem cM_edge_109 : zCode 210 109 = some (.iaload, 110, 0, 0, 0, 0, 16) := cAM_edge_4 _ (List.mem_of_getElem? (i := 0) rfl)
theorem cM_edge_110 : zCode 210 110 = some (.iconst 1, 111, 0, 0, 0, 0, 16) := cAM_edge_4 _ (List.mem_of_getElem? (i := 1) rfl)
theorem cM_edge_111 : zCode 210 111 = some (.iadd, 112, 0, 0, 0, 0, 16) := cAM_edge_4 _ (List.mem_of_getElem? (i := 2) rfl)
theorem cM_edge_112 : zCode 210 112 = some (.iastore, 113, 0, 0, 0, 0, 16) := cAM_edge_4 _ (List.mem_of_getElem? (i := 3) rfl)
theorem cM_edge_113 : zCode 210 113 = some (.iload 4, 115, 0, 0, 0, 0, 16) := cAM_edge_4 _ (List.mem_of_getElem? (i := 4) rfl)
theorem cM_edge_115 : zCode 210 115 = some (.ireturn, 116, 0, 0, 0, 0, 0) := cAM_edge_4 _ (List.mem_of_getElem? (i := 5) rfl)
theorem rM_edge_0 {a0 : Nat} {a1 a2 a3 : Int} {u4 : zV} : zS 210 0 [zR a0, zI a1, zI a2, zI a3, u4] [] sh pp mm Q ↔ zS 210 1 [zR a0, zI a1, zI a2, zI a3, zU] [zR a0] sh pp mm Q := s_go cM_edge_0 cM_edge_1 rfl rfl
theorem rM_edge_1 {a0 s0 : Nat} {a1 a2 a3 : Int} {u4 : zV} : zS 210 1 [zR a0, zI a1, zI a2, zI a3, u4] [zR s0] sh pp mm Q ↔ zS 210 2 [zR a0, zI a1, zI a2, zI a3, zU] [zI a1, zR s0] sh pp mm Q := s_go cM_edge_1 cM_edge_2 rfl rfl
theorem rM_edge_2 {a0 s1 : Nat} {a1 a2 a3 s0 : Int} {u4 : zV} (hk : zKd sh s1 = 12) : zS 210 2 [zR a0, zI a1, zI a2, zI a3, u4] [zI s0, zR s1] sh pp mm Q ↔ zS 208 0 [zR s1, zI s0] [] sh pp mm (fun v sh pp mm => zS 210 5 [zR a0, zI a1, zI a2, zI a3, zU] (zPush v []) sh pp mm Q) := s_call cM_edge_2 cM_edge_5 ((if_pos hk).trans rfl) rfl
theorem rM_edge_5 {a0 : Nat} {a1 a2 a3 s0 : Int} {u4 : zV} : zS 210 5 [zR a0, zI a1, zI a2, zI a3, u4] [zI s0] sh pp mm Q ↔ (s0 = 0 → zS 210 21 [zR a0, zU, zU, zU, zU] [] sh pp mm Q) ∧ (¬ s0 = 0 → zS 210 8 [zR a0, zI a1, zI a2, zI a3, zU] [] sh pp mm Q) := s_if cM_edge_5 cM_edge_21 cM_edge_8 rfl rfl rfl
theorem rM_edge_8 {a0 : Nat} {a1 a2 a3 : Int} {u4 : zV} : zS 210 8 [zR a0, zI a1, zI a2, zI a3, u4] [] sh pp mm Q ↔ zS 210 9 [zR a0, zI a1, zI a2, zI a3, zU] [zR a0] sh pp mm Q := s_go cM_edge_8 cM_edge_9 rfl rfl
theorem rM_edge_9 {a0 s0 : Nat} {a1 a2 a3 : Int} {u4 : zV} : zS 210 9 [zR a0, zI a1, zI a2, zI a3, u4] [zR s0] sh pp mm Q ↔ zS 210 10 [zR a0, zI a1, zI a2, zI a3, zU] [zI a2, zR s0] sh pp mm Q := s_go cM_edge_9 cM_edge_10 rfl rfl
theorem rM_edge_10 {a0 s1 : Nat} {a1 a2 a3 s0 : Int} {u4 : zV} (hk : zKd sh s1 = 12) : zS 210 10 [zR a0, zI a1, zI a2, zI a3, u4] [zI s0, zR s1] sh pp mm Q ↔ zS 208 0 [zR s1, zI s0] [] sh pp mm (fun v sh pp mm => zS 210 13 [zR a0, zI a1, zI a2, zI a3, zU] (zPush v []) sh pp mm Q) := s_call cM_edge_10 cM_edge_13 ((if_pos hk).trans rfl) rfl
theorem rM_edge_13 {a0 : Nat} {a1 a2 a3 s0 : Int} {u4 : zV} : zS 210 13 [zR a0, zI a1, zI a2, zI a3, u4] [zI s0] sh pp mm Q ↔ (s0 = 0 → zS 210 21 [zR a0, zU, zU, zU, zU] [] sh pp mm Q) ∧ (¬ s0 = 0 → zS 210 16 [zR a0, zI a1, zI a2, zI a3, zU] [] sh pp mm Q) := s_if cM_edge_13 cM_edge_21 cM_edge_16 rfl rfl rfl
theorem rM_edge_16 {a0 : Nat} {a1 a2 a3 : Int} {u4 : zV} : zS 210 16 [zR a0, zI a1, zI a2, zI a3, u4] [] sh pp mm Q ↔ zS 210 17 [zR a0, zI a1, zI a2, zI a3, zU] [zI a1] sh pp mm Q := s_go cM_edge_16 cM_edge_17 rfl rfl
theorem rM_edge_17 {a0 : Nat} {a1 a2 a3 s0 : Int} {u4 : zV} : zS 210 17 [zR a0, zI a1, zI a2, zI a3, u4] [zI s0] sh pp mm Q ↔ zS 210 18 [zR a0, zI a1, zI a2, zI a3, zU] [zI a2, zI s0] sh pp mm Q := s_go cM_edge_17 cM_edge_18 rfl rfl
theorem rM_edge_18 {a0 : Nat} {a1 a2 a3 s0 s1 : Int} {u4 : zV} : zS 210 18 [zR a0, zI a1, zI a2, zI a3, u4] [zI s0, zI s1] sh pp mm Q ↔ (s1 = s0 → zS 210 21 [zR a0, zU, zU, zU, zU] [] sh pp mm Q) ∧ (¬ s1 = s0 → zS 210 28 [zR a0, zI a1, zI a2, zI a3, zU] [] sh pp mm Q) := s_ifn cM_edge_18 cM_edge_21 cM_edge_28 rfl rfl rfl
theorem rM_edge_21 {a0 : Nat} {u1 u2 u3 u4 : zV} : zS 210 21 [zR a0, u1, u2, u3, u4] [] sh pp mm Q ↔ zS 210 22 [zU, zU, zU, zU, zU] [zR a0] sh pp mm Q := s_go cM_edge_21 cM_edge_22 rfl rfl
theorem rM_edge_22 {s0 : Nat} {u0 u1 u2 u3 u4 : zV} : zS 210 22 [u0, u1, u2, u3, u4] [zR s0] sh pp mm Q ↔ zS 210 24 [zU, zU, zU, zU, zU] [zI (-2), zR s0] sh pp mm Q := s_go cM_edge_22 cM_edge_24 rfl rfl
theorem rM_edge_24 {s1 : Nat} {s0 : Int} {u0 u1 u2 u3 u4 : zV} (hk : zKd sh s1 = 12) : zS 210 24 [u0, u1, u2, u3, u4] [zI s0, zR s1] sh pp mm Q ↔ zS 152 0 [zR s1, zI s0] [] sh pp mm (fun v sh pp mm => zS 210 27 [zU, zU, zU, zU, zU] (zPush v []) sh pp mm Q) := s_call cM_edge_24 cM_edge_27 ((if_pos hk).trans rfl) rfl
theorem rM_edge_27 {s0 : Int} {u0 u1 u2 u3 u4 : zV} : zS 210 27 [u0, u1, u2, u3, u4] [zI s0] sh pp mm Q ↔ Q (zI s0) sh pp mm := s_ret cM_edge_27 rfl
theorem rM_edge_28 {a0 : Nat} {a1 a2 a3 : Int} {u4 : zV} : zS 210 28 [zR a0, zI a1, zI a2, zI a3, u4] [] sh pp mm Q ↔ zS 210 29 [zR a0, zI a1, zI a2, zI a3, zU] [zR a0] sh pp mm Q := s_go cM_edge_28 cM_edge_29 rfl rfl
theorem rM_edge_29 {a0 s0 : Nat} {a1 a2 a3 : Int} {u4 : zV} : zS 210 29 [zR a0, zI a1, zI a2, zI a3, u4] [zR s0] sh pp mm Q ↔ zS 210 30 [zR a0, zI a1, zI a2, zI a3, zU] [zI 2, zR s0] sh pp mm Q := s_go cM_edge_29 cM_edge_30 rfl rfl
theorem rM_edge_30 {a0 s1 : Nat} {a1 a2 a3 s0 : Int} {u4 : zV} (hk : zKd sh s1 = 12) : zS 210 30 [zR a0, zI a1, zI a2, zI a3, u4] [zI s0, zR s1] sh pp mm Q ↔ zS 169 0 [zR s1, zI s0] [] sh pp mm (fun v sh pp mm => zS 210 33 [zR a0, zI a1, zI a2, zI a3, zU] (zPush v []) sh pp mm Q) := s_call cM_edge_30 cM_edge_33 ((if_pos hk).trans rfl) rfl
theorem rM_edge_33 {a0 : Nat} {a1 a2 a3 s0 : Int} {u4 : zV} : zS 210 33 [zR a0, zI a1, zI a2, zI a3, u4] [zI s0] sh pp mm Q ↔ zS 210 35 [zR a0, zI a1, zI a2, zI a3, zI s0] [] sh pp mm Q := s_go cM_edge_33 cM_edge_35 rfl rfl
theorem rM_edge_35 {a0 : Nat} {a1 a2 a3 a4 : Int} : zS 210 35 [zR a0, zI a1, zI a2, zI a3, zI a4] [] sh pp mm Q ↔ zS 210 37 [zR a0, zI a1, zI a2, zI a3, zI a4] [zI a4] sh pp mm Q := s_go cM_edge_35 cM_edge_37 rfl rfl
theorem rM_edge_37 {a0 : Nat} {a1 a2 a3 a4 s0 : Int} : zS 210 37 [zR a0, zI a1, zI a2, zI a3, zI a4] [zI s0] sh pp mm Q ↔ zS 210 39 [zR a0, zI a1, zI a2, zI a3, zI a4] [zI 12, zI s0] sh pp mm Q := s_go cM_edge_37 cM_edge_39 rfl rfl
theorem rM_edge_39 {a0 : Nat} {a1 a2 a3 a4 s0 s1 : Int} : zS 210 39 [zR a0, zI a1, zI a2, zI a3, zI a4] [zI s0, zI s1] sh pp mm Q ↔ (s1 = s0 → zS 210 42 [zR a0, zU, zU, zU, zU] [] sh pp mm Q) ∧ (¬ s1 = s0 → zS 210 47 [zR a0, zI a1, zI a2, zI a3, zI a4] [] sh pp mm Q) := s_ifn cM_edge_39 cM_edge_42 cM_edge_47 rfl rfl rfl
theorem rM_edge_42 {a0 : Nat} {u1 u2 u3 u4 : zV} : zS 210 42 [zR a0, u1, u2, u3, u4] [] sh pp mm Q ↔ zS 210 43 [zU, zU, zU, zU, zU] [zR a0] sh pp mm Q := s_go cM_edge_42 cM_edge_43 rfl rfl
theorem rM_edge_43 {s0 : Nat} {u0 u1 u2 u3 u4 : zV} (hk : zKd sh s0 = 12) : zS 210 43 [u0, u1, u2, u3, u4] [zR s0] sh pp mm Q ↔ zS 154 0 [zR s0] [] sh pp mm (fun v sh pp mm => zS 210 46 [zU, zU, zU, zU, zU] (zPush v []) sh pp mm Q) := s_call cM_edge_43 cM_edge_46 ((if_pos hk).trans rfl) rfl
theorem rM_edge_46 {s0 : Int} {u0 u1 u2 u3 u4 : zV} : zS 210 46 [u0, u1, u2, u3, u4] [zI s0] sh pp mm Q ↔ Q (zI s0) sh pp mm := s_ret cM_edge_46 rfl
theorem rM_edge_47 {a0 : Nat} {a1 a2 a3 a4 : Int} : zS 210 47 [zR a0, zI a1, zI a2, zI a3, zI a4] [] sh pp mm Q ↔ zS 210 48 [zR a0, zI a1, zI a2, zI a3, zI a4] [zR a0] sh pp mm Q := s_go cM_edge_47 cM_edge_48 rfl rfl
theorem rM_edge_48 {a0 s0 : Nat} {a1 a2 a3 a4 : Int} (hk : zKd sh s0 = 12) : zS 210 48 [zR a0, zI a1, zI a2, zI a3, zI a4] [zR s0] sh pp mm Q ↔ zS 210 51 [zR a0, zI a1, zI a2, zI a3, zI a4] [zR (pp s0 0)] sh pp mm Q := s_go cM_edge_48 cM_edge_51 (if_pos hk) rfl
theorem rM_edge_51 {a0 s0 : Nat} {a1 a2 a3 a4 : Int} : zS 210 51 [zR a0, zI a1, zI a2, zI a3, zI a4] [zR s0] sh pp mm Q ↔ zS 210 54 [zR a0, zI a1, zI a2, zI a3, zI a4] [zI 537, zR s0] sh pp mm Q := s_go cM_edge_51 cM_edge_54 rfl rfl
theorem rM_edge_54 {a0 s1 : Nat} {a1 a2 a3 a4 s0 : Int} : zS 210 54 [zR a0, zI a1, zI a2, zI a3, zI a4] [zI s0, zR s1] sh pp mm Q ↔ zS 210 55 [zR a0, zI a1, zI a2, zI a3, zI a4] [zI 3, zI s0, zR s1] sh pp mm Q := s_go cM_edge_54 cM_edge_55 rfl rfl
theorem rM_edge_55 {a0 s2 : Nat} {a1 a2 a3 a4 s0 s1 : Int} : zS 210 55 [zR a0, zI a1, zI a2, zI a3, zI a4] [zI s0, zI s1, zR s2] sh pp mm Q ↔ zS 210 57 [zR a0, zI a1, zI a2, zI a3, zI a4] [zI a4, zI s0, zI s1, zR s2] sh pp mm Q := s_go cM_edge_55 cM_edge_57 rfl rfl
theorem rM_edge_57 {a0 s3 : Nat} {a1 a2 a3 a4 s0 s1 s2 : Int} : zS 210 57 [zR a0, zI a1, zI a2, zI a3, zI a4] [zI s0, zI s1, zI s2, zR s3] sh pp mm Q ↔ zS 210 58 [zR a0, zI a1, zI a2, zI a3, zI a4] [zI (zw32 (s1 * s0)), zI s2, zR s3] sh pp mm Q := s_go cM_edge_57 cM_edge_58 rfl rfl
theorem rM_edge_58 {a0 s2 : Nat} {a1 a2 a3 a4 s0 s1 : Int} : zS 210 58 [zR a0, zI a1, zI a2, zI a3, zI a4] [zI s0, zI s1, zR s2] sh pp mm Q ↔ zS 210 59 [zR a0, zI a1, zI a2, zI a3, zI a4] [zI (zw32 (s1 + s0)), zR s2] sh pp mm Q := s_go cM_edge_58 cM_edge_59 rfl rfl
theorem rM_edge_59 {a0 s1 : Nat} {a1 a2 a3 a4 s0 : Int} : zS 210 59 [zR a0, zI a1, zI a2, zI a3, zI a4] [zI s0, zR s1] sh pp mm Q ↔ zS 210 60 [zR a0, zU, zI a2, zI a3, zI a4] [zI a1, zI s0, zR s1] sh pp mm Q := s_go cM_edge_59 cM_edge_60 rfl rfl
theorem rM_edge_60 {a0 s2 : Nat} {a2 a3 a4 s0 s1 : Int} {u1 : zV} (hk : zKd sh s2 = 20) (h0 : 0 ≤ s1) (h1 : s1 < zLn sh s2) : zS 210 60 [zR a0, u1, zI a2, zI a3, zI a4] [zI s0, zI s1, zR s2] sh pp mm Q ↔ zS 210 61 [zR a0, zU, zI a2, zI a3, zI a4] [] sh pp (zupd mm s2 s1 s0) Q := s_go cM_edge_60 cM_edge_61 (if_pos ⟨hk, h0, h1, fun h => absurd h (by decide)⟩) rfl
theorem rM_edge_61 {a0 : Nat} {a2 a3 a4 : Int} {u1 : zV} : zS 210 61 [zR a0, u1, zI a2, zI a3, zI a4] [] sh pp mm Q ↔ zS 210 62 [zR a0, zU, zI a2, zI a3, zI a4] [zR a0] sh pp mm Q := s_go cM_edge_61 cM_edge_62 rfl rfl
theorem rM_edge_62 {a0 s0 : Nat} {a2 a3 a4 : Int} {u1 : zV} (hk : zKd sh s0 = 12) : zS 210 62 [zR a0, u1, zI a2, zI a3, zI a4] [zR s0] sh pp mm Q ↔ zS 210 65 [zR a0, zU, zI a2, zI a3, zI a4] [zR (pp s0 0)] sh pp mm Q := s_go cM_edge_62 cM_edge_65 (if_pos hk) rfl
theorem rM_edge_65 {a0 s0 : Nat} {a2 a3 a4 : Int} {u1 : zV} : zS 210 65 [zR a0, u1, zI a2, zI a3, zI a4] [zR s0] sh pp mm Q ↔ zS 210 68 [zR a0, zU, zI a2, zI a3, zI a4] [zI 537, zR s0] sh pp mm Q := s_go cM_edge_65 cM_edge_68 rfl rfl
theorem rM_edge_68 {a0 s1 : Nat} {a2 a3 a4 s0 : Int} {u1 : zV} : zS 210 68 [zR a0, u1, zI a2, zI a3, zI a4] [zI s0, zR s1] sh pp mm Q ↔ zS 210 69 [zR a0, zU, zI a2, zI a3, zI a4] [zI 3, zI s0, zR s1] sh pp mm Q := s_go cM_edge_68 cM_edge_69 rfl rfl
theorem rM_edge_69 {a0 s2 : Nat} {a2 a3 a4 s0 s1 : Int} {u1 : zV} : zS 210 69 [zR a0, u1, zI a2, zI a3, zI a4] [zI s0, zI s1, zR s2] sh pp mm Q ↔ zS 210 71 [zR a0, zU, zI a2, zI a3, zI a4] [zI a4, zI s0, zI s1, zR s2] sh pp mm Q := s_go cM_edge_69 cM_edge_71 rfl rfl
theorem rM_edge_71 {a0 s3 : Nat} {a2 a3 a4 s0 s1 s2 : Int} {u1 : zV} : zS 210 71 [zR a0, u1, zI a2, zI a3, zI a4] [zI s0, zI s1, zI s2, zR s3] sh pp mm Q ↔ zS 210 72 [zR a0, zU, zI a2, zI a3, zI a4] [zI (zw32 (s1 * s0)), zI s2, zR s3] sh pp mm Q := s_go cM_edge_71 cM_edge_72 rfl rfl
theorem rM_edge_72 {a0 s2 : Nat} {a2 a3 a4 s0 s1 : Int} {u1 : zV} : zS 210 72 [zR a0, u1, zI a2, zI a3, zI a4] [zI s0, zI s1, zR s2] sh pp mm Q ↔ zS 210 73 [zR a0, zU, zI a2, zI a3, zI a4] [zI (zw32 (s1 + s0)), zR s2] sh pp mm Q := s_go cM_edge_72 cM_edge_73 rfl rfl
theorem rM_edge_73 {a0 s1 : Nat} {a2 a3 a4 s0 : Int} {u1 : zV} : zS 210 73 [zR a0, u1, zI a2, zI a3, zI a4] [zI s0, zR s1] sh pp mm Q ↔ zS 210 74 [zR a0, zU, zI a2, zI a3, zI a4] [zI 1, zI s0, zR s1] sh pp mm Q := s_go cM_edge_73 cM_edge_74 rfl rfl
theorem rM_edge_74 {a0 s2 : Nat} {a2 a3 a4 s0 s1 : Int} {u1 : zV} : zS 210 74 [zR a0, u1, zI a2, zI a3, zI a4] [zI s0, zI s1, zR s2] sh pp mm Q ↔ zS 210 75 [zR a0, zU, zI a2, zI a3, zI a4] [zI (zw32 (s1 + s0)), zR s2] sh pp mm Q := s_go cM_edge_74 cM_edge_75 rfl rfl
theorem rM_edge_75 {a0 s1 : Nat} {a2 a3 a4 s0 : Int} {u1 : zV} : zS 210 75 [zR a0, u1, zI a2, zI a3, zI a4] [zI s0, zR s1] sh pp mm Q ↔ zS 210 76 [zR a0, zU, zU, zI a3, zI a4] [zI a2, zI s0, zR s1] sh pp mm Q := s_go cM_edge_75 cM_edge_76 rfl rfl
theorem rM_edge_76 {a0 s2 : Nat} {a3 a4 s0 s1 : Int} {u1 u2 : zV} (hk : zKd sh s2 = 20) (h0 : 0 ≤ s1) (h1 : s1 < zLn sh s2) : zS 210 76 [zR a0, u1, u2, zI a3, zI a4] [zI s0, zI s1, zR s2] sh pp mm Q ↔ zS 210 77 [zR a0, zU, zU, zI a3, zI a4] [] sh pp (zupd mm s2 s1 s0) Q := s_go cM_edge_76 cM_edge_77 (if_pos ⟨hk, h0, h1, fun h => absurd h (by decide)⟩) rfl
theorem rM_edge_77 {a0 : Nat} {a3 a4 : Int} {u1 u2 : zV} : zS 210 77 [zR a0, u1, u2, zI a3, zI a4] [] sh pp mm Q ↔ zS 210 78 [zR a0, zU, zU, zI a3, zI a4] [zR a0] sh pp mm Q := s_go cM_edge_77 cM_edge_78 rfl rfl
theorem rM_edge_78 {a0 s0 : Nat} {a3 a4 : Int} {u1 u2 : zV} (hk : zKd sh s0 = 12) : zS 210 78 [zR a0, u1, u2, zI a3, zI a4] [zR s0] sh pp mm Q ↔ zS 210 81 [zR a0, zU, zU, zI a3, zI a4] [zR (pp s0 0)] sh pp mm Q := s_go cM_edge_78 cM_edge_81 (if_pos hk) rfl
theorem rM_edge_81 {a0 s0 : Nat} {a3 a4 : Int} {u1 u2 : zV} : zS 210 81 [zR a0, u1, u2, zI a3, zI a4] [zR s0] sh pp mm Q ↔ zS 210 84 [zR a0, zU, zU, zI a3, zI a4] [zI 537, zR s0] sh pp mm Q := s_go cM_edge_81 cM_edge_84 rfl rfl
theorem rM_edge_84 {a0 s1 : Nat} {a3 a4 s0 : Int} {u1 u2 : zV} : zS 210 84 [zR a0, u1, u2, zI a3, zI a4] [zI s0, zR s1] sh pp mm Q ↔ zS 210 85 [zR a0, zU, zU, zI a3, zI a4] [zI 3, zI s0, zR s1] sh pp mm Q := s_go cM_edge_84 cM_edge_85 rfl rfl
theorem rM_edge_85 {a0 s2 : Nat} {a3 a4 s0 s1 : Int} {u1 u2 : zV} : zS 210 85 [zR a0, u1, u2, zI a3, zI a4] [zI s0, zI s1, zR s2] sh pp mm Q ↔ zS 210 87 [zR a0, zU, zU, zI a3, zI a4] [zI a4, zI s0, zI s1, zR s2] sh pp mm Q := s_go cM_edge_85 cM_edge_87 rfl rfl
theorem rM_edge_87 {a0 s3 : Nat} {a3 a4 s0 s1 s2 : Int} {u1 u2 : zV} : zS 210 87 [zR a0, u1, u2, zI a3, zI a4] [zI s0, zI s1, zI s2, zR s3] sh pp mm Q ↔ zS 210 88 [zR a0, zU, zU, zI a3, zI a4] [zI (zw32 (s1 * s0)), zI s2, zR s3] sh pp mm Q := s_go cM_edge_87 cM_edge_88 rfl rfl
theorem rM_edge_88 {a0 s2 : Nat} {a3 a4 s0 s1 : Int} {u1 u2 : zV} : zS 210 88 [zR a0, u1, u2, zI a3, zI a4] [zI s0, zI s1, zR s2] sh pp mm Q ↔ zS 210 89 [zR a0, zU, zU, zI a3, zI a4] [zI (zw32 (s1 + s0)), zR s2] sh pp mm Q := s_go cM_edge_88 cM_edge_89 rfl rfl
theorem rM_edge_89 {a0 s1 : Nat} {a3 a4 s0 : Int} {u1 u2 : zV} : zS 210 89 [zR a0, u1, u2, zI a3, zI a4] [zI s0, zR s1] sh pp mm Q ↔ zS 210 90 [zR a0, zU, zU, zI a3, zI a4] [zI 2, zI s0, zR s1] sh pp mm Q := s_go cM_edge_89 cM_edge_90 rfl rfl
theorem rM_edge_90 {a0 s2 : Nat} {a3 a4 s0 s1 : Int} {u1 u2 : zV} : zS 210 90 [zR a0, u1, u2, zI a3, zI a4] [zI s0, zI s1, zR s2] sh pp mm Q ↔ zS 210 91 [zR a0, zU, zU, zI a3, zI a4] [zI (zw32 (s1 + s0)), zR s2] sh pp mm Q := s_go cM_edge_90 cM_edge_91 rfl rfl
theorem rM_edge_91 {a0 s1 : Nat} {a3 a4 s0 : Int} {u1 u2 : zV} : zS 210 91 [zR a0, u1, u2, zI a3, zI a4] [zI s0, zR s1] sh pp mm Q ↔ zS 210 92 [zR a0, zU, zU, zU, zI a4] [zI a3, zI s0, zR s1] sh pp mm Q := s_go cM_edge_91 cM_edge_92 rfl rfl
theorem rM_edge_92 {a0 s2 : Nat} {a4 s0 s1 : Int} {u1 u2 u3 : zV} : zS 210 92 [zR a0, u1, u2, u3, zI a4] [zI s0, zI s1, zR s2] sh pp mm Q ↔ (s0 = 0 → zS 210 99 [zR a0, zU, zU, zU, zI a4] [zI s1, zR s2] sh pp mm Q) ∧ (¬ s0 = 0 → zS 210 95 [zR a0, zU, zU, zU, zI a4] [zI s1, zR s2] sh pp mm Q) := s_if cM_edge_92 cM_edge_99 cM_edge_95 rfl rfl rfl
theorem rM_edge_95 {a0 s1 : Nat} {a4 s0 : Int} {u1 u2 u3 : zV} : zS 210 95 [zR a0, u1, u2, u3, zI a4] [zI s0, zR s1] sh pp mm Q ↔ zS 210 96 [zR a0, zU, zU, zU, zI a4] [zI 1, zI s0, zR s1] sh pp mm Q := s_go cM_edge_95 cM_edge_96 rfl rfl
theorem rM_edge_96 {a0 s2 : Nat} {a4 s0 s1 : Int} {u1 u2 u3 : zV} : zS 210 96 [zR a0, u1, u2, u3, zI a4] [zI s0, zI s1, zR s2] sh pp mm Q ↔ zS 210 100 [zR a0, zU, zU, zU, zI a4] [zI s0, zI s1, zR s2] sh pp mm Q := s_go cM_edge_96 cM_edge_100 rfl rfl
theorem rM_edge_99 {a0 s1 : Nat} {a4 s0 : Int} {u1 u2 u3 : zV} : zS 210 99 [zR a0, u1, u2, u3, zI a4] [zI s0, zR s1] sh pp mm Q ↔ zS 210 100 [zR a0, zU, zU, zU, zI a4] [zI 0, zI s0, zR s1] sh pp mm Q := s_go cM_edge_99 cM_edge_100 rfl rfl
theorem rM_edge_100 {a0 s2 : Nat} {a4 s0 s1 : Int} {u1 u2 u3 : zV} (hk : zKd sh s2 = 20) (h0 : 0 ≤ s1) (h1 : s1 < zLn sh s2) : zS 210 100 [zR a0, u1, u2, u3, zI a4] [zI s0, zI s1, zR s2] sh pp mm Q ↔ zS 210 101 [zR a0, zU, zU, zU, zI a4] [] sh pp (zupd mm s2 s1 s0) Q := s_go cM_edge_100 cM_edge_101 (if_pos ⟨hk, h0, h1, fun h => absurd h (by decide)⟩) rfl
theorem rM_edge_101 {a0 : Nat} {a4 : Int} {u1 u2 u3 : zV} : zS 210 101 [zR a0, u1, u2, u3, zI a4] [] sh pp mm Q ↔ zS 210 102 [zU, zU, zU, zU, zI a4] [zR a0] sh pp mm Q := s_go cM_edge_101 cM_edge_102 rfl rfl
theorem rM_edge_102 {s0 : Nat} {a4 : Int} {u0 u1 u2 u3 : zV} (hk : zKd sh s0 = 12) : zS 210 102 [u0, u1, u2, u3, zI a4] [zR s0] sh pp mm Q ↔ zS 210 105 [zU, zU, zU, zU, zI a4] [zR (pp s0 0)] sh pp mm Q := s_go cM_edge_102 cM_edge_105 (if_pos hk) rfl
theorem rM_edge_105 {s0 : Nat} {a4 : Int} {u0 u1 u2 u3 : zV} : zS 210 105 [u0, u1, u2, u3, zI a4] [zR s0] sh pp mm Q ↔ zS 210 108 [zU, zU, zU, zU, zI a4] [zI 983, zR s0] sh pp mm Q := s_go cM_edge_105 cM_edge_108 rfl rfl
theorem rM_edge_108 {s1 : Nat} {a4 s0 : Int} {u0 u1 u2 u3 : zV} : zS 210 108 [u0, u1, u2, u3, zI a4] [zI s0, zR s1] sh pp mm Q ↔ zS 210 109 [zU, zU, zU, zU, zI a4] [zI s0, zR s1, zI s0, zR s1] sh pp mm Q := s_go cM_edge_108 cM_edge_109 rfl rfl
theorem rM_edge_109 {s1 s3 : Nat} {a4 s0 s2 : Int} {u0 u1 u2 u3 : zV} (hk : zKd sh s1 = 20 ∨ zKd sh s1 = 30) (h0 : 0 ≤ s0) (h1 : s0 < zLn sh s1) : zS 210 109 [u0, u1, u2, u3, zI a4] [zI s0, zR s1, zI s2, zR s3] sh pp mm Q ↔ zS 210 110 [zU, zU, zU, zU, zI a4] [zI (mm s1 s0), zI s2, zR s3] sh pp mm Q := s_go cM_edge_109 cM_edge_110 (if_pos ⟨hk, h0, h1⟩) rfl
theorem rM_edge_110 {s2 : Nat} {a4 s0 s1 : Int} {u0 u1 u2 u3 : zV} : zS 210 110 [u0, u1, u2, u3, zI a4] [zI s0, zI s1, zR s2] sh pp mm Q ↔ zS 210 111 [zU, zU, zU, zU, zI a4] [zI 1, zI s0, zI s1, zR s2] sh pp mm Q := s_go cM_edge_110 cM_edge_111 rfl rfl
theorem rM_edge_111 {s3 : Nat} {a4 s0 s1 s2 : Int} {u0 u1 u2 u3 : zV} : zS 210 111 [u0, u1, u2, u3, zI a4] [zI s0, zI s1, zI s2, zR s3] sh pp mm Q ↔ zS 210 112 [zU, zU, zU, zU, zI a4] [zI (zw32 (s1 + s0)), zI s2, zR s3] sh pp mm Q := s_go cM_edge_111 cM_edge_112 rfl rfl
theorem rM_edge_112 {s2 : Nat} {a4 s0 s1 : Int} {u0 u1 u2 u3 : zV} (hk : zKd sh s2 = 20) (h0 : 0 ≤ s1) (h1 : s1 < zLn sh s2) : zS 210 112 [u0, u1, u2, u3, zI a4] [zI s0, zI s1, zR s2] sh pp mm Q ↔ zS 210 113 [zU, zU, zU, zU, zI a4] [] sh pp (zupd mm s2 s1 s0) Q := s_go cM_edge_112 cM_edge_113 (if_pos ⟨hk, h0, h1, fun h => absurd h (by decide)⟩) rfl
theorem rM_edge_113 {a4 : Int} {u0 u1 u2 u3 : zV} : zS 210 113 [u0, u1, u2, u3, zI a4] [] sh pp mm Q ↔ zS 210 115 [zU, zU, zU, zU, zU] [zI a4] sh pp mm Q := s_go cM_edge_113 cM_edge_115 rfl rfl
theorem rM_edge_115 {s0 : Int} {u0 u1 u2 u3 u4 : zV} : zS 210 115 [u0, u1, u2, u3, u4] [zI s0] sh pp mm Q ↔ Q (zI s0) sh pp mm := s_ret cM_edge_115 rfl
theorem cAM_unnet : ∀ q ∈ zT211, zCode 211 q.1 = some q.2 := zAll (mid := 211) rfl (by decide +kernel)
theorem cAM_unnet_0 : ∀ q ∈ zT211_0, zCode 211 q.1 = some q.2 := fun q h => cAM_unnet q (h)
theorem cM_unnet_0 : zCode 211 0 = some (.aload_n 0, 1, 0, 0, 0, 0, 1) := cAM_unnet_0 _ (List.mem_of_getElem? (i := 0) rfl)
theorem cM_unnet_1 : zCode 211 1 = some (.iconst 2, 2, 0, 0, 0, 0, 1) := cAM_unnet_0 _ (List.mem_of_getElem? (i := 1) rfl)
theorem cM_unnet_2 : zCode 211 2 = some (.invokevirtual 288, 5, 169, 1, 2, 12, 1) := cAM_unnet_0 _ (List.mem_of_getElem? (i := 2) rfl)
theorem cM_unnet_5 : zCode 211 5 = some (.istore_n 1, 6, 0, 0, 0, 0, 1) := cAM_unnet_0 _ (List.mem_of_getElem? (i := 3) rfl)
theorem cM_unnet_6 : zCode 211 6 = some (.aload_n 0, 7, 0, 0, 0, 0, 3) := cAM_unnet_0 _ (List.mem_of_getElem? (i := 4) rfl)
theorem cM_unnet_7 : zCode 211 7 = some (.getfield 7, 10, 12, 0, 2, 1209, 3) := cAM_unnet_0 _ (List.mem_of_getElem? (i := 5) rfl)
theorem cM_unnet_10 : zCode 211 10 = some (.sipush 983, 13, 0, 0, 0, 0, 3) := cAM_unnet_0 _ (List.mem_of_getElem? (i := 6) rfl)
theorem cM_unnet_13 : zCode 211 13 = some (.iconst 0, 14, 0, 0, 0, 0, 3) := cAM_unnet_0 _ (List.mem_of_getElem? (i := 7) rfl)
theorem cM_unnet_14 : zCode 211 14 = some (.iastore, 15, 0, 0, 0, 0, 3) := cAM_unnet_0 _ (List.mem_of_getElem? (i := 8) rfl)
theorem cM_unnet_15 : zCode 211 15 = some (.aload_n 0, 16, 0, 0, 0, 0, 3) := cAM_unnet_0 _ (List.mem_of_getElem? (i := 9) rfl)
theorem cM_unnet_16 : zCode 211 16 = some (.getfield 7, 19, 12, 0, 2, 1209, 2) := cAM_unnet_0 _ (List.mem_of_getElem? (i := 10) rfl)
theorem cM_unnet_19 : zCode 211 19 = some (.sipush 982, 22, 0, 0, 0, 0, 2) := cAM_unnet_0 _ (List.mem_of_getElem? (i := 11) rfl)
theorem cM_unnet_22 : zCode 211 22 = some (.iconst 0, 23, 0, 0, 0, 0, 2) := cAM_unnet_0 _ (List.mem_of_getElem? (i := 12) rfl)
theorem cM_unnet_23 : zCode 211 23 = some (.iastore, 24, 0, 0, 0, 0, 2) := cAM_unnet_0 _ (List.mem_of_getElem? (i := 13) rfl)
theorem cM_unnet_24 : zCode 211 24 = some (.iload_n 1, 25, 0, 0, 0, 0, 2) := cAM_unnet_0 _ (List.mem_of_getElem? (i := 14) rfl)
theorem cM_unnet_25 : zCode 211 25 = some (.ireturn, 26, 0, 0, 0, 0, 0) := cAM_unnet_0 _ (List.mem_of_getElem? (i := 15) rfl)
theorem rM_unnet_0 {a0 : Nat} {u1 : zV} : zS 211 0 [zR a0, u1] [] sh pp mm Q ↔ zS 211 1 [zR a0, zU] [zR a0] sh pp mm Q := s_go cM_unnet_0 cM_unnet_1 rfl rfl
theorem rM_unnet_1 {a0 s0 : Nat} {u1 : zV} : zS 211 1 [zR a0, u1] [zR s0] sh pp mm Q ↔ zS 211 2 [zR a0, zU] [zI 2, zR s0] sh pp mm Q := s_go cM_unnet_1 cM_unnet_2 rfl rfl
theorem rM_unnet_2 {a0 s1 : Nat} {s0 : Int} {u1 : zV} (hk : zKd sh s1 = 12) : zS 211 2 [zR a0, u1] [zI s0, zR s1] sh pp mm Q ↔ zS 169 0 [zR s1, zI s0] [] sh pp mm (fun v sh pp mm => zS 211 5 [zR a0, zU] (zPush v []) sh pp mm Q) := s_call cM_unnet_2 cM_unnet_5 ((if_pos hk).trans rfl) rfl
theorem rM_unnet_5 {a0 : Nat} {s0 : Int} {u1 : zV} : zS 211 5 [zR a0, u1] [zI s0] sh pp mm Q ↔ zS 211 6 [zR a0, zI s0] [] sh pp mm Q := s_go cM_unnet_5 cM_unnet_6 rfl rfl
theorem rM_unnet_6 {a0 : Nat} {a1 : Int} : zS 211 6 [zR a0, zI a1] [] sh pp mm Q ↔ zS 211 7 [zR a0, zI a1] [zR a0] sh pp mm Q := s_go cM_unnet_6 cM_unnet_7 rfl rfl
theorem rM_unnet_7 {a0 s0 : Nat} {a1 : Int} (hk : zKd sh s0 = 12) : zS 211 7 [zR a0, zI a1] [zR s0] sh pp mm Q ↔ zS 211 10 [zR a0, zI a1] [zR (pp s0 0)] sh pp mm Q := s_go cM_unnet_7 cM_unnet_10 (if_pos hk) rfl
theorem rM_unnet_10 {a0 s0 : Nat} {a1 : Int} : zS 211 10 [zR a0, zI a1] [zR s0] sh pp mm Q ↔ zS 211 13 [zR a0, zI a1] [zI 983, zR s0] sh pp mm Q := s_go cM_unnet_10 cM_unnet_13 rfl rfl
theorem rM_unnet_13 {a0 s1 : Nat} {a1 s0 : Int} : zS 211 13 [zR a0, zI a1] [zI s0, zR s1] sh pp mm Q ↔ zS 211 14 [zR a0, zI a1] [zI 0, zI s0, zR s1] sh pp mm Q := s_go cM_unnet_13 cM_unnet_14 rfl rfl
theorem rM_unnet_14 {a0 s2 : Nat} {a1 s0 s1 : Int} (hk : zKd sh s2 = 20) (h0 : 0 ≤ s1) (h1 : s1 < zLn sh s2) : zS 211 14 [zR a0, zI a1] [zI s0, zI s1, zR s2] sh pp mm Q ↔ zS 211 15 [zR a0, zI a1] [] sh pp (zupd mm s2 s1 s0) Q := s_go cM_unnet_14 cM_unnet_15 (if_pos ⟨hk, h0, h1, fun h => absurd h (by decide)⟩) rfl
theorem rM_unnet_15 {a0 : Nat} {a1 : Int} : zS 211 15 [zR a0, zI a1] [] sh pp mm Q ↔ zS 211 16 [zU, zI a1] [zR a0] sh pp mm Q := s_go cM_unnet_15 cM_unnet_16 rfl rfl
theorem rM_unnet_16 {s0 : Nat} {a1 : Int} {u0 : zV} (hk : zKd sh s0 = 12) : zS 211 16 [u0, zI a1] [zR s0] sh pp mm Q ↔ zS 211 19 [zU, zI a1] [zR (pp s0 0)] sh pp mm Q := s_go cM_unnet_16 cM_unnet_19 (if_pos hk) rfl
theorem rM_unnet_19 {s0 : Nat} {a1 : Int} {u0 : zV} : zS 211 19 [u0, zI a1] [zR s0] sh pp mm Q ↔ zS 211 22 [zU, zI a1] [zI 982, zR s0] sh pp mm Q := s_go cM_unnet_19 cM_unnet_22 rfl rfl
theorem rM_unnet_22 {s1 : Nat} {a1 s0 : Int} {u0 : zV} : zS 211 22 [u0, zI a1] [zI s0, zR s1] sh pp mm Q ↔ zS 211 23 [zU, zI a1] [zI 0, zI s0, zR s1] sh pp mm Q := s_go cM_unnet_22 cM_unnet_23 rfl rfl
theorem rM_unnet_23 {s2 : Nat} {a1 s0 s1 : Int} {u0 : zV} (hk : zKd sh s2 = 20) (h0 : 0 ≤ s1) (h1 : s1 < zLn sh s2) : zS 211 23 [u0, zI a1] [zI s0, zI s1, zR s2] sh pp mm Q ↔ zS 211 24 [zU, zI a1] [] sh pp (zupd mm s2 s1 s0) Q := s_go cM_unnet_23 cM_unnet_24 (if_pos ⟨hk, h0, h1, fun h => absurd h (by decide)⟩) rfl
theorem rM_unnet_24 {a1 : Int} {u0 : zV} : zS 211 24 [u0, zI a1] [] sh pp mm Q ↔ zS 211 25 [zU, zU] [zI a1] sh pp mm Q := s_go cM_unnet_24 cM_unnet_25 rfl rfl
theorem rM_unnet_25 {s0 : Int} {u0 u1 : zV} : zS 211 25 [u0, u1] [zI s0] sh pp mm Q ↔ Q (zI s0) sh pp mm := s_ret cM_unnet_25 rfl
theorem cAM_endOf : ∀ q ∈ zT212, zCode 212 q.1 = some q.2 := zAll (mid := 212) rfl (by decide +kernel)
theorem cAM_endOf_0 : ∀ q ∈ zT212_0, zCode 212 q.1 = some q.2 := fun q h => cAM_endOf q (h)
theorem cM_endOf_0 : zCode 212 0 = some (.aload_n 0, 1, 0, 0, 0, 0, 7) := cAM_endOf_0 _ (List.mem_of_getElem? (i := 0) rfl)
theorem cM_endOf_1 : zCode 212 1 = some (.getfield 7, 4, 12, 0, 2, 1209, 6) := cAM_endOf_0 _ (List.mem_of_getElem? (i := 1) rfl)
theorem cM_endOf_4 : zCode 212 4 = some (.sipush 537, 7, 0, 0, 0, 0, 6) := cAM_endOf_0 _ (List.mem_of_getElem? (i := 2) rfl)
theorem cM_endOf_7 : zCode 212 7 = some (.iconst 3, 8, 0, 0, 0, 0, 6) := cAM_endOf_0 _ (List.mem_of_getElem? (i := 3) rfl)
theorem cM_endOf_8 : zCode 212 8 = some (.iload_n 1, 9, 0, 0, 0, 0, 6) := cAM_endOf_0 _ (List.mem_of_getElem? (i := 4) rfl)
theorem cM_endOf_9 : zCode 212 9 = some (.imul, 10, 0, 0, 0, 0, 4) := cAM_endOf_0 _ (List.mem_of_getElem? (i := 5) rfl)
theorem cM_endOf_10 : zCode 212 10 = some (.iadd, 11, 0, 0, 0, 0, 4) := cAM_endOf_0 _ (List.mem_of_getElem? (i := 6) rfl)
theorem cM_endOf_11 : zCode 212 11 = some (.iload_n 2, 12, 0, 0, 0, 0, 4) := cAM_endOf_0 _ (List.mem_of_getElem? (i := 7) rfl)
theorem cM_endOf_12 : zCode 212 12 = some (.iadd, 13, 0, 0, 0, 0, 0) := cAM_endOf_0 _ (List.mem_of_getElem? (i := 8) rfl)
theorem cM_endOf_13 : zCode 212 13 = some (.iaload, 14, 0, 0, 0, 0, 0) := cAM_endOf_0 _ (List.mem_of_getElem? (i := 9) rfl)
theorem cM_endOf_14 : zCode 212 14 = some (.ireturn, 15, 0, 0, 0, 0, 0) := cAM_endOf_0 _ (List.mem_of_getElem? (i := 10) rfl)
theorem rM_endOf_0 {a0 : Nat} {a1 a2 : Int} : zS 212 0 [zR a0, zI a1, zI a2] [] sh pp mm Q ↔ zS 212 1 [zU, zI a1, zI a2] [zR a0] sh pp mm Q := s_go cM_endOf_0 cM_endOf_1 rfl rfl
theorem rM_endOf_1 {s0 : Nat} {a1 a2 : Int} {u0 : zV} (hk : zKd sh s0 = 12) : zS 212 1 [u0, zI a1, zI a2] [zR s0] sh pp mm Q ↔ zS 212 4 [zU, zI a1, zI a2] [zR (pp s0 0)] sh pp mm Q := s_go cM_endOf_1 cM_endOf_4 (if_pos hk) rfl
theorem rM_endOf_4 {s0 : Nat} {a1 a2 : Int} {u0 : zV} : zS 212 4 [u0, zI a1, zI a2] [zR s0] sh pp mm Q ↔ zS 212 7 [zU, zI a1, zI a2] [zI 537, zR s0] sh pp mm Q := s_go cM_endOf_4 cM_endOf_7 rfl rfl
theorem rM_endOf_7 {s1 : Nat} {a1 a2 s0 : Int} {u0 : zV} : zS 212 7 [u0, zI a1, zI a2] [zI s0, zR s1] sh pp mm Q ↔ zS 212 8 [zU, zI a1, zI a2] [zI 3, zI s0, zR s1] sh pp mm Q := s_go cM_endOf_7 cM_endOf_8 rfl rfl
theorem rM_endOf_8 {s2 : Nat} {a1 a2 s0 s1 : Int} {u0 : zV} : zS 212 8 [u0, zI a1, zI a2] [zI s0, zI s1, zR s2] sh pp mm Q ↔ zS 212 9 [zU, zU, zI a2] [zI a1, zI s0, zI s1, zR s2] sh pp mm Q := s_go cM_endOf_8 cM_endOf_9 rfl rfl
theorem rM_endOf_9 {s3 : Nat} {a2 s0 s1 s2 : Int} {u0 u1 : zV} : zS 212 9 [u0, u1, zI a2] [zI s0, zI s1, zI s2, zR s3] sh pp mm Q ↔ zS 212 10 [zU, zU, zI a2] [zI (zw32 (s1 * s0)), zI s2, zR s3] sh pp mm Q := s_go cM_endOf_9 cM_endOf_10 rfl rfl
theorem rM_endOf_10 {s2 : Nat} {a2 s0 s1 : Int} {u0 u1 : zV} : zS 212 10 [u0, u1, zI a2] [zI s0, zI s1, zR s2] sh pp mm Q ↔ zS 212 11 [zU, zU, zI a2] [zI (zw32 (s1 + s0)), zR s2] sh pp mm Q := s_go cM_endOf_10 cM_endOf_11 rfl rfl
theorem rM_endOf_11 {s1 : Nat} {a2 s0 : Int} {u0 u1 : zV} : zS 212 11 [u0, u1, zI a2] [zI s0, zR s1] sh pp mm Q ↔ zS 212 12 [zU, zU, zU] [zI a2, zI s0, zR s1] sh pp mm Q := s_go cM_endOf_11 cM_endOf_12 rfl rfl
theorem rM_endOf_12 {s2 : Nat} {s0 s1 : Int} {u0 u1 u2 : zV} : zS 212 12 [u0, u1, u2] [zI s0, zI s1, zR s2] sh pp mm Q ↔ zS 212 13 [zU, zU, zU] [zI (zw32 (s1 + s0)), zR s2] sh pp mm Q := s_go cM_endOf_12 cM_endOf_13 rfl rfl
theorem rM_endOf_13 {s1 : Nat} {s0 : Int} {u0 u1 u2 : zV} (hk : zKd sh s1 = 20 ∨ zKd sh s1 = 30) (h0 : 0 ≤ s0) (h1 : s0 < zLn sh s1) : zS 212 13 [u0, u1, u2] [zI s0, zR s1] sh pp mm Q ↔ zS 212 14 [zU, zU, zU] [zI (mm s1 s0)] sh pp mm Q := s_go cM_endOf_13 cM_endOf_14 (if_pos ⟨hk, h0, h1⟩) rfl
theorem rM_endOf_14 {s0 : Int} {u0 u1 u2 : zV} : zS 212 14 [u0, u1, u2] [zI s0] sh pp mm Q ↔ Q (zI s0) sh pp mm := s_ret cM_endOf_14 rfl
theorem cAM_across : ∀ q ∈ zT213, zCode 213 q.1 = some q.2 := zAll (mid := 213) rfl (by decide +kernel)
theorem cAM_across_0 : ∀ q ∈ zT213_0, zCode 213 q.1 = some q.2 := fun q h => cAM_across q (List.mem_append_left _ h)
theorem cAM_across_1 : ∀ q ∈ zT213_1, zCode 213 q.1 = some q.2 := fun q h => cAM_across q (List.mem_append_right _ h)
theorem cM_across_0 : zCode 213 0 = some (.aload_n 0, 1, 0, 0, 0, 0, 7) := cAM_across_0 _ (List.mem_of_getElem? (i := 0) rfl)
theorem cM_across_1 : zCode 213 1 = some (.iload_n 1, 2, 0, 0, 0, 0, 7) := cAM_across_0 _ (List.mem_of_getElem? (i := 1) rfl)
theorem cM_across_2 : zCode 213 2 = some (.iconst 0, 3, 0, 0, 0, 0, 7) := cAM_across_0 _ (List.mem_of_getElem? (i := 2) rfl)
theorem cM_across_3 : zCode 213 3 = some (.invokevirtual 294, 6, 212, 2, 3, 12, 7) := cAM_across_0 _ (List.mem_of_getElem? (i := 3) rfl)
theorem cM_across_6 : zCode 213 6 = some (.iload_n 2, 7, 0, 0, 0, 0, 7) := cAM_across_0 _ (List.mem_of_getElem? (i := 4) rfl)
theorem cM_across_7 : zCode 213 7 = some (.if_icmp .ne 12, 10, 19, 0, 0, 0, 7) := cAM_across_0 _ (List.mem_of_getElem? (i := 5) rfl)
theorem cM_across_10 : zCode 213 10 = some (.aload_n 0, 11, 0, 0, 0, 0, 3) := cAM_across_0 _ (List.mem_of_getElem? (i := 6) rfl)
theorem cM_across_11 : zCode 213 11 = some (.iload_n 1, 12, 0, 0, 0, 0, 2) := cAM_across_0 _ (List.mem_of_getElem? (i := 7) rfl)
theorem cM_across_12 : zCode 213 12 = some (.iconst 1, 13, 0, 0, 0, 0, 0) := cAM_across_0 _ (List.mem_of_getElem? (i := 8) rfl)
theorem cM_across_13 : zCode 213 13 = some (.invokevirtual 294, 16, 212, 2, 3, 12, 0) := cAM_across_0 _ (List.mem_of_getElem? (i := 9) rfl)
theorem cM_across_16 : zCode 213 16 = some (.goto 23, 19, 39, 0, 0, 0, 0) := cAM_across_0 _ (List.mem_of_getElem? (i := 10) rfl)
theorem cM_across_19 : zCode 213 19 = some (.aload_n 0, 20, 0, 0, 0, 0, 7) := cAM_across_0 _ (List.mem_of_getElem? (i := 11) rfl)
theorem cM_across_20 : zCode 213 20 = some (.iload_n 1, 21, 0, 0, 0, 0, 7) := cAM_across_0 _ (List.mem_of_getElem? (i := 12) rfl)
theorem cM_across_21 : zCode 213 21 = some (.iconst 1, 22, 0, 0, 0, 0, 7) := cAM_across_0 _ (List.mem_of_getElem? (i := 13) rfl)
theorem cM_across_22 : zCode 213 22 = some (.invokevirtual 294, 25, 212, 2, 3, 12, 7) := cAM_across_0 _ (List.mem_of_getElem? (i := 14) rfl)
theorem cM_across_25 : zCode 213 25 = some (.iload_n 2, 26, 0, 0, 0, 0, 7) := cAM_across_0 _ (List.mem_of_getElem? (i := 15) rfl)
theorem cM_across_26 : zCode 213 26 = some (.if_icmp .ne 12, 29, 38, 0, 0, 0, 3) := cAM_across_1 _ (List.mem_of_getElem? (i := 0) rfl)
theorem cM_across_29 : zCode 213 29 = some (.aload_n 0, 30, 0, 0, 0, 0, 3) := cAM_across_1 _ (List.mem_of_getElem? (i := 1) rfl)
theorem cM_across_30 : zCode 213 30 = some (.iload_n 1, 31, 0, 0, 0, 0, 2) := cAM_across_1 _ (List.mem_of_getElem? (i := 2) rfl)
theorem cM_across_31 : zCode 213 31 = some (.iconst 0, 32, 0, 0, 0, 0, 0) := cAM_across_1 _ (List.mem_of_getElem? (i := 3) rfl)
theorem cM_across_32 : zCode 213 32 = some (.invokevirtual 294, 35, 212, 2, 3, 12, 0) := cAM_across_1 _ (List.mem_of_getElem? (i := 4) rfl)
theorem cM_across_35 : zCode 213 35 = some (.goto 4, 38, 39, 0, 0, 0, 0) := cAM_across_1 _ (List.mem_of_getElem? (i := 5) rfl)
theorem cM_across_38 : zCode 213 38 = some (.iconst (-1), 39, 0, 0, 0, 0, 0) := cAM_across_1 _ (List.mem_of_getElem? (i := 6) rfl)
theorem cM_across_39 : zCode 213 39 = some (.ireturn, 40, 0, 0, 0, 0, 0) := cAM_across_1 _ (List.mem_of_getElem? (i := 7) rfl)
theorem rM_across_0 {a0 : Nat} {a1 a2 : Int} : zS 213 0 [zR a0, zI a1, zI a2] [] sh pp mm Q ↔ zS 213 1 [zR a0, zI a1, zI a2] [zR a0] sh pp mm Q := s_go cM_across_0 cM_across_1 rfl rfl
theorem rM_across_1 {a0 s0 : Nat} {a1 a2 : Int} : zS 213 1 [zR a0, zI a1, zI a2] [zR s0] sh pp mm Q ↔ zS 213 2 [zR a0, zI a1, zI a2] [zI a1, zR s0] sh pp mm Q := s_go cM_across_1 cM_across_2 rfl rfl
theorem rM_across_2 {a0 s1 : Nat} {a1 a2 s0 : Int} : zS 213 2 [zR a0, zI a1, zI a2] [zI s0, zR s1] sh pp mm Q ↔ zS 213 3 [zR a0, zI a1, zI a2] [zI 0, zI s0, zR s1] sh pp mm Q := s_go cM_across_2 cM_across_3 rfl rfl
theorem rM_across_3 {a0 s2 : Nat} {a1 a2 s0 s1 : Int} (hk : zKd sh s2 = 12) : zS 213 3 [zR a0, zI a1, zI a2] [zI s0, zI s1, zR s2] sh pp mm Q ↔ zS 212 0 [zR s2, zI s1, zI s0] [] sh pp mm (fun v sh pp mm => zS 213 6 [zR a0, zI a1, zI a2] (zPush v []) sh pp mm Q) := s_call cM_across_3 cM_across_6 ((if_pos hk).trans rfl) rfl
theorem rM_across_6 {a0 : Nat} {a1 a2 s0 : Int} : zS 213 6 [zR a0, zI a1, zI a2] [zI s0] sh pp mm Q ↔ zS 213 7 [zR a0, zI a1, zI a2] [zI a2, zI s0] sh pp mm Q := s_go cM_across_6 cM_across_7 rfl rfl
theorem rM_across_7 {a0 : Nat} {a1 a2 s0 s1 : Int} : zS 213 7 [zR a0, zI a1, zI a2] [zI s0, zI s1] sh pp mm Q ↔ (s1 = s0 → zS 213 10 [zR a0, zI a1, zU] [] sh pp mm Q) ∧ (¬ s1 = s0 → zS 213 19 [zR a0, zI a1, zI a2] [] sh pp mm Q) := s_ifn cM_across_7 cM_across_10 cM_across_19 rfl rfl rfl
theorem rM_across_10 {a0 : Nat} {a1 : Int} {u2 : zV} : zS 213 10 [zR a0, zI a1, u2] [] sh pp mm Q ↔ zS 213 11 [zU, zI a1, zU] [zR a0] sh pp mm Q := s_go cM_across_10 cM_across_11 rfl rfl
theorem rM_across_11 {s0 : Nat} {a1 : Int} {u0 u2 : zV} : zS 213 11 [u0, zI a1, u2] [zR s0] sh pp mm Q ↔ zS 213 12 [zU, zU, zU] [zI a1, zR s0] sh pp mm Q := s_go cM_across_11 cM_across_12 rfl rfl
theorem rM_across_12 {s1 : Nat} {s0 : Int} {u0 u1 u2 : zV} : zS 213 12 [u0, u1, u2] [zI s0, zR s1] sh pp mm Q ↔ zS 213 13 [zU, zU, zU] [zI 1, zI s0, zR s1] sh pp mm Q := s_go cM_across_12 cM_across_13 rfl rfl
theorem rM_across_13 {s2 : Nat} {s0 s1 : Int} {u0 u1 u2 : zV} (hk : zKd sh s2 = 12) : zS 213 13 [u0, u1, u2] [zI s0, zI s1, zR s2] sh pp mm Q ↔ zS 212 0 [zR s2, zI s1, zI s0] [] sh pp mm (fun v sh pp mm => zS 213 16 [zU, zU, zU] (zPush v []) sh pp mm Q) := s_call cM_across_13 cM_across_16 ((if_pos hk).trans rfl) rfl
theorem rM_across_16 {s0 : Int} {u0 u1 u2 : zV} : zS 213 16 [u0, u1, u2] [zI s0] sh pp mm Q ↔ zS 213 39 [zU, zU, zU] [zI s0] sh pp mm Q := s_go cM_across_16 cM_across_39 rfl rfl
theorem rM_across_19 {a0 : Nat} {a1 a2 : Int} : zS 213 19 [zR a0, zI a1, zI a2] [] sh pp mm Q ↔ zS 213 20 [zR a0, zI a1, zI a2] [zR a0] sh pp mm Q := s_go cM_across_19 cM_across_20 rfl rfl
theorem rM_across_20 {a0 s0 : Nat} {a1 a2 : Int} : zS 213 20 [zR a0, zI a1, zI a2] [zR s0] sh pp mm Q ↔ zS 213 21 [zR a0, zI a1, zI a2] [zI a1, zR s0] sh pp mm Q := s_go cM_across_20 cM_across_21 rfl rfl
theorem rM_across_21 {a0 s1 : Nat} {a1 a2 s0 : Int} : zS 213 21 [zR a0, zI a1, zI a2] [zI s0, zR s1] sh pp mm Q ↔ zS 213 22 [zR a0, zI a1, zI a2] [zI 1, zI s0, zR s1] sh pp mm Q := s_go cM_across_21 cM_across_22 rfl rfl
theorem rM_across_22 {a0 s2 : Nat} {a1 a2 s0 s1 : Int} (hk : zKd sh s2 = 12) : zS 213 22 [zR a0, zI a1, zI a2] [zI s0, zI s1, zR s2] sh pp mm Q ↔ zS 212 0 [zR s2, zI s1, zI s0] [] sh pp mm (fun v sh pp mm => zS 213 25 [zR a0, zI a1, zI a2] (zPush v []) sh pp mm Q) := s_call cM_across_22 cM_across_25 ((if_pos hk).trans rfl) rfl
theorem rM_across_25 {a0 : Nat} {a1 a2 s0 : Int} : zS 213 25 [zR a0, zI a1, zI a2] [zI s0] sh pp mm Q ↔ zS 213 26 [zR a0, zI a1, zU] [zI a2, zI s0] sh pp mm Q := s_go cM_across_25 cM_across_26 rfl rfl
theorem rM_across_26 {a0 : Nat} {a1 s0 s1 : Int} {u2 : zV} : zS 213 26 [zR a0, zI a1, u2] [zI s0, zI s1] sh pp mm Q ↔ (s1 = s0 → zS 213 29 [zR a0, zI a1, zU] [] sh pp mm Q) ∧ (¬ s1 = s0 → zS 213 38 [zU, zU, zU] [] sh pp mm Q) := s_ifn cM_across_26 cM_across_29 cM_across_38 rfl rfl rfl
theorem rM_across_29 {a0 : Nat} {a1 : Int} {u2 : zV} : zS 213 29 [zR a0, zI a1, u2] [] sh pp mm Q ↔ zS 213 30 [zU, zI a1, zU] [zR a0] sh pp mm Q := s_go cM_across_29 cM_across_30 rfl rfl
theorem rM_across_30 {s0 : Nat} {a1 : Int} {u0 u2 : zV} : zS 213 30 [u0, zI a1, u2] [zR s0] sh pp mm Q ↔ zS 213 31 [zU, zU, zU] [zI a1, zR s0] sh pp mm Q := s_go cM_across_30 cM_across_31 rfl rfl
theorem rM_across_31 {s1 : Nat} {s0 : Int} {u0 u1 u2 : zV} : zS 213 31 [u0, u1, u2] [zI s0, zR s1] sh pp mm Q ↔ zS 213 32 [zU, zU, zU] [zI 0, zI s0, zR s1] sh pp mm Q := s_go cM_across_31 cM_across_32 rfl rfl
theorem rM_across_32 {s2 : Nat} {s0 s1 : Int} {u0 u1 u2 : zV} (hk : zKd sh s2 = 12) : zS 213 32 [u0, u1, u2] [zI s0, zI s1, zR s2] sh pp mm Q ↔ zS 212 0 [zR s2, zI s1, zI s0] [] sh pp mm (fun v sh pp mm => zS 213 35 [zU, zU, zU] (zPush v []) sh pp mm Q) := s_call cM_across_32 cM_across_35 ((if_pos hk).trans rfl) rfl
theorem rM_across_35 {s0 : Int} {u0 u1 u2 : zV} : zS 213 35 [u0, u1, u2] [zI s0] sh pp mm Q ↔ zS 213 39 [zU, zU, zU] [zI s0] sh pp mm Q := s_go cM_across_35 cM_across_39 rfl rfl
theorem rM_across_38 {u0 u1 u2 : zV} : zS 213 38 [u0, u1, u2] [] sh pp mm Q ↔ zS 213 39 [zU, zU, zU] [zI (-1)] sh pp mm Q := s_go cM_across_38 cM_across_39 rfl rfl
theorem rM_across_39 {s0 : Int} {u0 u1 u2 : zV} : zS 213 39 [u0, u1, u2] [zI s0] sh pp mm Q ↔ Q (zI s0) sh pp mm := s_ret cM_across_39 rfl
theorem cAM_oddOf : ∀ q ∈ zT214, zCode 214 q.1 = some q.2 := zAll (mid := 214) rfl (by decide +kernel)
theorem cAM_oddOf_0 : ∀ q ∈ zT214_0, zCode 214 q.1 = some q.2 := fun q h => cAM_oddOf q (List.mem_append_left _ h)
theorem cAM_oddOf_1 : ∀ q ∈ zT214_1, zCode 214 q.1 = some q.2 := fun q h => cAM_oddOf q (List.mem_append_right _ (List.mem_append_left _ h))
theorem cAM_oddOf_2 : ∀ q ∈ zT214_2, zCode 214 q.1 = some q.2 := fun q h => cAM_oddOf q (List.mem_append_right _ (List.mem_append_right _ h))
theorem cM_oddOf_0 : zCode 214 0 = some (.iconst 0, 1, 0, 0, 0, 0, 3) := cAM_oddOf_0 _ (List.mem_of_getElem? (i := 0) rfl)
theorem cM_oddOf_1 : zCode 214 1 = some (.istore_n 2, 2, 0, 0, 0, 0, 3) := cAM_oddOf_0 _ (List.mem_of_getElem? (i := 1) rfl)
theorem cM_oddOf_2 : zCode 214 2 = some (.iconst 0, 3, 0, 0, 0, 0, 7) := cAM_oddOf_0 _ (List.mem_of_getElem? (i := 2) rfl)
theorem cM_oddOf_3 : zCode 214 3 = some (.istore_n 3, 4, 0, 0, 0, 0, 7) := cAM_oddOf_0 _ (List.mem_of_getElem? (i := 3) rfl)
theorem cM_oddOf_4 : zCode 214 4 = some (.iload_n 3, 5, 0, 0, 0, 0, 15) := cAM_oddOf_0 _ (List.mem_of_getElem? (i := 4) rfl)
theorem cM_oddOf_5 : zCode 214 5 = some (.aload_n 0, 6, 0, 0, 0, 0, 15) := cAM_oddOf_0 _ (List.mem_of_getElem? (i := 5) rfl)
theorem cM_oddOf_6 : zCode 214 6 = some (.iconst 2, 7, 0, 0, 0, 0, 15) := cAM_oddOf_0 _ (List.mem_of_getElem? (i := 6) rfl)
theorem cM_oddOf_7 : zCode 214 7 = some (.invokevirtual 288, 10, 169, 1, 2, 12, 15) := cAM_oddOf_0 _ (List.mem_of_getElem? (i := 7) rfl)
theorem cM_oddOf_10 : zCode 214 10 = some (.if_icmp .ge 42, 13, 52, 0, 0, 0, 15) := cAM_oddOf_0 _ (List.mem_of_getElem? (i := 8) rfl)
theorem cM_oddOf_13 : zCode 214 13 = some (.iload_n 2, 14, 0, 0, 0, 0, 15) := cAM_oddOf_0 _ (List.mem_of_getElem? (i := 9) rfl)
theorem cM_oddOf_14 : zCode 214 14 = some (.iload_n 1, 15, 0, 0, 0, 0, 11) := cAM_oddOf_0 _ (List.mem_of_getElem? (i := 10) rfl)
theorem cM_oddOf_15 : zCode 214 15 = some (.iload_n 3, 16, 0, 0, 0, 0, 11) := cAM_oddOf_0 _ (List.mem_of_getElem? (i := 11) rfl)
theorem cM_oddOf_16 : zCode 214 16 = some (.ishr, 17, 0, 0, 0, 0, 11) := cAM_oddOf_0 _ (List.mem_of_getElem? (i := 12) rfl)
theorem cM_oddOf_17 : zCode 214 17 = some (.iconst 1, 18, 0, 0, 0, 0, 11) := cAM_oddOf_0 _ (List.mem_of_getElem? (i := 13) rfl)
theorem cM_oddOf_18 : zCode 214 18 = some (.iand, 19, 0, 0, 0, 0, 11) := cAM_oddOf_0 _ (List.mem_of_getElem? (i := 14) rfl)
theorem cM_oddOf_19 : zCode 214 19 = some (.iconst 1, 20, 0, 0, 0, 0, 11) := cAM_oddOf_0 _ (List.mem_of_getElem? (i := 15) rfl)
theorem cM_oddOf_20 : zCode 214 20 = some (.if_icmp .ne 23, 23, 43, 0, 0, 0, 11) := cAM_oddOf_1 _ (List.mem_of_getElem? (i := 0) rfl)
theorem cM_oddOf_23 : zCode 214 23 = some (.iconst 1, 24, 0, 0, 0, 0, 11) := cAM_oddOf_1 _ (List.mem_of_getElem? (i := 1) rfl)
theorem cM_oddOf_24 : zCode 214 24 = some (.aload_n 0, 25, 0, 0, 0, 0, 11) := cAM_oddOf_1 _ (List.mem_of_getElem? (i := 2) rfl)
theorem cM_oddOf_25 : zCode 214 25 = some (.iload_n 3, 26, 0, 0, 0, 0, 11) := cAM_oddOf_1 _ (List.mem_of_getElem? (i := 3) rfl)
theorem cM_oddOf_26 : zCode 214 26 = some (.iconst 0, 27, 0, 0, 0, 0, 11) := cAM_oddOf_1 _ (List.mem_of_getElem? (i := 4) rfl)
theorem cM_oddOf_27 : zCode 214 27 = some (.invokevirtual 294, 30, 212, 2, 3, 12, 11) := cAM_oddOf_1 _ (List.mem_of_getElem? (i := 5) rfl)
theorem cM_oddOf_30 : zCode 214 30 = some (.ishl, 31, 0, 0, 0, 0, 11) := cAM_oddOf_1 _ (List.mem_of_getElem? (i := 6) rfl)
theorem cM_oddOf_31 : zCode 214 31 = some (.iconst 1, 32, 0, 0, 0, 0, 11) := cAM_oddOf_1 _ (List.mem_of_getElem? (i := 7) rfl)
theorem cM_oddOf_32 : zCode 214 32 = some (.aload_n 0, 33, 0, 0, 0, 0, 11) := cAM_oddOf_1 _ (List.mem_of_getElem? (i := 8) rfl)
theorem cM_oddOf_33 : zCode 214 33 = some (.iload_n 3, 34, 0, 0, 0, 0, 11) := cAM_oddOf_1 _ (List.mem_of_getElem? (i := 9) rfl)
theorem cM_oddOf_34 : zCode 214 34 = some (.iconst 1, 35, 0, 0, 0, 0, 11) := cAM_oddOf_1 _ (List.mem_of_getElem? (i := 10) rfl)
theorem cM_oddOf_35 : zCode 214 35 = some (.invokevirtual 294, 38, 212, 2, 3, 12, 11) := cAM_oddOf_1 _ (List.mem_of_getElem? (i := 11) rfl)
theorem cM_oddOf_38 : zCode 214 38 = some (.ishl, 39, 0, 0, 0, 0, 11) := cAM_oddOf_1 _ (List.mem_of_getElem? (i := 12) rfl)
theorem cM_oddOf_39 : zCode 214 39 = some (.ixor, 40, 0, 0, 0, 0, 11) := cAM_oddOf_1 _ (List.mem_of_getElem? (i := 13) rfl)
theorem cM_oddOf_40 : zCode 214 40 = some (.goto 4, 43, 44, 0, 0, 0, 11) := cAM_oddOf_1 _ (List.mem_of_getElem? (i := 14) rfl)
theorem cM_oddOf_43 : zCode 214 43 = some (.iconst 0, 44, 0, 0, 0, 0, 11) := cAM_oddOf_1 _ (List.mem_of_getElem? (i := 15) rfl)
theorem cM_oddOf_44 : zCode 214 44 = some (.ixor, 45, 0, 0, 0, 0, 11) := cAM_oddOf_2 _ (List.mem_of_getElem? (i := 0) rfl)
theorem cM_oddOf_45 : zCode 214 45 = some (.istore_n 2, 46, 0, 0, 0, 0, 11) := cAM_oddOf_2 _ (List.mem_of_getElem? (i := 1) rfl)
theorem cM_oddOf_46 : zCode 214 46 = some (.iinc 3 1, 49, 0, 0, 0, 0, 15) := cAM_oddOf_2 _ (List.mem_of_getElem? (i := 2) rfl)
theorem cM_oddOf_49 : zCode 214 49 = some (.goto (-45), 52, 4, 0, 0, 0, 15) := cAM_oddOf_2 _ (List.mem_of_getElem? (i := 3) rfl)
theorem cM_oddOf_52 : zCode 214 52 = some (.iload_n 2, 53, 0, 0, 0, 0, 4) := cAM_oddOf_2 _ (List.mem_of_getElem? (i := 4) rfl)
theorem cM_oddOf_53 : zCode 214 53 = some (.ireturn, 54, 0, 0, 0, 0, 0) := cAM_oddOf_2 _ (List.mem_of_getElem? (i := 5) rfl)
theorem rM_oddOf_0 {a0 : Nat} {a1 : Int} {u2 u3 : zV} : zS 214 0 [zR a0, zI a1, u2, u3] [] sh pp mm Q ↔ zS 214 1 [zR a0, zI a1, zU, zU] [zI 0] sh pp mm Q := s_go cM_oddOf_0 cM_oddOf_1 rfl rfl
theorem rM_oddOf_1 {a0 : Nat} {a1 s0 : Int} {u2 u3 : zV} : zS 214 1 [zR a0, zI a1, u2, u3] [zI s0] sh pp mm Q ↔ zS 214 2 [zR a0, zI a1, zI s0, zU] [] sh pp mm Q := s_go cM_oddOf_1 cM_oddOf_2 rfl rfl
theorem rM_oddOf_2 {a0 : Nat} {a1 a2 : Int} {u3 : zV} : zS 214 2 [zR a0, zI a1, zI a2, u3] [] sh pp mm Q ↔ zS 214 3 [zR a0, zI a1, zI a2, zU] [zI 0] sh pp mm Q := s_go cM_oddOf_2 cM_oddOf_3 rfl rfl
theorem rM_oddOf_3 {a0 : Nat} {a1 a2 s0 : Int} {u3 : zV} : zS 214 3 [zR a0, zI a1, zI a2, u3] [zI s0] sh pp mm Q ↔ zS 214 4 [zR a0, zI a1, zI a2, zI s0] [] sh pp mm Q := s_go cM_oddOf_3 cM_oddOf_4 rfl rfl
theorem rM_oddOf_4 {a0 : Nat} {a1 a2 a3 : Int} : zS 214 4 [zR a0, zI a1, zI a2, zI a3] [] sh pp mm Q ↔ zS 214 5 [zR a0, zI a1, zI a2, zI a3] [zI a3] sh pp mm Q := s_go cM_oddOf_4 cM_oddOf_5 rfl rfl
theorem rM_oddOf_5 {a0 : Nat} {a1 a2 a3 s0 : Int} : zS 214 5 [zR a0, zI a1, zI a2, zI a3] [zI s0] sh pp mm Q ↔ zS 214 6 [zR a0, zI a1, zI a2, zI a3] [zR a0, zI s0] sh pp mm Q := s_go cM_oddOf_5 cM_oddOf_6 rfl rfl
theorem rM_oddOf_6 {a0 s0 : Nat} {a1 a2 a3 s1 : Int} : zS 214 6 [zR a0, zI a1, zI a2, zI a3] [zR s0, zI s1] sh pp mm Q ↔ zS 214 7 [zR a0, zI a1, zI a2, zI a3] [zI 2, zR s0, zI s1] sh pp mm Q := s_go cM_oddOf_6 cM_oddOf_7 rfl rfl
theorem rM_oddOf_7 {a0 s1 : Nat} {a1 a2 a3 s0 s2 : Int} (hk : zKd sh s1 = 12) : zS 214 7 [zR a0, zI a1, zI a2, zI a3] [zI s0, zR s1, zI s2] sh pp mm Q ↔ zS 169 0 [zR s1, zI s0] [] sh pp mm (fun v sh pp mm => zS 214 10 [zR a0, zI a1, zI a2, zI a3] (zPush v [zI s2]) sh pp mm Q) := s_call cM_oddOf_7 cM_oddOf_10 ((if_pos hk).trans rfl) rfl
theorem rM_oddOf_10 {a0 : Nat} {a1 a2 a3 s0 s1 : Int} : zS 214 10 [zR a0, zI a1, zI a2, zI a3] [zI s0, zI s1] sh pp mm Q ↔ (s1 < s0 → zS 214 13 [zR a0, zI a1, zI a2, zI a3] [] sh pp mm Q) ∧ (¬ s1 < s0 → zS 214 52 [zU, zU, zI a2, zU] [] sh pp mm Q) := s_ifn cM_oddOf_10 cM_oddOf_13 cM_oddOf_52 rfl rfl rfl
theorem rM_oddOf_13 {a0 : Nat} {a1 a2 a3 : Int} : zS 214 13 [zR a0, zI a1, zI a2, zI a3] [] sh pp mm Q ↔ zS 214 14 [zR a0, zI a1, zU, zI a3] [zI a2] sh pp mm Q := s_go cM_oddOf_13 cM_oddOf_14 rfl rfl
theorem rM_oddOf_14 {a0 : Nat} {a1 a3 s0 : Int} {u2 : zV} : zS 214 14 [zR a0, zI a1, u2, zI a3] [zI s0] sh pp mm Q ↔ zS 214 15 [zR a0, zI a1, zU, zI a3] [zI a1, zI s0] sh pp mm Q := s_go cM_oddOf_14 cM_oddOf_15 rfl rfl
theorem rM_oddOf_15 {a0 : Nat} {a1 a3 s0 s1 : Int} {u2 : zV} : zS 214 15 [zR a0, zI a1, u2, zI a3] [zI s0, zI s1] sh pp mm Q ↔ zS 214 16 [zR a0, zI a1, zU, zI a3] [zI a3, zI s0, zI s1] sh pp mm Q := s_go cM_oddOf_15 cM_oddOf_16 rfl rfl
theorem rM_oddOf_16 {a0 : Nat} {a1 a3 s0 s1 s2 : Int} {u2 : zV} : zS 214 16 [zR a0, zI a1, u2, zI a3] [zI s0, zI s1, zI s2] sh pp mm Q ↔ zS 214 17 [zR a0, zI a1, zU, zI a3] [zI (zshr s1 s0), zI s2] sh pp mm Q := s_go cM_oddOf_16 cM_oddOf_17 rfl rfl
theorem rM_oddOf_17 {a0 : Nat} {a1 a3 s0 s1 : Int} {u2 : zV} : zS 214 17 [zR a0, zI a1, u2, zI a3] [zI s0, zI s1] sh pp mm Q ↔ zS 214 18 [zR a0, zI a1, zU, zI a3] [zI 1, zI s0, zI s1] sh pp mm Q := s_go cM_oddOf_17 cM_oddOf_18 rfl rfl
theorem rM_oddOf_18 {a0 : Nat} {a1 a3 s0 s1 s2 : Int} {u2 : zV} : zS 214 18 [zR a0, zI a1, u2, zI a3] [zI s0, zI s1, zI s2] sh pp mm Q ↔ zS 214 19 [zR a0, zI a1, zU, zI a3] [zI (zand s1 s0), zI s2] sh pp mm Q := s_go cM_oddOf_18 cM_oddOf_19 rfl rfl
theorem rM_oddOf_19 {a0 : Nat} {a1 a3 s0 s1 : Int} {u2 : zV} : zS 214 19 [zR a0, zI a1, u2, zI a3] [zI s0, zI s1] sh pp mm Q ↔ zS 214 20 [zR a0, zI a1, zU, zI a3] [zI 1, zI s0, zI s1] sh pp mm Q := s_go cM_oddOf_19 cM_oddOf_20 rfl rfl
theorem rM_oddOf_20 {a0 : Nat} {a1 a3 s0 s1 s2 : Int} {u2 : zV} : zS 214 20 [zR a0, zI a1, u2, zI a3] [zI s0, zI s1, zI s2] sh pp mm Q ↔ (s1 = s0 → zS 214 23 [zR a0, zI a1, zU, zI a3] [zI s2] sh pp mm Q) ∧ (¬ s1 = s0 → zS 214 43 [zR a0, zI a1, zU, zI a3] [zI s2] sh pp mm Q) := s_ifn cM_oddOf_20 cM_oddOf_23 cM_oddOf_43 rfl rfl rfl
theorem rM_oddOf_23 {a0 : Nat} {a1 a3 s0 : Int} {u2 : zV} : zS 214 23 [zR a0, zI a1, u2, zI a3] [zI s0] sh pp mm Q ↔ zS 214 24 [zR a0, zI a1, zU, zI a3] [zI 1, zI s0] sh pp mm Q := s_go cM_oddOf_23 cM_oddOf_24 rfl rfl
theorem rM_oddOf_24 {a0 : Nat} {a1 a3 s0 s1 : Int} {u2 : zV} : zS 214 24 [zR a0, zI a1, u2, zI a3] [zI s0, zI s1] sh pp mm Q ↔ zS 214 25 [zR a0, zI a1, zU, zI a3] [zR a0, zI s0, zI s1] sh pp mm Q := s_go cM_oddOf_24 cM_oddOf_25 rfl rfl
theorem rM_oddOf_25 {a0 s0 : Nat} {a1 a3 s1 s2 : Int} {u2 : zV} : zS 214 25 [zR a0, zI a1, u2, zI a3] [zR s0, zI s1, zI s2] sh pp mm Q ↔ zS 214 26 [zR a0, zI a1, zU, zI a3] [zI a3, zR s0, zI s1, zI s2] sh pp mm Q := s_go cM_oddOf_25 cM_oddOf_26 rfl rfl
theorem rM_oddOf_26 {a0 s1 : Nat} {a1 a3 s0 s2 s3 : Int} {u2 : zV} : zS 214 26 [zR a0, zI a1, u2, zI a3] [zI s0, zR s1, zI s2, zI s3] sh pp mm Q ↔ zS 214 27 [zR a0, zI a1, zU, zI a3] [zI 0, zI s0, zR s1, zI s2, zI s3] sh pp mm Q := s_go cM_oddOf_26 cM_oddOf_27 rfl rfl
theorem rM_oddOf_27 {a0 s2 : Nat} {a1 a3 s0 s1 s3 s4 : Int} {u2 : zV} (hk : zKd sh s2 = 12) : zS 214 27 [zR a0, zI a1, u2, zI a3] [zI s0, zI s1, zR s2, zI s3, zI s4] sh pp mm Q ↔ zS 212 0 [zR s2, zI s1, zI s0] [] sh pp mm (fun v sh pp mm => zS 214 30 [zR a0, zI a1, zU, zI a3] (zPush v [zI s3, zI s4]) sh pp mm Q) := s_call cM_oddOf_27 cM_oddOf_30 ((if_pos hk).trans rfl) rfl
theorem rM_oddOf_30 {a0 : Nat} {a1 a3 s0 s1 s2 : Int} {u2 : zV} : zS 214 30 [zR a0, zI a1, u2, zI a3] [zI s0, zI s1, zI s2] sh pp mm Q ↔ zS 214 31 [zR a0, zI a1, zU, zI a3] [zI (zshl s1 s0), zI s2] sh pp mm Q := s_go cM_oddOf_30 cM_oddOf_31 rfl rfl
theorem rM_oddOf_31 {a0 : Nat} {a1 a3 s0 s1 : Int} {u2 : zV} : zS 214 31 [zR a0, zI a1, u2, zI a3] [zI s0, zI s1] sh pp mm Q ↔ zS 214 32 [zR a0, zI a1, zU, zI a3] [zI 1, zI s0, zI s1] sh pp mm Q := s_go cM_oddOf_31 cM_oddOf_32 rfl rfl
theorem rM_oddOf_32 {a0 : Nat} {a1 a3 s0 s1 s2 : Int} {u2 : zV} : zS 214 32 [zR a0, zI a1, u2, zI a3] [zI s0, zI s1, zI s2] sh pp mm Q ↔ zS 214 33 [zR a0, zI a1, zU, zI a3] [zR a0, zI s0, zI s1, zI s2] sh pp mm Q := s_go cM_oddOf_32 cM_oddOf_33 rfl rfl
theorem rM_oddOf_33 {a0 s0 : Nat} {a1 a3 s1 s2 s3 : Int} {u2 : zV} : zS 214 33 [zR a0, zI a1, u2, zI a3] [zR s0, zI s1, zI s2, zI s3] sh pp mm Q ↔ zS 214 34 [zR a0, zI a1, zU, zI a3] [zI a3, zR s0, zI s1, zI s2, zI s3] sh pp mm Q := s_go cM_oddOf_33 cM_oddOf_34 rfl rfl
theorem rM_oddOf_34 {a0 s1 : Nat} {a1 a3 s0 s2 s3 s4 : Int} {u2 : zV} : zS 214 34 [zR a0, zI a1, u2, zI a3] [zI s0, zR s1, zI s2, zI s3, zI s4] sh pp mm Q ↔ zS 214 35 [zR a0, zI a1, zU, zI a3] [zI 1, zI s0, zR s1, zI s2, zI s3, zI s4] sh pp mm Q := s_go cM_oddOf_34 cM_oddOf_35 rfl rfl
theorem rM_oddOf_35 {a0 s2 : Nat} {a1 a3 s0 s1 s3 s4 s5 : Int} {u2 : zV} (hk : zKd sh s2 = 12) : zS 214 35 [zR a0, zI a1, u2, zI a3] [zI s0, zI s1, zR s2, zI s3, zI s4, zI s5] sh pp mm Q ↔ zS 212 0 [zR s2, zI s1, zI s0] [] sh pp mm (fun v sh pp mm => zS 214 38 [zR a0, zI a1, zU, zI a3] (zPush v [zI s3, zI s4, zI s5]) sh pp mm Q) := s_call cM_oddOf_35 cM_oddOf_38 ((if_pos hk).trans rfl) rfl
theorem rM_oddOf_38 {a0 : Nat} {a1 a3 s0 s1 s2 s3 : Int} {u2 : zV} : zS 214 38 [zR a0, zI a1, u2, zI a3] [zI s0, zI s1, zI s2, zI s3] sh pp mm Q ↔ zS 214 39 [zR a0, zI a1, zU, zI a3] [zI (zshl s1 s0), zI s2, zI s3] sh pp mm Q := s_go cM_oddOf_38 cM_oddOf_39 rfl rfl
theorem rM_oddOf_39 {a0 : Nat} {a1 a3 s0 s1 s2 : Int} {u2 : zV} : zS 214 39 [zR a0, zI a1, u2, zI a3] [zI s0, zI s1, zI s2] sh pp mm Q ↔ zS 214 40 [zR a0, zI a1, zU, zI a3] [zI (zxor s1 s0), zI s2] sh pp mm Q := s_go cM_oddOf_39 cM_oddOf_40 rfl rfl
theorem rM_oddOf_40 {a0 : Nat} {a1 a3 s0 s1 : Int} {u2 : zV} : zS 214 40 [zR a0, zI a1, u2, zI a3] [zI s0, zI s1] sh pp mm Q ↔ zS 214 44 [zR a0, zI a1, zU, zI a3] [zI s0, zI s1] sh pp mm Q := s_go cM_oddOf_40 cM_oddOf_44 rfl rfl
theorem rM_oddOf_43 {a0 : Nat} {a1 a3 s0 : Int} {u2 : zV} : zS 214 43 [zR a0, zI a1, u2, zI a3] [zI s0] sh pp mm Q ↔ zS 214 44 [zR a0, zI a1, zU, zI a3] [zI 0, zI s0] sh pp mm Q := s_go cM_oddOf_43 cM_oddOf_44 rfl rfl
theorem rM_oddOf_44 {a0 : Nat} {a1 a3 s0 s1 : Int} {u2 : zV} : zS 214 44 [zR a0, zI a1, u2, zI a3] [zI s0, zI s1] sh pp mm Q ↔ zS 214 45 [zR a0, zI a1, zU, zI a3] [zI (zxor s1 s0)] sh pp mm Q := s_go cM_oddOf_44 cM_oddOf_45 rfl rfl
theorem rM_oddOf_45 {a0 : Nat} {a1 a3 s0 : Int} {u2 : zV} : zS 214 45 [zR a0, zI a1, u2, zI a3] [zI s0] sh pp mm Q ↔ zS 214 46 [zR a0, zI a1, zI s0, zI a3] [] sh pp mm Q := s_go cM_oddOf_45 cM_oddOf_46 rfl rfl
theorem rM_oddOf_46 {a0 : Nat} {a1 a2 a3 : Int} : zS 214 46 [zR a0, zI a1, zI a2, zI a3] [] sh pp mm Q ↔ zS 214 49 [zR a0, zI a1, zI a2, zI (zw32 (a3 + 1))] [] sh pp mm Q := s_go cM_oddOf_46 cM_oddOf_49 rfl rfl
theorem rM_oddOf_49 {a0 : Nat} {a1 a2 a3 : Int} : zS 214 49 [zR a0, zI a1, zI a2, zI a3] [] sh pp mm Q ↔ zS 214 4 [zR a0, zI a1, zI a2, zI a3] [] sh pp mm Q := s_go cM_oddOf_49 cM_oddOf_4 rfl rfl
theorem rM_oddOf_52 {a2 : Int} {u0 u1 u3 : zV} : zS 214 52 [u0, u1, zI a2, u3] [] sh pp mm Q ↔ zS 214 53 [zU, zU, zU, zU] [zI a2] sh pp mm Q := s_go cM_oddOf_52 cM_oddOf_53 rfl rfl
theorem rM_oddOf_53 {s0 : Int} {u0 u1 u2 u3 : zV} : zS 214 53 [u0, u1, u2, u3] [zI s0] sh pp mm Q ↔ Q (zI s0) sh pp mm := s_ret cM_oddOf_53 rfl
theorem cAM_allEdges : ∀ q ∈ zT215, zCode 215 q.1 = some q.2 := zAll (mid := 215) rfl (by decide +kernel)
theorem cAM_allEdges_0 : ∀ q ∈ zT215_0, zCode 215 q.1 = some q.2 := fun q h => cAM_allEdges q (h)
theorem cM_allEdges_0 : zCode 215 0 = some (.iconst 1, 1, 0, 0, 0, 0, 1) := cAM_allEdges_0 _ (List.mem_of_getElem? (i := 0) rfl)
theorem cM_allEdges_1 : zCode 215 1 = some (.aload_n 0, 2, 0, 0, 0, 0, 1) := cAM_allEdges_0 _ (List.mem_of_getElem? (i := 1) rfl)
theorem cM_allEdges_2 : zCode 215 2 = some (.iconst 2, 3, 0, 0, 0, 0, 0) := cAM_allEdges_0 _ (List.mem_of_getElem? (i := 2) rfl)
theorem cM_allEdges_3 : zCode 215 3 = some (.invokevirtual 288, 6, 169, 1, 2, 12, 0) := cAM_allEdges_0 _ (List.mem_of_getElem? (i := 3) rfl)
theorem cM_allEdges_6 : zCode 215 6 = some (.ishl, 7, 0, 0, 0, 0, 0) := cAM_allEdges_0 _ (List.mem_of_getElem? (i := 4) rfl)
theorem cM_allEdges_7 : zCode 215 7 = some (.iconst 1, 8, 0, 0, 0, 0, 0) := cAM_allEdges_0 _ (List.mem_of_getElem? (i := 5) rfl)
theorem cM_allEdges_8 : zCode 215 8 = some (.isub, 9, 0, 0, 0, 0, 0) := cAM_allEdges_0 _ (List.mem_of_getElem? (i := 6) rfl)
theorem cM_allEdges_9 : zCode 215 9 = some (.ireturn, 10, 0, 0, 0, 0, 0) := cAM_allEdges_0 _ (List.mem_of_getElem? (i := 7) rfl)
theorem rM_allEdges_0 {a0 : Nat} : zS 215 0 [zR a0] [] sh pp mm Q ↔ zS 215 1 [zR a0] [zI 1] sh pp mm Q := s_go cM_allEdges_0 cM_allEdges_1 rfl rfl
theorem rM_allEdges_1 {a0 : Nat} {s0 : Int} : zS 215 1 [zR a0] [zI s0] sh pp mm Q ↔ zS 215 2 [zU] [zR a0, zI s0] sh pp mm Q := s_go cM_allEdges_1 cM_allEdges_2 rfl rfl
theorem rM_allEdges_2 {s0 : Nat} {s1 : Int} {u0 : zV} : zS 215 2 [u0] [zR s0, zI s1] sh pp mm Q ↔ zS 215 3 [zU] [zI 2, zR s0, zI s1] sh pp mm Q := s_go cM_allEdges_2 cM_allEdges_3 rfl rfl
theorem rM_allEdges_3 {s1 : Nat} {s0 s2 : Int} {u0 : zV} (hk : zKd sh s1 = 12) : zS 215 3 [u0] [zI s0, zR s1, zI s2] sh pp mm Q ↔ zS 169 0 [zR s1, zI s0] [] sh pp mm (fun v sh pp mm => zS 215 6 [zU] (zPush v [zI s2]) sh pp mm Q) := s_call cM_allEdges_3 cM_allEdges_6 ((if_pos hk).trans rfl) rfl
theorem rM_allEdges_6 {s0 s1 : Int} {u0 : zV} : zS 215 6 [u0] [zI s0, zI s1] sh pp mm Q ↔ zS 215 7 [zU] [zI (zshl s1 s0)] sh pp mm Q := s_go cM_allEdges_6 cM_allEdges_7 rfl rfl
theorem rM_allEdges_7 {s0 : Int} {u0 : zV} : zS 215 7 [u0] [zI s0] sh pp mm Q ↔ zS 215 8 [zU] [zI 1, zI s0] sh pp mm Q := s_go cM_allEdges_7 cM_allEdges_8 rfl rfl
theorem rM_allEdges_8 {s0 s1 : Int} {u0 : zV} : zS 215 8 [u0] [zI s0, zI s1] sh pp mm Q ↔ zS 215 9 [zU] [zI (zw32 (s1 - s0))] sh pp mm Q := s_go cM_allEdges_8 cM_allEdges_9 rfl rfl
theorem rM_allEdges_9 {s0 : Int} {u0 : zV} : zS 215 9 [u0] [zI s0] sh pp mm Q ↔ Q (zI s0) sh pp mm := s_ret cM_allEdges_9 rfl
theorem cAM_bitsOf : ∀ q ∈ zT216, zCode 216 q.1 = some q.2 := zAll (mid := 216) rfl (by decide +kernel)
theorem cAM_bitsOf_0 : ∀ q ∈ zT216_0, zCode 216 q.1 = some q.2 := fun q h => cAM_bitsOf q (List.mem_append_left _ h)
theorem cAM_bitsOf_1 : ∀ q ∈ zT216_1, zCode 216 q.1 = some q.2 := fun q h => cAM_bitsOf q (List.mem_append_right _ h)
theorem cM_bitsOf_0 : zCode 216 0 = some (.iconst 0, 1, 0, 0, 0, 0, 1) := cAM_bitsOf_0 _ (List.mem_of_getElem? (i := 0) rfl)
theorem cM_bitsOf_1 : zCode 216 1 = some (.istore_n 1, 2, 0, 0, 0, 0, 1) := cAM_bitsOf_0 _ (List.mem_of_getElem? (i := 1) rfl)
theorem cM_bitsOf_2 : zCode 216 2 = some (.iconst 0, 3, 0, 0, 0, 0, 3) := cAM_bitsOf_0 _ (List.mem_of_getElem? (i := 2) rfl)
theorem cM_bitsOf_3 : zCode 216 3 = some (.istore_n 2, 4, 0, 0, 0, 0, 3) := cAM_bitsOf_0 _ (List.mem_of_getElem? (i := 3) rfl)
theorem cM_bitsOf_4 : zCode 216 4 = some (.iload_n 2, 5, 0, 0, 0, 0, 7) := cAM_bitsOf_0 _ (List.mem_of_getElem? (i := 4) rfl)
theorem cM_bitsOf_5 : zCode 216 5 = some (.bipush 12, 7, 0, 0, 0, 0, 7) := cAM_bitsOf_0 _ (List.mem_of_getElem? (i := 5) rfl)
theorem cM_bitsOf_7 : zCode 216 7 = some (.if_icmp .ge 17, 10, 24, 0, 0, 0, 7) := cAM_bitsOf_0 _ (List.mem_of_getElem? (i := 6) rfl)
theorem cM_bitsOf_10 : zCode 216 10 = some (.iload_n 1, 11, 0, 0, 0, 0, 7) := cAM_bitsOf_0 _ (List.mem_of_getElem? (i := 7) rfl)
theorem cM_bitsOf_11 : zCode 216 11 = some (.iload_n 0, 12, 0, 0, 0, 0, 5) := cAM_bitsOf_0 _ (List.mem_of_getElem? (i := 8) rfl)
theorem cM_bitsOf_12 : zCode 216 12 = some (.iload_n 2, 13, 0, 0, 0, 0, 5) := cAM_bitsOf_0 _ (List.mem_of_getElem? (i := 9) rfl)
theorem cM_bitsOf_13 : zCode 216 13 = some (.ishr, 14, 0, 0, 0, 0, 5) := cAM_bitsOf_0 _ (List.mem_of_getElem? (i := 10) rfl)
theorem cM_bitsOf_14 : zCode 216 14 = some (.iconst 1, 15, 0, 0, 0, 0, 5) := cAM_bitsOf_0 _ (List.mem_of_getElem? (i := 11) rfl)
theorem cM_bitsOf_15 : zCode 216 15 = some (.iand, 16, 0, 0, 0, 0, 5) := cAM_bitsOf_0 _ (List.mem_of_getElem? (i := 12) rfl)
theorem cM_bitsOf_16 : zCode 216 16 = some (.iadd, 17, 0, 0, 0, 0, 5) := cAM_bitsOf_0 _ (List.mem_of_getElem? (i := 13) rfl)
theorem cM_bitsOf_17 : zCode 216 17 = some (.istore_n 1, 18, 0, 0, 0, 0, 5) := cAM_bitsOf_0 _ (List.mem_of_getElem? (i := 14) rfl)
theorem cM_bitsOf_18 : zCode 216 18 = some (.iinc 2 1, 21, 0, 0, 0, 0, 7) := cAM_bitsOf_0 _ (List.mem_of_getElem? (i := 15) rfl)
theorem cM_bitsOf_21 : zCode 216 21 = some (.goto (-17), 24, 4, 0, 0, 0, 7) := cAM_bitsOf_1 _ (List.mem_of_getElem? (i := 0) rfl)
theorem cM_bitsOf_24 : zCode 216 24 = some (.iload_n 1, 25, 0, 0, 0, 0, 2) := cAM_bitsOf_1 _ (List.mem_of_getElem? (i := 1) rfl)
theorem cM_bitsOf_25 : zCode 216 25 = some (.ireturn, 26, 0, 0, 0, 0, 0) := cAM_bitsOf_1 _ (List.mem_of_getElem? (i := 2) rfl)
theorem rM_bitsOf_0 {a0 : Int} {u1 u2 : zV} : zS 216 0 [zI a0, u1, u2] [] sh pp mm Q ↔ zS 216 1 [zI a0, zU, zU] [zI 0] sh pp mm Q := s_go cM_bitsOf_0 cM_bitsOf_1 rfl rfl
theorem rM_bitsOf_1 {a0 s0 : Int} {u1 u2 : zV} : zS 216 1 [zI a0, u1, u2] [zI s0] sh pp mm Q ↔ zS 216 2 [zI a0, zI s0, zU] [] sh pp mm Q := s_go cM_bitsOf_1 cM_bitsOf_2 rfl rfl
theorem rM_bitsOf_2 {a0 a1 : Int} {u2 : zV} : zS 216 2 [zI a0, zI a1, u2] [] sh pp mm Q ↔ zS 216 3 [zI a0, zI a1, zU] [zI 0] sh pp mm Q := s_go cM_bitsOf_2 cM_bitsOf_3 rfl rfl
theorem rM_bitsOf_3 {a0 a1 s0 : Int} {u2 : zV} : zS 216 3 [zI a0, zI a1, u2] [zI s0] sh pp mm Q ↔ zS 216 4 [zI a0, zI a1, zI s0] [] sh pp mm Q := s_go cM_bitsOf_3 cM_bitsOf_4 rfl rfl
theorem rM_bitsOf_4 {a0 a1 a2 : Int} : zS 216 4 [zI a0, zI a1, zI a2] [] sh pp mm Q ↔ zS 216 5 [zI a0, zI a1, zI a2] [zI a2] sh pp mm Q := s_go cM_bitsOf_4 cM_bitsOf_5 rfl rfl
theorem rM_bitsOf_5 {a0 a1 a2 s0 : Int} : zS 216 5 [zI a0, zI a1, zI a2] [zI s0] sh pp mm Q ↔ zS 216 7 [zI a0, zI a1, zI a2] [zI 12, zI s0] sh pp mm Q := s_go cM_bitsOf_5 cM_bitsOf_7 rfl rfl
theorem rM_bitsOf_7 {a0 a1 a2 s0 s1 : Int} : zS 216 7 [zI a0, zI a1, zI a2] [zI s0, zI s1] sh pp mm Q ↔ (s1 < s0 → zS 216 10 [zI a0, zI a1, zI a2] [] sh pp mm Q) ∧ (¬ s1 < s0 → zS 216 24 [zU, zI a1, zU] [] sh pp mm Q) := s_ifn cM_bitsOf_7 cM_bitsOf_10 cM_bitsOf_24 rfl rfl rfl
theorem rM_bitsOf_10 {a0 a1 a2 : Int} : zS 216 10 [zI a0, zI a1, zI a2] [] sh pp mm Q ↔ zS 216 11 [zI a0, zU, zI a2] [zI a1] sh pp mm Q := s_go cM_bitsOf_10 cM_bitsOf_11 rfl rfl
theorem rM_bitsOf_11 {a0 a2 s0 : Int} {u1 : zV} : zS 216 11 [zI a0, u1, zI a2] [zI s0] sh pp mm Q ↔ zS 216 12 [zI a0, zU, zI a2] [zI a0, zI s0] sh pp mm Q := s_go cM_bitsOf_11 cM_bitsOf_12 rfl rfl
theorem rM_bitsOf_12 {a0 a2 s0 s1 : Int} {u1 : zV} : zS 216 12 [zI a0, u1, zI a2] [zI s0, zI s1] sh pp mm Q ↔ zS 216 13 [zI a0, zU, zI a2] [zI a2, zI s0, zI s1] sh pp mm Q := s_go cM_bitsOf_12 cM_bitsOf_13 rfl rfl
theorem rM_bitsOf_13 {a0 a2 s0 s1 s2 : Int} {u1 : zV} : zS 216 13 [zI a0, u1, zI a2] [zI s0, zI s1, zI s2] sh pp mm Q ↔ zS 216 14 [zI a0, zU, zI a2] [zI (zshr s1 s0), zI s2] sh pp mm Q := s_go cM_bitsOf_13 cM_bitsOf_14 rfl rfl
theorem rM_bitsOf_14 {a0 a2 s0 s1 : Int} {u1 : zV} : zS 216 14 [zI a0, u1, zI a2] [zI s0, zI s1] sh pp mm Q ↔ zS 216 15 [zI a0, zU, zI a2] [zI 1, zI s0, zI s1] sh pp mm Q := s_go cM_bitsOf_14 cM_bitsOf_15 rfl rfl
theorem rM_bitsOf_15 {a0 a2 s0 s1 s2 : Int} {u1 : zV} : zS 216 15 [zI a0, u1, zI a2] [zI s0, zI s1, zI s2] sh pp mm Q ↔ zS 216 16 [zI a0, zU, zI a2] [zI (zand s1 s0), zI s2] sh pp mm Q := s_go cM_bitsOf_15 cM_bitsOf_16 rfl rfl
theorem rM_bitsOf_16 {a0 a2 s0 s1 : Int} {u1 : zV} : zS 216 16 [zI a0, u1, zI a2] [zI s0, zI s1] sh pp mm Q ↔ zS 216 17 [zI a0, zU, zI a2] [zI (zw32 (s1 + s0))] sh pp mm Q := s_go cM_bitsOf_16 cM_bitsOf_17 rfl rfl
theorem rM_bitsOf_17 {a0 a2 s0 : Int} {u1 : zV} : zS 216 17 [zI a0, u1, zI a2] [zI s0] sh pp mm Q ↔ zS 216 18 [zI a0, zI s0, zI a2] [] sh pp mm Q := s_go cM_bitsOf_17 cM_bitsOf_18 rfl rfl
theorem rM_bitsOf_18 {a0 a1 a2 : Int} : zS 216 18 [zI a0, zI a1, zI a2] [] sh pp mm Q ↔ zS 216 21 [zI a0, zI a1, zI (zw32 (a2 + 1))] [] sh pp mm Q := s_go cM_bitsOf_18 cM_bitsOf_21 rfl rfl
theorem rM_bitsOf_21 {a0 a1 a2 : Int} : zS 216 21 [zI a0, zI a1, zI a2] [] sh pp mm Q ↔ zS 216 4 [zI a0, zI a1, zI a2] [] sh pp mm Q := s_go cM_bitsOf_21 cM_bitsOf_4 rfl rfl
theorem rM_bitsOf_24 {a1 : Int} {u0 u2 : zV} : zS 216 24 [u0, zI a1, u2] [] sh pp mm Q ↔ zS 216 25 [zU, zU, zU] [zI a1] sh pp mm Q := s_go cM_bitsOf_24 cM_bitsOf_25 rfl rfl
theorem rM_bitsOf_25 {s0 : Int} {u0 u1 u2 : zV} : zS 216 25 [u0, u1, u2] [zI s0] sh pp mm Q ↔ Q (zI s0) sh pp mm := s_ret cM_bitsOf_25 rfl
theorem cAM_hangTogether : ∀ q ∈ zT217, zCode 217 q.1 = some q.2 := zAll (mid := 217) rfl (by decide +kernel)
theorem cAM_hangTogether_0 : ∀ q ∈ zT217_0, zCode 217 q.1 = some q.2 := fun q h => cAM_hangTogether q (List.mem_append_left _ h)
theorem cAM_hangTogether_1 : ∀ q ∈ zT217_1, zCode 217 q.1 = some q.2 := fun q h => cAM_hangTogether q (List.mem_append_right _ (List.mem_append_left _ h))
theorem cAM_hangTogether_2 : ∀ q ∈ zT217_2, zCode 217 q.1 = some q.2 := fun q h => cAM_hangTogether q (List.mem_append_right _ (List.mem_append_right _ (List.mem_append_left _ h)))
theorem cAM_hangTogether_3 : ∀ q ∈ zT217_3, zCode 217 q.1 = some q.2 := fun q h => cAM_hangTogether q (List.mem_append_right _ (List.mem_append_right _ (List.mem_append_right _ (List.mem_append_left _ h))))
theorem cAM_hangTogether_4 : ∀ q ∈ zT217_4, zCode 217 q.1 = some q.2 := fun q h => cAM_hangTogether q (List.mem_append_right _ (List.mem_append_right _ (List.mem_append_right _ (List.mem_append_right _ (List.mem_append_left _ h)))))
theorem cAM_hangTogether_5 : ∀ q ∈ zT217_5, zCode 217 q.1 = some q.2 := fun q h => cAM_hangTogether q (List.mem_append_right _ (List.mem_append_right _ (List.mem_append_right _ (List.mem_append_right _ (List.mem_append_right _ h)))))
theorem cM_hangTogether_0 : zCode 217 0 = some (.aload_n 0, 1, 0, 0, 0, 0, 1) := cAM_hangTogether_0 _ (List.mem_of_getElem? (i := 0) rfl)
theorem cM_hangTogether_1 : zCode 217 1 = some (.iconst 2, 2, 0, 0, 0, 0, 1) := cAM_hangTogether_0 _ (List.mem_of_getElem? (i := 1) rfl)
theorem cM_hangTogether_2 : zCode 217 2 = some (.invokevirtual 288, 5, 169, 1, 2, 12, 1) := cAM_hangTogether_0 _ (List.mem_of_getElem? (i := 2) rfl)
theorem cM_hangTogether_5 : zCode 217 5 = some (.ifCond .ne 7, 8, 12, 0, 0, 0, 1) := cAM_hangTogether_0 _ (List.mem_of_getElem? (i := 3) rfl)
theorem cM_hangTogether_8 : zCode 217 8 = some (.iconst 0, 9, 0, 0, 0, 0, 1) := cAM_hangTogether_0 _ (List.mem_of_getElem? (i := 4) rfl)
theorem cM_hangTogether_9 : zCode 217 9 = some (.goto 11, 12, 20, 0, 0, 0, 1) := cAM_hangTogether_0 _ (List.mem_of_getElem? (i := 5) rfl)
theorem cM_hangTogether_12 : zCode 217 12 = some (.iconst 1, 13, 0, 0, 0, 0, 1) := cAM_hangTogether_0 _ (List.mem_of_getElem? (i := 6) rfl)
theorem cM_hangTogether_13 : zCode 217 13 = some (.aload_n 0, 14, 0, 0, 0, 0, 1) := cAM_hangTogether_0 _ (List.mem_of_getElem? (i := 7) rfl)
theorem cM_hangTogether_14 : zCode 217 14 = some (.iconst 0, 15, 0, 0, 0, 0, 1) := cAM_hangTogether_0 _ (List.mem_of_getElem? (i := 8) rfl)
theorem cM_hangTogether_15 : zCode 217 15 = some (.iconst 0, 16, 0, 0, 0, 0, 1) := cAM_hangTogether_0 _ (List.mem_of_getElem? (i := 9) rfl)
theorem cM_hangTogether_16 : zCode 217 16 = some (.invokevirtual 294, 19, 212, 2, 3, 12, 1) := cAM_hangTogether_0 _ (List.mem_of_getElem? (i := 10) rfl)
theorem cM_hangTogether_19 : zCode 217 19 = some (.ishl, 20, 0, 0, 0, 0, 1) := cAM_hangTogether_0 _ (List.mem_of_getElem? (i := 11) rfl)
theorem cM_hangTogether_20 : zCode 217 20 = some (.istore_n 1, 21, 0, 0, 0, 0, 1) := cAM_hangTogether_0 _ (List.mem_of_getElem? (i := 12) rfl)
theorem cM_hangTogether_21 : zCode 217 21 = some (.iconst 0, 22, 0, 0, 0, 0, 3) := cAM_hangTogether_0 _ (List.mem_of_getElem? (i := 13) rfl)
theorem cM_hangTogether_22 : zCode 217 22 = some (.istore_n 2, 23, 0, 0, 0, 0, 3) := cAM_hangTogether_0 _ (List.mem_of_getElem? (i := 14) rfl)
theorem cM_hangTogether_23 : zCode 217 23 = some (.iload_n 2, 24, 0, 0, 0, 0, 7) := cAM_hangTogether_0 _ (List.mem_of_getElem? (i := 15) rfl)
theorem cM_hangTogether_24 : zCode 217 24 = some (.bipush 12, 26, 0, 0, 0, 0, 7) := cAM_hangTogether_1 _ (List.mem_of_getElem? (i := 0) rfl)
theorem cM_hangTogether_26 : zCode 217 26 = some (.if_icmp .ge 61, 29, 87, 0, 0, 0, 7) := cAM_hangTogether_1 _ (List.mem_of_getElem? (i := 1) rfl)
theorem cM_hangTogether_29 : zCode 217 29 = some (.iconst 0, 30, 0, 0, 0, 0, 7) := cAM_hangTogether_1 _ (List.mem_of_getElem? (i := 2) rfl)
theorem cM_hangTogether_30 : zCode 217 30 = some (.istore_n 3, 31, 0, 0, 0, 0, 7) := cAM_hangTogether_1 _ (List.mem_of_getElem? (i := 3) rfl)
theorem cM_hangTogether_31 : zCode 217 31 = some (.iload_n 3, 32, 0, 0, 0, 0, 15) := cAM_hangTogether_1 _ (List.mem_of_getElem? (i := 4) rfl)
theorem cM_hangTogether_32 : zCode 217 32 = some (.aload_n 0, 33, 0, 0, 0, 0, 15) := cAM_hangTogether_1 _ (List.mem_of_getElem? (i := 5) rfl)
theorem cM_hangTogether_33 : zCode 217 33 = some (.iconst 2, 34, 0, 0, 0, 0, 15) := cAM_hangTogether_1 _ (List.mem_of_getElem? (i := 6) rfl)
theorem cM_hangTogether_34 : zCode 217 34 = some (.invokevirtual 288, 37, 169, 1, 2, 12, 15) := cAM_hangTogether_1 _ (List.mem_of_getElem? (i := 7) rfl)
theorem cM_hangTogether_37 : zCode 217 37 = some (.if_icmp .ge 44, 40, 81, 0, 0, 0, 15) := cAM_hangTogether_1 _ (List.mem_of_getElem? (i := 8) rfl)
theorem cM_hangTogether_40 : zCode 217 40 = some (.iconst 1, 41, 0, 0, 0, 0, 15) := cAM_hangTogether_1 _ (List.mem_of_getElem? (i := 9) rfl)
theorem cM_hangTogether_41 : zCode 217 41 = some (.aload_n 0, 42, 0, 0, 0, 0, 15) := cAM_hangTogether_1 _ (List.mem_of_getElem? (i := 10) rfl)
theorem cM_hangTogether_42 : zCode 217 42 = some (.iload_n 3, 43, 0, 0, 0, 0, 15) := cAM_hangTogether_1 _ (List.mem_of_getElem? (i := 11) rfl)
theorem cM_hangTogether_43 : zCode 217 43 = some (.iconst 0, 44, 0, 0, 0, 0, 15) := cAM_hangTogether_1 _ (List.mem_of_getElem? (i := 12) rfl)
theorem cM_hangTogether_44 : zCode 217 44 = some (.invokevirtual 294, 47, 212, 2, 3, 12, 15) := cAM_hangTogether_1 _ (List.mem_of_getElem? (i := 13) rfl)
theorem cM_hangTogether_47 : zCode 217 47 = some (.ishl, 48, 0, 0, 0, 0, 15) := cAM_hangTogether_1 _ (List.mem_of_getElem? (i := 14) rfl)
theorem cM_hangTogether_48 : zCode 217 48 = some (.iconst 1, 49, 0, 0, 0, 0, 15) := cAM_hangTogether_1 _ (List.mem_of_getElem? (i := 15) rfl)
theorem cM_hangTogether_49 : zCode 217 49 = some (.aload_n 0, 50, 0, 0, 0, 0, 15) := cAM_hangTogether_2 _ (List.mem_of_getElem? (i := 0) rfl)
theorem cM_hangTogether_50 : zCode 217 50 = some (.iload_n 3, 51, 0, 0, 0, 0, 15) := cAM_hangTogether_2 _ (List.mem_of_getElem? (i := 1) rfl)
theorem cM_hangTogether_51 : zCode 217 51 = some (.iconst 1, 52, 0, 0, 0, 0, 15) := cAM_hangTogether_2 _ (List.mem_of_getElem? (i := 2) rfl)
theorem cM_hangTogether_52 : zCode 217 52 = some (.invokevirtual 294, 55, 212, 2, 3, 12, 15) := cAM_hangTogether_2 _ (List.mem_of_getElem? (i := 3) rfl)
theorem cM_hangTogether_55 : zCode 217 55 = some (.ishl, 56, 0, 0, 0, 0, 15) := cAM_hangTogether_2 _ (List.mem_of_getElem? (i := 4) rfl)
theorem cM_hangTogether_56 : zCode 217 56 = some (.ior, 57, 0, 0, 0, 0, 15) := cAM_hangTogether_2 _ (List.mem_of_getElem? (i := 5) rfl)
theorem cM_hangTogether_57 : zCode 217 57 = some (.istore 4, 59, 0, 0, 0, 0, 15) := cAM_hangTogether_2 _ (List.mem_of_getElem? (i := 6) rfl)
theorem cM_hangTogether_59 : zCode 217 59 = some (.iload_n 1, 60, 0, 0, 0, 0, 31) := cAM_hangTogether_2 _ (List.mem_of_getElem? (i := 7) rfl)
theorem cM_hangTogether_60 : zCode 217 60 = some (.iload 4, 62, 0, 0, 0, 0, 31) := cAM_hangTogether_2 _ (List.mem_of_getElem? (i := 8) rfl)
theorem cM_hangTogether_62 : zCode 217 62 = some (.iand, 63, 0, 0, 0, 0, 31) := cAM_hangTogether_2 _ (List.mem_of_getElem? (i := 9) rfl)
theorem cM_hangTogether_63 : zCode 217 63 = some (.ifCond .eq 10, 66, 73, 0, 0, 0, 31) := cAM_hangTogether_2 _ (List.mem_of_getElem? (i := 10) rfl)
theorem cM_hangTogether_66 : zCode 217 66 = some (.iload_n 1, 67, 0, 0, 0, 0, 31) := cAM_hangTogether_2 _ (List.mem_of_getElem? (i := 11) rfl)
theorem cM_hangTogether_67 : zCode 217 67 = some (.iload 4, 69, 0, 0, 0, 0, 29) := cAM_hangTogether_2 _ (List.mem_of_getElem? (i := 12) rfl)
theorem cM_hangTogether_69 : zCode 217 69 = some (.ior, 70, 0, 0, 0, 0, 13) := cAM_hangTogether_2 _ (List.mem_of_getElem? (i := 13) rfl)
theorem cM_hangTogether_70 : zCode 217 70 = some (.goto 4, 73, 74, 0, 0, 0, 13) := cAM_hangTogether_2 _ (List.mem_of_getElem? (i := 14) rfl)
theorem cM_hangTogether_73 : zCode 217 73 = some (.iload_n 1, 74, 0, 0, 0, 0, 15) := cAM_hangTogether_2 _ (List.mem_of_getElem? (i := 15) rfl)
theorem cM_hangTogether_74 : zCode 217 74 = some (.istore_n 1, 75, 0, 0, 0, 0, 13) := cAM_hangTogether_3 _ (List.mem_of_getElem? (i := 0) rfl)
theorem cM_hangTogether_75 : zCode 217 75 = some (.iinc 3 1, 78, 0, 0, 0, 0, 15) := cAM_hangTogether_3 _ (List.mem_of_getElem? (i := 1) rfl)
theorem cM_hangTogether_78 : zCode 217 78 = some (.goto (-47), 81, 31, 0, 0, 0, 15) := cAM_hangTogether_3 _ (List.mem_of_getElem? (i := 2) rfl)
theorem cM_hangTogether_81 : zCode 217 81 = some (.iinc 2 1, 84, 0, 0, 0, 0, 7) := cAM_hangTogether_3 _ (List.mem_of_getElem? (i := 3) rfl)
theorem cM_hangTogether_84 : zCode 217 84 = some (.goto (-61), 87, 23, 0, 0, 0, 7) := cAM_hangTogether_3 _ (List.mem_of_getElem? (i := 4) rfl)
theorem cM_hangTogether_87 : zCode 217 87 = some (.iconst 1, 88, 0, 0, 0, 0, 3) := cAM_hangTogether_3 _ (List.mem_of_getElem? (i := 5) rfl)
theorem cM_hangTogether_88 : zCode 217 88 = some (.istore_n 2, 89, 0, 0, 0, 0, 3) := cAM_hangTogether_3 _ (List.mem_of_getElem? (i := 6) rfl)
theorem cM_hangTogether_89 : zCode 217 89 = some (.iconst 0, 90, 0, 0, 0, 0, 7) := cAM_hangTogether_3 _ (List.mem_of_getElem? (i := 7) rfl)
theorem cM_hangTogether_90 : zCode 217 90 = some (.istore_n 3, 91, 0, 0, 0, 0, 7) := cAM_hangTogether_3 _ (List.mem_of_getElem? (i := 8) rfl)
theorem cM_hangTogether_91 : zCode 217 91 = some (.iload_n 3, 92, 0, 0, 0, 0, 15) := cAM_hangTogether_3 _ (List.mem_of_getElem? (i := 9) rfl)
theorem cM_hangTogether_92 : zCode 217 92 = some (.aload_n 0, 93, 0, 0, 0, 0, 15) := cAM_hangTogether_3 _ (List.mem_of_getElem? (i := 10) rfl)
theorem cM_hangTogether_93 : zCode 217 93 = some (.iconst 2, 94, 0, 0, 0, 0, 15) := cAM_hangTogether_3 _ (List.mem_of_getElem? (i := 11) rfl)
theorem cM_hangTogether_94 : zCode 217 94 = some (.invokevirtual 288, 97, 169, 1, 2, 12, 15) := cAM_hangTogether_3 _ (List.mem_of_getElem? (i := 12) rfl)
theorem cM_hangTogether_97 : zCode 217 97 = some (.if_icmp .ge 33, 100, 130, 0, 0, 0, 15) := cAM_hangTogether_3 _ (List.mem_of_getElem? (i := 13) rfl)
theorem cM_hangTogether_100 : zCode 217 100 = some (.iload_n 2, 101, 0, 0, 0, 0, 15) := cAM_hangTogether_3 _ (List.mem_of_getElem? (i := 14) rfl)
theorem cM_hangTogether_101 : zCode 217 101 = some (.ifCond .eq 21, 104, 122, 0, 0, 0, 11) := cAM_hangTogether_3 _ (List.mem_of_getElem? (i := 15) rfl)
theorem cM_hangTogether_104 : zCode 217 104 = some (.iload_n 1, 105, 0, 0, 0, 0, 11) := cAM_hangTogether_4 _ (List.mem_of_getElem? (i := 0) rfl)
theorem cM_hangTogether_105 : zCode 217 105 = some (.aload_n 0, 106, 0, 0, 0, 0, 11) := cAM_hangTogether_4 _ (List.mem_of_getElem? (i := 1) rfl)
theorem cM_hangTogether_106 : zCode 217 106 = some (.iload_n 3, 107, 0, 0, 0, 0, 11) := cAM_hangTogether_4 _ (List.mem_of_getElem? (i := 2) rfl)
theorem cM_hangTogether_107 : zCode 217 107 = some (.iconst 0, 108, 0, 0, 0, 0, 11) := cAM_hangTogether_4 _ (List.mem_of_getElem? (i := 3) rfl)
theorem cM_hangTogether_108 : zCode 217 108 = some (.invokevirtual 294, 111, 212, 2, 3, 12, 11) := cAM_hangTogether_4 _ (List.mem_of_getElem? (i := 4) rfl)
theorem cM_hangTogether_111 : zCode 217 111 = some (.ishr, 112, 0, 0, 0, 0, 11) := cAM_hangTogether_4 _ (List.mem_of_getElem? (i := 5) rfl)
theorem cM_hangTogether_112 : zCode 217 112 = some (.iconst 1, 113, 0, 0, 0, 0, 11) := cAM_hangTogether_4 _ (List.mem_of_getElem? (i := 6) rfl)
theorem cM_hangTogether_113 : zCode 217 113 = some (.iand, 114, 0, 0, 0, 0, 11) := cAM_hangTogether_4 _ (List.mem_of_getElem? (i := 7) rfl)
theorem cM_hangTogether_114 : zCode 217 114 = some (.iconst 1, 115, 0, 0, 0, 0, 11) := cAM_hangTogether_4 _ (List.mem_of_getElem? (i := 8) rfl)
theorem cM_hangTogether_115 : zCode 217 115 = some (.if_icmp .ne 7, 118, 122, 0, 0, 0, 11) := cAM_hangTogether_4 _ (List.mem_of_getElem? (i := 9) rfl)
theorem cM_hangTogether_118 : zCode 217 118 = some (.iconst 1, 119, 0, 0, 0, 0, 11) := cAM_hangTogether_4 _ (List.mem_of_getElem? (i := 10) rfl)
theorem cM_hangTogether_119 : zCode 217 119 = some (.goto 4, 122, 123, 0, 0, 0, 11) := cAM_hangTogether_4 _ (List.mem_of_getElem? (i := 11) rfl)
theorem cM_hangTogether_122 : zCode 217 122 = some (.iconst 0, 123, 0, 0, 0, 0, 11) := cAM_hangTogether_4 _ (List.mem_of_getElem? (i := 12) rfl)
theorem cM_hangTogether_123 : zCode 217 123 = some (.istore_n 2, 124, 0, 0, 0, 0, 11) := cAM_hangTogether_4 _ (List.mem_of_getElem? (i := 13) rfl)
theorem cM_hangTogether_124 : zCode 217 124 = some (.iinc 3 1, 127, 0, 0, 0, 0, 15) := cAM_hangTogether_4 _ (List.mem_of_getElem? (i := 14) rfl)
theorem cM_hangTogether_127 : zCode 217 127 = some (.goto (-36), 130, 91, 0, 0, 0, 15) := cAM_hangTogether_4 _ (List.mem_of_getElem? (i := 15) rfl)
theorem cM_hangTogether_130 : zCode 217 130 = some (.iload_n 2, 131, 0, 0, 0, 0, 4) := cAM_hangTogether_5 _ (List.mem_of_getElem? (i := 0) rfl)
theorem cM_hangTogether_131 : zCode 217 131 = some (.ireturn, 132, 0, 3, 0, 0, 0) := cAM_hangTogether_5 _ (List.mem_of_getElem? (i := 1) rfl)
theorem rM_hangTogether_0 {a0 : Nat} {u1 u2 u3 u4 : zV} : zS 217 0 [zR a0, u1, u2, u3, u4] [] sh pp mm Q ↔ zS 217 1 [zR a0, zU, zU, zU, zU] [zR a0] sh pp mm Q := s_go cM_hangTogether_0 cM_hangTogether_1 rfl rfl
theorem rM_hangTogether_1 {a0 s0 : Nat} {u1 u2 u3 u4 : zV} : zS 217 1 [zR a0, u1, u2, u3, u4] [zR s0] sh pp mm Q ↔ zS 217 2 [zR a0, zU, zU, zU, zU] [zI 2, zR s0] sh pp mm Q := s_go cM_hangTogether_1 cM_hangTogether_2 rfl rfl
theorem rM_hangTogether_2 {a0 s1 : Nat} {s0 : Int} {u1 u2 u3 u4 : zV} (hk : zKd sh s1 = 12) : zS 217 2 [zR a0, u1, u2, u3, u4] [zI s0, zR s1] sh pp mm Q ↔ zS 169 0 [zR s1, zI s0] [] sh pp mm (fun v sh pp mm => zS 217 5 [zR a0, zU, zU, zU, zU] (zPush v []) sh pp mm Q) := s_call cM_hangTogether_2 cM_hangTogether_5 ((if_pos hk).trans rfl) rfl
theorem rM_hangTogether_5 {a0 : Nat} {s0 : Int} {u1 u2 u3 u4 : zV} : zS 217 5 [zR a0, u1, u2, u3, u4] [zI s0] sh pp mm Q ↔ (s0 = 0 → zS 217 8 [zR a0, zU, zU, zU, zU] [] sh pp mm Q) ∧ (¬ s0 = 0 → zS 217 12 [zR a0, zU, zU, zU, zU] [] sh pp mm Q) := s_ifn cM_hangTogether_5 cM_hangTogether_8 cM_hangTogether_12 rfl rfl rfl
theorem rM_hangTogether_8 {a0 : Nat} {u1 u2 u3 u4 : zV} : zS 217 8 [zR a0, u1, u2, u3, u4] [] sh pp mm Q ↔ zS 217 9 [zR a0, zU, zU, zU, zU] [zI 0] sh pp mm Q := s_go cM_hangTogether_8 cM_hangTogether_9 rfl rfl
theorem rM_hangTogether_9 {a0 : Nat} {s0 : Int} {u1 u2 u3 u4 : zV} : zS 217 9 [zR a0, u1, u2, u3, u4] [zI s0] sh pp mm Q ↔ zS 217 20 [zR a0, zU, zU, zU, zU] [zI s0] sh pp mm Q := s_go cM_hangTogether_9 cM_hangTogether_20 rfl rfl
theorem rM_hangTogether_12 {a0 : Nat} {u1 u2 u3 u4 : zV} : zS 217 12 [zR a0, u1, u2, u3, u4] [] sh pp mm Q ↔ zS 217 13 [zR a0, zU, zU, zU, zU] [zI 1] sh pp mm Q := s_go cM_hangTogether_12 cM_hangTogether_13 rfl rfl
theorem rM_hangTogether_13 {a0 : Nat} {s0 : Int} {u1 u2 u3 u4 : zV} : zS 217 13 [zR a0, u1, u2, u3, u4] [zI s0] sh pp mm Q ↔ zS 217 14 [zR a0, zU, zU, zU, zU] [zR a0, zI s0] sh pp mm Q := s_go cM_hangTogether_13 cM_hangTogether_14 rfl rfl
theorem rM_hangTogether_14 {a0 s0 : Nat} {s1 : Int} {u1 u2 u3 u4 : zV} : zS 217 14 [zR a0, u1, u2, u3, u4] [zR s0, zI s1] sh pp mm Q ↔ zS 217 15 [zR a0, zU, zU, zU, zU] [zI 0, zR s0, zI s1] sh pp mm Q := s_go cM_hangTogether_14 cM_hangTogether_15 rfl rfl
theorem rM_hangTogether_15 {a0 s1 : Nat} {s0 s2 : Int} {u1 u2 u3 u4 : zV} : zS 217 15 [zR a0, u1, u2, u3, u4] [zI s0, zR s1, zI s2] sh pp mm Q ↔ zS 217 16 [zR a0, zU, zU, zU, zU] [zI 0, zI s0, zR s1, zI s2] sh pp mm Q := s_go cM_hangTogether_15 cM_hangTogether_16 rfl rfl
theorem rM_hangTogether_16 {a0 s2 : Nat} {s0 s1 s3 : Int} {u1 u2 u3 u4 : zV} (hk : zKd sh s2 = 12) : zS 217 16 [zR a0, u1, u2, u3, u4] [zI s0, zI s1, zR s2, zI s3] sh pp mm Q ↔ zS 212 0 [zR s2, zI s1, zI s0] [] sh pp mm (fun v sh pp mm => zS 217 19 [zR a0, zU, zU, zU, zU] (zPush v [zI s3]) sh pp mm Q) := s_call cM_hangTogether_16 cM_hangTogether_19 ((if_pos hk).trans rfl) rfl
theorem rM_hangTogether_19 {a0 : Nat} {s0 s1 : Int} {u1 u2 u3 u4 : zV} : zS 217 19 [zR a0, u1, u2, u3, u4] [zI s0, zI s1] sh pp mm Q ↔ zS 217 20 [zR a0, zU, zU, zU, zU] [zI (zshl s1 s0)] sh pp mm Q := s_go cM_hangTogether_19 cM_hangTogether_20 rfl rfl
theorem rM_hangTogether_20 {a0 : Nat} {s0 : Int} {u1 u2 u3 u4 : zV} : zS 217 20 [zR a0, u1, u2, u3, u4] [zI s0] sh pp mm Q ↔ zS 217 21 [zR a0, zI s0, zU, zU, zU] [] sh pp mm Q := s_go cM_hangTogether_20 cM_hangTogether_21 rfl rfl
theorem rM_hangTogether_21 {a0 : Nat} {a1 : Int} {u2 u3 u4 : zV} : zS 217 21 [zR a0, zI a1, u2, u3, u4] [] sh pp mm Q ↔ zS 217 22 [zR a0, zI a1, zU, zU, zU] [zI 0] sh pp mm Q := s_go cM_hangTogether_21 cM_hangTogether_22 rfl rfl
theorem rM_hangTogether_22 {a0 : Nat} {a1 s0 : Int} {u2 u3 u4 : zV} : zS 217 22 [zR a0, zI a1, u2, u3, u4] [zI s0] sh pp mm Q ↔ zS 217 23 [zR a0, zI a1, zI s0, zU, zU] [] sh pp mm Q := s_go cM_hangTogether_22 cM_hangTogether_23 rfl rfl
theorem rM_hangTogether_23 {a0 : Nat} {a1 a2 : Int} {u3 u4 : zV} : zS 217 23 [zR a0, zI a1, zI a2, u3, u4] [] sh pp mm Q ↔ zS 217 24 [zR a0, zI a1, zI a2, zU, zU] [zI a2] sh pp mm Q := s_go cM_hangTogether_23 cM_hangTogether_24 rfl rfl
theorem rM_hangTogether_24 {a0 : Nat} {a1 a2 s0 : Int} {u3 u4 : zV} : zS 217 24 [zR a0, zI a1, zI a2, u3, u4] [zI s0] sh pp mm Q ↔ zS 217 26 [zR a0, zI a1, zI a2, zU, zU] [zI 12, zI s0] sh pp mm Q := s_go cM_hangTogether_24 cM_hangTogether_26 rfl rfl
theorem rM_hangTogether_26 {a0 : Nat} {a1 a2 s0 s1 : Int} {u3 u4 : zV} : zS 217 26 [zR a0, zI a1, zI a2, u3, u4] [zI s0, zI s1] sh pp mm Q ↔ (s1 < s0 → zS 217 29 [zR a0, zI a1, zI a2, zU, zU] [] sh pp mm Q) ∧ (¬ s1 < s0 → zS 217 87 [zR a0, zI a1, zU, zU, zU] [] sh pp mm Q) := s_ifn cM_hangTogether_26 cM_hangTogether_29 cM_hangTogether_87 rfl rfl rfl
theorem rM_hangTogether_29 {a0 : Nat} {a1 a2 : Int} {u3 u4 : zV} : zS 217 29 [zR a0, zI a1, zI a2, u3, u4] [] sh pp mm Q ↔ zS 217 30 [zR a0, zI a1, zI a2, zU, zU] [zI 0] sh pp mm Q := s_go cM_hangTogether_29 cM_hangTogether_30 rfl rfl
theorem rM_hangTogether_30 {a0 : Nat} {a1 a2 s0 : Int} {u3 u4 : zV} : zS 217 30 [zR a0, zI a1, zI a2, u3, u4] [zI s0] sh pp mm Q ↔ zS 217 31 [zR a0, zI a1, zI a2, zI s0, zU] [] sh pp mm Q := s_go cM_hangTogether_30 cM_hangTogether_31 rfl rfl
theorem rM_hangTogether_31 {a0 : Nat} {a1 a2 a3 : Int} {u4 : zV} : zS 217 31 [zR a0, zI a1, zI a2, zI a3, u4] [] sh pp mm Q ↔ zS 217 32 [zR a0, zI a1, zI a2, zI a3, zU] [zI a3] sh pp mm Q := s_go cM_hangTogether_31 cM_hangTogether_32 rfl rfl
theorem rM_hangTogether_32 {a0 : Nat} {a1 a2 a3 s0 : Int} {u4 : zV} : zS 217 32 [zR a0, zI a1, zI a2, zI a3, u4] [zI s0] sh pp mm Q ↔ zS 217 33 [zR a0, zI a1, zI a2, zI a3, zU] [zR a0, zI s0] sh pp mm Q := s_go cM_hangTogether_32 cM_hangTogether_33 rfl rfl
theorem rM_hangTogether_33 {a0 s0 : Nat} {a1 a2 a3 s1 : Int} {u4 : zV} : zS 217 33 [zR a0, zI a1, zI a2, zI a3, u4] [zR s0, zI s1] sh pp mm Q ↔ zS 217 34 [zR a0, zI a1, zI a2, zI a3, zU] [zI 2, zR s0, zI s1] sh pp mm Q := s_go cM_hangTogether_33 cM_hangTogether_34 rfl rfl
theorem rM_hangTogether_34 {a0 s1 : Nat} {a1 a2 a3 s0 s2 : Int} {u4 : zV} (hk : zKd sh s1 = 12) : zS 217 34 [zR a0, zI a1, zI a2, zI a3, u4] [zI s0, zR s1, zI s2] sh pp mm Q ↔ zS 169 0 [zR s1, zI s0] [] sh pp mm (fun v sh pp mm => zS 217 37 [zR a0, zI a1, zI a2, zI a3, zU] (zPush v [zI s2]) sh pp mm Q) := s_call cM_hangTogether_34 cM_hangTogether_37 ((if_pos hk).trans rfl) rfl
theorem rM_hangTogether_37 {a0 : Nat} {a1 a2 a3 s0 s1 : Int} {u4 : zV} : zS 217 37 [zR a0, zI a1, zI a2, zI a3, u4] [zI s0, zI s1] sh pp mm Q ↔ (s1 < s0 → zS 217 40 [zR a0, zI a1, zI a2, zI a3, zU] [] sh pp mm Q) ∧ (¬ s1 < s0 → zS 217 81 [zR a0, zI a1, zI a2, zU, zU] [] sh pp mm Q) := s_ifn cM_hangTogether_37 cM_hangTogether_40 cM_hangTogether_81 rfl rfl rfl
theorem rM_hangTogether_40 {a0 : Nat} {a1 a2 a3 : Int} {u4 : zV} : zS 217 40 [zR a0, zI a1, zI a2, zI a3, u4] [] sh pp mm Q ↔ zS 217 41 [zR a0, zI a1, zI a2, zI a3, zU] [zI 1] sh pp mm Q := s_go cM_hangTogether_40 cM_hangTogether_41 rfl rfl
theorem rM_hangTogether_41 {a0 : Nat} {a1 a2 a3 s0 : Int} {u4 : zV} : zS 217 41 [zR a0, zI a1, zI a2, zI a3, u4] [zI s0] sh pp mm Q ↔ zS 217 42 [zR a0, zI a1, zI a2, zI a3, zU] [zR a0, zI s0] sh pp mm Q := s_go cM_hangTogether_41 cM_hangTogether_42 rfl rfl
theorem rM_hangTogether_42 {a0 s0 : Nat} {a1 a2 a3 s1 : Int} {u4 : zV} : zS 217 42 [zR a0, zI a1, zI a2, zI a3, u4] [zR s0, zI s1] sh pp mm Q ↔ zS 217 43 [zR a0, zI a1, zI a2, zI a3, zU] [zI a3, zR s0, zI s1] sh pp mm Q := s_go cM_hangTogether_42 cM_hangTogether_43 rfl rfl
theorem rM_hangTogether_43 {a0 s1 : Nat} {a1 a2 a3 s0 s2 : Int} {u4 : zV} : zS 217 43 [zR a0, zI a1, zI a2, zI a3, u4] [zI s0, zR s1, zI s2] sh pp mm Q ↔ zS 217 44 [zR a0, zI a1, zI a2, zI a3, zU] [zI 0, zI s0, zR s1, zI s2] sh pp mm Q := s_go cM_hangTogether_43 cM_hangTogether_44 rfl rfl
theorem rM_hangTogether_44 {a0 s2 : Nat} {a1 a2 a3 s0 s1 s3 : Int} {u4 : zV} (hk : zKd sh s2 = 12) : zS 217 44 [zR a0, zI a1, zI a2, zI a3, u4] [zI s0, zI s1, zR s2, zI s3] sh pp mm Q ↔ zS 212 0 [zR s2, zI s1, zI s0] [] sh pp mm (fun v sh pp mm => zS 217 47 [zR a0, zI a1, zI a2, zI a3, zU] (zPush v [zI s3]) sh pp mm Q) := s_call cM_hangTogether_44 cM_hangTogether_47 ((if_pos hk).trans rfl) rfl
theorem rM_hangTogether_47 {a0 : Nat} {a1 a2 a3 s0 s1 : Int} {u4 : zV} : zS 217 47 [zR a0, zI a1, zI a2, zI a3, u4] [zI s0, zI s1] sh pp mm Q ↔ zS 217 48 [zR a0, zI a1, zI a2, zI a3, zU] [zI (zshl s1 s0)] sh pp mm Q := s_go cM_hangTogether_47 cM_hangTogether_48 rfl rfl
theorem rM_hangTogether_48 {a0 : Nat} {a1 a2 a3 s0 : Int} {u4 : zV} : zS 217 48 [zR a0, zI a1, zI a2, zI a3, u4] [zI s0] sh pp mm Q ↔ zS 217 49 [zR a0, zI a1, zI a2, zI a3, zU] [zI 1, zI s0] sh pp mm Q := s_go cM_hangTogether_48 cM_hangTogether_49 rfl rfl
theorem rM_hangTogether_49 {a0 : Nat} {a1 a2 a3 s0 s1 : Int} {u4 : zV} : zS 217 49 [zR a0, zI a1, zI a2, zI a3, u4] [zI s0, zI s1] sh pp mm Q ↔ zS 217 50 [zR a0, zI a1, zI a2, zI a3, zU] [zR a0, zI s0, zI s1] sh pp mm Q := s_go cM_hangTogether_49 cM_hangTogether_50 rfl rfl
theorem rM_hangTogether_50 {a0 s0 : Nat} {a1 a2 a3 s1 s2 : Int} {u4 : zV} : zS 217 50 [zR a0, zI a1, zI a2, zI a3, u4] [zR s0, zI s1, zI s2] sh pp mm Q ↔ zS 217 51 [zR a0, zI a1, zI a2, zI a3, zU] [zI a3, zR s0, zI s1, zI s2] sh pp mm Q := s_go cM_hangTogether_50 cM_hangTogether_51 rfl rfl
theorem rM_hangTogether_51 {a0 s1 : Nat} {a1 a2 a3 s0 s2 s3 : Int} {u4 : zV} : zS 217 51 [zR a0, zI a1, zI a2, zI a3, u4] [zI s0, zR s1, zI s2, zI s3] sh pp mm Q ↔ zS 217 52 [zR a0, zI a1, zI a2, zI a3, zU] [zI 1, zI s0, zR s1, zI s2, zI s3] sh pp mm Q := s_go cM_hangTogether_51 cM_hangTogether_52 rfl rfl
theorem rM_hangTogether_52 {a0 s2 : Nat} {a1 a2 a3 s0 s1 s3 s4 : Int} {u4 : zV} (hk : zKd sh s2 = 12) : zS 217 52 [zR a0, zI a1, zI a2, zI a3, u4] [zI s0, zI s1, zR s2, zI s3, zI s4] sh pp mm Q ↔ zS 212 0 [zR s2, zI s1, zI s0] [] sh pp mm (fun v sh pp mm => zS 217 55 [zR a0, zI a1, zI a2, zI a3, zU] (zPush v [zI s3, zI s4]) sh pp mm Q) := s_call cM_hangTogether_52 cM_hangTogether_55 ((if_pos hk).trans rfl) rfl
theorem rM_hangTogether_55 {a0 : Nat} {a1 a2 a3 s0 s1 s2 : Int} {u4 : zV} : zS 217 55 [zR a0, zI a1, zI a2, zI a3, u4] [zI s0, zI s1, zI s2] sh pp mm Q ↔ zS 217 56 [zR a0, zI a1, zI a2, zI a3, zU] [zI (zshl s1 s0), zI s2] sh pp mm Q := s_go cM_hangTogether_55 cM_hangTogether_56 rfl rfl
theorem rM_hangTogether_56 {a0 : Nat} {a1 a2 a3 s0 s1 : Int} {u4 : zV} : zS 217 56 [zR a0, zI a1, zI a2, zI a3, u4] [zI s0, zI s1] sh pp mm Q ↔ zS 217 57 [zR a0, zI a1, zI a2, zI a3, zU] [zI (zor s1 s0)] sh pp mm Q := s_go cM_hangTogether_56 cM_hangTogether_57 rfl rfl
theorem rM_hangTogether_57 {a0 : Nat} {a1 a2 a3 s0 : Int} {u4 : zV} : zS 217 57 [zR a0, zI a1, zI a2, zI a3, u4] [zI s0] sh pp mm Q ↔ zS 217 59 [zR a0, zI a1, zI a2, zI a3, zI s0] [] sh pp mm Q := s_go cM_hangTogether_57 cM_hangTogether_59 rfl rfl
theorem rM_hangTogether_59 {a0 : Nat} {a1 a2 a3 a4 : Int} : zS 217 59 [zR a0, zI a1, zI a2, zI a3, zI a4] [] sh pp mm Q ↔ zS 217 60 [zR a0, zI a1, zI a2, zI a3, zI a4] [zI a1] sh pp mm Q := s_go cM_hangTogether_59 cM_hangTogether_60 rfl rfl
theorem rM_hangTogether_60 {a0 : Nat} {a1 a2 a3 a4 s0 : Int} : zS 217 60 [zR a0, zI a1, zI a2, zI a3, zI a4] [zI s0] sh pp mm Q ↔ zS 217 62 [zR a0, zI a1, zI a2, zI a3, zI a4] [zI a4, zI s0] sh pp mm Q := s_go cM_hangTogether_60 cM_hangTogether_62 rfl rfl
theorem rM_hangTogether_62 {a0 : Nat} {a1 a2 a3 a4 s0 s1 : Int} : zS 217 62 [zR a0, zI a1, zI a2, zI a3, zI a4] [zI s0, zI s1] sh pp mm Q ↔ zS 217 63 [zR a0, zI a1, zI a2, zI a3, zI a4] [zI (zand s1 s0)] sh pp mm Q := s_go cM_hangTogether_62 cM_hangTogether_63 rfl rfl
theorem rM_hangTogether_63 {a0 : Nat} {a1 a2 a3 a4 s0 : Int} : zS 217 63 [zR a0, zI a1, zI a2, zI a3, zI a4] [zI s0] sh pp mm Q ↔ (s0 = 0 → zS 217 73 [zR a0, zI a1, zI a2, zI a3, zU] [] sh pp mm Q) ∧ (¬ s0 = 0 → zS 217 66 [zR a0, zI a1, zI a2, zI a3, zI a4] [] sh pp mm Q) := s_if cM_hangTogether_63 cM_hangTogether_73 cM_hangTogether_66 rfl rfl rfl
theorem rM_hangTogether_66 {a0 : Nat} {a1 a2 a3 a4 : Int} : zS 217 66 [zR a0, zI a1, zI a2, zI a3, zI a4] [] sh pp mm Q ↔ zS 217 67 [zR a0, zU, zI a2, zI a3, zI a4] [zI a1] sh pp mm Q := s_go cM_hangTogether_66 cM_hangTogether_67 rfl rfl
theorem rM_hangTogether_67 {a0 : Nat} {a2 a3 a4 s0 : Int} {u1 : zV} : zS 217 67 [zR a0, u1, zI a2, zI a3, zI a4] [zI s0] sh pp mm Q ↔ zS 217 69 [zR a0, zU, zI a2, zI a3, zU] [zI a4, zI s0] sh pp mm Q := s_go cM_hangTogether_67 cM_hangTogether_69 rfl rfl
theorem rM_hangTogether_69 {a0 : Nat} {a2 a3 s0 s1 : Int} {u1 u4 : zV} : zS 217 69 [zR a0, u1, zI a2, zI a3, u4] [zI s0, zI s1] sh pp mm Q ↔ zS 217 70 [zR a0, zU, zI a2, zI a3, zU] [zI (zor s1 s0)] sh pp mm Q := s_go cM_hangTogether_69 cM_hangTogether_70 rfl rfl
theorem rM_hangTogether_70 {a0 : Nat} {a2 a3 s0 : Int} {u1 u4 : zV} : zS 217 70 [zR a0, u1, zI a2, zI a3, u4] [zI s0] sh pp mm Q ↔ zS 217 74 [zR a0, zU, zI a2, zI a3, zU] [zI s0] sh pp mm Q := s_go cM_hangTogether_70 cM_hangTogether_74 rfl rfl
theorem rM_hangTogether_73 {a0 : Nat} {a1 a2 a3 : Int} {u4 : zV} : zS 217 73 [zR a0, zI a1, zI a2, zI a3, u4] [] sh pp mm Q ↔ zS 217 74 [zR a0, zU, zI a2, zI a3, zU] [zI a1] sh pp mm Q := s_go cM_hangTogether_73 cM_hangTogether_74 rfl rfl
theorem rM_hangTogether_74 {a0 : Nat} {a2 a3 s0 : Int} {u1 u4 : zV} : zS 217 74 [zR a0, u1, zI a2, zI a3, u4] [zI s0] sh pp mm Q ↔ zS 217 75 [zR a0, zI s0, zI a2, zI a3, zU] [] sh pp mm Q := s_go cM_hangTogether_74 cM_hangTogether_75 rfl rfl
theorem rM_hangTogether_75 {a0 : Nat} {a1 a2 a3 : Int} {u4 : zV} : zS 217 75 [zR a0, zI a1, zI a2, zI a3, u4] [] sh pp mm Q ↔ zS 217 78 [zR a0, zI a1, zI a2, zI (zw32 (a3 + 1)), zU] [] sh pp mm Q := s_go cM_hangTogether_75 cM_hangTogether_78 rfl rfl
theorem rM_hangTogether_78 {a0 : Nat} {a1 a2 a3 : Int} {u4 : zV} : zS 217 78 [zR a0, zI a1, zI a2, zI a3, u4] [] sh pp mm Q ↔ zS 217 31 [zR a0, zI a1, zI a2, zI a3, zU] [] sh pp mm Q := s_go cM_hangTogether_78 cM_hangTogether_31 rfl rfl
theorem rM_hangTogether_81 {a0 : Nat} {a1 a2 : Int} {u3 u4 : zV} : zS 217 81 [zR a0, zI a1, zI a2, u3, u4] [] sh pp mm Q ↔ zS 217 84 [zR a0, zI a1, zI (zw32 (a2 + 1)), zU, zU] [] sh pp mm Q := s_go cM_hangTogether_81 cM_hangTogether_84 rfl rfl
theorem rM_hangTogether_84 {a0 : Nat} {a1 a2 : Int} {u3 u4 : zV} : zS 217 84 [zR a0, zI a1, zI a2, u3, u4] [] sh pp mm Q ↔ zS 217 23 [zR a0, zI a1, zI a2, zU, zU] [] sh pp mm Q := s_go cM_hangTogether_84 cM_hangTogether_23 rfl rfl
theorem rM_hangTogether_87 {a0 : Nat} {a1 : Int} {u2 u3 u4 : zV} : zS 217 87 [zR a0, zI a1, u2, u3, u4] [] sh pp mm Q ↔ zS 217 88 [zR a0, zI a1, zU, zU, zU] [zI 1] sh pp mm Q := s_go cM_hangTogether_87 cM_hangTogether_88 rfl rfl
theorem rM_hangTogether_88 {a0 : Nat} {a1 s0 : Int} {u2 u3 u4 : zV} : zS 217 88 [zR a0, zI a1, u2, u3, u4] [zI s0] sh pp mm Q ↔ zS 217 89 [zR a0, zI a1, zI s0, zU, zU] [] sh pp mm Q := s_go cM_hangTogether_88 cM_hangTogether_89 rfl rfl
theorem rM_hangTogether_89 {a0 : Nat} {a1 a2 : Int} {u3 u4 : zV} : zS 217 89 [zR a0, zI a1, zI a2, u3, u4] [] sh pp mm Q ↔ zS 217 90 [zR a0, zI a1, zI a2, zU, zU] [zI 0] sh pp mm Q := s_go cM_hangTogether_89 cM_hangTogether_90 rfl rfl
theorem rM_hangTogether_90 {a0 : Nat} {a1 a2 s0 : Int} {u3 u4 : zV} : zS 217 90 [zR a0, zI a1, zI a2, u3, u4] [zI s0] sh pp mm Q ↔ zS 217 91 [zR a0, zI a1, zI a2, zI s0, zU] [] sh pp mm Q := s_go cM_hangTogether_90 cM_hangTogether_91 rfl rfl
theorem rM_hangTogether_91 {a0 : Nat} {a1 a2 a3 : Int} {u4 : zV} : zS 217 91 [zR a0, zI a1, zI a2, zI a3, u4] [] sh pp mm Q ↔ zS 217 92 [zR a0, zI a1, zI a2, zI a3, zU] [zI a3] sh pp mm Q := s_go cM_hangTogether_91 cM_hangTogether_92 rfl rfl
theorem rM_hangTogether_92 {a0 : Nat} {a1 a2 a3 s0 : Int} {u4 : zV} : zS 217 92 [zR a0, zI a1, zI a2, zI a3, u4] [zI s0] sh pp mm Q ↔ zS 217 93 [zR a0, zI a1, zI a2, zI a3, zU] [zR a0, zI s0] sh pp mm Q := s_go cM_hangTogether_92 cM_hangTogether_93 rfl rfl
theorem rM_hangTogether_93 {a0 s0 : Nat} {a1 a2 a3 s1 : Int} {u4 : zV} : zS 217 93 [zR a0, zI a1, zI a2, zI a3, u4] [zR s0, zI s1] sh pp mm Q ↔ zS 217 94 [zR a0, zI a1, zI a2, zI a3, zU] [zI 2, zR s0, zI s1] sh pp mm Q := s_go cM_hangTogether_93 cM_hangTogether_94 rfl rfl
theorem rM_hangTogether_94 {a0 s1 : Nat} {a1 a2 a3 s0 s2 : Int} {u4 : zV} (hk : zKd sh s1 = 12) : zS 217 94 [zR a0, zI a1, zI a2, zI a3, u4] [zI s0, zR s1, zI s2] sh pp mm Q ↔ zS 169 0 [zR s1, zI s0] [] sh pp mm (fun v sh pp mm => zS 217 97 [zR a0, zI a1, zI a2, zI a3, zU] (zPush v [zI s2]) sh pp mm Q) := s_call cM_hangTogether_94 cM_hangTogether_97 ((if_pos hk).trans rfl) rfl
theorem rM_hangTogether_97 {a0 : Nat} {a1 a2 a3 s0 s1 : Int} {u4 : zV} : zS 217 97 [zR a0, zI a1, zI a2, zI a3, u4] [zI s0, zI s1] sh pp mm Q ↔ (s1 < s0 → zS 217 100 [zR a0, zI a1, zI a2, zI a3, zU] [] sh pp mm Q) ∧ (¬ s1 < s0 → zS 217 130 [zU, zU, zI a2, zU, zU] [] sh pp mm Q) := s_ifn cM_hangTogether_97 cM_hangTogether_100 cM_hangTogether_130 rfl rfl rfl
theorem rM_hangTogether_100 {a0 : Nat} {a1 a2 a3 : Int} {u4 : zV} : zS 217 100 [zR a0, zI a1, zI a2, zI a3, u4] [] sh pp mm Q ↔ zS 217 101 [zR a0, zI a1, zU, zI a3, zU] [zI a2] sh pp mm Q := s_go cM_hangTogether_100 cM_hangTogether_101 rfl rfl
theorem rM_hangTogether_101 {a0 : Nat} {a1 a3 s0 : Int} {u2 u4 : zV} : zS 217 101 [zR a0, zI a1, u2, zI a3, u4] [zI s0] sh pp mm Q ↔ (s0 = 0 → zS 217 122 [zR a0, zI a1, zU, zI a3, zU] [] sh pp mm Q) ∧ (¬ s0 = 0 → zS 217 104 [zR a0, zI a1, zU, zI a3, zU] [] sh pp mm Q) := s_if cM_hangTogether_101 cM_hangTogether_122 cM_hangTogether_104 rfl rfl rfl
theorem rM_hangTogether_104 {a0 : Nat} {a1 a3 : Int} {u2 u4 : zV} : zS 217 104 [zR a0, zI a1, u2, zI a3, u4] [] sh pp mm Q ↔ zS 217 105 [zR a0, zI a1, zU, zI a3, zU] [zI a1] sh pp mm Q := s_go cM_hangTogether_104 cM_hangTogether_105 rfl rfl
theorem rM_hangTogether_105 {a0 : Nat} {a1 a3 s0 : Int} {u2 u4 : zV} : zS 217 105 [zR a0, zI a1, u2, zI a3, u4] [zI s0] sh pp mm Q ↔ zS 217 106 [zR a0, zI a1, zU, zI a3, zU] [zR a0, zI s0] sh pp mm Q := s_go cM_hangTogether_105 cM_hangTogether_106 rfl rfl
theorem rM_hangTogether_106 {a0 s0 : Nat} {a1 a3 s1 : Int} {u2 u4 : zV} : zS 217 106 [zR a0, zI a1, u2, zI a3, u4] [zR s0, zI s1] sh pp mm Q ↔ zS 217 107 [zR a0, zI a1, zU, zI a3, zU] [zI a3, zR s0, zI s1] sh pp mm Q := s_go cM_hangTogether_106 cM_hangTogether_107 rfl rfl
theorem rM_hangTogether_107 {a0 s1 : Nat} {a1 a3 s0 s2 : Int} {u2 u4 : zV} : zS 217 107 [zR a0, zI a1, u2, zI a3, u4] [zI s0, zR s1, zI s2] sh pp mm Q ↔ zS 217 108 [zR a0, zI a1, zU, zI a3, zU] [zI 0, zI s0, zR s1, zI s2] sh pp mm Q := s_go cM_hangTogether_107 cM_hangTogether_108 rfl rfl
theorem rM_hangTogether_108 {a0 s2 : Nat} {a1 a3 s0 s1 s3 : Int} {u2 u4 : zV} (hk : zKd sh s2 = 12) : zS 217 108 [zR a0, zI a1, u2, zI a3, u4] [zI s0, zI s1, zR s2, zI s3] sh pp mm Q ↔ zS 212 0 [zR s2, zI s1, zI s0] [] sh pp mm (fun v sh pp mm => zS 217 111 [zR a0, zI a1, zU, zI a3, zU] (zPush v [zI s3]) sh pp mm Q) := s_call cM_hangTogether_108 cM_hangTogether_111 ((if_pos hk).trans rfl) rfl
theorem rM_hangTogether_111 {a0 : Nat} {a1 a3 s0 s1 : Int} {u2 u4 : zV} : zS 217 111 [zR a0, zI a1, u2, zI a3, u4] [zI s0, zI s1] sh pp mm Q ↔ zS 217 112 [zR a0, zI a1, zU, zI a3, zU] [zI (zshr s1 s0)] sh pp mm Q := s_go cM_hangTogether_111 cM_hangTogether_112 rfl rfl
theorem rM_hangTogether_112 {a0 : Nat} {a1 a3 s0 : Int} {u2 u4 : zV} : zS 217 112 [zR a0, zI a1, u2, zI a3, u4] [zI s0] sh pp mm Q ↔ zS 217 113 [zR a0, zI a1, zU, zI a3, zU] [zI 1, zI s0] sh pp mm Q := s_go cM_hangTogether_112 cM_hangTogether_113 rfl rfl
theorem rM_hangTogether_113 {a0 : Nat} {a1 a3 s0 s1 : Int} {u2 u4 : zV} : zS 217 113 [zR a0, zI a1, u2, zI a3, u4] [zI s0, zI s1] sh pp mm Q ↔ zS 217 114 [zR a0, zI a1, zU, zI a3, zU] [zI (zand s1 s0)] sh pp mm Q := s_go cM_hangTogether_113 cM_hangTogether_114 rfl rfl
theorem rM_hangTogether_114 {a0 : Nat} {a1 a3 s0 : Int} {u2 u4 : zV} : zS 217 114 [zR a0, zI a1, u2, zI a3, u4] [zI s0] sh pp mm Q ↔ zS 217 115 [zR a0, zI a1, zU, zI a3, zU] [zI 1, zI s0] sh pp mm Q := s_go cM_hangTogether_114 cM_hangTogether_115 rfl rfl
theorem rM_hangTogether_115 {a0 : Nat} {a1 a3 s0 s1 : Int} {u2 u4 : zV} : zS 217 115 [zR a0, zI a1, u2, zI a3, u4] [zI s0, zI s1] sh pp mm Q ↔ (s1 = s0 → zS 217 118 [zR a0, zI a1, zU, zI a3, zU] [] sh pp mm Q) ∧ (¬ s1 = s0 → zS 217 122 [zR a0, zI a1, zU, zI a3, zU] [] sh pp mm Q) := s_ifn cM_hangTogether_115 cM_hangTogether_118 cM_hangTogether_122 rfl rfl rfl
theorem rM_hangTogether_118 {a0 : Nat} {a1 a3 : Int} {u2 u4 : zV} : zS 217 118 [zR a0, zI a1, u2, zI a3, u4] [] sh pp mm Q ↔ zS 217 119 [zR a0, zI a1, zU, zI a3, zU] [zI 1] sh pp mm Q := s_go cM_hangTogether_118 cM_hangTogether_119 rfl rfl
theorem rM_hangTogether_119 {a0 : Nat} {a1 a3 s0 : Int} {u2 u4 : zV} : zS 217 119 [zR a0, zI a1, u2, zI a3, u4] [zI s0] sh pp mm Q ↔ zS 217 123 [zR a0, zI a1, zU, zI a3, zU] [zI s0] sh pp mm Q := s_go cM_hangTogether_119 cM_hangTogether_123 rfl rfl
theorem rM_hangTogether_122 {a0 : Nat} {a1 a3 : Int} {u2 u4 : zV} : zS 217 122 [zR a0, zI a1, u2, zI a3, u4] [] sh pp mm Q ↔ zS 217 123 [zR a0, zI a1, zU, zI a3, zU] [zI 0] sh pp mm Q := s_go cM_hangTogether_122 cM_hangTogether_123 rfl rfl
theorem rM_hangTogether_123 {a0 : Nat} {a1 a3 s0 : Int} {u2 u4 : zV} : zS 217 123 [zR a0, zI a1, u2, zI a3, u4] [zI s0] sh pp mm Q ↔ zS 217 124 [zR a0, zI a1, zI s0, zI a3, zU] [] sh pp mm Q := s_go cM_hangTogether_123 cM_hangTogether_124 rfl rfl
theorem rM_hangTogether_124 {a0 : Nat} {a1 a2 a3 : Int} {u4 : zV} : zS 217 124 [zR a0, zI a1, zI a2, zI a3, u4] [] sh pp mm Q ↔ zS 217 127 [zR a0, zI a1, zI a2, zI (zw32 (a3 + 1)), zU] [] sh pp mm Q := s_go cM_hangTogether_124 cM_hangTogether_127 rfl rfl
theorem rM_hangTogether_127 {a0 : Nat} {a1 a2 a3 : Int} {u4 : zV} : zS 217 127 [zR a0, zI a1, zI a2, zI a3, u4] [] sh pp mm Q ↔ zS 217 91 [zR a0, zI a1, zI a2, zI a3, zU] [] sh pp mm Q := s_go cM_hangTogether_127 cM_hangTogether_91 rfl rfl
theorem rM_hangTogether_130 {a2 : Int} {u0 u1 u3 u4 : zV} : zS 217 130 [u0, u1, zI a2, u3, u4] [] sh pp mm Q ↔ zS 217 131 [zU, zU, zU, zU, zU] [zI a2] sh pp mm Q := s_go cM_hangTogether_130 cM_hangTogether_131 rfl rfl
theorem rM_hangTogether_131 {s0 : Int} {u0 u1 u2 u3 u4 : zV} (hb : s0 = 0 ∨ s0 = 1) : zS 217 131 [u0, u1, u2, u3, u4] [zI s0] sh pp mm Q ↔ Q (zI s0) sh pp mm := s_ret cM_hangTogether_131 (if_pos (decide_eq_true hb))
theorem cAM_isOnce : ∀ q ∈ zT218, zCode 218 q.1 = some q.2 := zAll (mid := 218) rfl (by decide +kernel)
theorem cAM_isOnce_0 : ∀ q ∈ zT218_0, zCode 218 q.1 = some q.2 := fun q h => cAM_isOnce q (h)
theorem cM_isOnce_0 : zCode 218 0 = some (.aload_n 0, 1, 0, 0, 0, 0, 1) := cAM_isOnce_0 _ (List.mem_of_getElem? (i := 0) rfl)
theorem cM_isOnce_1 : zCode 218 1 = some (.invokevirtual 297, 4, 217, 0, 5, 12, 1) := cAM_isOnce_0 _ (List.mem_of_getElem? (i := 1) rfl)
theorem cM_isOnce_4 : zCode 218 4 = some (.ifCond .eq 22, 7, 26, 0, 0, 0, 1) := cAM_isOnce_0 _ (List.mem_of_getElem? (i := 2) rfl)
theorem cM_isOnce_7 : zCode 218 7 = some (.aload_n 0, 8, 0, 0, 0, 0, 1) := cAM_isOnce_0 _ (List.mem_of_getElem? (i := 3) rfl)
theorem cM_isOnce_8 : zCode 218 8 = some (.aload_n 0, 9, 0, 0, 0, 0, 1) := cAM_isOnce_0 _ (List.mem_of_getElem? (i := 4) rfl)
theorem cM_isOnce_9 : zCode 218 9 = some (.invokevirtual 300, 12, 215, 0, 1, 12, 0) := cAM_isOnce_0 _ (List.mem_of_getElem? (i := 5) rfl)
theorem cM_isOnce_12 : zCode 218 12 = some (.invokevirtual 303, 15, 214, 1, 4, 12, 0) := cAM_isOnce_0 _ (List.mem_of_getElem? (i := 6) rfl)
theorem cM_isOnce_15 : zCode 218 15 = some (.invokestatic 306, 18, 216, 1, 3, 12, 0) := cAM_isOnce_0 _ (List.mem_of_getElem? (i := 7) rfl)
theorem cM_isOnce_18 : zCode 218 18 = some (.iconst 2, 19, 0, 0, 0, 0, 0) := cAM_isOnce_0 _ (List.mem_of_getElem? (i := 8) rfl)
theorem cM_isOnce_19 : zCode 218 19 = some (.if_icmp .gt 7, 22, 26, 0, 0, 0, 0) := cAM_isOnce_0 _ (List.mem_of_getElem? (i := 9) rfl)
theorem cM_isOnce_22 : zCode 218 22 = some (.iconst 1, 23, 0, 0, 0, 0, 0) := cAM_isOnce_0 _ (List.mem_of_getElem? (i := 10) rfl)
theorem cM_isOnce_23 : zCode 218 23 = some (.goto 4, 26, 27, 0, 0, 0, 0) := cAM_isOnce_0 _ (List.mem_of_getElem? (i := 11) rfl)
theorem cM_isOnce_26 : zCode 218 26 = some (.iconst 0, 27, 0, 0, 0, 0, 0) := cAM_isOnce_0 _ (List.mem_of_getElem? (i := 12) rfl)
theorem cM_isOnce_27 : zCode 218 27 = some (.ireturn, 28, 0, 3, 0, 0, 0) := cAM_isOnce_0 _ (List.mem_of_getElem? (i := 13) rfl)
theorem rM_isOnce_0 {a0 : Nat} : zS 218 0 [zR a0] [] sh pp mm Q ↔ zS 218 1 [zR a0] [zR a0] sh pp mm Q := s_go cM_isOnce_0 cM_isOnce_1 rfl rfl
theorem rM_isOnce_1 {a0 s0 : Nat} (hk : zKd sh s0 = 12) : zS 218 1 [zR a0] [zR s0] sh pp mm Q ↔ zS 217 0 [zR s0, zU, zU, zU, zU] [] sh pp mm (fun v sh pp mm => zS 218 4 [zR a0] (zPush v []) sh pp mm Q) := s_call cM_isOnce_1 cM_isOnce_4 ((if_pos hk).trans rfl) rfl
theorem rM_isOnce_4 {a0 : Nat} {s0 : Int} : zS 218 4 [zR a0] [zI s0] sh pp mm Q ↔ (s0 = 0 → zS 218 26 [zU] [] sh pp mm Q) ∧ (¬ s0 = 0 → zS 218 7 [zR a0] [] sh pp mm Q) := s_if cM_isOnce_4 cM_isOnce_26 cM_isOnce_7 rfl rfl rfl
theorem rM_isOnce_7 {a0 : Nat} : zS 218 7 [zR a0] [] sh pp mm Q ↔ zS 218 8 [zR a0] [zR a0] sh pp mm Q := s_go cM_isOnce_7 cM_isOnce_8 rfl rfl
theorem rM_isOnce_8 {a0 s0 : Nat} : zS 218 8 [zR a0] [zR s0] sh pp mm Q ↔ zS 218 9 [zU] [zR a0, zR s0] sh pp mm Q := s_go cM_isOnce_8 cM_isOnce_9 rfl rfl
theorem rM_isOnce_9 {s0 s1 : Nat} {u0 : zV} (hk : zKd sh s0 = 12) : zS 218 9 [u0] [zR s0, zR s1] sh pp mm Q ↔ zS 215 0 [zR s0] [] sh pp mm (fun v sh pp mm => zS 218 12 [zU] (zPush v [zR s1]) sh pp mm Q) := s_call cM_isOnce_9 cM_isOnce_12 ((if_pos hk).trans rfl) rfl
theorem rM_isOnce_12 {s1 : Nat} {s0 : Int} {u0 : zV} (hk : zKd sh s1 = 12) : zS 218 12 [u0] [zI s0, zR s1] sh pp mm Q ↔ zS 214 0 [zR s1, zI s0, zU, zU] [] sh pp mm (fun v sh pp mm => zS 218 15 [zU] (zPush v []) sh pp mm Q) := s_call cM_isOnce_12 cM_isOnce_15 ((if_pos hk).trans rfl) rfl
theorem rM_isOnce_15 {s0 : Int} {u0 : zV} : zS 218 15 [u0] [zI s0] sh pp mm Q ↔ zS 216 0 [zI s0, zU, zU] [] sh pp mm (fun v sh pp mm => zS 218 18 [zU] (zPush v []) sh pp mm Q) := s_call cM_isOnce_15 cM_isOnce_18 rfl rfl
theorem rM_isOnce_18 {s0 : Int} {u0 : zV} : zS 218 18 [u0] [zI s0] sh pp mm Q ↔ zS 218 19 [zU] [zI 2, zI s0] sh pp mm Q := s_go cM_isOnce_18 cM_isOnce_19 rfl rfl
theorem rM_isOnce_19 {s0 s1 : Int} {u0 : zV} : zS 218 19 [u0] [zI s0, zI s1] sh pp mm Q ↔ (s0 < s1 → zS 218 26 [zU] [] sh pp mm Q) ∧ (¬ s0 < s1 → zS 218 22 [zU] [] sh pp mm Q) := s_if cM_isOnce_19 cM_isOnce_26 cM_isOnce_22 rfl rfl rfl
theorem rM_isOnce_22 {u0 : zV} : zS 218 22 [u0] [] sh pp mm Q ↔ zS 218 23 [zU] [zI 1] sh pp mm Q := s_go cM_isOnce_22 cM_isOnce_23 rfl rfl
theorem rM_isOnce_23 {s0 : Int} {u0 : zV} : zS 218 23 [u0] [zI s0] sh pp mm Q ↔ zS 218 27 [zU] [zI s0] sh pp mm Q := s_go cM_isOnce_23 cM_isOnce_27 rfl rfl
theorem rM_isOnce_26 {u0 : zV} : zS 218 26 [u0] [] sh pp mm Q ↔ zS 218 27 [zU] [zI 0] sh pp mm Q := s_go cM_isOnce_26 cM_isOnce_27 rfl rfl
theorem rM_isOnce_27 {s0 : Int} {u0 : zV} (hb : s0 = 0 ∨ s0 = 1) : zS 218 27 [u0] [zI s0] sh pp mm Q ↔ Q (zI s0) sh pp mm := s_ret cM_isOnce_27 (if_pos (decide_eq_true hb))
theorem cAM_odd : ∀ q ∈ zT219, zCode 219 q.1 = some q.2 := zAll (mid := 219) rfl (by decide +kernel)
theorem cAM_odd_0 : ∀ q ∈ zT219_0, zCode 219 q.1 = some q.2 := fun q h => cAM_odd q (h)
theorem cM_odd_0 : zCode 219 0 = some (.aload_n 0, 1, 0, 0, 0, 0, 1) := cAM_odd_0 _ (List.mem_of_getElem? (i := 0) rfl)
theorem cM_odd_1 : zCode 219 1 = some (.aload_n 0, 2, 0, 0, 0, 0, 1) := cAM_odd_0 _ (List.mem_of_getElem? (i := 1) rfl)
theorem cM_odd_2 : zCode 219 2 = some (.invokevirtual 300, 5, 215, 0, 1, 12, 0) := cAM_odd_0 _ (List.mem_of_getElem? (i := 2) rfl)
theorem cM_odd_5 : zCode 219 5 = some (.invokevirtual 303, 8, 214, 1, 4, 12, 0) := cAM_odd_0 _ (List.mem_of_getElem? (i := 3) rfl)
theorem cM_odd_8 : zCode 219 8 = some (.ireturn, 9, 0, 0, 0, 0, 0) := cAM_odd_0 _ (List.mem_of_getElem? (i := 4) rfl)
theorem rM_odd_0 {a0 : Nat} : zS 219 0 [zR a0] [] sh pp mm Q ↔ zS 219 1 [zR a0] [zR a0] sh pp mm Q := s_go cM_odd_0 cM_odd_1 rfl rfl
theorem rM_odd_1 {a0 s0 : Nat} : zS 219 1 [zR a0] [zR s0] sh pp mm Q ↔ zS 219 2 [zU] [zR a0, zR s0] sh pp mm Q := s_go cM_odd_1 cM_odd_2 rfl rfl
theorem rM_odd_2 {s0 s1 : Nat} {u0 : zV} (hk : zKd sh s0 = 12) : zS 219 2 [u0] [zR s0, zR s1] sh pp mm Q ↔ zS 215 0 [zR s0] [] sh pp mm (fun v sh pp mm => zS 219 5 [zU] (zPush v [zR s1]) sh pp mm Q) := s_call cM_odd_2 cM_odd_5 ((if_pos hk).trans rfl) rfl
theorem rM_odd_5 {s1 : Nat} {s0 : Int} {u0 : zV} (hk : zKd sh s1 = 12) : zS 219 5 [u0] [zI s0, zR s1] sh pp mm Q ↔ zS 214 0 [zR s1, zI s0, zU, zU] [] sh pp mm (fun v sh pp mm => zS 219 8 [zU] (zPush v []) sh pp mm Q) := s_call cM_odd_5 cM_odd_8 ((if_pos hk).trans rfl) rfl
theorem rM_odd_8 {s0 : Int} {u0 : zV} : zS 219 8 [u0] [zI s0] sh pp mm Q ↔ Q (zI s0) sh pp mm := s_ret cM_odd_8 rfl
theorem cAM_once : ∀ q ∈ zT220, zCode 220 q.1 = some q.2 := zAll (mid := 220) rfl (by decide +kernel)
theorem cAM_once_0 : ∀ q ∈ zT220_0, zCode 220 q.1 = some q.2 := fun q h => cAM_once q (h)
theorem cM_once_0 : zCode 220 0 = some (.aload_n 0, 1, 0, 0, 0, 0, 1) := cAM_once_0 _ (List.mem_of_getElem? (i := 0) rfl)
theorem cM_once_1 : zCode 220 1 = some (.invokevirtual 309, 4, 218, 0, 1, 12, 0) := cAM_once_0 _ (List.mem_of_getElem? (i := 1) rfl)
theorem cM_once_4 : zCode 220 4 = some (.ifCond .eq 7, 7, 11, 0, 0, 0, 0) := cAM_once_0 _ (List.mem_of_getElem? (i := 2) rfl)
theorem cM_once_7 : zCode 220 7 = some (.iconst 1, 8, 0, 0, 0, 0, 0) := cAM_once_0 _ (List.mem_of_getElem? (i := 3) rfl)
theorem cM_once_8 : zCode 220 8 = some (.goto 4, 11, 12, 0, 0, 0, 0) := cAM_once_0 _ (List.mem_of_getElem? (i := 4) rfl)
theorem cM_once_11 : zCode 220 11 = some (.iconst 0, 12, 0, 0, 0, 0, 0) := cAM_once_0 _ (List.mem_of_getElem? (i := 5) rfl)
theorem cM_once_12 : zCode 220 12 = some (.ireturn, 13, 0, 0, 0, 0, 0) := cAM_once_0 _ (List.mem_of_getElem? (i := 6) rfl)
theorem rM_once_0 {a0 : Nat} : zS 220 0 [zR a0] [] sh pp mm Q ↔ zS 220 1 [zU] [zR a0] sh pp mm Q := s_go cM_once_0 cM_once_1 rfl rfl
theorem rM_once_1 {s0 : Nat} {u0 : zV} (hk : zKd sh s0 = 12) : zS 220 1 [u0] [zR s0] sh pp mm Q ↔ zS 218 0 [zR s0] [] sh pp mm (fun v sh pp mm => zS 220 4 [zU] (zPush v []) sh pp mm Q) := s_call cM_once_1 cM_once_4 ((if_pos hk).trans rfl) rfl
theorem rM_once_4 {s0 : Int} {u0 : zV} : zS 220 4 [u0] [zI s0] sh pp mm Q ↔ (s0 = 0 → zS 220 11 [zU] [] sh pp mm Q) ∧ (¬ s0 = 0 → zS 220 7 [zU] [] sh pp mm Q) := s_if cM_once_4 cM_once_11 cM_once_7 rfl rfl rfl
theorem rM_once_7 {u0 : zV} : zS 220 7 [u0] [] sh pp mm Q ↔ zS 220 8 [zU] [zI 1] sh pp mm Q := s_go cM_once_7 cM_once_8 rfl rfl
theorem rM_once_8 {s0 : Int} {u0 : zV} : zS 220 8 [u0] [zI s0] sh pp mm Q ↔ zS 220 12 [zU] [zI s0] sh pp mm Q := s_go cM_once_8 cM_once_12 rfl rfl
theorem rM_once_11 {u0 : zV} : zS 220 11 [u0] [] sh pp mm Q ↔ zS 220 12 [zU] [zI 0] sh pp mm Q := s_go cM_once_11 cM_once_12 rfl rfl
theorem rM_once_12 {s0 : Int} {u0 : zV} : zS 220 12 [u0] [zI s0] sh pp mm Q ↔ Q (zI s0) sh pp mm := s_ret cM_once_12 rfl
theorem cAM_whereBy : ∀ q ∈ zT221, zCode 221 q.1 = some q.2 := zAll (mid := 221) rfl (by decide +kernel)
theorem cAM_whereBy_0 : ∀ q ∈ zT221_0, zCode 221 q.1 = some q.2 := fun q h => cAM_whereBy q (List.mem_append_left _ h)
theorem cAM_whereBy_1 : ∀ q ∈ zT221_1, zCode 221 q.1 = some q.2 := fun q h => cAM_whereBy q (List.mem_append_right _ (List.mem_append_left _ h))
theorem cAM_whereBy_2 : ∀ q ∈ zT221_2, zCode 221 q.1 = some q.2 := fun q h => cAM_whereBy q (List.mem_append_right _ (List.mem_append_right _ h))
theorem cM_whereBy_0 : zCode 221 0 = some (.aload_n 0, 1, 0, 0, 0, 0, 7) := cAM_whereBy_0 _ (List.mem_of_getElem? (i := 0) rfl)
theorem cM_whereBy_1 : zCode 221 1 = some (.iload_n 1, 2, 0, 0, 0, 0, 6) := cAM_whereBy_0 _ (List.mem_of_getElem? (i := 1) rfl)
theorem cM_whereBy_2 : zCode 221 2 = some (.invokevirtual 303, 5, 214, 1, 4, 12, 4) := cAM_whereBy_0 _ (List.mem_of_getElem? (i := 2) rfl)
theorem cM_whereBy_5 : zCode 221 5 = some (.istore_n 3, 6, 0, 0, 0, 0, 4) := cAM_whereBy_0 _ (List.mem_of_getElem? (i := 3) rfl)
theorem cM_whereBy_6 : zCode 221 6 = some (.iload_n 3, 7, 0, 0, 0, 0, 12) := cAM_whereBy_0 _ (List.mem_of_getElem? (i := 4) rfl)
theorem cM_whereBy_7 : zCode 221 7 = some (.ifCond .ne 5, 10, 12, 0, 0, 0, 12) := cAM_whereBy_0 _ (List.mem_of_getElem? (i := 5) rfl)
theorem cM_whereBy_10 : zCode 221 10 = some (.iload_n 2, 11, 0, 0, 0, 0, 4) := cAM_whereBy_0 _ (List.mem_of_getElem? (i := 6) rfl)
theorem cM_whereBy_11 : zCode 221 11 = some (.ireturn, 12, 0, 0, 0, 0, 0) := cAM_whereBy_0 _ (List.mem_of_getElem? (i := 7) rfl)
theorem cM_whereBy_12 : zCode 221 12 = some (.iload_n 3, 13, 0, 0, 0, 0, 12) := cAM_whereBy_0 _ (List.mem_of_getElem? (i := 8) rfl)
theorem cM_whereBy_13 : zCode 221 13 = some (.iconst 1, 14, 0, 0, 0, 0, 12) := cAM_whereBy_0 _ (List.mem_of_getElem? (i := 9) rfl)
theorem cM_whereBy_14 : zCode 221 14 = some (.iload_n 2, 15, 0, 0, 0, 0, 12) := cAM_whereBy_0 _ (List.mem_of_getElem? (i := 10) rfl)
theorem cM_whereBy_15 : zCode 221 15 = some (.ishl, 16, 0, 0, 0, 0, 12) := cAM_whereBy_0 _ (List.mem_of_getElem? (i := 11) rfl)
theorem cM_whereBy_16 : zCode 221 16 = some (.iconst (-1), 17, 0, 0, 0, 0, 12) := cAM_whereBy_0 _ (List.mem_of_getElem? (i := 12) rfl)
theorem cM_whereBy_17 : zCode 221 17 = some (.ixor, 18, 0, 0, 0, 0, 12) := cAM_whereBy_0 _ (List.mem_of_getElem? (i := 13) rfl)
theorem cM_whereBy_18 : zCode 221 18 = some (.iand, 19, 0, 0, 0, 0, 12) := cAM_whereBy_0 _ (List.mem_of_getElem? (i := 14) rfl)
theorem cM_whereBy_19 : zCode 221 19 = some (.istore 4, 21, 0, 0, 0, 0, 12) := cAM_whereBy_0 _ (List.mem_of_getElem? (i := 15) rfl)
theorem cM_whereBy_21 : zCode 221 21 = some (.iload_n 3, 22, 0, 0, 0, 0, 28) := cAM_whereBy_1 _ (List.mem_of_getElem? (i := 0) rfl)
theorem cM_whereBy_22 : zCode 221 22 = some (.iload_n 2, 23, 0, 0, 0, 0, 28) := cAM_whereBy_1 _ (List.mem_of_getElem? (i := 1) rfl)
theorem cM_whereBy_23 : zCode 221 23 = some (.ishr, 24, 0, 0, 0, 0, 24) := cAM_whereBy_1 _ (List.mem_of_getElem? (i := 2) rfl)
theorem cM_whereBy_24 : zCode 221 24 = some (.iconst 1, 25, 0, 0, 0, 0, 24) := cAM_whereBy_1 _ (List.mem_of_getElem? (i := 3) rfl)
theorem cM_whereBy_25 : zCode 221 25 = some (.iand, 26, 0, 0, 0, 0, 24) := cAM_whereBy_1 _ (List.mem_of_getElem? (i := 4) rfl)
theorem cM_whereBy_26 : zCode 221 26 = some (.ifCond .eq 11, 29, 37, 0, 0, 0, 24) := cAM_whereBy_1 _ (List.mem_of_getElem? (i := 5) rfl)
theorem cM_whereBy_29 : zCode 221 29 = some (.iload_n 3, 30, 0, 0, 0, 0, 24) := cAM_whereBy_1 _ (List.mem_of_getElem? (i := 6) rfl)
theorem cM_whereBy_30 : zCode 221 30 = some (.invokestatic 306, 33, 216, 1, 3, 12, 16) := cAM_whereBy_1 _ (List.mem_of_getElem? (i := 7) rfl)
theorem cM_whereBy_33 : zCode 221 33 = some (.iconst 2, 34, 0, 0, 0, 0, 16) := cAM_whereBy_1 _ (List.mem_of_getElem? (i := 8) rfl)
theorem cM_whereBy_34 : zCode 221 34 = some (.if_icmp .eq 5, 37, 39, 0, 0, 0, 16) := cAM_whereBy_1 _ (List.mem_of_getElem? (i := 9) rfl)
theorem cM_whereBy_37 : zCode 221 37 = some (.iconst (-1), 38, 0, 0, 0, 0, 0) := cAM_whereBy_1 _ (List.mem_of_getElem? (i := 10) rfl)
theorem cM_whereBy_38 : zCode 221 38 = some (.ireturn, 39, 0, 0, 0, 0, 0) := cAM_whereBy_1 _ (List.mem_of_getElem? (i := 11) rfl)
theorem cM_whereBy_39 : zCode 221 39 = some (.iconst 0, 40, 0, 0, 0, 0, 16) := cAM_whereBy_1 _ (List.mem_of_getElem? (i := 12) rfl)
theorem cM_whereBy_40 : zCode 221 40 = some (.istore 5, 42, 0, 0, 0, 0, 16) := cAM_whereBy_1 _ (List.mem_of_getElem? (i := 13) rfl)
theorem cM_whereBy_42 : zCode 221 42 = some (.iload 4, 44, 0, 0, 0, 0, 48) := cAM_whereBy_1 _ (List.mem_of_getElem? (i := 14) rfl)
theorem cM_whereBy_44 : zCode 221 44 = some (.iload 5, 46, 0, 0, 0, 0, 48) := cAM_whereBy_1 _ (List.mem_of_getElem? (i := 15) rfl)
theorem cM_whereBy_46 : zCode 221 46 = some (.ishr, 47, 0, 0, 0, 0, 48) := cAM_whereBy_2 _ (List.mem_of_getElem? (i := 0) rfl)
theorem cM_whereBy_47 : zCode 221 47 = some (.iconst 1, 48, 0, 0, 0, 0, 48) := cAM_whereBy_2 _ (List.mem_of_getElem? (i := 1) rfl)
theorem cM_whereBy_48 : zCode 221 48 = some (.if_icmp .eq 9, 51, 57, 0, 0, 0, 48) := cAM_whereBy_2 _ (List.mem_of_getElem? (i := 2) rfl)
theorem cM_whereBy_51 : zCode 221 51 = some (.iinc 5 1, 54, 0, 0, 0, 0, 48) := cAM_whereBy_2 _ (List.mem_of_getElem? (i := 3) rfl)
theorem cM_whereBy_54 : zCode 221 54 = some (.goto (-12), 57, 42, 0, 0, 0, 48) := cAM_whereBy_2 _ (List.mem_of_getElem? (i := 4) rfl)
theorem cM_whereBy_57 : zCode 221 57 = some (.iload 5, 59, 0, 0, 0, 0, 32) := cAM_whereBy_2 _ (List.mem_of_getElem? (i := 5) rfl)
theorem cM_whereBy_59 : zCode 221 59 = some (.ireturn, 60, 0, 0, 0, 0, 0) := cAM_whereBy_2 _ (List.mem_of_getElem? (i := 6) rfl)
theorem rM_whereBy_0 {a0 : Nat} {a1 a2 : Int} {u3 u4 u5 : zV} : zS 221 0 [zR a0, zI a1, zI a2, u3, u4, u5] [] sh pp mm Q ↔ zS 221 1 [zU, zI a1, zI a2, zU, zU, zU] [zR a0] sh pp mm Q := s_go cM_whereBy_0 cM_whereBy_1 rfl rfl
theorem rM_whereBy_1 {s0 : Nat} {a1 a2 : Int} {u0 u3 u4 u5 : zV} : zS 221 1 [u0, zI a1, zI a2, u3, u4, u5] [zR s0] sh pp mm Q ↔ zS 221 2 [zU, zU, zI a2, zU, zU, zU] [zI a1, zR s0] sh pp mm Q := s_go cM_whereBy_1 cM_whereBy_2 rfl rfl
theorem rM_whereBy_2 {s1 : Nat} {a2 s0 : Int} {u0 u1 u3 u4 u5 : zV} (hk : zKd sh s1 = 12) : zS 221 2 [u0, u1, zI a2, u3, u4, u5] [zI s0, zR s1] sh pp mm Q ↔ zS 214 0 [zR s1, zI s0, zU, zU] [] sh pp mm (fun v sh pp mm => zS 221 5 [zU, zU, zI a2, zU, zU, zU] (zPush v []) sh pp mm Q) := s_call cM_whereBy_2 cM_whereBy_5 ((if_pos hk).trans rfl) rfl
theorem rM_whereBy_5 {a2 s0 : Int} {u0 u1 u3 u4 u5 : zV} : zS 221 5 [u0, u1, zI a2, u3, u4, u5] [zI s0] sh pp mm Q ↔ zS 221 6 [zU, zU, zI a2, zI s0, zU, zU] [] sh pp mm Q := s_go cM_whereBy_5 cM_whereBy_6 rfl rfl
theorem rM_whereBy_6 {a2 a3 : Int} {u0 u1 u4 u5 : zV} : zS 221 6 [u0, u1, zI a2, zI a3, u4, u5] [] sh pp mm Q ↔ zS 221 7 [zU, zU, zI a2, zI a3, zU, zU] [zI a3] sh pp mm Q := s_go cM_whereBy_6 cM_whereBy_7 rfl rfl
theorem rM_whereBy_7 {a2 a3 s0 : Int} {u0 u1 u4 u5 : zV} : zS 221 7 [u0, u1, zI a2, zI a3, u4, u5] [zI s0] sh pp mm Q ↔ (s0 = 0 → zS 221 10 [zU, zU, zI a2, zU, zU, zU] [] sh pp mm Q) ∧ (¬ s0 = 0 → zS 221 12 [zU, zU, zI a2, zI a3, zU, zU] [] sh pp mm Q) := s_ifn cM_whereBy_7 cM_whereBy_10 cM_whereBy_12 rfl rfl rfl
theorem rM_whereBy_10 {a2 : Int} {u0 u1 u3 u4 u5 : zV} : zS 221 10 [u0, u1, zI a2, u3, u4, u5] [] sh pp mm Q ↔ zS 221 11 [zU, zU, zU, zU, zU, zU] [zI a2] sh pp mm Q := s_go cM_whereBy_10 cM_whereBy_11 rfl rfl
theorem rM_whereBy_11 {s0 : Int} {u0 u1 u2 u3 u4 u5 : zV} : zS 221 11 [u0, u1, u2, u3, u4, u5] [zI s0] sh pp mm Q ↔ Q (zI s0) sh pp mm := s_ret cM_whereBy_11 rfl
theorem rM_whereBy_12 {a2 a3 : Int} {u0 u1 u4 u5 : zV} : zS 221 12 [u0, u1, zI a2, zI a3, u4, u5] [] sh pp mm Q ↔ zS 221 13 [zU, zU, zI a2, zI a3, zU, zU] [zI a3] sh pp mm Q := s_go cM_whereBy_12 cM_whereBy_13 rfl rfl
theorem rM_whereBy_13 {a2 a3 s0 : Int} {u0 u1 u4 u5 : zV} : zS 221 13 [u0, u1, zI a2, zI a3, u4, u5] [zI s0] sh pp mm Q ↔ zS 221 14 [zU, zU, zI a2, zI a3, zU, zU] [zI 1, zI s0] sh pp mm Q := s_go cM_whereBy_13 cM_whereBy_14 rfl rfl
theorem rM_whereBy_14 {a2 a3 s0 s1 : Int} {u0 u1 u4 u5 : zV} : zS 221 14 [u0, u1, zI a2, zI a3, u4, u5] [zI s0, zI s1] sh pp mm Q ↔ zS 221 15 [zU, zU, zI a2, zI a3, zU, zU] [zI a2, zI s0, zI s1] sh pp mm Q := s_go cM_whereBy_14 cM_whereBy_15 rfl rfl
theorem rM_whereBy_15 {a2 a3 s0 s1 s2 : Int} {u0 u1 u4 u5 : zV} : zS 221 15 [u0, u1, zI a2, zI a3, u4, u5] [zI s0, zI s1, zI s2] sh pp mm Q ↔ zS 221 16 [zU, zU, zI a2, zI a3, zU, zU] [zI (zshl s1 s0), zI s2] sh pp mm Q := s_go cM_whereBy_15 cM_whereBy_16 rfl rfl
theorem rM_whereBy_16 {a2 a3 s0 s1 : Int} {u0 u1 u4 u5 : zV} : zS 221 16 [u0, u1, zI a2, zI a3, u4, u5] [zI s0, zI s1] sh pp mm Q ↔ zS 221 17 [zU, zU, zI a2, zI a3, zU, zU] [zI (-1), zI s0, zI s1] sh pp mm Q := s_go cM_whereBy_16 cM_whereBy_17 rfl rfl
theorem rM_whereBy_17 {a2 a3 s0 s1 s2 : Int} {u0 u1 u4 u5 : zV} : zS 221 17 [u0, u1, zI a2, zI a3, u4, u5] [zI s0, zI s1, zI s2] sh pp mm Q ↔ zS 221 18 [zU, zU, zI a2, zI a3, zU, zU] [zI (zxor s1 s0), zI s2] sh pp mm Q := s_go cM_whereBy_17 cM_whereBy_18 rfl rfl
theorem rM_whereBy_18 {a2 a3 s0 s1 : Int} {u0 u1 u4 u5 : zV} : zS 221 18 [u0, u1, zI a2, zI a3, u4, u5] [zI s0, zI s1] sh pp mm Q ↔ zS 221 19 [zU, zU, zI a2, zI a3, zU, zU] [zI (zand s1 s0)] sh pp mm Q := s_go cM_whereBy_18 cM_whereBy_19 rfl rfl
theorem rM_whereBy_19 {a2 a3 s0 : Int} {u0 u1 u4 u5 : zV} : zS 221 19 [u0, u1, zI a2, zI a3, u4, u5] [zI s0] sh pp mm Q ↔ zS 221 21 [zU, zU, zI a2, zI a3, zI s0, zU] [] sh pp mm Q := s_go cM_whereBy_19 cM_whereBy_21 rfl rfl
theorem rM_whereBy_21 {a2 a3 a4 : Int} {u0 u1 u5 : zV} : zS 221 21 [u0, u1, zI a2, zI a3, zI a4, u5] [] sh pp mm Q ↔ zS 221 22 [zU, zU, zI a2, zI a3, zI a4, zU] [zI a3] sh pp mm Q := s_go cM_whereBy_21 cM_whereBy_22 rfl rfl
theorem rM_whereBy_22 {a2 a3 a4 s0 : Int} {u0 u1 u5 : zV} : zS 221 22 [u0, u1, zI a2, zI a3, zI a4, u5] [zI s0] sh pp mm Q ↔ zS 221 23 [zU, zU, zU, zI a3, zI a4, zU] [zI a2, zI s0] sh pp mm Q := s_go cM_whereBy_22 cM_whereBy_23 rfl rfl
theorem rM_whereBy_23 {a3 a4 s0 s1 : Int} {u0 u1 u2 u5 : zV} : zS 221 23 [u0, u1, u2, zI a3, zI a4, u5] [zI s0, zI s1] sh pp mm Q ↔ zS 221 24 [zU, zU, zU, zI a3, zI a4, zU] [zI (zshr s1 s0)] sh pp mm Q := s_go cM_whereBy_23 cM_whereBy_24 rfl rfl
theorem rM_whereBy_24 {a3 a4 s0 : Int} {u0 u1 u2 u5 : zV} : zS 221 24 [u0, u1, u2, zI a3, zI a4, u5] [zI s0] sh pp mm Q ↔ zS 221 25 [zU, zU, zU, zI a3, zI a4, zU] [zI 1, zI s0] sh pp mm Q := s_go cM_whereBy_24 cM_whereBy_25 rfl rfl
theorem rM_whereBy_25 {a3 a4 s0 s1 : Int} {u0 u1 u2 u5 : zV} : zS 221 25 [u0, u1, u2, zI a3, zI a4, u5] [zI s0, zI s1] sh pp mm Q ↔ zS 221 26 [zU, zU, zU, zI a3, zI a4, zU] [zI (zand s1 s0)] sh pp mm Q := s_go cM_whereBy_25 cM_whereBy_26 rfl rfl
theorem rM_whereBy_26 {a3 a4 s0 : Int} {u0 u1 u2 u5 : zV} : zS 221 26 [u0, u1, u2, zI a3, zI a4, u5] [zI s0] sh pp mm Q ↔ (s0 = 0 → zS 221 37 [zU, zU, zU, zU, zU, zU] [] sh pp mm Q) ∧ (¬ s0 = 0 → zS 221 29 [zU, zU, zU, zI a3, zI a4, zU] [] sh pp mm Q) := s_if cM_whereBy_26 cM_whereBy_37 cM_whereBy_29 rfl rfl rfl
theorem rM_whereBy_29 {a3 a4 : Int} {u0 u1 u2 u5 : zV} : zS 221 29 [u0, u1, u2, zI a3, zI a4, u5] [] sh pp mm Q ↔ zS 221 30 [zU, zU, zU, zU, zI a4, zU] [zI a3] sh pp mm Q := s_go cM_whereBy_29 cM_whereBy_30 rfl rfl
theorem rM_whereBy_30 {a4 s0 : Int} {u0 u1 u2 u3 u5 : zV} : zS 221 30 [u0, u1, u2, u3, zI a4, u5] [zI s0] sh pp mm Q ↔ zS 216 0 [zI s0, zU, zU] [] sh pp mm (fun v sh pp mm => zS 221 33 [zU, zU, zU, zU, zI a4, zU] (zPush v []) sh pp mm Q) := s_call cM_whereBy_30 cM_whereBy_33 rfl rfl
theorem rM_whereBy_33 {a4 s0 : Int} {u0 u1 u2 u3 u5 : zV} : zS 221 33 [u0, u1, u2, u3, zI a4, u5] [zI s0] sh pp mm Q ↔ zS 221 34 [zU, zU, zU, zU, zI a4, zU] [zI 2, zI s0] sh pp mm Q := s_go cM_whereBy_33 cM_whereBy_34 rfl rfl
theorem rM_whereBy_34 {a4 s0 s1 : Int} {u0 u1 u2 u3 u5 : zV} : zS 221 34 [u0, u1, u2, u3, zI a4, u5] [zI s0, zI s1] sh pp mm Q ↔ (s1 = s0 → zS 221 39 [zU, zU, zU, zU, zI a4, zU] [] sh pp mm Q) ∧ (¬ s1 = s0 → zS 221 37 [zU, zU, zU, zU, zU, zU] [] sh pp mm Q) := s_if cM_whereBy_34 cM_whereBy_39 cM_whereBy_37 rfl rfl rfl
theorem rM_whereBy_37 {u0 u1 u2 u3 u4 u5 : zV} : zS 221 37 [u0, u1, u2, u3, u4, u5] [] sh pp mm Q ↔ zS 221 38 [zU, zU, zU, zU, zU, zU] [zI (-1)] sh pp mm Q := s_go cM_whereBy_37 cM_whereBy_38 rfl rfl
theorem rM_whereBy_38 {s0 : Int} {u0 u1 u2 u3 u4 u5 : zV} : zS 221 38 [u0, u1, u2, u3, u4, u5] [zI s0] sh pp mm Q ↔ Q (zI s0) sh pp mm := s_ret cM_whereBy_38 rfl
theorem rM_whereBy_39 {a4 : Int} {u0 u1 u2 u3 u5 : zV} : zS 221 39 [u0, u1, u2, u3, zI a4, u5] [] sh pp mm Q ↔ zS 221 40 [zU, zU, zU, zU, zI a4, zU] [zI 0] sh pp mm Q := s_go cM_whereBy_39 cM_whereBy_40 rfl rfl
theorem rM_whereBy_40 {a4 s0 : Int} {u0 u1 u2 u3 u5 : zV} : zS 221 40 [u0, u1, u2, u3, zI a4, u5] [zI s0] sh pp mm Q ↔ zS 221 42 [zU, zU, zU, zU, zI a4, zI s0] [] sh pp mm Q := s_go cM_whereBy_40 cM_whereBy_42 rfl rfl
theorem rM_whereBy_42 {a4 a5 : Int} {u0 u1 u2 u3 : zV} : zS 221 42 [u0, u1, u2, u3, zI a4, zI a5] [] sh pp mm Q ↔ zS 221 44 [zU, zU, zU, zU, zI a4, zI a5] [zI a4] sh pp mm Q := s_go cM_whereBy_42 cM_whereBy_44 rfl rfl
theorem rM_whereBy_44 {a4 a5 s0 : Int} {u0 u1 u2 u3 : zV} : zS 221 44 [u0, u1, u2, u3, zI a4, zI a5] [zI s0] sh pp mm Q ↔ zS 221 46 [zU, zU, zU, zU, zI a4, zI a5] [zI a5, zI s0] sh pp mm Q := s_go cM_whereBy_44 cM_whereBy_46 rfl rfl
theorem rM_whereBy_46 {a4 a5 s0 s1 : Int} {u0 u1 u2 u3 : zV} : zS 221 46 [u0, u1, u2, u3, zI a4, zI a5] [zI s0, zI s1] sh pp mm Q ↔ zS 221 47 [zU, zU, zU, zU, zI a4, zI a5] [zI (zshr s1 s0)] sh pp mm Q := s_go cM_whereBy_46 cM_whereBy_47 rfl rfl
theorem rM_whereBy_47 {a4 a5 s0 : Int} {u0 u1 u2 u3 : zV} : zS 221 47 [u0, u1, u2, u3, zI a4, zI a5] [zI s0] sh pp mm Q ↔ zS 221 48 [zU, zU, zU, zU, zI a4, zI a5] [zI 1, zI s0] sh pp mm Q := s_go cM_whereBy_47 cM_whereBy_48 rfl rfl
theorem rM_whereBy_48 {a4 a5 s0 s1 : Int} {u0 u1 u2 u3 : zV} : zS 221 48 [u0, u1, u2, u3, zI a4, zI a5] [zI s0, zI s1] sh pp mm Q ↔ (s1 = s0 → zS 221 57 [zU, zU, zU, zU, zU, zI a5] [] sh pp mm Q) ∧ (¬ s1 = s0 → zS 221 51 [zU, zU, zU, zU, zI a4, zI a5] [] sh pp mm Q) := s_if cM_whereBy_48 cM_whereBy_57 cM_whereBy_51 rfl rfl rfl
theorem rM_whereBy_51 {a4 a5 : Int} {u0 u1 u2 u3 : zV} : zS 221 51 [u0, u1, u2, u3, zI a4, zI a5] [] sh pp mm Q ↔ zS 221 54 [zU, zU, zU, zU, zI a4, zI (zw32 (a5 + 1))] [] sh pp mm Q := s_go cM_whereBy_51 cM_whereBy_54 rfl rfl
theorem rM_whereBy_54 {a4 a5 : Int} {u0 u1 u2 u3 : zV} : zS 221 54 [u0, u1, u2, u3, zI a4, zI a5] [] sh pp mm Q ↔ zS 221 42 [zU, zU, zU, zU, zI a4, zI a5] [] sh pp mm Q := s_go cM_whereBy_54 cM_whereBy_42 rfl rfl
theorem rM_whereBy_57 {a5 : Int} {u0 u1 u2 u3 u4 : zV} : zS 221 57 [u0, u1, u2, u3, u4, zI a5] [] sh pp mm Q ↔ zS 221 59 [zU, zU, zU, zU, zU, zU] [zI a5] sh pp mm Q := s_go cM_whereBy_57 cM_whereBy_59 rfl rfl
theorem rM_whereBy_59 {s0 : Int} {u0 u1 u2 u3 u4 u5 : zV} : zS 221 59 [u0, u1, u2, u3, u4, u5] [zI s0] sh pp mm Q ↔ Q (zI s0) sh pp mm := s_ret cM_whereBy_59 rfl
theorem cAM_findEnds : ∀ q ∈ zT222, zCode 222 q.1 = some q.2 := zAll (mid := 222) rfl (by decide +kernel)
theorem cAM_findEnds_0 : ∀ q ∈ zT222_0, zCode 222 q.1 = some q.2 := fun q h => cAM_findEnds q (List.mem_append_left _ h)
theorem cAM_findEnds_1 : ∀ q ∈ zT222_1, zCode 222 q.1 = some q.2 := fun q h => cAM_findEnds q (List.mem_append_right _ (List.mem_append_left _ h))
theorem cAM_findEnds_2 : ∀ q ∈ zT222_2, zCode 222 q.1 = some q.2 := fun q h => cAM_findEnds q (List.mem_append_right _ (List.mem_append_right _ (List.mem_append_left _ h)))
theorem cAM_findEnds_3 : ∀ q ∈ zT222_3, zCode 222 q.1 = some q.2 := fun q h => cAM_findEnds q (List.mem_append_right _ (List.mem_append_right _ (List.mem_append_right _ (List.mem_append_left _ h))))
theorem cAM_findEnds_4 : ∀ q ∈ zT222_4, zCode 222 q.1 = some q.2 := fun q h => cAM_findEnds q (List.mem_append_right _ (List.mem_append_right _ (List.mem_append_right _ (List.mem_append_right _ (List.mem_append_left _ h)))))
theorem cAM_findEnds_5 : ∀ q ∈ zT222_5, zCode 222 q.1 = some q.2 := fun q h => cAM_findEnds q (List.mem_append_right _ (List.mem_append_right _ (List.mem_append_right _ (List.mem_append_right _ (List.mem_append_right _ h)))))
theorem cM_findEnds_0 : zCode 222 0 = some (.aload_n 0, 1, 0, 0, 0, 0, 3) := cAM_findEnds_0 _ (List.mem_of_getElem? (i := 0) rfl)
theorem cM_findEnds_1 : zCode 222 1 = some (.invokevirtual 300, 4, 215, 0, 1, 12, 3) := cAM_findEnds_0 _ (List.mem_of_getElem? (i := 1) rfl)
theorem cM_findEnds_4 : zCode 222 4 = some (.istore_n 2, 5, 0, 0, 0, 0, 3) := cAM_findEnds_0 _ (List.mem_of_getElem? (i := 2) rfl)
theorem cM_findEnds_5 : zCode 222 5 = some (.iload_n 2, 6, 0, 0, 0, 0, 7) := cAM_findEnds_0 _ (List.mem_of_getElem? (i := 3) rfl)
theorem cM_findEnds_6 : zCode 222 6 = some (.ifCond .lt 145, 9, 151, 0, 0, 0, 7) := cAM_findEnds_0 _ (List.mem_of_getElem? (i := 4) rfl)
theorem cM_findEnds_9 : zCode 222 9 = some (.aload_n 0, 10, 0, 0, 0, 0, 7) := cAM_findEnds_0 _ (List.mem_of_getElem? (i := 5) rfl)
theorem cM_findEnds_10 : zCode 222 10 = some (.getfield 54, 13, 12, 30, 2, 1239, 7) := cAM_findEnds_0 _ (List.mem_of_getElem? (i := 6) rfl)
theorem cM_findEnds_13 : zCode 222 13 = some (.iload_n 2, 14, 0, 0, 0, 0, 7) := cAM_findEnds_0 _ (List.mem_of_getElem? (i := 7) rfl)
theorem cM_findEnds_14 : zCode 222 14 = some (.aload_n 0, 15, 0, 0, 0, 0, 7) := cAM_findEnds_0 _ (List.mem_of_getElem? (i := 8) rfl)
theorem cM_findEnds_15 : zCode 222 15 = some (.iload_n 2, 16, 0, 0, 0, 0, 7) := cAM_findEnds_0 _ (List.mem_of_getElem? (i := 9) rfl)
theorem cM_findEnds_16 : zCode 222 16 = some (.iload_n 1, 17, 0, 0, 0, 0, 7) := cAM_findEnds_0 _ (List.mem_of_getElem? (i := 10) rfl)
theorem cM_findEnds_17 : zCode 222 17 = some (.invokevirtual 312, 20, 221, 2, 6, 12, 7) := cAM_findEnds_0 _ (List.mem_of_getElem? (i := 11) rfl)
theorem cM_findEnds_20 : zCode 222 20 = some (.iastore, 21, 0, 0, 0, 0, 7) := cAM_findEnds_0 _ (List.mem_of_getElem? (i := 12) rfl)
theorem cM_findEnds_21 : zCode 222 21 = some (.aload_n 0, 22, 0, 0, 0, 0, 7) := cAM_findEnds_0 _ (List.mem_of_getElem? (i := 13) rfl)
theorem cM_findEnds_22 : zCode 222 22 = some (.getfield 57, 25, 12, 31, 2, 1240, 7) := cAM_findEnds_0 _ (List.mem_of_getElem? (i := 14) rfl)
theorem cM_findEnds_25 : zCode 222 25 = some (.iload_n 2, 26, 0, 0, 0, 0, 7) := cAM_findEnds_0 _ (List.mem_of_getElem? (i := 15) rfl)
theorem cM_findEnds_26 : zCode 222 26 = some (.iload_n 2, 27, 0, 0, 0, 0, 7) := cAM_findEnds_1 _ (List.mem_of_getElem? (i := 0) rfl)
theorem cM_findEnds_27 : zCode 222 27 = some (.aload_n 0, 28, 0, 0, 0, 0, 7) := cAM_findEnds_1 _ (List.mem_of_getElem? (i := 1) rfl)
theorem cM_findEnds_28 : zCode 222 28 = some (.invokevirtual 300, 31, 215, 0, 1, 12, 7) := cAM_findEnds_1 _ (List.mem_of_getElem? (i := 2) rfl)
theorem cM_findEnds_31 : zCode 222 31 = some (.if_icmp .ne 17, 34, 48, 0, 0, 0, 7) := cAM_findEnds_1 _ (List.mem_of_getElem? (i := 3) rfl)
theorem cM_findEnds_34 : zCode 222 34 = some (.aload_n 0, 35, 0, 0, 0, 0, 7) := cAM_findEnds_1 _ (List.mem_of_getElem? (i := 4) rfl)
theorem cM_findEnds_35 : zCode 222 35 = some (.getfield 54, 38, 12, 30, 2, 1239, 7) := cAM_findEnds_1 _ (List.mem_of_getElem? (i := 5) rfl)
theorem cM_findEnds_38 : zCode 222 38 = some (.iload_n 2, 39, 0, 0, 0, 0, 7) := cAM_findEnds_1 _ (List.mem_of_getElem? (i := 6) rfl)
theorem cM_findEnds_39 : zCode 222 39 = some (.iaload, 40, 0, 0, 0, 0, 7) := cAM_findEnds_1 _ (List.mem_of_getElem? (i := 7) rfl)
theorem cM_findEnds_40 : zCode 222 40 = some (.iconst (-1), 41, 0, 0, 0, 0, 7) := cAM_findEnds_1 _ (List.mem_of_getElem? (i := 8) rfl)
theorem cM_findEnds_41 : zCode 222 41 = some (.if_icmp .eq 7, 44, 48, 0, 0, 0, 7) := cAM_findEnds_1 _ (List.mem_of_getElem? (i := 9) rfl)
theorem cM_findEnds_44 : zCode 222 44 = some (.iconst 1, 45, 0, 0, 0, 0, 7) := cAM_findEnds_1 _ (List.mem_of_getElem? (i := 10) rfl)
theorem cM_findEnds_45 : zCode 222 45 = some (.goto 4, 48, 49, 0, 0, 0, 7) := cAM_findEnds_1 _ (List.mem_of_getElem? (i := 11) rfl)
theorem cM_findEnds_48 : zCode 222 48 = some (.iconst 0, 49, 0, 0, 0, 0, 7) := cAM_findEnds_1 _ (List.mem_of_getElem? (i := 12) rfl)
theorem cM_findEnds_49 : zCode 222 49 = some (.bastore, 50, 0, 0, 0, 0, 7) := cAM_findEnds_1 _ (List.mem_of_getElem? (i := 13) rfl)
theorem cM_findEnds_50 : zCode 222 50 = some (.iconst 0, 51, 0, 0, 0, 0, 7) := cAM_findEnds_1 _ (List.mem_of_getElem? (i := 14) rfl)
theorem cM_findEnds_51 : zCode 222 51 = some (.istore_n 3, 52, 0, 0, 0, 0, 7) := cAM_findEnds_1 _ (List.mem_of_getElem? (i := 15) rfl)
theorem cM_findEnds_52 : zCode 222 52 = some (.iload_n 3, 53, 0, 0, 0, 0, 15) := cAM_findEnds_2 _ (List.mem_of_getElem? (i := 0) rfl)
theorem cM_findEnds_53 : zCode 222 53 = some (.aload_n 0, 54, 0, 0, 0, 0, 15) := cAM_findEnds_2 _ (List.mem_of_getElem? (i := 1) rfl)
theorem cM_findEnds_54 : zCode 222 54 = some (.iconst 2, 55, 0, 0, 0, 0, 15) := cAM_findEnds_2 _ (List.mem_of_getElem? (i := 2) rfl)
theorem cM_findEnds_55 : zCode 222 55 = some (.invokevirtual 288, 58, 169, 1, 2, 12, 15) := cAM_findEnds_2 _ (List.mem_of_getElem? (i := 3) rfl)
theorem cM_findEnds_58 : zCode 222 58 = some (.if_icmp .ge 87, 61, 145, 0, 0, 0, 15) := cAM_findEnds_2 _ (List.mem_of_getElem? (i := 4) rfl)
theorem cM_findEnds_61 : zCode 222 61 = some (.aload_n 0, 62, 0, 0, 0, 0, 15) := cAM_findEnds_2 _ (List.mem_of_getElem? (i := 5) rfl)
theorem cM_findEnds_62 : zCode 222 62 = some (.getfield 54, 65, 12, 30, 2, 1239, 15) := cAM_findEnds_2 _ (List.mem_of_getElem? (i := 6) rfl)
theorem cM_findEnds_65 : zCode 222 65 = some (.iload_n 2, 66, 0, 0, 0, 0, 15) := cAM_findEnds_2 _ (List.mem_of_getElem? (i := 7) rfl)
theorem cM_findEnds_66 : zCode 222 66 = some (.iaload, 67, 0, 0, 0, 0, 15) := cAM_findEnds_2 _ (List.mem_of_getElem? (i := 8) rfl)
theorem cM_findEnds_67 : zCode 222 67 = some (.iconst (-1), 68, 0, 0, 0, 0, 15) := cAM_findEnds_2 _ (List.mem_of_getElem? (i := 9) rfl)
theorem cM_findEnds_68 : zCode 222 68 = some (.if_icmp .eq 77, 71, 145, 0, 0, 0, 15) := cAM_findEnds_2 _ (List.mem_of_getElem? (i := 10) rfl)
theorem cM_findEnds_71 : zCode 222 71 = some (.iload_n 2, 72, 0, 0, 0, 0, 15) := cAM_findEnds_2 _ (List.mem_of_getElem? (i := 11) rfl)
theorem cM_findEnds_72 : zCode 222 72 = some (.iload_n 3, 73, 0, 0, 0, 0, 15) := cAM_findEnds_2 _ (List.mem_of_getElem? (i := 12) rfl)
theorem cM_findEnds_73 : zCode 222 73 = some (.ishr, 74, 0, 0, 0, 0, 15) := cAM_findEnds_2 _ (List.mem_of_getElem? (i := 13) rfl)
theorem cM_findEnds_74 : zCode 222 74 = some (.iconst 1, 75, 0, 0, 0, 0, 15) := cAM_findEnds_2 _ (List.mem_of_getElem? (i := 14) rfl)
theorem cM_findEnds_75 : zCode 222 75 = some (.iand, 76, 0, 0, 0, 0, 15) := cAM_findEnds_2 _ (List.mem_of_getElem? (i := 15) rfl)
theorem cM_findEnds_76 : zCode 222 76 = some (.ifCond .ne 22, 79, 98, 0, 0, 0, 15) := cAM_findEnds_3 _ (List.mem_of_getElem? (i := 0) rfl)
theorem cM_findEnds_79 : zCode 222 79 = some (.aload_n 0, 80, 0, 0, 0, 0, 15) := cAM_findEnds_3 _ (List.mem_of_getElem? (i := 1) rfl)
theorem cM_findEnds_80 : zCode 222 80 = some (.iload_n 3, 81, 0, 0, 0, 0, 15) := cAM_findEnds_3 _ (List.mem_of_getElem? (i := 2) rfl)
theorem cM_findEnds_81 : zCode 222 81 = some (.aload_n 0, 82, 0, 0, 0, 0, 15) := cAM_findEnds_3 _ (List.mem_of_getElem? (i := 3) rfl)
theorem cM_findEnds_82 : zCode 222 82 = some (.getfield 54, 85, 12, 30, 2, 1239, 15) := cAM_findEnds_3 _ (List.mem_of_getElem? (i := 4) rfl)
theorem cM_findEnds_85 : zCode 222 85 = some (.iload_n 2, 86, 0, 0, 0, 0, 15) := cAM_findEnds_3 _ (List.mem_of_getElem? (i := 5) rfl)
theorem cM_findEnds_86 : zCode 222 86 = some (.iaload, 87, 0, 0, 0, 0, 15) := cAM_findEnds_3 _ (List.mem_of_getElem? (i := 6) rfl)
theorem cM_findEnds_87 : zCode 222 87 = some (.invokevirtual 315, 90, 213, 2, 3, 12, 15) := cAM_findEnds_3 _ (List.mem_of_getElem? (i := 7) rfl)
theorem cM_findEnds_90 : zCode 222 90 = some (.iconst (-1), 91, 0, 0, 0, 0, 15) := cAM_findEnds_3 _ (List.mem_of_getElem? (i := 8) rfl)
theorem cM_findEnds_91 : zCode 222 91 = some (.if_icmp .eq 7, 94, 98, 0, 0, 0, 15) := cAM_findEnds_3 _ (List.mem_of_getElem? (i := 9) rfl)
theorem cM_findEnds_94 : zCode 222 94 = some (.iconst 1, 95, 0, 0, 0, 0, 15) := cAM_findEnds_3 _ (List.mem_of_getElem? (i := 10) rfl)
theorem cM_findEnds_95 : zCode 222 95 = some (.goto 4, 98, 99, 0, 0, 0, 15) := cAM_findEnds_3 _ (List.mem_of_getElem? (i := 11) rfl)
theorem cM_findEnds_98 : zCode 222 98 = some (.iconst 0, 99, 0, 0, 0, 0, 15) := cAM_findEnds_3 _ (List.mem_of_getElem? (i := 12) rfl)
theorem cM_findEnds_99 : zCode 222 99 = some (.istore 4, 101, 0, 0, 0, 0, 15) := cAM_findEnds_3 _ (List.mem_of_getElem? (i := 13) rfl)
theorem cM_findEnds_101 : zCode 222 101 = some (.aload_n 0, 102, 0, 0, 0, 0, 31) := cAM_findEnds_3 _ (List.mem_of_getElem? (i := 14) rfl)
theorem cM_findEnds_102 : zCode 222 102 = some (.getfield 57, 105, 12, 31, 2, 1240, 31) := cAM_findEnds_3 _ (List.mem_of_getElem? (i := 15) rfl)
theorem cM_findEnds_105 : zCode 222 105 = some (.iload_n 2, 106, 0, 0, 0, 0, 31) := cAM_findEnds_4 _ (List.mem_of_getElem? (i := 0) rfl)
theorem cM_findEnds_106 : zCode 222 106 = some (.aload_n 0, 107, 0, 0, 0, 0, 31) := cAM_findEnds_4 _ (List.mem_of_getElem? (i := 1) rfl)
theorem cM_findEnds_107 : zCode 222 107 = some (.getfield 57, 110, 12, 31, 2, 1240, 31) := cAM_findEnds_4 _ (List.mem_of_getElem? (i := 2) rfl)
theorem cM_findEnds_110 : zCode 222 110 = some (.iload_n 2, 111, 0, 0, 0, 0, 31) := cAM_findEnds_4 _ (List.mem_of_getElem? (i := 3) rfl)
theorem cM_findEnds_111 : zCode 222 111 = some (.baload, 112, 0, 0, 0, 0, 31) := cAM_findEnds_4 _ (List.mem_of_getElem? (i := 4) rfl)
theorem cM_findEnds_112 : zCode 222 112 = some (.ifCond .ne 21, 115, 133, 0, 0, 0, 31) := cAM_findEnds_4 _ (List.mem_of_getElem? (i := 5) rfl)
theorem cM_findEnds_115 : zCode 222 115 = some (.iload 4, 117, 0, 0, 0, 0, 31) := cAM_findEnds_4 _ (List.mem_of_getElem? (i := 6) rfl)
theorem cM_findEnds_117 : zCode 222 117 = some (.ifCond .eq 20, 120, 137, 0, 0, 0, 15) := cAM_findEnds_4 _ (List.mem_of_getElem? (i := 7) rfl)
theorem cM_findEnds_120 : zCode 222 120 = some (.aload_n 0, 121, 0, 0, 0, 0, 15) := cAM_findEnds_4 _ (List.mem_of_getElem? (i := 8) rfl)
theorem cM_findEnds_121 : zCode 222 121 = some (.getfield 57, 124, 12, 31, 2, 1240, 15) := cAM_findEnds_4 _ (List.mem_of_getElem? (i := 9) rfl)
theorem cM_findEnds_124 : zCode 222 124 = some (.iload_n 2, 125, 0, 0, 0, 0, 15) := cAM_findEnds_4 _ (List.mem_of_getElem? (i := 10) rfl)
theorem cM_findEnds_125 : zCode 222 125 = some (.iconst 1, 126, 0, 0, 0, 0, 15) := cAM_findEnds_4 _ (List.mem_of_getElem? (i := 11) rfl)
theorem cM_findEnds_126 : zCode 222 126 = some (.iload_n 3, 127, 0, 0, 0, 0, 15) := cAM_findEnds_4 _ (List.mem_of_getElem? (i := 12) rfl)
theorem cM_findEnds_127 : zCode 222 127 = some (.ishl, 128, 0, 0, 0, 0, 15) := cAM_findEnds_4 _ (List.mem_of_getElem? (i := 13) rfl)
theorem cM_findEnds_128 : zCode 222 128 = some (.ior, 129, 0, 0, 0, 0, 15) := cAM_findEnds_4 _ (List.mem_of_getElem? (i := 14) rfl)
theorem cM_findEnds_129 : zCode 222 129 = some (.baload, 130, 0, 0, 0, 0, 15) := cAM_findEnds_4 _ (List.mem_of_getElem? (i := 15) rfl)
theorem cM_findEnds_130 : zCode 222 130 = some (.ifCond .eq 7, 133, 137, 0, 0, 0, 15) := cAM_findEnds_5 _ (List.mem_of_getElem? (i := 0) rfl)
theorem cM_findEnds_133 : zCode 222 133 = some (.iconst 1, 134, 0, 0, 0, 0, 15) := cAM_findEnds_5 _ (List.mem_of_getElem? (i := 1) rfl)
theorem cM_findEnds_134 : zCode 222 134 = some (.goto 4, 137, 138, 0, 0, 0, 15) := cAM_findEnds_5 _ (List.mem_of_getElem? (i := 2) rfl)
theorem cM_findEnds_137 : zCode 222 137 = some (.iconst 0, 138, 0, 0, 0, 0, 15) := cAM_findEnds_5 _ (List.mem_of_getElem? (i := 3) rfl)
theorem cM_findEnds_138 : zCode 222 138 = some (.bastore, 139, 0, 0, 0, 0, 15) := cAM_findEnds_5 _ (List.mem_of_getElem? (i := 4) rfl)
theorem cM_findEnds_139 : zCode 222 139 = some (.iinc 3 1, 142, 0, 0, 0, 0, 15) := cAM_findEnds_5 _ (List.mem_of_getElem? (i := 5) rfl)
theorem cM_findEnds_142 : zCode 222 142 = some (.goto (-90), 145, 52, 0, 0, 0, 15) := cAM_findEnds_5 _ (List.mem_of_getElem? (i := 6) rfl)
theorem cM_findEnds_145 : zCode 222 145 = some (.iinc 2 (-1), 148, 0, 0, 0, 0, 7) := cAM_findEnds_5 _ (List.mem_of_getElem? (i := 7) rfl)
theorem cM_findEnds_148 : zCode 222 148 = some (.goto (-143), 151, 5, 0, 0, 0, 7) := cAM_findEnds_5 _ (List.mem_of_getElem? (i := 8) rfl)
theorem cM_findEnds_151 : zCode 222 151 = some (.return_, 152, 0, 0, 0, 0, 0) := cAM_findEnds_5 _ (List.mem_of_getElem? (i := 9) rfl)
theorem rM_findEnds_0 {a0 : Nat} {a1 : Int} {u2 u3 u4 : zV} : zS 222 0 [zR a0, zI a1, u2, u3, u4] [] sh pp mm Q ↔ zS 222 1 [zR a0, zI a1, zU, zU, zU] [zR a0] sh pp mm Q := s_go cM_findEnds_0 cM_findEnds_1 rfl rfl
theorem rM_findEnds_1 {a0 s0 : Nat} {a1 : Int} {u2 u3 u4 : zV} (hk : zKd sh s0 = 12) : zS 222 1 [zR a0, zI a1, u2, u3, u4] [zR s0] sh pp mm Q ↔ zS 215 0 [zR s0] [] sh pp mm (fun v sh pp mm => zS 222 4 [zR a0, zI a1, zU, zU, zU] (zPush v []) sh pp mm Q) := s_call cM_findEnds_1 cM_findEnds_4 ((if_pos hk).trans rfl) rfl
theorem rM_findEnds_4 {a0 : Nat} {a1 s0 : Int} {u2 u3 u4 : zV} : zS 222 4 [zR a0, zI a1, u2, u3, u4] [zI s0] sh pp mm Q ↔ zS 222 5 [zR a0, zI a1, zI s0, zU, zU] [] sh pp mm Q := s_go cM_findEnds_4 cM_findEnds_5 rfl rfl
theorem rM_findEnds_5 {a0 : Nat} {a1 a2 : Int} {u3 u4 : zV} : zS 222 5 [zR a0, zI a1, zI a2, u3, u4] [] sh pp mm Q ↔ zS 222 6 [zR a0, zI a1, zI a2, zU, zU] [zI a2] sh pp mm Q := s_go cM_findEnds_5 cM_findEnds_6 rfl rfl
theorem rM_findEnds_6 {a0 : Nat} {a1 a2 s0 : Int} {u3 u4 : zV} : zS 222 6 [zR a0, zI a1, zI a2, u3, u4] [zI s0] sh pp mm Q ↔ (s0 < 0 → zS 222 151 [zU, zU, zU, zU, zU] [] sh pp mm Q) ∧ (¬ s0 < 0 → zS 222 9 [zR a0, zI a1, zI a2, zU, zU] [] sh pp mm Q) := s_if cM_findEnds_6 cM_findEnds_151 cM_findEnds_9 rfl rfl rfl
theorem rM_findEnds_9 {a0 : Nat} {a1 a2 : Int} {u3 u4 : zV} : zS 222 9 [zR a0, zI a1, zI a2, u3, u4] [] sh pp mm Q ↔ zS 222 10 [zR a0, zI a1, zI a2, zU, zU] [zR a0] sh pp mm Q := s_go cM_findEnds_9 cM_findEnds_10 rfl rfl
theorem rM_findEnds_10 {a0 s0 : Nat} {a1 a2 : Int} {u3 u4 : zV} (hk : zKd sh s0 = 12) : zS 222 10 [zR a0, zI a1, zI a2, u3, u4] [zR s0] sh pp mm Q ↔ zS 222 13 [zR a0, zI a1, zI a2, zU, zU] [zR (pp s0 30)] sh pp mm Q := s_go cM_findEnds_10 cM_findEnds_13 (if_pos hk) rfl
theorem rM_findEnds_13 {a0 s0 : Nat} {a1 a2 : Int} {u3 u4 : zV} : zS 222 13 [zR a0, zI a1, zI a2, u3, u4] [zR s0] sh pp mm Q ↔ zS 222 14 [zR a0, zI a1, zI a2, zU, zU] [zI a2, zR s0] sh pp mm Q := s_go cM_findEnds_13 cM_findEnds_14 rfl rfl
theorem rM_findEnds_14 {a0 s1 : Nat} {a1 a2 s0 : Int} {u3 u4 : zV} : zS 222 14 [zR a0, zI a1, zI a2, u3, u4] [zI s0, zR s1] sh pp mm Q ↔ zS 222 15 [zR a0, zI a1, zI a2, zU, zU] [zR a0, zI s0, zR s1] sh pp mm Q := s_go cM_findEnds_14 cM_findEnds_15 rfl rfl
theorem rM_findEnds_15 {a0 s0 s2 : Nat} {a1 a2 s1 : Int} {u3 u4 : zV} : zS 222 15 [zR a0, zI a1, zI a2, u3, u4] [zR s0, zI s1, zR s2] sh pp mm Q ↔ zS 222 16 [zR a0, zI a1, zI a2, zU, zU] [zI a2, zR s0, zI s1, zR s2] sh pp mm Q := s_go cM_findEnds_15 cM_findEnds_16 rfl rfl
theorem rM_findEnds_16 {a0 s1 s3 : Nat} {a1 a2 s0 s2 : Int} {u3 u4 : zV} : zS 222 16 [zR a0, zI a1, zI a2, u3, u4] [zI s0, zR s1, zI s2, zR s3] sh pp mm Q ↔ zS 222 17 [zR a0, zI a1, zI a2, zU, zU] [zI a1, zI s0, zR s1, zI s2, zR s3] sh pp mm Q := s_go cM_findEnds_16 cM_findEnds_17 rfl rfl
theorem rM_findEnds_17 {a0 s2 s4 : Nat} {a1 a2 s0 s1 s3 : Int} {u3 u4 : zV} (hk : zKd sh s2 = 12) : zS 222 17 [zR a0, zI a1, zI a2, u3, u4] [zI s0, zI s1, zR s2, zI s3, zR s4] sh pp mm Q ↔ zS 221 0 [zR s2, zI s1, zI s0, zU, zU, zU] [] sh pp mm (fun v sh pp mm => zS 222 20 [zR a0, zI a1, zI a2, zU, zU] (zPush v [zI s3, zR s4]) sh pp mm Q) := s_call cM_findEnds_17 cM_findEnds_20 ((if_pos hk).trans rfl) rfl
theorem rM_findEnds_20 {a0 s2 : Nat} {a1 a2 s0 s1 : Int} {u3 u4 : zV} (hk : zKd sh s2 = 20) (h0 : 0 ≤ s1) (h1 : s1 < zLn sh s2) : zS 222 20 [zR a0, zI a1, zI a2, u3, u4] [zI s0, zI s1, zR s2] sh pp mm Q ↔ zS 222 21 [zR a0, zI a1, zI a2, zU, zU] [] sh pp (zupd mm s2 s1 s0) Q := s_go cM_findEnds_20 cM_findEnds_21 (if_pos ⟨hk, h0, h1, fun h => absurd h (by decide)⟩) rfl
theorem rM_findEnds_21 {a0 : Nat} {a1 a2 : Int} {u3 u4 : zV} : zS 222 21 [zR a0, zI a1, zI a2, u3, u4] [] sh pp mm Q ↔ zS 222 22 [zR a0, zI a1, zI a2, zU, zU] [zR a0] sh pp mm Q := s_go cM_findEnds_21 cM_findEnds_22 rfl rfl
theorem rM_findEnds_22 {a0 s0 : Nat} {a1 a2 : Int} {u3 u4 : zV} (hk : zKd sh s0 = 12) : zS 222 22 [zR a0, zI a1, zI a2, u3, u4] [zR s0] sh pp mm Q ↔ zS 222 25 [zR a0, zI a1, zI a2, zU, zU] [zR (pp s0 31)] sh pp mm Q := s_go cM_findEnds_22 cM_findEnds_25 (if_pos hk) rfl
theorem rM_findEnds_25 {a0 s0 : Nat} {a1 a2 : Int} {u3 u4 : zV} : zS 222 25 [zR a0, zI a1, zI a2, u3, u4] [zR s0] sh pp mm Q ↔ zS 222 26 [zR a0, zI a1, zI a2, zU, zU] [zI a2, zR s0] sh pp mm Q := s_go cM_findEnds_25 cM_findEnds_26 rfl rfl
theorem rM_findEnds_26 {a0 s1 : Nat} {a1 a2 s0 : Int} {u3 u4 : zV} : zS 222 26 [zR a0, zI a1, zI a2, u3, u4] [zI s0, zR s1] sh pp mm Q ↔ zS 222 27 [zR a0, zI a1, zI a2, zU, zU] [zI a2, zI s0, zR s1] sh pp mm Q := s_go cM_findEnds_26 cM_findEnds_27 rfl rfl
theorem rM_findEnds_27 {a0 s2 : Nat} {a1 a2 s0 s1 : Int} {u3 u4 : zV} : zS 222 27 [zR a0, zI a1, zI a2, u3, u4] [zI s0, zI s1, zR s2] sh pp mm Q ↔ zS 222 28 [zR a0, zI a1, zI a2, zU, zU] [zR a0, zI s0, zI s1, zR s2] sh pp mm Q := s_go cM_findEnds_27 cM_findEnds_28 rfl rfl
theorem rM_findEnds_28 {a0 s0 s3 : Nat} {a1 a2 s1 s2 : Int} {u3 u4 : zV} (hk : zKd sh s0 = 12) : zS 222 28 [zR a0, zI a1, zI a2, u3, u4] [zR s0, zI s1, zI s2, zR s3] sh pp mm Q ↔ zS 215 0 [zR s0] [] sh pp mm (fun v sh pp mm => zS 222 31 [zR a0, zI a1, zI a2, zU, zU] (zPush v [zI s1, zI s2, zR s3]) sh pp mm Q) := s_call cM_findEnds_28 cM_findEnds_31 ((if_pos hk).trans rfl) rfl
theorem rM_findEnds_31 {a0 s3 : Nat} {a1 a2 s0 s1 s2 : Int} {u3 u4 : zV} : zS 222 31 [zR a0, zI a1, zI a2, u3, u4] [zI s0, zI s1, zI s2, zR s3] sh pp mm Q ↔ (s1 = s0 → zS 222 34 [zR a0, zI a1, zI a2, zU, zU] [zI s2, zR s3] sh pp mm Q) ∧ (¬ s1 = s0 → zS 222 48 [zR a0, zI a1, zI a2, zU, zU] [zI s2, zR s3] sh pp mm Q) := s_ifn cM_findEnds_31 cM_findEnds_34 cM_findEnds_48 rfl rfl rfl
theorem rM_findEnds_34 {a0 s1 : Nat} {a1 a2 s0 : Int} {u3 u4 : zV} : zS 222 34 [zR a0, zI a1, zI a2, u3, u4] [zI s0, zR s1] sh pp mm Q ↔ zS 222 35 [zR a0, zI a1, zI a2, zU, zU] [zR a0, zI s0, zR s1] sh pp mm Q := s_go cM_findEnds_34 cM_findEnds_35 rfl rfl
theorem rM_findEnds_35 {a0 s0 s2 : Nat} {a1 a2 s1 : Int} {u3 u4 : zV} (hk : zKd sh s0 = 12) : zS 222 35 [zR a0, zI a1, zI a2, u3, u4] [zR s0, zI s1, zR s2] sh pp mm Q ↔ zS 222 38 [zR a0, zI a1, zI a2, zU, zU] [zR (pp s0 30), zI s1, zR s2] sh pp mm Q := s_go cM_findEnds_35 cM_findEnds_38 (if_pos hk) rfl
theorem rM_findEnds_38 {a0 s0 s2 : Nat} {a1 a2 s1 : Int} {u3 u4 : zV} : zS 222 38 [zR a0, zI a1, zI a2, u3, u4] [zR s0, zI s1, zR s2] sh pp mm Q ↔ zS 222 39 [zR a0, zI a1, zI a2, zU, zU] [zI a2, zR s0, zI s1, zR s2] sh pp mm Q := s_go cM_findEnds_38 cM_findEnds_39 rfl rfl
theorem rM_findEnds_39 {a0 s1 s3 : Nat} {a1 a2 s0 s2 : Int} {u3 u4 : zV} (hk : zKd sh s1 = 20 ∨ zKd sh s1 = 30) (h0 : 0 ≤ s0) (h1 : s0 < zLn sh s1) : zS 222 39 [zR a0, zI a1, zI a2, u3, u4] [zI s0, zR s1, zI s2, zR s3] sh pp mm Q ↔ zS 222 40 [zR a0, zI a1, zI a2, zU, zU] [zI (mm s1 s0), zI s2, zR s3] sh pp mm Q := s_go cM_findEnds_39 cM_findEnds_40 (if_pos ⟨hk, h0, h1⟩) rfl
theorem rM_findEnds_40 {a0 s2 : Nat} {a1 a2 s0 s1 : Int} {u3 u4 : zV} : zS 222 40 [zR a0, zI a1, zI a2, u3, u4] [zI s0, zI s1, zR s2] sh pp mm Q ↔ zS 222 41 [zR a0, zI a1, zI a2, zU, zU] [zI (-1), zI s0, zI s1, zR s2] sh pp mm Q := s_go cM_findEnds_40 cM_findEnds_41 rfl rfl
theorem rM_findEnds_41 {a0 s3 : Nat} {a1 a2 s0 s1 s2 : Int} {u3 u4 : zV} : zS 222 41 [zR a0, zI a1, zI a2, u3, u4] [zI s0, zI s1, zI s2, zR s3] sh pp mm Q ↔ (s1 = s0 → zS 222 48 [zR a0, zI a1, zI a2, zU, zU] [zI s2, zR s3] sh pp mm Q) ∧ (¬ s1 = s0 → zS 222 44 [zR a0, zI a1, zI a2, zU, zU] [zI s2, zR s3] sh pp mm Q) := s_if cM_findEnds_41 cM_findEnds_48 cM_findEnds_44 rfl rfl rfl
theorem rM_findEnds_44 {a0 s1 : Nat} {a1 a2 s0 : Int} {u3 u4 : zV} : zS 222 44 [zR a0, zI a1, zI a2, u3, u4] [zI s0, zR s1] sh pp mm Q ↔ zS 222 45 [zR a0, zI a1, zI a2, zU, zU] [zI 1, zI s0, zR s1] sh pp mm Q := s_go cM_findEnds_44 cM_findEnds_45 rfl rfl
theorem rM_findEnds_45 {a0 s2 : Nat} {a1 a2 s0 s1 : Int} {u3 u4 : zV} : zS 222 45 [zR a0, zI a1, zI a2, u3, u4] [zI s0, zI s1, zR s2] sh pp mm Q ↔ zS 222 49 [zR a0, zI a1, zI a2, zU, zU] [zI s0, zI s1, zR s2] sh pp mm Q := s_go cM_findEnds_45 cM_findEnds_49 rfl rfl
theorem rM_findEnds_48 {a0 s1 : Nat} {a1 a2 s0 : Int} {u3 u4 : zV} : zS 222 48 [zR a0, zI a1, zI a2, u3, u4] [zI s0, zR s1] sh pp mm Q ↔ zS 222 49 [zR a0, zI a1, zI a2, zU, zU] [zI 0, zI s0, zR s1] sh pp mm Q := s_go cM_findEnds_48 cM_findEnds_49 rfl rfl
theorem rM_findEnds_49 {a0 s2 : Nat} {a1 a2 s0 s1 : Int} {u3 u4 : zV} (hk : zKd sh s2 = 22) (h0 : 0 ≤ s1) (h1 : s1 < zLn sh s2) (hb : s0 = 0 ∨ s0 = 1) : zS 222 49 [zR a0, zI a1, zI a2, u3, u4] [zI s0, zI s1, zR s2] sh pp mm Q ↔ zS 222 50 [zR a0, zI a1, zI a2, zU, zU] [] sh pp (zupd mm s2 s1 s0) Q := s_go cM_findEnds_49 cM_findEnds_50 (if_pos ⟨hk, h0, h1, fun _ => hb⟩) rfl
theorem rM_findEnds_50 {a0 : Nat} {a1 a2 : Int} {u3 u4 : zV} : zS 222 50 [zR a0, zI a1, zI a2, u3, u4] [] sh pp mm Q ↔ zS 222 51 [zR a0, zI a1, zI a2, zU, zU] [zI 0] sh pp mm Q := s_go cM_findEnds_50 cM_findEnds_51 rfl rfl
theorem rM_findEnds_51 {a0 : Nat} {a1 a2 s0 : Int} {u3 u4 : zV} : zS 222 51 [zR a0, zI a1, zI a2, u3, u4] [zI s0] sh pp mm Q ↔ zS 222 52 [zR a0, zI a1, zI a2, zI s0, zU] [] sh pp mm Q := s_go cM_findEnds_51 cM_findEnds_52 rfl rfl
theorem rM_findEnds_52 {a0 : Nat} {a1 a2 a3 : Int} {u4 : zV} : zS 222 52 [zR a0, zI a1, zI a2, zI a3, u4] [] sh pp mm Q ↔ zS 222 53 [zR a0, zI a1, zI a2, zI a3, zU] [zI a3] sh pp mm Q := s_go cM_findEnds_52 cM_findEnds_53 rfl rfl
theorem rM_findEnds_53 {a0 : Nat} {a1 a2 a3 s0 : Int} {u4 : zV} : zS 222 53 [zR a0, zI a1, zI a2, zI a3, u4] [zI s0] sh pp mm Q ↔ zS 222 54 [zR a0, zI a1, zI a2, zI a3, zU] [zR a0, zI s0] sh pp mm Q := s_go cM_findEnds_53 cM_findEnds_54 rfl rfl
theorem rM_findEnds_54 {a0 s0 : Nat} {a1 a2 a3 s1 : Int} {u4 : zV} : zS 222 54 [zR a0, zI a1, zI a2, zI a3, u4] [zR s0, zI s1] sh pp mm Q ↔ zS 222 55 [zR a0, zI a1, zI a2, zI a3, zU] [zI 2, zR s0, zI s1] sh pp mm Q := s_go cM_findEnds_54 cM_findEnds_55 rfl rfl
theorem rM_findEnds_55 {a0 s1 : Nat} {a1 a2 a3 s0 s2 : Int} {u4 : zV} (hk : zKd sh s1 = 12) : zS 222 55 [zR a0, zI a1, zI a2, zI a3, u4] [zI s0, zR s1, zI s2] sh pp mm Q ↔ zS 169 0 [zR s1, zI s0] [] sh pp mm (fun v sh pp mm => zS 222 58 [zR a0, zI a1, zI a2, zI a3, zU] (zPush v [zI s2]) sh pp mm Q) := s_call cM_findEnds_55 cM_findEnds_58 ((if_pos hk).trans rfl) rfl
theorem rM_findEnds_58 {a0 : Nat} {a1 a2 a3 s0 s1 : Int} {u4 : zV} : zS 222 58 [zR a0, zI a1, zI a2, zI a3, u4] [zI s0, zI s1] sh pp mm Q ↔ (s1 < s0 → zS 222 61 [zR a0, zI a1, zI a2, zI a3, zU] [] sh pp mm Q) ∧ (¬ s1 < s0 → zS 222 145 [zR a0, zI a1, zI a2, zU, zU] [] sh pp mm Q) := s_ifn cM_findEnds_58 cM_findEnds_61 cM_findEnds_145 rfl rfl rfl
theorem rM_findEnds_61 {a0 : Nat} {a1 a2 a3 : Int} {u4 : zV} : zS 222 61 [zR a0, zI a1, zI a2, zI a3, u4] [] sh pp mm Q ↔ zS 222 62 [zR a0, zI a1, zI a2, zI a3, zU] [zR a0] sh pp mm Q := s_go cM_findEnds_61 cM_findEnds_62 rfl rfl
theorem rM_findEnds_62 {a0 s0 : Nat} {a1 a2 a3 : Int} {u4 : zV} (hk : zKd sh s0 = 12) : zS 222 62 [zR a0, zI a1, zI a2, zI a3, u4] [zR s0] sh pp mm Q ↔ zS 222 65 [zR a0, zI a1, zI a2, zI a3, zU] [zR (pp s0 30)] sh pp mm Q := s_go cM_findEnds_62 cM_findEnds_65 (if_pos hk) rfl
theorem rM_findEnds_65 {a0 s0 : Nat} {a1 a2 a3 : Int} {u4 : zV} : zS 222 65 [zR a0, zI a1, zI a2, zI a3, u4] [zR s0] sh pp mm Q ↔ zS 222 66 [zR a0, zI a1, zI a2, zI a3, zU] [zI a2, zR s0] sh pp mm Q := s_go cM_findEnds_65 cM_findEnds_66 rfl rfl
theorem rM_findEnds_66 {a0 s1 : Nat} {a1 a2 a3 s0 : Int} {u4 : zV} (hk : zKd sh s1 = 20 ∨ zKd sh s1 = 30) (h0 : 0 ≤ s0) (h1 : s0 < zLn sh s1) : zS 222 66 [zR a0, zI a1, zI a2, zI a3, u4] [zI s0, zR s1] sh pp mm Q ↔ zS 222 67 [zR a0, zI a1, zI a2, zI a3, zU] [zI (mm s1 s0)] sh pp mm Q := s_go cM_findEnds_66 cM_findEnds_67 (if_pos ⟨hk, h0, h1⟩) rfl
theorem rM_findEnds_67 {a0 : Nat} {a1 a2 a3 s0 : Int} {u4 : zV} : zS 222 67 [zR a0, zI a1, zI a2, zI a3, u4] [zI s0] sh pp mm Q ↔ zS 222 68 [zR a0, zI a1, zI a2, zI a3, zU] [zI (-1), zI s0] sh pp mm Q := s_go cM_findEnds_67 cM_findEnds_68 rfl rfl
theorem rM_findEnds_68 {a0 : Nat} {a1 a2 a3 s0 s1 : Int} {u4 : zV} : zS 222 68 [zR a0, zI a1, zI a2, zI a3, u4] [zI s0, zI s1] sh pp mm Q ↔ (s1 = s0 → zS 222 145 [zR a0, zI a1, zI a2, zU, zU] [] sh pp mm Q) ∧ (¬ s1 = s0 → zS 222 71 [zR a0, zI a1, zI a2, zI a3, zU] [] sh pp mm Q) := s_if cM_findEnds_68 cM_findEnds_145 cM_findEnds_71 rfl rfl rfl
theorem rM_findEnds_71 {a0 : Nat} {a1 a2 a3 : Int} {u4 : zV} : zS 222 71 [zR a0, zI a1, zI a2, zI a3, u4] [] sh pp mm Q ↔ zS 222 72 [zR a0, zI a1, zI a2, zI a3, zU] [zI a2] sh pp mm Q := s_go cM_findEnds_71 cM_findEnds_72 rfl rfl
theorem rM_findEnds_72 {a0 : Nat} {a1 a2 a3 s0 : Int} {u4 : zV} : zS 222 72 [zR a0, zI a1, zI a2, zI a3, u4] [zI s0] sh pp mm Q ↔ zS 222 73 [zR a0, zI a1, zI a2, zI a3, zU] [zI a3, zI s0] sh pp mm Q := s_go cM_findEnds_72 cM_findEnds_73 rfl rfl
theorem rM_findEnds_73 {a0 : Nat} {a1 a2 a3 s0 s1 : Int} {u4 : zV} : zS 222 73 [zR a0, zI a1, zI a2, zI a3, u4] [zI s0, zI s1] sh pp mm Q ↔ zS 222 74 [zR a0, zI a1, zI a2, zI a3, zU] [zI (zshr s1 s0)] sh pp mm Q := s_go cM_findEnds_73 cM_findEnds_74 rfl rfl
theorem rM_findEnds_74 {a0 : Nat} {a1 a2 a3 s0 : Int} {u4 : zV} : zS 222 74 [zR a0, zI a1, zI a2, zI a3, u4] [zI s0] sh pp mm Q ↔ zS 222 75 [zR a0, zI a1, zI a2, zI a3, zU] [zI 1, zI s0] sh pp mm Q := s_go cM_findEnds_74 cM_findEnds_75 rfl rfl
theorem rM_findEnds_75 {a0 : Nat} {a1 a2 a3 s0 s1 : Int} {u4 : zV} : zS 222 75 [zR a0, zI a1, zI a2, zI a3, u4] [zI s0, zI s1] sh pp mm Q ↔ zS 222 76 [zR a0, zI a1, zI a2, zI a3, zU] [zI (zand s1 s0)] sh pp mm Q := s_go cM_findEnds_75 cM_findEnds_76 rfl rfl
theorem rM_findEnds_76 {a0 : Nat} {a1 a2 a3 s0 : Int} {u4 : zV} : zS 222 76 [zR a0, zI a1, zI a2, zI a3, u4] [zI s0] sh pp mm Q ↔ (s0 = 0 → zS 222 79 [zR a0, zI a1, zI a2, zI a3, zU] [] sh pp mm Q) ∧ (¬ s0 = 0 → zS 222 98 [zR a0, zI a1, zI a2, zI a3, zU] [] sh pp mm Q) := s_ifn cM_findEnds_76 cM_findEnds_79 cM_findEnds_98 rfl rfl rfl
theorem rM_findEnds_79 {a0 : Nat} {a1 a2 a3 : Int} {u4 : zV} : zS 222 79 [zR a0, zI a1, zI a2, zI a3, u4] [] sh pp mm Q ↔ zS 222 80 [zR a0, zI a1, zI a2, zI a3, zU] [zR a0] sh pp mm Q := s_go cM_findEnds_79 cM_findEnds_80 rfl rfl
theorem rM_findEnds_80 {a0 s0 : Nat} {a1 a2 a3 : Int} {u4 : zV} : zS 222 80 [zR a0, zI a1, zI a2, zI a3, u4] [zR s0] sh pp mm Q ↔ zS 222 81 [zR a0, zI a1, zI a2, zI a3, zU] [zI a3, zR s0] sh pp mm Q := s_go cM_findEnds_80 cM_findEnds_81 rfl rfl
theorem rM_findEnds_81 {a0 s1 : Nat} {a1 a2 a3 s0 : Int} {u4 : zV} : zS 222 81 [zR a0, zI a1, zI a2, zI a3, u4] [zI s0, zR s1] sh pp mm Q ↔ zS 222 82 [zR a0, zI a1, zI a2, zI a3, zU] [zR a0, zI s0, zR s1] sh pp mm Q := s_go cM_findEnds_81 cM_findEnds_82 rfl rfl
theorem rM_findEnds_82 {a0 s0 s2 : Nat} {a1 a2 a3 s1 : Int} {u4 : zV} (hk : zKd sh s0 = 12) : zS 222 82 [zR a0, zI a1, zI a2, zI a3, u4] [zR s0, zI s1, zR s2] sh pp mm Q ↔ zS 222 85 [zR a0, zI a1, zI a2, zI a3, zU] [zR (pp s0 30), zI s1, zR s2] sh pp mm Q := s_go cM_findEnds_82 cM_findEnds_85 (if_pos hk) rfl
theorem rM_findEnds_85 {a0 s0 s2 : Nat} {a1 a2 a3 s1 : Int} {u4 : zV} : zS 222 85 [zR a0, zI a1, zI a2, zI a3, u4] [zR s0, zI s1, zR s2] sh pp mm Q ↔ zS 222 86 [zR a0, zI a1, zI a2, zI a3, zU] [zI a2, zR s0, zI s1, zR s2] sh pp mm Q := s_go cM_findEnds_85 cM_findEnds_86 rfl rfl
theorem rM_findEnds_86 {a0 s1 s3 : Nat} {a1 a2 a3 s0 s2 : Int} {u4 : zV} (hk : zKd sh s1 = 20 ∨ zKd sh s1 = 30) (h0 : 0 ≤ s0) (h1 : s0 < zLn sh s1) : zS 222 86 [zR a0, zI a1, zI a2, zI a3, u4] [zI s0, zR s1, zI s2, zR s3] sh pp mm Q ↔ zS 222 87 [zR a0, zI a1, zI a2, zI a3, zU] [zI (mm s1 s0), zI s2, zR s3] sh pp mm Q := s_go cM_findEnds_86 cM_findEnds_87 (if_pos ⟨hk, h0, h1⟩) rfl
theorem rM_findEnds_87 {a0 s2 : Nat} {a1 a2 a3 s0 s1 : Int} {u4 : zV} (hk : zKd sh s2 = 12) : zS 222 87 [zR a0, zI a1, zI a2, zI a3, u4] [zI s0, zI s1, zR s2] sh pp mm Q ↔ zS 213 0 [zR s2, zI s1, zI s0] [] sh pp mm (fun v sh pp mm => zS 222 90 [zR a0, zI a1, zI a2, zI a3, zU] (zPush v []) sh pp mm Q) := s_call cM_findEnds_87 cM_findEnds_90 ((if_pos hk).trans rfl) rfl
theorem rM_findEnds_90 {a0 : Nat} {a1 a2 a3 s0 : Int} {u4 : zV} : zS 222 90 [zR a0, zI a1, zI a2, zI a3, u4] [zI s0] sh pp mm Q ↔ zS 222 91 [zR a0, zI a1, zI a2, zI a3, zU] [zI (-1), zI s0] sh pp mm Q := s_go cM_findEnds_90 cM_findEnds_91 rfl rfl
theorem rM_findEnds_91 {a0 : Nat} {a1 a2 a3 s0 s1 : Int} {u4 : zV} : zS 222 91 [zR a0, zI a1, zI a2, zI a3, u4] [zI s0, zI s1] sh pp mm Q ↔ (s1 = s0 → zS 222 98 [zR a0, zI a1, zI a2, zI a3, zU] [] sh pp mm Q) ∧ (¬ s1 = s0 → zS 222 94 [zR a0, zI a1, zI a2, zI a3, zU] [] sh pp mm Q) := s_if cM_findEnds_91 cM_findEnds_98 cM_findEnds_94 rfl rfl rfl
theorem rM_findEnds_94 {a0 : Nat} {a1 a2 a3 : Int} {u4 : zV} : zS 222 94 [zR a0, zI a1, zI a2, zI a3, u4] [] sh pp mm Q ↔ zS 222 95 [zR a0, zI a1, zI a2, zI a3, zU] [zI 1] sh pp mm Q := s_go cM_findEnds_94 cM_findEnds_95 rfl rfl
theorem rM_findEnds_95 {a0 : Nat} {a1 a2 a3 s0 : Int} {u4 : zV} : zS 222 95 [zR a0, zI a1, zI a2, zI a3, u4] [zI s0] sh pp mm Q ↔ zS 222 99 [zR a0, zI a1, zI a2, zI a3, zU] [zI s0] sh pp mm Q := s_go cM_findEnds_95 cM_findEnds_99 rfl rfl
theorem rM_findEnds_98 {a0 : Nat} {a1 a2 a3 : Int} {u4 : zV} : zS 222 98 [zR a0, zI a1, zI a2, zI a3, u4] [] sh pp mm Q ↔ zS 222 99 [zR a0, zI a1, zI a2, zI a3, zU] [zI 0] sh pp mm Q := s_go cM_findEnds_98 cM_findEnds_99 rfl rfl
theorem rM_findEnds_99 {a0 : Nat} {a1 a2 a3 s0 : Int} {u4 : zV} : zS 222 99 [zR a0, zI a1, zI a2, zI a3, u4] [zI s0] sh pp mm Q ↔ zS 222 101 [zR a0, zI a1, zI a2, zI a3, zI s0] [] sh pp mm Q := s_go cM_findEnds_99 cM_findEnds_101 rfl rfl
theorem rM_findEnds_101 {a0 : Nat} {a1 a2 a3 a4 : Int} : zS 222 101 [zR a0, zI a1, zI a2, zI a3, zI a4] [] sh pp mm Q ↔ zS 222 102 [zR a0, zI a1, zI a2, zI a3, zI a4] [zR a0] sh pp mm Q := s_go cM_findEnds_101 cM_findEnds_102 rfl rfl
theorem rM_findEnds_102 {a0 s0 : Nat} {a1 a2 a3 a4 : Int} (hk : zKd sh s0 = 12) : zS 222 102 [zR a0, zI a1, zI a2, zI a3, zI a4] [zR s0] sh pp mm Q ↔ zS 222 105 [zR a0, zI a1, zI a2, zI a3, zI a4] [zR (pp s0 31)] sh pp mm Q := s_go cM_findEnds_102 cM_findEnds_105 (if_pos hk) rfl
theorem rM_findEnds_105 {a0 s0 : Nat} {a1 a2 a3 a4 : Int} : zS 222 105 [zR a0, zI a1, zI a2, zI a3, zI a4] [zR s0] sh pp mm Q ↔ zS 222 106 [zR a0, zI a1, zI a2, zI a3, zI a4] [zI a2, zR s0] sh pp mm Q := s_go cM_findEnds_105 cM_findEnds_106 rfl rfl
theorem rM_findEnds_106 {a0 s1 : Nat} {a1 a2 a3 a4 s0 : Int} : zS 222 106 [zR a0, zI a1, zI a2, zI a3, zI a4] [zI s0, zR s1] sh pp mm Q ↔ zS 222 107 [zR a0, zI a1, zI a2, zI a3, zI a4] [zR a0, zI s0, zR s1] sh pp mm Q := s_go cM_findEnds_106 cM_findEnds_107 rfl rfl
theorem rM_findEnds_107 {a0 s0 s2 : Nat} {a1 a2 a3 a4 s1 : Int} (hk : zKd sh s0 = 12) : zS 222 107 [zR a0, zI a1, zI a2, zI a3, zI a4] [zR s0, zI s1, zR s2] sh pp mm Q ↔ zS 222 110 [zR a0, zI a1, zI a2, zI a3, zI a4] [zR (pp s0 31), zI s1, zR s2] sh pp mm Q := s_go cM_findEnds_107 cM_findEnds_110 (if_pos hk) rfl
theorem rM_findEnds_110 {a0 s0 s2 : Nat} {a1 a2 a3 a4 s1 : Int} : zS 222 110 [zR a0, zI a1, zI a2, zI a3, zI a4] [zR s0, zI s1, zR s2] sh pp mm Q ↔ zS 222 111 [zR a0, zI a1, zI a2, zI a3, zI a4] [zI a2, zR s0, zI s1, zR s2] sh pp mm Q := s_go cM_findEnds_110 cM_findEnds_111 rfl rfl
theorem rM_findEnds_111 {a0 s1 s3 : Nat} {a1 a2 a3 a4 s0 s2 : Int} (hk : zKd sh s1 = 22 ∨ zKd sh s1 = 32) (h0 : 0 ≤ s0) (h1 : s0 < zLn sh s1) : zS 222 111 [zR a0, zI a1, zI a2, zI a3, zI a4] [zI s0, zR s1, zI s2, zR s3] sh pp mm Q ↔ zS 222 112 [zR a0, zI a1, zI a2, zI a3, zI a4] [zI (mm s1 s0), zI s2, zR s3] sh pp mm Q := s_go cM_findEnds_111 cM_findEnds_112 (if_pos ⟨hk, h0, h1⟩) rfl
theorem rM_findEnds_112 {a0 s2 : Nat} {a1 a2 a3 a4 s0 s1 : Int} : zS 222 112 [zR a0, zI a1, zI a2, zI a3, zI a4] [zI s0, zI s1, zR s2] sh pp mm Q ↔ (s0 = 0 → zS 222 115 [zR a0, zI a1, zI a2, zI a3, zI a4] [zI s1, zR s2] sh pp mm Q) ∧ (¬ s0 = 0 → zS 222 133 [zR a0, zI a1, zI a2, zI a3, zU] [zI s1, zR s2] sh pp mm Q) := s_ifn cM_findEnds_112 cM_findEnds_115 cM_findEnds_133 rfl rfl rfl
theorem rM_findEnds_115 {a0 s1 : Nat} {a1 a2 a3 a4 s0 : Int} : zS 222 115 [zR a0, zI a1, zI a2, zI a3, zI a4] [zI s0, zR s1] sh pp mm Q ↔ zS 222 117 [zR a0, zI a1, zI a2, zI a3, zU] [zI a4, zI s0, zR s1] sh pp mm Q := s_go cM_findEnds_115 cM_findEnds_117 rfl rfl
theorem rM_findEnds_117 {a0 s2 : Nat} {a1 a2 a3 s0 s1 : Int} {u4 : zV} : zS 222 117 [zR a0, zI a1, zI a2, zI a3, u4] [zI s0, zI s1, zR s2] sh pp mm Q ↔ (s0 = 0 → zS 222 137 [zR a0, zI a1, zI a2, zI a3, zU] [zI s1, zR s2] sh pp mm Q) ∧ (¬ s0 = 0 → zS 222 120 [zR a0, zI a1, zI a2, zI a3, zU] [zI s1, zR s2] sh pp mm Q) := s_if cM_findEnds_117 cM_findEnds_137 cM_findEnds_120 rfl rfl rfl
theorem rM_findEnds_120 {a0 s1 : Nat} {a1 a2 a3 s0 : Int} {u4 : zV} : zS 222 120 [zR a0, zI a1, zI a2, zI a3, u4] [zI s0, zR s1] sh pp mm Q ↔ zS 222 121 [zR a0, zI a1, zI a2, zI a3, zU] [zR a0, zI s0, zR s1] sh pp mm Q := s_go cM_findEnds_120 cM_findEnds_121 rfl rfl
theorem rM_findEnds_121 {a0 s0 s2 : Nat} {a1 a2 a3 s1 : Int} {u4 : zV} (hk : zKd sh s0 = 12) : zS 222 121 [zR a0, zI a1, zI a2, zI a3, u4] [zR s0, zI s1, zR s2] sh pp mm Q ↔ zS 222 124 [zR a0, zI a1, zI a2, zI a3, zU] [zR (pp s0 31), zI s1, zR s2] sh pp mm Q := s_go cM_findEnds_121 cM_findEnds_124 (if_pos hk) rfl
theorem rM_findEnds_124 {a0 s0 s2 : Nat} {a1 a2 a3 s1 : Int} {u4 : zV} : zS 222 124 [zR a0, zI a1, zI a2, zI a3, u4] [zR s0, zI s1, zR s2] sh pp mm Q ↔ zS 222 125 [zR a0, zI a1, zI a2, zI a3, zU] [zI a2, zR s0, zI s1, zR s2] sh pp mm Q := s_go cM_findEnds_124 cM_findEnds_125 rfl rfl
theorem rM_findEnds_125 {a0 s1 s3 : Nat} {a1 a2 a3 s0 s2 : Int} {u4 : zV} : zS 222 125 [zR a0, zI a1, zI a2, zI a3, u4] [zI s0, zR s1, zI s2, zR s3] sh pp mm Q ↔ zS 222 126 [zR a0, zI a1, zI a2, zI a3, zU] [zI 1, zI s0, zR s1, zI s2, zR s3] sh pp mm Q := s_go cM_findEnds_125 cM_findEnds_126 rfl rfl
theorem rM_findEnds_126 {a0 s2 s4 : Nat} {a1 a2 a3 s0 s1 s3 : Int} {u4 : zV} : zS 222 126 [zR a0, zI a1, zI a2, zI a3, u4] [zI s0, zI s1, zR s2, zI s3, zR s4] sh pp mm Q ↔ zS 222 127 [zR a0, zI a1, zI a2, zI a3, zU] [zI a3, zI s0, zI s1, zR s2, zI s3, zR s4] sh pp mm Q := s_go cM_findEnds_126 cM_findEnds_127 rfl rfl
theorem rM_findEnds_127 {a0 s3 s5 : Nat} {a1 a2 a3 s0 s1 s2 s4 : Int} {u4 : zV} : zS 222 127 [zR a0, zI a1, zI a2, zI a3, u4] [zI s0, zI s1, zI s2, zR s3, zI s4, zR s5] sh pp mm Q ↔ zS 222 128 [zR a0, zI a1, zI a2, zI a3, zU] [zI (zshl s1 s0), zI s2, zR s3, zI s4, zR s5] sh pp mm Q := s_go cM_findEnds_127 cM_findEnds_128 rfl rfl
theorem rM_findEnds_128 {a0 s2 s4 : Nat} {a1 a2 a3 s0 s1 s3 : Int} {u4 : zV} : zS 222 128 [zR a0, zI a1, zI a2, zI a3, u4] [zI s0, zI s1, zR s2, zI s3, zR s4] sh pp mm Q ↔ zS 222 129 [zR a0, zI a1, zI a2, zI a3, zU] [zI (zor s1 s0), zR s2, zI s3, zR s4] sh pp mm Q := s_go cM_findEnds_128 cM_findEnds_129 rfl rfl
theorem rM_findEnds_129 {a0 s1 s3 : Nat} {a1 a2 a3 s0 s2 : Int} {u4 : zV} (hk : zKd sh s1 = 22 ∨ zKd sh s1 = 32) (h0 : 0 ≤ s0) (h1 : s0 < zLn sh s1) : zS 222 129 [zR a0, zI a1, zI a2, zI a3, u4] [zI s0, zR s1, zI s2, zR s3] sh pp mm Q ↔ zS 222 130 [zR a0, zI a1, zI a2, zI a3, zU] [zI (mm s1 s0), zI s2, zR s3] sh pp mm Q := s_go cM_findEnds_129 cM_findEnds_130 (if_pos ⟨hk, h0, h1⟩) rfl
theorem rM_findEnds_130 {a0 s2 : Nat} {a1 a2 a3 s0 s1 : Int} {u4 : zV} : zS 222 130 [zR a0, zI a1, zI a2, zI a3, u4] [zI s0, zI s1, zR s2] sh pp mm Q ↔ (s0 = 0 → zS 222 137 [zR a0, zI a1, zI a2, zI a3, zU] [zI s1, zR s2] sh pp mm Q) ∧ (¬ s0 = 0 → zS 222 133 [zR a0, zI a1, zI a2, zI a3, zU] [zI s1, zR s2] sh pp mm Q) := s_if cM_findEnds_130 cM_findEnds_137 cM_findEnds_133 rfl rfl rfl
theorem rM_findEnds_133 {a0 s1 : Nat} {a1 a2 a3 s0 : Int} {u4 : zV} : zS 222 133 [zR a0, zI a1, zI a2, zI a3, u4] [zI s0, zR s1] sh pp mm Q ↔ zS 222 134 [zR a0, zI a1, zI a2, zI a3, zU] [zI 1, zI s0, zR s1] sh pp mm Q := s_go cM_findEnds_133 cM_findEnds_134 rfl rfl
theorem rM_findEnds_134 {a0 s2 : Nat} {a1 a2 a3 s0 s1 : Int} {u4 : zV} : zS 222 134 [zR a0, zI a1, zI a2, zI a3, u4] [zI s0, zI s1, zR s2] sh pp mm Q ↔ zS 222 138 [zR a0, zI a1, zI a2, zI a3, zU] [zI s0, zI s1, zR s2] sh pp mm Q := s_go cM_findEnds_134 cM_findEnds_138 rfl rfl
theorem rM_findEnds_137 {a0 s1 : Nat} {a1 a2 a3 s0 : Int} {u4 : zV} : zS 222 137 [zR a0, zI a1, zI a2, zI a3, u4] [zI s0, zR s1] sh pp mm Q ↔ zS 222 138 [zR a0, zI a1, zI a2, zI a3, zU] [zI 0, zI s0, zR s1] sh pp mm Q := s_go cM_findEnds_137 cM_findEnds_138 rfl rfl
theorem rM_findEnds_138 {a0 s2 : Nat} {a1 a2 a3 s0 s1 : Int} {u4 : zV} (hk : zKd sh s2 = 22) (h0 : 0 ≤ s1) (h1 : s1 < zLn sh s2) (hb : s0 = 0 ∨ s0 = 1) : zS 222 138 [zR a0, zI a1, zI a2, zI a3, u4] [zI s0, zI s1, zR s2] sh pp mm Q ↔ zS 222 139 [zR a0, zI a1, zI a2, zI a3, zU] [] sh pp (zupd mm s2 s1 s0) Q := s_go cM_findEnds_138 cM_findEnds_139 (if_pos ⟨hk, h0, h1, fun _ => hb⟩) rfl
theorem rM_findEnds_139 {a0 : Nat} {a1 a2 a3 : Int} {u4 : zV} : zS 222 139 [zR a0, zI a1, zI a2, zI a3, u4] [] sh pp mm Q ↔ zS 222 142 [zR a0, zI a1, zI a2, zI (zw32 (a3 + 1)), zU] [] sh pp mm Q := s_go cM_findEnds_139 cM_findEnds_142 rfl rfl
theorem rM_findEnds_142 {a0 : Nat} {a1 a2 a3 : Int} {u4 : zV} : zS 222 142 [zR a0, zI a1, zI a2, zI a3, u4] [] sh pp mm Q ↔ zS 222 52 [zR a0, zI a1, zI a2, zI a3, zU] [] sh pp mm Q := s_go cM_findEnds_142 cM_findEnds_52 rfl rfl
theorem rM_findEnds_145 {a0 : Nat} {a1 a2 : Int} {u3 u4 : zV} : zS 222 145 [zR a0, zI a1, zI a2, u3, u4] [] sh pp mm Q ↔ zS 222 148 [zR a0, zI a1, zI (zw32 (a2 + (-1))), zU, zU] [] sh pp mm Q := s_go cM_findEnds_145 cM_findEnds_148 rfl rfl
theorem rM_findEnds_148 {a0 : Nat} {a1 a2 : Int} {u3 u4 : zV} : zS 222 148 [zR a0, zI a1, zI a2, u3, u4] [] sh pp mm Q ↔ zS 222 5 [zR a0, zI a1, zI a2, zU, zU] [] sh pp mm Q := s_go cM_findEnds_148 cM_findEnds_5 rfl rfl
theorem rM_findEnds_151 {u0 u1 u2 u3 u4 : zV} : zS 222 151 [u0, u1, u2, u3, u4] [] sh pp mm Q ↔ Q zU sh pp mm := s_ret cM_findEnds_151 rfl
theorem cAM_starts : ∀ q ∈ zT223, zCode 223 q.1 = some q.2 := zAll (mid := 223) rfl (by decide +kernel)
theorem cAM_starts_0 : ∀ q ∈ zT223_0, zCode 223 q.1 = some q.2 := fun q h => cAM_starts q (List.mem_append_left _ h)
theorem cAM_starts_1 : ∀ q ∈ zT223_1, zCode 223 q.1 = some q.2 := fun q h => cAM_starts q (List.mem_append_right _ (List.mem_append_left _ h))
theorem cAM_starts_2 : ∀ q ∈ zT223_2, zCode 223 q.1 = some q.2 := fun q h => cAM_starts q (List.mem_append_right _ (List.mem_append_right _ h))
theorem cM_starts_0 : zCode 223 0 = some (.iconst 0, 1, 0, 0, 0, 0, 1) := cAM_starts_0 _ (List.mem_of_getElem? (i := 0) rfl)
theorem cM_starts_1 : zCode 223 1 = some (.istore_n 1, 2, 0, 0, 0, 0, 1) := cAM_starts_0 _ (List.mem_of_getElem? (i := 1) rfl)
theorem cM_starts_2 : zCode 223 2 = some (.iconst 0, 3, 0, 0, 0, 0, 3) := cAM_starts_0 _ (List.mem_of_getElem? (i := 2) rfl)
theorem cM_starts_3 : zCode 223 3 = some (.istore_n 2, 4, 0, 0, 0, 0, 3) := cAM_starts_0 _ (List.mem_of_getElem? (i := 3) rfl)
theorem cM_starts_4 : zCode 223 4 = some (.iload_n 2, 5, 0, 0, 0, 0, 7) := cAM_starts_0 _ (List.mem_of_getElem? (i := 4) rfl)
theorem cM_starts_5 : zCode 223 5 = some (.aload_n 0, 6, 0, 0, 0, 0, 7) := cAM_starts_0 _ (List.mem_of_getElem? (i := 5) rfl)
theorem cM_starts_6 : zCode 223 6 = some (.iconst 1, 7, 0, 0, 0, 0, 7) := cAM_starts_0 _ (List.mem_of_getElem? (i := 6) rfl)
theorem cM_starts_7 : zCode 223 7 = some (.invokevirtual 288, 10, 169, 1, 2, 12, 7) := cAM_starts_0 _ (List.mem_of_getElem? (i := 7) rfl)
theorem cM_starts_10 : zCode 223 10 = some (.if_icmp .ge 41, 13, 51, 0, 0, 0, 7) := cAM_starts_0 _ (List.mem_of_getElem? (i := 8) rfl)
theorem cM_starts_13 : zCode 223 13 = some (.aload_n 0, 14, 0, 0, 0, 0, 7) := cAM_starts_0 _ (List.mem_of_getElem? (i := 9) rfl)
theorem cM_starts_14 : zCode 223 14 = some (.iconst 2, 15, 0, 0, 0, 0, 7) := cAM_starts_0 _ (List.mem_of_getElem? (i := 10) rfl)
theorem cM_starts_15 : zCode 223 15 = some (.invokevirtual 288, 18, 169, 1, 2, 12, 7) := cAM_starts_0 _ (List.mem_of_getElem? (i := 11) rfl)
theorem cM_starts_18 : zCode 223 18 = some (.ifCond .le 33, 21, 51, 0, 0, 0, 7) := cAM_starts_0 _ (List.mem_of_getElem? (i := 12) rfl)
theorem cM_starts_21 : zCode 223 21 = some (.aload_n 0, 22, 0, 0, 0, 0, 7) := cAM_starts_0 _ (List.mem_of_getElem? (i := 13) rfl)
theorem cM_starts_22 : zCode 223 22 = some (.iload_n 2, 23, 0, 0, 0, 0, 7) := cAM_starts_0 _ (List.mem_of_getElem? (i := 14) rfl)
theorem cM_starts_23 : zCode 223 23 = some (.invokevirtual 318, 26, 222, 1, 5, 12, 7) := cAM_starts_0 _ (List.mem_of_getElem? (i := 15) rfl)
theorem cM_starts_26 : zCode 223 26 = some (.iload_n 1, 27, 0, 0, 0, 0, 7) := cAM_starts_1 _ (List.mem_of_getElem? (i := 0) rfl)
theorem cM_starts_27 : zCode 223 27 = some (.aload_n 0, 28, 0, 0, 0, 0, 5) := cAM_starts_1 _ (List.mem_of_getElem? (i := 1) rfl)
theorem cM_starts_28 : zCode 223 28 = some (.getfield 57, 31, 12, 31, 2, 1240, 5) := cAM_starts_1 _ (List.mem_of_getElem? (i := 2) rfl)
theorem cM_starts_31 : zCode 223 31 = some (.iconst 0, 32, 0, 0, 0, 0, 5) := cAM_starts_1 _ (List.mem_of_getElem? (i := 3) rfl)
theorem cM_starts_32 : zCode 223 32 = some (.baload, 33, 0, 0, 0, 0, 5) := cAM_starts_1 _ (List.mem_of_getElem? (i := 4) rfl)
theorem cM_starts_33 : zCode 223 33 = some (.ifCond .eq 9, 36, 42, 0, 0, 0, 5) := cAM_starts_1 _ (List.mem_of_getElem? (i := 5) rfl)
theorem cM_starts_36 : zCode 223 36 = some (.iconst 1, 37, 0, 0, 0, 0, 5) := cAM_starts_1 _ (List.mem_of_getElem? (i := 6) rfl)
theorem cM_starts_37 : zCode 223 37 = some (.iload_n 2, 38, 0, 0, 0, 0, 5) := cAM_starts_1 _ (List.mem_of_getElem? (i := 7) rfl)
theorem cM_starts_38 : zCode 223 38 = some (.ishl, 39, 0, 0, 0, 0, 5) := cAM_starts_1 _ (List.mem_of_getElem? (i := 8) rfl)
theorem cM_starts_39 : zCode 223 39 = some (.goto 4, 42, 43, 0, 0, 0, 5) := cAM_starts_1 _ (List.mem_of_getElem? (i := 9) rfl)
theorem cM_starts_42 : zCode 223 42 = some (.iconst 0, 43, 0, 0, 0, 0, 5) := cAM_starts_1 _ (List.mem_of_getElem? (i := 10) rfl)
theorem cM_starts_43 : zCode 223 43 = some (.ior, 44, 0, 0, 0, 0, 5) := cAM_starts_1 _ (List.mem_of_getElem? (i := 11) rfl)
theorem cM_starts_44 : zCode 223 44 = some (.istore_n 1, 45, 0, 0, 0, 0, 5) := cAM_starts_1 _ (List.mem_of_getElem? (i := 12) rfl)
theorem cM_starts_45 : zCode 223 45 = some (.iinc 2 1, 48, 0, 0, 0, 0, 7) := cAM_starts_1 _ (List.mem_of_getElem? (i := 13) rfl)
theorem cM_starts_48 : zCode 223 48 = some (.goto (-44), 51, 4, 0, 0, 0, 7) := cAM_starts_1 _ (List.mem_of_getElem? (i := 14) rfl)
theorem cM_starts_51 : zCode 223 51 = some (.iload_n 1, 52, 0, 0, 0, 0, 2) := cAM_starts_1 _ (List.mem_of_getElem? (i := 15) rfl)
theorem cM_starts_52 : zCode 223 52 = some (.ireturn, 53, 0, 0, 0, 0, 0) := cAM_starts_2 _ (List.mem_of_getElem? (i := 0) rfl)
theorem rM_starts_0 {a0 : Nat} {u1 u2 : zV} : zS 223 0 [zR a0, u1, u2] [] sh pp mm Q ↔ zS 223 1 [zR a0, zU, zU] [zI 0] sh pp mm Q := s_go cM_starts_0 cM_starts_1 rfl rfl
theorem rM_starts_1 {a0 : Nat} {s0 : Int} {u1 u2 : zV} : zS 223 1 [zR a0, u1, u2] [zI s0] sh pp mm Q ↔ zS 223 2 [zR a0, zI s0, zU] [] sh pp mm Q := s_go cM_starts_1 cM_starts_2 rfl rfl
theorem rM_starts_2 {a0 : Nat} {a1 : Int} {u2 : zV} : zS 223 2 [zR a0, zI a1, u2] [] sh pp mm Q ↔ zS 223 3 [zR a0, zI a1, zU] [zI 0] sh pp mm Q := s_go cM_starts_2 cM_starts_3 rfl rfl
theorem rM_starts_3 {a0 : Nat} {a1 s0 : Int} {u2 : zV} : zS 223 3 [zR a0, zI a1, u2] [zI s0] sh pp mm Q ↔ zS 223 4 [zR a0, zI a1, zI s0] [] sh pp mm Q := s_go cM_starts_3 cM_starts_4 rfl rfl
theorem rM_starts_4 {a0 : Nat} {a1 a2 : Int} : zS 223 4 [zR a0, zI a1, zI a2] [] sh pp mm Q ↔ zS 223 5 [zR a0, zI a1, zI a2] [zI a2] sh pp mm Q := s_go cM_starts_4 cM_starts_5 rfl rfl
theorem rM_starts_5 {a0 : Nat} {a1 a2 s0 : Int} : zS 223 5 [zR a0, zI a1, zI a2] [zI s0] sh pp mm Q ↔ zS 223 6 [zR a0, zI a1, zI a2] [zR a0, zI s0] sh pp mm Q := s_go cM_starts_5 cM_starts_6 rfl rfl
theorem rM_starts_6 {a0 s0 : Nat} {a1 a2 s1 : Int} : zS 223 6 [zR a0, zI a1, zI a2] [zR s0, zI s1] sh pp mm Q ↔ zS 223 7 [zR a0, zI a1, zI a2] [zI 1, zR s0, zI s1] sh pp mm Q := s_go cM_starts_6 cM_starts_7 rfl rfl
theorem rM_starts_7 {a0 s1 : Nat} {a1 a2 s0 s2 : Int} (hk : zKd sh s1 = 12) : zS 223 7 [zR a0, zI a1, zI a2] [zI s0, zR s1, zI s2] sh pp mm Q ↔ zS 169 0 [zR s1, zI s0] [] sh pp mm (fun v sh pp mm => zS 223 10 [zR a0, zI a1, zI a2] (zPush v [zI s2]) sh pp mm Q) := s_call cM_starts_7 cM_starts_10 ((if_pos hk).trans rfl) rfl
theorem rM_starts_10 {a0 : Nat} {a1 a2 s0 s1 : Int} : zS 223 10 [zR a0, zI a1, zI a2] [zI s0, zI s1] sh pp mm Q ↔ (s1 < s0 → zS 223 13 [zR a0, zI a1, zI a2] [] sh pp mm Q) ∧ (¬ s1 < s0 → zS 223 51 [zU, zI a1, zU] [] sh pp mm Q) := s_ifn cM_starts_10 cM_starts_13 cM_starts_51 rfl rfl rfl
theorem rM_starts_13 {a0 : Nat} {a1 a2 : Int} : zS 223 13 [zR a0, zI a1, zI a2] [] sh pp mm Q ↔ zS 223 14 [zR a0, zI a1, zI a2] [zR a0] sh pp mm Q := s_go cM_starts_13 cM_starts_14 rfl rfl
theorem rM_starts_14 {a0 s0 : Nat} {a1 a2 : Int} : zS 223 14 [zR a0, zI a1, zI a2] [zR s0] sh pp mm Q ↔ zS 223 15 [zR a0, zI a1, zI a2] [zI 2, zR s0] sh pp mm Q := s_go cM_starts_14 cM_starts_15 rfl rfl
theorem rM_starts_15 {a0 s1 : Nat} {a1 a2 s0 : Int} (hk : zKd sh s1 = 12) : zS 223 15 [zR a0, zI a1, zI a2] [zI s0, zR s1] sh pp mm Q ↔ zS 169 0 [zR s1, zI s0] [] sh pp mm (fun v sh pp mm => zS 223 18 [zR a0, zI a1, zI a2] (zPush v []) sh pp mm Q) := s_call cM_starts_15 cM_starts_18 ((if_pos hk).trans rfl) rfl
theorem rM_starts_18 {a0 : Nat} {a1 a2 s0 : Int} : zS 223 18 [zR a0, zI a1, zI a2] [zI s0] sh pp mm Q ↔ (0 < s0 → zS 223 21 [zR a0, zI a1, zI a2] [] sh pp mm Q) ∧ (¬ 0 < s0 → zS 223 51 [zU, zI a1, zU] [] sh pp mm Q) := s_ifn cM_starts_18 cM_starts_21 cM_starts_51 rfl rfl rfl
theorem rM_starts_21 {a0 : Nat} {a1 a2 : Int} : zS 223 21 [zR a0, zI a1, zI a2] [] sh pp mm Q ↔ zS 223 22 [zR a0, zI a1, zI a2] [zR a0] sh pp mm Q := s_go cM_starts_21 cM_starts_22 rfl rfl
theorem rM_starts_22 {a0 s0 : Nat} {a1 a2 : Int} : zS 223 22 [zR a0, zI a1, zI a2] [zR s0] sh pp mm Q ↔ zS 223 23 [zR a0, zI a1, zI a2] [zI a2, zR s0] sh pp mm Q := s_go cM_starts_22 cM_starts_23 rfl rfl
theorem rM_starts_23 {a0 s1 : Nat} {a1 a2 s0 : Int} (hk : zKd sh s1 = 12) : zS 223 23 [zR a0, zI a1, zI a2] [zI s0, zR s1] sh pp mm Q ↔ zS 222 0 [zR s1, zI s0, zU, zU, zU] [] sh pp mm (fun v sh pp mm => zS 223 26 [zR a0, zI a1, zI a2] (zPush v []) sh pp mm Q) := s_call cM_starts_23 cM_starts_26 ((if_pos hk).trans rfl) rfl
theorem rM_starts_26 {a0 : Nat} {a1 a2 : Int} : zS 223 26 [zR a0, zI a1, zI a2] [] sh pp mm Q ↔ zS 223 27 [zR a0, zU, zI a2] [zI a1] sh pp mm Q := s_go cM_starts_26 cM_starts_27 rfl rfl
theorem rM_starts_27 {a0 : Nat} {a2 s0 : Int} {u1 : zV} : zS 223 27 [zR a0, u1, zI a2] [zI s0] sh pp mm Q ↔ zS 223 28 [zR a0, zU, zI a2] [zR a0, zI s0] sh pp mm Q := s_go cM_starts_27 cM_starts_28 rfl rfl
theorem rM_starts_28 {a0 s0 : Nat} {a2 s1 : Int} {u1 : zV} (hk : zKd sh s0 = 12) : zS 223 28 [zR a0, u1, zI a2] [zR s0, zI s1] sh pp mm Q ↔ zS 223 31 [zR a0, zU, zI a2] [zR (pp s0 31), zI s1] sh pp mm Q := s_go cM_starts_28 cM_starts_31 (if_pos hk) rfl
theorem rM_starts_31 {a0 s0 : Nat} {a2 s1 : Int} {u1 : zV} : zS 223 31 [zR a0, u1, zI a2] [zR s0, zI s1] sh pp mm Q ↔ zS 223 32 [zR a0, zU, zI a2] [zI 0, zR s0, zI s1] sh pp mm Q := s_go cM_starts_31 cM_starts_32 rfl rfl
theorem rM_starts_32 {a0 s1 : Nat} {a2 s0 s2 : Int} {u1 : zV} (hk : zKd sh s1 = 22 ∨ zKd sh s1 = 32) (h0 : 0 ≤ s0) (h1 : s0 < zLn sh s1) : zS 223 32 [zR a0, u1, zI a2] [zI s0, zR s1, zI s2] sh pp mm Q ↔ zS 223 33 [zR a0, zU, zI a2] [zI (mm s1 s0), zI s2] sh pp mm Q := s_go cM_starts_32 cM_starts_33 (if_pos ⟨hk, h0, h1⟩) rfl
theorem rM_starts_33 {a0 : Nat} {a2 s0 s1 : Int} {u1 : zV} : zS 223 33 [zR a0, u1, zI a2] [zI s0, zI s1] sh pp mm Q ↔ (s0 = 0 → zS 223 42 [zR a0, zU, zI a2] [zI s1] sh pp mm Q) ∧ (¬ s0 = 0 → zS 223 36 [zR a0, zU, zI a2] [zI s1] sh pp mm Q) := s_if cM_starts_33 cM_starts_42 cM_starts_36 rfl rfl rfl
theorem rM_starts_36 {a0 : Nat} {a2 s0 : Int} {u1 : zV} : zS 223 36 [zR a0, u1, zI a2] [zI s0] sh pp mm Q ↔ zS 223 37 [zR a0, zU, zI a2] [zI 1, zI s0] sh pp mm Q := s_go cM_starts_36 cM_starts_37 rfl rfl
theorem rM_starts_37 {a0 : Nat} {a2 s0 s1 : Int} {u1 : zV} : zS 223 37 [zR a0, u1, zI a2] [zI s0, zI s1] sh pp mm Q ↔ zS 223 38 [zR a0, zU, zI a2] [zI a2, zI s0, zI s1] sh pp mm Q := s_go cM_starts_37 cM_starts_38 rfl rfl
theorem rM_starts_38 {a0 : Nat} {a2 s0 s1 s2 : Int} {u1 : zV} : zS 223 38 [zR a0, u1, zI a2] [zI s0, zI s1, zI s2] sh pp mm Q ↔ zS 223 39 [zR a0, zU, zI a2] [zI (zshl s1 s0), zI s2] sh pp mm Q := s_go cM_starts_38 cM_starts_39 rfl rfl
theorem rM_starts_39 {a0 : Nat} {a2 s0 s1 : Int} {u1 : zV} : zS 223 39 [zR a0, u1, zI a2] [zI s0, zI s1] sh pp mm Q ↔ zS 223 43 [zR a0, zU, zI a2] [zI s0, zI s1] sh pp mm Q := s_go cM_starts_39 cM_starts_43 rfl rfl
theorem rM_starts_42 {a0 : Nat} {a2 s0 : Int} {u1 : zV} : zS 223 42 [zR a0, u1, zI a2] [zI s0] sh pp mm Q ↔ zS 223 43 [zR a0, zU, zI a2] [zI 0, zI s0] sh pp mm Q := s_go cM_starts_42 cM_starts_43 rfl rfl
theorem rM_starts_43 {a0 : Nat} {a2 s0 s1 : Int} {u1 : zV} : zS 223 43 [zR a0, u1, zI a2] [zI s0, zI s1] sh pp mm Q ↔ zS 223 44 [zR a0, zU, zI a2] [zI (zor s1 s0)] sh pp mm Q := s_go cM_starts_43 cM_starts_44 rfl rfl
theorem rM_starts_44 {a0 : Nat} {a2 s0 : Int} {u1 : zV} : zS 223 44 [zR a0, u1, zI a2] [zI s0] sh pp mm Q ↔ zS 223 45 [zR a0, zI s0, zI a2] [] sh pp mm Q := s_go cM_starts_44 cM_starts_45 rfl rfl
theorem rM_starts_45 {a0 : Nat} {a1 a2 : Int} : zS 223 45 [zR a0, zI a1, zI a2] [] sh pp mm Q ↔ zS 223 48 [zR a0, zI a1, zI (zw32 (a2 + 1))] [] sh pp mm Q := s_go cM_starts_45 cM_starts_48 rfl rfl
theorem rM_starts_48 {a0 : Nat} {a1 a2 : Int} : zS 223 48 [zR a0, zI a1, zI a2] [] sh pp mm Q ↔ zS 223 4 [zR a0, zI a1, zI a2] [] sh pp mm Q := s_go cM_starts_48 cM_starts_4 rfl rfl
theorem rM_starts_51 {a1 : Int} {u0 u2 : zV} : zS 223 51 [u0, zI a1, u2] [] sh pp mm Q ↔ zS 223 52 [zU, zU, zU] [zI a1] sh pp mm Q := s_go cM_starts_51 cM_starts_52 rfl rfl
theorem rM_starts_52 {s0 : Int} {u0 u1 u2 : zV} : zS 223 52 [u0, u1, u2] [zI s0] sh pp mm Q ↔ Q (zI s0) sh pp mm := s_ret cM_starts_52 rfl
theorem cAM_layLine : ∀ q ∈ zT224, zCode 224 q.1 = some q.2 := zAll (mid := 224) rfl (by decide +kernel)
theorem cAM_layLine_0 : ∀ q ∈ zT224_0, zCode 224 q.1 = some q.2 := fun q h => cAM_layLine q (List.mem_append_left _ h)
theorem cAM_layLine_1 : ∀ q ∈ zT224_1, zCode 224 q.1 = some q.2 := fun q h => cAM_layLine q (List.mem_append_right _ (List.mem_append_left _ h))
theorem cAM_layLine_2 : ∀ q ∈ zT224_2, zCode 224 q.1 = some q.2 := fun q h => cAM_layLine q (List.mem_append_right _ (List.mem_append_right _ (List.mem_append_left _ h)))
theorem cAM_layLine_3 : ∀ q ∈ zT224_3, zCode 224 q.1 = some q.2 := fun q h => cAM_layLine q (List.mem_append_right _ (List.mem_append_right _ (List.mem_append_right _ h)))
theorem cM_layLine_0 : zCode 224 0 = some (.iconst 0, 1, 0, 0, 0, 0, 1) := cAM_layLine_0 _ (List.mem_of_getElem? (i := 0) rfl)
theorem cM_layLine_1 : zCode 224 1 = some (.istore_n 1, 2, 0, 0, 0, 0, 1) := cAM_layLine_0 _ (List.mem_of_getElem? (i := 1) rfl)
theorem cM_layLine_2 : zCode 224 2 = some (.iconst 0, 3, 0, 0, 0, 0, 3) := cAM_layLine_0 _ (List.mem_of_getElem? (i := 2) rfl)
theorem cM_layLine_3 : zCode 224 3 = some (.istore_n 2, 4, 0, 0, 0, 0, 3) := cAM_layLine_0 _ (List.mem_of_getElem? (i := 3) rfl)
theorem cM_layLine_4 : zCode 224 4 = some (.iload_n 2, 5, 0, 0, 0, 0, 7) := cAM_layLine_0 _ (List.mem_of_getElem? (i := 4) rfl)
theorem cM_layLine_5 : zCode 224 5 = some (.aload_n 0, 6, 0, 0, 0, 0, 7) := cAM_layLine_0 _ (List.mem_of_getElem? (i := 5) rfl)
theorem cM_layLine_6 : zCode 224 6 = some (.iconst 2, 7, 0, 0, 0, 0, 7) := cAM_layLine_0 _ (List.mem_of_getElem? (i := 6) rfl)
theorem cM_layLine_7 : zCode 224 7 = some (.invokevirtual 288, 10, 169, 1, 2, 12, 7) := cAM_layLine_0 _ (List.mem_of_getElem? (i := 7) rfl)
theorem cM_layLine_10 : zCode 224 10 = some (.if_icmp .ge 67, 13, 77, 0, 0, 0, 7) := cAM_layLine_0 _ (List.mem_of_getElem? (i := 8) rfl)
theorem cM_layLine_13 : zCode 224 13 = some (.iconst 0, 14, 0, 0, 0, 0, 7) := cAM_layLine_0 _ (List.mem_of_getElem? (i := 9) rfl)
theorem cM_layLine_14 : zCode 224 14 = some (.istore_n 3, 15, 0, 0, 0, 0, 7) := cAM_layLine_0 _ (List.mem_of_getElem? (i := 10) rfl)
theorem cM_layLine_15 : zCode 224 15 = some (.iload_n 1, 16, 0, 0, 0, 0, 15) := cAM_layLine_0 _ (List.mem_of_getElem? (i := 11) rfl)
theorem cM_layLine_16 : zCode 224 16 = some (.iload_n 3, 17, 0, 0, 0, 0, 15) := cAM_layLine_0 _ (List.mem_of_getElem? (i := 12) rfl)
theorem cM_layLine_17 : zCode 224 17 = some (.ishr, 18, 0, 0, 0, 0, 15) := cAM_layLine_0 _ (List.mem_of_getElem? (i := 13) rfl)
theorem cM_layLine_18 : zCode 224 18 = some (.iconst 1, 19, 0, 0, 0, 0, 15) := cAM_layLine_0 _ (List.mem_of_getElem? (i := 14) rfl)
theorem cM_layLine_19 : zCode 224 19 = some (.iand, 20, 0, 0, 0, 0, 15) := cAM_layLine_0 _ (List.mem_of_getElem? (i := 15) rfl)
theorem cM_layLine_20 : zCode 224 20 = some (.iconst 1, 21, 0, 0, 0, 0, 15) := cAM_layLine_1 _ (List.mem_of_getElem? (i := 0) rfl)
theorem cM_layLine_21 : zCode 224 21 = some (.if_icmp .eq 31, 24, 52, 0, 0, 0, 15) := cAM_layLine_1 _ (List.mem_of_getElem? (i := 1) rfl)
theorem cM_layLine_24 : zCode 224 24 = some (.aload_n 0, 25, 0, 0, 0, 0, 15) := cAM_layLine_1 _ (List.mem_of_getElem? (i := 2) rfl)
theorem cM_layLine_25 : zCode 224 25 = some (.iload_n 3, 26, 0, 0, 0, 0, 15) := cAM_layLine_1 _ (List.mem_of_getElem? (i := 3) rfl)
theorem cM_layLine_26 : zCode 224 26 = some (.aload_n 0, 27, 0, 0, 0, 0, 15) := cAM_layLine_1 _ (List.mem_of_getElem? (i := 4) rfl)
theorem cM_layLine_27 : zCode 224 27 = some (.getfield 54, 30, 12, 30, 2, 1239, 15) := cAM_layLine_1 _ (List.mem_of_getElem? (i := 5) rfl)
theorem cM_layLine_30 : zCode 224 30 = some (.iload_n 1, 31, 0, 0, 0, 0, 15) := cAM_layLine_1 _ (List.mem_of_getElem? (i := 6) rfl)
theorem cM_layLine_31 : zCode 224 31 = some (.iaload, 32, 0, 0, 0, 0, 15) := cAM_layLine_1 _ (List.mem_of_getElem? (i := 7) rfl)
theorem cM_layLine_32 : zCode 224 32 = some (.invokevirtual 315, 35, 213, 2, 3, 12, 15) := cAM_layLine_1 _ (List.mem_of_getElem? (i := 8) rfl)
theorem cM_layLine_35 : zCode 224 35 = some (.iconst (-1), 36, 0, 0, 0, 0, 15) := cAM_layLine_1 _ (List.mem_of_getElem? (i := 9) rfl)
theorem cM_layLine_36 : zCode 224 36 = some (.if_icmp .eq 16, 39, 52, 0, 0, 0, 15) := cAM_layLine_1 _ (List.mem_of_getElem? (i := 10) rfl)
theorem cM_layLine_39 : zCode 224 39 = some (.aload_n 0, 40, 0, 0, 0, 0, 15) := cAM_layLine_1 _ (List.mem_of_getElem? (i := 11) rfl)
theorem cM_layLine_40 : zCode 224 40 = some (.getfield 57, 43, 12, 31, 2, 1240, 15) := cAM_layLine_1 _ (List.mem_of_getElem? (i := 12) rfl)
theorem cM_layLine_43 : zCode 224 43 = some (.iload_n 1, 44, 0, 0, 0, 0, 15) := cAM_layLine_1 _ (List.mem_of_getElem? (i := 13) rfl)
theorem cM_layLine_44 : zCode 224 44 = some (.iconst 1, 45, 0, 0, 0, 0, 15) := cAM_layLine_1 _ (List.mem_of_getElem? (i := 14) rfl)
theorem cM_layLine_45 : zCode 224 45 = some (.iload_n 3, 46, 0, 0, 0, 0, 15) := cAM_layLine_1 _ (List.mem_of_getElem? (i := 15) rfl)
theorem cM_layLine_46 : zCode 224 46 = some (.ishl, 47, 0, 0, 0, 0, 15) := cAM_layLine_2 _ (List.mem_of_getElem? (i := 0) rfl)
theorem cM_layLine_47 : zCode 224 47 = some (.ior, 48, 0, 0, 0, 0, 15) := cAM_layLine_2 _ (List.mem_of_getElem? (i := 1) rfl)
theorem cM_layLine_48 : zCode 224 48 = some (.baload, 49, 0, 0, 0, 0, 15) := cAM_layLine_2 _ (List.mem_of_getElem? (i := 2) rfl)
theorem cM_layLine_49 : zCode 224 49 = some (.ifCond .ne 9, 52, 58, 0, 0, 0, 15) := cAM_layLine_2 _ (List.mem_of_getElem? (i := 3) rfl)
theorem cM_layLine_52 : zCode 224 52 = some (.iinc 3 1, 55, 0, 0, 0, 0, 15) := cAM_layLine_2 _ (List.mem_of_getElem? (i := 4) rfl)
theorem cM_layLine_55 : zCode 224 55 = some (.goto (-40), 58, 15, 0, 0, 0, 15) := cAM_layLine_2 _ (List.mem_of_getElem? (i := 5) rfl)
theorem cM_layLine_58 : zCode 224 58 = some (.aload_n 0, 59, 0, 0, 0, 0, 15) := cAM_layLine_2 _ (List.mem_of_getElem? (i := 6) rfl)
theorem cM_layLine_59 : zCode 224 59 = some (.getfield 60, 62, 12, 32, 2, 1241, 15) := cAM_layLine_2 _ (List.mem_of_getElem? (i := 7) rfl)
theorem cM_layLine_62 : zCode 224 62 = some (.iload_n 2, 63, 0, 0, 0, 0, 15) := cAM_layLine_2 _ (List.mem_of_getElem? (i := 8) rfl)
theorem cM_layLine_63 : zCode 224 63 = some (.iload_n 3, 64, 0, 0, 0, 0, 15) := cAM_layLine_2 _ (List.mem_of_getElem? (i := 9) rfl)
theorem cM_layLine_64 : zCode 224 64 = some (.iastore, 65, 0, 0, 0, 0, 15) := cAM_layLine_2 _ (List.mem_of_getElem? (i := 10) rfl)
theorem cM_layLine_65 : zCode 224 65 = some (.iload_n 1, 66, 0, 0, 0, 0, 15) := cAM_layLine_2 _ (List.mem_of_getElem? (i := 11) rfl)
theorem cM_layLine_66 : zCode 224 66 = some (.iconst 1, 67, 0, 0, 0, 0, 13) := cAM_layLine_2 _ (List.mem_of_getElem? (i := 12) rfl)
theorem cM_layLine_67 : zCode 224 67 = some (.iload_n 3, 68, 0, 0, 0, 0, 13) := cAM_layLine_2 _ (List.mem_of_getElem? (i := 13) rfl)
theorem cM_layLine_68 : zCode 224 68 = some (.ishl, 69, 0, 0, 0, 0, 5) := cAM_layLine_2 _ (List.mem_of_getElem? (i := 14) rfl)
theorem cM_layLine_69 : zCode 224 69 = some (.ior, 70, 0, 0, 0, 0, 5) := cAM_layLine_2 _ (List.mem_of_getElem? (i := 15) rfl)
theorem cM_layLine_70 : zCode 224 70 = some (.istore_n 1, 71, 0, 0, 0, 0, 5) := cAM_layLine_3 _ (List.mem_of_getElem? (i := 0) rfl)
theorem cM_layLine_71 : zCode 224 71 = some (.iinc 2 1, 74, 0, 0, 0, 0, 7) := cAM_layLine_3 _ (List.mem_of_getElem? (i := 1) rfl)
theorem cM_layLine_74 : zCode 224 74 = some (.goto (-70), 77, 4, 0, 0, 0, 7) := cAM_layLine_3 _ (List.mem_of_getElem? (i := 2) rfl)
theorem cM_layLine_77 : zCode 224 77 = some (.return_, 78, 0, 0, 0, 0, 0) := cAM_layLine_3 _ (List.mem_of_getElem? (i := 3) rfl)
theorem rM_layLine_0 {a0 : Nat} {u1 u2 u3 : zV} : zS 224 0 [zR a0, u1, u2, u3] [] sh pp mm Q ↔ zS 224 1 [zR a0, zU, zU, zU] [zI 0] sh pp mm Q := s_go cM_layLine_0 cM_layLine_1 rfl rfl
theorem rM_layLine_1 {a0 : Nat} {s0 : Int} {u1 u2 u3 : zV} : zS 224 1 [zR a0, u1, u2, u3] [zI s0] sh pp mm Q ↔ zS 224 2 [zR a0, zI s0, zU, zU] [] sh pp mm Q := s_go cM_layLine_1 cM_layLine_2 rfl rfl
theorem rM_layLine_2 {a0 : Nat} {a1 : Int} {u2 u3 : zV} : zS 224 2 [zR a0, zI a1, u2, u3] [] sh pp mm Q ↔ zS 224 3 [zR a0, zI a1, zU, zU] [zI 0] sh pp mm Q := s_go cM_layLine_2 cM_layLine_3 rfl rfl
theorem rM_layLine_3 {a0 : Nat} {a1 s0 : Int} {u2 u3 : zV} : zS 224 3 [zR a0, zI a1, u2, u3] [zI s0] sh pp mm Q ↔ zS 224 4 [zR a0, zI a1, zI s0, zU] [] sh pp mm Q := s_go cM_layLine_3 cM_layLine_4 rfl rfl
theorem rM_layLine_4 {a0 : Nat} {a1 a2 : Int} {u3 : zV} : zS 224 4 [zR a0, zI a1, zI a2, u3] [] sh pp mm Q ↔ zS 224 5 [zR a0, zI a1, zI a2, zU] [zI a2] sh pp mm Q := s_go cM_layLine_4 cM_layLine_5 rfl rfl
theorem rM_layLine_5 {a0 : Nat} {a1 a2 s0 : Int} {u3 : zV} : zS 224 5 [zR a0, zI a1, zI a2, u3] [zI s0] sh pp mm Q ↔ zS 224 6 [zR a0, zI a1, zI a2, zU] [zR a0, zI s0] sh pp mm Q := s_go cM_layLine_5 cM_layLine_6 rfl rfl
theorem rM_layLine_6 {a0 s0 : Nat} {a1 a2 s1 : Int} {u3 : zV} : zS 224 6 [zR a0, zI a1, zI a2, u3] [zR s0, zI s1] sh pp mm Q ↔ zS 224 7 [zR a0, zI a1, zI a2, zU] [zI 2, zR s0, zI s1] sh pp mm Q := s_go cM_layLine_6 cM_layLine_7 rfl rfl
theorem rM_layLine_7 {a0 s1 : Nat} {a1 a2 s0 s2 : Int} {u3 : zV} (hk : zKd sh s1 = 12) : zS 224 7 [zR a0, zI a1, zI a2, u3] [zI s0, zR s1, zI s2] sh pp mm Q ↔ zS 169 0 [zR s1, zI s0] [] sh pp mm (fun v sh pp mm => zS 224 10 [zR a0, zI a1, zI a2, zU] (zPush v [zI s2]) sh pp mm Q) := s_call cM_layLine_7 cM_layLine_10 ((if_pos hk).trans rfl) rfl
theorem rM_layLine_10 {a0 : Nat} {a1 a2 s0 s1 : Int} {u3 : zV} : zS 224 10 [zR a0, zI a1, zI a2, u3] [zI s0, zI s1] sh pp mm Q ↔ (s1 < s0 → zS 224 13 [zR a0, zI a1, zI a2, zU] [] sh pp mm Q) ∧ (¬ s1 < s0 → zS 224 77 [zU, zU, zU, zU] [] sh pp mm Q) := s_ifn cM_layLine_10 cM_layLine_13 cM_layLine_77 rfl rfl rfl
theorem rM_layLine_13 {a0 : Nat} {a1 a2 : Int} {u3 : zV} : zS 224 13 [zR a0, zI a1, zI a2, u3] [] sh pp mm Q ↔ zS 224 14 [zR a0, zI a1, zI a2, zU] [zI 0] sh pp mm Q := s_go cM_layLine_13 cM_layLine_14 rfl rfl
theorem rM_layLine_14 {a0 : Nat} {a1 a2 s0 : Int} {u3 : zV} : zS 224 14 [zR a0, zI a1, zI a2, u3] [zI s0] sh pp mm Q ↔ zS 224 15 [zR a0, zI a1, zI a2, zI s0] [] sh pp mm Q := s_go cM_layLine_14 cM_layLine_15 rfl rfl
theorem rM_layLine_15 {a0 : Nat} {a1 a2 a3 : Int} : zS 224 15 [zR a0, zI a1, zI a2, zI a3] [] sh pp mm Q ↔ zS 224 16 [zR a0, zI a1, zI a2, zI a3] [zI a1] sh pp mm Q := s_go cM_layLine_15 cM_layLine_16 rfl rfl
theorem rM_layLine_16 {a0 : Nat} {a1 a2 a3 s0 : Int} : zS 224 16 [zR a0, zI a1, zI a2, zI a3] [zI s0] sh pp mm Q ↔ zS 224 17 [zR a0, zI a1, zI a2, zI a3] [zI a3, zI s0] sh pp mm Q := s_go cM_layLine_16 cM_layLine_17 rfl rfl
theorem rM_layLine_17 {a0 : Nat} {a1 a2 a3 s0 s1 : Int} : zS 224 17 [zR a0, zI a1, zI a2, zI a3] [zI s0, zI s1] sh pp mm Q ↔ zS 224 18 [zR a0, zI a1, zI a2, zI a3] [zI (zshr s1 s0)] sh pp mm Q := s_go cM_layLine_17 cM_layLine_18 rfl rfl
theorem rM_layLine_18 {a0 : Nat} {a1 a2 a3 s0 : Int} : zS 224 18 [zR a0, zI a1, zI a2, zI a3] [zI s0] sh pp mm Q ↔ zS 224 19 [zR a0, zI a1, zI a2, zI a3] [zI 1, zI s0] sh pp mm Q := s_go cM_layLine_18 cM_layLine_19 rfl rfl
theorem rM_layLine_19 {a0 : Nat} {a1 a2 a3 s0 s1 : Int} : zS 224 19 [zR a0, zI a1, zI a2, zI a3] [zI s0, zI s1] sh pp mm Q ↔ zS 224 20 [zR a0, zI a1, zI a2, zI a3] [zI (zand s1 s0)] sh pp mm Q := s_go cM_layLine_19 cM_layLine_20 rfl rfl
theorem rM_layLine_20 {a0 : Nat} {a1 a2 a3 s0 : Int} : zS 224 20 [zR a0, zI a1, zI a2, zI a3] [zI s0] sh pp mm Q ↔ zS 224 21 [zR a0, zI a1, zI a2, zI a3] [zI 1, zI s0] sh pp mm Q := s_go cM_layLine_20 cM_layLine_21 rfl rfl
theorem rM_layLine_21 {a0 : Nat} {a1 a2 a3 s0 s1 : Int} : zS 224 21 [zR a0, zI a1, zI a2, zI a3] [zI s0, zI s1] sh pp mm Q ↔ (s1 = s0 → zS 224 52 [zR a0, zI a1, zI a2, zI a3] [] sh pp mm Q) ∧ (¬ s1 = s0 → zS 224 24 [zR a0, zI a1, zI a2, zI a3] [] sh pp mm Q) := s_if cM_layLine_21 cM_layLine_52 cM_layLine_24 rfl rfl rfl
theorem rM_layLine_24 {a0 : Nat} {a1 a2 a3 : Int} : zS 224 24 [zR a0, zI a1, zI a2, zI a3] [] sh pp mm Q ↔ zS 224 25 [zR a0, zI a1, zI a2, zI a3] [zR a0] sh pp mm Q := s_go cM_layLine_24 cM_layLine_25 rfl rfl
theorem rM_layLine_25 {a0 s0 : Nat} {a1 a2 a3 : Int} : zS 224 25 [zR a0, zI a1, zI a2, zI a3] [zR s0] sh pp mm Q ↔ zS 224 26 [zR a0, zI a1, zI a2, zI a3] [zI a3, zR s0] sh pp mm Q := s_go cM_layLine_25 cM_layLine_26 rfl rfl
theorem rM_layLine_26 {a0 s1 : Nat} {a1 a2 a3 s0 : Int} : zS 224 26 [zR a0, zI a1, zI a2, zI a3] [zI s0, zR s1] sh pp mm Q ↔ zS 224 27 [zR a0, zI a1, zI a2, zI a3] [zR a0, zI s0, zR s1] sh pp mm Q := s_go cM_layLine_26 cM_layLine_27 rfl rfl
theorem rM_layLine_27 {a0 s0 s2 : Nat} {a1 a2 a3 s1 : Int} (hk : zKd sh s0 = 12) : zS 224 27 [zR a0, zI a1, zI a2, zI a3] [zR s0, zI s1, zR s2] sh pp mm Q ↔ zS 224 30 [zR a0, zI a1, zI a2, zI a3] [zR (pp s0 30), zI s1, zR s2] sh pp mm Q := s_go cM_layLine_27 cM_layLine_30 (if_pos hk) rfl
theorem rM_layLine_30 {a0 s0 s2 : Nat} {a1 a2 a3 s1 : Int} : zS 224 30 [zR a0, zI a1, zI a2, zI a3] [zR s0, zI s1, zR s2] sh pp mm Q ↔ zS 224 31 [zR a0, zI a1, zI a2, zI a3] [zI a1, zR s0, zI s1, zR s2] sh pp mm Q := s_go cM_layLine_30 cM_layLine_31 rfl rfl
theorem rM_layLine_31 {a0 s1 s3 : Nat} {a1 a2 a3 s0 s2 : Int} (hk : zKd sh s1 = 20 ∨ zKd sh s1 = 30) (h0 : 0 ≤ s0) (h1 : s0 < zLn sh s1) : zS 224 31 [zR a0, zI a1, zI a2, zI a3] [zI s0, zR s1, zI s2, zR s3] sh pp mm Q ↔ zS 224 32 [zR a0, zI a1, zI a2, zI a3] [zI (mm s1 s0), zI s2, zR s3] sh pp mm Q := s_go cM_layLine_31 cM_layLine_32 (if_pos ⟨hk, h0, h1⟩) rfl
theorem rM_layLine_32 {a0 s2 : Nat} {a1 a2 a3 s0 s1 : Int} (hk : zKd sh s2 = 12) : zS 224 32 [zR a0, zI a1, zI a2, zI a3] [zI s0, zI s1, zR s2] sh pp mm Q ↔ zS 213 0 [zR s2, zI s1, zI s0] [] sh pp mm (fun v sh pp mm => zS 224 35 [zR a0, zI a1, zI a2, zI a3] (zPush v []) sh pp mm Q) := s_call cM_layLine_32 cM_layLine_35 ((if_pos hk).trans rfl) rfl
theorem rM_layLine_35 {a0 : Nat} {a1 a2 a3 s0 : Int} : zS 224 35 [zR a0, zI a1, zI a2, zI a3] [zI s0] sh pp mm Q ↔ zS 224 36 [zR a0, zI a1, zI a2, zI a3] [zI (-1), zI s0] sh pp mm Q := s_go cM_layLine_35 cM_layLine_36 rfl rfl
theorem rM_layLine_36 {a0 : Nat} {a1 a2 a3 s0 s1 : Int} : zS 224 36 [zR a0, zI a1, zI a2, zI a3] [zI s0, zI s1] sh pp mm Q ↔ (s1 = s0 → zS 224 52 [zR a0, zI a1, zI a2, zI a3] [] sh pp mm Q) ∧ (¬ s1 = s0 → zS 224 39 [zR a0, zI a1, zI a2, zI a3] [] sh pp mm Q) := s_if cM_layLine_36 cM_layLine_52 cM_layLine_39 rfl rfl rfl
theorem rM_layLine_39 {a0 : Nat} {a1 a2 a3 : Int} : zS 224 39 [zR a0, zI a1, zI a2, zI a3] [] sh pp mm Q ↔ zS 224 40 [zR a0, zI a1, zI a2, zI a3] [zR a0] sh pp mm Q := s_go cM_layLine_39 cM_layLine_40 rfl rfl
theorem rM_layLine_40 {a0 s0 : Nat} {a1 a2 a3 : Int} (hk : zKd sh s0 = 12) : zS 224 40 [zR a0, zI a1, zI a2, zI a3] [zR s0] sh pp mm Q ↔ zS 224 43 [zR a0, zI a1, zI a2, zI a3] [zR (pp s0 31)] sh pp mm Q := s_go cM_layLine_40 cM_layLine_43 (if_pos hk) rfl
theorem rM_layLine_43 {a0 s0 : Nat} {a1 a2 a3 : Int} : zS 224 43 [zR a0, zI a1, zI a2, zI a3] [zR s0] sh pp mm Q ↔ zS 224 44 [zR a0, zI a1, zI a2, zI a3] [zI a1, zR s0] sh pp mm Q := s_go cM_layLine_43 cM_layLine_44 rfl rfl
theorem rM_layLine_44 {a0 s1 : Nat} {a1 a2 a3 s0 : Int} : zS 224 44 [zR a0, zI a1, zI a2, zI a3] [zI s0, zR s1] sh pp mm Q ↔ zS 224 45 [zR a0, zI a1, zI a2, zI a3] [zI 1, zI s0, zR s1] sh pp mm Q := s_go cM_layLine_44 cM_layLine_45 rfl rfl
theorem rM_layLine_45 {a0 s2 : Nat} {a1 a2 a3 s0 s1 : Int} : zS 224 45 [zR a0, zI a1, zI a2, zI a3] [zI s0, zI s1, zR s2] sh pp mm Q ↔ zS 224 46 [zR a0, zI a1, zI a2, zI a3] [zI a3, zI s0, zI s1, zR s2] sh pp mm Q := s_go cM_layLine_45 cM_layLine_46 rfl rfl
theorem rM_layLine_46 {a0 s3 : Nat} {a1 a2 a3 s0 s1 s2 : Int} : zS 224 46 [zR a0, zI a1, zI a2, zI a3] [zI s0, zI s1, zI s2, zR s3] sh pp mm Q ↔ zS 224 47 [zR a0, zI a1, zI a2, zI a3] [zI (zshl s1 s0), zI s2, zR s3] sh pp mm Q := s_go cM_layLine_46 cM_layLine_47 rfl rfl
theorem rM_layLine_47 {a0 s2 : Nat} {a1 a2 a3 s0 s1 : Int} : zS 224 47 [zR a0, zI a1, zI a2, zI a3] [zI s0, zI s1, zR s2] sh pp mm Q ↔ zS 224 48 [zR a0, zI a1, zI a2, zI a3] [zI (zor s1 s0), zR s2] sh pp mm Q := s_go cM_layLine_47 cM_layLine_48 rfl rfl
theorem rM_layLine_48 {a0 s1 : Nat} {a1 a2 a3 s0 : Int} (hk : zKd sh s1 = 22 ∨ zKd sh s1 = 32) (h0 : 0 ≤ s0) (h1 : s0 < zLn sh s1) : zS 224 48 [zR a0, zI a1, zI a2, zI a3] [zI s0, zR s1] sh pp mm Q ↔ zS 224 49 [zR a0, zI a1, zI a2, zI a3] [zI (mm s1 s0)] sh pp mm Q := s_go cM_layLine_48 cM_layLine_49 (if_pos ⟨hk, h0, h1⟩) rfl
theorem rM_layLine_49 {a0 : Nat} {a1 a2 a3 s0 : Int} : zS 224 49 [zR a0, zI a1, zI a2, zI a3] [zI s0] sh pp mm Q ↔ (s0 = 0 → zS 224 52 [zR a0, zI a1, zI a2, zI a3] [] sh pp mm Q) ∧ (¬ s0 = 0 → zS 224 58 [zR a0, zI a1, zI a2, zI a3] [] sh pp mm Q) := s_ifn cM_layLine_49 cM_layLine_52 cM_layLine_58 rfl rfl rfl
theorem rM_layLine_52 {a0 : Nat} {a1 a2 a3 : Int} : zS 224 52 [zR a0, zI a1, zI a2, zI a3] [] sh pp mm Q ↔ zS 224 55 [zR a0, zI a1, zI a2, zI (zw32 (a3 + 1))] [] sh pp mm Q := s_go cM_layLine_52 cM_layLine_55 rfl rfl
theorem rM_layLine_55 {a0 : Nat} {a1 a2 a3 : Int} : zS 224 55 [zR a0, zI a1, zI a2, zI a3] [] sh pp mm Q ↔ zS 224 15 [zR a0, zI a1, zI a2, zI a3] [] sh pp mm Q := s_go cM_layLine_55 cM_layLine_15 rfl rfl
theorem rM_layLine_58 {a0 : Nat} {a1 a2 a3 : Int} : zS 224 58 [zR a0, zI a1, zI a2, zI a3] [] sh pp mm Q ↔ zS 224 59 [zR a0, zI a1, zI a2, zI a3] [zR a0] sh pp mm Q := s_go cM_layLine_58 cM_layLine_59 rfl rfl
theorem rM_layLine_59 {a0 s0 : Nat} {a1 a2 a3 : Int} (hk : zKd sh s0 = 12) : zS 224 59 [zR a0, zI a1, zI a2, zI a3] [zR s0] sh pp mm Q ↔ zS 224 62 [zR a0, zI a1, zI a2, zI a3] [zR (pp s0 32)] sh pp mm Q := s_go cM_layLine_59 cM_layLine_62 (if_pos hk) rfl
theorem rM_layLine_62 {a0 s0 : Nat} {a1 a2 a3 : Int} : zS 224 62 [zR a0, zI a1, zI a2, zI a3] [zR s0] sh pp mm Q ↔ zS 224 63 [zR a0, zI a1, zI a2, zI a3] [zI a2, zR s0] sh pp mm Q := s_go cM_layLine_62 cM_layLine_63 rfl rfl
theorem rM_layLine_63 {a0 s1 : Nat} {a1 a2 a3 s0 : Int} : zS 224 63 [zR a0, zI a1, zI a2, zI a3] [zI s0, zR s1] sh pp mm Q ↔ zS 224 64 [zR a0, zI a1, zI a2, zI a3] [zI a3, zI s0, zR s1] sh pp mm Q := s_go cM_layLine_63 cM_layLine_64 rfl rfl
theorem rM_layLine_64 {a0 s2 : Nat} {a1 a2 a3 s0 s1 : Int} (hk : zKd sh s2 = 20) (h0 : 0 ≤ s1) (h1 : s1 < zLn sh s2) : zS 224 64 [zR a0, zI a1, zI a2, zI a3] [zI s0, zI s1, zR s2] sh pp mm Q ↔ zS 224 65 [zR a0, zI a1, zI a2, zI a3] [] sh pp (zupd mm s2 s1 s0) Q := s_go cM_layLine_64 cM_layLine_65 (if_pos ⟨hk, h0, h1, fun h => absurd h (by decide)⟩) rfl
theorem rM_layLine_65 {a0 : Nat} {a1 a2 a3 : Int} : zS 224 65 [zR a0, zI a1, zI a2, zI a3] [] sh pp mm Q ↔ zS 224 66 [zR a0, zU, zI a2, zI a3] [zI a1] sh pp mm Q := s_go cM_layLine_65 cM_layLine_66 rfl rfl
theorem rM_layLine_66 {a0 : Nat} {a2 a3 s0 : Int} {u1 : zV} : zS 224 66 [zR a0, u1, zI a2, zI a3] [zI s0] sh pp mm Q ↔ zS 224 67 [zR a0, zU, zI a2, zI a3] [zI 1, zI s0] sh pp mm Q := s_go cM_layLine_66 cM_layLine_67 rfl rfl
theorem rM_layLine_67 {a0 : Nat} {a2 a3 s0 s1 : Int} {u1 : zV} : zS 224 67 [zR a0, u1, zI a2, zI a3] [zI s0, zI s1] sh pp mm Q ↔ zS 224 68 [zR a0, zU, zI a2, zU] [zI a3, zI s0, zI s1] sh pp mm Q := s_go cM_layLine_67 cM_layLine_68 rfl rfl
theorem rM_layLine_68 {a0 : Nat} {a2 s0 s1 s2 : Int} {u1 u3 : zV} : zS 224 68 [zR a0, u1, zI a2, u3] [zI s0, zI s1, zI s2] sh pp mm Q ↔ zS 224 69 [zR a0, zU, zI a2, zU] [zI (zshl s1 s0), zI s2] sh pp mm Q := s_go cM_layLine_68 cM_layLine_69 rfl rfl
theorem rM_layLine_69 {a0 : Nat} {a2 s0 s1 : Int} {u1 u3 : zV} : zS 224 69 [zR a0, u1, zI a2, u3] [zI s0, zI s1] sh pp mm Q ↔ zS 224 70 [zR a0, zU, zI a2, zU] [zI (zor s1 s0)] sh pp mm Q := s_go cM_layLine_69 cM_layLine_70 rfl rfl
theorem rM_layLine_70 {a0 : Nat} {a2 s0 : Int} {u1 u3 : zV} : zS 224 70 [zR a0, u1, zI a2, u3] [zI s0] sh pp mm Q ↔ zS 224 71 [zR a0, zI s0, zI a2, zU] [] sh pp mm Q := s_go cM_layLine_70 cM_layLine_71 rfl rfl
theorem rM_layLine_71 {a0 : Nat} {a1 a2 : Int} {u3 : zV} : zS 224 71 [zR a0, zI a1, zI a2, u3] [] sh pp mm Q ↔ zS 224 74 [zR a0, zI a1, zI (zw32 (a2 + 1)), zU] [] sh pp mm Q := s_go cM_layLine_71 cM_layLine_74 rfl rfl
theorem rM_layLine_74 {a0 : Nat} {a1 a2 : Int} {u3 : zV} : zS 224 74 [zR a0, zI a1, zI a2, u3] [] sh pp mm Q ↔ zS 224 4 [zR a0, zI a1, zI a2, zU] [] sh pp mm Q := s_go cM_layLine_74 cM_layLine_4 rfl rfl
theorem rM_layLine_77 {u0 u1 u2 u3 : zV} : zS 224 77 [u0, u1, u2, u3] [] sh pp mm Q ↔ Q zU sh pp mm := s_ret cM_layLine_77 rfl
theorem cAM_isLineLess : ∀ q ∈ zT225, zCode 225 q.1 = some q.2 := zAll (mid := 225) rfl (by decide +kernel)
theorem cAM_isLineLess_0 : ∀ q ∈ zT225_0, zCode 225 q.1 = some q.2 := fun q h => cAM_isLineLess q (List.mem_append_left _ h)
theorem cAM_isLineLess_1 : ∀ q ∈ zT225_1, zCode 225 q.1 = some q.2 := fun q h => cAM_isLineLess q (List.mem_append_right _ (List.mem_append_left _ h))
theorem cAM_isLineLess_2 : ∀ q ∈ zT225_2, zCode 225 q.1 = some q.2 := fun q h => cAM_isLineLess q (List.mem_append_right _ (List.mem_append_right _ h))
theorem cM_isLineLess_0 : zCode 225 0 = some (.iconst 0, 1, 0, 0, 0, 0, 1) := cAM_isLineLess_0 _ (List.mem_of_getElem? (i := 0) rfl)
theorem cM_isLineLess_1 : zCode 225 1 = some (.istore_n 1, 2, 0, 0, 0, 0, 1) := cAM_isLineLess_0 _ (List.mem_of_getElem? (i := 1) rfl)
theorem cM_isLineLess_2 : zCode 225 2 = some (.iload_n 1, 3, 0, 0, 0, 0, 3) := cAM_isLineLess_0 _ (List.mem_of_getElem? (i := 2) rfl)
theorem cM_isLineLess_3 : zCode 225 3 = some (.aload_n 0, 4, 0, 0, 0, 0, 3) := cAM_isLineLess_0 _ (List.mem_of_getElem? (i := 3) rfl)
theorem cM_isLineLess_4 : zCode 225 4 = some (.iconst 2, 5, 0, 0, 0, 0, 3) := cAM_isLineLess_0 _ (List.mem_of_getElem? (i := 4) rfl)
theorem cM_isLineLess_5 : zCode 225 5 = some (.invokevirtual 288, 8, 169, 1, 2, 12, 3) := cAM_isLineLess_0 _ (List.mem_of_getElem? (i := 5) rfl)
theorem cM_isLineLess_8 : zCode 225 8 = some (.if_icmp .ge 45, 11, 53, 0, 0, 0, 3) := cAM_isLineLess_0 _ (List.mem_of_getElem? (i := 6) rfl)
theorem cM_isLineLess_11 : zCode 225 11 = some (.aload_n 0, 12, 0, 0, 0, 0, 3) := cAM_isLineLess_0 _ (List.mem_of_getElem? (i := 7) rfl)
theorem cM_isLineLess_12 : zCode 225 12 = some (.getfield 60, 15, 12, 32, 2, 1241, 3) := cAM_isLineLess_0 _ (List.mem_of_getElem? (i := 8) rfl)
theorem cM_isLineLess_15 : zCode 225 15 = some (.iload_n 1, 16, 0, 0, 0, 0, 3) := cAM_isLineLess_0 _ (List.mem_of_getElem? (i := 9) rfl)
theorem cM_isLineLess_16 : zCode 225 16 = some (.iaload, 17, 0, 0, 0, 0, 3) := cAM_isLineLess_0 _ (List.mem_of_getElem? (i := 10) rfl)
theorem cM_isLineLess_17 : zCode 225 17 = some (.aload_n 0, 18, 0, 0, 0, 0, 3) := cAM_isLineLess_0 _ (List.mem_of_getElem? (i := 11) rfl)
theorem cM_isLineLess_18 : zCode 225 18 = some (.getfield 63, 21, 12, 33, 2, 1242, 3) := cAM_isLineLess_0 _ (List.mem_of_getElem? (i := 12) rfl)
theorem cM_isLineLess_21 : zCode 225 21 = some (.iload_n 1, 22, 0, 0, 0, 0, 3) := cAM_isLineLess_0 _ (List.mem_of_getElem? (i := 13) rfl)
theorem cM_isLineLess_22 : zCode 225 22 = some (.iaload, 23, 0, 0, 0, 0, 3) := cAM_isLineLess_0 _ (List.mem_of_getElem? (i := 14) rfl)
theorem cM_isLineLess_23 : zCode 225 23 = some (.if_icmp .eq 24, 26, 47, 0, 0, 0, 3) := cAM_isLineLess_0 _ (List.mem_of_getElem? (i := 15) rfl)
theorem cM_isLineLess_26 : zCode 225 26 = some (.aload_n 0, 27, 0, 0, 0, 0, 3) := cAM_isLineLess_1 _ (List.mem_of_getElem? (i := 0) rfl)
theorem cM_isLineLess_27 : zCode 225 27 = some (.getfield 60, 30, 12, 32, 2, 1241, 3) := cAM_isLineLess_1 _ (List.mem_of_getElem? (i := 1) rfl)
theorem cM_isLineLess_30 : zCode 225 30 = some (.iload_n 1, 31, 0, 0, 0, 0, 3) := cAM_isLineLess_1 _ (List.mem_of_getElem? (i := 2) rfl)
theorem cM_isLineLess_31 : zCode 225 31 = some (.iaload, 32, 0, 0, 0, 0, 3) := cAM_isLineLess_1 _ (List.mem_of_getElem? (i := 3) rfl)
theorem cM_isLineLess_32 : zCode 225 32 = some (.aload_n 0, 33, 0, 0, 0, 0, 3) := cAM_isLineLess_1 _ (List.mem_of_getElem? (i := 4) rfl)
theorem cM_isLineLess_33 : zCode 225 33 = some (.getfield 63, 36, 12, 33, 2, 1242, 2) := cAM_isLineLess_1 _ (List.mem_of_getElem? (i := 5) rfl)
theorem cM_isLineLess_36 : zCode 225 36 = some (.iload_n 1, 37, 0, 0, 0, 0, 2) := cAM_isLineLess_1 _ (List.mem_of_getElem? (i := 6) rfl)
theorem cM_isLineLess_37 : zCode 225 37 = some (.iaload, 38, 0, 0, 0, 0, 0) := cAM_isLineLess_1 _ (List.mem_of_getElem? (i := 7) rfl)
theorem cM_isLineLess_38 : zCode 225 38 = some (.if_icmp .ge 7, 41, 45, 0, 0, 0, 0) := cAM_isLineLess_1 _ (List.mem_of_getElem? (i := 8) rfl)
theorem cM_isLineLess_41 : zCode 225 41 = some (.iconst 1, 42, 0, 0, 0, 0, 0) := cAM_isLineLess_1 _ (List.mem_of_getElem? (i := 9) rfl)
theorem cM_isLineLess_42 : zCode 225 42 = some (.goto 4, 45, 46, 0, 0, 0, 0) := cAM_isLineLess_1 _ (List.mem_of_getElem? (i := 10) rfl)
theorem cM_isLineLess_45 : zCode 225 45 = some (.iconst 0, 46, 0, 0, 0, 0, 0) := cAM_isLineLess_1 _ (List.mem_of_getElem? (i := 11) rfl)
theorem cM_isLineLess_46 : zCode 225 46 = some (.ireturn, 47, 0, 3, 0, 0, 0) := cAM_isLineLess_1 _ (List.mem_of_getElem? (i := 12) rfl)
theorem cM_isLineLess_47 : zCode 225 47 = some (.iinc 1 1, 50, 0, 0, 0, 0, 3) := cAM_isLineLess_1 _ (List.mem_of_getElem? (i := 13) rfl)
theorem cM_isLineLess_50 : zCode 225 50 = some (.goto (-48), 53, 2, 0, 0, 0, 3) := cAM_isLineLess_1 _ (List.mem_of_getElem? (i := 14) rfl)
theorem cM_isLineLess_53 : zCode 225 53 = some (.iconst 0, 54, 0, 0, 0, 0, 0) := cAM_isLineLess_1 _ (List.mem_of_getElem? (i := 15) rfl)
theorem cM_isLineLess_54 : zCode 225 54 = some (.ireturn, 55, 0, 3, 0, 0, 0) := cAM_isLineLess_2 _ (List.mem_of_getElem? (i := 0) rfl)
theorem rM_isLineLess_0 {a0 : Nat} {u1 : zV} : zS 225 0 [zR a0, u1] [] sh pp mm Q ↔ zS 225 1 [zR a0, zU] [zI 0] sh pp mm Q := s_go cM_isLineLess_0 cM_isLineLess_1 rfl rfl
theorem rM_isLineLess_1 {a0 : Nat} {s0 : Int} {u1 : zV} : zS 225 1 [zR a0, u1] [zI s0] sh pp mm Q ↔ zS 225 2 [zR a0, zI s0] [] sh pp mm Q := s_go cM_isLineLess_1 cM_isLineLess_2 rfl rfl
theorem rM_isLineLess_2 {a0 : Nat} {a1 : Int} : zS 225 2 [zR a0, zI a1] [] sh pp mm Q ↔ zS 225 3 [zR a0, zI a1] [zI a1] sh pp mm Q := s_go cM_isLineLess_2 cM_isLineLess_3 rfl rfl
theorem rM_isLineLess_3 {a0 : Nat} {a1 s0 : Int} : zS 225 3 [zR a0, zI a1] [zI s0] sh pp mm Q ↔ zS 225 4 [zR a0, zI a1] [zR a0, zI s0] sh pp mm Q := s_go cM_isLineLess_3 cM_isLineLess_4 rfl rfl
theorem rM_isLineLess_4 {a0 s0 : Nat} {a1 s1 : Int} : zS 225 4 [zR a0, zI a1] [zR s0, zI s1] sh pp mm Q ↔ zS 225 5 [zR a0, zI a1] [zI 2, zR s0, zI s1] sh pp mm Q := s_go cM_isLineLess_4 cM_isLineLess_5 rfl rfl
theorem rM_isLineLess_5 {a0 s1 : Nat} {a1 s0 s2 : Int} (hk : zKd sh s1 = 12) : zS 225 5 [zR a0, zI a1] [zI s0, zR s1, zI s2] sh pp mm Q ↔ zS 169 0 [zR s1, zI s0] [] sh pp mm (fun v sh pp mm => zS 225 8 [zR a0, zI a1] (zPush v [zI s2]) sh pp mm Q) := s_call cM_isLineLess_5 cM_isLineLess_8 ((if_pos hk).trans rfl) rfl
theorem rM_isLineLess_8 {a0 : Nat} {a1 s0 s1 : Int} : zS 225 8 [zR a0, zI a1] [zI s0, zI s1] sh pp mm Q ↔ (s1 < s0 → zS 225 11 [zR a0, zI a1] [] sh pp mm Q) ∧ (¬ s1 < s0 → zS 225 53 [zU, zU] [] sh pp mm Q) := s_ifn cM_isLineLess_8 cM_isLineLess_11 cM_isLineLess_53 rfl rfl rfl
theorem rM_isLineLess_11 {a0 : Nat} {a1 : Int} : zS 225 11 [zR a0, zI a1] [] sh pp mm Q ↔ zS 225 12 [zR a0, zI a1] [zR a0] sh pp mm Q := s_go cM_isLineLess_11 cM_isLineLess_12 rfl rfl
theorem rM_isLineLess_12 {a0 s0 : Nat} {a1 : Int} (hk : zKd sh s0 = 12) : zS 225 12 [zR a0, zI a1] [zR s0] sh pp mm Q ↔ zS 225 15 [zR a0, zI a1] [zR (pp s0 32)] sh pp mm Q := s_go cM_isLineLess_12 cM_isLineLess_15 (if_pos hk) rfl
theorem rM_isLineLess_15 {a0 s0 : Nat} {a1 : Int} : zS 225 15 [zR a0, zI a1] [zR s0] sh pp mm Q ↔ zS 225 16 [zR a0, zI a1] [zI a1, zR s0] sh pp mm Q := s_go cM_isLineLess_15 cM_isLineLess_16 rfl rfl
theorem rM_isLineLess_16 {a0 s1 : Nat} {a1 s0 : Int} (hk : zKd sh s1 = 20 ∨ zKd sh s1 = 30) (h0 : 0 ≤ s0) (h1 : s0 < zLn sh s1) : zS 225 16 [zR a0, zI a1] [zI s0, zR s1] sh pp mm Q ↔ zS 225 17 [zR a0, zI a1] [zI (mm s1 s0)] sh pp mm Q := s_go cM_isLineLess_16 cM_isLineLess_17 (if_pos ⟨hk, h0, h1⟩) rfl
theorem rM_isLineLess_17 {a0 : Nat} {a1 s0 : Int} : zS 225 17 [zR a0, zI a1] [zI s0] sh pp mm Q ↔ zS 225 18 [zR a0, zI a1] [zR a0, zI s0] sh pp mm Q := s_go cM_isLineLess_17 cM_isLineLess_18 rfl rfl
theorem rM_isLineLess_18 {a0 s0 : Nat} {a1 s1 : Int} (hk : zKd sh s0 = 12) : zS 225 18 [zR a0, zI a1] [zR s0, zI s1] sh pp mm Q ↔ zS 225 21 [zR a0, zI a1] [zR (pp s0 33), zI s1] sh pp mm Q := s_go cM_isLineLess_18 cM_isLineLess_21 (if_pos hk) rfl
theorem rM_isLineLess_21 {a0 s0 : Nat} {a1 s1 : Int} : zS 225 21 [zR a0, zI a1] [zR s0, zI s1] sh pp mm Q ↔ zS 225 22 [zR a0, zI a1] [zI a1, zR s0, zI s1] sh pp mm Q := s_go cM_isLineLess_21 cM_isLineLess_22 rfl rfl
theorem rM_isLineLess_22 {a0 s1 : Nat} {a1 s0 s2 : Int} (hk : zKd sh s1 = 20 ∨ zKd sh s1 = 30) (h0 : 0 ≤ s0) (h1 : s0 < zLn sh s1) : zS 225 22 [zR a0, zI a1] [zI s0, zR s1, zI s2] sh pp mm Q ↔ zS 225 23 [zR a0, zI a1] [zI (mm s1 s0), zI s2] sh pp mm Q := s_go cM_isLineLess_22 cM_isLineLess_23 (if_pos ⟨hk, h0, h1⟩) rfl
theorem rM_isLineLess_23 {a0 : Nat} {a1 s0 s1 : Int} : zS 225 23 [zR a0, zI a1] [zI s0, zI s1] sh pp mm Q ↔ (s1 = s0 → zS 225 47 [zR a0, zI a1] [] sh pp mm Q) ∧ (¬ s1 = s0 → zS 225 26 [zR a0, zI a1] [] sh pp mm Q) := s_if cM_isLineLess_23 cM_isLineLess_47 cM_isLineLess_26 rfl rfl rfl
theorem rM_isLineLess_26 {a0 : Nat} {a1 : Int} : zS 225 26 [zR a0, zI a1] [] sh pp mm Q ↔ zS 225 27 [zR a0, zI a1] [zR a0] sh pp mm Q := s_go cM_isLineLess_26 cM_isLineLess_27 rfl rfl
theorem rM_isLineLess_27 {a0 s0 : Nat} {a1 : Int} (hk : zKd sh s0 = 12) : zS 225 27 [zR a0, zI a1] [zR s0] sh pp mm Q ↔ zS 225 30 [zR a0, zI a1] [zR (pp s0 32)] sh pp mm Q := s_go cM_isLineLess_27 cM_isLineLess_30 (if_pos hk) rfl
theorem rM_isLineLess_30 {a0 s0 : Nat} {a1 : Int} : zS 225 30 [zR a0, zI a1] [zR s0] sh pp mm Q ↔ zS 225 31 [zR a0, zI a1] [zI a1, zR s0] sh pp mm Q := s_go cM_isLineLess_30 cM_isLineLess_31 rfl rfl
theorem rM_isLineLess_31 {a0 s1 : Nat} {a1 s0 : Int} (hk : zKd sh s1 = 20 ∨ zKd sh s1 = 30) (h0 : 0 ≤ s0) (h1 : s0 < zLn sh s1) : zS 225 31 [zR a0, zI a1] [zI s0, zR s1] sh pp mm Q ↔ zS 225 32 [zR a0, zI a1] [zI (mm s1 s0)] sh pp mm Q := s_go cM_isLineLess_31 cM_isLineLess_32 (if_pos ⟨hk, h0, h1⟩) rfl
theorem rM_isLineLess_32 {a0 : Nat} {a1 s0 : Int} : zS 225 32 [zR a0, zI a1] [zI s0] sh pp mm Q ↔ zS 225 33 [zU, zI a1] [zR a0, zI s0] sh pp mm Q := s_go cM_isLineLess_32 cM_isLineLess_33 rfl rfl
theorem rM_isLineLess_33 {s0 : Nat} {a1 s1 : Int} {u0 : zV} (hk : zKd sh s0 = 12) : zS 225 33 [u0, zI a1] [zR s0, zI s1] sh pp mm Q ↔ zS 225 36 [zU, zI a1] [zR (pp s0 33), zI s1] sh pp mm Q := s_go cM_isLineLess_33 cM_isLineLess_36 (if_pos hk) rfl
theorem rM_isLineLess_36 {s0 : Nat} {a1 s1 : Int} {u0 : zV} : zS 225 36 [u0, zI a1] [zR s0, zI s1] sh pp mm Q ↔ zS 225 37 [zU, zU] [zI a1, zR s0, zI s1] sh pp mm Q := s_go cM_isLineLess_36 cM_isLineLess_37 rfl rfl
theorem rM_isLineLess_37 {s1 : Nat} {s0 s2 : Int} {u0 u1 : zV} (hk : zKd sh s1 = 20 ∨ zKd sh s1 = 30) (h0 : 0 ≤ s0) (h1 : s0 < zLn sh s1) : zS 225 37 [u0, u1] [zI s0, zR s1, zI s2] sh pp mm Q ↔ zS 225 38 [zU, zU] [zI (mm s1 s0), zI s2] sh pp mm Q := s_go cM_isLineLess_37 cM_isLineLess_38 (if_pos ⟨hk, h0, h1⟩) rfl
theorem rM_isLineLess_38 {s0 s1 : Int} {u0 u1 : zV} : zS 225 38 [u0, u1] [zI s0, zI s1] sh pp mm Q ↔ (s1 < s0 → zS 225 41 [zU, zU] [] sh pp mm Q) ∧ (¬ s1 < s0 → zS 225 45 [zU, zU] [] sh pp mm Q) := s_ifn cM_isLineLess_38 cM_isLineLess_41 cM_isLineLess_45 rfl rfl rfl
theorem rM_isLineLess_41 {u0 u1 : zV} : zS 225 41 [u0, u1] [] sh pp mm Q ↔ zS 225 42 [zU, zU] [zI 1] sh pp mm Q := s_go cM_isLineLess_41 cM_isLineLess_42 rfl rfl
theorem rM_isLineLess_42 {s0 : Int} {u0 u1 : zV} : zS 225 42 [u0, u1] [zI s0] sh pp mm Q ↔ zS 225 46 [zU, zU] [zI s0] sh pp mm Q := s_go cM_isLineLess_42 cM_isLineLess_46 rfl rfl
theorem rM_isLineLess_45 {u0 u1 : zV} : zS 225 45 [u0, u1] [] sh pp mm Q ↔ zS 225 46 [zU, zU] [zI 0] sh pp mm Q := s_go cM_isLineLess_45 cM_isLineLess_46 rfl rfl
theorem rM_isLineLess_46 {s0 : Int} {u0 u1 : zV} (hb : s0 = 0 ∨ s0 = 1) : zS 225 46 [u0, u1] [zI s0] sh pp mm Q ↔ Q (zI s0) sh pp mm := s_ret cM_isLineLess_46 (if_pos (decide_eq_true hb))
theorem rM_isLineLess_47 {a0 : Nat} {a1 : Int} : zS 225 47 [zR a0, zI a1] [] sh pp mm Q ↔ zS 225 50 [zR a0, zI (zw32 (a1 + 1))] [] sh pp mm Q := s_go cM_isLineLess_47 cM_isLineLess_50 rfl rfl
theorem rM_isLineLess_50 {a0 : Nat} {a1 : Int} : zS 225 50 [zR a0, zI a1] [] sh pp mm Q ↔ zS 225 2 [zR a0, zI a1] [] sh pp mm Q := s_go cM_isLineLess_50 cM_isLineLess_2 rfl rfl
theorem rM_isLineLess_53 {u0 u1 : zV} : zS 225 53 [u0, u1] [] sh pp mm Q ↔ zS 225 54 [zU, zU] [zI 0] sh pp mm Q := s_go cM_isLineLess_53 cM_isLineLess_54 rfl rfl
theorem rM_isLineLess_54 {s0 : Int} {u0 u1 : zV} (hb : s0 = 0 ∨ s0 = 1) : zS 225 54 [u0, u1] [zI s0] sh pp mm Q ↔ Q (zI s0) sh pp mm := s_ret cM_isLineLess_54 (if_pos (decide_eq_true hb))
theorem cAM_trail : ∀ q ∈ zT226, zCode 226 q.1 = some q.2 := zAll (mid := 226) rfl (by decide +kernel)
theorem cAM_trail_0 : ∀ q ∈ zT226_0, zCode 226 q.1 = some q.2 := fun q h => cAM_trail q (List.mem_append_left _ h)
theorem cAM_trail_1 : ∀ q ∈ zT226_1, zCode 226 q.1 = some q.2 := fun q h => cAM_trail q (List.mem_append_right _ (List.mem_append_left _ h))
theorem cAM_trail_2 : ∀ q ∈ zT226_2, zCode 226 q.1 = some q.2 := fun q h => cAM_trail q (List.mem_append_right _ (List.mem_append_right _ (List.mem_append_left _ h)))
theorem cAM_trail_3 : ∀ q ∈ zT226_3, zCode 226 q.1 = some q.2 := fun q h => cAM_trail q (List.mem_append_right _ (List.mem_append_right _ (List.mem_append_right _ (List.mem_append_left _ h))))
theorem cAM_trail_4 : ∀ q ∈ zT226_4, zCode 226 q.1 = some q.2 := fun q h => cAM_trail q (List.mem_append_right _ (List.mem_append_right _ (List.mem_append_right _ (List.mem_append_right _ h))))
theorem cM_trail_0 : zCode 226 0 = some (.iload_n 1, 1, 0, 0, 0, 0, 3) := cAM_trail_0 _ (List.mem_of_getElem? (i := 0) rfl)
theorem cM_trail_1 : zCode 226 1 = some (.iconst (-1), 2, 0, 0, 0, 0, 3) := cAM_trail_0 _ (List.mem_of_getElem? (i := 1) rfl)
theorem cM_trail_2 : zCode 226 2 = some (.if_icmp .ge 10, 5, 12, 0, 0, 0, 3) := cAM_trail_0 _ (List.mem_of_getElem? (i := 2) rfl)
theorem cM_trail_5 : zCode 226 5 = some (.aload_n 0, 6, 0, 0, 0, 0, 1) := cAM_trail_0 _ (List.mem_of_getElem? (i := 3) rfl)
theorem cM_trail_6 : zCode 226 6 = some (.bipush (-2), 8, 0, 0, 0, 0, 0) := cAM_trail_0 _ (List.mem_of_getElem? (i := 4) rfl)
theorem cM_trail_8 : zCode 226 8 = some (.invokevirtual 132, 11, 152, 1, 2, 12, 0) := cAM_trail_0 _ (List.mem_of_getElem? (i := 5) rfl)
theorem cM_trail_11 : zCode 226 11 = some (.ireturn, 12, 0, 0, 0, 0, 0) := cAM_trail_0 _ (List.mem_of_getElem? (i := 6) rfl)
theorem cM_trail_12 : zCode 226 12 = some (.aload_n 0, 13, 0, 0, 0, 0, 3) := cAM_trail_0 _ (List.mem_of_getElem? (i := 7) rfl)
theorem cM_trail_13 : zCode 226 13 = some (.invokevirtual 309, 16, 218, 0, 1, 12, 3) := cAM_trail_0 _ (List.mem_of_getElem? (i := 8) rfl)
theorem cM_trail_16 : zCode 226 16 = some (.ifCond .eq 11, 19, 27, 0, 0, 0, 3) := cAM_trail_0 _ (List.mem_of_getElem? (i := 9) rfl)
theorem cM_trail_19 : zCode 226 19 = some (.aload_n 0, 20, 0, 0, 0, 0, 3) := cAM_trail_0 _ (List.mem_of_getElem? (i := 10) rfl)
theorem cM_trail_20 : zCode 226 20 = some (.iconst 2, 21, 0, 0, 0, 0, 3) := cAM_trail_0 _ (List.mem_of_getElem? (i := 11) rfl)
theorem cM_trail_21 : zCode 226 21 = some (.invokevirtual 288, 24, 169, 1, 2, 12, 3) := cAM_trail_0 _ (List.mem_of_getElem? (i := 12) rfl)
theorem cM_trail_24 : zCode 226 24 = some (.ifCond .ne 10, 27, 34, 0, 0, 0, 3) := cAM_trail_0 _ (List.mem_of_getElem? (i := 13) rfl)
theorem cM_trail_27 : zCode 226 27 = some (.aload_n 0, 28, 0, 0, 0, 0, 1) := cAM_trail_0 _ (List.mem_of_getElem? (i := 14) rfl)
theorem cM_trail_28 : zCode 226 28 = some (.bipush (-3), 30, 0, 0, 0, 0, 0) := cAM_trail_0 _ (List.mem_of_getElem? (i := 15) rfl)
theorem cM_trail_30 : zCode 226 30 = some (.invokevirtual 265, 33, 153, 1, 2, 12, 0) := cAM_trail_1 _ (List.mem_of_getElem? (i := 0) rfl)
theorem cM_trail_33 : zCode 226 33 = some (.ireturn, 34, 0, 0, 0, 0, 0) := cAM_trail_1 _ (List.mem_of_getElem? (i := 1) rfl)
theorem cM_trail_34 : zCode 226 34 = some (.iconst (-1), 35, 0, 0, 0, 0, 3) := cAM_trail_1 _ (List.mem_of_getElem? (i := 2) rfl)
theorem cM_trail_35 : zCode 226 35 = some (.istore_n 2, 36, 0, 0, 0, 0, 3) := cAM_trail_1 _ (List.mem_of_getElem? (i := 3) rfl)
theorem cM_trail_36 : zCode 226 36 = some (.iconst 0, 37, 0, 0, 0, 0, 7) := cAM_trail_1 _ (List.mem_of_getElem? (i := 4) rfl)
theorem cM_trail_37 : zCode 226 37 = some (.istore_n 3, 38, 0, 0, 0, 0, 7) := cAM_trail_1 _ (List.mem_of_getElem? (i := 5) rfl)
theorem cM_trail_38 : zCode 226 38 = some (.iload_n 3, 39, 0, 0, 0, 0, 15) := cAM_trail_1 _ (List.mem_of_getElem? (i := 6) rfl)
theorem cM_trail_39 : zCode 226 39 = some (.aload_n 0, 40, 0, 0, 0, 0, 15) := cAM_trail_1 _ (List.mem_of_getElem? (i := 7) rfl)
theorem cM_trail_40 : zCode 226 40 = some (.iconst 1, 41, 0, 0, 0, 0, 15) := cAM_trail_1 _ (List.mem_of_getElem? (i := 8) rfl)
theorem cM_trail_41 : zCode 226 41 = some (.invokevirtual 288, 44, 169, 1, 2, 12, 15) := cAM_trail_1 _ (List.mem_of_getElem? (i := 9) rfl)
theorem cM_trail_44 : zCode 226 44 = some (.if_icmp .ge 71, 47, 115, 0, 0, 0, 15) := cAM_trail_1 _ (List.mem_of_getElem? (i := 10) rfl)
theorem cM_trail_47 : zCode 226 47 = some (.aload_n 0, 48, 0, 0, 0, 0, 15) := cAM_trail_1 _ (List.mem_of_getElem? (i := 11) rfl)
theorem cM_trail_48 : zCode 226 48 = some (.iload_n 3, 49, 0, 0, 0, 0, 15) := cAM_trail_1 _ (List.mem_of_getElem? (i := 12) rfl)
theorem cM_trail_49 : zCode 226 49 = some (.invokevirtual 318, 52, 222, 1, 5, 12, 15) := cAM_trail_1 _ (List.mem_of_getElem? (i := 13) rfl)
theorem cM_trail_52 : zCode 226 52 = some (.aload_n 0, 53, 0, 0, 0, 0, 15) := cAM_trail_1 _ (List.mem_of_getElem? (i := 14) rfl)
theorem cM_trail_53 : zCode 226 53 = some (.getfield 57, 56, 12, 31, 2, 1240, 15) := cAM_trail_1 _ (List.mem_of_getElem? (i := 15) rfl)
theorem cM_trail_56 : zCode 226 56 = some (.iconst 0, 57, 0, 0, 0, 0, 15) := cAM_trail_2 _ (List.mem_of_getElem? (i := 0) rfl)
theorem cM_trail_57 : zCode 226 57 = some (.baload, 58, 0, 0, 0, 0, 15) := cAM_trail_2 _ (List.mem_of_getElem? (i := 1) rfl)
theorem cM_trail_58 : zCode 226 58 = some (.ifCond .eq 51, 61, 109, 0, 0, 0, 15) := cAM_trail_2 _ (List.mem_of_getElem? (i := 2) rfl)
theorem cM_trail_61 : zCode 226 61 = some (.aload_n 0, 62, 0, 0, 0, 0, 15) := cAM_trail_2 _ (List.mem_of_getElem? (i := 3) rfl)
theorem cM_trail_62 : zCode 226 62 = some (.invokevirtual 321, 65, 224, 0, 4, 12, 15) := cAM_trail_2 _ (List.mem_of_getElem? (i := 4) rfl)
theorem cM_trail_65 : zCode 226 65 = some (.iload_n 2, 66, 0, 0, 0, 0, 15) := cAM_trail_2 _ (List.mem_of_getElem? (i := 5) rfl)
theorem cM_trail_66 : zCode 226 66 = some (.iconst (-1), 67, 0, 0, 0, 0, 15) := cAM_trail_2 _ (List.mem_of_getElem? (i := 6) rfl)
theorem cM_trail_67 : zCode 226 67 = some (.if_icmp .eq 10, 70, 77, 0, 0, 0, 15) := cAM_trail_2 _ (List.mem_of_getElem? (i := 7) rfl)
theorem cM_trail_70 : zCode 226 70 = some (.aload_n 0, 71, 0, 0, 0, 0, 15) := cAM_trail_2 _ (List.mem_of_getElem? (i := 8) rfl)
theorem cM_trail_71 : zCode 226 71 = some (.invokevirtual 324, 74, 225, 0, 2, 12, 15) := cAM_trail_2 _ (List.mem_of_getElem? (i := 9) rfl)
theorem cM_trail_74 : zCode 226 74 = some (.ifCond .eq 35, 77, 109, 0, 0, 0, 15) := cAM_trail_2 _ (List.mem_of_getElem? (i := 10) rfl)
theorem cM_trail_77 : zCode 226 77 = some (.iload_n 3, 78, 0, 0, 0, 0, 11) := cAM_trail_2 _ (List.mem_of_getElem? (i := 11) rfl)
theorem cM_trail_78 : zCode 226 78 = some (.istore_n 2, 79, 0, 0, 0, 0, 11) := cAM_trail_2 _ (List.mem_of_getElem? (i := 12) rfl)
theorem cM_trail_79 : zCode 226 79 = some (.iconst 0, 80, 0, 0, 0, 0, 15) := cAM_trail_2 _ (List.mem_of_getElem? (i := 13) rfl)
theorem cM_trail_80 : zCode 226 80 = some (.istore 4, 82, 0, 0, 0, 0, 15) := cAM_trail_2 _ (List.mem_of_getElem? (i := 14) rfl)
theorem cM_trail_82 : zCode 226 82 = some (.iload 4, 84, 0, 0, 0, 0, 31) := cAM_trail_2 _ (List.mem_of_getElem? (i := 15) rfl)
theorem cM_trail_84 : zCode 226 84 = some (.bipush 12, 86, 0, 0, 0, 0, 31) := cAM_trail_3 _ (List.mem_of_getElem? (i := 0) rfl)
theorem cM_trail_86 : zCode 226 86 = some (.if_icmp .ge 23, 89, 109, 0, 0, 0, 31) := cAM_trail_3 _ (List.mem_of_getElem? (i := 1) rfl)
theorem cM_trail_89 : zCode 226 89 = some (.aload_n 0, 90, 0, 0, 0, 0, 31) := cAM_trail_3 _ (List.mem_of_getElem? (i := 2) rfl)
theorem cM_trail_90 : zCode 226 90 = some (.getfield 63, 93, 12, 33, 2, 1242, 31) := cAM_trail_3 _ (List.mem_of_getElem? (i := 3) rfl)
theorem cM_trail_93 : zCode 226 93 = some (.iload 4, 95, 0, 0, 0, 0, 31) := cAM_trail_3 _ (List.mem_of_getElem? (i := 4) rfl)
theorem cM_trail_95 : zCode 226 95 = some (.aload_n 0, 96, 0, 0, 0, 0, 31) := cAM_trail_3 _ (List.mem_of_getElem? (i := 5) rfl)
theorem cM_trail_96 : zCode 226 96 = some (.getfield 60, 99, 12, 32, 2, 1241, 31) := cAM_trail_3 _ (List.mem_of_getElem? (i := 6) rfl)
theorem cM_trail_99 : zCode 226 99 = some (.iload 4, 101, 0, 0, 0, 0, 31) := cAM_trail_3 _ (List.mem_of_getElem? (i := 7) rfl)
theorem cM_trail_101 : zCode 226 101 = some (.iaload, 102, 0, 0, 0, 0, 31) := cAM_trail_3 _ (List.mem_of_getElem? (i := 8) rfl)
theorem cM_trail_102 : zCode 226 102 = some (.iastore, 103, 0, 0, 0, 0, 31) := cAM_trail_3 _ (List.mem_of_getElem? (i := 9) rfl)
theorem cM_trail_103 : zCode 226 103 = some (.iinc 4 1, 106, 0, 0, 0, 0, 31) := cAM_trail_3 _ (List.mem_of_getElem? (i := 10) rfl)
theorem cM_trail_106 : zCode 226 106 = some (.goto (-24), 109, 82, 0, 0, 0, 31) := cAM_trail_3 _ (List.mem_of_getElem? (i := 11) rfl)
theorem cM_trail_109 : zCode 226 109 = some (.iinc 3 1, 112, 0, 0, 0, 0, 15) := cAM_trail_3 _ (List.mem_of_getElem? (i := 12) rfl)
theorem cM_trail_112 : zCode 226 112 = some (.goto (-74), 115, 38, 0, 0, 0, 15) := cAM_trail_3 _ (List.mem_of_getElem? (i := 13) rfl)
theorem cM_trail_115 : zCode 226 115 = some (.iload_n 1, 116, 0, 0, 0, 0, 7) := cAM_trail_3 _ (List.mem_of_getElem? (i := 14) rfl)
theorem cM_trail_116 : zCode 226 116 = some (.iconst (-1), 117, 0, 0, 0, 0, 7) := cAM_trail_3 _ (List.mem_of_getElem? (i := 15) rfl)
theorem cM_trail_117 : zCode 226 117 = some (.if_icmp .ne 7, 120, 124, 0, 0, 0, 7) := cAM_trail_4 _ (List.mem_of_getElem? (i := 0) rfl)
theorem cM_trail_120 : zCode 226 120 = some (.iload_n 2, 121, 0, 0, 0, 0, 4) := cAM_trail_4 _ (List.mem_of_getElem? (i := 1) rfl)
theorem cM_trail_121 : zCode 226 121 = some (.goto 23, 124, 144, 0, 0, 0, 0) := cAM_trail_4 _ (List.mem_of_getElem? (i := 2) rfl)
theorem cM_trail_124 : zCode 226 124 = some (.iload_n 1, 125, 0, 0, 0, 0, 3) := cAM_trail_4 _ (List.mem_of_getElem? (i := 3) rfl)
theorem cM_trail_125 : zCode 226 125 = some (.aload_n 0, 126, 0, 0, 0, 0, 3) := cAM_trail_4 _ (List.mem_of_getElem? (i := 4) rfl)
theorem cM_trail_126 : zCode 226 126 = some (.iconst 2, 127, 0, 0, 0, 0, 3) := cAM_trail_4 _ (List.mem_of_getElem? (i := 5) rfl)
theorem cM_trail_127 : zCode 226 127 = some (.invokevirtual 288, 130, 169, 1, 2, 12, 3) := cAM_trail_4 _ (List.mem_of_getElem? (i := 6) rfl)
theorem cM_trail_130 : zCode 226 130 = some (.if_icmp .ge 12, 133, 142, 0, 0, 0, 3) := cAM_trail_4 _ (List.mem_of_getElem? (i := 7) rfl)
theorem cM_trail_133 : zCode 226 133 = some (.aload_n 0, 134, 0, 0, 0, 0, 3) := cAM_trail_4 _ (List.mem_of_getElem? (i := 8) rfl)
theorem cM_trail_134 : zCode 226 134 = some (.getfield 63, 137, 12, 33, 2, 1242, 2) := cAM_trail_4 _ (List.mem_of_getElem? (i := 9) rfl)
theorem cM_trail_137 : zCode 226 137 = some (.iload_n 1, 138, 0, 0, 0, 0, 2) := cAM_trail_4 _ (List.mem_of_getElem? (i := 10) rfl)
theorem cM_trail_138 : zCode 226 138 = some (.iaload, 139, 0, 0, 0, 0, 0) := cAM_trail_4 _ (List.mem_of_getElem? (i := 11) rfl)
theorem cM_trail_139 : zCode 226 139 = some (.goto 5, 142, 144, 0, 0, 0, 0) := cAM_trail_4 _ (List.mem_of_getElem? (i := 12) rfl)
theorem cM_trail_142 : zCode 226 142 = some (.bipush (-5), 144, 0, 0, 0, 0, 0) := cAM_trail_4 _ (List.mem_of_getElem? (i := 13) rfl)
theorem cM_trail_144 : zCode 226 144 = some (.ireturn, 145, 0, 0, 0, 0, 0) := cAM_trail_4 _ (List.mem_of_getElem? (i := 14) rfl)
theorem rM_trail_0 {a0 : Nat} {a1 : Int} {u2 u3 u4 : zV} : zS 226 0 [zR a0, zI a1, u2, u3, u4] [] sh pp mm Q ↔ zS 226 1 [zR a0, zI a1, zU, zU, zU] [zI a1] sh pp mm Q := s_go cM_trail_0 cM_trail_1 rfl rfl
theorem rM_trail_1 {a0 : Nat} {a1 s0 : Int} {u2 u3 u4 : zV} : zS 226 1 [zR a0, zI a1, u2, u3, u4] [zI s0] sh pp mm Q ↔ zS 226 2 [zR a0, zI a1, zU, zU, zU] [zI (-1), zI s0] sh pp mm Q := s_go cM_trail_1 cM_trail_2 rfl rfl
theorem rM_trail_2 {a0 : Nat} {a1 s0 s1 : Int} {u2 u3 u4 : zV} : zS 226 2 [zR a0, zI a1, u2, u3, u4] [zI s0, zI s1] sh pp mm Q ↔ (s1 < s0 → zS 226 5 [zR a0, zU, zU, zU, zU] [] sh pp mm Q) ∧ (¬ s1 < s0 → zS 226 12 [zR a0, zI a1, zU, zU, zU] [] sh pp mm Q) := s_ifn cM_trail_2 cM_trail_5 cM_trail_12 rfl rfl rfl
theorem rM_trail_5 {a0 : Nat} {u1 u2 u3 u4 : zV} : zS 226 5 [zR a0, u1, u2, u3, u4] [] sh pp mm Q ↔ zS 226 6 [zU, zU, zU, zU, zU] [zR a0] sh pp mm Q := s_go cM_trail_5 cM_trail_6 rfl rfl
theorem rM_trail_6 {s0 : Nat} {u0 u1 u2 u3 u4 : zV} : zS 226 6 [u0, u1, u2, u3, u4] [zR s0] sh pp mm Q ↔ zS 226 8 [zU, zU, zU, zU, zU] [zI (-2), zR s0] sh pp mm Q := s_go cM_trail_6 cM_trail_8 rfl rfl
theorem rM_trail_8 {s1 : Nat} {s0 : Int} {u0 u1 u2 u3 u4 : zV} (hk : zKd sh s1 = 12) : zS 226 8 [u0, u1, u2, u3, u4] [zI s0, zR s1] sh pp mm Q ↔ zS 152 0 [zR s1, zI s0] [] sh pp mm (fun v sh pp mm => zS 226 11 [zU, zU, zU, zU, zU] (zPush v []) sh pp mm Q) := s_call cM_trail_8 cM_trail_11 ((if_pos hk).trans rfl) rfl
theorem rM_trail_11 {s0 : Int} {u0 u1 u2 u3 u4 : zV} : zS 226 11 [u0, u1, u2, u3, u4] [zI s0] sh pp mm Q ↔ Q (zI s0) sh pp mm := s_ret cM_trail_11 rfl
theorem rM_trail_12 {a0 : Nat} {a1 : Int} {u2 u3 u4 : zV} : zS 226 12 [zR a0, zI a1, u2, u3, u4] [] sh pp mm Q ↔ zS 226 13 [zR a0, zI a1, zU, zU, zU] [zR a0] sh pp mm Q := s_go cM_trail_12 cM_trail_13 rfl rfl
theorem rM_trail_13 {a0 s0 : Nat} {a1 : Int} {u2 u3 u4 : zV} (hk : zKd sh s0 = 12) : zS 226 13 [zR a0, zI a1, u2, u3, u4] [zR s0] sh pp mm Q ↔ zS 218 0 [zR s0] [] sh pp mm (fun v sh pp mm => zS 226 16 [zR a0, zI a1, zU, zU, zU] (zPush v []) sh pp mm Q) := s_call cM_trail_13 cM_trail_16 ((if_pos hk).trans rfl) rfl
theorem rM_trail_16 {a0 : Nat} {a1 s0 : Int} {u2 u3 u4 : zV} : zS 226 16 [zR a0, zI a1, u2, u3, u4] [zI s0] sh pp mm Q ↔ (s0 = 0 → zS 226 27 [zR a0, zU, zU, zU, zU] [] sh pp mm Q) ∧ (¬ s0 = 0 → zS 226 19 [zR a0, zI a1, zU, zU, zU] [] sh pp mm Q) := s_if cM_trail_16 cM_trail_27 cM_trail_19 rfl rfl rfl
theorem rM_trail_19 {a0 : Nat} {a1 : Int} {u2 u3 u4 : zV} : zS 226 19 [zR a0, zI a1, u2, u3, u4] [] sh pp mm Q ↔ zS 226 20 [zR a0, zI a1, zU, zU, zU] [zR a0] sh pp mm Q := s_go cM_trail_19 cM_trail_20 rfl rfl
theorem rM_trail_20 {a0 s0 : Nat} {a1 : Int} {u2 u3 u4 : zV} : zS 226 20 [zR a0, zI a1, u2, u3, u4] [zR s0] sh pp mm Q ↔ zS 226 21 [zR a0, zI a1, zU, zU, zU] [zI 2, zR s0] sh pp mm Q := s_go cM_trail_20 cM_trail_21 rfl rfl
theorem rM_trail_21 {a0 s1 : Nat} {a1 s0 : Int} {u2 u3 u4 : zV} (hk : zKd sh s1 = 12) : zS 226 21 [zR a0, zI a1, u2, u3, u4] [zI s0, zR s1] sh pp mm Q ↔ zS 169 0 [zR s1, zI s0] [] sh pp mm (fun v sh pp mm => zS 226 24 [zR a0, zI a1, zU, zU, zU] (zPush v []) sh pp mm Q) := s_call cM_trail_21 cM_trail_24 ((if_pos hk).trans rfl) rfl
theorem rM_trail_24 {a0 : Nat} {a1 s0 : Int} {u2 u3 u4 : zV} : zS 226 24 [zR a0, zI a1, u2, u3, u4] [zI s0] sh pp mm Q ↔ (s0 = 0 → zS 226 27 [zR a0, zU, zU, zU, zU] [] sh pp mm Q) ∧ (¬ s0 = 0 → zS 226 34 [zR a0, zI a1, zU, zU, zU] [] sh pp mm Q) := s_ifn cM_trail_24 cM_trail_27 cM_trail_34 rfl rfl rfl
theorem rM_trail_27 {a0 : Nat} {u1 u2 u3 u4 : zV} : zS 226 27 [zR a0, u1, u2, u3, u4] [] sh pp mm Q ↔ zS 226 28 [zU, zU, zU, zU, zU] [zR a0] sh pp mm Q := s_go cM_trail_27 cM_trail_28 rfl rfl
theorem rM_trail_28 {s0 : Nat} {u0 u1 u2 u3 u4 : zV} : zS 226 28 [u0, u1, u2, u3, u4] [zR s0] sh pp mm Q ↔ zS 226 30 [zU, zU, zU, zU, zU] [zI (-3), zR s0] sh pp mm Q := s_go cM_trail_28 cM_trail_30 rfl rfl
theorem rM_trail_30 {s1 : Nat} {s0 : Int} {u0 u1 u2 u3 u4 : zV} (hk : zKd sh s1 = 12) : zS 226 30 [u0, u1, u2, u3, u4] [zI s0, zR s1] sh pp mm Q ↔ zS 153 0 [zR s1, zI s0] [] sh pp mm (fun v sh pp mm => zS 226 33 [zU, zU, zU, zU, zU] (zPush v []) sh pp mm Q) := s_call cM_trail_30 cM_trail_33 ((if_pos hk).trans rfl) rfl
theorem rM_trail_33 {s0 : Int} {u0 u1 u2 u3 u4 : zV} : zS 226 33 [u0, u1, u2, u3, u4] [zI s0] sh pp mm Q ↔ Q (zI s0) sh pp mm := s_ret cM_trail_33 rfl
theorem rM_trail_34 {a0 : Nat} {a1 : Int} {u2 u3 u4 : zV} : zS 226 34 [zR a0, zI a1, u2, u3, u4] [] sh pp mm Q ↔ zS 226 35 [zR a0, zI a1, zU, zU, zU] [zI (-1)] sh pp mm Q := s_go cM_trail_34 cM_trail_35 rfl rfl
theorem rM_trail_35 {a0 : Nat} {a1 s0 : Int} {u2 u3 u4 : zV} : zS 226 35 [zR a0, zI a1, u2, u3, u4] [zI s0] sh pp mm Q ↔ zS 226 36 [zR a0, zI a1, zI s0, zU, zU] [] sh pp mm Q := s_go cM_trail_35 cM_trail_36 rfl rfl
theorem rM_trail_36 {a0 : Nat} {a1 a2 : Int} {u3 u4 : zV} : zS 226 36 [zR a0, zI a1, zI a2, u3, u4] [] sh pp mm Q ↔ zS 226 37 [zR a0, zI a1, zI a2, zU, zU] [zI 0] sh pp mm Q := s_go cM_trail_36 cM_trail_37 rfl rfl
theorem rM_trail_37 {a0 : Nat} {a1 a2 s0 : Int} {u3 u4 : zV} : zS 226 37 [zR a0, zI a1, zI a2, u3, u4] [zI s0] sh pp mm Q ↔ zS 226 38 [zR a0, zI a1, zI a2, zI s0, zU] [] sh pp mm Q := s_go cM_trail_37 cM_trail_38 rfl rfl
theorem rM_trail_38 {a0 : Nat} {a1 a2 a3 : Int} {u4 : zV} : zS 226 38 [zR a0, zI a1, zI a2, zI a3, u4] [] sh pp mm Q ↔ zS 226 39 [zR a0, zI a1, zI a2, zI a3, zU] [zI a3] sh pp mm Q := s_go cM_trail_38 cM_trail_39 rfl rfl
theorem rM_trail_39 {a0 : Nat} {a1 a2 a3 s0 : Int} {u4 : zV} : zS 226 39 [zR a0, zI a1, zI a2, zI a3, u4] [zI s0] sh pp mm Q ↔ zS 226 40 [zR a0, zI a1, zI a2, zI a3, zU] [zR a0, zI s0] sh pp mm Q := s_go cM_trail_39 cM_trail_40 rfl rfl
theorem rM_trail_40 {a0 s0 : Nat} {a1 a2 a3 s1 : Int} {u4 : zV} : zS 226 40 [zR a0, zI a1, zI a2, zI a3, u4] [zR s0, zI s1] sh pp mm Q ↔ zS 226 41 [zR a0, zI a1, zI a2, zI a3, zU] [zI 1, zR s0, zI s1] sh pp mm Q := s_go cM_trail_40 cM_trail_41 rfl rfl
theorem rM_trail_41 {a0 s1 : Nat} {a1 a2 a3 s0 s2 : Int} {u4 : zV} (hk : zKd sh s1 = 12) : zS 226 41 [zR a0, zI a1, zI a2, zI a3, u4] [zI s0, zR s1, zI s2] sh pp mm Q ↔ zS 169 0 [zR s1, zI s0] [] sh pp mm (fun v sh pp mm => zS 226 44 [zR a0, zI a1, zI a2, zI a3, zU] (zPush v [zI s2]) sh pp mm Q) := s_call cM_trail_41 cM_trail_44 ((if_pos hk).trans rfl) rfl
theorem rM_trail_44 {a0 : Nat} {a1 a2 a3 s0 s1 : Int} {u4 : zV} : zS 226 44 [zR a0, zI a1, zI a2, zI a3, u4] [zI s0, zI s1] sh pp mm Q ↔ (s1 < s0 → zS 226 47 [zR a0, zI a1, zI a2, zI a3, zU] [] sh pp mm Q) ∧ (¬ s1 < s0 → zS 226 115 [zR a0, zI a1, zI a2, zU, zU] [] sh pp mm Q) := s_ifn cM_trail_44 cM_trail_47 cM_trail_115 rfl rfl rfl
theorem rM_trail_47 {a0 : Nat} {a1 a2 a3 : Int} {u4 : zV} : zS 226 47 [zR a0, zI a1, zI a2, zI a3, u4] [] sh pp mm Q ↔ zS 226 48 [zR a0, zI a1, zI a2, zI a3, zU] [zR a0] sh pp mm Q := s_go cM_trail_47 cM_trail_48 rfl rfl
theorem rM_trail_48 {a0 s0 : Nat} {a1 a2 a3 : Int} {u4 : zV} : zS 226 48 [zR a0, zI a1, zI a2, zI a3, u4] [zR s0] sh pp mm Q ↔ zS 226 49 [zR a0, zI a1, zI a2, zI a3, zU] [zI a3, zR s0] sh pp mm Q := s_go cM_trail_48 cM_trail_49 rfl rfl
theorem rM_trail_49 {a0 s1 : Nat} {a1 a2 a3 s0 : Int} {u4 : zV} (hk : zKd sh s1 = 12) : zS 226 49 [zR a0, zI a1, zI a2, zI a3, u4] [zI s0, zR s1] sh pp mm Q ↔ zS 222 0 [zR s1, zI s0, zU, zU, zU] [] sh pp mm (fun v sh pp mm => zS 226 52 [zR a0, zI a1, zI a2, zI a3, zU] (zPush v []) sh pp mm Q) := s_call cM_trail_49 cM_trail_52 ((if_pos hk).trans rfl) rfl
theorem rM_trail_52 {a0 : Nat} {a1 a2 a3 : Int} {u4 : zV} : zS 226 52 [zR a0, zI a1, zI a2, zI a3, u4] [] sh pp mm Q ↔ zS 226 53 [zR a0, zI a1, zI a2, zI a3, zU] [zR a0] sh pp mm Q := s_go cM_trail_52 cM_trail_53 rfl rfl
theorem rM_trail_53 {a0 s0 : Nat} {a1 a2 a3 : Int} {u4 : zV} (hk : zKd sh s0 = 12) : zS 226 53 [zR a0, zI a1, zI a2, zI a3, u4] [zR s0] sh pp mm Q ↔ zS 226 56 [zR a0, zI a1, zI a2, zI a3, zU] [zR (pp s0 31)] sh pp mm Q := s_go cM_trail_53 cM_trail_56 (if_pos hk) rfl
theorem rM_trail_56 {a0 s0 : Nat} {a1 a2 a3 : Int} {u4 : zV} : zS 226 56 [zR a0, zI a1, zI a2, zI a3, u4] [zR s0] sh pp mm Q ↔ zS 226 57 [zR a0, zI a1, zI a2, zI a3, zU] [zI 0, zR s0] sh pp mm Q := s_go cM_trail_56 cM_trail_57 rfl rfl
theorem rM_trail_57 {a0 s1 : Nat} {a1 a2 a3 s0 : Int} {u4 : zV} (hk : zKd sh s1 = 22 ∨ zKd sh s1 = 32) (h0 : 0 ≤ s0) (h1 : s0 < zLn sh s1) : zS 226 57 [zR a0, zI a1, zI a2, zI a3, u4] [zI s0, zR s1] sh pp mm Q ↔ zS 226 58 [zR a0, zI a1, zI a2, zI a3, zU] [zI (mm s1 s0)] sh pp mm Q := s_go cM_trail_57 cM_trail_58 (if_pos ⟨hk, h0, h1⟩) rfl
theorem rM_trail_58 {a0 : Nat} {a1 a2 a3 s0 : Int} {u4 : zV} : zS 226 58 [zR a0, zI a1, zI a2, zI a3, u4] [zI s0] sh pp mm Q ↔ (s0 = 0 → zS 226 109 [zR a0, zI a1, zI a2, zI a3, zU] [] sh pp mm Q) ∧ (¬ s0 = 0 → zS 226 61 [zR a0, zI a1, zI a2, zI a3, zU] [] sh pp mm Q) := s_if cM_trail_58 cM_trail_109 cM_trail_61 rfl rfl rfl
theorem rM_trail_61 {a0 : Nat} {a1 a2 a3 : Int} {u4 : zV} : zS 226 61 [zR a0, zI a1, zI a2, zI a3, u4] [] sh pp mm Q ↔ zS 226 62 [zR a0, zI a1, zI a2, zI a3, zU] [zR a0] sh pp mm Q := s_go cM_trail_61 cM_trail_62 rfl rfl
theorem rM_trail_62 {a0 s0 : Nat} {a1 a2 a3 : Int} {u4 : zV} (hk : zKd sh s0 = 12) : zS 226 62 [zR a0, zI a1, zI a2, zI a3, u4] [zR s0] sh pp mm Q ↔ zS 224 0 [zR s0, zU, zU, zU] [] sh pp mm (fun v sh pp mm => zS 226 65 [zR a0, zI a1, zI a2, zI a3, zU] (zPush v []) sh pp mm Q) := s_call cM_trail_62 cM_trail_65 ((if_pos hk).trans rfl) rfl
theorem rM_trail_65 {a0 : Nat} {a1 a2 a3 : Int} {u4 : zV} : zS 226 65 [zR a0, zI a1, zI a2, zI a3, u4] [] sh pp mm Q ↔ zS 226 66 [zR a0, zI a1, zI a2, zI a3, zU] [zI a2] sh pp mm Q := s_go cM_trail_65 cM_trail_66 rfl rfl
theorem rM_trail_66 {a0 : Nat} {a1 a2 a3 s0 : Int} {u4 : zV} : zS 226 66 [zR a0, zI a1, zI a2, zI a3, u4] [zI s0] sh pp mm Q ↔ zS 226 67 [zR a0, zI a1, zI a2, zI a3, zU] [zI (-1), zI s0] sh pp mm Q := s_go cM_trail_66 cM_trail_67 rfl rfl
theorem rM_trail_67 {a0 : Nat} {a1 a2 a3 s0 s1 : Int} {u4 : zV} : zS 226 67 [zR a0, zI a1, zI a2, zI a3, u4] [zI s0, zI s1] sh pp mm Q ↔ (s1 = s0 → zS 226 77 [zR a0, zI a1, zU, zI a3, zU] [] sh pp mm Q) ∧ (¬ s1 = s0 → zS 226 70 [zR a0, zI a1, zI a2, zI a3, zU] [] sh pp mm Q) := s_if cM_trail_67 cM_trail_77 cM_trail_70 rfl rfl rfl
theorem rM_trail_70 {a0 : Nat} {a1 a2 a3 : Int} {u4 : zV} : zS 226 70 [zR a0, zI a1, zI a2, zI a3, u4] [] sh pp mm Q ↔ zS 226 71 [zR a0, zI a1, zI a2, zI a3, zU] [zR a0] sh pp mm Q := s_go cM_trail_70 cM_trail_71 rfl rfl
theorem rM_trail_71 {a0 s0 : Nat} {a1 a2 a3 : Int} {u4 : zV} (hk : zKd sh s0 = 12) : zS 226 71 [zR a0, zI a1, zI a2, zI a3, u4] [zR s0] sh pp mm Q ↔ zS 225 0 [zR s0, zU] [] sh pp mm (fun v sh pp mm => zS 226 74 [zR a0, zI a1, zI a2, zI a3, zU] (zPush v []) sh pp mm Q) := s_call cM_trail_71 cM_trail_74 ((if_pos hk).trans rfl) rfl
theorem rM_trail_74 {a0 : Nat} {a1 a2 a3 s0 : Int} {u4 : zV} : zS 226 74 [zR a0, zI a1, zI a2, zI a3, u4] [zI s0] sh pp mm Q ↔ (s0 = 0 → zS 226 109 [zR a0, zI a1, zI a2, zI a3, zU] [] sh pp mm Q) ∧ (¬ s0 = 0 → zS 226 77 [zR a0, zI a1, zU, zI a3, zU] [] sh pp mm Q) := s_if cM_trail_74 cM_trail_109 cM_trail_77 rfl rfl rfl
theorem rM_trail_77 {a0 : Nat} {a1 a3 : Int} {u2 u4 : zV} : zS 226 77 [zR a0, zI a1, u2, zI a3, u4] [] sh pp mm Q ↔ zS 226 78 [zR a0, zI a1, zU, zI a3, zU] [zI a3] sh pp mm Q := s_go cM_trail_77 cM_trail_78 rfl rfl
theorem rM_trail_78 {a0 : Nat} {a1 a3 s0 : Int} {u2 u4 : zV} : zS 226 78 [zR a0, zI a1, u2, zI a3, u4] [zI s0] sh pp mm Q ↔ zS 226 79 [zR a0, zI a1, zI s0, zI a3, zU] [] sh pp mm Q := s_go cM_trail_78 cM_trail_79 rfl rfl
theorem rM_trail_79 {a0 : Nat} {a1 a2 a3 : Int} {u4 : zV} : zS 226 79 [zR a0, zI a1, zI a2, zI a3, u4] [] sh pp mm Q ↔ zS 226 80 [zR a0, zI a1, zI a2, zI a3, zU] [zI 0] sh pp mm Q := s_go cM_trail_79 cM_trail_80 rfl rfl
theorem rM_trail_80 {a0 : Nat} {a1 a2 a3 s0 : Int} {u4 : zV} : zS 226 80 [zR a0, zI a1, zI a2, zI a3, u4] [zI s0] sh pp mm Q ↔ zS 226 82 [zR a0, zI a1, zI a2, zI a3, zI s0] [] sh pp mm Q := s_go cM_trail_80 cM_trail_82 rfl rfl
theorem rM_trail_82 {a0 : Nat} {a1 a2 a3 a4 : Int} : zS 226 82 [zR a0, zI a1, zI a2, zI a3, zI a4] [] sh pp mm Q ↔ zS 226 84 [zR a0, zI a1, zI a2, zI a3, zI a4] [zI a4] sh pp mm Q := s_go cM_trail_82 cM_trail_84 rfl rfl
theorem rM_trail_84 {a0 : Nat} {a1 a2 a3 a4 s0 : Int} : zS 226 84 [zR a0, zI a1, zI a2, zI a3, zI a4] [zI s0] sh pp mm Q ↔ zS 226 86 [zR a0, zI a1, zI a2, zI a3, zI a4] [zI 12, zI s0] sh pp mm Q := s_go cM_trail_84 cM_trail_86 rfl rfl
theorem rM_trail_86 {a0 : Nat} {a1 a2 a3 a4 s0 s1 : Int} : zS 226 86 [zR a0, zI a1, zI a2, zI a3, zI a4] [zI s0, zI s1] sh pp mm Q ↔ (s1 < s0 → zS 226 89 [zR a0, zI a1, zI a2, zI a3, zI a4] [] sh pp mm Q) ∧ (¬ s1 < s0 → zS 226 109 [zR a0, zI a1, zI a2, zI a3, zU] [] sh pp mm Q) := s_ifn cM_trail_86 cM_trail_89 cM_trail_109 rfl rfl rfl
theorem rM_trail_89 {a0 : Nat} {a1 a2 a3 a4 : Int} : zS 226 89 [zR a0, zI a1, zI a2, zI a3, zI a4] [] sh pp mm Q ↔ zS 226 90 [zR a0, zI a1, zI a2, zI a3, zI a4] [zR a0] sh pp mm Q := s_go cM_trail_89 cM_trail_90 rfl rfl
theorem rM_trail_90 {a0 s0 : Nat} {a1 a2 a3 a4 : Int} (hk : zKd sh s0 = 12) : zS 226 90 [zR a0, zI a1, zI a2, zI a3, zI a4] [zR s0] sh pp mm Q ↔ zS 226 93 [zR a0, zI a1, zI a2, zI a3, zI a4] [zR (pp s0 33)] sh pp mm Q := s_go cM_trail_90 cM_trail_93 (if_pos hk) rfl
theorem rM_trail_93 {a0 s0 : Nat} {a1 a2 a3 a4 : Int} : zS 226 93 [zR a0, zI a1, zI a2, zI a3, zI a4] [zR s0] sh pp mm Q ↔ zS 226 95 [zR a0, zI a1, zI a2, zI a3, zI a4] [zI a4, zR s0] sh pp mm Q := s_go cM_trail_93 cM_trail_95 rfl rfl
theorem rM_trail_95 {a0 s1 : Nat} {a1 a2 a3 a4 s0 : Int} : zS 226 95 [zR a0, zI a1, zI a2, zI a3, zI a4] [zI s0, zR s1] sh pp mm Q ↔ zS 226 96 [zR a0, zI a1, zI a2, zI a3, zI a4] [zR a0, zI s0, zR s1] sh pp mm Q := s_go cM_trail_95 cM_trail_96 rfl rfl
theorem rM_trail_96 {a0 s0 s2 : Nat} {a1 a2 a3 a4 s1 : Int} (hk : zKd sh s0 = 12) : zS 226 96 [zR a0, zI a1, zI a2, zI a3, zI a4] [zR s0, zI s1, zR s2] sh pp mm Q ↔ zS 226 99 [zR a0, zI a1, zI a2, zI a3, zI a4] [zR (pp s0 32), zI s1, zR s2] sh pp mm Q := s_go cM_trail_96 cM_trail_99 (if_pos hk) rfl
theorem rM_trail_99 {a0 s0 s2 : Nat} {a1 a2 a3 a4 s1 : Int} : zS 226 99 [zR a0, zI a1, zI a2, zI a3, zI a4] [zR s0, zI s1, zR s2] sh pp mm Q ↔ zS 226 101 [zR a0, zI a1, zI a2, zI a3, zI a4] [zI a4, zR s0, zI s1, zR s2] sh pp mm Q := s_go cM_trail_99 cM_trail_101 rfl rfl
theorem rM_trail_101 {a0 s1 s3 : Nat} {a1 a2 a3 a4 s0 s2 : Int} (hk : zKd sh s1 = 20 ∨ zKd sh s1 = 30) (h0 : 0 ≤ s0) (h1 : s0 < zLn sh s1) : zS 226 101 [zR a0, zI a1, zI a2, zI a3, zI a4] [zI s0, zR s1, zI s2, zR s3] sh pp mm Q ↔ zS 226 102 [zR a0, zI a1, zI a2, zI a3, zI a4] [zI (mm s1 s0), zI s2, zR s3] sh pp mm Q := s_go cM_trail_101 cM_trail_102 (if_pos ⟨hk, h0, h1⟩) rfl
theorem rM_trail_102 {a0 s2 : Nat} {a1 a2 a3 a4 s0 s1 : Int} (hk : zKd sh s2 = 20) (h0 : 0 ≤ s1) (h1 : s1 < zLn sh s2) : zS 226 102 [zR a0, zI a1, zI a2, zI a3, zI a4] [zI s0, zI s1, zR s2] sh pp mm Q ↔ zS 226 103 [zR a0, zI a1, zI a2, zI a3, zI a4] [] sh pp (zupd mm s2 s1 s0) Q := s_go cM_trail_102 cM_trail_103 (if_pos ⟨hk, h0, h1, fun h => absurd h (by decide)⟩) rfl
theorem rM_trail_103 {a0 : Nat} {a1 a2 a3 a4 : Int} : zS 226 103 [zR a0, zI a1, zI a2, zI a3, zI a4] [] sh pp mm Q ↔ zS 226 106 [zR a0, zI a1, zI a2, zI a3, zI (zw32 (a4 + 1))] [] sh pp mm Q := s_go cM_trail_103 cM_trail_106 rfl rfl
theorem rM_trail_106 {a0 : Nat} {a1 a2 a3 a4 : Int} : zS 226 106 [zR a0, zI a1, zI a2, zI a3, zI a4] [] sh pp mm Q ↔ zS 226 82 [zR a0, zI a1, zI a2, zI a3, zI a4] [] sh pp mm Q := s_go cM_trail_106 cM_trail_82 rfl rfl
theorem rM_trail_109 {a0 : Nat} {a1 a2 a3 : Int} {u4 : zV} : zS 226 109 [zR a0, zI a1, zI a2, zI a3, u4] [] sh pp mm Q ↔ zS 226 112 [zR a0, zI a1, zI a2, zI (zw32 (a3 + 1)), zU] [] sh pp mm Q := s_go cM_trail_109 cM_trail_112 rfl rfl
theorem rM_trail_112 {a0 : Nat} {a1 a2 a3 : Int} {u4 : zV} : zS 226 112 [zR a0, zI a1, zI a2, zI a3, u4] [] sh pp mm Q ↔ zS 226 38 [zR a0, zI a1, zI a2, zI a3, zU] [] sh pp mm Q := s_go cM_trail_112 cM_trail_38 rfl rfl
theorem rM_trail_115 {a0 : Nat} {a1 a2 : Int} {u3 u4 : zV} : zS 226 115 [zR a0, zI a1, zI a2, u3, u4] [] sh pp mm Q ↔ zS 226 116 [zR a0, zI a1, zI a2, zU, zU] [zI a1] sh pp mm Q := s_go cM_trail_115 cM_trail_116 rfl rfl
theorem rM_trail_116 {a0 : Nat} {a1 a2 s0 : Int} {u3 u4 : zV} : zS 226 116 [zR a0, zI a1, zI a2, u3, u4] [zI s0] sh pp mm Q ↔ zS 226 117 [zR a0, zI a1, zI a2, zU, zU] [zI (-1), zI s0] sh pp mm Q := s_go cM_trail_116 cM_trail_117 rfl rfl
theorem rM_trail_117 {a0 : Nat} {a1 a2 s0 s1 : Int} {u3 u4 : zV} : zS 226 117 [zR a0, zI a1, zI a2, u3, u4] [zI s0, zI s1] sh pp mm Q ↔ (s1 = s0 → zS 226 120 [zU, zU, zI a2, zU, zU] [] sh pp mm Q) ∧ (¬ s1 = s0 → zS 226 124 [zR a0, zI a1, zU, zU, zU] [] sh pp mm Q) := s_ifn cM_trail_117 cM_trail_120 cM_trail_124 rfl rfl rfl
theorem rM_trail_120 {a2 : Int} {u0 u1 u3 u4 : zV} : zS 226 120 [u0, u1, zI a2, u3, u4] [] sh pp mm Q ↔ zS 226 121 [zU, zU, zU, zU, zU] [zI a2] sh pp mm Q := s_go cM_trail_120 cM_trail_121 rfl rfl
theorem rM_trail_121 {s0 : Int} {u0 u1 u2 u3 u4 : zV} : zS 226 121 [u0, u1, u2, u3, u4] [zI s0] sh pp mm Q ↔ zS 226 144 [zU, zU, zU, zU, zU] [zI s0] sh pp mm Q := s_go cM_trail_121 cM_trail_144 rfl rfl
theorem rM_trail_124 {a0 : Nat} {a1 : Int} {u2 u3 u4 : zV} : zS 226 124 [zR a0, zI a1, u2, u3, u4] [] sh pp mm Q ↔ zS 226 125 [zR a0, zI a1, zU, zU, zU] [zI a1] sh pp mm Q := s_go cM_trail_124 cM_trail_125 rfl rfl
theorem rM_trail_125 {a0 : Nat} {a1 s0 : Int} {u2 u3 u4 : zV} : zS 226 125 [zR a0, zI a1, u2, u3, u4] [zI s0] sh pp mm Q ↔ zS 226 126 [zR a0, zI a1, zU, zU, zU] [zR a0, zI s0] sh pp mm Q := s_go cM_trail_125 cM_trail_126 rfl rfl
theorem rM_trail_126 {a0 s0 : Nat} {a1 s1 : Int} {u2 u3 u4 : zV} : zS 226 126 [zR a0, zI a1, u2, u3, u4] [zR s0, zI s1] sh pp mm Q ↔ zS 226 127 [zR a0, zI a1, zU, zU, zU] [zI 2, zR s0, zI s1] sh pp mm Q := s_go cM_trail_126 cM_trail_127 rfl rfl
theorem rM_trail_127 {a0 s1 : Nat} {a1 s0 s2 : Int} {u2 u3 u4 : zV} (hk : zKd sh s1 = 12) : zS 226 127 [zR a0, zI a1, u2, u3, u4] [zI s0, zR s1, zI s2] sh pp mm Q ↔ zS 169 0 [zR s1, zI s0] [] sh pp mm (fun v sh pp mm => zS 226 130 [zR a0, zI a1, zU, zU, zU] (zPush v [zI s2]) sh pp mm Q) := s_call cM_trail_127 cM_trail_130 ((if_pos hk).trans rfl) rfl
theorem rM_trail_130 {a0 : Nat} {a1 s0 s1 : Int} {u2 u3 u4 : zV} : zS 226 130 [zR a0, zI a1, u2, u3, u4] [zI s0, zI s1] sh pp mm Q ↔ (s1 < s0 → zS 226 133 [zR a0, zI a1, zU, zU, zU] [] sh pp mm Q) ∧ (¬ s1 < s0 → zS 226 142 [zU, zU, zU, zU, zU] [] sh pp mm Q) := s_ifn cM_trail_130 cM_trail_133 cM_trail_142 rfl rfl rfl
theorem rM_trail_133 {a0 : Nat} {a1 : Int} {u2 u3 u4 : zV} : zS 226 133 [zR a0, zI a1, u2, u3, u4] [] sh pp mm Q ↔ zS 226 134 [zU, zI a1, zU, zU, zU] [zR a0] sh pp mm Q := s_go cM_trail_133 cM_trail_134 rfl rfl
theorem rM_trail_134 {s0 : Nat} {a1 : Int} {u0 u2 u3 u4 : zV} (hk : zKd sh s0 = 12) : zS 226 134 [u0, zI a1, u2, u3, u4] [zR s0] sh pp mm Q ↔ zS 226 137 [zU, zI a1, zU, zU, zU] [zR (pp s0 33)] sh pp mm Q := s_go cM_trail_134 cM_trail_137 (if_pos hk) rfl
theorem rM_trail_137 {s0 : Nat} {a1 : Int} {u0 u2 u3 u4 : zV} : zS 226 137 [u0, zI a1, u2, u3, u4] [zR s0] sh pp mm Q ↔ zS 226 138 [zU, zU, zU, zU, zU] [zI a1, zR s0] sh pp mm Q := s_go cM_trail_137 cM_trail_138 rfl rfl
theorem rM_trail_138 {s1 : Nat} {s0 : Int} {u0 u1 u2 u3 u4 : zV} (hk : zKd sh s1 = 20 ∨ zKd sh s1 = 30) (h0 : 0 ≤ s0) (h1 : s0 < zLn sh s1) : zS 226 138 [u0, u1, u2, u3, u4] [zI s0, zR s1] sh pp mm Q ↔ zS 226 139 [zU, zU, zU, zU, zU] [zI (mm s1 s0)] sh pp mm Q := s_go cM_trail_138 cM_trail_139 (if_pos ⟨hk, h0, h1⟩) rfl
theorem rM_trail_139 {s0 : Int} {u0 u1 u2 u3 u4 : zV} : zS 226 139 [u0, u1, u2, u3, u4] [zI s0] sh pp mm Q ↔ zS 226 144 [zU, zU, zU, zU, zU] [zI s0] sh pp mm Q := s_go cM_trail_139 cM_trail_144 rfl rfl
theorem rM_trail_142 {u0 u1 u2 u3 u4 : zV} : zS 226 142 [u0, u1, u2, u3, u4] [] sh pp mm Q ↔ zS 226 144 [zU, zU, zU, zU, zU] [zI (-5)] sh pp mm Q := s_go cM_trail_142 cM_trail_144 rfl rfl
theorem rM_trail_144 {s0 : Int} {u0 u1 u2 u3 u4 : zV} : zS 226 144 [u0, u1, u2, u3, u4] [zI s0] sh pp mm Q ↔ Q (zI s0) sh pp mm := s_ret cM_trail_144 rfl
theorem cAM_along : ∀ q ∈ zT227, zCode 227 q.1 = some q.2 := zAll (mid := 227) rfl (by decide +kernel)
theorem cAM_along_0 : ∀ q ∈ zT227_0, zCode 227 q.1 = some q.2 := fun q h => cAM_along q (List.mem_append_left _ h)
theorem cAM_along_1 : ∀ q ∈ zT227_1, zCode 227 q.1 = some q.2 := fun q h => cAM_along q (List.mem_append_right _ h)
theorem cM_along_0 : zCode 227 0 = some (.aload_n 0, 1, 0, 0, 0, 0, 15) := cAM_along_0 _ (List.mem_of_getElem? (i := 0) rfl)
theorem cM_along_1 : zCode 227 1 = some (.getfield 7, 4, 12, 0, 2, 1209, 15) := cAM_along_0 _ (List.mem_of_getElem? (i := 1) rfl)
theorem cM_along_4 : zCode 227 4 = some (.sipush 517, 7, 0, 0, 0, 0, 15) := cAM_along_0 _ (List.mem_of_getElem? (i := 2) rfl)
theorem cM_along_7 : zCode 227 7 = some (.iconst 2, 8, 0, 0, 0, 0, 15) := cAM_along_0 _ (List.mem_of_getElem? (i := 3) rfl)
theorem cM_along_8 : zCode 227 8 = some (.aload_n 0, 9, 0, 0, 0, 0, 15) := cAM_along_0 _ (List.mem_of_getElem? (i := 4) rfl)
theorem cM_along_9 : zCode 227 9 = some (.iload_n 1, 10, 0, 0, 0, 0, 15) := cAM_along_0 _ (List.mem_of_getElem? (i := 5) rfl)
theorem cM_along_10 : zCode 227 10 = some (.iload_n 2, 11, 0, 0, 0, 0, 13) := cAM_along_0 _ (List.mem_of_getElem? (i := 6) rfl)
theorem cM_along_11 : zCode 227 11 = some (.invokevirtual 315, 14, 213, 2, 3, 12, 13) := cAM_along_0 _ (List.mem_of_getElem? (i := 7) rfl)
theorem cM_along_14 : zCode 227 14 = some (.imul, 15, 0, 0, 0, 0, 13) := cAM_along_0 _ (List.mem_of_getElem? (i := 8) rfl)
theorem cM_along_15 : zCode 227 15 = some (.iadd, 16, 0, 0, 0, 0, 13) := cAM_along_0 _ (List.mem_of_getElem? (i := 9) rfl)
theorem cM_along_16 : zCode 227 16 = some (.iload_n 3, 17, 0, 0, 0, 0, 13) := cAM_along_0 _ (List.mem_of_getElem? (i := 10) rfl)
theorem cM_along_17 : zCode 227 17 = some (.iadd, 18, 0, 0, 0, 0, 13) := cAM_along_0 _ (List.mem_of_getElem? (i := 11) rfl)
theorem cM_along_18 : zCode 227 18 = some (.iaload, 19, 0, 0, 0, 0, 13) := cAM_along_0 _ (List.mem_of_getElem? (i := 12) rfl)
theorem cM_along_19 : zCode 227 19 = some (.aload_n 0, 20, 0, 0, 0, 0, 13) := cAM_along_0 _ (List.mem_of_getElem? (i := 13) rfl)
theorem cM_along_20 : zCode 227 20 = some (.getfield 7, 23, 12, 0, 2, 1209, 12) := cAM_along_0 _ (List.mem_of_getElem? (i := 14) rfl)
theorem cM_along_23 : zCode 227 23 = some (.sipush 517, 26, 0, 0, 0, 0, 12) := cAM_along_0 _ (List.mem_of_getElem? (i := 15) rfl)
theorem cM_along_26 : zCode 227 26 = some (.iconst 2, 27, 0, 0, 0, 0, 12) := cAM_along_1 _ (List.mem_of_getElem? (i := 0) rfl)
theorem cM_along_27 : zCode 227 27 = some (.iload_n 2, 28, 0, 0, 0, 0, 12) := cAM_along_1 _ (List.mem_of_getElem? (i := 1) rfl)
theorem cM_along_28 : zCode 227 28 = some (.imul, 29, 0, 0, 0, 0, 8) := cAM_along_1 _ (List.mem_of_getElem? (i := 2) rfl)
theorem cM_along_29 : zCode 227 29 = some (.iadd, 30, 0, 0, 0, 0, 8) := cAM_along_1 _ (List.mem_of_getElem? (i := 3) rfl)
theorem cM_along_30 : zCode 227 30 = some (.iload_n 3, 31, 0, 0, 0, 0, 8) := cAM_along_1 _ (List.mem_of_getElem? (i := 4) rfl)
theorem cM_along_31 : zCode 227 31 = some (.iadd, 32, 0, 0, 0, 0, 0) := cAM_along_1 _ (List.mem_of_getElem? (i := 5) rfl)
theorem cM_along_32 : zCode 227 32 = some (.iaload, 33, 0, 0, 0, 0, 0) := cAM_along_1 _ (List.mem_of_getElem? (i := 6) rfl)
theorem cM_along_33 : zCode 227 33 = some (.isub, 34, 0, 0, 0, 0, 0) := cAM_along_1 _ (List.mem_of_getElem? (i := 7) rfl)
theorem cM_along_34 : zCode 227 34 = some (.ireturn, 35, 0, 0, 0, 0, 0) := cAM_along_1 _ (List.mem_of_getElem? (i := 8) rfl)
theorem rM_along_0 {a0 : Nat} {a1 a2 a3 : Int} : zS 227 0 [zR a0, zI a1, zI a2, zI a3] [] sh pp mm Q ↔ zS 227 1 [zR a0, zI a1, zI a2, zI a3] [zR a0] sh pp mm Q := s_go cM_along_0 cM_along_1 rfl rfl
theorem rM_along_1 {a0 s0 : Nat} {a1 a2 a3 : Int} (hk : zKd sh s0 = 12) : zS 227 1 [zR a0, zI a1, zI a2, zI a3] [zR s0] sh pp mm Q ↔ zS 227 4 [zR a0, zI a1, zI a2, zI a3] [zR (pp s0 0)] sh pp mm Q := s_go cM_along_1 cM_along_4 (if_pos hk) rfl
theorem rM_along_4 {a0 s0 : Nat} {a1 a2 a3 : Int} : zS 227 4 [zR a0, zI a1, zI a2, zI a3] [zR s0] sh pp mm Q ↔ zS 227 7 [zR a0, zI a1, zI a2, zI a3] [zI 517, zR s0] sh pp mm Q := s_go cM_along_4 cM_along_7 rfl rfl
theorem rM_along_7 {a0 s1 : Nat} {a1 a2 a3 s0 : Int} : zS 227 7 [zR a0, zI a1, zI a2, zI a3] [zI s0, zR s1] sh pp mm Q ↔ zS 227 8 [zR a0, zI a1, zI a2, zI a3] [zI 2, zI s0, zR s1] sh pp mm Q := s_go cM_along_7 cM_along_8 rfl rfl
theorem rM_along_8 {a0 s2 : Nat} {a1 a2 a3 s0 s1 : Int} : zS 227 8 [zR a0, zI a1, zI a2, zI a3] [zI s0, zI s1, zR s2] sh pp mm Q ↔ zS 227 9 [zR a0, zI a1, zI a2, zI a3] [zR a0, zI s0, zI s1, zR s2] sh pp mm Q := s_go cM_along_8 cM_along_9 rfl rfl
theorem rM_along_9 {a0 s0 s3 : Nat} {a1 a2 a3 s1 s2 : Int} : zS 227 9 [zR a0, zI a1, zI a2, zI a3] [zR s0, zI s1, zI s2, zR s3] sh pp mm Q ↔ zS 227 10 [zR a0, zU, zI a2, zI a3] [zI a1, zR s0, zI s1, zI s2, zR s3] sh pp mm Q := s_go cM_along_9 cM_along_10 rfl rfl
theorem rM_along_10 {a0 s1 s4 : Nat} {a2 a3 s0 s2 s3 : Int} {u1 : zV} : zS 227 10 [zR a0, u1, zI a2, zI a3] [zI s0, zR s1, zI s2, zI s3, zR s4] sh pp mm Q ↔ zS 227 11 [zR a0, zU, zI a2, zI a3] [zI a2, zI s0, zR s1, zI s2, zI s3, zR s4] sh pp mm Q := s_go cM_along_10 cM_along_11 rfl rfl
theorem rM_along_11 {a0 s2 s5 : Nat} {a2 a3 s0 s1 s3 s4 : Int} {u1 : zV} (hk : zKd sh s2 = 12) : zS 227 11 [zR a0, u1, zI a2, zI a3] [zI s0, zI s1, zR s2, zI s3, zI s4, zR s5] sh pp mm Q ↔ zS 213 0 [zR s2, zI s1, zI s0] [] sh pp mm (fun v sh pp mm => zS 227 14 [zR a0, zU, zI a2, zI a3] (zPush v [zI s3, zI s4, zR s5]) sh pp mm Q) := s_call cM_along_11 cM_along_14 ((if_pos hk).trans rfl) rfl
theorem rM_along_14 {a0 s3 : Nat} {a2 a3 s0 s1 s2 : Int} {u1 : zV} : zS 227 14 [zR a0, u1, zI a2, zI a3] [zI s0, zI s1, zI s2, zR s3] sh pp mm Q ↔ zS 227 15 [zR a0, zU, zI a2, zI a3] [zI (zw32 (s1 * s0)), zI s2, zR s3] sh pp mm Q := s_go cM_along_14 cM_along_15 rfl rfl
theorem rM_along_15 {a0 s2 : Nat} {a2 a3 s0 s1 : Int} {u1 : zV} : zS 227 15 [zR a0, u1, zI a2, zI a3] [zI s0, zI s1, zR s2] sh pp mm Q ↔ zS 227 16 [zR a0, zU, zI a2, zI a3] [zI (zw32 (s1 + s0)), zR s2] sh pp mm Q := s_go cM_along_15 cM_along_16 rfl rfl
theorem rM_along_16 {a0 s1 : Nat} {a2 a3 s0 : Int} {u1 : zV} : zS 227 16 [zR a0, u1, zI a2, zI a3] [zI s0, zR s1] sh pp mm Q ↔ zS 227 17 [zR a0, zU, zI a2, zI a3] [zI a3, zI s0, zR s1] sh pp mm Q := s_go cM_along_16 cM_along_17 rfl rfl
theorem rM_along_17 {a0 s2 : Nat} {a2 a3 s0 s1 : Int} {u1 : zV} : zS 227 17 [zR a0, u1, zI a2, zI a3] [zI s0, zI s1, zR s2] sh pp mm Q ↔ zS 227 18 [zR a0, zU, zI a2, zI a3] [zI (zw32 (s1 + s0)), zR s2] sh pp mm Q := s_go cM_along_17 cM_along_18 rfl rfl
theorem rM_along_18 {a0 s1 : Nat} {a2 a3 s0 : Int} {u1 : zV} (hk : zKd sh s1 = 20 ∨ zKd sh s1 = 30) (h0 : 0 ≤ s0) (h1 : s0 < zLn sh s1) : zS 227 18 [zR a0, u1, zI a2, zI a3] [zI s0, zR s1] sh pp mm Q ↔ zS 227 19 [zR a0, zU, zI a2, zI a3] [zI (mm s1 s0)] sh pp mm Q := s_go cM_along_18 cM_along_19 (if_pos ⟨hk, h0, h1⟩) rfl
theorem rM_along_19 {a0 : Nat} {a2 a3 s0 : Int} {u1 : zV} : zS 227 19 [zR a0, u1, zI a2, zI a3] [zI s0] sh pp mm Q ↔ zS 227 20 [zU, zU, zI a2, zI a3] [zR a0, zI s0] sh pp mm Q := s_go cM_along_19 cM_along_20 rfl rfl
theorem rM_along_20 {s0 : Nat} {a2 a3 s1 : Int} {u0 u1 : zV} (hk : zKd sh s0 = 12) : zS 227 20 [u0, u1, zI a2, zI a3] [zR s0, zI s1] sh pp mm Q ↔ zS 227 23 [zU, zU, zI a2, zI a3] [zR (pp s0 0), zI s1] sh pp mm Q := s_go cM_along_20 cM_along_23 (if_pos hk) rfl
theorem rM_along_23 {s0 : Nat} {a2 a3 s1 : Int} {u0 u1 : zV} : zS 227 23 [u0, u1, zI a2, zI a3] [zR s0, zI s1] sh pp mm Q ↔ zS 227 26 [zU, zU, zI a2, zI a3] [zI 517, zR s0, zI s1] sh pp mm Q := s_go cM_along_23 cM_along_26 rfl rfl
theorem rM_along_26 {s1 : Nat} {a2 a3 s0 s2 : Int} {u0 u1 : zV} : zS 227 26 [u0, u1, zI a2, zI a3] [zI s0, zR s1, zI s2] sh pp mm Q ↔ zS 227 27 [zU, zU, zI a2, zI a3] [zI 2, zI s0, zR s1, zI s2] sh pp mm Q := s_go cM_along_26 cM_along_27 rfl rfl
theorem rM_along_27 {s2 : Nat} {a2 a3 s0 s1 s3 : Int} {u0 u1 : zV} : zS 227 27 [u0, u1, zI a2, zI a3] [zI s0, zI s1, zR s2, zI s3] sh pp mm Q ↔ zS 227 28 [zU, zU, zU, zI a3] [zI a2, zI s0, zI s1, zR s2, zI s3] sh pp mm Q := s_go cM_along_27 cM_along_28 rfl rfl
theorem rM_along_28 {s3 : Nat} {a3 s0 s1 s2 s4 : Int} {u0 u1 u2 : zV} : zS 227 28 [u0, u1, u2, zI a3] [zI s0, zI s1, zI s2, zR s3, zI s4] sh pp mm Q ↔ zS 227 29 [zU, zU, zU, zI a3] [zI (zw32 (s1 * s0)), zI s2, zR s3, zI s4] sh pp mm Q := s_go cM_along_28 cM_along_29 rfl rfl
theorem rM_along_29 {s2 : Nat} {a3 s0 s1 s3 : Int} {u0 u1 u2 : zV} : zS 227 29 [u0, u1, u2, zI a3] [zI s0, zI s1, zR s2, zI s3] sh pp mm Q ↔ zS 227 30 [zU, zU, zU, zI a3] [zI (zw32 (s1 + s0)), zR s2, zI s3] sh pp mm Q := s_go cM_along_29 cM_along_30 rfl rfl
theorem rM_along_30 {s1 : Nat} {a3 s0 s2 : Int} {u0 u1 u2 : zV} : zS 227 30 [u0, u1, u2, zI a3] [zI s0, zR s1, zI s2] sh pp mm Q ↔ zS 227 31 [zU, zU, zU, zU] [zI a3, zI s0, zR s1, zI s2] sh pp mm Q := s_go cM_along_30 cM_along_31 rfl rfl
theorem rM_along_31 {s2 : Nat} {s0 s1 s3 : Int} {u0 u1 u2 u3 : zV} : zS 227 31 [u0, u1, u2, u3] [zI s0, zI s1, zR s2, zI s3] sh pp mm Q ↔ zS 227 32 [zU, zU, zU, zU] [zI (zw32 (s1 + s0)), zR s2, zI s3] sh pp mm Q := s_go cM_along_31 cM_along_32 rfl rfl
theorem rM_along_32 {s1 : Nat} {s0 s2 : Int} {u0 u1 u2 u3 : zV} (hk : zKd sh s1 = 20 ∨ zKd sh s1 = 30) (h0 : 0 ≤ s0) (h1 : s0 < zLn sh s1) : zS 227 32 [u0, u1, u2, u3] [zI s0, zR s1, zI s2] sh pp mm Q ↔ zS 227 33 [zU, zU, zU, zU] [zI (mm s1 s0), zI s2] sh pp mm Q := s_go cM_along_32 cM_along_33 (if_pos ⟨hk, h0, h1⟩) rfl
theorem rM_along_33 {s0 s1 : Int} {u0 u1 u2 u3 : zV} : zS 227 33 [u0, u1, u2, u3] [zI s0, zI s1] sh pp mm Q ↔ zS 227 34 [zU, zU, zU, zU] [zI (zw32 (s1 - s0))] sh pp mm Q := s_go cM_along_33 cM_along_34 rfl rfl
theorem rM_along_34 {s0 : Int} {u0 u1 u2 u3 : zV} : zS 227 34 [u0, u1, u2, u3] [zI s0] sh pp mm Q ↔ Q (zI s0) sh pp mm := s_ret cM_along_34 rfl
theorem cAM_bendsOn : ∀ q ∈ zT228, zCode 228 q.1 = some q.2 := zAll (mid := 228) rfl (by decide +kernel)
theorem cAM_bendsOn_0 : ∀ q ∈ zT228_0, zCode 228 q.1 = some q.2 := fun q h => cAM_bendsOn q (List.mem_append_left _ h)
theorem cAM_bendsOn_1 : ∀ q ∈ zT228_1, zCode 228 q.1 = some q.2 := fun q h => cAM_bendsOn q (List.mem_append_right _ (List.mem_append_left _ h))
theorem cAM_bendsOn_2 : ∀ q ∈ zT228_2, zCode 228 q.1 = some q.2 := fun q h => cAM_bendsOn q (List.mem_append_right _ (List.mem_append_right _ (List.mem_append_left _ h)))
theorem cAM_bendsOn_3 : ∀ q ∈ zT228_3, zCode 228 q.1 = some q.2 := fun q h => cAM_bendsOn q (List.mem_append_right _ (List.mem_append_right _ (List.mem_append_right _ (List.mem_append_left _ h))))
theorem cAM_bendsOn_4 : ∀ q ∈ zT228_4, zCode 228 q.1 = some q.2 := fun q h => cAM_bendsOn q (List.mem_append_right _ (List.mem_append_right _ (List.mem_append_right _ (List.mem_append_right _ (List.mem_append_left _ h)))))
theorem cAM_bendsOn_5 : ∀ q ∈ zT228_5, zCode 228 q.1 = some q.2 := fun q h => cAM_bendsOn q (List.mem_append_right _ (List.mem_append_right _ (List.mem_append_right _ (List.mem_append_right _ (List.mem_append_right _ h)))))
theorem cM_bendsOn_0 : zCode 228 0 = some (.aload_n 0, 1, 0, 0, 0, 0, 15) := cAM_bendsOn_0 _ (List.mem_of_getElem? (i := 0) rfl)
theorem cM_bendsOn_1 : zCode 228 1 = some (.getfield 67, 4, 12, 34, 2, 1243, 15) := cAM_bendsOn_0 _ (List.mem_of_getElem? (i := 1) rfl)
theorem cM_bendsOn_4 : zCode 228 4 = some (.bipush 9, 6, 0, 0, 0, 0, 15) := cAM_bendsOn_0 _ (List.mem_of_getElem? (i := 2) rfl)
theorem cM_bendsOn_6 : zCode 228 6 = some (.iload_n 1, 7, 0, 0, 0, 0, 15) := cAM_bendsOn_0 _ (List.mem_of_getElem? (i := 3) rfl)
theorem cM_bendsOn_7 : zCode 228 7 = some (.imul, 8, 0, 0, 0, 0, 15) := cAM_bendsOn_0 _ (List.mem_of_getElem? (i := 4) rfl)
theorem cM_bendsOn_8 : zCode 228 8 = some (.iload_n 2, 9, 0, 0, 0, 0, 15) := cAM_bendsOn_0 _ (List.mem_of_getElem? (i := 5) rfl)
theorem cM_bendsOn_9 : zCode 228 9 = some (.iadd, 10, 0, 0, 0, 0, 15) := cAM_bendsOn_0 _ (List.mem_of_getElem? (i := 6) rfl)
theorem cM_bendsOn_10 : zCode 228 10 = some (.iaload, 11, 0, 0, 0, 0, 15) := cAM_bendsOn_0 _ (List.mem_of_getElem? (i := 7) rfl)
theorem cM_bendsOn_11 : zCode 228 11 = some (.istore 4, 13, 0, 0, 0, 0, 15) := cAM_bendsOn_0 _ (List.mem_of_getElem? (i := 8) rfl)
theorem cM_bendsOn_13 : zCode 228 13 = some (.iconst 0, 14, 0, 0, 0, 0, 31) := cAM_bendsOn_0 _ (List.mem_of_getElem? (i := 9) rfl)
theorem cM_bendsOn_14 : zCode 228 14 = some (.istore 5, 16, 0, 0, 0, 0, 31) := cAM_bendsOn_0 _ (List.mem_of_getElem? (i := 10) rfl)
theorem cM_bendsOn_16 : zCode 228 16 = some (.iconst 0, 17, 0, 0, 0, 0, 63) := cAM_bendsOn_0 _ (List.mem_of_getElem? (i := 11) rfl)
theorem cM_bendsOn_17 : zCode 228 17 = some (.istore 6, 19, 0, 0, 0, 0, 63) := cAM_bendsOn_0 _ (List.mem_of_getElem? (i := 12) rfl)
theorem cM_bendsOn_19 : zCode 228 19 = some (.iload 6, 21, 0, 0, 0, 0, 127) := cAM_bendsOn_0 _ (List.mem_of_getElem? (i := 13) rfl)
theorem cM_bendsOn_21 : zCode 228 21 = some (.iconst 2, 22, 0, 0, 0, 0, 127) := cAM_bendsOn_0 _ (List.mem_of_getElem? (i := 14) rfl)
theorem cM_bendsOn_22 : zCode 228 22 = some (.if_icmp .ge 95, 25, 117, 0, 0, 0, 127) := cAM_bendsOn_0 _ (List.mem_of_getElem? (i := 15) rfl)
theorem cM_bendsOn_25 : zCode 228 25 = some (.iload 6, 27, 0, 0, 0, 0, 127) := cAM_bendsOn_1 _ (List.mem_of_getElem? (i := 0) rfl)
theorem cM_bendsOn_27 : zCode 228 27 = some (.ifCond .ne 11, 30, 38, 0, 0, 0, 127) := cAM_bendsOn_1 _ (List.mem_of_getElem? (i := 1) rfl)
theorem cM_bendsOn_30 : zCode 228 30 = some (.iload_n 2, 31, 0, 0, 0, 0, 127) := cAM_bendsOn_1 _ (List.mem_of_getElem? (i := 2) rfl)
theorem cM_bendsOn_31 : zCode 228 31 = some (.iconst 3, 32, 0, 0, 0, 0, 127) := cAM_bendsOn_1 _ (List.mem_of_getElem? (i := 3) rfl)
theorem cM_bendsOn_32 : zCode 228 32 = some (.idiv, 33, 0, 0, 0, 0, 127) := cAM_bendsOn_1 _ (List.mem_of_getElem? (i := 4) rfl)
theorem cM_bendsOn_33 : zCode 228 33 = some (.iconst 1, 34, 0, 0, 0, 0, 127) := cAM_bendsOn_1 _ (List.mem_of_getElem? (i := 5) rfl)
theorem cM_bendsOn_34 : zCode 228 34 = some (.isub, 35, 0, 0, 0, 0, 127) := cAM_bendsOn_1 _ (List.mem_of_getElem? (i := 6) rfl)
theorem cM_bendsOn_35 : zCode 228 35 = some (.goto 8, 38, 43, 0, 0, 0, 127) := cAM_bendsOn_1 _ (List.mem_of_getElem? (i := 7) rfl)
theorem cM_bendsOn_38 : zCode 228 38 = some (.iload_n 2, 39, 0, 0, 0, 0, 127) := cAM_bendsOn_1 _ (List.mem_of_getElem? (i := 8) rfl)
theorem cM_bendsOn_39 : zCode 228 39 = some (.iconst 3, 40, 0, 0, 0, 0, 127) := cAM_bendsOn_1 _ (List.mem_of_getElem? (i := 9) rfl)
theorem cM_bendsOn_40 : zCode 228 40 = some (.irem, 41, 0, 0, 0, 0, 127) := cAM_bendsOn_1 _ (List.mem_of_getElem? (i := 10) rfl)
theorem cM_bendsOn_41 : zCode 228 41 = some (.iconst 1, 42, 0, 0, 0, 0, 127) := cAM_bendsOn_1 _ (List.mem_of_getElem? (i := 11) rfl)
theorem cM_bendsOn_42 : zCode 228 42 = some (.isub, 43, 0, 0, 0, 0, 127) := cAM_bendsOn_1 _ (List.mem_of_getElem? (i := 12) rfl)
theorem cM_bendsOn_43 : zCode 228 43 = some (.istore 7, 45, 0, 0, 0, 0, 127) := cAM_bendsOn_1 _ (List.mem_of_getElem? (i := 13) rfl)
theorem cM_bendsOn_45 : zCode 228 45 = some (.aload_n 0, 46, 0, 0, 0, 0, 255) := cAM_bendsOn_1 _ (List.mem_of_getElem? (i := 14) rfl)
theorem cM_bendsOn_46 : zCode 228 46 = some (.iload_n 3, 47, 0, 0, 0, 0, 255) := cAM_bendsOn_1 _ (List.mem_of_getElem? (i := 15) rfl)
theorem cM_bendsOn_47 : zCode 228 47 = some (.aload_n 0, 48, 0, 0, 0, 0, 255) := cAM_bendsOn_2 _ (List.mem_of_getElem? (i := 0) rfl)
theorem cM_bendsOn_48 : zCode 228 48 = some (.getfield 54, 51, 12, 30, 2, 1239, 255) := cAM_bendsOn_2 _ (List.mem_of_getElem? (i := 1) rfl)
theorem cM_bendsOn_51 : zCode 228 51 = some (.iload_n 1, 52, 0, 0, 0, 0, 255) := cAM_bendsOn_2 _ (List.mem_of_getElem? (i := 2) rfl)
theorem cM_bendsOn_52 : zCode 228 52 = some (.iaload, 53, 0, 0, 0, 0, 255) := cAM_bendsOn_2 _ (List.mem_of_getElem? (i := 3) rfl)
theorem cM_bendsOn_53 : zCode 228 53 = some (.iload 6, 55, 0, 0, 0, 0, 255) := cAM_bendsOn_2 _ (List.mem_of_getElem? (i := 4) rfl)
theorem cM_bendsOn_55 : zCode 228 55 = some (.invokevirtual 327, 58, 227, 3, 4, 12, 255) := cAM_bendsOn_2 _ (List.mem_of_getElem? (i := 5) rfl)
theorem cM_bendsOn_58 : zCode 228 58 = some (.invokestatic 235, 61, 191, 1, 1, 12, 255) := cAM_bendsOn_2 _ (List.mem_of_getElem? (i := 6) rfl)
theorem cM_bendsOn_61 : zCode 228 61 = some (.istore 8, 63, 0, 0, 0, 0, 255) := cAM_bendsOn_2 _ (List.mem_of_getElem? (i := 7) rfl)
theorem cM_bendsOn_63 : zCode 228 63 = some (.iload 4, 65, 0, 0, 0, 0, 511) := cAM_bendsOn_2 _ (List.mem_of_getElem? (i := 8) rfl)
theorem cM_bendsOn_65 : zCode 228 65 = some (.iload 8, 67, 0, 0, 0, 0, 495) := cAM_bendsOn_2 _ (List.mem_of_getElem? (i := 9) rfl)
theorem cM_bendsOn_67 : zCode 228 67 = some (.ifCond .eq 19, 70, 86, 0, 0, 0, 495) := cAM_bendsOn_2 _ (List.mem_of_getElem? (i := 10) rfl)
theorem cM_bendsOn_70 : zCode 228 70 = some (.iload 7, 72, 0, 0, 0, 0, 495) := cAM_bendsOn_2 _ (List.mem_of_getElem? (i := 11) rfl)
theorem cM_bendsOn_72 : zCode 228 72 = some (.ifCond .eq 14, 75, 86, 0, 0, 0, 495) := cAM_bendsOn_2 _ (List.mem_of_getElem? (i := 12) rfl)
theorem cM_bendsOn_75 : zCode 228 75 = some (.iload 8, 77, 0, 0, 0, 0, 495) := cAM_bendsOn_2 _ (List.mem_of_getElem? (i := 13) rfl)
theorem cM_bendsOn_77 : zCode 228 77 = some (.iload 7, 79, 0, 0, 0, 0, 495) := cAM_bendsOn_2 _ (List.mem_of_getElem? (i := 14) rfl)
theorem cM_bendsOn_79 : zCode 228 79 = some (.if_icmp .eq 7, 82, 86, 0, 0, 0, 495) := cAM_bendsOn_2 _ (List.mem_of_getElem? (i := 15) rfl)
theorem cM_bendsOn_82 : zCode 228 82 = some (.iconst 1, 83, 0, 0, 0, 0, 495) := cAM_bendsOn_3 _ (List.mem_of_getElem? (i := 0) rfl)
theorem cM_bendsOn_83 : zCode 228 83 = some (.goto 4, 86, 87, 0, 0, 0, 495) := cAM_bendsOn_3 _ (List.mem_of_getElem? (i := 1) rfl)
theorem cM_bendsOn_86 : zCode 228 86 = some (.iconst 0, 87, 0, 0, 0, 0, 495) := cAM_bendsOn_3 _ (List.mem_of_getElem? (i := 2) rfl)
theorem cM_bendsOn_87 : zCode 228 87 = some (.iadd, 88, 0, 0, 0, 0, 495) := cAM_bendsOn_3 _ (List.mem_of_getElem? (i := 3) rfl)
theorem cM_bendsOn_88 : zCode 228 88 = some (.istore 4, 90, 0, 0, 0, 0, 495) := cAM_bendsOn_3 _ (List.mem_of_getElem? (i := 4) rfl)
theorem cM_bendsOn_90 : zCode 228 90 = some (.iconst 3, 91, 0, 0, 0, 0, 511) := cAM_bendsOn_3 _ (List.mem_of_getElem? (i := 5) rfl)
theorem cM_bendsOn_91 : zCode 228 91 = some (.iload 5, 93, 0, 0, 0, 0, 511) := cAM_bendsOn_3 _ (List.mem_of_getElem? (i := 6) rfl)
theorem cM_bendsOn_93 : zCode 228 93 = some (.imul, 94, 0, 0, 0, 0, 479) := cAM_bendsOn_3 _ (List.mem_of_getElem? (i := 7) rfl)
theorem cM_bendsOn_94 : zCode 228 94 = some (.iload 8, 96, 0, 0, 0, 0, 479) := cAM_bendsOn_3 _ (List.mem_of_getElem? (i := 8) rfl)
theorem cM_bendsOn_96 : zCode 228 96 = some (.ifCond .ne 8, 99, 104, 0, 0, 0, 479) := cAM_bendsOn_3 _ (List.mem_of_getElem? (i := 9) rfl)
theorem cM_bendsOn_99 : zCode 228 99 = some (.iload 7, 101, 0, 0, 0, 0, 223) := cAM_bendsOn_3 _ (List.mem_of_getElem? (i := 10) rfl)
theorem cM_bendsOn_101 : zCode 228 101 = some (.goto 5, 104, 106, 0, 0, 0, 95) := cAM_bendsOn_3 _ (List.mem_of_getElem? (i := 11) rfl)
theorem cM_bendsOn_104 : zCode 228 104 = some (.iload 8, 106, 0, 0, 0, 0, 351) := cAM_bendsOn_3 _ (List.mem_of_getElem? (i := 12) rfl)
theorem cM_bendsOn_106 : zCode 228 106 = some (.iadd, 107, 0, 0, 0, 0, 95) := cAM_bendsOn_3 _ (List.mem_of_getElem? (i := 13) rfl)
theorem cM_bendsOn_107 : zCode 228 107 = some (.iconst 1, 108, 0, 0, 0, 0, 95) := cAM_bendsOn_3 _ (List.mem_of_getElem? (i := 14) rfl)
theorem cM_bendsOn_108 : zCode 228 108 = some (.iadd, 109, 0, 0, 0, 0, 95) := cAM_bendsOn_3 _ (List.mem_of_getElem? (i := 15) rfl)
theorem cM_bendsOn_109 : zCode 228 109 = some (.istore 5, 111, 0, 0, 0, 0, 95) := cAM_bendsOn_4 _ (List.mem_of_getElem? (i := 0) rfl)
theorem cM_bendsOn_111 : zCode 228 111 = some (.iinc 6 1, 114, 0, 0, 0, 0, 127) := cAM_bendsOn_4 _ (List.mem_of_getElem? (i := 1) rfl)
theorem cM_bendsOn_114 : zCode 228 114 = some (.goto (-95), 117, 19, 0, 0, 0, 127) := cAM_bendsOn_4 _ (List.mem_of_getElem? (i := 2) rfl)
theorem cM_bendsOn_117 : zCode 228 117 = some (.bipush 9, 119, 0, 0, 0, 0, 59) := cAM_bendsOn_4 _ (List.mem_of_getElem? (i := 3) rfl)
theorem cM_bendsOn_119 : zCode 228 119 = some (.iload_n 1, 120, 0, 0, 0, 0, 59) := cAM_bendsOn_4 _ (List.mem_of_getElem? (i := 4) rfl)
theorem cM_bendsOn_120 : zCode 228 120 = some (.iconst 1, 121, 0, 0, 0, 0, 57) := cAM_bendsOn_4 _ (List.mem_of_getElem? (i := 5) rfl)
theorem cM_bendsOn_121 : zCode 228 121 = some (.iload_n 3, 122, 0, 0, 0, 0, 57) := cAM_bendsOn_4 _ (List.mem_of_getElem? (i := 6) rfl)
theorem cM_bendsOn_122 : zCode 228 122 = some (.ishl, 123, 0, 0, 0, 0, 49) := cAM_bendsOn_4 _ (List.mem_of_getElem? (i := 7) rfl)
theorem cM_bendsOn_123 : zCode 228 123 = some (.ior, 124, 0, 0, 0, 0, 49) := cAM_bendsOn_4 _ (List.mem_of_getElem? (i := 8) rfl)
theorem cM_bendsOn_124 : zCode 228 124 = some (.imul, 125, 0, 0, 0, 0, 49) := cAM_bendsOn_4 _ (List.mem_of_getElem? (i := 9) rfl)
theorem cM_bendsOn_125 : zCode 228 125 = some (.iload 5, 127, 0, 0, 0, 0, 49) := cAM_bendsOn_4 _ (List.mem_of_getElem? (i := 10) rfl)
theorem cM_bendsOn_127 : zCode 228 127 = some (.iadd, 128, 0, 0, 0, 0, 17) := cAM_bendsOn_4 _ (List.mem_of_getElem? (i := 11) rfl)
theorem cM_bendsOn_128 : zCode 228 128 = some (.istore 6, 130, 0, 0, 0, 0, 17) := cAM_bendsOn_4 _ (List.mem_of_getElem? (i := 12) rfl)
theorem cM_bendsOn_130 : zCode 228 130 = some (.aload_n 0, 131, 0, 0, 0, 0, 81) := cAM_bendsOn_4 _ (List.mem_of_getElem? (i := 13) rfl)
theorem cM_bendsOn_131 : zCode 228 131 = some (.getfield 67, 134, 12, 34, 2, 1243, 81) := cAM_bendsOn_4 _ (List.mem_of_getElem? (i := 14) rfl)
theorem cM_bendsOn_134 : zCode 228 134 = some (.iload 6, 136, 0, 0, 0, 0, 81) := cAM_bendsOn_4 _ (List.mem_of_getElem? (i := 15) rfl)
theorem cM_bendsOn_136 : zCode 228 136 = some (.iload 4, 138, 0, 0, 0, 0, 81) := cAM_bendsOn_5 _ (List.mem_of_getElem? (i := 0) rfl)
theorem cM_bendsOn_138 : zCode 228 138 = some (.aload_n 0, 139, 0, 0, 0, 0, 81) := cAM_bendsOn_5 _ (List.mem_of_getElem? (i := 1) rfl)
theorem cM_bendsOn_139 : zCode 228 139 = some (.getfield 67, 142, 12, 34, 2, 1243, 81) := cAM_bendsOn_5 _ (List.mem_of_getElem? (i := 2) rfl)
theorem cM_bendsOn_142 : zCode 228 142 = some (.iload 6, 144, 0, 0, 0, 0, 81) := cAM_bendsOn_5 _ (List.mem_of_getElem? (i := 3) rfl)
theorem cM_bendsOn_144 : zCode 228 144 = some (.iaload, 145, 0, 0, 0, 0, 81) := cAM_bendsOn_5 _ (List.mem_of_getElem? (i := 4) rfl)
theorem cM_bendsOn_145 : zCode 228 145 = some (.if_icmp .ge 8, 148, 153, 0, 0, 0, 81) := cAM_bendsOn_5 _ (List.mem_of_getElem? (i := 5) rfl)
theorem cM_bendsOn_148 : zCode 228 148 = some (.iload 4, 150, 0, 0, 0, 0, 16) := cAM_bendsOn_5 _ (List.mem_of_getElem? (i := 6) rfl)
theorem cM_bendsOn_150 : zCode 228 150 = some (.goto 10, 153, 160, 0, 0, 0, 0) := cAM_bendsOn_5 _ (List.mem_of_getElem? (i := 7) rfl)
theorem cM_bendsOn_153 : zCode 228 153 = some (.aload_n 0, 154, 0, 0, 0, 0, 65) := cAM_bendsOn_5 _ (List.mem_of_getElem? (i := 8) rfl)
theorem cM_bendsOn_154 : zCode 228 154 = some (.getfield 67, 157, 12, 34, 2, 1243, 64) := cAM_bendsOn_5 _ (List.mem_of_getElem? (i := 9) rfl)
theorem cM_bendsOn_157 : zCode 228 157 = some (.iload 6, 159, 0, 0, 0, 0, 64) := cAM_bendsOn_5 _ (List.mem_of_getElem? (i := 10) rfl)
theorem cM_bendsOn_159 : zCode 228 159 = some (.iaload, 160, 0, 0, 0, 0, 0) := cAM_bendsOn_5 _ (List.mem_of_getElem? (i := 11) rfl)
theorem cM_bendsOn_160 : zCode 228 160 = some (.iastore, 161, 0, 0, 0, 0, 0) := cAM_bendsOn_5 _ (List.mem_of_getElem? (i := 12) rfl)
theorem cM_bendsOn_161 : zCode 228 161 = some (.return_, 162, 0, 0, 0, 0, 0) := cAM_bendsOn_5 _ (List.mem_of_getElem? (i := 13) rfl)
theorem rM_bendsOn_0 {a0 : Nat} {a1 a2 a3 : Int} {u4 u5 u6 u7 u8 : zV} : zS 228 0 [zR a0, zI a1, zI a2, zI a3, u4, u5, u6, u7, u8] [] sh pp mm Q ↔ zS 228 1 [zR a0, zI a1, zI a2, zI a3, zU, zU, zU, zU, zU] [zR a0] sh pp mm Q := s_go cM_bendsOn_0 cM_bendsOn_1 rfl rfl
theorem rM_bendsOn_1 {a0 s0 : Nat} {a1 a2 a3 : Int} {u4 u5 u6 u7 u8 : zV} (hk : zKd sh s0 = 12) : zS 228 1 [zR a0, zI a1, zI a2, zI a3, u4, u5, u6, u7, u8] [zR s0] sh pp mm Q ↔ zS 228 4 [zR a0, zI a1, zI a2, zI a3, zU, zU, zU, zU, zU] [zR (pp s0 34)] sh pp mm Q := s_go cM_bendsOn_1 cM_bendsOn_4 (if_pos hk) rfl
theorem rM_bendsOn_4 {a0 s0 : Nat} {a1 a2 a3 : Int} {u4 u5 u6 u7 u8 : zV} : zS 228 4 [zR a0, zI a1, zI a2, zI a3, u4, u5, u6, u7, u8] [zR s0] sh pp mm Q ↔ zS 228 6 [zR a0, zI a1, zI a2, zI a3, zU, zU, zU, zU, zU] [zI 9, zR s0] sh pp mm Q := s_go cM_bendsOn_4 cM_bendsOn_6 rfl rfl
theorem rM_bendsOn_6 {a0 s1 : Nat} {a1 a2 a3 s0 : Int} {u4 u5 u6 u7 u8 : zV} : zS 228 6 [zR a0, zI a1, zI a2, zI a3, u4, u5, u6, u7, u8] [zI s0, zR s1] sh pp mm Q ↔ zS 228 7 [zR a0, zI a1, zI a2, zI a3, zU, zU, zU, zU, zU] [zI a1, zI s0, zR s1] sh pp mm Q := s_go cM_bendsOn_6 cM_bendsOn_7 rfl rfl
theorem rM_bendsOn_7 {a0 s2 : Nat} {a1 a2 a3 s0 s1 : Int} {u4 u5 u6 u7 u8 : zV} : zS 228 7 [zR a0, zI a1, zI a2, zI a3, u4, u5, u6, u7, u8] [zI s0, zI s1, zR s2] sh pp mm Q ↔ zS 228 8 [zR a0, zI a1, zI a2, zI a3, zU, zU, zU, zU, zU] [zI (zw32 (s1 * s0)), zR s2] sh pp mm Q := s_go cM_bendsOn_7 cM_bendsOn_8 rfl rfl
theorem rM_bendsOn_8 {a0 s1 : Nat} {a1 a2 a3 s0 : Int} {u4 u5 u6 u7 u8 : zV} : zS 228 8 [zR a0, zI a1, zI a2, zI a3, u4, u5, u6, u7, u8] [zI s0, zR s1] sh pp mm Q ↔ zS 228 9 [zR a0, zI a1, zI a2, zI a3, zU, zU, zU, zU, zU] [zI a2, zI s0, zR s1] sh pp mm Q := s_go cM_bendsOn_8 cM_bendsOn_9 rfl rfl
theorem rM_bendsOn_9 {a0 s2 : Nat} {a1 a2 a3 s0 s1 : Int} {u4 u5 u6 u7 u8 : zV} : zS 228 9 [zR a0, zI a1, zI a2, zI a3, u4, u5, u6, u7, u8] [zI s0, zI s1, zR s2] sh pp mm Q ↔ zS 228 10 [zR a0, zI a1, zI a2, zI a3, zU, zU, zU, zU, zU] [zI (zw32 (s1 + s0)), zR s2] sh pp mm Q := s_go cM_bendsOn_9 cM_bendsOn_10 rfl rfl
theorem rM_bendsOn_10 {a0 s1 : Nat} {a1 a2 a3 s0 : Int} {u4 u5 u6 u7 u8 : zV} (hk : zKd sh s1 = 20 ∨ zKd sh s1 = 30) (h0 : 0 ≤ s0) (h1 : s0 < zLn sh s1) : zS 228 10 [zR a0, zI a1, zI a2, zI a3, u4, u5, u6, u7, u8] [zI s0, zR s1] sh pp mm Q ↔ zS 228 11 [zR a0, zI a1, zI a2, zI a3, zU, zU, zU, zU, zU] [zI (mm s1 s0)] sh pp mm Q := s_go cM_bendsOn_10 cM_bendsOn_11 (if_pos ⟨hk, h0, h1⟩) rfl
theorem rM_bendsOn_11 {a0 : Nat} {a1 a2 a3 s0 : Int} {u4 u5 u6 u7 u8 : zV} : zS 228 11 [zR a0, zI a1, zI a2, zI a3, u4, u5, u6, u7, u8] [zI s0] sh pp mm Q ↔ zS 228 13 [zR a0, zI a1, zI a2, zI a3, zI s0, zU, zU, zU, zU] [] sh pp mm Q := s_go cM_bendsOn_11 cM_bendsOn_13 rfl rfl
theorem rM_bendsOn_13 {a0 : Nat} {a1 a2 a3 a4 : Int} {u5 u6 u7 u8 : zV} : zS 228 13 [zR a0, zI a1, zI a2, zI a3, zI a4, u5, u6, u7, u8] [] sh pp mm Q ↔ zS 228 14 [zR a0, zI a1, zI a2, zI a3, zI a4, zU, zU, zU, zU] [zI 0] sh pp mm Q := s_go cM_bendsOn_13 cM_bendsOn_14 rfl rfl
theorem rM_bendsOn_14 {a0 : Nat} {a1 a2 a3 a4 s0 : Int} {u5 u6 u7 u8 : zV} : zS 228 14 [zR a0, zI a1, zI a2, zI a3, zI a4, u5, u6, u7, u8] [zI s0] sh pp mm Q ↔ zS 228 16 [zR a0, zI a1, zI a2, zI a3, zI a4, zI s0, zU, zU, zU] [] sh pp mm Q := s_go cM_bendsOn_14 cM_bendsOn_16 rfl rfl
theorem rM_bendsOn_16 {a0 : Nat} {a1 a2 a3 a4 a5 : Int} {u6 u7 u8 : zV} : zS 228 16 [zR a0, zI a1, zI a2, zI a3, zI a4, zI a5, u6, u7, u8] [] sh pp mm Q ↔ zS 228 17 [zR a0, zI a1, zI a2, zI a3, zI a4, zI a5, zU, zU, zU] [zI 0] sh pp mm Q := s_go cM_bendsOn_16 cM_bendsOn_17 rfl rfl
theorem rM_bendsOn_17 {a0 : Nat} {a1 a2 a3 a4 a5 s0 : Int} {u6 u7 u8 : zV} : zS 228 17 [zR a0, zI a1, zI a2, zI a3, zI a4, zI a5, u6, u7, u8] [zI s0] sh pp mm Q ↔ zS 228 19 [zR a0, zI a1, zI a2, zI a3, zI a4, zI a5, zI s0, zU, zU] [] sh pp mm Q := s_go cM_bendsOn_17 cM_bendsOn_19 rfl rfl
theorem rM_bendsOn_19 {a0 : Nat} {a1 a2 a3 a4 a5 a6 : Int} {u7 u8 : zV} : zS 228 19 [zR a0, zI a1, zI a2, zI a3, zI a4, zI a5, zI a6, u7, u8] [] sh pp mm Q ↔ zS 228 21 [zR a0, zI a1, zI a2, zI a3, zI a4, zI a5, zI a6, zU, zU] [zI a6] sh pp mm Q := s_go cM_bendsOn_19 cM_bendsOn_21 rfl rfl
theorem rM_bendsOn_21 {a0 : Nat} {a1 a2 a3 a4 a5 a6 s0 : Int} {u7 u8 : zV} : zS 228 21 [zR a0, zI a1, zI a2, zI a3, zI a4, zI a5, zI a6, u7, u8] [zI s0] sh pp mm Q ↔ zS 228 22 [zR a0, zI a1, zI a2, zI a3, zI a4, zI a5, zI a6, zU, zU] [zI 2, zI s0] sh pp mm Q := s_go cM_bendsOn_21 cM_bendsOn_22 rfl rfl
theorem rM_bendsOn_22 {a0 : Nat} {a1 a2 a3 a4 a5 a6 s0 s1 : Int} {u7 u8 : zV} : zS 228 22 [zR a0, zI a1, zI a2, zI a3, zI a4, zI a5, zI a6, u7, u8] [zI s0, zI s1] sh pp mm Q ↔ (s1 < s0 → zS 228 25 [zR a0, zI a1, zI a2, zI a3, zI a4, zI a5, zI a6, zU, zU] [] sh pp mm Q) ∧ (¬ s1 < s0 → zS 228 117 [zR a0, zI a1, zU, zI a3, zI a4, zI a5, zU, zU, zU] [] sh pp mm Q) := s_ifn cM_bendsOn_22 cM_bendsOn_25 cM_bendsOn_117 rfl rfl rfl
theorem rM_bendsOn_25 {a0 : Nat} {a1 a2 a3 a4 a5 a6 : Int} {u7 u8 : zV} : zS 228 25 [zR a0, zI a1, zI a2, zI a3, zI a4, zI a5, zI a6, u7, u8] [] sh pp mm Q ↔ zS 228 27 [zR a0, zI a1, zI a2, zI a3, zI a4, zI a5, zI a6, zU, zU] [zI a6] sh pp mm Q := s_go cM_bendsOn_25 cM_bendsOn_27 rfl rfl
theorem rM_bendsOn_27 {a0 : Nat} {a1 a2 a3 a4 a5 a6 s0 : Int} {u7 u8 : zV} : zS 228 27 [zR a0, zI a1, zI a2, zI a3, zI a4, zI a5, zI a6, u7, u8] [zI s0] sh pp mm Q ↔ (s0 = 0 → zS 228 30 [zR a0, zI a1, zI a2, zI a3, zI a4, zI a5, zI a6, zU, zU] [] sh pp mm Q) ∧ (¬ s0 = 0 → zS 228 38 [zR a0, zI a1, zI a2, zI a3, zI a4, zI a5, zI a6, zU, zU] [] sh pp mm Q) := s_ifn cM_bendsOn_27 cM_bendsOn_30 cM_bendsOn_38 rfl rfl rfl
theorem rM_bendsOn_30 {a0 : Nat} {a1 a2 a3 a4 a5 a6 : Int} {u7 u8 : zV} : zS 228 30 [zR a0, zI a1, zI a2, zI a3, zI a4, zI a5, zI a6, u7, u8] [] sh pp mm Q ↔ zS 228 31 [zR a0, zI a1, zI a2, zI a3, zI a4, zI a5, zI a6, zU, zU] [zI a2] sh pp mm Q := s_go cM_bendsOn_30 cM_bendsOn_31 rfl rfl
theorem rM_bendsOn_31 {a0 : Nat} {a1 a2 a3 a4 a5 a6 s0 : Int} {u7 u8 : zV} : zS 228 31 [zR a0, zI a1, zI a2, zI a3, zI a4, zI a5, zI a6, u7, u8] [zI s0] sh pp mm Q ↔ zS 228 32 [zR a0, zI a1, zI a2, zI a3, zI a4, zI a5, zI a6, zU, zU] [zI 3, zI s0] sh pp mm Q := s_go cM_bendsOn_31 cM_bendsOn_32 rfl rfl
theorem rM_bendsOn_32 {a0 : Nat} {a1 a2 a3 a4 a5 a6 s0 s1 : Int} {u7 u8 : zV} (hz : s0 ≠ 0) : zS 228 32 [zR a0, zI a1, zI a2, zI a3, zI a4, zI a5, zI a6, u7, u8] [zI s0, zI s1] sh pp mm Q ↔ zS 228 33 [zR a0, zI a1, zI a2, zI a3, zI a4, zI a5, zI a6, zU, zU] [zI (zw32 (s1.tdiv s0))] sh pp mm Q := s_go cM_bendsOn_32 cM_bendsOn_33 (if_neg hz) rfl
theorem rM_bendsOn_33 {a0 : Nat} {a1 a2 a3 a4 a5 a6 s0 : Int} {u7 u8 : zV} : zS 228 33 [zR a0, zI a1, zI a2, zI a3, zI a4, zI a5, zI a6, u7, u8] [zI s0] sh pp mm Q ↔ zS 228 34 [zR a0, zI a1, zI a2, zI a3, zI a4, zI a5, zI a6, zU, zU] [zI 1, zI s0] sh pp mm Q := s_go cM_bendsOn_33 cM_bendsOn_34 rfl rfl
theorem rM_bendsOn_34 {a0 : Nat} {a1 a2 a3 a4 a5 a6 s0 s1 : Int} {u7 u8 : zV} : zS 228 34 [zR a0, zI a1, zI a2, zI a3, zI a4, zI a5, zI a6, u7, u8] [zI s0, zI s1] sh pp mm Q ↔ zS 228 35 [zR a0, zI a1, zI a2, zI a3, zI a4, zI a5, zI a6, zU, zU] [zI (zw32 (s1 - s0))] sh pp mm Q := s_go cM_bendsOn_34 cM_bendsOn_35 rfl rfl
theorem rM_bendsOn_35 {a0 : Nat} {a1 a2 a3 a4 a5 a6 s0 : Int} {u7 u8 : zV} : zS 228 35 [zR a0, zI a1, zI a2, zI a3, zI a4, zI a5, zI a6, u7, u8] [zI s0] sh pp mm Q ↔ zS 228 43 [zR a0, zI a1, zI a2, zI a3, zI a4, zI a5, zI a6, zU, zU] [zI s0] sh pp mm Q := s_go cM_bendsOn_35 cM_bendsOn_43 rfl rfl
theorem rM_bendsOn_38 {a0 : Nat} {a1 a2 a3 a4 a5 a6 : Int} {u7 u8 : zV} : zS 228 38 [zR a0, zI a1, zI a2, zI a3, zI a4, zI a5, zI a6, u7, u8] [] sh pp mm Q ↔ zS 228 39 [zR a0, zI a1, zI a2, zI a3, zI a4, zI a5, zI a6, zU, zU] [zI a2] sh pp mm Q := s_go cM_bendsOn_38 cM_bendsOn_39 rfl rfl
theorem rM_bendsOn_39 {a0 : Nat} {a1 a2 a3 a4 a5 a6 s0 : Int} {u7 u8 : zV} : zS 228 39 [zR a0, zI a1, zI a2, zI a3, zI a4, zI a5, zI a6, u7, u8] [zI s0] sh pp mm Q ↔ zS 228 40 [zR a0, zI a1, zI a2, zI a3, zI a4, zI a5, zI a6, zU, zU] [zI 3, zI s0] sh pp mm Q := s_go cM_bendsOn_39 cM_bendsOn_40 rfl rfl
theorem rM_bendsOn_40 {a0 : Nat} {a1 a2 a3 a4 a5 a6 s0 s1 : Int} {u7 u8 : zV} (hz : s0 ≠ 0) : zS 228 40 [zR a0, zI a1, zI a2, zI a3, zI a4, zI a5, zI a6, u7, u8] [zI s0, zI s1] sh pp mm Q ↔ zS 228 41 [zR a0, zI a1, zI a2, zI a3, zI a4, zI a5, zI a6, zU, zU] [zI (s1.tmod s0)] sh pp mm Q := s_go cM_bendsOn_40 cM_bendsOn_41 (if_neg hz) rfl
theorem rM_bendsOn_41 {a0 : Nat} {a1 a2 a3 a4 a5 a6 s0 : Int} {u7 u8 : zV} : zS 228 41 [zR a0, zI a1, zI a2, zI a3, zI a4, zI a5, zI a6, u7, u8] [zI s0] sh pp mm Q ↔ zS 228 42 [zR a0, zI a1, zI a2, zI a3, zI a4, zI a5, zI a6, zU, zU] [zI 1, zI s0] sh pp mm Q := s_go cM_bendsOn_41 cM_bendsOn_42 rfl rfl
theorem rM_bendsOn_42 {a0 : Nat} {a1 a2 a3 a4 a5 a6 s0 s1 : Int} {u7 u8 : zV} : zS 228 42 [zR a0, zI a1, zI a2, zI a3, zI a4, zI a5, zI a6, u7, u8] [zI s0, zI s1] sh pp mm Q ↔ zS 228 43 [zR a0, zI a1, zI a2, zI a3, zI a4, zI a5, zI a6, zU, zU] [zI (zw32 (s1 - s0))] sh pp mm Q := s_go cM_bendsOn_42 cM_bendsOn_43 rfl rfl
theorem rM_bendsOn_43 {a0 : Nat} {a1 a2 a3 a4 a5 a6 s0 : Int} {u7 u8 : zV} : zS 228 43 [zR a0, zI a1, zI a2, zI a3, zI a4, zI a5, zI a6, u7, u8] [zI s0] sh pp mm Q ↔ zS 228 45 [zR a0, zI a1, zI a2, zI a3, zI a4, zI a5, zI a6, zI s0, zU] [] sh pp mm Q := s_go cM_bendsOn_43 cM_bendsOn_45 rfl rfl
theorem rM_bendsOn_45 {a0 : Nat} {a1 a2 a3 a4 a5 a6 a7 : Int} {u8 : zV} : zS 228 45 [zR a0, zI a1, zI a2, zI a3, zI a4, zI a5, zI a6, zI a7, u8] [] sh pp mm Q ↔ zS 228 46 [zR a0, zI a1, zI a2, zI a3, zI a4, zI a5, zI a6, zI a7, zU] [zR a0] sh pp mm Q := s_go cM_bendsOn_45 cM_bendsOn_46 rfl rfl
theorem rM_bendsOn_46 {a0 s0 : Nat} {a1 a2 a3 a4 a5 a6 a7 : Int} {u8 : zV} : zS 228 46 [zR a0, zI a1, zI a2, zI a3, zI a4, zI a5, zI a6, zI a7, u8] [zR s0] sh pp mm Q ↔ zS 228 47 [zR a0, zI a1, zI a2, zI a3, zI a4, zI a5, zI a6, zI a7, zU] [zI a3, zR s0] sh pp mm Q := s_go cM_bendsOn_46 cM_bendsOn_47 rfl rfl
theorem rM_bendsOn_47 {a0 s1 : Nat} {a1 a2 a3 a4 a5 a6 a7 s0 : Int} {u8 : zV} : zS 228 47 [zR a0, zI a1, zI a2, zI a3, zI a4, zI a5, zI a6, zI a7, u8] [zI s0, zR s1] sh pp mm Q ↔ zS 228 48 [zR a0, zI a1, zI a2, zI a3, zI a4, zI a5, zI a6, zI a7, zU] [zR a0, zI s0, zR s1] sh pp mm Q := s_go cM_bendsOn_47 cM_bendsOn_48 rfl rfl
theorem rM_bendsOn_48 {a0 s0 s2 : Nat} {a1 a2 a3 a4 a5 a6 a7 s1 : Int} {u8 : zV} (hk : zKd sh s0 = 12) : zS 228 48 [zR a0, zI a1, zI a2, zI a3, zI a4, zI a5, zI a6, zI a7, u8] [zR s0, zI s1, zR s2] sh pp mm Q ↔ zS 228 51 [zR a0, zI a1, zI a2, zI a3, zI a4, zI a5, zI a6, zI a7, zU] [zR (pp s0 30), zI s1, zR s2] sh pp mm Q := s_go cM_bendsOn_48 cM_bendsOn_51 (if_pos hk) rfl
theorem rM_bendsOn_51 {a0 s0 s2 : Nat} {a1 a2 a3 a4 a5 a6 a7 s1 : Int} {u8 : zV} : zS 228 51 [zR a0, zI a1, zI a2, zI a3, zI a4, zI a5, zI a6, zI a7, u8] [zR s0, zI s1, zR s2] sh pp mm Q ↔ zS 228 52 [zR a0, zI a1, zI a2, zI a3, zI a4, zI a5, zI a6, zI a7, zU] [zI a1, zR s0, zI s1, zR s2] sh pp mm Q := s_go cM_bendsOn_51 cM_bendsOn_52 rfl rfl
theorem rM_bendsOn_52 {a0 s1 s3 : Nat} {a1 a2 a3 a4 a5 a6 a7 s0 s2 : Int} {u8 : zV} (hk : zKd sh s1 = 20 ∨ zKd sh s1 = 30) (h0 : 0 ≤ s0) (h1 : s0 < zLn sh s1) : zS 228 52 [zR a0, zI a1, zI a2, zI a3, zI a4, zI a5, zI a6, zI a7, u8] [zI s0, zR s1, zI s2, zR s3] sh pp mm Q ↔ zS 228 53 [zR a0, zI a1, zI a2, zI a3, zI a4, zI a5, zI a6, zI a7, zU] [zI (mm s1 s0), zI s2, zR s3] sh pp mm Q := s_go cM_bendsOn_52 cM_bendsOn_53 (if_pos ⟨hk, h0, h1⟩) rfl
theorem rM_bendsOn_53 {a0 s2 : Nat} {a1 a2 a3 a4 a5 a6 a7 s0 s1 : Int} {u8 : zV} : zS 228 53 [zR a0, zI a1, zI a2, zI a3, zI a4, zI a5, zI a6, zI a7, u8] [zI s0, zI s1, zR s2] sh pp mm Q ↔ zS 228 55 [zR a0, zI a1, zI a2, zI a3, zI a4, zI a5, zI a6, zI a7, zU] [zI a6, zI s0, zI s1, zR s2] sh pp mm Q := s_go cM_bendsOn_53 cM_bendsOn_55 rfl rfl
theorem rM_bendsOn_55 {a0 s3 : Nat} {a1 a2 a3 a4 a5 a6 a7 s0 s1 s2 : Int} {u8 : zV} (hk : zKd sh s3 = 12) : zS 228 55 [zR a0, zI a1, zI a2, zI a3, zI a4, zI a5, zI a6, zI a7, u8] [zI s0, zI s1, zI s2, zR s3] sh pp mm Q ↔ zS 227 0 [zR s3, zI s2, zI s1, zI s0] [] sh pp mm (fun v sh pp mm => zS 228 58 [zR a0, zI a1, zI a2, zI a3, zI a4, zI a5, zI a6, zI a7, zU] (zPush v []) sh pp mm Q) := s_call cM_bendsOn_55 cM_bendsOn_58 ((if_pos hk).trans rfl) rfl
theorem rM_bendsOn_58 {a0 : Nat} {a1 a2 a3 a4 a5 a6 a7 s0 : Int} {u8 : zV} : zS 228 58 [zR a0, zI a1, zI a2, zI a3, zI a4, zI a5, zI a6, zI a7, u8] [zI s0] sh pp mm Q ↔ zS 191 0 [zI s0] [] sh pp mm (fun v sh pp mm => zS 228 61 [zR a0, zI a1, zI a2, zI a3, zI a4, zI a5, zI a6, zI a7, zU] (zPush v []) sh pp mm Q) := s_call cM_bendsOn_58 cM_bendsOn_61 rfl rfl
theorem rM_bendsOn_61 {a0 : Nat} {a1 a2 a3 a4 a5 a6 a7 s0 : Int} {u8 : zV} : zS 228 61 [zR a0, zI a1, zI a2, zI a3, zI a4, zI a5, zI a6, zI a7, u8] [zI s0] sh pp mm Q ↔ zS 228 63 [zR a0, zI a1, zI a2, zI a3, zI a4, zI a5, zI a6, zI a7, zI s0] [] sh pp mm Q := s_go cM_bendsOn_61 cM_bendsOn_63 rfl rfl
theorem rM_bendsOn_63 {a0 : Nat} {a1 a2 a3 a4 a5 a6 a7 a8 : Int} : zS 228 63 [zR a0, zI a1, zI a2, zI a3, zI a4, zI a5, zI a6, zI a7, zI a8] [] sh pp mm Q ↔ zS 228 65 [zR a0, zI a1, zI a2, zI a3, zU, zI a5, zI a6, zI a7, zI a8] [zI a4] sh pp mm Q := s_go cM_bendsOn_63 cM_bendsOn_65 rfl rfl
theorem rM_bendsOn_65 {a0 : Nat} {a1 a2 a3 a5 a6 a7 a8 s0 : Int} {u4 : zV} : zS 228 65 [zR a0, zI a1, zI a2, zI a3, u4, zI a5, zI a6, zI a7, zI a8] [zI s0] sh pp mm Q ↔ zS 228 67 [zR a0, zI a1, zI a2, zI a3, zU, zI a5, zI a6, zI a7, zI a8] [zI a8, zI s0] sh pp mm Q := s_go cM_bendsOn_65 cM_bendsOn_67 rfl rfl
theorem rM_bendsOn_67 {a0 : Nat} {a1 a2 a3 a5 a6 a7 a8 s0 s1 : Int} {u4 : zV} : zS 228 67 [zR a0, zI a1, zI a2, zI a3, u4, zI a5, zI a6, zI a7, zI a8] [zI s0, zI s1] sh pp mm Q ↔ (s0 = 0 → zS 228 86 [zR a0, zI a1, zI a2, zI a3, zU, zI a5, zI a6, zI a7, zI a8] [zI s1] sh pp mm Q) ∧ (¬ s0 = 0 → zS 228 70 [zR a0, zI a1, zI a2, zI a3, zU, zI a5, zI a6, zI a7, zI a8] [zI s1] sh pp mm Q) := s_if cM_bendsOn_67 cM_bendsOn_86 cM_bendsOn_70 rfl rfl rfl
theorem rM_bendsOn_70 {a0 : Nat} {a1 a2 a3 a5 a6 a7 a8 s0 : Int} {u4 : zV} : zS 228 70 [zR a0, zI a1, zI a2, zI a3, u4, zI a5, zI a6, zI a7, zI a8] [zI s0] sh pp mm Q ↔ zS 228 72 [zR a0, zI a1, zI a2, zI a3, zU, zI a5, zI a6, zI a7, zI a8] [zI a7, zI s0] sh pp mm Q := s_go cM_bendsOn_70 cM_bendsOn_72 rfl rfl
theorem rM_bendsOn_72 {a0 : Nat} {a1 a2 a3 a5 a6 a7 a8 s0 s1 : Int} {u4 : zV} : zS 228 72 [zR a0, zI a1, zI a2, zI a3, u4, zI a5, zI a6, zI a7, zI a8] [zI s0, zI s1] sh pp mm Q ↔ (s0 = 0 → zS 228 86 [zR a0, zI a1, zI a2, zI a3, zU, zI a5, zI a6, zI a7, zI a8] [zI s1] sh pp mm Q) ∧ (¬ s0 = 0 → zS 228 75 [zR a0, zI a1, zI a2, zI a3, zU, zI a5, zI a6, zI a7, zI a8] [zI s1] sh pp mm Q) := s_if cM_bendsOn_72 cM_bendsOn_86 cM_bendsOn_75 rfl rfl rfl
theorem rM_bendsOn_75 {a0 : Nat} {a1 a2 a3 a5 a6 a7 a8 s0 : Int} {u4 : zV} : zS 228 75 [zR a0, zI a1, zI a2, zI a3, u4, zI a5, zI a6, zI a7, zI a8] [zI s0] sh pp mm Q ↔ zS 228 77 [zR a0, zI a1, zI a2, zI a3, zU, zI a5, zI a6, zI a7, zI a8] [zI a8, zI s0] sh pp mm Q := s_go cM_bendsOn_75 cM_bendsOn_77 rfl rfl
theorem rM_bendsOn_77 {a0 : Nat} {a1 a2 a3 a5 a6 a7 a8 s0 s1 : Int} {u4 : zV} : zS 228 77 [zR a0, zI a1, zI a2, zI a3, u4, zI a5, zI a6, zI a7, zI a8] [zI s0, zI s1] sh pp mm Q ↔ zS 228 79 [zR a0, zI a1, zI a2, zI a3, zU, zI a5, zI a6, zI a7, zI a8] [zI a7, zI s0, zI s1] sh pp mm Q := s_go cM_bendsOn_77 cM_bendsOn_79 rfl rfl
theorem rM_bendsOn_79 {a0 : Nat} {a1 a2 a3 a5 a6 a7 a8 s0 s1 s2 : Int} {u4 : zV} : zS 228 79 [zR a0, zI a1, zI a2, zI a3, u4, zI a5, zI a6, zI a7, zI a8] [zI s0, zI s1, zI s2] sh pp mm Q ↔ (s1 = s0 → zS 228 86 [zR a0, zI a1, zI a2, zI a3, zU, zI a5, zI a6, zI a7, zI a8] [zI s2] sh pp mm Q) ∧ (¬ s1 = s0 → zS 228 82 [zR a0, zI a1, zI a2, zI a3, zU, zI a5, zI a6, zI a7, zI a8] [zI s2] sh pp mm Q) := s_if cM_bendsOn_79 cM_bendsOn_86 cM_bendsOn_82 rfl rfl rfl
theorem rM_bendsOn_82 {a0 : Nat} {a1 a2 a3 a5 a6 a7 a8 s0 : Int} {u4 : zV} : zS 228 82 [zR a0, zI a1, zI a2, zI a3, u4, zI a5, zI a6, zI a7, zI a8] [zI s0] sh pp mm Q ↔ zS 228 83 [zR a0, zI a1, zI a2, zI a3, zU, zI a5, zI a6, zI a7, zI a8] [zI 1, zI s0] sh pp mm Q := s_go cM_bendsOn_82 cM_bendsOn_83 rfl rfl
theorem rM_bendsOn_83 {a0 : Nat} {a1 a2 a3 a5 a6 a7 a8 s0 s1 : Int} {u4 : zV} : zS 228 83 [zR a0, zI a1, zI a2, zI a3, u4, zI a5, zI a6, zI a7, zI a8] [zI s0, zI s1] sh pp mm Q ↔ zS 228 87 [zR a0, zI a1, zI a2, zI a3, zU, zI a5, zI a6, zI a7, zI a8] [zI s0, zI s1] sh pp mm Q := s_go cM_bendsOn_83 cM_bendsOn_87 rfl rfl
theorem rM_bendsOn_86 {a0 : Nat} {a1 a2 a3 a5 a6 a7 a8 s0 : Int} {u4 : zV} : zS 228 86 [zR a0, zI a1, zI a2, zI a3, u4, zI a5, zI a6, zI a7, zI a8] [zI s0] sh pp mm Q ↔ zS 228 87 [zR a0, zI a1, zI a2, zI a3, zU, zI a5, zI a6, zI a7, zI a8] [zI 0, zI s0] sh pp mm Q := s_go cM_bendsOn_86 cM_bendsOn_87 rfl rfl
theorem rM_bendsOn_87 {a0 : Nat} {a1 a2 a3 a5 a6 a7 a8 s0 s1 : Int} {u4 : zV} : zS 228 87 [zR a0, zI a1, zI a2, zI a3, u4, zI a5, zI a6, zI a7, zI a8] [zI s0, zI s1] sh pp mm Q ↔ zS 228 88 [zR a0, zI a1, zI a2, zI a3, zU, zI a5, zI a6, zI a7, zI a8] [zI (zw32 (s1 + s0))] sh pp mm Q := s_go cM_bendsOn_87 cM_bendsOn_88 rfl rfl
theorem rM_bendsOn_88 {a0 : Nat} {a1 a2 a3 a5 a6 a7 a8 s0 : Int} {u4 : zV} : zS 228 88 [zR a0, zI a1, zI a2, zI a3, u4, zI a5, zI a6, zI a7, zI a8] [zI s0] sh pp mm Q ↔ zS 228 90 [zR a0, zI a1, zI a2, zI a3, zI s0, zI a5, zI a6, zI a7, zI a8] [] sh pp mm Q := s_go cM_bendsOn_88 cM_bendsOn_90 rfl rfl
theorem rM_bendsOn_90 {a0 : Nat} {a1 a2 a3 a4 a5 a6 a7 a8 : Int} : zS 228 90 [zR a0, zI a1, zI a2, zI a3, zI a4, zI a5, zI a6, zI a7, zI a8] [] sh pp mm Q ↔ zS 228 91 [zR a0, zI a1, zI a2, zI a3, zI a4, zI a5, zI a6, zI a7, zI a8] [zI 3] sh pp mm Q := s_go cM_bendsOn_90 cM_bendsOn_91 rfl rfl
theorem rM_bendsOn_91 {a0 : Nat} {a1 a2 a3 a4 a5 a6 a7 a8 s0 : Int} : zS 228 91 [zR a0, zI a1, zI a2, zI a3, zI a4, zI a5, zI a6, zI a7, zI a8] [zI s0] sh pp mm Q ↔ zS 228 93 [zR a0, zI a1, zI a2, zI a3, zI a4, zU, zI a6, zI a7, zI a8] [zI a5, zI s0] sh pp mm Q := s_go cM_bendsOn_91 cM_bendsOn_93 rfl rfl
theorem rM_bendsOn_93 {a0 : Nat} {a1 a2 a3 a4 a6 a7 a8 s0 s1 : Int} {u5 : zV} : zS 228 93 [zR a0, zI a1, zI a2, zI a3, zI a4, u5, zI a6, zI a7, zI a8] [zI s0, zI s1] sh pp mm Q ↔ zS 228 94 [zR a0, zI a1, zI a2, zI a3, zI a4, zU, zI a6, zI a7, zI a8] [zI (zw32 (s1 * s0))] sh pp mm Q := s_go cM_bendsOn_93 cM_bendsOn_94 rfl rfl
theorem rM_bendsOn_94 {a0 : Nat} {a1 a2 a3 a4 a6 a7 a8 s0 : Int} {u5 : zV} : zS 228 94 [zR a0, zI a1, zI a2, zI a3, zI a4, u5, zI a6, zI a7, zI a8] [zI s0] sh pp mm Q ↔ zS 228 96 [zR a0, zI a1, zI a2, zI a3, zI a4, zU, zI a6, zI a7, zI a8] [zI a8, zI s0] sh pp mm Q := s_go cM_bendsOn_94 cM_bendsOn_96 rfl rfl
theorem rM_bendsOn_96 {a0 : Nat} {a1 a2 a3 a4 a6 a7 a8 s0 s1 : Int} {u5 : zV} : zS 228 96 [zR a0, zI a1, zI a2, zI a3, zI a4, u5, zI a6, zI a7, zI a8] [zI s0, zI s1] sh pp mm Q ↔ (s0 = 0 → zS 228 99 [zR a0, zI a1, zI a2, zI a3, zI a4, zU, zI a6, zI a7, zU] [zI s1] sh pp mm Q) ∧ (¬ s0 = 0 → zS 228 104 [zR a0, zI a1, zI a2, zI a3, zI a4, zU, zI a6, zU, zI a8] [zI s1] sh pp mm Q) := s_ifn cM_bendsOn_96 cM_bendsOn_99 cM_bendsOn_104 rfl rfl rfl
theorem rM_bendsOn_99 {a0 : Nat} {a1 a2 a3 a4 a6 a7 s0 : Int} {u5 u8 : zV} : zS 228 99 [zR a0, zI a1, zI a2, zI a3, zI a4, u5, zI a6, zI a7, u8] [zI s0] sh pp mm Q ↔ zS 228 101 [zR a0, zI a1, zI a2, zI a3, zI a4, zU, zI a6, zU, zU] [zI a7, zI s0] sh pp mm Q := s_go cM_bendsOn_99 cM_bendsOn_101 rfl rfl
theorem rM_bendsOn_101 {a0 : Nat} {a1 a2 a3 a4 a6 s0 s1 : Int} {u5 u7 u8 : zV} : zS 228 101 [zR a0, zI a1, zI a2, zI a3, zI a4, u5, zI a6, u7, u8] [zI s0, zI s1] sh pp mm Q ↔ zS 228 106 [zR a0, zI a1, zI a2, zI a3, zI a4, zU, zI a6, zU, zU] [zI s0, zI s1] sh pp mm Q := s_go cM_bendsOn_101 cM_bendsOn_106 rfl rfl
theorem rM_bendsOn_104 {a0 : Nat} {a1 a2 a3 a4 a6 a8 s0 : Int} {u5 u7 : zV} : zS 228 104 [zR a0, zI a1, zI a2, zI a3, zI a4, u5, zI a6, u7, zI a8] [zI s0] sh pp mm Q ↔ zS 228 106 [zR a0, zI a1, zI a2, zI a3, zI a4, zU, zI a6, zU, zU] [zI a8, zI s0] sh pp mm Q := s_go cM_bendsOn_104 cM_bendsOn_106 rfl rfl
theorem rM_bendsOn_106 {a0 : Nat} {a1 a2 a3 a4 a6 s0 s1 : Int} {u5 u7 u8 : zV} : zS 228 106 [zR a0, zI a1, zI a2, zI a3, zI a4, u5, zI a6, u7, u8] [zI s0, zI s1] sh pp mm Q ↔ zS 228 107 [zR a0, zI a1, zI a2, zI a3, zI a4, zU, zI a6, zU, zU] [zI (zw32 (s1 + s0))] sh pp mm Q := s_go cM_bendsOn_106 cM_bendsOn_107 rfl rfl
theorem rM_bendsOn_107 {a0 : Nat} {a1 a2 a3 a4 a6 s0 : Int} {u5 u7 u8 : zV} : zS 228 107 [zR a0, zI a1, zI a2, zI a3, zI a4, u5, zI a6, u7, u8] [zI s0] sh pp mm Q ↔ zS 228 108 [zR a0, zI a1, zI a2, zI a3, zI a4, zU, zI a6, zU, zU] [zI 1, zI s0] sh pp mm Q := s_go cM_bendsOn_107 cM_bendsOn_108 rfl rfl
theorem rM_bendsOn_108 {a0 : Nat} {a1 a2 a3 a4 a6 s0 s1 : Int} {u5 u7 u8 : zV} : zS 228 108 [zR a0, zI a1, zI a2, zI a3, zI a4, u5, zI a6, u7, u8] [zI s0, zI s1] sh pp mm Q ↔ zS 228 109 [zR a0, zI a1, zI a2, zI a3, zI a4, zU, zI a6, zU, zU] [zI (zw32 (s1 + s0))] sh pp mm Q := s_go cM_bendsOn_108 cM_bendsOn_109 rfl rfl
theorem rM_bendsOn_109 {a0 : Nat} {a1 a2 a3 a4 a6 s0 : Int} {u5 u7 u8 : zV} : zS 228 109 [zR a0, zI a1, zI a2, zI a3, zI a4, u5, zI a6, u7, u8] [zI s0] sh pp mm Q ↔ zS 228 111 [zR a0, zI a1, zI a2, zI a3, zI a4, zI s0, zI a6, zU, zU] [] sh pp mm Q := s_go cM_bendsOn_109 cM_bendsOn_111 rfl rfl
theorem rM_bendsOn_111 {a0 : Nat} {a1 a2 a3 a4 a5 a6 : Int} {u7 u8 : zV} : zS 228 111 [zR a0, zI a1, zI a2, zI a3, zI a4, zI a5, zI a6, u7, u8] [] sh pp mm Q ↔ zS 228 114 [zR a0, zI a1, zI a2, zI a3, zI a4, zI a5, zI (zw32 (a6 + 1)), zU, zU] [] sh pp mm Q := s_go cM_bendsOn_111 cM_bendsOn_114 rfl rfl
theorem rM_bendsOn_114 {a0 : Nat} {a1 a2 a3 a4 a5 a6 : Int} {u7 u8 : zV} : zS 228 114 [zR a0, zI a1, zI a2, zI a3, zI a4, zI a5, zI a6, u7, u8] [] sh pp mm Q ↔ zS 228 19 [zR a0, zI a1, zI a2, zI a3, zI a4, zI a5, zI a6, zU, zU] [] sh pp mm Q := s_go cM_bendsOn_114 cM_bendsOn_19 rfl rfl
theorem rM_bendsOn_117 {a0 : Nat} {a1 a3 a4 a5 : Int} {u2 u6 u7 u8 : zV} : zS 228 117 [zR a0, zI a1, u2, zI a3, zI a4, zI a5, u6, u7, u8] [] sh pp mm Q ↔ zS 228 119 [zR a0, zI a1, zU, zI a3, zI a4, zI a5, zU, zU, zU] [zI 9] sh pp mm Q := s_go cM_bendsOn_117 cM_bendsOn_119 rfl rfl
theorem rM_bendsOn_119 {a0 : Nat} {a1 a3 a4 a5 s0 : Int} {u2 u6 u7 u8 : zV} : zS 228 119 [zR a0, zI a1, u2, zI a3, zI a4, zI a5, u6, u7, u8] [zI s0] sh pp mm Q ↔ zS 228 120 [zR a0, zU, zU, zI a3, zI a4, zI a5, zU, zU, zU] [zI a1, zI s0] sh pp mm Q := s_go cM_bendsOn_119 cM_bendsOn_120 rfl rfl
theorem rM_bendsOn_120 {a0 : Nat} {a3 a4 a5 s0 s1 : Int} {u1 u2 u6 u7 u8 : zV} : zS 228 120 [zR a0, u1, u2, zI a3, zI a4, zI a5, u6, u7, u8] [zI s0, zI s1] sh pp mm Q ↔ zS 228 121 [zR a0, zU, zU, zI a3, zI a4, zI a5, zU, zU, zU] [zI 1, zI s0, zI s1] sh pp mm Q := s_go cM_bendsOn_120 cM_bendsOn_121 rfl rfl
theorem rM_bendsOn_121 {a0 : Nat} {a3 a4 a5 s0 s1 s2 : Int} {u1 u2 u6 u7 u8 : zV} : zS 228 121 [zR a0, u1, u2, zI a3, zI a4, zI a5, u6, u7, u8] [zI s0, zI s1, zI s2] sh pp mm Q ↔ zS 228 122 [zR a0, zU, zU, zU, zI a4, zI a5, zU, zU, zU] [zI a3, zI s0, zI s1, zI s2] sh pp mm Q := s_go cM_bendsOn_121 cM_bendsOn_122 rfl rfl
theorem rM_bendsOn_122 {a0 : Nat} {a4 a5 s0 s1 s2 s3 : Int} {u1 u2 u3 u6 u7 u8 : zV} : zS 228 122 [zR a0, u1, u2, u3, zI a4, zI a5, u6, u7, u8] [zI s0, zI s1, zI s2, zI s3] sh pp mm Q ↔ zS 228 123 [zR a0, zU, zU, zU, zI a4, zI a5, zU, zU, zU] [zI (zshl s1 s0), zI s2, zI s3] sh pp mm Q := s_go cM_bendsOn_122 cM_bendsOn_123 rfl rfl
theorem rM_bendsOn_123 {a0 : Nat} {a4 a5 s0 s1 s2 : Int} {u1 u2 u3 u6 u7 u8 : zV} : zS 228 123 [zR a0, u1, u2, u3, zI a4, zI a5, u6, u7, u8] [zI s0, zI s1, zI s2] sh pp mm Q ↔ zS 228 124 [zR a0, zU, zU, zU, zI a4, zI a5, zU, zU, zU] [zI (zor s1 s0), zI s2] sh pp mm Q := s_go cM_bendsOn_123 cM_bendsOn_124 rfl rfl
theorem rM_bendsOn_124 {a0 : Nat} {a4 a5 s0 s1 : Int} {u1 u2 u3 u6 u7 u8 : zV} : zS 228 124 [zR a0, u1, u2, u3, zI a4, zI a5, u6, u7, u8] [zI s0, zI s1] sh pp mm Q ↔ zS 228 125 [zR a0, zU, zU, zU, zI a4, zI a5, zU, zU, zU] [zI (zw32 (s1 * s0))] sh pp mm Q := s_go cM_bendsOn_124 cM_bendsOn_125 rfl rfl
theorem rM_bendsOn_125 {a0 : Nat} {a4 a5 s0 : Int} {u1 u2 u3 u6 u7 u8 : zV} : zS 228 125 [zR a0, u1, u2, u3, zI a4, zI a5, u6, u7, u8] [zI s0] sh pp mm Q ↔ zS 228 127 [zR a0, zU, zU, zU, zI a4, zU, zU, zU, zU] [zI a5, zI s0] sh pp mm Q := s_go cM_bendsOn_125 cM_bendsOn_127 rfl rfl
theorem rM_bendsOn_127 {a0 : Nat} {a4 s0 s1 : Int} {u1 u2 u3 u5 u6 u7 u8 : zV} : zS 228 127 [zR a0, u1, u2, u3, zI a4, u5, u6, u7, u8] [zI s0, zI s1] sh pp mm Q ↔ zS 228 128 [zR a0, zU, zU, zU, zI a4, zU, zU, zU, zU] [zI (zw32 (s1 + s0))] sh pp mm Q := s_go cM_bendsOn_127 cM_bendsOn_128 rfl rfl
theorem rM_bendsOn_128 {a0 : Nat} {a4 s0 : Int} {u1 u2 u3 u5 u6 u7 u8 : zV} : zS 228 128 [zR a0, u1, u2, u3, zI a4, u5, u6, u7, u8] [zI s0] sh pp mm Q ↔ zS 228 130 [zR a0, zU, zU, zU, zI a4, zU, zI s0, zU, zU] [] sh pp mm Q := s_go cM_bendsOn_128 cM_bendsOn_130 rfl rfl
theorem rM_bendsOn_130 {a0 : Nat} {a4 a6 : Int} {u1 u2 u3 u5 u7 u8 : zV} : zS 228 130 [zR a0, u1, u2, u3, zI a4, u5, zI a6, u7, u8] [] sh pp mm Q ↔ zS 228 131 [zR a0, zU, zU, zU, zI a4, zU, zI a6, zU, zU] [zR a0] sh pp mm Q := s_go cM_bendsOn_130 cM_bendsOn_131 rfl rfl
theorem rM_bendsOn_131 {a0 s0 : Nat} {a4 a6 : Int} {u1 u2 u3 u5 u7 u8 : zV} (hk : zKd sh s0 = 12) : zS 228 131 [zR a0, u1, u2, u3, zI a4, u5, zI a6, u7, u8] [zR s0] sh pp mm Q ↔ zS 228 134 [zR a0, zU, zU, zU, zI a4, zU, zI a6, zU, zU] [zR (pp s0 34)] sh pp mm Q := s_go cM_bendsOn_131 cM_bendsOn_134 (if_pos hk) rfl
theorem rM_bendsOn_134 {a0 s0 : Nat} {a4 a6 : Int} {u1 u2 u3 u5 u7 u8 : zV} : zS 228 134 [zR a0, u1, u2, u3, zI a4, u5, zI a6, u7, u8] [zR s0] sh pp mm Q ↔ zS 228 136 [zR a0, zU, zU, zU, zI a4, zU, zI a6, zU, zU] [zI a6, zR s0] sh pp mm Q := s_go cM_bendsOn_134 cM_bendsOn_136 rfl rfl
theorem rM_bendsOn_136 {a0 s1 : Nat} {a4 a6 s0 : Int} {u1 u2 u3 u5 u7 u8 : zV} : zS 228 136 [zR a0, u1, u2, u3, zI a4, u5, zI a6, u7, u8] [zI s0, zR s1] sh pp mm Q ↔ zS 228 138 [zR a0, zU, zU, zU, zI a4, zU, zI a6, zU, zU] [zI a4, zI s0, zR s1] sh pp mm Q := s_go cM_bendsOn_136 cM_bendsOn_138 rfl rfl
theorem rM_bendsOn_138 {a0 s2 : Nat} {a4 a6 s0 s1 : Int} {u1 u2 u3 u5 u7 u8 : zV} : zS 228 138 [zR a0, u1, u2, u3, zI a4, u5, zI a6, u7, u8] [zI s0, zI s1, zR s2] sh pp mm Q ↔ zS 228 139 [zR a0, zU, zU, zU, zI a4, zU, zI a6, zU, zU] [zR a0, zI s0, zI s1, zR s2] sh pp mm Q := s_go cM_bendsOn_138 cM_bendsOn_139 rfl rfl
theorem rM_bendsOn_139 {a0 s0 s3 : Nat} {a4 a6 s1 s2 : Int} {u1 u2 u3 u5 u7 u8 : zV} (hk : zKd sh s0 = 12) : zS 228 139 [zR a0, u1, u2, u3, zI a4, u5, zI a6, u7, u8] [zR s0, zI s1, zI s2, zR s3] sh pp mm Q ↔ zS 228 142 [zR a0, zU, zU, zU, zI a4, zU, zI a6, zU, zU] [zR (pp s0 34), zI s1, zI s2, zR s3] sh pp mm Q := s_go cM_bendsOn_139 cM_bendsOn_142 (if_pos hk) rfl
theorem rM_bendsOn_142 {a0 s0 s3 : Nat} {a4 a6 s1 s2 : Int} {u1 u2 u3 u5 u7 u8 : zV} : zS 228 142 [zR a0, u1, u2, u3, zI a4, u5, zI a6, u7, u8] [zR s0, zI s1, zI s2, zR s3] sh pp mm Q ↔ zS 228 144 [zR a0, zU, zU, zU, zI a4, zU, zI a6, zU, zU] [zI a6, zR s0, zI s1, zI s2, zR s3] sh pp mm Q := s_go cM_bendsOn_142 cM_bendsOn_144 rfl rfl
theorem rM_bendsOn_144 {a0 s1 s4 : Nat} {a4 a6 s0 s2 s3 : Int} {u1 u2 u3 u5 u7 u8 : zV} (hk : zKd sh s1 = 20 ∨ zKd sh s1 = 30) (h0 : 0 ≤ s0) (h1 : s0 < zLn sh s1) : zS 228 144 [zR a0, u1, u2, u3, zI a4, u5, zI a6, u7, u8] [zI s0, zR s1, zI s2, zI s3, zR s4] sh pp mm Q ↔ zS 228 145 [zR a0, zU, zU, zU, zI a4, zU, zI a6, zU, zU] [zI (mm s1 s0), zI s2, zI s3, zR s4] sh pp mm Q := s_go cM_bendsOn_144 cM_bendsOn_145 (if_pos ⟨hk, h0, h1⟩) rfl
theorem rM_bendsOn_145 {a0 s3 : Nat} {a4 a6 s0 s1 s2 : Int} {u1 u2 u3 u5 u7 u8 : zV} : zS 228 145 [zR a0, u1, u2, u3, zI a4, u5, zI a6, u7, u8] [zI s0, zI s1, zI s2, zR s3] sh pp mm Q ↔ (s1 < s0 → zS 228 148 [zU, zU, zU, zU, zI a4, zU, zU, zU, zU] [zI s2, zR s3] sh pp mm Q) ∧ (¬ s1 < s0 → zS 228 153 [zR a0, zU, zU, zU, zU, zU, zI a6, zU, zU] [zI s2, zR s3] sh pp mm Q) := s_ifn cM_bendsOn_145 cM_bendsOn_148 cM_bendsOn_153 rfl rfl rfl
theorem rM_bendsOn_148 {s1 : Nat} {a4 s0 : Int} {u0 u1 u2 u3 u5 u6 u7 u8 : zV} : zS 228 148 [u0, u1, u2, u3, zI a4, u5, u6, u7, u8] [zI s0, zR s1] sh pp mm Q ↔ zS 228 150 [zU, zU, zU, zU, zU, zU, zU, zU, zU] [zI a4, zI s0, zR s1] sh pp mm Q := s_go cM_bendsOn_148 cM_bendsOn_150 rfl rfl
theorem rM_bendsOn_150 {s2 : Nat} {s0 s1 : Int} {u0 u1 u2 u3 u4 u5 u6 u7 u8 : zV} : zS 228 150 [u0, u1, u2, u3, u4, u5, u6, u7, u8] [zI s0, zI s1, zR s2] sh pp mm Q ↔ zS 228 160 [zU, zU, zU, zU, zU, zU, zU, zU, zU] [zI s0, zI s1, zR s2] sh pp mm Q := s_go cM_bendsOn_150 cM_bendsOn_160 rfl rfl
theorem rM_bendsOn_153 {a0 s1 : Nat} {a6 s0 : Int} {u1 u2 u3 u4 u5 u7 u8 : zV} : zS 228 153 [zR a0, u1, u2, u3, u4, u5, zI a6, u7, u8] [zI s0, zR s1] sh pp mm Q ↔ zS 228 154 [zU, zU, zU, zU, zU, zU, zI a6, zU, zU] [zR a0, zI s0, zR s1] sh pp mm Q := s_go cM_bendsOn_153 cM_bendsOn_154 rfl rfl
theorem rM_bendsOn_154 {s0 s2 : Nat} {a6 s1 : Int} {u0 u1 u2 u3 u4 u5 u7 u8 : zV} (hk : zKd sh s0 = 12) : zS 228 154 [u0, u1, u2, u3, u4, u5, zI a6, u7, u8] [zR s0, zI s1, zR s2] sh pp mm Q ↔ zS 228 157 [zU, zU, zU, zU, zU, zU, zI a6, zU, zU] [zR (pp s0 34), zI s1, zR s2] sh pp mm Q := s_go cM_bendsOn_154 cM_bendsOn_157 (if_pos hk) rfl
theorem rM_bendsOn_157 {s0 s2 : Nat} {a6 s1 : Int} {u0 u1 u2 u3 u4 u5 u7 u8 : zV} : zS 228 157 [u0, u1, u2, u3, u4, u5, zI a6, u7, u8] [zR s0, zI s1, zR s2] sh pp mm Q ↔ zS 228 159 [zU, zU, zU, zU, zU, zU, zU, zU, zU] [zI a6, zR s0, zI s1, zR s2] sh pp mm Q := s_go cM_bendsOn_157 cM_bendsOn_159 rfl rfl
theorem rM_bendsOn_159 {s1 s3 : Nat} {s0 s2 : Int} {u0 u1 u2 u3 u4 u5 u6 u7 u8 : zV} (hk : zKd sh s1 = 20 ∨ zKd sh s1 = 30) (h0 : 0 ≤ s0) (h1 : s0 < zLn sh s1) : zS 228 159 [u0, u1, u2, u3, u4, u5, u6, u7, u8] [zI s0, zR s1, zI s2, zR s3] sh pp mm Q ↔ zS 228 160 [zU, zU, zU, zU, zU, zU, zU, zU, zU] [zI (mm s1 s0), zI s2, zR s3] sh pp mm Q := s_go cM_bendsOn_159 cM_bendsOn_160 (if_pos ⟨hk, h0, h1⟩) rfl
theorem rM_bendsOn_160 {s2 : Nat} {s0 s1 : Int} {u0 u1 u2 u3 u4 u5 u6 u7 u8 : zV} (hk : zKd sh s2 = 20) (h0 : 0 ≤ s1) (h1 : s1 < zLn sh s2) : zS 228 160 [u0, u1, u2, u3, u4, u5, u6, u7, u8] [zI s0, zI s1, zR s2] sh pp mm Q ↔ zS 228 161 [zU, zU, zU, zU, zU, zU, zU, zU, zU] [] sh pp (zupd mm s2 s1 s0) Q := s_go cM_bendsOn_160 cM_bendsOn_161 (if_pos ⟨hk, h0, h1, fun h => absurd h (by decide)⟩) rfl
theorem rM_bendsOn_161 {u0 u1 u2 u3 u4 u5 u6 u7 u8 : zV} : zS 228 161 [u0, u1, u2, u3, u4, u5, u6, u7, u8] [] sh pp mm Q ↔ Q zU sh pp mm := s_ret cM_bendsOn_161 rfl
theorem cAM_bendsFrom : ∀ q ∈ zT229, zCode 229 q.1 = some q.2 := zAll (mid := 229) rfl (by decide +kernel)
theorem cAM_bendsFrom_0 : ∀ q ∈ zT229_0, zCode 229 q.1 = some q.2 := fun q h => cAM_bendsFrom q (List.mem_append_left _ h)
theorem cAM_bendsFrom_1 : ∀ q ∈ zT229_1, zCode 229 q.1 = some q.2 := fun q h => cAM_bendsFrom q (List.mem_append_right _ (List.mem_append_left _ h))
theorem cAM_bendsFrom_2 : ∀ q ∈ zT229_2, zCode 229 q.1 = some q.2 := fun q h => cAM_bendsFrom q (List.mem_append_right _ (List.mem_append_right _ (List.mem_append_left _ h)))
theorem cAM_bendsFrom_3 : ∀ q ∈ zT229_3, zCode 229 q.1 = some q.2 := fun q h => cAM_bendsFrom q (List.mem_append_right _ (List.mem_append_right _ (List.mem_append_right _ (List.mem_append_left _ h))))
theorem cAM_bendsFrom_4 : ∀ q ∈ zT229_4, zCode 229 q.1 = some q.2 := fun q h => cAM_bendsFrom q (List.mem_append_right _ (List.mem_append_right _ (List.mem_append_right _ (List.mem_append_right _ (List.mem_append_left _ h)))))
theorem cAM_bendsFrom_5 : ∀ q ∈ zT229_5, zCode 229 q.1 = some q.2 := fun q h => cAM_bendsFrom q (List.mem_append_right _ (List.mem_append_right _ (List.mem_append_right _ (List.mem_append_right _ (List.mem_append_right _ (List.mem_append_left _ h))))))
theorem cAM_bendsFrom_6 : ∀ q ∈ zT229_6, zCode 229 q.1 = some q.2 := fun q h => cAM_bendsFrom q (List.mem_append_right _ (List.mem_append_right _ (List.mem_append_right _ (List.mem_append_right _ (List.mem_append_right _ (List.mem_append_right _ h))))))
theorem cM_bendsFrom_0 : zCode 229 0 = some (.aload_n 0, 1, 0, 0, 0, 0, 3) := cAM_bendsFrom_0 _ (List.mem_of_getElem? (i := 0) rfl)
theorem cM_bendsFrom_1 : zCode 229 1 = some (.iload_n 1, 2, 0, 0, 0, 0, 3) := cAM_bendsFrom_0 _ (List.mem_of_getElem? (i := 1) rfl)
theorem cM_bendsFrom_2 : zCode 229 2 = some (.invokevirtual 318, 5, 222, 1, 5, 12, 1) := cAM_bendsFrom_0 _ (List.mem_of_getElem? (i := 2) rfl)
theorem cM_bendsFrom_5 : zCode 229 5 = some (.iconst 0, 6, 0, 0, 0, 0, 1) := cAM_bendsFrom_0 _ (List.mem_of_getElem? (i := 3) rfl)
theorem cM_bendsFrom_6 : zCode 229 6 = some (.istore_n 2, 7, 0, 0, 0, 0, 1) := cAM_bendsFrom_0 _ (List.mem_of_getElem? (i := 4) rfl)
theorem cM_bendsFrom_7 : zCode 229 7 = some (.iload_n 2, 8, 0, 0, 0, 0, 5) := cAM_bendsFrom_0 _ (List.mem_of_getElem? (i := 5) rfl)
theorem cM_bendsFrom_8 : zCode 229 8 = some (.bipush 9, 10, 0, 0, 0, 0, 5) := cAM_bendsFrom_0 _ (List.mem_of_getElem? (i := 6) rfl)
theorem cM_bendsFrom_10 : zCode 229 10 = some (.aload_n 0, 11, 0, 0, 0, 0, 5) := cAM_bendsFrom_0 _ (List.mem_of_getElem? (i := 7) rfl)
theorem cM_bendsFrom_11 : zCode 229 11 = some (.invokevirtual 300, 14, 215, 0, 1, 12, 5) := cAM_bendsFrom_0 _ (List.mem_of_getElem? (i := 8) rfl)
theorem cM_bendsFrom_14 : zCode 229 14 = some (.iconst 1, 15, 0, 0, 0, 0, 5) := cAM_bendsFrom_0 _ (List.mem_of_getElem? (i := 9) rfl)
theorem cM_bendsFrom_15 : zCode 229 15 = some (.iadd, 16, 0, 0, 0, 0, 5) := cAM_bendsFrom_0 _ (List.mem_of_getElem? (i := 10) rfl)
theorem cM_bendsFrom_16 : zCode 229 16 = some (.imul, 17, 0, 0, 0, 0, 5) := cAM_bendsFrom_0 _ (List.mem_of_getElem? (i := 11) rfl)
theorem cM_bendsFrom_17 : zCode 229 17 = some (.if_icmp .ge 27, 20, 44, 0, 0, 0, 5) := cAM_bendsFrom_0 _ (List.mem_of_getElem? (i := 12) rfl)
theorem cM_bendsFrom_20 : zCode 229 20 = some (.aload_n 0, 21, 0, 0, 0, 0, 5) := cAM_bendsFrom_0 _ (List.mem_of_getElem? (i := 13) rfl)
theorem cM_bendsFrom_21 : zCode 229 21 = some (.getfield 67, 24, 12, 34, 2, 1243, 5) := cAM_bendsFrom_0 _ (List.mem_of_getElem? (i := 14) rfl)
theorem cM_bendsFrom_24 : zCode 229 24 = some (.iload_n 2, 25, 0, 0, 0, 0, 5) := cAM_bendsFrom_0 _ (List.mem_of_getElem? (i := 15) rfl)
theorem cM_bendsFrom_25 : zCode 229 25 = some (.iload_n 2, 26, 0, 0, 0, 0, 5) := cAM_bendsFrom_1 _ (List.mem_of_getElem? (i := 0) rfl)
theorem cM_bendsFrom_26 : zCode 229 26 = some (.iconst 4, 27, 0, 0, 0, 0, 5) := cAM_bendsFrom_1 _ (List.mem_of_getElem? (i := 1) rfl)
theorem cM_bendsFrom_27 : zCode 229 27 = some (.if_icmp .ne 7, 30, 34, 0, 0, 0, 5) := cAM_bendsFrom_1 _ (List.mem_of_getElem? (i := 2) rfl)
theorem cM_bendsFrom_30 : zCode 229 30 = some (.iconst 0, 31, 0, 0, 0, 0, 5) := cAM_bendsFrom_1 _ (List.mem_of_getElem? (i := 3) rfl)
theorem cM_bendsFrom_31 : zCode 229 31 = some (.goto 6, 34, 37, 0, 0, 0, 5) := cAM_bendsFrom_1 _ (List.mem_of_getElem? (i := 4) rfl)
theorem cM_bendsFrom_34 : zCode 229 34 = some (.ldc_w 331, 37, 0, 0, 1577, 1000000, 5) := cAM_bendsFrom_1 _ (List.mem_of_getElem? (i := 5) rfl)
theorem cM_bendsFrom_37 : zCode 229 37 = some (.iastore, 38, 0, 0, 0, 0, 5) := cAM_bendsFrom_1 _ (List.mem_of_getElem? (i := 6) rfl)
theorem cM_bendsFrom_38 : zCode 229 38 = some (.iinc 2 1, 41, 0, 0, 0, 0, 5) := cAM_bendsFrom_1 _ (List.mem_of_getElem? (i := 7) rfl)
theorem cM_bendsFrom_41 : zCode 229 41 = some (.goto (-34), 44, 7, 0, 0, 0, 5) := cAM_bendsFrom_1 _ (List.mem_of_getElem? (i := 8) rfl)
theorem cM_bendsFrom_44 : zCode 229 44 = some (.iconst 0, 45, 0, 0, 0, 0, 1) := cAM_bendsFrom_1 _ (List.mem_of_getElem? (i := 9) rfl)
theorem cM_bendsFrom_45 : zCode 229 45 = some (.istore_n 2, 46, 0, 0, 0, 0, 1) := cAM_bendsFrom_1 _ (List.mem_of_getElem? (i := 10) rfl)
theorem cM_bendsFrom_46 : zCode 229 46 = some (.iload_n 2, 47, 0, 0, 0, 0, 5) := cAM_bendsFrom_1 _ (List.mem_of_getElem? (i := 11) rfl)
theorem cM_bendsFrom_47 : zCode 229 47 = some (.aload_n 0, 48, 0, 0, 0, 0, 5) := cAM_bendsFrom_1 _ (List.mem_of_getElem? (i := 12) rfl)
theorem cM_bendsFrom_48 : zCode 229 48 = some (.invokevirtual 300, 51, 215, 0, 1, 12, 5) := cAM_bendsFrom_1 _ (List.mem_of_getElem? (i := 13) rfl)
theorem cM_bendsFrom_51 : zCode 229 51 = some (.if_icmp .ge 92, 54, 143, 0, 0, 0, 5) := cAM_bendsFrom_1 _ (List.mem_of_getElem? (i := 14) rfl)
theorem cM_bendsFrom_54 : zCode 229 54 = some (.iconst 0, 55, 0, 0, 0, 0, 5) := cAM_bendsFrom_1 _ (List.mem_of_getElem? (i := 15) rfl)
theorem cM_bendsFrom_55 : zCode 229 55 = some (.istore_n 3, 56, 0, 0, 0, 0, 5) := cAM_bendsFrom_2 _ (List.mem_of_getElem? (i := 0) rfl)
theorem cM_bendsFrom_56 : zCode 229 56 = some (.iload_n 3, 57, 0, 0, 0, 0, 13) := cAM_bendsFrom_2 _ (List.mem_of_getElem? (i := 1) rfl)
theorem cM_bendsFrom_57 : zCode 229 57 = some (.bipush 9, 59, 0, 0, 0, 0, 13) := cAM_bendsFrom_2 _ (List.mem_of_getElem? (i := 2) rfl)
theorem cM_bendsFrom_59 : zCode 229 59 = some (.if_icmp .ge 78, 62, 137, 0, 0, 0, 13) := cAM_bendsFrom_2 _ (List.mem_of_getElem? (i := 3) rfl)
theorem cM_bendsFrom_62 : zCode 229 62 = some (.iconst 0, 63, 0, 0, 0, 0, 13) := cAM_bendsFrom_2 _ (List.mem_of_getElem? (i := 4) rfl)
theorem cM_bendsFrom_63 : zCode 229 63 = some (.istore 4, 65, 0, 0, 0, 0, 13) := cAM_bendsFrom_2 _ (List.mem_of_getElem? (i := 5) rfl)
theorem cM_bendsFrom_65 : zCode 229 65 = some (.iload 4, 67, 0, 0, 0, 0, 29) := cAM_bendsFrom_2 _ (List.mem_of_getElem? (i := 6) rfl)
theorem cM_bendsFrom_67 : zCode 229 67 = some (.aload_n 0, 68, 0, 0, 0, 0, 29) := cAM_bendsFrom_2 _ (List.mem_of_getElem? (i := 7) rfl)
theorem cM_bendsFrom_68 : zCode 229 68 = some (.iconst 2, 69, 0, 0, 0, 0, 29) := cAM_bendsFrom_2 _ (List.mem_of_getElem? (i := 8) rfl)
theorem cM_bendsFrom_69 : zCode 229 69 = some (.invokevirtual 288, 72, 169, 1, 2, 12, 29) := cAM_bendsFrom_2 _ (List.mem_of_getElem? (i := 9) rfl)
theorem cM_bendsFrom_72 : zCode 229 72 = some (.if_icmp .ge 59, 75, 131, 0, 0, 0, 29) := cAM_bendsFrom_2 _ (List.mem_of_getElem? (i := 10) rfl)
theorem cM_bendsFrom_75 : zCode 229 75 = some (.aload_n 0, 76, 0, 0, 0, 0, 29) := cAM_bendsFrom_2 _ (List.mem_of_getElem? (i := 11) rfl)
theorem cM_bendsFrom_76 : zCode 229 76 = some (.getfield 67, 79, 12, 34, 2, 1243, 29) := cAM_bendsFrom_2 _ (List.mem_of_getElem? (i := 12) rfl)
theorem cM_bendsFrom_79 : zCode 229 79 = some (.bipush 9, 81, 0, 0, 0, 0, 29) := cAM_bendsFrom_2 _ (List.mem_of_getElem? (i := 13) rfl)
theorem cM_bendsFrom_81 : zCode 229 81 = some (.iload_n 2, 82, 0, 0, 0, 0, 29) := cAM_bendsFrom_2 _ (List.mem_of_getElem? (i := 14) rfl)
theorem cM_bendsFrom_82 : zCode 229 82 = some (.imul, 83, 0, 0, 0, 0, 29) := cAM_bendsFrom_2 _ (List.mem_of_getElem? (i := 15) rfl)
theorem cM_bendsFrom_83 : zCode 229 83 = some (.iload_n 3, 84, 0, 0, 0, 0, 29) := cAM_bendsFrom_3 _ (List.mem_of_getElem? (i := 0) rfl)
theorem cM_bendsFrom_84 : zCode 229 84 = some (.iadd, 85, 0, 0, 0, 0, 29) := cAM_bendsFrom_3 _ (List.mem_of_getElem? (i := 1) rfl)
theorem cM_bendsFrom_85 : zCode 229 85 = some (.iaload, 86, 0, 0, 0, 0, 29) := cAM_bendsFrom_3 _ (List.mem_of_getElem? (i := 2) rfl)
theorem cM_bendsFrom_86 : zCode 229 86 = some (.ldc_w 331, 89, 0, 0, 1577, 1000000, 29) := cAM_bendsFrom_3 _ (List.mem_of_getElem? (i := 3) rfl)
theorem cM_bendsFrom_89 : zCode 229 89 = some (.if_icmp .ge 42, 92, 131, 0, 0, 0, 29) := cAM_bendsFrom_3 _ (List.mem_of_getElem? (i := 4) rfl)
theorem cM_bendsFrom_92 : zCode 229 92 = some (.iload_n 2, 93, 0, 0, 0, 0, 29) := cAM_bendsFrom_3 _ (List.mem_of_getElem? (i := 5) rfl)
theorem cM_bendsFrom_93 : zCode 229 93 = some (.iload 4, 95, 0, 0, 0, 0, 29) := cAM_bendsFrom_3 _ (List.mem_of_getElem? (i := 6) rfl)
theorem cM_bendsFrom_95 : zCode 229 95 = some (.ishr, 96, 0, 0, 0, 0, 29) := cAM_bendsFrom_3 _ (List.mem_of_getElem? (i := 7) rfl)
theorem cM_bendsFrom_96 : zCode 229 96 = some (.iconst 1, 97, 0, 0, 0, 0, 29) := cAM_bendsFrom_3 _ (List.mem_of_getElem? (i := 8) rfl)
theorem cM_bendsFrom_97 : zCode 229 97 = some (.iand, 98, 0, 0, 0, 0, 29) := cAM_bendsFrom_3 _ (List.mem_of_getElem? (i := 9) rfl)
theorem cM_bendsFrom_98 : zCode 229 98 = some (.ifCond .ne 27, 101, 125, 0, 0, 0, 29) := cAM_bendsFrom_3 _ (List.mem_of_getElem? (i := 10) rfl)
theorem cM_bendsFrom_101 : zCode 229 101 = some (.aload_n 0, 102, 0, 0, 0, 0, 29) := cAM_bendsFrom_3 _ (List.mem_of_getElem? (i := 11) rfl)
theorem cM_bendsFrom_102 : zCode 229 102 = some (.iload 4, 104, 0, 0, 0, 0, 29) := cAM_bendsFrom_3 _ (List.mem_of_getElem? (i := 12) rfl)
theorem cM_bendsFrom_104 : zCode 229 104 = some (.aload_n 0, 105, 0, 0, 0, 0, 29) := cAM_bendsFrom_3 _ (List.mem_of_getElem? (i := 13) rfl)
theorem cM_bendsFrom_105 : zCode 229 105 = some (.getfield 54, 108, 12, 30, 2, 1239, 29) := cAM_bendsFrom_3 _ (List.mem_of_getElem? (i := 14) rfl)
theorem cM_bendsFrom_108 : zCode 229 108 = some (.iload_n 2, 109, 0, 0, 0, 0, 29) := cAM_bendsFrom_3 _ (List.mem_of_getElem? (i := 15) rfl)
theorem cM_bendsFrom_109 : zCode 229 109 = some (.iaload, 110, 0, 0, 0, 0, 29) := cAM_bendsFrom_4 _ (List.mem_of_getElem? (i := 0) rfl)
theorem cM_bendsFrom_110 : zCode 229 110 = some (.invokevirtual 315, 113, 213, 2, 3, 12, 29) := cAM_bendsFrom_4 _ (List.mem_of_getElem? (i := 1) rfl)
theorem cM_bendsFrom_113 : zCode 229 113 = some (.iconst (-1), 114, 0, 0, 0, 0, 29) := cAM_bendsFrom_4 _ (List.mem_of_getElem? (i := 2) rfl)
theorem cM_bendsFrom_114 : zCode 229 114 = some (.if_icmp .eq 11, 117, 125, 0, 0, 0, 29) := cAM_bendsFrom_4 _ (List.mem_of_getElem? (i := 3) rfl)
theorem cM_bendsFrom_117 : zCode 229 117 = some (.aload_n 0, 118, 0, 0, 0, 0, 29) := cAM_bendsFrom_4 _ (List.mem_of_getElem? (i := 4) rfl)
theorem cM_bendsFrom_118 : zCode 229 118 = some (.iload_n 2, 119, 0, 0, 0, 0, 29) := cAM_bendsFrom_4 _ (List.mem_of_getElem? (i := 5) rfl)
theorem cM_bendsFrom_119 : zCode 229 119 = some (.iload_n 3, 120, 0, 0, 0, 0, 29) := cAM_bendsFrom_4 _ (List.mem_of_getElem? (i := 6) rfl)
theorem cM_bendsFrom_120 : zCode 229 120 = some (.iload 4, 122, 0, 0, 0, 0, 29) := cAM_bendsFrom_4 _ (List.mem_of_getElem? (i := 7) rfl)
theorem cM_bendsFrom_122 : zCode 229 122 = some (.invokevirtual 332, 125, 228, 3, 9, 12, 29) := cAM_bendsFrom_4 _ (List.mem_of_getElem? (i := 8) rfl)
theorem cM_bendsFrom_125 : zCode 229 125 = some (.iinc 4 1, 128, 0, 0, 0, 0, 29) := cAM_bendsFrom_4 _ (List.mem_of_getElem? (i := 9) rfl)
theorem cM_bendsFrom_128 : zCode 229 128 = some (.goto (-63), 131, 65, 0, 0, 0, 29) := cAM_bendsFrom_4 _ (List.mem_of_getElem? (i := 10) rfl)
theorem cM_bendsFrom_131 : zCode 229 131 = some (.iinc 3 1, 134, 0, 0, 0, 0, 13) := cAM_bendsFrom_4 _ (List.mem_of_getElem? (i := 11) rfl)
theorem cM_bendsFrom_134 : zCode 229 134 = some (.goto (-78), 137, 56, 0, 0, 0, 13) := cAM_bendsFrom_4 _ (List.mem_of_getElem? (i := 12) rfl)
theorem cM_bendsFrom_137 : zCode 229 137 = some (.iinc 2 1, 140, 0, 0, 0, 0, 5) := cAM_bendsFrom_4 _ (List.mem_of_getElem? (i := 13) rfl)
theorem cM_bendsFrom_140 : zCode 229 140 = some (.goto (-94), 143, 46, 0, 0, 0, 5) := cAM_bendsFrom_4 _ (List.mem_of_getElem? (i := 14) rfl)
theorem cM_bendsFrom_143 : zCode 229 143 = some (.ldc_w 331, 146, 0, 0, 1577, 1000000, 1) := cAM_bendsFrom_4 _ (List.mem_of_getElem? (i := 15) rfl)
theorem cM_bendsFrom_146 : zCode 229 146 = some (.istore_n 2, 147, 0, 0, 0, 0, 1) := cAM_bendsFrom_5 _ (List.mem_of_getElem? (i := 0) rfl)
theorem cM_bendsFrom_147 : zCode 229 147 = some (.iconst 0, 148, 0, 0, 0, 0, 5) := cAM_bendsFrom_5 _ (List.mem_of_getElem? (i := 1) rfl)
theorem cM_bendsFrom_148 : zCode 229 148 = some (.istore_n 3, 149, 0, 0, 0, 0, 5) := cAM_bendsFrom_5 _ (List.mem_of_getElem? (i := 2) rfl)
theorem cM_bendsFrom_149 : zCode 229 149 = some (.iload_n 3, 150, 0, 0, 0, 0, 13) := cAM_bendsFrom_5 _ (List.mem_of_getElem? (i := 3) rfl)
theorem cM_bendsFrom_150 : zCode 229 150 = some (.bipush 9, 152, 0, 0, 0, 0, 13) := cAM_bendsFrom_5 _ (List.mem_of_getElem? (i := 4) rfl)
theorem cM_bendsFrom_152 : zCode 229 152 = some (.if_icmp .ge 38, 155, 190, 0, 0, 0, 13) := cAM_bendsFrom_5 _ (List.mem_of_getElem? (i := 5) rfl)
theorem cM_bendsFrom_155 : zCode 229 155 = some (.aload_n 0, 156, 0, 0, 0, 0, 13) := cAM_bendsFrom_5 _ (List.mem_of_getElem? (i := 6) rfl)
theorem cM_bendsFrom_156 : zCode 229 156 = some (.getfield 67, 159, 12, 34, 2, 1243, 13) := cAM_bendsFrom_5 _ (List.mem_of_getElem? (i := 7) rfl)
theorem cM_bendsFrom_159 : zCode 229 159 = some (.bipush 9, 161, 0, 0, 0, 0, 13) := cAM_bendsFrom_5 _ (List.mem_of_getElem? (i := 8) rfl)
theorem cM_bendsFrom_161 : zCode 229 161 = some (.aload_n 0, 162, 0, 0, 0, 0, 13) := cAM_bendsFrom_5 _ (List.mem_of_getElem? (i := 9) rfl)
theorem cM_bendsFrom_162 : zCode 229 162 = some (.invokevirtual 300, 165, 215, 0, 1, 12, 13) := cAM_bendsFrom_5 _ (List.mem_of_getElem? (i := 10) rfl)
theorem cM_bendsFrom_165 : zCode 229 165 = some (.imul, 166, 0, 0, 0, 0, 13) := cAM_bendsFrom_5 _ (List.mem_of_getElem? (i := 11) rfl)
theorem cM_bendsFrom_166 : zCode 229 166 = some (.iload_n 3, 167, 0, 0, 0, 0, 13) := cAM_bendsFrom_5 _ (List.mem_of_getElem? (i := 12) rfl)
theorem cM_bendsFrom_167 : zCode 229 167 = some (.iadd, 168, 0, 0, 0, 0, 13) := cAM_bendsFrom_5 _ (List.mem_of_getElem? (i := 13) rfl)
theorem cM_bendsFrom_168 : zCode 229 168 = some (.iaload, 169, 0, 0, 0, 0, 13) := cAM_bendsFrom_5 _ (List.mem_of_getElem? (i := 14) rfl)
theorem cM_bendsFrom_169 : zCode 229 169 = some (.istore 4, 171, 0, 0, 0, 0, 13) := cAM_bendsFrom_5 _ (List.mem_of_getElem? (i := 15) rfl)
theorem cM_bendsFrom_171 : zCode 229 171 = some (.iload 4, 173, 0, 0, 0, 0, 29) := cAM_bendsFrom_6 _ (List.mem_of_getElem? (i := 0) rfl)
theorem cM_bendsFrom_173 : zCode 229 173 = some (.iload_n 2, 174, 0, 0, 0, 0, 29) := cAM_bendsFrom_6 _ (List.mem_of_getElem? (i := 1) rfl)
theorem cM_bendsFrom_174 : zCode 229 174 = some (.if_icmp .ge 8, 177, 182, 0, 0, 0, 29) := cAM_bendsFrom_6 _ (List.mem_of_getElem? (i := 2) rfl)
theorem cM_bendsFrom_177 : zCode 229 177 = some (.iload 4, 179, 0, 0, 0, 0, 25) := cAM_bendsFrom_6 _ (List.mem_of_getElem? (i := 3) rfl)
theorem cM_bendsFrom_179 : zCode 229 179 = some (.goto 4, 182, 183, 0, 0, 0, 9) := cAM_bendsFrom_6 _ (List.mem_of_getElem? (i := 4) rfl)
theorem cM_bendsFrom_182 : zCode 229 182 = some (.iload_n 2, 183, 0, 0, 0, 0, 13) := cAM_bendsFrom_6 _ (List.mem_of_getElem? (i := 5) rfl)
theorem cM_bendsFrom_183 : zCode 229 183 = some (.istore_n 2, 184, 0, 0, 0, 0, 9) := cAM_bendsFrom_6 _ (List.mem_of_getElem? (i := 6) rfl)
theorem cM_bendsFrom_184 : zCode 229 184 = some (.iinc 3 1, 187, 0, 0, 0, 0, 13) := cAM_bendsFrom_6 _ (List.mem_of_getElem? (i := 7) rfl)
theorem cM_bendsFrom_187 : zCode 229 187 = some (.goto (-38), 190, 149, 0, 0, 0, 13) := cAM_bendsFrom_6 _ (List.mem_of_getElem? (i := 8) rfl)
theorem cM_bendsFrom_190 : zCode 229 190 = some (.iload_n 2, 191, 0, 0, 0, 0, 4) := cAM_bendsFrom_6 _ (List.mem_of_getElem? (i := 9) rfl)
theorem cM_bendsFrom_191 : zCode 229 191 = some (.ireturn, 192, 0, 0, 0, 0, 0) := cAM_bendsFrom_6 _ (List.mem_of_getElem? (i := 10) rfl)
theorem rM_bendsFrom_0 {a0 : Nat} {a1 : Int} {u2 u3 u4 : zV} : zS 229 0 [zR a0, zI a1, u2, u3, u4] [] sh pp mm Q ↔ zS 229 1 [zR a0, zI a1, zU, zU, zU] [zR a0] sh pp mm Q := s_go cM_bendsFrom_0 cM_bendsFrom_1 rfl rfl
theorem rM_bendsFrom_1 {a0 s0 : Nat} {a1 : Int} {u2 u3 u4 : zV} : zS 229 1 [zR a0, zI a1, u2, u3, u4] [zR s0] sh pp mm Q ↔ zS 229 2 [zR a0, zU, zU, zU, zU] [zI a1, zR s0] sh pp mm Q := s_go cM_bendsFrom_1 cM_bendsFrom_2 rfl rfl
theorem rM_bendsFrom_2 {a0 s1 : Nat} {s0 : Int} {u1 u2 u3 u4 : zV} (hk : zKd sh s1 = 12) : zS 229 2 [zR a0, u1, u2, u3, u4] [zI s0, zR s1] sh pp mm Q ↔ zS 222 0 [zR s1, zI s0, zU, zU, zU] [] sh pp mm (fun v sh pp mm => zS 229 5 [zR a0, zU, zU, zU, zU] (zPush v []) sh pp mm Q) := s_call cM_bendsFrom_2 cM_bendsFrom_5 ((if_pos hk).trans rfl) rfl
theorem rM_bendsFrom_5 {a0 : Nat} {u1 u2 u3 u4 : zV} : zS 229 5 [zR a0, u1, u2, u3, u4] [] sh pp mm Q ↔ zS 229 6 [zR a0, zU, zU, zU, zU] [zI 0] sh pp mm Q := s_go cM_bendsFrom_5 cM_bendsFrom_6 rfl rfl
theorem rM_bendsFrom_6 {a0 : Nat} {s0 : Int} {u1 u2 u3 u4 : zV} : zS 229 6 [zR a0, u1, u2, u3, u4] [zI s0] sh pp mm Q ↔ zS 229 7 [zR a0, zU, zI s0, zU, zU] [] sh pp mm Q := s_go cM_bendsFrom_6 cM_bendsFrom_7 rfl rfl
theorem rM_bendsFrom_7 {a0 : Nat} {a2 : Int} {u1 u3 u4 : zV} : zS 229 7 [zR a0, u1, zI a2, u3, u4] [] sh pp mm Q ↔ zS 229 8 [zR a0, zU, zI a2, zU, zU] [zI a2] sh pp mm Q := s_go cM_bendsFrom_7 cM_bendsFrom_8 rfl rfl
theorem rM_bendsFrom_8 {a0 : Nat} {a2 s0 : Int} {u1 u3 u4 : zV} : zS 229 8 [zR a0, u1, zI a2, u3, u4] [zI s0] sh pp mm Q ↔ zS 229 10 [zR a0, zU, zI a2, zU, zU] [zI 9, zI s0] sh pp mm Q := s_go cM_bendsFrom_8 cM_bendsFrom_10 rfl rfl
theorem rM_bendsFrom_10 {a0 : Nat} {a2 s0 s1 : Int} {u1 u3 u4 : zV} : zS 229 10 [zR a0, u1, zI a2, u3, u4] [zI s0, zI s1] sh pp mm Q ↔ zS 229 11 [zR a0, zU, zI a2, zU, zU] [zR a0, zI s0, zI s1] sh pp mm Q := s_go cM_bendsFrom_10 cM_bendsFrom_11 rfl rfl
theorem rM_bendsFrom_11 {a0 s0 : Nat} {a2 s1 s2 : Int} {u1 u3 u4 : zV} (hk : zKd sh s0 = 12) : zS 229 11 [zR a0, u1, zI a2, u3, u4] [zR s0, zI s1, zI s2] sh pp mm Q ↔ zS 215 0 [zR s0] [] sh pp mm (fun v sh pp mm => zS 229 14 [zR a0, zU, zI a2, zU, zU] (zPush v [zI s1, zI s2]) sh pp mm Q) := s_call cM_bendsFrom_11 cM_bendsFrom_14 ((if_pos hk).trans rfl) rfl
theorem rM_bendsFrom_14 {a0 : Nat} {a2 s0 s1 s2 : Int} {u1 u3 u4 : zV} : zS 229 14 [zR a0, u1, zI a2, u3, u4] [zI s0, zI s1, zI s2] sh pp mm Q ↔ zS 229 15 [zR a0, zU, zI a2, zU, zU] [zI 1, zI s0, zI s1, zI s2] sh pp mm Q := s_go cM_bendsFrom_14 cM_bendsFrom_15 rfl rfl
theorem rM_bendsFrom_15 {a0 : Nat} {a2 s0 s1 s2 s3 : Int} {u1 u3 u4 : zV} : zS 229 15 [zR a0, u1, zI a2, u3, u4] [zI s0, zI s1, zI s2, zI s3] sh pp mm Q ↔ zS 229 16 [zR a0, zU, zI a2, zU, zU] [zI (zw32 (s1 + s0)), zI s2, zI s3] sh pp mm Q := s_go cM_bendsFrom_15 cM_bendsFrom_16 rfl rfl
theorem rM_bendsFrom_16 {a0 : Nat} {a2 s0 s1 s2 : Int} {u1 u3 u4 : zV} : zS 229 16 [zR a0, u1, zI a2, u3, u4] [zI s0, zI s1, zI s2] sh pp mm Q ↔ zS 229 17 [zR a0, zU, zI a2, zU, zU] [zI (zw32 (s1 * s0)), zI s2] sh pp mm Q := s_go cM_bendsFrom_16 cM_bendsFrom_17 rfl rfl
theorem rM_bendsFrom_17 {a0 : Nat} {a2 s0 s1 : Int} {u1 u3 u4 : zV} : zS 229 17 [zR a0, u1, zI a2, u3, u4] [zI s0, zI s1] sh pp mm Q ↔ (s1 < s0 → zS 229 20 [zR a0, zU, zI a2, zU, zU] [] sh pp mm Q) ∧ (¬ s1 < s0 → zS 229 44 [zR a0, zU, zU, zU, zU] [] sh pp mm Q) := s_ifn cM_bendsFrom_17 cM_bendsFrom_20 cM_bendsFrom_44 rfl rfl rfl
theorem rM_bendsFrom_20 {a0 : Nat} {a2 : Int} {u1 u3 u4 : zV} : zS 229 20 [zR a0, u1, zI a2, u3, u4] [] sh pp mm Q ↔ zS 229 21 [zR a0, zU, zI a2, zU, zU] [zR a0] sh pp mm Q := s_go cM_bendsFrom_20 cM_bendsFrom_21 rfl rfl
theorem rM_bendsFrom_21 {a0 s0 : Nat} {a2 : Int} {u1 u3 u4 : zV} (hk : zKd sh s0 = 12) : zS 229 21 [zR a0, u1, zI a2, u3, u4] [zR s0] sh pp mm Q ↔ zS 229 24 [zR a0, zU, zI a2, zU, zU] [zR (pp s0 34)] sh pp mm Q := s_go cM_bendsFrom_21 cM_bendsFrom_24 (if_pos hk) rfl
theorem rM_bendsFrom_24 {a0 s0 : Nat} {a2 : Int} {u1 u3 u4 : zV} : zS 229 24 [zR a0, u1, zI a2, u3, u4] [zR s0] sh pp mm Q ↔ zS 229 25 [zR a0, zU, zI a2, zU, zU] [zI a2, zR s0] sh pp mm Q := s_go cM_bendsFrom_24 cM_bendsFrom_25 rfl rfl
theorem rM_bendsFrom_25 {a0 s1 : Nat} {a2 s0 : Int} {u1 u3 u4 : zV} : zS 229 25 [zR a0, u1, zI a2, u3, u4] [zI s0, zR s1] sh pp mm Q ↔ zS 229 26 [zR a0, zU, zI a2, zU, zU] [zI a2, zI s0, zR s1] sh pp mm Q := s_go cM_bendsFrom_25 cM_bendsFrom_26 rfl rfl
theorem rM_bendsFrom_26 {a0 s2 : Nat} {a2 s0 s1 : Int} {u1 u3 u4 : zV} : zS 229 26 [zR a0, u1, zI a2, u3, u4] [zI s0, zI s1, zR s2] sh pp mm Q ↔ zS 229 27 [zR a0, zU, zI a2, zU, zU] [zI 4, zI s0, zI s1, zR s2] sh pp mm Q := s_go cM_bendsFrom_26 cM_bendsFrom_27 rfl rfl
theorem rM_bendsFrom_27 {a0 s3 : Nat} {a2 s0 s1 s2 : Int} {u1 u3 u4 : zV} : zS 229 27 [zR a0, u1, zI a2, u3, u4] [zI s0, zI s1, zI s2, zR s3] sh pp mm Q ↔ (s1 = s0 → zS 229 30 [zR a0, zU, zI a2, zU, zU] [zI s2, zR s3] sh pp mm Q) ∧ (¬ s1 = s0 → zS 229 34 [zR a0, zU, zI a2, zU, zU] [zI s2, zR s3] sh pp mm Q) := s_ifn cM_bendsFrom_27 cM_bendsFrom_30 cM_bendsFrom_34 rfl rfl rfl
theorem rM_bendsFrom_30 {a0 s1 : Nat} {a2 s0 : Int} {u1 u3 u4 : zV} : zS 229 30 [zR a0, u1, zI a2, u3, u4] [zI s0, zR s1] sh pp mm Q ↔ zS 229 31 [zR a0, zU, zI a2, zU, zU] [zI 0, zI s0, zR s1] sh pp mm Q := s_go cM_bendsFrom_30 cM_bendsFrom_31 rfl rfl
theorem rM_bendsFrom_31 {a0 s2 : Nat} {a2 s0 s1 : Int} {u1 u3 u4 : zV} : zS 229 31 [zR a0, u1, zI a2, u3, u4] [zI s0, zI s1, zR s2] sh pp mm Q ↔ zS 229 37 [zR a0, zU, zI a2, zU, zU] [zI s0, zI s1, zR s2] sh pp mm Q := s_go cM_bendsFrom_31 cM_bendsFrom_37 rfl rfl
theorem rM_bendsFrom_34 {a0 s1 : Nat} {a2 s0 : Int} {u1 u3 u4 : zV} : zS 229 34 [zR a0, u1, zI a2, u3, u4] [zI s0, zR s1] sh pp mm Q ↔ zS 229 37 [zR a0, zU, zI a2, zU, zU] [zI 1000000, zI s0, zR s1] sh pp mm Q := s_go cM_bendsFrom_34 cM_bendsFrom_37 rfl rfl
theorem rM_bendsFrom_37 {a0 s2 : Nat} {a2 s0 s1 : Int} {u1 u3 u4 : zV} (hk : zKd sh s2 = 20) (h0 : 0 ≤ s1) (h1 : s1 < zLn sh s2) : zS 229 37 [zR a0, u1, zI a2, u3, u4] [zI s0, zI s1, zR s2] sh pp mm Q ↔ zS 229 38 [zR a0, zU, zI a2, zU, zU] [] sh pp (zupd mm s2 s1 s0) Q := s_go cM_bendsFrom_37 cM_bendsFrom_38 (if_pos ⟨hk, h0, h1, fun h => absurd h (by decide)⟩) rfl
theorem rM_bendsFrom_38 {a0 : Nat} {a2 : Int} {u1 u3 u4 : zV} : zS 229 38 [zR a0, u1, zI a2, u3, u4] [] sh pp mm Q ↔ zS 229 41 [zR a0, zU, zI (zw32 (a2 + 1)), zU, zU] [] sh pp mm Q := s_go cM_bendsFrom_38 cM_bendsFrom_41 rfl rfl
theorem rM_bendsFrom_41 {a0 : Nat} {a2 : Int} {u1 u3 u4 : zV} : zS 229 41 [zR a0, u1, zI a2, u3, u4] [] sh pp mm Q ↔ zS 229 7 [zR a0, zU, zI a2, zU, zU] [] sh pp mm Q := s_go cM_bendsFrom_41 cM_bendsFrom_7 rfl rfl
theorem rM_bendsFrom_44 {a0 : Nat} {u1 u2 u3 u4 : zV} : zS 229 44 [zR a0, u1, u2, u3, u4] [] sh pp mm Q ↔ zS 229 45 [zR a0, zU, zU, zU, zU] [zI 0] sh pp mm Q := s_go cM_bendsFrom_44 cM_bendsFrom_45 rfl rfl
theorem rM_bendsFrom_45 {a0 : Nat} {s0 : Int} {u1 u2 u3 u4 : zV} : zS 229 45 [zR a0, u1, u2, u3, u4] [zI s0] sh pp mm Q ↔ zS 229 46 [zR a0, zU, zI s0, zU, zU] [] sh pp mm Q := s_go cM_bendsFrom_45 cM_bendsFrom_46 rfl rfl
theorem rM_bendsFrom_46 {a0 : Nat} {a2 : Int} {u1 u3 u4 : zV} : zS 229 46 [zR a0, u1, zI a2, u3, u4] [] sh pp mm Q ↔ zS 229 47 [zR a0, zU, zI a2, zU, zU] [zI a2] sh pp mm Q := s_go cM_bendsFrom_46 cM_bendsFrom_47 rfl rfl
theorem rM_bendsFrom_47 {a0 : Nat} {a2 s0 : Int} {u1 u3 u4 : zV} : zS 229 47 [zR a0, u1, zI a2, u3, u4] [zI s0] sh pp mm Q ↔ zS 229 48 [zR a0, zU, zI a2, zU, zU] [zR a0, zI s0] sh pp mm Q := s_go cM_bendsFrom_47 cM_bendsFrom_48 rfl rfl
theorem rM_bendsFrom_48 {a0 s0 : Nat} {a2 s1 : Int} {u1 u3 u4 : zV} (hk : zKd sh s0 = 12) : zS 229 48 [zR a0, u1, zI a2, u3, u4] [zR s0, zI s1] sh pp mm Q ↔ zS 215 0 [zR s0] [] sh pp mm (fun v sh pp mm => zS 229 51 [zR a0, zU, zI a2, zU, zU] (zPush v [zI s1]) sh pp mm Q) := s_call cM_bendsFrom_48 cM_bendsFrom_51 ((if_pos hk).trans rfl) rfl
theorem rM_bendsFrom_51 {a0 : Nat} {a2 s0 s1 : Int} {u1 u3 u4 : zV} : zS 229 51 [zR a0, u1, zI a2, u3, u4] [zI s0, zI s1] sh pp mm Q ↔ (s1 < s0 → zS 229 54 [zR a0, zU, zI a2, zU, zU] [] sh pp mm Q) ∧ (¬ s1 < s0 → zS 229 143 [zR a0, zU, zU, zU, zU] [] sh pp mm Q) := s_ifn cM_bendsFrom_51 cM_bendsFrom_54 cM_bendsFrom_143 rfl rfl rfl
theorem rM_bendsFrom_54 {a0 : Nat} {a2 : Int} {u1 u3 u4 : zV} : zS 229 54 [zR a0, u1, zI a2, u3, u4] [] sh pp mm Q ↔ zS 229 55 [zR a0, zU, zI a2, zU, zU] [zI 0] sh pp mm Q := s_go cM_bendsFrom_54 cM_bendsFrom_55 rfl rfl
theorem rM_bendsFrom_55 {a0 : Nat} {a2 s0 : Int} {u1 u3 u4 : zV} : zS 229 55 [zR a0, u1, zI a2, u3, u4] [zI s0] sh pp mm Q ↔ zS 229 56 [zR a0, zU, zI a2, zI s0, zU] [] sh pp mm Q := s_go cM_bendsFrom_55 cM_bendsFrom_56 rfl rfl
theorem rM_bendsFrom_56 {a0 : Nat} {a2 a3 : Int} {u1 u4 : zV} : zS 229 56 [zR a0, u1, zI a2, zI a3, u4] [] sh pp mm Q ↔ zS 229 57 [zR a0, zU, zI a2, zI a3, zU] [zI a3] sh pp mm Q := s_go cM_bendsFrom_56 cM_bendsFrom_57 rfl rfl
theorem rM_bendsFrom_57 {a0 : Nat} {a2 a3 s0 : Int} {u1 u4 : zV} : zS 229 57 [zR a0, u1, zI a2, zI a3, u4] [zI s0] sh pp mm Q ↔ zS 229 59 [zR a0, zU, zI a2, zI a3, zU] [zI 9, zI s0] sh pp mm Q := s_go cM_bendsFrom_57 cM_bendsFrom_59 rfl rfl
theorem rM_bendsFrom_59 {a0 : Nat} {a2 a3 s0 s1 : Int} {u1 u4 : zV} : zS 229 59 [zR a0, u1, zI a2, zI a3, u4] [zI s0, zI s1] sh pp mm Q ↔ (s1 < s0 → zS 229 62 [zR a0, zU, zI a2, zI a3, zU] [] sh pp mm Q) ∧ (¬ s1 < s0 → zS 229 137 [zR a0, zU, zI a2, zU, zU] [] sh pp mm Q) := s_ifn cM_bendsFrom_59 cM_bendsFrom_62 cM_bendsFrom_137 rfl rfl rfl
theorem rM_bendsFrom_62 {a0 : Nat} {a2 a3 : Int} {u1 u4 : zV} : zS 229 62 [zR a0, u1, zI a2, zI a3, u4] [] sh pp mm Q ↔ zS 229 63 [zR a0, zU, zI a2, zI a3, zU] [zI 0] sh pp mm Q := s_go cM_bendsFrom_62 cM_bendsFrom_63 rfl rfl
theorem rM_bendsFrom_63 {a0 : Nat} {a2 a3 s0 : Int} {u1 u4 : zV} : zS 229 63 [zR a0, u1, zI a2, zI a3, u4] [zI s0] sh pp mm Q ↔ zS 229 65 [zR a0, zU, zI a2, zI a3, zI s0] [] sh pp mm Q := s_go cM_bendsFrom_63 cM_bendsFrom_65 rfl rfl
theorem rM_bendsFrom_65 {a0 : Nat} {a2 a3 a4 : Int} {u1 : zV} : zS 229 65 [zR a0, u1, zI a2, zI a3, zI a4] [] sh pp mm Q ↔ zS 229 67 [zR a0, zU, zI a2, zI a3, zI a4] [zI a4] sh pp mm Q := s_go cM_bendsFrom_65 cM_bendsFrom_67 rfl rfl
theorem rM_bendsFrom_67 {a0 : Nat} {a2 a3 a4 s0 : Int} {u1 : zV} : zS 229 67 [zR a0, u1, zI a2, zI a3, zI a4] [zI s0] sh pp mm Q ↔ zS 229 68 [zR a0, zU, zI a2, zI a3, zI a4] [zR a0, zI s0] sh pp mm Q := s_go cM_bendsFrom_67 cM_bendsFrom_68 rfl rfl
theorem rM_bendsFrom_68 {a0 s0 : Nat} {a2 a3 a4 s1 : Int} {u1 : zV} : zS 229 68 [zR a0, u1, zI a2, zI a3, zI a4] [zR s0, zI s1] sh pp mm Q ↔ zS 229 69 [zR a0, zU, zI a2, zI a3, zI a4] [zI 2, zR s0, zI s1] sh pp mm Q := s_go cM_bendsFrom_68 cM_bendsFrom_69 rfl rfl
theorem rM_bendsFrom_69 {a0 s1 : Nat} {a2 a3 a4 s0 s2 : Int} {u1 : zV} (hk : zKd sh s1 = 12) : zS 229 69 [zR a0, u1, zI a2, zI a3, zI a4] [zI s0, zR s1, zI s2] sh pp mm Q ↔ zS 169 0 [zR s1, zI s0] [] sh pp mm (fun v sh pp mm => zS 229 72 [zR a0, zU, zI a2, zI a3, zI a4] (zPush v [zI s2]) sh pp mm Q) := s_call cM_bendsFrom_69 cM_bendsFrom_72 ((if_pos hk).trans rfl) rfl
theorem rM_bendsFrom_72 {a0 : Nat} {a2 a3 a4 s0 s1 : Int} {u1 : zV} : zS 229 72 [zR a0, u1, zI a2, zI a3, zI a4] [zI s0, zI s1] sh pp mm Q ↔ (s1 < s0 → zS 229 75 [zR a0, zU, zI a2, zI a3, zI a4] [] sh pp mm Q) ∧ (¬ s1 < s0 → zS 229 131 [zR a0, zU, zI a2, zI a3, zU] [] sh pp mm Q) := s_ifn cM_bendsFrom_72 cM_bendsFrom_75 cM_bendsFrom_131 rfl rfl rfl
theorem rM_bendsFrom_75 {a0 : Nat} {a2 a3 a4 : Int} {u1 : zV} : zS 229 75 [zR a0, u1, zI a2, zI a3, zI a4] [] sh pp mm Q ↔ zS 229 76 [zR a0, zU, zI a2, zI a3, zI a4] [zR a0] sh pp mm Q := s_go cM_bendsFrom_75 cM_bendsFrom_76 rfl rfl
theorem rM_bendsFrom_76 {a0 s0 : Nat} {a2 a3 a4 : Int} {u1 : zV} (hk : zKd sh s0 = 12) : zS 229 76 [zR a0, u1, zI a2, zI a3, zI a4] [zR s0] sh pp mm Q ↔ zS 229 79 [zR a0, zU, zI a2, zI a3, zI a4] [zR (pp s0 34)] sh pp mm Q := s_go cM_bendsFrom_76 cM_bendsFrom_79 (if_pos hk) rfl
theorem rM_bendsFrom_79 {a0 s0 : Nat} {a2 a3 a4 : Int} {u1 : zV} : zS 229 79 [zR a0, u1, zI a2, zI a3, zI a4] [zR s0] sh pp mm Q ↔ zS 229 81 [zR a0, zU, zI a2, zI a3, zI a4] [zI 9, zR s0] sh pp mm Q := s_go cM_bendsFrom_79 cM_bendsFrom_81 rfl rfl
theorem rM_bendsFrom_81 {a0 s1 : Nat} {a2 a3 a4 s0 : Int} {u1 : zV} : zS 229 81 [zR a0, u1, zI a2, zI a3, zI a4] [zI s0, zR s1] sh pp mm Q ↔ zS 229 82 [zR a0, zU, zI a2, zI a3, zI a4] [zI a2, zI s0, zR s1] sh pp mm Q := s_go cM_bendsFrom_81 cM_bendsFrom_82 rfl rfl
theorem rM_bendsFrom_82 {a0 s2 : Nat} {a2 a3 a4 s0 s1 : Int} {u1 : zV} : zS 229 82 [zR a0, u1, zI a2, zI a3, zI a4] [zI s0, zI s1, zR s2] sh pp mm Q ↔ zS 229 83 [zR a0, zU, zI a2, zI a3, zI a4] [zI (zw32 (s1 * s0)), zR s2] sh pp mm Q := s_go cM_bendsFrom_82 cM_bendsFrom_83 rfl rfl
theorem rM_bendsFrom_83 {a0 s1 : Nat} {a2 a3 a4 s0 : Int} {u1 : zV} : zS 229 83 [zR a0, u1, zI a2, zI a3, zI a4] [zI s0, zR s1] sh pp mm Q ↔ zS 229 84 [zR a0, zU, zI a2, zI a3, zI a4] [zI a3, zI s0, zR s1] sh pp mm Q := s_go cM_bendsFrom_83 cM_bendsFrom_84 rfl rfl
theorem rM_bendsFrom_84 {a0 s2 : Nat} {a2 a3 a4 s0 s1 : Int} {u1 : zV} : zS 229 84 [zR a0, u1, zI a2, zI a3, zI a4] [zI s0, zI s1, zR s2] sh pp mm Q ↔ zS 229 85 [zR a0, zU, zI a2, zI a3, zI a4] [zI (zw32 (s1 + s0)), zR s2] sh pp mm Q := s_go cM_bendsFrom_84 cM_bendsFrom_85 rfl rfl
theorem rM_bendsFrom_85 {a0 s1 : Nat} {a2 a3 a4 s0 : Int} {u1 : zV} (hk : zKd sh s1 = 20 ∨ zKd sh s1 = 30) (h0 : 0 ≤ s0) (h1 : s0 < zLn sh s1) : zS 229 85 [zR a0, u1, zI a2, zI a3, zI a4] [zI s0, zR s1] sh pp mm Q ↔ zS 229 86 [zR a0, zU, zI a2, zI a3, zI a4] [zI (mm s1 s0)] sh pp mm Q := s_go cM_bendsFrom_85 cM_bendsFrom_86 (if_pos ⟨hk, h0, h1⟩) rfl
theorem rM_bendsFrom_86 {a0 : Nat} {a2 a3 a4 s0 : Int} {u1 : zV} : zS 229 86 [zR a0, u1, zI a2, zI a3, zI a4] [zI s0] sh pp mm Q ↔ zS 229 89 [zR a0, zU, zI a2, zI a3, zI a4] [zI 1000000, zI s0] sh pp mm Q := s_go cM_bendsFrom_86 cM_bendsFrom_89 rfl rfl
theorem rM_bendsFrom_89 {a0 : Nat} {a2 a3 a4 s0 s1 : Int} {u1 : zV} : zS 229 89 [zR a0, u1, zI a2, zI a3, zI a4] [zI s0, zI s1] sh pp mm Q ↔ (s1 < s0 → zS 229 92 [zR a0, zU, zI a2, zI a3, zI a4] [] sh pp mm Q) ∧ (¬ s1 < s0 → zS 229 131 [zR a0, zU, zI a2, zI a3, zU] [] sh pp mm Q) := s_ifn cM_bendsFrom_89 cM_bendsFrom_92 cM_bendsFrom_131 rfl rfl rfl
theorem rM_bendsFrom_92 {a0 : Nat} {a2 a3 a4 : Int} {u1 : zV} : zS 229 92 [zR a0, u1, zI a2, zI a3, zI a4] [] sh pp mm Q ↔ zS 229 93 [zR a0, zU, zI a2, zI a3, zI a4] [zI a2] sh pp mm Q := s_go cM_bendsFrom_92 cM_bendsFrom_93 rfl rfl
theorem rM_bendsFrom_93 {a0 : Nat} {a2 a3 a4 s0 : Int} {u1 : zV} : zS 229 93 [zR a0, u1, zI a2, zI a3, zI a4] [zI s0] sh pp mm Q ↔ zS 229 95 [zR a0, zU, zI a2, zI a3, zI a4] [zI a4, zI s0] sh pp mm Q := s_go cM_bendsFrom_93 cM_bendsFrom_95 rfl rfl
theorem rM_bendsFrom_95 {a0 : Nat} {a2 a3 a4 s0 s1 : Int} {u1 : zV} : zS 229 95 [zR a0, u1, zI a2, zI a3, zI a4] [zI s0, zI s1] sh pp mm Q ↔ zS 229 96 [zR a0, zU, zI a2, zI a3, zI a4] [zI (zshr s1 s0)] sh pp mm Q := s_go cM_bendsFrom_95 cM_bendsFrom_96 rfl rfl
theorem rM_bendsFrom_96 {a0 : Nat} {a2 a3 a4 s0 : Int} {u1 : zV} : zS 229 96 [zR a0, u1, zI a2, zI a3, zI a4] [zI s0] sh pp mm Q ↔ zS 229 97 [zR a0, zU, zI a2, zI a3, zI a4] [zI 1, zI s0] sh pp mm Q := s_go cM_bendsFrom_96 cM_bendsFrom_97 rfl rfl
theorem rM_bendsFrom_97 {a0 : Nat} {a2 a3 a4 s0 s1 : Int} {u1 : zV} : zS 229 97 [zR a0, u1, zI a2, zI a3, zI a4] [zI s0, zI s1] sh pp mm Q ↔ zS 229 98 [zR a0, zU, zI a2, zI a3, zI a4] [zI (zand s1 s0)] sh pp mm Q := s_go cM_bendsFrom_97 cM_bendsFrom_98 rfl rfl
theorem rM_bendsFrom_98 {a0 : Nat} {a2 a3 a4 s0 : Int} {u1 : zV} : zS 229 98 [zR a0, u1, zI a2, zI a3, zI a4] [zI s0] sh pp mm Q ↔ (s0 = 0 → zS 229 101 [zR a0, zU, zI a2, zI a3, zI a4] [] sh pp mm Q) ∧ (¬ s0 = 0 → zS 229 125 [zR a0, zU, zI a2, zI a3, zI a4] [] sh pp mm Q) := s_ifn cM_bendsFrom_98 cM_bendsFrom_101 cM_bendsFrom_125 rfl rfl rfl
theorem rM_bendsFrom_101 {a0 : Nat} {a2 a3 a4 : Int} {u1 : zV} : zS 229 101 [zR a0, u1, zI a2, zI a3, zI a4] [] sh pp mm Q ↔ zS 229 102 [zR a0, zU, zI a2, zI a3, zI a4] [zR a0] sh pp mm Q := s_go cM_bendsFrom_101 cM_bendsFrom_102 rfl rfl
theorem rM_bendsFrom_102 {a0 s0 : Nat} {a2 a3 a4 : Int} {u1 : zV} : zS 229 102 [zR a0, u1, zI a2, zI a3, zI a4] [zR s0] sh pp mm Q ↔ zS 229 104 [zR a0, zU, zI a2, zI a3, zI a4] [zI a4, zR s0] sh pp mm Q := s_go cM_bendsFrom_102 cM_bendsFrom_104 rfl rfl
theorem rM_bendsFrom_104 {a0 s1 : Nat} {a2 a3 a4 s0 : Int} {u1 : zV} : zS 229 104 [zR a0, u1, zI a2, zI a3, zI a4] [zI s0, zR s1] sh pp mm Q ↔ zS 229 105 [zR a0, zU, zI a2, zI a3, zI a4] [zR a0, zI s0, zR s1] sh pp mm Q := s_go cM_bendsFrom_104 cM_bendsFrom_105 rfl rfl
theorem rM_bendsFrom_105 {a0 s0 s2 : Nat} {a2 a3 a4 s1 : Int} {u1 : zV} (hk : zKd sh s0 = 12) : zS 229 105 [zR a0, u1, zI a2, zI a3, zI a4] [zR s0, zI s1, zR s2] sh pp mm Q ↔ zS 229 108 [zR a0, zU, zI a2, zI a3, zI a4] [zR (pp s0 30), zI s1, zR s2] sh pp mm Q := s_go cM_bendsFrom_105 cM_bendsFrom_108 (if_pos hk) rfl
theorem rM_bendsFrom_108 {a0 s0 s2 : Nat} {a2 a3 a4 s1 : Int} {u1 : zV} : zS 229 108 [zR a0, u1, zI a2, zI a3, zI a4] [zR s0, zI s1, zR s2] sh pp mm Q ↔ zS 229 109 [zR a0, zU, zI a2, zI a3, zI a4] [zI a2, zR s0, zI s1, zR s2] sh pp mm Q := s_go cM_bendsFrom_108 cM_bendsFrom_109 rfl rfl
theorem rM_bendsFrom_109 {a0 s1 s3 : Nat} {a2 a3 a4 s0 s2 : Int} {u1 : zV} (hk : zKd sh s1 = 20 ∨ zKd sh s1 = 30) (h0 : 0 ≤ s0) (h1 : s0 < zLn sh s1) : zS 229 109 [zR a0, u1, zI a2, zI a3, zI a4] [zI s0, zR s1, zI s2, zR s3] sh pp mm Q ↔ zS 229 110 [zR a0, zU, zI a2, zI a3, zI a4] [zI (mm s1 s0), zI s2, zR s3] sh pp mm Q := s_go cM_bendsFrom_109 cM_bendsFrom_110 (if_pos ⟨hk, h0, h1⟩) rfl
theorem rM_bendsFrom_110 {a0 s2 : Nat} {a2 a3 a4 s0 s1 : Int} {u1 : zV} (hk : zKd sh s2 = 12) : zS 229 110 [zR a0, u1, zI a2, zI a3, zI a4] [zI s0, zI s1, zR s2] sh pp mm Q ↔ zS 213 0 [zR s2, zI s1, zI s0] [] sh pp mm (fun v sh pp mm => zS 229 113 [zR a0, zU, zI a2, zI a3, zI a4] (zPush v []) sh pp mm Q) := s_call cM_bendsFrom_110 cM_bendsFrom_113 ((if_pos hk).trans rfl) rfl
theorem rM_bendsFrom_113 {a0 : Nat} {a2 a3 a4 s0 : Int} {u1 : zV} : zS 229 113 [zR a0, u1, zI a2, zI a3, zI a4] [zI s0] sh pp mm Q ↔ zS 229 114 [zR a0, zU, zI a2, zI a3, zI a4] [zI (-1), zI s0] sh pp mm Q := s_go cM_bendsFrom_113 cM_bendsFrom_114 rfl rfl
theorem rM_bendsFrom_114 {a0 : Nat} {a2 a3 a4 s0 s1 : Int} {u1 : zV} : zS 229 114 [zR a0, u1, zI a2, zI a3, zI a4] [zI s0, zI s1] sh pp mm Q ↔ (s1 = s0 → zS 229 125 [zR a0, zU, zI a2, zI a3, zI a4] [] sh pp mm Q) ∧ (¬ s1 = s0 → zS 229 117 [zR a0, zU, zI a2, zI a3, zI a4] [] sh pp mm Q) := s_if cM_bendsFrom_114 cM_bendsFrom_125 cM_bendsFrom_117 rfl rfl rfl
theorem rM_bendsFrom_117 {a0 : Nat} {a2 a3 a4 : Int} {u1 : zV} : zS 229 117 [zR a0, u1, zI a2, zI a3, zI a4] [] sh pp mm Q ↔ zS 229 118 [zR a0, zU, zI a2, zI a3, zI a4] [zR a0] sh pp mm Q := s_go cM_bendsFrom_117 cM_bendsFrom_118 rfl rfl
theorem rM_bendsFrom_118 {a0 s0 : Nat} {a2 a3 a4 : Int} {u1 : zV} : zS 229 118 [zR a0, u1, zI a2, zI a3, zI a4] [zR s0] sh pp mm Q ↔ zS 229 119 [zR a0, zU, zI a2, zI a3, zI a4] [zI a2, zR s0] sh pp mm Q := s_go cM_bendsFrom_118 cM_bendsFrom_119 rfl rfl
theorem rM_bendsFrom_119 {a0 s1 : Nat} {a2 a3 a4 s0 : Int} {u1 : zV} : zS 229 119 [zR a0, u1, zI a2, zI a3, zI a4] [zI s0, zR s1] sh pp mm Q ↔ zS 229 120 [zR a0, zU, zI a2, zI a3, zI a4] [zI a3, zI s0, zR s1] sh pp mm Q := s_go cM_bendsFrom_119 cM_bendsFrom_120 rfl rfl
theorem rM_bendsFrom_120 {a0 s2 : Nat} {a2 a3 a4 s0 s1 : Int} {u1 : zV} : zS 229 120 [zR a0, u1, zI a2, zI a3, zI a4] [zI s0, zI s1, zR s2] sh pp mm Q ↔ zS 229 122 [zR a0, zU, zI a2, zI a3, zI a4] [zI a4, zI s0, zI s1, zR s2] sh pp mm Q := s_go cM_bendsFrom_120 cM_bendsFrom_122 rfl rfl
theorem rM_bendsFrom_122 {a0 s3 : Nat} {a2 a3 a4 s0 s1 s2 : Int} {u1 : zV} (hk : zKd sh s3 = 12) : zS 229 122 [zR a0, u1, zI a2, zI a3, zI a4] [zI s0, zI s1, zI s2, zR s3] sh pp mm Q ↔ zS 228 0 [zR s3, zI s2, zI s1, zI s0, zU, zU, zU, zU, zU] [] sh pp mm (fun v sh pp mm => zS 229 125 [zR a0, zU, zI a2, zI a3, zI a4] (zPush v []) sh pp mm Q) := s_call cM_bendsFrom_122 cM_bendsFrom_125 ((if_pos hk).trans rfl) rfl
theorem rM_bendsFrom_125 {a0 : Nat} {a2 a3 a4 : Int} {u1 : zV} : zS 229 125 [zR a0, u1, zI a2, zI a3, zI a4] [] sh pp mm Q ↔ zS 229 128 [zR a0, zU, zI a2, zI a3, zI (zw32 (a4 + 1))] [] sh pp mm Q := s_go cM_bendsFrom_125 cM_bendsFrom_128 rfl rfl
theorem rM_bendsFrom_128 {a0 : Nat} {a2 a3 a4 : Int} {u1 : zV} : zS 229 128 [zR a0, u1, zI a2, zI a3, zI a4] [] sh pp mm Q ↔ zS 229 65 [zR a0, zU, zI a2, zI a3, zI a4] [] sh pp mm Q := s_go cM_bendsFrom_128 cM_bendsFrom_65 rfl rfl
theorem rM_bendsFrom_131 {a0 : Nat} {a2 a3 : Int} {u1 u4 : zV} : zS 229 131 [zR a0, u1, zI a2, zI a3, u4] [] sh pp mm Q ↔ zS 229 134 [zR a0, zU, zI a2, zI (zw32 (a3 + 1)), zU] [] sh pp mm Q := s_go cM_bendsFrom_131 cM_bendsFrom_134 rfl rfl
theorem rM_bendsFrom_134 {a0 : Nat} {a2 a3 : Int} {u1 u4 : zV} : zS 229 134 [zR a0, u1, zI a2, zI a3, u4] [] sh pp mm Q ↔ zS 229 56 [zR a0, zU, zI a2, zI a3, zU] [] sh pp mm Q := s_go cM_bendsFrom_134 cM_bendsFrom_56 rfl rfl
theorem rM_bendsFrom_137 {a0 : Nat} {a2 : Int} {u1 u3 u4 : zV} : zS 229 137 [zR a0, u1, zI a2, u3, u4] [] sh pp mm Q ↔ zS 229 140 [zR a0, zU, zI (zw32 (a2 + 1)), zU, zU] [] sh pp mm Q := s_go cM_bendsFrom_137 cM_bendsFrom_140 rfl rfl
theorem rM_bendsFrom_140 {a0 : Nat} {a2 : Int} {u1 u3 u4 : zV} : zS 229 140 [zR a0, u1, zI a2, u3, u4] [] sh pp mm Q ↔ zS 229 46 [zR a0, zU, zI a2, zU, zU] [] sh pp mm Q := s_go cM_bendsFrom_140 cM_bendsFrom_46 rfl rfl
theorem rM_bendsFrom_143 {a0 : Nat} {u1 u2 u3 u4 : zV} : zS 229 143 [zR a0, u1, u2, u3, u4] [] sh pp mm Q ↔ zS 229 146 [zR a0, zU, zU, zU, zU] [zI 1000000] sh pp mm Q := s_go cM_bendsFrom_143 cM_bendsFrom_146 rfl rfl
theorem rM_bendsFrom_146 {a0 : Nat} {s0 : Int} {u1 u2 u3 u4 : zV} : zS 229 146 [zR a0, u1, u2, u3, u4] [zI s0] sh pp mm Q ↔ zS 229 147 [zR a0, zU, zI s0, zU, zU] [] sh pp mm Q := s_go cM_bendsFrom_146 cM_bendsFrom_147 rfl rfl
theorem rM_bendsFrom_147 {a0 : Nat} {a2 : Int} {u1 u3 u4 : zV} : zS 229 147 [zR a0, u1, zI a2, u3, u4] [] sh pp mm Q ↔ zS 229 148 [zR a0, zU, zI a2, zU, zU] [zI 0] sh pp mm Q := s_go cM_bendsFrom_147 cM_bendsFrom_148 rfl rfl
theorem rM_bendsFrom_148 {a0 : Nat} {a2 s0 : Int} {u1 u3 u4 : zV} : zS 229 148 [zR a0, u1, zI a2, u3, u4] [zI s0] sh pp mm Q ↔ zS 229 149 [zR a0, zU, zI a2, zI s0, zU] [] sh pp mm Q := s_go cM_bendsFrom_148 cM_bendsFrom_149 rfl rfl
theorem rM_bendsFrom_149 {a0 : Nat} {a2 a3 : Int} {u1 u4 : zV} : zS 229 149 [zR a0, u1, zI a2, zI a3, u4] [] sh pp mm Q ↔ zS 229 150 [zR a0, zU, zI a2, zI a3, zU] [zI a3] sh pp mm Q := s_go cM_bendsFrom_149 cM_bendsFrom_150 rfl rfl
theorem rM_bendsFrom_150 {a0 : Nat} {a2 a3 s0 : Int} {u1 u4 : zV} : zS 229 150 [zR a0, u1, zI a2, zI a3, u4] [zI s0] sh pp mm Q ↔ zS 229 152 [zR a0, zU, zI a2, zI a3, zU] [zI 9, zI s0] sh pp mm Q := s_go cM_bendsFrom_150 cM_bendsFrom_152 rfl rfl
theorem rM_bendsFrom_152 {a0 : Nat} {a2 a3 s0 s1 : Int} {u1 u4 : zV} : zS 229 152 [zR a0, u1, zI a2, zI a3, u4] [zI s0, zI s1] sh pp mm Q ↔ (s1 < s0 → zS 229 155 [zR a0, zU, zI a2, zI a3, zU] [] sh pp mm Q) ∧ (¬ s1 < s0 → zS 229 190 [zU, zU, zI a2, zU, zU] [] sh pp mm Q) := s_ifn cM_bendsFrom_152 cM_bendsFrom_155 cM_bendsFrom_190 rfl rfl rfl
theorem rM_bendsFrom_155 {a0 : Nat} {a2 a3 : Int} {u1 u4 : zV} : zS 229 155 [zR a0, u1, zI a2, zI a3, u4] [] sh pp mm Q ↔ zS 229 156 [zR a0, zU, zI a2, zI a3, zU] [zR a0] sh pp mm Q := s_go cM_bendsFrom_155 cM_bendsFrom_156 rfl rfl
theorem rM_bendsFrom_156 {a0 s0 : Nat} {a2 a3 : Int} {u1 u4 : zV} (hk : zKd sh s0 = 12) : zS 229 156 [zR a0, u1, zI a2, zI a3, u4] [zR s0] sh pp mm Q ↔ zS 229 159 [zR a0, zU, zI a2, zI a3, zU] [zR (pp s0 34)] sh pp mm Q := s_go cM_bendsFrom_156 cM_bendsFrom_159 (if_pos hk) rfl
theorem rM_bendsFrom_159 {a0 s0 : Nat} {a2 a3 : Int} {u1 u4 : zV} : zS 229 159 [zR a0, u1, zI a2, zI a3, u4] [zR s0] sh pp mm Q ↔ zS 229 161 [zR a0, zU, zI a2, zI a3, zU] [zI 9, zR s0] sh pp mm Q := s_go cM_bendsFrom_159 cM_bendsFrom_161 rfl rfl
theorem rM_bendsFrom_161 {a0 s1 : Nat} {a2 a3 s0 : Int} {u1 u4 : zV} : zS 229 161 [zR a0, u1, zI a2, zI a3, u4] [zI s0, zR s1] sh pp mm Q ↔ zS 229 162 [zR a0, zU, zI a2, zI a3, zU] [zR a0, zI s0, zR s1] sh pp mm Q := s_go cM_bendsFrom_161 cM_bendsFrom_162 rfl rfl
theorem rM_bendsFrom_162 {a0 s0 s2 : Nat} {a2 a3 s1 : Int} {u1 u4 : zV} (hk : zKd sh s0 = 12) : zS 229 162 [zR a0, u1, zI a2, zI a3, u4] [zR s0, zI s1, zR s2] sh pp mm Q ↔ zS 215 0 [zR s0] [] sh pp mm (fun v sh pp mm => zS 229 165 [zR a0, zU, zI a2, zI a3, zU] (zPush v [zI s1, zR s2]) sh pp mm Q) := s_call cM_bendsFrom_162 cM_bendsFrom_165 ((if_pos hk).trans rfl) rfl
theorem rM_bendsFrom_165 {a0 s2 : Nat} {a2 a3 s0 s1 : Int} {u1 u4 : zV} : zS 229 165 [zR a0, u1, zI a2, zI a3, u4] [zI s0, zI s1, zR s2] sh pp mm Q ↔ zS 229 166 [zR a0, zU, zI a2, zI a3, zU] [zI (zw32 (s1 * s0)), zR s2] sh pp mm Q := s_go cM_bendsFrom_165 cM_bendsFrom_166 rfl rfl
theorem rM_bendsFrom_166 {a0 s1 : Nat} {a2 a3 s0 : Int} {u1 u4 : zV} : zS 229 166 [zR a0, u1, zI a2, zI a3, u4] [zI s0, zR s1] sh pp mm Q ↔ zS 229 167 [zR a0, zU, zI a2, zI a3, zU] [zI a3, zI s0, zR s1] sh pp mm Q := s_go cM_bendsFrom_166 cM_bendsFrom_167 rfl rfl
theorem rM_bendsFrom_167 {a0 s2 : Nat} {a2 a3 s0 s1 : Int} {u1 u4 : zV} : zS 229 167 [zR a0, u1, zI a2, zI a3, u4] [zI s0, zI s1, zR s2] sh pp mm Q ↔ zS 229 168 [zR a0, zU, zI a2, zI a3, zU] [zI (zw32 (s1 + s0)), zR s2] sh pp mm Q := s_go cM_bendsFrom_167 cM_bendsFrom_168 rfl rfl
theorem rM_bendsFrom_168 {a0 s1 : Nat} {a2 a3 s0 : Int} {u1 u4 : zV} (hk : zKd sh s1 = 20 ∨ zKd sh s1 = 30) (h0 : 0 ≤ s0) (h1 : s0 < zLn sh s1) : zS 229 168 [zR a0, u1, zI a2, zI a3, u4] [zI s0, zR s1] sh pp mm Q ↔ zS 229 169 [zR a0, zU, zI a2, zI a3, zU] [zI (mm s1 s0)] sh pp mm Q := s_go cM_bendsFrom_168 cM_bendsFrom_169 (if_pos ⟨hk, h0, h1⟩) rfl
theorem rM_bendsFrom_169 {a0 : Nat} {a2 a3 s0 : Int} {u1 u4 : zV} : zS 229 169 [zR a0, u1, zI a2, zI a3, u4] [zI s0] sh pp mm Q ↔ zS 229 171 [zR a0, zU, zI a2, zI a3, zI s0] [] sh pp mm Q := s_go cM_bendsFrom_169 cM_bendsFrom_171 rfl rfl
theorem rM_bendsFrom_171 {a0 : Nat} {a2 a3 a4 : Int} {u1 : zV} : zS 229 171 [zR a0, u1, zI a2, zI a3, zI a4] [] sh pp mm Q ↔ zS 229 173 [zR a0, zU, zI a2, zI a3, zI a4] [zI a4] sh pp mm Q := s_go cM_bendsFrom_171 cM_bendsFrom_173 rfl rfl
theorem rM_bendsFrom_173 {a0 : Nat} {a2 a3 a4 s0 : Int} {u1 : zV} : zS 229 173 [zR a0, u1, zI a2, zI a3, zI a4] [zI s0] sh pp mm Q ↔ zS 229 174 [zR a0, zU, zI a2, zI a3, zI a4] [zI a2, zI s0] sh pp mm Q := s_go cM_bendsFrom_173 cM_bendsFrom_174 rfl rfl
theorem rM_bendsFrom_174 {a0 : Nat} {a2 a3 a4 s0 s1 : Int} {u1 : zV} : zS 229 174 [zR a0, u1, zI a2, zI a3, zI a4] [zI s0, zI s1] sh pp mm Q ↔ (s1 < s0 → zS 229 177 [zR a0, zU, zU, zI a3, zI a4] [] sh pp mm Q) ∧ (¬ s1 < s0 → zS 229 182 [zR a0, zU, zI a2, zI a3, zU] [] sh pp mm Q) := s_ifn cM_bendsFrom_174 cM_bendsFrom_177 cM_bendsFrom_182 rfl rfl rfl
theorem rM_bendsFrom_177 {a0 : Nat} {a3 a4 : Int} {u1 u2 : zV} : zS 229 177 [zR a0, u1, u2, zI a3, zI a4] [] sh pp mm Q ↔ zS 229 179 [zR a0, zU, zU, zI a3, zU] [zI a4] sh pp mm Q := s_go cM_bendsFrom_177 cM_bendsFrom_179 rfl rfl
theorem rM_bendsFrom_179 {a0 : Nat} {a3 s0 : Int} {u1 u2 u4 : zV} : zS 229 179 [zR a0, u1, u2, zI a3, u4] [zI s0] sh pp mm Q ↔ zS 229 183 [zR a0, zU, zU, zI a3, zU] [zI s0] sh pp mm Q := s_go cM_bendsFrom_179 cM_bendsFrom_183 rfl rfl
theorem rM_bendsFrom_182 {a0 : Nat} {a2 a3 : Int} {u1 u4 : zV} : zS 229 182 [zR a0, u1, zI a2, zI a3, u4] [] sh pp mm Q ↔ zS 229 183 [zR a0, zU, zU, zI a3, zU] [zI a2] sh pp mm Q := s_go cM_bendsFrom_182 cM_bendsFrom_183 rfl rfl
theorem rM_bendsFrom_183 {a0 : Nat} {a3 s0 : Int} {u1 u2 u4 : zV} : zS 229 183 [zR a0, u1, u2, zI a3, u4] [zI s0] sh pp mm Q ↔ zS 229 184 [zR a0, zU, zI s0, zI a3, zU] [] sh pp mm Q := s_go cM_bendsFrom_183 cM_bendsFrom_184 rfl rfl
theorem rM_bendsFrom_184 {a0 : Nat} {a2 a3 : Int} {u1 u4 : zV} : zS 229 184 [zR a0, u1, zI a2, zI a3, u4] [] sh pp mm Q ↔ zS 229 187 [zR a0, zU, zI a2, zI (zw32 (a3 + 1)), zU] [] sh pp mm Q := s_go cM_bendsFrom_184 cM_bendsFrom_187 rfl rfl
theorem rM_bendsFrom_187 {a0 : Nat} {a2 a3 : Int} {u1 u4 : zV} : zS 229 187 [zR a0, u1, zI a2, zI a3, u4] [] sh pp mm Q ↔ zS 229 149 [zR a0, zU, zI a2, zI a3, zU] [] sh pp mm Q := s_go cM_bendsFrom_187 cM_bendsFrom_149 rfl rfl
theorem rM_bendsFrom_190 {a2 : Int} {u0 u1 u3 u4 : zV} : zS 229 190 [u0, u1, zI a2, u3, u4] [] sh pp mm Q ↔ zS 229 191 [zU, zU, zU, zU, zU] [zI a2] sh pp mm Q := s_go cM_bendsFrom_190 cM_bendsFrom_191 rfl rfl
theorem rM_bendsFrom_191 {s0 : Int} {u0 u1 u2 u3 u4 : zV} : zS 229 191 [u0, u1, u2, u3, u4] [zI s0] sh pp mm Q ↔ Q (zI s0) sh pp mm := s_ret cM_bendsFrom_191 rfl
theorem cAM_bends : ∀ q ∈ zT230, zCode 230 q.1 = some q.2 := zAll (mid := 230) rfl (by decide +kernel)
theorem cAM_bends_0 : ∀ q ∈ zT230_0, zCode 230 q.1 = some q.2 := fun q h => cAM_bends q (List.mem_append_left _ h)
theorem cAM_bends_1 : ∀ q ∈ zT230_1, zCode 230 q.1 = some q.2 := fun q h => cAM_bends q (List.mem_append_right _ (List.mem_append_left _ h))
theorem cAM_bends_2 : ∀ q ∈ zT230_2, zCode 230 q.1 = some q.2 := fun q h => cAM_bends q (List.mem_append_right _ (List.mem_append_right _ h))
theorem cM_bends_0 : zCode 230 0 = some (.aload_n 0, 1, 0, 0, 0, 0, 1) := cAM_bends_0 _ (List.mem_of_getElem? (i := 0) rfl)
theorem cM_bends_1 : zCode 230 1 = some (.invokevirtual 309, 4, 218, 0, 1, 12, 1) := cAM_bends_0 _ (List.mem_of_getElem? (i := 1) rfl)
theorem cM_bends_4 : zCode 230 4 = some (.ifCond .eq 11, 7, 15, 0, 0, 0, 1) := cAM_bends_0 _ (List.mem_of_getElem? (i := 2) rfl)
theorem cM_bends_7 : zCode 230 7 = some (.aload_n 0, 8, 0, 0, 0, 0, 1) := cAM_bends_0 _ (List.mem_of_getElem? (i := 3) rfl)
theorem cM_bends_8 : zCode 230 8 = some (.iconst 2, 9, 0, 0, 0, 0, 1) := cAM_bends_0 _ (List.mem_of_getElem? (i := 4) rfl)
theorem cM_bends_9 : zCode 230 9 = some (.invokevirtual 288, 12, 169, 1, 2, 12, 1) := cAM_bends_0 _ (List.mem_of_getElem? (i := 5) rfl)
theorem cM_bends_12 : zCode 230 12 = some (.ifCond .ne 10, 15, 22, 0, 0, 0, 1) := cAM_bends_0 _ (List.mem_of_getElem? (i := 6) rfl)
theorem cM_bends_15 : zCode 230 15 = some (.aload_n 0, 16, 0, 0, 0, 0, 1) := cAM_bends_0 _ (List.mem_of_getElem? (i := 7) rfl)
theorem cM_bends_16 : zCode 230 16 = some (.bipush (-3), 18, 0, 0, 0, 0, 0) := cAM_bends_0 _ (List.mem_of_getElem? (i := 8) rfl)
theorem cM_bends_18 : zCode 230 18 = some (.invokevirtual 265, 21, 153, 1, 2, 12, 0) := cAM_bends_0 _ (List.mem_of_getElem? (i := 9) rfl)
theorem cM_bends_21 : zCode 230 21 = some (.ireturn, 22, 0, 0, 0, 0, 0) := cAM_bends_0 _ (List.mem_of_getElem? (i := 10) rfl)
theorem cM_bends_22 : zCode 230 22 = some (.ldc_w 331, 25, 0, 0, 1577, 1000000, 1) := cAM_bends_0 _ (List.mem_of_getElem? (i := 11) rfl)
theorem cM_bends_25 : zCode 230 25 = some (.istore_n 1, 26, 0, 0, 0, 0, 1) := cAM_bends_0 _ (List.mem_of_getElem? (i := 12) rfl)
theorem cM_bends_26 : zCode 230 26 = some (.iconst 0, 27, 0, 0, 0, 0, 3) := cAM_bends_0 _ (List.mem_of_getElem? (i := 13) rfl)
theorem cM_bends_27 : zCode 230 27 = some (.istore_n 2, 28, 0, 0, 0, 0, 3) := cAM_bends_0 _ (List.mem_of_getElem? (i := 14) rfl)
theorem cM_bends_28 : zCode 230 28 = some (.iload_n 2, 29, 0, 0, 0, 0, 7) := cAM_bends_0 _ (List.mem_of_getElem? (i := 15) rfl)
theorem cM_bends_29 : zCode 230 29 = some (.aload_n 0, 30, 0, 0, 0, 0, 7) := cAM_bends_1 _ (List.mem_of_getElem? (i := 0) rfl)
theorem cM_bends_30 : zCode 230 30 = some (.iconst 1, 31, 0, 0, 0, 0, 7) := cAM_bends_1 _ (List.mem_of_getElem? (i := 1) rfl)
theorem cM_bends_31 : zCode 230 31 = some (.invokevirtual 288, 34, 169, 1, 2, 12, 7) := cAM_bends_1 _ (List.mem_of_getElem? (i := 2) rfl)
theorem cM_bends_34 : zCode 230 34 = some (.if_icmp .ge 26, 37, 60, 0, 0, 0, 7) := cAM_bends_1 _ (List.mem_of_getElem? (i := 3) rfl)
theorem cM_bends_37 : zCode 230 37 = some (.aload_n 0, 38, 0, 0, 0, 0, 7) := cAM_bends_1 _ (List.mem_of_getElem? (i := 4) rfl)
theorem cM_bends_38 : zCode 230 38 = some (.iload_n 2, 39, 0, 0, 0, 0, 7) := cAM_bends_1 _ (List.mem_of_getElem? (i := 5) rfl)
theorem cM_bends_39 : zCode 230 39 = some (.invokevirtual 336, 42, 229, 1, 5, 12, 7) := cAM_bends_1 _ (List.mem_of_getElem? (i := 6) rfl)
theorem cM_bends_42 : zCode 230 42 = some (.istore_n 3, 43, 0, 0, 0, 0, 7) := cAM_bends_1 _ (List.mem_of_getElem? (i := 7) rfl)
theorem cM_bends_43 : zCode 230 43 = some (.iload_n 3, 44, 0, 0, 0, 0, 15) := cAM_bends_1 _ (List.mem_of_getElem? (i := 8) rfl)
theorem cM_bends_44 : zCode 230 44 = some (.iload_n 1, 45, 0, 0, 0, 0, 15) := cAM_bends_1 _ (List.mem_of_getElem? (i := 9) rfl)
theorem cM_bends_45 : zCode 230 45 = some (.if_icmp .ge 7, 48, 52, 0, 0, 0, 15) := cAM_bends_1 _ (List.mem_of_getElem? (i := 10) rfl)
theorem cM_bends_48 : zCode 230 48 = some (.iload_n 3, 49, 0, 0, 0, 0, 13) := cAM_bends_1 _ (List.mem_of_getElem? (i := 11) rfl)
theorem cM_bends_49 : zCode 230 49 = some (.goto 4, 52, 53, 0, 0, 0, 5) := cAM_bends_1 _ (List.mem_of_getElem? (i := 12) rfl)
theorem cM_bends_52 : zCode 230 52 = some (.iload_n 1, 53, 0, 0, 0, 0, 7) := cAM_bends_1 _ (List.mem_of_getElem? (i := 13) rfl)
theorem cM_bends_53 : zCode 230 53 = some (.istore_n 1, 54, 0, 0, 0, 0, 5) := cAM_bends_1 _ (List.mem_of_getElem? (i := 14) rfl)
theorem cM_bends_54 : zCode 230 54 = some (.iinc 2 1, 57, 0, 0, 0, 0, 7) := cAM_bends_1 _ (List.mem_of_getElem? (i := 15) rfl)
theorem cM_bends_57 : zCode 230 57 = some (.goto (-29), 60, 28, 0, 0, 0, 7) := cAM_bends_2 _ (List.mem_of_getElem? (i := 0) rfl)
theorem cM_bends_60 : zCode 230 60 = some (.iload_n 1, 61, 0, 0, 0, 0, 2) := cAM_bends_2 _ (List.mem_of_getElem? (i := 1) rfl)
theorem cM_bends_61 : zCode 230 61 = some (.ireturn, 62, 0, 0, 0, 0, 0) := cAM_bends_2 _ (List.mem_of_getElem? (i := 2) rfl)
theorem rM_bends_0 {a0 : Nat} {u1 u2 u3 : zV} : zS 230 0 [zR a0, u1, u2, u3] [] sh pp mm Q ↔ zS 230 1 [zR a0, zU, zU, zU] [zR a0] sh pp mm Q := s_go cM_bends_0 cM_bends_1 rfl rfl
theorem rM_bends_1 {a0 s0 : Nat} {u1 u2 u3 : zV} (hk : zKd sh s0 = 12) : zS 230 1 [zR a0, u1, u2, u3] [zR s0] sh pp mm Q ↔ zS 218 0 [zR s0] [] sh pp mm (fun v sh pp mm => zS 230 4 [zR a0, zU, zU, zU] (zPush v []) sh pp mm Q) := s_call cM_bends_1 cM_bends_4 ((if_pos hk).trans rfl) rfl
theorem rM_bends_4 {a0 : Nat} {s0 : Int} {u1 u2 u3 : zV} : zS 230 4 [zR a0, u1, u2, u3] [zI s0] sh pp mm Q ↔ (s0 = 0 → zS 230 15 [zR a0, zU, zU, zU] [] sh pp mm Q) ∧ (¬ s0 = 0 → zS 230 7 [zR a0, zU, zU, zU] [] sh pp mm Q) := s_if cM_bends_4 cM_bends_15 cM_bends_7 rfl rfl rfl
theorem rM_bends_7 {a0 : Nat} {u1 u2 u3 : zV} : zS 230 7 [zR a0, u1, u2, u3] [] sh pp mm Q ↔ zS 230 8 [zR a0, zU, zU, zU] [zR a0] sh pp mm Q := s_go cM_bends_7 cM_bends_8 rfl rfl
theorem rM_bends_8 {a0 s0 : Nat} {u1 u2 u3 : zV} : zS 230 8 [zR a0, u1, u2, u3] [zR s0] sh pp mm Q ↔ zS 230 9 [zR a0, zU, zU, zU] [zI 2, zR s0] sh pp mm Q := s_go cM_bends_8 cM_bends_9 rfl rfl
theorem rM_bends_9 {a0 s1 : Nat} {s0 : Int} {u1 u2 u3 : zV} (hk : zKd sh s1 = 12) : zS 230 9 [zR a0, u1, u2, u3] [zI s0, zR s1] sh pp mm Q ↔ zS 169 0 [zR s1, zI s0] [] sh pp mm (fun v sh pp mm => zS 230 12 [zR a0, zU, zU, zU] (zPush v []) sh pp mm Q) := s_call cM_bends_9 cM_bends_12 ((if_pos hk).trans rfl) rfl
theorem rM_bends_12 {a0 : Nat} {s0 : Int} {u1 u2 u3 : zV} : zS 230 12 [zR a0, u1, u2, u3] [zI s0] sh pp mm Q ↔ (s0 = 0 → zS 230 15 [zR a0, zU, zU, zU] [] sh pp mm Q) ∧ (¬ s0 = 0 → zS 230 22 [zR a0, zU, zU, zU] [] sh pp mm Q) := s_ifn cM_bends_12 cM_bends_15 cM_bends_22 rfl rfl rfl
theorem rM_bends_15 {a0 : Nat} {u1 u2 u3 : zV} : zS 230 15 [zR a0, u1, u2, u3] [] sh pp mm Q ↔ zS 230 16 [zU, zU, zU, zU] [zR a0] sh pp mm Q := s_go cM_bends_15 cM_bends_16 rfl rfl
theorem rM_bends_16 {s0 : Nat} {u0 u1 u2 u3 : zV} : zS 230 16 [u0, u1, u2, u3] [zR s0] sh pp mm Q ↔ zS 230 18 [zU, zU, zU, zU] [zI (-3), zR s0] sh pp mm Q := s_go cM_bends_16 cM_bends_18 rfl rfl
theorem rM_bends_18 {s1 : Nat} {s0 : Int} {u0 u1 u2 u3 : zV} (hk : zKd sh s1 = 12) : zS 230 18 [u0, u1, u2, u3] [zI s0, zR s1] sh pp mm Q ↔ zS 153 0 [zR s1, zI s0] [] sh pp mm (fun v sh pp mm => zS 230 21 [zU, zU, zU, zU] (zPush v []) sh pp mm Q) := s_call cM_bends_18 cM_bends_21 ((if_pos hk).trans rfl) rfl
theorem rM_bends_21 {s0 : Int} {u0 u1 u2 u3 : zV} : zS 230 21 [u0, u1, u2, u3] [zI s0] sh pp mm Q ↔ Q (zI s0) sh pp mm := s_ret cM_bends_21 rfl
theorem rM_bends_22 {a0 : Nat} {u1 u2 u3 : zV} : zS 230 22 [zR a0, u1, u2, u3] [] sh pp mm Q ↔ zS 230 25 [zR a0, zU, zU, zU] [zI 1000000] sh pp mm Q := s_go cM_bends_22 cM_bends_25 rfl rfl
theorem rM_bends_25 {a0 : Nat} {s0 : Int} {u1 u2 u3 : zV} : zS 230 25 [zR a0, u1, u2, u3] [zI s0] sh pp mm Q ↔ zS 230 26 [zR a0, zI s0, zU, zU] [] sh pp mm Q := s_go cM_bends_25 cM_bends_26 rfl rfl
theorem rM_bends_26 {a0 : Nat} {a1 : Int} {u2 u3 : zV} : zS 230 26 [zR a0, zI a1, u2, u3] [] sh pp mm Q ↔ zS 230 27 [zR a0, zI a1, zU, zU] [zI 0] sh pp mm Q := s_go cM_bends_26 cM_bends_27 rfl rfl
theorem rM_bends_27 {a0 : Nat} {a1 s0 : Int} {u2 u3 : zV} : zS 230 27 [zR a0, zI a1, u2, u3] [zI s0] sh pp mm Q ↔ zS 230 28 [zR a0, zI a1, zI s0, zU] [] sh pp mm Q := s_go cM_bends_27 cM_bends_28 rfl rfl
theorem rM_bends_28 {a0 : Nat} {a1 a2 : Int} {u3 : zV} : zS 230 28 [zR a0, zI a1, zI a2, u3] [] sh pp mm Q ↔ zS 230 29 [zR a0, zI a1, zI a2, zU] [zI a2] sh pp mm Q := s_go cM_bends_28 cM_bends_29 rfl rfl
theorem rM_bends_29 {a0 : Nat} {a1 a2 s0 : Int} {u3 : zV} : zS 230 29 [zR a0, zI a1, zI a2, u3] [zI s0] sh pp mm Q ↔ zS 230 30 [zR a0, zI a1, zI a2, zU] [zR a0, zI s0] sh pp mm Q := s_go cM_bends_29 cM_bends_30 rfl rfl
theorem rM_bends_30 {a0 s0 : Nat} {a1 a2 s1 : Int} {u3 : zV} : zS 230 30 [zR a0, zI a1, zI a2, u3] [zR s0, zI s1] sh pp mm Q ↔ zS 230 31 [zR a0, zI a1, zI a2, zU] [zI 1, zR s0, zI s1] sh pp mm Q := s_go cM_bends_30 cM_bends_31 rfl rfl
theorem rM_bends_31 {a0 s1 : Nat} {a1 a2 s0 s2 : Int} {u3 : zV} (hk : zKd sh s1 = 12) : zS 230 31 [zR a0, zI a1, zI a2, u3] [zI s0, zR s1, zI s2] sh pp mm Q ↔ zS 169 0 [zR s1, zI s0] [] sh pp mm (fun v sh pp mm => zS 230 34 [zR a0, zI a1, zI a2, zU] (zPush v [zI s2]) sh pp mm Q) := s_call cM_bends_31 cM_bends_34 ((if_pos hk).trans rfl) rfl
theorem rM_bends_34 {a0 : Nat} {a1 a2 s0 s1 : Int} {u3 : zV} : zS 230 34 [zR a0, zI a1, zI a2, u3] [zI s0, zI s1] sh pp mm Q ↔ (s1 < s0 → zS 230 37 [zR a0, zI a1, zI a2, zU] [] sh pp mm Q) ∧ (¬ s1 < s0 → zS 230 60 [zU, zI a1, zU, zU] [] sh pp mm Q) := s_ifn cM_bends_34 cM_bends_37 cM_bends_60 rfl rfl rfl
theorem rM_bends_37 {a0 : Nat} {a1 a2 : Int} {u3 : zV} : zS 230 37 [zR a0, zI a1, zI a2, u3] [] sh pp mm Q ↔ zS 230 38 [zR a0, zI a1, zI a2, zU] [zR a0] sh pp mm Q := s_go cM_bends_37 cM_bends_38 rfl rfl
theorem rM_bends_38 {a0 s0 : Nat} {a1 a2 : Int} {u3 : zV} : zS 230 38 [zR a0, zI a1, zI a2, u3] [zR s0] sh pp mm Q ↔ zS 230 39 [zR a0, zI a1, zI a2, zU] [zI a2, zR s0] sh pp mm Q := s_go cM_bends_38 cM_bends_39 rfl rfl
theorem rM_bends_39 {a0 s1 : Nat} {a1 a2 s0 : Int} {u3 : zV} (hk : zKd sh s1 = 12) : zS 230 39 [zR a0, zI a1, zI a2, u3] [zI s0, zR s1] sh pp mm Q ↔ zS 229 0 [zR s1, zI s0, zU, zU, zU] [] sh pp mm (fun v sh pp mm => zS 230 42 [zR a0, zI a1, zI a2, zU] (zPush v []) sh pp mm Q) := s_call cM_bends_39 cM_bends_42 ((if_pos hk).trans rfl) rfl
theorem rM_bends_42 {a0 : Nat} {a1 a2 s0 : Int} {u3 : zV} : zS 230 42 [zR a0, zI a1, zI a2, u3] [zI s0] sh pp mm Q ↔ zS 230 43 [zR a0, zI a1, zI a2, zI s0] [] sh pp mm Q := s_go cM_bends_42 cM_bends_43 rfl rfl
theorem rM_bends_43 {a0 : Nat} {a1 a2 a3 : Int} : zS 230 43 [zR a0, zI a1, zI a2, zI a3] [] sh pp mm Q ↔ zS 230 44 [zR a0, zI a1, zI a2, zI a3] [zI a3] sh pp mm Q := s_go cM_bends_43 cM_bends_44 rfl rfl
theorem rM_bends_44 {a0 : Nat} {a1 a2 a3 s0 : Int} : zS 230 44 [zR a0, zI a1, zI a2, zI a3] [zI s0] sh pp mm Q ↔ zS 230 45 [zR a0, zI a1, zI a2, zI a3] [zI a1, zI s0] sh pp mm Q := s_go cM_bends_44 cM_bends_45 rfl rfl
theorem rM_bends_45 {a0 : Nat} {a1 a2 a3 s0 s1 : Int} : zS 230 45 [zR a0, zI a1, zI a2, zI a3] [zI s0, zI s1] sh pp mm Q ↔ (s1 < s0 → zS 230 48 [zR a0, zU, zI a2, zI a3] [] sh pp mm Q) ∧ (¬ s1 < s0 → zS 230 52 [zR a0, zI a1, zI a2, zU] [] sh pp mm Q) := s_ifn cM_bends_45 cM_bends_48 cM_bends_52 rfl rfl rfl
theorem rM_bends_48 {a0 : Nat} {a2 a3 : Int} {u1 : zV} : zS 230 48 [zR a0, u1, zI a2, zI a3] [] sh pp mm Q ↔ zS 230 49 [zR a0, zU, zI a2, zU] [zI a3] sh pp mm Q := s_go cM_bends_48 cM_bends_49 rfl rfl
theorem rM_bends_49 {a0 : Nat} {a2 s0 : Int} {u1 u3 : zV} : zS 230 49 [zR a0, u1, zI a2, u3] [zI s0] sh pp mm Q ↔ zS 230 53 [zR a0, zU, zI a2, zU] [zI s0] sh pp mm Q := s_go cM_bends_49 cM_bends_53 rfl rfl
theorem rM_bends_52 {a0 : Nat} {a1 a2 : Int} {u3 : zV} : zS 230 52 [zR a0, zI a1, zI a2, u3] [] sh pp mm Q ↔ zS 230 53 [zR a0, zU, zI a2, zU] [zI a1] sh pp mm Q := s_go cM_bends_52 cM_bends_53 rfl rfl
theorem rM_bends_53 {a0 : Nat} {a2 s0 : Int} {u1 u3 : zV} : zS 230 53 [zR a0, u1, zI a2, u3] [zI s0] sh pp mm Q ↔ zS 230 54 [zR a0, zI s0, zI a2, zU] [] sh pp mm Q := s_go cM_bends_53 cM_bends_54 rfl rfl
theorem rM_bends_54 {a0 : Nat} {a1 a2 : Int} {u3 : zV} : zS 230 54 [zR a0, zI a1, zI a2, u3] [] sh pp mm Q ↔ zS 230 57 [zR a0, zI a1, zI (zw32 (a2 + 1)), zU] [] sh pp mm Q := s_go cM_bends_54 cM_bends_57 rfl rfl
theorem rM_bends_57 {a0 : Nat} {a1 a2 : Int} {u3 : zV} : zS 230 57 [zR a0, zI a1, zI a2, u3] [] sh pp mm Q ↔ zS 230 28 [zR a0, zI a1, zI a2, zU] [] sh pp mm Q := s_go cM_bends_57 cM_bends_28 rfl rfl
theorem rM_bends_60 {a1 : Int} {u0 u2 u3 : zV} : zS 230 60 [u0, zI a1, u2, u3] [] sh pp mm Q ↔ zS 230 61 [zU, zU, zU, zU] [zI a1] sh pp mm Q := s_go cM_bends_60 cM_bends_61 rfl rfl
theorem rM_bends_61 {s0 : Int} {u0 u1 u2 u3 : zV} : zS 230 61 [u0, u1, u2, u3] [zI s0] sh pp mm Q ↔ Q (zI s0) sh pp mm := s_ret cM_bends_61 rfl
theorem cAM_priceOf : ∀ q ∈ zT231, zCode 231 q.1 = some q.2 := zAll (mid := 231) rfl (by decide +kernel)
theorem cAM_priceOf_0 : ∀ q ∈ zT231_0, zCode 231 q.1 = some q.2 := fun q h => cAM_priceOf q (List.mem_append_left _ h)
theorem cAM_priceOf_1 : ∀ q ∈ zT231_1, zCode 231 q.1 = some q.2 := fun q h => cAM_priceOf q (List.mem_append_right _ (List.mem_append_left _ h))
theorem cAM_priceOf_2 : ∀ q ∈ zT231_2, zCode 231 q.1 = some q.2 := fun q h => cAM_priceOf q (List.mem_append_right _ (List.mem_append_right _ h))
theorem cM_priceOf_0 : zCode 231 0 = some (.aload_n 0, 1, 0, 0, 0, 0, 3) := cAM_priceOf_0 _ (List.mem_of_getElem? (i := 0) rfl)
theorem cM_priceOf_1 : zCode 231 1 = some (.iload_n 1, 2, 0, 0, 0, 0, 3) := cAM_priceOf_0 _ (List.mem_of_getElem? (i := 1) rfl)
theorem cM_priceOf_2 : zCode 231 2 = some (.aload_n 0, 3, 0, 0, 0, 0, 3) := cAM_priceOf_0 _ (List.mem_of_getElem? (i := 2) rfl)
theorem cM_priceOf_3 : zCode 231 3 = some (.iload_n 1, 4, 0, 0, 0, 0, 3) := cAM_priceOf_0 _ (List.mem_of_getElem? (i := 3) rfl)
theorem cM_priceOf_4 : zCode 231 4 = some (.iconst 0, 5, 0, 0, 0, 0, 3) := cAM_priceOf_0 _ (List.mem_of_getElem? (i := 4) rfl)
theorem cM_priceOf_5 : zCode 231 5 = some (.invokevirtual 294, 8, 212, 2, 3, 12, 3) := cAM_priceOf_0 _ (List.mem_of_getElem? (i := 5) rfl)
theorem cM_priceOf_8 : zCode 231 8 = some (.iconst 0, 9, 0, 0, 0, 0, 3) := cAM_priceOf_0 _ (List.mem_of_getElem? (i := 6) rfl)
theorem cM_priceOf_9 : zCode 231 9 = some (.invokevirtual 327, 12, 227, 3, 4, 12, 3) := cAM_priceOf_0 _ (List.mem_of_getElem? (i := 7) rfl)
theorem cM_priceOf_12 : zCode 231 12 = some (.invokestatic 229, 15, 190, 1, 1, 12, 3) := cAM_priceOf_0 _ (List.mem_of_getElem? (i := 8) rfl)
theorem cM_priceOf_15 : zCode 231 15 = some (.istore_n 2, 16, 0, 0, 0, 0, 3) := cAM_priceOf_0 _ (List.mem_of_getElem? (i := 9) rfl)
theorem cM_priceOf_16 : zCode 231 16 = some (.aload_n 0, 17, 0, 0, 0, 0, 7) := cAM_priceOf_0 _ (List.mem_of_getElem? (i := 10) rfl)
theorem cM_priceOf_17 : zCode 231 17 = some (.iload_n 1, 18, 0, 0, 0, 0, 7) := cAM_priceOf_0 _ (List.mem_of_getElem? (i := 11) rfl)
theorem cM_priceOf_18 : zCode 231 18 = some (.aload_n 0, 19, 0, 0, 0, 0, 7) := cAM_priceOf_0 _ (List.mem_of_getElem? (i := 12) rfl)
theorem cM_priceOf_19 : zCode 231 19 = some (.iload_n 1, 20, 0, 0, 0, 0, 7) := cAM_priceOf_0 _ (List.mem_of_getElem? (i := 13) rfl)
theorem cM_priceOf_20 : zCode 231 20 = some (.iconst 0, 21, 0, 0, 0, 0, 7) := cAM_priceOf_0 _ (List.mem_of_getElem? (i := 14) rfl)
theorem cM_priceOf_21 : zCode 231 21 = some (.invokevirtual 294, 24, 212, 2, 3, 12, 7) := cAM_priceOf_0 _ (List.mem_of_getElem? (i := 15) rfl)
theorem cM_priceOf_24 : zCode 231 24 = some (.iconst 1, 25, 0, 0, 0, 0, 7) := cAM_priceOf_1 _ (List.mem_of_getElem? (i := 0) rfl)
theorem cM_priceOf_25 : zCode 231 25 = some (.invokevirtual 327, 28, 227, 3, 4, 12, 7) := cAM_priceOf_1 _ (List.mem_of_getElem? (i := 1) rfl)
theorem cM_priceOf_28 : zCode 231 28 = some (.invokestatic 229, 31, 190, 1, 1, 12, 7) := cAM_priceOf_1 _ (List.mem_of_getElem? (i := 2) rfl)
theorem cM_priceOf_31 : zCode 231 31 = some (.istore_n 3, 32, 0, 0, 0, 0, 7) := cAM_priceOf_1 _ (List.mem_of_getElem? (i := 3) rfl)
theorem cM_priceOf_32 : zCode 231 32 = some (.iload_n 2, 33, 0, 0, 0, 0, 15) := cAM_priceOf_1 _ (List.mem_of_getElem? (i := 4) rfl)
theorem cM_priceOf_33 : zCode 231 33 = some (.iload_n 3, 34, 0, 0, 0, 0, 11) := cAM_priceOf_1 _ (List.mem_of_getElem? (i := 5) rfl)
theorem cM_priceOf_34 : zCode 231 34 = some (.invokestatic 232, 37, 192, 2, 2, 12, 3) := cAM_priceOf_1 _ (List.mem_of_getElem? (i := 6) rfl)
theorem cM_priceOf_37 : zCode 231 37 = some (.aload_n 0, 38, 0, 0, 0, 0, 3) := cAM_priceOf_1 _ (List.mem_of_getElem? (i := 7) rfl)
theorem cM_priceOf_38 : zCode 231 38 = some (.iload_n 1, 39, 0, 0, 0, 0, 3) := cAM_priceOf_1 _ (List.mem_of_getElem? (i := 8) rfl)
theorem cM_priceOf_39 : zCode 231 39 = some (.iconst 2, 40, 0, 0, 0, 0, 1) := cAM_priceOf_1 _ (List.mem_of_getElem? (i := 9) rfl)
theorem cM_priceOf_40 : zCode 231 40 = some (.invokevirtual 294, 43, 212, 2, 3, 12, 1) := cAM_priceOf_1 _ (List.mem_of_getElem? (i := 10) rfl)
theorem cM_priceOf_43 : zCode 231 43 = some (.iconst 1, 44, 0, 0, 0, 0, 1) := cAM_priceOf_1 _ (List.mem_of_getElem? (i := 11) rfl)
theorem cM_priceOf_44 : zCode 231 44 = some (.if_icmp .ne 12, 47, 56, 0, 0, 0, 1) := cAM_priceOf_1 _ (List.mem_of_getElem? (i := 12) rfl)
theorem cM_priceOf_47 : zCode 231 47 = some (.aload_n 0, 48, 0, 0, 0, 0, 1) := cAM_priceOf_1 _ (List.mem_of_getElem? (i := 13) rfl)
theorem cM_priceOf_48 : zCode 231 48 = some (.bipush 7, 50, 0, 0, 0, 0, 0) := cAM_priceOf_1 _ (List.mem_of_getElem? (i := 14) rfl)
theorem cM_priceOf_50 : zCode 231 50 = some (.invokevirtual 135, 53, 168, 1, 2, 12, 0) := cAM_priceOf_1 _ (List.mem_of_getElem? (i := 15) rfl)
theorem cM_priceOf_53 : zCode 231 53 = some (.goto 5, 56, 58, 0, 0, 0, 0) := cAM_priceOf_2 _ (List.mem_of_getElem? (i := 0) rfl)
theorem cM_priceOf_56 : zCode 231 56 = some (.bipush 10, 58, 0, 0, 0, 0, 0) := cAM_priceOf_2 _ (List.mem_of_getElem? (i := 1) rfl)
theorem cM_priceOf_58 : zCode 231 58 = some (.imul, 59, 0, 0, 0, 0, 0) := cAM_priceOf_2 _ (List.mem_of_getElem? (i := 2) rfl)
theorem cM_priceOf_59 : zCode 231 59 = some (.ireturn, 60, 0, 0, 0, 0, 0) := cAM_priceOf_2 _ (List.mem_of_getElem? (i := 3) rfl)
theorem rM_priceOf_0 {a0 : Nat} {a1 : Int} {u2 u3 : zV} : zS 231 0 [zR a0, zI a1, u2, u3] [] sh pp mm Q ↔ zS 231 1 [zR a0, zI a1, zU, zU] [zR a0] sh pp mm Q := s_go cM_priceOf_0 cM_priceOf_1 rfl rfl
theorem rM_priceOf_1 {a0 s0 : Nat} {a1 : Int} {u2 u3 : zV} : zS 231 1 [zR a0, zI a1, u2, u3] [zR s0] sh pp mm Q ↔ zS 231 2 [zR a0, zI a1, zU, zU] [zI a1, zR s0] sh pp mm Q := s_go cM_priceOf_1 cM_priceOf_2 rfl rfl
theorem rM_priceOf_2 {a0 s1 : Nat} {a1 s0 : Int} {u2 u3 : zV} : zS 231 2 [zR a0, zI a1, u2, u3] [zI s0, zR s1] sh pp mm Q ↔ zS 231 3 [zR a0, zI a1, zU, zU] [zR a0, zI s0, zR s1] sh pp mm Q := s_go cM_priceOf_2 cM_priceOf_3 rfl rfl
theorem rM_priceOf_3 {a0 s0 s2 : Nat} {a1 s1 : Int} {u2 u3 : zV} : zS 231 3 [zR a0, zI a1, u2, u3] [zR s0, zI s1, zR s2] sh pp mm Q ↔ zS 231 4 [zR a0, zI a1, zU, zU] [zI a1, zR s0, zI s1, zR s2] sh pp mm Q := s_go cM_priceOf_3 cM_priceOf_4 rfl rfl
theorem rM_priceOf_4 {a0 s1 s3 : Nat} {a1 s0 s2 : Int} {u2 u3 : zV} : zS 231 4 [zR a0, zI a1, u2, u3] [zI s0, zR s1, zI s2, zR s3] sh pp mm Q ↔ zS 231 5 [zR a0, zI a1, zU, zU] [zI 0, zI s0, zR s1, zI s2, zR s3] sh pp mm Q := s_go cM_priceOf_4 cM_priceOf_5 rfl rfl
theorem rM_priceOf_5 {a0 s2 s4 : Nat} {a1 s0 s1 s3 : Int} {u2 u3 : zV} (hk : zKd sh s2 = 12) : zS 231 5 [zR a0, zI a1, u2, u3] [zI s0, zI s1, zR s2, zI s3, zR s4] sh pp mm Q ↔ zS 212 0 [zR s2, zI s1, zI s0] [] sh pp mm (fun v sh pp mm => zS 231 8 [zR a0, zI a1, zU, zU] (zPush v [zI s3, zR s4]) sh pp mm Q) := s_call cM_priceOf_5 cM_priceOf_8 ((if_pos hk).trans rfl) rfl
theorem rM_priceOf_8 {a0 s2 : Nat} {a1 s0 s1 : Int} {u2 u3 : zV} : zS 231 8 [zR a0, zI a1, u2, u3] [zI s0, zI s1, zR s2] sh pp mm Q ↔ zS 231 9 [zR a0, zI a1, zU, zU] [zI 0, zI s0, zI s1, zR s2] sh pp mm Q := s_go cM_priceOf_8 cM_priceOf_9 rfl rfl
theorem rM_priceOf_9 {a0 s3 : Nat} {a1 s0 s1 s2 : Int} {u2 u3 : zV} (hk : zKd sh s3 = 12) : zS 231 9 [zR a0, zI a1, u2, u3] [zI s0, zI s1, zI s2, zR s3] sh pp mm Q ↔ zS 227 0 [zR s3, zI s2, zI s1, zI s0] [] sh pp mm (fun v sh pp mm => zS 231 12 [zR a0, zI a1, zU, zU] (zPush v []) sh pp mm Q) := s_call cM_priceOf_9 cM_priceOf_12 ((if_pos hk).trans rfl) rfl
theorem rM_priceOf_12 {a0 : Nat} {a1 s0 : Int} {u2 u3 : zV} : zS 231 12 [zR a0, zI a1, u2, u3] [zI s0] sh pp mm Q ↔ zS 190 0 [zI s0] [] sh pp mm (fun v sh pp mm => zS 231 15 [zR a0, zI a1, zU, zU] (zPush v []) sh pp mm Q) := s_call cM_priceOf_12 cM_priceOf_15 rfl rfl
theorem rM_priceOf_15 {a0 : Nat} {a1 s0 : Int} {u2 u3 : zV} : zS 231 15 [zR a0, zI a1, u2, u3] [zI s0] sh pp mm Q ↔ zS 231 16 [zR a0, zI a1, zI s0, zU] [] sh pp mm Q := s_go cM_priceOf_15 cM_priceOf_16 rfl rfl
theorem rM_priceOf_16 {a0 : Nat} {a1 a2 : Int} {u3 : zV} : zS 231 16 [zR a0, zI a1, zI a2, u3] [] sh pp mm Q ↔ zS 231 17 [zR a0, zI a1, zI a2, zU] [zR a0] sh pp mm Q := s_go cM_priceOf_16 cM_priceOf_17 rfl rfl
theorem rM_priceOf_17 {a0 s0 : Nat} {a1 a2 : Int} {u3 : zV} : zS 231 17 [zR a0, zI a1, zI a2, u3] [zR s0] sh pp mm Q ↔ zS 231 18 [zR a0, zI a1, zI a2, zU] [zI a1, zR s0] sh pp mm Q := s_go cM_priceOf_17 cM_priceOf_18 rfl rfl
theorem rM_priceOf_18 {a0 s1 : Nat} {a1 a2 s0 : Int} {u3 : zV} : zS 231 18 [zR a0, zI a1, zI a2, u3] [zI s0, zR s1] sh pp mm Q ↔ zS 231 19 [zR a0, zI a1, zI a2, zU] [zR a0, zI s0, zR s1] sh pp mm Q := s_go cM_priceOf_18 cM_priceOf_19 rfl rfl
theorem rM_priceOf_19 {a0 s0 s2 : Nat} {a1 a2 s1 : Int} {u3 : zV} : zS 231 19 [zR a0, zI a1, zI a2, u3] [zR s0, zI s1, zR s2] sh pp mm Q ↔ zS 231 20 [zR a0, zI a1, zI a2, zU] [zI a1, zR s0, zI s1, zR s2] sh pp mm Q := s_go cM_priceOf_19 cM_priceOf_20 rfl rfl
theorem rM_priceOf_20 {a0 s1 s3 : Nat} {a1 a2 s0 s2 : Int} {u3 : zV} : zS 231 20 [zR a0, zI a1, zI a2, u3] [zI s0, zR s1, zI s2, zR s3] sh pp mm Q ↔ zS 231 21 [zR a0, zI a1, zI a2, zU] [zI 0, zI s0, zR s1, zI s2, zR s3] sh pp mm Q := s_go cM_priceOf_20 cM_priceOf_21 rfl rfl
theorem rM_priceOf_21 {a0 s2 s4 : Nat} {a1 a2 s0 s1 s3 : Int} {u3 : zV} (hk : zKd sh s2 = 12) : zS 231 21 [zR a0, zI a1, zI a2, u3] [zI s0, zI s1, zR s2, zI s3, zR s4] sh pp mm Q ↔ zS 212 0 [zR s2, zI s1, zI s0] [] sh pp mm (fun v sh pp mm => zS 231 24 [zR a0, zI a1, zI a2, zU] (zPush v [zI s3, zR s4]) sh pp mm Q) := s_call cM_priceOf_21 cM_priceOf_24 ((if_pos hk).trans rfl) rfl
theorem rM_priceOf_24 {a0 s2 : Nat} {a1 a2 s0 s1 : Int} {u3 : zV} : zS 231 24 [zR a0, zI a1, zI a2, u3] [zI s0, zI s1, zR s2] sh pp mm Q ↔ zS 231 25 [zR a0, zI a1, zI a2, zU] [zI 1, zI s0, zI s1, zR s2] sh pp mm Q := s_go cM_priceOf_24 cM_priceOf_25 rfl rfl
theorem rM_priceOf_25 {a0 s3 : Nat} {a1 a2 s0 s1 s2 : Int} {u3 : zV} (hk : zKd sh s3 = 12) : zS 231 25 [zR a0, zI a1, zI a2, u3] [zI s0, zI s1, zI s2, zR s3] sh pp mm Q ↔ zS 227 0 [zR s3, zI s2, zI s1, zI s0] [] sh pp mm (fun v sh pp mm => zS 231 28 [zR a0, zI a1, zI a2, zU] (zPush v []) sh pp mm Q) := s_call cM_priceOf_25 cM_priceOf_28 ((if_pos hk).trans rfl) rfl
theorem rM_priceOf_28 {a0 : Nat} {a1 a2 s0 : Int} {u3 : zV} : zS 231 28 [zR a0, zI a1, zI a2, u3] [zI s0] sh pp mm Q ↔ zS 190 0 [zI s0] [] sh pp mm (fun v sh pp mm => zS 231 31 [zR a0, zI a1, zI a2, zU] (zPush v []) sh pp mm Q) := s_call cM_priceOf_28 cM_priceOf_31 rfl rfl
theorem rM_priceOf_31 {a0 : Nat} {a1 a2 s0 : Int} {u3 : zV} : zS 231 31 [zR a0, zI a1, zI a2, u3] [zI s0] sh pp mm Q ↔ zS 231 32 [zR a0, zI a1, zI a2, zI s0] [] sh pp mm Q := s_go cM_priceOf_31 cM_priceOf_32 rfl rfl
theorem rM_priceOf_32 {a0 : Nat} {a1 a2 a3 : Int} : zS 231 32 [zR a0, zI a1, zI a2, zI a3] [] sh pp mm Q ↔ zS 231 33 [zR a0, zI a1, zU, zI a3] [zI a2] sh pp mm Q := s_go cM_priceOf_32 cM_priceOf_33 rfl rfl
theorem rM_priceOf_33 {a0 : Nat} {a1 a3 s0 : Int} {u2 : zV} : zS 231 33 [zR a0, zI a1, u2, zI a3] [zI s0] sh pp mm Q ↔ zS 231 34 [zR a0, zI a1, zU, zU] [zI a3, zI s0] sh pp mm Q := s_go cM_priceOf_33 cM_priceOf_34 rfl rfl
theorem rM_priceOf_34 {a0 : Nat} {a1 s0 s1 : Int} {u2 u3 : zV} : zS 231 34 [zR a0, zI a1, u2, u3] [zI s0, zI s1] sh pp mm Q ↔ zS 192 0 [zI s1, zI s0] [] sh pp mm (fun v sh pp mm => zS 231 37 [zR a0, zI a1, zU, zU] (zPush v []) sh pp mm Q) := s_call cM_priceOf_34 cM_priceOf_37 rfl rfl
theorem rM_priceOf_37 {a0 : Nat} {a1 s0 : Int} {u2 u3 : zV} : zS 231 37 [zR a0, zI a1, u2, u3] [zI s0] sh pp mm Q ↔ zS 231 38 [zR a0, zI a1, zU, zU] [zR a0, zI s0] sh pp mm Q := s_go cM_priceOf_37 cM_priceOf_38 rfl rfl
theorem rM_priceOf_38 {a0 s0 : Nat} {a1 s1 : Int} {u2 u3 : zV} : zS 231 38 [zR a0, zI a1, u2, u3] [zR s0, zI s1] sh pp mm Q ↔ zS 231 39 [zR a0, zU, zU, zU] [zI a1, zR s0, zI s1] sh pp mm Q := s_go cM_priceOf_38 cM_priceOf_39 rfl rfl
theorem rM_priceOf_39 {a0 s1 : Nat} {s0 s2 : Int} {u1 u2 u3 : zV} : zS 231 39 [zR a0, u1, u2, u3] [zI s0, zR s1, zI s2] sh pp mm Q ↔ zS 231 40 [zR a0, zU, zU, zU] [zI 2, zI s0, zR s1, zI s2] sh pp mm Q := s_go cM_priceOf_39 cM_priceOf_40 rfl rfl
theorem rM_priceOf_40 {a0 s2 : Nat} {s0 s1 s3 : Int} {u1 u2 u3 : zV} (hk : zKd sh s2 = 12) : zS 231 40 [zR a0, u1, u2, u3] [zI s0, zI s1, zR s2, zI s3] sh pp mm Q ↔ zS 212 0 [zR s2, zI s1, zI s0] [] sh pp mm (fun v sh pp mm => zS 231 43 [zR a0, zU, zU, zU] (zPush v [zI s3]) sh pp mm Q) := s_call cM_priceOf_40 cM_priceOf_43 ((if_pos hk).trans rfl) rfl
theorem rM_priceOf_43 {a0 : Nat} {s0 s1 : Int} {u1 u2 u3 : zV} : zS 231 43 [zR a0, u1, u2, u3] [zI s0, zI s1] sh pp mm Q ↔ zS 231 44 [zR a0, zU, zU, zU] [zI 1, zI s0, zI s1] sh pp mm Q := s_go cM_priceOf_43 cM_priceOf_44 rfl rfl
theorem rM_priceOf_44 {a0 : Nat} {s0 s1 s2 : Int} {u1 u2 u3 : zV} : zS 231 44 [zR a0, u1, u2, u3] [zI s0, zI s1, zI s2] sh pp mm Q ↔ (s1 = s0 → zS 231 47 [zR a0, zU, zU, zU] [zI s2] sh pp mm Q) ∧ (¬ s1 = s0 → zS 231 56 [zU, zU, zU, zU] [zI s2] sh pp mm Q) := s_ifn cM_priceOf_44 cM_priceOf_47 cM_priceOf_56 rfl rfl rfl
theorem rM_priceOf_47 {a0 : Nat} {s0 : Int} {u1 u2 u3 : zV} : zS 231 47 [zR a0, u1, u2, u3] [zI s0] sh pp mm Q ↔ zS 231 48 [zU, zU, zU, zU] [zR a0, zI s0] sh pp mm Q := s_go cM_priceOf_47 cM_priceOf_48 rfl rfl
theorem rM_priceOf_48 {s0 : Nat} {s1 : Int} {u0 u1 u2 u3 : zV} : zS 231 48 [u0, u1, u2, u3] [zR s0, zI s1] sh pp mm Q ↔ zS 231 50 [zU, zU, zU, zU] [zI 7, zR s0, zI s1] sh pp mm Q := s_go cM_priceOf_48 cM_priceOf_50 rfl rfl
theorem rM_priceOf_50 {s1 : Nat} {s0 s2 : Int} {u0 u1 u2 u3 : zV} (hk : zKd sh s1 = 12) : zS 231 50 [u0, u1, u2, u3] [zI s0, zR s1, zI s2] sh pp mm Q ↔ zS 168 0 [zR s1, zI s0] [] sh pp mm (fun v sh pp mm => zS 231 53 [zU, zU, zU, zU] (zPush v [zI s2]) sh pp mm Q) := s_call cM_priceOf_50 cM_priceOf_53 ((if_pos hk).trans rfl) rfl
theorem rM_priceOf_53 {s0 s1 : Int} {u0 u1 u2 u3 : zV} : zS 231 53 [u0, u1, u2, u3] [zI s0, zI s1] sh pp mm Q ↔ zS 231 58 [zU, zU, zU, zU] [zI s0, zI s1] sh pp mm Q := s_go cM_priceOf_53 cM_priceOf_58 rfl rfl
theorem rM_priceOf_56 {s0 : Int} {u0 u1 u2 u3 : zV} : zS 231 56 [u0, u1, u2, u3] [zI s0] sh pp mm Q ↔ zS 231 58 [zU, zU, zU, zU] [zI 10, zI s0] sh pp mm Q := s_go cM_priceOf_56 cM_priceOf_58 rfl rfl
theorem rM_priceOf_58 {s0 s1 : Int} {u0 u1 u2 u3 : zV} : zS 231 58 [u0, u1, u2, u3] [zI s0, zI s1] sh pp mm Q ↔ zS 231 59 [zU, zU, zU, zU] [zI (zw32 (s1 * s0))] sh pp mm Q := s_go cM_priceOf_58 cM_priceOf_59 rfl rfl
theorem rM_priceOf_59 {s0 : Int} {u0 u1 u2 u3 : zV} : zS 231 59 [u0, u1, u2, u3] [zI s0] sh pp mm Q ↔ Q (zI s0) sh pp mm := s_ret cM_priceOf_59 rfl
theorem cAM_again : ∀ q ∈ zT232, zCode 232 q.1 = some q.2 := zAll (mid := 232) rfl (by decide +kernel)
theorem cAM_again_0 : ∀ q ∈ zT232_0, zCode 232 q.1 = some q.2 := fun q h => cAM_again q (List.mem_append_left _ h)
theorem cAM_again_1 : ∀ q ∈ zT232_1, zCode 232 q.1 = some q.2 := fun q h => cAM_again q (List.mem_append_right _ (List.mem_append_left _ h))
theorem cAM_again_2 : ∀ q ∈ zT232_2, zCode 232 q.1 = some q.2 := fun q h => cAM_again q (List.mem_append_right _ (List.mem_append_right _ (List.mem_append_left _ h)))
theorem cAM_again_3 : ∀ q ∈ zT232_3, zCode 232 q.1 = some q.2 := fun q h => cAM_again q (List.mem_append_right _ (List.mem_append_right _ (List.mem_append_right _ (List.mem_append_left _ h))))
theorem cAM_again_4 : ∀ q ∈ zT232_4, zCode 232 q.1 = some q.2 := fun q h => cAM_again q (List.mem_append_right _ (List.mem_append_right _ (List.mem_append_right _ (List.mem_append_right _ h))))
theorem cM_again_0 : zCode 232 0 = some (.aload_n 0, 1, 0, 0, 0, 0, 1) := cAM_again_0 _ (List.mem_of_getElem? (i := 0) rfl)
theorem cM_again_1 : zCode 232 1 = some (.invokevirtual 297, 4, 217, 0, 5, 12, 1) := cAM_again_0 _ (List.mem_of_getElem? (i := 1) rfl)
theorem cM_again_4 : zCode 232 4 = some (.ifCond .ne 10, 7, 14, 0, 0, 0, 1) := cAM_again_0 _ (List.mem_of_getElem? (i := 2) rfl)
theorem cM_again_7 : zCode 232 7 = some (.aload_n 0, 8, 0, 0, 0, 0, 1) := cAM_again_0 _ (List.mem_of_getElem? (i := 3) rfl)
theorem cM_again_8 : zCode 232 8 = some (.bipush (-3), 10, 0, 0, 0, 0, 0) := cAM_again_0 _ (List.mem_of_getElem? (i := 4) rfl)
theorem cM_again_10 : zCode 232 10 = some (.invokevirtual 265, 13, 153, 1, 2, 12, 0) := cAM_again_0 _ (List.mem_of_getElem? (i := 5) rfl)
theorem cM_again_13 : zCode 232 13 = some (.ireturn, 14, 0, 0, 0, 0, 0) := cAM_again_0 _ (List.mem_of_getElem? (i := 6) rfl)
theorem cM_again_14 : zCode 232 14 = some (.aload_n 0, 15, 0, 0, 0, 0, 1) := cAM_again_0 _ (List.mem_of_getElem? (i := 7) rfl)
theorem cM_again_15 : zCode 232 15 = some (.aload_n 0, 16, 0, 0, 0, 0, 1) := cAM_again_0 _ (List.mem_of_getElem? (i := 8) rfl)
theorem cM_again_16 : zCode 232 16 = some (.invokevirtual 300, 19, 215, 0, 1, 12, 1) := cAM_again_0 _ (List.mem_of_getElem? (i := 9) rfl)
theorem cM_again_19 : zCode 232 19 = some (.invokevirtual 303, 22, 214, 1, 4, 12, 1) := cAM_again_0 _ (List.mem_of_getElem? (i := 10) rfl)
theorem cM_again_22 : zCode 232 22 = some (.istore_n 1, 23, 0, 0, 0, 0, 1) := cAM_again_0 _ (List.mem_of_getElem? (i := 11) rfl)
theorem cM_again_23 : zCode 232 23 = some (.ldc_w 331, 26, 0, 0, 1577, 1000000, 3) := cAM_again_0 _ (List.mem_of_getElem? (i := 12) rfl)
theorem cM_again_26 : zCode 232 26 = some (.istore_n 2, 27, 0, 0, 0, 0, 3) := cAM_again_0 _ (List.mem_of_getElem? (i := 13) rfl)
theorem cM_again_27 : zCode 232 27 = some (.iconst 0, 28, 0, 0, 0, 0, 7) := cAM_again_0 _ (List.mem_of_getElem? (i := 14) rfl)
theorem cM_again_28 : zCode 232 28 = some (.istore_n 3, 29, 0, 0, 0, 0, 7) := cAM_again_0 _ (List.mem_of_getElem? (i := 15) rfl)
theorem cM_again_29 : zCode 232 29 = some (.iload_n 3, 30, 0, 0, 0, 0, 15) := cAM_again_1 _ (List.mem_of_getElem? (i := 0) rfl)
theorem cM_again_30 : zCode 232 30 = some (.aload_n 0, 31, 0, 0, 0, 0, 15) := cAM_again_1 _ (List.mem_of_getElem? (i := 1) rfl)
theorem cM_again_31 : zCode 232 31 = some (.invokevirtual 300, 34, 215, 0, 1, 12, 15) := cAM_again_1 _ (List.mem_of_getElem? (i := 2) rfl)
theorem cM_again_34 : zCode 232 34 = some (.if_icmp .gt 83, 37, 117, 0, 0, 0, 15) := cAM_again_1 _ (List.mem_of_getElem? (i := 3) rfl)
theorem cM_again_37 : zCode 232 37 = some (.iload_n 1, 38, 0, 0, 0, 0, 15) := cAM_again_1 _ (List.mem_of_getElem? (i := 4) rfl)
theorem cM_again_38 : zCode 232 38 = some (.aload_n 0, 39, 0, 0, 0, 0, 15) := cAM_again_1 _ (List.mem_of_getElem? (i := 5) rfl)
theorem cM_again_39 : zCode 232 39 = some (.iload_n 3, 40, 0, 0, 0, 0, 15) := cAM_again_1 _ (List.mem_of_getElem? (i := 6) rfl)
theorem cM_again_40 : zCode 232 40 = some (.invokevirtual 303, 43, 214, 1, 4, 12, 15) := cAM_again_1 _ (List.mem_of_getElem? (i := 7) rfl)
theorem cM_again_43 : zCode 232 43 = some (.ixor, 44, 0, 0, 0, 0, 15) := cAM_again_1 _ (List.mem_of_getElem? (i := 8) rfl)
theorem cM_again_44 : zCode 232 44 = some (.invokestatic 306, 47, 216, 1, 3, 12, 15) := cAM_again_1 _ (List.mem_of_getElem? (i := 9) rfl)
theorem cM_again_47 : zCode 232 47 = some (.iconst 2, 48, 0, 0, 0, 0, 15) := cAM_again_1 _ (List.mem_of_getElem? (i := 10) rfl)
theorem cM_again_48 : zCode 232 48 = some (.if_icmp .gt 63, 51, 111, 0, 0, 0, 15) := cAM_again_1 _ (List.mem_of_getElem? (i := 11) rfl)
theorem cM_again_51 : zCode 232 51 = some (.iconst 0, 52, 0, 0, 0, 0, 15) := cAM_again_1 _ (List.mem_of_getElem? (i := 12) rfl)
theorem cM_again_52 : zCode 232 52 = some (.istore 4, 54, 0, 0, 0, 0, 15) := cAM_again_1 _ (List.mem_of_getElem? (i := 13) rfl)
theorem cM_again_54 : zCode 232 54 = some (.iconst 0, 55, 0, 0, 0, 0, 31) := cAM_again_1 _ (List.mem_of_getElem? (i := 14) rfl)
theorem cM_again_55 : zCode 232 55 = some (.istore 5, 57, 0, 0, 0, 0, 31) := cAM_again_1 _ (List.mem_of_getElem? (i := 15) rfl)
theorem cM_again_57 : zCode 232 57 = some (.iload 5, 59, 0, 0, 0, 0, 63) := cAM_again_2 _ (List.mem_of_getElem? (i := 0) rfl)
theorem cM_again_59 : zCode 232 59 = some (.aload_n 0, 60, 0, 0, 0, 0, 63) := cAM_again_2 _ (List.mem_of_getElem? (i := 1) rfl)
theorem cM_again_60 : zCode 232 60 = some (.iconst 2, 61, 0, 0, 0, 0, 63) := cAM_again_2 _ (List.mem_of_getElem? (i := 2) rfl)
theorem cM_again_61 : zCode 232 61 = some (.invokevirtual 288, 64, 169, 1, 2, 12, 63) := cAM_again_2 _ (List.mem_of_getElem? (i := 3) rfl)
theorem cM_again_64 : zCode 232 64 = some (.if_icmp .ge 34, 67, 98, 0, 0, 0, 63) := cAM_again_2 _ (List.mem_of_getElem? (i := 4) rfl)
theorem cM_again_67 : zCode 232 67 = some (.iload 4, 69, 0, 0, 0, 0, 63) := cAM_again_2 _ (List.mem_of_getElem? (i := 5) rfl)
theorem cM_again_69 : zCode 232 69 = some (.iload_n 3, 70, 0, 0, 0, 0, 47) := cAM_again_2 _ (List.mem_of_getElem? (i := 6) rfl)
theorem cM_again_70 : zCode 232 70 = some (.iload 5, 72, 0, 0, 0, 0, 47) := cAM_again_2 _ (List.mem_of_getElem? (i := 7) rfl)
theorem cM_again_72 : zCode 232 72 = some (.ishr, 73, 0, 0, 0, 0, 47) := cAM_again_2 _ (List.mem_of_getElem? (i := 8) rfl)
theorem cM_again_73 : zCode 232 73 = some (.iconst 1, 74, 0, 0, 0, 0, 47) := cAM_again_2 _ (List.mem_of_getElem? (i := 9) rfl)
theorem cM_again_74 : zCode 232 74 = some (.iand, 75, 0, 0, 0, 0, 47) := cAM_again_2 _ (List.mem_of_getElem? (i := 10) rfl)
theorem cM_again_75 : zCode 232 75 = some (.iconst 1, 76, 0, 0, 0, 0, 47) := cAM_again_2 _ (List.mem_of_getElem? (i := 11) rfl)
theorem cM_again_76 : zCode 232 76 = some (.if_icmp .ne 12, 79, 88, 0, 0, 0, 47) := cAM_again_2 _ (List.mem_of_getElem? (i := 12) rfl)
theorem cM_again_79 : zCode 232 79 = some (.aload_n 0, 80, 0, 0, 0, 0, 47) := cAM_again_2 _ (List.mem_of_getElem? (i := 13) rfl)
theorem cM_again_80 : zCode 232 80 = some (.iload 5, 82, 0, 0, 0, 0, 47) := cAM_again_2 _ (List.mem_of_getElem? (i := 14) rfl)
theorem cM_again_82 : zCode 232 82 = some (.invokevirtual 339, 85, 231, 1, 4, 12, 47) := cAM_again_2 _ (List.mem_of_getElem? (i := 15) rfl)
theorem cM_again_85 : zCode 232 85 = some (.goto 4, 88, 89, 0, 0, 0, 47) := cAM_again_3 _ (List.mem_of_getElem? (i := 0) rfl)
theorem cM_again_88 : zCode 232 88 = some (.iconst 0, 89, 0, 0, 0, 0, 47) := cAM_again_3 _ (List.mem_of_getElem? (i := 1) rfl)
theorem cM_again_89 : zCode 232 89 = some (.iadd, 90, 0, 0, 0, 0, 47) := cAM_again_3 _ (List.mem_of_getElem? (i := 2) rfl)
theorem cM_again_90 : zCode 232 90 = some (.istore 4, 92, 0, 0, 0, 0, 47) := cAM_again_3 _ (List.mem_of_getElem? (i := 3) rfl)
theorem cM_again_92 : zCode 232 92 = some (.iinc 5 1, 95, 0, 0, 0, 0, 63) := cAM_again_3 _ (List.mem_of_getElem? (i := 4) rfl)
theorem cM_again_95 : zCode 232 95 = some (.goto (-38), 98, 57, 0, 0, 0, 63) := cAM_again_3 _ (List.mem_of_getElem? (i := 5) rfl)
theorem cM_again_98 : zCode 232 98 = some (.iload 4, 100, 0, 0, 0, 0, 31) := cAM_again_3 _ (List.mem_of_getElem? (i := 6) rfl)
theorem cM_again_100 : zCode 232 100 = some (.iload_n 2, 101, 0, 0, 0, 0, 31) := cAM_again_3 _ (List.mem_of_getElem? (i := 7) rfl)
theorem cM_again_101 : zCode 232 101 = some (.if_icmp .ge 8, 104, 109, 0, 0, 0, 31) := cAM_again_3 _ (List.mem_of_getElem? (i := 8) rfl)
theorem cM_again_104 : zCode 232 104 = some (.iload 4, 106, 0, 0, 0, 0, 27) := cAM_again_3 _ (List.mem_of_getElem? (i := 9) rfl)
theorem cM_again_106 : zCode 232 106 = some (.goto 4, 109, 110, 0, 0, 0, 11) := cAM_again_3 _ (List.mem_of_getElem? (i := 10) rfl)
theorem cM_again_109 : zCode 232 109 = some (.iload_n 2, 110, 0, 0, 0, 0, 15) := cAM_again_3 _ (List.mem_of_getElem? (i := 11) rfl)
theorem cM_again_110 : zCode 232 110 = some (.istore_n 2, 111, 0, 0, 0, 0, 11) := cAM_again_3 _ (List.mem_of_getElem? (i := 12) rfl)
theorem cM_again_111 : zCode 232 111 = some (.iinc 3 1, 114, 0, 0, 0, 0, 15) := cAM_again_3 _ (List.mem_of_getElem? (i := 13) rfl)
theorem cM_again_114 : zCode 232 114 = some (.goto (-85), 117, 29, 0, 0, 0, 15) := cAM_again_3 _ (List.mem_of_getElem? (i := 14) rfl)
theorem cM_again_117 : zCode 232 117 = some (.iload_n 2, 118, 0, 0, 0, 0, 4) := cAM_again_3 _ (List.mem_of_getElem? (i := 15) rfl)
theorem cM_again_118 : zCode 232 118 = some (.ireturn, 119, 0, 0, 0, 0, 0) := cAM_again_4 _ (List.mem_of_getElem? (i := 0) rfl)
theorem rM_again_0 {a0 : Nat} {u1 u2 u3 u4 u5 : zV} : zS 232 0 [zR a0, u1, u2, u3, u4, u5] [] sh pp mm Q ↔ zS 232 1 [zR a0, zU, zU, zU, zU, zU] [zR a0] sh pp mm Q := s_go cM_again_0 cM_again_1 rfl rfl
theorem rM_again_1 {a0 s0 : Nat} {u1 u2 u3 u4 u5 : zV} (hk : zKd sh s0 = 12) : zS 232 1 [zR a0, u1, u2, u3, u4, u5] [zR s0] sh pp mm Q ↔ zS 217 0 [zR s0, zU, zU, zU, zU] [] sh pp mm (fun v sh pp mm => zS 232 4 [zR a0, zU, zU, zU, zU, zU] (zPush v []) sh pp mm Q) := s_call cM_again_1 cM_again_4 ((if_pos hk).trans rfl) rfl
theorem rM_again_4 {a0 : Nat} {s0 : Int} {u1 u2 u3 u4 u5 : zV} : zS 232 4 [zR a0, u1, u2, u3, u4, u5] [zI s0] sh pp mm Q ↔ (s0 = 0 → zS 232 7 [zR a0, zU, zU, zU, zU, zU] [] sh pp mm Q) ∧ (¬ s0 = 0 → zS 232 14 [zR a0, zU, zU, zU, zU, zU] [] sh pp mm Q) := s_ifn cM_again_4 cM_again_7 cM_again_14 rfl rfl rfl
theorem rM_again_7 {a0 : Nat} {u1 u2 u3 u4 u5 : zV} : zS 232 7 [zR a0, u1, u2, u3, u4, u5] [] sh pp mm Q ↔ zS 232 8 [zU, zU, zU, zU, zU, zU] [zR a0] sh pp mm Q := s_go cM_again_7 cM_again_8 rfl rfl
theorem rM_again_8 {s0 : Nat} {u0 u1 u2 u3 u4 u5 : zV} : zS 232 8 [u0, u1, u2, u3, u4, u5] [zR s0] sh pp mm Q ↔ zS 232 10 [zU, zU, zU, zU, zU, zU] [zI (-3), zR s0] sh pp mm Q := s_go cM_again_8 cM_again_10 rfl rfl
theorem rM_again_10 {s1 : Nat} {s0 : Int} {u0 u1 u2 u3 u4 u5 : zV} (hk : zKd sh s1 = 12) : zS 232 10 [u0, u1, u2, u3, u4, u5] [zI s0, zR s1] sh pp mm Q ↔ zS 153 0 [zR s1, zI s0] [] sh pp mm (fun v sh pp mm => zS 232 13 [zU, zU, zU, zU, zU, zU] (zPush v []) sh pp mm Q) := s_call cM_again_10 cM_again_13 ((if_pos hk).trans rfl) rfl
theorem rM_again_13 {s0 : Int} {u0 u1 u2 u3 u4 u5 : zV} : zS 232 13 [u0, u1, u2, u3, u4, u5] [zI s0] sh pp mm Q ↔ Q (zI s0) sh pp mm := s_ret cM_again_13 rfl
theorem rM_again_14 {a0 : Nat} {u1 u2 u3 u4 u5 : zV} : zS 232 14 [zR a0, u1, u2, u3, u4, u5] [] sh pp mm Q ↔ zS 232 15 [zR a0, zU, zU, zU, zU, zU] [zR a0] sh pp mm Q := s_go cM_again_14 cM_again_15 rfl rfl
theorem rM_again_15 {a0 s0 : Nat} {u1 u2 u3 u4 u5 : zV} : zS 232 15 [zR a0, u1, u2, u3, u4, u5] [zR s0] sh pp mm Q ↔ zS 232 16 [zR a0, zU, zU, zU, zU, zU] [zR a0, zR s0] sh pp mm Q := s_go cM_again_15 cM_again_16 rfl rfl
theorem rM_again_16 {a0 s0 s1 : Nat} {u1 u2 u3 u4 u5 : zV} (hk : zKd sh s0 = 12) : zS 232 16 [zR a0, u1, u2, u3, u4, u5] [zR s0, zR s1] sh pp mm Q ↔ zS 215 0 [zR s0] [] sh pp mm (fun v sh pp mm => zS 232 19 [zR a0, zU, zU, zU, zU, zU] (zPush v [zR s1]) sh pp mm Q) := s_call cM_again_16 cM_again_19 ((if_pos hk).trans rfl) rfl
theorem rM_again_19 {a0 s1 : Nat} {s0 : Int} {u1 u2 u3 u4 u5 : zV} (hk : zKd sh s1 = 12) : zS 232 19 [zR a0, u1, u2, u3, u4, u5] [zI s0, zR s1] sh pp mm Q ↔ zS 214 0 [zR s1, zI s0, zU, zU] [] sh pp mm (fun v sh pp mm => zS 232 22 [zR a0, zU, zU, zU, zU, zU] (zPush v []) sh pp mm Q) := s_call cM_again_19 cM_again_22 ((if_pos hk).trans rfl) rfl
theorem rM_again_22 {a0 : Nat} {s0 : Int} {u1 u2 u3 u4 u5 : zV} : zS 232 22 [zR a0, u1, u2, u3, u4, u5] [zI s0] sh pp mm Q ↔ zS 232 23 [zR a0, zI s0, zU, zU, zU, zU] [] sh pp mm Q := s_go cM_again_22 cM_again_23 rfl rfl
theorem rM_again_23 {a0 : Nat} {a1 : Int} {u2 u3 u4 u5 : zV} : zS 232 23 [zR a0, zI a1, u2, u3, u4, u5] [] sh pp mm Q ↔ zS 232 26 [zR a0, zI a1, zU, zU, zU, zU] [zI 1000000] sh pp mm Q := s_go cM_again_23 cM_again_26 rfl rfl
theorem rM_again_26 {a0 : Nat} {a1 s0 : Int} {u2 u3 u4 u5 : zV} : zS 232 26 [zR a0, zI a1, u2, u3, u4, u5] [zI s0] sh pp mm Q ↔ zS 232 27 [zR a0, zI a1, zI s0, zU, zU, zU] [] sh pp mm Q := s_go cM_again_26 cM_again_27 rfl rfl
theorem rM_again_27 {a0 : Nat} {a1 a2 : Int} {u3 u4 u5 : zV} : zS 232 27 [zR a0, zI a1, zI a2, u3, u4, u5] [] sh pp mm Q ↔ zS 232 28 [zR a0, zI a1, zI a2, zU, zU, zU] [zI 0] sh pp mm Q := s_go cM_again_27 cM_again_28 rfl rfl
theorem rM_again_28 {a0 : Nat} {a1 a2 s0 : Int} {u3 u4 u5 : zV} : zS 232 28 [zR a0, zI a1, zI a2, u3, u4, u5] [zI s0] sh pp mm Q ↔ zS 232 29 [zR a0, zI a1, zI a2, zI s0, zU, zU] [] sh pp mm Q := s_go cM_again_28 cM_again_29 rfl rfl
theorem rM_again_29 {a0 : Nat} {a1 a2 a3 : Int} {u4 u5 : zV} : zS 232 29 [zR a0, zI a1, zI a2, zI a3, u4, u5] [] sh pp mm Q ↔ zS 232 30 [zR a0, zI a1, zI a2, zI a3, zU, zU] [zI a3] sh pp mm Q := s_go cM_again_29 cM_again_30 rfl rfl
theorem rM_again_30 {a0 : Nat} {a1 a2 a3 s0 : Int} {u4 u5 : zV} : zS 232 30 [zR a0, zI a1, zI a2, zI a3, u4, u5] [zI s0] sh pp mm Q ↔ zS 232 31 [zR a0, zI a1, zI a2, zI a3, zU, zU] [zR a0, zI s0] sh pp mm Q := s_go cM_again_30 cM_again_31 rfl rfl
theorem rM_again_31 {a0 s0 : Nat} {a1 a2 a3 s1 : Int} {u4 u5 : zV} (hk : zKd sh s0 = 12) : zS 232 31 [zR a0, zI a1, zI a2, zI a3, u4, u5] [zR s0, zI s1] sh pp mm Q ↔ zS 215 0 [zR s0] [] sh pp mm (fun v sh pp mm => zS 232 34 [zR a0, zI a1, zI a2, zI a3, zU, zU] (zPush v [zI s1]) sh pp mm Q) := s_call cM_again_31 cM_again_34 ((if_pos hk).trans rfl) rfl
theorem rM_again_34 {a0 : Nat} {a1 a2 a3 s0 s1 : Int} {u4 u5 : zV} : zS 232 34 [zR a0, zI a1, zI a2, zI a3, u4, u5] [zI s0, zI s1] sh pp mm Q ↔ (s0 < s1 → zS 232 117 [zU, zU, zI a2, zU, zU, zU] [] sh pp mm Q) ∧ (¬ s0 < s1 → zS 232 37 [zR a0, zI a1, zI a2, zI a3, zU, zU] [] sh pp mm Q) := s_if cM_again_34 cM_again_117 cM_again_37 rfl rfl rfl
theorem rM_again_37 {a0 : Nat} {a1 a2 a3 : Int} {u4 u5 : zV} : zS 232 37 [zR a0, zI a1, zI a2, zI a3, u4, u5] [] sh pp mm Q ↔ zS 232 38 [zR a0, zI a1, zI a2, zI a3, zU, zU] [zI a1] sh pp mm Q := s_go cM_again_37 cM_again_38 rfl rfl
theorem rM_again_38 {a0 : Nat} {a1 a2 a3 s0 : Int} {u4 u5 : zV} : zS 232 38 [zR a0, zI a1, zI a2, zI a3, u4, u5] [zI s0] sh pp mm Q ↔ zS 232 39 [zR a0, zI a1, zI a2, zI a3, zU, zU] [zR a0, zI s0] sh pp mm Q := s_go cM_again_38 cM_again_39 rfl rfl
theorem rM_again_39 {a0 s0 : Nat} {a1 a2 a3 s1 : Int} {u4 u5 : zV} : zS 232 39 [zR a0, zI a1, zI a2, zI a3, u4, u5] [zR s0, zI s1] sh pp mm Q ↔ zS 232 40 [zR a0, zI a1, zI a2, zI a3, zU, zU] [zI a3, zR s0, zI s1] sh pp mm Q := s_go cM_again_39 cM_again_40 rfl rfl
theorem rM_again_40 {a0 s1 : Nat} {a1 a2 a3 s0 s2 : Int} {u4 u5 : zV} (hk : zKd sh s1 = 12) : zS 232 40 [zR a0, zI a1, zI a2, zI a3, u4, u5] [zI s0, zR s1, zI s2] sh pp mm Q ↔ zS 214 0 [zR s1, zI s0, zU, zU] [] sh pp mm (fun v sh pp mm => zS 232 43 [zR a0, zI a1, zI a2, zI a3, zU, zU] (zPush v [zI s2]) sh pp mm Q) := s_call cM_again_40 cM_again_43 ((if_pos hk).trans rfl) rfl
theorem rM_again_43 {a0 : Nat} {a1 a2 a3 s0 s1 : Int} {u4 u5 : zV} : zS 232 43 [zR a0, zI a1, zI a2, zI a3, u4, u5] [zI s0, zI s1] sh pp mm Q ↔ zS 232 44 [zR a0, zI a1, zI a2, zI a3, zU, zU] [zI (zxor s1 s0)] sh pp mm Q := s_go cM_again_43 cM_again_44 rfl rfl
theorem rM_again_44 {a0 : Nat} {a1 a2 a3 s0 : Int} {u4 u5 : zV} : zS 232 44 [zR a0, zI a1, zI a2, zI a3, u4, u5] [zI s0] sh pp mm Q ↔ zS 216 0 [zI s0, zU, zU] [] sh pp mm (fun v sh pp mm => zS 232 47 [zR a0, zI a1, zI a2, zI a3, zU, zU] (zPush v []) sh pp mm Q) := s_call cM_again_44 cM_again_47 rfl rfl
theorem rM_again_47 {a0 : Nat} {a1 a2 a3 s0 : Int} {u4 u5 : zV} : zS 232 47 [zR a0, zI a1, zI a2, zI a3, u4, u5] [zI s0] sh pp mm Q ↔ zS 232 48 [zR a0, zI a1, zI a2, zI a3, zU, zU] [zI 2, zI s0] sh pp mm Q := s_go cM_again_47 cM_again_48 rfl rfl
theorem rM_again_48 {a0 : Nat} {a1 a2 a3 s0 s1 : Int} {u4 u5 : zV} : zS 232 48 [zR a0, zI a1, zI a2, zI a3, u4, u5] [zI s0, zI s1] sh pp mm Q ↔ (s0 < s1 → zS 232 111 [zR a0, zI a1, zI a2, zI a3, zU, zU] [] sh pp mm Q) ∧ (¬ s0 < s1 → zS 232 51 [zR a0, zI a1, zI a2, zI a3, zU, zU] [] sh pp mm Q) := s_if cM_again_48 cM_again_111 cM_again_51 rfl rfl rfl
theorem rM_again_51 {a0 : Nat} {a1 a2 a3 : Int} {u4 u5 : zV} : zS 232 51 [zR a0, zI a1, zI a2, zI a3, u4, u5] [] sh pp mm Q ↔ zS 232 52 [zR a0, zI a1, zI a2, zI a3, zU, zU] [zI 0] sh pp mm Q := s_go cM_again_51 cM_again_52 rfl rfl
theorem rM_again_52 {a0 : Nat} {a1 a2 a3 s0 : Int} {u4 u5 : zV} : zS 232 52 [zR a0, zI a1, zI a2, zI a3, u4, u5] [zI s0] sh pp mm Q ↔ zS 232 54 [zR a0, zI a1, zI a2, zI a3, zI s0, zU] [] sh pp mm Q := s_go cM_again_52 cM_again_54 rfl rfl
theorem rM_again_54 {a0 : Nat} {a1 a2 a3 a4 : Int} {u5 : zV} : zS 232 54 [zR a0, zI a1, zI a2, zI a3, zI a4, u5] [] sh pp mm Q ↔ zS 232 55 [zR a0, zI a1, zI a2, zI a3, zI a4, zU] [zI 0] sh pp mm Q := s_go cM_again_54 cM_again_55 rfl rfl
theorem rM_again_55 {a0 : Nat} {a1 a2 a3 a4 s0 : Int} {u5 : zV} : zS 232 55 [zR a0, zI a1, zI a2, zI a3, zI a4, u5] [zI s0] sh pp mm Q ↔ zS 232 57 [zR a0, zI a1, zI a2, zI a3, zI a4, zI s0] [] sh pp mm Q := s_go cM_again_55 cM_again_57 rfl rfl
theorem rM_again_57 {a0 : Nat} {a1 a2 a3 a4 a5 : Int} : zS 232 57 [zR a0, zI a1, zI a2, zI a3, zI a4, zI a5] [] sh pp mm Q ↔ zS 232 59 [zR a0, zI a1, zI a2, zI a3, zI a4, zI a5] [zI a5] sh pp mm Q := s_go cM_again_57 cM_again_59 rfl rfl
theorem rM_again_59 {a0 : Nat} {a1 a2 a3 a4 a5 s0 : Int} : zS 232 59 [zR a0, zI a1, zI a2, zI a3, zI a4, zI a5] [zI s0] sh pp mm Q ↔ zS 232 60 [zR a0, zI a1, zI a2, zI a3, zI a4, zI a5] [zR a0, zI s0] sh pp mm Q := s_go cM_again_59 cM_again_60 rfl rfl
theorem rM_again_60 {a0 s0 : Nat} {a1 a2 a3 a4 a5 s1 : Int} : zS 232 60 [zR a0, zI a1, zI a2, zI a3, zI a4, zI a5] [zR s0, zI s1] sh pp mm Q ↔ zS 232 61 [zR a0, zI a1, zI a2, zI a3, zI a4, zI a5] [zI 2, zR s0, zI s1] sh pp mm Q := s_go cM_again_60 cM_again_61 rfl rfl
theorem rM_again_61 {a0 s1 : Nat} {a1 a2 a3 a4 a5 s0 s2 : Int} (hk : zKd sh s1 = 12) : zS 232 61 [zR a0, zI a1, zI a2, zI a3, zI a4, zI a5] [zI s0, zR s1, zI s2] sh pp mm Q ↔ zS 169 0 [zR s1, zI s0] [] sh pp mm (fun v sh pp mm => zS 232 64 [zR a0, zI a1, zI a2, zI a3, zI a4, zI a5] (zPush v [zI s2]) sh pp mm Q) := s_call cM_again_61 cM_again_64 ((if_pos hk).trans rfl) rfl
theorem rM_again_64 {a0 : Nat} {a1 a2 a3 a4 a5 s0 s1 : Int} : zS 232 64 [zR a0, zI a1, zI a2, zI a3, zI a4, zI a5] [zI s0, zI s1] sh pp mm Q ↔ (s1 < s0 → zS 232 67 [zR a0, zI a1, zI a2, zI a3, zI a4, zI a5] [] sh pp mm Q) ∧ (¬ s1 < s0 → zS 232 98 [zR a0, zI a1, zI a2, zI a3, zI a4, zU] [] sh pp mm Q) := s_ifn cM_again_64 cM_again_67 cM_again_98 rfl rfl rfl
theorem rM_again_67 {a0 : Nat} {a1 a2 a3 a4 a5 : Int} : zS 232 67 [zR a0, zI a1, zI a2, zI a3, zI a4, zI a5] [] sh pp mm Q ↔ zS 232 69 [zR a0, zI a1, zI a2, zI a3, zU, zI a5] [zI a4] sh pp mm Q := s_go cM_again_67 cM_again_69 rfl rfl
theorem rM_again_69 {a0 : Nat} {a1 a2 a3 a5 s0 : Int} {u4 : zV} : zS 232 69 [zR a0, zI a1, zI a2, zI a3, u4, zI a5] [zI s0] sh pp mm Q ↔ zS 232 70 [zR a0, zI a1, zI a2, zI a3, zU, zI a5] [zI a3, zI s0] sh pp mm Q := s_go cM_again_69 cM_again_70 rfl rfl
theorem rM_again_70 {a0 : Nat} {a1 a2 a3 a5 s0 s1 : Int} {u4 : zV} : zS 232 70 [zR a0, zI a1, zI a2, zI a3, u4, zI a5] [zI s0, zI s1] sh pp mm Q ↔ zS 232 72 [zR a0, zI a1, zI a2, zI a3, zU, zI a5] [zI a5, zI s0, zI s1] sh pp mm Q := s_go cM_again_70 cM_again_72 rfl rfl
theorem rM_again_72 {a0 : Nat} {a1 a2 a3 a5 s0 s1 s2 : Int} {u4 : zV} : zS 232 72 [zR a0, zI a1, zI a2, zI a3, u4, zI a5] [zI s0, zI s1, zI s2] sh pp mm Q ↔ zS 232 73 [zR a0, zI a1, zI a2, zI a3, zU, zI a5] [zI (zshr s1 s0), zI s2] sh pp mm Q := s_go cM_again_72 cM_again_73 rfl rfl
theorem rM_again_73 {a0 : Nat} {a1 a2 a3 a5 s0 s1 : Int} {u4 : zV} : zS 232 73 [zR a0, zI a1, zI a2, zI a3, u4, zI a5] [zI s0, zI s1] sh pp mm Q ↔ zS 232 74 [zR a0, zI a1, zI a2, zI a3, zU, zI a5] [zI 1, zI s0, zI s1] sh pp mm Q := s_go cM_again_73 cM_again_74 rfl rfl
theorem rM_again_74 {a0 : Nat} {a1 a2 a3 a5 s0 s1 s2 : Int} {u4 : zV} : zS 232 74 [zR a0, zI a1, zI a2, zI a3, u4, zI a5] [zI s0, zI s1, zI s2] sh pp mm Q ↔ zS 232 75 [zR a0, zI a1, zI a2, zI a3, zU, zI a5] [zI (zand s1 s0), zI s2] sh pp mm Q := s_go cM_again_74 cM_again_75 rfl rfl
theorem rM_again_75 {a0 : Nat} {a1 a2 a3 a5 s0 s1 : Int} {u4 : zV} : zS 232 75 [zR a0, zI a1, zI a2, zI a3, u4, zI a5] [zI s0, zI s1] sh pp mm Q ↔ zS 232 76 [zR a0, zI a1, zI a2, zI a3, zU, zI a5] [zI 1, zI s0, zI s1] sh pp mm Q := s_go cM_again_75 cM_again_76 rfl rfl
theorem rM_again_76 {a0 : Nat} {a1 a2 a3 a5 s0 s1 s2 : Int} {u4 : zV} : zS 232 76 [zR a0, zI a1, zI a2, zI a3, u4, zI a5] [zI s0, zI s1, zI s2] sh pp mm Q ↔ (s1 = s0 → zS 232 79 [zR a0, zI a1, zI a2, zI a3, zU, zI a5] [zI s2] sh pp mm Q) ∧ (¬ s1 = s0 → zS 232 88 [zR a0, zI a1, zI a2, zI a3, zU, zI a5] [zI s2] sh pp mm Q) := s_ifn cM_again_76 cM_again_79 cM_again_88 rfl rfl rfl
theorem rM_again_79 {a0 : Nat} {a1 a2 a3 a5 s0 : Int} {u4 : zV} : zS 232 79 [zR a0, zI a1, zI a2, zI a3, u4, zI a5] [zI s0] sh pp mm Q ↔ zS 232 80 [zR a0, zI a1, zI a2, zI a3, zU, zI a5] [zR a0, zI s0] sh pp mm Q := s_go cM_again_79 cM_again_80 rfl rfl
theorem rM_again_80 {a0 s0 : Nat} {a1 a2 a3 a5 s1 : Int} {u4 : zV} : zS 232 80 [zR a0, zI a1, zI a2, zI a3, u4, zI a5] [zR s0, zI s1] sh pp mm Q ↔ zS 232 82 [zR a0, zI a1, zI a2, zI a3, zU, zI a5] [zI a5, zR s0, zI s1] sh pp mm Q := s_go cM_again_80 cM_again_82 rfl rfl
theorem rM_again_82 {a0 s1 : Nat} {a1 a2 a3 a5 s0 s2 : Int} {u4 : zV} (hk : zKd sh s1 = 12) : zS 232 82 [zR a0, zI a1, zI a2, zI a3, u4, zI a5] [zI s0, zR s1, zI s2] sh pp mm Q ↔ zS 231 0 [zR s1, zI s0, zU, zU] [] sh pp mm (fun v sh pp mm => zS 232 85 [zR a0, zI a1, zI a2, zI a3, zU, zI a5] (zPush v [zI s2]) sh pp mm Q) := s_call cM_again_82 cM_again_85 ((if_pos hk).trans rfl) rfl
theorem rM_again_85 {a0 : Nat} {a1 a2 a3 a5 s0 s1 : Int} {u4 : zV} : zS 232 85 [zR a0, zI a1, zI a2, zI a3, u4, zI a5] [zI s0, zI s1] sh pp mm Q ↔ zS 232 89 [zR a0, zI a1, zI a2, zI a3, zU, zI a5] [zI s0, zI s1] sh pp mm Q := s_go cM_again_85 cM_again_89 rfl rfl
theorem rM_again_88 {a0 : Nat} {a1 a2 a3 a5 s0 : Int} {u4 : zV} : zS 232 88 [zR a0, zI a1, zI a2, zI a3, u4, zI a5] [zI s0] sh pp mm Q ↔ zS 232 89 [zR a0, zI a1, zI a2, zI a3, zU, zI a5] [zI 0, zI s0] sh pp mm Q := s_go cM_again_88 cM_again_89 rfl rfl
theorem rM_again_89 {a0 : Nat} {a1 a2 a3 a5 s0 s1 : Int} {u4 : zV} : zS 232 89 [zR a0, zI a1, zI a2, zI a3, u4, zI a5] [zI s0, zI s1] sh pp mm Q ↔ zS 232 90 [zR a0, zI a1, zI a2, zI a3, zU, zI a5] [zI (zw32 (s1 + s0))] sh pp mm Q := s_go cM_again_89 cM_again_90 rfl rfl
theorem rM_again_90 {a0 : Nat} {a1 a2 a3 a5 s0 : Int} {u4 : zV} : zS 232 90 [zR a0, zI a1, zI a2, zI a3, u4, zI a5] [zI s0] sh pp mm Q ↔ zS 232 92 [zR a0, zI a1, zI a2, zI a3, zI s0, zI a5] [] sh pp mm Q := s_go cM_again_90 cM_again_92 rfl rfl
theorem rM_again_92 {a0 : Nat} {a1 a2 a3 a4 a5 : Int} : zS 232 92 [zR a0, zI a1, zI a2, zI a3, zI a4, zI a5] [] sh pp mm Q ↔ zS 232 95 [zR a0, zI a1, zI a2, zI a3, zI a4, zI (zw32 (a5 + 1))] [] sh pp mm Q := s_go cM_again_92 cM_again_95 rfl rfl
theorem rM_again_95 {a0 : Nat} {a1 a2 a3 a4 a5 : Int} : zS 232 95 [zR a0, zI a1, zI a2, zI a3, zI a4, zI a5] [] sh pp mm Q ↔ zS 232 57 [zR a0, zI a1, zI a2, zI a3, zI a4, zI a5] [] sh pp mm Q := s_go cM_again_95 cM_again_57 rfl rfl
theorem rM_again_98 {a0 : Nat} {a1 a2 a3 a4 : Int} {u5 : zV} : zS 232 98 [zR a0, zI a1, zI a2, zI a3, zI a4, u5] [] sh pp mm Q ↔ zS 232 100 [zR a0, zI a1, zI a2, zI a3, zI a4, zU] [zI a4] sh pp mm Q := s_go cM_again_98 cM_again_100 rfl rfl
theorem rM_again_100 {a0 : Nat} {a1 a2 a3 a4 s0 : Int} {u5 : zV} : zS 232 100 [zR a0, zI a1, zI a2, zI a3, zI a4, u5] [zI s0] sh pp mm Q ↔ zS 232 101 [zR a0, zI a1, zI a2, zI a3, zI a4, zU] [zI a2, zI s0] sh pp mm Q := s_go cM_again_100 cM_again_101 rfl rfl
theorem rM_again_101 {a0 : Nat} {a1 a2 a3 a4 s0 s1 : Int} {u5 : zV} : zS 232 101 [zR a0, zI a1, zI a2, zI a3, zI a4, u5] [zI s0, zI s1] sh pp mm Q ↔ (s1 < s0 → zS 232 104 [zR a0, zI a1, zU, zI a3, zI a4, zU] [] sh pp mm Q) ∧ (¬ s1 < s0 → zS 232 109 [zR a0, zI a1, zI a2, zI a3, zU, zU] [] sh pp mm Q) := s_ifn cM_again_101 cM_again_104 cM_again_109 rfl rfl rfl
theorem rM_again_104 {a0 : Nat} {a1 a3 a4 : Int} {u2 u5 : zV} : zS 232 104 [zR a0, zI a1, u2, zI a3, zI a4, u5] [] sh pp mm Q ↔ zS 232 106 [zR a0, zI a1, zU, zI a3, zU, zU] [zI a4] sh pp mm Q := s_go cM_again_104 cM_again_106 rfl rfl
theorem rM_again_106 {a0 : Nat} {a1 a3 s0 : Int} {u2 u4 u5 : zV} : zS 232 106 [zR a0, zI a1, u2, zI a3, u4, u5] [zI s0] sh pp mm Q ↔ zS 232 110 [zR a0, zI a1, zU, zI a3, zU, zU] [zI s0] sh pp mm Q := s_go cM_again_106 cM_again_110 rfl rfl
theorem rM_again_109 {a0 : Nat} {a1 a2 a3 : Int} {u4 u5 : zV} : zS 232 109 [zR a0, zI a1, zI a2, zI a3, u4, u5] [] sh pp mm Q ↔ zS 232 110 [zR a0, zI a1, zU, zI a3, zU, zU] [zI a2] sh pp mm Q := s_go cM_again_109 cM_again_110 rfl rfl
theorem rM_again_110 {a0 : Nat} {a1 a3 s0 : Int} {u2 u4 u5 : zV} : zS 232 110 [zR a0, zI a1, u2, zI a3, u4, u5] [zI s0] sh pp mm Q ↔ zS 232 111 [zR a0, zI a1, zI s0, zI a3, zU, zU] [] sh pp mm Q := s_go cM_again_110 cM_again_111 rfl rfl
theorem rM_again_111 {a0 : Nat} {a1 a2 a3 : Int} {u4 u5 : zV} : zS 232 111 [zR a0, zI a1, zI a2, zI a3, u4, u5] [] sh pp mm Q ↔ zS 232 114 [zR a0, zI a1, zI a2, zI (zw32 (a3 + 1)), zU, zU] [] sh pp mm Q := s_go cM_again_111 cM_again_114 rfl rfl
theorem rM_again_114 {a0 : Nat} {a1 a2 a3 : Int} {u4 u5 : zV} : zS 232 114 [zR a0, zI a1, zI a2, zI a3, u4, u5] [] sh pp mm Q ↔ zS 232 29 [zR a0, zI a1, zI a2, zI a3, zU, zU] [] sh pp mm Q := s_go cM_again_114 cM_again_29 rfl rfl
theorem rM_again_117 {a2 : Int} {u0 u1 u3 u4 u5 : zV} : zS 232 117 [u0, u1, zI a2, u3, u4, u5] [] sh pp mm Q ↔ zS 232 118 [zU, zU, zU, zU, zU, zU] [zI a2] sh pp mm Q := s_go cM_again_117 cM_again_118 rfl rfl
theorem rM_again_118 {s0 : Int} {u0 u1 u2 u3 u4 u5 : zV} : zS 232 118 [u0, u1, u2, u3, u4, u5] [zI s0] sh pp mm Q ↔ Q (zI s0) sh pp mm := s_ret cM_again_118 rfl
theorem cAM_offAt : ∀ q ∈ zT233, zCode 233 q.1 = some q.2 := zAll (mid := 233) rfl (by decide +kernel)
theorem cAM_offAt_0 : ∀ q ∈ zT233_0, zCode 233 q.1 = some q.2 := fun q h => cAM_offAt q (h)
theorem cM_offAt_0 : zCode 233 0 = some (.iload_n 0, 1, 0, 0, 0, 0, 7) := cAM_offAt_0 _ (List.mem_of_getElem? (i := 0) rfl)
theorem cM_offAt_1 : zCode 233 1 = some (.iload_n 0, 2, 0, 0, 0, 0, 7) := cAM_offAt_0 _ (List.mem_of_getElem? (i := 1) rfl)
theorem cM_offAt_2 : zCode 233 2 = some (.imul, 3, 0, 0, 0, 0, 6) := cAM_offAt_0 _ (List.mem_of_getElem? (i := 2) rfl)
theorem cM_offAt_3 : zCode 233 3 = some (.iload_n 1, 4, 0, 0, 0, 0, 6) := cAM_offAt_0 _ (List.mem_of_getElem? (i := 3) rfl)
theorem cM_offAt_4 : zCode 233 4 = some (.iload_n 1, 5, 0, 0, 0, 0, 6) := cAM_offAt_0 _ (List.mem_of_getElem? (i := 4) rfl)
theorem cM_offAt_5 : zCode 233 5 = some (.imul, 6, 0, 0, 0, 0, 4) := cAM_offAt_0 _ (List.mem_of_getElem? (i := 5) rfl)
theorem cM_offAt_6 : zCode 233 6 = some (.iadd, 7, 0, 0, 0, 0, 4) := cAM_offAt_0 _ (List.mem_of_getElem? (i := 6) rfl)
theorem cM_offAt_7 : zCode 233 7 = some (.iload_n 2, 8, 0, 0, 0, 0, 4) := cAM_offAt_0 _ (List.mem_of_getElem? (i := 7) rfl)
theorem cM_offAt_8 : zCode 233 8 = some (.iload_n 2, 9, 0, 0, 0, 0, 4) := cAM_offAt_0 _ (List.mem_of_getElem? (i := 8) rfl)
theorem cM_offAt_9 : zCode 233 9 = some (.imul, 10, 0, 0, 0, 0, 0) := cAM_offAt_0 _ (List.mem_of_getElem? (i := 9) rfl)
theorem cM_offAt_10 : zCode 233 10 = some (.isub, 11, 0, 0, 0, 0, 0) := cAM_offAt_0 _ (List.mem_of_getElem? (i := 10) rfl)
theorem cM_offAt_11 : zCode 233 11 = some (.invokestatic 229, 14, 190, 1, 1, 12, 0) := cAM_offAt_0 _ (List.mem_of_getElem? (i := 11) rfl)
theorem cM_offAt_14 : zCode 233 14 = some (.ireturn, 15, 0, 0, 0, 0, 0) := cAM_offAt_0 _ (List.mem_of_getElem? (i := 12) rfl)
theorem rM_offAt_0 {a0 a1 a2 : Int} : zS 233 0 [zI a0, zI a1, zI a2] [] sh pp mm Q ↔ zS 233 1 [zI a0, zI a1, zI a2] [zI a0] sh pp mm Q := s_go cM_offAt_0 cM_offAt_1 rfl rfl
theorem rM_offAt_1 {a0 a1 a2 s0 : Int} : zS 233 1 [zI a0, zI a1, zI a2] [zI s0] sh pp mm Q ↔ zS 233 2 [zU, zI a1, zI a2] [zI a0, zI s0] sh pp mm Q := s_go cM_offAt_1 cM_offAt_2 rfl rfl
theorem rM_offAt_2 {a1 a2 s0 s1 : Int} {u0 : zV} : zS 233 2 [u0, zI a1, zI a2] [zI s0, zI s1] sh pp mm Q ↔ zS 233 3 [zU, zI a1, zI a2] [zI (zw32 (s1 * s0))] sh pp mm Q := s_go cM_offAt_2 cM_offAt_3 rfl rfl
theorem rM_offAt_3 {a1 a2 s0 : Int} {u0 : zV} : zS 233 3 [u0, zI a1, zI a2] [zI s0] sh pp mm Q ↔ zS 233 4 [zU, zI a1, zI a2] [zI a1, zI s0] sh pp mm Q := s_go cM_offAt_3 cM_offAt_4 rfl rfl
theorem rM_offAt_4 {a1 a2 s0 s1 : Int} {u0 : zV} : zS 233 4 [u0, zI a1, zI a2] [zI s0, zI s1] sh pp mm Q ↔ zS 233 5 [zU, zU, zI a2] [zI a1, zI s0, zI s1] sh pp mm Q := s_go cM_offAt_4 cM_offAt_5 rfl rfl
theorem rM_offAt_5 {a2 s0 s1 s2 : Int} {u0 u1 : zV} : zS 233 5 [u0, u1, zI a2] [zI s0, zI s1, zI s2] sh pp mm Q ↔ zS 233 6 [zU, zU, zI a2] [zI (zw32 (s1 * s0)), zI s2] sh pp mm Q := s_go cM_offAt_5 cM_offAt_6 rfl rfl
theorem rM_offAt_6 {a2 s0 s1 : Int} {u0 u1 : zV} : zS 233 6 [u0, u1, zI a2] [zI s0, zI s1] sh pp mm Q ↔ zS 233 7 [zU, zU, zI a2] [zI (zw32 (s1 + s0))] sh pp mm Q := s_go cM_offAt_6 cM_offAt_7 rfl rfl
theorem rM_offAt_7 {a2 s0 : Int} {u0 u1 : zV} : zS 233 7 [u0, u1, zI a2] [zI s0] sh pp mm Q ↔ zS 233 8 [zU, zU, zI a2] [zI a2, zI s0] sh pp mm Q := s_go cM_offAt_7 cM_offAt_8 rfl rfl
theorem rM_offAt_8 {a2 s0 s1 : Int} {u0 u1 : zV} : zS 233 8 [u0, u1, zI a2] [zI s0, zI s1] sh pp mm Q ↔ zS 233 9 [zU, zU, zU] [zI a2, zI s0, zI s1] sh pp mm Q := s_go cM_offAt_8 cM_offAt_9 rfl rfl
theorem rM_offAt_9 {s0 s1 s2 : Int} {u0 u1 u2 : zV} : zS 233 9 [u0, u1, u2] [zI s0, zI s1, zI s2] sh pp mm Q ↔ zS 233 10 [zU, zU, zU] [zI (zw32 (s1 * s0)), zI s2] sh pp mm Q := s_go cM_offAt_9 cM_offAt_10 rfl rfl
theorem rM_offAt_10 {s0 s1 : Int} {u0 u1 u2 : zV} : zS 233 10 [u0, u1, u2] [zI s0, zI s1] sh pp mm Q ↔ zS 233 11 [zU, zU, zU] [zI (zw32 (s1 - s0))] sh pp mm Q := s_go cM_offAt_10 cM_offAt_11 rfl rfl
theorem rM_offAt_11 {s0 : Int} {u0 u1 u2 : zV} : zS 233 11 [u0, u1, u2] [zI s0] sh pp mm Q ↔ zS 190 0 [zI s0] [] sh pp mm (fun v sh pp mm => zS 233 14 [zU, zU, zU] (zPush v []) sh pp mm Q) := s_call cM_offAt_11 cM_offAt_14 rfl rfl
theorem rM_offAt_14 {s0 : Int} {u0 u1 u2 : zV} : zS 233 14 [u0, u1, u2] [zI s0] sh pp mm Q ↔ Q (zI s0) sh pp mm := s_ret cM_offAt_14 rfl
theorem cAM_offAlong : ∀ q ∈ zT234, zCode 234 q.1 = some q.2 := zAll (mid := 234) rfl (by decide +kernel)
theorem cAM_offAlong_0 : ∀ q ∈ zT234_0, zCode 234 q.1 = some q.2 := fun q h => cAM_offAlong q (List.mem_append_left _ h)
theorem cAM_offAlong_1 : ∀ q ∈ zT234_1, zCode 234 q.1 = some q.2 := fun q h => cAM_offAlong q (List.mem_append_right _ (List.mem_append_left _ h))
theorem cAM_offAlong_2 : ∀ q ∈ zT234_2, zCode 234 q.1 = some q.2 := fun q h => cAM_offAlong q (List.mem_append_right _ (List.mem_append_right _ h))
theorem cM_offAlong_0 : zCode 234 0 = some (.iload_n 0, 1, 0, 0, 0, 0, 31) := cAM_offAlong_0 _ (List.mem_of_getElem? (i := 0) rfl)
theorem cM_offAlong_1 : zCode 234 1 = some (.iload_n 2, 2, 0, 0, 0, 0, 31) := cAM_offAlong_0 _ (List.mem_of_getElem? (i := 1) rfl)
theorem cM_offAlong_2 : zCode 234 2 = some (.isub, 3, 0, 0, 0, 0, 27) := cAM_offAlong_0 _ (List.mem_of_getElem? (i := 2) rfl)
theorem cM_offAlong_3 : zCode 234 3 = some (.istore 5, 5, 0, 0, 0, 0, 27) := cAM_offAlong_0 _ (List.mem_of_getElem? (i := 3) rfl)
theorem cM_offAlong_5 : zCode 234 5 = some (.iload_n 3, 6, 0, 0, 0, 0, 59) := cAM_offAlong_0 _ (List.mem_of_getElem? (i := 4) rfl)
theorem cM_offAlong_6 : zCode 234 6 = some (.iload_n 1, 7, 0, 0, 0, 0, 51) := cAM_offAlong_0 _ (List.mem_of_getElem? (i := 5) rfl)
theorem cM_offAlong_7 : zCode 234 7 = some (.isub, 8, 0, 0, 0, 0, 51) := cAM_offAlong_0 _ (List.mem_of_getElem? (i := 6) rfl)
theorem cM_offAlong_8 : zCode 234 8 = some (.istore 6, 10, 0, 0, 0, 0, 51) := cAM_offAlong_0 _ (List.mem_of_getElem? (i := 7) rfl)
theorem cM_offAlong_10 : zCode 234 10 = some (.iload 5, 12, 0, 0, 0, 0, 115) := cAM_offAlong_0 _ (List.mem_of_getElem? (i := 8) rfl)
theorem cM_offAlong_12 : zCode 234 12 = some (.iload 6, 14, 0, 0, 0, 0, 115) := cAM_offAlong_0 _ (List.mem_of_getElem? (i := 9) rfl)
theorem cM_offAlong_14 : zCode 234 14 = some (.invokestatic 232, 17, 192, 2, 2, 12, 115) := cAM_offAlong_0 _ (List.mem_of_getElem? (i := 10) rfl)
theorem cM_offAlong_17 : zCode 234 17 = some (.istore 7, 19, 0, 0, 0, 0, 115) := cAM_offAlong_0 _ (List.mem_of_getElem? (i := 11) rfl)
theorem cM_offAlong_19 : zCode 234 19 = some (.iconst 0, 20, 0, 0, 0, 0, 243) := cAM_offAlong_0 _ (List.mem_of_getElem? (i := 12) rfl)
theorem cM_offAlong_20 : zCode 234 20 = some (.istore 8, 22, 0, 0, 0, 0, 243) := cAM_offAlong_0 _ (List.mem_of_getElem? (i := 13) rfl)
theorem cM_offAlong_22 : zCode 234 22 = some (.iconst 1, 23, 0, 0, 0, 0, 499) := cAM_offAlong_0 _ (List.mem_of_getElem? (i := 14) rfl)
theorem cM_offAlong_23 : zCode 234 23 = some (.istore 9, 25, 0, 0, 0, 0, 499) := cAM_offAlong_0 _ (List.mem_of_getElem? (i := 15) rfl)
theorem cM_offAlong_25 : zCode 234 25 = some (.iload 9, 27, 0, 0, 0, 0, 1011) := cAM_offAlong_1 _ (List.mem_of_getElem? (i := 0) rfl)
theorem cM_offAlong_27 : zCode 234 27 = some (.iload 7, 29, 0, 0, 0, 0, 1011) := cAM_offAlong_1 _ (List.mem_of_getElem? (i := 1) rfl)
theorem cM_offAlong_29 : zCode 234 29 = some (.if_icmp .gt 41, 32, 70, 0, 0, 0, 1011) := cAM_offAlong_1 _ (List.mem_of_getElem? (i := 2) rfl)
theorem cM_offAlong_32 : zCode 234 32 = some (.iload 8, 34, 0, 0, 0, 0, 1011) := cAM_offAlong_1 _ (List.mem_of_getElem? (i := 3) rfl)
theorem cM_offAlong_34 : zCode 234 34 = some (.iload_n 0, 35, 0, 0, 0, 0, 755) := cAM_offAlong_1 _ (List.mem_of_getElem? (i := 4) rfl)
theorem cM_offAlong_35 : zCode 234 35 = some (.iload 9, 37, 0, 0, 0, 0, 755) := cAM_offAlong_1 _ (List.mem_of_getElem? (i := 5) rfl)
theorem cM_offAlong_37 : zCode 234 37 = some (.iload 5, 39, 0, 0, 0, 0, 755) := cAM_offAlong_1 _ (List.mem_of_getElem? (i := 6) rfl)
theorem cM_offAlong_39 : zCode 234 39 = some (.imul, 40, 0, 0, 0, 0, 755) := cAM_offAlong_1 _ (List.mem_of_getElem? (i := 7) rfl)
theorem cM_offAlong_40 : zCode 234 40 = some (.iload 7, 42, 0, 0, 0, 0, 755) := cAM_offAlong_1 _ (List.mem_of_getElem? (i := 8) rfl)
theorem cM_offAlong_42 : zCode 234 42 = some (.idiv, 43, 0, 0, 0, 0, 755) := cAM_offAlong_1 _ (List.mem_of_getElem? (i := 9) rfl)
theorem cM_offAlong_43 : zCode 234 43 = some (.isub, 44, 0, 0, 0, 0, 755) := cAM_offAlong_1 _ (List.mem_of_getElem? (i := 10) rfl)
theorem cM_offAlong_44 : zCode 234 44 = some (.iload_n 1, 45, 0, 0, 0, 0, 755) := cAM_offAlong_1 _ (List.mem_of_getElem? (i := 11) rfl)
theorem cM_offAlong_45 : zCode 234 45 = some (.iload 9, 47, 0, 0, 0, 0, 755) := cAM_offAlong_1 _ (List.mem_of_getElem? (i := 12) rfl)
theorem cM_offAlong_47 : zCode 234 47 = some (.iload 6, 49, 0, 0, 0, 0, 755) := cAM_offAlong_1 _ (List.mem_of_getElem? (i := 13) rfl)
theorem cM_offAlong_49 : zCode 234 49 = some (.imul, 50, 0, 0, 0, 0, 755) := cAM_offAlong_1 _ (List.mem_of_getElem? (i := 14) rfl)
theorem cM_offAlong_50 : zCode 234 50 = some (.iload 7, 52, 0, 0, 0, 0, 755) := cAM_offAlong_1 _ (List.mem_of_getElem? (i := 15) rfl)
theorem cM_offAlong_52 : zCode 234 52 = some (.idiv, 53, 0, 0, 0, 0, 755) := cAM_offAlong_2 _ (List.mem_of_getElem? (i := 0) rfl)
theorem cM_offAlong_53 : zCode 234 53 = some (.iadd, 54, 0, 0, 0, 0, 755) := cAM_offAlong_2 _ (List.mem_of_getElem? (i := 1) rfl)
theorem cM_offAlong_54 : zCode 234 54 = some (.iload 4, 56, 0, 0, 0, 0, 755) := cAM_offAlong_2 _ (List.mem_of_getElem? (i := 2) rfl)
theorem cM_offAlong_56 : zCode 234 56 = some (.invokestatic 342, 59, 233, 3, 3, 12, 755) := cAM_offAlong_2 _ (List.mem_of_getElem? (i := 3) rfl)
theorem cM_offAlong_59 : zCode 234 59 = some (.invokestatic 232, 62, 192, 2, 2, 12, 755) := cAM_offAlong_2 _ (List.mem_of_getElem? (i := 4) rfl)
theorem cM_offAlong_62 : zCode 234 62 = some (.istore 8, 64, 0, 0, 0, 0, 755) := cAM_offAlong_2 _ (List.mem_of_getElem? (i := 5) rfl)
theorem cM_offAlong_64 : zCode 234 64 = some (.iinc 9 1, 67, 0, 0, 0, 0, 1011) := cAM_offAlong_2 _ (List.mem_of_getElem? (i := 6) rfl)
theorem cM_offAlong_67 : zCode 234 67 = some (.goto (-42), 70, 25, 0, 0, 0, 1011) := cAM_offAlong_2 _ (List.mem_of_getElem? (i := 7) rfl)
theorem cM_offAlong_70 : zCode 234 70 = some (.iload 8, 72, 0, 0, 0, 0, 256) := cAM_offAlong_2 _ (List.mem_of_getElem? (i := 8) rfl)
theorem cM_offAlong_72 : zCode 234 72 = some (.ireturn, 73, 0, 0, 0, 0, 0) := cAM_offAlong_2 _ (List.mem_of_getElem? (i := 9) rfl)
theorem rM_offAlong_0 {a0 a1 a2 a3 a4 : Int} {u5 u6 u7 u8 u9 : zV} : zS 234 0 [zI a0, zI a1, zI a2, zI a3, zI a4, u5, u6, u7, u8, u9] [] sh pp mm Q ↔ zS 234 1 [zI a0, zI a1, zI a2, zI a3, zI a4, zU, zU, zU, zU, zU] [zI a0] sh pp mm Q := s_go cM_offAlong_0 cM_offAlong_1 rfl rfl
theorem rM_offAlong_1 {a0 a1 a2 a3 a4 s0 : Int} {u5 u6 u7 u8 u9 : zV} : zS 234 1 [zI a0, zI a1, zI a2, zI a3, zI a4, u5, u6, u7, u8, u9] [zI s0] sh pp mm Q ↔ zS 234 2 [zI a0, zI a1, zU, zI a3, zI a4, zU, zU, zU, zU, zU] [zI a2, zI s0] sh pp mm Q := s_go cM_offAlong_1 cM_offAlong_2 rfl rfl
theorem rM_offAlong_2 {a0 a1 a3 a4 s0 s1 : Int} {u2 u5 u6 u7 u8 u9 : zV} : zS 234 2 [zI a0, zI a1, u2, zI a3, zI a4, u5, u6, u7, u8, u9] [zI s0, zI s1] sh pp mm Q ↔ zS 234 3 [zI a0, zI a1, zU, zI a3, zI a4, zU, zU, zU, zU, zU] [zI (zw32 (s1 - s0))] sh pp mm Q := s_go cM_offAlong_2 cM_offAlong_3 rfl rfl
theorem rM_offAlong_3 {a0 a1 a3 a4 s0 : Int} {u2 u5 u6 u7 u8 u9 : zV} : zS 234 3 [zI a0, zI a1, u2, zI a3, zI a4, u5, u6, u7, u8, u9] [zI s0] sh pp mm Q ↔ zS 234 5 [zI a0, zI a1, zU, zI a3, zI a4, zI s0, zU, zU, zU, zU] [] sh pp mm Q := s_go cM_offAlong_3 cM_offAlong_5 rfl rfl
theorem rM_offAlong_5 {a0 a1 a3 a4 a5 : Int} {u2 u6 u7 u8 u9 : zV} : zS 234 5 [zI a0, zI a1, u2, zI a3, zI a4, zI a5, u6, u7, u8, u9] [] sh pp mm Q ↔ zS 234 6 [zI a0, zI a1, zU, zU, zI a4, zI a5, zU, zU, zU, zU] [zI a3] sh pp mm Q := s_go cM_offAlong_5 cM_offAlong_6 rfl rfl
theorem rM_offAlong_6 {a0 a1 a4 a5 s0 : Int} {u2 u3 u6 u7 u8 u9 : zV} : zS 234 6 [zI a0, zI a1, u2, u3, zI a4, zI a5, u6, u7, u8, u9] [zI s0] sh pp mm Q ↔ zS 234 7 [zI a0, zI a1, zU, zU, zI a4, zI a5, zU, zU, zU, zU] [zI a1, zI s0] sh pp mm Q := s_go cM_offAlong_6 cM_offAlong_7 rfl rfl
theorem rM_offAlong_7 {a0 a1 a4 a5 s0 s1 : Int} {u2 u3 u6 u7 u8 u9 : zV} : zS 234 7 [zI a0, zI a1, u2, u3, zI a4, zI a5, u6, u7, u8, u9] [zI s0, zI s1] sh pp mm Q ↔ zS 234 8 [zI a0, zI a1, zU, zU, zI a4, zI a5, zU, zU, zU, zU] [zI (zw32 (s1 - s0))] sh pp mm Q := s_go cM_offAlong_7 cM_offAlong_8 rfl rfl
theorem rM_offAlong_8 {a0 a1 a4 a5 s0 : Int} {u2 u3 u6 u7 u8 u9 : zV} : zS 234 8 [zI a0, zI a1, u2, u3, zI a4, zI a5, u6, u7, u8, u9] [zI s0] sh pp mm Q ↔ zS 234 10 [zI a0, zI a1, zU, zU, zI a4, zI a5, zI s0, zU, zU, zU] [] sh pp mm Q := s_go cM_offAlong_8 cM_offAlong_10 rfl rfl
theorem rM_offAlong_10 {a0 a1 a4 a5 a6 : Int} {u2 u3 u7 u8 u9 : zV} : zS 234 10 [zI a0, zI a1, u2, u3, zI a4, zI a5, zI a6, u7, u8, u9] [] sh pp mm Q ↔ zS 234 12 [zI a0, zI a1, zU, zU, zI a4, zI a5, zI a6, zU, zU, zU] [zI a5] sh pp mm Q := s_go cM_offAlong_10 cM_offAlong_12 rfl rfl
theorem rM_offAlong_12 {a0 a1 a4 a5 a6 s0 : Int} {u2 u3 u7 u8 u9 : zV} : zS 234 12 [zI a0, zI a1, u2, u3, zI a4, zI a5, zI a6, u7, u8, u9] [zI s0] sh pp mm Q ↔ zS 234 14 [zI a0, zI a1, zU, zU, zI a4, zI a5, zI a6, zU, zU, zU] [zI a6, zI s0] sh pp mm Q := s_go cM_offAlong_12 cM_offAlong_14 rfl rfl
theorem rM_offAlong_14 {a0 a1 a4 a5 a6 s0 s1 : Int} {u2 u3 u7 u8 u9 : zV} : zS 234 14 [zI a0, zI a1, u2, u3, zI a4, zI a5, zI a6, u7, u8, u9] [zI s0, zI s1] sh pp mm Q ↔ zS 192 0 [zI s1, zI s0] [] sh pp mm (fun v sh pp mm => zS 234 17 [zI a0, zI a1, zU, zU, zI a4, zI a5, zI a6, zU, zU, zU] (zPush v []) sh pp mm Q) := s_call cM_offAlong_14 cM_offAlong_17 rfl rfl
theorem rM_offAlong_17 {a0 a1 a4 a5 a6 s0 : Int} {u2 u3 u7 u8 u9 : zV} : zS 234 17 [zI a0, zI a1, u2, u3, zI a4, zI a5, zI a6, u7, u8, u9] [zI s0] sh pp mm Q ↔ zS 234 19 [zI a0, zI a1, zU, zU, zI a4, zI a5, zI a6, zI s0, zU, zU] [] sh pp mm Q := s_go cM_offAlong_17 cM_offAlong_19 rfl rfl
theorem rM_offAlong_19 {a0 a1 a4 a5 a6 a7 : Int} {u2 u3 u8 u9 : zV} : zS 234 19 [zI a0, zI a1, u2, u3, zI a4, zI a5, zI a6, zI a7, u8, u9] [] sh pp mm Q ↔ zS 234 20 [zI a0, zI a1, zU, zU, zI a4, zI a5, zI a6, zI a7, zU, zU] [zI 0] sh pp mm Q := s_go cM_offAlong_19 cM_offAlong_20 rfl rfl
theorem rM_offAlong_20 {a0 a1 a4 a5 a6 a7 s0 : Int} {u2 u3 u8 u9 : zV} : zS 234 20 [zI a0, zI a1, u2, u3, zI a4, zI a5, zI a6, zI a7, u8, u9] [zI s0] sh pp mm Q ↔ zS 234 22 [zI a0, zI a1, zU, zU, zI a4, zI a5, zI a6, zI a7, zI s0, zU] [] sh pp mm Q := s_go cM_offAlong_20 cM_offAlong_22 rfl rfl
theorem rM_offAlong_22 {a0 a1 a4 a5 a6 a7 a8 : Int} {u2 u3 u9 : zV} : zS 234 22 [zI a0, zI a1, u2, u3, zI a4, zI a5, zI a6, zI a7, zI a8, u9] [] sh pp mm Q ↔ zS 234 23 [zI a0, zI a1, zU, zU, zI a4, zI a5, zI a6, zI a7, zI a8, zU] [zI 1] sh pp mm Q := s_go cM_offAlong_22 cM_offAlong_23 rfl rfl
theorem rM_offAlong_23 {a0 a1 a4 a5 a6 a7 a8 s0 : Int} {u2 u3 u9 : zV} : zS 234 23 [zI a0, zI a1, u2, u3, zI a4, zI a5, zI a6, zI a7, zI a8, u9] [zI s0] sh pp mm Q ↔ zS 234 25 [zI a0, zI a1, zU, zU, zI a4, zI a5, zI a6, zI a7, zI a8, zI s0] [] sh pp mm Q := s_go cM_offAlong_23 cM_offAlong_25 rfl rfl
theorem rM_offAlong_25 {a0 a1 a4 a5 a6 a7 a8 a9 : Int} {u2 u3 : zV} : zS 234 25 [zI a0, zI a1, u2, u3, zI a4, zI a5, zI a6, zI a7, zI a8, zI a9] [] sh pp mm Q ↔ zS 234 27 [zI a0, zI a1, zU, zU, zI a4, zI a5, zI a6, zI a7, zI a8, zI a9] [zI a9] sh pp mm Q := s_go cM_offAlong_25 cM_offAlong_27 rfl rfl
theorem rM_offAlong_27 {a0 a1 a4 a5 a6 a7 a8 a9 s0 : Int} {u2 u3 : zV} : zS 234 27 [zI a0, zI a1, u2, u3, zI a4, zI a5, zI a6, zI a7, zI a8, zI a9] [zI s0] sh pp mm Q ↔ zS 234 29 [zI a0, zI a1, zU, zU, zI a4, zI a5, zI a6, zI a7, zI a8, zI a9] [zI a7, zI s0] sh pp mm Q := s_go cM_offAlong_27 cM_offAlong_29 rfl rfl
theorem rM_offAlong_29 {a0 a1 a4 a5 a6 a7 a8 a9 s0 s1 : Int} {u2 u3 : zV} : zS 234 29 [zI a0, zI a1, u2, u3, zI a4, zI a5, zI a6, zI a7, zI a8, zI a9] [zI s0, zI s1] sh pp mm Q ↔ (s0 < s1 → zS 234 70 [zU, zU, zU, zU, zU, zU, zU, zU, zI a8, zU] [] sh pp mm Q) ∧ (¬ s0 < s1 → zS 234 32 [zI a0, zI a1, zU, zU, zI a4, zI a5, zI a6, zI a7, zI a8, zI a9] [] sh pp mm Q) := s_if cM_offAlong_29 cM_offAlong_70 cM_offAlong_32 rfl rfl rfl
theorem rM_offAlong_32 {a0 a1 a4 a5 a6 a7 a8 a9 : Int} {u2 u3 : zV} : zS 234 32 [zI a0, zI a1, u2, u3, zI a4, zI a5, zI a6, zI a7, zI a8, zI a9] [] sh pp mm Q ↔ zS 234 34 [zI a0, zI a1, zU, zU, zI a4, zI a5, zI a6, zI a7, zU, zI a9] [zI a8] sh pp mm Q := s_go cM_offAlong_32 cM_offAlong_34 rfl rfl
theorem rM_offAlong_34 {a0 a1 a4 a5 a6 a7 a9 s0 : Int} {u2 u3 u8 : zV} : zS 234 34 [zI a0, zI a1, u2, u3, zI a4, zI a5, zI a6, zI a7, u8, zI a9] [zI s0] sh pp mm Q ↔ zS 234 35 [zI a0, zI a1, zU, zU, zI a4, zI a5, zI a6, zI a7, zU, zI a9] [zI a0, zI s0] sh pp mm Q := s_go cM_offAlong_34 cM_offAlong_35 rfl rfl
theorem rM_offAlong_35 {a0 a1 a4 a5 a6 a7 a9 s0 s1 : Int} {u2 u3 u8 : zV} : zS 234 35 [zI a0, zI a1, u2, u3, zI a4, zI a5, zI a6, zI a7, u8, zI a9] [zI s0, zI s1] sh pp mm Q ↔ zS 234 37 [zI a0, zI a1, zU, zU, zI a4, zI a5, zI a6, zI a7, zU, zI a9] [zI a9, zI s0, zI s1] sh pp mm Q := s_go cM_offAlong_35 cM_offAlong_37 rfl rfl
theorem rM_offAlong_37 {a0 a1 a4 a5 a6 a7 a9 s0 s1 s2 : Int} {u2 u3 u8 : zV} : zS 234 37 [zI a0, zI a1, u2, u3, zI a4, zI a5, zI a6, zI a7, u8, zI a9] [zI s0, zI s1, zI s2] sh pp mm Q ↔ zS 234 39 [zI a0, zI a1, zU, zU, zI a4, zI a5, zI a6, zI a7, zU, zI a9] [zI a5, zI s0, zI s1, zI s2] sh pp mm Q := s_go cM_offAlong_37 cM_offAlong_39 rfl rfl
theorem rM_offAlong_39 {a0 a1 a4 a5 a6 a7 a9 s0 s1 s2 s3 : Int} {u2 u3 u8 : zV} : zS 234 39 [zI a0, zI a1, u2, u3, zI a4, zI a5, zI a6, zI a7, u8, zI a9] [zI s0, zI s1, zI s2, zI s3] sh pp mm Q ↔ zS 234 40 [zI a0, zI a1, zU, zU, zI a4, zI a5, zI a6, zI a7, zU, zI a9] [zI (zw32 (s1 * s0)), zI s2, zI s3] sh pp mm Q := s_go cM_offAlong_39 cM_offAlong_40 rfl rfl
theorem rM_offAlong_40 {a0 a1 a4 a5 a6 a7 a9 s0 s1 s2 : Int} {u2 u3 u8 : zV} : zS 234 40 [zI a0, zI a1, u2, u3, zI a4, zI a5, zI a6, zI a7, u8, zI a9] [zI s0, zI s1, zI s2] sh pp mm Q ↔ zS 234 42 [zI a0, zI a1, zU, zU, zI a4, zI a5, zI a6, zI a7, zU, zI a9] [zI a7, zI s0, zI s1, zI s2] sh pp mm Q := s_go cM_offAlong_40 cM_offAlong_42 rfl rfl
theorem rM_offAlong_42 {a0 a1 a4 a5 a6 a7 a9 s0 s1 s2 s3 : Int} {u2 u3 u8 : zV} (hz : s0 ≠ 0) : zS 234 42 [zI a0, zI a1, u2, u3, zI a4, zI a5, zI a6, zI a7, u8, zI a9] [zI s0, zI s1, zI s2, zI s3] sh pp mm Q ↔ zS 234 43 [zI a0, zI a1, zU, zU, zI a4, zI a5, zI a6, zI a7, zU, zI a9] [zI (zw32 (s1.tdiv s0)), zI s2, zI s3] sh pp mm Q := s_go cM_offAlong_42 cM_offAlong_43 (if_neg hz) rfl
theorem rM_offAlong_43 {a0 a1 a4 a5 a6 a7 a9 s0 s1 s2 : Int} {u2 u3 u8 : zV} : zS 234 43 [zI a0, zI a1, u2, u3, zI a4, zI a5, zI a6, zI a7, u8, zI a9] [zI s0, zI s1, zI s2] sh pp mm Q ↔ zS 234 44 [zI a0, zI a1, zU, zU, zI a4, zI a5, zI a6, zI a7, zU, zI a9] [zI (zw32 (s1 - s0)), zI s2] sh pp mm Q := s_go cM_offAlong_43 cM_offAlong_44 rfl rfl
theorem rM_offAlong_44 {a0 a1 a4 a5 a6 a7 a9 s0 s1 : Int} {u2 u3 u8 : zV} : zS 234 44 [zI a0, zI a1, u2, u3, zI a4, zI a5, zI a6, zI a7, u8, zI a9] [zI s0, zI s1] sh pp mm Q ↔ zS 234 45 [zI a0, zI a1, zU, zU, zI a4, zI a5, zI a6, zI a7, zU, zI a9] [zI a1, zI s0, zI s1] sh pp mm Q := s_go cM_offAlong_44 cM_offAlong_45 rfl rfl
theorem rM_offAlong_45 {a0 a1 a4 a5 a6 a7 a9 s0 s1 s2 : Int} {u2 u3 u8 : zV} : zS 234 45 [zI a0, zI a1, u2, u3, zI a4, zI a5, zI a6, zI a7, u8, zI a9] [zI s0, zI s1, zI s2] sh pp mm Q ↔ zS 234 47 [zI a0, zI a1, zU, zU, zI a4, zI a5, zI a6, zI a7, zU, zI a9] [zI a9, zI s0, zI s1, zI s2] sh pp mm Q := s_go cM_offAlong_45 cM_offAlong_47 rfl rfl
theorem rM_offAlong_47 {a0 a1 a4 a5 a6 a7 a9 s0 s1 s2 s3 : Int} {u2 u3 u8 : zV} : zS 234 47 [zI a0, zI a1, u2, u3, zI a4, zI a5, zI a6, zI a7, u8, zI a9] [zI s0, zI s1, zI s2, zI s3] sh pp mm Q ↔ zS 234 49 [zI a0, zI a1, zU, zU, zI a4, zI a5, zI a6, zI a7, zU, zI a9] [zI a6, zI s0, zI s1, zI s2, zI s3] sh pp mm Q := s_go cM_offAlong_47 cM_offAlong_49 rfl rfl
theorem rM_offAlong_49 {a0 a1 a4 a5 a6 a7 a9 s0 s1 s2 s3 s4 : Int} {u2 u3 u8 : zV} : zS 234 49 [zI a0, zI a1, u2, u3, zI a4, zI a5, zI a6, zI a7, u8, zI a9] [zI s0, zI s1, zI s2, zI s3, zI s4] sh pp mm Q ↔ zS 234 50 [zI a0, zI a1, zU, zU, zI a4, zI a5, zI a6, zI a7, zU, zI a9] [zI (zw32 (s1 * s0)), zI s2, zI s3, zI s4] sh pp mm Q := s_go cM_offAlong_49 cM_offAlong_50 rfl rfl
theorem rM_offAlong_50 {a0 a1 a4 a5 a6 a7 a9 s0 s1 s2 s3 : Int} {u2 u3 u8 : zV} : zS 234 50 [zI a0, zI a1, u2, u3, zI a4, zI a5, zI a6, zI a7, u8, zI a9] [zI s0, zI s1, zI s2, zI s3] sh pp mm Q ↔ zS 234 52 [zI a0, zI a1, zU, zU, zI a4, zI a5, zI a6, zI a7, zU, zI a9] [zI a7, zI s0, zI s1, zI s2, zI s3] sh pp mm Q := s_go cM_offAlong_50 cM_offAlong_52 rfl rfl
theorem rM_offAlong_52 {a0 a1 a4 a5 a6 a7 a9 s0 s1 s2 s3 s4 : Int} {u2 u3 u8 : zV} (hz : s0 ≠ 0) : zS 234 52 [zI a0, zI a1, u2, u3, zI a4, zI a5, zI a6, zI a7, u8, zI a9] [zI s0, zI s1, zI s2, zI s3, zI s4] sh pp mm Q ↔ zS 234 53 [zI a0, zI a1, zU, zU, zI a4, zI a5, zI a6, zI a7, zU, zI a9] [zI (zw32 (s1.tdiv s0)), zI s2, zI s3, zI s4] sh pp mm Q := s_go cM_offAlong_52 cM_offAlong_53 (if_neg hz) rfl
theorem rM_offAlong_53 {a0 a1 a4 a5 a6 a7 a9 s0 s1 s2 s3 : Int} {u2 u3 u8 : zV} : zS 234 53 [zI a0, zI a1, u2, u3, zI a4, zI a5, zI a6, zI a7, u8, zI a9] [zI s0, zI s1, zI s2, zI s3] sh pp mm Q ↔ zS 234 54 [zI a0, zI a1, zU, zU, zI a4, zI a5, zI a6, zI a7, zU, zI a9] [zI (zw32 (s1 + s0)), zI s2, zI s3] sh pp mm Q := s_go cM_offAlong_53 cM_offAlong_54 rfl rfl
theorem rM_offAlong_54 {a0 a1 a4 a5 a6 a7 a9 s0 s1 s2 : Int} {u2 u3 u8 : zV} : zS 234 54 [zI a0, zI a1, u2, u3, zI a4, zI a5, zI a6, zI a7, u8, zI a9] [zI s0, zI s1, zI s2] sh pp mm Q ↔ zS 234 56 [zI a0, zI a1, zU, zU, zI a4, zI a5, zI a6, zI a7, zU, zI a9] [zI a4, zI s0, zI s1, zI s2] sh pp mm Q := s_go cM_offAlong_54 cM_offAlong_56 rfl rfl
theorem rM_offAlong_56 {a0 a1 a4 a5 a6 a7 a9 s0 s1 s2 s3 : Int} {u2 u3 u8 : zV} : zS 234 56 [zI a0, zI a1, u2, u3, zI a4, zI a5, zI a6, zI a7, u8, zI a9] [zI s0, zI s1, zI s2, zI s3] sh pp mm Q ↔ zS 233 0 [zI s2, zI s1, zI s0] [] sh pp mm (fun v sh pp mm => zS 234 59 [zI a0, zI a1, zU, zU, zI a4, zI a5, zI a6, zI a7, zU, zI a9] (zPush v [zI s3]) sh pp mm Q) := s_call cM_offAlong_56 cM_offAlong_59 rfl rfl
theorem rM_offAlong_59 {a0 a1 a4 a5 a6 a7 a9 s0 s1 : Int} {u2 u3 u8 : zV} : zS 234 59 [zI a0, zI a1, u2, u3, zI a4, zI a5, zI a6, zI a7, u8, zI a9] [zI s0, zI s1] sh pp mm Q ↔ zS 192 0 [zI s1, zI s0] [] sh pp mm (fun v sh pp mm => zS 234 62 [zI a0, zI a1, zU, zU, zI a4, zI a5, zI a6, zI a7, zU, zI a9] (zPush v []) sh pp mm Q) := s_call cM_offAlong_59 cM_offAlong_62 rfl rfl
theorem rM_offAlong_62 {a0 a1 a4 a5 a6 a7 a9 s0 : Int} {u2 u3 u8 : zV} : zS 234 62 [zI a0, zI a1, u2, u3, zI a4, zI a5, zI a6, zI a7, u8, zI a9] [zI s0] sh pp mm Q ↔ zS 234 64 [zI a0, zI a1, zU, zU, zI a4, zI a5, zI a6, zI a7, zI s0, zI a9] [] sh pp mm Q := s_go cM_offAlong_62 cM_offAlong_64 rfl rfl
theorem rM_offAlong_64 {a0 a1 a4 a5 a6 a7 a8 a9 : Int} {u2 u3 : zV} : zS 234 64 [zI a0, zI a1, u2, u3, zI a4, zI a5, zI a6, zI a7, zI a8, zI a9] [] sh pp mm Q ↔ zS 234 67 [zI a0, zI a1, zU, zU, zI a4, zI a5, zI a6, zI a7, zI a8, zI (zw32 (a9 + 1))] [] sh pp mm Q := s_go cM_offAlong_64 cM_offAlong_67 rfl rfl
theorem rM_offAlong_67 {a0 a1 a4 a5 a6 a7 a8 a9 : Int} {u2 u3 : zV} : zS 234 67 [zI a0, zI a1, u2, u3, zI a4, zI a5, zI a6, zI a7, zI a8, zI a9] [] sh pp mm Q ↔ zS 234 25 [zI a0, zI a1, zU, zU, zI a4, zI a5, zI a6, zI a7, zI a8, zI a9] [] sh pp mm Q := s_go cM_offAlong_67 cM_offAlong_25 rfl rfl
theorem rM_offAlong_70 {a8 : Int} {u0 u1 u2 u3 u4 u5 u6 u7 u9 : zV} : zS 234 70 [u0, u1, u2, u3, u4, u5, u6, u7, zI a8, u9] [] sh pp mm Q ↔ zS 234 72 [zU, zU, zU, zU, zU, zU, zU, zU, zU, zU] [zI a8] sh pp mm Q := s_go cM_offAlong_70 cM_offAlong_72 rfl rfl
theorem rM_offAlong_72 {s0 : Int} {u0 u1 u2 u3 u4 u5 u6 u7 u8 u9 : zV} : zS 234 72 [u0, u1, u2, u3, u4, u5, u6, u7, u8, u9] [zI s0] sh pp mm Q ↔ Q (zI s0) sh pp mm := s_ret cM_offAlong_72 rfl
theorem cAM_round : ∀ q ∈ zT235, zCode 235 q.1 = some q.2 := zAll (mid := 235) rfl (by decide +kernel)
theorem cAM_round_0 : ∀ q ∈ zT235_0, zCode 235 q.1 = some q.2 := fun q h => cAM_round q (List.mem_append_left _ h)
theorem cAM_round_1 : ∀ q ∈ zT235_1, zCode 235 q.1 = some q.2 := fun q h => cAM_round q (List.mem_append_right _ (List.mem_append_left _ h))
theorem cAM_round_2 : ∀ q ∈ zT235_2, zCode 235 q.1 = some q.2 := fun q h => cAM_round q (List.mem_append_right _ (List.mem_append_right _ (List.mem_append_left _ h)))
theorem cAM_round_3 : ∀ q ∈ zT235_3, zCode 235 q.1 = some q.2 := fun q h => cAM_round q (List.mem_append_right _ (List.mem_append_right _ (List.mem_append_right _ (List.mem_append_left _ h))))
theorem cAM_round_4 : ∀ q ∈ zT235_4, zCode 235 q.1 = some q.2 := fun q h => cAM_round q (List.mem_append_right _ (List.mem_append_right _ (List.mem_append_right _ (List.mem_append_right _ (List.mem_append_left _ h)))))
theorem cAM_round_5 : ∀ q ∈ zT235_5, zCode 235 q.1 = some q.2 := fun q h => cAM_round q (List.mem_append_right _ (List.mem_append_right _ (List.mem_append_right _ (List.mem_append_right _ (List.mem_append_right _ (List.mem_append_left _ h))))))
theorem cAM_round_6 : ∀ q ∈ zT235_6, zCode 235 q.1 = some q.2 := fun q h => cAM_round q (List.mem_append_right _ (List.mem_append_right _ (List.mem_append_right _ (List.mem_append_right _ (List.mem_append_right _ (List.mem_append_right _ (List.mem_append_left _ h)))))))
theorem cAM_round_7 : ∀ q ∈ zT235_7, zCode 235 q.1 = some q.2 := fun q h => cAM_round q (List.mem_append_right _ (List.mem_append_right _ (List.mem_append_right _ (List.mem_append_right _ (List.mem_append_right _ (List.mem_append_right _ (List.mem_append_right _ (List.mem_append_left _ h))))))))
theorem cAM_round_8 : ∀ q ∈ zT235_8, zCode 235 q.1 = some q.2 := fun q h => cAM_round q (List.mem_append_right _ (List.mem_append_right _ (List.mem_append_right _ (List.mem_append_right _ (List.mem_append_right _ (List.mem_append_right _ (List.mem_append_right _ (List.mem_append_right _ (List.mem_append_left _ h)))))))))
theorem cAM_round_9 : ∀ q ∈ zT235_9, zCode 235 q.1 = some q.2 := fun q h => cAM_round q (List.mem_append_right _ (List.mem_append_right _ (List.mem_append_right _ (List.mem_append_right _ (List.mem_append_right _ (List.mem_append_right _ (List.mem_append_right _ (List.mem_append_right _ (List.mem_append_right _ h)))))))))
theorem cM_round_0 : zCode 235 0 = some (.iload_n 1, 1, 0, 0, 0, 0, 7) := cAM_round_0 _ (List.mem_of_getElem? (i := 0) rfl)
theorem cM_round_1 : zCode 235 1 = some (.i2l, 2, 0, 0, 0, 0, 7) := cAM_round_0 _ (List.mem_of_getElem? (i := 1) rfl)
theorem cM_round_2 : zCode 235 2 = some (.lconst 1, 3, 0, 0, 0, 0, 7) := cAM_round_0 _ (List.mem_of_getElem? (i := 2) rfl)
theorem cM_round_3 : zCode 235 3 = some (.ldc2_w 345, 6, 0, 0, 1602, 7, 7) := cAM_round_0 _ (List.mem_of_getElem? (i := 3) rfl)
theorem cM_round_6 : zCode 235 6 = some (.invokestatic 121, 9, 151, 3, 6, 12, 7) := cAM_round_0 _ (List.mem_of_getElem? (i := 4) rfl)
theorem cM_round_9 : zCode 235 9 = some (.ifCond .eq 15, 12, 24, 0, 0, 0, 7) := cAM_round_0 _ (List.mem_of_getElem? (i := 5) rfl)
theorem cM_round_12 : zCode 235 12 = some (.iload_n 2, 13, 0, 0, 0, 0, 7) := cAM_round_0 _ (List.mem_of_getElem? (i := 6) rfl)
theorem cM_round_13 : zCode 235 13 = some (.i2l, 14, 0, 0, 0, 0, 7) := cAM_round_0 _ (List.mem_of_getElem? (i := 7) rfl)
theorem cM_round_14 : zCode 235 14 = some (.lconst 1, 15, 0, 0, 0, 0, 7) := cAM_round_0 _ (List.mem_of_getElem? (i := 8) rfl)
theorem cM_round_15 : zCode 235 15 = some (.ldc2_w 347, 18, 0, 0, 1603, 6, 7) := cAM_round_0 _ (List.mem_of_getElem? (i := 9) rfl)
theorem cM_round_18 : zCode 235 18 = some (.invokestatic 121, 21, 151, 3, 6, 12, 7) := cAM_round_0 _ (List.mem_of_getElem? (i := 10) rfl)
theorem cM_round_21 : zCode 235 21 = some (.ifCond .ne 10, 24, 31, 0, 0, 0, 7) := cAM_round_0 _ (List.mem_of_getElem? (i := 11) rfl)
theorem cM_round_24 : zCode 235 24 = some (.aload_n 0, 25, 0, 0, 0, 0, 1) := cAM_round_0 _ (List.mem_of_getElem? (i := 12) rfl)
theorem cM_round_25 : zCode 235 25 = some (.bipush (-2), 27, 0, 0, 0, 0, 0) := cAM_round_0 _ (List.mem_of_getElem? (i := 13) rfl)
theorem cM_round_27 : zCode 235 27 = some (.invokevirtual 132, 30, 152, 1, 2, 12, 0) := cAM_round_0 _ (List.mem_of_getElem? (i := 14) rfl)
theorem cM_round_30 : zCode 235 30 = some (.ireturn, 31, 0, 0, 0, 0, 0) := cAM_round_0 _ (List.mem_of_getElem? (i := 15) rfl)
theorem cM_round_31 : zCode 235 31 = some (.iload_n 2, 32, 0, 0, 0, 0, 7) := cAM_round_1 _ (List.mem_of_getElem? (i := 0) rfl)
theorem cM_round_32 : zCode 235 32 = some (.iconst 2, 33, 0, 0, 0, 0, 7) := cAM_round_1 _ (List.mem_of_getElem? (i := 1) rfl)
theorem cM_round_33 : zCode 235 33 = some (.iload_n 1, 34, 0, 0, 0, 0, 7) := cAM_round_1 _ (List.mem_of_getElem? (i := 2) rfl)
theorem cM_round_34 : zCode 235 34 = some (.imul, 35, 0, 0, 0, 0, 7) := cAM_round_1 _ (List.mem_of_getElem? (i := 3) rfl)
theorem cM_round_35 : zCode 235 35 = some (.if_icmp .le 10, 38, 45, 0, 0, 0, 7) := cAM_round_1 _ (List.mem_of_getElem? (i := 4) rfl)
theorem cM_round_38 : zCode 235 38 = some (.aload_n 0, 39, 0, 0, 0, 0, 1) := cAM_round_1 _ (List.mem_of_getElem? (i := 5) rfl)
theorem cM_round_39 : zCode 235 39 = some (.bipush (-3), 41, 0, 0, 0, 0, 0) := cAM_round_1 _ (List.mem_of_getElem? (i := 6) rfl)
theorem cM_round_41 : zCode 235 41 = some (.invokevirtual 265, 44, 153, 1, 2, 12, 0) := cAM_round_1 _ (List.mem_of_getElem? (i := 7) rfl)
theorem cM_round_44 : zCode 235 44 = some (.ireturn, 45, 0, 0, 0, 0, 0) := cAM_round_1 _ (List.mem_of_getElem? (i := 8) rfl)
theorem cM_round_45 : zCode 235 45 = some (.iconst 0, 46, 0, 0, 0, 0, 7) := cAM_round_1 _ (List.mem_of_getElem? (i := 9) rfl)
theorem cM_round_46 : zCode 235 46 = some (.istore_n 3, 47, 0, 0, 0, 0, 7) := cAM_round_1 _ (List.mem_of_getElem? (i := 10) rfl)
theorem cM_round_47 : zCode 235 47 = some (.iload_n 3, 48, 0, 0, 0, 0, 15) := cAM_round_1 _ (List.mem_of_getElem? (i := 11) rfl)
theorem cM_round_48 : zCode 235 48 = some (.sipush 448, 51, 0, 0, 0, 0, 15) := cAM_round_1 _ (List.mem_of_getElem? (i := 12) rfl)
theorem cM_round_51 : zCode 235 51 = some (.if_icmp .ge 27, 54, 78, 0, 0, 0, 15) := cAM_round_1 _ (List.mem_of_getElem? (i := 13) rfl)
theorem cM_round_54 : zCode 235 54 = some (.aload_n 0, 55, 0, 0, 0, 0, 15) := cAM_round_1 _ (List.mem_of_getElem? (i := 14) rfl)
theorem cM_round_55 : zCode 235 55 = some (.getfield 70, 58, 12, 35, 2, 1244, 15) := cAM_round_1 _ (List.mem_of_getElem? (i := 15) rfl)
theorem cM_round_58 : zCode 235 58 = some (.iload_n 3, 59, 0, 0, 0, 0, 15) := cAM_round_2 _ (List.mem_of_getElem? (i := 0) rfl)
theorem cM_round_59 : zCode 235 59 = some (.iload_n 3, 60, 0, 0, 0, 0, 15) := cAM_round_2 _ (List.mem_of_getElem? (i := 1) rfl)
theorem cM_round_60 : zCode 235 60 = some (.iload_n 1, 61, 0, 0, 0, 0, 15) := cAM_round_2 _ (List.mem_of_getElem? (i := 2) rfl)
theorem cM_round_61 : zCode 235 61 = some (.if_icmp .ne 7, 64, 68, 0, 0, 0, 15) := cAM_round_2 _ (List.mem_of_getElem? (i := 3) rfl)
theorem cM_round_64 : zCode 235 64 = some (.iconst 0, 65, 0, 0, 0, 0, 15) := cAM_round_2 _ (List.mem_of_getElem? (i := 4) rfl)
theorem cM_round_65 : zCode 235 65 = some (.goto 6, 68, 71, 0, 0, 0, 15) := cAM_round_2 _ (List.mem_of_getElem? (i := 5) rfl)
theorem cM_round_68 : zCode 235 68 = some (.ldc_w 331, 71, 0, 0, 1577, 1000000, 15) := cAM_round_2 _ (List.mem_of_getElem? (i := 6) rfl)
theorem cM_round_71 : zCode 235 71 = some (.iastore, 72, 0, 0, 0, 0, 15) := cAM_round_2 _ (List.mem_of_getElem? (i := 7) rfl)
theorem cM_round_72 : zCode 235 72 = some (.iinc 3 1, 75, 0, 0, 0, 0, 15) := cAM_round_2 _ (List.mem_of_getElem? (i := 8) rfl)
theorem cM_round_75 : zCode 235 75 = some (.goto (-28), 78, 47, 0, 0, 0, 15) := cAM_round_2 _ (List.mem_of_getElem? (i := 9) rfl)
theorem cM_round_78 : zCode 235 78 = some (.iconst 0, 79, 0, 0, 0, 0, 7) := cAM_round_2 _ (List.mem_of_getElem? (i := 10) rfl)
theorem cM_round_79 : zCode 235 79 = some (.istore_n 3, 80, 0, 0, 0, 0, 7) := cAM_round_2 _ (List.mem_of_getElem? (i := 11) rfl)
theorem cM_round_80 : zCode 235 80 = some (.iload_n 3, 81, 0, 0, 0, 0, 15) := cAM_round_2 _ (List.mem_of_getElem? (i := 12) rfl)
theorem cM_round_81 : zCode 235 81 = some (.iload_n 2, 82, 0, 0, 0, 0, 15) := cAM_round_2 _ (List.mem_of_getElem? (i := 13) rfl)
theorem cM_round_82 : zCode 235 82 = some (.if_icmp .ge 186, 85, 268, 0, 0, 0, 15) := cAM_round_2 _ (List.mem_of_getElem? (i := 14) rfl)
theorem cM_round_85 : zCode 235 85 = some (.iconst 0, 86, 0, 0, 0, 0, 15) := cAM_round_2 _ (List.mem_of_getElem? (i := 15) rfl)
theorem cM_round_86 : zCode 235 86 = some (.istore 4, 88, 0, 0, 0, 0, 15) := cAM_round_3 _ (List.mem_of_getElem? (i := 0) rfl)
theorem cM_round_88 : zCode 235 88 = some (.iload 4, 90, 0, 0, 0, 0, 31) := cAM_round_3 _ (List.mem_of_getElem? (i := 1) rfl)
theorem cM_round_90 : zCode 235 90 = some (.bipush 64, 92, 0, 0, 0, 0, 31) := cAM_round_3 _ (List.mem_of_getElem? (i := 2) rfl)
theorem cM_round_92 : zCode 235 92 = some (.if_icmp .ge 170, 95, 262, 0, 0, 0, 31) := cAM_round_3 _ (List.mem_of_getElem? (i := 3) rfl)
theorem cM_round_95 : zCode 235 95 = some (.iload 4, 97, 0, 0, 0, 0, 31) := cAM_round_3 _ (List.mem_of_getElem? (i := 4) rfl)
theorem cM_round_97 : zCode 235 97 = some (.bipush 8, 99, 0, 0, 0, 0, 31) := cAM_round_3 _ (List.mem_of_getElem? (i := 5) rfl)
theorem cM_round_99 : zCode 235 99 = some (.irem, 100, 0, 0, 0, 0, 31) := cAM_round_3 _ (List.mem_of_getElem? (i := 6) rfl)
theorem cM_round_100 : zCode 235 100 = some (.istore 5, 102, 0, 0, 0, 0, 31) := cAM_round_3 _ (List.mem_of_getElem? (i := 7) rfl)
theorem cM_round_102 : zCode 235 102 = some (.iload 4, 104, 0, 0, 0, 0, 63) := cAM_round_3 _ (List.mem_of_getElem? (i := 8) rfl)
theorem cM_round_104 : zCode 235 104 = some (.bipush 8, 106, 0, 0, 0, 0, 63) := cAM_round_3 _ (List.mem_of_getElem? (i := 9) rfl)
theorem cM_round_106 : zCode 235 106 = some (.idiv, 107, 0, 0, 0, 0, 63) := cAM_round_3 _ (List.mem_of_getElem? (i := 10) rfl)
theorem cM_round_107 : zCode 235 107 = some (.istore 6, 109, 0, 0, 0, 0, 63) := cAM_round_3 _ (List.mem_of_getElem? (i := 11) rfl)
theorem cM_round_109 : zCode 235 109 = some (.iconst 0, 110, 0, 0, 0, 0, 127) := cAM_round_3 _ (List.mem_of_getElem? (i := 12) rfl)
theorem cM_round_110 : zCode 235 110 = some (.istore 7, 112, 0, 0, 0, 0, 127) := cAM_round_3 _ (List.mem_of_getElem? (i := 13) rfl)
theorem cM_round_112 : zCode 235 112 = some (.iload 7, 114, 0, 0, 0, 0, 255) := cAM_round_3 _ (List.mem_of_getElem? (i := 14) rfl)
theorem cM_round_114 : zCode 235 114 = some (.bipush 64, 116, 0, 0, 0, 0, 255) := cAM_round_3 _ (List.mem_of_getElem? (i := 15) rfl)
theorem cM_round_116 : zCode 235 116 = some (.if_icmp .ge 140, 119, 256, 0, 0, 0, 255) := cAM_round_4 _ (List.mem_of_getElem? (i := 0) rfl)
theorem cM_round_119 : zCode 235 119 = some (.aload_n 0, 120, 0, 0, 0, 0, 255) := cAM_round_4 _ (List.mem_of_getElem? (i := 1) rfl)
theorem cM_round_120 : zCode 235 120 = some (.getfield 70, 123, 12, 35, 2, 1244, 255) := cAM_round_4 _ (List.mem_of_getElem? (i := 2) rfl)
theorem cM_round_123 : zCode 235 123 = some (.bipush 64, 125, 0, 0, 0, 0, 255) := cAM_round_4 _ (List.mem_of_getElem? (i := 3) rfl)
theorem cM_round_125 : zCode 235 125 = some (.iload_n 3, 126, 0, 0, 0, 0, 255) := cAM_round_4 _ (List.mem_of_getElem? (i := 4) rfl)
theorem cM_round_126 : zCode 235 126 = some (.imul, 127, 0, 0, 0, 0, 255) := cAM_round_4 _ (List.mem_of_getElem? (i := 5) rfl)
theorem cM_round_127 : zCode 235 127 = some (.iload 4, 129, 0, 0, 0, 0, 255) := cAM_round_4 _ (List.mem_of_getElem? (i := 6) rfl)
theorem cM_round_129 : zCode 235 129 = some (.iadd, 130, 0, 0, 0, 0, 255) := cAM_round_4 _ (List.mem_of_getElem? (i := 7) rfl)
theorem cM_round_130 : zCode 235 130 = some (.iaload, 131, 0, 0, 0, 0, 255) := cAM_round_4 _ (List.mem_of_getElem? (i := 8) rfl)
theorem cM_round_131 : zCode 235 131 = some (.ldc_w 331, 134, 0, 0, 1577, 1000000, 255) := cAM_round_4 _ (List.mem_of_getElem? (i := 9) rfl)
theorem cM_round_134 : zCode 235 134 = some (.if_icmp .ge 122, 137, 256, 0, 0, 0, 255) := cAM_round_4 _ (List.mem_of_getElem? (i := 10) rfl)
theorem cM_round_137 : zCode 235 137 = some (.iload 7, 139, 0, 0, 0, 0, 255) := cAM_round_4 _ (List.mem_of_getElem? (i := 11) rfl)
theorem cM_round_139 : zCode 235 139 = some (.bipush 8, 141, 0, 0, 0, 0, 255) := cAM_round_4 _ (List.mem_of_getElem? (i := 12) rfl)
theorem cM_round_141 : zCode 235 141 = some (.irem, 142, 0, 0, 0, 0, 255) := cAM_round_4 _ (List.mem_of_getElem? (i := 13) rfl)
theorem cM_round_142 : zCode 235 142 = some (.iload 5, 144, 0, 0, 0, 0, 255) := cAM_round_4 _ (List.mem_of_getElem? (i := 14) rfl)
theorem cM_round_144 : zCode 235 144 = some (.if_icmp .gt 106, 147, 250, 0, 0, 0, 255) := cAM_round_4 _ (List.mem_of_getElem? (i := 15) rfl)
theorem cM_round_147 : zCode 235 147 = some (.iload 7, 149, 0, 0, 0, 0, 255) := cAM_round_5 _ (List.mem_of_getElem? (i := 0) rfl)
theorem cM_round_149 : zCode 235 149 = some (.bipush 8, 151, 0, 0, 0, 0, 255) := cAM_round_5 _ (List.mem_of_getElem? (i := 1) rfl)
theorem cM_round_151 : zCode 235 151 = some (.idiv, 152, 0, 0, 0, 0, 255) := cAM_round_5 _ (List.mem_of_getElem? (i := 2) rfl)
theorem cM_round_152 : zCode 235 152 = some (.iload 6, 154, 0, 0, 0, 0, 255) := cAM_round_5 _ (List.mem_of_getElem? (i := 3) rfl)
theorem cM_round_154 : zCode 235 154 = some (.if_icmp .lt 96, 157, 250, 0, 0, 0, 255) := cAM_round_5 _ (List.mem_of_getElem? (i := 4) rfl)
theorem cM_round_157 : zCode 235 157 = some (.iload 7, 159, 0, 0, 0, 0, 255) := cAM_round_5 _ (List.mem_of_getElem? (i := 5) rfl)
theorem cM_round_159 : zCode 235 159 = some (.iload 4, 161, 0, 0, 0, 0, 255) := cAM_round_5 _ (List.mem_of_getElem? (i := 6) rfl)
theorem cM_round_161 : zCode 235 161 = some (.if_icmp .eq 89, 164, 250, 0, 0, 0, 255) := cAM_round_5 _ (List.mem_of_getElem? (i := 7) rfl)
theorem cM_round_164 : zCode 235 164 = some (.iload 7, 166, 0, 0, 0, 0, 255) := cAM_round_5 _ (List.mem_of_getElem? (i := 8) rfl)
theorem cM_round_166 : zCode 235 166 = some (.bipush 8, 168, 0, 0, 0, 0, 255) := cAM_round_5 _ (List.mem_of_getElem? (i := 9) rfl)
theorem cM_round_168 : zCode 235 168 = some (.idiv, 169, 0, 0, 0, 0, 255) := cAM_round_5 _ (List.mem_of_getElem? (i := 10) rfl)
theorem cM_round_169 : zCode 235 169 = some (.iload_n 1, 170, 0, 0, 0, 0, 255) := cAM_round_5 _ (List.mem_of_getElem? (i := 11) rfl)
theorem cM_round_170 : zCode 235 170 = some (.if_icmp .gt 80, 173, 250, 0, 0, 0, 255) := cAM_round_5 _ (List.mem_of_getElem? (i := 12) rfl)
theorem cM_round_173 : zCode 235 173 = some (.aload_n 0, 174, 0, 0, 0, 0, 255) := cAM_round_5 _ (List.mem_of_getElem? (i := 13) rfl)
theorem cM_round_174 : zCode 235 174 = some (.getfield 70, 177, 12, 35, 2, 1244, 255) := cAM_round_5 _ (List.mem_of_getElem? (i := 14) rfl)
theorem cM_round_177 : zCode 235 177 = some (.bipush 64, 179, 0, 0, 0, 0, 255) := cAM_round_5 _ (List.mem_of_getElem? (i := 15) rfl)
theorem cM_round_179 : zCode 235 179 = some (.iload_n 3, 180, 0, 0, 0, 0, 255) := cAM_round_6 _ (List.mem_of_getElem? (i := 0) rfl)
theorem cM_round_180 : zCode 235 180 = some (.imul, 181, 0, 0, 0, 0, 255) := cAM_round_6 _ (List.mem_of_getElem? (i := 1) rfl)
theorem cM_round_181 : zCode 235 181 = some (.iload 4, 183, 0, 0, 0, 0, 255) := cAM_round_6 _ (List.mem_of_getElem? (i := 2) rfl)
theorem cM_round_183 : zCode 235 183 = some (.iadd, 184, 0, 0, 0, 0, 255) := cAM_round_6 _ (List.mem_of_getElem? (i := 3) rfl)
theorem cM_round_184 : zCode 235 184 = some (.iaload, 185, 0, 0, 0, 0, 255) := cAM_round_6 _ (List.mem_of_getElem? (i := 4) rfl)
theorem cM_round_185 : zCode 235 185 = some (.iload 5, 187, 0, 0, 0, 0, 255) := cAM_round_6 _ (List.mem_of_getElem? (i := 5) rfl)
theorem cM_round_187 : zCode 235 187 = some (.iload 6, 189, 0, 0, 0, 0, 255) := cAM_round_6 _ (List.mem_of_getElem? (i := 6) rfl)
theorem cM_round_189 : zCode 235 189 = some (.iload 7, 191, 0, 0, 0, 0, 255) := cAM_round_6 _ (List.mem_of_getElem? (i := 7) rfl)
theorem cM_round_191 : zCode 235 191 = some (.bipush 8, 193, 0, 0, 0, 0, 255) := cAM_round_6 _ (List.mem_of_getElem? (i := 8) rfl)
theorem cM_round_193 : zCode 235 193 = some (.irem, 194, 0, 0, 0, 0, 255) := cAM_round_6 _ (List.mem_of_getElem? (i := 9) rfl)
theorem cM_round_194 : zCode 235 194 = some (.iload 7, 196, 0, 0, 0, 0, 255) := cAM_round_6 _ (List.mem_of_getElem? (i := 10) rfl)
theorem cM_round_196 : zCode 235 196 = some (.bipush 8, 198, 0, 0, 0, 0, 255) := cAM_round_6 _ (List.mem_of_getElem? (i := 11) rfl)
theorem cM_round_198 : zCode 235 198 = some (.idiv, 199, 0, 0, 0, 0, 255) := cAM_round_6 _ (List.mem_of_getElem? (i := 12) rfl)
theorem cM_round_199 : zCode 235 199 = some (.iload_n 1, 200, 0, 0, 0, 0, 255) := cAM_round_6 _ (List.mem_of_getElem? (i := 13) rfl)
theorem cM_round_200 : zCode 235 200 = some (.invokestatic 349, 203, 234, 5, 10, 12, 255) := cAM_round_6 _ (List.mem_of_getElem? (i := 14) rfl)
theorem cM_round_203 : zCode 235 203 = some (.invokestatic 232, 206, 192, 2, 2, 12, 255) := cAM_round_6 _ (List.mem_of_getElem? (i := 15) rfl)
theorem cM_round_206 : zCode 235 206 = some (.istore 8, 208, 0, 0, 0, 0, 255) := cAM_round_7 _ (List.mem_of_getElem? (i := 0) rfl)
theorem cM_round_208 : zCode 235 208 = some (.bipush 64, 210, 0, 0, 0, 0, 511) := cAM_round_7 _ (List.mem_of_getElem? (i := 1) rfl)
theorem cM_round_210 : zCode 235 210 = some (.iload_n 3, 211, 0, 0, 0, 0, 511) := cAM_round_7 _ (List.mem_of_getElem? (i := 2) rfl)
theorem cM_round_211 : zCode 235 211 = some (.iconst 1, 212, 0, 0, 0, 0, 511) := cAM_round_7 _ (List.mem_of_getElem? (i := 3) rfl)
theorem cM_round_212 : zCode 235 212 = some (.iadd, 213, 0, 0, 0, 0, 511) := cAM_round_7 _ (List.mem_of_getElem? (i := 4) rfl)
theorem cM_round_213 : zCode 235 213 = some (.imul, 214, 0, 0, 0, 0, 511) := cAM_round_7 _ (List.mem_of_getElem? (i := 5) rfl)
theorem cM_round_214 : zCode 235 214 = some (.iload 7, 216, 0, 0, 0, 0, 511) := cAM_round_7 _ (List.mem_of_getElem? (i := 6) rfl)
theorem cM_round_216 : zCode 235 216 = some (.iadd, 217, 0, 0, 0, 0, 511) := cAM_round_7 _ (List.mem_of_getElem? (i := 7) rfl)
theorem cM_round_217 : zCode 235 217 = some (.istore 9, 219, 0, 0, 0, 0, 511) := cAM_round_7 _ (List.mem_of_getElem? (i := 8) rfl)
theorem cM_round_219 : zCode 235 219 = some (.aload_n 0, 220, 0, 0, 0, 0, 1023) := cAM_round_7 _ (List.mem_of_getElem? (i := 9) rfl)
theorem cM_round_220 : zCode 235 220 = some (.getfield 70, 223, 12, 35, 2, 1244, 1023) := cAM_round_7 _ (List.mem_of_getElem? (i := 10) rfl)
theorem cM_round_223 : zCode 235 223 = some (.iload 9, 225, 0, 0, 0, 0, 1023) := cAM_round_7 _ (List.mem_of_getElem? (i := 11) rfl)
theorem cM_round_225 : zCode 235 225 = some (.iload 8, 227, 0, 0, 0, 0, 1023) := cAM_round_7 _ (List.mem_of_getElem? (i := 12) rfl)
theorem cM_round_227 : zCode 235 227 = some (.aload_n 0, 228, 0, 0, 0, 0, 1023) := cAM_round_7 _ (List.mem_of_getElem? (i := 13) rfl)
theorem cM_round_228 : zCode 235 228 = some (.getfield 70, 231, 12, 35, 2, 1244, 1023) := cAM_round_7 _ (List.mem_of_getElem? (i := 14) rfl)
theorem cM_round_231 : zCode 235 231 = some (.iload 9, 233, 0, 0, 0, 0, 1023) := cAM_round_7 _ (List.mem_of_getElem? (i := 15) rfl)
theorem cM_round_233 : zCode 235 233 = some (.iaload, 234, 0, 0, 0, 0, 1023) := cAM_round_8 _ (List.mem_of_getElem? (i := 0) rfl)
theorem cM_round_234 : zCode 235 234 = some (.if_icmp .ge 8, 237, 242, 0, 0, 0, 1023) := cAM_round_8 _ (List.mem_of_getElem? (i := 1) rfl)
theorem cM_round_237 : zCode 235 237 = some (.iload 8, 239, 0, 0, 0, 0, 511) := cAM_round_8 _ (List.mem_of_getElem? (i := 2) rfl)
theorem cM_round_239 : zCode 235 239 = some (.goto 10, 242, 249, 0, 0, 0, 255) := cAM_round_8 _ (List.mem_of_getElem? (i := 3) rfl)
theorem cM_round_242 : zCode 235 242 = some (.aload_n 0, 243, 0, 0, 0, 0, 767) := cAM_round_8 _ (List.mem_of_getElem? (i := 4) rfl)
theorem cM_round_243 : zCode 235 243 = some (.getfield 70, 246, 12, 35, 2, 1244, 767) := cAM_round_8 _ (List.mem_of_getElem? (i := 5) rfl)
theorem cM_round_246 : zCode 235 246 = some (.iload 9, 248, 0, 0, 0, 0, 767) := cAM_round_8 _ (List.mem_of_getElem? (i := 6) rfl)
theorem cM_round_248 : zCode 235 248 = some (.iaload, 249, 0, 0, 0, 0, 255) := cAM_round_8 _ (List.mem_of_getElem? (i := 7) rfl)
theorem cM_round_249 : zCode 235 249 = some (.iastore, 250, 0, 0, 0, 0, 255) := cAM_round_8 _ (List.mem_of_getElem? (i := 8) rfl)
theorem cM_round_250 : zCode 235 250 = some (.iinc 7 1, 253, 0, 0, 0, 0, 255) := cAM_round_8 _ (List.mem_of_getElem? (i := 9) rfl)
theorem cM_round_253 : zCode 235 253 = some (.goto (-141), 256, 112, 0, 0, 0, 255) := cAM_round_8 _ (List.mem_of_getElem? (i := 10) rfl)
theorem cM_round_256 : zCode 235 256 = some (.iinc 4 1, 259, 0, 0, 0, 0, 31) := cAM_round_8 _ (List.mem_of_getElem? (i := 11) rfl)
theorem cM_round_259 : zCode 235 259 = some (.goto (-171), 262, 88, 0, 0, 0, 31) := cAM_round_8 _ (List.mem_of_getElem? (i := 12) rfl)
theorem cM_round_262 : zCode 235 262 = some (.iinc 3 1, 265, 0, 0, 0, 0, 15) := cAM_round_8 _ (List.mem_of_getElem? (i := 13) rfl)
theorem cM_round_265 : zCode 235 265 = some (.goto (-185), 268, 80, 0, 0, 0, 15) := cAM_round_8 _ (List.mem_of_getElem? (i := 14) rfl)
theorem cM_round_268 : zCode 235 268 = some (.aload_n 0, 269, 0, 0, 0, 0, 7) := cAM_round_8 _ (List.mem_of_getElem? (i := 15) rfl)
theorem cM_round_269 : zCode 235 269 = some (.getfield 70, 272, 12, 35, 2, 1244, 6) := cAM_round_9 _ (List.mem_of_getElem? (i := 0) rfl)
theorem cM_round_272 : zCode 235 272 = some (.bipush 64, 274, 0, 0, 0, 0, 6) := cAM_round_9 _ (List.mem_of_getElem? (i := 1) rfl)
theorem cM_round_274 : zCode 235 274 = some (.iload_n 2, 275, 0, 0, 0, 0, 6) := cAM_round_9 _ (List.mem_of_getElem? (i := 2) rfl)
theorem cM_round_275 : zCode 235 275 = some (.imul, 276, 0, 0, 0, 0, 2) := cAM_round_9 _ (List.mem_of_getElem? (i := 3) rfl)
theorem cM_round_276 : zCode 235 276 = some (.bipush 8, 278, 0, 0, 0, 0, 2) := cAM_round_9 _ (List.mem_of_getElem? (i := 4) rfl)
theorem cM_round_278 : zCode 235 278 = some (.iload_n 1, 279, 0, 0, 0, 0, 2) := cAM_round_9 _ (List.mem_of_getElem? (i := 5) rfl)
theorem cM_round_279 : zCode 235 279 = some (.imul, 280, 0, 0, 0, 0, 0) := cAM_round_9 _ (List.mem_of_getElem? (i := 6) rfl)
theorem cM_round_280 : zCode 235 280 = some (.iadd, 281, 0, 0, 0, 0, 0) := cAM_round_9 _ (List.mem_of_getElem? (i := 7) rfl)
theorem cM_round_281 : zCode 235 281 = some (.iaload, 282, 0, 0, 0, 0, 0) := cAM_round_9 _ (List.mem_of_getElem? (i := 8) rfl)
theorem cM_round_282 : zCode 235 282 = some (.ireturn, 283, 0, 0, 0, 0, 0) := cAM_round_9 _ (List.mem_of_getElem? (i := 9) rfl)
theorem rM_round_0 {a0 : Nat} {a1 a2 : Int} {u3 u4 u5 u6 u7 u8 u9 : zV} : zS 235 0 [zR a0, zI a1, zI a2, u3, u4, u5, u6, u7, u8, u9] [] sh pp mm Q ↔ zS 235 1 [zR a0, zI a1, zI a2, zU, zU, zU, zU, zU, zU, zU] [zI a1] sh pp mm Q := s_go cM_round_0 cM_round_1 rfl rfl
theorem rM_round_1 {a0 : Nat} {a1 a2 s0 : Int} {u3 u4 u5 u6 u7 u8 u9 : zV} : zS 235 1 [zR a0, zI a1, zI a2, u3, u4, u5, u6, u7, u8, u9] [zI s0] sh pp mm Q ↔ zS 235 2 [zR a0, zI a1, zI a2, zU, zU, zU, zU, zU, zU, zU] [zL s0] sh pp mm Q := s_go cM_round_1 cM_round_2 rfl rfl
theorem rM_round_2 {a0 : Nat} {a1 a2 s0 : Int} {u3 u4 u5 u6 u7 u8 u9 : zV} : zS 235 2 [zR a0, zI a1, zI a2, u3, u4, u5, u6, u7, u8, u9] [zL s0] sh pp mm Q ↔ zS 235 3 [zR a0, zI a1, zI a2, zU, zU, zU, zU, zU, zU, zU] [zL 1, zL s0] sh pp mm Q := s_go cM_round_2 cM_round_3 rfl rfl
theorem rM_round_3 {a0 : Nat} {a1 a2 s0 s1 : Int} {u3 u4 u5 u6 u7 u8 u9 : zV} : zS 235 3 [zR a0, zI a1, zI a2, u3, u4, u5, u6, u7, u8, u9] [zL s0, zL s1] sh pp mm Q ↔ zS 235 6 [zR a0, zI a1, zI a2, zU, zU, zU, zU, zU, zU, zU] [zL 7, zL s0, zL s1] sh pp mm Q := s_go cM_round_3 cM_round_6 rfl rfl
theorem rM_round_6 {a0 : Nat} {a1 a2 s0 s1 s2 : Int} {u3 u4 u5 u6 u7 u8 u9 : zV} : zS 235 6 [zR a0, zI a1, zI a2, u3, u4, u5, u6, u7, u8, u9] [zL s0, zL s1, zL s2] sh pp mm Q ↔ zS 151 0 [zL s2, zU, zL s1, zU, zL s0, zU] [] sh pp mm (fun v sh pp mm => zS 235 9 [zR a0, zI a1, zI a2, zU, zU, zU, zU, zU, zU, zU] (zPush v []) sh pp mm Q) := s_call cM_round_6 cM_round_9 rfl rfl
theorem rM_round_9 {a0 : Nat} {a1 a2 s0 : Int} {u3 u4 u5 u6 u7 u8 u9 : zV} : zS 235 9 [zR a0, zI a1, zI a2, u3, u4, u5, u6, u7, u8, u9] [zI s0] sh pp mm Q ↔ (s0 = 0 → zS 235 24 [zR a0, zU, zU, zU, zU, zU, zU, zU, zU, zU] [] sh pp mm Q) ∧ (¬ s0 = 0 → zS 235 12 [zR a0, zI a1, zI a2, zU, zU, zU, zU, zU, zU, zU] [] sh pp mm Q) := s_if cM_round_9 cM_round_24 cM_round_12 rfl rfl rfl
theorem rM_round_12 {a0 : Nat} {a1 a2 : Int} {u3 u4 u5 u6 u7 u8 u9 : zV} : zS 235 12 [zR a0, zI a1, zI a2, u3, u4, u5, u6, u7, u8, u9] [] sh pp mm Q ↔ zS 235 13 [zR a0, zI a1, zI a2, zU, zU, zU, zU, zU, zU, zU] [zI a2] sh pp mm Q := s_go cM_round_12 cM_round_13 rfl rfl
theorem rM_round_13 {a0 : Nat} {a1 a2 s0 : Int} {u3 u4 u5 u6 u7 u8 u9 : zV} : zS 235 13 [zR a0, zI a1, zI a2, u3, u4, u5, u6, u7, u8, u9] [zI s0] sh pp mm Q ↔ zS 235 14 [zR a0, zI a1, zI a2, zU, zU, zU, zU, zU, zU, zU] [zL s0] sh pp mm Q := s_go cM_round_13 cM_round_14 rfl rfl
theorem rM_round_14 {a0 : Nat} {a1 a2 s0 : Int} {u3 u4 u5 u6 u7 u8 u9 : zV} : zS 235 14 [zR a0, zI a1, zI a2, u3, u4, u5, u6, u7, u8, u9] [zL s0] sh pp mm Q ↔ zS 235 15 [zR a0, zI a1, zI a2, zU, zU, zU, zU, zU, zU, zU] [zL 1, zL s0] sh pp mm Q := s_go cM_round_14 cM_round_15 rfl rfl
theorem rM_round_15 {a0 : Nat} {a1 a2 s0 s1 : Int} {u3 u4 u5 u6 u7 u8 u9 : zV} : zS 235 15 [zR a0, zI a1, zI a2, u3, u4, u5, u6, u7, u8, u9] [zL s0, zL s1] sh pp mm Q ↔ zS 235 18 [zR a0, zI a1, zI a2, zU, zU, zU, zU, zU, zU, zU] [zL 6, zL s0, zL s1] sh pp mm Q := s_go cM_round_15 cM_round_18 rfl rfl
theorem rM_round_18 {a0 : Nat} {a1 a2 s0 s1 s2 : Int} {u3 u4 u5 u6 u7 u8 u9 : zV} : zS 235 18 [zR a0, zI a1, zI a2, u3, u4, u5, u6, u7, u8, u9] [zL s0, zL s1, zL s2] sh pp mm Q ↔ zS 151 0 [zL s2, zU, zL s1, zU, zL s0, zU] [] sh pp mm (fun v sh pp mm => zS 235 21 [zR a0, zI a1, zI a2, zU, zU, zU, zU, zU, zU, zU] (zPush v []) sh pp mm Q) := s_call cM_round_18 cM_round_21 rfl rfl
theorem rM_round_21 {a0 : Nat} {a1 a2 s0 : Int} {u3 u4 u5 u6 u7 u8 u9 : zV} : zS 235 21 [zR a0, zI a1, zI a2, u3, u4, u5, u6, u7, u8, u9] [zI s0] sh pp mm Q ↔ (s0 = 0 → zS 235 24 [zR a0, zU, zU, zU, zU, zU, zU, zU, zU, zU] [] sh pp mm Q) ∧ (¬ s0 = 0 → zS 235 31 [zR a0, zI a1, zI a2, zU, zU, zU, zU, zU, zU, zU] [] sh pp mm Q) := s_ifn cM_round_21 cM_round_24 cM_round_31 rfl rfl rfl
theorem rM_round_24 {a0 : Nat} {u1 u2 u3 u4 u5 u6 u7 u8 u9 : zV} : zS 235 24 [zR a0, u1, u2, u3, u4, u5, u6, u7, u8, u9] [] sh pp mm Q ↔ zS 235 25 [zU, zU, zU, zU, zU, zU, zU, zU, zU, zU] [zR a0] sh pp mm Q := s_go cM_round_24 cM_round_25 rfl rfl
theorem rM_round_25 {s0 : Nat} {u0 u1 u2 u3 u4 u5 u6 u7 u8 u9 : zV} : zS 235 25 [u0, u1, u2, u3, u4, u5, u6, u7, u8, u9] [zR s0] sh pp mm Q ↔ zS 235 27 [zU, zU, zU, zU, zU, zU, zU, zU, zU, zU] [zI (-2), zR s0] sh pp mm Q := s_go cM_round_25 cM_round_27 rfl rfl
theorem rM_round_27 {s1 : Nat} {s0 : Int} {u0 u1 u2 u3 u4 u5 u6 u7 u8 u9 : zV} (hk : zKd sh s1 = 12) : zS 235 27 [u0, u1, u2, u3, u4, u5, u6, u7, u8, u9] [zI s0, zR s1] sh pp mm Q ↔ zS 152 0 [zR s1, zI s0] [] sh pp mm (fun v sh pp mm => zS 235 30 [zU, zU, zU, zU, zU, zU, zU, zU, zU, zU] (zPush v []) sh pp mm Q) := s_call cM_round_27 cM_round_30 ((if_pos hk).trans rfl) rfl
theorem rM_round_30 {s0 : Int} {u0 u1 u2 u3 u4 u5 u6 u7 u8 u9 : zV} : zS 235 30 [u0, u1, u2, u3, u4, u5, u6, u7, u8, u9] [zI s0] sh pp mm Q ↔ Q (zI s0) sh pp mm := s_ret cM_round_30 rfl
theorem rM_round_31 {a0 : Nat} {a1 a2 : Int} {u3 u4 u5 u6 u7 u8 u9 : zV} : zS 235 31 [zR a0, zI a1, zI a2, u3, u4, u5, u6, u7, u8, u9] [] sh pp mm Q ↔ zS 235 32 [zR a0, zI a1, zI a2, zU, zU, zU, zU, zU, zU, zU] [zI a2] sh pp mm Q := s_go cM_round_31 cM_round_32 rfl rfl
theorem rM_round_32 {a0 : Nat} {a1 a2 s0 : Int} {u3 u4 u5 u6 u7 u8 u9 : zV} : zS 235 32 [zR a0, zI a1, zI a2, u3, u4, u5, u6, u7, u8, u9] [zI s0] sh pp mm Q ↔ zS 235 33 [zR a0, zI a1, zI a2, zU, zU, zU, zU, zU, zU, zU] [zI 2, zI s0] sh pp mm Q := s_go cM_round_32 cM_round_33 rfl rfl
theorem rM_round_33 {a0 : Nat} {a1 a2 s0 s1 : Int} {u3 u4 u5 u6 u7 u8 u9 : zV} : zS 235 33 [zR a0, zI a1, zI a2, u3, u4, u5, u6, u7, u8, u9] [zI s0, zI s1] sh pp mm Q ↔ zS 235 34 [zR a0, zI a1, zI a2, zU, zU, zU, zU, zU, zU, zU] [zI a1, zI s0, zI s1] sh pp mm Q := s_go cM_round_33 cM_round_34 rfl rfl
theorem rM_round_34 {a0 : Nat} {a1 a2 s0 s1 s2 : Int} {u3 u4 u5 u6 u7 u8 u9 : zV} : zS 235 34 [zR a0, zI a1, zI a2, u3, u4, u5, u6, u7, u8, u9] [zI s0, zI s1, zI s2] sh pp mm Q ↔ zS 235 35 [zR a0, zI a1, zI a2, zU, zU, zU, zU, zU, zU, zU] [zI (zw32 (s1 * s0)), zI s2] sh pp mm Q := s_go cM_round_34 cM_round_35 rfl rfl
theorem rM_round_35 {a0 : Nat} {a1 a2 s0 s1 : Int} {u3 u4 u5 u6 u7 u8 u9 : zV} : zS 235 35 [zR a0, zI a1, zI a2, u3, u4, u5, u6, u7, u8, u9] [zI s0, zI s1] sh pp mm Q ↔ (s0 < s1 → zS 235 38 [zR a0, zU, zU, zU, zU, zU, zU, zU, zU, zU] [] sh pp mm Q) ∧ (¬ s0 < s1 → zS 235 45 [zR a0, zI a1, zI a2, zU, zU, zU, zU, zU, zU, zU] [] sh pp mm Q) := s_ifn cM_round_35 cM_round_38 cM_round_45 rfl rfl rfl
theorem rM_round_38 {a0 : Nat} {u1 u2 u3 u4 u5 u6 u7 u8 u9 : zV} : zS 235 38 [zR a0, u1, u2, u3, u4, u5, u6, u7, u8, u9] [] sh pp mm Q ↔ zS 235 39 [zU, zU, zU, zU, zU, zU, zU, zU, zU, zU] [zR a0] sh pp mm Q := s_go cM_round_38 cM_round_39 rfl rfl
theorem rM_round_39 {s0 : Nat} {u0 u1 u2 u3 u4 u5 u6 u7 u8 u9 : zV} : zS 235 39 [u0, u1, u2, u3, u4, u5, u6, u7, u8, u9] [zR s0] sh pp mm Q ↔ zS 235 41 [zU, zU, zU, zU, zU, zU, zU, zU, zU, zU] [zI (-3), zR s0] sh pp mm Q := s_go cM_round_39 cM_round_41 rfl rfl
theorem rM_round_41 {s1 : Nat} {s0 : Int} {u0 u1 u2 u3 u4 u5 u6 u7 u8 u9 : zV} (hk : zKd sh s1 = 12) : zS 235 41 [u0, u1, u2, u3, u4, u5, u6, u7, u8, u9] [zI s0, zR s1] sh pp mm Q ↔ zS 153 0 [zR s1, zI s0] [] sh pp mm (fun v sh pp mm => zS 235 44 [zU, zU, zU, zU, zU, zU, zU, zU, zU, zU] (zPush v []) sh pp mm Q) := s_call cM_round_41 cM_round_44 ((if_pos hk).trans rfl) rfl
theorem rM_round_44 {s0 : Int} {u0 u1 u2 u3 u4 u5 u6 u7 u8 u9 : zV} : zS 235 44 [u0, u1, u2, u3, u4, u5, u6, u7, u8, u9] [zI s0] sh pp mm Q ↔ Q (zI s0) sh pp mm := s_ret cM_round_44 rfl
theorem rM_round_45 {a0 : Nat} {a1 a2 : Int} {u3 u4 u5 u6 u7 u8 u9 : zV} : zS 235 45 [zR a0, zI a1, zI a2, u3, u4, u5, u6, u7, u8, u9] [] sh pp mm Q ↔ zS 235 46 [zR a0, zI a1, zI a2, zU, zU, zU, zU, zU, zU, zU] [zI 0] sh pp mm Q := s_go cM_round_45 cM_round_46 rfl rfl
theorem rM_round_46 {a0 : Nat} {a1 a2 s0 : Int} {u3 u4 u5 u6 u7 u8 u9 : zV} : zS 235 46 [zR a0, zI a1, zI a2, u3, u4, u5, u6, u7, u8, u9] [zI s0] sh pp mm Q ↔ zS 235 47 [zR a0, zI a1, zI a2, zI s0, zU, zU, zU, zU, zU, zU] [] sh pp mm Q := s_go cM_round_46 cM_round_47 rfl rfl
theorem rM_round_47 {a0 : Nat} {a1 a2 a3 : Int} {u4 u5 u6 u7 u8 u9 : zV} : zS 235 47 [zR a0, zI a1, zI a2, zI a3, u4, u5, u6, u7, u8, u9] [] sh pp mm Q ↔ zS 235 48 [zR a0, zI a1, zI a2, zI a3, zU, zU, zU, zU, zU, zU] [zI a3] sh pp mm Q := s_go cM_round_47 cM_round_48 rfl rfl
theorem rM_round_48 {a0 : Nat} {a1 a2 a3 s0 : Int} {u4 u5 u6 u7 u8 u9 : zV} : zS 235 48 [zR a0, zI a1, zI a2, zI a3, u4, u5, u6, u7, u8, u9] [zI s0] sh pp mm Q ↔ zS 235 51 [zR a0, zI a1, zI a2, zI a3, zU, zU, zU, zU, zU, zU] [zI 448, zI s0] sh pp mm Q := s_go cM_round_48 cM_round_51 rfl rfl
theorem rM_round_51 {a0 : Nat} {a1 a2 a3 s0 s1 : Int} {u4 u5 u6 u7 u8 u9 : zV} : zS 235 51 [zR a0, zI a1, zI a2, zI a3, u4, u5, u6, u7, u8, u9] [zI s0, zI s1] sh pp mm Q ↔ (s1 < s0 → zS 235 54 [zR a0, zI a1, zI a2, zI a3, zU, zU, zU, zU, zU, zU] [] sh pp mm Q) ∧ (¬ s1 < s0 → zS 235 78 [zR a0, zI a1, zI a2, zU, zU, zU, zU, zU, zU, zU] [] sh pp mm Q) := s_ifn cM_round_51 cM_round_54 cM_round_78 rfl rfl rfl
theorem rM_round_54 {a0 : Nat} {a1 a2 a3 : Int} {u4 u5 u6 u7 u8 u9 : zV} : zS 235 54 [zR a0, zI a1, zI a2, zI a3, u4, u5, u6, u7, u8, u9] [] sh pp mm Q ↔ zS 235 55 [zR a0, zI a1, zI a2, zI a3, zU, zU, zU, zU, zU, zU] [zR a0] sh pp mm Q := s_go cM_round_54 cM_round_55 rfl rfl
theorem rM_round_55 {a0 s0 : Nat} {a1 a2 a3 : Int} {u4 u5 u6 u7 u8 u9 : zV} (hk : zKd sh s0 = 12) : zS 235 55 [zR a0, zI a1, zI a2, zI a3, u4, u5, u6, u7, u8, u9] [zR s0] sh pp mm Q ↔ zS 235 58 [zR a0, zI a1, zI a2, zI a3, zU, zU, zU, zU, zU, zU] [zR (pp s0 35)] sh pp mm Q := s_go cM_round_55 cM_round_58 (if_pos hk) rfl
theorem rM_round_58 {a0 s0 : Nat} {a1 a2 a3 : Int} {u4 u5 u6 u7 u8 u9 : zV} : zS 235 58 [zR a0, zI a1, zI a2, zI a3, u4, u5, u6, u7, u8, u9] [zR s0] sh pp mm Q ↔ zS 235 59 [zR a0, zI a1, zI a2, zI a3, zU, zU, zU, zU, zU, zU] [zI a3, zR s0] sh pp mm Q := s_go cM_round_58 cM_round_59 rfl rfl
theorem rM_round_59 {a0 s1 : Nat} {a1 a2 a3 s0 : Int} {u4 u5 u6 u7 u8 u9 : zV} : zS 235 59 [zR a0, zI a1, zI a2, zI a3, u4, u5, u6, u7, u8, u9] [zI s0, zR s1] sh pp mm Q ↔ zS 235 60 [zR a0, zI a1, zI a2, zI a3, zU, zU, zU, zU, zU, zU] [zI a3, zI s0, zR s1] sh pp mm Q := s_go cM_round_59 cM_round_60 rfl rfl
theorem rM_round_60 {a0 s2 : Nat} {a1 a2 a3 s0 s1 : Int} {u4 u5 u6 u7 u8 u9 : zV} : zS 235 60 [zR a0, zI a1, zI a2, zI a3, u4, u5, u6, u7, u8, u9] [zI s0, zI s1, zR s2] sh pp mm Q ↔ zS 235 61 [zR a0, zI a1, zI a2, zI a3, zU, zU, zU, zU, zU, zU] [zI a1, zI s0, zI s1, zR s2] sh pp mm Q := s_go cM_round_60 cM_round_61 rfl rfl
theorem rM_round_61 {a0 s3 : Nat} {a1 a2 a3 s0 s1 s2 : Int} {u4 u5 u6 u7 u8 u9 : zV} : zS 235 61 [zR a0, zI a1, zI a2, zI a3, u4, u5, u6, u7, u8, u9] [zI s0, zI s1, zI s2, zR s3] sh pp mm Q ↔ (s1 = s0 → zS 235 64 [zR a0, zI a1, zI a2, zI a3, zU, zU, zU, zU, zU, zU] [zI s2, zR s3] sh pp mm Q) ∧ (¬ s1 = s0 → zS 235 68 [zR a0, zI a1, zI a2, zI a3, zU, zU, zU, zU, zU, zU] [zI s2, zR s3] sh pp mm Q) := s_ifn cM_round_61 cM_round_64 cM_round_68 rfl rfl rfl
theorem rM_round_64 {a0 s1 : Nat} {a1 a2 a3 s0 : Int} {u4 u5 u6 u7 u8 u9 : zV} : zS 235 64 [zR a0, zI a1, zI a2, zI a3, u4, u5, u6, u7, u8, u9] [zI s0, zR s1] sh pp mm Q ↔ zS 235 65 [zR a0, zI a1, zI a2, zI a3, zU, zU, zU, zU, zU, zU] [zI 0, zI s0, zR s1] sh pp mm Q := s_go cM_round_64 cM_round_65 rfl rfl
theorem rM_round_65 {a0 s2 : Nat} {a1 a2 a3 s0 s1 : Int} {u4 u5 u6 u7 u8 u9 : zV} : zS 235 65 [zR a0, zI a1, zI a2, zI a3, u4, u5, u6, u7, u8, u9] [zI s0, zI s1, zR s2] sh pp mm Q ↔ zS 235 71 [zR a0, zI a1, zI a2, zI a3, zU, zU, zU, zU, zU, zU] [zI s0, zI s1, zR s2] sh pp mm Q := s_go cM_round_65 cM_round_71 rfl rfl
theorem rM_round_68 {a0 s1 : Nat} {a1 a2 a3 s0 : Int} {u4 u5 u6 u7 u8 u9 : zV} : zS 235 68 [zR a0, zI a1, zI a2, zI a3, u4, u5, u6, u7, u8, u9] [zI s0, zR s1] sh pp mm Q ↔ zS 235 71 [zR a0, zI a1, zI a2, zI a3, zU, zU, zU, zU, zU, zU] [zI 1000000, zI s0, zR s1] sh pp mm Q := s_go cM_round_68 cM_round_71 rfl rfl
theorem rM_round_71 {a0 s2 : Nat} {a1 a2 a3 s0 s1 : Int} {u4 u5 u6 u7 u8 u9 : zV} (hk : zKd sh s2 = 20) (h0 : 0 ≤ s1) (h1 : s1 < zLn sh s2) : zS 235 71 [zR a0, zI a1, zI a2, zI a3, u4, u5, u6, u7, u8, u9] [zI s0, zI s1, zR s2] sh pp mm Q ↔ zS 235 72 [zR a0, zI a1, zI a2, zI a3, zU, zU, zU, zU, zU, zU] [] sh pp (zupd mm s2 s1 s0) Q := s_go cM_round_71 cM_round_72 (if_pos ⟨hk, h0, h1, fun h => absurd h (by decide)⟩) rfl
theorem rM_round_72 {a0 : Nat} {a1 a2 a3 : Int} {u4 u5 u6 u7 u8 u9 : zV} : zS 235 72 [zR a0, zI a1, zI a2, zI a3, u4, u5, u6, u7, u8, u9] [] sh pp mm Q ↔ zS 235 75 [zR a0, zI a1, zI a2, zI (zw32 (a3 + 1)), zU, zU, zU, zU, zU, zU] [] sh pp mm Q := s_go cM_round_72 cM_round_75 rfl rfl
theorem rM_round_75 {a0 : Nat} {a1 a2 a3 : Int} {u4 u5 u6 u7 u8 u9 : zV} : zS 235 75 [zR a0, zI a1, zI a2, zI a3, u4, u5, u6, u7, u8, u9] [] sh pp mm Q ↔ zS 235 47 [zR a0, zI a1, zI a2, zI a3, zU, zU, zU, zU, zU, zU] [] sh pp mm Q := s_go cM_round_75 cM_round_47 rfl rfl
theorem rM_round_78 {a0 : Nat} {a1 a2 : Int} {u3 u4 u5 u6 u7 u8 u9 : zV} : zS 235 78 [zR a0, zI a1, zI a2, u3, u4, u5, u6, u7, u8, u9] [] sh pp mm Q ↔ zS 235 79 [zR a0, zI a1, zI a2, zU, zU, zU, zU, zU, zU, zU] [zI 0] sh pp mm Q := s_go cM_round_78 cM_round_79 rfl rfl
theorem rM_round_79 {a0 : Nat} {a1 a2 s0 : Int} {u3 u4 u5 u6 u7 u8 u9 : zV} : zS 235 79 [zR a0, zI a1, zI a2, u3, u4, u5, u6, u7, u8, u9] [zI s0] sh pp mm Q ↔ zS 235 80 [zR a0, zI a1, zI a2, zI s0, zU, zU, zU, zU, zU, zU] [] sh pp mm Q := s_go cM_round_79 cM_round_80 rfl rfl
theorem rM_round_80 {a0 : Nat} {a1 a2 a3 : Int} {u4 u5 u6 u7 u8 u9 : zV} : zS 235 80 [zR a0, zI a1, zI a2, zI a3, u4, u5, u6, u7, u8, u9] [] sh pp mm Q ↔ zS 235 81 [zR a0, zI a1, zI a2, zI a3, zU, zU, zU, zU, zU, zU] [zI a3] sh pp mm Q := s_go cM_round_80 cM_round_81 rfl rfl
theorem rM_round_81 {a0 : Nat} {a1 a2 a3 s0 : Int} {u4 u5 u6 u7 u8 u9 : zV} : zS 235 81 [zR a0, zI a1, zI a2, zI a3, u4, u5, u6, u7, u8, u9] [zI s0] sh pp mm Q ↔ zS 235 82 [zR a0, zI a1, zI a2, zI a3, zU, zU, zU, zU, zU, zU] [zI a2, zI s0] sh pp mm Q := s_go cM_round_81 cM_round_82 rfl rfl
theorem rM_round_82 {a0 : Nat} {a1 a2 a3 s0 s1 : Int} {u4 u5 u6 u7 u8 u9 : zV} : zS 235 82 [zR a0, zI a1, zI a2, zI a3, u4, u5, u6, u7, u8, u9] [zI s0, zI s1] sh pp mm Q ↔ (s1 < s0 → zS 235 85 [zR a0, zI a1, zI a2, zI a3, zU, zU, zU, zU, zU, zU] [] sh pp mm Q) ∧ (¬ s1 < s0 → zS 235 268 [zR a0, zI a1, zI a2, zU, zU, zU, zU, zU, zU, zU] [] sh pp mm Q) := s_ifn cM_round_82 cM_round_85 cM_round_268 rfl rfl rfl
theorem rM_round_85 {a0 : Nat} {a1 a2 a3 : Int} {u4 u5 u6 u7 u8 u9 : zV} : zS 235 85 [zR a0, zI a1, zI a2, zI a3, u4, u5, u6, u7, u8, u9] [] sh pp mm Q ↔ zS 235 86 [zR a0, zI a1, zI a2, zI a3, zU, zU, zU, zU, zU, zU] [zI 0] sh pp mm Q := s_go cM_round_85 cM_round_86 rfl rfl
theorem rM_round_86 {a0 : Nat} {a1 a2 a3 s0 : Int} {u4 u5 u6 u7 u8 u9 : zV} : zS 235 86 [zR a0, zI a1, zI a2, zI a3, u4, u5, u6, u7, u8, u9] [zI s0] sh pp mm Q ↔ zS 235 88 [zR a0, zI a1, zI a2, zI a3, zI s0, zU, zU, zU, zU, zU] [] sh pp mm Q := s_go cM_round_86 cM_round_88 rfl rfl
theorem rM_round_88 {a0 : Nat} {a1 a2 a3 a4 : Int} {u5 u6 u7 u8 u9 : zV} : zS 235 88 [zR a0, zI a1, zI a2, zI a3, zI a4, u5, u6, u7, u8, u9] [] sh pp mm Q ↔ zS 235 90 [zR a0, zI a1, zI a2, zI a3, zI a4, zU, zU, zU, zU, zU] [zI a4] sh pp mm Q := s_go cM_round_88 cM_round_90 rfl rfl
theorem rM_round_90 {a0 : Nat} {a1 a2 a3 a4 s0 : Int} {u5 u6 u7 u8 u9 : zV} : zS 235 90 [zR a0, zI a1, zI a2, zI a3, zI a4, u5, u6, u7, u8, u9] [zI s0] sh pp mm Q ↔ zS 235 92 [zR a0, zI a1, zI a2, zI a3, zI a4, zU, zU, zU, zU, zU] [zI 64, zI s0] sh pp mm Q := s_go cM_round_90 cM_round_92 rfl rfl
theorem rM_round_92 {a0 : Nat} {a1 a2 a3 a4 s0 s1 : Int} {u5 u6 u7 u8 u9 : zV} : zS 235 92 [zR a0, zI a1, zI a2, zI a3, zI a4, u5, u6, u7, u8, u9] [zI s0, zI s1] sh pp mm Q ↔ (s1 < s0 → zS 235 95 [zR a0, zI a1, zI a2, zI a3, zI a4, zU, zU, zU, zU, zU] [] sh pp mm Q) ∧ (¬ s1 < s0 → zS 235 262 [zR a0, zI a1, zI a2, zI a3, zU, zU, zU, zU, zU, zU] [] sh pp mm Q) := s_ifn cM_round_92 cM_round_95 cM_round_262 rfl rfl rfl
theorem rM_round_95 {a0 : Nat} {a1 a2 a3 a4 : Int} {u5 u6 u7 u8 u9 : zV} : zS 235 95 [zR a0, zI a1, zI a2, zI a3, zI a4, u5, u6, u7, u8, u9] [] sh pp mm Q ↔ zS 235 97 [zR a0, zI a1, zI a2, zI a3, zI a4, zU, zU, zU, zU, zU] [zI a4] sh pp mm Q := s_go cM_round_95 cM_round_97 rfl rfl
theorem rM_round_97 {a0 : Nat} {a1 a2 a3 a4 s0 : Int} {u5 u6 u7 u8 u9 : zV} : zS 235 97 [zR a0, zI a1, zI a2, zI a3, zI a4, u5, u6, u7, u8, u9] [zI s0] sh pp mm Q ↔ zS 235 99 [zR a0, zI a1, zI a2, zI a3, zI a4, zU, zU, zU, zU, zU] [zI 8, zI s0] sh pp mm Q := s_go cM_round_97 cM_round_99 rfl rfl
theorem rM_round_99 {a0 : Nat} {a1 a2 a3 a4 s0 s1 : Int} {u5 u6 u7 u8 u9 : zV} (hz : s0 ≠ 0) : zS 235 99 [zR a0, zI a1, zI a2, zI a3, zI a4, u5, u6, u7, u8, u9] [zI s0, zI s1] sh pp mm Q ↔ zS 235 100 [zR a0, zI a1, zI a2, zI a3, zI a4, zU, zU, zU, zU, zU] [zI (s1.tmod s0)] sh pp mm Q := s_go cM_round_99 cM_round_100 (if_neg hz) rfl
theorem rM_round_100 {a0 : Nat} {a1 a2 a3 a4 s0 : Int} {u5 u6 u7 u8 u9 : zV} : zS 235 100 [zR a0, zI a1, zI a2, zI a3, zI a4, u5, u6, u7, u8, u9] [zI s0] sh pp mm Q ↔ zS 235 102 [zR a0, zI a1, zI a2, zI a3, zI a4, zI s0, zU, zU, zU, zU] [] sh pp mm Q := s_go cM_round_100 cM_round_102 rfl rfl
theorem rM_round_102 {a0 : Nat} {a1 a2 a3 a4 a5 : Int} {u6 u7 u8 u9 : zV} : zS 235 102 [zR a0, zI a1, zI a2, zI a3, zI a4, zI a5, u6, u7, u8, u9] [] sh pp mm Q ↔ zS 235 104 [zR a0, zI a1, zI a2, zI a3, zI a4, zI a5, zU, zU, zU, zU] [zI a4] sh pp mm Q := s_go cM_round_102 cM_round_104 rfl rfl
theorem rM_round_104 {a0 : Nat} {a1 a2 a3 a4 a5 s0 : Int} {u6 u7 u8 u9 : zV} : zS 235 104 [zR a0, zI a1, zI a2, zI a3, zI a4, zI a5, u6, u7, u8, u9] [zI s0] sh pp mm Q ↔ zS 235 106 [zR a0, zI a1, zI a2, zI a3, zI a4, zI a5, zU, zU, zU, zU] [zI 8, zI s0] sh pp mm Q := s_go cM_round_104 cM_round_106 rfl rfl
theorem rM_round_106 {a0 : Nat} {a1 a2 a3 a4 a5 s0 s1 : Int} {u6 u7 u8 u9 : zV} (hz : s0 ≠ 0) : zS 235 106 [zR a0, zI a1, zI a2, zI a3, zI a4, zI a5, u6, u7, u8, u9] [zI s0, zI s1] sh pp mm Q ↔ zS 235 107 [zR a0, zI a1, zI a2, zI a3, zI a4, zI a5, zU, zU, zU, zU] [zI (zw32 (s1.tdiv s0))] sh pp mm Q := s_go cM_round_106 cM_round_107 (if_neg hz) rfl
theorem rM_round_107 {a0 : Nat} {a1 a2 a3 a4 a5 s0 : Int} {u6 u7 u8 u9 : zV} : zS 235 107 [zR a0, zI a1, zI a2, zI a3, zI a4, zI a5, u6, u7, u8, u9] [zI s0] sh pp mm Q ↔ zS 235 109 [zR a0, zI a1, zI a2, zI a3, zI a4, zI a5, zI s0, zU, zU, zU] [] sh pp mm Q := s_go cM_round_107 cM_round_109 rfl rfl
theorem rM_round_109 {a0 : Nat} {a1 a2 a3 a4 a5 a6 : Int} {u7 u8 u9 : zV} : zS 235 109 [zR a0, zI a1, zI a2, zI a3, zI a4, zI a5, zI a6, u7, u8, u9] [] sh pp mm Q ↔ zS 235 110 [zR a0, zI a1, zI a2, zI a3, zI a4, zI a5, zI a6, zU, zU, zU] [zI 0] sh pp mm Q := s_go cM_round_109 cM_round_110 rfl rfl
theorem rM_round_110 {a0 : Nat} {a1 a2 a3 a4 a5 a6 s0 : Int} {u7 u8 u9 : zV} : zS 235 110 [zR a0, zI a1, zI a2, zI a3, zI a4, zI a5, zI a6, u7, u8, u9] [zI s0] sh pp mm Q ↔ zS 235 112 [zR a0, zI a1, zI a2, zI a3, zI a4, zI a5, zI a6, zI s0, zU, zU] [] sh pp mm Q := s_go cM_round_110 cM_round_112 rfl rfl
theorem rM_round_112 {a0 : Nat} {a1 a2 a3 a4 a5 a6 a7 : Int} {u8 u9 : zV} : zS 235 112 [zR a0, zI a1, zI a2, zI a3, zI a4, zI a5, zI a6, zI a7, u8, u9] [] sh pp mm Q ↔ zS 235 114 [zR a0, zI a1, zI a2, zI a3, zI a4, zI a5, zI a6, zI a7, zU, zU] [zI a7] sh pp mm Q := s_go cM_round_112 cM_round_114 rfl rfl
theorem rM_round_114 {a0 : Nat} {a1 a2 a3 a4 a5 a6 a7 s0 : Int} {u8 u9 : zV} : zS 235 114 [zR a0, zI a1, zI a2, zI a3, zI a4, zI a5, zI a6, zI a7, u8, u9] [zI s0] sh pp mm Q ↔ zS 235 116 [zR a0, zI a1, zI a2, zI a3, zI a4, zI a5, zI a6, zI a7, zU, zU] [zI 64, zI s0] sh pp mm Q := s_go cM_round_114 cM_round_116 rfl rfl
theorem rM_round_116 {a0 : Nat} {a1 a2 a3 a4 a5 a6 a7 s0 s1 : Int} {u8 u9 : zV} : zS 235 116 [zR a0, zI a1, zI a2, zI a3, zI a4, zI a5, zI a6, zI a7, u8, u9] [zI s0, zI s1] sh pp mm Q ↔ (s1 < s0 → zS 235 119 [zR a0, zI a1, zI a2, zI a3, zI a4, zI a5, zI a6, zI a7, zU, zU] [] sh pp mm Q) ∧ (¬ s1 < s0 → zS 235 256 [zR a0, zI a1, zI a2, zI a3, zI a4, zU, zU, zU, zU, zU] [] sh pp mm Q) := s_ifn cM_round_116 cM_round_119 cM_round_256 rfl rfl rfl
theorem rM_round_119 {a0 : Nat} {a1 a2 a3 a4 a5 a6 a7 : Int} {u8 u9 : zV} : zS 235 119 [zR a0, zI a1, zI a2, zI a3, zI a4, zI a5, zI a6, zI a7, u8, u9] [] sh pp mm Q ↔ zS 235 120 [zR a0, zI a1, zI a2, zI a3, zI a4, zI a5, zI a6, zI a7, zU, zU] [zR a0] sh pp mm Q := s_go cM_round_119 cM_round_120 rfl rfl
theorem rM_round_120 {a0 s0 : Nat} {a1 a2 a3 a4 a5 a6 a7 : Int} {u8 u9 : zV} (hk : zKd sh s0 = 12) : zS 235 120 [zR a0, zI a1, zI a2, zI a3, zI a4, zI a5, zI a6, zI a7, u8, u9] [zR s0] sh pp mm Q ↔ zS 235 123 [zR a0, zI a1, zI a2, zI a3, zI a4, zI a5, zI a6, zI a7, zU, zU] [zR (pp s0 35)] sh pp mm Q := s_go cM_round_120 cM_round_123 (if_pos hk) rfl
theorem rM_round_123 {a0 s0 : Nat} {a1 a2 a3 a4 a5 a6 a7 : Int} {u8 u9 : zV} : zS 235 123 [zR a0, zI a1, zI a2, zI a3, zI a4, zI a5, zI a6, zI a7, u8, u9] [zR s0] sh pp mm Q ↔ zS 235 125 [zR a0, zI a1, zI a2, zI a3, zI a4, zI a5, zI a6, zI a7, zU, zU] [zI 64, zR s0] sh pp mm Q := s_go cM_round_123 cM_round_125 rfl rfl
theorem rM_round_125 {a0 s1 : Nat} {a1 a2 a3 a4 a5 a6 a7 s0 : Int} {u8 u9 : zV} : zS 235 125 [zR a0, zI a1, zI a2, zI a3, zI a4, zI a5, zI a6, zI a7, u8, u9] [zI s0, zR s1] sh pp mm Q ↔ zS 235 126 [zR a0, zI a1, zI a2, zI a3, zI a4, zI a5, zI a6, zI a7, zU, zU] [zI a3, zI s0, zR s1] sh pp mm Q := s_go cM_round_125 cM_round_126 rfl rfl
theorem rM_round_126 {a0 s2 : Nat} {a1 a2 a3 a4 a5 a6 a7 s0 s1 : Int} {u8 u9 : zV} : zS 235 126 [zR a0, zI a1, zI a2, zI a3, zI a4, zI a5, zI a6, zI a7, u8, u9] [zI s0, zI s1, zR s2] sh pp mm Q ↔ zS 235 127 [zR a0, zI a1, zI a2, zI a3, zI a4, zI a5, zI a6, zI a7, zU, zU] [zI (zw32 (s1 * s0)), zR s2] sh pp mm Q := s_go cM_round_126 cM_round_127 rfl rfl
theorem rM_round_127 {a0 s1 : Nat} {a1 a2 a3 a4 a5 a6 a7 s0 : Int} {u8 u9 : zV} : zS 235 127 [zR a0, zI a1, zI a2, zI a3, zI a4, zI a5, zI a6, zI a7, u8, u9] [zI s0, zR s1] sh pp mm Q ↔ zS 235 129 [zR a0, zI a1, zI a2, zI a3, zI a4, zI a5, zI a6, zI a7, zU, zU] [zI a4, zI s0, zR s1] sh pp mm Q := s_go cM_round_127 cM_round_129 rfl rfl
theorem rM_round_129 {a0 s2 : Nat} {a1 a2 a3 a4 a5 a6 a7 s0 s1 : Int} {u8 u9 : zV} : zS 235 129 [zR a0, zI a1, zI a2, zI a3, zI a4, zI a5, zI a6, zI a7, u8, u9] [zI s0, zI s1, zR s2] sh pp mm Q ↔ zS 235 130 [zR a0, zI a1, zI a2, zI a3, zI a4, zI a5, zI a6, zI a7, zU, zU] [zI (zw32 (s1 + s0)), zR s2] sh pp mm Q := s_go cM_round_129 cM_round_130 rfl rfl
theorem rM_round_130 {a0 s1 : Nat} {a1 a2 a3 a4 a5 a6 a7 s0 : Int} {u8 u9 : zV} (hk : zKd sh s1 = 20 ∨ zKd sh s1 = 30) (h0 : 0 ≤ s0) (h1 : s0 < zLn sh s1) : zS 235 130 [zR a0, zI a1, zI a2, zI a3, zI a4, zI a5, zI a6, zI a7, u8, u9] [zI s0, zR s1] sh pp mm Q ↔ zS 235 131 [zR a0, zI a1, zI a2, zI a3, zI a4, zI a5, zI a6, zI a7, zU, zU] [zI (mm s1 s0)] sh pp mm Q := s_go cM_round_130 cM_round_131 (if_pos ⟨hk, h0, h1⟩) rfl
theorem rM_round_131 {a0 : Nat} {a1 a2 a3 a4 a5 a6 a7 s0 : Int} {u8 u9 : zV} : zS 235 131 [zR a0, zI a1, zI a2, zI a3, zI a4, zI a5, zI a6, zI a7, u8, u9] [zI s0] sh pp mm Q ↔ zS 235 134 [zR a0, zI a1, zI a2, zI a3, zI a4, zI a5, zI a6, zI a7, zU, zU] [zI 1000000, zI s0] sh pp mm Q := s_go cM_round_131 cM_round_134 rfl rfl
theorem rM_round_134 {a0 : Nat} {a1 a2 a3 a4 a5 a6 a7 s0 s1 : Int} {u8 u9 : zV} : zS 235 134 [zR a0, zI a1, zI a2, zI a3, zI a4, zI a5, zI a6, zI a7, u8, u9] [zI s0, zI s1] sh pp mm Q ↔ (s1 < s0 → zS 235 137 [zR a0, zI a1, zI a2, zI a3, zI a4, zI a5, zI a6, zI a7, zU, zU] [] sh pp mm Q) ∧ (¬ s1 < s0 → zS 235 256 [zR a0, zI a1, zI a2, zI a3, zI a4, zU, zU, zU, zU, zU] [] sh pp mm Q) := s_ifn cM_round_134 cM_round_137 cM_round_256 rfl rfl rfl
theorem rM_round_137 {a0 : Nat} {a1 a2 a3 a4 a5 a6 a7 : Int} {u8 u9 : zV} : zS 235 137 [zR a0, zI a1, zI a2, zI a3, zI a4, zI a5, zI a6, zI a7, u8, u9] [] sh pp mm Q ↔ zS 235 139 [zR a0, zI a1, zI a2, zI a3, zI a4, zI a5, zI a6, zI a7, zU, zU] [zI a7] sh pp mm Q := s_go cM_round_137 cM_round_139 rfl rfl
theorem rM_round_139 {a0 : Nat} {a1 a2 a3 a4 a5 a6 a7 s0 : Int} {u8 u9 : zV} : zS 235 139 [zR a0, zI a1, zI a2, zI a3, zI a4, zI a5, zI a6, zI a7, u8, u9] [zI s0] sh pp mm Q ↔ zS 235 141 [zR a0, zI a1, zI a2, zI a3, zI a4, zI a5, zI a6, zI a7, zU, zU] [zI 8, zI s0] sh pp mm Q := s_go cM_round_139 cM_round_141 rfl rfl
theorem rM_round_141 {a0 : Nat} {a1 a2 a3 a4 a5 a6 a7 s0 s1 : Int} {u8 u9 : zV} (hz : s0 ≠ 0) : zS 235 141 [zR a0, zI a1, zI a2, zI a3, zI a4, zI a5, zI a6, zI a7, u8, u9] [zI s0, zI s1] sh pp mm Q ↔ zS 235 142 [zR a0, zI a1, zI a2, zI a3, zI a4, zI a5, zI a6, zI a7, zU, zU] [zI (s1.tmod s0)] sh pp mm Q := s_go cM_round_141 cM_round_142 (if_neg hz) rfl
theorem rM_round_142 {a0 : Nat} {a1 a2 a3 a4 a5 a6 a7 s0 : Int} {u8 u9 : zV} : zS 235 142 [zR a0, zI a1, zI a2, zI a3, zI a4, zI a5, zI a6, zI a7, u8, u9] [zI s0] sh pp mm Q ↔ zS 235 144 [zR a0, zI a1, zI a2, zI a3, zI a4, zI a5, zI a6, zI a7, zU, zU] [zI a5, zI s0] sh pp mm Q := s_go cM_round_142 cM_round_144 rfl rfl
theorem rM_round_144 {a0 : Nat} {a1 a2 a3 a4 a5 a6 a7 s0 s1 : Int} {u8 u9 : zV} : zS 235 144 [zR a0, zI a1, zI a2, zI a3, zI a4, zI a5, zI a6, zI a7, u8, u9] [zI s0, zI s1] sh pp mm Q ↔ (s0 < s1 → zS 235 250 [zR a0, zI a1, zI a2, zI a3, zI a4, zI a5, zI a6, zI a7, zU, zU] [] sh pp mm Q) ∧ (¬ s0 < s1 → zS 235 147 [zR a0, zI a1, zI a2, zI a3, zI a4, zI a5, zI a6, zI a7, zU, zU] [] sh pp mm Q) := s_if cM_round_144 cM_round_250 cM_round_147 rfl rfl rfl
theorem rM_round_147 {a0 : Nat} {a1 a2 a3 a4 a5 a6 a7 : Int} {u8 u9 : zV} : zS 235 147 [zR a0, zI a1, zI a2, zI a3, zI a4, zI a5, zI a6, zI a7, u8, u9] [] sh pp mm Q ↔ zS 235 149 [zR a0, zI a1, zI a2, zI a3, zI a4, zI a5, zI a6, zI a7, zU, zU] [zI a7] sh pp mm Q := s_go cM_round_147 cM_round_149 rfl rfl
theorem rM_round_149 {a0 : Nat} {a1 a2 a3 a4 a5 a6 a7 s0 : Int} {u8 u9 : zV} : zS 235 149 [zR a0, zI a1, zI a2, zI a3, zI a4, zI a5, zI a6, zI a7, u8, u9] [zI s0] sh pp mm Q ↔ zS 235 151 [zR a0, zI a1, zI a2, zI a3, zI a4, zI a5, zI a6, zI a7, zU, zU] [zI 8, zI s0] sh pp mm Q := s_go cM_round_149 cM_round_151 rfl rfl
theorem rM_round_151 {a0 : Nat} {a1 a2 a3 a4 a5 a6 a7 s0 s1 : Int} {u8 u9 : zV} (hz : s0 ≠ 0) : zS 235 151 [zR a0, zI a1, zI a2, zI a3, zI a4, zI a5, zI a6, zI a7, u8, u9] [zI s0, zI s1] sh pp mm Q ↔ zS 235 152 [zR a0, zI a1, zI a2, zI a3, zI a4, zI a5, zI a6, zI a7, zU, zU] [zI (zw32 (s1.tdiv s0))] sh pp mm Q := s_go cM_round_151 cM_round_152 (if_neg hz) rfl
theorem rM_round_152 {a0 : Nat} {a1 a2 a3 a4 a5 a6 a7 s0 : Int} {u8 u9 : zV} : zS 235 152 [zR a0, zI a1, zI a2, zI a3, zI a4, zI a5, zI a6, zI a7, u8, u9] [zI s0] sh pp mm Q ↔ zS 235 154 [zR a0, zI a1, zI a2, zI a3, zI a4, zI a5, zI a6, zI a7, zU, zU] [zI a6, zI s0] sh pp mm Q := s_go cM_round_152 cM_round_154 rfl rfl
theorem rM_round_154 {a0 : Nat} {a1 a2 a3 a4 a5 a6 a7 s0 s1 : Int} {u8 u9 : zV} : zS 235 154 [zR a0, zI a1, zI a2, zI a3, zI a4, zI a5, zI a6, zI a7, u8, u9] [zI s0, zI s1] sh pp mm Q ↔ (s1 < s0 → zS 235 250 [zR a0, zI a1, zI a2, zI a3, zI a4, zI a5, zI a6, zI a7, zU, zU] [] sh pp mm Q) ∧ (¬ s1 < s0 → zS 235 157 [zR a0, zI a1, zI a2, zI a3, zI a4, zI a5, zI a6, zI a7, zU, zU] [] sh pp mm Q) := s_if cM_round_154 cM_round_250 cM_round_157 rfl rfl rfl
theorem rM_round_157 {a0 : Nat} {a1 a2 a3 a4 a5 a6 a7 : Int} {u8 u9 : zV} : zS 235 157 [zR a0, zI a1, zI a2, zI a3, zI a4, zI a5, zI a6, zI a7, u8, u9] [] sh pp mm Q ↔ zS 235 159 [zR a0, zI a1, zI a2, zI a3, zI a4, zI a5, zI a6, zI a7, zU, zU] [zI a7] sh pp mm Q := s_go cM_round_157 cM_round_159 rfl rfl
theorem rM_round_159 {a0 : Nat} {a1 a2 a3 a4 a5 a6 a7 s0 : Int} {u8 u9 : zV} : zS 235 159 [zR a0, zI a1, zI a2, zI a3, zI a4, zI a5, zI a6, zI a7, u8, u9] [zI s0] sh pp mm Q ↔ zS 235 161 [zR a0, zI a1, zI a2, zI a3, zI a4, zI a5, zI a6, zI a7, zU, zU] [zI a4, zI s0] sh pp mm Q := s_go cM_round_159 cM_round_161 rfl rfl
theorem rM_round_161 {a0 : Nat} {a1 a2 a3 a4 a5 a6 a7 s0 s1 : Int} {u8 u9 : zV} : zS 235 161 [zR a0, zI a1, zI a2, zI a3, zI a4, zI a5, zI a6, zI a7, u8, u9] [zI s0, zI s1] sh pp mm Q ↔ (s1 = s0 → zS 235 250 [zR a0, zI a1, zI a2, zI a3, zI a4, zI a5, zI a6, zI a7, zU, zU] [] sh pp mm Q) ∧ (¬ s1 = s0 → zS 235 164 [zR a0, zI a1, zI a2, zI a3, zI a4, zI a5, zI a6, zI a7, zU, zU] [] sh pp mm Q) := s_if cM_round_161 cM_round_250 cM_round_164 rfl rfl rfl
theorem rM_round_164 {a0 : Nat} {a1 a2 a3 a4 a5 a6 a7 : Int} {u8 u9 : zV} : zS 235 164 [zR a0, zI a1, zI a2, zI a3, zI a4, zI a5, zI a6, zI a7, u8, u9] [] sh pp mm Q ↔ zS 235 166 [zR a0, zI a1, zI a2, zI a3, zI a4, zI a5, zI a6, zI a7, zU, zU] [zI a7] sh pp mm Q := s_go cM_round_164 cM_round_166 rfl rfl
theorem rM_round_166 {a0 : Nat} {a1 a2 a3 a4 a5 a6 a7 s0 : Int} {u8 u9 : zV} : zS 235 166 [zR a0, zI a1, zI a2, zI a3, zI a4, zI a5, zI a6, zI a7, u8, u9] [zI s0] sh pp mm Q ↔ zS 235 168 [zR a0, zI a1, zI a2, zI a3, zI a4, zI a5, zI a6, zI a7, zU, zU] [zI 8, zI s0] sh pp mm Q := s_go cM_round_166 cM_round_168 rfl rfl
theorem rM_round_168 {a0 : Nat} {a1 a2 a3 a4 a5 a6 a7 s0 s1 : Int} {u8 u9 : zV} (hz : s0 ≠ 0) : zS 235 168 [zR a0, zI a1, zI a2, zI a3, zI a4, zI a5, zI a6, zI a7, u8, u9] [zI s0, zI s1] sh pp mm Q ↔ zS 235 169 [zR a0, zI a1, zI a2, zI a3, zI a4, zI a5, zI a6, zI a7, zU, zU] [zI (zw32 (s1.tdiv s0))] sh pp mm Q := s_go cM_round_168 cM_round_169 (if_neg hz) rfl
theorem rM_round_169 {a0 : Nat} {a1 a2 a3 a4 a5 a6 a7 s0 : Int} {u8 u9 : zV} : zS 235 169 [zR a0, zI a1, zI a2, zI a3, zI a4, zI a5, zI a6, zI a7, u8, u9] [zI s0] sh pp mm Q ↔ zS 235 170 [zR a0, zI a1, zI a2, zI a3, zI a4, zI a5, zI a6, zI a7, zU, zU] [zI a1, zI s0] sh pp mm Q := s_go cM_round_169 cM_round_170 rfl rfl
theorem rM_round_170 {a0 : Nat} {a1 a2 a3 a4 a5 a6 a7 s0 s1 : Int} {u8 u9 : zV} : zS 235 170 [zR a0, zI a1, zI a2, zI a3, zI a4, zI a5, zI a6, zI a7, u8, u9] [zI s0, zI s1] sh pp mm Q ↔ (s0 < s1 → zS 235 250 [zR a0, zI a1, zI a2, zI a3, zI a4, zI a5, zI a6, zI a7, zU, zU] [] sh pp mm Q) ∧ (¬ s0 < s1 → zS 235 173 [zR a0, zI a1, zI a2, zI a3, zI a4, zI a5, zI a6, zI a7, zU, zU] [] sh pp mm Q) := s_if cM_round_170 cM_round_250 cM_round_173 rfl rfl rfl
theorem rM_round_173 {a0 : Nat} {a1 a2 a3 a4 a5 a6 a7 : Int} {u8 u9 : zV} : zS 235 173 [zR a0, zI a1, zI a2, zI a3, zI a4, zI a5, zI a6, zI a7, u8, u9] [] sh pp mm Q ↔ zS 235 174 [zR a0, zI a1, zI a2, zI a3, zI a4, zI a5, zI a6, zI a7, zU, zU] [zR a0] sh pp mm Q := s_go cM_round_173 cM_round_174 rfl rfl
theorem rM_round_174 {a0 s0 : Nat} {a1 a2 a3 a4 a5 a6 a7 : Int} {u8 u9 : zV} (hk : zKd sh s0 = 12) : zS 235 174 [zR a0, zI a1, zI a2, zI a3, zI a4, zI a5, zI a6, zI a7, u8, u9] [zR s0] sh pp mm Q ↔ zS 235 177 [zR a0, zI a1, zI a2, zI a3, zI a4, zI a5, zI a6, zI a7, zU, zU] [zR (pp s0 35)] sh pp mm Q := s_go cM_round_174 cM_round_177 (if_pos hk) rfl
theorem rM_round_177 {a0 s0 : Nat} {a1 a2 a3 a4 a5 a6 a7 : Int} {u8 u9 : zV} : zS 235 177 [zR a0, zI a1, zI a2, zI a3, zI a4, zI a5, zI a6, zI a7, u8, u9] [zR s0] sh pp mm Q ↔ zS 235 179 [zR a0, zI a1, zI a2, zI a3, zI a4, zI a5, zI a6, zI a7, zU, zU] [zI 64, zR s0] sh pp mm Q := s_go cM_round_177 cM_round_179 rfl rfl
theorem rM_round_179 {a0 s1 : Nat} {a1 a2 a3 a4 a5 a6 a7 s0 : Int} {u8 u9 : zV} : zS 235 179 [zR a0, zI a1, zI a2, zI a3, zI a4, zI a5, zI a6, zI a7, u8, u9] [zI s0, zR s1] sh pp mm Q ↔ zS 235 180 [zR a0, zI a1, zI a2, zI a3, zI a4, zI a5, zI a6, zI a7, zU, zU] [zI a3, zI s0, zR s1] sh pp mm Q := s_go cM_round_179 cM_round_180 rfl rfl
theorem rM_round_180 {a0 s2 : Nat} {a1 a2 a3 a4 a5 a6 a7 s0 s1 : Int} {u8 u9 : zV} : zS 235 180 [zR a0, zI a1, zI a2, zI a3, zI a4, zI a5, zI a6, zI a7, u8, u9] [zI s0, zI s1, zR s2] sh pp mm Q ↔ zS 235 181 [zR a0, zI a1, zI a2, zI a3, zI a4, zI a5, zI a6, zI a7, zU, zU] [zI (zw32 (s1 * s0)), zR s2] sh pp mm Q := s_go cM_round_180 cM_round_181 rfl rfl
theorem rM_round_181 {a0 s1 : Nat} {a1 a2 a3 a4 a5 a6 a7 s0 : Int} {u8 u9 : zV} : zS 235 181 [zR a0, zI a1, zI a2, zI a3, zI a4, zI a5, zI a6, zI a7, u8, u9] [zI s0, zR s1] sh pp mm Q ↔ zS 235 183 [zR a0, zI a1, zI a2, zI a3, zI a4, zI a5, zI a6, zI a7, zU, zU] [zI a4, zI s0, zR s1] sh pp mm Q := s_go cM_round_181 cM_round_183 rfl rfl
theorem rM_round_183 {a0 s2 : Nat} {a1 a2 a3 a4 a5 a6 a7 s0 s1 : Int} {u8 u9 : zV} : zS 235 183 [zR a0, zI a1, zI a2, zI a3, zI a4, zI a5, zI a6, zI a7, u8, u9] [zI s0, zI s1, zR s2] sh pp mm Q ↔ zS 235 184 [zR a0, zI a1, zI a2, zI a3, zI a4, zI a5, zI a6, zI a7, zU, zU] [zI (zw32 (s1 + s0)), zR s2] sh pp mm Q := s_go cM_round_183 cM_round_184 rfl rfl
theorem rM_round_184 {a0 s1 : Nat} {a1 a2 a3 a4 a5 a6 a7 s0 : Int} {u8 u9 : zV} (hk : zKd sh s1 = 20 ∨ zKd sh s1 = 30) (h0 : 0 ≤ s0) (h1 : s0 < zLn sh s1) : zS 235 184 [zR a0, zI a1, zI a2, zI a3, zI a4, zI a5, zI a6, zI a7, u8, u9] [zI s0, zR s1] sh pp mm Q ↔ zS 235 185 [zR a0, zI a1, zI a2, zI a3, zI a4, zI a5, zI a6, zI a7, zU, zU] [zI (mm s1 s0)] sh pp mm Q := s_go cM_round_184 cM_round_185 (if_pos ⟨hk, h0, h1⟩) rfl
theorem rM_round_185 {a0 : Nat} {a1 a2 a3 a4 a5 a6 a7 s0 : Int} {u8 u9 : zV} : zS 235 185 [zR a0, zI a1, zI a2, zI a3, zI a4, zI a5, zI a6, zI a7, u8, u9] [zI s0] sh pp mm Q ↔ zS 235 187 [zR a0, zI a1, zI a2, zI a3, zI a4, zI a5, zI a6, zI a7, zU, zU] [zI a5, zI s0] sh pp mm Q := s_go cM_round_185 cM_round_187 rfl rfl
theorem rM_round_187 {a0 : Nat} {a1 a2 a3 a4 a5 a6 a7 s0 s1 : Int} {u8 u9 : zV} : zS 235 187 [zR a0, zI a1, zI a2, zI a3, zI a4, zI a5, zI a6, zI a7, u8, u9] [zI s0, zI s1] sh pp mm Q ↔ zS 235 189 [zR a0, zI a1, zI a2, zI a3, zI a4, zI a5, zI a6, zI a7, zU, zU] [zI a6, zI s0, zI s1] sh pp mm Q := s_go cM_round_187 cM_round_189 rfl rfl
theorem rM_round_189 {a0 : Nat} {a1 a2 a3 a4 a5 a6 a7 s0 s1 s2 : Int} {u8 u9 : zV} : zS 235 189 [zR a0, zI a1, zI a2, zI a3, zI a4, zI a5, zI a6, zI a7, u8, u9] [zI s0, zI s1, zI s2] sh pp mm Q ↔ zS 235 191 [zR a0, zI a1, zI a2, zI a3, zI a4, zI a5, zI a6, zI a7, zU, zU] [zI a7, zI s0, zI s1, zI s2] sh pp mm Q := s_go cM_round_189 cM_round_191 rfl rfl
theorem rM_round_191 {a0 : Nat} {a1 a2 a3 a4 a5 a6 a7 s0 s1 s2 s3 : Int} {u8 u9 : zV} : zS 235 191 [zR a0, zI a1, zI a2, zI a3, zI a4, zI a5, zI a6, zI a7, u8, u9] [zI s0, zI s1, zI s2, zI s3] sh pp mm Q ↔ zS 235 193 [zR a0, zI a1, zI a2, zI a3, zI a4, zI a5, zI a6, zI a7, zU, zU] [zI 8, zI s0, zI s1, zI s2, zI s3] sh pp mm Q := s_go cM_round_191 cM_round_193 rfl rfl
theorem rM_round_193 {a0 : Nat} {a1 a2 a3 a4 a5 a6 a7 s0 s1 s2 s3 s4 : Int} {u8 u9 : zV} (hz : s0 ≠ 0) : zS 235 193 [zR a0, zI a1, zI a2, zI a3, zI a4, zI a5, zI a6, zI a7, u8, u9] [zI s0, zI s1, zI s2, zI s3, zI s4] sh pp mm Q ↔ zS 235 194 [zR a0, zI a1, zI a2, zI a3, zI a4, zI a5, zI a6, zI a7, zU, zU] [zI (s1.tmod s0), zI s2, zI s3, zI s4] sh pp mm Q := s_go cM_round_193 cM_round_194 (if_neg hz) rfl
theorem rM_round_194 {a0 : Nat} {a1 a2 a3 a4 a5 a6 a7 s0 s1 s2 s3 : Int} {u8 u9 : zV} : zS 235 194 [zR a0, zI a1, zI a2, zI a3, zI a4, zI a5, zI a6, zI a7, u8, u9] [zI s0, zI s1, zI s2, zI s3] sh pp mm Q ↔ zS 235 196 [zR a0, zI a1, zI a2, zI a3, zI a4, zI a5, zI a6, zI a7, zU, zU] [zI a7, zI s0, zI s1, zI s2, zI s3] sh pp mm Q := s_go cM_round_194 cM_round_196 rfl rfl
theorem rM_round_196 {a0 : Nat} {a1 a2 a3 a4 a5 a6 a7 s0 s1 s2 s3 s4 : Int} {u8 u9 : zV} : zS 235 196 [zR a0, zI a1, zI a2, zI a3, zI a4, zI a5, zI a6, zI a7, u8, u9] [zI s0, zI s1, zI s2, zI s3, zI s4] sh pp mm Q ↔ zS 235 198 [zR a0, zI a1, zI a2, zI a3, zI a4, zI a5, zI a6, zI a7, zU, zU] [zI 8, zI s0, zI s1, zI s2, zI s3, zI s4] sh pp mm Q := s_go cM_round_196 cM_round_198 rfl rfl
theorem rM_round_198 {a0 : Nat} {a1 a2 a3 a4 a5 a6 a7 s0 s1 s2 s3 s4 s5 : Int} {u8 u9 : zV} (hz : s0 ≠ 0) : zS 235 198 [zR a0, zI a1, zI a2, zI a3, zI a4, zI a5, zI a6, zI a7, u8, u9] [zI s0, zI s1, zI s2, zI s3, zI s4, zI s5] sh pp mm Q ↔ zS 235 199 [zR a0, zI a1, zI a2, zI a3, zI a4, zI a5, zI a6, zI a7, zU, zU] [zI (zw32 (s1.tdiv s0)), zI s2, zI s3, zI s4, zI s5] sh pp mm Q := s_go cM_round_198 cM_round_199 (if_neg hz) rfl
theorem rM_round_199 {a0 : Nat} {a1 a2 a3 a4 a5 a6 a7 s0 s1 s2 s3 s4 : Int} {u8 u9 : zV} : zS 235 199 [zR a0, zI a1, zI a2, zI a3, zI a4, zI a5, zI a6, zI a7, u8, u9] [zI s0, zI s1, zI s2, zI s3, zI s4] sh pp mm Q ↔ zS 235 200 [zR a0, zI a1, zI a2, zI a3, zI a4, zI a5, zI a6, zI a7, zU, zU] [zI a1, zI s0, zI s1, zI s2, zI s3, zI s4] sh pp mm Q := s_go cM_round_199 cM_round_200 rfl rfl
theorem rM_round_200 {a0 : Nat} {a1 a2 a3 a4 a5 a6 a7 s0 s1 s2 s3 s4 s5 : Int} {u8 u9 : zV} : zS 235 200 [zR a0, zI a1, zI a2, zI a3, zI a4, zI a5, zI a6, zI a7, u8, u9] [zI s0, zI s1, zI s2, zI s3, zI s4, zI s5] sh pp mm Q ↔ zS 234 0 [zI s4, zI s3, zI s2, zI s1, zI s0, zU, zU, zU, zU, zU] [] sh pp mm (fun v sh pp mm => zS 235 203 [zR a0, zI a1, zI a2, zI a3, zI a4, zI a5, zI a6, zI a7, zU, zU] (zPush v [zI s5]) sh pp mm Q) := s_call cM_round_200 cM_round_203 rfl rfl
theorem rM_round_203 {a0 : Nat} {a1 a2 a3 a4 a5 a6 a7 s0 s1 : Int} {u8 u9 : zV} : zS 235 203 [zR a0, zI a1, zI a2, zI a3, zI a4, zI a5, zI a6, zI a7, u8, u9] [zI s0, zI s1] sh pp mm Q ↔ zS 192 0 [zI s1, zI s0] [] sh pp mm (fun v sh pp mm => zS 235 206 [zR a0, zI a1, zI a2, zI a3, zI a4, zI a5, zI a6, zI a7, zU, zU] (zPush v []) sh pp mm Q) := s_call cM_round_203 cM_round_206 rfl rfl
theorem rM_round_206 {a0 : Nat} {a1 a2 a3 a4 a5 a6 a7 s0 : Int} {u8 u9 : zV} : zS 235 206 [zR a0, zI a1, zI a2, zI a3, zI a4, zI a5, zI a6, zI a7, u8, u9] [zI s0] sh pp mm Q ↔ zS 235 208 [zR a0, zI a1, zI a2, zI a3, zI a4, zI a5, zI a6, zI a7, zI s0, zU] [] sh pp mm Q := s_go cM_round_206 cM_round_208 rfl rfl
theorem rM_round_208 {a0 : Nat} {a1 a2 a3 a4 a5 a6 a7 a8 : Int} {u9 : zV} : zS 235 208 [zR a0, zI a1, zI a2, zI a3, zI a4, zI a5, zI a6, zI a7, zI a8, u9] [] sh pp mm Q ↔ zS 235 210 [zR a0, zI a1, zI a2, zI a3, zI a4, zI a5, zI a6, zI a7, zI a8, zU] [zI 64] sh pp mm Q := s_go cM_round_208 cM_round_210 rfl rfl
theorem rM_round_210 {a0 : Nat} {a1 a2 a3 a4 a5 a6 a7 a8 s0 : Int} {u9 : zV} : zS 235 210 [zR a0, zI a1, zI a2, zI a3, zI a4, zI a5, zI a6, zI a7, zI a8, u9] [zI s0] sh pp mm Q ↔ zS 235 211 [zR a0, zI a1, zI a2, zI a3, zI a4, zI a5, zI a6, zI a7, zI a8, zU] [zI a3, zI s0] sh pp mm Q := s_go cM_round_210 cM_round_211 rfl rfl
theorem rM_round_211 {a0 : Nat} {a1 a2 a3 a4 a5 a6 a7 a8 s0 s1 : Int} {u9 : zV} : zS 235 211 [zR a0, zI a1, zI a2, zI a3, zI a4, zI a5, zI a6, zI a7, zI a8, u9] [zI s0, zI s1] sh pp mm Q ↔ zS 235 212 [zR a0, zI a1, zI a2, zI a3, zI a4, zI a5, zI a6, zI a7, zI a8, zU] [zI 1, zI s0, zI s1] sh pp mm Q := s_go cM_round_211 cM_round_212 rfl rfl
theorem rM_round_212 {a0 : Nat} {a1 a2 a3 a4 a5 a6 a7 a8 s0 s1 s2 : Int} {u9 : zV} : zS 235 212 [zR a0, zI a1, zI a2, zI a3, zI a4, zI a5, zI a6, zI a7, zI a8, u9] [zI s0, zI s1, zI s2] sh pp mm Q ↔ zS 235 213 [zR a0, zI a1, zI a2, zI a3, zI a4, zI a5, zI a6, zI a7, zI a8, zU] [zI (zw32 (s1 + s0)), zI s2] sh pp mm Q := s_go cM_round_212 cM_round_213 rfl rfl
theorem rM_round_213 {a0 : Nat} {a1 a2 a3 a4 a5 a6 a7 a8 s0 s1 : Int} {u9 : zV} : zS 235 213 [zR a0, zI a1, zI a2, zI a3, zI a4, zI a5, zI a6, zI a7, zI a8, u9] [zI s0, zI s1] sh pp mm Q ↔ zS 235 214 [zR a0, zI a1, zI a2, zI a3, zI a4, zI a5, zI a6, zI a7, zI a8, zU] [zI (zw32 (s1 * s0))] sh pp mm Q := s_go cM_round_213 cM_round_214 rfl rfl
theorem rM_round_214 {a0 : Nat} {a1 a2 a3 a4 a5 a6 a7 a8 s0 : Int} {u9 : zV} : zS 235 214 [zR a0, zI a1, zI a2, zI a3, zI a4, zI a5, zI a6, zI a7, zI a8, u9] [zI s0] sh pp mm Q ↔ zS 235 216 [zR a0, zI a1, zI a2, zI a3, zI a4, zI a5, zI a6, zI a7, zI a8, zU] [zI a7, zI s0] sh pp mm Q := s_go cM_round_214 cM_round_216 rfl rfl
theorem rM_round_216 {a0 : Nat} {a1 a2 a3 a4 a5 a6 a7 a8 s0 s1 : Int} {u9 : zV} : zS 235 216 [zR a0, zI a1, zI a2, zI a3, zI a4, zI a5, zI a6, zI a7, zI a8, u9] [zI s0, zI s1] sh pp mm Q ↔ zS 235 217 [zR a0, zI a1, zI a2, zI a3, zI a4, zI a5, zI a6, zI a7, zI a8, zU] [zI (zw32 (s1 + s0))] sh pp mm Q := s_go cM_round_216 cM_round_217 rfl rfl
theorem rM_round_217 {a0 : Nat} {a1 a2 a3 a4 a5 a6 a7 a8 s0 : Int} {u9 : zV} : zS 235 217 [zR a0, zI a1, zI a2, zI a3, zI a4, zI a5, zI a6, zI a7, zI a8, u9] [zI s0] sh pp mm Q ↔ zS 235 219 [zR a0, zI a1, zI a2, zI a3, zI a4, zI a5, zI a6, zI a7, zI a8, zI s0] [] sh pp mm Q := s_go cM_round_217 cM_round_219 rfl rfl
theorem rM_round_219 {a0 : Nat} {a1 a2 a3 a4 a5 a6 a7 a8 a9 : Int} : zS 235 219 [zR a0, zI a1, zI a2, zI a3, zI a4, zI a5, zI a6, zI a7, zI a8, zI a9] [] sh pp mm Q ↔ zS 235 220 [zR a0, zI a1, zI a2, zI a3, zI a4, zI a5, zI a6, zI a7, zI a8, zI a9] [zR a0] sh pp mm Q := s_go cM_round_219 cM_round_220 rfl rfl
theorem rM_round_220 {a0 s0 : Nat} {a1 a2 a3 a4 a5 a6 a7 a8 a9 : Int} (hk : zKd sh s0 = 12) : zS 235 220 [zR a0, zI a1, zI a2, zI a3, zI a4, zI a5, zI a6, zI a7, zI a8, zI a9] [zR s0] sh pp mm Q ↔ zS 235 223 [zR a0, zI a1, zI a2, zI a3, zI a4, zI a5, zI a6, zI a7, zI a8, zI a9] [zR (pp s0 35)] sh pp mm Q := s_go cM_round_220 cM_round_223 (if_pos hk) rfl
theorem rM_round_223 {a0 s0 : Nat} {a1 a2 a3 a4 a5 a6 a7 a8 a9 : Int} : zS 235 223 [zR a0, zI a1, zI a2, zI a3, zI a4, zI a5, zI a6, zI a7, zI a8, zI a9] [zR s0] sh pp mm Q ↔ zS 235 225 [zR a0, zI a1, zI a2, zI a3, zI a4, zI a5, zI a6, zI a7, zI a8, zI a9] [zI a9, zR s0] sh pp mm Q := s_go cM_round_223 cM_round_225 rfl rfl
theorem rM_round_225 {a0 s1 : Nat} {a1 a2 a3 a4 a5 a6 a7 a8 a9 s0 : Int} : zS 235 225 [zR a0, zI a1, zI a2, zI a3, zI a4, zI a5, zI a6, zI a7, zI a8, zI a9] [zI s0, zR s1] sh pp mm Q ↔ zS 235 227 [zR a0, zI a1, zI a2, zI a3, zI a4, zI a5, zI a6, zI a7, zI a8, zI a9] [zI a8, zI s0, zR s1] sh pp mm Q := s_go cM_round_225 cM_round_227 rfl rfl
theorem rM_round_227 {a0 s2 : Nat} {a1 a2 a3 a4 a5 a6 a7 a8 a9 s0 s1 : Int} : zS 235 227 [zR a0, zI a1, zI a2, zI a3, zI a4, zI a5, zI a6, zI a7, zI a8, zI a9] [zI s0, zI s1, zR s2] sh pp mm Q ↔ zS 235 228 [zR a0, zI a1, zI a2, zI a3, zI a4, zI a5, zI a6, zI a7, zI a8, zI a9] [zR a0, zI s0, zI s1, zR s2] sh pp mm Q := s_go cM_round_227 cM_round_228 rfl rfl
theorem rM_round_228 {a0 s0 s3 : Nat} {a1 a2 a3 a4 a5 a6 a7 a8 a9 s1 s2 : Int} (hk : zKd sh s0 = 12) : zS 235 228 [zR a0, zI a1, zI a2, zI a3, zI a4, zI a5, zI a6, zI a7, zI a8, zI a9] [zR s0, zI s1, zI s2, zR s3] sh pp mm Q ↔ zS 235 231 [zR a0, zI a1, zI a2, zI a3, zI a4, zI a5, zI a6, zI a7, zI a8, zI a9] [zR (pp s0 35), zI s1, zI s2, zR s3] sh pp mm Q := s_go cM_round_228 cM_round_231 (if_pos hk) rfl
theorem rM_round_231 {a0 s0 s3 : Nat} {a1 a2 a3 a4 a5 a6 a7 a8 a9 s1 s2 : Int} : zS 235 231 [zR a0, zI a1, zI a2, zI a3, zI a4, zI a5, zI a6, zI a7, zI a8, zI a9] [zR s0, zI s1, zI s2, zR s3] sh pp mm Q ↔ zS 235 233 [zR a0, zI a1, zI a2, zI a3, zI a4, zI a5, zI a6, zI a7, zI a8, zI a9] [zI a9, zR s0, zI s1, zI s2, zR s3] sh pp mm Q := s_go cM_round_231 cM_round_233 rfl rfl
theorem rM_round_233 {a0 s1 s4 : Nat} {a1 a2 a3 a4 a5 a6 a7 a8 a9 s0 s2 s3 : Int} (hk : zKd sh s1 = 20 ∨ zKd sh s1 = 30) (h0 : 0 ≤ s0) (h1 : s0 < zLn sh s1) : zS 235 233 [zR a0, zI a1, zI a2, zI a3, zI a4, zI a5, zI a6, zI a7, zI a8, zI a9] [zI s0, zR s1, zI s2, zI s3, zR s4] sh pp mm Q ↔ zS 235 234 [zR a0, zI a1, zI a2, zI a3, zI a4, zI a5, zI a6, zI a7, zI a8, zI a9] [zI (mm s1 s0), zI s2, zI s3, zR s4] sh pp mm Q := s_go cM_round_233 cM_round_234 (if_pos ⟨hk, h0, h1⟩) rfl
theorem rM_round_234 {a0 s3 : Nat} {a1 a2 a3 a4 a5 a6 a7 a8 a9 s0 s1 s2 : Int} : zS 235 234 [zR a0, zI a1, zI a2, zI a3, zI a4, zI a5, zI a6, zI a7, zI a8, zI a9] [zI s0, zI s1, zI s2, zR s3] sh pp mm Q ↔ (s1 < s0 → zS 235 237 [zR a0, zI a1, zI a2, zI a3, zI a4, zI a5, zI a6, zI a7, zI a8, zU] [zI s2, zR s3] sh pp mm Q) ∧ (¬ s1 < s0 → zS 235 242 [zR a0, zI a1, zI a2, zI a3, zI a4, zI a5, zI a6, zI a7, zU, zI a9] [zI s2, zR s3] sh pp mm Q) := s_ifn cM_round_234 cM_round_237 cM_round_242 rfl rfl rfl
theorem rM_round_237 {a0 s1 : Nat} {a1 a2 a3 a4 a5 a6 a7 a8 s0 : Int} {u9 : zV} : zS 235 237 [zR a0, zI a1, zI a2, zI a3, zI a4, zI a5, zI a6, zI a7, zI a8, u9] [zI s0, zR s1] sh pp mm Q ↔ zS 235 239 [zR a0, zI a1, zI a2, zI a3, zI a4, zI a5, zI a6, zI a7, zU, zU] [zI a8, zI s0, zR s1] sh pp mm Q := s_go cM_round_237 cM_round_239 rfl rfl
theorem rM_round_239 {a0 s2 : Nat} {a1 a2 a3 a4 a5 a6 a7 s0 s1 : Int} {u8 u9 : zV} : zS 235 239 [zR a0, zI a1, zI a2, zI a3, zI a4, zI a5, zI a6, zI a7, u8, u9] [zI s0, zI s1, zR s2] sh pp mm Q ↔ zS 235 249 [zR a0, zI a1, zI a2, zI a3, zI a4, zI a5, zI a6, zI a7, zU, zU] [zI s0, zI s1, zR s2] sh pp mm Q := s_go cM_round_239 cM_round_249 rfl rfl
theorem rM_round_242 {a0 s1 : Nat} {a1 a2 a3 a4 a5 a6 a7 a9 s0 : Int} {u8 : zV} : zS 235 242 [zR a0, zI a1, zI a2, zI a3, zI a4, zI a5, zI a6, zI a7, u8, zI a9] [zI s0, zR s1] sh pp mm Q ↔ zS 235 243 [zR a0, zI a1, zI a2, zI a3, zI a4, zI a5, zI a6, zI a7, zU, zI a9] [zR a0, zI s0, zR s1] sh pp mm Q := s_go cM_round_242 cM_round_243 rfl rfl
theorem rM_round_243 {a0 s0 s2 : Nat} {a1 a2 a3 a4 a5 a6 a7 a9 s1 : Int} {u8 : zV} (hk : zKd sh s0 = 12) : zS 235 243 [zR a0, zI a1, zI a2, zI a3, zI a4, zI a5, zI a6, zI a7, u8, zI a9] [zR s0, zI s1, zR s2] sh pp mm Q ↔ zS 235 246 [zR a0, zI a1, zI a2, zI a3, zI a4, zI a5, zI a6, zI a7, zU, zI a9] [zR (pp s0 35), zI s1, zR s2] sh pp mm Q := s_go cM_round_243 cM_round_246 (if_pos hk) rfl
theorem rM_round_246 {a0 s0 s2 : Nat} {a1 a2 a3 a4 a5 a6 a7 a9 s1 : Int} {u8 : zV} : zS 235 246 [zR a0, zI a1, zI a2, zI a3, zI a4, zI a5, zI a6, zI a7, u8, zI a9] [zR s0, zI s1, zR s2] sh pp mm Q ↔ zS 235 248 [zR a0, zI a1, zI a2, zI a3, zI a4, zI a5, zI a6, zI a7, zU, zU] [zI a9, zR s0, zI s1, zR s2] sh pp mm Q := s_go cM_round_246 cM_round_248 rfl rfl
theorem rM_round_248 {a0 s1 s3 : Nat} {a1 a2 a3 a4 a5 a6 a7 s0 s2 : Int} {u8 u9 : zV} (hk : zKd sh s1 = 20 ∨ zKd sh s1 = 30) (h0 : 0 ≤ s0) (h1 : s0 < zLn sh s1) : zS 235 248 [zR a0, zI a1, zI a2, zI a3, zI a4, zI a5, zI a6, zI a7, u8, u9] [zI s0, zR s1, zI s2, zR s3] sh pp mm Q ↔ zS 235 249 [zR a0, zI a1, zI a2, zI a3, zI a4, zI a5, zI a6, zI a7, zU, zU] [zI (mm s1 s0), zI s2, zR s3] sh pp mm Q := s_go cM_round_248 cM_round_249 (if_pos ⟨hk, h0, h1⟩) rfl
theorem rM_round_249 {a0 s2 : Nat} {a1 a2 a3 a4 a5 a6 a7 s0 s1 : Int} {u8 u9 : zV} (hk : zKd sh s2 = 20) (h0 : 0 ≤ s1) (h1 : s1 < zLn sh s2) : zS 235 249 [zR a0, zI a1, zI a2, zI a3, zI a4, zI a5, zI a6, zI a7, u8, u9] [zI s0, zI s1, zR s2] sh pp mm Q ↔ zS 235 250 [zR a0, zI a1, zI a2, zI a3, zI a4, zI a5, zI a6, zI a7, zU, zU] [] sh pp (zupd mm s2 s1 s0) Q := s_go cM_round_249 cM_round_250 (if_pos ⟨hk, h0, h1, fun h => absurd h (by decide)⟩) rfl
theorem rM_round_250 {a0 : Nat} {a1 a2 a3 a4 a5 a6 a7 : Int} {u8 u9 : zV} : zS 235 250 [zR a0, zI a1, zI a2, zI a3, zI a4, zI a5, zI a6, zI a7, u8, u9] [] sh pp mm Q ↔ zS 235 253 [zR a0, zI a1, zI a2, zI a3, zI a4, zI a5, zI a6, zI (zw32 (a7 + 1)), zU, zU] [] sh pp mm Q := s_go cM_round_250 cM_round_253 rfl rfl
theorem rM_round_253 {a0 : Nat} {a1 a2 a3 a4 a5 a6 a7 : Int} {u8 u9 : zV} : zS 235 253 [zR a0, zI a1, zI a2, zI a3, zI a4, zI a5, zI a6, zI a7, u8, u9] [] sh pp mm Q ↔ zS 235 112 [zR a0, zI a1, zI a2, zI a3, zI a4, zI a5, zI a6, zI a7, zU, zU] [] sh pp mm Q := s_go cM_round_253 cM_round_112 rfl rfl
theorem rM_round_256 {a0 : Nat} {a1 a2 a3 a4 : Int} {u5 u6 u7 u8 u9 : zV} : zS 235 256 [zR a0, zI a1, zI a2, zI a3, zI a4, u5, u6, u7, u8, u9] [] sh pp mm Q ↔ zS 235 259 [zR a0, zI a1, zI a2, zI a3, zI (zw32 (a4 + 1)), zU, zU, zU, zU, zU] [] sh pp mm Q := s_go cM_round_256 cM_round_259 rfl rfl
theorem rM_round_259 {a0 : Nat} {a1 a2 a3 a4 : Int} {u5 u6 u7 u8 u9 : zV} : zS 235 259 [zR a0, zI a1, zI a2, zI a3, zI a4, u5, u6, u7, u8, u9] [] sh pp mm Q ↔ zS 235 88 [zR a0, zI a1, zI a2, zI a3, zI a4, zU, zU, zU, zU, zU] [] sh pp mm Q := s_go cM_round_259 cM_round_88 rfl rfl
theorem rM_round_262 {a0 : Nat} {a1 a2 a3 : Int} {u4 u5 u6 u7 u8 u9 : zV} : zS 235 262 [zR a0, zI a1, zI a2, zI a3, u4, u5, u6, u7, u8, u9] [] sh pp mm Q ↔ zS 235 265 [zR a0, zI a1, zI a2, zI (zw32 (a3 + 1)), zU, zU, zU, zU, zU, zU] [] sh pp mm Q := s_go cM_round_262 cM_round_265 rfl rfl
theorem rM_round_265 {a0 : Nat} {a1 a2 a3 : Int} {u4 u5 u6 u7 u8 u9 : zV} : zS 235 265 [zR a0, zI a1, zI a2, zI a3, u4, u5, u6, u7, u8, u9] [] sh pp mm Q ↔ zS 235 80 [zR a0, zI a1, zI a2, zI a3, zU, zU, zU, zU, zU, zU] [] sh pp mm Q := s_go cM_round_265 cM_round_80 rfl rfl
theorem rM_round_268 {a0 : Nat} {a1 a2 : Int} {u3 u4 u5 u6 u7 u8 u9 : zV} : zS 235 268 [zR a0, zI a1, zI a2, u3, u4, u5, u6, u7, u8, u9] [] sh pp mm Q ↔ zS 235 269 [zU, zI a1, zI a2, zU, zU, zU, zU, zU, zU, zU] [zR a0] sh pp mm Q := s_go cM_round_268 cM_round_269 rfl rfl
theorem rM_round_269 {s0 : Nat} {a1 a2 : Int} {u0 u3 u4 u5 u6 u7 u8 u9 : zV} (hk : zKd sh s0 = 12) : zS 235 269 [u0, zI a1, zI a2, u3, u4, u5, u6, u7, u8, u9] [zR s0] sh pp mm Q ↔ zS 235 272 [zU, zI a1, zI a2, zU, zU, zU, zU, zU, zU, zU] [zR (pp s0 35)] sh pp mm Q := s_go cM_round_269 cM_round_272 (if_pos hk) rfl
theorem rM_round_272 {s0 : Nat} {a1 a2 : Int} {u0 u3 u4 u5 u6 u7 u8 u9 : zV} : zS 235 272 [u0, zI a1, zI a2, u3, u4, u5, u6, u7, u8, u9] [zR s0] sh pp mm Q ↔ zS 235 274 [zU, zI a1, zI a2, zU, zU, zU, zU, zU, zU, zU] [zI 64, zR s0] sh pp mm Q := s_go cM_round_272 cM_round_274 rfl rfl
theorem rM_round_274 {s1 : Nat} {a1 a2 s0 : Int} {u0 u3 u4 u5 u6 u7 u8 u9 : zV} : zS 235 274 [u0, zI a1, zI a2, u3, u4, u5, u6, u7, u8, u9] [zI s0, zR s1] sh pp mm Q ↔ zS 235 275 [zU, zI a1, zU, zU, zU, zU, zU, zU, zU, zU] [zI a2, zI s0, zR s1] sh pp mm Q := s_go cM_round_274 cM_round_275 rfl rfl
theorem rM_round_275 {s2 : Nat} {a1 s0 s1 : Int} {u0 u2 u3 u4 u5 u6 u7 u8 u9 : zV} : zS 235 275 [u0, zI a1, u2, u3, u4, u5, u6, u7, u8, u9] [zI s0, zI s1, zR s2] sh pp mm Q ↔ zS 235 276 [zU, zI a1, zU, zU, zU, zU, zU, zU, zU, zU] [zI (zw32 (s1 * s0)), zR s2] sh pp mm Q := s_go cM_round_275 cM_round_276 rfl rfl
theorem rM_round_276 {s1 : Nat} {a1 s0 : Int} {u0 u2 u3 u4 u5 u6 u7 u8 u9 : zV} : zS 235 276 [u0, zI a1, u2, u3, u4, u5, u6, u7, u8, u9] [zI s0, zR s1] sh pp mm Q ↔ zS 235 278 [zU, zI a1, zU, zU, zU, zU, zU, zU, zU, zU] [zI 8, zI s0, zR s1] sh pp mm Q := s_go cM_round_276 cM_round_278 rfl rfl
theorem rM_round_278 {s2 : Nat} {a1 s0 s1 : Int} {u0 u2 u3 u4 u5 u6 u7 u8 u9 : zV} : zS 235 278 [u0, zI a1, u2, u3, u4, u5, u6, u7, u8, u9] [zI s0, zI s1, zR s2] sh pp mm Q ↔ zS 235 279 [zU, zU, zU, zU, zU, zU, zU, zU, zU, zU] [zI a1, zI s0, zI s1, zR s2] sh pp mm Q := s_go cM_round_278 cM_round_279 rfl rfl
theorem rM_round_279 {s3 : Nat} {s0 s1 s2 : Int} {u0 u1 u2 u3 u4 u5 u6 u7 u8 u9 : zV} : zS 235 279 [u0, u1, u2, u3, u4, u5, u6, u7, u8, u9] [zI s0, zI s1, zI s2, zR s3] sh pp mm Q ↔ zS 235 280 [zU, zU, zU, zU, zU, zU, zU, zU, zU, zU] [zI (zw32 (s1 * s0)), zI s2, zR s3] sh pp mm Q := s_go cM_round_279 cM_round_280 rfl rfl
theorem rM_round_280 {s2 : Nat} {s0 s1 : Int} {u0 u1 u2 u3 u4 u5 u6 u7 u8 u9 : zV} : zS 235 280 [u0, u1, u2, u3, u4, u5, u6, u7, u8, u9] [zI s0, zI s1, zR s2] sh pp mm Q ↔ zS 235 281 [zU, zU, zU, zU, zU, zU, zU, zU, zU, zU] [zI (zw32 (s1 + s0)), zR s2] sh pp mm Q := s_go cM_round_280 cM_round_281 rfl rfl
theorem rM_round_281 {s1 : Nat} {s0 : Int} {u0 u1 u2 u3 u4 u5 u6 u7 u8 u9 : zV} (hk : zKd sh s1 = 20 ∨ zKd sh s1 = 30) (h0 : 0 ≤ s0) (h1 : s0 < zLn sh s1) : zS 235 281 [u0, u1, u2, u3, u4, u5, u6, u7, u8, u9] [zI s0, zR s1] sh pp mm Q ↔ zS 235 282 [zU, zU, zU, zU, zU, zU, zU, zU, zU, zU] [zI (mm s1 s0)] sh pp mm Q := s_go cM_round_281 cM_round_282 (if_pos ⟨hk, h0, h1⟩) rfl
theorem rM_round_282 {s0 : Int} {u0 u1 u2 u3 u4 u5 u6 u7 u8 u9 : zV} : zS 235 282 [u0, u1, u2, u3, u4, u5, u6, u7, u8, u9] [zI s0] sh pp mm Q ↔ Q (zI s0) sh pp mm := s_ret cM_round_282 rfl
theorem cAM_see : ∀ q ∈ zT236, zCode 236 q.1 = some q.2 := zAll (mid := 236) rfl (by decide +kernel)
theorem cAM_see_0 : ∀ q ∈ zT236_0, zCode 236 q.1 = some q.2 := fun q h => cAM_see q (List.mem_append_left _ h)
theorem cAM_see_1 : ∀ q ∈ zT236_1, zCode 236 q.1 = some q.2 := fun q h => cAM_see q (List.mem_append_right _ (List.mem_append_left _ h))
theorem cAM_see_2 : ∀ q ∈ zT236_2, zCode 236 q.1 = some q.2 := fun q h => cAM_see q (List.mem_append_right _ (List.mem_append_right _ (List.mem_append_left _ h)))
theorem cAM_see_3 : ∀ q ∈ zT236_3, zCode 236 q.1 = some q.2 := fun q h => cAM_see q (List.mem_append_right _ (List.mem_append_right _ (List.mem_append_right _ (List.mem_append_left _ h))))
theorem cAM_see_4 : ∀ q ∈ zT236_4, zCode 236 q.1 = some q.2 := fun q h => cAM_see q (List.mem_append_right _ (List.mem_append_right _ (List.mem_append_right _ (List.mem_append_right _ h))))
theorem cM_see_0 : zCode 236 0 = some (.iload_n 1, 1, 0, 0, 0, 0, 15) := cAM_see_0 _ (List.mem_of_getElem? (i := 0) rfl)
theorem cM_see_1 : zCode 236 1 = some (.iload_n 2, 2, 0, 0, 0, 0, 15) := cAM_see_0 _ (List.mem_of_getElem? (i := 1) rfl)
theorem cM_see_2 : zCode 236 2 = some (.invokestatic 274, 5, 174, 2, 2, 12, 15) := cAM_see_0 _ (List.mem_of_getElem? (i := 2) rfl)
theorem cM_see_5 : zCode 236 5 = some (.ifCond .eq 15, 8, 20, 0, 0, 0, 15) := cAM_see_0 _ (List.mem_of_getElem? (i := 3) rfl)
theorem cM_see_8 : zCode 236 8 = some (.iload_n 3, 9, 0, 0, 0, 0, 15) := cAM_see_0 _ (List.mem_of_getElem? (i := 4) rfl)
theorem cM_see_9 : zCode 236 9 = some (.i2l, 10, 0, 0, 0, 0, 15) := cAM_see_0 _ (List.mem_of_getElem? (i := 5) rfl)
theorem cM_see_10 : zCode 236 10 = some (.ldc2_w 353, 13, 0, 0, 1614, (-1), 15) := cAM_see_0 _ (List.mem_of_getElem? (i := 6) rfl)
theorem cM_see_13 : zCode 236 13 = some (.lconst 1, 14, 0, 0, 0, 0, 15) := cAM_see_0 _ (List.mem_of_getElem? (i := 7) rfl)
theorem cM_see_14 : zCode 236 14 = some (.invokestatic 121, 17, 151, 3, 6, 12, 15) := cAM_see_0 _ (List.mem_of_getElem? (i := 8) rfl)
theorem cM_see_17 : zCode 236 17 = some (.ifCond .ne 10, 20, 27, 0, 0, 0, 15) := cAM_see_0 _ (List.mem_of_getElem? (i := 9) rfl)
theorem cM_see_20 : zCode 236 20 = some (.aload_n 0, 21, 0, 0, 0, 0, 1) := cAM_see_0 _ (List.mem_of_getElem? (i := 10) rfl)
theorem cM_see_21 : zCode 236 21 = some (.bipush (-10), 23, 0, 0, 0, 0, 0) := cAM_see_0 _ (List.mem_of_getElem? (i := 11) rfl)
theorem cM_see_23 : zCode 236 23 = some (.invokevirtual 132, 26, 152, 1, 2, 12, 0) := cAM_see_0 _ (List.mem_of_getElem? (i := 12) rfl)
theorem cM_see_26 : zCode 236 26 = some (.ireturn, 27, 0, 0, 0, 0, 0) := cAM_see_0 _ (List.mem_of_getElem? (i := 13) rfl)
theorem cM_see_27 : zCode 236 27 = some (.sipush 573, 30, 0, 0, 0, 0, 15) := cAM_see_0 _ (List.mem_of_getElem? (i := 14) rfl)
theorem cM_see_30 : zCode 236 30 = some (.bipush 24, 32, 0, 0, 0, 0, 15) := cAM_see_0 _ (List.mem_of_getElem? (i := 15) rfl)
theorem cM_see_32 : zCode 236 32 = some (.iload_n 2, 33, 0, 0, 0, 0, 15) := cAM_see_1 _ (List.mem_of_getElem? (i := 0) rfl)
theorem cM_see_33 : zCode 236 33 = some (.imul, 34, 0, 0, 0, 0, 11) := cAM_see_1 _ (List.mem_of_getElem? (i := 1) rfl)
theorem cM_see_34 : zCode 236 34 = some (.iadd, 35, 0, 0, 0, 0, 11) := cAM_see_1 _ (List.mem_of_getElem? (i := 2) rfl)
theorem cM_see_35 : zCode 236 35 = some (.iload_n 1, 36, 0, 0, 0, 0, 11) := cAM_see_1 _ (List.mem_of_getElem? (i := 3) rfl)
theorem cM_see_36 : zCode 236 36 = some (.iadd, 37, 0, 0, 0, 0, 9) := cAM_see_1 _ (List.mem_of_getElem? (i := 4) rfl)
theorem cM_see_37 : zCode 236 37 = some (.istore 4, 39, 0, 0, 0, 0, 9) := cAM_see_1 _ (List.mem_of_getElem? (i := 5) rfl)
theorem cM_see_39 : zCode 236 39 = some (.aload_n 0, 40, 0, 0, 0, 0, 25) := cAM_see_1 _ (List.mem_of_getElem? (i := 6) rfl)
theorem cM_see_40 : zCode 236 40 = some (.getfield 7, 43, 12, 0, 2, 1209, 25) := cAM_see_1 _ (List.mem_of_getElem? (i := 7) rfl)
theorem cM_see_43 : zCode 236 43 = some (.iload 4, 45, 0, 0, 0, 0, 25) := cAM_see_1 _ (List.mem_of_getElem? (i := 8) rfl)
theorem cM_see_45 : zCode 236 45 = some (.iaload, 46, 0, 0, 0, 0, 25) := cAM_see_1 _ (List.mem_of_getElem? (i := 9) rfl)
theorem cM_see_46 : zCode 236 46 = some (.istore 5, 48, 0, 0, 0, 0, 25) := cAM_see_1 _ (List.mem_of_getElem? (i := 10) rfl)
theorem cM_see_48 : zCode 236 48 = some (.iload 5, 50, 0, 0, 0, 0, 57) := cAM_see_1 _ (List.mem_of_getElem? (i := 11) rfl)
theorem cM_see_50 : zCode 236 50 = some (.iconst (-1), 51, 0, 0, 0, 0, 57) := cAM_see_1 _ (List.mem_of_getElem? (i := 12) rfl)
theorem cM_see_51 : zCode 236 51 = some (.if_icmp .ne 23, 54, 74, 0, 0, 0, 57) := cAM_see_1 _ (List.mem_of_getElem? (i := 13) rfl)
theorem cM_see_54 : zCode 236 54 = some (.iload_n 3, 55, 0, 0, 0, 0, 57) := cAM_see_1 _ (List.mem_of_getElem? (i := 14) rfl)
theorem cM_see_55 : zCode 236 55 = some (.iconst (-1), 56, 0, 0, 0, 0, 57) := cAM_see_1 _ (List.mem_of_getElem? (i := 15) rfl)
theorem cM_see_56 : zCode 236 56 = some (.if_icmp .eq 18, 59, 74, 0, 0, 0, 57) := cAM_see_2 _ (List.mem_of_getElem? (i := 0) rfl)
theorem cM_see_59 : zCode 236 59 = some (.aload_n 0, 60, 0, 0, 0, 0, 57) := cAM_see_2 _ (List.mem_of_getElem? (i := 1) rfl)
theorem cM_see_60 : zCode 236 60 = some (.iconst 4, 61, 0, 0, 0, 0, 57) := cAM_see_2 _ (List.mem_of_getElem? (i := 2) rfl)
theorem cM_see_61 : zCode 236 61 = some (.invokevirtual 288, 64, 169, 1, 2, 12, 57) := cAM_see_2 _ (List.mem_of_getElem? (i := 3) rfl)
theorem cM_see_64 : zCode 236 64 = some (.bipush 60, 66, 0, 0, 0, 0, 57) := cAM_see_2 _ (List.mem_of_getElem? (i := 4) rfl)
theorem cM_see_66 : zCode 236 66 = some (.if_icmp .ne 8, 69, 74, 0, 0, 0, 57) := cAM_see_2 _ (List.mem_of_getElem? (i := 5) rfl)
theorem cM_see_69 : zCode 236 69 = some (.aload_n 0, 70, 0, 0, 0, 0, 1) := cAM_see_2 _ (List.mem_of_getElem? (i := 6) rfl)
theorem cM_see_70 : zCode 236 70 = some (.invokevirtual 154, 73, 154, 0, 1, 12, 0) := cAM_see_2 _ (List.mem_of_getElem? (i := 7) rfl)
theorem cM_see_73 : zCode 236 73 = some (.ireturn, 74, 0, 0, 0, 0, 0) := cAM_see_2 _ (List.mem_of_getElem? (i := 8) rfl)
theorem cM_see_74 : zCode 236 74 = some (.aload_n 0, 75, 0, 0, 0, 0, 57) := cAM_see_2 _ (List.mem_of_getElem? (i := 9) rfl)
theorem cM_see_75 : zCode 236 75 = some (.getfield 7, 78, 12, 0, 2, 1209, 57) := cAM_see_2 _ (List.mem_of_getElem? (i := 10) rfl)
theorem cM_see_78 : zCode 236 78 = some (.sipush 985, 81, 0, 0, 0, 0, 57) := cAM_see_2 _ (List.mem_of_getElem? (i := 11) rfl)
theorem cM_see_81 : zCode 236 81 = some (.dup2, 82, 0, 0, 0, 0, 57) := cAM_see_2 _ (List.mem_of_getElem? (i := 12) rfl)
theorem cM_see_82 : zCode 236 82 = some (.iaload, 83, 0, 0, 0, 0, 57) := cAM_see_2 _ (List.mem_of_getElem? (i := 13) rfl)
theorem cM_see_83 : zCode 236 83 = some (.iload_n 3, 84, 0, 0, 0, 0, 57) := cAM_see_2 _ (List.mem_of_getElem? (i := 14) rfl)
theorem cM_see_84 : zCode 236 84 = some (.iconst (-1), 85, 0, 0, 0, 0, 57) := cAM_see_2 _ (List.mem_of_getElem? (i := 15) rfl)
theorem cM_see_85 : zCode 236 85 = some (.if_icmp .ne 7, 88, 92, 0, 0, 0, 57) := cAM_see_3 _ (List.mem_of_getElem? (i := 0) rfl)
theorem cM_see_88 : zCode 236 88 = some (.iconst 0, 89, 0, 0, 0, 0, 57) := cAM_see_3 _ (List.mem_of_getElem? (i := 1) rfl)
theorem cM_see_89 : zCode 236 89 = some (.goto 4, 92, 93, 0, 0, 0, 57) := cAM_see_3 _ (List.mem_of_getElem? (i := 2) rfl)
theorem cM_see_92 : zCode 236 92 = some (.iconst 1, 93, 0, 0, 0, 0, 57) := cAM_see_3 _ (List.mem_of_getElem? (i := 3) rfl)
theorem cM_see_93 : zCode 236 93 = some (.iload 5, 95, 0, 0, 0, 0, 57) := cAM_see_3 _ (List.mem_of_getElem? (i := 4) rfl)
theorem cM_see_95 : zCode 236 95 = some (.iconst (-1), 96, 0, 0, 0, 0, 57) := cAM_see_3 _ (List.mem_of_getElem? (i := 5) rfl)
theorem cM_see_96 : zCode 236 96 = some (.if_icmp .ne 7, 99, 103, 0, 0, 0, 57) := cAM_see_3 _ (List.mem_of_getElem? (i := 6) rfl)
theorem cM_see_99 : zCode 236 99 = some (.iconst 0, 100, 0, 0, 0, 0, 57) := cAM_see_3 _ (List.mem_of_getElem? (i := 7) rfl)
theorem cM_see_100 : zCode 236 100 = some (.goto 4, 103, 104, 0, 0, 0, 57) := cAM_see_3 _ (List.mem_of_getElem? (i := 8) rfl)
theorem cM_see_103 : zCode 236 103 = some (.iconst 1, 104, 0, 0, 0, 0, 57) := cAM_see_3 _ (List.mem_of_getElem? (i := 9) rfl)
theorem cM_see_104 : zCode 236 104 = some (.isub, 105, 0, 0, 0, 0, 57) := cAM_see_3 _ (List.mem_of_getElem? (i := 10) rfl)
theorem cM_see_105 : zCode 236 105 = some (.iadd, 106, 0, 0, 0, 0, 57) := cAM_see_3 _ (List.mem_of_getElem? (i := 11) rfl)
theorem cM_see_106 : zCode 236 106 = some (.iastore, 107, 0, 0, 0, 0, 57) := cAM_see_3 _ (List.mem_of_getElem? (i := 12) rfl)
theorem cM_see_107 : zCode 236 107 = some (.aload_n 0, 108, 0, 0, 0, 0, 57) := cAM_see_3 _ (List.mem_of_getElem? (i := 13) rfl)
theorem cM_see_108 : zCode 236 108 = some (.getfield 7, 111, 12, 0, 2, 1209, 56) := cAM_see_3 _ (List.mem_of_getElem? (i := 14) rfl)
theorem cM_see_111 : zCode 236 111 = some (.iload 4, 113, 0, 0, 0, 0, 56) := cAM_see_3 _ (List.mem_of_getElem? (i := 15) rfl)
theorem cM_see_113 : zCode 236 113 = some (.iload_n 3, 114, 0, 0, 0, 0, 40) := cAM_see_4 _ (List.mem_of_getElem? (i := 0) rfl)
theorem cM_see_114 : zCode 236 114 = some (.iastore, 115, 0, 0, 0, 0, 32) := cAM_see_4 _ (List.mem_of_getElem? (i := 1) rfl)
theorem cM_see_115 : zCode 236 115 = some (.iload 5, 117, 0, 0, 0, 0, 32) := cAM_see_4 _ (List.mem_of_getElem? (i := 2) rfl)
theorem cM_see_117 : zCode 236 117 = some (.ireturn, 118, 0, 0, 0, 0, 0) := cAM_see_4 _ (List.mem_of_getElem? (i := 3) rfl)
theorem rM_see_0 {a0 : Nat} {a1 a2 a3 : Int} {u4 u5 : zV} : zS 236 0 [zR a0, zI a1, zI a2, zI a3, u4, u5] [] sh pp mm Q ↔ zS 236 1 [zR a0, zI a1, zI a2, zI a3, zU, zU] [zI a1] sh pp mm Q := s_go cM_see_0 cM_see_1 rfl rfl
theorem rM_see_1 {a0 : Nat} {a1 a2 a3 s0 : Int} {u4 u5 : zV} : zS 236 1 [zR a0, zI a1, zI a2, zI a3, u4, u5] [zI s0] sh pp mm Q ↔ zS 236 2 [zR a0, zI a1, zI a2, zI a3, zU, zU] [zI a2, zI s0] sh pp mm Q := s_go cM_see_1 cM_see_2 rfl rfl
theorem rM_see_2 {a0 : Nat} {a1 a2 a3 s0 s1 : Int} {u4 u5 : zV} : zS 236 2 [zR a0, zI a1, zI a2, zI a3, u4, u5] [zI s0, zI s1] sh pp mm Q ↔ zS 174 0 [zI s1, zI s0] [] sh pp mm (fun v sh pp mm => zS 236 5 [zR a0, zI a1, zI a2, zI a3, zU, zU] (zPush v []) sh pp mm Q) := s_call cM_see_2 cM_see_5 rfl rfl
theorem rM_see_5 {a0 : Nat} {a1 a2 a3 s0 : Int} {u4 u5 : zV} : zS 236 5 [zR a0, zI a1, zI a2, zI a3, u4, u5] [zI s0] sh pp mm Q ↔ (s0 = 0 → zS 236 20 [zR a0, zU, zU, zU, zU, zU] [] sh pp mm Q) ∧ (¬ s0 = 0 → zS 236 8 [zR a0, zI a1, zI a2, zI a3, zU, zU] [] sh pp mm Q) := s_if cM_see_5 cM_see_20 cM_see_8 rfl rfl rfl
theorem rM_see_8 {a0 : Nat} {a1 a2 a3 : Int} {u4 u5 : zV} : zS 236 8 [zR a0, zI a1, zI a2, zI a3, u4, u5] [] sh pp mm Q ↔ zS 236 9 [zR a0, zI a1, zI a2, zI a3, zU, zU] [zI a3] sh pp mm Q := s_go cM_see_8 cM_see_9 rfl rfl
theorem rM_see_9 {a0 : Nat} {a1 a2 a3 s0 : Int} {u4 u5 : zV} : zS 236 9 [zR a0, zI a1, zI a2, zI a3, u4, u5] [zI s0] sh pp mm Q ↔ zS 236 10 [zR a0, zI a1, zI a2, zI a3, zU, zU] [zL s0] sh pp mm Q := s_go cM_see_9 cM_see_10 rfl rfl
theorem rM_see_10 {a0 : Nat} {a1 a2 a3 s0 : Int} {u4 u5 : zV} : zS 236 10 [zR a0, zI a1, zI a2, zI a3, u4, u5] [zL s0] sh pp mm Q ↔ zS 236 13 [zR a0, zI a1, zI a2, zI a3, zU, zU] [zL (-1), zL s0] sh pp mm Q := s_go cM_see_10 cM_see_13 rfl rfl
theorem rM_see_13 {a0 : Nat} {a1 a2 a3 s0 s1 : Int} {u4 u5 : zV} : zS 236 13 [zR a0, zI a1, zI a2, zI a3, u4, u5] [zL s0, zL s1] sh pp mm Q ↔ zS 236 14 [zR a0, zI a1, zI a2, zI a3, zU, zU] [zL 1, zL s0, zL s1] sh pp mm Q := s_go cM_see_13 cM_see_14 rfl rfl
theorem rM_see_14 {a0 : Nat} {a1 a2 a3 s0 s1 s2 : Int} {u4 u5 : zV} : zS 236 14 [zR a0, zI a1, zI a2, zI a3, u4, u5] [zL s0, zL s1, zL s2] sh pp mm Q ↔ zS 151 0 [zL s2, zU, zL s1, zU, zL s0, zU] [] sh pp mm (fun v sh pp mm => zS 236 17 [zR a0, zI a1, zI a2, zI a3, zU, zU] (zPush v []) sh pp mm Q) := s_call cM_see_14 cM_see_17 rfl rfl
theorem rM_see_17 {a0 : Nat} {a1 a2 a3 s0 : Int} {u4 u5 : zV} : zS 236 17 [zR a0, zI a1, zI a2, zI a3, u4, u5] [zI s0] sh pp mm Q ↔ (s0 = 0 → zS 236 20 [zR a0, zU, zU, zU, zU, zU] [] sh pp mm Q) ∧ (¬ s0 = 0 → zS 236 27 [zR a0, zI a1, zI a2, zI a3, zU, zU] [] sh pp mm Q) := s_ifn cM_see_17 cM_see_20 cM_see_27 rfl rfl rfl
theorem rM_see_20 {a0 : Nat} {u1 u2 u3 u4 u5 : zV} : zS 236 20 [zR a0, u1, u2, u3, u4, u5] [] sh pp mm Q ↔ zS 236 21 [zU, zU, zU, zU, zU, zU] [zR a0] sh pp mm Q := s_go cM_see_20 cM_see_21 rfl rfl
theorem rM_see_21 {s0 : Nat} {u0 u1 u2 u3 u4 u5 : zV} : zS 236 21 [u0, u1, u2, u3, u4, u5] [zR s0] sh pp mm Q ↔ zS 236 23 [zU, zU, zU, zU, zU, zU] [zI (-10), zR s0] sh pp mm Q := s_go cM_see_21 cM_see_23 rfl rfl
theorem rM_see_23 {s1 : Nat} {s0 : Int} {u0 u1 u2 u3 u4 u5 : zV} (hk : zKd sh s1 = 12) : zS 236 23 [u0, u1, u2, u3, u4, u5] [zI s0, zR s1] sh pp mm Q ↔ zS 152 0 [zR s1, zI s0] [] sh pp mm (fun v sh pp mm => zS 236 26 [zU, zU, zU, zU, zU, zU] (zPush v []) sh pp mm Q) := s_call cM_see_23 cM_see_26 ((if_pos hk).trans rfl) rfl
theorem rM_see_26 {s0 : Int} {u0 u1 u2 u3 u4 u5 : zV} : zS 236 26 [u0, u1, u2, u3, u4, u5] [zI s0] sh pp mm Q ↔ Q (zI s0) sh pp mm := s_ret cM_see_26 rfl
theorem rM_see_27 {a0 : Nat} {a1 a2 a3 : Int} {u4 u5 : zV} : zS 236 27 [zR a0, zI a1, zI a2, zI a3, u4, u5] [] sh pp mm Q ↔ zS 236 30 [zR a0, zI a1, zI a2, zI a3, zU, zU] [zI 573] sh pp mm Q := s_go cM_see_27 cM_see_30 rfl rfl
theorem rM_see_30 {a0 : Nat} {a1 a2 a3 s0 : Int} {u4 u5 : zV} : zS 236 30 [zR a0, zI a1, zI a2, zI a3, u4, u5] [zI s0] sh pp mm Q ↔ zS 236 32 [zR a0, zI a1, zI a2, zI a3, zU, zU] [zI 24, zI s0] sh pp mm Q := s_go cM_see_30 cM_see_32 rfl rfl
theorem rM_see_32 {a0 : Nat} {a1 a2 a3 s0 s1 : Int} {u4 u5 : zV} : zS 236 32 [zR a0, zI a1, zI a2, zI a3, u4, u5] [zI s0, zI s1] sh pp mm Q ↔ zS 236 33 [zR a0, zI a1, zU, zI a3, zU, zU] [zI a2, zI s0, zI s1] sh pp mm Q := s_go cM_see_32 cM_see_33 rfl rfl
theorem rM_see_33 {a0 : Nat} {a1 a3 s0 s1 s2 : Int} {u2 u4 u5 : zV} : zS 236 33 [zR a0, zI a1, u2, zI a3, u4, u5] [zI s0, zI s1, zI s2] sh pp mm Q ↔ zS 236 34 [zR a0, zI a1, zU, zI a3, zU, zU] [zI (zw32 (s1 * s0)), zI s2] sh pp mm Q := s_go cM_see_33 cM_see_34 rfl rfl
theorem rM_see_34 {a0 : Nat} {a1 a3 s0 s1 : Int} {u2 u4 u5 : zV} : zS 236 34 [zR a0, zI a1, u2, zI a3, u4, u5] [zI s0, zI s1] sh pp mm Q ↔ zS 236 35 [zR a0, zI a1, zU, zI a3, zU, zU] [zI (zw32 (s1 + s0))] sh pp mm Q := s_go cM_see_34 cM_see_35 rfl rfl
theorem rM_see_35 {a0 : Nat} {a1 a3 s0 : Int} {u2 u4 u5 : zV} : zS 236 35 [zR a0, zI a1, u2, zI a3, u4, u5] [zI s0] sh pp mm Q ↔ zS 236 36 [zR a0, zU, zU, zI a3, zU, zU] [zI a1, zI s0] sh pp mm Q := s_go cM_see_35 cM_see_36 rfl rfl
theorem rM_see_36 {a0 : Nat} {a3 s0 s1 : Int} {u1 u2 u4 u5 : zV} : zS 236 36 [zR a0, u1, u2, zI a3, u4, u5] [zI s0, zI s1] sh pp mm Q ↔ zS 236 37 [zR a0, zU, zU, zI a3, zU, zU] [zI (zw32 (s1 + s0))] sh pp mm Q := s_go cM_see_36 cM_see_37 rfl rfl
theorem rM_see_37 {a0 : Nat} {a3 s0 : Int} {u1 u2 u4 u5 : zV} : zS 236 37 [zR a0, u1, u2, zI a3, u4, u5] [zI s0] sh pp mm Q ↔ zS 236 39 [zR a0, zU, zU, zI a3, zI s0, zU] [] sh pp mm Q := s_go cM_see_37 cM_see_39 rfl rfl
theorem rM_see_39 {a0 : Nat} {a3 a4 : Int} {u1 u2 u5 : zV} : zS 236 39 [zR a0, u1, u2, zI a3, zI a4, u5] [] sh pp mm Q ↔ zS 236 40 [zR a0, zU, zU, zI a3, zI a4, zU] [zR a0] sh pp mm Q := s_go cM_see_39 cM_see_40 rfl rfl
theorem rM_see_40 {a0 s0 : Nat} {a3 a4 : Int} {u1 u2 u5 : zV} (hk : zKd sh s0 = 12) : zS 236 40 [zR a0, u1, u2, zI a3, zI a4, u5] [zR s0] sh pp mm Q ↔ zS 236 43 [zR a0, zU, zU, zI a3, zI a4, zU] [zR (pp s0 0)] sh pp mm Q := s_go cM_see_40 cM_see_43 (if_pos hk) rfl
theorem rM_see_43 {a0 s0 : Nat} {a3 a4 : Int} {u1 u2 u5 : zV} : zS 236 43 [zR a0, u1, u2, zI a3, zI a4, u5] [zR s0] sh pp mm Q ↔ zS 236 45 [zR a0, zU, zU, zI a3, zI a4, zU] [zI a4, zR s0] sh pp mm Q := s_go cM_see_43 cM_see_45 rfl rfl
theorem rM_see_45 {a0 s1 : Nat} {a3 a4 s0 : Int} {u1 u2 u5 : zV} (hk : zKd sh s1 = 20 ∨ zKd sh s1 = 30) (h0 : 0 ≤ s0) (h1 : s0 < zLn sh s1) : zS 236 45 [zR a0, u1, u2, zI a3, zI a4, u5] [zI s0, zR s1] sh pp mm Q ↔ zS 236 46 [zR a0, zU, zU, zI a3, zI a4, zU] [zI (mm s1 s0)] sh pp mm Q := s_go cM_see_45 cM_see_46 (if_pos ⟨hk, h0, h1⟩) rfl
theorem rM_see_46 {a0 : Nat} {a3 a4 s0 : Int} {u1 u2 u5 : zV} : zS 236 46 [zR a0, u1, u2, zI a3, zI a4, u5] [zI s0] sh pp mm Q ↔ zS 236 48 [zR a0, zU, zU, zI a3, zI a4, zI s0] [] sh pp mm Q := s_go cM_see_46 cM_see_48 rfl rfl
theorem rM_see_48 {a0 : Nat} {a3 a4 a5 : Int} {u1 u2 : zV} : zS 236 48 [zR a0, u1, u2, zI a3, zI a4, zI a5] [] sh pp mm Q ↔ zS 236 50 [zR a0, zU, zU, zI a3, zI a4, zI a5] [zI a5] sh pp mm Q := s_go cM_see_48 cM_see_50 rfl rfl
theorem rM_see_50 {a0 : Nat} {a3 a4 a5 s0 : Int} {u1 u2 : zV} : zS 236 50 [zR a0, u1, u2, zI a3, zI a4, zI a5] [zI s0] sh pp mm Q ↔ zS 236 51 [zR a0, zU, zU, zI a3, zI a4, zI a5] [zI (-1), zI s0] sh pp mm Q := s_go cM_see_50 cM_see_51 rfl rfl
theorem rM_see_51 {a0 : Nat} {a3 a4 a5 s0 s1 : Int} {u1 u2 : zV} : zS 236 51 [zR a0, u1, u2, zI a3, zI a4, zI a5] [zI s0, zI s1] sh pp mm Q ↔ (s1 = s0 → zS 236 54 [zR a0, zU, zU, zI a3, zI a4, zI a5] [] sh pp mm Q) ∧ (¬ s1 = s0 → zS 236 74 [zR a0, zU, zU, zI a3, zI a4, zI a5] [] sh pp mm Q) := s_ifn cM_see_51 cM_see_54 cM_see_74 rfl rfl rfl
theorem rM_see_54 {a0 : Nat} {a3 a4 a5 : Int} {u1 u2 : zV} : zS 236 54 [zR a0, u1, u2, zI a3, zI a4, zI a5] [] sh pp mm Q ↔ zS 236 55 [zR a0, zU, zU, zI a3, zI a4, zI a5] [zI a3] sh pp mm Q := s_go cM_see_54 cM_see_55 rfl rfl
theorem rM_see_55 {a0 : Nat} {a3 a4 a5 s0 : Int} {u1 u2 : zV} : zS 236 55 [zR a0, u1, u2, zI a3, zI a4, zI a5] [zI s0] sh pp mm Q ↔ zS 236 56 [zR a0, zU, zU, zI a3, zI a4, zI a5] [zI (-1), zI s0] sh pp mm Q := s_go cM_see_55 cM_see_56 rfl rfl
theorem rM_see_56 {a0 : Nat} {a3 a4 a5 s0 s1 : Int} {u1 u2 : zV} : zS 236 56 [zR a0, u1, u2, zI a3, zI a4, zI a5] [zI s0, zI s1] sh pp mm Q ↔ (s1 = s0 → zS 236 74 [zR a0, zU, zU, zI a3, zI a4, zI a5] [] sh pp mm Q) ∧ (¬ s1 = s0 → zS 236 59 [zR a0, zU, zU, zI a3, zI a4, zI a5] [] sh pp mm Q) := s_if cM_see_56 cM_see_74 cM_see_59 rfl rfl rfl
theorem rM_see_59 {a0 : Nat} {a3 a4 a5 : Int} {u1 u2 : zV} : zS 236 59 [zR a0, u1, u2, zI a3, zI a4, zI a5] [] sh pp mm Q ↔ zS 236 60 [zR a0, zU, zU, zI a3, zI a4, zI a5] [zR a0] sh pp mm Q := s_go cM_see_59 cM_see_60 rfl rfl
theorem rM_see_60 {a0 s0 : Nat} {a3 a4 a5 : Int} {u1 u2 : zV} : zS 236 60 [zR a0, u1, u2, zI a3, zI a4, zI a5] [zR s0] sh pp mm Q ↔ zS 236 61 [zR a0, zU, zU, zI a3, zI a4, zI a5] [zI 4, zR s0] sh pp mm Q := s_go cM_see_60 cM_see_61 rfl rfl
theorem rM_see_61 {a0 s1 : Nat} {a3 a4 a5 s0 : Int} {u1 u2 : zV} (hk : zKd sh s1 = 12) : zS 236 61 [zR a0, u1, u2, zI a3, zI a4, zI a5] [zI s0, zR s1] sh pp mm Q ↔ zS 169 0 [zR s1, zI s0] [] sh pp mm (fun v sh pp mm => zS 236 64 [zR a0, zU, zU, zI a3, zI a4, zI a5] (zPush v []) sh pp mm Q) := s_call cM_see_61 cM_see_64 ((if_pos hk).trans rfl) rfl
theorem rM_see_64 {a0 : Nat} {a3 a4 a5 s0 : Int} {u1 u2 : zV} : zS 236 64 [zR a0, u1, u2, zI a3, zI a4, zI a5] [zI s0] sh pp mm Q ↔ zS 236 66 [zR a0, zU, zU, zI a3, zI a4, zI a5] [zI 60, zI s0] sh pp mm Q := s_go cM_see_64 cM_see_66 rfl rfl
theorem rM_see_66 {a0 : Nat} {a3 a4 a5 s0 s1 : Int} {u1 u2 : zV} : zS 236 66 [zR a0, u1, u2, zI a3, zI a4, zI a5] [zI s0, zI s1] sh pp mm Q ↔ (s1 = s0 → zS 236 69 [zR a0, zU, zU, zU, zU, zU] [] sh pp mm Q) ∧ (¬ s1 = s0 → zS 236 74 [zR a0, zU, zU, zI a3, zI a4, zI a5] [] sh pp mm Q) := s_ifn cM_see_66 cM_see_69 cM_see_74 rfl rfl rfl
theorem rM_see_69 {a0 : Nat} {u1 u2 u3 u4 u5 : zV} : zS 236 69 [zR a0, u1, u2, u3, u4, u5] [] sh pp mm Q ↔ zS 236 70 [zU, zU, zU, zU, zU, zU] [zR a0] sh pp mm Q := s_go cM_see_69 cM_see_70 rfl rfl
theorem rM_see_70 {s0 : Nat} {u0 u1 u2 u3 u4 u5 : zV} (hk : zKd sh s0 = 12) : zS 236 70 [u0, u1, u2, u3, u4, u5] [zR s0] sh pp mm Q ↔ zS 154 0 [zR s0] [] sh pp mm (fun v sh pp mm => zS 236 73 [zU, zU, zU, zU, zU, zU] (zPush v []) sh pp mm Q) := s_call cM_see_70 cM_see_73 ((if_pos hk).trans rfl) rfl
theorem rM_see_73 {s0 : Int} {u0 u1 u2 u3 u4 u5 : zV} : zS 236 73 [u0, u1, u2, u3, u4, u5] [zI s0] sh pp mm Q ↔ Q (zI s0) sh pp mm := s_ret cM_see_73 rfl
theorem rM_see_74 {a0 : Nat} {a3 a4 a5 : Int} {u1 u2 : zV} : zS 236 74 [zR a0, u1, u2, zI a3, zI a4, zI a5] [] sh pp mm Q ↔ zS 236 75 [zR a0, zU, zU, zI a3, zI a4, zI a5] [zR a0] sh pp mm Q := s_go cM_see_74 cM_see_75 rfl rfl
theorem rM_see_75 {a0 s0 : Nat} {a3 a4 a5 : Int} {u1 u2 : zV} (hk : zKd sh s0 = 12) : zS 236 75 [zR a0, u1, u2, zI a3, zI a4, zI a5] [zR s0] sh pp mm Q ↔ zS 236 78 [zR a0, zU, zU, zI a3, zI a4, zI a5] [zR (pp s0 0)] sh pp mm Q := s_go cM_see_75 cM_see_78 (if_pos hk) rfl
theorem rM_see_78 {a0 s0 : Nat} {a3 a4 a5 : Int} {u1 u2 : zV} : zS 236 78 [zR a0, u1, u2, zI a3, zI a4, zI a5] [zR s0] sh pp mm Q ↔ zS 236 81 [zR a0, zU, zU, zI a3, zI a4, zI a5] [zI 985, zR s0] sh pp mm Q := s_go cM_see_78 cM_see_81 rfl rfl
theorem rM_see_81 {a0 s1 : Nat} {a3 a4 a5 s0 : Int} {u1 u2 : zV} : zS 236 81 [zR a0, u1, u2, zI a3, zI a4, zI a5] [zI s0, zR s1] sh pp mm Q ↔ zS 236 82 [zR a0, zU, zU, zI a3, zI a4, zI a5] [zI s0, zR s1, zI s0, zR s1] sh pp mm Q := s_go cM_see_81 cM_see_82 rfl rfl
theorem rM_see_82 {a0 s1 s3 : Nat} {a3 a4 a5 s0 s2 : Int} {u1 u2 : zV} (hk : zKd sh s1 = 20 ∨ zKd sh s1 = 30) (h0 : 0 ≤ s0) (h1 : s0 < zLn sh s1) : zS 236 82 [zR a0, u1, u2, zI a3, zI a4, zI a5] [zI s0, zR s1, zI s2, zR s3] sh pp mm Q ↔ zS 236 83 [zR a0, zU, zU, zI a3, zI a4, zI a5] [zI (mm s1 s0), zI s2, zR s3] sh pp mm Q := s_go cM_see_82 cM_see_83 (if_pos ⟨hk, h0, h1⟩) rfl
theorem rM_see_83 {a0 s2 : Nat} {a3 a4 a5 s0 s1 : Int} {u1 u2 : zV} : zS 236 83 [zR a0, u1, u2, zI a3, zI a4, zI a5] [zI s0, zI s1, zR s2] sh pp mm Q ↔ zS 236 84 [zR a0, zU, zU, zI a3, zI a4, zI a5] [zI a3, zI s0, zI s1, zR s2] sh pp mm Q := s_go cM_see_83 cM_see_84 rfl rfl
theorem rM_see_84 {a0 s3 : Nat} {a3 a4 a5 s0 s1 s2 : Int} {u1 u2 : zV} : zS 236 84 [zR a0, u1, u2, zI a3, zI a4, zI a5] [zI s0, zI s1, zI s2, zR s3] sh pp mm Q ↔ zS 236 85 [zR a0, zU, zU, zI a3, zI a4, zI a5] [zI (-1), zI s0, zI s1, zI s2, zR s3] sh pp mm Q := s_go cM_see_84 cM_see_85 rfl rfl
theorem rM_see_85 {a0 s4 : Nat} {a3 a4 a5 s0 s1 s2 s3 : Int} {u1 u2 : zV} : zS 236 85 [zR a0, u1, u2, zI a3, zI a4, zI a5] [zI s0, zI s1, zI s2, zI s3, zR s4] sh pp mm Q ↔ (s1 = s0 → zS 236 88 [zR a0, zU, zU, zI a3, zI a4, zI a5] [zI s2, zI s3, zR s4] sh pp mm Q) ∧ (¬ s1 = s0 → zS 236 92 [zR a0, zU, zU, zI a3, zI a4, zI a5] [zI s2, zI s3, zR s4] sh pp mm Q) := s_ifn cM_see_85 cM_see_88 cM_see_92 rfl rfl rfl
theorem rM_see_88 {a0 s2 : Nat} {a3 a4 a5 s0 s1 : Int} {u1 u2 : zV} : zS 236 88 [zR a0, u1, u2, zI a3, zI a4, zI a5] [zI s0, zI s1, zR s2] sh pp mm Q ↔ zS 236 89 [zR a0, zU, zU, zI a3, zI a4, zI a5] [zI 0, zI s0, zI s1, zR s2] sh pp mm Q := s_go cM_see_88 cM_see_89 rfl rfl
theorem rM_see_89 {a0 s3 : Nat} {a3 a4 a5 s0 s1 s2 : Int} {u1 u2 : zV} : zS 236 89 [zR a0, u1, u2, zI a3, zI a4, zI a5] [zI s0, zI s1, zI s2, zR s3] sh pp mm Q ↔ zS 236 93 [zR a0, zU, zU, zI a3, zI a4, zI a5] [zI s0, zI s1, zI s2, zR s3] sh pp mm Q := s_go cM_see_89 cM_see_93 rfl rfl
theorem rM_see_92 {a0 s2 : Nat} {a3 a4 a5 s0 s1 : Int} {u1 u2 : zV} : zS 236 92 [zR a0, u1, u2, zI a3, zI a4, zI a5] [zI s0, zI s1, zR s2] sh pp mm Q ↔ zS 236 93 [zR a0, zU, zU, zI a3, zI a4, zI a5] [zI 1, zI s0, zI s1, zR s2] sh pp mm Q := s_go cM_see_92 cM_see_93 rfl rfl
theorem rM_see_93 {a0 s3 : Nat} {a3 a4 a5 s0 s1 s2 : Int} {u1 u2 : zV} : zS 236 93 [zR a0, u1, u2, zI a3, zI a4, zI a5] [zI s0, zI s1, zI s2, zR s3] sh pp mm Q ↔ zS 236 95 [zR a0, zU, zU, zI a3, zI a4, zI a5] [zI a5, zI s0, zI s1, zI s2, zR s3] sh pp mm Q := s_go cM_see_93 cM_see_95 rfl rfl
theorem rM_see_95 {a0 s4 : Nat} {a3 a4 a5 s0 s1 s2 s3 : Int} {u1 u2 : zV} : zS 236 95 [zR a0, u1, u2, zI a3, zI a4, zI a5] [zI s0, zI s1, zI s2, zI s3, zR s4] sh pp mm Q ↔ zS 236 96 [zR a0, zU, zU, zI a3, zI a4, zI a5] [zI (-1), zI s0, zI s1, zI s2, zI s3, zR s4] sh pp mm Q := s_go cM_see_95 cM_see_96 rfl rfl
theorem rM_see_96 {a0 s5 : Nat} {a3 a4 a5 s0 s1 s2 s3 s4 : Int} {u1 u2 : zV} : zS 236 96 [zR a0, u1, u2, zI a3, zI a4, zI a5] [zI s0, zI s1, zI s2, zI s3, zI s4, zR s5] sh pp mm Q ↔ (s1 = s0 → zS 236 99 [zR a0, zU, zU, zI a3, zI a4, zI a5] [zI s2, zI s3, zI s4, zR s5] sh pp mm Q) ∧ (¬ s1 = s0 → zS 236 103 [zR a0, zU, zU, zI a3, zI a4, zI a5] [zI s2, zI s3, zI s4, zR s5] sh pp mm Q) := s_ifn cM_see_96 cM_see_99 cM_see_103 rfl rfl rfl
theorem rM_see_99 {a0 s3 : Nat} {a3 a4 a5 s0 s1 s2 : Int} {u1 u2 : zV} : zS 236 99 [zR a0, u1, u2, zI a3, zI a4, zI a5] [zI s0, zI s1, zI s2, zR s3] sh pp mm Q ↔ zS 236 100 [zR a0, zU, zU, zI a3, zI a4, zI a5] [zI 0, zI s0, zI s1, zI s2, zR s3] sh pp mm Q := s_go cM_see_99 cM_see_100 rfl rfl
theorem rM_see_100 {a0 s4 : Nat} {a3 a4 a5 s0 s1 s2 s3 : Int} {u1 u2 : zV} : zS 236 100 [zR a0, u1, u2, zI a3, zI a4, zI a5] [zI s0, zI s1, zI s2, zI s3, zR s4] sh pp mm Q ↔ zS 236 104 [zR a0, zU, zU, zI a3, zI a4, zI a5] [zI s0, zI s1, zI s2, zI s3, zR s4] sh pp mm Q := s_go cM_see_100 cM_see_104 rfl rfl
theorem rM_see_103 {a0 s3 : Nat} {a3 a4 a5 s0 s1 s2 : Int} {u1 u2 : zV} : zS 236 103 [zR a0, u1, u2, zI a3, zI a4, zI a5] [zI s0, zI s1, zI s2, zR s3] sh pp mm Q ↔ zS 236 104 [zR a0, zU, zU, zI a3, zI a4, zI a5] [zI 1, zI s0, zI s1, zI s2, zR s3] sh pp mm Q := s_go cM_see_103 cM_see_104 rfl rfl
theorem rM_see_104 {a0 s4 : Nat} {a3 a4 a5 s0 s1 s2 s3 : Int} {u1 u2 : zV} : zS 236 104 [zR a0, u1, u2, zI a3, zI a4, zI a5] [zI s0, zI s1, zI s2, zI s3, zR s4] sh pp mm Q ↔ zS 236 105 [zR a0, zU, zU, zI a3, zI a4, zI a5] [zI (zw32 (s1 - s0)), zI s2, zI s3, zR s4] sh pp mm Q := s_go cM_see_104 cM_see_105 rfl rfl
theorem rM_see_105 {a0 s3 : Nat} {a3 a4 a5 s0 s1 s2 : Int} {u1 u2 : zV} : zS 236 105 [zR a0, u1, u2, zI a3, zI a4, zI a5] [zI s0, zI s1, zI s2, zR s3] sh pp mm Q ↔ zS 236 106 [zR a0, zU, zU, zI a3, zI a4, zI a5] [zI (zw32 (s1 + s0)), zI s2, zR s3] sh pp mm Q := s_go cM_see_105 cM_see_106 rfl rfl
theorem rM_see_106 {a0 s2 : Nat} {a3 a4 a5 s0 s1 : Int} {u1 u2 : zV} (hk : zKd sh s2 = 20) (h0 : 0 ≤ s1) (h1 : s1 < zLn sh s2) : zS 236 106 [zR a0, u1, u2, zI a3, zI a4, zI a5] [zI s0, zI s1, zR s2] sh pp mm Q ↔ zS 236 107 [zR a0, zU, zU, zI a3, zI a4, zI a5] [] sh pp (zupd mm s2 s1 s0) Q := s_go cM_see_106 cM_see_107 (if_pos ⟨hk, h0, h1, fun h => absurd h (by decide)⟩) rfl
theorem rM_see_107 {a0 : Nat} {a3 a4 a5 : Int} {u1 u2 : zV} : zS 236 107 [zR a0, u1, u2, zI a3, zI a4, zI a5] [] sh pp mm Q ↔ zS 236 108 [zU, zU, zU, zI a3, zI a4, zI a5] [zR a0] sh pp mm Q := s_go cM_see_107 cM_see_108 rfl rfl
theorem rM_see_108 {s0 : Nat} {a3 a4 a5 : Int} {u0 u1 u2 : zV} (hk : zKd sh s0 = 12) : zS 236 108 [u0, u1, u2, zI a3, zI a4, zI a5] [zR s0] sh pp mm Q ↔ zS 236 111 [zU, zU, zU, zI a3, zI a4, zI a5] [zR (pp s0 0)] sh pp mm Q := s_go cM_see_108 cM_see_111 (if_pos hk) rfl
theorem rM_see_111 {s0 : Nat} {a3 a4 a5 : Int} {u0 u1 u2 : zV} : zS 236 111 [u0, u1, u2, zI a3, zI a4, zI a5] [zR s0] sh pp mm Q ↔ zS 236 113 [zU, zU, zU, zI a3, zU, zI a5] [zI a4, zR s0] sh pp mm Q := s_go cM_see_111 cM_see_113 rfl rfl
theorem rM_see_113 {s1 : Nat} {a3 a5 s0 : Int} {u0 u1 u2 u4 : zV} : zS 236 113 [u0, u1, u2, zI a3, u4, zI a5] [zI s0, zR s1] sh pp mm Q ↔ zS 236 114 [zU, zU, zU, zU, zU, zI a5] [zI a3, zI s0, zR s1] sh pp mm Q := s_go cM_see_113 cM_see_114 rfl rfl
theorem rM_see_114 {s2 : Nat} {a5 s0 s1 : Int} {u0 u1 u2 u3 u4 : zV} (hk : zKd sh s2 = 20) (h0 : 0 ≤ s1) (h1 : s1 < zLn sh s2) : zS 236 114 [u0, u1, u2, u3, u4, zI a5] [zI s0, zI s1, zR s2] sh pp mm Q ↔ zS 236 115 [zU, zU, zU, zU, zU, zI a5] [] sh pp (zupd mm s2 s1 s0) Q := s_go cM_see_114 cM_see_115 (if_pos ⟨hk, h0, h1, fun h => absurd h (by decide)⟩) rfl
theorem rM_see_115 {a5 : Int} {u0 u1 u2 u3 u4 : zV} : zS 236 115 [u0, u1, u2, u3, u4, zI a5] [] sh pp mm Q ↔ zS 236 117 [zU, zU, zU, zU, zU, zU] [zI a5] sh pp mm Q := s_go cM_see_115 cM_see_117 rfl rfl
theorem rM_see_117 {s0 : Int} {u0 u1 u2 u3 u4 u5 : zV} : zS 236 117 [u0, u1, u2, u3, u4, u5] [zI s0] sh pp mm Q ↔ Q (zI s0) sh pp mm := s_ret cM_see_117 rfl
end
