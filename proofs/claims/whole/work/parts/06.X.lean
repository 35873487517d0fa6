/-! rules of the small machine at each place of the code, by program: X_init, X_put, X_type, X_clear, X_fault, X_draws, X_cell, X_point, X_same, X_quickest, X_wish, X_forget, X_right, X_corner, X_edge, X_unnet, X_odd, X_once, X_trail, X_starts, X_bends, X_again, X_round, X_see, X_odds, X_shaken, X_before, X_test, X_span, X_sign, X_limb, X_image, X_from, X_status, X_count, X_digest, X_refuse, X_isWithin, X_isProgram, X_isKnob, X_isCell, X_cellAt, X_isShakenOff, X_slackFor, X_outdateProgram, X_outdateDrawings, X_drawingOf, X_weigh -/
section
variable {sh : zSh} {pp : zPp} {mm : zMm} {Q : zV → zSh → zPp → zMm → Prop}
theorem cAX_init : ∀ q ∈ zT102, zCode 102 q.1 = some q.2 := zAll (mid := 102) rfl (by decide +kernel)
theorem cAX_init_0 : ∀ q ∈ zT102_0, zCode 102 q.1 = some q.2 := fun q h => cAX_init q (List.mem_append_left _ h)
theorem cAX_init_1 : ∀ q ∈ zT102_1, zCode 102 q.1 = some q.2 := fun q h => cAX_init q (List.mem_append_right _ (List.mem_append_left _ h))
theorem cAX_init_2 : ∀ q ∈ zT102_2, zCode 102 q.1 = some q.2 := fun q h => cAX_init q (List.mem_append_right _ (List.mem_append_right _ (List.mem_append_left _ h)))
theorem cAX_init_3 : ∀ q ∈ zT102_3, zCode 102 q.1 = some q.2 := fun q h => cAX_init q (List.mem_append_right _ (List.mem_append_right _ (List.mem_append_right _ (List.mem_append_left _ h))))
theorem cAX_init_4 : ∀ q ∈ zT102_4, zCode 102 q.1 = some q.2 := fun q h => cAX_init q (List.mem_append_right _ (List.mem_append_right _ (List.mem_append_right _ (List.mem_append_right _ h))))
theorem cX_init_0 : zCode 102 0 = some (.aload_n 0, 1, 0, 0, 0, 0, 1) := cAX_init_0 _ (List.mem_of_getElem? (i := 0) rfl)
theorem cX_init_1 : zCode 102 1 = some (.invokespecial 1, 4, 0, 78, 0, 121, 1) := cAX_init_0 _ (List.mem_of_getElem? (i := 1) rfl)
theorem cX_init_4 : zCode 102 4 = some (.aload_n 0, 5, 0, 0, 0, 0, 1) := cAX_init_0 _ (List.mem_of_getElem? (i := 2) rfl)
theorem cX_init_5 : zCode 102 5 = some (.new 7, 8, 9, 8, 124, 0, 1) := cAX_init_0 _ (List.mem_of_getElem? (i := 3) rfl)
theorem cX_init_8 : zCode 102 8 = some (.dup, 9, 0, 0, 0, 0, 1) := cAX_init_0 _ (List.mem_of_getElem? (i := 4) rfl)
theorem cX_init_9 : zCode 102 9 = some (.invokespecial 9, 12, 91, 0, 2, 9, 1) := cAX_init_0 _ (List.mem_of_getElem? (i := 5) rfl)
theorem cX_init_12 : zCode 102 12 = some (.putfield 10, 15, 11, 0, 2, 506, 1) := cAX_init_0 _ (List.mem_of_getElem? (i := 6) rfl)
theorem cX_init_15 : zCode 102 15 = some (.aload_n 0, 16, 0, 0, 0, 0, 1) := cAX_init_0 _ (List.mem_of_getElem? (i := 7) rfl)
theorem cX_init_16 : zCode 102 16 = some (.iconst 2, 17, 0, 0, 0, 0, 1) := cAX_init_0 _ (List.mem_of_getElem? (i := 8) rfl)
theorem cX_init_17 : zCode 102 17 = some (.anewarray 7, 20, 25, 0, 124, 0, 1) := cAX_init_0 _ (List.mem_of_getElem? (i := 9) rfl)
theorem cX_init_20 : zCode 102 20 = some (.putfield 16, 23, 11, 1, 2, 507, 1) := cAX_init_0 _ (List.mem_of_getElem? (i := 10) rfl)
theorem cX_init_23 : zCode 102 23 = some (.aload_n 0, 24, 0, 0, 0, 0, 1) := cAX_init_0 _ (List.mem_of_getElem? (i := 11) rfl)
theorem cX_init_24 : zCode 102 24 = some (.iconst 3, 25, 0, 0, 0, 0, 1) := cAX_init_0 _ (List.mem_of_getElem? (i := 12) rfl)
theorem cX_init_25 : zCode 102 25 = some (.newarray .int, 27, 20, 0, 0, 0, 1) := cAX_init_0 _ (List.mem_of_getElem? (i := 13) rfl)
theorem cX_init_27 : zCode 102 27 = some (.putfield 20, 30, 11, 2, 2, 508, 1) := cAX_init_0 _ (List.mem_of_getElem? (i := 14) rfl)
theorem cX_init_30 : zCode 102 30 = some (.aload_n 0, 31, 0, 0, 0, 0, 1) := cAX_init_0 _ (List.mem_of_getElem? (i := 15) rfl)
theorem cX_init_31 : zCode 102 31 = some (.iconst 4, 32, 0, 0, 0, 0, 1) := cAX_init_1 _ (List.mem_of_getElem? (i := 0) rfl)
theorem cX_init_32 : zCode 102 32 = some (.anewarray 24, 35, 26, 0, 201, 0, 1) := cAX_init_1 _ (List.mem_of_getElem? (i := 1) rfl)
theorem cX_init_35 : zCode 102 35 = some (.putfield 26, 38, 11, 3, 2, 509, 1) := cAX_init_1 _ (List.mem_of_getElem? (i := 2) rfl)
theorem cX_init_38 : zCode 102 38 = some (.aload_n 0, 39, 0, 0, 0, 0, 1) := cAX_init_1 _ (List.mem_of_getElem? (i := 3) rfl)
theorem cX_init_39 : zCode 102 39 = some (.iconst 4, 40, 0, 0, 0, 0, 1) := cAX_init_1 _ (List.mem_of_getElem? (i := 4) rfl)
theorem cX_init_40 : zCode 102 40 = some (.anewarray 30, 43, 27, 0, 203, 0, 1) := cAX_init_1 _ (List.mem_of_getElem? (i := 5) rfl)
theorem cX_init_43 : zCode 102 43 = some (.putfield 32, 46, 11, 4, 2, 510, 1) := cAX_init_1 _ (List.mem_of_getElem? (i := 6) rfl)
theorem cX_init_46 : zCode 102 46 = some (.aload_n 0, 47, 0, 0, 0, 0, 1) := cAX_init_1 _ (List.mem_of_getElem? (i := 7) rfl)
theorem cX_init_47 : zCode 102 47 = some (.new 36, 50, 6, 18, 205, 0, 1) := cAX_init_1 _ (List.mem_of_getElem? (i := 8) rfl)
theorem cX_init_50 : zCode 102 50 = some (.dup, 51, 0, 0, 0, 0, 1) := cAX_init_1 _ (List.mem_of_getElem? (i := 9) rfl)
theorem cX_init_51 : zCode 102 51 = some (.invokespecial 38, 54, 53, 0, 1, 6, 1) := cAX_init_1 _ (List.mem_of_getElem? (i := 10) rfl)
theorem cX_init_54 : zCode 102 54 = some (.putfield 39, 57, 11, 5, 2, 511, 1) := cAX_init_1 _ (List.mem_of_getElem? (i := 11) rfl)
theorem cX_init_57 : zCode 102 57 = some (.aload_n 0, 58, 0, 0, 0, 0, 1) := cAX_init_1 _ (List.mem_of_getElem? (i := 12) rfl)
theorem cX_init_58 : zCode 102 58 = some (.new 43, 61, 7, 3, 275, 0, 1) := cAX_init_1 _ (List.mem_of_getElem? (i := 13) rfl)
theorem cX_init_61 : zCode 102 61 = some (.dup, 62, 0, 0, 0, 0, 1) := cAX_init_1 _ (List.mem_of_getElem? (i := 14) rfl)
theorem cX_init_62 : zCode 102 62 = some (.invokespecial 45, 65, 71, 0, 1, 7, 1) := cAX_init_1 _ (List.mem_of_getElem? (i := 15) rfl)
theorem cX_init_65 : zCode 102 65 = some (.putfield 46, 68, 11, 6, 2, 512, 1) := cAX_init_2 _ (List.mem_of_getElem? (i := 0) rfl)
theorem cX_init_68 : zCode 102 68 = some (.aload_n 0, 69, 0, 0, 0, 0, 1) := cAX_init_2 _ (List.mem_of_getElem? (i := 1) rfl)
theorem cX_init_69 : zCode 102 69 = some (.new 50, 72, 3, 6, 292, 0, 1) := cAX_init_2 _ (List.mem_of_getElem? (i := 2) rfl)
theorem cX_init_72 : zCode 102 72 = some (.dup, 73, 0, 0, 0, 0, 1) := cAX_init_2 _ (List.mem_of_getElem? (i := 3) rfl)
theorem cX_init_73 : zCode 102 73 = some (.invokespecial 52, 76, 37, 0, 1, 3, 1) := cAX_init_2 _ (List.mem_of_getElem? (i := 4) rfl)
theorem cX_init_76 : zCode 102 76 = some (.putfield 53, 79, 11, 7, 2, 513, 1) := cAX_init_2 _ (List.mem_of_getElem? (i := 5) rfl)
theorem cX_init_79 : zCode 102 79 = some (.aload_n 0, 80, 0, 0, 0, 0, 1) := cAX_init_2 _ (List.mem_of_getElem? (i := 6) rfl)
theorem cX_init_80 : zCode 102 80 = some (.new 57, 83, 2, 4, 321, 0, 1) := cAX_init_2 _ (List.mem_of_getElem? (i := 7) rfl)
theorem cX_init_83 : zCode 102 83 = some (.dup, 84, 0, 0, 0, 0, 1) := cAX_init_2 _ (List.mem_of_getElem? (i := 8) rfl)
theorem cX_init_84 : zCode 102 84 = some (.invokespecial 59, 87, 30, 0, 1, 2, 1) := cAX_init_2 _ (List.mem_of_getElem? (i := 9) rfl)
theorem cX_init_87 : zCode 102 87 = some (.putfield 60, 90, 11, 8, 2, 514, 1) := cAX_init_2 _ (List.mem_of_getElem? (i := 10) rfl)
theorem cX_init_90 : zCode 102 90 = some (.iconst 0, 91, 0, 0, 0, 0, 1) := cAX_init_2 _ (List.mem_of_getElem? (i := 11) rfl)
theorem cX_init_91 : zCode 102 91 = some (.istore_n 1, 92, 0, 0, 0, 0, 1) := cAX_init_2 _ (List.mem_of_getElem? (i := 12) rfl)
theorem cX_init_92 : zCode 102 92 = some (.iload_n 1, 93, 0, 0, 0, 0, 3) := cAX_init_2 _ (List.mem_of_getElem? (i := 13) rfl)
theorem cX_init_93 : zCode 102 93 = some (.iconst 4, 94, 0, 0, 0, 0, 3) := cAX_init_2 _ (List.mem_of_getElem? (i := 14) rfl)
theorem cX_init_94 : zCode 102 94 = some (.if_icmp .ge 35, 97, 129, 0, 0, 0, 3) := cAX_init_2 _ (List.mem_of_getElem? (i := 15) rfl)
theorem cX_init_97 : zCode 102 97 = some (.aload_n 0, 98, 0, 0, 0, 0, 3) := cAX_init_3 _ (List.mem_of_getElem? (i := 0) rfl)
theorem cX_init_98 : zCode 102 98 = some (.getfield 26, 101, 11, 3, 2, 509, 3) := cAX_init_3 _ (List.mem_of_getElem? (i := 1) rfl)
theorem cX_init_101 : zCode 102 101 = some (.iload_n 1, 102, 0, 0, 0, 0, 3) := cAX_init_3 _ (List.mem_of_getElem? (i := 2) rfl)
theorem cX_init_102 : zCode 102 102 = some (.new 24, 105, 8, 14, 201, 0, 3) := cAX_init_3 _ (List.mem_of_getElem? (i := 3) rfl)
theorem cX_init_105 : zCode 102 105 = some (.dup, 106, 0, 0, 0, 0, 3) := cAX_init_3 _ (List.mem_of_getElem? (i := 4) rfl)
theorem cX_init_106 : zCode 102 106 = some (.invokespecial 64, 109, 77, 0, 1, 8, 3) := cAX_init_3 _ (List.mem_of_getElem? (i := 5) rfl)
theorem cX_init_109 : zCode 102 109 = some (.aastore, 110, 0, 0, 0, 0, 3) := cAX_init_3 _ (List.mem_of_getElem? (i := 6) rfl)
theorem cX_init_110 : zCode 102 110 = some (.aload_n 0, 111, 0, 0, 0, 0, 3) := cAX_init_3 _ (List.mem_of_getElem? (i := 7) rfl)
theorem cX_init_111 : zCode 102 111 = some (.getfield 32, 114, 11, 4, 2, 510, 3) := cAX_init_3 _ (List.mem_of_getElem? (i := 8) rfl)
theorem cX_init_114 : zCode 102 114 = some (.iload_n 1, 115, 0, 0, 0, 0, 3) := cAX_init_3 _ (List.mem_of_getElem? (i := 9) rfl)
theorem cX_init_115 : zCode 102 115 = some (.new 30, 118, 1, 12, 203, 0, 3) := cAX_init_3 _ (List.mem_of_getElem? (i := 10) rfl)
theorem cX_init_118 : zCode 102 118 = some (.dup, 119, 0, 0, 0, 0, 3) := cAX_init_3 _ (List.mem_of_getElem? (i := 11) rfl)
theorem cX_init_119 : zCode 102 119 = some (.invokespecial 65, 122, 15, 0, 1, 1, 3) := cAX_init_3 _ (List.mem_of_getElem? (i := 12) rfl)
theorem cX_init_122 : zCode 102 122 = some (.aastore, 123, 0, 0, 0, 0, 3) := cAX_init_3 _ (List.mem_of_getElem? (i := 13) rfl)
theorem cX_init_123 : zCode 102 123 = some (.iinc 1 1, 126, 0, 0, 0, 0, 3) := cAX_init_3 _ (List.mem_of_getElem? (i := 14) rfl)
theorem cX_init_126 : zCode 102 126 = some (.goto (-34), 129, 92, 0, 0, 0, 3) := cAX_init_3 _ (List.mem_of_getElem? (i := 15) rfl)
theorem cX_init_129 : zCode 102 129 = some (.return_, 130, 0, 0, 0, 0, 0) := cAX_init_4 _ (List.mem_of_getElem? (i := 0) rfl)
theorem rX_init_0 {a0 : Nat} {u1 : zV} : zS 102 0 [zR a0, u1] [] sh pp mm Q ↔ zS 102 1 [zR a0, zU] [zR a0] sh pp mm Q := s_go cX_init_0 cX_init_1 rfl rfl
theorem rX_init_1 {a0 s0 : Nat} {u1 : zV} (hr : s0 ≠ 0) (hl : s0 < sh.length) : zS 102 1 [zR a0, u1] [zR s0] sh pp mm Q ↔ zS 102 4 [zR a0, zU] [] sh pp mm Q := s_go cX_init_1 cX_init_4 (if_pos ⟨hr, hl, by decide⟩) rfl
theorem rX_init_4 {a0 : Nat} {u1 : zV} : zS 102 4 [zR a0, u1] [] sh pp mm Q ↔ zS 102 5 [zR a0, zU] [zR a0] sh pp mm Q := s_go cX_init_4 cX_init_5 rfl rfl
theorem rX_init_5 {a0 s0 : Nat} {u1 : zV} : zS 102 5 [zR a0, u1] [zR s0] sh pp mm Q ↔ zS 102 8 [zR a0, zU] [zR sh.length, zR s0] (sh ++ [(9, 8)]) (zclp pp sh.length) (zclr mm sh.length) Q := s_go cX_init_5 cX_init_8 rfl rfl
theorem rX_init_8 {a0 s0 s1 : Nat} {u1 : zV} : zS 102 8 [zR a0, u1] [zR s0, zR s1] sh pp mm Q ↔ zS 102 9 [zR a0, zU] [zR s0, zR s0, zR s1] sh pp mm Q := s_go cX_init_8 cX_init_9 rfl rfl
theorem rX_init_9 {a0 s0 s1 s2 : Nat} {u1 : zV} (hk : zKd sh s0 = 9) : zS 102 9 [zR a0, u1] [zR s0, zR s1, zR s2] sh pp mm Q ↔ zS 91 0 [zR s0, zU] [] sh pp mm (fun v sh pp mm => zS 102 12 [zR a0, zU] (zPush v [zR s1, zR s2]) sh pp mm Q) := s_call cX_init_9 cX_init_12 ((if_pos hk).trans rfl) rfl
theorem rX_init_12 {a0 s0 s1 : Nat} {u1 : zV} (hk : zKd sh s1 = 11) : zS 102 12 [zR a0, u1] [zR s0, zR s1] sh pp mm Q ↔ zS 102 15 [zR a0, zU] [] sh (zupp pp s1 0 s0) mm Q := s_go cX_init_12 cX_init_15 (if_pos ⟨hk, rfl⟩) rfl
theorem rX_init_15 {a0 : Nat} {u1 : zV} : zS 102 15 [zR a0, u1] [] sh pp mm Q ↔ zS 102 16 [zR a0, zU] [zR a0] sh pp mm Q := s_go cX_init_15 cX_init_16 rfl rfl
theorem rX_init_16 {a0 s0 : Nat} {u1 : zV} : zS 102 16 [zR a0, u1] [zR s0] sh pp mm Q ↔ zS 102 17 [zR a0, zU] [zI 2, zR s0] sh pp mm Q := s_go cX_init_16 cX_init_17 rfl rfl
theorem rX_init_17 {a0 s1 : Nat} {s0 : Int} {u1 : zV} (h0 : 0 ≤ s0) (h1 : s0 ≤ 100000) : zS 102 17 [zR a0, u1] [zI s0, zR s1] sh pp mm Q ↔ zS 102 20 [zR a0, zU] [zR sh.length, zR s1] (sh ++ [(25, s0.toNat)]) (zclp pp sh.length) (zclr mm sh.length) Q := s_go cX_init_17 cX_init_20 (if_pos ⟨h0, h1⟩) rfl
theorem rX_init_20 {a0 s0 s1 : Nat} {u1 : zV} (hk : zKd sh s1 = 11) : zS 102 20 [zR a0, u1] [zR s0, zR s1] sh pp mm Q ↔ zS 102 23 [zR a0, zU] [] sh (zupp pp s1 1 s0) mm Q := s_go cX_init_20 cX_init_23 (if_pos ⟨hk, rfl⟩) rfl
theorem rX_init_23 {a0 : Nat} {u1 : zV} : zS 102 23 [zR a0, u1] [] sh pp mm Q ↔ zS 102 24 [zR a0, zU] [zR a0] sh pp mm Q := s_go cX_init_23 cX_init_24 rfl rfl
theorem rX_init_24 {a0 s0 : Nat} {u1 : zV} : zS 102 24 [zR a0, u1] [zR s0] sh pp mm Q ↔ zS 102 25 [zR a0, zU] [zI 3, zR s0] sh pp mm Q := s_go cX_init_24 cX_init_25 rfl rfl
theorem rX_init_25 {a0 s1 : Nat} {s0 : Int} {u1 : zV} (h0 : 0 ≤ s0) (h1 : s0 ≤ 100000) : zS 102 25 [zR a0, u1] [zI s0, zR s1] sh pp mm Q ↔ zS 102 27 [zR a0, zU] [zR sh.length, zR s1] (sh ++ [(20, s0.toNat)]) (zclp pp sh.length) (zclr mm sh.length) Q := s_go cX_init_25 cX_init_27 (if_pos ⟨h0, h1⟩) rfl
theorem rX_init_27 {a0 s0 s1 : Nat} {u1 : zV} (hk : zKd sh s1 = 11) : zS 102 27 [zR a0, u1] [zR s0, zR s1] sh pp mm Q ↔ zS 102 30 [zR a0, zU] [] sh (zupp pp s1 2 s0) mm Q := s_go cX_init_27 cX_init_30 (if_pos ⟨hk, rfl⟩) rfl
theorem rX_init_30 {a0 : Nat} {u1 : zV} : zS 102 30 [zR a0, u1] [] sh pp mm Q ↔ zS 102 31 [zR a0, zU] [zR a0] sh pp mm Q := s_go cX_init_30 cX_init_31 rfl rfl
theorem rX_init_31 {a0 s0 : Nat} {u1 : zV} : zS 102 31 [zR a0, u1] [zR s0] sh pp mm Q ↔ zS 102 32 [zR a0, zU] [zI 4, zR s0] sh pp mm Q := s_go cX_init_31 cX_init_32 rfl rfl
theorem rX_init_32 {a0 s1 : Nat} {s0 : Int} {u1 : zV} (h0 : 0 ≤ s0) (h1 : s0 ≤ 100000) : zS 102 32 [zR a0, u1] [zI s0, zR s1] sh pp mm Q ↔ zS 102 35 [zR a0, zU] [zR sh.length, zR s1] (sh ++ [(26, s0.toNat)]) (zclp pp sh.length) (zclr mm sh.length) Q := s_go cX_init_32 cX_init_35 (if_pos ⟨h0, h1⟩) rfl
theorem rX_init_35 {a0 s0 s1 : Nat} {u1 : zV} (hk : zKd sh s1 = 11) : zS 102 35 [zR a0, u1] [zR s0, zR s1] sh pp mm Q ↔ zS 102 38 [zR a0, zU] [] sh (zupp pp s1 3 s0) mm Q := s_go cX_init_35 cX_init_38 (if_pos ⟨hk, rfl⟩) rfl
theorem rX_init_38 {a0 : Nat} {u1 : zV} : zS 102 38 [zR a0, u1] [] sh pp mm Q ↔ zS 102 39 [zR a0, zU] [zR a0] sh pp mm Q := s_go cX_init_38 cX_init_39 rfl rfl
theorem rX_init_39 {a0 s0 : Nat} {u1 : zV} : zS 102 39 [zR a0, u1] [zR s0] sh pp mm Q ↔ zS 102 40 [zR a0, zU] [zI 4, zR s0] sh pp mm Q := s_go cX_init_39 cX_init_40 rfl rfl
theorem rX_init_40 {a0 s1 : Nat} {s0 : Int} {u1 : zV} (h0 : 0 ≤ s0) (h1 : s0 ≤ 100000) : zS 102 40 [zR a0, u1] [zI s0, zR s1] sh pp mm Q ↔ zS 102 43 [zR a0, zU] [zR sh.length, zR s1] (sh ++ [(27, s0.toNat)]) (zclp pp sh.length) (zclr mm sh.length) Q := s_go cX_init_40 cX_init_43 (if_pos ⟨h0, h1⟩) rfl
theorem rX_init_43 {a0 s0 s1 : Nat} {u1 : zV} (hk : zKd sh s1 = 11) : zS 102 43 [zR a0, u1] [zR s0, zR s1] sh pp mm Q ↔ zS 102 46 [zR a0, zU] [] sh (zupp pp s1 4 s0) mm Q := s_go cX_init_43 cX_init_46 (if_pos ⟨hk, rfl⟩) rfl
theorem rX_init_46 {a0 : Nat} {u1 : zV} : zS 102 46 [zR a0, u1] [] sh pp mm Q ↔ zS 102 47 [zR a0, zU] [zR a0] sh pp mm Q := s_go cX_init_46 cX_init_47 rfl rfl
theorem rX_init_47 {a0 s0 : Nat} {u1 : zV} : zS 102 47 [zR a0, u1] [zR s0] sh pp mm Q ↔ zS 102 50 [zR a0, zU] [zR sh.length, zR s0] (sh ++ [(6, 18)]) (zclp pp sh.length) (zclr mm sh.length) Q := s_go cX_init_47 cX_init_50 rfl rfl
theorem rX_init_50 {a0 s0 s1 : Nat} {u1 : zV} : zS 102 50 [zR a0, u1] [zR s0, zR s1] sh pp mm Q ↔ zS 102 51 [zR a0, zU] [zR s0, zR s0, zR s1] sh pp mm Q := s_go cX_init_50 cX_init_51 rfl rfl
theorem rX_init_51 {a0 s0 s1 s2 : Nat} {u1 : zV} (hk : zKd sh s0 = 6) : zS 102 51 [zR a0, u1] [zR s0, zR s1, zR s2] sh pp mm Q ↔ zS 53 0 [zR s0] [] sh pp mm (fun v sh pp mm => zS 102 54 [zR a0, zU] (zPush v [zR s1, zR s2]) sh pp mm Q) := s_call cX_init_51 cX_init_54 ((if_pos hk).trans rfl) rfl
theorem rX_init_54 {a0 s0 s1 : Nat} {u1 : zV} (hk : zKd sh s1 = 11) : zS 102 54 [zR a0, u1] [zR s0, zR s1] sh pp mm Q ↔ zS 102 57 [zR a0, zU] [] sh (zupp pp s1 5 s0) mm Q := s_go cX_init_54 cX_init_57 (if_pos ⟨hk, rfl⟩) rfl
theorem rX_init_57 {a0 : Nat} {u1 : zV} : zS 102 57 [zR a0, u1] [] sh pp mm Q ↔ zS 102 58 [zR a0, zU] [zR a0] sh pp mm Q := s_go cX_init_57 cX_init_58 rfl rfl
theorem rX_init_58 {a0 s0 : Nat} {u1 : zV} : zS 102 58 [zR a0, u1] [zR s0] sh pp mm Q ↔ zS 102 61 [zR a0, zU] [zR sh.length, zR s0] (sh ++ [(7, 3)]) (zclp pp sh.length) (zclr mm sh.length) Q := s_go cX_init_58 cX_init_61 rfl rfl
theorem rX_init_61 {a0 s0 s1 : Nat} {u1 : zV} : zS 102 61 [zR a0, u1] [zR s0, zR s1] sh pp mm Q ↔ zS 102 62 [zR a0, zU] [zR s0, zR s0, zR s1] sh pp mm Q := s_go cX_init_61 cX_init_62 rfl rfl
theorem rX_init_62 {a0 s0 s1 s2 : Nat} {u1 : zV} (hk : zKd sh s0 = 7) : zS 102 62 [zR a0, u1] [zR s0, zR s1, zR s2] sh pp mm Q ↔ zS 71 0 [zR s0] [] sh pp mm (fun v sh pp mm => zS 102 65 [zR a0, zU] (zPush v [zR s1, zR s2]) sh pp mm Q) := s_call cX_init_62 cX_init_65 ((if_pos hk).trans rfl) rfl
theorem rX_init_65 {a0 s0 s1 : Nat} {u1 : zV} (hk : zKd sh s1 = 11) : zS 102 65 [zR a0, u1] [zR s0, zR s1] sh pp mm Q ↔ zS 102 68 [zR a0, zU] [] sh (zupp pp s1 6 s0) mm Q := s_go cX_init_65 cX_init_68 (if_pos ⟨hk, rfl⟩) rfl
theorem rX_init_68 {a0 : Nat} {u1 : zV} : zS 102 68 [zR a0, u1] [] sh pp mm Q ↔ zS 102 69 [zR a0, zU] [zR a0] sh pp mm Q := s_go cX_init_68 cX_init_69 rfl rfl
theorem rX_init_69 {a0 s0 : Nat} {u1 : zV} : zS 102 69 [zR a0, u1] [zR s0] sh pp mm Q ↔ zS 102 72 [zR a0, zU] [zR sh.length, zR s0] (sh ++ [(3, 6)]) (zclp pp sh.length) (zclr mm sh.length) Q := s_go cX_init_69 cX_init_72 rfl rfl
theorem rX_init_72 {a0 s0 s1 : Nat} {u1 : zV} : zS 102 72 [zR a0, u1] [zR s0, zR s1] sh pp mm Q ↔ zS 102 73 [zR a0, zU] [zR s0, zR s0, zR s1] sh pp mm Q := s_go cX_init_72 cX_init_73 rfl rfl
theorem rX_init_73 {a0 s0 s1 s2 : Nat} {u1 : zV} (hk : zKd sh s0 = 3) : zS 102 73 [zR a0, u1] [zR s0, zR s1, zR s2] sh pp mm Q ↔ zS 37 0 [zR s0] [] sh pp mm (fun v sh pp mm => zS 102 76 [zR a0, zU] (zPush v [zR s1, zR s2]) sh pp mm Q) := s_call cX_init_73 cX_init_76 ((if_pos hk).trans rfl) rfl
theorem rX_init_76 {a0 s0 s1 : Nat} {u1 : zV} (hk : zKd sh s1 = 11) : zS 102 76 [zR a0, u1] [zR s0, zR s1] sh pp mm Q ↔ zS 102 79 [zR a0, zU] [] sh (zupp pp s1 7 s0) mm Q := s_go cX_init_76 cX_init_79 (if_pos ⟨hk, rfl⟩) rfl
theorem rX_init_79 {a0 : Nat} {u1 : zV} : zS 102 79 [zR a0, u1] [] sh pp mm Q ↔ zS 102 80 [zR a0, zU] [zR a0] sh pp mm Q := s_go cX_init_79 cX_init_80 rfl rfl
theorem rX_init_80 {a0 s0 : Nat} {u1 : zV} : zS 102 80 [zR a0, u1] [zR s0] sh pp mm Q ↔ zS 102 83 [zR a0, zU] [zR sh.length, zR s0] (sh ++ [(2, 4)]) (zclp pp sh.length) (zclr mm sh.length) Q := s_go cX_init_80 cX_init_83 rfl rfl
theorem rX_init_83 {a0 s0 s1 : Nat} {u1 : zV} : zS 102 83 [zR a0, u1] [zR s0, zR s1] sh pp mm Q ↔ zS 102 84 [zR a0, zU] [zR s0, zR s0, zR s1] sh pp mm Q := s_go cX_init_83 cX_init_84 rfl rfl
theorem rX_init_84 {a0 s0 s1 s2 : Nat} {u1 : zV} (hk : zKd sh s0 = 2) : zS 102 84 [zR a0, u1] [zR s0, zR s1, zR s2] sh pp mm Q ↔ zS 30 0 [zR s0] [] sh pp mm (fun v sh pp mm => zS 102 87 [zR a0, zU] (zPush v [zR s1, zR s2]) sh pp mm Q) := s_call cX_init_84 cX_init_87 ((if_pos hk).trans rfl) rfl
theorem rX_init_87 {a0 s0 s1 : Nat} {u1 : zV} (hk : zKd sh s1 = 11) : zS 102 87 [zR a0, u1] [zR s0, zR s1] sh pp mm Q ↔ zS 102 90 [zR a0, zU] [] sh (zupp pp s1 8 s0) mm Q := s_go cX_init_87 cX_init_90 (if_pos ⟨hk, rfl⟩) rfl
theorem rX_init_90 {a0 : Nat} {u1 : zV} : zS 102 90 [zR a0, u1] [] sh pp mm Q ↔ zS 102 91 [zR a0, zU] [zI 0] sh pp mm Q := s_go cX_init_90 cX_init_91 rfl rfl
theorem rX_init_91 {a0 : Nat} {s0 : Int} {u1 : zV} : zS 102 91 [zR a0, u1] [zI s0] sh pp mm Q ↔ zS 102 92 [zR a0, zI s0] [] sh pp mm Q := s_go cX_init_91 cX_init_92 rfl rfl
theorem rX_init_92 {a0 : Nat} {a1 : Int} : zS 102 92 [zR a0, zI a1] [] sh pp mm Q ↔ zS 102 93 [zR a0, zI a1] [zI a1] sh pp mm Q := s_go cX_init_92 cX_init_93 rfl rfl
theorem rX_init_93 {a0 : Nat} {a1 s0 : Int} : zS 102 93 [zR a0, zI a1] [zI s0] sh pp mm Q ↔ zS 102 94 [zR a0, zI a1] [zI 4, zI s0] sh pp mm Q := s_go cX_init_93 cX_init_94 rfl rfl
theorem rX_init_94 {a0 : Nat} {a1 s0 s1 : Int} : zS 102 94 [zR a0, zI a1] [zI s0, zI s1] sh pp mm Q ↔ (s1 < s0 → zS 102 97 [zR a0, zI a1] [] sh pp mm Q) ∧ (¬ s1 < s0 → zS 102 129 [zU, zU] [] sh pp mm Q) := s_ifn cX_init_94 cX_init_97 cX_init_129 rfl rfl rfl
theorem rX_init_97 {a0 : Nat} {a1 : Int} : zS 102 97 [zR a0, zI a1] [] sh pp mm Q ↔ zS 102 98 [zR a0, zI a1] [zR a0] sh pp mm Q := s_go cX_init_97 cX_init_98 rfl rfl
theorem rX_init_98 {a0 s0 : Nat} {a1 : Int} (hk : zKd sh s0 = 11) : zS 102 98 [zR a0, zI a1] [zR s0] sh pp mm Q ↔ zS 102 101 [zR a0, zI a1] [zR (pp s0 3)] sh pp mm Q := s_go cX_init_98 cX_init_101 (if_pos hk) rfl
theorem rX_init_101 {a0 s0 : Nat} {a1 : Int} : zS 102 101 [zR a0, zI a1] [zR s0] sh pp mm Q ↔ zS 102 102 [zR a0, zI a1] [zI a1, zR s0] sh pp mm Q := s_go cX_init_101 cX_init_102 rfl rfl
theorem rX_init_102 {a0 s1 : Nat} {a1 s0 : Int} : zS 102 102 [zR a0, zI a1] [zI s0, zR s1] sh pp mm Q ↔ zS 102 105 [zR a0, zI a1] [zR sh.length, zI s0, zR s1] (sh ++ [(8, 14)]) (zclp pp sh.length) (zclr mm sh.length) Q := s_go cX_init_102 cX_init_105 rfl rfl
theorem rX_init_105 {a0 s0 s2 : Nat} {a1 s1 : Int} : zS 102 105 [zR a0, zI a1] [zR s0, zI s1, zR s2] sh pp mm Q ↔ zS 102 106 [zR a0, zI a1] [zR s0, zR s0, zI s1, zR s2] sh pp mm Q := s_go cX_init_105 cX_init_106 rfl rfl
theorem rX_init_106 {a0 s0 s1 s3 : Nat} {a1 s2 : Int} (hk : zKd sh s0 = 8) : zS 102 106 [zR a0, zI a1] [zR s0, zR s1, zI s2, zR s3] sh pp mm Q ↔ zS 77 0 [zR s0] [] sh pp mm (fun v sh pp mm => zS 102 109 [zR a0, zI a1] (zPush v [zR s1, zI s2, zR s3]) sh pp mm Q) := s_call cX_init_106 cX_init_109 ((if_pos hk).trans rfl) rfl
theorem rX_init_109 {a0 s0 s2 : Nat} {a1 s1 : Int} (hk : (zKd sh s2 = 24 ∧ zKd sh s0 = 10) ∨ (zKd sh s2 = 25 ∧ zKd sh s0 = 9) ∨ (zKd sh s2 = 26 ∧ zKd sh s0 = 8) ∨ (zKd sh s2 = 27 ∧ zKd sh s0 = 1)) (h0 : 0 ≤ s1) (h1 : s1 < zLn sh s2) : zS 102 109 [zR a0, zI a1] [zR s0, zI s1, zR s2] sh pp mm Q ↔ zS 102 110 [zR a0, zI a1] [] sh (zupp pp s2 s1 s0) mm Q := s_go cX_init_109 cX_init_110 (if_pos ⟨(zEl_st hk).1, (zEl_st hk).2, h0, h1⟩) rfl
theorem rX_init_110 {a0 : Nat} {a1 : Int} : zS 102 110 [zR a0, zI a1] [] sh pp mm Q ↔ zS 102 111 [zR a0, zI a1] [zR a0] sh pp mm Q := s_go cX_init_110 cX_init_111 rfl rfl
theorem rX_init_111 {a0 s0 : Nat} {a1 : Int} (hk : zKd sh s0 = 11) : zS 102 111 [zR a0, zI a1] [zR s0] sh pp mm Q ↔ zS 102 114 [zR a0, zI a1] [zR (pp s0 4)] sh pp mm Q := s_go cX_init_111 cX_init_114 (if_pos hk) rfl
theorem rX_init_114 {a0 s0 : Nat} {a1 : Int} : zS 102 114 [zR a0, zI a1] [zR s0] sh pp mm Q ↔ zS 102 115 [zR a0, zI a1] [zI a1, zR s0] sh pp mm Q := s_go cX_init_114 cX_init_115 rfl rfl
theorem rX_init_115 {a0 s1 : Nat} {a1 s0 : Int} : zS 102 115 [zR a0, zI a1] [zI s0, zR s1] sh pp mm Q ↔ zS 102 118 [zR a0, zI a1] [zR sh.length, zI s0, zR s1] (sh ++ [(1, 12)]) (zclp pp sh.length) (zclr mm sh.length) Q := s_go cX_init_115 cX_init_118 rfl rfl
theorem rX_init_118 {a0 s0 s2 : Nat} {a1 s1 : Int} : zS 102 118 [zR a0, zI a1] [zR s0, zI s1, zR s2] sh pp mm Q ↔ zS 102 119 [zR a0, zI a1] [zR s0, zR s0, zI s1, zR s2] sh pp mm Q := s_go cX_init_118 cX_init_119 rfl rfl
theorem rX_init_119 {a0 s0 s1 s3 : Nat} {a1 s2 : Int} (hk : zKd sh s0 = 1) : zS 102 119 [zR a0, zI a1] [zR s0, zR s1, zI s2, zR s3] sh pp mm Q ↔ zS 15 0 [zR s0] [] sh pp mm (fun v sh pp mm => zS 102 122 [zR a0, zI a1] (zPush v [zR s1, zI s2, zR s3]) sh pp mm Q) := s_call cX_init_119 cX_init_122 ((if_pos hk).trans rfl) rfl
theorem rX_init_122 {a0 s0 s2 : Nat} {a1 s1 : Int} (hk : (zKd sh s2 = 24 ∧ zKd sh s0 = 10) ∨ (zKd sh s2 = 25 ∧ zKd sh s0 = 9) ∨ (zKd sh s2 = 26 ∧ zKd sh s0 = 8) ∨ (zKd sh s2 = 27 ∧ zKd sh s0 = 1)) (h0 : 0 ≤ s1) (h1 : s1 < zLn sh s2) : zS 102 122 [zR a0, zI a1] [zR s0, zI s1, zR s2] sh pp mm Q ↔ zS 102 123 [zR a0, zI a1] [] sh (zupp pp s2 s1 s0) mm Q := s_go cX_init_122 cX_init_123 (if_pos ⟨(zEl_st hk).1, (zEl_st hk).2, h0, h1⟩) rfl
theorem rX_init_123 {a0 : Nat} {a1 : Int} : zS 102 123 [zR a0, zI a1] [] sh pp mm Q ↔ zS 102 126 [zR a0, zI (zw32 (a1 + 1))] [] sh pp mm Q := s_go cX_init_123 cX_init_126 rfl rfl
theorem rX_init_126 {a0 : Nat} {a1 : Int} : zS 102 126 [zR a0, zI a1] [] sh pp mm Q ↔ zS 102 92 [zR a0, zI a1] [] sh pp mm Q := s_go cX_init_126 cX_init_92 rfl rfl
theorem rX_init_129 {u0 u1 : zV} : zS 102 129 [u0, u1] [] sh pp mm Q ↔ Q zU sh pp mm := s_ret cX_init_129 rfl
theorem cAX_put : ∀ q ∈ zT103, zCode 103 q.1 = some q.2 := zAll (mid := 103) rfl (by decide +kernel)
theorem cAX_put_0 : ∀ q ∈ zT103_0, zCode 103 q.1 = some q.2 := fun q h => cAX_put q (List.mem_append_left _ h)
theorem cAX_put_1 : ∀ q ∈ zT103_1, zCode 103 q.1 = some q.2 := fun q h => cAX_put q (List.mem_append_right _ (List.mem_append_left _ h))
theorem cAX_put_2 : ∀ q ∈ zT103_2, zCode 103 q.1 = some q.2 := fun q h => cAX_put q (List.mem_append_right _ (List.mem_append_right _ h))
theorem cX_put_0 : zCode 103 0 = some (.iload_n 1, 1, 0, 0, 0, 0, 7) := cAX_put_0 _ (List.mem_of_getElem? (i := 0) rfl)
theorem cX_put_1 : zCode 103 1 = some (.ifCond .lt 27, 4, 28, 0, 0, 0, 7) := cAX_put_0 _ (List.mem_of_getElem? (i := 1) rfl)
theorem cX_put_4 : zCode 103 4 = some (.iload_n 1, 5, 0, 0, 0, 0, 7) := cAX_put_0 _ (List.mem_of_getElem? (i := 2) rfl)
theorem cX_put_5 : zCode 103 5 = some (.bipush 9, 7, 0, 0, 0, 0, 7) := cAX_put_0 _ (List.mem_of_getElem? (i := 3) rfl)
theorem cX_put_7 : zCode 103 7 = some (.if_icmp .ge 21, 10, 28, 0, 0, 0, 7) := cAX_put_0 _ (List.mem_of_getElem? (i := 4) rfl)
theorem cX_put_10 : zCode 103 10 = some (.iload_n 2, 11, 0, 0, 0, 0, 7) := cAX_put_0 _ (List.mem_of_getElem? (i := 5) rfl)
theorem cX_put_11 : zCode 103 11 = some (.getstatic 66, 14, 2, 538, 2, 0, 7) := cAX_put_0 _ (List.mem_of_getElem? (i := 6) rfl)
theorem cX_put_14 : zCode 103 14 = some (.iload_n 1, 15, 0, 0, 0, 0, 7) := cAX_put_0 _ (List.mem_of_getElem? (i := 7) rfl)
theorem cX_put_15 : zCode 103 15 = some (.iaload, 16, 0, 0, 0, 0, 7) := cAX_put_0 _ (List.mem_of_getElem? (i := 8) rfl)
theorem cX_put_16 : zCode 103 16 = some (.if_icmp .lt 12, 19, 28, 0, 0, 0, 7) := cAX_put_0 _ (List.mem_of_getElem? (i := 9) rfl)
theorem cX_put_19 : zCode 103 19 = some (.iload_n 2, 20, 0, 0, 0, 0, 7) := cAX_put_0 _ (List.mem_of_getElem? (i := 10) rfl)
theorem cX_put_20 : zCode 103 20 = some (.getstatic 69, 23, 3, 540, 2, 0, 7) := cAX_put_0 _ (List.mem_of_getElem? (i := 11) rfl)
theorem cX_put_23 : zCode 103 23 = some (.iload_n 1, 24, 0, 0, 0, 0, 7) := cAX_put_0 _ (List.mem_of_getElem? (i := 12) rfl)
theorem cX_put_24 : zCode 103 24 = some (.iaload, 25, 0, 0, 0, 0, 7) := cAX_put_0 _ (List.mem_of_getElem? (i := 13) rfl)
theorem cX_put_25 : zCode 103 25 = some (.if_icmp .le 11, 28, 36, 0, 0, 0, 7) := cAX_put_0 _ (List.mem_of_getElem? (i := 14) rfl)
theorem cX_put_28 : zCode 103 28 = some (.aload_n 0, 29, 0, 0, 0, 0, 1) := cAX_put_0 _ (List.mem_of_getElem? (i := 15) rfl)
theorem cX_put_29 : zCode 103 29 = some (.iconst 0, 30, 0, 0, 0, 0, 0) := cAX_put_1 _ (List.mem_of_getElem? (i := 0) rfl)
theorem cX_put_30 : zCode 103 30 = some (.bipush (-2), 32, 0, 0, 0, 0, 0) := cAX_put_1 _ (List.mem_of_getElem? (i := 1) rfl)
theorem cX_put_32 : zCode 103 32 = some (.invokevirtual 72, 35, 138, 2, 3, 11, 0) := cAX_put_1 _ (List.mem_of_getElem? (i := 2) rfl)
theorem cX_put_35 : zCode 103 35 = some (.ireturn, 36, 0, 0, 0, 0, 0) := cAX_put_1 _ (List.mem_of_getElem? (i := 3) rfl)
theorem cX_put_36 : zCode 103 36 = some (.aload_n 0, 37, 0, 0, 0, 0, 7) := cAX_put_1 _ (List.mem_of_getElem? (i := 4) rfl)
theorem cX_put_37 : zCode 103 37 = some (.getfield 10, 40, 11, 0, 2, 506, 7) := cAX_put_1 _ (List.mem_of_getElem? (i := 5) rfl)
theorem cX_put_40 : zCode 103 40 = some (.getfield 76, 43, 9, 0, 2, 165, 7) := cAX_put_1 _ (List.mem_of_getElem? (i := 6) rfl)
theorem cX_put_43 : zCode 103 43 = some (.iload_n 1, 44, 0, 0, 0, 0, 7) := cAX_put_1 _ (List.mem_of_getElem? (i := 7) rfl)
theorem cX_put_44 : zCode 103 44 = some (.iaload, 45, 0, 0, 0, 0, 7) := cAX_put_1 _ (List.mem_of_getElem? (i := 8) rfl)
theorem cX_put_45 : zCode 103 45 = some (.istore_n 3, 46, 0, 0, 0, 0, 7) := cAX_put_1 _ (List.mem_of_getElem? (i := 9) rfl)
theorem cX_put_46 : zCode 103 46 = some (.aload_n 0, 47, 0, 0, 0, 0, 15) := cAX_put_1 _ (List.mem_of_getElem? (i := 10) rfl)
theorem cX_put_47 : zCode 103 47 = some (.getfield 10, 50, 11, 0, 2, 506, 15) := cAX_put_1 _ (List.mem_of_getElem? (i := 11) rfl)
theorem cX_put_50 : zCode 103 50 = some (.getfield 76, 53, 9, 0, 2, 165, 15) := cAX_put_1 _ (List.mem_of_getElem? (i := 12) rfl)
theorem cX_put_53 : zCode 103 53 = some (.iload_n 1, 54, 0, 0, 0, 0, 15) := cAX_put_1 _ (List.mem_of_getElem? (i := 13) rfl)
theorem cX_put_54 : zCode 103 54 = some (.iload_n 2, 55, 0, 0, 0, 0, 15) := cAX_put_1 _ (List.mem_of_getElem? (i := 14) rfl)
theorem cX_put_55 : zCode 103 55 = some (.iastore, 56, 0, 0, 0, 0, 11) := cAX_put_1 _ (List.mem_of_getElem? (i := 15) rfl)
theorem cX_put_56 : zCode 103 56 = some (.iload_n 1, 57, 0, 0, 0, 0, 11) := cAX_put_2 _ (List.mem_of_getElem? (i := 0) rfl)
theorem cX_put_57 : zCode 103 57 = some (.bipush 6, 59, 0, 0, 0, 0, 11) := cAX_put_2 _ (List.mem_of_getElem? (i := 1) rfl)
theorem cX_put_59 : zCode 103 59 = some (.if_icmp .gt 7, 62, 66, 0, 0, 0, 11) := cAX_put_2 _ (List.mem_of_getElem? (i := 2) rfl)
theorem cX_put_62 : zCode 103 62 = some (.aload_n 0, 63, 0, 0, 0, 0, 11) := cAX_put_2 _ (List.mem_of_getElem? (i := 3) rfl)
theorem cX_put_63 : zCode 103 63 = some (.invokevirtual 79, 66, 147, 0, 2, 11, 11) := cAX_put_2 _ (List.mem_of_getElem? (i := 4) rfl)
theorem cX_put_66 : zCode 103 66 = some (.iload_n 1, 67, 0, 0, 0, 0, 11) := cAX_put_2 _ (List.mem_of_getElem? (i := 5) rfl)
theorem cX_put_67 : zCode 103 67 = some (.bipush 7, 69, 0, 0, 0, 0, 9) := cAX_put_2 _ (List.mem_of_getElem? (i := 6) rfl)
theorem cX_put_69 : zCode 103 69 = some (.if_icmp .ne 10, 72, 79, 0, 0, 0, 9) := cAX_put_2 _ (List.mem_of_getElem? (i := 7) rfl)
theorem cX_put_72 : zCode 103 72 = some (.aload_n 0, 73, 0, 0, 0, 0, 9) := cAX_put_2 _ (List.mem_of_getElem? (i := 8) rfl)
theorem cX_put_73 : zCode 103 73 = some (.getfield 39, 76, 11, 5, 2, 511, 8) := cAX_put_2 _ (List.mem_of_getElem? (i := 9) rfl)
theorem cX_put_76 : zCode 103 76 = some (.invokevirtual 82, 79, 54, 0, 1, 6, 8) := cAX_put_2 _ (List.mem_of_getElem? (i := 10) rfl)
theorem cX_put_79 : zCode 103 79 = some (.iload_n 3, 80, 0, 0, 0, 0, 8) := cAX_put_2 _ (List.mem_of_getElem? (i := 11) rfl)
theorem cX_put_80 : zCode 103 80 = some (.ireturn, 81, 0, 0, 0, 0, 0) := cAX_put_2 _ (List.mem_of_getElem? (i := 12) rfl)
theorem rX_put_0 {a0 : Nat} {a1 a2 : Int} {u3 : zV} : zS 103 0 [zR a0, zI a1, zI a2, u3] [] sh pp mm Q ↔ zS 103 1 [zR a0, zI a1, zI a2, zU] [zI a1] sh pp mm Q := s_go cX_put_0 cX_put_1 rfl rfl
theorem rX_put_1 {a0 : Nat} {a1 a2 s0 : Int} {u3 : zV} : zS 103 1 [zR a0, zI a1, zI a2, u3] [zI s0] sh pp mm Q ↔ (s0 < 0 → zS 103 28 [zR a0, zU, zU, zU] [] sh pp mm Q) ∧ (¬ s0 < 0 → zS 103 4 [zR a0, zI a1, zI a2, zU] [] sh pp mm Q) := s_if cX_put_1 cX_put_28 cX_put_4 rfl rfl rfl
theorem rX_put_4 {a0 : Nat} {a1 a2 : Int} {u3 : zV} : zS 103 4 [zR a0, zI a1, zI a2, u3] [] sh pp mm Q ↔ zS 103 5 [zR a0, zI a1, zI a2, zU] [zI a1] sh pp mm Q := s_go cX_put_4 cX_put_5 rfl rfl
theorem rX_put_5 {a0 : Nat} {a1 a2 s0 : Int} {u3 : zV} : zS 103 5 [zR a0, zI a1, zI a2, u3] [zI s0] sh pp mm Q ↔ zS 103 7 [zR a0, zI a1, zI a2, zU] [zI 9, zI s0] sh pp mm Q := s_go cX_put_5 cX_put_7 rfl rfl
theorem rX_put_7 {a0 : Nat} {a1 a2 s0 s1 : Int} {u3 : zV} : zS 103 7 [zR a0, zI a1, zI a2, u3] [zI s0, zI s1] sh pp mm Q ↔ (s1 < s0 → zS 103 10 [zR a0, zI a1, zI a2, zU] [] sh pp mm Q) ∧ (¬ s1 < s0 → zS 103 28 [zR a0, zU, zU, zU] [] sh pp mm Q) := s_ifn cX_put_7 cX_put_10 cX_put_28 rfl rfl rfl
theorem rX_put_10 {a0 : Nat} {a1 a2 : Int} {u3 : zV} : zS 103 10 [zR a0, zI a1, zI a2, u3] [] sh pp mm Q ↔ zS 103 11 [zR a0, zI a1, zI a2, zU] [zI a2] sh pp mm Q := s_go cX_put_10 cX_put_11 rfl rfl
theorem rX_put_11 {a0 : Nat} {a1 a2 s0 : Int} {u3 : zV} : zS 103 11 [zR a0, zI a1, zI a2, u3] [zI s0] sh pp mm Q ↔ zS 103 14 [zR a0, zI a1, zI a2, zU] [zR 2, zI s0] sh pp mm Q := s_go cX_put_11 cX_put_14 rfl rfl
theorem rX_put_14 {a0 s0 : Nat} {a1 a2 s1 : Int} {u3 : zV} : zS 103 14 [zR a0, zI a1, zI a2, u3] [zR s0, zI s1] sh pp mm Q ↔ zS 103 15 [zR a0, zI a1, zI a2, zU] [zI a1, zR s0, zI s1] sh pp mm Q := s_go cX_put_14 cX_put_15 rfl rfl
theorem rX_put_15 {a0 s1 : Nat} {a1 a2 s0 s2 : Int} {u3 : zV} (hk : zKd sh s1 = 20 ∨ zKd sh s1 = 30) (h0 : 0 ≤ s0) (h1 : s0 < zLn sh s1) : zS 103 15 [zR a0, zI a1, zI a2, u3] [zI s0, zR s1, zI s2] sh pp mm Q ↔ zS 103 16 [zR a0, zI a1, zI a2, zU] [zI (mm s1 s0), zI s2] sh pp mm Q := s_go cX_put_15 cX_put_16 (if_pos ⟨hk, h0, h1⟩) rfl
theorem rX_put_16 {a0 : Nat} {a1 a2 s0 s1 : Int} {u3 : zV} : zS 103 16 [zR a0, zI a1, zI a2, u3] [zI s0, zI s1] sh pp mm Q ↔ (s1 < s0 → zS 103 28 [zR a0, zU, zU, zU] [] sh pp mm Q) ∧ (¬ s1 < s0 → zS 103 19 [zR a0, zI a1, zI a2, zU] [] sh pp mm Q) := s_if cX_put_16 cX_put_28 cX_put_19 rfl rfl rfl
theorem rX_put_19 {a0 : Nat} {a1 a2 : Int} {u3 : zV} : zS 103 19 [zR a0, zI a1, zI a2, u3] [] sh pp mm Q ↔ zS 103 20 [zR a0, zI a1, zI a2, zU] [zI a2] sh pp mm Q := s_go cX_put_19 cX_put_20 rfl rfl
theorem rX_put_20 {a0 : Nat} {a1 a2 s0 : Int} {u3 : zV} : zS 103 20 [zR a0, zI a1, zI a2, u3] [zI s0] sh pp mm Q ↔ zS 103 23 [zR a0, zI a1, zI a2, zU] [zR 3, zI s0] sh pp mm Q := s_go cX_put_20 cX_put_23 rfl rfl
theorem rX_put_23 {a0 s0 : Nat} {a1 a2 s1 : Int} {u3 : zV} : zS 103 23 [zR a0, zI a1, zI a2, u3] [zR s0, zI s1] sh pp mm Q ↔ zS 103 24 [zR a0, zI a1, zI a2, zU] [zI a1, zR s0, zI s1] sh pp mm Q := s_go cX_put_23 cX_put_24 rfl rfl
theorem rX_put_24 {a0 s1 : Nat} {a1 a2 s0 s2 : Int} {u3 : zV} (hk : zKd sh s1 = 20 ∨ zKd sh s1 = 30) (h0 : 0 ≤ s0) (h1 : s0 < zLn sh s1) : zS 103 24 [zR a0, zI a1, zI a2, u3] [zI s0, zR s1, zI s2] sh pp mm Q ↔ zS 103 25 [zR a0, zI a1, zI a2, zU] [zI (mm s1 s0), zI s2] sh pp mm Q := s_go cX_put_24 cX_put_25 (if_pos ⟨hk, h0, h1⟩) rfl
theorem rX_put_25 {a0 : Nat} {a1 a2 s0 s1 : Int} {u3 : zV} : zS 103 25 [zR a0, zI a1, zI a2, u3] [zI s0, zI s1] sh pp mm Q ↔ (s0 < s1 → zS 103 28 [zR a0, zU, zU, zU] [] sh pp mm Q) ∧ (¬ s0 < s1 → zS 103 36 [zR a0, zI a1, zI a2, zU] [] sh pp mm Q) := s_ifn cX_put_25 cX_put_28 cX_put_36 rfl rfl rfl
theorem rX_put_28 {a0 : Nat} {u1 u2 u3 : zV} : zS 103 28 [zR a0, u1, u2, u3] [] sh pp mm Q ↔ zS 103 29 [zU, zU, zU, zU] [zR a0] sh pp mm Q := s_go cX_put_28 cX_put_29 rfl rfl
theorem rX_put_29 {s0 : Nat} {u0 u1 u2 u3 : zV} : zS 103 29 [u0, u1, u2, u3] [zR s0] sh pp mm Q ↔ zS 103 30 [zU, zU, zU, zU] [zI 0, zR s0] sh pp mm Q := s_go cX_put_29 cX_put_30 rfl rfl
theorem rX_put_30 {s1 : Nat} {s0 : Int} {u0 u1 u2 u3 : zV} : zS 103 30 [u0, u1, u2, u3] [zI s0, zR s1] sh pp mm Q ↔ zS 103 32 [zU, zU, zU, zU] [zI (-2), zI s0, zR s1] sh pp mm Q := s_go cX_put_30 cX_put_32 rfl rfl
theorem rX_put_32 {s2 : Nat} {s0 s1 : Int} {u0 u1 u2 u3 : zV} (hk : zKd sh s2 = 11) : zS 103 32 [u0, u1, u2, u3] [zI s0, zI s1, zR s2] sh pp mm Q ↔ zS 138 0 [zR s2, zI s1, zI s0] [] sh pp mm (fun v sh pp mm => zS 103 35 [zU, zU, zU, zU] (zPush v []) sh pp mm Q) := s_call cX_put_32 cX_put_35 ((if_pos hk).trans rfl) rfl
theorem rX_put_35 {s0 : Int} {u0 u1 u2 u3 : zV} : zS 103 35 [u0, u1, u2, u3] [zI s0] sh pp mm Q ↔ Q (zI s0) sh pp mm := s_ret cX_put_35 rfl
theorem rX_put_36 {a0 : Nat} {a1 a2 : Int} {u3 : zV} : zS 103 36 [zR a0, zI a1, zI a2, u3] [] sh pp mm Q ↔ zS 103 37 [zR a0, zI a1, zI a2, zU] [zR a0] sh pp mm Q := s_go cX_put_36 cX_put_37 rfl rfl
theorem rX_put_37 {a0 s0 : Nat} {a1 a2 : Int} {u3 : zV} (hk : zKd sh s0 = 11) : zS 103 37 [zR a0, zI a1, zI a2, u3] [zR s0] sh pp mm Q ↔ zS 103 40 [zR a0, zI a1, zI a2, zU] [zR (pp s0 0)] sh pp mm Q := s_go cX_put_37 cX_put_40 (if_pos hk) rfl
theorem rX_put_40 {a0 s0 : Nat} {a1 a2 : Int} {u3 : zV} (hk : zKd sh s0 = 9) : zS 103 40 [zR a0, zI a1, zI a2, u3] [zR s0] sh pp mm Q ↔ zS 103 43 [zR a0, zI a1, zI a2, zU] [zR (pp s0 0)] sh pp mm Q := s_go cX_put_40 cX_put_43 (if_pos hk) rfl
theorem rX_put_43 {a0 s0 : Nat} {a1 a2 : Int} {u3 : zV} : zS 103 43 [zR a0, zI a1, zI a2, u3] [zR s0] sh pp mm Q ↔ zS 103 44 [zR a0, zI a1, zI a2, zU] [zI a1, zR s0] sh pp mm Q := s_go cX_put_43 cX_put_44 rfl rfl
theorem rX_put_44 {a0 s1 : Nat} {a1 a2 s0 : Int} {u3 : zV} (hk : zKd sh s1 = 20 ∨ zKd sh s1 = 30) (h0 : 0 ≤ s0) (h1 : s0 < zLn sh s1) : zS 103 44 [zR a0, zI a1, zI a2, u3] [zI s0, zR s1] sh pp mm Q ↔ zS 103 45 [zR a0, zI a1, zI a2, zU] [zI (mm s1 s0)] sh pp mm Q := s_go cX_put_44 cX_put_45 (if_pos ⟨hk, h0, h1⟩) rfl
theorem rX_put_45 {a0 : Nat} {a1 a2 s0 : Int} {u3 : zV} : zS 103 45 [zR a0, zI a1, zI a2, u3] [zI s0] sh pp mm Q ↔ zS 103 46 [zR a0, zI a1, zI a2, zI s0] [] sh pp mm Q := s_go cX_put_45 cX_put_46 rfl rfl
theorem rX_put_46 {a0 : Nat} {a1 a2 a3 : Int} : zS 103 46 [zR a0, zI a1, zI a2, zI a3] [] sh pp mm Q ↔ zS 103 47 [zR a0, zI a1, zI a2, zI a3] [zR a0] sh pp mm Q := s_go cX_put_46 cX_put_47 rfl rfl
theorem rX_put_47 {a0 s0 : Nat} {a1 a2 a3 : Int} (hk : zKd sh s0 = 11) : zS 103 47 [zR a0, zI a1, zI a2, zI a3] [zR s0] sh pp mm Q ↔ zS 103 50 [zR a0, zI a1, zI a2, zI a3] [zR (pp s0 0)] sh pp mm Q := s_go cX_put_47 cX_put_50 (if_pos hk) rfl
theorem rX_put_50 {a0 s0 : Nat} {a1 a2 a3 : Int} (hk : zKd sh s0 = 9) : zS 103 50 [zR a0, zI a1, zI a2, zI a3] [zR s0] sh pp mm Q ↔ zS 103 53 [zR a0, zI a1, zI a2, zI a3] [zR (pp s0 0)] sh pp mm Q := s_go cX_put_50 cX_put_53 (if_pos hk) rfl
theorem rX_put_53 {a0 s0 : Nat} {a1 a2 a3 : Int} : zS 103 53 [zR a0, zI a1, zI a2, zI a3] [zR s0] sh pp mm Q ↔ zS 103 54 [zR a0, zI a1, zI a2, zI a3] [zI a1, zR s0] sh pp mm Q := s_go cX_put_53 cX_put_54 rfl rfl
theorem rX_put_54 {a0 s1 : Nat} {a1 a2 a3 s0 : Int} : zS 103 54 [zR a0, zI a1, zI a2, zI a3] [zI s0, zR s1] sh pp mm Q ↔ zS 103 55 [zR a0, zI a1, zU, zI a3] [zI a2, zI s0, zR s1] sh pp mm Q := s_go cX_put_54 cX_put_55 rfl rfl
theorem rX_put_55 {a0 s2 : Nat} {a1 a3 s0 s1 : Int} {u2 : zV} (hk : zKd sh s2 = 20) (h0 : 0 ≤ s1) (h1 : s1 < zLn sh s2) : zS 103 55 [zR a0, zI a1, u2, zI a3] [zI s0, zI s1, zR s2] sh pp mm Q ↔ zS 103 56 [zR a0, zI a1, zU, zI a3] [] sh pp (zupd mm s2 s1 s0) Q := s_go cX_put_55 cX_put_56 (if_pos ⟨hk, h0, h1, fun h => absurd h (by decide)⟩) rfl
theorem rX_put_56 {a0 : Nat} {a1 a3 : Int} {u2 : zV} : zS 103 56 [zR a0, zI a1, u2, zI a3] [] sh pp mm Q ↔ zS 103 57 [zR a0, zI a1, zU, zI a3] [zI a1] sh pp mm Q := s_go cX_put_56 cX_put_57 rfl rfl
theorem rX_put_57 {a0 : Nat} {a1 a3 s0 : Int} {u2 : zV} : zS 103 57 [zR a0, zI a1, u2, zI a3] [zI s0] sh pp mm Q ↔ zS 103 59 [zR a0, zI a1, zU, zI a3] [zI 6, zI s0] sh pp mm Q := s_go cX_put_57 cX_put_59 rfl rfl
theorem rX_put_59 {a0 : Nat} {a1 a3 s0 s1 : Int} {u2 : zV} : zS 103 59 [zR a0, zI a1, u2, zI a3] [zI s0, zI s1] sh pp mm Q ↔ (s0 < s1 → zS 103 66 [zR a0, zI a1, zU, zI a3] [] sh pp mm Q) ∧ (¬ s0 < s1 → zS 103 62 [zR a0, zI a1, zU, zI a3] [] sh pp mm Q) := s_if cX_put_59 cX_put_66 cX_put_62 rfl rfl rfl
theorem rX_put_62 {a0 : Nat} {a1 a3 : Int} {u2 : zV} : zS 103 62 [zR a0, zI a1, u2, zI a3] [] sh pp mm Q ↔ zS 103 63 [zR a0, zI a1, zU, zI a3] [zR a0] sh pp mm Q := s_go cX_put_62 cX_put_63 rfl rfl
theorem rX_put_63 {a0 s0 : Nat} {a1 a3 : Int} {u2 : zV} (hk : zKd sh s0 = 11) : zS 103 63 [zR a0, zI a1, u2, zI a3] [zR s0] sh pp mm Q ↔ zS 147 0 [zR s0, zU] [] sh pp mm (fun v sh pp mm => zS 103 66 [zR a0, zI a1, zU, zI a3] (zPush v []) sh pp mm Q) := s_call cX_put_63 cX_put_66 ((if_pos hk).trans rfl) rfl
theorem rX_put_66 {a0 : Nat} {a1 a3 : Int} {u2 : zV} : zS 103 66 [zR a0, zI a1, u2, zI a3] [] sh pp mm Q ↔ zS 103 67 [zR a0, zU, zU, zI a3] [zI a1] sh pp mm Q := s_go cX_put_66 cX_put_67 rfl rfl
theorem rX_put_67 {a0 : Nat} {a3 s0 : Int} {u1 u2 : zV} : zS 103 67 [zR a0, u1, u2, zI a3] [zI s0] sh pp mm Q ↔ zS 103 69 [zR a0, zU, zU, zI a3] [zI 7, zI s0] sh pp mm Q := s_go cX_put_67 cX_put_69 rfl rfl
theorem rX_put_69 {a0 : Nat} {a3 s0 s1 : Int} {u1 u2 : zV} : zS 103 69 [zR a0, u1, u2, zI a3] [zI s0, zI s1] sh pp mm Q ↔ (s1 = s0 → zS 103 72 [zR a0, zU, zU, zI a3] [] sh pp mm Q) ∧ (¬ s1 = s0 → zS 103 79 [zU, zU, zU, zI a3] [] sh pp mm Q) := s_ifn cX_put_69 cX_put_72 cX_put_79 rfl rfl rfl
theorem rX_put_72 {a0 : Nat} {a3 : Int} {u1 u2 : zV} : zS 103 72 [zR a0, u1, u2, zI a3] [] sh pp mm Q ↔ zS 103 73 [zU, zU, zU, zI a3] [zR a0] sh pp mm Q := s_go cX_put_72 cX_put_73 rfl rfl
theorem rX_put_73 {s0 : Nat} {a3 : Int} {u0 u1 u2 : zV} (hk : zKd sh s0 = 11) : zS 103 73 [u0, u1, u2, zI a3] [zR s0] sh pp mm Q ↔ zS 103 76 [zU, zU, zU, zI a3] [zR (pp s0 5)] sh pp mm Q := s_go cX_put_73 cX_put_76 (if_pos hk) rfl
theorem rX_put_76 {s0 : Nat} {a3 : Int} {u0 u1 u2 : zV} (hk : zKd sh s0 = 6) : zS 103 76 [u0, u1, u2, zI a3] [zR s0] sh pp mm Q ↔ zS 54 0 [zR s0] [] sh pp mm (fun v sh pp mm => zS 103 79 [zU, zU, zU, zI a3] (zPush v []) sh pp mm Q) := s_call cX_put_76 cX_put_79 ((if_pos hk).trans rfl) rfl
theorem rX_put_79 {a3 : Int} {u0 u1 u2 : zV} : zS 103 79 [u0, u1, u2, zI a3] [] sh pp mm Q ↔ zS 103 80 [zU, zU, zU, zU] [zI a3] sh pp mm Q := s_go cX_put_79 cX_put_80 rfl rfl
theorem rX_put_80 {s0 : Int} {u0 u1 u2 u3 : zV} : zS 103 80 [u0, u1, u2, u3] [zI s0] sh pp mm Q ↔ Q (zI s0) sh pp mm := s_ret cX_put_80 rfl
theorem cAX_type : ∀ q ∈ zT104, zCode 104 q.1 = some q.2 := zAll (mid := 104) rfl (by decide +kernel)
theorem cAX_type_0 : ∀ q ∈ zT104_0, zCode 104 q.1 = some q.2 := fun q h => cAX_type q (List.mem_append_left _ h)
theorem cAX_type_1 : ∀ q ∈ zT104_1, zCode 104 q.1 = some q.2 := fun q h => cAX_type q (List.mem_append_right _ (List.mem_append_left _ h))
theorem cAX_type_2 : ∀ q ∈ zT104_2, zCode 104 q.1 = some q.2 := fun q h => cAX_type q (List.mem_append_right _ (List.mem_append_right _ (List.mem_append_left _ h)))
theorem cAX_type_3 : ∀ q ∈ zT104_3, zCode 104 q.1 = some q.2 := fun q h => cAX_type q (List.mem_append_right _ (List.mem_append_right _ (List.mem_append_right _ h)))
theorem cX_type_0 : zCode 104 0 = some (.iload_n 1, 1, 0, 0, 0, 0, 23) := cAX_type_0 _ (List.mem_of_getElem? (i := 0) rfl)
theorem cX_type_1 : zCode 104 1 = some (.invokestatic 85, 4, 140, 1, 1, 11, 23) := cAX_type_0 _ (List.mem_of_getElem? (i := 1) rfl)
theorem cX_type_4 : zCode 104 4 = some (.ifCond .eq 16, 7, 20, 0, 0, 0, 23) := cAX_type_0 _ (List.mem_of_getElem? (i := 2) rfl)
theorem cX_type_7 : zCode 104 7 = some (.iload 4, 9, 0, 0, 0, 0, 23) := cAX_type_0 _ (List.mem_of_getElem? (i := 3) rfl)
theorem cX_type_9 : zCode 104 9 = some (.iconst 1, 10, 0, 0, 0, 0, 23) := cAX_type_0 _ (List.mem_of_getElem? (i := 4) rfl)
theorem cX_type_10 : zCode 104 10 = some (.if_icmp .lt 10, 13, 20, 0, 0, 0, 23) := cAX_type_0 _ (List.mem_of_getElem? (i := 5) rfl)
theorem cX_type_13 : zCode 104 13 = some (.iload 4, 15, 0, 0, 0, 0, 23) := cAX_type_0 _ (List.mem_of_getElem? (i := 6) rfl)
theorem cX_type_15 : zCode 104 15 = some (.bipush 8, 17, 0, 0, 0, 0, 23) := cAX_type_0 _ (List.mem_of_getElem? (i := 7) rfl)
theorem cX_type_17 : zCode 104 17 = some (.if_icmp .le 11, 20, 28, 0, 0, 0, 23) := cAX_type_0 _ (List.mem_of_getElem? (i := 8) rfl)
theorem cX_type_20 : zCode 104 20 = some (.aload_n 0, 21, 0, 0, 0, 0, 1) := cAX_type_0 _ (List.mem_of_getElem? (i := 9) rfl)
theorem cX_type_21 : zCode 104 21 = some (.iconst 0, 22, 0, 0, 0, 0, 0) := cAX_type_0 _ (List.mem_of_getElem? (i := 10) rfl)
theorem cX_type_22 : zCode 104 22 = some (.bipush (-2), 24, 0, 0, 0, 0, 0) := cAX_type_0 _ (List.mem_of_getElem? (i := 11) rfl)
theorem cX_type_24 : zCode 104 24 = some (.invokevirtual 72, 27, 138, 2, 3, 11, 0) := cAX_type_0 _ (List.mem_of_getElem? (i := 12) rfl)
theorem cX_type_27 : zCode 104 27 = some (.ireturn, 28, 0, 0, 0, 0, 0) := cAX_type_0 _ (List.mem_of_getElem? (i := 13) rfl)
theorem cX_type_28 : zCode 104 28 = some (.aload_n 0, 29, 0, 0, 0, 0, 23) := cAX_type_0 _ (List.mem_of_getElem? (i := 14) rfl)
theorem cX_type_29 : zCode 104 29 = some (.getfield 10, 32, 11, 0, 2, 506, 23) := cAX_type_0 _ (List.mem_of_getElem? (i := 15) rfl)
theorem cX_type_32 : zCode 104 32 = some (.getfield 89, 35, 9, 1, 2, 168, 23) := cAX_type_1 _ (List.mem_of_getElem? (i := 0) rfl)
theorem cX_type_35 : zCode 104 35 = some (.iload_n 1, 36, 0, 0, 0, 0, 23) := cAX_type_1 _ (List.mem_of_getElem? (i := 1) rfl)
theorem cX_type_36 : zCode 104 36 = some (.aaload, 37, 0, 0, 0, 0, 23) := cAX_type_1 _ (List.mem_of_getElem? (i := 2) rfl)
theorem cX_type_37 : zCode 104 37 = some (.astore 5, 39, 0, 0, 0, 0, 23) := cAX_type_1 _ (List.mem_of_getElem? (i := 3) rfl)
theorem cX_type_39 : zCode 104 39 = some (.aload 5, 41, 0, 0, 0, 0, 55) := cAX_type_1 _ (List.mem_of_getElem? (i := 4) rfl)
theorem cX_type_41 : zCode 104 41 = some (.getfield 93, 44, 10, 3, 0, 145, 55) := cAX_type_1 _ (List.mem_of_getElem? (i := 5) rfl)
theorem cX_type_44 : zCode 104 44 = some (.iload 4, 46, 0, 0, 0, 0, 55) := cAX_type_1 _ (List.mem_of_getElem? (i := 6) rfl)
theorem cX_type_46 : zCode 104 46 = some (.iadd, 47, 0, 0, 0, 0, 55) := cAX_type_1 _ (List.mem_of_getElem? (i := 7) rfl)
theorem cX_type_47 : zCode 104 47 = some (.bipush 120, 49, 0, 0, 0, 0, 55) := cAX_type_1 _ (List.mem_of_getElem? (i := 8) rfl)
theorem cX_type_49 : zCode 104 49 = some (.if_icmp .le 11, 52, 60, 0, 0, 0, 55) := cAX_type_1 _ (List.mem_of_getElem? (i := 9) rfl)
theorem cX_type_52 : zCode 104 52 = some (.aload_n 0, 53, 0, 0, 0, 0, 1) := cAX_type_1 _ (List.mem_of_getElem? (i := 10) rfl)
theorem cX_type_53 : zCode 104 53 = some (.iconst 2, 54, 0, 0, 0, 0, 0) := cAX_type_1 _ (List.mem_of_getElem? (i := 11) rfl)
theorem cX_type_54 : zCode 104 54 = some (.bipush (-4), 56, 0, 0, 0, 0, 0) := cAX_type_1 _ (List.mem_of_getElem? (i := 12) rfl)
theorem cX_type_56 : zCode 104 56 = some (.invokevirtual 72, 59, 138, 2, 3, 11, 0) := cAX_type_1 _ (List.mem_of_getElem? (i := 13) rfl)
theorem cX_type_59 : zCode 104 59 = some (.ireturn, 60, 0, 0, 0, 0, 0) := cAX_type_1 _ (List.mem_of_getElem? (i := 14) rfl)
theorem cX_type_60 : zCode 104 60 = some (.iload 4, 62, 0, 0, 0, 0, 55) := cAX_type_1 _ (List.mem_of_getElem? (i := 15) rfl)
theorem cX_type_62 : zCode 104 62 = some (.iconst 1, 63, 0, 0, 0, 0, 39) := cAX_type_2 _ (List.mem_of_getElem? (i := 0) rfl)
theorem cX_type_63 : zCode 104 63 = some (.isub, 64, 0, 0, 0, 0, 39) := cAX_type_2 _ (List.mem_of_getElem? (i := 1) rfl)
theorem cX_type_64 : zCode 104 64 = some (.istore 6, 66, 0, 0, 0, 0, 39) := cAX_type_2 _ (List.mem_of_getElem? (i := 2) rfl)
theorem cX_type_66 : zCode 104 66 = some (.iload 6, 68, 0, 0, 0, 0, 103) := cAX_type_2 _ (List.mem_of_getElem? (i := 3) rfl)
theorem cX_type_68 : zCode 104 68 = some (.ifCond .lt 29, 71, 97, 0, 0, 0, 103) := cAX_type_2 _ (List.mem_of_getElem? (i := 4) rfl)
theorem cX_type_71 : zCode 104 71 = some (.aload 5, 73, 0, 0, 0, 0, 103) := cAX_type_2 _ (List.mem_of_getElem? (i := 5) rfl)
theorem cX_type_73 : zCode 104 73 = some (.lload_n 2, 74, 0, 0, 0, 0, 103) := cAX_type_2 _ (List.mem_of_getElem? (i := 6) rfl)
theorem cX_type_74 : zCode 104 74 = some (.bipush 8, 76, 0, 0, 0, 0, 103) := cAX_type_2 _ (List.mem_of_getElem? (i := 7) rfl)
theorem cX_type_76 : zCode 104 76 = some (.iload 6, 78, 0, 0, 0, 0, 103) := cAX_type_2 _ (List.mem_of_getElem? (i := 8) rfl)
theorem cX_type_78 : zCode 104 78 = some (.imul, 79, 0, 0, 0, 0, 103) := cAX_type_2 _ (List.mem_of_getElem? (i := 9) rfl)
theorem cX_type_79 : zCode 104 79 = some (.lshr, 80, 0, 0, 0, 0, 103) := cAX_type_2 _ (List.mem_of_getElem? (i := 10) rfl)
theorem cX_type_80 : zCode 104 80 = some (.l2i, 81, 0, 0, 0, 0, 103) := cAX_type_2 _ (List.mem_of_getElem? (i := 11) rfl)
theorem cX_type_81 : zCode 104 81 = some (.sipush 255, 84, 0, 0, 0, 0, 103) := cAX_type_2 _ (List.mem_of_getElem? (i := 12) rfl)
theorem cX_type_84 : zCode 104 84 = some (.iand, 85, 0, 0, 0, 0, 103) := cAX_type_2 _ (List.mem_of_getElem? (i := 13) rfl)
theorem cX_type_85 : zCode 104 85 = some (.iconst 0, 86, 0, 0, 0, 0, 103) := cAX_type_2 _ (List.mem_of_getElem? (i := 14) rfl)
theorem cX_type_86 : zCode 104 86 = some (.iconst 0, 87, 0, 0, 0, 0, 103) := cAX_type_2 _ (List.mem_of_getElem? (i := 15) rfl)
theorem cX_type_87 : zCode 104 87 = some (.invokevirtual 99, 90, 98, 3, 5, 10, 103) := cAX_type_3 _ (List.mem_of_getElem? (i := 0) rfl)
theorem cX_type_90 : zCode 104 90 = some (.pop, 91, 0, 0, 0, 0, 103) := cAX_type_3 _ (List.mem_of_getElem? (i := 1) rfl)
theorem cX_type_91 : zCode 104 91 = some (.iinc 6 (-1), 94, 0, 0, 0, 0, 103) := cAX_type_3 _ (List.mem_of_getElem? (i := 2) rfl)
theorem cX_type_94 : zCode 104 94 = some (.goto (-28), 97, 66, 0, 0, 0, 103) := cAX_type_3 _ (List.mem_of_getElem? (i := 3) rfl)
theorem cX_type_97 : zCode 104 97 = some (.aload_n 0, 98, 0, 0, 0, 0, 35) := cAX_type_3 _ (List.mem_of_getElem? (i := 4) rfl)
theorem cX_type_98 : zCode 104 98 = some (.iload_n 1, 99, 0, 0, 0, 0, 34) := cAX_type_3 _ (List.mem_of_getElem? (i := 5) rfl)
theorem cX_type_99 : zCode 104 99 = some (.invokevirtual 103, 102, 146, 1, 2, 11, 32) := cAX_type_3 _ (List.mem_of_getElem? (i := 6) rfl)
theorem cX_type_102 : zCode 104 102 = some (.aload 5, 104, 0, 0, 0, 0, 32) := cAX_type_3 _ (List.mem_of_getElem? (i := 7) rfl)
theorem cX_type_104 : zCode 104 104 = some (.getfield 93, 107, 10, 3, 0, 145, 0) := cAX_type_3 _ (List.mem_of_getElem? (i := 8) rfl)
theorem cX_type_107 : zCode 104 107 = some (.ireturn, 108, 0, 0, 0, 0, 0) := cAX_type_3 _ (List.mem_of_getElem? (i := 9) rfl)
theorem rX_type_0 {a0 : Nat} {a1 a2 a4 : Int} {u3 u5 u6 : zV} : zS 104 0 [zR a0, zI a1, zL a2, u3, zI a4, u5, u6] [] sh pp mm Q ↔ zS 104 1 [zR a0, zI a1, zL a2, zU, zI a4, zU, zU] [zI a1] sh pp mm Q := s_go cX_type_0 cX_type_1 rfl rfl
theorem rX_type_1 {a0 : Nat} {a1 a2 a4 s0 : Int} {u3 u5 u6 : zV} : zS 104 1 [zR a0, zI a1, zL a2, u3, zI a4, u5, u6] [zI s0] sh pp mm Q ↔ zS 140 0 [zI s0] [] sh pp mm (fun v sh pp mm => zS 104 4 [zR a0, zI a1, zL a2, zU, zI a4, zU, zU] (zPush v []) sh pp mm Q) := s_call cX_type_1 cX_type_4 rfl rfl
theorem rX_type_4 {a0 : Nat} {a1 a2 a4 s0 : Int} {u3 u5 u6 : zV} : zS 104 4 [zR a0, zI a1, zL a2, u3, zI a4, u5, u6] [zI s0] sh pp mm Q ↔ (s0 = 0 → zS 104 20 [zR a0, zU, zU, zU, zU, zU, zU] [] sh pp mm Q) ∧ (¬ s0 = 0 → zS 104 7 [zR a0, zI a1, zL a2, zU, zI a4, zU, zU] [] sh pp mm Q) := s_if cX_type_4 cX_type_20 cX_type_7 rfl rfl rfl
theorem rX_type_7 {a0 : Nat} {a1 a2 a4 : Int} {u3 u5 u6 : zV} : zS 104 7 [zR a0, zI a1, zL a2, u3, zI a4, u5, u6] [] sh pp mm Q ↔ zS 104 9 [zR a0, zI a1, zL a2, zU, zI a4, zU, zU] [zI a4] sh pp mm Q := s_go cX_type_7 cX_type_9 rfl rfl
theorem rX_type_9 {a0 : Nat} {a1 a2 a4 s0 : Int} {u3 u5 u6 : zV} : zS 104 9 [zR a0, zI a1, zL a2, u3, zI a4, u5, u6] [zI s0] sh pp mm Q ↔ zS 104 10 [zR a0, zI a1, zL a2, zU, zI a4, zU, zU] [zI 1, zI s0] sh pp mm Q := s_go cX_type_9 cX_type_10 rfl rfl
theorem rX_type_10 {a0 : Nat} {a1 a2 a4 s0 s1 : Int} {u3 u5 u6 : zV} : zS 104 10 [zR a0, zI a1, zL a2, u3, zI a4, u5, u6] [zI s0, zI s1] sh pp mm Q ↔ (s1 < s0 → zS 104 20 [zR a0, zU, zU, zU, zU, zU, zU] [] sh pp mm Q) ∧ (¬ s1 < s0 → zS 104 13 [zR a0, zI a1, zL a2, zU, zI a4, zU, zU] [] sh pp mm Q) := s_if cX_type_10 cX_type_20 cX_type_13 rfl rfl rfl
theorem rX_type_13 {a0 : Nat} {a1 a2 a4 : Int} {u3 u5 u6 : zV} : zS 104 13 [zR a0, zI a1, zL a2, u3, zI a4, u5, u6] [] sh pp mm Q ↔ zS 104 15 [zR a0, zI a1, zL a2, zU, zI a4, zU, zU] [zI a4] sh pp mm Q := s_go cX_type_13 cX_type_15 rfl rfl
theorem rX_type_15 {a0 : Nat} {a1 a2 a4 s0 : Int} {u3 u5 u6 : zV} : zS 104 15 [zR a0, zI a1, zL a2, u3, zI a4, u5, u6] [zI s0] sh pp mm Q ↔ zS 104 17 [zR a0, zI a1, zL a2, zU, zI a4, zU, zU] [zI 8, zI s0] sh pp mm Q := s_go cX_type_15 cX_type_17 rfl rfl
theorem rX_type_17 {a0 : Nat} {a1 a2 a4 s0 s1 : Int} {u3 u5 u6 : zV} : zS 104 17 [zR a0, zI a1, zL a2, u3, zI a4, u5, u6] [zI s0, zI s1] sh pp mm Q ↔ (s0 < s1 → zS 104 20 [zR a0, zU, zU, zU, zU, zU, zU] [] sh pp mm Q) ∧ (¬ s0 < s1 → zS 104 28 [zR a0, zI a1, zL a2, zU, zI a4, zU, zU] [] sh pp mm Q) := s_ifn cX_type_17 cX_type_20 cX_type_28 rfl rfl rfl
theorem rX_type_20 {a0 : Nat} {u1 u2 u3 u4 u5 u6 : zV} : zS 104 20 [zR a0, u1, u2, u3, u4, u5, u6] [] sh pp mm Q ↔ zS 104 21 [zU, zU, zU, zU, zU, zU, zU] [zR a0] sh pp mm Q := s_go cX_type_20 cX_type_21 rfl rfl
theorem rX_type_21 {s0 : Nat} {u0 u1 u2 u3 u4 u5 u6 : zV} : zS 104 21 [u0, u1, u2, u3, u4, u5, u6] [zR s0] sh pp mm Q ↔ zS 104 22 [zU, zU, zU, zU, zU, zU, zU] [zI 0, zR s0] sh pp mm Q := s_go cX_type_21 cX_type_22 rfl rfl
theorem rX_type_22 {s1 : Nat} {s0 : Int} {u0 u1 u2 u3 u4 u5 u6 : zV} : zS 104 22 [u0, u1, u2, u3, u4, u5, u6] [zI s0, zR s1] sh pp mm Q ↔ zS 104 24 [zU, zU, zU, zU, zU, zU, zU] [zI (-2), zI s0, zR s1] sh pp mm Q := s_go cX_type_22 cX_type_24 rfl rfl
theorem rX_type_24 {s2 : Nat} {s0 s1 : Int} {u0 u1 u2 u3 u4 u5 u6 : zV} (hk : zKd sh s2 = 11) : zS 104 24 [u0, u1, u2, u3, u4, u5, u6] [zI s0, zI s1, zR s2] sh pp mm Q ↔ zS 138 0 [zR s2, zI s1, zI s0] [] sh pp mm (fun v sh pp mm => zS 104 27 [zU, zU, zU, zU, zU, zU, zU] (zPush v []) sh pp mm Q) := s_call cX_type_24 cX_type_27 ((if_pos hk).trans rfl) rfl
theorem rX_type_27 {s0 : Int} {u0 u1 u2 u3 u4 u5 u6 : zV} : zS 104 27 [u0, u1, u2, u3, u4, u5, u6] [zI s0] sh pp mm Q ↔ Q (zI s0) sh pp mm := s_ret cX_type_27 rfl
theorem rX_type_28 {a0 : Nat} {a1 a2 a4 : Int} {u3 u5 u6 : zV} : zS 104 28 [zR a0, zI a1, zL a2, u3, zI a4, u5, u6] [] sh pp mm Q ↔ zS 104 29 [zR a0, zI a1, zL a2, zU, zI a4, zU, zU] [zR a0] sh pp mm Q := s_go cX_type_28 cX_type_29 rfl rfl
theorem rX_type_29 {a0 s0 : Nat} {a1 a2 a4 : Int} {u3 u5 u6 : zV} (hk : zKd sh s0 = 11) : zS 104 29 [zR a0, zI a1, zL a2, u3, zI a4, u5, u6] [zR s0] sh pp mm Q ↔ zS 104 32 [zR a0, zI a1, zL a2, zU, zI a4, zU, zU] [zR (pp s0 0)] sh pp mm Q := s_go cX_type_29 cX_type_32 (if_pos hk) rfl
theorem rX_type_32 {a0 s0 : Nat} {a1 a2 a4 : Int} {u3 u5 u6 : zV} (hk : zKd sh s0 = 9) : zS 104 32 [zR a0, zI a1, zL a2, u3, zI a4, u5, u6] [zR s0] sh pp mm Q ↔ zS 104 35 [zR a0, zI a1, zL a2, zU, zI a4, zU, zU] [zR (pp s0 1)] sh pp mm Q := s_go cX_type_32 cX_type_35 (if_pos hk) rfl
theorem rX_type_35 {a0 s0 : Nat} {a1 a2 a4 : Int} {u3 u5 u6 : zV} : zS 104 35 [zR a0, zI a1, zL a2, u3, zI a4, u5, u6] [zR s0] sh pp mm Q ↔ zS 104 36 [zR a0, zI a1, zL a2, zU, zI a4, zU, zU] [zI a1, zR s0] sh pp mm Q := s_go cX_type_35 cX_type_36 rfl rfl
theorem rX_type_36 {a0 s1 : Nat} {a1 a2 a4 s0 : Int} {u3 u5 u6 : zV} (hk : 24 ≤ zKd sh s1) (hl : zKd sh s1 ≤ 27) (h0 : 0 ≤ s0) (h1 : s0 < zLn sh s1) : zS 104 36 [zR a0, zI a1, zL a2, u3, zI a4, u5, u6] [zI s0, zR s1] sh pp mm Q ↔ zS 104 37 [zR a0, zI a1, zL a2, zU, zI a4, zU, zU] [zR (pp s1 s0)] sh pp mm Q := s_go cX_type_36 cX_type_37 (if_pos ⟨zEl_ok hk hl, h0, h1⟩) rfl
theorem rX_type_37 {a0 s0 : Nat} {a1 a2 a4 : Int} {u3 u5 u6 : zV} : zS 104 37 [zR a0, zI a1, zL a2, u3, zI a4, u5, u6] [zR s0] sh pp mm Q ↔ zS 104 39 [zR a0, zI a1, zL a2, zU, zI a4, zR s0, zU] [] sh pp mm Q := s_go cX_type_37 cX_type_39 rfl rfl
theorem rX_type_39 {a0 a5 : Nat} {a1 a2 a4 : Int} {u3 u6 : zV} : zS 104 39 [zR a0, zI a1, zL a2, u3, zI a4, zR a5, u6] [] sh pp mm Q ↔ zS 104 41 [zR a0, zI a1, zL a2, zU, zI a4, zR a5, zU] [zR a5] sh pp mm Q := s_go cX_type_39 cX_type_41 rfl rfl
theorem rX_type_41 {a0 a5 s0 : Nat} {a1 a2 a4 : Int} {u3 u6 : zV} (hk : zKd sh s0 = 10) : zS 104 41 [zR a0, zI a1, zL a2, u3, zI a4, zR a5, u6] [zR s0] sh pp mm Q ↔ zS 104 44 [zR a0, zI a1, zL a2, zU, zI a4, zR a5, zU] [zI (mm s0 3)] sh pp mm Q := s_go cX_type_41 cX_type_44 (if_pos hk) rfl
theorem rX_type_44 {a0 a5 : Nat} {a1 a2 a4 s0 : Int} {u3 u6 : zV} : zS 104 44 [zR a0, zI a1, zL a2, u3, zI a4, zR a5, u6] [zI s0] sh pp mm Q ↔ zS 104 46 [zR a0, zI a1, zL a2, zU, zI a4, zR a5, zU] [zI a4, zI s0] sh pp mm Q := s_go cX_type_44 cX_type_46 rfl rfl
theorem rX_type_46 {a0 a5 : Nat} {a1 a2 a4 s0 s1 : Int} {u3 u6 : zV} : zS 104 46 [zR a0, zI a1, zL a2, u3, zI a4, zR a5, u6] [zI s0, zI s1] sh pp mm Q ↔ zS 104 47 [zR a0, zI a1, zL a2, zU, zI a4, zR a5, zU] [zI (zw32 (s1 + s0))] sh pp mm Q := s_go cX_type_46 cX_type_47 rfl rfl
theorem rX_type_47 {a0 a5 : Nat} {a1 a2 a4 s0 : Int} {u3 u6 : zV} : zS 104 47 [zR a0, zI a1, zL a2, u3, zI a4, zR a5, u6] [zI s0] sh pp mm Q ↔ zS 104 49 [zR a0, zI a1, zL a2, zU, zI a4, zR a5, zU] [zI 120, zI s0] sh pp mm Q := s_go cX_type_47 cX_type_49 rfl rfl
theorem rX_type_49 {a0 a5 : Nat} {a1 a2 a4 s0 s1 : Int} {u3 u6 : zV} : zS 104 49 [zR a0, zI a1, zL a2, u3, zI a4, zR a5, u6] [zI s0, zI s1] sh pp mm Q ↔ (s0 < s1 → zS 104 52 [zR a0, zU, zU, zU, zU, zU, zU] [] sh pp mm Q) ∧ (¬ s0 < s1 → zS 104 60 [zR a0, zI a1, zL a2, zU, zI a4, zR a5, zU] [] sh pp mm Q) := s_ifn cX_type_49 cX_type_52 cX_type_60 rfl rfl rfl
theorem rX_type_52 {a0 : Nat} {u1 u2 u3 u4 u5 u6 : zV} : zS 104 52 [zR a0, u1, u2, u3, u4, u5, u6] [] sh pp mm Q ↔ zS 104 53 [zU, zU, zU, zU, zU, zU, zU] [zR a0] sh pp mm Q := s_go cX_type_52 cX_type_53 rfl rfl
theorem rX_type_53 {s0 : Nat} {u0 u1 u2 u3 u4 u5 u6 : zV} : zS 104 53 [u0, u1, u2, u3, u4, u5, u6] [zR s0] sh pp mm Q ↔ zS 104 54 [zU, zU, zU, zU, zU, zU, zU] [zI 2, zR s0] sh pp mm Q := s_go cX_type_53 cX_type_54 rfl rfl
theorem rX_type_54 {s1 : Nat} {s0 : Int} {u0 u1 u2 u3 u4 u5 u6 : zV} : zS 104 54 [u0, u1, u2, u3, u4, u5, u6] [zI s0, zR s1] sh pp mm Q ↔ zS 104 56 [zU, zU, zU, zU, zU, zU, zU] [zI (-4), zI s0, zR s1] sh pp mm Q := s_go cX_type_54 cX_type_56 rfl rfl
theorem rX_type_56 {s2 : Nat} {s0 s1 : Int} {u0 u1 u2 u3 u4 u5 u6 : zV} (hk : zKd sh s2 = 11) : zS 104 56 [u0, u1, u2, u3, u4, u5, u6] [zI s0, zI s1, zR s2] sh pp mm Q ↔ zS 138 0 [zR s2, zI s1, zI s0] [] sh pp mm (fun v sh pp mm => zS 104 59 [zU, zU, zU, zU, zU, zU, zU] (zPush v []) sh pp mm Q) := s_call cX_type_56 cX_type_59 ((if_pos hk).trans rfl) rfl
theorem rX_type_59 {s0 : Int} {u0 u1 u2 u3 u4 u5 u6 : zV} : zS 104 59 [u0, u1, u2, u3, u4, u5, u6] [zI s0] sh pp mm Q ↔ Q (zI s0) sh pp mm := s_ret cX_type_59 rfl
theorem rX_type_60 {a0 a5 : Nat} {a1 a2 a4 : Int} {u3 u6 : zV} : zS 104 60 [zR a0, zI a1, zL a2, u3, zI a4, zR a5, u6] [] sh pp mm Q ↔ zS 104 62 [zR a0, zI a1, zL a2, zU, zU, zR a5, zU] [zI a4] sh pp mm Q := s_go cX_type_60 cX_type_62 rfl rfl
theorem rX_type_62 {a0 a5 : Nat} {a1 a2 s0 : Int} {u3 u4 u6 : zV} : zS 104 62 [zR a0, zI a1, zL a2, u3, u4, zR a5, u6] [zI s0] sh pp mm Q ↔ zS 104 63 [zR a0, zI a1, zL a2, zU, zU, zR a5, zU] [zI 1, zI s0] sh pp mm Q := s_go cX_type_62 cX_type_63 rfl rfl
theorem rX_type_63 {a0 a5 : Nat} {a1 a2 s0 s1 : Int} {u3 u4 u6 : zV} : zS 104 63 [zR a0, zI a1, zL a2, u3, u4, zR a5, u6] [zI s0, zI s1] sh pp mm Q ↔ zS 104 64 [zR a0, zI a1, zL a2, zU, zU, zR a5, zU] [zI (zw32 (s1 - s0))] sh pp mm Q := s_go cX_type_63 cX_type_64 rfl rfl
theorem rX_type_64 {a0 a5 : Nat} {a1 a2 s0 : Int} {u3 u4 u6 : zV} : zS 104 64 [zR a0, zI a1, zL a2, u3, u4, zR a5, u6] [zI s0] sh pp mm Q ↔ zS 104 66 [zR a0, zI a1, zL a2, zU, zU, zR a5, zI s0] [] sh pp mm Q := s_go cX_type_64 cX_type_66 rfl rfl
theorem rX_type_66 {a0 a5 : Nat} {a1 a2 a6 : Int} {u3 u4 : zV} : zS 104 66 [zR a0, zI a1, zL a2, u3, u4, zR a5, zI a6] [] sh pp mm Q ↔ zS 104 68 [zR a0, zI a1, zL a2, zU, zU, zR a5, zI a6] [zI a6] sh pp mm Q := s_go cX_type_66 cX_type_68 rfl rfl
theorem rX_type_68 {a0 a5 : Nat} {a1 a2 a6 s0 : Int} {u3 u4 : zV} : zS 104 68 [zR a0, zI a1, zL a2, u3, u4, zR a5, zI a6] [zI s0] sh pp mm Q ↔ (s0 < 0 → zS 104 97 [zR a0, zI a1, zU, zU, zU, zR a5, zU] [] sh pp mm Q) ∧ (¬ s0 < 0 → zS 104 71 [zR a0, zI a1, zL a2, zU, zU, zR a5, zI a6] [] sh pp mm Q) := s_if cX_type_68 cX_type_97 cX_type_71 rfl rfl rfl
theorem rX_type_71 {a0 a5 : Nat} {a1 a2 a6 : Int} {u3 u4 : zV} : zS 104 71 [zR a0, zI a1, zL a2, u3, u4, zR a5, zI a6] [] sh pp mm Q ↔ zS 104 73 [zR a0, zI a1, zL a2, zU, zU, zR a5, zI a6] [zR a5] sh pp mm Q := s_go cX_type_71 cX_type_73 rfl rfl
theorem rX_type_73 {a0 a5 s0 : Nat} {a1 a2 a6 : Int} {u3 u4 : zV} : zS 104 73 [zR a0, zI a1, zL a2, u3, u4, zR a5, zI a6] [zR s0] sh pp mm Q ↔ zS 104 74 [zR a0, zI a1, zL a2, zU, zU, zR a5, zI a6] [zL a2, zR s0] sh pp mm Q := s_go cX_type_73 cX_type_74 rfl rfl
theorem rX_type_74 {a0 a5 s1 : Nat} {a1 a2 a6 s0 : Int} {u3 u4 : zV} : zS 104 74 [zR a0, zI a1, zL a2, u3, u4, zR a5, zI a6] [zL s0, zR s1] sh pp mm Q ↔ zS 104 76 [zR a0, zI a1, zL a2, zU, zU, zR a5, zI a6] [zI 8, zL s0, zR s1] sh pp mm Q := s_go cX_type_74 cX_type_76 rfl rfl
theorem rX_type_76 {a0 a5 s2 : Nat} {a1 a2 a6 s0 s1 : Int} {u3 u4 : zV} : zS 104 76 [zR a0, zI a1, zL a2, u3, u4, zR a5, zI a6] [zI s0, zL s1, zR s2] sh pp mm Q ↔ zS 104 78 [zR a0, zI a1, zL a2, zU, zU, zR a5, zI a6] [zI a6, zI s0, zL s1, zR s2] sh pp mm Q := s_go cX_type_76 cX_type_78 rfl rfl
theorem rX_type_78 {a0 a5 s3 : Nat} {a1 a2 a6 s0 s1 s2 : Int} {u3 u4 : zV} : zS 104 78 [zR a0, zI a1, zL a2, u3, u4, zR a5, zI a6] [zI s0, zI s1, zL s2, zR s3] sh pp mm Q ↔ zS 104 79 [zR a0, zI a1, zL a2, zU, zU, zR a5, zI a6] [zI (zw32 (s1 * s0)), zL s2, zR s3] sh pp mm Q := s_go cX_type_78 cX_type_79 rfl rfl
theorem rX_type_79 {a0 a5 s2 : Nat} {a1 a2 a6 s0 s1 : Int} {u3 u4 : zV} : zS 104 79 [zR a0, zI a1, zL a2, u3, u4, zR a5, zI a6] [zI s0, zL s1, zR s2] sh pp mm Q ↔ zS 104 80 [zR a0, zI a1, zL a2, zU, zU, zR a5, zI a6] [zL (zlshr s1 s0), zR s2] sh pp mm Q := s_go cX_type_79 cX_type_80 rfl rfl
theorem rX_type_80 {a0 a5 s1 : Nat} {a1 a2 a6 s0 : Int} {u3 u4 : zV} : zS 104 80 [zR a0, zI a1, zL a2, u3, u4, zR a5, zI a6] [zL s0, zR s1] sh pp mm Q ↔ zS 104 81 [zR a0, zI a1, zL a2, zU, zU, zR a5, zI a6] [zI (zw32 s0), zR s1] sh pp mm Q := s_go cX_type_80 cX_type_81 rfl rfl
theorem rX_type_81 {a0 a5 s1 : Nat} {a1 a2 a6 s0 : Int} {u3 u4 : zV} : zS 104 81 [zR a0, zI a1, zL a2, u3, u4, zR a5, zI a6] [zI s0, zR s1] sh pp mm Q ↔ zS 104 84 [zR a0, zI a1, zL a2, zU, zU, zR a5, zI a6] [zI 255, zI s0, zR s1] sh pp mm Q := s_go cX_type_81 cX_type_84 rfl rfl
theorem rX_type_84 {a0 a5 s2 : Nat} {a1 a2 a6 s0 s1 : Int} {u3 u4 : zV} : zS 104 84 [zR a0, zI a1, zL a2, u3, u4, zR a5, zI a6] [zI s0, zI s1, zR s2] sh pp mm Q ↔ zS 104 85 [zR a0, zI a1, zL a2, zU, zU, zR a5, zI a6] [zI (zand s1 s0), zR s2] sh pp mm Q := s_go cX_type_84 cX_type_85 rfl rfl
theorem rX_type_85 {a0 a5 s1 : Nat} {a1 a2 a6 s0 : Int} {u3 u4 : zV} : zS 104 85 [zR a0, zI a1, zL a2, u3, u4, zR a5, zI a6] [zI s0, zR s1] sh pp mm Q ↔ zS 104 86 [zR a0, zI a1, zL a2, zU, zU, zR a5, zI a6] [zI 0, zI s0, zR s1] sh pp mm Q := s_go cX_type_85 cX_type_86 rfl rfl
theorem rX_type_86 {a0 a5 s2 : Nat} {a1 a2 a6 s0 s1 : Int} {u3 u4 : zV} : zS 104 86 [zR a0, zI a1, zL a2, u3, u4, zR a5, zI a6] [zI s0, zI s1, zR s2] sh pp mm Q ↔ zS 104 87 [zR a0, zI a1, zL a2, zU, zU, zR a5, zI a6] [zI 0, zI s0, zI s1, zR s2] sh pp mm Q := s_go cX_type_86 cX_type_87 rfl rfl
theorem rX_type_87 {a0 a5 s3 : Nat} {a1 a2 a6 s0 s1 s2 : Int} {u3 u4 : zV} (hk : zKd sh s3 = 10) : zS 104 87 [zR a0, zI a1, zL a2, u3, u4, zR a5, zI a6] [zI s0, zI s1, zI s2, zR s3] sh pp mm Q ↔ zS 98 0 [zR s3, zI s2, zI s1, zI s0, zU] [] sh pp mm (fun v sh pp mm => zS 104 90 [zR a0, zI a1, zL a2, zU, zU, zR a5, zI a6] (zPush v []) sh pp mm Q) := s_call cX_type_87 cX_type_90 ((if_pos hk).trans rfl) rfl
theorem rX_type_90 {a0 a5 : Nat} {a1 a2 a6 s0 : Int} {u3 u4 : zV} : zS 104 90 [zR a0, zI a1, zL a2, u3, u4, zR a5, zI a6] [zI s0] sh pp mm Q ↔ zS 104 91 [zR a0, zI a1, zL a2, zU, zU, zR a5, zI a6] [] sh pp mm Q := s_go cX_type_90 cX_type_91 rfl rfl
theorem rX_type_91 {a0 a5 : Nat} {a1 a2 a6 : Int} {u3 u4 : zV} : zS 104 91 [zR a0, zI a1, zL a2, u3, u4, zR a5, zI a6] [] sh pp mm Q ↔ zS 104 94 [zR a0, zI a1, zL a2, zU, zU, zR a5, zI (zw32 (a6 + (-1)))] [] sh pp mm Q := s_go cX_type_91 cX_type_94 rfl rfl
theorem rX_type_94 {a0 a5 : Nat} {a1 a2 a6 : Int} {u3 u4 : zV} : zS 104 94 [zR a0, zI a1, zL a2, u3, u4, zR a5, zI a6] [] sh pp mm Q ↔ zS 104 66 [zR a0, zI a1, zL a2, zU, zU, zR a5, zI a6] [] sh pp mm Q := s_go cX_type_94 cX_type_66 rfl rfl
theorem rX_type_97 {a0 a5 : Nat} {a1 : Int} {u2 u3 u4 u6 : zV} : zS 104 97 [zR a0, zI a1, u2, u3, u4, zR a5, u6] [] sh pp mm Q ↔ zS 104 98 [zU, zI a1, zU, zU, zU, zR a5, zU] [zR a0] sh pp mm Q := s_go cX_type_97 cX_type_98 rfl rfl
theorem rX_type_98 {a5 s0 : Nat} {a1 : Int} {u0 u2 u3 u4 u6 : zV} : zS 104 98 [u0, zI a1, u2, u3, u4, zR a5, u6] [zR s0] sh pp mm Q ↔ zS 104 99 [zU, zU, zU, zU, zU, zR a5, zU] [zI a1, zR s0] sh pp mm Q := s_go cX_type_98 cX_type_99 rfl rfl
theorem rX_type_99 {a5 s1 : Nat} {s0 : Int} {u0 u1 u2 u3 u4 u6 : zV} (hk : zKd sh s1 = 11) : zS 104 99 [u0, u1, u2, u3, u4, zR a5, u6] [zI s0, zR s1] sh pp mm Q ↔ zS 146 0 [zR s1, zI s0] [] sh pp mm (fun v sh pp mm => zS 104 102 [zU, zU, zU, zU, zU, zR a5, zU] (zPush v []) sh pp mm Q) := s_call cX_type_99 cX_type_102 ((if_pos hk).trans rfl) rfl
theorem rX_type_102 {a5 : Nat} {u0 u1 u2 u3 u4 u6 : zV} : zS 104 102 [u0, u1, u2, u3, u4, zR a5, u6] [] sh pp mm Q ↔ zS 104 104 [zU, zU, zU, zU, zU, zU, zU] [zR a5] sh pp mm Q := s_go cX_type_102 cX_type_104 rfl rfl
theorem rX_type_104 {s0 : Nat} {u0 u1 u2 u3 u4 u5 u6 : zV} (hk : zKd sh s0 = 10) : zS 104 104 [u0, u1, u2, u3, u4, u5, u6] [zR s0] sh pp mm Q ↔ zS 104 107 [zU, zU, zU, zU, zU, zU, zU] [zI (mm s0 3)] sh pp mm Q := s_go cX_type_104 cX_type_107 (if_pos hk) rfl
theorem rX_type_107 {s0 : Int} {u0 u1 u2 u3 u4 u5 u6 : zV} : zS 104 107 [u0, u1, u2, u3, u4, u5, u6] [zI s0] sh pp mm Q ↔ Q (zI s0) sh pp mm := s_ret cX_type_107 rfl
theorem cAX_clear : ∀ q ∈ zT105, zCode 105 q.1 = some q.2 := zAll (mid := 105) rfl (by decide +kernel)
theorem cAX_clear_0 : ∀ q ∈ zT105_0, zCode 105 q.1 = some q.2 := fun q h => cAX_clear q (List.mem_append_left _ h)
theorem cAX_clear_1 : ∀ q ∈ zT105_1, zCode 105 q.1 = some q.2 := fun q h => cAX_clear q (List.mem_append_right _ h)
theorem cX_clear_0 : zCode 105 0 = some (.iload_n 1, 1, 0, 0, 0, 0, 3) := cAX_clear_0 _ (List.mem_of_getElem? (i := 0) rfl)
theorem cX_clear_1 : zCode 105 1 = some (.invokestatic 85, 4, 140, 1, 1, 11, 3) := cAX_clear_0 _ (List.mem_of_getElem? (i := 1) rfl)
theorem cX_clear_4 : zCode 105 4 = some (.ifCond .ne 11, 7, 15, 0, 0, 0, 3) := cAX_clear_0 _ (List.mem_of_getElem? (i := 2) rfl)
theorem cX_clear_7 : zCode 105 7 = some (.aload_n 0, 8, 0, 0, 0, 0, 1) := cAX_clear_0 _ (List.mem_of_getElem? (i := 3) rfl)
theorem cX_clear_8 : zCode 105 8 = some (.iconst 0, 9, 0, 0, 0, 0, 0) := cAX_clear_0 _ (List.mem_of_getElem? (i := 4) rfl)
theorem cX_clear_9 : zCode 105 9 = some (.bipush (-2), 11, 0, 0, 0, 0, 0) := cAX_clear_0 _ (List.mem_of_getElem? (i := 5) rfl)
theorem cX_clear_11 : zCode 105 11 = some (.invokevirtual 72, 14, 138, 2, 3, 11, 0) := cAX_clear_0 _ (List.mem_of_getElem? (i := 6) rfl)
theorem cX_clear_14 : zCode 105 14 = some (.ireturn, 15, 0, 0, 0, 0, 0) := cAX_clear_0 _ (List.mem_of_getElem? (i := 7) rfl)
theorem cX_clear_15 : zCode 105 15 = some (.aload_n 0, 16, 0, 0, 0, 0, 3) := cAX_clear_0 _ (List.mem_of_getElem? (i := 8) rfl)
theorem cX_clear_16 : zCode 105 16 = some (.iload_n 1, 17, 0, 0, 0, 0, 3) := cAX_clear_0 _ (List.mem_of_getElem? (i := 9) rfl)
theorem cX_clear_17 : zCode 105 17 = some (.invokevirtual 103, 20, 146, 1, 2, 11, 3) := cAX_clear_0 _ (List.mem_of_getElem? (i := 10) rfl)
theorem cX_clear_20 : zCode 105 20 = some (.aload_n 0, 21, 0, 0, 0, 0, 3) := cAX_clear_0 _ (List.mem_of_getElem? (i := 11) rfl)
theorem cX_clear_21 : zCode 105 21 = some (.getfield 10, 24, 11, 0, 2, 506, 2) := cAX_clear_0 _ (List.mem_of_getElem? (i := 12) rfl)
theorem cX_clear_24 : zCode 105 24 = some (.getfield 89, 27, 9, 1, 2, 168, 2) := cAX_clear_0 _ (List.mem_of_getElem? (i := 13) rfl)
theorem cX_clear_27 : zCode 105 27 = some (.iload_n 1, 28, 0, 0, 0, 0, 2) := cAX_clear_0 _ (List.mem_of_getElem? (i := 14) rfl)
theorem cX_clear_28 : zCode 105 28 = some (.aaload, 29, 0, 0, 0, 0, 0) := cAX_clear_0 _ (List.mem_of_getElem? (i := 15) rfl)
theorem cX_clear_29 : zCode 105 29 = some (.invokevirtual 107, 32, 99, 0, 2, 10, 0) := cAX_clear_1 _ (List.mem_of_getElem? (i := 0) rfl)
theorem cX_clear_32 : zCode 105 32 = some (.ireturn, 33, 0, 0, 0, 0, 0) := cAX_clear_1 _ (List.mem_of_getElem? (i := 1) rfl)
theorem rX_clear_0 {a0 : Nat} {a1 : Int} : zS 105 0 [zR a0, zI a1] [] sh pp mm Q ↔ zS 105 1 [zR a0, zI a1] [zI a1] sh pp mm Q := s_go cX_clear_0 cX_clear_1 rfl rfl
theorem rX_clear_1 {a0 : Nat} {a1 s0 : Int} : zS 105 1 [zR a0, zI a1] [zI s0] sh pp mm Q ↔ zS 140 0 [zI s0] [] sh pp mm (fun v sh pp mm => zS 105 4 [zR a0, zI a1] (zPush v []) sh pp mm Q) := s_call cX_clear_1 cX_clear_4 rfl rfl
theorem rX_clear_4 {a0 : Nat} {a1 s0 : Int} : zS 105 4 [zR a0, zI a1] [zI s0] sh pp mm Q ↔ (s0 = 0 → zS 105 7 [zR a0, zU] [] sh pp mm Q) ∧ (¬ s0 = 0 → zS 105 15 [zR a0, zI a1] [] sh pp mm Q) := s_ifn cX_clear_4 cX_clear_7 cX_clear_15 rfl rfl rfl
theorem rX_clear_7 {a0 : Nat} {u1 : zV} : zS 105 7 [zR a0, u1] [] sh pp mm Q ↔ zS 105 8 [zU, zU] [zR a0] sh pp mm Q := s_go cX_clear_7 cX_clear_8 rfl rfl
theorem rX_clear_8 {s0 : Nat} {u0 u1 : zV} : zS 105 8 [u0, u1] [zR s0] sh pp mm Q ↔ zS 105 9 [zU, zU] [zI 0, zR s0] sh pp mm Q := s_go cX_clear_8 cX_clear_9 rfl rfl
theorem rX_clear_9 {s1 : Nat} {s0 : Int} {u0 u1 : zV} : zS 105 9 [u0, u1] [zI s0, zR s1] sh pp mm Q ↔ zS 105 11 [zU, zU] [zI (-2), zI s0, zR s1] sh pp mm Q := s_go cX_clear_9 cX_clear_11 rfl rfl
theorem rX_clear_11 {s2 : Nat} {s0 s1 : Int} {u0 u1 : zV} (hk : zKd sh s2 = 11) : zS 105 11 [u0, u1] [zI s0, zI s1, zR s2] sh pp mm Q ↔ zS 138 0 [zR s2, zI s1, zI s0] [] sh pp mm (fun v sh pp mm => zS 105 14 [zU, zU] (zPush v []) sh pp mm Q) := s_call cX_clear_11 cX_clear_14 ((if_pos hk).trans rfl) rfl
theorem rX_clear_14 {s0 : Int} {u0 u1 : zV} : zS 105 14 [u0, u1] [zI s0] sh pp mm Q ↔ Q (zI s0) sh pp mm := s_ret cX_clear_14 rfl
theorem rX_clear_15 {a0 : Nat} {a1 : Int} : zS 105 15 [zR a0, zI a1] [] sh pp mm Q ↔ zS 105 16 [zR a0, zI a1] [zR a0] sh pp mm Q := s_go cX_clear_15 cX_clear_16 rfl rfl
theorem rX_clear_16 {a0 s0 : Nat} {a1 : Int} : zS 105 16 [zR a0, zI a1] [zR s0] sh pp mm Q ↔ zS 105 17 [zR a0, zI a1] [zI a1, zR s0] sh pp mm Q := s_go cX_clear_16 cX_clear_17 rfl rfl
theorem rX_clear_17 {a0 s1 : Nat} {a1 s0 : Int} (hk : zKd sh s1 = 11) : zS 105 17 [zR a0, zI a1] [zI s0, zR s1] sh pp mm Q ↔ zS 146 0 [zR s1, zI s0] [] sh pp mm (fun v sh pp mm => zS 105 20 [zR a0, zI a1] (zPush v []) sh pp mm Q) := s_call cX_clear_17 cX_clear_20 ((if_pos hk).trans rfl) rfl
theorem rX_clear_20 {a0 : Nat} {a1 : Int} : zS 105 20 [zR a0, zI a1] [] sh pp mm Q ↔ zS 105 21 [zU, zI a1] [zR a0] sh pp mm Q := s_go cX_clear_20 cX_clear_21 rfl rfl
theorem rX_clear_21 {s0 : Nat} {a1 : Int} {u0 : zV} (hk : zKd sh s0 = 11) : zS 105 21 [u0, zI a1] [zR s0] sh pp mm Q ↔ zS 105 24 [zU, zI a1] [zR (pp s0 0)] sh pp mm Q := s_go cX_clear_21 cX_clear_24 (if_pos hk) rfl
theorem rX_clear_24 {s0 : Nat} {a1 : Int} {u0 : zV} (hk : zKd sh s0 = 9) : zS 105 24 [u0, zI a1] [zR s0] sh pp mm Q ↔ zS 105 27 [zU, zI a1] [zR (pp s0 1)] sh pp mm Q := s_go cX_clear_24 cX_clear_27 (if_pos hk) rfl
theorem rX_clear_27 {s0 : Nat} {a1 : Int} {u0 : zV} : zS 105 27 [u0, zI a1] [zR s0] sh pp mm Q ↔ zS 105 28 [zU, zU] [zI a1, zR s0] sh pp mm Q := s_go cX_clear_27 cX_clear_28 rfl rfl
theorem rX_clear_28 {s1 : Nat} {s0 : Int} {u0 u1 : zV} (hk : 24 ≤ zKd sh s1) (hl : zKd sh s1 ≤ 27) (h0 : 0 ≤ s0) (h1 : s0 < zLn sh s1) : zS 105 28 [u0, u1] [zI s0, zR s1] sh pp mm Q ↔ zS 105 29 [zU, zU] [zR (pp s1 s0)] sh pp mm Q := s_go cX_clear_28 cX_clear_29 (if_pos ⟨zEl_ok hk hl, h0, h1⟩) rfl
theorem rX_clear_29 {s0 : Nat} {u0 u1 : zV} (hk : zKd sh s0 = 10) : zS 105 29 [u0, u1] [zR s0] sh pp mm Q ↔ zS 99 0 [zR s0, zU] [] sh pp mm (fun v sh pp mm => zS 105 32 [zU, zU] (zPush v []) sh pp mm Q) := s_call cX_clear_29 cX_clear_32 ((if_pos hk).trans rfl) rfl
theorem rX_clear_32 {s0 : Int} {u0 u1 : zV} : zS 105 32 [u0, u1] [zI s0] sh pp mm Q ↔ Q (zI s0) sh pp mm := s_ret cX_clear_32 rfl
theorem cAX_fault : ∀ q ∈ zT106, zCode 106 q.1 = some q.2 := zAll (mid := 106) rfl (by decide +kernel)
theorem cAX_fault_0 : ∀ q ∈ zT106_0, zCode 106 q.1 = some q.2 := fun q h => cAX_fault q (List.mem_append_left _ h)
theorem cAX_fault_1 : ∀ q ∈ zT106_1, zCode 106 q.1 = some q.2 := fun q h => cAX_fault q (List.mem_append_right _ h)
theorem cX_fault_0 : zCode 106 0 = some (.iload_n 1, 1, 0, 0, 0, 0, 3) := cAX_fault_0 _ (List.mem_of_getElem? (i := 0) rfl)
theorem cX_fault_1 : zCode 106 1 = some (.invokestatic 85, 4, 140, 1, 1, 11, 3) := cAX_fault_0 _ (List.mem_of_getElem? (i := 1) rfl)
theorem cX_fault_4 : zCode 106 4 = some (.ifCond .ne 11, 7, 15, 0, 0, 0, 3) := cAX_fault_0 _ (List.mem_of_getElem? (i := 2) rfl)
theorem cX_fault_7 : zCode 106 7 = some (.aload_n 0, 8, 0, 0, 0, 0, 1) := cAX_fault_0 _ (List.mem_of_getElem? (i := 3) rfl)
theorem cX_fault_8 : zCode 106 8 = some (.iconst 0, 9, 0, 0, 0, 0, 0) := cAX_fault_0 _ (List.mem_of_getElem? (i := 4) rfl)
theorem cX_fault_9 : zCode 106 9 = some (.bipush (-2), 11, 0, 0, 0, 0, 0) := cAX_fault_0 _ (List.mem_of_getElem? (i := 5) rfl)
theorem cX_fault_11 : zCode 106 11 = some (.invokevirtual 72, 14, 138, 2, 3, 11, 0) := cAX_fault_0 _ (List.mem_of_getElem? (i := 6) rfl)
theorem cX_fault_14 : zCode 106 14 = some (.ireturn, 15, 0, 0, 0, 0, 0) := cAX_fault_0 _ (List.mem_of_getElem? (i := 7) rfl)
theorem cX_fault_15 : zCode 106 15 = some (.aload_n 0, 16, 0, 0, 0, 0, 3) := cAX_fault_0 _ (List.mem_of_getElem? (i := 8) rfl)
theorem cX_fault_16 : zCode 106 16 = some (.getfield 26, 19, 11, 3, 2, 509, 3) := cAX_fault_0 _ (List.mem_of_getElem? (i := 9) rfl)
theorem cX_fault_19 : zCode 106 19 = some (.iload_n 1, 20, 0, 0, 0, 0, 3) := cAX_fault_0 _ (List.mem_of_getElem? (i := 10) rfl)
theorem cX_fault_20 : zCode 106 20 = some (.aaload, 21, 0, 0, 0, 0, 3) := cAX_fault_0 _ (List.mem_of_getElem? (i := 11) rfl)
theorem cX_fault_21 : zCode 106 21 = some (.aload_n 0, 22, 0, 0, 0, 0, 3) := cAX_fault_0 _ (List.mem_of_getElem? (i := 12) rfl)
theorem cX_fault_22 : zCode 106 22 = some (.getfield 10, 25, 11, 0, 2, 506, 3) := cAX_fault_0 _ (List.mem_of_getElem? (i := 13) rfl)
theorem cX_fault_25 : zCode 106 25 = some (.getfield 89, 28, 9, 1, 2, 168, 3) := cAX_fault_0 _ (List.mem_of_getElem? (i := 14) rfl)
theorem cX_fault_28 : zCode 106 28 = some (.iload_n 1, 29, 0, 0, 0, 0, 3) := cAX_fault_0 _ (List.mem_of_getElem? (i := 15) rfl)
theorem cX_fault_29 : zCode 106 29 = some (.aaload, 30, 0, 0, 0, 0, 3) := cAX_fault_1 _ (List.mem_of_getElem? (i := 0) rfl)
theorem cX_fault_30 : zCode 106 30 = some (.invokevirtual 111, 33, 78, 1, 4, 8, 3) := cAX_fault_1 _ (List.mem_of_getElem? (i := 1) rfl)
theorem cX_fault_33 : zCode 106 33 = some (.aload_n 0, 34, 0, 0, 0, 0, 3) := cAX_fault_1 _ (List.mem_of_getElem? (i := 2) rfl)
theorem cX_fault_34 : zCode 106 34 = some (.getfield 26, 37, 11, 3, 2, 509, 2) := cAX_fault_1 _ (List.mem_of_getElem? (i := 3) rfl)
theorem cX_fault_37 : zCode 106 37 = some (.iload_n 1, 38, 0, 0, 0, 0, 2) := cAX_fault_1 _ (List.mem_of_getElem? (i := 4) rfl)
theorem cX_fault_38 : zCode 106 38 = some (.aaload, 39, 0, 0, 0, 0, 0) := cAX_fault_1 _ (List.mem_of_getElem? (i := 5) rfl)
theorem cX_fault_39 : zCode 106 39 = some (.getfield 115, 42, 8, 4, 0, 378, 0) := cAX_fault_1 _ (List.mem_of_getElem? (i := 6) rfl)
theorem cX_fault_42 : zCode 106 42 = some (.ireturn, 43, 0, 0, 0, 0, 0) := cAX_fault_1 _ (List.mem_of_getElem? (i := 7) rfl)
theorem rX_fault_0 {a0 : Nat} {a1 : Int} : zS 106 0 [zR a0, zI a1] [] sh pp mm Q ↔ zS 106 1 [zR a0, zI a1] [zI a1] sh pp mm Q := s_go cX_fault_0 cX_fault_1 rfl rfl
theorem rX_fault_1 {a0 : Nat} {a1 s0 : Int} : zS 106 1 [zR a0, zI a1] [zI s0] sh pp mm Q ↔ zS 140 0 [zI s0] [] sh pp mm (fun v sh pp mm => zS 106 4 [zR a0, zI a1] (zPush v []) sh pp mm Q) := s_call cX_fault_1 cX_fault_4 rfl rfl
theorem rX_fault_4 {a0 : Nat} {a1 s0 : Int} : zS 106 4 [zR a0, zI a1] [zI s0] sh pp mm Q ↔ (s0 = 0 → zS 106 7 [zR a0, zU] [] sh pp mm Q) ∧ (¬ s0 = 0 → zS 106 15 [zR a0, zI a1] [] sh pp mm Q) := s_ifn cX_fault_4 cX_fault_7 cX_fault_15 rfl rfl rfl
theorem rX_fault_7 {a0 : Nat} {u1 : zV} : zS 106 7 [zR a0, u1] [] sh pp mm Q ↔ zS 106 8 [zU, zU] [zR a0] sh pp mm Q := s_go cX_fault_7 cX_fault_8 rfl rfl
theorem rX_fault_8 {s0 : Nat} {u0 u1 : zV} : zS 106 8 [u0, u1] [zR s0] sh pp mm Q ↔ zS 106 9 [zU, zU] [zI 0, zR s0] sh pp mm Q := s_go cX_fault_8 cX_fault_9 rfl rfl
theorem rX_fault_9 {s1 : Nat} {s0 : Int} {u0 u1 : zV} : zS 106 9 [u0, u1] [zI s0, zR s1] sh pp mm Q ↔ zS 106 11 [zU, zU] [zI (-2), zI s0, zR s1] sh pp mm Q := s_go cX_fault_9 cX_fault_11 rfl rfl
theorem rX_fault_11 {s2 : Nat} {s0 s1 : Int} {u0 u1 : zV} (hk : zKd sh s2 = 11) : zS 106 11 [u0, u1] [zI s0, zI s1, zR s2] sh pp mm Q ↔ zS 138 0 [zR s2, zI s1, zI s0] [] sh pp mm (fun v sh pp mm => zS 106 14 [zU, zU] (zPush v []) sh pp mm Q) := s_call cX_fault_11 cX_fault_14 ((if_pos hk).trans rfl) rfl
theorem rX_fault_14 {s0 : Int} {u0 u1 : zV} : zS 106 14 [u0, u1] [zI s0] sh pp mm Q ↔ Q (zI s0) sh pp mm := s_ret cX_fault_14 rfl
theorem rX_fault_15 {a0 : Nat} {a1 : Int} : zS 106 15 [zR a0, zI a1] [] sh pp mm Q ↔ zS 106 16 [zR a0, zI a1] [zR a0] sh pp mm Q := s_go cX_fault_15 cX_fault_16 rfl rfl
theorem rX_fault_16 {a0 s0 : Nat} {a1 : Int} (hk : zKd sh s0 = 11) : zS 106 16 [zR a0, zI a1] [zR s0] sh pp mm Q ↔ zS 106 19 [zR a0, zI a1] [zR (pp s0 3)] sh pp mm Q := s_go cX_fault_16 cX_fault_19 (if_pos hk) rfl
theorem rX_fault_19 {a0 s0 : Nat} {a1 : Int} : zS 106 19 [zR a0, zI a1] [zR s0] sh pp mm Q ↔ zS 106 20 [zR a0, zI a1] [zI a1, zR s0] sh pp mm Q := s_go cX_fault_19 cX_fault_20 rfl rfl
theorem rX_fault_20 {a0 s1 : Nat} {a1 s0 : Int} (hk : 24 ≤ zKd sh s1) (hl : zKd sh s1 ≤ 27) (h0 : 0 ≤ s0) (h1 : s0 < zLn sh s1) : zS 106 20 [zR a0, zI a1] [zI s0, zR s1] sh pp mm Q ↔ zS 106 21 [zR a0, zI a1] [zR (pp s1 s0)] sh pp mm Q := s_go cX_fault_20 cX_fault_21 (if_pos ⟨zEl_ok hk hl, h0, h1⟩) rfl
theorem rX_fault_21 {a0 s0 : Nat} {a1 : Int} : zS 106 21 [zR a0, zI a1] [zR s0] sh pp mm Q ↔ zS 106 22 [zR a0, zI a1] [zR a0, zR s0] sh pp mm Q := s_go cX_fault_21 cX_fault_22 rfl rfl
theorem rX_fault_22 {a0 s0 s1 : Nat} {a1 : Int} (hk : zKd sh s0 = 11) : zS 106 22 [zR a0, zI a1] [zR s0, zR s1] sh pp mm Q ↔ zS 106 25 [zR a0, zI a1] [zR (pp s0 0), zR s1] sh pp mm Q := s_go cX_fault_22 cX_fault_25 (if_pos hk) rfl
theorem rX_fault_25 {a0 s0 s1 : Nat} {a1 : Int} (hk : zKd sh s0 = 9) : zS 106 25 [zR a0, zI a1] [zR s0, zR s1] sh pp mm Q ↔ zS 106 28 [zR a0, zI a1] [zR (pp s0 1), zR s1] sh pp mm Q := s_go cX_fault_25 cX_fault_28 (if_pos hk) rfl
theorem rX_fault_28 {a0 s0 s1 : Nat} {a1 : Int} : zS 106 28 [zR a0, zI a1] [zR s0, zR s1] sh pp mm Q ↔ zS 106 29 [zR a0, zI a1] [zI a1, zR s0, zR s1] sh pp mm Q := s_go cX_fault_28 cX_fault_29 rfl rfl
theorem rX_fault_29 {a0 s1 s2 : Nat} {a1 s0 : Int} (hk : 24 ≤ zKd sh s1) (hl : zKd sh s1 ≤ 27) (h0 : 0 ≤ s0) (h1 : s0 < zLn sh s1) : zS 106 29 [zR a0, zI a1] [zI s0, zR s1, zR s2] sh pp mm Q ↔ zS 106 30 [zR a0, zI a1] [zR (pp s1 s0), zR s2] sh pp mm Q := s_go cX_fault_29 cX_fault_30 (if_pos ⟨zEl_ok hk hl, h0, h1⟩) rfl
theorem rX_fault_30 {a0 s0 s1 : Nat} {a1 : Int} (hk : zKd sh s1 = 8) : zS 106 30 [zR a0, zI a1] [zR s0, zR s1] sh pp mm Q ↔ zS 78 0 [zR s1, zR s0, zU, zU] [] sh pp mm (fun v sh pp mm => zS 106 33 [zR a0, zI a1] (zPush v []) sh pp mm Q) := s_call cX_fault_30 cX_fault_33 ((if_pos hk).trans rfl) rfl
theorem rX_fault_33 {a0 : Nat} {a1 : Int} : zS 106 33 [zR a0, zI a1] [] sh pp mm Q ↔ zS 106 34 [zU, zI a1] [zR a0] sh pp mm Q := s_go cX_fault_33 cX_fault_34 rfl rfl
theorem rX_fault_34 {s0 : Nat} {a1 : Int} {u0 : zV} (hk : zKd sh s0 = 11) : zS 106 34 [u0, zI a1] [zR s0] sh pp mm Q ↔ zS 106 37 [zU, zI a1] [zR (pp s0 3)] sh pp mm Q := s_go cX_fault_34 cX_fault_37 (if_pos hk) rfl
theorem rX_fault_37 {s0 : Nat} {a1 : Int} {u0 : zV} : zS 106 37 [u0, zI a1] [zR s0] sh pp mm Q ↔ zS 106 38 [zU, zU] [zI a1, zR s0] sh pp mm Q := s_go cX_fault_37 cX_fault_38 rfl rfl
theorem rX_fault_38 {s1 : Nat} {s0 : Int} {u0 u1 : zV} (hk : 24 ≤ zKd sh s1) (hl : zKd sh s1 ≤ 27) (h0 : 0 ≤ s0) (h1 : s0 < zLn sh s1) : zS 106 38 [u0, u1] [zI s0, zR s1] sh pp mm Q ↔ zS 106 39 [zU, zU] [zR (pp s1 s0)] sh pp mm Q := s_go cX_fault_38 cX_fault_39 (if_pos ⟨zEl_ok hk hl, h0, h1⟩) rfl
theorem rX_fault_39 {s0 : Nat} {u0 u1 : zV} (hk : zKd sh s0 = 8) : zS 106 39 [u0, u1] [zR s0] sh pp mm Q ↔ zS 106 42 [zU, zU] [zI (mm s0 4)] sh pp mm Q := s_go cX_fault_39 cX_fault_42 (if_pos hk) rfl
theorem rX_fault_42 {s0 : Int} {u0 u1 : zV} : zS 106 42 [u0, u1] [zI s0] sh pp mm Q ↔ Q (zI s0) sh pp mm := s_ret cX_fault_42 rfl
theorem cAX_draws : ∀ q ∈ zT107, zCode 107 q.1 = some q.2 := zAll (mid := 107) rfl (by decide +kernel)
theorem cAX_draws_0 : ∀ q ∈ zT107_0, zCode 107 q.1 = some q.2 := fun q h => cAX_draws q (List.mem_append_left _ h)
theorem cAX_draws_1 : ∀ q ∈ zT107_1, zCode 107 q.1 = some q.2 := fun q h => cAX_draws q (List.mem_append_right _ h)
theorem cX_draws_0 : zCode 107 0 = some (.iload_n 1, 1, 0, 0, 0, 0, 7) := cAX_draws_0 _ (List.mem_of_getElem? (i := 0) rfl)
theorem cX_draws_1 : zCode 107 1 = some (.invokestatic 85, 4, 140, 1, 1, 11, 7) := cAX_draws_0 _ (List.mem_of_getElem? (i := 1) rfl)
theorem cX_draws_4 : zCode 107 4 = some (.ifCond .eq 13, 7, 17, 0, 0, 0, 7) := cAX_draws_0 _ (List.mem_of_getElem? (i := 2) rfl)
theorem cX_draws_7 : zCode 107 7 = some (.iload_n 2, 8, 0, 0, 0, 0, 7) := cAX_draws_0 _ (List.mem_of_getElem? (i := 3) rfl)
theorem cX_draws_8 : zCode 107 8 = some (.ifCond .lt 9, 11, 17, 0, 0, 0, 7) := cAX_draws_0 _ (List.mem_of_getElem? (i := 4) rfl)
theorem cX_draws_11 : zCode 107 11 = some (.iload_n 2, 12, 0, 0, 0, 0, 7) := cAX_draws_0 _ (List.mem_of_getElem? (i := 5) rfl)
theorem cX_draws_12 : zCode 107 12 = some (.bipush 9, 14, 0, 0, 0, 0, 7) := cAX_draws_0 _ (List.mem_of_getElem? (i := 6) rfl)
theorem cX_draws_14 : zCode 107 14 = some (.if_icmp .le 11, 17, 25, 0, 0, 0, 7) := cAX_draws_0 _ (List.mem_of_getElem? (i := 7) rfl)
theorem cX_draws_17 : zCode 107 17 = some (.aload_n 0, 18, 0, 0, 0, 0, 1) := cAX_draws_0 _ (List.mem_of_getElem? (i := 8) rfl)
theorem cX_draws_18 : zCode 107 18 = some (.iconst 0, 19, 0, 0, 0, 0, 0) := cAX_draws_0 _ (List.mem_of_getElem? (i := 9) rfl)
theorem cX_draws_19 : zCode 107 19 = some (.bipush (-2), 21, 0, 0, 0, 0, 0) := cAX_draws_0 _ (List.mem_of_getElem? (i := 10) rfl)
theorem cX_draws_21 : zCode 107 21 = some (.invokevirtual 72, 24, 138, 2, 3, 11, 0) := cAX_draws_0 _ (List.mem_of_getElem? (i := 11) rfl)
theorem cX_draws_24 : zCode 107 24 = some (.ireturn, 25, 0, 0, 0, 0, 0) := cAX_draws_0 _ (List.mem_of_getElem? (i := 12) rfl)
theorem cX_draws_25 : zCode 107 25 = some (.aload_n 0, 26, 0, 0, 0, 0, 7) := cAX_draws_0 _ (List.mem_of_getElem? (i := 13) rfl)
theorem cX_draws_26 : zCode 107 26 = some (.iload_n 1, 27, 0, 0, 0, 0, 7) := cAX_draws_0 _ (List.mem_of_getElem? (i := 14) rfl)
theorem cX_draws_27 : zCode 107 27 = some (.invokevirtual 118, 30, 148, 1, 4, 11, 5) := cAX_draws_0 _ (List.mem_of_getElem? (i := 15) rfl)
theorem cX_draws_30 : zCode 107 30 = some (.astore_n 3, 31, 0, 0, 0, 0, 5) := cAX_draws_1 _ (List.mem_of_getElem? (i := 0) rfl)
theorem cX_draws_31 : zCode 107 31 = some (.aload_n 3, 32, 0, 0, 0, 0, 13) := cAX_draws_1 _ (List.mem_of_getElem? (i := 1) rfl)
theorem cX_draws_32 : zCode 107 32 = some (.ifnonnull 11, 35, 43, 0, 0, 0, 13) := cAX_draws_1 _ (List.mem_of_getElem? (i := 2) rfl)
theorem cX_draws_35 : zCode 107 35 = some (.aload_n 0, 36, 0, 0, 0, 0, 1) := cAX_draws_1 _ (List.mem_of_getElem? (i := 3) rfl)
theorem cX_draws_36 : zCode 107 36 = some (.iconst 1, 37, 0, 0, 0, 0, 0) := cAX_draws_1 _ (List.mem_of_getElem? (i := 4) rfl)
theorem cX_draws_37 : zCode 107 37 = some (.bipush (-3), 39, 0, 0, 0, 0, 0) := cAX_draws_1 _ (List.mem_of_getElem? (i := 5) rfl)
theorem cX_draws_39 : zCode 107 39 = some (.invokevirtual 72, 42, 138, 2, 3, 11, 0) := cAX_draws_1 _ (List.mem_of_getElem? (i := 6) rfl)
theorem cX_draws_42 : zCode 107 42 = some (.ireturn, 43, 0, 0, 0, 0, 0) := cAX_draws_1 _ (List.mem_of_getElem? (i := 7) rfl)
theorem cX_draws_43 : zCode 107 43 = some (.aload_n 3, 44, 0, 0, 0, 0, 12) := cAX_draws_1 _ (List.mem_of_getElem? (i := 8) rfl)
theorem cX_draws_44 : zCode 107 44 = some (.iload_n 2, 45, 0, 0, 0, 0, 4) := cAX_draws_1 _ (List.mem_of_getElem? (i := 9) rfl)
theorem cX_draws_45 : zCode 107 45 = some (.invokevirtual 122, 48, 29, 1, 2, 1, 0) := cAX_draws_1 _ (List.mem_of_getElem? (i := 10) rfl)
theorem cX_draws_48 : zCode 107 48 = some (.ireturn, 49, 0, 0, 0, 0, 0) := cAX_draws_1 _ (List.mem_of_getElem? (i := 11) rfl)
theorem rX_draws_0 {a0 : Nat} {a1 a2 : Int} {u3 : zV} : zS 107 0 [zR a0, zI a1, zI a2, u3] [] sh pp mm Q ↔ zS 107 1 [zR a0, zI a1, zI a2, zU] [zI a1] sh pp mm Q := s_go cX_draws_0 cX_draws_1 rfl rfl
theorem rX_draws_1 {a0 : Nat} {a1 a2 s0 : Int} {u3 : zV} : zS 107 1 [zR a0, zI a1, zI a2, u3] [zI s0] sh pp mm Q ↔ zS 140 0 [zI s0] [] sh pp mm (fun v sh pp mm => zS 107 4 [zR a0, zI a1, zI a2, zU] (zPush v []) sh pp mm Q) := s_call cX_draws_1 cX_draws_4 rfl rfl
theorem rX_draws_4 {a0 : Nat} {a1 a2 s0 : Int} {u3 : zV} : zS 107 4 [zR a0, zI a1, zI a2, u3] [zI s0] sh pp mm Q ↔ (s0 = 0 → zS 107 17 [zR a0, zU, zU, zU] [] sh pp mm Q) ∧ (¬ s0 = 0 → zS 107 7 [zR a0, zI a1, zI a2, zU] [] sh pp mm Q) := s_if cX_draws_4 cX_draws_17 cX_draws_7 rfl rfl rfl
theorem rX_draws_7 {a0 : Nat} {a1 a2 : Int} {u3 : zV} : zS 107 7 [zR a0, zI a1, zI a2, u3] [] sh pp mm Q ↔ zS 107 8 [zR a0, zI a1, zI a2, zU] [zI a2] sh pp mm Q := s_go cX_draws_7 cX_draws_8 rfl rfl
theorem rX_draws_8 {a0 : Nat} {a1 a2 s0 : Int} {u3 : zV} : zS 107 8 [zR a0, zI a1, zI a2, u3] [zI s0] sh pp mm Q ↔ (s0 < 0 → zS 107 17 [zR a0, zU, zU, zU] [] sh pp mm Q) ∧ (¬ s0 < 0 → zS 107 11 [zR a0, zI a1, zI a2, zU] [] sh pp mm Q) := s_if cX_draws_8 cX_draws_17 cX_draws_11 rfl rfl rfl
theorem rX_draws_11 {a0 : Nat} {a1 a2 : Int} {u3 : zV} : zS 107 11 [zR a0, zI a1, zI a2, u3] [] sh pp mm Q ↔ zS 107 12 [zR a0, zI a1, zI a2, zU] [zI a2] sh pp mm Q := s_go cX_draws_11 cX_draws_12 rfl rfl
theorem rX_draws_12 {a0 : Nat} {a1 a2 s0 : Int} {u3 : zV} : zS 107 12 [zR a0, zI a1, zI a2, u3] [zI s0] sh pp mm Q ↔ zS 107 14 [zR a0, zI a1, zI a2, zU] [zI 9, zI s0] sh pp mm Q := s_go cX_draws_12 cX_draws_14 rfl rfl
theorem rX_draws_14 {a0 : Nat} {a1 a2 s0 s1 : Int} {u3 : zV} : zS 107 14 [zR a0, zI a1, zI a2, u3] [zI s0, zI s1] sh pp mm Q ↔ (s0 < s1 → zS 107 17 [zR a0, zU, zU, zU] [] sh pp mm Q) ∧ (¬ s0 < s1 → zS 107 25 [zR a0, zI a1, zI a2, zU] [] sh pp mm Q) := s_ifn cX_draws_14 cX_draws_17 cX_draws_25 rfl rfl rfl
theorem rX_draws_17 {a0 : Nat} {u1 u2 u3 : zV} : zS 107 17 [zR a0, u1, u2, u3] [] sh pp mm Q ↔ zS 107 18 [zU, zU, zU, zU] [zR a0] sh pp mm Q := s_go cX_draws_17 cX_draws_18 rfl rfl
theorem rX_draws_18 {s0 : Nat} {u0 u1 u2 u3 : zV} : zS 107 18 [u0, u1, u2, u3] [zR s0] sh pp mm Q ↔ zS 107 19 [zU, zU, zU, zU] [zI 0, zR s0] sh pp mm Q := s_go cX_draws_18 cX_draws_19 rfl rfl
theorem rX_draws_19 {s1 : Nat} {s0 : Int} {u0 u1 u2 u3 : zV} : zS 107 19 [u0, u1, u2, u3] [zI s0, zR s1] sh pp mm Q ↔ zS 107 21 [zU, zU, zU, zU] [zI (-2), zI s0, zR s1] sh pp mm Q := s_go cX_draws_19 cX_draws_21 rfl rfl
theorem rX_draws_21 {s2 : Nat} {s0 s1 : Int} {u0 u1 u2 u3 : zV} (hk : zKd sh s2 = 11) : zS 107 21 [u0, u1, u2, u3] [zI s0, zI s1, zR s2] sh pp mm Q ↔ zS 138 0 [zR s2, zI s1, zI s0] [] sh pp mm (fun v sh pp mm => zS 107 24 [zU, zU, zU, zU] (zPush v []) sh pp mm Q) := s_call cX_draws_21 cX_draws_24 ((if_pos hk).trans rfl) rfl
theorem rX_draws_24 {s0 : Int} {u0 u1 u2 u3 : zV} : zS 107 24 [u0, u1, u2, u3] [zI s0] sh pp mm Q ↔ Q (zI s0) sh pp mm := s_ret cX_draws_24 rfl
theorem rX_draws_25 {a0 : Nat} {a1 a2 : Int} {u3 : zV} : zS 107 25 [zR a0, zI a1, zI a2, u3] [] sh pp mm Q ↔ zS 107 26 [zR a0, zI a1, zI a2, zU] [zR a0] sh pp mm Q := s_go cX_draws_25 cX_draws_26 rfl rfl
theorem rX_draws_26 {a0 s0 : Nat} {a1 a2 : Int} {u3 : zV} : zS 107 26 [zR a0, zI a1, zI a2, u3] [zR s0] sh pp mm Q ↔ zS 107 27 [zR a0, zU, zI a2, zU] [zI a1, zR s0] sh pp mm Q := s_go cX_draws_26 cX_draws_27 rfl rfl
theorem rX_draws_27 {a0 s1 : Nat} {a2 s0 : Int} {u1 u3 : zV} (hk : zKd sh s1 = 11) : zS 107 27 [zR a0, u1, zI a2, u3] [zI s0, zR s1] sh pp mm Q ↔ zS 148 0 [zR s1, zI s0, zU, zU] [] sh pp mm (fun v sh pp mm => zS 107 30 [zR a0, zU, zI a2, zU] (zPush v []) sh pp mm Q) := s_call cX_draws_27 cX_draws_30 ((if_pos hk).trans rfl) rfl
theorem rX_draws_30 {a0 s0 : Nat} {a2 : Int} {u1 u3 : zV} : zS 107 30 [zR a0, u1, zI a2, u3] [zR s0] sh pp mm Q ↔ zS 107 31 [zR a0, zU, zI a2, zR s0] [] sh pp mm Q := s_go cX_draws_30 cX_draws_31 rfl rfl
theorem rX_draws_31 {a0 a3 : Nat} {a2 : Int} {u1 : zV} : zS 107 31 [zR a0, u1, zI a2, zR a3] [] sh pp mm Q ↔ zS 107 32 [zR a0, zU, zI a2, zR a3] [zR a3] sh pp mm Q := s_go cX_draws_31 cX_draws_32 rfl rfl
theorem rX_draws_32 {a0 a3 s0 : Nat} {a2 : Int} {u1 : zV} : zS 107 32 [zR a0, u1, zI a2, zR a3] [zR s0] sh pp mm Q ↔ (s0 = 0 → zS 107 35 [zR a0, zU, zU, zU] [] sh pp mm Q) ∧ (¬ s0 = 0 → zS 107 43 [zU, zU, zI a2, zR a3] [] sh pp mm Q) := s_br cX_draws_32 cX_draws_35 cX_draws_43 rfl rfl rfl
theorem rX_draws_35 {a0 : Nat} {u1 u2 u3 : zV} : zS 107 35 [zR a0, u1, u2, u3] [] sh pp mm Q ↔ zS 107 36 [zU, zU, zU, zU] [zR a0] sh pp mm Q := s_go cX_draws_35 cX_draws_36 rfl rfl
theorem rX_draws_36 {s0 : Nat} {u0 u1 u2 u3 : zV} : zS 107 36 [u0, u1, u2, u3] [zR s0] sh pp mm Q ↔ zS 107 37 [zU, zU, zU, zU] [zI 1, zR s0] sh pp mm Q := s_go cX_draws_36 cX_draws_37 rfl rfl
theorem rX_draws_37 {s1 : Nat} {s0 : Int} {u0 u1 u2 u3 : zV} : zS 107 37 [u0, u1, u2, u3] [zI s0, zR s1] sh pp mm Q ↔ zS 107 39 [zU, zU, zU, zU] [zI (-3), zI s0, zR s1] sh pp mm Q := s_go cX_draws_37 cX_draws_39 rfl rfl
theorem rX_draws_39 {s2 : Nat} {s0 s1 : Int} {u0 u1 u2 u3 : zV} (hk : zKd sh s2 = 11) : zS 107 39 [u0, u1, u2, u3] [zI s0, zI s1, zR s2] sh pp mm Q ↔ zS 138 0 [zR s2, zI s1, zI s0] [] sh pp mm (fun v sh pp mm => zS 107 42 [zU, zU, zU, zU] (zPush v []) sh pp mm Q) := s_call cX_draws_39 cX_draws_42 ((if_pos hk).trans rfl) rfl
theorem rX_draws_42 {s0 : Int} {u0 u1 u2 u3 : zV} : zS 107 42 [u0, u1, u2, u3] [zI s0] sh pp mm Q ↔ Q (zI s0) sh pp mm := s_ret cX_draws_42 rfl
theorem rX_draws_43 {a3 : Nat} {a2 : Int} {u0 u1 : zV} : zS 107 43 [u0, u1, zI a2, zR a3] [] sh pp mm Q ↔ zS 107 44 [zU, zU, zI a2, zU] [zR a3] sh pp mm Q := s_go cX_draws_43 cX_draws_44 rfl rfl
theorem rX_draws_44 {s0 : Nat} {a2 : Int} {u0 u1 u3 : zV} : zS 107 44 [u0, u1, zI a2, u3] [zR s0] sh pp mm Q ↔ zS 107 45 [zU, zU, zU, zU] [zI a2, zR s0] sh pp mm Q := s_go cX_draws_44 cX_draws_45 rfl rfl
theorem rX_draws_45 {s1 : Nat} {s0 : Int} {u0 u1 u2 u3 : zV} (hk : zKd sh s1 = 1) : zS 107 45 [u0, u1, u2, u3] [zI s0, zR s1] sh pp mm Q ↔ zS 29 0 [zR s1, zI s0] [] sh pp mm (fun v sh pp mm => zS 107 48 [zU, zU, zU, zU] (zPush v []) sh pp mm Q) := s_call cX_draws_45 cX_draws_48 ((if_pos hk).trans rfl) rfl
theorem rX_draws_48 {s0 : Int} {u0 u1 u2 u3 : zV} : zS 107 48 [u0, u1, u2, u3] [zI s0] sh pp mm Q ↔ Q (zI s0) sh pp mm := s_ret cX_draws_48 rfl
theorem cAX_cell : ∀ q ∈ zT108, zCode 108 q.1 = some q.2 := zAll (mid := 108) rfl (by decide +kernel)
theorem cAX_cell_0 : ∀ q ∈ zT108_0, zCode 108 q.1 = some q.2 := fun q h => cAX_cell q (List.mem_append_left _ h)
theorem cAX_cell_1 : ∀ q ∈ zT108_1, zCode 108 q.1 = some q.2 := fun q h => cAX_cell q (List.mem_append_right _ h)
theorem cX_cell_0 : zCode 108 0 = some (.iload_n 1, 1, 0, 0, 0, 0, 15) := cAX_cell_0 _ (List.mem_of_getElem? (i := 0) rfl)
theorem cX_cell_1 : zCode 108 1 = some (.invokestatic 85, 4, 140, 1, 1, 11, 15) := cAX_cell_0 _ (List.mem_of_getElem? (i := 1) rfl)
theorem cX_cell_4 : zCode 108 4 = some (.ifCond .eq 11, 7, 15, 0, 0, 0, 15) := cAX_cell_0 _ (List.mem_of_getElem? (i := 2) rfl)
theorem cX_cell_7 : zCode 108 7 = some (.iload_n 2, 8, 0, 0, 0, 0, 15) := cAX_cell_0 _ (List.mem_of_getElem? (i := 3) rfl)
theorem cX_cell_8 : zCode 108 8 = some (.iload_n 3, 9, 0, 0, 0, 0, 15) := cAX_cell_0 _ (List.mem_of_getElem? (i := 4) rfl)
theorem cX_cell_9 : zCode 108 9 = some (.invokestatic 126, 12, 142, 2, 2, 11, 15) := cAX_cell_0 _ (List.mem_of_getElem? (i := 5) rfl)
theorem cX_cell_12 : zCode 108 12 = some (.ifCond .ne 11, 15, 23, 0, 0, 0, 15) := cAX_cell_0 _ (List.mem_of_getElem? (i := 6) rfl)
theorem cX_cell_15 : zCode 108 15 = some (.aload_n 0, 16, 0, 0, 0, 0, 1) := cAX_cell_0 _ (List.mem_of_getElem? (i := 7) rfl)
theorem cX_cell_16 : zCode 108 16 = some (.iconst 0, 17, 0, 0, 0, 0, 0) := cAX_cell_0 _ (List.mem_of_getElem? (i := 8) rfl)
theorem cX_cell_17 : zCode 108 17 = some (.bipush (-2), 19, 0, 0, 0, 0, 0) := cAX_cell_0 _ (List.mem_of_getElem? (i := 9) rfl)
theorem cX_cell_19 : zCode 108 19 = some (.invokevirtual 72, 22, 138, 2, 3, 11, 0) := cAX_cell_0 _ (List.mem_of_getElem? (i := 10) rfl)
theorem cX_cell_22 : zCode 108 22 = some (.ireturn, 23, 0, 0, 0, 0, 0) := cAX_cell_0 _ (List.mem_of_getElem? (i := 11) rfl)
theorem cX_cell_23 : zCode 108 23 = some (.aload_n 0, 24, 0, 0, 0, 0, 15) := cAX_cell_0 _ (List.mem_of_getElem? (i := 12) rfl)
theorem cX_cell_24 : zCode 108 24 = some (.iload_n 1, 25, 0, 0, 0, 0, 15) := cAX_cell_0 _ (List.mem_of_getElem? (i := 13) rfl)
theorem cX_cell_25 : zCode 108 25 = some (.invokevirtual 118, 28, 148, 1, 4, 11, 13) := cAX_cell_0 _ (List.mem_of_getElem? (i := 14) rfl)
theorem cX_cell_28 : zCode 108 28 = some (.astore 4, 30, 0, 0, 0, 0, 13) := cAX_cell_0 _ (List.mem_of_getElem? (i := 15) rfl)
theorem cX_cell_30 : zCode 108 30 = some (.aload 4, 32, 0, 0, 0, 0, 29) := cAX_cell_1 _ (List.mem_of_getElem? (i := 0) rfl)
theorem cX_cell_32 : zCode 108 32 = some (.ifnonnull 11, 35, 43, 0, 0, 0, 29) := cAX_cell_1 _ (List.mem_of_getElem? (i := 1) rfl)
theorem cX_cell_35 : zCode 108 35 = some (.aload_n 0, 36, 0, 0, 0, 0, 1) := cAX_cell_1 _ (List.mem_of_getElem? (i := 2) rfl)
theorem cX_cell_36 : zCode 108 36 = some (.iconst 1, 37, 0, 0, 0, 0, 0) := cAX_cell_1 _ (List.mem_of_getElem? (i := 3) rfl)
theorem cX_cell_37 : zCode 108 37 = some (.bipush (-3), 39, 0, 0, 0, 0, 0) := cAX_cell_1 _ (List.mem_of_getElem? (i := 4) rfl)
theorem cX_cell_39 : zCode 108 39 = some (.invokevirtual 72, 42, 138, 2, 3, 11, 0) := cAX_cell_1 _ (List.mem_of_getElem? (i := 5) rfl)
theorem cX_cell_42 : zCode 108 42 = some (.ireturn, 43, 0, 0, 0, 0, 0) := cAX_cell_1 _ (List.mem_of_getElem? (i := 6) rfl)
theorem cX_cell_43 : zCode 108 43 = some (.aload 4, 45, 0, 0, 0, 0, 28) := cAX_cell_1 _ (List.mem_of_getElem? (i := 7) rfl)
theorem cX_cell_45 : zCode 108 45 = some (.getfield 130, 48, 1, 0, 2, 464, 12) := cAX_cell_1 _ (List.mem_of_getElem? (i := 8) rfl)
theorem cX_cell_48 : zCode 108 48 = some (.iload_n 2, 49, 0, 0, 0, 0, 12) := cAX_cell_1 _ (List.mem_of_getElem? (i := 9) rfl)
theorem cX_cell_49 : zCode 108 49 = some (.iload_n 3, 50, 0, 0, 0, 0, 8) := cAX_cell_1 _ (List.mem_of_getElem? (i := 10) rfl)
theorem cX_cell_50 : zCode 108 50 = some (.invokestatic 133, 53, 143, 2, 2, 11, 0) := cAX_cell_1 _ (List.mem_of_getElem? (i := 11) rfl)
theorem cX_cell_53 : zCode 108 53 = some (.iaload, 54, 0, 0, 0, 0, 0) := cAX_cell_1 _ (List.mem_of_getElem? (i := 12) rfl)
theorem cX_cell_54 : zCode 108 54 = some (.ireturn, 55, 0, 0, 0, 0, 0) := cAX_cell_1 _ (List.mem_of_getElem? (i := 13) rfl)
theorem rX_cell_0 {a0 : Nat} {a1 a2 a3 : Int} {u4 : zV} : zS 108 0 [zR a0, zI a1, zI a2, zI a3, u4] [] sh pp mm Q ↔ zS 108 1 [zR a0, zI a1, zI a2, zI a3, zU] [zI a1] sh pp mm Q := s_go cX_cell_0 cX_cell_1 rfl rfl
theorem rX_cell_1 {a0 : Nat} {a1 a2 a3 s0 : Int} {u4 : zV} : zS 108 1 [zR a0, zI a1, zI a2, zI a3, u4] [zI s0] sh pp mm Q ↔ zS 140 0 [zI s0] [] sh pp mm (fun v sh pp mm => zS 108 4 [zR a0, zI a1, zI a2, zI a3, zU] (zPush v []) sh pp mm Q) := s_call cX_cell_1 cX_cell_4 rfl rfl
theorem rX_cell_4 {a0 : Nat} {a1 a2 a3 s0 : Int} {u4 : zV} : zS 108 4 [zR a0, zI a1, zI a2, zI a3, u4] [zI s0] sh pp mm Q ↔ (s0 = 0 → zS 108 15 [zR a0, zU, zU, zU, zU] [] sh pp mm Q) ∧ (¬ s0 = 0 → zS 108 7 [zR a0, zI a1, zI a2, zI a3, zU] [] sh pp mm Q) := s_if cX_cell_4 cX_cell_15 cX_cell_7 rfl rfl rfl
theorem rX_cell_7 {a0 : Nat} {a1 a2 a3 : Int} {u4 : zV} : zS 108 7 [zR a0, zI a1, zI a2, zI a3, u4] [] sh pp mm Q ↔ zS 108 8 [zR a0, zI a1, zI a2, zI a3, zU] [zI a2] sh pp mm Q := s_go cX_cell_7 cX_cell_8 rfl rfl
theorem rX_cell_8 {a0 : Nat} {a1 a2 a3 s0 : Int} {u4 : zV} : zS 108 8 [zR a0, zI a1, zI a2, zI a3, u4] [zI s0] sh pp mm Q ↔ zS 108 9 [zR a0, zI a1, zI a2, zI a3, zU] [zI a3, zI s0] sh pp mm Q := s_go cX_cell_8 cX_cell_9 rfl rfl
theorem rX_cell_9 {a0 : Nat} {a1 a2 a3 s0 s1 : Int} {u4 : zV} : zS 108 9 [zR a0, zI a1, zI a2, zI a3, u4] [zI s0, zI s1] sh pp mm Q ↔ zS 142 0 [zI s1, zI s0] [] sh pp mm (fun v sh pp mm => zS 108 12 [zR a0, zI a1, zI a2, zI a3, zU] (zPush v []) sh pp mm Q) := s_call cX_cell_9 cX_cell_12 rfl rfl
theorem rX_cell_12 {a0 : Nat} {a1 a2 a3 s0 : Int} {u4 : zV} : zS 108 12 [zR a0, zI a1, zI a2, zI a3, u4] [zI s0] sh pp mm Q ↔ (s0 = 0 → zS 108 15 [zR a0, zU, zU, zU, zU] [] sh pp mm Q) ∧ (¬ s0 = 0 → zS 108 23 [zR a0, zI a1, zI a2, zI a3, zU] [] sh pp mm Q) := s_ifn cX_cell_12 cX_cell_15 cX_cell_23 rfl rfl rfl
theorem rX_cell_15 {a0 : Nat} {u1 u2 u3 u4 : zV} : zS 108 15 [zR a0, u1, u2, u3, u4] [] sh pp mm Q ↔ zS 108 16 [zU, zU, zU, zU, zU] [zR a0] sh pp mm Q := s_go cX_cell_15 cX_cell_16 rfl rfl
theorem rX_cell_16 {s0 : Nat} {u0 u1 u2 u3 u4 : zV} : zS 108 16 [u0, u1, u2, u3, u4] [zR s0] sh pp mm Q ↔ zS 108 17 [zU, zU, zU, zU, zU] [zI 0, zR s0] sh pp mm Q := s_go cX_cell_16 cX_cell_17 rfl rfl
theorem rX_cell_17 {s1 : Nat} {s0 : Int} {u0 u1 u2 u3 u4 : zV} : zS 108 17 [u0, u1, u2, u3, u4] [zI s0, zR s1] sh pp mm Q ↔ zS 108 19 [zU, zU, zU, zU, zU] [zI (-2), zI s0, zR s1] sh pp mm Q := s_go cX_cell_17 cX_cell_19 rfl rfl
theorem rX_cell_19 {s2 : Nat} {s0 s1 : Int} {u0 u1 u2 u3 u4 : zV} (hk : zKd sh s2 = 11) : zS 108 19 [u0, u1, u2, u3, u4] [zI s0, zI s1, zR s2] sh pp mm Q ↔ zS 138 0 [zR s2, zI s1, zI s0] [] sh pp mm (fun v sh pp mm => zS 108 22 [zU, zU, zU, zU, zU] (zPush v []) sh pp mm Q) := s_call cX_cell_19 cX_cell_22 ((if_pos hk).trans rfl) rfl
theorem rX_cell_22 {s0 : Int} {u0 u1 u2 u3 u4 : zV} : zS 108 22 [u0, u1, u2, u3, u4] [zI s0] sh pp mm Q ↔ Q (zI s0) sh pp mm := s_ret cX_cell_22 rfl
theorem rX_cell_23 {a0 : Nat} {a1 a2 a3 : Int} {u4 : zV} : zS 108 23 [zR a0, zI a1, zI a2, zI a3, u4] [] sh pp mm Q ↔ zS 108 24 [zR a0, zI a1, zI a2, zI a3, zU] [zR a0] sh pp mm Q := s_go cX_cell_23 cX_cell_24 rfl rfl
theorem rX_cell_24 {a0 s0 : Nat} {a1 a2 a3 : Int} {u4 : zV} : zS 108 24 [zR a0, zI a1, zI a2, zI a3, u4] [zR s0] sh pp mm Q ↔ zS 108 25 [zR a0, zU, zI a2, zI a3, zU] [zI a1, zR s0] sh pp mm Q := s_go cX_cell_24 cX_cell_25 rfl rfl
theorem rX_cell_25 {a0 s1 : Nat} {a2 a3 s0 : Int} {u1 u4 : zV} (hk : zKd sh s1 = 11) : zS 108 25 [zR a0, u1, zI a2, zI a3, u4] [zI s0, zR s1] sh pp mm Q ↔ zS 148 0 [zR s1, zI s0, zU, zU] [] sh pp mm (fun v sh pp mm => zS 108 28 [zR a0, zU, zI a2, zI a3, zU] (zPush v []) sh pp mm Q) := s_call cX_cell_25 cX_cell_28 ((if_pos hk).trans rfl) rfl
theorem rX_cell_28 {a0 s0 : Nat} {a2 a3 : Int} {u1 u4 : zV} : zS 108 28 [zR a0, u1, zI a2, zI a3, u4] [zR s0] sh pp mm Q ↔ zS 108 30 [zR a0, zU, zI a2, zI a3, zR s0] [] sh pp mm Q := s_go cX_cell_28 cX_cell_30 rfl rfl
theorem rX_cell_30 {a0 a4 : Nat} {a2 a3 : Int} {u1 : zV} : zS 108 30 [zR a0, u1, zI a2, zI a3, zR a4] [] sh pp mm Q ↔ zS 108 32 [zR a0, zU, zI a2, zI a3, zR a4] [zR a4] sh pp mm Q := s_go cX_cell_30 cX_cell_32 rfl rfl
theorem rX_cell_32 {a0 a4 s0 : Nat} {a2 a3 : Int} {u1 : zV} : zS 108 32 [zR a0, u1, zI a2, zI a3, zR a4] [zR s0] sh pp mm Q ↔ (s0 = 0 → zS 108 35 [zR a0, zU, zU, zU, zU] [] sh pp mm Q) ∧ (¬ s0 = 0 → zS 108 43 [zU, zU, zI a2, zI a3, zR a4] [] sh pp mm Q) := s_br cX_cell_32 cX_cell_35 cX_cell_43 rfl rfl rfl
theorem rX_cell_35 {a0 : Nat} {u1 u2 u3 u4 : zV} : zS 108 35 [zR a0, u1, u2, u3, u4] [] sh pp mm Q ↔ zS 108 36 [zU, zU, zU, zU, zU] [zR a0] sh pp mm Q := s_go cX_cell_35 cX_cell_36 rfl rfl
theorem rX_cell_36 {s0 : Nat} {u0 u1 u2 u3 u4 : zV} : zS 108 36 [u0, u1, u2, u3, u4] [zR s0] sh pp mm Q ↔ zS 108 37 [zU, zU, zU, zU, zU] [zI 1, zR s0] sh pp mm Q := s_go cX_cell_36 cX_cell_37 rfl rfl
theorem rX_cell_37 {s1 : Nat} {s0 : Int} {u0 u1 u2 u3 u4 : zV} : zS 108 37 [u0, u1, u2, u3, u4] [zI s0, zR s1] sh pp mm Q ↔ zS 108 39 [zU, zU, zU, zU, zU] [zI (-3), zI s0, zR s1] sh pp mm Q := s_go cX_cell_37 cX_cell_39 rfl rfl
theorem rX_cell_39 {s2 : Nat} {s0 s1 : Int} {u0 u1 u2 u3 u4 : zV} (hk : zKd sh s2 = 11) : zS 108 39 [u0, u1, u2, u3, u4] [zI s0, zI s1, zR s2] sh pp mm Q ↔ zS 138 0 [zR s2, zI s1, zI s0] [] sh pp mm (fun v sh pp mm => zS 108 42 [zU, zU, zU, zU, zU] (zPush v []) sh pp mm Q) := s_call cX_cell_39 cX_cell_42 ((if_pos hk).trans rfl) rfl
theorem rX_cell_42 {s0 : Int} {u0 u1 u2 u3 u4 : zV} : zS 108 42 [u0, u1, u2, u3, u4] [zI s0] sh pp mm Q ↔ Q (zI s0) sh pp mm := s_ret cX_cell_42 rfl
theorem rX_cell_43 {a4 : Nat} {a2 a3 : Int} {u0 u1 : zV} : zS 108 43 [u0, u1, zI a2, zI a3, zR a4] [] sh pp mm Q ↔ zS 108 45 [zU, zU, zI a2, zI a3, zU] [zR a4] sh pp mm Q := s_go cX_cell_43 cX_cell_45 rfl rfl
theorem rX_cell_45 {s0 : Nat} {a2 a3 : Int} {u0 u1 u4 : zV} (hk : zKd sh s0 = 1) : zS 108 45 [u0, u1, zI a2, zI a3, u4] [zR s0] sh pp mm Q ↔ zS 108 48 [zU, zU, zI a2, zI a3, zU] [zR (pp s0 0)] sh pp mm Q := s_go cX_cell_45 cX_cell_48 (if_pos hk) rfl
theorem rX_cell_48 {s0 : Nat} {a2 a3 : Int} {u0 u1 u4 : zV} : zS 108 48 [u0, u1, zI a2, zI a3, u4] [zR s0] sh pp mm Q ↔ zS 108 49 [zU, zU, zU, zI a3, zU] [zI a2, zR s0] sh pp mm Q := s_go cX_cell_48 cX_cell_49 rfl rfl
theorem rX_cell_49 {s1 : Nat} {a3 s0 : Int} {u0 u1 u2 u4 : zV} : zS 108 49 [u0, u1, u2, zI a3, u4] [zI s0, zR s1] sh pp mm Q ↔ zS 108 50 [zU, zU, zU, zU, zU] [zI a3, zI s0, zR s1] sh pp mm Q := s_go cX_cell_49 cX_cell_50 rfl rfl
theorem rX_cell_50 {s2 : Nat} {s0 s1 : Int} {u0 u1 u2 u3 u4 : zV} : zS 108 50 [u0, u1, u2, u3, u4] [zI s0, zI s1, zR s2] sh pp mm Q ↔ zS 143 0 [zI s1, zI s0] [] sh pp mm (fun v sh pp mm => zS 108 53 [zU, zU, zU, zU, zU] (zPush v [zR s2]) sh pp mm Q) := s_call cX_cell_50 cX_cell_53 rfl rfl
theorem rX_cell_53 {s1 : Nat} {s0 : Int} {u0 u1 u2 u3 u4 : zV} (hk : zKd sh s1 = 20 ∨ zKd sh s1 = 30) (h0 : 0 ≤ s0) (h1 : s0 < zLn sh s1) : zS 108 53 [u0, u1, u2, u3, u4] [zI s0, zR s1] sh pp mm Q ↔ zS 108 54 [zU, zU, zU, zU, zU] [zI (mm s1 s0)] sh pp mm Q := s_go cX_cell_53 cX_cell_54 (if_pos ⟨hk, h0, h1⟩) rfl
theorem rX_cell_54 {s0 : Int} {u0 u1 u2 u3 u4 : zV} : zS 108 54 [u0, u1, u2, u3, u4] [zI s0] sh pp mm Q ↔ Q (zI s0) sh pp mm := s_ret cX_cell_54 rfl
theorem cAX_point : ∀ q ∈ zT109, zCode 109 q.1 = some q.2 := zAll (mid := 109) rfl (by decide +kernel)
theorem cAX_point_0 : ∀ q ∈ zT109_0, zCode 109 q.1 = some q.2 := fun q h => cAX_point q (List.mem_append_left _ h)
theorem cAX_point_1 : ∀ q ∈ zT109_1, zCode 109 q.1 = some q.2 := fun q h => cAX_point q (List.mem_append_right _ h)
theorem cX_point_0 : zCode 109 0 = some (.iload_n 1, 1, 0, 0, 0, 0, 7) := cAX_point_0 _ (List.mem_of_getElem? (i := 0) rfl)
theorem cX_point_1 : zCode 109 1 = some (.invokestatic 85, 4, 140, 1, 1, 11, 7) := cAX_point_0 _ (List.mem_of_getElem? (i := 1) rfl)
theorem cX_point_4 : zCode 109 4 = some (.ifCond .eq 7, 7, 11, 0, 0, 0, 7) := cAX_point_0 _ (List.mem_of_getElem? (i := 2) rfl)
theorem cX_point_7 : zCode 109 7 = some (.iload_n 2, 8, 0, 0, 0, 0, 7) := cAX_point_0 _ (List.mem_of_getElem? (i := 3) rfl)
theorem cX_point_8 : zCode 109 8 = some (.ifCond .ge 11, 11, 19, 0, 0, 0, 7) := cAX_point_0 _ (List.mem_of_getElem? (i := 4) rfl)
theorem cX_point_11 : zCode 109 11 = some (.aload_n 0, 12, 0, 0, 0, 0, 1) := cAX_point_0 _ (List.mem_of_getElem? (i := 5) rfl)
theorem cX_point_12 : zCode 109 12 = some (.iconst 0, 13, 0, 0, 0, 0, 0) := cAX_point_0 _ (List.mem_of_getElem? (i := 6) rfl)
theorem cX_point_13 : zCode 109 13 = some (.bipush (-10), 15, 0, 0, 0, 0, 0) := cAX_point_0 _ (List.mem_of_getElem? (i := 7) rfl)
theorem cX_point_15 : zCode 109 15 = some (.invokevirtual 72, 18, 138, 2, 3, 11, 0) := cAX_point_0 _ (List.mem_of_getElem? (i := 8) rfl)
theorem cX_point_18 : zCode 109 18 = some (.ireturn, 19, 0, 0, 0, 0, 0) := cAX_point_0 _ (List.mem_of_getElem? (i := 9) rfl)
theorem cX_point_19 : zCode 109 19 = some (.aload_n 0, 20, 0, 0, 0, 0, 7) := cAX_point_0 _ (List.mem_of_getElem? (i := 10) rfl)
theorem cX_point_20 : zCode 109 20 = some (.iload_n 1, 21, 0, 0, 0, 0, 7) := cAX_point_0 _ (List.mem_of_getElem? (i := 11) rfl)
theorem cX_point_21 : zCode 109 21 = some (.invokevirtual 118, 24, 148, 1, 4, 11, 5) := cAX_point_0 _ (List.mem_of_getElem? (i := 12) rfl)
theorem cX_point_24 : zCode 109 24 = some (.astore_n 3, 25, 0, 0, 0, 0, 5) := cAX_point_0 _ (List.mem_of_getElem? (i := 13) rfl)
theorem cX_point_25 : zCode 109 25 = some (.aload_n 3, 26, 0, 0, 0, 0, 13) := cAX_point_0 _ (List.mem_of_getElem? (i := 14) rfl)
theorem cX_point_26 : zCode 109 26 = some (.ifnonnull 11, 29, 37, 0, 0, 0, 13) := cAX_point_0 _ (List.mem_of_getElem? (i := 15) rfl)
theorem cX_point_29 : zCode 109 29 = some (.aload_n 0, 30, 0, 0, 0, 0, 1) := cAX_point_1 _ (List.mem_of_getElem? (i := 0) rfl)
theorem cX_point_30 : zCode 109 30 = some (.iconst 1, 31, 0, 0, 0, 0, 0) := cAX_point_1 _ (List.mem_of_getElem? (i := 1) rfl)
theorem cX_point_31 : zCode 109 31 = some (.bipush (-20), 33, 0, 0, 0, 0, 0) := cAX_point_1 _ (List.mem_of_getElem? (i := 2) rfl)
theorem cX_point_33 : zCode 109 33 = some (.invokevirtual 72, 36, 138, 2, 3, 11, 0) := cAX_point_1 _ (List.mem_of_getElem? (i := 3) rfl)
theorem cX_point_36 : zCode 109 36 = some (.ireturn, 37, 0, 0, 0, 0, 0) := cAX_point_1 _ (List.mem_of_getElem? (i := 4) rfl)
theorem cX_point_37 : zCode 109 37 = some (.iload_n 2, 38, 0, 0, 0, 0, 12) := cAX_point_1 _ (List.mem_of_getElem? (i := 5) rfl)
theorem cX_point_38 : zCode 109 38 = some (.aload_n 3, 39, 0, 0, 0, 0, 12) := cAX_point_1 _ (List.mem_of_getElem? (i := 6) rfl)
theorem cX_point_39 : zCode 109 39 = some (.getfield 136, 42, 1, 2, 0, 468, 12) := cAX_point_1 _ (List.mem_of_getElem? (i := 7) rfl)
theorem cX_point_42 : zCode 109 42 = some (.if_icmp .le 8, 45, 50, 0, 0, 0, 12) := cAX_point_1 _ (List.mem_of_getElem? (i := 8) rfl)
theorem cX_point_45 : zCode 109 45 = some (.bipush (-5), 47, 0, 0, 0, 0, 0) := cAX_point_1 _ (List.mem_of_getElem? (i := 9) rfl)
theorem cX_point_47 : zCode 109 47 = some (.goto 9, 50, 56, 0, 0, 0, 0) := cAX_point_1 _ (List.mem_of_getElem? (i := 10) rfl)
theorem cX_point_50 : zCode 109 50 = some (.aload_n 3, 51, 0, 0, 0, 0, 12) := cAX_point_1 _ (List.mem_of_getElem? (i := 11) rfl)
theorem cX_point_51 : zCode 109 51 = some (.getfield 139, 54, 1, 1, 2, 466, 4) := cAX_point_1 _ (List.mem_of_getElem? (i := 12) rfl)
theorem cX_point_54 : zCode 109 54 = some (.iload_n 2, 55, 0, 0, 0, 0, 4) := cAX_point_1 _ (List.mem_of_getElem? (i := 13) rfl)
theorem cX_point_55 : zCode 109 55 = some (.iaload, 56, 0, 0, 0, 0, 0) := cAX_point_1 _ (List.mem_of_getElem? (i := 14) rfl)
theorem cX_point_56 : zCode 109 56 = some (.ireturn, 57, 0, 0, 0, 0, 0) := cAX_point_1 _ (List.mem_of_getElem? (i := 15) rfl)
theorem rX_point_0 {a0 : Nat} {a1 a2 : Int} {u3 : zV} : zS 109 0 [zR a0, zI a1, zI a2, u3] [] sh pp mm Q ↔ zS 109 1 [zR a0, zI a1, zI a2, zU] [zI a1] sh pp mm Q := s_go cX_point_0 cX_point_1 rfl rfl
theorem rX_point_1 {a0 : Nat} {a1 a2 s0 : Int} {u3 : zV} : zS 109 1 [zR a0, zI a1, zI a2, u3] [zI s0] sh pp mm Q ↔ zS 140 0 [zI s0] [] sh pp mm (fun v sh pp mm => zS 109 4 [zR a0, zI a1, zI a2, zU] (zPush v []) sh pp mm Q) := s_call cX_point_1 cX_point_4 rfl rfl
theorem rX_point_4 {a0 : Nat} {a1 a2 s0 : Int} {u3 : zV} : zS 109 4 [zR a0, zI a1, zI a2, u3] [zI s0] sh pp mm Q ↔ (s0 = 0 → zS 109 11 [zR a0, zU, zU, zU] [] sh pp mm Q) ∧ (¬ s0 = 0 → zS 109 7 [zR a0, zI a1, zI a2, zU] [] sh pp mm Q) := s_if cX_point_4 cX_point_11 cX_point_7 rfl rfl rfl
theorem rX_point_7 {a0 : Nat} {a1 a2 : Int} {u3 : zV} : zS 109 7 [zR a0, zI a1, zI a2, u3] [] sh pp mm Q ↔ zS 109 8 [zR a0, zI a1, zI a2, zU] [zI a2] sh pp mm Q := s_go cX_point_7 cX_point_8 rfl rfl
theorem rX_point_8 {a0 : Nat} {a1 a2 s0 : Int} {u3 : zV} : zS 109 8 [zR a0, zI a1, zI a2, u3] [zI s0] sh pp mm Q ↔ (s0 < 0 → zS 109 11 [zR a0, zU, zU, zU] [] sh pp mm Q) ∧ (¬ s0 < 0 → zS 109 19 [zR a0, zI a1, zI a2, zU] [] sh pp mm Q) := s_ifn cX_point_8 cX_point_11 cX_point_19 rfl rfl rfl
theorem rX_point_11 {a0 : Nat} {u1 u2 u3 : zV} : zS 109 11 [zR a0, u1, u2, u3] [] sh pp mm Q ↔ zS 109 12 [zU, zU, zU, zU] [zR a0] sh pp mm Q := s_go cX_point_11 cX_point_12 rfl rfl
theorem rX_point_12 {s0 : Nat} {u0 u1 u2 u3 : zV} : zS 109 12 [u0, u1, u2, u3] [zR s0] sh pp mm Q ↔ zS 109 13 [zU, zU, zU, zU] [zI 0, zR s0] sh pp mm Q := s_go cX_point_12 cX_point_13 rfl rfl
theorem rX_point_13 {s1 : Nat} {s0 : Int} {u0 u1 u2 u3 : zV} : zS 109 13 [u0, u1, u2, u3] [zI s0, zR s1] sh pp mm Q ↔ zS 109 15 [zU, zU, zU, zU] [zI (-10), zI s0, zR s1] sh pp mm Q := s_go cX_point_13 cX_point_15 rfl rfl
theorem rX_point_15 {s2 : Nat} {s0 s1 : Int} {u0 u1 u2 u3 : zV} (hk : zKd sh s2 = 11) : zS 109 15 [u0, u1, u2, u3] [zI s0, zI s1, zR s2] sh pp mm Q ↔ zS 138 0 [zR s2, zI s1, zI s0] [] sh pp mm (fun v sh pp mm => zS 109 18 [zU, zU, zU, zU] (zPush v []) sh pp mm Q) := s_call cX_point_15 cX_point_18 ((if_pos hk).trans rfl) rfl
theorem rX_point_18 {s0 : Int} {u0 u1 u2 u3 : zV} : zS 109 18 [u0, u1, u2, u3] [zI s0] sh pp mm Q ↔ Q (zI s0) sh pp mm := s_ret cX_point_18 rfl
theorem rX_point_19 {a0 : Nat} {a1 a2 : Int} {u3 : zV} : zS 109 19 [zR a0, zI a1, zI a2, u3] [] sh pp mm Q ↔ zS 109 20 [zR a0, zI a1, zI a2, zU] [zR a0] sh pp mm Q := s_go cX_point_19 cX_point_20 rfl rfl
theorem rX_point_20 {a0 s0 : Nat} {a1 a2 : Int} {u3 : zV} : zS 109 20 [zR a0, zI a1, zI a2, u3] [zR s0] sh pp mm Q ↔ zS 109 21 [zR a0, zU, zI a2, zU] [zI a1, zR s0] sh pp mm Q := s_go cX_point_20 cX_point_21 rfl rfl
theorem rX_point_21 {a0 s1 : Nat} {a2 s0 : Int} {u1 u3 : zV} (hk : zKd sh s1 = 11) : zS 109 21 [zR a0, u1, zI a2, u3] [zI s0, zR s1] sh pp mm Q ↔ zS 148 0 [zR s1, zI s0, zU, zU] [] sh pp mm (fun v sh pp mm => zS 109 24 [zR a0, zU, zI a2, zU] (zPush v []) sh pp mm Q) := s_call cX_point_21 cX_point_24 ((if_pos hk).trans rfl) rfl
theorem rX_point_24 {a0 s0 : Nat} {a2 : Int} {u1 u3 : zV} : zS 109 24 [zR a0, u1, zI a2, u3] [zR s0] sh pp mm Q ↔ zS 109 25 [zR a0, zU, zI a2, zR s0] [] sh pp mm Q := s_go cX_point_24 cX_point_25 rfl rfl
theorem rX_point_25 {a0 a3 : Nat} {a2 : Int} {u1 : zV} : zS 109 25 [zR a0, u1, zI a2, zR a3] [] sh pp mm Q ↔ zS 109 26 [zR a0, zU, zI a2, zR a3] [zR a3] sh pp mm Q := s_go cX_point_25 cX_point_26 rfl rfl
theorem rX_point_26 {a0 a3 s0 : Nat} {a2 : Int} {u1 : zV} : zS 109 26 [zR a0, u1, zI a2, zR a3] [zR s0] sh pp mm Q ↔ (s0 = 0 → zS 109 29 [zR a0, zU, zU, zU] [] sh pp mm Q) ∧ (¬ s0 = 0 → zS 109 37 [zU, zU, zI a2, zR a3] [] sh pp mm Q) := s_br cX_point_26 cX_point_29 cX_point_37 rfl rfl rfl
theorem rX_point_29 {a0 : Nat} {u1 u2 u3 : zV} : zS 109 29 [zR a0, u1, u2, u3] [] sh pp mm Q ↔ zS 109 30 [zU, zU, zU, zU] [zR a0] sh pp mm Q := s_go cX_point_29 cX_point_30 rfl rfl
theorem rX_point_30 {s0 : Nat} {u0 u1 u2 u3 : zV} : zS 109 30 [u0, u1, u2, u3] [zR s0] sh pp mm Q ↔ zS 109 31 [zU, zU, zU, zU] [zI 1, zR s0] sh pp mm Q := s_go cX_point_30 cX_point_31 rfl rfl
theorem rX_point_31 {s1 : Nat} {s0 : Int} {u0 u1 u2 u3 : zV} : zS 109 31 [u0, u1, u2, u3] [zI s0, zR s1] sh pp mm Q ↔ zS 109 33 [zU, zU, zU, zU] [zI (-20), zI s0, zR s1] sh pp mm Q := s_go cX_point_31 cX_point_33 rfl rfl
theorem rX_point_33 {s2 : Nat} {s0 s1 : Int} {u0 u1 u2 u3 : zV} (hk : zKd sh s2 = 11) : zS 109 33 [u0, u1, u2, u3] [zI s0, zI s1, zR s2] sh pp mm Q ↔ zS 138 0 [zR s2, zI s1, zI s0] [] sh pp mm (fun v sh pp mm => zS 109 36 [zU, zU, zU, zU] (zPush v []) sh pp mm Q) := s_call cX_point_33 cX_point_36 ((if_pos hk).trans rfl) rfl
theorem rX_point_36 {s0 : Int} {u0 u1 u2 u3 : zV} : zS 109 36 [u0, u1, u2, u3] [zI s0] sh pp mm Q ↔ Q (zI s0) sh pp mm := s_ret cX_point_36 rfl
theorem rX_point_37 {a3 : Nat} {a2 : Int} {u0 u1 : zV} : zS 109 37 [u0, u1, zI a2, zR a3] [] sh pp mm Q ↔ zS 109 38 [zU, zU, zI a2, zR a3] [zI a2] sh pp mm Q := s_go cX_point_37 cX_point_38 rfl rfl
theorem rX_point_38 {a3 : Nat} {a2 s0 : Int} {u0 u1 : zV} : zS 109 38 [u0, u1, zI a2, zR a3] [zI s0] sh pp mm Q ↔ zS 109 39 [zU, zU, zI a2, zR a3] [zR a3, zI s0] sh pp mm Q := s_go cX_point_38 cX_point_39 rfl rfl
theorem rX_point_39 {a3 s0 : Nat} {a2 s1 : Int} {u0 u1 : zV} (hk : zKd sh s0 = 1) : zS 109 39 [u0, u1, zI a2, zR a3] [zR s0, zI s1] sh pp mm Q ↔ zS 109 42 [zU, zU, zI a2, zR a3] [zI (mm s0 2), zI s1] sh pp mm Q := s_go cX_point_39 cX_point_42 (if_pos hk) rfl
theorem rX_point_42 {a3 : Nat} {a2 s0 s1 : Int} {u0 u1 : zV} : zS 109 42 [u0, u1, zI a2, zR a3] [zI s0, zI s1] sh pp mm Q ↔ (s0 < s1 → zS 109 45 [zU, zU, zU, zU] [] sh pp mm Q) ∧ (¬ s0 < s1 → zS 109 50 [zU, zU, zI a2, zR a3] [] sh pp mm Q) := s_ifn cX_point_42 cX_point_45 cX_point_50 rfl rfl rfl
theorem rX_point_45 {u0 u1 u2 u3 : zV} : zS 109 45 [u0, u1, u2, u3] [] sh pp mm Q ↔ zS 109 47 [zU, zU, zU, zU] [zI (-5)] sh pp mm Q := s_go cX_point_45 cX_point_47 rfl rfl
theorem rX_point_47 {s0 : Int} {u0 u1 u2 u3 : zV} : zS 109 47 [u0, u1, u2, u3] [zI s0] sh pp mm Q ↔ zS 109 56 [zU, zU, zU, zU] [zI s0] sh pp mm Q := s_go cX_point_47 cX_point_56 rfl rfl
theorem rX_point_50 {a3 : Nat} {a2 : Int} {u0 u1 : zV} : zS 109 50 [u0, u1, zI a2, zR a3] [] sh pp mm Q ↔ zS 109 51 [zU, zU, zI a2, zU] [zR a3] sh pp mm Q := s_go cX_point_50 cX_point_51 rfl rfl
theorem rX_point_51 {s0 : Nat} {a2 : Int} {u0 u1 u3 : zV} (hk : zKd sh s0 = 1) : zS 109 51 [u0, u1, zI a2, u3] [zR s0] sh pp mm Q ↔ zS 109 54 [zU, zU, zI a2, zU] [zR (pp s0 1)] sh pp mm Q := s_go cX_point_51 cX_point_54 (if_pos hk) rfl
theorem rX_point_54 {s0 : Nat} {a2 : Int} {u0 u1 u3 : zV} : zS 109 54 [u0, u1, zI a2, u3] [zR s0] sh pp mm Q ↔ zS 109 55 [zU, zU, zU, zU] [zI a2, zR s0] sh pp mm Q := s_go cX_point_54 cX_point_55 rfl rfl
theorem rX_point_55 {s1 : Nat} {s0 : Int} {u0 u1 u2 u3 : zV} (hk : zKd sh s1 = 20 ∨ zKd sh s1 = 30) (h0 : 0 ≤ s0) (h1 : s0 < zLn sh s1) : zS 109 55 [u0, u1, u2, u3] [zI s0, zR s1] sh pp mm Q ↔ zS 109 56 [zU, zU, zU, zU] [zI (mm s1 s0)] sh pp mm Q := s_go cX_point_55 cX_point_56 (if_pos ⟨hk, h0, h1⟩) rfl
theorem rX_point_56 {s0 : Int} {u0 u1 u2 u3 : zV} : zS 109 56 [u0, u1, u2, u3] [zI s0] sh pp mm Q ↔ Q (zI s0) sh pp mm := s_ret cX_point_56 rfl
theorem cAX_same : ∀ q ∈ zT110, zCode 110 q.1 = some q.2 := zAll (mid := 110) rfl (by decide +kernel)
theorem cAX_same_0 : ∀ q ∈ zT110_0, zCode 110 q.1 = some q.2 := fun q h => cAX_same q (List.mem_append_left _ h)
theorem cAX_same_1 : ∀ q ∈ zT110_1, zCode 110 q.1 = some q.2 := fun q h => cAX_same q (List.mem_append_right _ (List.mem_append_left _ h))
theorem cAX_same_2 : ∀ q ∈ zT110_2, zCode 110 q.1 = some q.2 := fun q h => cAX_same q (List.mem_append_right _ (List.mem_append_right _ h))
theorem cX_same_0 : zCode 110 0 = some (.iload_n 1, 1, 0, 0, 0, 0, 7) := cAX_same_0 _ (List.mem_of_getElem? (i := 0) rfl)
theorem cX_same_1 : zCode 110 1 = some (.invokestatic 85, 4, 140, 1, 1, 11, 7) := cAX_same_0 _ (List.mem_of_getElem? (i := 1) rfl)
theorem cX_same_4 : zCode 110 4 = some (.ifCond .eq 10, 7, 14, 0, 0, 0, 7) := cAX_same_0 _ (List.mem_of_getElem? (i := 2) rfl)
theorem cX_same_7 : zCode 110 7 = some (.iload_n 2, 8, 0, 0, 0, 0, 7) := cAX_same_0 _ (List.mem_of_getElem? (i := 3) rfl)
theorem cX_same_8 : zCode 110 8 = some (.invokestatic 85, 11, 140, 1, 1, 11, 7) := cAX_same_0 _ (List.mem_of_getElem? (i := 4) rfl)
theorem cX_same_11 : zCode 110 11 = some (.ifCond .ne 11, 14, 22, 0, 0, 0, 7) := cAX_same_0 _ (List.mem_of_getElem? (i := 5) rfl)
theorem cX_same_14 : zCode 110 14 = some (.aload_n 0, 15, 0, 0, 0, 0, 1) := cAX_same_0 _ (List.mem_of_getElem? (i := 6) rfl)
theorem cX_same_15 : zCode 110 15 = some (.iconst 0, 16, 0, 0, 0, 0, 0) := cAX_same_0 _ (List.mem_of_getElem? (i := 7) rfl)
theorem cX_same_16 : zCode 110 16 = some (.bipush (-2), 18, 0, 0, 0, 0, 0) := cAX_same_0 _ (List.mem_of_getElem? (i := 8) rfl)
theorem cX_same_18 : zCode 110 18 = some (.invokevirtual 72, 21, 138, 2, 3, 11, 0) := cAX_same_0 _ (List.mem_of_getElem? (i := 9) rfl)
theorem cX_same_21 : zCode 110 21 = some (.ireturn, 22, 0, 0, 0, 0, 0) := cAX_same_0 _ (List.mem_of_getElem? (i := 10) rfl)
theorem cX_same_22 : zCode 110 22 = some (.aload_n 0, 23, 0, 0, 0, 0, 7) := cAX_same_0 _ (List.mem_of_getElem? (i := 11) rfl)
theorem cX_same_23 : zCode 110 23 = some (.iload_n 1, 24, 0, 0, 0, 0, 7) := cAX_same_0 _ (List.mem_of_getElem? (i := 12) rfl)
theorem cX_same_24 : zCode 110 24 = some (.invokevirtual 118, 27, 148, 1, 4, 11, 5) := cAX_same_0 _ (List.mem_of_getElem? (i := 13) rfl)
theorem cX_same_27 : zCode 110 27 = some (.astore_n 3, 28, 0, 0, 0, 0, 5) := cAX_same_0 _ (List.mem_of_getElem? (i := 14) rfl)
theorem cX_same_28 : zCode 110 28 = some (.aload_n 0, 29, 0, 0, 0, 0, 13) := cAX_same_0 _ (List.mem_of_getElem? (i := 15) rfl)
theorem cX_same_29 : zCode 110 29 = some (.iload_n 2, 30, 0, 0, 0, 0, 13) := cAX_same_1 _ (List.mem_of_getElem? (i := 0) rfl)
theorem cX_same_30 : zCode 110 30 = some (.invokevirtual 118, 33, 148, 1, 4, 11, 9) := cAX_same_1 _ (List.mem_of_getElem? (i := 1) rfl)
theorem cX_same_33 : zCode 110 33 = some (.astore 4, 35, 0, 0, 0, 0, 9) := cAX_same_1 _ (List.mem_of_getElem? (i := 2) rfl)
theorem cX_same_35 : zCode 110 35 = some (.aload_n 3, 36, 0, 0, 0, 0, 25) := cAX_same_1 _ (List.mem_of_getElem? (i := 3) rfl)
theorem cX_same_36 : zCode 110 36 = some (.ifnull 8, 39, 44, 0, 0, 0, 25) := cAX_same_1 _ (List.mem_of_getElem? (i := 4) rfl)
theorem cX_same_39 : zCode 110 39 = some (.aload 4, 41, 0, 0, 0, 0, 25) := cAX_same_1 _ (List.mem_of_getElem? (i := 5) rfl)
theorem cX_same_41 : zCode 110 41 = some (.ifnonnull 11, 44, 52, 0, 0, 0, 25) := cAX_same_1 _ (List.mem_of_getElem? (i := 6) rfl)
theorem cX_same_44 : zCode 110 44 = some (.aload_n 0, 45, 0, 0, 0, 0, 1) := cAX_same_1 _ (List.mem_of_getElem? (i := 7) rfl)
theorem cX_same_45 : zCode 110 45 = some (.iconst 1, 46, 0, 0, 0, 0, 0) := cAX_same_1 _ (List.mem_of_getElem? (i := 8) rfl)
theorem cX_same_46 : zCode 110 46 = some (.bipush (-3), 48, 0, 0, 0, 0, 0) := cAX_same_1 _ (List.mem_of_getElem? (i := 9) rfl)
theorem cX_same_48 : zCode 110 48 = some (.invokevirtual 72, 51, 138, 2, 3, 11, 0) := cAX_same_1 _ (List.mem_of_getElem? (i := 10) rfl)
theorem cX_same_51 : zCode 110 51 = some (.ireturn, 52, 0, 0, 0, 0, 0) := cAX_same_1 _ (List.mem_of_getElem? (i := 11) rfl)
theorem cX_same_52 : zCode 110 52 = some (.aload_n 3, 53, 0, 0, 0, 0, 24) := cAX_same_1 _ (List.mem_of_getElem? (i := 12) rfl)
theorem cX_same_53 : zCode 110 53 = some (.aload 4, 55, 0, 0, 0, 0, 16) := cAX_same_1 _ (List.mem_of_getElem? (i := 13) rfl)
theorem cX_same_55 : zCode 110 55 = some (.invokevirtual 142, 58, 27, 1, 3, 1, 0) := cAX_same_1 _ (List.mem_of_getElem? (i := 14) rfl)
theorem cX_same_58 : zCode 110 58 = some (.ifCond .eq 7, 61, 65, 0, 0, 0, 0) := cAX_same_1 _ (List.mem_of_getElem? (i := 15) rfl)
theorem cX_same_61 : zCode 110 61 = some (.iconst 1, 62, 0, 0, 0, 0, 0) := cAX_same_2 _ (List.mem_of_getElem? (i := 0) rfl)
theorem cX_same_62 : zCode 110 62 = some (.goto 4, 65, 66, 0, 0, 0, 0) := cAX_same_2 _ (List.mem_of_getElem? (i := 1) rfl)
theorem cX_same_65 : zCode 110 65 = some (.iconst 0, 66, 0, 0, 0, 0, 0) := cAX_same_2 _ (List.mem_of_getElem? (i := 2) rfl)
theorem cX_same_66 : zCode 110 66 = some (.ireturn, 67, 0, 0, 0, 0, 0) := cAX_same_2 _ (List.mem_of_getElem? (i := 3) rfl)
theorem rX_same_0 {a0 : Nat} {a1 a2 : Int} {u3 u4 : zV} : zS 110 0 [zR a0, zI a1, zI a2, u3, u4] [] sh pp mm Q ↔ zS 110 1 [zR a0, zI a1, zI a2, zU, zU] [zI a1] sh pp mm Q := s_go cX_same_0 cX_same_1 rfl rfl
theorem rX_same_1 {a0 : Nat} {a1 a2 s0 : Int} {u3 u4 : zV} : zS 110 1 [zR a0, zI a1, zI a2, u3, u4] [zI s0] sh pp mm Q ↔ zS 140 0 [zI s0] [] sh pp mm (fun v sh pp mm => zS 110 4 [zR a0, zI a1, zI a2, zU, zU] (zPush v []) sh pp mm Q) := s_call cX_same_1 cX_same_4 rfl rfl
theorem rX_same_4 {a0 : Nat} {a1 a2 s0 : Int} {u3 u4 : zV} : zS 110 4 [zR a0, zI a1, zI a2, u3, u4] [zI s0] sh pp mm Q ↔ (s0 = 0 → zS 110 14 [zR a0, zU, zU, zU, zU] [] sh pp mm Q) ∧ (¬ s0 = 0 → zS 110 7 [zR a0, zI a1, zI a2, zU, zU] [] sh pp mm Q) := s_if cX_same_4 cX_same_14 cX_same_7 rfl rfl rfl
theorem rX_same_7 {a0 : Nat} {a1 a2 : Int} {u3 u4 : zV} : zS 110 7 [zR a0, zI a1, zI a2, u3, u4] [] sh pp mm Q ↔ zS 110 8 [zR a0, zI a1, zI a2, zU, zU] [zI a2] sh pp mm Q := s_go cX_same_7 cX_same_8 rfl rfl
theorem rX_same_8 {a0 : Nat} {a1 a2 s0 : Int} {u3 u4 : zV} : zS 110 8 [zR a0, zI a1, zI a2, u3, u4] [zI s0] sh pp mm Q ↔ zS 140 0 [zI s0] [] sh pp mm (fun v sh pp mm => zS 110 11 [zR a0, zI a1, zI a2, zU, zU] (zPush v []) sh pp mm Q) := s_call cX_same_8 cX_same_11 rfl rfl
theorem rX_same_11 {a0 : Nat} {a1 a2 s0 : Int} {u3 u4 : zV} : zS 110 11 [zR a0, zI a1, zI a2, u3, u4] [zI s0] sh pp mm Q ↔ (s0 = 0 → zS 110 14 [zR a0, zU, zU, zU, zU] [] sh pp mm Q) ∧ (¬ s0 = 0 → zS 110 22 [zR a0, zI a1, zI a2, zU, zU] [] sh pp mm Q) := s_ifn cX_same_11 cX_same_14 cX_same_22 rfl rfl rfl
theorem rX_same_14 {a0 : Nat} {u1 u2 u3 u4 : zV} : zS 110 14 [zR a0, u1, u2, u3, u4] [] sh pp mm Q ↔ zS 110 15 [zU, zU, zU, zU, zU] [zR a0] sh pp mm Q := s_go cX_same_14 cX_same_15 rfl rfl
theorem rX_same_15 {s0 : Nat} {u0 u1 u2 u3 u4 : zV} : zS 110 15 [u0, u1, u2, u3, u4] [zR s0] sh pp mm Q ↔ zS 110 16 [zU, zU, zU, zU, zU] [zI 0, zR s0] sh pp mm Q := s_go cX_same_15 cX_same_16 rfl rfl
theorem rX_same_16 {s1 : Nat} {s0 : Int} {u0 u1 u2 u3 u4 : zV} : zS 110 16 [u0, u1, u2, u3, u4] [zI s0, zR s1] sh pp mm Q ↔ zS 110 18 [zU, zU, zU, zU, zU] [zI (-2), zI s0, zR s1] sh pp mm Q := s_go cX_same_16 cX_same_18 rfl rfl
theorem rX_same_18 {s2 : Nat} {s0 s1 : Int} {u0 u1 u2 u3 u4 : zV} (hk : zKd sh s2 = 11) : zS 110 18 [u0, u1, u2, u3, u4] [zI s0, zI s1, zR s2] sh pp mm Q ↔ zS 138 0 [zR s2, zI s1, zI s0] [] sh pp mm (fun v sh pp mm => zS 110 21 [zU, zU, zU, zU, zU] (zPush v []) sh pp mm Q) := s_call cX_same_18 cX_same_21 ((if_pos hk).trans rfl) rfl
theorem rX_same_21 {s0 : Int} {u0 u1 u2 u3 u4 : zV} : zS 110 21 [u0, u1, u2, u3, u4] [zI s0] sh pp mm Q ↔ Q (zI s0) sh pp mm := s_ret cX_same_21 rfl
theorem rX_same_22 {a0 : Nat} {a1 a2 : Int} {u3 u4 : zV} : zS 110 22 [zR a0, zI a1, zI a2, u3, u4] [] sh pp mm Q ↔ zS 110 23 [zR a0, zI a1, zI a2, zU, zU] [zR a0] sh pp mm Q := s_go cX_same_22 cX_same_23 rfl rfl
theorem rX_same_23 {a0 s0 : Nat} {a1 a2 : Int} {u3 u4 : zV} : zS 110 23 [zR a0, zI a1, zI a2, u3, u4] [zR s0] sh pp mm Q ↔ zS 110 24 [zR a0, zU, zI a2, zU, zU] [zI a1, zR s0] sh pp mm Q := s_go cX_same_23 cX_same_24 rfl rfl
theorem rX_same_24 {a0 s1 : Nat} {a2 s0 : Int} {u1 u3 u4 : zV} (hk : zKd sh s1 = 11) : zS 110 24 [zR a0, u1, zI a2, u3, u4] [zI s0, zR s1] sh pp mm Q ↔ zS 148 0 [zR s1, zI s0, zU, zU] [] sh pp mm (fun v sh pp mm => zS 110 27 [zR a0, zU, zI a2, zU, zU] (zPush v []) sh pp mm Q) := s_call cX_same_24 cX_same_27 ((if_pos hk).trans rfl) rfl
theorem rX_same_27 {a0 s0 : Nat} {a2 : Int} {u1 u3 u4 : zV} : zS 110 27 [zR a0, u1, zI a2, u3, u4] [zR s0] sh pp mm Q ↔ zS 110 28 [zR a0, zU, zI a2, zR s0, zU] [] sh pp mm Q := s_go cX_same_27 cX_same_28 rfl rfl
theorem rX_same_28 {a0 a3 : Nat} {a2 : Int} {u1 u4 : zV} : zS 110 28 [zR a0, u1, zI a2, zR a3, u4] [] sh pp mm Q ↔ zS 110 29 [zR a0, zU, zI a2, zR a3, zU] [zR a0] sh pp mm Q := s_go cX_same_28 cX_same_29 rfl rfl
theorem rX_same_29 {a0 a3 s0 : Nat} {a2 : Int} {u1 u4 : zV} : zS 110 29 [zR a0, u1, zI a2, zR a3, u4] [zR s0] sh pp mm Q ↔ zS 110 30 [zR a0, zU, zU, zR a3, zU] [zI a2, zR s0] sh pp mm Q := s_go cX_same_29 cX_same_30 rfl rfl
theorem rX_same_30 {a0 a3 s1 : Nat} {s0 : Int} {u1 u2 u4 : zV} (hk : zKd sh s1 = 11) : zS 110 30 [zR a0, u1, u2, zR a3, u4] [zI s0, zR s1] sh pp mm Q ↔ zS 148 0 [zR s1, zI s0, zU, zU] [] sh pp mm (fun v sh pp mm => zS 110 33 [zR a0, zU, zU, zR a3, zU] (zPush v []) sh pp mm Q) := s_call cX_same_30 cX_same_33 ((if_pos hk).trans rfl) rfl
theorem rX_same_33 {a0 a3 s0 : Nat} {u1 u2 u4 : zV} : zS 110 33 [zR a0, u1, u2, zR a3, u4] [zR s0] sh pp mm Q ↔ zS 110 35 [zR a0, zU, zU, zR a3, zR s0] [] sh pp mm Q := s_go cX_same_33 cX_same_35 rfl rfl
theorem rX_same_35 {a0 a3 a4 : Nat} {u1 u2 : zV} : zS 110 35 [zR a0, u1, u2, zR a3, zR a4] [] sh pp mm Q ↔ zS 110 36 [zR a0, zU, zU, zR a3, zR a4] [zR a3] sh pp mm Q := s_go cX_same_35 cX_same_36 rfl rfl
theorem rX_same_36 {a0 a3 a4 s0 : Nat} {u1 u2 : zV} : zS 110 36 [zR a0, u1, u2, zR a3, zR a4] [zR s0] sh pp mm Q ↔ (s0 = 0 → zS 110 44 [zR a0, zU, zU, zU, zU] [] sh pp mm Q) ∧ (¬ s0 = 0 → zS 110 39 [zR a0, zU, zU, zR a3, zR a4] [] sh pp mm Q) := s_br cX_same_36 cX_same_44 cX_same_39 rfl rfl rfl
theorem rX_same_39 {a0 a3 a4 : Nat} {u1 u2 : zV} : zS 110 39 [zR a0, u1, u2, zR a3, zR a4] [] sh pp mm Q ↔ zS 110 41 [zR a0, zU, zU, zR a3, zR a4] [zR a4] sh pp mm Q := s_go cX_same_39 cX_same_41 rfl rfl
theorem rX_same_41 {a0 a3 a4 s0 : Nat} {u1 u2 : zV} : zS 110 41 [zR a0, u1, u2, zR a3, zR a4] [zR s0] sh pp mm Q ↔ (s0 = 0 → zS 110 44 [zR a0, zU, zU, zU, zU] [] sh pp mm Q) ∧ (¬ s0 = 0 → zS 110 52 [zU, zU, zU, zR a3, zR a4] [] sh pp mm Q) := s_br cX_same_41 cX_same_44 cX_same_52 rfl rfl rfl
theorem rX_same_44 {a0 : Nat} {u1 u2 u3 u4 : zV} : zS 110 44 [zR a0, u1, u2, u3, u4] [] sh pp mm Q ↔ zS 110 45 [zU, zU, zU, zU, zU] [zR a0] sh pp mm Q := s_go cX_same_44 cX_same_45 rfl rfl
theorem rX_same_45 {s0 : Nat} {u0 u1 u2 u3 u4 : zV} : zS 110 45 [u0, u1, u2, u3, u4] [zR s0] sh pp mm Q ↔ zS 110 46 [zU, zU, zU, zU, zU] [zI 1, zR s0] sh pp mm Q := s_go cX_same_45 cX_same_46 rfl rfl
theorem rX_same_46 {s1 : Nat} {s0 : Int} {u0 u1 u2 u3 u4 : zV} : zS 110 46 [u0, u1, u2, u3, u4] [zI s0, zR s1] sh pp mm Q ↔ zS 110 48 [zU, zU, zU, zU, zU] [zI (-3), zI s0, zR s1] sh pp mm Q := s_go cX_same_46 cX_same_48 rfl rfl
theorem rX_same_48 {s2 : Nat} {s0 s1 : Int} {u0 u1 u2 u3 u4 : zV} (hk : zKd sh s2 = 11) : zS 110 48 [u0, u1, u2, u3, u4] [zI s0, zI s1, zR s2] sh pp mm Q ↔ zS 138 0 [zR s2, zI s1, zI s0] [] sh pp mm (fun v sh pp mm => zS 110 51 [zU, zU, zU, zU, zU] (zPush v []) sh pp mm Q) := s_call cX_same_48 cX_same_51 ((if_pos hk).trans rfl) rfl
theorem rX_same_51 {s0 : Int} {u0 u1 u2 u3 u4 : zV} : zS 110 51 [u0, u1, u2, u3, u4] [zI s0] sh pp mm Q ↔ Q (zI s0) sh pp mm := s_ret cX_same_51 rfl
theorem rX_same_52 {a3 a4 : Nat} {u0 u1 u2 : zV} : zS 110 52 [u0, u1, u2, zR a3, zR a4] [] sh pp mm Q ↔ zS 110 53 [zU, zU, zU, zU, zR a4] [zR a3] sh pp mm Q := s_go cX_same_52 cX_same_53 rfl rfl
theorem rX_same_53 {a4 s0 : Nat} {u0 u1 u2 u3 : zV} : zS 110 53 [u0, u1, u2, u3, zR a4] [zR s0] sh pp mm Q ↔ zS 110 55 [zU, zU, zU, zU, zU] [zR a4, zR s0] sh pp mm Q := s_go cX_same_53 cX_same_55 rfl rfl
theorem rX_same_55 {s0 s1 : Nat} {u0 u1 u2 u3 u4 : zV} (hk : zKd sh s1 = 1) : zS 110 55 [u0, u1, u2, u3, u4] [zR s0, zR s1] sh pp mm Q ↔ zS 27 0 [zR s1, zR s0, zU] [] sh pp mm (fun v sh pp mm => zS 110 58 [zU, zU, zU, zU, zU] (zPush v []) sh pp mm Q) := s_call cX_same_55 cX_same_58 ((if_pos hk).trans rfl) rfl
theorem rX_same_58 {s0 : Int} {u0 u1 u2 u3 u4 : zV} : zS 110 58 [u0, u1, u2, u3, u4] [zI s0] sh pp mm Q ↔ (s0 = 0 → zS 110 65 [zU, zU, zU, zU, zU] [] sh pp mm Q) ∧ (¬ s0 = 0 → zS 110 61 [zU, zU, zU, zU, zU] [] sh pp mm Q) := s_if cX_same_58 cX_same_65 cX_same_61 rfl rfl rfl
theorem rX_same_61 {u0 u1 u2 u3 u4 : zV} : zS 110 61 [u0, u1, u2, u3, u4] [] sh pp mm Q ↔ zS 110 62 [zU, zU, zU, zU, zU] [zI 1] sh pp mm Q := s_go cX_same_61 cX_same_62 rfl rfl
theorem rX_same_62 {s0 : Int} {u0 u1 u2 u3 u4 : zV} : zS 110 62 [u0, u1, u2, u3, u4] [zI s0] sh pp mm Q ↔ zS 110 66 [zU, zU, zU, zU, zU] [zI s0] sh pp mm Q := s_go cX_same_62 cX_same_66 rfl rfl
theorem rX_same_65 {u0 u1 u2 u3 u4 : zV} : zS 110 65 [u0, u1, u2, u3, u4] [] sh pp mm Q ↔ zS 110 66 [zU, zU, zU, zU, zU] [zI 0] sh pp mm Q := s_go cX_same_65 cX_same_66 rfl rfl
theorem rX_same_66 {s0 : Int} {u0 u1 u2 u3 u4 : zV} : zS 110 66 [u0, u1, u2, u3, u4] [zI s0] sh pp mm Q ↔ Q (zI s0) sh pp mm := s_ret cX_same_66 rfl
theorem cAX_quickest : ∀ q ∈ zT111, zCode 111 q.1 = some q.2 := zAll (mid := 111) rfl (by decide +kernel)
theorem cAX_quickest_0 : ∀ q ∈ zT111_0, zCode 111 q.1 = some q.2 := fun q h => cAX_quickest q (List.mem_append_left _ h)
theorem cAX_quickest_1 : ∀ q ∈ zT111_1, zCode 111 q.1 = some q.2 := fun q h => cAX_quickest q (List.mem_append_right _ (List.mem_append_left _ h))
theorem cAX_quickest_2 : ∀ q ∈ zT111_2, zCode 111 q.1 = some q.2 := fun q h => cAX_quickest q (List.mem_append_right _ (List.mem_append_right _ (List.mem_append_left _ h)))
theorem cAX_quickest_3 : ∀ q ∈ zT111_3, zCode 111 q.1 = some q.2 := fun q h => cAX_quickest q (List.mem_append_right _ (List.mem_append_right _ (List.mem_append_right _ h)))
theorem cX_quickest_0 : zCode 111 0 = some (.iload_n 1, 1, 0, 0, 0, 0, 3) := cAX_quickest_0 _ (List.mem_of_getElem? (i := 0) rfl)
theorem cX_quickest_1 : zCode 111 1 = some (.invokestatic 85, 4, 140, 1, 1, 11, 3) := cAX_quickest_0 _ (List.mem_of_getElem? (i := 1) rfl)
theorem cX_quickest_4 : zCode 111 4 = some (.ifCond .ne 11, 7, 15, 0, 0, 0, 3) := cAX_quickest_0 _ (List.mem_of_getElem? (i := 2) rfl)
theorem cX_quickest_7 : zCode 111 7 = some (.aload_n 0, 8, 0, 0, 0, 0, 1) := cAX_quickest_0 _ (List.mem_of_getElem? (i := 3) rfl)
theorem cX_quickest_8 : zCode 111 8 = some (.iconst 0, 9, 0, 0, 0, 0, 0) := cAX_quickest_0 _ (List.mem_of_getElem? (i := 4) rfl)
theorem cX_quickest_9 : zCode 111 9 = some (.bipush (-2), 11, 0, 0, 0, 0, 0) := cAX_quickest_0 _ (List.mem_of_getElem? (i := 5) rfl)
theorem cX_quickest_11 : zCode 111 11 = some (.invokevirtual 72, 14, 138, 2, 3, 11, 0) := cAX_quickest_0 _ (List.mem_of_getElem? (i := 6) rfl)
theorem cX_quickest_14 : zCode 111 14 = some (.ireturn, 15, 0, 0, 0, 0, 0) := cAX_quickest_0 _ (List.mem_of_getElem? (i := 7) rfl)
theorem cX_quickest_15 : zCode 111 15 = some (.aload_n 0, 16, 0, 0, 0, 0, 3) := cAX_quickest_0 _ (List.mem_of_getElem? (i := 8) rfl)
theorem cX_quickest_16 : zCode 111 16 = some (.iload_n 1, 17, 0, 0, 0, 0, 3) := cAX_quickest_0 _ (List.mem_of_getElem? (i := 9) rfl)
theorem cX_quickest_17 : zCode 111 17 = some (.invokevirtual 118, 20, 148, 1, 4, 11, 3) := cAX_quickest_0 _ (List.mem_of_getElem? (i := 10) rfl)
theorem cX_quickest_20 : zCode 111 20 = some (.astore_n 2, 21, 0, 0, 0, 0, 3) := cAX_quickest_0 _ (List.mem_of_getElem? (i := 11) rfl)
theorem cX_quickest_21 : zCode 111 21 = some (.aload_n 2, 22, 0, 0, 0, 0, 7) := cAX_quickest_0 _ (List.mem_of_getElem? (i := 12) rfl)
theorem cX_quickest_22 : zCode 111 22 = some (.ifnonnull 11, 25, 33, 0, 0, 0, 7) := cAX_quickest_0 _ (List.mem_of_getElem? (i := 13) rfl)
theorem cX_quickest_25 : zCode 111 25 = some (.aload_n 0, 26, 0, 0, 0, 0, 1) := cAX_quickest_0 _ (List.mem_of_getElem? (i := 14) rfl)
theorem cX_quickest_26 : zCode 111 26 = some (.iconst 1, 27, 0, 0, 0, 0, 0) := cAX_quickest_0 _ (List.mem_of_getElem? (i := 15) rfl)
theorem cX_quickest_27 : zCode 111 27 = some (.bipush (-3), 29, 0, 0, 0, 0, 0) := cAX_quickest_1 _ (List.mem_of_getElem? (i := 0) rfl)
theorem cX_quickest_29 : zCode 111 29 = some (.invokevirtual 72, 32, 138, 2, 3, 11, 0) := cAX_quickest_1 _ (List.mem_of_getElem? (i := 1) rfl)
theorem cX_quickest_32 : zCode 111 32 = some (.ireturn, 33, 0, 0, 0, 0, 0) := cAX_quickest_1 _ (List.mem_of_getElem? (i := 2) rfl)
theorem cX_quickest_33 : zCode 111 33 = some (.iload_n 1, 34, 0, 0, 0, 0, 7) := cAX_quickest_1 _ (List.mem_of_getElem? (i := 3) rfl)
theorem cX_quickest_34 : zCode 111 34 = some (.istore_n 3, 35, 0, 0, 0, 0, 5) := cAX_quickest_1 _ (List.mem_of_getElem? (i := 4) rfl)
theorem cX_quickest_35 : zCode 111 35 = some (.ldc 146, 37, 0, 0, 795, 1000000, 13) := cAX_quickest_1 _ (List.mem_of_getElem? (i := 5) rfl)
theorem cX_quickest_37 : zCode 111 37 = some (.istore 4, 39, 0, 0, 0, 0, 13) := cAX_quickest_1 _ (List.mem_of_getElem? (i := 6) rfl)
theorem cX_quickest_39 : zCode 111 39 = some (.iconst 0, 40, 0, 0, 0, 0, 29) := cAX_quickest_1 _ (List.mem_of_getElem? (i := 7) rfl)
theorem cX_quickest_40 : zCode 111 40 = some (.istore 5, 42, 0, 0, 0, 0, 29) := cAX_quickest_1 _ (List.mem_of_getElem? (i := 8) rfl)
theorem cX_quickest_42 : zCode 111 42 = some (.iload 5, 44, 0, 0, 0, 0, 61) := cAX_quickest_1 _ (List.mem_of_getElem? (i := 9) rfl)
theorem cX_quickest_44 : zCode 111 44 = some (.iconst 4, 45, 0, 0, 0, 0, 61) := cAX_quickest_1 _ (List.mem_of_getElem? (i := 10) rfl)
theorem cX_quickest_45 : zCode 111 45 = some (.if_icmp .ge 51, 48, 96, 0, 0, 0, 61) := cAX_quickest_1 _ (List.mem_of_getElem? (i := 11) rfl)
theorem cX_quickest_48 : zCode 111 48 = some (.aload_n 0, 49, 0, 0, 0, 0, 61) := cAX_quickest_1 _ (List.mem_of_getElem? (i := 12) rfl)
theorem cX_quickest_49 : zCode 111 49 = some (.iload 5, 51, 0, 0, 0, 0, 61) := cAX_quickest_1 _ (List.mem_of_getElem? (i := 13) rfl)
theorem cX_quickest_51 : zCode 111 51 = some (.invokevirtual 118, 54, 148, 1, 4, 11, 61) := cAX_quickest_1 _ (List.mem_of_getElem? (i := 14) rfl)
theorem cX_quickest_54 : zCode 111 54 = some (.astore 6, 56, 0, 0, 0, 0, 61) := cAX_quickest_1 _ (List.mem_of_getElem? (i := 15) rfl)
theorem cX_quickest_56 : zCode 111 56 = some (.aload 6, 58, 0, 0, 0, 0, 125) := cAX_quickest_2 _ (List.mem_of_getElem? (i := 0) rfl)
theorem cX_quickest_58 : zCode 111 58 = some (.ifnull 32, 61, 90, 0, 0, 0, 125) := cAX_quickest_2 _ (List.mem_of_getElem? (i := 1) rfl)
theorem cX_quickest_61 : zCode 111 61 = some (.aload 6, 63, 0, 0, 0, 0, 125) := cAX_quickest_2 _ (List.mem_of_getElem? (i := 2) rfl)
theorem cX_quickest_63 : zCode 111 63 = some (.getfield 147, 66, 1, 3, 0, 470, 125) := cAX_quickest_2 _ (List.mem_of_getElem? (i := 3) rfl)
theorem cX_quickest_66 : zCode 111 66 = some (.iload 4, 68, 0, 0, 0, 0, 125) := cAX_quickest_2 _ (List.mem_of_getElem? (i := 4) rfl)
theorem cX_quickest_68 : zCode 111 68 = some (.if_icmp .ge 22, 71, 90, 0, 0, 0, 125) := cAX_quickest_2 _ (List.mem_of_getElem? (i := 5) rfl)
theorem cX_quickest_71 : zCode 111 71 = some (.aload 6, 73, 0, 0, 0, 0, 125) := cAX_quickest_2 _ (List.mem_of_getElem? (i := 6) rfl)
theorem cX_quickest_73 : zCode 111 73 = some (.aload_n 2, 74, 0, 0, 0, 0, 125) := cAX_quickest_2 _ (List.mem_of_getElem? (i := 7) rfl)
theorem cX_quickest_74 : zCode 111 74 = some (.invokevirtual 142, 77, 27, 1, 3, 1, 125) := cAX_quickest_2 _ (List.mem_of_getElem? (i := 8) rfl)
theorem cX_quickest_77 : zCode 111 77 = some (.ifCond .eq 13, 80, 90, 0, 0, 0, 125) := cAX_quickest_2 _ (List.mem_of_getElem? (i := 9) rfl)
theorem cX_quickest_80 : zCode 111 80 = some (.iload 5, 82, 0, 0, 0, 0, 101) := cAX_quickest_2 _ (List.mem_of_getElem? (i := 10) rfl)
theorem cX_quickest_82 : zCode 111 82 = some (.istore_n 3, 83, 0, 0, 0, 0, 101) := cAX_quickest_2 _ (List.mem_of_getElem? (i := 11) rfl)
theorem cX_quickest_83 : zCode 111 83 = some (.aload 6, 85, 0, 0, 0, 0, 109) := cAX_quickest_2 _ (List.mem_of_getElem? (i := 12) rfl)
theorem cX_quickest_85 : zCode 111 85 = some (.getfield 147, 88, 1, 3, 0, 470, 45) := cAX_quickest_2 _ (List.mem_of_getElem? (i := 13) rfl)
theorem cX_quickest_88 : zCode 111 88 = some (.istore 4, 90, 0, 0, 0, 0, 45) := cAX_quickest_2 _ (List.mem_of_getElem? (i := 14) rfl)
theorem cX_quickest_90 : zCode 111 90 = some (.iinc 5 1, 93, 0, 0, 0, 0, 61) := cAX_quickest_2 _ (List.mem_of_getElem? (i := 15) rfl)
theorem cX_quickest_93 : zCode 111 93 = some (.goto (-51), 96, 42, 0, 0, 0, 61) := cAX_quickest_3 _ (List.mem_of_getElem? (i := 0) rfl)
theorem cX_quickest_96 : zCode 111 96 = some (.iload_n 3, 97, 0, 0, 0, 0, 8) := cAX_quickest_3 _ (List.mem_of_getElem? (i := 1) rfl)
theorem cX_quickest_97 : zCode 111 97 = some (.ireturn, 98, 0, 0, 0, 0, 0) := cAX_quickest_3 _ (List.mem_of_getElem? (i := 2) rfl)
theorem rX_quickest_0 {a0 : Nat} {a1 : Int} {u2 u3 u4 u5 u6 : zV} : zS 111 0 [zR a0, zI a1, u2, u3, u4, u5, u6] [] sh pp mm Q ↔ zS 111 1 [zR a0, zI a1, zU, zU, zU, zU, zU] [zI a1] sh pp mm Q := s_go cX_quickest_0 cX_quickest_1 rfl rfl
theorem rX_quickest_1 {a0 : Nat} {a1 s0 : Int} {u2 u3 u4 u5 u6 : zV} : zS 111 1 [zR a0, zI a1, u2, u3, u4, u5, u6] [zI s0] sh pp mm Q ↔ zS 140 0 [zI s0] [] sh pp mm (fun v sh pp mm => zS 111 4 [zR a0, zI a1, zU, zU, zU, zU, zU] (zPush v []) sh pp mm Q) := s_call cX_quickest_1 cX_quickest_4 rfl rfl
theorem rX_quickest_4 {a0 : Nat} {a1 s0 : Int} {u2 u3 u4 u5 u6 : zV} : zS 111 4 [zR a0, zI a1, u2, u3, u4, u5, u6] [zI s0] sh pp mm Q ↔ (s0 = 0 → zS 111 7 [zR a0, zU, zU, zU, zU, zU, zU] [] sh pp mm Q) ∧ (¬ s0 = 0 → zS 111 15 [zR a0, zI a1, zU, zU, zU, zU, zU] [] sh pp mm Q) := s_ifn cX_quickest_4 cX_quickest_7 cX_quickest_15 rfl rfl rfl
theorem rX_quickest_7 {a0 : Nat} {u1 u2 u3 u4 u5 u6 : zV} : zS 111 7 [zR a0, u1, u2, u3, u4, u5, u6] [] sh pp mm Q ↔ zS 111 8 [zU, zU, zU, zU, zU, zU, zU] [zR a0] sh pp mm Q := s_go cX_quickest_7 cX_quickest_8 rfl rfl
theorem rX_quickest_8 {s0 : Nat} {u0 u1 u2 u3 u4 u5 u6 : zV} : zS 111 8 [u0, u1, u2, u3, u4, u5, u6] [zR s0] sh pp mm Q ↔ zS 111 9 [zU, zU, zU, zU, zU, zU, zU] [zI 0, zR s0] sh pp mm Q := s_go cX_quickest_8 cX_quickest_9 rfl rfl
theorem rX_quickest_9 {s1 : Nat} {s0 : Int} {u0 u1 u2 u3 u4 u5 u6 : zV} : zS 111 9 [u0, u1, u2, u3, u4, u5, u6] [zI s0, zR s1] sh pp mm Q ↔ zS 111 11 [zU, zU, zU, zU, zU, zU, zU] [zI (-2), zI s0, zR s1] sh pp mm Q := s_go cX_quickest_9 cX_quickest_11 rfl rfl
theorem rX_quickest_11 {s2 : Nat} {s0 s1 : Int} {u0 u1 u2 u3 u4 u5 u6 : zV} (hk : zKd sh s2 = 11) : zS 111 11 [u0, u1, u2, u3, u4, u5, u6] [zI s0, zI s1, zR s2] sh pp mm Q ↔ zS 138 0 [zR s2, zI s1, zI s0] [] sh pp mm (fun v sh pp mm => zS 111 14 [zU, zU, zU, zU, zU, zU, zU] (zPush v []) sh pp mm Q) := s_call cX_quickest_11 cX_quickest_14 ((if_pos hk).trans rfl) rfl
theorem rX_quickest_14 {s0 : Int} {u0 u1 u2 u3 u4 u5 u6 : zV} : zS 111 14 [u0, u1, u2, u3, u4, u5, u6] [zI s0] sh pp mm Q ↔ Q (zI s0) sh pp mm := s_ret cX_quickest_14 rfl
theorem rX_quickest_15 {a0 : Nat} {a1 : Int} {u2 u3 u4 u5 u6 : zV} : zS 111 15 [zR a0, zI a1, u2, u3, u4, u5, u6] [] sh pp mm Q ↔ zS 111 16 [zR a0, zI a1, zU, zU, zU, zU, zU] [zR a0] sh pp mm Q := s_go cX_quickest_15 cX_quickest_16 rfl rfl
theorem rX_quickest_16 {a0 s0 : Nat} {a1 : Int} {u2 u3 u4 u5 u6 : zV} : zS 111 16 [zR a0, zI a1, u2, u3, u4, u5, u6] [zR s0] sh pp mm Q ↔ zS 111 17 [zR a0, zI a1, zU, zU, zU, zU, zU] [zI a1, zR s0] sh pp mm Q := s_go cX_quickest_16 cX_quickest_17 rfl rfl
theorem rX_quickest_17 {a0 s1 : Nat} {a1 s0 : Int} {u2 u3 u4 u5 u6 : zV} (hk : zKd sh s1 = 11) : zS 111 17 [zR a0, zI a1, u2, u3, u4, u5, u6] [zI s0, zR s1] sh pp mm Q ↔ zS 148 0 [zR s1, zI s0, zU, zU] [] sh pp mm (fun v sh pp mm => zS 111 20 [zR a0, zI a1, zU, zU, zU, zU, zU] (zPush v []) sh pp mm Q) := s_call cX_quickest_17 cX_quickest_20 ((if_pos hk).trans rfl) rfl
theorem rX_quickest_20 {a0 s0 : Nat} {a1 : Int} {u2 u3 u4 u5 u6 : zV} : zS 111 20 [zR a0, zI a1, u2, u3, u4, u5, u6] [zR s0] sh pp mm Q ↔ zS 111 21 [zR a0, zI a1, zR s0, zU, zU, zU, zU] [] sh pp mm Q := s_go cX_quickest_20 cX_quickest_21 rfl rfl
theorem rX_quickest_21 {a0 a2 : Nat} {a1 : Int} {u3 u4 u5 u6 : zV} : zS 111 21 [zR a0, zI a1, zR a2, u3, u4, u5, u6] [] sh pp mm Q ↔ zS 111 22 [zR a0, zI a1, zR a2, zU, zU, zU, zU] [zR a2] sh pp mm Q := s_go cX_quickest_21 cX_quickest_22 rfl rfl
theorem rX_quickest_22 {a0 a2 s0 : Nat} {a1 : Int} {u3 u4 u5 u6 : zV} : zS 111 22 [zR a0, zI a1, zR a2, u3, u4, u5, u6] [zR s0] sh pp mm Q ↔ (s0 = 0 → zS 111 25 [zR a0, zU, zU, zU, zU, zU, zU] [] sh pp mm Q) ∧ (¬ s0 = 0 → zS 111 33 [zR a0, zI a1, zR a2, zU, zU, zU, zU] [] sh pp mm Q) := s_br cX_quickest_22 cX_quickest_25 cX_quickest_33 rfl rfl rfl
theorem rX_quickest_25 {a0 : Nat} {u1 u2 u3 u4 u5 u6 : zV} : zS 111 25 [zR a0, u1, u2, u3, u4, u5, u6] [] sh pp mm Q ↔ zS 111 26 [zU, zU, zU, zU, zU, zU, zU] [zR a0] sh pp mm Q := s_go cX_quickest_25 cX_quickest_26 rfl rfl
theorem rX_quickest_26 {s0 : Nat} {u0 u1 u2 u3 u4 u5 u6 : zV} : zS 111 26 [u0, u1, u2, u3, u4, u5, u6] [zR s0] sh pp mm Q ↔ zS 111 27 [zU, zU, zU, zU, zU, zU, zU] [zI 1, zR s0] sh pp mm Q := s_go cX_quickest_26 cX_quickest_27 rfl rfl
theorem rX_quickest_27 {s1 : Nat} {s0 : Int} {u0 u1 u2 u3 u4 u5 u6 : zV} : zS 111 27 [u0, u1, u2, u3, u4, u5, u6] [zI s0, zR s1] sh pp mm Q ↔ zS 111 29 [zU, zU, zU, zU, zU, zU, zU] [zI (-3), zI s0, zR s1] sh pp mm Q := s_go cX_quickest_27 cX_quickest_29 rfl rfl
theorem rX_quickest_29 {s2 : Nat} {s0 s1 : Int} {u0 u1 u2 u3 u4 u5 u6 : zV} (hk : zKd sh s2 = 11) : zS 111 29 [u0, u1, u2, u3, u4, u5, u6] [zI s0, zI s1, zR s2] sh pp mm Q ↔ zS 138 0 [zR s2, zI s1, zI s0] [] sh pp mm (fun v sh pp mm => zS 111 32 [zU, zU, zU, zU, zU, zU, zU] (zPush v []) sh pp mm Q) := s_call cX_quickest_29 cX_quickest_32 ((if_pos hk).trans rfl) rfl
theorem rX_quickest_32 {s0 : Int} {u0 u1 u2 u3 u4 u5 u6 : zV} : zS 111 32 [u0, u1, u2, u3, u4, u5, u6] [zI s0] sh pp mm Q ↔ Q (zI s0) sh pp mm := s_ret cX_quickest_32 rfl
theorem rX_quickest_33 {a0 a2 : Nat} {a1 : Int} {u3 u4 u5 u6 : zV} : zS 111 33 [zR a0, zI a1, zR a2, u3, u4, u5, u6] [] sh pp mm Q ↔ zS 111 34 [zR a0, zU, zR a2, zU, zU, zU, zU] [zI a1] sh pp mm Q := s_go cX_quickest_33 cX_quickest_34 rfl rfl
theorem rX_quickest_34 {a0 a2 : Nat} {s0 : Int} {u1 u3 u4 u5 u6 : zV} : zS 111 34 [zR a0, u1, zR a2, u3, u4, u5, u6] [zI s0] sh pp mm Q ↔ zS 111 35 [zR a0, zU, zR a2, zI s0, zU, zU, zU] [] sh pp mm Q := s_go cX_quickest_34 cX_quickest_35 rfl rfl
theorem rX_quickest_35 {a0 a2 : Nat} {a3 : Int} {u1 u4 u5 u6 : zV} : zS 111 35 [zR a0, u1, zR a2, zI a3, u4, u5, u6] [] sh pp mm Q ↔ zS 111 37 [zR a0, zU, zR a2, zI a3, zU, zU, zU] [zI 1000000] sh pp mm Q := s_go cX_quickest_35 cX_quickest_37 rfl rfl
theorem rX_quickest_37 {a0 a2 : Nat} {a3 s0 : Int} {u1 u4 u5 u6 : zV} : zS 111 37 [zR a0, u1, zR a2, zI a3, u4, u5, u6] [zI s0] sh pp mm Q ↔ zS 111 39 [zR a0, zU, zR a2, zI a3, zI s0, zU, zU] [] sh pp mm Q := s_go cX_quickest_37 cX_quickest_39 rfl rfl
theorem rX_quickest_39 {a0 a2 : Nat} {a3 a4 : Int} {u1 u5 u6 : zV} : zS 111 39 [zR a0, u1, zR a2, zI a3, zI a4, u5, u6] [] sh pp mm Q ↔ zS 111 40 [zR a0, zU, zR a2, zI a3, zI a4, zU, zU] [zI 0] sh pp mm Q := s_go cX_quickest_39 cX_quickest_40 rfl rfl
theorem rX_quickest_40 {a0 a2 : Nat} {a3 a4 s0 : Int} {u1 u5 u6 : zV} : zS 111 40 [zR a0, u1, zR a2, zI a3, zI a4, u5, u6] [zI s0] sh pp mm Q ↔ zS 111 42 [zR a0, zU, zR a2, zI a3, zI a4, zI s0, zU] [] sh pp mm Q := s_go cX_quickest_40 cX_quickest_42 rfl rfl
theorem rX_quickest_42 {a0 a2 : Nat} {a3 a4 a5 : Int} {u1 u6 : zV} : zS 111 42 [zR a0, u1, zR a2, zI a3, zI a4, zI a5, u6] [] sh pp mm Q ↔ zS 111 44 [zR a0, zU, zR a2, zI a3, zI a4, zI a5, zU] [zI a5] sh pp mm Q := s_go cX_quickest_42 cX_quickest_44 rfl rfl
theorem rX_quickest_44 {a0 a2 : Nat} {a3 a4 a5 s0 : Int} {u1 u6 : zV} : zS 111 44 [zR a0, u1, zR a2, zI a3, zI a4, zI a5, u6] [zI s0] sh pp mm Q ↔ zS 111 45 [zR a0, zU, zR a2, zI a3, zI a4, zI a5, zU] [zI 4, zI s0] sh pp mm Q := s_go cX_quickest_44 cX_quickest_45 rfl rfl
theorem rX_quickest_45 {a0 a2 : Nat} {a3 a4 a5 s0 s1 : Int} {u1 u6 : zV} : zS 111 45 [zR a0, u1, zR a2, zI a3, zI a4, zI a5, u6] [zI s0, zI s1] sh pp mm Q ↔ (s1 < s0 → zS 111 48 [zR a0, zU, zR a2, zI a3, zI a4, zI a5, zU] [] sh pp mm Q) ∧ (¬ s1 < s0 → zS 111 96 [zU, zU, zU, zI a3, zU, zU, zU] [] sh pp mm Q) := s_ifn cX_quickest_45 cX_quickest_48 cX_quickest_96 rfl rfl rfl
theorem rX_quickest_48 {a0 a2 : Nat} {a3 a4 a5 : Int} {u1 u6 : zV} : zS 111 48 [zR a0, u1, zR a2, zI a3, zI a4, zI a5, u6] [] sh pp mm Q ↔ zS 111 49 [zR a0, zU, zR a2, zI a3, zI a4, zI a5, zU] [zR a0] sh pp mm Q := s_go cX_quickest_48 cX_quickest_49 rfl rfl
theorem rX_quickest_49 {a0 a2 s0 : Nat} {a3 a4 a5 : Int} {u1 u6 : zV} : zS 111 49 [zR a0, u1, zR a2, zI a3, zI a4, zI a5, u6] [zR s0] sh pp mm Q ↔ zS 111 51 [zR a0, zU, zR a2, zI a3, zI a4, zI a5, zU] [zI a5, zR s0] sh pp mm Q := s_go cX_quickest_49 cX_quickest_51 rfl rfl
theorem rX_quickest_51 {a0 a2 s1 : Nat} {a3 a4 a5 s0 : Int} {u1 u6 : zV} (hk : zKd sh s1 = 11) : zS 111 51 [zR a0, u1, zR a2, zI a3, zI a4, zI a5, u6] [zI s0, zR s1] sh pp mm Q ↔ zS 148 0 [zR s1, zI s0, zU, zU] [] sh pp mm (fun v sh pp mm => zS 111 54 [zR a0, zU, zR a2, zI a3, zI a4, zI a5, zU] (zPush v []) sh pp mm Q) := s_call cX_quickest_51 cX_quickest_54 ((if_pos hk).trans rfl) rfl
theorem rX_quickest_54 {a0 a2 s0 : Nat} {a3 a4 a5 : Int} {u1 u6 : zV} : zS 111 54 [zR a0, u1, zR a2, zI a3, zI a4, zI a5, u6] [zR s0] sh pp mm Q ↔ zS 111 56 [zR a0, zU, zR a2, zI a3, zI a4, zI a5, zR s0] [] sh pp mm Q := s_go cX_quickest_54 cX_quickest_56 rfl rfl
theorem rX_quickest_56 {a0 a2 a6 : Nat} {a3 a4 a5 : Int} {u1 : zV} : zS 111 56 [zR a0, u1, zR a2, zI a3, zI a4, zI a5, zR a6] [] sh pp mm Q ↔ zS 111 58 [zR a0, zU, zR a2, zI a3, zI a4, zI a5, zR a6] [zR a6] sh pp mm Q := s_go cX_quickest_56 cX_quickest_58 rfl rfl
theorem rX_quickest_58 {a0 a2 a6 s0 : Nat} {a3 a4 a5 : Int} {u1 : zV} : zS 111 58 [zR a0, u1, zR a2, zI a3, zI a4, zI a5, zR a6] [zR s0] sh pp mm Q ↔ (s0 = 0 → zS 111 90 [zR a0, zU, zR a2, zI a3, zI a4, zI a5, zU] [] sh pp mm Q) ∧ (¬ s0 = 0 → zS 111 61 [zR a0, zU, zR a2, zI a3, zI a4, zI a5, zR a6] [] sh pp mm Q) := s_br cX_quickest_58 cX_quickest_90 cX_quickest_61 rfl rfl rfl
theorem rX_quickest_61 {a0 a2 a6 : Nat} {a3 a4 a5 : Int} {u1 : zV} : zS 111 61 [zR a0, u1, zR a2, zI a3, zI a4, zI a5, zR a6] [] sh pp mm Q ↔ zS 111 63 [zR a0, zU, zR a2, zI a3, zI a4, zI a5, zR a6] [zR a6] sh pp mm Q := s_go cX_quickest_61 cX_quickest_63 rfl rfl
theorem rX_quickest_63 {a0 a2 a6 s0 : Nat} {a3 a4 a5 : Int} {u1 : zV} (hk : zKd sh s0 = 1) : zS 111 63 [zR a0, u1, zR a2, zI a3, zI a4, zI a5, zR a6] [zR s0] sh pp mm Q ↔ zS 111 66 [zR a0, zU, zR a2, zI a3, zI a4, zI a5, zR a6] [zI (mm s0 3)] sh pp mm Q := s_go cX_quickest_63 cX_quickest_66 (if_pos hk) rfl
theorem rX_quickest_66 {a0 a2 a6 : Nat} {a3 a4 a5 s0 : Int} {u1 : zV} : zS 111 66 [zR a0, u1, zR a2, zI a3, zI a4, zI a5, zR a6] [zI s0] sh pp mm Q ↔ zS 111 68 [zR a0, zU, zR a2, zI a3, zI a4, zI a5, zR a6] [zI a4, zI s0] sh pp mm Q := s_go cX_quickest_66 cX_quickest_68 rfl rfl
theorem rX_quickest_68 {a0 a2 a6 : Nat} {a3 a4 a5 s0 s1 : Int} {u1 : zV} : zS 111 68 [zR a0, u1, zR a2, zI a3, zI a4, zI a5, zR a6] [zI s0, zI s1] sh pp mm Q ↔ (s1 < s0 → zS 111 71 [zR a0, zU, zR a2, zI a3, zI a4, zI a5, zR a6] [] sh pp mm Q) ∧ (¬ s1 < s0 → zS 111 90 [zR a0, zU, zR a2, zI a3, zI a4, zI a5, zU] [] sh pp mm Q) := s_ifn cX_quickest_68 cX_quickest_71 cX_quickest_90 rfl rfl rfl
theorem rX_quickest_71 {a0 a2 a6 : Nat} {a3 a4 a5 : Int} {u1 : zV} : zS 111 71 [zR a0, u1, zR a2, zI a3, zI a4, zI a5, zR a6] [] sh pp mm Q ↔ zS 111 73 [zR a0, zU, zR a2, zI a3, zI a4, zI a5, zR a6] [zR a6] sh pp mm Q := s_go cX_quickest_71 cX_quickest_73 rfl rfl
theorem rX_quickest_73 {a0 a2 a6 s0 : Nat} {a3 a4 a5 : Int} {u1 : zV} : zS 111 73 [zR a0, u1, zR a2, zI a3, zI a4, zI a5, zR a6] [zR s0] sh pp mm Q ↔ zS 111 74 [zR a0, zU, zR a2, zI a3, zI a4, zI a5, zR a6] [zR a2, zR s0] sh pp mm Q := s_go cX_quickest_73 cX_quickest_74 rfl rfl
theorem rX_quickest_74 {a0 a2 a6 s0 s1 : Nat} {a3 a4 a5 : Int} {u1 : zV} (hk : zKd sh s1 = 1) : zS 111 74 [zR a0, u1, zR a2, zI a3, zI a4, zI a5, zR a6] [zR s0, zR s1] sh pp mm Q ↔ zS 27 0 [zR s1, zR s0, zU] [] sh pp mm (fun v sh pp mm => zS 111 77 [zR a0, zU, zR a2, zI a3, zI a4, zI a5, zR a6] (zPush v []) sh pp mm Q) := s_call cX_quickest_74 cX_quickest_77 ((if_pos hk).trans rfl) rfl
theorem rX_quickest_77 {a0 a2 a6 : Nat} {a3 a4 a5 s0 : Int} {u1 : zV} : zS 111 77 [zR a0, u1, zR a2, zI a3, zI a4, zI a5, zR a6] [zI s0] sh pp mm Q ↔ (s0 = 0 → zS 111 90 [zR a0, zU, zR a2, zI a3, zI a4, zI a5, zU] [] sh pp mm Q) ∧ (¬ s0 = 0 → zS 111 80 [zR a0, zU, zR a2, zU, zU, zI a5, zR a6] [] sh pp mm Q) := s_if cX_quickest_77 cX_quickest_90 cX_quickest_80 rfl rfl rfl
theorem rX_quickest_80 {a0 a2 a6 : Nat} {a5 : Int} {u1 u3 u4 : zV} : zS 111 80 [zR a0, u1, zR a2, u3, u4, zI a5, zR a6] [] sh pp mm Q ↔ zS 111 82 [zR a0, zU, zR a2, zU, zU, zI a5, zR a6] [zI a5] sh pp mm Q := s_go cX_quickest_80 cX_quickest_82 rfl rfl
theorem rX_quickest_82 {a0 a2 a6 : Nat} {a5 s0 : Int} {u1 u3 u4 : zV} : zS 111 82 [zR a0, u1, zR a2, u3, u4, zI a5, zR a6] [zI s0] sh pp mm Q ↔ zS 111 83 [zR a0, zU, zR a2, zI s0, zU, zI a5, zR a6] [] sh pp mm Q := s_go cX_quickest_82 cX_quickest_83 rfl rfl
theorem rX_quickest_83 {a0 a2 a6 : Nat} {a3 a5 : Int} {u1 u4 : zV} : zS 111 83 [zR a0, u1, zR a2, zI a3, u4, zI a5, zR a6] [] sh pp mm Q ↔ zS 111 85 [zR a0, zU, zR a2, zI a3, zU, zI a5, zU] [zR a6] sh pp mm Q := s_go cX_quickest_83 cX_quickest_85 rfl rfl
theorem rX_quickest_85 {a0 a2 s0 : Nat} {a3 a5 : Int} {u1 u4 u6 : zV} (hk : zKd sh s0 = 1) : zS 111 85 [zR a0, u1, zR a2, zI a3, u4, zI a5, u6] [zR s0] sh pp mm Q ↔ zS 111 88 [zR a0, zU, zR a2, zI a3, zU, zI a5, zU] [zI (mm s0 3)] sh pp mm Q := s_go cX_quickest_85 cX_quickest_88 (if_pos hk) rfl
theorem rX_quickest_88 {a0 a2 : Nat} {a3 a5 s0 : Int} {u1 u4 u6 : zV} : zS 111 88 [zR a0, u1, zR a2, zI a3, u4, zI a5, u6] [zI s0] sh pp mm Q ↔ zS 111 90 [zR a0, zU, zR a2, zI a3, zI s0, zI a5, zU] [] sh pp mm Q := s_go cX_quickest_88 cX_quickest_90 rfl rfl
theorem rX_quickest_90 {a0 a2 : Nat} {a3 a4 a5 : Int} {u1 u6 : zV} : zS 111 90 [zR a0, u1, zR a2, zI a3, zI a4, zI a5, u6] [] sh pp mm Q ↔ zS 111 93 [zR a0, zU, zR a2, zI a3, zI a4, zI (zw32 (a5 + 1)), zU] [] sh pp mm Q := s_go cX_quickest_90 cX_quickest_93 rfl rfl
theorem rX_quickest_93 {a0 a2 : Nat} {a3 a4 a5 : Int} {u1 u6 : zV} : zS 111 93 [zR a0, u1, zR a2, zI a3, zI a4, zI a5, u6] [] sh pp mm Q ↔ zS 111 42 [zR a0, zU, zR a2, zI a3, zI a4, zI a5, zU] [] sh pp mm Q := s_go cX_quickest_93 cX_quickest_42 rfl rfl
theorem rX_quickest_96 {a3 : Int} {u0 u1 u2 u4 u5 u6 : zV} : zS 111 96 [u0, u1, u2, zI a3, u4, u5, u6] [] sh pp mm Q ↔ zS 111 97 [zU, zU, zU, zU, zU, zU, zU] [zI a3] sh pp mm Q := s_go cX_quickest_96 cX_quickest_97 rfl rfl
theorem rX_quickest_97 {s0 : Int} {u0 u1 u2 u3 u4 u5 u6 : zV} : zS 111 97 [u0, u1, u2, u3, u4, u5, u6] [zI s0] sh pp mm Q ↔ Q (zI s0) sh pp mm := s_ret cX_quickest_97 rfl
theorem cAX_wish : ∀ q ∈ zT112, zCode 112 q.1 = some q.2 := zAll (mid := 112) rfl (by decide +kernel)
theorem cAX_wish_0 : ∀ q ∈ zT112_0, zCode 112 q.1 = some q.2 := fun q h => cAX_wish q (List.mem_append_left _ h)
theorem cAX_wish_1 : ∀ q ∈ zT112_1, zCode 112 q.1 = some q.2 := fun q h => cAX_wish q (List.mem_append_right _ (List.mem_append_left _ h))
theorem cAX_wish_2 : ∀ q ∈ zT112_2, zCode 112 q.1 = some q.2 := fun q h => cAX_wish q (List.mem_append_right _ (List.mem_append_right _ h))
theorem cX_wish_0 : zCode 112 0 = some (.iload_n 1, 1, 0, 0, 0, 0, 7) := cAX_wish_0 _ (List.mem_of_getElem? (i := 0) rfl)
theorem cX_wish_1 : zCode 112 1 = some (.ifCond .ne 11, 4, 12, 0, 0, 0, 7) := cAX_wish_0 _ (List.mem_of_getElem? (i := 1) rfl)
theorem cX_wish_4 : zCode 112 4 = some (.iload_n 2, 5, 0, 0, 0, 0, 7) := cAX_wish_0 _ (List.mem_of_getElem? (i := 2) rfl)
theorem cX_wish_5 : zCode 112 5 = some (.ifCond .ne 7, 8, 12, 0, 0, 0, 7) := cAX_wish_0 _ (List.mem_of_getElem? (i := 3) rfl)
theorem cX_wish_8 : zCode 112 8 = some (.iconst 1, 9, 0, 0, 0, 0, 7) := cAX_wish_0 _ (List.mem_of_getElem? (i := 4) rfl)
theorem cX_wish_9 : zCode 112 9 = some (.goto 4, 12, 13, 0, 0, 0, 7) := cAX_wish_0 _ (List.mem_of_getElem? (i := 5) rfl)
theorem cX_wish_12 : zCode 112 12 = some (.iconst 0, 13, 0, 0, 0, 0, 7) := cAX_wish_0 _ (List.mem_of_getElem? (i := 6) rfl)
theorem cX_wish_13 : zCode 112 13 = some (.istore_n 3, 14, 0, 0, 0, 0, 7) := cAX_wish_0 _ (List.mem_of_getElem? (i := 7) rfl)
theorem cX_wish_14 : zCode 112 14 = some (.iload_n 3, 15, 0, 0, 0, 0, 15) := cAX_wish_0 _ (List.mem_of_getElem? (i := 8) rfl)
theorem cX_wish_15 : zCode 112 15 = some (.ifCond .ne 25, 18, 40, 0, 0, 0, 7) := cAX_wish_0 _ (List.mem_of_getElem? (i := 9) rfl)
theorem cX_wish_18 : zCode 112 18 = some (.iload_n 1, 19, 0, 0, 0, 0, 7) := cAX_wish_0 _ (List.mem_of_getElem? (i := 10) rfl)
theorem cX_wish_19 : zCode 112 19 = some (.bipush (-23), 21, 0, 0, 0, 0, 7) := cAX_wish_0 _ (List.mem_of_getElem? (i := 11) rfl)
theorem cX_wish_21 : zCode 112 21 = some (.bipush 23, 23, 0, 0, 0, 0, 7) := cAX_wish_0 _ (List.mem_of_getElem? (i := 12) rfl)
theorem cX_wish_23 : zCode 112 23 = some (.invokestatic 150, 26, 139, 3, 3, 11, 7) := cAX_wish_0 _ (List.mem_of_getElem? (i := 13) rfl)
theorem cX_wish_26 : zCode 112 26 = some (.ifCond .eq 14, 29, 40, 0, 0, 0, 7) := cAX_wish_0 _ (List.mem_of_getElem? (i := 14) rfl)
theorem cX_wish_29 : zCode 112 29 = some (.iload_n 2, 30, 0, 0, 0, 0, 7) := cAX_wish_0 _ (List.mem_of_getElem? (i := 15) rfl)
theorem cX_wish_30 : zCode 112 30 = some (.bipush (-15), 32, 0, 0, 0, 0, 7) := cAX_wish_1 _ (List.mem_of_getElem? (i := 0) rfl)
theorem cX_wish_32 : zCode 112 32 = some (.bipush 15, 34, 0, 0, 0, 0, 7) := cAX_wish_1 _ (List.mem_of_getElem? (i := 1) rfl)
theorem cX_wish_34 : zCode 112 34 = some (.invokestatic 150, 37, 139, 3, 3, 11, 7) := cAX_wish_1 _ (List.mem_of_getElem? (i := 2) rfl)
theorem cX_wish_37 : zCode 112 37 = some (.ifCond .ne 11, 40, 48, 0, 0, 0, 7) := cAX_wish_1 _ (List.mem_of_getElem? (i := 3) rfl)
theorem cX_wish_40 : zCode 112 40 = some (.aload_n 0, 41, 0, 0, 0, 0, 1) := cAX_wish_1 _ (List.mem_of_getElem? (i := 4) rfl)
theorem cX_wish_41 : zCode 112 41 = some (.iconst 0, 42, 0, 0, 0, 0, 0) := cAX_wish_1 _ (List.mem_of_getElem? (i := 5) rfl)
theorem cX_wish_42 : zCode 112 42 = some (.bipush (-2), 44, 0, 0, 0, 0, 0) := cAX_wish_1 _ (List.mem_of_getElem? (i := 6) rfl)
theorem cX_wish_44 : zCode 112 44 = some (.invokevirtual 72, 47, 138, 2, 3, 11, 0) := cAX_wish_1 _ (List.mem_of_getElem? (i := 7) rfl)
theorem cX_wish_47 : zCode 112 47 = some (.ireturn, 48, 0, 0, 0, 0, 0) := cAX_wish_1 _ (List.mem_of_getElem? (i := 8) rfl)
theorem cX_wish_48 : zCode 112 48 = some (.aload_n 0, 49, 0, 0, 0, 0, 7) := cAX_wish_1 _ (List.mem_of_getElem? (i := 9) rfl)
theorem cX_wish_49 : zCode 112 49 = some (.getfield 10, 52, 11, 0, 2, 506, 7) := cAX_wish_1 _ (List.mem_of_getElem? (i := 10) rfl)
theorem cX_wish_52 : zCode 112 52 = some (.getfield 154, 55, 9, 2, 2, 170, 7) := cAX_wish_1 _ (List.mem_of_getElem? (i := 11) rfl)
theorem cX_wish_55 : zCode 112 55 = some (.invokevirtual 158, 58, 96, 0, 1, 10, 7) := cAX_wish_1 _ (List.mem_of_getElem? (i := 12) rfl)
theorem cX_wish_58 : zCode 112 58 = some (.ifCond .eq 11, 61, 69, 0, 0, 0, 7) := cAX_wish_1 _ (List.mem_of_getElem? (i := 13) rfl)
theorem cX_wish_61 : zCode 112 61 = some (.aload_n 0, 62, 0, 0, 0, 0, 1) := cAX_wish_1 _ (List.mem_of_getElem? (i := 14) rfl)
theorem cX_wish_62 : zCode 112 62 = some (.iconst 2, 63, 0, 0, 0, 0, 0) := cAX_wish_1 _ (List.mem_of_getElem? (i := 15) rfl)
theorem cX_wish_63 : zCode 112 63 = some (.bipush (-4), 65, 0, 0, 0, 0, 0) := cAX_wish_2 _ (List.mem_of_getElem? (i := 0) rfl)
theorem cX_wish_65 : zCode 112 65 = some (.invokevirtual 72, 68, 138, 2, 3, 11, 0) := cAX_wish_2 _ (List.mem_of_getElem? (i := 1) rfl)
theorem cX_wish_68 : zCode 112 68 = some (.ireturn, 69, 0, 0, 0, 0, 0) := cAX_wish_2 _ (List.mem_of_getElem? (i := 2) rfl)
theorem cX_wish_69 : zCode 112 69 = some (.aload_n 0, 70, 0, 0, 0, 0, 7) := cAX_wish_2 _ (List.mem_of_getElem? (i := 3) rfl)
theorem cX_wish_70 : zCode 112 70 = some (.getfield 10, 73, 11, 0, 2, 506, 6) := cAX_wish_2 _ (List.mem_of_getElem? (i := 4) rfl)
theorem cX_wish_73 : zCode 112 73 = some (.getfield 154, 76, 9, 2, 2, 170, 6) := cAX_wish_2 _ (List.mem_of_getElem? (i := 5) rfl)
theorem cX_wish_76 : zCode 112 76 = some (.iload_n 1, 77, 0, 0, 0, 0, 6) := cAX_wish_2 _ (List.mem_of_getElem? (i := 6) rfl)
theorem cX_wish_77 : zCode 112 77 = some (.iload_n 2, 78, 0, 0, 0, 0, 4) := cAX_wish_2 _ (List.mem_of_getElem? (i := 7) rfl)
theorem cX_wish_78 : zCode 112 78 = some (.iconst 0, 79, 0, 0, 0, 0, 0) := cAX_wish_2 _ (List.mem_of_getElem? (i := 8) rfl)
theorem cX_wish_79 : zCode 112 79 = some (.invokevirtual 99, 82, 98, 3, 5, 10, 0) := cAX_wish_2 _ (List.mem_of_getElem? (i := 9) rfl)
theorem cX_wish_82 : zCode 112 82 = some (.ireturn, 83, 0, 0, 0, 0, 0) := cAX_wish_2 _ (List.mem_of_getElem? (i := 10) rfl)
theorem rX_wish_0 {a0 : Nat} {a1 a2 : Int} {u3 : zV} : zS 112 0 [zR a0, zI a1, zI a2, u3] [] sh pp mm Q ↔ zS 112 1 [zR a0, zI a1, zI a2, zU] [zI a1] sh pp mm Q := s_go cX_wish_0 cX_wish_1 rfl rfl
theorem rX_wish_1 {a0 : Nat} {a1 a2 s0 : Int} {u3 : zV} : zS 112 1 [zR a0, zI a1, zI a2, u3] [zI s0] sh pp mm Q ↔ (s0 = 0 → zS 112 4 [zR a0, zI a1, zI a2, zU] [] sh pp mm Q) ∧ (¬ s0 = 0 → zS 112 12 [zR a0, zI a1, zI a2, zU] [] sh pp mm Q) := s_ifn cX_wish_1 cX_wish_4 cX_wish_12 rfl rfl rfl
theorem rX_wish_4 {a0 : Nat} {a1 a2 : Int} {u3 : zV} : zS 112 4 [zR a0, zI a1, zI a2, u3] [] sh pp mm Q ↔ zS 112 5 [zR a0, zI a1, zI a2, zU] [zI a2] sh pp mm Q := s_go cX_wish_4 cX_wish_5 rfl rfl
theorem rX_wish_5 {a0 : Nat} {a1 a2 s0 : Int} {u3 : zV} : zS 112 5 [zR a0, zI a1, zI a2, u3] [zI s0] sh pp mm Q ↔ (s0 = 0 → zS 112 8 [zR a0, zI a1, zI a2, zU] [] sh pp mm Q) ∧ (¬ s0 = 0 → zS 112 12 [zR a0, zI a1, zI a2, zU] [] sh pp mm Q) := s_ifn cX_wish_5 cX_wish_8 cX_wish_12 rfl rfl rfl
theorem rX_wish_8 {a0 : Nat} {a1 a2 : Int} {u3 : zV} : zS 112 8 [zR a0, zI a1, zI a2, u3] [] sh pp mm Q ↔ zS 112 9 [zR a0, zI a1, zI a2, zU] [zI 1] sh pp mm Q := s_go cX_wish_8 cX_wish_9 rfl rfl
theorem rX_wish_9 {a0 : Nat} {a1 a2 s0 : Int} {u3 : zV} : zS 112 9 [zR a0, zI a1, zI a2, u3] [zI s0] sh pp mm Q ↔ zS 112 13 [zR a0, zI a1, zI a2, zU] [zI s0] sh pp mm Q := s_go cX_wish_9 cX_wish_13 rfl rfl
theorem rX_wish_12 {a0 : Nat} {a1 a2 : Int} {u3 : zV} : zS 112 12 [zR a0, zI a1, zI a2, u3] [] sh pp mm Q ↔ zS 112 13 [zR a0, zI a1, zI a2, zU] [zI 0] sh pp mm Q := s_go cX_wish_12 cX_wish_13 rfl rfl
theorem rX_wish_13 {a0 : Nat} {a1 a2 s0 : Int} {u3 : zV} : zS 112 13 [zR a0, zI a1, zI a2, u3] [zI s0] sh pp mm Q ↔ zS 112 14 [zR a0, zI a1, zI a2, zI s0] [] sh pp mm Q := s_go cX_wish_13 cX_wish_14 rfl rfl
theorem rX_wish_14 {a0 : Nat} {a1 a2 a3 : Int} : zS 112 14 [zR a0, zI a1, zI a2, zI a3] [] sh pp mm Q ↔ zS 112 15 [zR a0, zI a1, zI a2, zU] [zI a3] sh pp mm Q := s_go cX_wish_14 cX_wish_15 rfl rfl
theorem rX_wish_15 {a0 : Nat} {a1 a2 s0 : Int} {u3 : zV} : zS 112 15 [zR a0, zI a1, zI a2, u3] [zI s0] sh pp mm Q ↔ (s0 = 0 → zS 112 18 [zR a0, zI a1, zI a2, zU] [] sh pp mm Q) ∧ (¬ s0 = 0 → zS 112 40 [zR a0, zU, zU, zU] [] sh pp mm Q) := s_ifn cX_wish_15 cX_wish_18 cX_wish_40 rfl rfl rfl
theorem rX_wish_18 {a0 : Nat} {a1 a2 : Int} {u3 : zV} : zS 112 18 [zR a0, zI a1, zI a2, u3] [] sh pp mm Q ↔ zS 112 19 [zR a0, zI a1, zI a2, zU] [zI a1] sh pp mm Q := s_go cX_wish_18 cX_wish_19 rfl rfl
theorem rX_wish_19 {a0 : Nat} {a1 a2 s0 : Int} {u3 : zV} : zS 112 19 [zR a0, zI a1, zI a2, u3] [zI s0] sh pp mm Q ↔ zS 112 21 [zR a0, zI a1, zI a2, zU] [zI (-23), zI s0] sh pp mm Q := s_go cX_wish_19 cX_wish_21 rfl rfl
theorem rX_wish_21 {a0 : Nat} {a1 a2 s0 s1 : Int} {u3 : zV} : zS 112 21 [zR a0, zI a1, zI a2, u3] [zI s0, zI s1] sh pp mm Q ↔ zS 112 23 [zR a0, zI a1, zI a2, zU] [zI 23, zI s0, zI s1] sh pp mm Q := s_go cX_wish_21 cX_wish_23 rfl rfl
theorem rX_wish_23 {a0 : Nat} {a1 a2 s0 s1 s2 : Int} {u3 : zV} : zS 112 23 [zR a0, zI a1, zI a2, u3] [zI s0, zI s1, zI s2] sh pp mm Q ↔ zS 139 0 [zI s2, zI s1, zI s0] [] sh pp mm (fun v sh pp mm => zS 112 26 [zR a0, zI a1, zI a2, zU] (zPush v []) sh pp mm Q) := s_call cX_wish_23 cX_wish_26 rfl rfl
theorem rX_wish_26 {a0 : Nat} {a1 a2 s0 : Int} {u3 : zV} : zS 112 26 [zR a0, zI a1, zI a2, u3] [zI s0] sh pp mm Q ↔ (s0 = 0 → zS 112 40 [zR a0, zU, zU, zU] [] sh pp mm Q) ∧ (¬ s0 = 0 → zS 112 29 [zR a0, zI a1, zI a2, zU] [] sh pp mm Q) := s_if cX_wish_26 cX_wish_40 cX_wish_29 rfl rfl rfl
theorem rX_wish_29 {a0 : Nat} {a1 a2 : Int} {u3 : zV} : zS 112 29 [zR a0, zI a1, zI a2, u3] [] sh pp mm Q ↔ zS 112 30 [zR a0, zI a1, zI a2, zU] [zI a2] sh pp mm Q := s_go cX_wish_29 cX_wish_30 rfl rfl
theorem rX_wish_30 {a0 : Nat} {a1 a2 s0 : Int} {u3 : zV} : zS 112 30 [zR a0, zI a1, zI a2, u3] [zI s0] sh pp mm Q ↔ zS 112 32 [zR a0, zI a1, zI a2, zU] [zI (-15), zI s0] sh pp mm Q := s_go cX_wish_30 cX_wish_32 rfl rfl
theorem rX_wish_32 {a0 : Nat} {a1 a2 s0 s1 : Int} {u3 : zV} : zS 112 32 [zR a0, zI a1, zI a2, u3] [zI s0, zI s1] sh pp mm Q ↔ zS 112 34 [zR a0, zI a1, zI a2, zU] [zI 15, zI s0, zI s1] sh pp mm Q := s_go cX_wish_32 cX_wish_34 rfl rfl
theorem rX_wish_34 {a0 : Nat} {a1 a2 s0 s1 s2 : Int} {u3 : zV} : zS 112 34 [zR a0, zI a1, zI a2, u3] [zI s0, zI s1, zI s2] sh pp mm Q ↔ zS 139 0 [zI s2, zI s1, zI s0] [] sh pp mm (fun v sh pp mm => zS 112 37 [zR a0, zI a1, zI a2, zU] (zPush v []) sh pp mm Q) := s_call cX_wish_34 cX_wish_37 rfl rfl
theorem rX_wish_37 {a0 : Nat} {a1 a2 s0 : Int} {u3 : zV} : zS 112 37 [zR a0, zI a1, zI a2, u3] [zI s0] sh pp mm Q ↔ (s0 = 0 → zS 112 40 [zR a0, zU, zU, zU] [] sh pp mm Q) ∧ (¬ s0 = 0 → zS 112 48 [zR a0, zI a1, zI a2, zU] [] sh pp mm Q) := s_ifn cX_wish_37 cX_wish_40 cX_wish_48 rfl rfl rfl
theorem rX_wish_40 {a0 : Nat} {u1 u2 u3 : zV} : zS 112 40 [zR a0, u1, u2, u3] [] sh pp mm Q ↔ zS 112 41 [zU, zU, zU, zU] [zR a0] sh pp mm Q := s_go cX_wish_40 cX_wish_41 rfl rfl
theorem rX_wish_41 {s0 : Nat} {u0 u1 u2 u3 : zV} : zS 112 41 [u0, u1, u2, u3] [zR s0] sh pp mm Q ↔ zS 112 42 [zU, zU, zU, zU] [zI 0, zR s0] sh pp mm Q := s_go cX_wish_41 cX_wish_42 rfl rfl
theorem rX_wish_42 {s1 : Nat} {s0 : Int} {u0 u1 u2 u3 : zV} : zS 112 42 [u0, u1, u2, u3] [zI s0, zR s1] sh pp mm Q ↔ zS 112 44 [zU, zU, zU, zU] [zI (-2), zI s0, zR s1] sh pp mm Q := s_go cX_wish_42 cX_wish_44 rfl rfl
theorem rX_wish_44 {s2 : Nat} {s0 s1 : Int} {u0 u1 u2 u3 : zV} (hk : zKd sh s2 = 11) : zS 112 44 [u0, u1, u2, u3] [zI s0, zI s1, zR s2] sh pp mm Q ↔ zS 138 0 [zR s2, zI s1, zI s0] [] sh pp mm (fun v sh pp mm => zS 112 47 [zU, zU, zU, zU] (zPush v []) sh pp mm Q) := s_call cX_wish_44 cX_wish_47 ((if_pos hk).trans rfl) rfl
theorem rX_wish_47 {s0 : Int} {u0 u1 u2 u3 : zV} : zS 112 47 [u0, u1, u2, u3] [zI s0] sh pp mm Q ↔ Q (zI s0) sh pp mm := s_ret cX_wish_47 rfl
theorem rX_wish_48 {a0 : Nat} {a1 a2 : Int} {u3 : zV} : zS 112 48 [zR a0, zI a1, zI a2, u3] [] sh pp mm Q ↔ zS 112 49 [zR a0, zI a1, zI a2, zU] [zR a0] sh pp mm Q := s_go cX_wish_48 cX_wish_49 rfl rfl
theorem rX_wish_49 {a0 s0 : Nat} {a1 a2 : Int} {u3 : zV} (hk : zKd sh s0 = 11) : zS 112 49 [zR a0, zI a1, zI a2, u3] [zR s0] sh pp mm Q ↔ zS 112 52 [zR a0, zI a1, zI a2, zU] [zR (pp s0 0)] sh pp mm Q := s_go cX_wish_49 cX_wish_52 (if_pos hk) rfl
theorem rX_wish_52 {a0 s0 : Nat} {a1 a2 : Int} {u3 : zV} (hk : zKd sh s0 = 9) : zS 112 52 [zR a0, zI a1, zI a2, u3] [zR s0] sh pp mm Q ↔ zS 112 55 [zR a0, zI a1, zI a2, zU] [zR (pp s0 2)] sh pp mm Q := s_go cX_wish_52 cX_wish_55 (if_pos hk) rfl
theorem rX_wish_55 {a0 s0 : Nat} {a1 a2 : Int} {u3 : zV} (hk : zKd sh s0 = 10) : zS 112 55 [zR a0, zI a1, zI a2, u3] [zR s0] sh pp mm Q ↔ zS 96 0 [zR s0] [] sh pp mm (fun v sh pp mm => zS 112 58 [zR a0, zI a1, zI a2, zU] (zPush v []) sh pp mm Q) := s_call cX_wish_55 cX_wish_58 ((if_pos hk).trans rfl) rfl
theorem rX_wish_58 {a0 : Nat} {a1 a2 s0 : Int} {u3 : zV} : zS 112 58 [zR a0, zI a1, zI a2, u3] [zI s0] sh pp mm Q ↔ (s0 = 0 → zS 112 69 [zR a0, zI a1, zI a2, zU] [] sh pp mm Q) ∧ (¬ s0 = 0 → zS 112 61 [zR a0, zU, zU, zU] [] sh pp mm Q) := s_if cX_wish_58 cX_wish_69 cX_wish_61 rfl rfl rfl
theorem rX_wish_61 {a0 : Nat} {u1 u2 u3 : zV} : zS 112 61 [zR a0, u1, u2, u3] [] sh pp mm Q ↔ zS 112 62 [zU, zU, zU, zU] [zR a0] sh pp mm Q := s_go cX_wish_61 cX_wish_62 rfl rfl
theorem rX_wish_62 {s0 : Nat} {u0 u1 u2 u3 : zV} : zS 112 62 [u0, u1, u2, u3] [zR s0] sh pp mm Q ↔ zS 112 63 [zU, zU, zU, zU] [zI 2, zR s0] sh pp mm Q := s_go cX_wish_62 cX_wish_63 rfl rfl
theorem rX_wish_63 {s1 : Nat} {s0 : Int} {u0 u1 u2 u3 : zV} : zS 112 63 [u0, u1, u2, u3] [zI s0, zR s1] sh pp mm Q ↔ zS 112 65 [zU, zU, zU, zU] [zI (-4), zI s0, zR s1] sh pp mm Q := s_go cX_wish_63 cX_wish_65 rfl rfl
theorem rX_wish_65 {s2 : Nat} {s0 s1 : Int} {u0 u1 u2 u3 : zV} (hk : zKd sh s2 = 11) : zS 112 65 [u0, u1, u2, u3] [zI s0, zI s1, zR s2] sh pp mm Q ↔ zS 138 0 [zR s2, zI s1, zI s0] [] sh pp mm (fun v sh pp mm => zS 112 68 [zU, zU, zU, zU] (zPush v []) sh pp mm Q) := s_call cX_wish_65 cX_wish_68 ((if_pos hk).trans rfl) rfl
theorem rX_wish_68 {s0 : Int} {u0 u1 u2 u3 : zV} : zS 112 68 [u0, u1, u2, u3] [zI s0] sh pp mm Q ↔ Q (zI s0) sh pp mm := s_ret cX_wish_68 rfl
theorem rX_wish_69 {a0 : Nat} {a1 a2 : Int} {u3 : zV} : zS 112 69 [zR a0, zI a1, zI a2, u3] [] sh pp mm Q ↔ zS 112 70 [zU, zI a1, zI a2, zU] [zR a0] sh pp mm Q := s_go cX_wish_69 cX_wish_70 rfl rfl
theorem rX_wish_70 {s0 : Nat} {a1 a2 : Int} {u0 u3 : zV} (hk : zKd sh s0 = 11) : zS 112 70 [u0, zI a1, zI a2, u3] [zR s0] sh pp mm Q ↔ zS 112 73 [zU, zI a1, zI a2, zU] [zR (pp s0 0)] sh pp mm Q := s_go cX_wish_70 cX_wish_73 (if_pos hk) rfl
theorem rX_wish_73 {s0 : Nat} {a1 a2 : Int} {u0 u3 : zV} (hk : zKd sh s0 = 9) : zS 112 73 [u0, zI a1, zI a2, u3] [zR s0] sh pp mm Q ↔ zS 112 76 [zU, zI a1, zI a2, zU] [zR (pp s0 2)] sh pp mm Q := s_go cX_wish_73 cX_wish_76 (if_pos hk) rfl
theorem rX_wish_76 {s0 : Nat} {a1 a2 : Int} {u0 u3 : zV} : zS 112 76 [u0, zI a1, zI a2, u3] [zR s0] sh pp mm Q ↔ zS 112 77 [zU, zU, zI a2, zU] [zI a1, zR s0] sh pp mm Q := s_go cX_wish_76 cX_wish_77 rfl rfl
theorem rX_wish_77 {s1 : Nat} {a2 s0 : Int} {u0 u1 u3 : zV} : zS 112 77 [u0, u1, zI a2, u3] [zI s0, zR s1] sh pp mm Q ↔ zS 112 78 [zU, zU, zU, zU] [zI a2, zI s0, zR s1] sh pp mm Q := s_go cX_wish_77 cX_wish_78 rfl rfl
theorem rX_wish_78 {s2 : Nat} {s0 s1 : Int} {u0 u1 u2 u3 : zV} : zS 112 78 [u0, u1, u2, u3] [zI s0, zI s1, zR s2] sh pp mm Q ↔ zS 112 79 [zU, zU, zU, zU] [zI 0, zI s0, zI s1, zR s2] sh pp mm Q := s_go cX_wish_78 cX_wish_79 rfl rfl
theorem rX_wish_79 {s3 : Nat} {s0 s1 s2 : Int} {u0 u1 u2 u3 : zV} (hk : zKd sh s3 = 10) : zS 112 79 [u0, u1, u2, u3] [zI s0, zI s1, zI s2, zR s3] sh pp mm Q ↔ zS 98 0 [zR s3, zI s2, zI s1, zI s0, zU] [] sh pp mm (fun v sh pp mm => zS 112 82 [zU, zU, zU, zU] (zPush v []) sh pp mm Q) := s_call cX_wish_79 cX_wish_82 ((if_pos hk).trans rfl) rfl
theorem rX_wish_82 {s0 : Int} {u0 u1 u2 u3 : zV} : zS 112 82 [u0, u1, u2, u3] [zI s0] sh pp mm Q ↔ Q (zI s0) sh pp mm := s_ret cX_wish_82 rfl
theorem cAX_forget : ∀ q ∈ zT113, zCode 113 q.1 = some q.2 := zAll (mid := 113) rfl (by decide +kernel)
theorem cAX_forget_0 : ∀ q ∈ zT113_0, zCode 113 q.1 = some q.2 := fun q h => cAX_forget q (h)
theorem cX_forget_0 : zCode 113 0 = some (.aload_n 0, 1, 0, 0, 0, 0, 1) := cAX_forget_0 _ (List.mem_of_getElem? (i := 0) rfl)
theorem cX_forget_1 : zCode 113 1 = some (.getfield 10, 4, 11, 0, 2, 506, 0) := cAX_forget_0 _ (List.mem_of_getElem? (i := 1) rfl)
theorem cX_forget_4 : zCode 113 4 = some (.getfield 154, 7, 9, 2, 2, 170, 0) := cAX_forget_0 _ (List.mem_of_getElem? (i := 2) rfl)
theorem cX_forget_7 : zCode 113 7 = some (.invokevirtual 107, 10, 99, 0, 2, 10, 0) := cAX_forget_0 _ (List.mem_of_getElem? (i := 3) rfl)
theorem cX_forget_10 : zCode 113 10 = some (.ireturn, 11, 0, 0, 0, 0, 0) := cAX_forget_0 _ (List.mem_of_getElem? (i := 4) rfl)
theorem rX_forget_0 {a0 : Nat} : zS 113 0 [zR a0] [] sh pp mm Q ↔ zS 113 1 [zU] [zR a0] sh pp mm Q := s_go cX_forget_0 cX_forget_1 rfl rfl
theorem rX_forget_1 {s0 : Nat} {u0 : zV} (hk : zKd sh s0 = 11) : zS 113 1 [u0] [zR s0] sh pp mm Q ↔ zS 113 4 [zU] [zR (pp s0 0)] sh pp mm Q := s_go cX_forget_1 cX_forget_4 (if_pos hk) rfl
theorem rX_forget_4 {s0 : Nat} {u0 : zV} (hk : zKd sh s0 = 9) : zS 113 4 [u0] [zR s0] sh pp mm Q ↔ zS 113 7 [zU] [zR (pp s0 2)] sh pp mm Q := s_go cX_forget_4 cX_forget_7 (if_pos hk) rfl
theorem rX_forget_7 {s0 : Nat} {u0 : zV} (hk : zKd sh s0 = 10) : zS 113 7 [u0] [zR s0] sh pp mm Q ↔ zS 99 0 [zR s0, zU] [] sh pp mm (fun v sh pp mm => zS 113 10 [zU] (zPush v []) sh pp mm Q) := s_call cX_forget_7 cX_forget_10 ((if_pos hk).trans rfl) rfl
theorem rX_forget_10 {s0 : Int} {u0 : zV} : zS 113 10 [u0] [zI s0] sh pp mm Q ↔ Q (zI s0) sh pp mm := s_ret cX_forget_10 rfl
theorem cAX_right : ∀ q ∈ zT114, zCode 114 q.1 = some q.2 := zAll (mid := 114) rfl (by decide +kernel)
theorem cAX_right_0 : ∀ q ∈ zT114_0, zCode 114 q.1 = some q.2 := fun q h => cAX_right q (List.mem_append_left _ h)
theorem cAX_right_1 : ∀ q ∈ zT114_1, zCode 114 q.1 = some q.2 := fun q h => cAX_right q (List.mem_append_right _ (List.mem_append_left _ h))
theorem cAX_right_2 : ∀ q ∈ zT114_2, zCode 114 q.1 = some q.2 := fun q h => cAX_right q (List.mem_append_right _ (List.mem_append_right _ (List.mem_append_left _ h)))
theorem cAX_right_3 : ∀ q ∈ zT114_3, zCode 114 q.1 = some q.2 := fun q h => cAX_right q (List.mem_append_right _ (List.mem_append_right _ (List.mem_append_right _ h)))
theorem cX_right_0 : zCode 114 0 = some (.iload_n 1, 1, 0, 0, 0, 0, 7) := cAX_right_0 _ (List.mem_of_getElem? (i := 0) rfl)
theorem cX_right_1 : zCode 114 1 = some (.ifCond .lt 24, 4, 25, 0, 0, 0, 7) := cAX_right_0 _ (List.mem_of_getElem? (i := 1) rfl)
theorem cX_right_4 : zCode 114 4 = some (.iload_n 1, 5, 0, 0, 0, 0, 7) := cAX_right_0 _ (List.mem_of_getElem? (i := 2) rfl)
theorem cX_right_5 : zCode 114 5 = some (.aload_n 0, 6, 0, 0, 0, 0, 7) := cAX_right_0 _ (List.mem_of_getElem? (i := 3) rfl)
theorem cX_right_6 : zCode 114 6 = some (.getfield 10, 9, 11, 0, 2, 506, 7) := cAX_right_0 _ (List.mem_of_getElem? (i := 4) rfl)
theorem cX_right_9 : zCode 114 9 = some (.getfield 154, 12, 9, 2, 2, 170, 7) := cAX_right_0 _ (List.mem_of_getElem? (i := 5) rfl)
theorem cX_right_12 : zCode 114 12 = some (.getfield 93, 15, 10, 3, 0, 145, 7) := cAX_right_0 _ (List.mem_of_getElem? (i := 6) rfl)
theorem cX_right_15 : zCode 114 15 = some (.if_icmp .ge 10, 18, 25, 0, 0, 0, 7) := cAX_right_0 _ (List.mem_of_getElem? (i := 7) rfl)
theorem cX_right_18 : zCode 114 18 = some (.iload_n 2, 19, 0, 0, 0, 0, 7) := cAX_right_0 _ (List.mem_of_getElem? (i := 8) rfl)
theorem cX_right_19 : zCode 114 19 = some (.invokestatic 162, 22, 141, 1, 1, 11, 7) := cAX_right_0 _ (List.mem_of_getElem? (i := 9) rfl)
theorem cX_right_22 : zCode 114 22 = some (.ifCond .ne 11, 25, 33, 0, 0, 0, 7) := cAX_right_0 _ (List.mem_of_getElem? (i := 10) rfl)
theorem cX_right_25 : zCode 114 25 = some (.aload_n 0, 26, 0, 0, 0, 0, 1) := cAX_right_0 _ (List.mem_of_getElem? (i := 11) rfl)
theorem cX_right_26 : zCode 114 26 = some (.iconst 0, 27, 0, 0, 0, 0, 0) := cAX_right_0 _ (List.mem_of_getElem? (i := 12) rfl)
theorem cX_right_27 : zCode 114 27 = some (.bipush (-2), 29, 0, 0, 0, 0, 0) := cAX_right_0 _ (List.mem_of_getElem? (i := 13) rfl)
theorem cX_right_29 : zCode 114 29 = some (.invokevirtual 72, 32, 138, 2, 3, 11, 0) := cAX_right_0 _ (List.mem_of_getElem? (i := 14) rfl)
theorem cX_right_32 : zCode 114 32 = some (.ireturn, 33, 0, 0, 0, 0, 0) := cAX_right_0 _ (List.mem_of_getElem? (i := 15) rfl)
theorem cX_right_33 : zCode 114 33 = some (.aload_n 0, 34, 0, 0, 0, 0, 7) := cAX_right_1 _ (List.mem_of_getElem? (i := 0) rfl)
theorem cX_right_34 : zCode 114 34 = some (.getfield 10, 37, 11, 0, 2, 506, 7) := cAX_right_1 _ (List.mem_of_getElem? (i := 1) rfl)
theorem cX_right_37 : zCode 114 37 = some (.getfield 76, 40, 9, 0, 2, 165, 7) := cAX_right_1 _ (List.mem_of_getElem? (i := 2) rfl)
theorem cX_right_40 : zCode 114 40 = some (.iconst 0, 41, 0, 0, 0, 0, 7) := cAX_right_1 _ (List.mem_of_getElem? (i := 3) rfl)
theorem cX_right_41 : zCode 114 41 = some (.iload_n 2, 42, 0, 0, 0, 0, 7) := cAX_right_1 _ (List.mem_of_getElem? (i := 4) rfl)
theorem cX_right_42 : zCode 114 42 = some (.iadd, 43, 0, 0, 0, 0, 7) := cAX_right_1 _ (List.mem_of_getElem? (i := 5) rfl)
theorem cX_right_43 : zCode 114 43 = some (.iaload, 44, 0, 0, 0, 0, 7) := cAX_right_1 _ (List.mem_of_getElem? (i := 6) rfl)
theorem cX_right_44 : zCode 114 44 = some (.istore_n 3, 45, 0, 0, 0, 0, 7) := cAX_right_1 _ (List.mem_of_getElem? (i := 7) rfl)
theorem cX_right_45 : zCode 114 45 = some (.iconst 0, 46, 0, 0, 0, 0, 15) := cAX_right_1 _ (List.mem_of_getElem? (i := 8) rfl)
theorem cX_right_46 : zCode 114 46 = some (.istore 4, 48, 0, 0, 0, 0, 15) := cAX_right_1 _ (List.mem_of_getElem? (i := 9) rfl)
theorem cX_right_48 : zCode 114 48 = some (.iconst 0, 49, 0, 0, 0, 0, 31) := cAX_right_1 _ (List.mem_of_getElem? (i := 10) rfl)
theorem cX_right_49 : zCode 114 49 = some (.istore 5, 51, 0, 0, 0, 0, 31) := cAX_right_1 _ (List.mem_of_getElem? (i := 11) rfl)
theorem cX_right_51 : zCode 114 51 = some (.iload 5, 53, 0, 0, 0, 0, 63) := cAX_right_1 _ (List.mem_of_getElem? (i := 12) rfl)
theorem cX_right_53 : zCode 114 53 = some (.iload_n 1, 54, 0, 0, 0, 0, 63) := cAX_right_1 _ (List.mem_of_getElem? (i := 13) rfl)
theorem cX_right_54 : zCode 114 54 = some (.if_icmp .ge 30, 57, 84, 0, 0, 0, 63) := cAX_right_1 _ (List.mem_of_getElem? (i := 14) rfl)
theorem cX_right_57 : zCode 114 57 = some (.aload_n 0, 58, 0, 0, 0, 0, 63) := cAX_right_1 _ (List.mem_of_getElem? (i := 15) rfl)
theorem cX_right_58 : zCode 114 58 = some (.getfield 10, 61, 11, 0, 2, 506, 63) := cAX_right_2 _ (List.mem_of_getElem? (i := 0) rfl)
theorem cX_right_61 : zCode 114 61 = some (.getfield 154, 64, 9, 2, 2, 170, 63) := cAX_right_2 _ (List.mem_of_getElem? (i := 1) rfl)
theorem cX_right_64 : zCode 114 64 = some (.iload 5, 66, 0, 0, 0, 0, 63) := cAX_right_2 _ (List.mem_of_getElem? (i := 2) rfl)
theorem cX_right_66 : zCode 114 66 = some (.iload_n 2, 67, 0, 0, 0, 0, 63) := cAX_right_2 _ (List.mem_of_getElem? (i := 3) rfl)
theorem cX_right_67 : zCode 114 67 = some (.invokevirtual 165, 70, 97, 2, 4, 10, 63) := cAX_right_2 _ (List.mem_of_getElem? (i := 4) rfl)
theorem cX_right_70 : zCode 114 70 = some (.iload 4, 72, 0, 0, 0, 0, 63) := cAX_right_2 _ (List.mem_of_getElem? (i := 5) rfl)
theorem cX_right_72 : zCode 114 72 = some (.iload_n 3, 73, 0, 0, 0, 0, 47) := cAX_right_2 _ (List.mem_of_getElem? (i := 6) rfl)
theorem cX_right_73 : zCode 114 73 = some (.invokestatic 168, 76, 145, 3, 3, 11, 47) := cAX_right_2 _ (List.mem_of_getElem? (i := 7) rfl)
theorem cX_right_76 : zCode 114 76 = some (.istore 4, 78, 0, 0, 0, 0, 47) := cAX_right_2 _ (List.mem_of_getElem? (i := 8) rfl)
theorem cX_right_78 : zCode 114 78 = some (.iinc 5 1, 81, 0, 0, 0, 0, 63) := cAX_right_2 _ (List.mem_of_getElem? (i := 9) rfl)
theorem cX_right_81 : zCode 114 81 = some (.goto (-30), 84, 51, 0, 0, 0, 63) := cAX_right_2 _ (List.mem_of_getElem? (i := 10) rfl)
theorem cX_right_84 : zCode 114 84 = some (.aload_n 0, 85, 0, 0, 0, 0, 31) := cAX_right_2 _ (List.mem_of_getElem? (i := 11) rfl)
theorem cX_right_85 : zCode 114 85 = some (.getfield 10, 88, 11, 0, 2, 506, 30) := cAX_right_2 _ (List.mem_of_getElem? (i := 12) rfl)
theorem cX_right_88 : zCode 114 88 = some (.getfield 154, 91, 9, 2, 2, 170, 30) := cAX_right_2 _ (List.mem_of_getElem? (i := 13) rfl)
theorem cX_right_91 : zCode 114 91 = some (.iload_n 1, 92, 0, 0, 0, 0, 30) := cAX_right_2 _ (List.mem_of_getElem? (i := 14) rfl)
theorem cX_right_92 : zCode 114 92 = some (.iload_n 2, 93, 0, 0, 0, 0, 28) := cAX_right_2 _ (List.mem_of_getElem? (i := 15) rfl)
theorem cX_right_93 : zCode 114 93 = some (.invokevirtual 165, 96, 97, 2, 4, 10, 24) := cAX_right_3 _ (List.mem_of_getElem? (i := 0) rfl)
theorem cX_right_96 : zCode 114 96 = some (.iload 4, 98, 0, 0, 0, 0, 24) := cAX_right_3 _ (List.mem_of_getElem? (i := 1) rfl)
theorem cX_right_98 : zCode 114 98 = some (.iload_n 3, 99, 0, 0, 0, 0, 24) := cAX_right_3 _ (List.mem_of_getElem? (i := 2) rfl)
theorem cX_right_99 : zCode 114 99 = some (.invokestatic 168, 102, 145, 3, 3, 11, 16) := cAX_right_3 _ (List.mem_of_getElem? (i := 3) rfl)
theorem cX_right_102 : zCode 114 102 = some (.iload 4, 104, 0, 0, 0, 0, 16) := cAX_right_3 _ (List.mem_of_getElem? (i := 4) rfl)
theorem cX_right_104 : zCode 114 104 = some (.isub, 105, 0, 0, 0, 0, 0) := cAX_right_3 _ (List.mem_of_getElem? (i := 5) rfl)
theorem cX_right_105 : zCode 114 105 = some (.invokestatic 171, 108, 258, 1, 1, 15, 0) := cAX_right_3 _ (List.mem_of_getElem? (i := 6) rfl)
theorem cX_right_108 : zCode 114 108 = some (.ireturn, 109, 0, 0, 0, 0, 0) := cAX_right_3 _ (List.mem_of_getElem? (i := 7) rfl)
theorem rX_right_0 {a0 : Nat} {a1 a2 : Int} {u3 u4 u5 : zV} : zS 114 0 [zR a0, zI a1, zI a2, u3, u4, u5] [] sh pp mm Q ↔ zS 114 1 [zR a0, zI a1, zI a2, zU, zU, zU] [zI a1] sh pp mm Q := s_go cX_right_0 cX_right_1 rfl rfl
theorem rX_right_1 {a0 : Nat} {a1 a2 s0 : Int} {u3 u4 u5 : zV} : zS 114 1 [zR a0, zI a1, zI a2, u3, u4, u5] [zI s0] sh pp mm Q ↔ (s0 < 0 → zS 114 25 [zR a0, zU, zU, zU, zU, zU] [] sh pp mm Q) ∧ (¬ s0 < 0 → zS 114 4 [zR a0, zI a1, zI a2, zU, zU, zU] [] sh pp mm Q) := s_if cX_right_1 cX_right_25 cX_right_4 rfl rfl rfl
theorem rX_right_4 {a0 : Nat} {a1 a2 : Int} {u3 u4 u5 : zV} : zS 114 4 [zR a0, zI a1, zI a2, u3, u4, u5] [] sh pp mm Q ↔ zS 114 5 [zR a0, zI a1, zI a2, zU, zU, zU] [zI a1] sh pp mm Q := s_go cX_right_4 cX_right_5 rfl rfl
theorem rX_right_5 {a0 : Nat} {a1 a2 s0 : Int} {u3 u4 u5 : zV} : zS 114 5 [zR a0, zI a1, zI a2, u3, u4, u5] [zI s0] sh pp mm Q ↔ zS 114 6 [zR a0, zI a1, zI a2, zU, zU, zU] [zR a0, zI s0] sh pp mm Q := s_go cX_right_5 cX_right_6 rfl rfl
theorem rX_right_6 {a0 s0 : Nat} {a1 a2 s1 : Int} {u3 u4 u5 : zV} (hk : zKd sh s0 = 11) : zS 114 6 [zR a0, zI a1, zI a2, u3, u4, u5] [zR s0, zI s1] sh pp mm Q ↔ zS 114 9 [zR a0, zI a1, zI a2, zU, zU, zU] [zR (pp s0 0), zI s1] sh pp mm Q := s_go cX_right_6 cX_right_9 (if_pos hk) rfl
theorem rX_right_9 {a0 s0 : Nat} {a1 a2 s1 : Int} {u3 u4 u5 : zV} (hk : zKd sh s0 = 9) : zS 114 9 [zR a0, zI a1, zI a2, u3, u4, u5] [zR s0, zI s1] sh pp mm Q ↔ zS 114 12 [zR a0, zI a1, zI a2, zU, zU, zU] [zR (pp s0 2), zI s1] sh pp mm Q := s_go cX_right_9 cX_right_12 (if_pos hk) rfl
theorem rX_right_12 {a0 s0 : Nat} {a1 a2 s1 : Int} {u3 u4 u5 : zV} (hk : zKd sh s0 = 10) : zS 114 12 [zR a0, zI a1, zI a2, u3, u4, u5] [zR s0, zI s1] sh pp mm Q ↔ zS 114 15 [zR a0, zI a1, zI a2, zU, zU, zU] [zI (mm s0 3), zI s1] sh pp mm Q := s_go cX_right_12 cX_right_15 (if_pos hk) rfl
theorem rX_right_15 {a0 : Nat} {a1 a2 s0 s1 : Int} {u3 u4 u5 : zV} : zS 114 15 [zR a0, zI a1, zI a2, u3, u4, u5] [zI s0, zI s1] sh pp mm Q ↔ (s1 < s0 → zS 114 18 [zR a0, zI a1, zI a2, zU, zU, zU] [] sh pp mm Q) ∧ (¬ s1 < s0 → zS 114 25 [zR a0, zU, zU, zU, zU, zU] [] sh pp mm Q) := s_ifn cX_right_15 cX_right_18 cX_right_25 rfl rfl rfl
theorem rX_right_18 {a0 : Nat} {a1 a2 : Int} {u3 u4 u5 : zV} : zS 114 18 [zR a0, zI a1, zI a2, u3, u4, u5] [] sh pp mm Q ↔ zS 114 19 [zR a0, zI a1, zI a2, zU, zU, zU] [zI a2] sh pp mm Q := s_go cX_right_18 cX_right_19 rfl rfl
theorem rX_right_19 {a0 : Nat} {a1 a2 s0 : Int} {u3 u4 u5 : zV} : zS 114 19 [zR a0, zI a1, zI a2, u3, u4, u5] [zI s0] sh pp mm Q ↔ zS 141 0 [zI s0] [] sh pp mm (fun v sh pp mm => zS 114 22 [zR a0, zI a1, zI a2, zU, zU, zU] (zPush v []) sh pp mm Q) := s_call cX_right_19 cX_right_22 rfl rfl
theorem rX_right_22 {a0 : Nat} {a1 a2 s0 : Int} {u3 u4 u5 : zV} : zS 114 22 [zR a0, zI a1, zI a2, u3, u4, u5] [zI s0] sh pp mm Q ↔ (s0 = 0 → zS 114 25 [zR a0, zU, zU, zU, zU, zU] [] sh pp mm Q) ∧ (¬ s0 = 0 → zS 114 33 [zR a0, zI a1, zI a2, zU, zU, zU] [] sh pp mm Q) := s_ifn cX_right_22 cX_right_25 cX_right_33 rfl rfl rfl
theorem rX_right_25 {a0 : Nat} {u1 u2 u3 u4 u5 : zV} : zS 114 25 [zR a0, u1, u2, u3, u4, u5] [] sh pp mm Q ↔ zS 114 26 [zU, zU, zU, zU, zU, zU] [zR a0] sh pp mm Q := s_go cX_right_25 cX_right_26 rfl rfl
theorem rX_right_26 {s0 : Nat} {u0 u1 u2 u3 u4 u5 : zV} : zS 114 26 [u0, u1, u2, u3, u4, u5] [zR s0] sh pp mm Q ↔ zS 114 27 [zU, zU, zU, zU, zU, zU] [zI 0, zR s0] sh pp mm Q := s_go cX_right_26 cX_right_27 rfl rfl
theorem rX_right_27 {s1 : Nat} {s0 : Int} {u0 u1 u2 u3 u4 u5 : zV} : zS 114 27 [u0, u1, u2, u3, u4, u5] [zI s0, zR s1] sh pp mm Q ↔ zS 114 29 [zU, zU, zU, zU, zU, zU] [zI (-2), zI s0, zR s1] sh pp mm Q := s_go cX_right_27 cX_right_29 rfl rfl
theorem rX_right_29 {s2 : Nat} {s0 s1 : Int} {u0 u1 u2 u3 u4 u5 : zV} (hk : zKd sh s2 = 11) : zS 114 29 [u0, u1, u2, u3, u4, u5] [zI s0, zI s1, zR s2] sh pp mm Q ↔ zS 138 0 [zR s2, zI s1, zI s0] [] sh pp mm (fun v sh pp mm => zS 114 32 [zU, zU, zU, zU, zU, zU] (zPush v []) sh pp mm Q) := s_call cX_right_29 cX_right_32 ((if_pos hk).trans rfl) rfl
theorem rX_right_32 {s0 : Int} {u0 u1 u2 u3 u4 u5 : zV} : zS 114 32 [u0, u1, u2, u3, u4, u5] [zI s0] sh pp mm Q ↔ Q (zI s0) sh pp mm := s_ret cX_right_32 rfl
theorem rX_right_33 {a0 : Nat} {a1 a2 : Int} {u3 u4 u5 : zV} : zS 114 33 [zR a0, zI a1, zI a2, u3, u4, u5] [] sh pp mm Q ↔ zS 114 34 [zR a0, zI a1, zI a2, zU, zU, zU] [zR a0] sh pp mm Q := s_go cX_right_33 cX_right_34 rfl rfl
theorem rX_right_34 {a0 s0 : Nat} {a1 a2 : Int} {u3 u4 u5 : zV} (hk : zKd sh s0 = 11) : zS 114 34 [zR a0, zI a1, zI a2, u3, u4, u5] [zR s0] sh pp mm Q ↔ zS 114 37 [zR a0, zI a1, zI a2, zU, zU, zU] [zR (pp s0 0)] sh pp mm Q := s_go cX_right_34 cX_right_37 (if_pos hk) rfl
theorem rX_right_37 {a0 s0 : Nat} {a1 a2 : Int} {u3 u4 u5 : zV} (hk : zKd sh s0 = 9) : zS 114 37 [zR a0, zI a1, zI a2, u3, u4, u5] [zR s0] sh pp mm Q ↔ zS 114 40 [zR a0, zI a1, zI a2, zU, zU, zU] [zR (pp s0 0)] sh pp mm Q := s_go cX_right_37 cX_right_40 (if_pos hk) rfl
theorem rX_right_40 {a0 s0 : Nat} {a1 a2 : Int} {u3 u4 u5 : zV} : zS 114 40 [zR a0, zI a1, zI a2, u3, u4, u5] [zR s0] sh pp mm Q ↔ zS 114 41 [zR a0, zI a1, zI a2, zU, zU, zU] [zI 0, zR s0] sh pp mm Q := s_go cX_right_40 cX_right_41 rfl rfl
theorem rX_right_41 {a0 s1 : Nat} {a1 a2 s0 : Int} {u3 u4 u5 : zV} : zS 114 41 [zR a0, zI a1, zI a2, u3, u4, u5] [zI s0, zR s1] sh pp mm Q ↔ zS 114 42 [zR a0, zI a1, zI a2, zU, zU, zU] [zI a2, zI s0, zR s1] sh pp mm Q := s_go cX_right_41 cX_right_42 rfl rfl
theorem rX_right_42 {a0 s2 : Nat} {a1 a2 s0 s1 : Int} {u3 u4 u5 : zV} : zS 114 42 [zR a0, zI a1, zI a2, u3, u4, u5] [zI s0, zI s1, zR s2] sh pp mm Q ↔ zS 114 43 [zR a0, zI a1, zI a2, zU, zU, zU] [zI (zw32 (s1 + s0)), zR s2] sh pp mm Q := s_go cX_right_42 cX_right_43 rfl rfl
theorem rX_right_43 {a0 s1 : Nat} {a1 a2 s0 : Int} {u3 u4 u5 : zV} (hk : zKd sh s1 = 20 ∨ zKd sh s1 = 30) (h0 : 0 ≤ s0) (h1 : s0 < zLn sh s1) : zS 114 43 [zR a0, zI a1, zI a2, u3, u4, u5] [zI s0, zR s1] sh pp mm Q ↔ zS 114 44 [zR a0, zI a1, zI a2, zU, zU, zU] [zI (mm s1 s0)] sh pp mm Q := s_go cX_right_43 cX_right_44 (if_pos ⟨hk, h0, h1⟩) rfl
theorem rX_right_44 {a0 : Nat} {a1 a2 s0 : Int} {u3 u4 u5 : zV} : zS 114 44 [zR a0, zI a1, zI a2, u3, u4, u5] [zI s0] sh pp mm Q ↔ zS 114 45 [zR a0, zI a1, zI a2, zI s0, zU, zU] [] sh pp mm Q := s_go cX_right_44 cX_right_45 rfl rfl
theorem rX_right_45 {a0 : Nat} {a1 a2 a3 : Int} {u4 u5 : zV} : zS 114 45 [zR a0, zI a1, zI a2, zI a3, u4, u5] [] sh pp mm Q ↔ zS 114 46 [zR a0, zI a1, zI a2, zI a3, zU, zU] [zI 0] sh pp mm Q := s_go cX_right_45 cX_right_46 rfl rfl
theorem rX_right_46 {a0 : Nat} {a1 a2 a3 s0 : Int} {u4 u5 : zV} : zS 114 46 [zR a0, zI a1, zI a2, zI a3, u4, u5] [zI s0] sh pp mm Q ↔ zS 114 48 [zR a0, zI a1, zI a2, zI a3, zI s0, zU] [] sh pp mm Q := s_go cX_right_46 cX_right_48 rfl rfl
theorem rX_right_48 {a0 : Nat} {a1 a2 a3 a4 : Int} {u5 : zV} : zS 114 48 [zR a0, zI a1, zI a2, zI a3, zI a4, u5] [] sh pp mm Q ↔ zS 114 49 [zR a0, zI a1, zI a2, zI a3, zI a4, zU] [zI 0] sh pp mm Q := s_go cX_right_48 cX_right_49 rfl rfl
theorem rX_right_49 {a0 : Nat} {a1 a2 a3 a4 s0 : Int} {u5 : zV} : zS 114 49 [zR a0, zI a1, zI a2, zI a3, zI a4, u5] [zI s0] sh pp mm Q ↔ zS 114 51 [zR a0, zI a1, zI a2, zI a3, zI a4, zI s0] [] sh pp mm Q := s_go cX_right_49 cX_right_51 rfl rfl
theorem rX_right_51 {a0 : Nat} {a1 a2 a3 a4 a5 : Int} : zS 114 51 [zR a0, zI a1, zI a2, zI a3, zI a4, zI a5] [] sh pp mm Q ↔ zS 114 53 [zR a0, zI a1, zI a2, zI a3, zI a4, zI a5] [zI a5] sh pp mm Q := s_go cX_right_51 cX_right_53 rfl rfl
theorem rX_right_53 {a0 : Nat} {a1 a2 a3 a4 a5 s0 : Int} : zS 114 53 [zR a0, zI a1, zI a2, zI a3, zI a4, zI a5] [zI s0] sh pp mm Q ↔ zS 114 54 [zR a0, zI a1, zI a2, zI a3, zI a4, zI a5] [zI a1, zI s0] sh pp mm Q := s_go cX_right_53 cX_right_54 rfl rfl
theorem rX_right_54 {a0 : Nat} {a1 a2 a3 a4 a5 s0 s1 : Int} : zS 114 54 [zR a0, zI a1, zI a2, zI a3, zI a4, zI a5] [zI s0, zI s1] sh pp mm Q ↔ (s1 < s0 → zS 114 57 [zR a0, zI a1, zI a2, zI a3, zI a4, zI a5] [] sh pp mm Q) ∧ (¬ s1 < s0 → zS 114 84 [zR a0, zI a1, zI a2, zI a3, zI a4, zU] [] sh pp mm Q) := s_ifn cX_right_54 cX_right_57 cX_right_84 rfl rfl rfl
theorem rX_right_57 {a0 : Nat} {a1 a2 a3 a4 a5 : Int} : zS 114 57 [zR a0, zI a1, zI a2, zI a3, zI a4, zI a5] [] sh pp mm Q ↔ zS 114 58 [zR a0, zI a1, zI a2, zI a3, zI a4, zI a5] [zR a0] sh pp mm Q := s_go cX_right_57 cX_right_58 rfl rfl
theorem rX_right_58 {a0 s0 : Nat} {a1 a2 a3 a4 a5 : Int} (hk : zKd sh s0 = 11) : zS 114 58 [zR a0, zI a1, zI a2, zI a3, zI a4, zI a5] [zR s0] sh pp mm Q ↔ zS 114 61 [zR a0, zI a1, zI a2, zI a3, zI a4, zI a5] [zR (pp s0 0)] sh pp mm Q := s_go cX_right_58 cX_right_61 (if_pos hk) rfl
theorem rX_right_61 {a0 s0 : Nat} {a1 a2 a3 a4 a5 : Int} (hk : zKd sh s0 = 9) : zS 114 61 [zR a0, zI a1, zI a2, zI a3, zI a4, zI a5] [zR s0] sh pp mm Q ↔ zS 114 64 [zR a0, zI a1, zI a2, zI a3, zI a4, zI a5] [zR (pp s0 2)] sh pp mm Q := s_go cX_right_61 cX_right_64 (if_pos hk) rfl
theorem rX_right_64 {a0 s0 : Nat} {a1 a2 a3 a4 a5 : Int} : zS 114 64 [zR a0, zI a1, zI a2, zI a3, zI a4, zI a5] [zR s0] sh pp mm Q ↔ zS 114 66 [zR a0, zI a1, zI a2, zI a3, zI a4, zI a5] [zI a5, zR s0] sh pp mm Q := s_go cX_right_64 cX_right_66 rfl rfl
theorem rX_right_66 {a0 s1 : Nat} {a1 a2 a3 a4 a5 s0 : Int} : zS 114 66 [zR a0, zI a1, zI a2, zI a3, zI a4, zI a5] [zI s0, zR s1] sh pp mm Q ↔ zS 114 67 [zR a0, zI a1, zI a2, zI a3, zI a4, zI a5] [zI a2, zI s0, zR s1] sh pp mm Q := s_go cX_right_66 cX_right_67 rfl rfl
theorem rX_right_67 {a0 s2 : Nat} {a1 a2 a3 a4 a5 s0 s1 : Int} (hk : zKd sh s2 = 10) : zS 114 67 [zR a0, zI a1, zI a2, zI a3, zI a4, zI a5] [zI s0, zI s1, zR s2] sh pp mm Q ↔ zS 97 0 [zR s2, zI s1, zI s0, zU] [] sh pp mm (fun v sh pp mm => zS 114 70 [zR a0, zI a1, zI a2, zI a3, zI a4, zI a5] (zPush v []) sh pp mm Q) := s_call cX_right_67 cX_right_70 ((if_pos hk).trans rfl) rfl
theorem rX_right_70 {a0 : Nat} {a1 a2 a3 a4 a5 s0 : Int} : zS 114 70 [zR a0, zI a1, zI a2, zI a3, zI a4, zI a5] [zI s0] sh pp mm Q ↔ zS 114 72 [zR a0, zI a1, zI a2, zI a3, zU, zI a5] [zI a4, zI s0] sh pp mm Q := s_go cX_right_70 cX_right_72 rfl rfl
theorem rX_right_72 {a0 : Nat} {a1 a2 a3 a5 s0 s1 : Int} {u4 : zV} : zS 114 72 [zR a0, zI a1, zI a2, zI a3, u4, zI a5] [zI s0, zI s1] sh pp mm Q ↔ zS 114 73 [zR a0, zI a1, zI a2, zI a3, zU, zI a5] [zI a3, zI s0, zI s1] sh pp mm Q := s_go cX_right_72 cX_right_73 rfl rfl
theorem rX_right_73 {a0 : Nat} {a1 a2 a3 a5 s0 s1 s2 : Int} {u4 : zV} : zS 114 73 [zR a0, zI a1, zI a2, zI a3, u4, zI a5] [zI s0, zI s1, zI s2] sh pp mm Q ↔ zS 145 0 [zI s2, zI s1, zI s0] [] sh pp mm (fun v sh pp mm => zS 114 76 [zR a0, zI a1, zI a2, zI a3, zU, zI a5] (zPush v []) sh pp mm Q) := s_call cX_right_73 cX_right_76 rfl rfl
theorem rX_right_76 {a0 : Nat} {a1 a2 a3 a5 s0 : Int} {u4 : zV} : zS 114 76 [zR a0, zI a1, zI a2, zI a3, u4, zI a5] [zI s0] sh pp mm Q ↔ zS 114 78 [zR a0, zI a1, zI a2, zI a3, zI s0, zI a5] [] sh pp mm Q := s_go cX_right_76 cX_right_78 rfl rfl
theorem rX_right_78 {a0 : Nat} {a1 a2 a3 a4 a5 : Int} : zS 114 78 [zR a0, zI a1, zI a2, zI a3, zI a4, zI a5] [] sh pp mm Q ↔ zS 114 81 [zR a0, zI a1, zI a2, zI a3, zI a4, zI (zw32 (a5 + 1))] [] sh pp mm Q := s_go cX_right_78 cX_right_81 rfl rfl
theorem rX_right_81 {a0 : Nat} {a1 a2 a3 a4 a5 : Int} : zS 114 81 [zR a0, zI a1, zI a2, zI a3, zI a4, zI a5] [] sh pp mm Q ↔ zS 114 51 [zR a0, zI a1, zI a2, zI a3, zI a4, zI a5] [] sh pp mm Q := s_go cX_right_81 cX_right_51 rfl rfl
theorem rX_right_84 {a0 : Nat} {a1 a2 a3 a4 : Int} {u5 : zV} : zS 114 84 [zR a0, zI a1, zI a2, zI a3, zI a4, u5] [] sh pp mm Q ↔ zS 114 85 [zU, zI a1, zI a2, zI a3, zI a4, zU] [zR a0] sh pp mm Q := s_go cX_right_84 cX_right_85 rfl rfl
theorem rX_right_85 {s0 : Nat} {a1 a2 a3 a4 : Int} {u0 u5 : zV} (hk : zKd sh s0 = 11) : zS 114 85 [u0, zI a1, zI a2, zI a3, zI a4, u5] [zR s0] sh pp mm Q ↔ zS 114 88 [zU, zI a1, zI a2, zI a3, zI a4, zU] [zR (pp s0 0)] sh pp mm Q := s_go cX_right_85 cX_right_88 (if_pos hk) rfl
theorem rX_right_88 {s0 : Nat} {a1 a2 a3 a4 : Int} {u0 u5 : zV} (hk : zKd sh s0 = 9) : zS 114 88 [u0, zI a1, zI a2, zI a3, zI a4, u5] [zR s0] sh pp mm Q ↔ zS 114 91 [zU, zI a1, zI a2, zI a3, zI a4, zU] [zR (pp s0 2)] sh pp mm Q := s_go cX_right_88 cX_right_91 (if_pos hk) rfl
theorem rX_right_91 {s0 : Nat} {a1 a2 a3 a4 : Int} {u0 u5 : zV} : zS 114 91 [u0, zI a1, zI a2, zI a3, zI a4, u5] [zR s0] sh pp mm Q ↔ zS 114 92 [zU, zU, zI a2, zI a3, zI a4, zU] [zI a1, zR s0] sh pp mm Q := s_go cX_right_91 cX_right_92 rfl rfl
theorem rX_right_92 {s1 : Nat} {a2 a3 a4 s0 : Int} {u0 u1 u5 : zV} : zS 114 92 [u0, u1, zI a2, zI a3, zI a4, u5] [zI s0, zR s1] sh pp mm Q ↔ zS 114 93 [zU, zU, zU, zI a3, zI a4, zU] [zI a2, zI s0, zR s1] sh pp mm Q := s_go cX_right_92 cX_right_93 rfl rfl
theorem rX_right_93 {s2 : Nat} {a3 a4 s0 s1 : Int} {u0 u1 u2 u5 : zV} (hk : zKd sh s2 = 10) : zS 114 93 [u0, u1, u2, zI a3, zI a4, u5] [zI s0, zI s1, zR s2] sh pp mm Q ↔ zS 97 0 [zR s2, zI s1, zI s0, zU] [] sh pp mm (fun v sh pp mm => zS 114 96 [zU, zU, zU, zI a3, zI a4, zU] (zPush v []) sh pp mm Q) := s_call cX_right_93 cX_right_96 ((if_pos hk).trans rfl) rfl
theorem rX_right_96 {a3 a4 s0 : Int} {u0 u1 u2 u5 : zV} : zS 114 96 [u0, u1, u2, zI a3, zI a4, u5] [zI s0] sh pp mm Q ↔ zS 114 98 [zU, zU, zU, zI a3, zI a4, zU] [zI a4, zI s0] sh pp mm Q := s_go cX_right_96 cX_right_98 rfl rfl
theorem rX_right_98 {a3 a4 s0 s1 : Int} {u0 u1 u2 u5 : zV} : zS 114 98 [u0, u1, u2, zI a3, zI a4, u5] [zI s0, zI s1] sh pp mm Q ↔ zS 114 99 [zU, zU, zU, zU, zI a4, zU] [zI a3, zI s0, zI s1] sh pp mm Q := s_go cX_right_98 cX_right_99 rfl rfl
theorem rX_right_99 {a4 s0 s1 s2 : Int} {u0 u1 u2 u3 u5 : zV} : zS 114 99 [u0, u1, u2, u3, zI a4, u5] [zI s0, zI s1, zI s2] sh pp mm Q ↔ zS 145 0 [zI s2, zI s1, zI s0] [] sh pp mm (fun v sh pp mm => zS 114 102 [zU, zU, zU, zU, zI a4, zU] (zPush v []) sh pp mm Q) := s_call cX_right_99 cX_right_102 rfl rfl
theorem rX_right_102 {a4 s0 : Int} {u0 u1 u2 u3 u5 : zV} : zS 114 102 [u0, u1, u2, u3, zI a4, u5] [zI s0] sh pp mm Q ↔ zS 114 104 [zU, zU, zU, zU, zU, zU] [zI a4, zI s0] sh pp mm Q := s_go cX_right_102 cX_right_104 rfl rfl
theorem rX_right_104 {s0 s1 : Int} {u0 u1 u2 u3 u4 u5 : zV} : zS 114 104 [u0, u1, u2, u3, u4, u5] [zI s0, zI s1] sh pp mm Q ↔ zS 114 105 [zU, zU, zU, zU, zU, zU] [zI (zw32 (s1 - s0))] sh pp mm Q := s_go cX_right_104 cX_right_105 rfl rfl
theorem rX_right_105 {s0 : Int} {u0 u1 u2 u3 u4 u5 : zV} : zS 114 105 [u0, u1, u2, u3, u4, u5] [zI s0] sh pp mm Q ↔ zS 258 0 [zI s0] [] sh pp mm (fun v sh pp mm => zS 114 108 [zU, zU, zU, zU, zU, zU] (zPush v []) sh pp mm Q) := s_call cX_right_105 cX_right_108 rfl rfl
theorem rX_right_108 {s0 : Int} {u0 u1 u2 u3 u4 u5 : zV} : zS 114 108 [u0, u1, u2, u3, u4, u5] [zI s0] sh pp mm Q ↔ Q (zI s0) sh pp mm := s_ret cX_right_108 rfl
theorem cAX_corner : ∀ q ∈ zT115, zCode 115 q.1 = some q.2 := zAll (mid := 115) rfl (by decide +kernel)
theorem cAX_corner_0 : ∀ q ∈ zT115_0, zCode 115 q.1 = some q.2 := fun q h => cAX_corner q (List.mem_append_left _ h)
theorem cAX_corner_1 : ∀ q ∈ zT115_1, zCode 115 q.1 = some q.2 := fun q h => cAX_corner q (List.mem_append_right _ h)
theorem cX_corner_0 : zCode 115 0 = some (.iload_n 1, 1, 0, 0, 0, 0, 7) := cAX_corner_0 _ (List.mem_of_getElem? (i := 0) rfl)
theorem cX_corner_1 : zCode 115 1 = some (.iload_n 2, 2, 0, 0, 0, 0, 7) := cAX_corner_0 _ (List.mem_of_getElem? (i := 1) rfl)
theorem cX_corner_2 : zCode 115 2 = some (.invokestatic 126, 5, 142, 2, 2, 11, 7) := cAX_corner_0 _ (List.mem_of_getElem? (i := 2) rfl)
theorem cX_corner_5 : zCode 115 5 = some (.ifCond .ne 11, 8, 16, 0, 0, 0, 7) := cAX_corner_0 _ (List.mem_of_getElem? (i := 3) rfl)
theorem cX_corner_8 : zCode 115 8 = some (.aload_n 0, 9, 0, 0, 0, 0, 1) := cAX_corner_0 _ (List.mem_of_getElem? (i := 4) rfl)
theorem cX_corner_9 : zCode 115 9 = some (.iconst 0, 10, 0, 0, 0, 0, 0) := cAX_corner_0 _ (List.mem_of_getElem? (i := 5) rfl)
theorem cX_corner_10 : zCode 115 10 = some (.bipush (-2), 12, 0, 0, 0, 0, 0) := cAX_corner_0 _ (List.mem_of_getElem? (i := 6) rfl)
theorem cX_corner_12 : zCode 115 12 = some (.invokevirtual 72, 15, 138, 2, 3, 11, 0) := cAX_corner_0 _ (List.mem_of_getElem? (i := 7) rfl)
theorem cX_corner_15 : zCode 115 15 = some (.ireturn, 16, 0, 0, 0, 0, 0) := cAX_corner_0 _ (List.mem_of_getElem? (i := 8) rfl)
theorem cX_corner_16 : zCode 115 16 = some (.aload_n 0, 17, 0, 0, 0, 0, 7) := cAX_corner_0 _ (List.mem_of_getElem? (i := 9) rfl)
theorem cX_corner_17 : zCode 115 17 = some (.getfield 10, 20, 11, 0, 2, 506, 7) := cAX_corner_0 _ (List.mem_of_getElem? (i := 10) rfl)
theorem cX_corner_20 : zCode 115 20 = some (.getfield 176, 23, 9, 3, 2, 173, 7) := cAX_corner_0 _ (List.mem_of_getElem? (i := 11) rfl)
theorem cX_corner_23 : zCode 115 23 = some (.invokevirtual 158, 26, 96, 0, 1, 10, 7) := cAX_corner_0 _ (List.mem_of_getElem? (i := 12) rfl)
theorem cX_corner_26 : zCode 115 26 = some (.ifCond .eq 11, 29, 37, 0, 0, 0, 7) := cAX_corner_0 _ (List.mem_of_getElem? (i := 13) rfl)
theorem cX_corner_29 : zCode 115 29 = some (.aload_n 0, 30, 0, 0, 0, 0, 1) := cAX_corner_0 _ (List.mem_of_getElem? (i := 14) rfl)
theorem cX_corner_30 : zCode 115 30 = some (.iconst 2, 31, 0, 0, 0, 0, 0) := cAX_corner_0 _ (List.mem_of_getElem? (i := 15) rfl)
theorem cX_corner_31 : zCode 115 31 = some (.bipush (-4), 33, 0, 0, 0, 0, 0) := cAX_corner_1 _ (List.mem_of_getElem? (i := 0) rfl)
theorem cX_corner_33 : zCode 115 33 = some (.invokevirtual 72, 36, 138, 2, 3, 11, 0) := cAX_corner_1 _ (List.mem_of_getElem? (i := 1) rfl)
theorem cX_corner_36 : zCode 115 36 = some (.ireturn, 37, 0, 0, 0, 0, 0) := cAX_corner_1 _ (List.mem_of_getElem? (i := 2) rfl)
theorem cX_corner_37 : zCode 115 37 = some (.aload_n 0, 38, 0, 0, 0, 0, 7) := cAX_corner_1 _ (List.mem_of_getElem? (i := 3) rfl)
theorem cX_corner_38 : zCode 115 38 = some (.getfield 39, 41, 11, 5, 2, 511, 7) := cAX_corner_1 _ (List.mem_of_getElem? (i := 4) rfl)
theorem cX_corner_41 : zCode 115 41 = some (.invokevirtual 82, 44, 54, 0, 1, 6, 7) := cAX_corner_1 _ (List.mem_of_getElem? (i := 5) rfl)
theorem cX_corner_44 : zCode 115 44 = some (.aload_n 0, 45, 0, 0, 0, 0, 7) := cAX_corner_1 _ (List.mem_of_getElem? (i := 6) rfl)
theorem cX_corner_45 : zCode 115 45 = some (.getfield 10, 48, 11, 0, 2, 506, 6) := cAX_corner_1 _ (List.mem_of_getElem? (i := 7) rfl)
theorem cX_corner_48 : zCode 115 48 = some (.getfield 176, 51, 9, 3, 2, 173, 6) := cAX_corner_1 _ (List.mem_of_getElem? (i := 8) rfl)
theorem cX_corner_51 : zCode 115 51 = some (.iload_n 1, 52, 0, 0, 0, 0, 6) := cAX_corner_1 _ (List.mem_of_getElem? (i := 9) rfl)
theorem cX_corner_52 : zCode 115 52 = some (.iload_n 2, 53, 0, 0, 0, 0, 4) := cAX_corner_1 _ (List.mem_of_getElem? (i := 10) rfl)
theorem cX_corner_53 : zCode 115 53 = some (.iconst 0, 54, 0, 0, 0, 0, 0) := cAX_corner_1 _ (List.mem_of_getElem? (i := 11) rfl)
theorem cX_corner_54 : zCode 115 54 = some (.invokevirtual 99, 57, 98, 3, 5, 10, 0) := cAX_corner_1 _ (List.mem_of_getElem? (i := 12) rfl)
theorem cX_corner_57 : zCode 115 57 = some (.ireturn, 58, 0, 0, 0, 0, 0) := cAX_corner_1 _ (List.mem_of_getElem? (i := 13) rfl)
theorem rX_corner_0 {a0 : Nat} {a1 a2 : Int} : zS 115 0 [zR a0, zI a1, zI a2] [] sh pp mm Q ↔ zS 115 1 [zR a0, zI a1, zI a2] [zI a1] sh pp mm Q := s_go cX_corner_0 cX_corner_1 rfl rfl
theorem rX_corner_1 {a0 : Nat} {a1 a2 s0 : Int} : zS 115 1 [zR a0, zI a1, zI a2] [zI s0] sh pp mm Q ↔ zS 115 2 [zR a0, zI a1, zI a2] [zI a2, zI s0] sh pp mm Q := s_go cX_corner_1 cX_corner_2 rfl rfl
theorem rX_corner_2 {a0 : Nat} {a1 a2 s0 s1 : Int} : zS 115 2 [zR a0, zI a1, zI a2] [zI s0, zI s1] sh pp mm Q ↔ zS 142 0 [zI s1, zI s0] [] sh pp mm (fun v sh pp mm => zS 115 5 [zR a0, zI a1, zI a2] (zPush v []) sh pp mm Q) := s_call cX_corner_2 cX_corner_5 rfl rfl
theorem rX_corner_5 {a0 : Nat} {a1 a2 s0 : Int} : zS 115 5 [zR a0, zI a1, zI a2] [zI s0] sh pp mm Q ↔ (s0 = 0 → zS 115 8 [zR a0, zU, zU] [] sh pp mm Q) ∧ (¬ s0 = 0 → zS 115 16 [zR a0, zI a1, zI a2] [] sh pp mm Q) := s_ifn cX_corner_5 cX_corner_8 cX_corner_16 rfl rfl rfl
theorem rX_corner_8 {a0 : Nat} {u1 u2 : zV} : zS 115 8 [zR a0, u1, u2] [] sh pp mm Q ↔ zS 115 9 [zU, zU, zU] [zR a0] sh pp mm Q := s_go cX_corner_8 cX_corner_9 rfl rfl
theorem rX_corner_9 {s0 : Nat} {u0 u1 u2 : zV} : zS 115 9 [u0, u1, u2] [zR s0] sh pp mm Q ↔ zS 115 10 [zU, zU, zU] [zI 0, zR s0] sh pp mm Q := s_go cX_corner_9 cX_corner_10 rfl rfl
theorem rX_corner_10 {s1 : Nat} {s0 : Int} {u0 u1 u2 : zV} : zS 115 10 [u0, u1, u2] [zI s0, zR s1] sh pp mm Q ↔ zS 115 12 [zU, zU, zU] [zI (-2), zI s0, zR s1] sh pp mm Q := s_go cX_corner_10 cX_corner_12 rfl rfl
theorem rX_corner_12 {s2 : Nat} {s0 s1 : Int} {u0 u1 u2 : zV} (hk : zKd sh s2 = 11) : zS 115 12 [u0, u1, u2] [zI s0, zI s1, zR s2] sh pp mm Q ↔ zS 138 0 [zR s2, zI s1, zI s0] [] sh pp mm (fun v sh pp mm => zS 115 15 [zU, zU, zU] (zPush v []) sh pp mm Q) := s_call cX_corner_12 cX_corner_15 ((if_pos hk).trans rfl) rfl
theorem rX_corner_15 {s0 : Int} {u0 u1 u2 : zV} : zS 115 15 [u0, u1, u2] [zI s0] sh pp mm Q ↔ Q (zI s0) sh pp mm := s_ret cX_corner_15 rfl
theorem rX_corner_16 {a0 : Nat} {a1 a2 : Int} : zS 115 16 [zR a0, zI a1, zI a2] [] sh pp mm Q ↔ zS 115 17 [zR a0, zI a1, zI a2] [zR a0] sh pp mm Q := s_go cX_corner_16 cX_corner_17 rfl rfl
theorem rX_corner_17 {a0 s0 : Nat} {a1 a2 : Int} (hk : zKd sh s0 = 11) : zS 115 17 [zR a0, zI a1, zI a2] [zR s0] sh pp mm Q ↔ zS 115 20 [zR a0, zI a1, zI a2] [zR (pp s0 0)] sh pp mm Q := s_go cX_corner_17 cX_corner_20 (if_pos hk) rfl
theorem rX_corner_20 {a0 s0 : Nat} {a1 a2 : Int} (hk : zKd sh s0 = 9) : zS 115 20 [zR a0, zI a1, zI a2] [zR s0] sh pp mm Q ↔ zS 115 23 [zR a0, zI a1, zI a2] [zR (pp s0 3)] sh pp mm Q := s_go cX_corner_20 cX_corner_23 (if_pos hk) rfl
theorem rX_corner_23 {a0 s0 : Nat} {a1 a2 : Int} (hk : zKd sh s0 = 10) : zS 115 23 [zR a0, zI a1, zI a2] [zR s0] sh pp mm Q ↔ zS 96 0 [zR s0] [] sh pp mm (fun v sh pp mm => zS 115 26 [zR a0, zI a1, zI a2] (zPush v []) sh pp mm Q) := s_call cX_corner_23 cX_corner_26 ((if_pos hk).trans rfl) rfl
theorem rX_corner_26 {a0 : Nat} {a1 a2 s0 : Int} : zS 115 26 [zR a0, zI a1, zI a2] [zI s0] sh pp mm Q ↔ (s0 = 0 → zS 115 37 [zR a0, zI a1, zI a2] [] sh pp mm Q) ∧ (¬ s0 = 0 → zS 115 29 [zR a0, zU, zU] [] sh pp mm Q) := s_if cX_corner_26 cX_corner_37 cX_corner_29 rfl rfl rfl
theorem rX_corner_29 {a0 : Nat} {u1 u2 : zV} : zS 115 29 [zR a0, u1, u2] [] sh pp mm Q ↔ zS 115 30 [zU, zU, zU] [zR a0] sh pp mm Q := s_go cX_corner_29 cX_corner_30 rfl rfl
theorem rX_corner_30 {s0 : Nat} {u0 u1 u2 : zV} : zS 115 30 [u0, u1, u2] [zR s0] sh pp mm Q ↔ zS 115 31 [zU, zU, zU] [zI 2, zR s0] sh pp mm Q := s_go cX_corner_30 cX_corner_31 rfl rfl
theorem rX_corner_31 {s1 : Nat} {s0 : Int} {u0 u1 u2 : zV} : zS 115 31 [u0, u1, u2] [zI s0, zR s1] sh pp mm Q ↔ zS 115 33 [zU, zU, zU] [zI (-4), zI s0, zR s1] sh pp mm Q := s_go cX_corner_31 cX_corner_33 rfl rfl
theorem rX_corner_33 {s2 : Nat} {s0 s1 : Int} {u0 u1 u2 : zV} (hk : zKd sh s2 = 11) : zS 115 33 [u0, u1, u2] [zI s0, zI s1, zR s2] sh pp mm Q ↔ zS 138 0 [zR s2, zI s1, zI s0] [] sh pp mm (fun v sh pp mm => zS 115 36 [zU, zU, zU] (zPush v []) sh pp mm Q) := s_call cX_corner_33 cX_corner_36 ((if_pos hk).trans rfl) rfl
theorem rX_corner_36 {s0 : Int} {u0 u1 u2 : zV} : zS 115 36 [u0, u1, u2] [zI s0] sh pp mm Q ↔ Q (zI s0) sh pp mm := s_ret cX_corner_36 rfl
theorem rX_corner_37 {a0 : Nat} {a1 a2 : Int} : zS 115 37 [zR a0, zI a1, zI a2] [] sh pp mm Q ↔ zS 115 38 [zR a0, zI a1, zI a2] [zR a0] sh pp mm Q := s_go cX_corner_37 cX_corner_38 rfl rfl
theorem rX_corner_38 {a0 s0 : Nat} {a1 a2 : Int} (hk : zKd sh s0 = 11) : zS 115 38 [zR a0, zI a1, zI a2] [zR s0] sh pp mm Q ↔ zS 115 41 [zR a0, zI a1, zI a2] [zR (pp s0 5)] sh pp mm Q := s_go cX_corner_38 cX_corner_41 (if_pos hk) rfl
theorem rX_corner_41 {a0 s0 : Nat} {a1 a2 : Int} (hk : zKd sh s0 = 6) : zS 115 41 [zR a0, zI a1, zI a2] [zR s0] sh pp mm Q ↔ zS 54 0 [zR s0] [] sh pp mm (fun v sh pp mm => zS 115 44 [zR a0, zI a1, zI a2] (zPush v []) sh pp mm Q) := s_call cX_corner_41 cX_corner_44 ((if_pos hk).trans rfl) rfl
theorem rX_corner_44 {a0 : Nat} {a1 a2 : Int} : zS 115 44 [zR a0, zI a1, zI a2] [] sh pp mm Q ↔ zS 115 45 [zU, zI a1, zI a2] [zR a0] sh pp mm Q := s_go cX_corner_44 cX_corner_45 rfl rfl
theorem rX_corner_45 {s0 : Nat} {a1 a2 : Int} {u0 : zV} (hk : zKd sh s0 = 11) : zS 115 45 [u0, zI a1, zI a2] [zR s0] sh pp mm Q ↔ zS 115 48 [zU, zI a1, zI a2] [zR (pp s0 0)] sh pp mm Q := s_go cX_corner_45 cX_corner_48 (if_pos hk) rfl
theorem rX_corner_48 {s0 : Nat} {a1 a2 : Int} {u0 : zV} (hk : zKd sh s0 = 9) : zS 115 48 [u0, zI a1, zI a2] [zR s0] sh pp mm Q ↔ zS 115 51 [zU, zI a1, zI a2] [zR (pp s0 3)] sh pp mm Q := s_go cX_corner_48 cX_corner_51 (if_pos hk) rfl
theorem rX_corner_51 {s0 : Nat} {a1 a2 : Int} {u0 : zV} : zS 115 51 [u0, zI a1, zI a2] [zR s0] sh pp mm Q ↔ zS 115 52 [zU, zU, zI a2] [zI a1, zR s0] sh pp mm Q := s_go cX_corner_51 cX_corner_52 rfl rfl
theorem rX_corner_52 {s1 : Nat} {a2 s0 : Int} {u0 u1 : zV} : zS 115 52 [u0, u1, zI a2] [zI s0, zR s1] sh pp mm Q ↔ zS 115 53 [zU, zU, zU] [zI a2, zI s0, zR s1] sh pp mm Q := s_go cX_corner_52 cX_corner_53 rfl rfl
theorem rX_corner_53 {s2 : Nat} {s0 s1 : Int} {u0 u1 u2 : zV} : zS 115 53 [u0, u1, u2] [zI s0, zI s1, zR s2] sh pp mm Q ↔ zS 115 54 [zU, zU, zU] [zI 0, zI s0, zI s1, zR s2] sh pp mm Q := s_go cX_corner_53 cX_corner_54 rfl rfl
theorem rX_corner_54 {s3 : Nat} {s0 s1 s2 : Int} {u0 u1 u2 : zV} (hk : zKd sh s3 = 10) : zS 115 54 [u0, u1, u2] [zI s0, zI s1, zI s2, zR s3] sh pp mm Q ↔ zS 98 0 [zR s3, zI s2, zI s1, zI s0, zU] [] sh pp mm (fun v sh pp mm => zS 115 57 [zU, zU, zU] (zPush v []) sh pp mm Q) := s_call cX_corner_54 cX_corner_57 ((if_pos hk).trans rfl) rfl
theorem rX_corner_57 {s0 : Int} {u0 u1 u2 : zV} : zS 115 57 [u0, u1, u2] [zI s0] sh pp mm Q ↔ Q (zI s0) sh pp mm := s_ret cX_corner_57 rfl
theorem cAX_edge : ∀ q ∈ zT116, zCode 116 q.1 = some q.2 := zAll (mid := 116) rfl (by decide +kernel)
theorem cAX_edge_0 : ∀ q ∈ zT116_0, zCode 116 q.1 = some q.2 := fun q h => cAX_edge q (List.mem_append_left _ h)
theorem cAX_edge_1 : ∀ q ∈ zT116_1, zCode 116 q.1 = some q.2 := fun q h => cAX_edge q (List.mem_append_right _ (List.mem_append_left _ h))
theorem cAX_edge_2 : ∀ q ∈ zT116_2, zCode 116 q.1 = some q.2 := fun q h => cAX_edge q (List.mem_append_right _ (List.mem_append_right _ (List.mem_append_left _ h)))
theorem cAX_edge_3 : ∀ q ∈ zT116_3, zCode 116 q.1 = some q.2 := fun q h => cAX_edge q (List.mem_append_right _ (List.mem_append_right _ (List.mem_append_right _ h)))
theorem cX_edge_0 : zCode 116 0 = some (.aload_n 0, 1, 0, 0, 0, 0, 15) := cAX_edge_0 _ (List.mem_of_getElem? (i := 0) rfl)
theorem cX_edge_1 : zCode 116 1 = some (.getfield 10, 4, 11, 0, 2, 506, 15) := cAX_edge_0 _ (List.mem_of_getElem? (i := 1) rfl)
theorem cX_edge_4 : zCode 116 4 = some (.getfield 176, 7, 9, 3, 2, 173, 15) := cAX_edge_0 _ (List.mem_of_getElem? (i := 2) rfl)
theorem cX_edge_7 : zCode 116 7 = some (.getfield 93, 10, 10, 3, 0, 145, 15) := cAX_edge_0 _ (List.mem_of_getElem? (i := 3) rfl)
theorem cX_edge_10 : zCode 116 10 = some (.iconst 1, 11, 0, 0, 0, 0, 15) := cAX_edge_0 _ (List.mem_of_getElem? (i := 4) rfl)
theorem cX_edge_11 : zCode 116 11 = some (.isub, 12, 0, 0, 0, 0, 15) := cAX_edge_0 _ (List.mem_of_getElem? (i := 5) rfl)
theorem cX_edge_12 : zCode 116 12 = some (.istore 4, 14, 0, 0, 0, 0, 15) := cAX_edge_0 _ (List.mem_of_getElem? (i := 6) rfl)
theorem cX_edge_14 : zCode 116 14 = some (.iload_n 1, 15, 0, 0, 0, 0, 31) := cAX_edge_0 _ (List.mem_of_getElem? (i := 7) rfl)
theorem cX_edge_15 : zCode 116 15 = some (.iconst 0, 16, 0, 0, 0, 0, 31) := cAX_edge_0 _ (List.mem_of_getElem? (i := 8) rfl)
theorem cX_edge_16 : zCode 116 16 = some (.iload 4, 18, 0, 0, 0, 0, 31) := cAX_edge_0 _ (List.mem_of_getElem? (i := 9) rfl)
theorem cX_edge_18 : zCode 116 18 = some (.invokestatic 150, 21, 139, 3, 3, 11, 31) := cAX_edge_0 _ (List.mem_of_getElem? (i := 10) rfl)
theorem cX_edge_21 : zCode 116 21 = some (.ifCond .eq 18, 24, 39, 0, 0, 0, 31) := cAX_edge_0 _ (List.mem_of_getElem? (i := 11) rfl)
theorem cX_edge_24 : zCode 116 24 = some (.iload_n 2, 25, 0, 0, 0, 0, 31) := cAX_edge_0 _ (List.mem_of_getElem? (i := 12) rfl)
theorem cX_edge_25 : zCode 116 25 = some (.iconst 0, 26, 0, 0, 0, 0, 31) := cAX_edge_0 _ (List.mem_of_getElem? (i := 13) rfl)
theorem cX_edge_26 : zCode 116 26 = some (.iload 4, 28, 0, 0, 0, 0, 31) := cAX_edge_0 _ (List.mem_of_getElem? (i := 14) rfl)
theorem cX_edge_28 : zCode 116 28 = some (.invokestatic 150, 31, 139, 3, 3, 11, 15) := cAX_edge_0 _ (List.mem_of_getElem? (i := 15) rfl)
theorem cX_edge_31 : zCode 116 31 = some (.ifCond .eq 8, 34, 39, 0, 0, 0, 15) := cAX_edge_1 _ (List.mem_of_getElem? (i := 0) rfl)
theorem cX_edge_34 : zCode 116 34 = some (.iload_n 1, 35, 0, 0, 0, 0, 15) := cAX_edge_1 _ (List.mem_of_getElem? (i := 1) rfl)
theorem cX_edge_35 : zCode 116 35 = some (.iload_n 2, 36, 0, 0, 0, 0, 15) := cAX_edge_1 _ (List.mem_of_getElem? (i := 2) rfl)
theorem cX_edge_36 : zCode 116 36 = some (.if_icmp .ne 11, 39, 47, 0, 0, 0, 15) := cAX_edge_1 _ (List.mem_of_getElem? (i := 3) rfl)
theorem cX_edge_39 : zCode 116 39 = some (.aload_n 0, 40, 0, 0, 0, 0, 1) := cAX_edge_1 _ (List.mem_of_getElem? (i := 4) rfl)
theorem cX_edge_40 : zCode 116 40 = some (.iconst 0, 41, 0, 0, 0, 0, 0) := cAX_edge_1 _ (List.mem_of_getElem? (i := 5) rfl)
theorem cX_edge_41 : zCode 116 41 = some (.bipush (-2), 43, 0, 0, 0, 0, 0) := cAX_edge_1 _ (List.mem_of_getElem? (i := 6) rfl)
theorem cX_edge_43 : zCode 116 43 = some (.invokevirtual 72, 46, 138, 2, 3, 11, 0) := cAX_edge_1 _ (List.mem_of_getElem? (i := 7) rfl)
theorem cX_edge_46 : zCode 116 46 = some (.ireturn, 47, 0, 0, 0, 0, 0) := cAX_edge_1 _ (List.mem_of_getElem? (i := 8) rfl)
theorem cX_edge_47 : zCode 116 47 = some (.aload_n 0, 48, 0, 0, 0, 0, 15) := cAX_edge_1 _ (List.mem_of_getElem? (i := 9) rfl)
theorem cX_edge_48 : zCode 116 48 = some (.getfield 10, 51, 11, 0, 2, 506, 15) := cAX_edge_1 _ (List.mem_of_getElem? (i := 10) rfl)
theorem cX_edge_51 : zCode 116 51 = some (.getfield 179, 54, 9, 4, 2, 176, 15) := cAX_edge_1 _ (List.mem_of_getElem? (i := 11) rfl)
theorem cX_edge_54 : zCode 116 54 = some (.invokevirtual 158, 57, 96, 0, 1, 10, 15) := cAX_edge_1 _ (List.mem_of_getElem? (i := 12) rfl)
theorem cX_edge_57 : zCode 116 57 = some (.ifCond .eq 11, 60, 68, 0, 0, 0, 15) := cAX_edge_1 _ (List.mem_of_getElem? (i := 13) rfl)
theorem cX_edge_60 : zCode 116 60 = some (.aload_n 0, 61, 0, 0, 0, 0, 1) := cAX_edge_1 _ (List.mem_of_getElem? (i := 14) rfl)
theorem cX_edge_61 : zCode 116 61 = some (.iconst 2, 62, 0, 0, 0, 0, 0) := cAX_edge_1 _ (List.mem_of_getElem? (i := 15) rfl)
theorem cX_edge_62 : zCode 116 62 = some (.bipush (-4), 64, 0, 0, 0, 0, 0) := cAX_edge_2 _ (List.mem_of_getElem? (i := 0) rfl)
theorem cX_edge_64 : zCode 116 64 = some (.invokevirtual 72, 67, 138, 2, 3, 11, 0) := cAX_edge_2 _ (List.mem_of_getElem? (i := 1) rfl)
theorem cX_edge_67 : zCode 116 67 = some (.ireturn, 68, 0, 0, 0, 0, 0) := cAX_edge_2 _ (List.mem_of_getElem? (i := 2) rfl)
theorem cX_edge_68 : zCode 116 68 = some (.aload_n 0, 69, 0, 0, 0, 0, 15) := cAX_edge_2 _ (List.mem_of_getElem? (i := 3) rfl)
theorem cX_edge_69 : zCode 116 69 = some (.getfield 39, 72, 11, 5, 2, 511, 15) := cAX_edge_2 _ (List.mem_of_getElem? (i := 4) rfl)
theorem cX_edge_72 : zCode 116 72 = some (.invokevirtual 82, 75, 54, 0, 1, 6, 15) := cAX_edge_2 _ (List.mem_of_getElem? (i := 5) rfl)
theorem cX_edge_75 : zCode 116 75 = some (.aload_n 0, 76, 0, 0, 0, 0, 15) := cAX_edge_2 _ (List.mem_of_getElem? (i := 6) rfl)
theorem cX_edge_76 : zCode 116 76 = some (.getfield 10, 79, 11, 0, 2, 506, 14) := cAX_edge_2 _ (List.mem_of_getElem? (i := 7) rfl)
theorem cX_edge_79 : zCode 116 79 = some (.getfield 179, 82, 9, 4, 2, 176, 14) := cAX_edge_2 _ (List.mem_of_getElem? (i := 8) rfl)
theorem cX_edge_82 : zCode 116 82 = some (.iload_n 1, 83, 0, 0, 0, 0, 14) := cAX_edge_2 _ (List.mem_of_getElem? (i := 9) rfl)
theorem cX_edge_83 : zCode 116 83 = some (.iload_n 2, 84, 0, 0, 0, 0, 12) := cAX_edge_2 _ (List.mem_of_getElem? (i := 10) rfl)
theorem cX_edge_84 : zCode 116 84 = some (.iload_n 3, 85, 0, 0, 0, 0, 8) := cAX_edge_2 _ (List.mem_of_getElem? (i := 11) rfl)
theorem cX_edge_85 : zCode 116 85 = some (.ifCond .eq 7, 88, 92, 0, 0, 0, 0) := cAX_edge_2 _ (List.mem_of_getElem? (i := 12) rfl)
theorem cX_edge_88 : zCode 116 88 = some (.iconst 1, 89, 0, 0, 0, 0, 0) := cAX_edge_2 _ (List.mem_of_getElem? (i := 13) rfl)
theorem cX_edge_89 : zCode 116 89 = some (.goto 4, 92, 93, 0, 0, 0, 0) := cAX_edge_2 _ (List.mem_of_getElem? (i := 14) rfl)
theorem cX_edge_92 : zCode 116 92 = some (.iconst 0, 93, 0, 0, 0, 0, 0) := cAX_edge_2 _ (List.mem_of_getElem? (i := 15) rfl)
theorem cX_edge_93 : zCode 116 93 = some (.invokevirtual 99, 96, 98, 3, 5, 10, 0) := cAX_edge_3 _ (List.mem_of_getElem? (i := 0) rfl)
theorem cX_edge_96 : zCode 116 96 = some (.ireturn, 97, 0, 0, 0, 0, 0) := cAX_edge_3 _ (List.mem_of_getElem? (i := 1) rfl)
theorem rX_edge_0 {a0 : Nat} {a1 a2 a3 : Int} {u4 : zV} : zS 116 0 [zR a0, zI a1, zI a2, zI a3, u4] [] sh pp mm Q ↔ zS 116 1 [zR a0, zI a1, zI a2, zI a3, zU] [zR a0] sh pp mm Q := s_go cX_edge_0 cX_edge_1 rfl rfl
theorem rX_edge_1 {a0 s0 : Nat} {a1 a2 a3 : Int} {u4 : zV} (hk : zKd sh s0 = 11) : zS 116 1 [zR a0, zI a1, zI a2, zI a3, u4] [zR s0] sh pp mm Q ↔ zS 116 4 [zR a0, zI a1, zI a2, zI a3, zU] [zR (pp s0 0)] sh pp mm Q := s_go cX_edge_1 cX_edge_4 (if_pos hk) rfl
theorem rX_edge_4 {a0 s0 : Nat} {a1 a2 a3 : Int} {u4 : zV} (hk : zKd sh s0 = 9) : zS 116 4 [zR a0, zI a1, zI a2, zI a3, u4] [zR s0] sh pp mm Q ↔ zS 116 7 [zR a0, zI a1, zI a2, zI a3, zU] [zR (pp s0 3)] sh pp mm Q := s_go cX_edge_4 cX_edge_7 (if_pos hk) rfl
theorem rX_edge_7 {a0 s0 : Nat} {a1 a2 a3 : Int} {u4 : zV} (hk : zKd sh s0 = 10) : zS 116 7 [zR a0, zI a1, zI a2, zI a3, u4] [zR s0] sh pp mm Q ↔ zS 116 10 [zR a0, zI a1, zI a2, zI a3, zU] [zI (mm s0 3)] sh pp mm Q := s_go cX_edge_7 cX_edge_10 (if_pos hk) rfl
theorem rX_edge_10 {a0 : Nat} {a1 a2 a3 s0 : Int} {u4 : zV} : zS 116 10 [zR a0, zI a1, zI a2, zI a3, u4] [zI s0] sh pp mm Q ↔ zS 116 11 [zR a0, zI a1, zI a2, zI a3, zU] [zI 1, zI s0] sh pp mm Q := s_go cX_edge_10 cX_edge_11 rfl rfl
theorem rX_edge_11 {a0 : Nat} {a1 a2 a3 s0 s1 : Int} {u4 : zV} : zS 116 11 [zR a0, zI a1, zI a2, zI a3, u4] [zI s0, zI s1] sh pp mm Q ↔ zS 116 12 [zR a0, zI a1, zI a2, zI a3, zU] [zI (zw32 (s1 - s0))] sh pp mm Q := s_go cX_edge_11 cX_edge_12 rfl rfl
theorem rX_edge_12 {a0 : Nat} {a1 a2 a3 s0 : Int} {u4 : zV} : zS 116 12 [zR a0, zI a1, zI a2, zI a3, u4] [zI s0] sh pp mm Q ↔ zS 116 14 [zR a0, zI a1, zI a2, zI a3, zI s0] [] sh pp mm Q := s_go cX_edge_12 cX_edge_14 rfl rfl
theorem rX_edge_14 {a0 : Nat} {a1 a2 a3 a4 : Int} : zS 116 14 [zR a0, zI a1, zI a2, zI a3, zI a4] [] sh pp mm Q ↔ zS 116 15 [zR a0, zI a1, zI a2, zI a3, zI a4] [zI a1] sh pp mm Q := s_go cX_edge_14 cX_edge_15 rfl rfl
theorem rX_edge_15 {a0 : Nat} {a1 a2 a3 a4 s0 : Int} : zS 116 15 [zR a0, zI a1, zI a2, zI a3, zI a4] [zI s0] sh pp mm Q ↔ zS 116 16 [zR a0, zI a1, zI a2, zI a3, zI a4] [zI 0, zI s0] sh pp mm Q := s_go cX_edge_15 cX_edge_16 rfl rfl
theorem rX_edge_16 {a0 : Nat} {a1 a2 a3 a4 s0 s1 : Int} : zS 116 16 [zR a0, zI a1, zI a2, zI a3, zI a4] [zI s0, zI s1] sh pp mm Q ↔ zS 116 18 [zR a0, zI a1, zI a2, zI a3, zI a4] [zI a4, zI s0, zI s1] sh pp mm Q := s_go cX_edge_16 cX_edge_18 rfl rfl
theorem rX_edge_18 {a0 : Nat} {a1 a2 a3 a4 s0 s1 s2 : Int} : zS 116 18 [zR a0, zI a1, zI a2, zI a3, zI a4] [zI s0, zI s1, zI s2] sh pp mm Q ↔ zS 139 0 [zI s2, zI s1, zI s0] [] sh pp mm (fun v sh pp mm => zS 116 21 [zR a0, zI a1, zI a2, zI a3, zI a4] (zPush v []) sh pp mm Q) := s_call cX_edge_18 cX_edge_21 rfl rfl
theorem rX_edge_21 {a0 : Nat} {a1 a2 a3 a4 s0 : Int} : zS 116 21 [zR a0, zI a1, zI a2, zI a3, zI a4] [zI s0] sh pp mm Q ↔ (s0 = 0 → zS 116 39 [zR a0, zU, zU, zU, zU] [] sh pp mm Q) ∧ (¬ s0 = 0 → zS 116 24 [zR a0, zI a1, zI a2, zI a3, zI a4] [] sh pp mm Q) := s_if cX_edge_21 cX_edge_39 cX_edge_24 rfl rfl rfl
theorem rX_edge_24 {a0 : Nat} {a1 a2 a3 a4 : Int} : zS 116 24 [zR a0, zI a1, zI a2, zI a3, zI a4] [] sh pp mm Q ↔ zS 116 25 [zR a0, zI a1, zI a2, zI a3, zI a4] [zI a2] sh pp mm Q := s_go cX_edge_24 cX_edge_25 rfl rfl
theorem rX_edge_25 {a0 : Nat} {a1 a2 a3 a4 s0 : Int} : zS 116 25 [zR a0, zI a1, zI a2, zI a3, zI a4] [zI s0] sh pp mm Q ↔ zS 116 26 [zR a0, zI a1, zI a2, zI a3, zI a4] [zI 0, zI s0] sh pp mm Q := s_go cX_edge_25 cX_edge_26 rfl rfl
theorem rX_edge_26 {a0 : Nat} {a1 a2 a3 a4 s0 s1 : Int} : zS 116 26 [zR a0, zI a1, zI a2, zI a3, zI a4] [zI s0, zI s1] sh pp mm Q ↔ zS 116 28 [zR a0, zI a1, zI a2, zI a3, zU] [zI a4, zI s0, zI s1] sh pp mm Q := s_go cX_edge_26 cX_edge_28 rfl rfl
theorem rX_edge_28 {a0 : Nat} {a1 a2 a3 s0 s1 s2 : Int} {u4 : zV} : zS 116 28 [zR a0, zI a1, zI a2, zI a3, u4] [zI s0, zI s1, zI s2] sh pp mm Q ↔ zS 139 0 [zI s2, zI s1, zI s0] [] sh pp mm (fun v sh pp mm => zS 116 31 [zR a0, zI a1, zI a2, zI a3, zU] (zPush v []) sh pp mm Q) := s_call cX_edge_28 cX_edge_31 rfl rfl
theorem rX_edge_31 {a0 : Nat} {a1 a2 a3 s0 : Int} {u4 : zV} : zS 116 31 [zR a0, zI a1, zI a2, zI a3, u4] [zI s0] sh pp mm Q ↔ (s0 = 0 → zS 116 39 [zR a0, zU, zU, zU, zU] [] sh pp mm Q) ∧ (¬ s0 = 0 → zS 116 34 [zR a0, zI a1, zI a2, zI a3, zU] [] sh pp mm Q) := s_if cX_edge_31 cX_edge_39 cX_edge_34 rfl rfl rfl
theorem rX_edge_34 {a0 : Nat} {a1 a2 a3 : Int} {u4 : zV} : zS 116 34 [zR a0, zI a1, zI a2, zI a3, u4] [] sh pp mm Q ↔ zS 116 35 [zR a0, zI a1, zI a2, zI a3, zU] [zI a1] sh pp mm Q := s_go cX_edge_34 cX_edge_35 rfl rfl
theorem rX_edge_35 {a0 : Nat} {a1 a2 a3 s0 : Int} {u4 : zV} : zS 116 35 [zR a0, zI a1, zI a2, zI a3, u4] [zI s0] sh pp mm Q ↔ zS 116 36 [zR a0, zI a1, zI a2, zI a3, zU] [zI a2, zI s0] sh pp mm Q := s_go cX_edge_35 cX_edge_36 rfl rfl
theorem rX_edge_36 {a0 : Nat} {a1 a2 a3 s0 s1 : Int} {u4 : zV} : zS 116 36 [zR a0, zI a1, zI a2, zI a3, u4] [zI s0, zI s1] sh pp mm Q ↔ (s1 = s0 → zS 116 39 [zR a0, zU, zU, zU, zU] [] sh pp mm Q) ∧ (¬ s1 = s0 → zS 116 47 [zR a0, zI a1, zI a2, zI a3, zU] [] sh pp mm Q) := s_ifn cX_edge_36 cX_edge_39 cX_edge_47 rfl rfl rfl
theorem rX_edge_39 {a0 : Nat} {u1 u2 u3 u4 : zV} : zS 116 39 [zR a0, u1, u2, u3, u4] [] sh pp mm Q ↔ zS 116 40 [zU, zU, zU, zU, zU] [zR a0] sh pp mm Q := s_go cX_edge_39 cX_edge_40 rfl rfl
theorem rX_edge_40 {s0 : Nat} {u0 u1 u2 u3 u4 : zV} : zS 116 40 [u0, u1, u2, u3, u4] [zR s0] sh pp mm Q ↔ zS 116 41 [zU, zU, zU, zU, zU] [zI 0, zR s0] sh pp mm Q := s_go cX_edge_40 cX_edge_41 rfl rfl
theorem rX_edge_41 {s1 : Nat} {s0 : Int} {u0 u1 u2 u3 u4 : zV} : zS 116 41 [u0, u1, u2, u3, u4] [zI s0, zR s1] sh pp mm Q ↔ zS 116 43 [zU, zU, zU, zU, zU] [zI (-2), zI s0, zR s1] sh pp mm Q := s_go cX_edge_41 cX_edge_43 rfl rfl
theorem rX_edge_43 {s2 : Nat} {s0 s1 : Int} {u0 u1 u2 u3 u4 : zV} (hk : zKd sh s2 = 11) : zS 116 43 [u0, u1, u2, u3, u4] [zI s0, zI s1, zR s2] sh pp mm Q ↔ zS 138 0 [zR s2, zI s1, zI s0] [] sh pp mm (fun v sh pp mm => zS 116 46 [zU, zU, zU, zU, zU] (zPush v []) sh pp mm Q) := s_call cX_edge_43 cX_edge_46 ((if_pos hk).trans rfl) rfl
theorem rX_edge_46 {s0 : Int} {u0 u1 u2 u3 u4 : zV} : zS 116 46 [u0, u1, u2, u3, u4] [zI s0] sh pp mm Q ↔ Q (zI s0) sh pp mm := s_ret cX_edge_46 rfl
theorem rX_edge_47 {a0 : Nat} {a1 a2 a3 : Int} {u4 : zV} : zS 116 47 [zR a0, zI a1, zI a2, zI a3, u4] [] sh pp mm Q ↔ zS 116 48 [zR a0, zI a1, zI a2, zI a3, zU] [zR a0] sh pp mm Q := s_go cX_edge_47 cX_edge_48 rfl rfl
theorem rX_edge_48 {a0 s0 : Nat} {a1 a2 a3 : Int} {u4 : zV} (hk : zKd sh s0 = 11) : zS 116 48 [zR a0, zI a1, zI a2, zI a3, u4] [zR s0] sh pp mm Q ↔ zS 116 51 [zR a0, zI a1, zI a2, zI a3, zU] [zR (pp s0 0)] sh pp mm Q := s_go cX_edge_48 cX_edge_51 (if_pos hk) rfl
theorem rX_edge_51 {a0 s0 : Nat} {a1 a2 a3 : Int} {u4 : zV} (hk : zKd sh s0 = 9) : zS 116 51 [zR a0, zI a1, zI a2, zI a3, u4] [zR s0] sh pp mm Q ↔ zS 116 54 [zR a0, zI a1, zI a2, zI a3, zU] [zR (pp s0 4)] sh pp mm Q := s_go cX_edge_51 cX_edge_54 (if_pos hk) rfl
theorem rX_edge_54 {a0 s0 : Nat} {a1 a2 a3 : Int} {u4 : zV} (hk : zKd sh s0 = 10) : zS 116 54 [zR a0, zI a1, zI a2, zI a3, u4] [zR s0] sh pp mm Q ↔ zS 96 0 [zR s0] [] sh pp mm (fun v sh pp mm => zS 116 57 [zR a0, zI a1, zI a2, zI a3, zU] (zPush v []) sh pp mm Q) := s_call cX_edge_54 cX_edge_57 ((if_pos hk).trans rfl) rfl
theorem rX_edge_57 {a0 : Nat} {a1 a2 a3 s0 : Int} {u4 : zV} : zS 116 57 [zR a0, zI a1, zI a2, zI a3, u4] [zI s0] sh pp mm Q ↔ (s0 = 0 → zS 116 68 [zR a0, zI a1, zI a2, zI a3, zU] [] sh pp mm Q) ∧ (¬ s0 = 0 → zS 116 60 [zR a0, zU, zU, zU, zU] [] sh pp mm Q) := s_if cX_edge_57 cX_edge_68 cX_edge_60 rfl rfl rfl
theorem rX_edge_60 {a0 : Nat} {u1 u2 u3 u4 : zV} : zS 116 60 [zR a0, u1, u2, u3, u4] [] sh pp mm Q ↔ zS 116 61 [zU, zU, zU, zU, zU] [zR a0] sh pp mm Q := s_go cX_edge_60 cX_edge_61 rfl rfl
theorem rX_edge_61 {s0 : Nat} {u0 u1 u2 u3 u4 : zV} : zS 116 61 [u0, u1, u2, u3, u4] [zR s0] sh pp mm Q ↔ zS 116 62 [zU, zU, zU, zU, zU] [zI 2, zR s0] sh pp mm Q := s_go cX_edge_61 cX_edge_62 rfl rfl
theorem rX_edge_62 {s1 : Nat} {s0 : Int} {u0 u1 u2 u3 u4 : zV} : zS 116 62 [u0, u1, u2, u3, u4] [zI s0, zR s1] sh pp mm Q ↔ zS 116 64 [zU, zU, zU, zU, zU] [zI (-4), zI s0, zR s1] sh pp mm Q := s_go cX_edge_62 cX_edge_64 rfl rfl
theorem rX_edge_64 {s2 : Nat} {s0 s1 : Int} {u0 u1 u2 u3 u4 : zV} (hk : zKd sh s2 = 11) : zS 116 64 [u0, u1, u2, u3, u4] [zI s0, zI s1, zR s2] sh pp mm Q ↔ zS 138 0 [zR s2, zI s1, zI s0] [] sh pp mm (fun v sh pp mm => zS 116 67 [zU, zU, zU, zU, zU] (zPush v []) sh pp mm Q) := s_call cX_edge_64 cX_edge_67 ((if_pos hk).trans rfl) rfl
theorem rX_edge_67 {s0 : Int} {u0 u1 u2 u3 u4 : zV} : zS 116 67 [u0, u1, u2, u3, u4] [zI s0] sh pp mm Q ↔ Q (zI s0) sh pp mm := s_ret cX_edge_67 rfl
theorem rX_edge_68 {a0 : Nat} {a1 a2 a3 : Int} {u4 : zV} : zS 116 68 [zR a0, zI a1, zI a2, zI a3, u4] [] sh pp mm Q ↔ zS 116 69 [zR a0, zI a1, zI a2, zI a3, zU] [zR a0] sh pp mm Q := s_go cX_edge_68 cX_edge_69 rfl rfl
theorem rX_edge_69 {a0 s0 : Nat} {a1 a2 a3 : Int} {u4 : zV} (hk : zKd sh s0 = 11) : zS 116 69 [zR a0, zI a1, zI a2, zI a3, u4] [zR s0] sh pp mm Q ↔ zS 116 72 [zR a0, zI a1, zI a2, zI a3, zU] [zR (pp s0 5)] sh pp mm Q := s_go cX_edge_69 cX_edge_72 (if_pos hk) rfl
theorem rX_edge_72 {a0 s0 : Nat} {a1 a2 a3 : Int} {u4 : zV} (hk : zKd sh s0 = 6) : zS 116 72 [zR a0, zI a1, zI a2, zI a3, u4] [zR s0] sh pp mm Q ↔ zS 54 0 [zR s0] [] sh pp mm (fun v sh pp mm => zS 116 75 [zR a0, zI a1, zI a2, zI a3, zU] (zPush v []) sh pp mm Q) := s_call cX_edge_72 cX_edge_75 ((if_pos hk).trans rfl) rfl
theorem rX_edge_75 {a0 : Nat} {a1 a2 a3 : Int} {u4 : zV} : zS 116 75 [zR a0, zI a1, zI a2, zI a3, u4] [] sh pp mm Q ↔ zS 116 76 [zU, zI a1, zI a2, zI a3, zU] [zR a0] sh pp mm Q := s_go cX_edge_75 cX_edge_76 rfl rfl
theorem rX_edge_76 {s0 : Nat} {a1 a2 a3 : Int} {u0 u4 : zV} (hk : zKd sh s0 = 11) : zS 116 76 [u0, zI a1, zI a2, zI a3, u4] [zR s0] sh pp mm Q ↔ zS 116 79 [zU, zI a1, zI a2, zI a3, zU] [zR (pp s0 0)] sh pp mm Q := s_go cX_edge_76 cX_edge_79 (if_pos hk) rfl
theorem rX_edge_79 {s0 : Nat} {a1 a2 a3 : Int} {u0 u4 : zV} (hk : zKd sh s0 = 9) : zS 116 79 [u0, zI a1, zI a2, zI a3, u4] [zR s0] sh pp mm Q ↔ zS 116 82 [zU, zI a1, zI a2, zI a3, zU] [zR (pp s0 4)] sh pp mm Q := s_go cX_edge_79 cX_edge_82 (if_pos hk) rfl
theorem rX_edge_82 {s0 : Nat} {a1 a2 a3 : Int} {u0 u4 : zV} : zS 116 82 [u0, zI a1, zI a2, zI a3, u4] [zR s0] sh pp mm Q ↔ zS 116 83 [zU, zU, zI a2, zI a3, zU] [zI a1, zR s0] sh pp mm Q := s_go cX_edge_82 cX_edge_83 rfl rfl
theorem rX_edge_83 {s1 : Nat} {a2 a3 s0 : Int} {u0 u1 u4 : zV} : zS 116 83 [u0, u1, zI a2, zI a3, u4] [zI s0, zR s1] sh pp mm Q ↔ zS 116 84 [zU, zU, zU, zI a3, zU] [zI a2, zI s0, zR s1] sh pp mm Q := s_go cX_edge_83 cX_edge_84 rfl rfl
theorem rX_edge_84 {s2 : Nat} {a3 s0 s1 : Int} {u0 u1 u2 u4 : zV} : zS 116 84 [u0, u1, u2, zI a3, u4] [zI s0, zI s1, zR s2] sh pp mm Q ↔ zS 116 85 [zU, zU, zU, zU, zU] [zI a3, zI s0, zI s1, zR s2] sh pp mm Q := s_go cX_edge_84 cX_edge_85 rfl rfl
theorem rX_edge_85 {s3 : Nat} {s0 s1 s2 : Int} {u0 u1 u2 u3 u4 : zV} : zS 116 85 [u0, u1, u2, u3, u4] [zI s0, zI s1, zI s2, zR s3] sh pp mm Q ↔ (s0 = 0 → zS 116 92 [zU, zU, zU, zU, zU] [zI s1, zI s2, zR s3] sh pp mm Q) ∧ (¬ s0 = 0 → zS 116 88 [zU, zU, zU, zU, zU] [zI s1, zI s2, zR s3] sh pp mm Q) := s_if cX_edge_85 cX_edge_92 cX_edge_88 rfl rfl rfl
theorem rX_edge_88 {s2 : Nat} {s0 s1 : Int} {u0 u1 u2 u3 u4 : zV} : zS 116 88 [u0, u1, u2, u3, u4] [zI s0, zI s1, zR s2] sh pp mm Q ↔ zS 116 89 [zU, zU, zU, zU, zU] [zI 1, zI s0, zI s1, zR s2] sh pp mm Q := s_go cX_edge_88 cX_edge_89 rfl rfl
theorem rX_edge_89 {s3 : Nat} {s0 s1 s2 : Int} {u0 u1 u2 u3 u4 : zV} : zS 116 89 [u0, u1, u2, u3, u4] [zI s0, zI s1, zI s2, zR s3] sh pp mm Q ↔ zS 116 93 [zU, zU, zU, zU, zU] [zI s0, zI s1, zI s2, zR s3] sh pp mm Q := s_go cX_edge_89 cX_edge_93 rfl rfl
theorem rX_edge_92 {s2 : Nat} {s0 s1 : Int} {u0 u1 u2 u3 u4 : zV} : zS 116 92 [u0, u1, u2, u3, u4] [zI s0, zI s1, zR s2] sh pp mm Q ↔ zS 116 93 [zU, zU, zU, zU, zU] [zI 0, zI s0, zI s1, zR s2] sh pp mm Q := s_go cX_edge_92 cX_edge_93 rfl rfl
theorem rX_edge_93 {s3 : Nat} {s0 s1 s2 : Int} {u0 u1 u2 u3 u4 : zV} (hk : zKd sh s3 = 10) : zS 116 93 [u0, u1, u2, u3, u4] [zI s0, zI s1, zI s2, zR s3] sh pp mm Q ↔ zS 98 0 [zR s3, zI s2, zI s1, zI s0, zU] [] sh pp mm (fun v sh pp mm => zS 116 96 [zU, zU, zU, zU, zU] (zPush v []) sh pp mm Q) := s_call cX_edge_93 cX_edge_96 ((if_pos hk).trans rfl) rfl
theorem rX_edge_96 {s0 : Int} {u0 u1 u2 u3 u4 : zV} : zS 116 96 [u0, u1, u2, u3, u4] [zI s0] sh pp mm Q ↔ Q (zI s0) sh pp mm := s_ret cX_edge_96 rfl
theorem cAX_unnet : ∀ q ∈ zT117, zCode 117 q.1 = some q.2 := zAll (mid := 117) rfl (by decide +kernel)
theorem cAX_unnet_0 : ∀ q ∈ zT117_0, zCode 117 q.1 = some q.2 := fun q h => cAX_unnet q (h)
theorem cX_unnet_0 : zCode 117 0 = some (.aload_n 0, 1, 0, 0, 0, 0, 1) := cAX_unnet_0 _ (List.mem_of_getElem? (i := 0) rfl)
theorem cX_unnet_1 : zCode 117 1 = some (.getfield 39, 4, 11, 5, 2, 511, 1) := cAX_unnet_0 _ (List.mem_of_getElem? (i := 1) rfl)
theorem cX_unnet_4 : zCode 117 4 = some (.invokevirtual 82, 7, 54, 0, 1, 6, 1) := cAX_unnet_0 _ (List.mem_of_getElem? (i := 2) rfl)
theorem cX_unnet_7 : zCode 117 7 = some (.aload_n 0, 8, 0, 0, 0, 0, 1) := cAX_unnet_0 _ (List.mem_of_getElem? (i := 3) rfl)
theorem cX_unnet_8 : zCode 117 8 = some (.getfield 10, 11, 11, 0, 2, 506, 1) := cAX_unnet_0 _ (List.mem_of_getElem? (i := 4) rfl)
theorem cX_unnet_11 : zCode 117 11 = some (.getfield 176, 14, 9, 3, 2, 173, 1) := cAX_unnet_0 _ (List.mem_of_getElem? (i := 5) rfl)
theorem cX_unnet_14 : zCode 117 14 = some (.invokevirtual 107, 17, 99, 0, 2, 10, 1) := cAX_unnet_0 _ (List.mem_of_getElem? (i := 6) rfl)
theorem cX_unnet_17 : zCode 117 17 = some (.pop, 18, 0, 0, 0, 0, 1) := cAX_unnet_0 _ (List.mem_of_getElem? (i := 7) rfl)
theorem cX_unnet_18 : zCode 117 18 = some (.aload_n 0, 19, 0, 0, 0, 0, 1) := cAX_unnet_0 _ (List.mem_of_getElem? (i := 8) rfl)
theorem cX_unnet_19 : zCode 117 19 = some (.getfield 10, 22, 11, 0, 2, 506, 0) := cAX_unnet_0 _ (List.mem_of_getElem? (i := 9) rfl)
theorem cX_unnet_22 : zCode 117 22 = some (.getfield 179, 25, 9, 4, 2, 176, 0) := cAX_unnet_0 _ (List.mem_of_getElem? (i := 10) rfl)
theorem cX_unnet_25 : zCode 117 25 = some (.invokevirtual 107, 28, 99, 0, 2, 10, 0) := cAX_unnet_0 _ (List.mem_of_getElem? (i := 11) rfl)
theorem cX_unnet_28 : zCode 117 28 = some (.ireturn, 29, 0, 0, 0, 0, 0) := cAX_unnet_0 _ (List.mem_of_getElem? (i := 12) rfl)
theorem rX_unnet_0 {a0 : Nat} : zS 117 0 [zR a0] [] sh pp mm Q ↔ zS 117 1 [zR a0] [zR a0] sh pp mm Q := s_go cX_unnet_0 cX_unnet_1 rfl rfl
theorem rX_unnet_1 {a0 s0 : Nat} (hk : zKd sh s0 = 11) : zS 117 1 [zR a0] [zR s0] sh pp mm Q ↔ zS 117 4 [zR a0] [zR (pp s0 5)] sh pp mm Q := s_go cX_unnet_1 cX_unnet_4 (if_pos hk) rfl
theorem rX_unnet_4 {a0 s0 : Nat} (hk : zKd sh s0 = 6) : zS 117 4 [zR a0] [zR s0] sh pp mm Q ↔ zS 54 0 [zR s0] [] sh pp mm (fun v sh pp mm => zS 117 7 [zR a0] (zPush v []) sh pp mm Q) := s_call cX_unnet_4 cX_unnet_7 ((if_pos hk).trans rfl) rfl
theorem rX_unnet_7 {a0 : Nat} : zS 117 7 [zR a0] [] sh pp mm Q ↔ zS 117 8 [zR a0] [zR a0] sh pp mm Q := s_go cX_unnet_7 cX_unnet_8 rfl rfl
theorem rX_unnet_8 {a0 s0 : Nat} (hk : zKd sh s0 = 11) : zS 117 8 [zR a0] [zR s0] sh pp mm Q ↔ zS 117 11 [zR a0] [zR (pp s0 0)] sh pp mm Q := s_go cX_unnet_8 cX_unnet_11 (if_pos hk) rfl
theorem rX_unnet_11 {a0 s0 : Nat} (hk : zKd sh s0 = 9) : zS 117 11 [zR a0] [zR s0] sh pp mm Q ↔ zS 117 14 [zR a0] [zR (pp s0 3)] sh pp mm Q := s_go cX_unnet_11 cX_unnet_14 (if_pos hk) rfl
theorem rX_unnet_14 {a0 s0 : Nat} (hk : zKd sh s0 = 10) : zS 117 14 [zR a0] [zR s0] sh pp mm Q ↔ zS 99 0 [zR s0, zU] [] sh pp mm (fun v sh pp mm => zS 117 17 [zR a0] (zPush v []) sh pp mm Q) := s_call cX_unnet_14 cX_unnet_17 ((if_pos hk).trans rfl) rfl
theorem rX_unnet_17 {a0 : Nat} {s0 : Int} : zS 117 17 [zR a0] [zI s0] sh pp mm Q ↔ zS 117 18 [zR a0] [] sh pp mm Q := s_go cX_unnet_17 cX_unnet_18 rfl rfl
theorem rX_unnet_18 {a0 : Nat} : zS 117 18 [zR a0] [] sh pp mm Q ↔ zS 117 19 [zU] [zR a0] sh pp mm Q := s_go cX_unnet_18 cX_unnet_19 rfl rfl
theorem rX_unnet_19 {s0 : Nat} {u0 : zV} (hk : zKd sh s0 = 11) : zS 117 19 [u0] [zR s0] sh pp mm Q ↔ zS 117 22 [zU] [zR (pp s0 0)] sh pp mm Q := s_go cX_unnet_19 cX_unnet_22 (if_pos hk) rfl
theorem rX_unnet_22 {s0 : Nat} {u0 : zV} (hk : zKd sh s0 = 9) : zS 117 22 [u0] [zR s0] sh pp mm Q ↔ zS 117 25 [zU] [zR (pp s0 4)] sh pp mm Q := s_go cX_unnet_22 cX_unnet_25 (if_pos hk) rfl
theorem rX_unnet_25 {s0 : Nat} {u0 : zV} (hk : zKd sh s0 = 10) : zS 117 25 [u0] [zR s0] sh pp mm Q ↔ zS 99 0 [zR s0, zU] [] sh pp mm (fun v sh pp mm => zS 117 28 [zU] (zPush v []) sh pp mm Q) := s_call cX_unnet_25 cX_unnet_28 ((if_pos hk).trans rfl) rfl
theorem rX_unnet_28 {s0 : Int} {u0 : zV} : zS 117 28 [u0] [zI s0] sh pp mm Q ↔ Q (zI s0) sh pp mm := s_ret cX_unnet_28 rfl
theorem cAX_odd : ∀ q ∈ zT118, zCode 118 q.1 = some q.2 := zAll (mid := 118) rfl (by decide +kernel)
theorem cAX_odd_0 : ∀ q ∈ zT118_0, zCode 118 q.1 = some q.2 := fun q h => cAX_odd q (h)
theorem cX_odd_0 : zCode 118 0 = some (.aload_n 0, 1, 0, 0, 0, 0, 1) := cAX_odd_0 _ (List.mem_of_getElem? (i := 0) rfl)
theorem cX_odd_1 : zCode 118 1 = some (.getfield 39, 4, 11, 5, 2, 511, 1) := cAX_odd_0 _ (List.mem_of_getElem? (i := 1) rfl)
theorem cX_odd_4 : zCode 118 4 = some (.aload_n 0, 5, 0, 0, 0, 0, 1) := cAX_odd_0 _ (List.mem_of_getElem? (i := 2) rfl)
theorem cX_odd_5 : zCode 118 5 = some (.getfield 10, 8, 11, 0, 2, 506, 1) := cAX_odd_0 _ (List.mem_of_getElem? (i := 3) rfl)
theorem cX_odd_8 : zCode 118 8 = some (.invokevirtual 182, 11, 55, 1, 3, 6, 1) := cAX_odd_0 _ (List.mem_of_getElem? (i := 4) rfl)
theorem cX_odd_11 : zCode 118 11 = some (.aload_n 0, 12, 0, 0, 0, 0, 1) := cAX_odd_0 _ (List.mem_of_getElem? (i := 5) rfl)
theorem cX_odd_12 : zCode 118 12 = some (.getfield 39, 15, 11, 5, 2, 511, 0) := cAX_odd_0 _ (List.mem_of_getElem? (i := 6) rfl)
theorem cX_odd_15 : zCode 118 15 = some (.getfield 186, 18, 6, 0, 0, 212, 0) := cAX_odd_0 _ (List.mem_of_getElem? (i := 7) rfl)
theorem cX_odd_18 : zCode 118 18 = some (.ireturn, 19, 0, 0, 0, 0, 0) := cAX_odd_0 _ (List.mem_of_getElem? (i := 8) rfl)
theorem rX_odd_0 {a0 : Nat} : zS 118 0 [zR a0] [] sh pp mm Q ↔ zS 118 1 [zR a0] [zR a0] sh pp mm Q := s_go cX_odd_0 cX_odd_1 rfl rfl
theorem rX_odd_1 {a0 s0 : Nat} (hk : zKd sh s0 = 11) : zS 118 1 [zR a0] [zR s0] sh pp mm Q ↔ zS 118 4 [zR a0] [zR (pp s0 5)] sh pp mm Q := s_go cX_odd_1 cX_odd_4 (if_pos hk) rfl
theorem rX_odd_4 {a0 s0 : Nat} : zS 118 4 [zR a0] [zR s0] sh pp mm Q ↔ zS 118 5 [zR a0] [zR a0, zR s0] sh pp mm Q := s_go cX_odd_4 cX_odd_5 rfl rfl
theorem rX_odd_5 {a0 s0 s1 : Nat} (hk : zKd sh s0 = 11) : zS 118 5 [zR a0] [zR s0, zR s1] sh pp mm Q ↔ zS 118 8 [zR a0] [zR (pp s0 0), zR s1] sh pp mm Q := s_go cX_odd_5 cX_odd_8 (if_pos hk) rfl
theorem rX_odd_8 {a0 s0 s1 : Nat} (hk : zKd sh s1 = 6) : zS 118 8 [zR a0] [zR s0, zR s1] sh pp mm Q ↔ zS 55 0 [zR s1, zR s0, zU] [] sh pp mm (fun v sh pp mm => zS 118 11 [zR a0] (zPush v []) sh pp mm Q) := s_call cX_odd_8 cX_odd_11 ((if_pos hk).trans rfl) rfl
theorem rX_odd_11 {a0 : Nat} : zS 118 11 [zR a0] [] sh pp mm Q ↔ zS 118 12 [zU] [zR a0] sh pp mm Q := s_go cX_odd_11 cX_odd_12 rfl rfl
theorem rX_odd_12 {s0 : Nat} {u0 : zV} (hk : zKd sh s0 = 11) : zS 118 12 [u0] [zR s0] sh pp mm Q ↔ zS 118 15 [zU] [zR (pp s0 5)] sh pp mm Q := s_go cX_odd_12 cX_odd_15 (if_pos hk) rfl
theorem rX_odd_15 {s0 : Nat} {u0 : zV} (hk : zKd sh s0 = 6) : zS 118 15 [u0] [zR s0] sh pp mm Q ↔ zS 118 18 [zU] [zI (mm s0 0)] sh pp mm Q := s_go cX_odd_15 cX_odd_18 (if_pos hk) rfl
theorem rX_odd_18 {s0 : Int} {u0 : zV} : zS 118 18 [u0] [zI s0] sh pp mm Q ↔ Q (zI s0) sh pp mm := s_ret cX_odd_18 rfl
theorem cAX_once : ∀ q ∈ zT119, zCode 119 q.1 = some q.2 := zAll (mid := 119) rfl (by decide +kernel)
theorem cAX_once_0 : ∀ q ∈ zT119_0, zCode 119 q.1 = some q.2 := fun q h => cAX_once q (h)
theorem cX_once_0 : zCode 119 0 = some (.aload_n 0, 1, 0, 0, 0, 0, 1) := cAX_once_0 _ (List.mem_of_getElem? (i := 0) rfl)
theorem cX_once_1 : zCode 119 1 = some (.getfield 39, 4, 11, 5, 2, 511, 1) := cAX_once_0 _ (List.mem_of_getElem? (i := 1) rfl)
theorem cX_once_4 : zCode 119 4 = some (.aload_n 0, 5, 0, 0, 0, 0, 1) := cAX_once_0 _ (List.mem_of_getElem? (i := 2) rfl)
theorem cX_once_5 : zCode 119 5 = some (.getfield 10, 8, 11, 0, 2, 506, 1) := cAX_once_0 _ (List.mem_of_getElem? (i := 3) rfl)
theorem cX_once_8 : zCode 119 8 = some (.invokevirtual 182, 11, 55, 1, 3, 6, 1) := cAX_once_0 _ (List.mem_of_getElem? (i := 4) rfl)
theorem cX_once_11 : zCode 119 11 = some (.aload_n 0, 12, 0, 0, 0, 0, 1) := cAX_once_0 _ (List.mem_of_getElem? (i := 5) rfl)
theorem cX_once_12 : zCode 119 12 = some (.getfield 39, 15, 11, 5, 2, 511, 0) := cAX_once_0 _ (List.mem_of_getElem? (i := 6) rfl)
theorem cX_once_15 : zCode 119 15 = some (.getfield 189, 18, 6, 2, 3, 216, 0) := cAX_once_0 _ (List.mem_of_getElem? (i := 7) rfl)
theorem cX_once_18 : zCode 119 18 = some (.ifCond .eq 7, 21, 25, 0, 0, 0, 0) := cAX_once_0 _ (List.mem_of_getElem? (i := 8) rfl)
theorem cX_once_21 : zCode 119 21 = some (.iconst 1, 22, 0, 0, 0, 0, 0) := cAX_once_0 _ (List.mem_of_getElem? (i := 9) rfl)
theorem cX_once_22 : zCode 119 22 = some (.goto 4, 25, 26, 0, 0, 0, 0) := cAX_once_0 _ (List.mem_of_getElem? (i := 10) rfl)
theorem cX_once_25 : zCode 119 25 = some (.iconst 0, 26, 0, 0, 0, 0, 0) := cAX_once_0 _ (List.mem_of_getElem? (i := 11) rfl)
theorem cX_once_26 : zCode 119 26 = some (.ireturn, 27, 0, 0, 0, 0, 0) := cAX_once_0 _ (List.mem_of_getElem? (i := 12) rfl)
theorem rX_once_0 {a0 : Nat} : zS 119 0 [zR a0] [] sh pp mm Q ↔ zS 119 1 [zR a0] [zR a0] sh pp mm Q := s_go cX_once_0 cX_once_1 rfl rfl
theorem rX_once_1 {a0 s0 : Nat} (hk : zKd sh s0 = 11) : zS 119 1 [zR a0] [zR s0] sh pp mm Q ↔ zS 119 4 [zR a0] [zR (pp s0 5)] sh pp mm Q := s_go cX_once_1 cX_once_4 (if_pos hk) rfl
theorem rX_once_4 {a0 s0 : Nat} : zS 119 4 [zR a0] [zR s0] sh pp mm Q ↔ zS 119 5 [zR a0] [zR a0, zR s0] sh pp mm Q := s_go cX_once_4 cX_once_5 rfl rfl
theorem rX_once_5 {a0 s0 s1 : Nat} (hk : zKd sh s0 = 11) : zS 119 5 [zR a0] [zR s0, zR s1] sh pp mm Q ↔ zS 119 8 [zR a0] [zR (pp s0 0), zR s1] sh pp mm Q := s_go cX_once_5 cX_once_8 (if_pos hk) rfl
theorem rX_once_8 {a0 s0 s1 : Nat} (hk : zKd sh s1 = 6) : zS 119 8 [zR a0] [zR s0, zR s1] sh pp mm Q ↔ zS 55 0 [zR s1, zR s0, zU] [] sh pp mm (fun v sh pp mm => zS 119 11 [zR a0] (zPush v []) sh pp mm Q) := s_call cX_once_8 cX_once_11 ((if_pos hk).trans rfl) rfl
theorem rX_once_11 {a0 : Nat} : zS 119 11 [zR a0] [] sh pp mm Q ↔ zS 119 12 [zU] [zR a0] sh pp mm Q := s_go cX_once_11 cX_once_12 rfl rfl
theorem rX_once_12 {s0 : Nat} {u0 : zV} (hk : zKd sh s0 = 11) : zS 119 12 [u0] [zR s0] sh pp mm Q ↔ zS 119 15 [zU] [zR (pp s0 5)] sh pp mm Q := s_go cX_once_12 cX_once_15 (if_pos hk) rfl
theorem rX_once_15 {s0 : Nat} {u0 : zV} (hk : zKd sh s0 = 6) : zS 119 15 [u0] [zR s0] sh pp mm Q ↔ zS 119 18 [zU] [zI (mm s0 2)] sh pp mm Q := s_go cX_once_15 cX_once_18 (if_pos hk) rfl
theorem rX_once_18 {s0 : Int} {u0 : zV} : zS 119 18 [u0] [zI s0] sh pp mm Q ↔ (s0 = 0 → zS 119 25 [zU] [] sh pp mm Q) ∧ (¬ s0 = 0 → zS 119 21 [zU] [] sh pp mm Q) := s_if cX_once_18 cX_once_25 cX_once_21 rfl rfl rfl
theorem rX_once_21 {u0 : zV} : zS 119 21 [u0] [] sh pp mm Q ↔ zS 119 22 [zU] [zI 1] sh pp mm Q := s_go cX_once_21 cX_once_22 rfl rfl
theorem rX_once_22 {s0 : Int} {u0 : zV} : zS 119 22 [u0] [zI s0] sh pp mm Q ↔ zS 119 26 [zU] [zI s0] sh pp mm Q := s_go cX_once_22 cX_once_26 rfl rfl
theorem rX_once_25 {u0 : zV} : zS 119 25 [u0] [] sh pp mm Q ↔ zS 119 26 [zU] [zI 0] sh pp mm Q := s_go cX_once_25 cX_once_26 rfl rfl
theorem rX_once_26 {s0 : Int} {u0 : zV} : zS 119 26 [u0] [zI s0] sh pp mm Q ↔ Q (zI s0) sh pp mm := s_ret cX_once_26 rfl
theorem cAX_trail : ∀ q ∈ zT120, zCode 120 q.1 = some q.2 := zAll (mid := 120) rfl (by decide +kernel)
theorem cAX_trail_0 : ∀ q ∈ zT120_0, zCode 120 q.1 = some q.2 := fun q h => cAX_trail q (List.mem_append_left _ h)
theorem cAX_trail_1 : ∀ q ∈ zT120_1, zCode 120 q.1 = some q.2 := fun q h => cAX_trail q (List.mem_append_right _ h)
theorem cX_trail_0 : zCode 120 0 = some (.iload_n 1, 1, 0, 0, 0, 0, 3) := cAX_trail_0 _ (List.mem_of_getElem? (i := 0) rfl)
theorem cX_trail_1 : zCode 120 1 = some (.iconst (-1), 2, 0, 0, 0, 0, 3) := cAX_trail_0 _ (List.mem_of_getElem? (i := 1) rfl)
theorem cX_trail_2 : zCode 120 2 = some (.if_icmp .ge 11, 5, 13, 0, 0, 0, 3) := cAX_trail_0 _ (List.mem_of_getElem? (i := 2) rfl)
theorem cX_trail_5 : zCode 120 5 = some (.aload_n 0, 6, 0, 0, 0, 0, 1) := cAX_trail_0 _ (List.mem_of_getElem? (i := 3) rfl)
theorem cX_trail_6 : zCode 120 6 = some (.iconst 0, 7, 0, 0, 0, 0, 0) := cAX_trail_0 _ (List.mem_of_getElem? (i := 4) rfl)
theorem cX_trail_7 : zCode 120 7 = some (.bipush (-2), 9, 0, 0, 0, 0, 0) := cAX_trail_0 _ (List.mem_of_getElem? (i := 5) rfl)
theorem cX_trail_9 : zCode 120 9 = some (.invokevirtual 72, 12, 138, 2, 3, 11, 0) := cAX_trail_0 _ (List.mem_of_getElem? (i := 6) rfl)
theorem cX_trail_12 : zCode 120 12 = some (.ireturn, 13, 0, 0, 0, 0, 0) := cAX_trail_0 _ (List.mem_of_getElem? (i := 7) rfl)
theorem cX_trail_13 : zCode 120 13 = some (.aload_n 0, 14, 0, 0, 0, 0, 3) := cAX_trail_0 _ (List.mem_of_getElem? (i := 8) rfl)
theorem cX_trail_14 : zCode 120 14 = some (.getfield 39, 17, 11, 5, 2, 511, 3) := cAX_trail_0 _ (List.mem_of_getElem? (i := 9) rfl)
theorem cX_trail_17 : zCode 120 17 = some (.aload_n 0, 18, 0, 0, 0, 0, 3) := cAX_trail_0 _ (List.mem_of_getElem? (i := 10) rfl)
theorem cX_trail_18 : zCode 120 18 = some (.getfield 10, 21, 11, 0, 2, 506, 3) := cAX_trail_0 _ (List.mem_of_getElem? (i := 11) rfl)
theorem cX_trail_21 : zCode 120 21 = some (.invokevirtual 182, 24, 55, 1, 3, 6, 3) := cAX_trail_0 _ (List.mem_of_getElem? (i := 12) rfl)
theorem cX_trail_24 : zCode 120 24 = some (.aload_n 0, 25, 0, 0, 0, 0, 3) := cAX_trail_0 _ (List.mem_of_getElem? (i := 13) rfl)
theorem cX_trail_25 : zCode 120 25 = some (.getfield 39, 28, 11, 5, 2, 511, 3) := cAX_trail_0 _ (List.mem_of_getElem? (i := 14) rfl)
theorem cX_trail_28 : zCode 120 28 = some (.invokevirtual 193, 31, 61, 0, 1, 6, 3) := cAX_trail_0 _ (List.mem_of_getElem? (i := 15) rfl)
theorem cX_trail_31 : zCode 120 31 = some (.ifCond .ne 11, 34, 42, 0, 0, 0, 3) := cAX_trail_1 _ (List.mem_of_getElem? (i := 0) rfl)
theorem cX_trail_34 : zCode 120 34 = some (.aload_n 0, 35, 0, 0, 0, 0, 1) := cAX_trail_1 _ (List.mem_of_getElem? (i := 1) rfl)
theorem cX_trail_35 : zCode 120 35 = some (.iconst 1, 36, 0, 0, 0, 0, 0) := cAX_trail_1 _ (List.mem_of_getElem? (i := 2) rfl)
theorem cX_trail_36 : zCode 120 36 = some (.bipush (-3), 38, 0, 0, 0, 0, 0) := cAX_trail_1 _ (List.mem_of_getElem? (i := 3) rfl)
theorem cX_trail_38 : zCode 120 38 = some (.invokevirtual 72, 41, 138, 2, 3, 11, 0) := cAX_trail_1 _ (List.mem_of_getElem? (i := 4) rfl)
theorem cX_trail_41 : zCode 120 41 = some (.ireturn, 42, 0, 0, 0, 0, 0) := cAX_trail_1 _ (List.mem_of_getElem? (i := 5) rfl)
theorem cX_trail_42 : zCode 120 42 = some (.aload_n 0, 43, 0, 0, 0, 0, 3) := cAX_trail_1 _ (List.mem_of_getElem? (i := 6) rfl)
theorem cX_trail_43 : zCode 120 43 = some (.getfield 39, 46, 11, 5, 2, 511, 2) := cAX_trail_1 _ (List.mem_of_getElem? (i := 7) rfl)
theorem cX_trail_46 : zCode 120 46 = some (.iload_n 1, 47, 0, 0, 0, 0, 2) := cAX_trail_1 _ (List.mem_of_getElem? (i := 8) rfl)
theorem cX_trail_47 : zCode 120 47 = some (.invokevirtual 196, 50, 63, 1, 2, 6, 0) := cAX_trail_1 _ (List.mem_of_getElem? (i := 9) rfl)
theorem cX_trail_50 : zCode 120 50 = some (.ireturn, 51, 0, 0, 0, 0, 0) := cAX_trail_1 _ (List.mem_of_getElem? (i := 10) rfl)
theorem rX_trail_0 {a0 : Nat} {a1 : Int} : zS 120 0 [zR a0, zI a1] [] sh pp mm Q ↔ zS 120 1 [zR a0, zI a1] [zI a1] sh pp mm Q := s_go cX_trail_0 cX_trail_1 rfl rfl
theorem rX_trail_1 {a0 : Nat} {a1 s0 : Int} : zS 120 1 [zR a0, zI a1] [zI s0] sh pp mm Q ↔ zS 120 2 [zR a0, zI a1] [zI (-1), zI s0] sh pp mm Q := s_go cX_trail_1 cX_trail_2 rfl rfl
theorem rX_trail_2 {a0 : Nat} {a1 s0 s1 : Int} : zS 120 2 [zR a0, zI a1] [zI s0, zI s1] sh pp mm Q ↔ (s1 < s0 → zS 120 5 [zR a0, zU] [] sh pp mm Q) ∧ (¬ s1 < s0 → zS 120 13 [zR a0, zI a1] [] sh pp mm Q) := s_ifn cX_trail_2 cX_trail_5 cX_trail_13 rfl rfl rfl
theorem rX_trail_5 {a0 : Nat} {u1 : zV} : zS 120 5 [zR a0, u1] [] sh pp mm Q ↔ zS 120 6 [zU, zU] [zR a0] sh pp mm Q := s_go cX_trail_5 cX_trail_6 rfl rfl
theorem rX_trail_6 {s0 : Nat} {u0 u1 : zV} : zS 120 6 [u0, u1] [zR s0] sh pp mm Q ↔ zS 120 7 [zU, zU] [zI 0, zR s0] sh pp mm Q := s_go cX_trail_6 cX_trail_7 rfl rfl
theorem rX_trail_7 {s1 : Nat} {s0 : Int} {u0 u1 : zV} : zS 120 7 [u0, u1] [zI s0, zR s1] sh pp mm Q ↔ zS 120 9 [zU, zU] [zI (-2), zI s0, zR s1] sh pp mm Q := s_go cX_trail_7 cX_trail_9 rfl rfl
theorem rX_trail_9 {s2 : Nat} {s0 s1 : Int} {u0 u1 : zV} (hk : zKd sh s2 = 11) : zS 120 9 [u0, u1] [zI s0, zI s1, zR s2] sh pp mm Q ↔ zS 138 0 [zR s2, zI s1, zI s0] [] sh pp mm (fun v sh pp mm => zS 120 12 [zU, zU] (zPush v []) sh pp mm Q) := s_call cX_trail_9 cX_trail_12 ((if_pos hk).trans rfl) rfl
theorem rX_trail_12 {s0 : Int} {u0 u1 : zV} : zS 120 12 [u0, u1] [zI s0] sh pp mm Q ↔ Q (zI s0) sh pp mm := s_ret cX_trail_12 rfl
theorem rX_trail_13 {a0 : Nat} {a1 : Int} : zS 120 13 [zR a0, zI a1] [] sh pp mm Q ↔ zS 120 14 [zR a0, zI a1] [zR a0] sh pp mm Q := s_go cX_trail_13 cX_trail_14 rfl rfl
theorem rX_trail_14 {a0 s0 : Nat} {a1 : Int} (hk : zKd sh s0 = 11) : zS 120 14 [zR a0, zI a1] [zR s0] sh pp mm Q ↔ zS 120 17 [zR a0, zI a1] [zR (pp s0 5)] sh pp mm Q := s_go cX_trail_14 cX_trail_17 (if_pos hk) rfl
theorem rX_trail_17 {a0 s0 : Nat} {a1 : Int} : zS 120 17 [zR a0, zI a1] [zR s0] sh pp mm Q ↔ zS 120 18 [zR a0, zI a1] [zR a0, zR s0] sh pp mm Q := s_go cX_trail_17 cX_trail_18 rfl rfl
theorem rX_trail_18 {a0 s0 s1 : Nat} {a1 : Int} (hk : zKd sh s0 = 11) : zS 120 18 [zR a0, zI a1] [zR s0, zR s1] sh pp mm Q ↔ zS 120 21 [zR a0, zI a1] [zR (pp s0 0), zR s1] sh pp mm Q := s_go cX_trail_18 cX_trail_21 (if_pos hk) rfl
theorem rX_trail_21 {a0 s0 s1 : Nat} {a1 : Int} (hk : zKd sh s1 = 6) : zS 120 21 [zR a0, zI a1] [zR s0, zR s1] sh pp mm Q ↔ zS 55 0 [zR s1, zR s0, zU] [] sh pp mm (fun v sh pp mm => zS 120 24 [zR a0, zI a1] (zPush v []) sh pp mm Q) := s_call cX_trail_21 cX_trail_24 ((if_pos hk).trans rfl) rfl
theorem rX_trail_24 {a0 : Nat} {a1 : Int} : zS 120 24 [zR a0, zI a1] [] sh pp mm Q ↔ zS 120 25 [zR a0, zI a1] [zR a0] sh pp mm Q := s_go cX_trail_24 cX_trail_25 rfl rfl
theorem rX_trail_25 {a0 s0 : Nat} {a1 : Int} (hk : zKd sh s0 = 11) : zS 120 25 [zR a0, zI a1] [zR s0] sh pp mm Q ↔ zS 120 28 [zR a0, zI a1] [zR (pp s0 5)] sh pp mm Q := s_go cX_trail_25 cX_trail_28 (if_pos hk) rfl
theorem rX_trail_28 {a0 s0 : Nat} {a1 : Int} (hk : zKd sh s0 = 6) : zS 120 28 [zR a0, zI a1] [zR s0] sh pp mm Q ↔ zS 61 0 [zR s0] [] sh pp mm (fun v sh pp mm => zS 120 31 [zR a0, zI a1] (zPush v []) sh pp mm Q) := s_call cX_trail_28 cX_trail_31 ((if_pos hk).trans rfl) rfl
theorem rX_trail_31 {a0 : Nat} {a1 s0 : Int} : zS 120 31 [zR a0, zI a1] [zI s0] sh pp mm Q ↔ (s0 = 0 → zS 120 34 [zR a0, zU] [] sh pp mm Q) ∧ (¬ s0 = 0 → zS 120 42 [zR a0, zI a1] [] sh pp mm Q) := s_ifn cX_trail_31 cX_trail_34 cX_trail_42 rfl rfl rfl
theorem rX_trail_34 {a0 : Nat} {u1 : zV} : zS 120 34 [zR a0, u1] [] sh pp mm Q ↔ zS 120 35 [zU, zU] [zR a0] sh pp mm Q := s_go cX_trail_34 cX_trail_35 rfl rfl
theorem rX_trail_35 {s0 : Nat} {u0 u1 : zV} : zS 120 35 [u0, u1] [zR s0] sh pp mm Q ↔ zS 120 36 [zU, zU] [zI 1, zR s0] sh pp mm Q := s_go cX_trail_35 cX_trail_36 rfl rfl
theorem rX_trail_36 {s1 : Nat} {s0 : Int} {u0 u1 : zV} : zS 120 36 [u0, u1] [zI s0, zR s1] sh pp mm Q ↔ zS 120 38 [zU, zU] [zI (-3), zI s0, zR s1] sh pp mm Q := s_go cX_trail_36 cX_trail_38 rfl rfl
theorem rX_trail_38 {s2 : Nat} {s0 s1 : Int} {u0 u1 : zV} (hk : zKd sh s2 = 11) : zS 120 38 [u0, u1] [zI s0, zI s1, zR s2] sh pp mm Q ↔ zS 138 0 [zR s2, zI s1, zI s0] [] sh pp mm (fun v sh pp mm => zS 120 41 [zU, zU] (zPush v []) sh pp mm Q) := s_call cX_trail_38 cX_trail_41 ((if_pos hk).trans rfl) rfl
theorem rX_trail_41 {s0 : Int} {u0 u1 : zV} : zS 120 41 [u0, u1] [zI s0] sh pp mm Q ↔ Q (zI s0) sh pp mm := s_ret cX_trail_41 rfl
theorem rX_trail_42 {a0 : Nat} {a1 : Int} : zS 120 42 [zR a0, zI a1] [] sh pp mm Q ↔ zS 120 43 [zU, zI a1] [zR a0] sh pp mm Q := s_go cX_trail_42 cX_trail_43 rfl rfl
theorem rX_trail_43 {s0 : Nat} {a1 : Int} {u0 : zV} (hk : zKd sh s0 = 11) : zS 120 43 [u0, zI a1] [zR s0] sh pp mm Q ↔ zS 120 46 [zU, zI a1] [zR (pp s0 5)] sh pp mm Q := s_go cX_trail_43 cX_trail_46 (if_pos hk) rfl
theorem rX_trail_46 {s0 : Nat} {a1 : Int} {u0 : zV} : zS 120 46 [u0, zI a1] [zR s0] sh pp mm Q ↔ zS 120 47 [zU, zU] [zI a1, zR s0] sh pp mm Q := s_go cX_trail_46 cX_trail_47 rfl rfl
theorem rX_trail_47 {s1 : Nat} {s0 : Int} {u0 u1 : zV} (hk : zKd sh s1 = 6) : zS 120 47 [u0, u1] [zI s0, zR s1] sh pp mm Q ↔ zS 63 0 [zR s1, zI s0] [] sh pp mm (fun v sh pp mm => zS 120 50 [zU, zU] (zPush v []) sh pp mm Q) := s_call cX_trail_47 cX_trail_50 ((if_pos hk).trans rfl) rfl
theorem rX_trail_50 {s0 : Int} {u0 u1 : zV} : zS 120 50 [u0, u1] [zI s0] sh pp mm Q ↔ Q (zI s0) sh pp mm := s_ret cX_trail_50 rfl
theorem cAX_starts : ∀ q ∈ zT121, zCode 121 q.1 = some q.2 := zAll (mid := 121) rfl (by decide +kernel)
theorem cAX_starts_0 : ∀ q ∈ zT121_0, zCode 121 q.1 = some q.2 := fun q h => cAX_starts q (h)
theorem cX_starts_0 : zCode 121 0 = some (.aload_n 0, 1, 0, 0, 0, 0, 1) := cAX_starts_0 _ (List.mem_of_getElem? (i := 0) rfl)
theorem cX_starts_1 : zCode 121 1 = some (.getfield 39, 4, 11, 5, 2, 511, 1) := cAX_starts_0 _ (List.mem_of_getElem? (i := 1) rfl)
theorem cX_starts_4 : zCode 121 4 = some (.aload_n 0, 5, 0, 0, 0, 0, 1) := cAX_starts_0 _ (List.mem_of_getElem? (i := 2) rfl)
theorem cX_starts_5 : zCode 121 5 = some (.getfield 10, 8, 11, 0, 2, 506, 1) := cAX_starts_0 _ (List.mem_of_getElem? (i := 3) rfl)
theorem cX_starts_8 : zCode 121 8 = some (.invokevirtual 182, 11, 55, 1, 3, 6, 1) := cAX_starts_0 _ (List.mem_of_getElem? (i := 4) rfl)
theorem cX_starts_11 : zCode 121 11 = some (.aload_n 0, 12, 0, 0, 0, 0, 1) := cAX_starts_0 _ (List.mem_of_getElem? (i := 5) rfl)
theorem cX_starts_12 : zCode 121 12 = some (.getfield 39, 15, 11, 5, 2, 511, 0) := cAX_starts_0 _ (List.mem_of_getElem? (i := 6) rfl)
theorem cX_starts_15 : zCode 121 15 = some (.invokevirtual 199, 18, 62, 0, 3, 6, 0) := cAX_starts_0 _ (List.mem_of_getElem? (i := 7) rfl)
theorem cX_starts_18 : zCode 121 18 = some (.ireturn, 19, 0, 0, 0, 0, 0) := cAX_starts_0 _ (List.mem_of_getElem? (i := 8) rfl)
theorem rX_starts_0 {a0 : Nat} : zS 121 0 [zR a0] [] sh pp mm Q ↔ zS 121 1 [zR a0] [zR a0] sh pp mm Q := s_go cX_starts_0 cX_starts_1 rfl rfl
theorem rX_starts_1 {a0 s0 : Nat} (hk : zKd sh s0 = 11) : zS 121 1 [zR a0] [zR s0] sh pp mm Q ↔ zS 121 4 [zR a0] [zR (pp s0 5)] sh pp mm Q := s_go cX_starts_1 cX_starts_4 (if_pos hk) rfl
theorem rX_starts_4 {a0 s0 : Nat} : zS 121 4 [zR a0] [zR s0] sh pp mm Q ↔ zS 121 5 [zR a0] [zR a0, zR s0] sh pp mm Q := s_go cX_starts_4 cX_starts_5 rfl rfl
theorem rX_starts_5 {a0 s0 s1 : Nat} (hk : zKd sh s0 = 11) : zS 121 5 [zR a0] [zR s0, zR s1] sh pp mm Q ↔ zS 121 8 [zR a0] [zR (pp s0 0), zR s1] sh pp mm Q := s_go cX_starts_5 cX_starts_8 (if_pos hk) rfl
theorem rX_starts_8 {a0 s0 s1 : Nat} (hk : zKd sh s1 = 6) : zS 121 8 [zR a0] [zR s0, zR s1] sh pp mm Q ↔ zS 55 0 [zR s1, zR s0, zU] [] sh pp mm (fun v sh pp mm => zS 121 11 [zR a0] (zPush v []) sh pp mm Q) := s_call cX_starts_8 cX_starts_11 ((if_pos hk).trans rfl) rfl
theorem rX_starts_11 {a0 : Nat} : zS 121 11 [zR a0] [] sh pp mm Q ↔ zS 121 12 [zU] [zR a0] sh pp mm Q := s_go cX_starts_11 cX_starts_12 rfl rfl
theorem rX_starts_12 {s0 : Nat} {u0 : zV} (hk : zKd sh s0 = 11) : zS 121 12 [u0] [zR s0] sh pp mm Q ↔ zS 121 15 [zU] [zR (pp s0 5)] sh pp mm Q := s_go cX_starts_12 cX_starts_15 (if_pos hk) rfl
theorem rX_starts_15 {s0 : Nat} {u0 : zV} (hk : zKd sh s0 = 6) : zS 121 15 [u0] [zR s0] sh pp mm Q ↔ zS 62 0 [zR s0, zU, zU] [] sh pp mm (fun v sh pp mm => zS 121 18 [zU] (zPush v []) sh pp mm Q) := s_call cX_starts_15 cX_starts_18 ((if_pos hk).trans rfl) rfl
theorem rX_starts_18 {s0 : Int} {u0 : zV} : zS 121 18 [u0] [zI s0] sh pp mm Q ↔ Q (zI s0) sh pp mm := s_ret cX_starts_18 rfl
theorem cAX_bends : ∀ q ∈ zT122, zCode 122 q.1 = some q.2 := zAll (mid := 122) rfl (by decide +kernel)
theorem cAX_bends_0 : ∀ q ∈ zT122_0, zCode 122 q.1 = some q.2 := fun q h => cAX_bends q (List.mem_append_left _ h)
theorem cAX_bends_1 : ∀ q ∈ zT122_1, zCode 122 q.1 = some q.2 := fun q h => cAX_bends q (List.mem_append_right _ h)
theorem cX_bends_0 : zCode 122 0 = some (.aload_n 0, 1, 0, 0, 0, 0, 1) := cAX_bends_0 _ (List.mem_of_getElem? (i := 0) rfl)
theorem cX_bends_1 : zCode 122 1 = some (.getfield 39, 4, 11, 5, 2, 511, 1) := cAX_bends_0 _ (List.mem_of_getElem? (i := 1) rfl)
theorem cX_bends_4 : zCode 122 4 = some (.aload_n 0, 5, 0, 0, 0, 0, 1) := cAX_bends_0 _ (List.mem_of_getElem? (i := 2) rfl)
theorem cX_bends_5 : zCode 122 5 = some (.getfield 10, 8, 11, 0, 2, 506, 1) := cAX_bends_0 _ (List.mem_of_getElem? (i := 3) rfl)
theorem cX_bends_8 : zCode 122 8 = some (.invokevirtual 182, 11, 55, 1, 3, 6, 1) := cAX_bends_0 _ (List.mem_of_getElem? (i := 4) rfl)
theorem cX_bends_11 : zCode 122 11 = some (.aload_n 0, 12, 0, 0, 0, 0, 1) := cAX_bends_0 _ (List.mem_of_getElem? (i := 5) rfl)
theorem cX_bends_12 : zCode 122 12 = some (.getfield 39, 15, 11, 5, 2, 511, 1) := cAX_bends_0 _ (List.mem_of_getElem? (i := 6) rfl)
theorem cX_bends_15 : zCode 122 15 = some (.invokevirtual 193, 18, 61, 0, 1, 6, 1) := cAX_bends_0 _ (List.mem_of_getElem? (i := 7) rfl)
theorem cX_bends_18 : zCode 122 18 = some (.ifCond .ne 11, 21, 29, 0, 0, 0, 1) := cAX_bends_0 _ (List.mem_of_getElem? (i := 8) rfl)
theorem cX_bends_21 : zCode 122 21 = some (.aload_n 0, 22, 0, 0, 0, 0, 1) := cAX_bends_0 _ (List.mem_of_getElem? (i := 9) rfl)
theorem cX_bends_22 : zCode 122 22 = some (.iconst 1, 23, 0, 0, 0, 0, 0) := cAX_bends_0 _ (List.mem_of_getElem? (i := 10) rfl)
theorem cX_bends_23 : zCode 122 23 = some (.bipush (-3), 25, 0, 0, 0, 0, 0) := cAX_bends_0 _ (List.mem_of_getElem? (i := 11) rfl)
theorem cX_bends_25 : zCode 122 25 = some (.invokevirtual 72, 28, 138, 2, 3, 11, 0) := cAX_bends_0 _ (List.mem_of_getElem? (i := 12) rfl)
theorem cX_bends_28 : zCode 122 28 = some (.ireturn, 29, 0, 0, 0, 0, 0) := cAX_bends_0 _ (List.mem_of_getElem? (i := 13) rfl)
theorem cX_bends_29 : zCode 122 29 = some (.aload_n 0, 30, 0, 0, 0, 0, 1) := cAX_bends_0 _ (List.mem_of_getElem? (i := 14) rfl)
theorem cX_bends_30 : zCode 122 30 = some (.getfield 39, 33, 11, 5, 2, 511, 0) := cAX_bends_0 _ (List.mem_of_getElem? (i := 15) rfl)
theorem cX_bends_33 : zCode 122 33 = some (.invokevirtual 202, 36, 68, 0, 4, 6, 0) := cAX_bends_1 _ (List.mem_of_getElem? (i := 0) rfl)
theorem cX_bends_36 : zCode 122 36 = some (.ireturn, 37, 0, 0, 0, 0, 0) := cAX_bends_1 _ (List.mem_of_getElem? (i := 1) rfl)
theorem rX_bends_0 {a0 : Nat} : zS 122 0 [zR a0] [] sh pp mm Q ↔ zS 122 1 [zR a0] [zR a0] sh pp mm Q := s_go cX_bends_0 cX_bends_1 rfl rfl
theorem rX_bends_1 {a0 s0 : Nat} (hk : zKd sh s0 = 11) : zS 122 1 [zR a0] [zR s0] sh pp mm Q ↔ zS 122 4 [zR a0] [zR (pp s0 5)] sh pp mm Q := s_go cX_bends_1 cX_bends_4 (if_pos hk) rfl
theorem rX_bends_4 {a0 s0 : Nat} : zS 122 4 [zR a0] [zR s0] sh pp mm Q ↔ zS 122 5 [zR a0] [zR a0, zR s0] sh pp mm Q := s_go cX_bends_4 cX_bends_5 rfl rfl
theorem rX_bends_5 {a0 s0 s1 : Nat} (hk : zKd sh s0 = 11) : zS 122 5 [zR a0] [zR s0, zR s1] sh pp mm Q ↔ zS 122 8 [zR a0] [zR (pp s0 0), zR s1] sh pp mm Q := s_go cX_bends_5 cX_bends_8 (if_pos hk) rfl
theorem rX_bends_8 {a0 s0 s1 : Nat} (hk : zKd sh s1 = 6) : zS 122 8 [zR a0] [zR s0, zR s1] sh pp mm Q ↔ zS 55 0 [zR s1, zR s0, zU] [] sh pp mm (fun v sh pp mm => zS 122 11 [zR a0] (zPush v []) sh pp mm Q) := s_call cX_bends_8 cX_bends_11 ((if_pos hk).trans rfl) rfl
theorem rX_bends_11 {a0 : Nat} : zS 122 11 [zR a0] [] sh pp mm Q ↔ zS 122 12 [zR a0] [zR a0] sh pp mm Q := s_go cX_bends_11 cX_bends_12 rfl rfl
theorem rX_bends_12 {a0 s0 : Nat} (hk : zKd sh s0 = 11) : zS 122 12 [zR a0] [zR s0] sh pp mm Q ↔ zS 122 15 [zR a0] [zR (pp s0 5)] sh pp mm Q := s_go cX_bends_12 cX_bends_15 (if_pos hk) rfl
theorem rX_bends_15 {a0 s0 : Nat} (hk : zKd sh s0 = 6) : zS 122 15 [zR a0] [zR s0] sh pp mm Q ↔ zS 61 0 [zR s0] [] sh pp mm (fun v sh pp mm => zS 122 18 [zR a0] (zPush v []) sh pp mm Q) := s_call cX_bends_15 cX_bends_18 ((if_pos hk).trans rfl) rfl
theorem rX_bends_18 {a0 : Nat} {s0 : Int} : zS 122 18 [zR a0] [zI s0] sh pp mm Q ↔ (s0 = 0 → zS 122 21 [zR a0] [] sh pp mm Q) ∧ (¬ s0 = 0 → zS 122 29 [zR a0] [] sh pp mm Q) := s_ifn cX_bends_18 cX_bends_21 cX_bends_29 rfl rfl rfl
theorem rX_bends_21 {a0 : Nat} : zS 122 21 [zR a0] [] sh pp mm Q ↔ zS 122 22 [zU] [zR a0] sh pp mm Q := s_go cX_bends_21 cX_bends_22 rfl rfl
theorem rX_bends_22 {s0 : Nat} {u0 : zV} : zS 122 22 [u0] [zR s0] sh pp mm Q ↔ zS 122 23 [zU] [zI 1, zR s0] sh pp mm Q := s_go cX_bends_22 cX_bends_23 rfl rfl
theorem rX_bends_23 {s1 : Nat} {s0 : Int} {u0 : zV} : zS 122 23 [u0] [zI s0, zR s1] sh pp mm Q ↔ zS 122 25 [zU] [zI (-3), zI s0, zR s1] sh pp mm Q := s_go cX_bends_23 cX_bends_25 rfl rfl
theorem rX_bends_25 {s2 : Nat} {s0 s1 : Int} {u0 : zV} (hk : zKd sh s2 = 11) : zS 122 25 [u0] [zI s0, zI s1, zR s2] sh pp mm Q ↔ zS 138 0 [zR s2, zI s1, zI s0] [] sh pp mm (fun v sh pp mm => zS 122 28 [zU] (zPush v []) sh pp mm Q) := s_call cX_bends_25 cX_bends_28 ((if_pos hk).trans rfl) rfl
theorem rX_bends_28 {s0 : Int} {u0 : zV} : zS 122 28 [u0] [zI s0] sh pp mm Q ↔ Q (zI s0) sh pp mm := s_ret cX_bends_28 rfl
theorem rX_bends_29 {a0 : Nat} : zS 122 29 [zR a0] [] sh pp mm Q ↔ zS 122 30 [zU] [zR a0] sh pp mm Q := s_go cX_bends_29 cX_bends_30 rfl rfl
theorem rX_bends_30 {s0 : Nat} {u0 : zV} (hk : zKd sh s0 = 11) : zS 122 30 [u0] [zR s0] sh pp mm Q ↔ zS 122 33 [zU] [zR (pp s0 5)] sh pp mm Q := s_go cX_bends_30 cX_bends_33 (if_pos hk) rfl
theorem rX_bends_33 {s0 : Nat} {u0 : zV} (hk : zKd sh s0 = 6) : zS 122 33 [u0] [zR s0] sh pp mm Q ↔ zS 68 0 [zR s0, zU, zU, zU] [] sh pp mm (fun v sh pp mm => zS 122 36 [zU] (zPush v []) sh pp mm Q) := s_call cX_bends_33 cX_bends_36 ((if_pos hk).trans rfl) rfl
theorem rX_bends_36 {s0 : Int} {u0 : zV} : zS 122 36 [u0] [zI s0] sh pp mm Q ↔ Q (zI s0) sh pp mm := s_ret cX_bends_36 rfl
theorem cAX_again : ∀ q ∈ zT123, zCode 123 q.1 = some q.2 := zAll (mid := 123) rfl (by decide +kernel)
theorem cAX_again_0 : ∀ q ∈ zT123_0, zCode 123 q.1 = some q.2 := fun q h => cAX_again q (List.mem_append_left _ h)
theorem cAX_again_1 : ∀ q ∈ zT123_1, zCode 123 q.1 = some q.2 := fun q h => cAX_again q (List.mem_append_right _ h)
theorem cX_again_0 : zCode 123 0 = some (.aload_n 0, 1, 0, 0, 0, 0, 1) := cAX_again_0 _ (List.mem_of_getElem? (i := 0) rfl)
theorem cX_again_1 : zCode 123 1 = some (.getfield 39, 4, 11, 5, 2, 511, 1) := cAX_again_0 _ (List.mem_of_getElem? (i := 1) rfl)
theorem cX_again_4 : zCode 123 4 = some (.aload_n 0, 5, 0, 0, 0, 0, 1) := cAX_again_0 _ (List.mem_of_getElem? (i := 2) rfl)
theorem cX_again_5 : zCode 123 5 = some (.getfield 10, 8, 11, 0, 2, 506, 1) := cAX_again_0 _ (List.mem_of_getElem? (i := 3) rfl)
theorem cX_again_8 : zCode 123 8 = some (.invokevirtual 182, 11, 55, 1, 3, 6, 1) := cAX_again_0 _ (List.mem_of_getElem? (i := 4) rfl)
theorem cX_again_11 : zCode 123 11 = some (.aload_n 0, 12, 0, 0, 0, 0, 1) := cAX_again_0 _ (List.mem_of_getElem? (i := 5) rfl)
theorem cX_again_12 : zCode 123 12 = some (.getfield 39, 15, 11, 5, 2, 511, 1) := cAX_again_0 _ (List.mem_of_getElem? (i := 6) rfl)
theorem cX_again_15 : zCode 123 15 = some (.getfield 205, 18, 6, 1, 3, 214, 1) := cAX_again_0 _ (List.mem_of_getElem? (i := 7) rfl)
theorem cX_again_18 : zCode 123 18 = some (.ifCond .ne 11, 21, 29, 0, 0, 0, 1) := cAX_again_0 _ (List.mem_of_getElem? (i := 8) rfl)
theorem cX_again_21 : zCode 123 21 = some (.aload_n 0, 22, 0, 0, 0, 0, 1) := cAX_again_0 _ (List.mem_of_getElem? (i := 9) rfl)
theorem cX_again_22 : zCode 123 22 = some (.iconst 1, 23, 0, 0, 0, 0, 0) := cAX_again_0 _ (List.mem_of_getElem? (i := 10) rfl)
theorem cX_again_23 : zCode 123 23 = some (.bipush (-3), 25, 0, 0, 0, 0, 0) := cAX_again_0 _ (List.mem_of_getElem? (i := 11) rfl)
theorem cX_again_25 : zCode 123 25 = some (.invokevirtual 72, 28, 138, 2, 3, 11, 0) := cAX_again_0 _ (List.mem_of_getElem? (i := 12) rfl)
theorem cX_again_28 : zCode 123 28 = some (.ireturn, 29, 0, 0, 0, 0, 0) := cAX_again_0 _ (List.mem_of_getElem? (i := 13) rfl)
theorem cX_again_29 : zCode 123 29 = some (.aload_n 0, 30, 0, 0, 0, 0, 1) := cAX_again_0 _ (List.mem_of_getElem? (i := 14) rfl)
theorem cX_again_30 : zCode 123 30 = some (.getfield 39, 33, 11, 5, 2, 511, 0) := cAX_again_0 _ (List.mem_of_getElem? (i := 15) rfl)
theorem cX_again_33 : zCode 123 33 = some (.invokevirtual 208, 36, 69, 0, 7, 6, 0) := cAX_again_1 _ (List.mem_of_getElem? (i := 0) rfl)
theorem cX_again_36 : zCode 123 36 = some (.ireturn, 37, 0, 0, 0, 0, 0) := cAX_again_1 _ (List.mem_of_getElem? (i := 1) rfl)
theorem rX_again_0 {a0 : Nat} : zS 123 0 [zR a0] [] sh pp mm Q ↔ zS 123 1 [zR a0] [zR a0] sh pp mm Q := s_go cX_again_0 cX_again_1 rfl rfl
theorem rX_again_1 {a0 s0 : Nat} (hk : zKd sh s0 = 11) : zS 123 1 [zR a0] [zR s0] sh pp mm Q ↔ zS 123 4 [zR a0] [zR (pp s0 5)] sh pp mm Q := s_go cX_again_1 cX_again_4 (if_pos hk) rfl
theorem rX_again_4 {a0 s0 : Nat} : zS 123 4 [zR a0] [zR s0] sh pp mm Q ↔ zS 123 5 [zR a0] [zR a0, zR s0] sh pp mm Q := s_go cX_again_4 cX_again_5 rfl rfl
theorem rX_again_5 {a0 s0 s1 : Nat} (hk : zKd sh s0 = 11) : zS 123 5 [zR a0] [zR s0, zR s1] sh pp mm Q ↔ zS 123 8 [zR a0] [zR (pp s0 0), zR s1] sh pp mm Q := s_go cX_again_5 cX_again_8 (if_pos hk) rfl
theorem rX_again_8 {a0 s0 s1 : Nat} (hk : zKd sh s1 = 6) : zS 123 8 [zR a0] [zR s0, zR s1] sh pp mm Q ↔ zS 55 0 [zR s1, zR s0, zU] [] sh pp mm (fun v sh pp mm => zS 123 11 [zR a0] (zPush v []) sh pp mm Q) := s_call cX_again_8 cX_again_11 ((if_pos hk).trans rfl) rfl
theorem rX_again_11 {a0 : Nat} : zS 123 11 [zR a0] [] sh pp mm Q ↔ zS 123 12 [zR a0] [zR a0] sh pp mm Q := s_go cX_again_11 cX_again_12 rfl rfl
theorem rX_again_12 {a0 s0 : Nat} (hk : zKd sh s0 = 11) : zS 123 12 [zR a0] [zR s0] sh pp mm Q ↔ zS 123 15 [zR a0] [zR (pp s0 5)] sh pp mm Q := s_go cX_again_12 cX_again_15 (if_pos hk) rfl
theorem rX_again_15 {a0 s0 : Nat} (hk : zKd sh s0 = 6) : zS 123 15 [zR a0] [zR s0] sh pp mm Q ↔ zS 123 18 [zR a0] [zI (mm s0 1)] sh pp mm Q := s_go cX_again_15 cX_again_18 (if_pos hk) rfl
theorem rX_again_18 {a0 : Nat} {s0 : Int} : zS 123 18 [zR a0] [zI s0] sh pp mm Q ↔ (s0 = 0 → zS 123 21 [zR a0] [] sh pp mm Q) ∧ (¬ s0 = 0 → zS 123 29 [zR a0] [] sh pp mm Q) := s_ifn cX_again_18 cX_again_21 cX_again_29 rfl rfl rfl
theorem rX_again_21 {a0 : Nat} : zS 123 21 [zR a0] [] sh pp mm Q ↔ zS 123 22 [zU] [zR a0] sh pp mm Q := s_go cX_again_21 cX_again_22 rfl rfl
theorem rX_again_22 {s0 : Nat} {u0 : zV} : zS 123 22 [u0] [zR s0] sh pp mm Q ↔ zS 123 23 [zU] [zI 1, zR s0] sh pp mm Q := s_go cX_again_22 cX_again_23 rfl rfl
theorem rX_again_23 {s1 : Nat} {s0 : Int} {u0 : zV} : zS 123 23 [u0] [zI s0, zR s1] sh pp mm Q ↔ zS 123 25 [zU] [zI (-3), zI s0, zR s1] sh pp mm Q := s_go cX_again_23 cX_again_25 rfl rfl
theorem rX_again_25 {s2 : Nat} {s0 s1 : Int} {u0 : zV} (hk : zKd sh s2 = 11) : zS 123 25 [u0] [zI s0, zI s1, zR s2] sh pp mm Q ↔ zS 138 0 [zR s2, zI s1, zI s0] [] sh pp mm (fun v sh pp mm => zS 123 28 [zU] (zPush v []) sh pp mm Q) := s_call cX_again_25 cX_again_28 ((if_pos hk).trans rfl) rfl
theorem rX_again_28 {s0 : Int} {u0 : zV} : zS 123 28 [u0] [zI s0] sh pp mm Q ↔ Q (zI s0) sh pp mm := s_ret cX_again_28 rfl
theorem rX_again_29 {a0 : Nat} : zS 123 29 [zR a0] [] sh pp mm Q ↔ zS 123 30 [zU] [zR a0] sh pp mm Q := s_go cX_again_29 cX_again_30 rfl rfl
theorem rX_again_30 {s0 : Nat} {u0 : zV} (hk : zKd sh s0 = 11) : zS 123 30 [u0] [zR s0] sh pp mm Q ↔ zS 123 33 [zU] [zR (pp s0 5)] sh pp mm Q := s_go cX_again_30 cX_again_33 (if_pos hk) rfl
theorem rX_again_33 {s0 : Nat} {u0 : zV} (hk : zKd sh s0 = 6) : zS 123 33 [u0] [zR s0] sh pp mm Q ↔ zS 69 0 [zR s0, zU, zU, zU, zU, zU, zU] [] sh pp mm (fun v sh pp mm => zS 123 36 [zU] (zPush v []) sh pp mm Q) := s_call cX_again_33 cX_again_36 ((if_pos hk).trans rfl) rfl
theorem rX_again_36 {s0 : Int} {u0 : zV} : zS 123 36 [u0] [zI s0] sh pp mm Q ↔ Q (zI s0) sh pp mm := s_ret cX_again_36 rfl
theorem cAX_round : ∀ q ∈ zT124, zCode 124 q.1 = some q.2 := zAll (mid := 124) rfl (by decide +kernel)
theorem cAX_round_0 : ∀ q ∈ zT124_0, zCode 124 q.1 = some q.2 := fun q h => cAX_round q (List.mem_append_left _ h)
theorem cAX_round_1 : ∀ q ∈ zT124_1, zCode 124 q.1 = some q.2 := fun q h => cAX_round q (List.mem_append_right _ h)
theorem cX_round_0 : zCode 124 0 = some (.iload_n 1, 1, 0, 0, 0, 0, 7) := cAX_round_0 _ (List.mem_of_getElem? (i := 0) rfl)
theorem cX_round_1 : zCode 124 1 = some (.iconst 1, 2, 0, 0, 0, 0, 7) := cAX_round_0 _ (List.mem_of_getElem? (i := 1) rfl)
theorem cX_round_2 : zCode 124 2 = some (.bipush 7, 4, 0, 0, 0, 0, 7) := cAX_round_0 _ (List.mem_of_getElem? (i := 2) rfl)
theorem cX_round_4 : zCode 124 4 = some (.invokestatic 150, 7, 139, 3, 3, 11, 7) := cAX_round_0 _ (List.mem_of_getElem? (i := 3) rfl)
theorem cX_round_7 : zCode 124 7 = some (.ifCond .eq 13, 10, 20, 0, 0, 0, 7) := cAX_round_0 _ (List.mem_of_getElem? (i := 4) rfl)
theorem cX_round_10 : zCode 124 10 = some (.iload_n 2, 11, 0, 0, 0, 0, 7) := cAX_round_0 _ (List.mem_of_getElem? (i := 5) rfl)
theorem cX_round_11 : zCode 124 11 = some (.iconst 1, 12, 0, 0, 0, 0, 7) := cAX_round_0 _ (List.mem_of_getElem? (i := 6) rfl)
theorem cX_round_12 : zCode 124 12 = some (.bipush 6, 14, 0, 0, 0, 0, 7) := cAX_round_0 _ (List.mem_of_getElem? (i := 7) rfl)
theorem cX_round_14 : zCode 124 14 = some (.invokestatic 150, 17, 139, 3, 3, 11, 7) := cAX_round_0 _ (List.mem_of_getElem? (i := 8) rfl)
theorem cX_round_17 : zCode 124 17 = some (.ifCond .ne 11, 20, 28, 0, 0, 0, 7) := cAX_round_0 _ (List.mem_of_getElem? (i := 9) rfl)
theorem cX_round_20 : zCode 124 20 = some (.aload_n 0, 21, 0, 0, 0, 0, 1) := cAX_round_0 _ (List.mem_of_getElem? (i := 10) rfl)
theorem cX_round_21 : zCode 124 21 = some (.iconst 0, 22, 0, 0, 0, 0, 0) := cAX_round_0 _ (List.mem_of_getElem? (i := 11) rfl)
theorem cX_round_22 : zCode 124 22 = some (.bipush (-2), 24, 0, 0, 0, 0, 0) := cAX_round_0 _ (List.mem_of_getElem? (i := 12) rfl)
theorem cX_round_24 : zCode 124 24 = some (.invokevirtual 72, 27, 138, 2, 3, 11, 0) := cAX_round_0 _ (List.mem_of_getElem? (i := 13) rfl)
theorem cX_round_27 : zCode 124 27 = some (.ireturn, 28, 0, 0, 0, 0, 0) := cAX_round_0 _ (List.mem_of_getElem? (i := 14) rfl)
theorem cX_round_28 : zCode 124 28 = some (.iload_n 2, 29, 0, 0, 0, 0, 7) := cAX_round_0 _ (List.mem_of_getElem? (i := 15) rfl)
theorem cX_round_29 : zCode 124 29 = some (.iconst 2, 30, 0, 0, 0, 0, 7) := cAX_round_1 _ (List.mem_of_getElem? (i := 0) rfl)
theorem cX_round_30 : zCode 124 30 = some (.iload_n 1, 31, 0, 0, 0, 0, 7) := cAX_round_1 _ (List.mem_of_getElem? (i := 1) rfl)
theorem cX_round_31 : zCode 124 31 = some (.imul, 32, 0, 0, 0, 0, 7) := cAX_round_1 _ (List.mem_of_getElem? (i := 2) rfl)
theorem cX_round_32 : zCode 124 32 = some (.if_icmp .le 11, 35, 43, 0, 0, 0, 7) := cAX_round_1 _ (List.mem_of_getElem? (i := 3) rfl)
theorem cX_round_35 : zCode 124 35 = some (.aload_n 0, 36, 0, 0, 0, 0, 1) := cAX_round_1 _ (List.mem_of_getElem? (i := 4) rfl)
theorem cX_round_36 : zCode 124 36 = some (.iconst 1, 37, 0, 0, 0, 0, 0) := cAX_round_1 _ (List.mem_of_getElem? (i := 5) rfl)
theorem cX_round_37 : zCode 124 37 = some (.bipush (-3), 39, 0, 0, 0, 0, 0) := cAX_round_1 _ (List.mem_of_getElem? (i := 6) rfl)
theorem cX_round_39 : zCode 124 39 = some (.invokevirtual 72, 42, 138, 2, 3, 11, 0) := cAX_round_1 _ (List.mem_of_getElem? (i := 7) rfl)
theorem cX_round_42 : zCode 124 42 = some (.ireturn, 43, 0, 0, 0, 0, 0) := cAX_round_1 _ (List.mem_of_getElem? (i := 8) rfl)
theorem cX_round_43 : zCode 124 43 = some (.aload_n 0, 44, 0, 0, 0, 0, 7) := cAX_round_1 _ (List.mem_of_getElem? (i := 9) rfl)
theorem cX_round_44 : zCode 124 44 = some (.getfield 46, 47, 11, 6, 2, 512, 6) := cAX_round_1 _ (List.mem_of_getElem? (i := 10) rfl)
theorem cX_round_47 : zCode 124 47 = some (.iload_n 1, 48, 0, 0, 0, 0, 6) := cAX_round_1 _ (List.mem_of_getElem? (i := 11) rfl)
theorem cX_round_48 : zCode 124 48 = some (.iload_n 2, 49, 0, 0, 0, 0, 4) := cAX_round_1 _ (List.mem_of_getElem? (i := 12) rfl)
theorem cX_round_49 : zCode 124 49 = some (.invokevirtual 211, 52, 72, 2, 5, 7, 0) := cAX_round_1 _ (List.mem_of_getElem? (i := 13) rfl)
theorem cX_round_52 : zCode 124 52 = some (.ireturn, 53, 0, 0, 0, 0, 0) := cAX_round_1 _ (List.mem_of_getElem? (i := 14) rfl)
theorem rX_round_0 {a0 : Nat} {a1 a2 : Int} : zS 124 0 [zR a0, zI a1, zI a2] [] sh pp mm Q ↔ zS 124 1 [zR a0, zI a1, zI a2] [zI a1] sh pp mm Q := s_go cX_round_0 cX_round_1 rfl rfl
theorem rX_round_1 {a0 : Nat} {a1 a2 s0 : Int} : zS 124 1 [zR a0, zI a1, zI a2] [zI s0] sh pp mm Q ↔ zS 124 2 [zR a0, zI a1, zI a2] [zI 1, zI s0] sh pp mm Q := s_go cX_round_1 cX_round_2 rfl rfl
theorem rX_round_2 {a0 : Nat} {a1 a2 s0 s1 : Int} : zS 124 2 [zR a0, zI a1, zI a2] [zI s0, zI s1] sh pp mm Q ↔ zS 124 4 [zR a0, zI a1, zI a2] [zI 7, zI s0, zI s1] sh pp mm Q := s_go cX_round_2 cX_round_4 rfl rfl
theorem rX_round_4 {a0 : Nat} {a1 a2 s0 s1 s2 : Int} : zS 124 4 [zR a0, zI a1, zI a2] [zI s0, zI s1, zI s2] sh pp mm Q ↔ zS 139 0 [zI s2, zI s1, zI s0] [] sh pp mm (fun v sh pp mm => zS 124 7 [zR a0, zI a1, zI a2] (zPush v []) sh pp mm Q) := s_call cX_round_4 cX_round_7 rfl rfl
theorem rX_round_7 {a0 : Nat} {a1 a2 s0 : Int} : zS 124 7 [zR a0, zI a1, zI a2] [zI s0] sh pp mm Q ↔ (s0 = 0 → zS 124 20 [zR a0, zU, zU] [] sh pp mm Q) ∧ (¬ s0 = 0 → zS 124 10 [zR a0, zI a1, zI a2] [] sh pp mm Q) := s_if cX_round_7 cX_round_20 cX_round_10 rfl rfl rfl
theorem rX_round_10 {a0 : Nat} {a1 a2 : Int} : zS 124 10 [zR a0, zI a1, zI a2] [] sh pp mm Q ↔ zS 124 11 [zR a0, zI a1, zI a2] [zI a2] sh pp mm Q := s_go cX_round_10 cX_round_11 rfl rfl
theorem rX_round_11 {a0 : Nat} {a1 a2 s0 : Int} : zS 124 11 [zR a0, zI a1, zI a2] [zI s0] sh pp mm Q ↔ zS 124 12 [zR a0, zI a1, zI a2] [zI 1, zI s0] sh pp mm Q := s_go cX_round_11 cX_round_12 rfl rfl
theorem rX_round_12 {a0 : Nat} {a1 a2 s0 s1 : Int} : zS 124 12 [zR a0, zI a1, zI a2] [zI s0, zI s1] sh pp mm Q ↔ zS 124 14 [zR a0, zI a1, zI a2] [zI 6, zI s0, zI s1] sh pp mm Q := s_go cX_round_12 cX_round_14 rfl rfl
theorem rX_round_14 {a0 : Nat} {a1 a2 s0 s1 s2 : Int} : zS 124 14 [zR a0, zI a1, zI a2] [zI s0, zI s1, zI s2] sh pp mm Q ↔ zS 139 0 [zI s2, zI s1, zI s0] [] sh pp mm (fun v sh pp mm => zS 124 17 [zR a0, zI a1, zI a2] (zPush v []) sh pp mm Q) := s_call cX_round_14 cX_round_17 rfl rfl
theorem rX_round_17 {a0 : Nat} {a1 a2 s0 : Int} : zS 124 17 [zR a0, zI a1, zI a2] [zI s0] sh pp mm Q ↔ (s0 = 0 → zS 124 20 [zR a0, zU, zU] [] sh pp mm Q) ∧ (¬ s0 = 0 → zS 124 28 [zR a0, zI a1, zI a2] [] sh pp mm Q) := s_ifn cX_round_17 cX_round_20 cX_round_28 rfl rfl rfl
theorem rX_round_20 {a0 : Nat} {u1 u2 : zV} : zS 124 20 [zR a0, u1, u2] [] sh pp mm Q ↔ zS 124 21 [zU, zU, zU] [zR a0] sh pp mm Q := s_go cX_round_20 cX_round_21 rfl rfl
theorem rX_round_21 {s0 : Nat} {u0 u1 u2 : zV} : zS 124 21 [u0, u1, u2] [zR s0] sh pp mm Q ↔ zS 124 22 [zU, zU, zU] [zI 0, zR s0] sh pp mm Q := s_go cX_round_21 cX_round_22 rfl rfl
theorem rX_round_22 {s1 : Nat} {s0 : Int} {u0 u1 u2 : zV} : zS 124 22 [u0, u1, u2] [zI s0, zR s1] sh pp mm Q ↔ zS 124 24 [zU, zU, zU] [zI (-2), zI s0, zR s1] sh pp mm Q := s_go cX_round_22 cX_round_24 rfl rfl
theorem rX_round_24 {s2 : Nat} {s0 s1 : Int} {u0 u1 u2 : zV} (hk : zKd sh s2 = 11) : zS 124 24 [u0, u1, u2] [zI s0, zI s1, zR s2] sh pp mm Q ↔ zS 138 0 [zR s2, zI s1, zI s0] [] sh pp mm (fun v sh pp mm => zS 124 27 [zU, zU, zU] (zPush v []) sh pp mm Q) := s_call cX_round_24 cX_round_27 ((if_pos hk).trans rfl) rfl
theorem rX_round_27 {s0 : Int} {u0 u1 u2 : zV} : zS 124 27 [u0, u1, u2] [zI s0] sh pp mm Q ↔ Q (zI s0) sh pp mm := s_ret cX_round_27 rfl
theorem rX_round_28 {a0 : Nat} {a1 a2 : Int} : zS 124 28 [zR a0, zI a1, zI a2] [] sh pp mm Q ↔ zS 124 29 [zR a0, zI a1, zI a2] [zI a2] sh pp mm Q := s_go cX_round_28 cX_round_29 rfl rfl
theorem rX_round_29 {a0 : Nat} {a1 a2 s0 : Int} : zS 124 29 [zR a0, zI a1, zI a2] [zI s0] sh pp mm Q ↔ zS 124 30 [zR a0, zI a1, zI a2] [zI 2, zI s0] sh pp mm Q := s_go cX_round_29 cX_round_30 rfl rfl
theorem rX_round_30 {a0 : Nat} {a1 a2 s0 s1 : Int} : zS 124 30 [zR a0, zI a1, zI a2] [zI s0, zI s1] sh pp mm Q ↔ zS 124 31 [zR a0, zI a1, zI a2] [zI a1, zI s0, zI s1] sh pp mm Q := s_go cX_round_30 cX_round_31 rfl rfl
theorem rX_round_31 {a0 : Nat} {a1 a2 s0 s1 s2 : Int} : zS 124 31 [zR a0, zI a1, zI a2] [zI s0, zI s1, zI s2] sh pp mm Q ↔ zS 124 32 [zR a0, zI a1, zI a2] [zI (zw32 (s1 * s0)), zI s2] sh pp mm Q := s_go cX_round_31 cX_round_32 rfl rfl
theorem rX_round_32 {a0 : Nat} {a1 a2 s0 s1 : Int} : zS 124 32 [zR a0, zI a1, zI a2] [zI s0, zI s1] sh pp mm Q ↔ (s0 < s1 → zS 124 35 [zR a0, zU, zU] [] sh pp mm Q) ∧ (¬ s0 < s1 → zS 124 43 [zR a0, zI a1, zI a2] [] sh pp mm Q) := s_ifn cX_round_32 cX_round_35 cX_round_43 rfl rfl rfl
theorem rX_round_35 {a0 : Nat} {u1 u2 : zV} : zS 124 35 [zR a0, u1, u2] [] sh pp mm Q ↔ zS 124 36 [zU, zU, zU] [zR a0] sh pp mm Q := s_go cX_round_35 cX_round_36 rfl rfl
theorem rX_round_36 {s0 : Nat} {u0 u1 u2 : zV} : zS 124 36 [u0, u1, u2] [zR s0] sh pp mm Q ↔ zS 124 37 [zU, zU, zU] [zI 1, zR s0] sh pp mm Q := s_go cX_round_36 cX_round_37 rfl rfl
theorem rX_round_37 {s1 : Nat} {s0 : Int} {u0 u1 u2 : zV} : zS 124 37 [u0, u1, u2] [zI s0, zR s1] sh pp mm Q ↔ zS 124 39 [zU, zU, zU] [zI (-3), zI s0, zR s1] sh pp mm Q := s_go cX_round_37 cX_round_39 rfl rfl
theorem rX_round_39 {s2 : Nat} {s0 s1 : Int} {u0 u1 u2 : zV} (hk : zKd sh s2 = 11) : zS 124 39 [u0, u1, u2] [zI s0, zI s1, zR s2] sh pp mm Q ↔ zS 138 0 [zR s2, zI s1, zI s0] [] sh pp mm (fun v sh pp mm => zS 124 42 [zU, zU, zU] (zPush v []) sh pp mm Q) := s_call cX_round_39 cX_round_42 ((if_pos hk).trans rfl) rfl
theorem rX_round_42 {s0 : Int} {u0 u1 u2 : zV} : zS 124 42 [u0, u1, u2] [zI s0] sh pp mm Q ↔ Q (zI s0) sh pp mm := s_ret cX_round_42 rfl
theorem rX_round_43 {a0 : Nat} {a1 a2 : Int} : zS 124 43 [zR a0, zI a1, zI a2] [] sh pp mm Q ↔ zS 124 44 [zU, zI a1, zI a2] [zR a0] sh pp mm Q := s_go cX_round_43 cX_round_44 rfl rfl
theorem rX_round_44 {s0 : Nat} {a1 a2 : Int} {u0 : zV} (hk : zKd sh s0 = 11) : zS 124 44 [u0, zI a1, zI a2] [zR s0] sh pp mm Q ↔ zS 124 47 [zU, zI a1, zI a2] [zR (pp s0 6)] sh pp mm Q := s_go cX_round_44 cX_round_47 (if_pos hk) rfl
theorem rX_round_47 {s0 : Nat} {a1 a2 : Int} {u0 : zV} : zS 124 47 [u0, zI a1, zI a2] [zR s0] sh pp mm Q ↔ zS 124 48 [zU, zU, zI a2] [zI a1, zR s0] sh pp mm Q := s_go cX_round_47 cX_round_48 rfl rfl
theorem rX_round_48 {s1 : Nat} {a2 s0 : Int} {u0 u1 : zV} : zS 124 48 [u0, u1, zI a2] [zI s0, zR s1] sh pp mm Q ↔ zS 124 49 [zU, zU, zU] [zI a2, zI s0, zR s1] sh pp mm Q := s_go cX_round_48 cX_round_49 rfl rfl
theorem rX_round_49 {s2 : Nat} {s0 s1 : Int} {u0 u1 u2 : zV} (hk : zKd sh s2 = 7) : zS 124 49 [u0, u1, u2] [zI s0, zI s1, zR s2] sh pp mm Q ↔ zS 72 0 [zR s2, zI s1, zI s0, zU, zU] [] sh pp mm (fun v sh pp mm => zS 124 52 [zU, zU, zU] (zPush v []) sh pp mm Q) := s_call cX_round_49 cX_round_52 ((if_pos hk).trans rfl) rfl
theorem rX_round_52 {s0 : Int} {u0 u1 u2 : zV} : zS 124 52 [u0, u1, u2] [zI s0] sh pp mm Q ↔ Q (zI s0) sh pp mm := s_ret cX_round_52 rfl
theorem cAX_see : ∀ q ∈ zT125, zCode 125 q.1 = some q.2 := zAll (mid := 125) rfl (by decide +kernel)
theorem cAX_see_0 : ∀ q ∈ zT125_0, zCode 125 q.1 = some q.2 := fun q h => cAX_see q (List.mem_append_left _ h)
theorem cAX_see_1 : ∀ q ∈ zT125_1, zCode 125 q.1 = some q.2 := fun q h => cAX_see q (List.mem_append_right _ (List.mem_append_left _ h))
theorem cAX_see_2 : ∀ q ∈ zT125_2, zCode 125 q.1 = some q.2 := fun q h => cAX_see q (List.mem_append_right _ (List.mem_append_right _ (List.mem_append_left _ h)))
theorem cAX_see_3 : ∀ q ∈ zT125_3, zCode 125 q.1 = some q.2 := fun q h => cAX_see q (List.mem_append_right _ (List.mem_append_right _ (List.mem_append_right _ (List.mem_append_left _ h))))
theorem cAX_see_4 : ∀ q ∈ zT125_4, zCode 125 q.1 = some q.2 := fun q h => cAX_see q (List.mem_append_right _ (List.mem_append_right _ (List.mem_append_right _ (List.mem_append_right _ h))))
theorem cX_see_0 : zCode 125 0 = some (.iload_n 1, 1, 0, 0, 0, 0, 15) := cAX_see_0 _ (List.mem_of_getElem? (i := 0) rfl)
theorem cX_see_1 : zCode 125 1 = some (.iload_n 2, 2, 0, 0, 0, 0, 15) := cAX_see_0 _ (List.mem_of_getElem? (i := 1) rfl)
theorem cX_see_2 : zCode 125 2 = some (.invokestatic 126, 5, 142, 2, 2, 11, 15) := cAX_see_0 _ (List.mem_of_getElem? (i := 2) rfl)
theorem cX_see_5 : zCode 125 5 = some (.ifCond .eq 12, 8, 17, 0, 0, 0, 15) := cAX_see_0 _ (List.mem_of_getElem? (i := 3) rfl)
theorem cX_see_8 : zCode 125 8 = some (.iload_n 3, 9, 0, 0, 0, 0, 15) := cAX_see_0 _ (List.mem_of_getElem? (i := 4) rfl)
theorem cX_see_9 : zCode 125 9 = some (.iconst (-1), 10, 0, 0, 0, 0, 15) := cAX_see_0 _ (List.mem_of_getElem? (i := 5) rfl)
theorem cX_see_10 : zCode 125 10 = some (.iconst 1, 11, 0, 0, 0, 0, 15) := cAX_see_0 _ (List.mem_of_getElem? (i := 6) rfl)
theorem cX_see_11 : zCode 125 11 = some (.invokestatic 150, 14, 139, 3, 3, 11, 15) := cAX_see_0 _ (List.mem_of_getElem? (i := 7) rfl)
theorem cX_see_14 : zCode 125 14 = some (.ifCond .ne 11, 17, 25, 0, 0, 0, 15) := cAX_see_0 _ (List.mem_of_getElem? (i := 8) rfl)
theorem cX_see_17 : zCode 125 17 = some (.aload_n 0, 18, 0, 0, 0, 0, 1) := cAX_see_0 _ (List.mem_of_getElem? (i := 9) rfl)
theorem cX_see_18 : zCode 125 18 = some (.iconst 0, 19, 0, 0, 0, 0, 0) := cAX_see_0 _ (List.mem_of_getElem? (i := 10) rfl)
theorem cX_see_19 : zCode 125 19 = some (.bipush (-10), 21, 0, 0, 0, 0, 0) := cAX_see_0 _ (List.mem_of_getElem? (i := 11) rfl)
theorem cX_see_21 : zCode 125 21 = some (.invokevirtual 72, 24, 138, 2, 3, 11, 0) := cAX_see_0 _ (List.mem_of_getElem? (i := 12) rfl)
theorem cX_see_24 : zCode 125 24 = some (.ireturn, 25, 0, 0, 0, 0, 0) := cAX_see_0 _ (List.mem_of_getElem? (i := 13) rfl)
theorem cX_see_25 : zCode 125 25 = some (.aload_n 0, 26, 0, 0, 0, 0, 15) := cAX_see_0 _ (List.mem_of_getElem? (i := 14) rfl)
theorem cX_see_26 : zCode 125 26 = some (.getfield 10, 29, 11, 0, 2, 506, 15) := cAX_see_0 _ (List.mem_of_getElem? (i := 15) rfl)
theorem cX_see_29 : zCode 125 29 = some (.getfield 214, 32, 9, 6, 2, 180, 15) := cAX_see_1 _ (List.mem_of_getElem? (i := 0) rfl)
theorem cX_see_32 : zCode 125 32 = some (.iload_n 1, 33, 0, 0, 0, 0, 15) := cAX_see_1 _ (List.mem_of_getElem? (i := 1) rfl)
theorem cX_see_33 : zCode 125 33 = some (.iload_n 2, 34, 0, 0, 0, 0, 15) := cAX_see_1 _ (List.mem_of_getElem? (i := 2) rfl)
theorem cX_see_34 : zCode 125 34 = some (.invokestatic 133, 37, 143, 2, 2, 11, 15) := cAX_see_1 _ (List.mem_of_getElem? (i := 3) rfl)
theorem cX_see_37 : zCode 125 37 = some (.iaload, 38, 0, 0, 0, 0, 15) := cAX_see_1 _ (List.mem_of_getElem? (i := 4) rfl)
theorem cX_see_38 : zCode 125 38 = some (.istore 4, 40, 0, 0, 0, 0, 15) := cAX_see_1 _ (List.mem_of_getElem? (i := 5) rfl)
theorem cX_see_40 : zCode 125 40 = some (.iload_n 3, 41, 0, 0, 0, 0, 31) := cAX_see_1 _ (List.mem_of_getElem? (i := 6) rfl)
theorem cX_see_41 : zCode 125 41 = some (.iconst (-1), 42, 0, 0, 0, 0, 31) := cAX_see_1 _ (List.mem_of_getElem? (i := 7) rfl)
theorem cX_see_42 : zCode 125 42 = some (.if_icmp .ne 7, 45, 49, 0, 0, 0, 31) := cAX_see_1 _ (List.mem_of_getElem? (i := 8) rfl)
theorem cX_see_45 : zCode 125 45 = some (.iconst 0, 46, 0, 0, 0, 0, 31) := cAX_see_1 _ (List.mem_of_getElem? (i := 9) rfl)
theorem cX_see_46 : zCode 125 46 = some (.goto 4, 49, 50, 0, 0, 0, 31) := cAX_see_1 _ (List.mem_of_getElem? (i := 10) rfl)
theorem cX_see_49 : zCode 125 49 = some (.iconst 1, 50, 0, 0, 0, 0, 31) := cAX_see_1 _ (List.mem_of_getElem? (i := 11) rfl)
theorem cX_see_50 : zCode 125 50 = some (.iload 4, 52, 0, 0, 0, 0, 31) := cAX_see_1 _ (List.mem_of_getElem? (i := 12) rfl)
theorem cX_see_52 : zCode 125 52 = some (.iconst (-1), 53, 0, 0, 0, 0, 31) := cAX_see_1 _ (List.mem_of_getElem? (i := 13) rfl)
theorem cX_see_53 : zCode 125 53 = some (.if_icmp .ne 7, 56, 60, 0, 0, 0, 31) := cAX_see_1 _ (List.mem_of_getElem? (i := 14) rfl)
theorem cX_see_56 : zCode 125 56 = some (.iconst 0, 57, 0, 0, 0, 0, 31) := cAX_see_1 _ (List.mem_of_getElem? (i := 15) rfl)
theorem cX_see_57 : zCode 125 57 = some (.goto 4, 60, 61, 0, 0, 0, 31) := cAX_see_2 _ (List.mem_of_getElem? (i := 0) rfl)
theorem cX_see_60 : zCode 125 60 = some (.iconst 1, 61, 0, 0, 0, 0, 31) := cAX_see_2 _ (List.mem_of_getElem? (i := 1) rfl)
theorem cX_see_61 : zCode 125 61 = some (.isub, 62, 0, 0, 0, 0, 31) := cAX_see_2 _ (List.mem_of_getElem? (i := 2) rfl)
theorem cX_see_62 : zCode 125 62 = some (.istore 5, 64, 0, 0, 0, 0, 31) := cAX_see_2 _ (List.mem_of_getElem? (i := 3) rfl)
theorem cX_see_64 : zCode 125 64 = some (.aload_n 0, 65, 0, 0, 0, 0, 63) := cAX_see_2 _ (List.mem_of_getElem? (i := 4) rfl)
theorem cX_see_65 : zCode 125 65 = some (.getfield 10, 68, 11, 0, 2, 506, 63) := cAX_see_2 _ (List.mem_of_getElem? (i := 5) rfl)
theorem cX_see_68 : zCode 125 68 = some (.getfield 217, 71, 9, 7, 0, 182, 63) := cAX_see_2 _ (List.mem_of_getElem? (i := 6) rfl)
theorem cX_see_71 : zCode 125 71 = some (.iload 5, 73, 0, 0, 0, 0, 63) := cAX_see_2 _ (List.mem_of_getElem? (i := 7) rfl)
theorem cX_see_73 : zCode 125 73 = some (.iadd, 74, 0, 0, 0, 0, 63) := cAX_see_2 _ (List.mem_of_getElem? (i := 8) rfl)
theorem cX_see_74 : zCode 125 74 = some (.bipush 60, 76, 0, 0, 0, 0, 63) := cAX_see_2 _ (List.mem_of_getElem? (i := 9) rfl)
theorem cX_see_76 : zCode 125 76 = some (.if_icmp .le 11, 79, 87, 0, 0, 0, 63) := cAX_see_2 _ (List.mem_of_getElem? (i := 10) rfl)
theorem cX_see_79 : zCode 125 79 = some (.aload_n 0, 80, 0, 0, 0, 0, 1) := cAX_see_2 _ (List.mem_of_getElem? (i := 11) rfl)
theorem cX_see_80 : zCode 125 80 = some (.iconst 2, 81, 0, 0, 0, 0, 0) := cAX_see_2 _ (List.mem_of_getElem? (i := 12) rfl)
theorem cX_see_81 : zCode 125 81 = some (.bipush (-4), 83, 0, 0, 0, 0, 0) := cAX_see_2 _ (List.mem_of_getElem? (i := 13) rfl)
theorem cX_see_83 : zCode 125 83 = some (.invokevirtual 72, 86, 138, 2, 3, 11, 0) := cAX_see_2 _ (List.mem_of_getElem? (i := 14) rfl)
theorem cX_see_86 : zCode 125 86 = some (.ireturn, 87, 0, 0, 0, 0, 0) := cAX_see_2 _ (List.mem_of_getElem? (i := 15) rfl)
theorem cX_see_87 : zCode 125 87 = some (.aload_n 0, 88, 0, 0, 0, 0, 63) := cAX_see_3 _ (List.mem_of_getElem? (i := 0) rfl)
theorem cX_see_88 : zCode 125 88 = some (.getfield 10, 91, 11, 0, 2, 506, 63) := cAX_see_3 _ (List.mem_of_getElem? (i := 1) rfl)
theorem cX_see_91 : zCode 125 91 = some (.getfield 214, 94, 9, 6, 2, 180, 63) := cAX_see_3 _ (List.mem_of_getElem? (i := 2) rfl)
theorem cX_see_94 : zCode 125 94 = some (.iload_n 1, 95, 0, 0, 0, 0, 63) := cAX_see_3 _ (List.mem_of_getElem? (i := 3) rfl)
theorem cX_see_95 : zCode 125 95 = some (.iload_n 2, 96, 0, 0, 0, 0, 61) := cAX_see_3 _ (List.mem_of_getElem? (i := 4) rfl)
theorem cX_see_96 : zCode 125 96 = some (.invokestatic 133, 99, 143, 2, 2, 11, 57) := cAX_see_3 _ (List.mem_of_getElem? (i := 5) rfl)
theorem cX_see_99 : zCode 125 99 = some (.iload_n 3, 100, 0, 0, 0, 0, 57) := cAX_see_3 _ (List.mem_of_getElem? (i := 6) rfl)
theorem cX_see_100 : zCode 125 100 = some (.iastore, 101, 0, 0, 0, 0, 49) := cAX_see_3 _ (List.mem_of_getElem? (i := 7) rfl)
theorem cX_see_101 : zCode 125 101 = some (.aload_n 0, 102, 0, 0, 0, 0, 49) := cAX_see_3 _ (List.mem_of_getElem? (i := 8) rfl)
theorem cX_see_102 : zCode 125 102 = some (.getfield 10, 105, 11, 0, 2, 506, 48) := cAX_see_3 _ (List.mem_of_getElem? (i := 9) rfl)
theorem cX_see_105 : zCode 125 105 = some (.dup, 106, 0, 0, 0, 0, 48) := cAX_see_3 _ (List.mem_of_getElem? (i := 10) rfl)
theorem cX_see_106 : zCode 125 106 = some (.getfield 217, 109, 9, 7, 0, 182, 48) := cAX_see_3 _ (List.mem_of_getElem? (i := 11) rfl)
theorem cX_see_109 : zCode 125 109 = some (.iload 5, 111, 0, 0, 0, 0, 48) := cAX_see_3 _ (List.mem_of_getElem? (i := 12) rfl)
theorem cX_see_111 : zCode 125 111 = some (.iadd, 112, 0, 0, 0, 0, 16) := cAX_see_3 _ (List.mem_of_getElem? (i := 13) rfl)
theorem cX_see_112 : zCode 125 112 = some (.putfield 217, 115, 9, 7, 0, 182, 16) := cAX_see_3 _ (List.mem_of_getElem? (i := 14) rfl)
theorem cX_see_115 : zCode 125 115 = some (.iload 4, 117, 0, 0, 0, 0, 16) := cAX_see_3 _ (List.mem_of_getElem? (i := 15) rfl)
theorem cX_see_117 : zCode 125 117 = some (.ireturn, 118, 0, 0, 0, 0, 0) := cAX_see_4 _ (List.mem_of_getElem? (i := 0) rfl)
theorem rX_see_0 {a0 : Nat} {a1 a2 a3 : Int} {u4 u5 : zV} : zS 125 0 [zR a0, zI a1, zI a2, zI a3, u4, u5] [] sh pp mm Q ↔ zS 125 1 [zR a0, zI a1, zI a2, zI a3, zU, zU] [zI a1] sh pp mm Q := s_go cX_see_0 cX_see_1 rfl rfl
theorem rX_see_1 {a0 : Nat} {a1 a2 a3 s0 : Int} {u4 u5 : zV} : zS 125 1 [zR a0, zI a1, zI a2, zI a3, u4, u5] [zI s0] sh pp mm Q ↔ zS 125 2 [zR a0, zI a1, zI a2, zI a3, zU, zU] [zI a2, zI s0] sh pp mm Q := s_go cX_see_1 cX_see_2 rfl rfl
theorem rX_see_2 {a0 : Nat} {a1 a2 a3 s0 s1 : Int} {u4 u5 : zV} : zS 125 2 [zR a0, zI a1, zI a2, zI a3, u4, u5] [zI s0, zI s1] sh pp mm Q ↔ zS 142 0 [zI s1, zI s0] [] sh pp mm (fun v sh pp mm => zS 125 5 [zR a0, zI a1, zI a2, zI a3, zU, zU] (zPush v []) sh pp mm Q) := s_call cX_see_2 cX_see_5 rfl rfl
theorem rX_see_5 {a0 : Nat} {a1 a2 a3 s0 : Int} {u4 u5 : zV} : zS 125 5 [zR a0, zI a1, zI a2, zI a3, u4, u5] [zI s0] sh pp mm Q ↔ (s0 = 0 → zS 125 17 [zR a0, zU, zU, zU, zU, zU] [] sh pp mm Q) ∧ (¬ s0 = 0 → zS 125 8 [zR a0, zI a1, zI a2, zI a3, zU, zU] [] sh pp mm Q) := s_if cX_see_5 cX_see_17 cX_see_8 rfl rfl rfl
theorem rX_see_8 {a0 : Nat} {a1 a2 a3 : Int} {u4 u5 : zV} : zS 125 8 [zR a0, zI a1, zI a2, zI a3, u4, u5] [] sh pp mm Q ↔ zS 125 9 [zR a0, zI a1, zI a2, zI a3, zU, zU] [zI a3] sh pp mm Q := s_go cX_see_8 cX_see_9 rfl rfl
theorem rX_see_9 {a0 : Nat} {a1 a2 a3 s0 : Int} {u4 u5 : zV} : zS 125 9 [zR a0, zI a1, zI a2, zI a3, u4, u5] [zI s0] sh pp mm Q ↔ zS 125 10 [zR a0, zI a1, zI a2, zI a3, zU, zU] [zI (-1), zI s0] sh pp mm Q := s_go cX_see_9 cX_see_10 rfl rfl
theorem rX_see_10 {a0 : Nat} {a1 a2 a3 s0 s1 : Int} {u4 u5 : zV} : zS 125 10 [zR a0, zI a1, zI a2, zI a3, u4, u5] [zI s0, zI s1] sh pp mm Q ↔ zS 125 11 [zR a0, zI a1, zI a2, zI a3, zU, zU] [zI 1, zI s0, zI s1] sh pp mm Q := s_go cX_see_10 cX_see_11 rfl rfl
theorem rX_see_11 {a0 : Nat} {a1 a2 a3 s0 s1 s2 : Int} {u4 u5 : zV} : zS 125 11 [zR a0, zI a1, zI a2, zI a3, u4, u5] [zI s0, zI s1, zI s2] sh pp mm Q ↔ zS 139 0 [zI s2, zI s1, zI s0] [] sh pp mm (fun v sh pp mm => zS 125 14 [zR a0, zI a1, zI a2, zI a3, zU, zU] (zPush v []) sh pp mm Q) := s_call cX_see_11 cX_see_14 rfl rfl
theorem rX_see_14 {a0 : Nat} {a1 a2 a3 s0 : Int} {u4 u5 : zV} : zS 125 14 [zR a0, zI a1, zI a2, zI a3, u4, u5] [zI s0] sh pp mm Q ↔ (s0 = 0 → zS 125 17 [zR a0, zU, zU, zU, zU, zU] [] sh pp mm Q) ∧ (¬ s0 = 0 → zS 125 25 [zR a0, zI a1, zI a2, zI a3, zU, zU] [] sh pp mm Q) := s_ifn cX_see_14 cX_see_17 cX_see_25 rfl rfl rfl
theorem rX_see_17 {a0 : Nat} {u1 u2 u3 u4 u5 : zV} : zS 125 17 [zR a0, u1, u2, u3, u4, u5] [] sh pp mm Q ↔ zS 125 18 [zU, zU, zU, zU, zU, zU] [zR a0] sh pp mm Q := s_go cX_see_17 cX_see_18 rfl rfl
theorem rX_see_18 {s0 : Nat} {u0 u1 u2 u3 u4 u5 : zV} : zS 125 18 [u0, u1, u2, u3, u4, u5] [zR s0] sh pp mm Q ↔ zS 125 19 [zU, zU, zU, zU, zU, zU] [zI 0, zR s0] sh pp mm Q := s_go cX_see_18 cX_see_19 rfl rfl
theorem rX_see_19 {s1 : Nat} {s0 : Int} {u0 u1 u2 u3 u4 u5 : zV} : zS 125 19 [u0, u1, u2, u3, u4, u5] [zI s0, zR s1] sh pp mm Q ↔ zS 125 21 [zU, zU, zU, zU, zU, zU] [zI (-10), zI s0, zR s1] sh pp mm Q := s_go cX_see_19 cX_see_21 rfl rfl
theorem rX_see_21 {s2 : Nat} {s0 s1 : Int} {u0 u1 u2 u3 u4 u5 : zV} (hk : zKd sh s2 = 11) : zS 125 21 [u0, u1, u2, u3, u4, u5] [zI s0, zI s1, zR s2] sh pp mm Q ↔ zS 138 0 [zR s2, zI s1, zI s0] [] sh pp mm (fun v sh pp mm => zS 125 24 [zU, zU, zU, zU, zU, zU] (zPush v []) sh pp mm Q) := s_call cX_see_21 cX_see_24 ((if_pos hk).trans rfl) rfl
theorem rX_see_24 {s0 : Int} {u0 u1 u2 u3 u4 u5 : zV} : zS 125 24 [u0, u1, u2, u3, u4, u5] [zI s0] sh pp mm Q ↔ Q (zI s0) sh pp mm := s_ret cX_see_24 rfl
theorem rX_see_25 {a0 : Nat} {a1 a2 a3 : Int} {u4 u5 : zV} : zS 125 25 [zR a0, zI a1, zI a2, zI a3, u4, u5] [] sh pp mm Q ↔ zS 125 26 [zR a0, zI a1, zI a2, zI a3, zU, zU] [zR a0] sh pp mm Q := s_go cX_see_25 cX_see_26 rfl rfl
theorem rX_see_26 {a0 s0 : Nat} {a1 a2 a3 : Int} {u4 u5 : zV} (hk : zKd sh s0 = 11) : zS 125 26 [zR a0, zI a1, zI a2, zI a3, u4, u5] [zR s0] sh pp mm Q ↔ zS 125 29 [zR a0, zI a1, zI a2, zI a3, zU, zU] [zR (pp s0 0)] sh pp mm Q := s_go cX_see_26 cX_see_29 (if_pos hk) rfl
theorem rX_see_29 {a0 s0 : Nat} {a1 a2 a3 : Int} {u4 u5 : zV} (hk : zKd sh s0 = 9) : zS 125 29 [zR a0, zI a1, zI a2, zI a3, u4, u5] [zR s0] sh pp mm Q ↔ zS 125 32 [zR a0, zI a1, zI a2, zI a3, zU, zU] [zR (pp s0 6)] sh pp mm Q := s_go cX_see_29 cX_see_32 (if_pos hk) rfl
theorem rX_see_32 {a0 s0 : Nat} {a1 a2 a3 : Int} {u4 u5 : zV} : zS 125 32 [zR a0, zI a1, zI a2, zI a3, u4, u5] [zR s0] sh pp mm Q ↔ zS 125 33 [zR a0, zI a1, zI a2, zI a3, zU, zU] [zI a1, zR s0] sh pp mm Q := s_go cX_see_32 cX_see_33 rfl rfl
theorem rX_see_33 {a0 s1 : Nat} {a1 a2 a3 s0 : Int} {u4 u5 : zV} : zS 125 33 [zR a0, zI a1, zI a2, zI a3, u4, u5] [zI s0, zR s1] sh pp mm Q ↔ zS 125 34 [zR a0, zI a1, zI a2, zI a3, zU, zU] [zI a2, zI s0, zR s1] sh pp mm Q := s_go cX_see_33 cX_see_34 rfl rfl
theorem rX_see_34 {a0 s2 : Nat} {a1 a2 a3 s0 s1 : Int} {u4 u5 : zV} : zS 125 34 [zR a0, zI a1, zI a2, zI a3, u4, u5] [zI s0, zI s1, zR s2] sh pp mm Q ↔ zS 143 0 [zI s1, zI s0] [] sh pp mm (fun v sh pp mm => zS 125 37 [zR a0, zI a1, zI a2, zI a3, zU, zU] (zPush v [zR s2]) sh pp mm Q) := s_call cX_see_34 cX_see_37 rfl rfl
theorem rX_see_37 {a0 s1 : Nat} {a1 a2 a3 s0 : Int} {u4 u5 : zV} (hk : zKd sh s1 = 20 ∨ zKd sh s1 = 30) (h0 : 0 ≤ s0) (h1 : s0 < zLn sh s1) : zS 125 37 [zR a0, zI a1, zI a2, zI a3, u4, u5] [zI s0, zR s1] sh pp mm Q ↔ zS 125 38 [zR a0, zI a1, zI a2, zI a3, zU, zU] [zI (mm s1 s0)] sh pp mm Q := s_go cX_see_37 cX_see_38 (if_pos ⟨hk, h0, h1⟩) rfl
theorem rX_see_38 {a0 : Nat} {a1 a2 a3 s0 : Int} {u4 u5 : zV} : zS 125 38 [zR a0, zI a1, zI a2, zI a3, u4, u5] [zI s0] sh pp mm Q ↔ zS 125 40 [zR a0, zI a1, zI a2, zI a3, zI s0, zU] [] sh pp mm Q := s_go cX_see_38 cX_see_40 rfl rfl
theorem rX_see_40 {a0 : Nat} {a1 a2 a3 a4 : Int} {u5 : zV} : zS 125 40 [zR a0, zI a1, zI a2, zI a3, zI a4, u5] [] sh pp mm Q ↔ zS 125 41 [zR a0, zI a1, zI a2, zI a3, zI a4, zU] [zI a3] sh pp mm Q := s_go cX_see_40 cX_see_41 rfl rfl
theorem rX_see_41 {a0 : Nat} {a1 a2 a3 a4 s0 : Int} {u5 : zV} : zS 125 41 [zR a0, zI a1, zI a2, zI a3, zI a4, u5] [zI s0] sh pp mm Q ↔ zS 125 42 [zR a0, zI a1, zI a2, zI a3, zI a4, zU] [zI (-1), zI s0] sh pp mm Q := s_go cX_see_41 cX_see_42 rfl rfl
theorem rX_see_42 {a0 : Nat} {a1 a2 a3 a4 s0 s1 : Int} {u5 : zV} : zS 125 42 [zR a0, zI a1, zI a2, zI a3, zI a4, u5] [zI s0, zI s1] sh pp mm Q ↔ (s1 = s0 → zS 125 45 [zR a0, zI a1, zI a2, zI a3, zI a4, zU] [] sh pp mm Q) ∧ (¬ s1 = s0 → zS 125 49 [zR a0, zI a1, zI a2, zI a3, zI a4, zU] [] sh pp mm Q) := s_ifn cX_see_42 cX_see_45 cX_see_49 rfl rfl rfl
theorem rX_see_45 {a0 : Nat} {a1 a2 a3 a4 : Int} {u5 : zV} : zS 125 45 [zR a0, zI a1, zI a2, zI a3, zI a4, u5] [] sh pp mm Q ↔ zS 125 46 [zR a0, zI a1, zI a2, zI a3, zI a4, zU] [zI 0] sh pp mm Q := s_go cX_see_45 cX_see_46 rfl rfl
theorem rX_see_46 {a0 : Nat} {a1 a2 a3 a4 s0 : Int} {u5 : zV} : zS 125 46 [zR a0, zI a1, zI a2, zI a3, zI a4, u5] [zI s0] sh pp mm Q ↔ zS 125 50 [zR a0, zI a1, zI a2, zI a3, zI a4, zU] [zI s0] sh pp mm Q := s_go cX_see_46 cX_see_50 rfl rfl
theorem rX_see_49 {a0 : Nat} {a1 a2 a3 a4 : Int} {u5 : zV} : zS 125 49 [zR a0, zI a1, zI a2, zI a3, zI a4, u5] [] sh pp mm Q ↔ zS 125 50 [zR a0, zI a1, zI a2, zI a3, zI a4, zU] [zI 1] sh pp mm Q := s_go cX_see_49 cX_see_50 rfl rfl
theorem rX_see_50 {a0 : Nat} {a1 a2 a3 a4 s0 : Int} {u5 : zV} : zS 125 50 [zR a0, zI a1, zI a2, zI a3, zI a4, u5] [zI s0] sh pp mm Q ↔ zS 125 52 [zR a0, zI a1, zI a2, zI a3, zI a4, zU] [zI a4, zI s0] sh pp mm Q := s_go cX_see_50 cX_see_52 rfl rfl
theorem rX_see_52 {a0 : Nat} {a1 a2 a3 a4 s0 s1 : Int} {u5 : zV} : zS 125 52 [zR a0, zI a1, zI a2, zI a3, zI a4, u5] [zI s0, zI s1] sh pp mm Q ↔ zS 125 53 [zR a0, zI a1, zI a2, zI a3, zI a4, zU] [zI (-1), zI s0, zI s1] sh pp mm Q := s_go cX_see_52 cX_see_53 rfl rfl
theorem rX_see_53 {a0 : Nat} {a1 a2 a3 a4 s0 s1 s2 : Int} {u5 : zV} : zS 125 53 [zR a0, zI a1, zI a2, zI a3, zI a4, u5] [zI s0, zI s1, zI s2] sh pp mm Q ↔ (s1 = s0 → zS 125 56 [zR a0, zI a1, zI a2, zI a3, zI a4, zU] [zI s2] sh pp mm Q) ∧ (¬ s1 = s0 → zS 125 60 [zR a0, zI a1, zI a2, zI a3, zI a4, zU] [zI s2] sh pp mm Q) := s_ifn cX_see_53 cX_see_56 cX_see_60 rfl rfl rfl
theorem rX_see_56 {a0 : Nat} {a1 a2 a3 a4 s0 : Int} {u5 : zV} : zS 125 56 [zR a0, zI a1, zI a2, zI a3, zI a4, u5] [zI s0] sh pp mm Q ↔ zS 125 57 [zR a0, zI a1, zI a2, zI a3, zI a4, zU] [zI 0, zI s0] sh pp mm Q := s_go cX_see_56 cX_see_57 rfl rfl
theorem rX_see_57 {a0 : Nat} {a1 a2 a3 a4 s0 s1 : Int} {u5 : zV} : zS 125 57 [zR a0, zI a1, zI a2, zI a3, zI a4, u5] [zI s0, zI s1] sh pp mm Q ↔ zS 125 61 [zR a0, zI a1, zI a2, zI a3, zI a4, zU] [zI s0, zI s1] sh pp mm Q := s_go cX_see_57 cX_see_61 rfl rfl
theorem rX_see_60 {a0 : Nat} {a1 a2 a3 a4 s0 : Int} {u5 : zV} : zS 125 60 [zR a0, zI a1, zI a2, zI a3, zI a4, u5] [zI s0] sh pp mm Q ↔ zS 125 61 [zR a0, zI a1, zI a2, zI a3, zI a4, zU] [zI 1, zI s0] sh pp mm Q := s_go cX_see_60 cX_see_61 rfl rfl
theorem rX_see_61 {a0 : Nat} {a1 a2 a3 a4 s0 s1 : Int} {u5 : zV} : zS 125 61 [zR a0, zI a1, zI a2, zI a3, zI a4, u5] [zI s0, zI s1] sh pp mm Q ↔ zS 125 62 [zR a0, zI a1, zI a2, zI a3, zI a4, zU] [zI (zw32 (s1 - s0))] sh pp mm Q := s_go cX_see_61 cX_see_62 rfl rfl
theorem rX_see_62 {a0 : Nat} {a1 a2 a3 a4 s0 : Int} {u5 : zV} : zS 125 62 [zR a0, zI a1, zI a2, zI a3, zI a4, u5] [zI s0] sh pp mm Q ↔ zS 125 64 [zR a0, zI a1, zI a2, zI a3, zI a4, zI s0] [] sh pp mm Q := s_go cX_see_62 cX_see_64 rfl rfl
theorem rX_see_64 {a0 : Nat} {a1 a2 a3 a4 a5 : Int} : zS 125 64 [zR a0, zI a1, zI a2, zI a3, zI a4, zI a5] [] sh pp mm Q ↔ zS 125 65 [zR a0, zI a1, zI a2, zI a3, zI a4, zI a5] [zR a0] sh pp mm Q := s_go cX_see_64 cX_see_65 rfl rfl
theorem rX_see_65 {a0 s0 : Nat} {a1 a2 a3 a4 a5 : Int} (hk : zKd sh s0 = 11) : zS 125 65 [zR a0, zI a1, zI a2, zI a3, zI a4, zI a5] [zR s0] sh pp mm Q ↔ zS 125 68 [zR a0, zI a1, zI a2, zI a3, zI a4, zI a5] [zR (pp s0 0)] sh pp mm Q := s_go cX_see_65 cX_see_68 (if_pos hk) rfl
theorem rX_see_68 {a0 s0 : Nat} {a1 a2 a3 a4 a5 : Int} (hk : zKd sh s0 = 9) : zS 125 68 [zR a0, zI a1, zI a2, zI a3, zI a4, zI a5] [zR s0] sh pp mm Q ↔ zS 125 71 [zR a0, zI a1, zI a2, zI a3, zI a4, zI a5] [zI (mm s0 7)] sh pp mm Q := s_go cX_see_68 cX_see_71 (if_pos hk) rfl
theorem rX_see_71 {a0 : Nat} {a1 a2 a3 a4 a5 s0 : Int} : zS 125 71 [zR a0, zI a1, zI a2, zI a3, zI a4, zI a5] [zI s0] sh pp mm Q ↔ zS 125 73 [zR a0, zI a1, zI a2, zI a3, zI a4, zI a5] [zI a5, zI s0] sh pp mm Q := s_go cX_see_71 cX_see_73 rfl rfl
theorem rX_see_73 {a0 : Nat} {a1 a2 a3 a4 a5 s0 s1 : Int} : zS 125 73 [zR a0, zI a1, zI a2, zI a3, zI a4, zI a5] [zI s0, zI s1] sh pp mm Q ↔ zS 125 74 [zR a0, zI a1, zI a2, zI a3, zI a4, zI a5] [zI (zw32 (s1 + s0))] sh pp mm Q := s_go cX_see_73 cX_see_74 rfl rfl
theorem rX_see_74 {a0 : Nat} {a1 a2 a3 a4 a5 s0 : Int} : zS 125 74 [zR a0, zI a1, zI a2, zI a3, zI a4, zI a5] [zI s0] sh pp mm Q ↔ zS 125 76 [zR a0, zI a1, zI a2, zI a3, zI a4, zI a5] [zI 60, zI s0] sh pp mm Q := s_go cX_see_74 cX_see_76 rfl rfl
theorem rX_see_76 {a0 : Nat} {a1 a2 a3 a4 a5 s0 s1 : Int} : zS 125 76 [zR a0, zI a1, zI a2, zI a3, zI a4, zI a5] [zI s0, zI s1] sh pp mm Q ↔ (s0 < s1 → zS 125 79 [zR a0, zU, zU, zU, zU, zU] [] sh pp mm Q) ∧ (¬ s0 < s1 → zS 125 87 [zR a0, zI a1, zI a2, zI a3, zI a4, zI a5] [] sh pp mm Q) := s_ifn cX_see_76 cX_see_79 cX_see_87 rfl rfl rfl
theorem rX_see_79 {a0 : Nat} {u1 u2 u3 u4 u5 : zV} : zS 125 79 [zR a0, u1, u2, u3, u4, u5] [] sh pp mm Q ↔ zS 125 80 [zU, zU, zU, zU, zU, zU] [zR a0] sh pp mm Q := s_go cX_see_79 cX_see_80 rfl rfl
theorem rX_see_80 {s0 : Nat} {u0 u1 u2 u3 u4 u5 : zV} : zS 125 80 [u0, u1, u2, u3, u4, u5] [zR s0] sh pp mm Q ↔ zS 125 81 [zU, zU, zU, zU, zU, zU] [zI 2, zR s0] sh pp mm Q := s_go cX_see_80 cX_see_81 rfl rfl
theorem rX_see_81 {s1 : Nat} {s0 : Int} {u0 u1 u2 u3 u4 u5 : zV} : zS 125 81 [u0, u1, u2, u3, u4, u5] [zI s0, zR s1] sh pp mm Q ↔ zS 125 83 [zU, zU, zU, zU, zU, zU] [zI (-4), zI s0, zR s1] sh pp mm Q := s_go cX_see_81 cX_see_83 rfl rfl
theorem rX_see_83 {s2 : Nat} {s0 s1 : Int} {u0 u1 u2 u3 u4 u5 : zV} (hk : zKd sh s2 = 11) : zS 125 83 [u0, u1, u2, u3, u4, u5] [zI s0, zI s1, zR s2] sh pp mm Q ↔ zS 138 0 [zR s2, zI s1, zI s0] [] sh pp mm (fun v sh pp mm => zS 125 86 [zU, zU, zU, zU, zU, zU] (zPush v []) sh pp mm Q) := s_call cX_see_83 cX_see_86 ((if_pos hk).trans rfl) rfl
theorem rX_see_86 {s0 : Int} {u0 u1 u2 u3 u4 u5 : zV} : zS 125 86 [u0, u1, u2, u3, u4, u5] [zI s0] sh pp mm Q ↔ Q (zI s0) sh pp mm := s_ret cX_see_86 rfl
theorem rX_see_87 {a0 : Nat} {a1 a2 a3 a4 a5 : Int} : zS 125 87 [zR a0, zI a1, zI a2, zI a3, zI a4, zI a5] [] sh pp mm Q ↔ zS 125 88 [zR a0, zI a1, zI a2, zI a3, zI a4, zI a5] [zR a0] sh pp mm Q := s_go cX_see_87 cX_see_88 rfl rfl
theorem rX_see_88 {a0 s0 : Nat} {a1 a2 a3 a4 a5 : Int} (hk : zKd sh s0 = 11) : zS 125 88 [zR a0, zI a1, zI a2, zI a3, zI a4, zI a5] [zR s0] sh pp mm Q ↔ zS 125 91 [zR a0, zI a1, zI a2, zI a3, zI a4, zI a5] [zR (pp s0 0)] sh pp mm Q := s_go cX_see_88 cX_see_91 (if_pos hk) rfl
theorem rX_see_91 {a0 s0 : Nat} {a1 a2 a3 a4 a5 : Int} (hk : zKd sh s0 = 9) : zS 125 91 [zR a0, zI a1, zI a2, zI a3, zI a4, zI a5] [zR s0] sh pp mm Q ↔ zS 125 94 [zR a0, zI a1, zI a2, zI a3, zI a4, zI a5] [zR (pp s0 6)] sh pp mm Q := s_go cX_see_91 cX_see_94 (if_pos hk) rfl
theorem rX_see_94 {a0 s0 : Nat} {a1 a2 a3 a4 a5 : Int} : zS 125 94 [zR a0, zI a1, zI a2, zI a3, zI a4, zI a5] [zR s0] sh pp mm Q ↔ zS 125 95 [zR a0, zU, zI a2, zI a3, zI a4, zI a5] [zI a1, zR s0] sh pp mm Q := s_go cX_see_94 cX_see_95 rfl rfl
theorem rX_see_95 {a0 s1 : Nat} {a2 a3 a4 a5 s0 : Int} {u1 : zV} : zS 125 95 [zR a0, u1, zI a2, zI a3, zI a4, zI a5] [zI s0, zR s1] sh pp mm Q ↔ zS 125 96 [zR a0, zU, zU, zI a3, zI a4, zI a5] [zI a2, zI s0, zR s1] sh pp mm Q := s_go cX_see_95 cX_see_96 rfl rfl
theorem rX_see_96 {a0 s2 : Nat} {a3 a4 a5 s0 s1 : Int} {u1 u2 : zV} : zS 125 96 [zR a0, u1, u2, zI a3, zI a4, zI a5] [zI s0, zI s1, zR s2] sh pp mm Q ↔ zS 143 0 [zI s1, zI s0] [] sh pp mm (fun v sh pp mm => zS 125 99 [zR a0, zU, zU, zI a3, zI a4, zI a5] (zPush v [zR s2]) sh pp mm Q) := s_call cX_see_96 cX_see_99 rfl rfl
theorem rX_see_99 {a0 s1 : Nat} {a3 a4 a5 s0 : Int} {u1 u2 : zV} : zS 125 99 [zR a0, u1, u2, zI a3, zI a4, zI a5] [zI s0, zR s1] sh pp mm Q ↔ zS 125 100 [zR a0, zU, zU, zU, zI a4, zI a5] [zI a3, zI s0, zR s1] sh pp mm Q := s_go cX_see_99 cX_see_100 rfl rfl
theorem rX_see_100 {a0 s2 : Nat} {a4 a5 s0 s1 : Int} {u1 u2 u3 : zV} (hk : zKd sh s2 = 20) (h0 : 0 ≤ s1) (h1 : s1 < zLn sh s2) : zS 125 100 [zR a0, u1, u2, u3, zI a4, zI a5] [zI s0, zI s1, zR s2] sh pp mm Q ↔ zS 125 101 [zR a0, zU, zU, zU, zI a4, zI a5] [] sh pp (zupd mm s2 s1 s0) Q := s_go cX_see_100 cX_see_101 (if_pos ⟨hk, h0, h1, fun h => absurd h (by decide)⟩) rfl
theorem rX_see_101 {a0 : Nat} {a4 a5 : Int} {u1 u2 u3 : zV} : zS 125 101 [zR a0, u1, u2, u3, zI a4, zI a5] [] sh pp mm Q ↔ zS 125 102 [zU, zU, zU, zU, zI a4, zI a5] [zR a0] sh pp mm Q := s_go cX_see_101 cX_see_102 rfl rfl
theorem rX_see_102 {s0 : Nat} {a4 a5 : Int} {u0 u1 u2 u3 : zV} (hk : zKd sh s0 = 11) : zS 125 102 [u0, u1, u2, u3, zI a4, zI a5] [zR s0] sh pp mm Q ↔ zS 125 105 [zU, zU, zU, zU, zI a4, zI a5] [zR (pp s0 0)] sh pp mm Q := s_go cX_see_102 cX_see_105 (if_pos hk) rfl
theorem rX_see_105 {s0 : Nat} {a4 a5 : Int} {u0 u1 u2 u3 : zV} : zS 125 105 [u0, u1, u2, u3, zI a4, zI a5] [zR s0] sh pp mm Q ↔ zS 125 106 [zU, zU, zU, zU, zI a4, zI a5] [zR s0, zR s0] sh pp mm Q := s_go cX_see_105 cX_see_106 rfl rfl
theorem rX_see_106 {s0 s1 : Nat} {a4 a5 : Int} {u0 u1 u2 u3 : zV} (hk : zKd sh s0 = 9) : zS 125 106 [u0, u1, u2, u3, zI a4, zI a5] [zR s0, zR s1] sh pp mm Q ↔ zS 125 109 [zU, zU, zU, zU, zI a4, zI a5] [zI (mm s0 7), zR s1] sh pp mm Q := s_go cX_see_106 cX_see_109 (if_pos hk) rfl
theorem rX_see_109 {s1 : Nat} {a4 a5 s0 : Int} {u0 u1 u2 u3 : zV} : zS 125 109 [u0, u1, u2, u3, zI a4, zI a5] [zI s0, zR s1] sh pp mm Q ↔ zS 125 111 [zU, zU, zU, zU, zI a4, zU] [zI a5, zI s0, zR s1] sh pp mm Q := s_go cX_see_109 cX_see_111 rfl rfl
theorem rX_see_111 {s2 : Nat} {a4 s0 s1 : Int} {u0 u1 u2 u3 u5 : zV} : zS 125 111 [u0, u1, u2, u3, zI a4, u5] [zI s0, zI s1, zR s2] sh pp mm Q ↔ zS 125 112 [zU, zU, zU, zU, zI a4, zU] [zI (zw32 (s1 + s0)), zR s2] sh pp mm Q := s_go cX_see_111 cX_see_112 rfl rfl
theorem rX_see_112 {s1 : Nat} {a4 s0 : Int} {u0 u1 u2 u3 u5 : zV} (hk : zKd sh s1 = 9) : zS 125 112 [u0, u1, u2, u3, zI a4, u5] [zI s0, zR s1] sh pp mm Q ↔ zS 125 115 [zU, zU, zU, zU, zI a4, zU] [] sh pp (zupd mm s1 7 s0) Q := s_go cX_see_112 cX_see_115 (if_pos ⟨hk, Or.inl rfl⟩) rfl
theorem rX_see_115 {a4 : Int} {u0 u1 u2 u3 u5 : zV} : zS 125 115 [u0, u1, u2, u3, zI a4, u5] [] sh pp mm Q ↔ zS 125 117 [zU, zU, zU, zU, zU, zU] [zI a4] sh pp mm Q := s_go cX_see_115 cX_see_117 rfl rfl
theorem rX_see_117 {s0 : Int} {u0 u1 u2 u3 u4 u5 : zV} : zS 125 117 [u0, u1, u2, u3, u4, u5] [zI s0] sh pp mm Q ↔ Q (zI s0) sh pp mm := s_ret cX_see_117 rfl
theorem cAX_odds : ∀ q ∈ zT126, zCode 126 q.1 = some q.2 := zAll (mid := 126) rfl (by decide +kernel)
theorem cAX_odds_0 : ∀ q ∈ zT126_0, zCode 126 q.1 = some q.2 := fun q h => cAX_odds q (h)
theorem cX_odds_0 : zCode 126 0 = some (.iload_n 1, 1, 0, 0, 0, 0, 3) := cAX_odds_0 _ (List.mem_of_getElem? (i := 0) rfl)
theorem cX_odds_1 : zCode 126 1 = some (.invokestatic 85, 4, 140, 1, 1, 11, 3) := cAX_odds_0 _ (List.mem_of_getElem? (i := 1) rfl)
theorem cX_odds_4 : zCode 126 4 = some (.ifCond .ne 11, 7, 15, 0, 0, 0, 3) := cAX_odds_0 _ (List.mem_of_getElem? (i := 2) rfl)
theorem cX_odds_7 : zCode 126 7 = some (.aload_n 0, 8, 0, 0, 0, 0, 1) := cAX_odds_0 _ (List.mem_of_getElem? (i := 3) rfl)
theorem cX_odds_8 : zCode 126 8 = some (.iconst 0, 9, 0, 0, 0, 0, 0) := cAX_odds_0 _ (List.mem_of_getElem? (i := 4) rfl)
theorem cX_odds_9 : zCode 126 9 = some (.bipush (-2), 11, 0, 0, 0, 0, 0) := cAX_odds_0 _ (List.mem_of_getElem? (i := 5) rfl)
theorem cX_odds_11 : zCode 126 11 = some (.invokevirtual 72, 14, 138, 2, 3, 11, 0) := cAX_odds_0 _ (List.mem_of_getElem? (i := 6) rfl)
theorem cX_odds_14 : zCode 126 14 = some (.ireturn, 15, 0, 0, 0, 0, 0) := cAX_odds_0 _ (List.mem_of_getElem? (i := 7) rfl)
theorem cX_odds_15 : zCode 126 15 = some (.aload_n 0, 16, 0, 0, 0, 0, 3) := cAX_odds_0 _ (List.mem_of_getElem? (i := 8) rfl)
theorem cX_odds_16 : zCode 126 16 = some (.iconst 0, 17, 0, 0, 0, 0, 2) := cAX_odds_0 _ (List.mem_of_getElem? (i := 9) rfl)
theorem cX_odds_17 : zCode 126 17 = some (.iload_n 1, 18, 0, 0, 0, 0, 2) := cAX_odds_0 _ (List.mem_of_getElem? (i := 10) rfl)
theorem cX_odds_18 : zCode 126 18 = some (.invokevirtual 220, 21, 149, 2, 5, 11, 0) := cAX_odds_0 _ (List.mem_of_getElem? (i := 11) rfl)
theorem cX_odds_21 : zCode 126 21 = some (.ireturn, 22, 0, 0, 0, 0, 0) := cAX_odds_0 _ (List.mem_of_getElem? (i := 12) rfl)
theorem rX_odds_0 {a0 : Nat} {a1 : Int} : zS 126 0 [zR a0, zI a1] [] sh pp mm Q ↔ zS 126 1 [zR a0, zI a1] [zI a1] sh pp mm Q := s_go cX_odds_0 cX_odds_1 rfl rfl
theorem rX_odds_1 {a0 : Nat} {a1 s0 : Int} : zS 126 1 [zR a0, zI a1] [zI s0] sh pp mm Q ↔ zS 140 0 [zI s0] [] sh pp mm (fun v sh pp mm => zS 126 4 [zR a0, zI a1] (zPush v []) sh pp mm Q) := s_call cX_odds_1 cX_odds_4 rfl rfl
theorem rX_odds_4 {a0 : Nat} {a1 s0 : Int} : zS 126 4 [zR a0, zI a1] [zI s0] sh pp mm Q ↔ (s0 = 0 → zS 126 7 [zR a0, zU] [] sh pp mm Q) ∧ (¬ s0 = 0 → zS 126 15 [zR a0, zI a1] [] sh pp mm Q) := s_ifn cX_odds_4 cX_odds_7 cX_odds_15 rfl rfl rfl
theorem rX_odds_7 {a0 : Nat} {u1 : zV} : zS 126 7 [zR a0, u1] [] sh pp mm Q ↔ zS 126 8 [zU, zU] [zR a0] sh pp mm Q := s_go cX_odds_7 cX_odds_8 rfl rfl
theorem rX_odds_8 {s0 : Nat} {u0 u1 : zV} : zS 126 8 [u0, u1] [zR s0] sh pp mm Q ↔ zS 126 9 [zU, zU] [zI 0, zR s0] sh pp mm Q := s_go cX_odds_8 cX_odds_9 rfl rfl
theorem rX_odds_9 {s1 : Nat} {s0 : Int} {u0 u1 : zV} : zS 126 9 [u0, u1] [zI s0, zR s1] sh pp mm Q ↔ zS 126 11 [zU, zU] [zI (-2), zI s0, zR s1] sh pp mm Q := s_go cX_odds_9 cX_odds_11 rfl rfl
theorem rX_odds_11 {s2 : Nat} {s0 s1 : Int} {u0 u1 : zV} (hk : zKd sh s2 = 11) : zS 126 11 [u0, u1] [zI s0, zI s1, zR s2] sh pp mm Q ↔ zS 138 0 [zR s2, zI s1, zI s0] [] sh pp mm (fun v sh pp mm => zS 126 14 [zU, zU] (zPush v []) sh pp mm Q) := s_call cX_odds_11 cX_odds_14 ((if_pos hk).trans rfl) rfl
theorem rX_odds_14 {s0 : Int} {u0 u1 : zV} : zS 126 14 [u0, u1] [zI s0] sh pp mm Q ↔ Q (zI s0) sh pp mm := s_ret cX_odds_14 rfl
theorem rX_odds_15 {a0 : Nat} {a1 : Int} : zS 126 15 [zR a0, zI a1] [] sh pp mm Q ↔ zS 126 16 [zU, zI a1] [zR a0] sh pp mm Q := s_go cX_odds_15 cX_odds_16 rfl rfl
theorem rX_odds_16 {s0 : Nat} {a1 : Int} {u0 : zV} : zS 126 16 [u0, zI a1] [zR s0] sh pp mm Q ↔ zS 126 17 [zU, zI a1] [zI 0, zR s0] sh pp mm Q := s_go cX_odds_16 cX_odds_17 rfl rfl
theorem rX_odds_17 {s1 : Nat} {a1 s0 : Int} {u0 : zV} : zS 126 17 [u0, zI a1] [zI s0, zR s1] sh pp mm Q ↔ zS 126 18 [zU, zU] [zI a1, zI s0, zR s1] sh pp mm Q := s_go cX_odds_17 cX_odds_18 rfl rfl
theorem rX_odds_18 {s2 : Nat} {s0 s1 : Int} {u0 u1 : zV} (hk : zKd sh s2 = 11) : zS 126 18 [u0, u1] [zI s0, zI s1, zR s2] sh pp mm Q ↔ zS 149 0 [zR s2, zI s1, zI s0, zU, zU] [] sh pp mm (fun v sh pp mm => zS 126 21 [zU, zU] (zPush v []) sh pp mm Q) := s_call cX_odds_18 cX_odds_21 ((if_pos hk).trans rfl) rfl
theorem rX_odds_21 {s0 : Int} {u0 u1 : zV} : zS 126 21 [u0, u1] [zI s0] sh pp mm Q ↔ Q (zI s0) sh pp mm := s_ret cX_odds_21 rfl
theorem cAX_shaken : ∀ q ∈ zT127, zCode 127 q.1 = some q.2 := zAll (mid := 127) rfl (by decide +kernel)
theorem cAX_shaken_0 : ∀ q ∈ zT127_0, zCode 127 q.1 = some q.2 := fun q h => cAX_shaken q (h)
theorem cX_shaken_0 : zCode 127 0 = some (.aload_n 0, 1, 0, 0, 0, 0, 1) := cAX_shaken_0 _ (List.mem_of_getElem? (i := 0) rfl)
theorem cX_shaken_1 : zCode 127 1 = some (.iconst 1, 2, 0, 0, 0, 0, 0) := cAX_shaken_0 _ (List.mem_of_getElem? (i := 1) rfl)
theorem cX_shaken_2 : zCode 127 2 = some (.iconst 0, 3, 0, 0, 0, 0, 0) := cAX_shaken_0 _ (List.mem_of_getElem? (i := 2) rfl)
theorem cX_shaken_3 : zCode 127 3 = some (.invokevirtual 220, 6, 149, 2, 5, 11, 0) := cAX_shaken_0 _ (List.mem_of_getElem? (i := 3) rfl)
theorem cX_shaken_6 : zCode 127 6 = some (.ireturn, 7, 0, 0, 0, 0, 0) := cAX_shaken_0 _ (List.mem_of_getElem? (i := 4) rfl)
theorem rX_shaken_0 {a0 : Nat} : zS 127 0 [zR a0] [] sh pp mm Q ↔ zS 127 1 [zU] [zR a0] sh pp mm Q := s_go cX_shaken_0 cX_shaken_1 rfl rfl
theorem rX_shaken_1 {s0 : Nat} {u0 : zV} : zS 127 1 [u0] [zR s0] sh pp mm Q ↔ zS 127 2 [zU] [zI 1, zR s0] sh pp mm Q := s_go cX_shaken_1 cX_shaken_2 rfl rfl
theorem rX_shaken_2 {s1 : Nat} {s0 : Int} {u0 : zV} : zS 127 2 [u0] [zI s0, zR s1] sh pp mm Q ↔ zS 127 3 [zU] [zI 0, zI s0, zR s1] sh pp mm Q := s_go cX_shaken_2 cX_shaken_3 rfl rfl
theorem rX_shaken_3 {s2 : Nat} {s0 s1 : Int} {u0 : zV} (hk : zKd sh s2 = 11) : zS 127 3 [u0] [zI s0, zI s1, zR s2] sh pp mm Q ↔ zS 149 0 [zR s2, zI s1, zI s0, zU, zU] [] sh pp mm (fun v sh pp mm => zS 127 6 [zU] (zPush v []) sh pp mm Q) := s_call cX_shaken_3 cX_shaken_6 ((if_pos hk).trans rfl) rfl
theorem rX_shaken_6 {s0 : Int} {u0 : zV} : zS 127 6 [u0] [zI s0] sh pp mm Q ↔ Q (zI s0) sh pp mm := s_ret cX_shaken_6 rfl
theorem cAX_before : ∀ q ∈ zT128, zCode 128 q.1 = some q.2 := zAll (mid := 128) rfl (by decide +kernel)
theorem cAX_before_0 : ∀ q ∈ zT128_0, zCode 128 q.1 = some q.2 := fun q h => cAX_before q (h)
theorem cX_before_0 : zCode 128 0 = some (.iload_n 1, 1, 0, 0, 0, 0, 7) := cAX_before_0 _ (List.mem_of_getElem? (i := 0) rfl)
theorem cX_before_1 : zCode 128 1 = some (.iload_n 2, 2, 0, 0, 0, 0, 7) := cAX_before_0 _ (List.mem_of_getElem? (i := 1) rfl)
theorem cX_before_2 : zCode 128 2 = some (.invokestatic 126, 5, 142, 2, 2, 11, 7) := cAX_before_0 _ (List.mem_of_getElem? (i := 2) rfl)
theorem cX_before_5 : zCode 128 5 = some (.ifCond .ne 11, 8, 16, 0, 0, 0, 7) := cAX_before_0 _ (List.mem_of_getElem? (i := 3) rfl)
theorem cX_before_8 : zCode 128 8 = some (.aload_n 0, 9, 0, 0, 0, 0, 1) := cAX_before_0 _ (List.mem_of_getElem? (i := 4) rfl)
theorem cX_before_9 : zCode 128 9 = some (.iconst 0, 10, 0, 0, 0, 0, 0) := cAX_before_0 _ (List.mem_of_getElem? (i := 5) rfl)
theorem cX_before_10 : zCode 128 10 = some (.bipush (-2), 12, 0, 0, 0, 0, 0) := cAX_before_0 _ (List.mem_of_getElem? (i := 6) rfl)
theorem cX_before_12 : zCode 128 12 = some (.invokevirtual 72, 15, 138, 2, 3, 11, 0) := cAX_before_0 _ (List.mem_of_getElem? (i := 7) rfl)
theorem cX_before_15 : zCode 128 15 = some (.ireturn, 16, 0, 0, 0, 0, 0) := cAX_before_0 _ (List.mem_of_getElem? (i := 8) rfl)
theorem cX_before_16 : zCode 128 16 = some (.aload_n 0, 17, 0, 0, 0, 0, 7) := cAX_before_0 _ (List.mem_of_getElem? (i := 9) rfl)
theorem cX_before_17 : zCode 128 17 = some (.iconst 2, 18, 0, 0, 0, 0, 6) := cAX_before_0 _ (List.mem_of_getElem? (i := 10) rfl)
theorem cX_before_18 : zCode 128 18 = some (.iload_n 1, 19, 0, 0, 0, 0, 6) := cAX_before_0 _ (List.mem_of_getElem? (i := 11) rfl)
theorem cX_before_19 : zCode 128 19 = some (.iload_n 2, 20, 0, 0, 0, 0, 4) := cAX_before_0 _ (List.mem_of_getElem? (i := 12) rfl)
theorem cX_before_20 : zCode 128 20 = some (.invokestatic 133, 23, 143, 2, 2, 11, 0) := cAX_before_0 _ (List.mem_of_getElem? (i := 13) rfl)
theorem cX_before_23 : zCode 128 23 = some (.invokevirtual 220, 26, 149, 2, 5, 11, 0) := cAX_before_0 _ (List.mem_of_getElem? (i := 14) rfl)
theorem cX_before_26 : zCode 128 26 = some (.ireturn, 27, 0, 0, 0, 0, 0) := cAX_before_0 _ (List.mem_of_getElem? (i := 15) rfl)
theorem rX_before_0 {a0 : Nat} {a1 a2 : Int} : zS 128 0 [zR a0, zI a1, zI a2] [] sh pp mm Q ↔ zS 128 1 [zR a0, zI a1, zI a2] [zI a1] sh pp mm Q := s_go cX_before_0 cX_before_1 rfl rfl
theorem rX_before_1 {a0 : Nat} {a1 a2 s0 : Int} : zS 128 1 [zR a0, zI a1, zI a2] [zI s0] sh pp mm Q ↔ zS 128 2 [zR a0, zI a1, zI a2] [zI a2, zI s0] sh pp mm Q := s_go cX_before_1 cX_before_2 rfl rfl
theorem rX_before_2 {a0 : Nat} {a1 a2 s0 s1 : Int} : zS 128 2 [zR a0, zI a1, zI a2] [zI s0, zI s1] sh pp mm Q ↔ zS 142 0 [zI s1, zI s0] [] sh pp mm (fun v sh pp mm => zS 128 5 [zR a0, zI a1, zI a2] (zPush v []) sh pp mm Q) := s_call cX_before_2 cX_before_5 rfl rfl
theorem rX_before_5 {a0 : Nat} {a1 a2 s0 : Int} : zS 128 5 [zR a0, zI a1, zI a2] [zI s0] sh pp mm Q ↔ (s0 = 0 → zS 128 8 [zR a0, zU, zU] [] sh pp mm Q) ∧ (¬ s0 = 0 → zS 128 16 [zR a0, zI a1, zI a2] [] sh pp mm Q) := s_ifn cX_before_5 cX_before_8 cX_before_16 rfl rfl rfl
theorem rX_before_8 {a0 : Nat} {u1 u2 : zV} : zS 128 8 [zR a0, u1, u2] [] sh pp mm Q ↔ zS 128 9 [zU, zU, zU] [zR a0] sh pp mm Q := s_go cX_before_8 cX_before_9 rfl rfl
theorem rX_before_9 {s0 : Nat} {u0 u1 u2 : zV} : zS 128 9 [u0, u1, u2] [zR s0] sh pp mm Q ↔ zS 128 10 [zU, zU, zU] [zI 0, zR s0] sh pp mm Q := s_go cX_before_9 cX_before_10 rfl rfl
theorem rX_before_10 {s1 : Nat} {s0 : Int} {u0 u1 u2 : zV} : zS 128 10 [u0, u1, u2] [zI s0, zR s1] sh pp mm Q ↔ zS 128 12 [zU, zU, zU] [zI (-2), zI s0, zR s1] sh pp mm Q := s_go cX_before_10 cX_before_12 rfl rfl
theorem rX_before_12 {s2 : Nat} {s0 s1 : Int} {u0 u1 u2 : zV} (hk : zKd sh s2 = 11) : zS 128 12 [u0, u1, u2] [zI s0, zI s1, zR s2] sh pp mm Q ↔ zS 138 0 [zR s2, zI s1, zI s0] [] sh pp mm (fun v sh pp mm => zS 128 15 [zU, zU, zU] (zPush v []) sh pp mm Q) := s_call cX_before_12 cX_before_15 ((if_pos hk).trans rfl) rfl
theorem rX_before_15 {s0 : Int} {u0 u1 u2 : zV} : zS 128 15 [u0, u1, u2] [zI s0] sh pp mm Q ↔ Q (zI s0) sh pp mm := s_ret cX_before_15 rfl
theorem rX_before_16 {a0 : Nat} {a1 a2 : Int} : zS 128 16 [zR a0, zI a1, zI a2] [] sh pp mm Q ↔ zS 128 17 [zU, zI a1, zI a2] [zR a0] sh pp mm Q := s_go cX_before_16 cX_before_17 rfl rfl
theorem rX_before_17 {s0 : Nat} {a1 a2 : Int} {u0 : zV} : zS 128 17 [u0, zI a1, zI a2] [zR s0] sh pp mm Q ↔ zS 128 18 [zU, zI a1, zI a2] [zI 2, zR s0] sh pp mm Q := s_go cX_before_17 cX_before_18 rfl rfl
theorem rX_before_18 {s1 : Nat} {a1 a2 s0 : Int} {u0 : zV} : zS 128 18 [u0, zI a1, zI a2] [zI s0, zR s1] sh pp mm Q ↔ zS 128 19 [zU, zU, zI a2] [zI a1, zI s0, zR s1] sh pp mm Q := s_go cX_before_18 cX_before_19 rfl rfl
theorem rX_before_19 {s2 : Nat} {a2 s0 s1 : Int} {u0 u1 : zV} : zS 128 19 [u0, u1, zI a2] [zI s0, zI s1, zR s2] sh pp mm Q ↔ zS 128 20 [zU, zU, zU] [zI a2, zI s0, zI s1, zR s2] sh pp mm Q := s_go cX_before_19 cX_before_20 rfl rfl
theorem rX_before_20 {s3 : Nat} {s0 s1 s2 : Int} {u0 u1 u2 : zV} : zS 128 20 [u0, u1, u2] [zI s0, zI s1, zI s2, zR s3] sh pp mm Q ↔ zS 143 0 [zI s1, zI s0] [] sh pp mm (fun v sh pp mm => zS 128 23 [zU, zU, zU] (zPush v [zI s2, zR s3]) sh pp mm Q) := s_call cX_before_20 cX_before_23 rfl rfl
theorem rX_before_23 {s2 : Nat} {s0 s1 : Int} {u0 u1 u2 : zV} (hk : zKd sh s2 = 11) : zS 128 23 [u0, u1, u2] [zI s0, zI s1, zR s2] sh pp mm Q ↔ zS 149 0 [zR s2, zI s1, zI s0, zU, zU] [] sh pp mm (fun v sh pp mm => zS 128 26 [zU, zU, zU] (zPush v []) sh pp mm Q) := s_call cX_before_23 cX_before_26 ((if_pos hk).trans rfl) rfl
theorem rX_before_26 {s0 : Int} {u0 u1 u2 : zV} : zS 128 26 [u0, u1, u2] [zI s0] sh pp mm Q ↔ Q (zI s0) sh pp mm := s_ret cX_before_26 rfl
theorem cAX_test : ∀ q ∈ zT129, zCode 129 q.1 = some q.2 := zAll (mid := 129) rfl (by decide +kernel)
theorem cAX_test_0 : ∀ q ∈ zT129_0, zCode 129 q.1 = some q.2 := fun q h => cAX_test q (List.mem_append_left _ h)
theorem cAX_test_1 : ∀ q ∈ zT129_1, zCode 129 q.1 = some q.2 := fun q h => cAX_test q (List.mem_append_right _ (List.mem_append_left _ h))
theorem cAX_test_2 : ∀ q ∈ zT129_2, zCode 129 q.1 = some q.2 := fun q h => cAX_test q (List.mem_append_right _ (List.mem_append_right _ h))
theorem cX_test_0 : zCode 129 0 = some (.iload_n 1, 1, 0, 0, 0, 0, 15) := cAX_test_0 _ (List.mem_of_getElem? (i := 0) rfl)
theorem cX_test_1 : zCode 129 1 = some (.invokestatic 162, 4, 141, 1, 1, 11, 15) := cAX_test_0 _ (List.mem_of_getElem? (i := 1) rfl)
theorem cX_test_4 : zCode 129 4 = some (.ifCond .eq 22, 7, 26, 0, 0, 0, 15) := cAX_test_0 _ (List.mem_of_getElem? (i := 2) rfl)
theorem cX_test_7 : zCode 129 7 = some (.iload_n 2, 8, 0, 0, 0, 0, 15) := cAX_test_0 _ (List.mem_of_getElem? (i := 3) rfl)
theorem cX_test_8 : zCode 129 8 = some (.iconst 1, 9, 0, 0, 0, 0, 15) := cAX_test_0 _ (List.mem_of_getElem? (i := 4) rfl)
theorem cX_test_9 : zCode 129 9 = some (.bipush 40, 11, 0, 0, 0, 0, 15) := cAX_test_0 _ (List.mem_of_getElem? (i := 5) rfl)
theorem cX_test_11 : zCode 129 11 = some (.invokestatic 150, 14, 139, 3, 3, 11, 15) := cAX_test_0 _ (List.mem_of_getElem? (i := 6) rfl)
theorem cX_test_14 : zCode 129 14 = some (.ifCond .eq 12, 17, 26, 0, 0, 0, 15) := cAX_test_0 _ (List.mem_of_getElem? (i := 7) rfl)
theorem cX_test_17 : zCode 129 17 = some (.iload_n 3, 18, 0, 0, 0, 0, 15) := cAX_test_0 _ (List.mem_of_getElem? (i := 8) rfl)
theorem cX_test_18 : zCode 129 18 = some (.iconst 0, 19, 0, 0, 0, 0, 15) := cAX_test_0 _ (List.mem_of_getElem? (i := 9) rfl)
theorem cX_test_19 : zCode 129 19 = some (.iload_n 2, 20, 0, 0, 0, 0, 15) := cAX_test_0 _ (List.mem_of_getElem? (i := 10) rfl)
theorem cX_test_20 : zCode 129 20 = some (.invokestatic 150, 23, 139, 3, 3, 11, 15) := cAX_test_0 _ (List.mem_of_getElem? (i := 11) rfl)
theorem cX_test_23 : zCode 129 23 = some (.ifCond .ne 11, 26, 34, 0, 0, 0, 15) := cAX_test_0 _ (List.mem_of_getElem? (i := 12) rfl)
theorem cX_test_26 : zCode 129 26 = some (.aload_n 0, 27, 0, 0, 0, 0, 1) := cAX_test_0 _ (List.mem_of_getElem? (i := 13) rfl)
theorem cX_test_27 : zCode 129 27 = some (.iconst 0, 28, 0, 0, 0, 0, 0) := cAX_test_0 _ (List.mem_of_getElem? (i := 14) rfl)
theorem cX_test_28 : zCode 129 28 = some (.bipush (-2), 30, 0, 0, 0, 0, 0) := cAX_test_0 _ (List.mem_of_getElem? (i := 15) rfl)
theorem cX_test_30 : zCode 129 30 = some (.invokevirtual 72, 33, 138, 2, 3, 11, 0) := cAX_test_1 _ (List.mem_of_getElem? (i := 0) rfl)
theorem cX_test_33 : zCode 129 33 = some (.ireturn, 34, 0, 0, 0, 0, 0) := cAX_test_1 _ (List.mem_of_getElem? (i := 1) rfl)
theorem cX_test_34 : zCode 129 34 = some (.aload_n 0, 35, 0, 0, 0, 0, 15) := cAX_test_1 _ (List.mem_of_getElem? (i := 2) rfl)
theorem cX_test_35 : zCode 129 35 = some (.getfield 10, 38, 11, 0, 2, 506, 15) := cAX_test_1 _ (List.mem_of_getElem? (i := 3) rfl)
theorem cX_test_38 : zCode 129 38 = some (.getfield 223, 41, 9, 5, 2, 178, 15) := cAX_test_1 _ (List.mem_of_getElem? (i := 4) rfl)
theorem cX_test_41 : zCode 129 41 = some (.invokevirtual 158, 44, 96, 0, 1, 10, 15) := cAX_test_1 _ (List.mem_of_getElem? (i := 5) rfl)
theorem cX_test_44 : zCode 129 44 = some (.ifCond .eq 11, 47, 55, 0, 0, 0, 15) := cAX_test_1 _ (List.mem_of_getElem? (i := 6) rfl)
theorem cX_test_47 : zCode 129 47 = some (.aload_n 0, 48, 0, 0, 0, 0, 1) := cAX_test_1 _ (List.mem_of_getElem? (i := 7) rfl)
theorem cX_test_48 : zCode 129 48 = some (.iconst 2, 49, 0, 0, 0, 0, 0) := cAX_test_1 _ (List.mem_of_getElem? (i := 8) rfl)
theorem cX_test_49 : zCode 129 49 = some (.bipush (-4), 51, 0, 0, 0, 0, 0) := cAX_test_1 _ (List.mem_of_getElem? (i := 9) rfl)
theorem cX_test_51 : zCode 129 51 = some (.invokevirtual 72, 54, 138, 2, 3, 11, 0) := cAX_test_1 _ (List.mem_of_getElem? (i := 10) rfl)
theorem cX_test_54 : zCode 129 54 = some (.ireturn, 55, 0, 0, 0, 0, 0) := cAX_test_1 _ (List.mem_of_getElem? (i := 11) rfl)
theorem cX_test_55 : zCode 129 55 = some (.aload_n 0, 56, 0, 0, 0, 0, 15) := cAX_test_1 _ (List.mem_of_getElem? (i := 12) rfl)
theorem cX_test_56 : zCode 129 56 = some (.getfield 10, 59, 11, 0, 2, 506, 14) := cAX_test_1 _ (List.mem_of_getElem? (i := 13) rfl)
theorem cX_test_59 : zCode 129 59 = some (.getfield 223, 62, 9, 5, 2, 178, 14) := cAX_test_1 _ (List.mem_of_getElem? (i := 14) rfl)
theorem cX_test_62 : zCode 129 62 = some (.iload_n 1, 63, 0, 0, 0, 0, 14) := cAX_test_1 _ (List.mem_of_getElem? (i := 15) rfl)
theorem cX_test_63 : zCode 129 63 = some (.iload_n 2, 64, 0, 0, 0, 0, 12) := cAX_test_2 _ (List.mem_of_getElem? (i := 0) rfl)
theorem cX_test_64 : zCode 129 64 = some (.iload_n 3, 65, 0, 0, 0, 0, 8) := cAX_test_2 _ (List.mem_of_getElem? (i := 1) rfl)
theorem cX_test_65 : zCode 129 65 = some (.invokevirtual 99, 68, 98, 3, 5, 10, 0) := cAX_test_2 _ (List.mem_of_getElem? (i := 2) rfl)
theorem cX_test_68 : zCode 129 68 = some (.ireturn, 69, 0, 0, 0, 0, 0) := cAX_test_2 _ (List.mem_of_getElem? (i := 3) rfl)
theorem rX_test_0 {a0 : Nat} {a1 a2 a3 : Int} : zS 129 0 [zR a0, zI a1, zI a2, zI a3] [] sh pp mm Q ↔ zS 129 1 [zR a0, zI a1, zI a2, zI a3] [zI a1] sh pp mm Q := s_go cX_test_0 cX_test_1 rfl rfl
theorem rX_test_1 {a0 : Nat} {a1 a2 a3 s0 : Int} : zS 129 1 [zR a0, zI a1, zI a2, zI a3] [zI s0] sh pp mm Q ↔ zS 141 0 [zI s0] [] sh pp mm (fun v sh pp mm => zS 129 4 [zR a0, zI a1, zI a2, zI a3] (zPush v []) sh pp mm Q) := s_call cX_test_1 cX_test_4 rfl rfl
theorem rX_test_4 {a0 : Nat} {a1 a2 a3 s0 : Int} : zS 129 4 [zR a0, zI a1, zI a2, zI a3] [zI s0] sh pp mm Q ↔ (s0 = 0 → zS 129 26 [zR a0, zU, zU, zU] [] sh pp mm Q) ∧ (¬ s0 = 0 → zS 129 7 [zR a0, zI a1, zI a2, zI a3] [] sh pp mm Q) := s_if cX_test_4 cX_test_26 cX_test_7 rfl rfl rfl
theorem rX_test_7 {a0 : Nat} {a1 a2 a3 : Int} : zS 129 7 [zR a0, zI a1, zI a2, zI a3] [] sh pp mm Q ↔ zS 129 8 [zR a0, zI a1, zI a2, zI a3] [zI a2] sh pp mm Q := s_go cX_test_7 cX_test_8 rfl rfl
theorem rX_test_8 {a0 : Nat} {a1 a2 a3 s0 : Int} : zS 129 8 [zR a0, zI a1, zI a2, zI a3] [zI s0] sh pp mm Q ↔ zS 129 9 [zR a0, zI a1, zI a2, zI a3] [zI 1, zI s0] sh pp mm Q := s_go cX_test_8 cX_test_9 rfl rfl
theorem rX_test_9 {a0 : Nat} {a1 a2 a3 s0 s1 : Int} : zS 129 9 [zR a0, zI a1, zI a2, zI a3] [zI s0, zI s1] sh pp mm Q ↔ zS 129 11 [zR a0, zI a1, zI a2, zI a3] [zI 40, zI s0, zI s1] sh pp mm Q := s_go cX_test_9 cX_test_11 rfl rfl
theorem rX_test_11 {a0 : Nat} {a1 a2 a3 s0 s1 s2 : Int} : zS 129 11 [zR a0, zI a1, zI a2, zI a3] [zI s0, zI s1, zI s2] sh pp mm Q ↔ zS 139 0 [zI s2, zI s1, zI s0] [] sh pp mm (fun v sh pp mm => zS 129 14 [zR a0, zI a1, zI a2, zI a3] (zPush v []) sh pp mm Q) := s_call cX_test_11 cX_test_14 rfl rfl
theorem rX_test_14 {a0 : Nat} {a1 a2 a3 s0 : Int} : zS 129 14 [zR a0, zI a1, zI a2, zI a3] [zI s0] sh pp mm Q ↔ (s0 = 0 → zS 129 26 [zR a0, zU, zU, zU] [] sh pp mm Q) ∧ (¬ s0 = 0 → zS 129 17 [zR a0, zI a1, zI a2, zI a3] [] sh pp mm Q) := s_if cX_test_14 cX_test_26 cX_test_17 rfl rfl rfl
theorem rX_test_17 {a0 : Nat} {a1 a2 a3 : Int} : zS 129 17 [zR a0, zI a1, zI a2, zI a3] [] sh pp mm Q ↔ zS 129 18 [zR a0, zI a1, zI a2, zI a3] [zI a3] sh pp mm Q := s_go cX_test_17 cX_test_18 rfl rfl
theorem rX_test_18 {a0 : Nat} {a1 a2 a3 s0 : Int} : zS 129 18 [zR a0, zI a1, zI a2, zI a3] [zI s0] sh pp mm Q ↔ zS 129 19 [zR a0, zI a1, zI a2, zI a3] [zI 0, zI s0] sh pp mm Q := s_go cX_test_18 cX_test_19 rfl rfl
theorem rX_test_19 {a0 : Nat} {a1 a2 a3 s0 s1 : Int} : zS 129 19 [zR a0, zI a1, zI a2, zI a3] [zI s0, zI s1] sh pp mm Q ↔ zS 129 20 [zR a0, zI a1, zI a2, zI a3] [zI a2, zI s0, zI s1] sh pp mm Q := s_go cX_test_19 cX_test_20 rfl rfl
theorem rX_test_20 {a0 : Nat} {a1 a2 a3 s0 s1 s2 : Int} : zS 129 20 [zR a0, zI a1, zI a2, zI a3] [zI s0, zI s1, zI s2] sh pp mm Q ↔ zS 139 0 [zI s2, zI s1, zI s0] [] sh pp mm (fun v sh pp mm => zS 129 23 [zR a0, zI a1, zI a2, zI a3] (zPush v []) sh pp mm Q) := s_call cX_test_20 cX_test_23 rfl rfl
theorem rX_test_23 {a0 : Nat} {a1 a2 a3 s0 : Int} : zS 129 23 [zR a0, zI a1, zI a2, zI a3] [zI s0] sh pp mm Q ↔ (s0 = 0 → zS 129 26 [zR a0, zU, zU, zU] [] sh pp mm Q) ∧ (¬ s0 = 0 → zS 129 34 [zR a0, zI a1, zI a2, zI a3] [] sh pp mm Q) := s_ifn cX_test_23 cX_test_26 cX_test_34 rfl rfl rfl
theorem rX_test_26 {a0 : Nat} {u1 u2 u3 : zV} : zS 129 26 [zR a0, u1, u2, u3] [] sh pp mm Q ↔ zS 129 27 [zU, zU, zU, zU] [zR a0] sh pp mm Q := s_go cX_test_26 cX_test_27 rfl rfl
theorem rX_test_27 {s0 : Nat} {u0 u1 u2 u3 : zV} : zS 129 27 [u0, u1, u2, u3] [zR s0] sh pp mm Q ↔ zS 129 28 [zU, zU, zU, zU] [zI 0, zR s0] sh pp mm Q := s_go cX_test_27 cX_test_28 rfl rfl
theorem rX_test_28 {s1 : Nat} {s0 : Int} {u0 u1 u2 u3 : zV} : zS 129 28 [u0, u1, u2, u3] [zI s0, zR s1] sh pp mm Q ↔ zS 129 30 [zU, zU, zU, zU] [zI (-2), zI s0, zR s1] sh pp mm Q := s_go cX_test_28 cX_test_30 rfl rfl
theorem rX_test_30 {s2 : Nat} {s0 s1 : Int} {u0 u1 u2 u3 : zV} (hk : zKd sh s2 = 11) : zS 129 30 [u0, u1, u2, u3] [zI s0, zI s1, zR s2] sh pp mm Q ↔ zS 138 0 [zR s2, zI s1, zI s0] [] sh pp mm (fun v sh pp mm => zS 129 33 [zU, zU, zU, zU] (zPush v []) sh pp mm Q) := s_call cX_test_30 cX_test_33 ((if_pos hk).trans rfl) rfl
theorem rX_test_33 {s0 : Int} {u0 u1 u2 u3 : zV} : zS 129 33 [u0, u1, u2, u3] [zI s0] sh pp mm Q ↔ Q (zI s0) sh pp mm := s_ret cX_test_33 rfl
theorem rX_test_34 {a0 : Nat} {a1 a2 a3 : Int} : zS 129 34 [zR a0, zI a1, zI a2, zI a3] [] sh pp mm Q ↔ zS 129 35 [zR a0, zI a1, zI a2, zI a3] [zR a0] sh pp mm Q := s_go cX_test_34 cX_test_35 rfl rfl
theorem rX_test_35 {a0 s0 : Nat} {a1 a2 a3 : Int} (hk : zKd sh s0 = 11) : zS 129 35 [zR a0, zI a1, zI a2, zI a3] [zR s0] sh pp mm Q ↔ zS 129 38 [zR a0, zI a1, zI a2, zI a3] [zR (pp s0 0)] sh pp mm Q := s_go cX_test_35 cX_test_38 (if_pos hk) rfl
theorem rX_test_38 {a0 s0 : Nat} {a1 a2 a3 : Int} (hk : zKd sh s0 = 9) : zS 129 38 [zR a0, zI a1, zI a2, zI a3] [zR s0] sh pp mm Q ↔ zS 129 41 [zR a0, zI a1, zI a2, zI a3] [zR (pp s0 5)] sh pp mm Q := s_go cX_test_38 cX_test_41 (if_pos hk) rfl
theorem rX_test_41 {a0 s0 : Nat} {a1 a2 a3 : Int} (hk : zKd sh s0 = 10) : zS 129 41 [zR a0, zI a1, zI a2, zI a3] [zR s0] sh pp mm Q ↔ zS 96 0 [zR s0] [] sh pp mm (fun v sh pp mm => zS 129 44 [zR a0, zI a1, zI a2, zI a3] (zPush v []) sh pp mm Q) := s_call cX_test_41 cX_test_44 ((if_pos hk).trans rfl) rfl
theorem rX_test_44 {a0 : Nat} {a1 a2 a3 s0 : Int} : zS 129 44 [zR a0, zI a1, zI a2, zI a3] [zI s0] sh pp mm Q ↔ (s0 = 0 → zS 129 55 [zR a0, zI a1, zI a2, zI a3] [] sh pp mm Q) ∧ (¬ s0 = 0 → zS 129 47 [zR a0, zU, zU, zU] [] sh pp mm Q) := s_if cX_test_44 cX_test_55 cX_test_47 rfl rfl rfl
theorem rX_test_47 {a0 : Nat} {u1 u2 u3 : zV} : zS 129 47 [zR a0, u1, u2, u3] [] sh pp mm Q ↔ zS 129 48 [zU, zU, zU, zU] [zR a0] sh pp mm Q := s_go cX_test_47 cX_test_48 rfl rfl
theorem rX_test_48 {s0 : Nat} {u0 u1 u2 u3 : zV} : zS 129 48 [u0, u1, u2, u3] [zR s0] sh pp mm Q ↔ zS 129 49 [zU, zU, zU, zU] [zI 2, zR s0] sh pp mm Q := s_go cX_test_48 cX_test_49 rfl rfl
theorem rX_test_49 {s1 : Nat} {s0 : Int} {u0 u1 u2 u3 : zV} : zS 129 49 [u0, u1, u2, u3] [zI s0, zR s1] sh pp mm Q ↔ zS 129 51 [zU, zU, zU, zU] [zI (-4), zI s0, zR s1] sh pp mm Q := s_go cX_test_49 cX_test_51 rfl rfl
theorem rX_test_51 {s2 : Nat} {s0 s1 : Int} {u0 u1 u2 u3 : zV} (hk : zKd sh s2 = 11) : zS 129 51 [u0, u1, u2, u3] [zI s0, zI s1, zR s2] sh pp mm Q ↔ zS 138 0 [zR s2, zI s1, zI s0] [] sh pp mm (fun v sh pp mm => zS 129 54 [zU, zU, zU, zU] (zPush v []) sh pp mm Q) := s_call cX_test_51 cX_test_54 ((if_pos hk).trans rfl) rfl
theorem rX_test_54 {s0 : Int} {u0 u1 u2 u3 : zV} : zS 129 54 [u0, u1, u2, u3] [zI s0] sh pp mm Q ↔ Q (zI s0) sh pp mm := s_ret cX_test_54 rfl
theorem rX_test_55 {a0 : Nat} {a1 a2 a3 : Int} : zS 129 55 [zR a0, zI a1, zI a2, zI a3] [] sh pp mm Q ↔ zS 129 56 [zU, zI a1, zI a2, zI a3] [zR a0] sh pp mm Q := s_go cX_test_55 cX_test_56 rfl rfl
theorem rX_test_56 {s0 : Nat} {a1 a2 a3 : Int} {u0 : zV} (hk : zKd sh s0 = 11) : zS 129 56 [u0, zI a1, zI a2, zI a3] [zR s0] sh pp mm Q ↔ zS 129 59 [zU, zI a1, zI a2, zI a3] [zR (pp s0 0)] sh pp mm Q := s_go cX_test_56 cX_test_59 (if_pos hk) rfl
theorem rX_test_59 {s0 : Nat} {a1 a2 a3 : Int} {u0 : zV} (hk : zKd sh s0 = 9) : zS 129 59 [u0, zI a1, zI a2, zI a3] [zR s0] sh pp mm Q ↔ zS 129 62 [zU, zI a1, zI a2, zI a3] [zR (pp s0 5)] sh pp mm Q := s_go cX_test_59 cX_test_62 (if_pos hk) rfl
theorem rX_test_62 {s0 : Nat} {a1 a2 a3 : Int} {u0 : zV} : zS 129 62 [u0, zI a1, zI a2, zI a3] [zR s0] sh pp mm Q ↔ zS 129 63 [zU, zU, zI a2, zI a3] [zI a1, zR s0] sh pp mm Q := s_go cX_test_62 cX_test_63 rfl rfl
theorem rX_test_63 {s1 : Nat} {a2 a3 s0 : Int} {u0 u1 : zV} : zS 129 63 [u0, u1, zI a2, zI a3] [zI s0, zR s1] sh pp mm Q ↔ zS 129 64 [zU, zU, zU, zI a3] [zI a2, zI s0, zR s1] sh pp mm Q := s_go cX_test_63 cX_test_64 rfl rfl
theorem rX_test_64 {s2 : Nat} {a3 s0 s1 : Int} {u0 u1 u2 : zV} : zS 129 64 [u0, u1, u2, zI a3] [zI s0, zI s1, zR s2] sh pp mm Q ↔ zS 129 65 [zU, zU, zU, zU] [zI a3, zI s0, zI s1, zR s2] sh pp mm Q := s_go cX_test_64 cX_test_65 rfl rfl
theorem rX_test_65 {s3 : Nat} {s0 s1 s2 : Int} {u0 u1 u2 u3 : zV} (hk : zKd sh s3 = 10) : zS 129 65 [u0, u1, u2, u3] [zI s0, zI s1, zI s2, zR s3] sh pp mm Q ↔ zS 98 0 [zR s3, zI s2, zI s1, zI s0, zU] [] sh pp mm (fun v sh pp mm => zS 129 68 [zU, zU, zU, zU] (zPush v []) sh pp mm Q) := s_call cX_test_65 cX_test_68 ((if_pos hk).trans rfl) rfl
theorem rX_test_68 {s0 : Int} {u0 u1 u2 u3 : zV} : zS 129 68 [u0, u1, u2, u3] [zI s0] sh pp mm Q ↔ Q (zI s0) sh pp mm := s_ret cX_test_68 rfl
theorem cAX_span : ∀ q ∈ zT130, zCode 130 q.1 = some q.2 := zAll (mid := 130) rfl (by decide +kernel)
theorem cAX_span_0 : ∀ q ∈ zT130_0, zCode 130 q.1 = some q.2 := fun q h => cAX_span q (List.mem_append_left _ h)
theorem cAX_span_1 : ∀ q ∈ zT130_1, zCode 130 q.1 = some q.2 := fun q h => cAX_span q (List.mem_append_right _ (List.mem_append_left _ h))
theorem cAX_span_2 : ∀ q ∈ zT130_2, zCode 130 q.1 = some q.2 := fun q h => cAX_span q (List.mem_append_right _ (List.mem_append_right _ (List.mem_append_left _ h)))
theorem cAX_span_3 : ∀ q ∈ zT130_3, zCode 130 q.1 = some q.2 := fun q h => cAX_span q (List.mem_append_right _ (List.mem_append_right _ (List.mem_append_right _ (List.mem_append_left _ h))))
theorem cAX_span_4 : ∀ q ∈ zT130_4, zCode 130 q.1 = some q.2 := fun q h => cAX_span q (List.mem_append_right _ (List.mem_append_right _ (List.mem_append_right _ (List.mem_append_right _ (List.mem_append_left _ h)))))
theorem cAX_span_5 : ∀ q ∈ zT130_5, zCode 130 q.1 = some q.2 := fun q h => cAX_span q (List.mem_append_right _ (List.mem_append_right _ (List.mem_append_right _ (List.mem_append_right _ (List.mem_append_right _ h)))))
theorem cX_span_0 : zCode 130 0 = some (.iload_n 1, 1, 0, 0, 0, 0, 7) := cAX_span_0 _ (List.mem_of_getElem? (i := 0) rfl)
theorem cX_span_1 : zCode 130 1 = some (.invokestatic 162, 4, 141, 1, 1, 11, 7) := cAX_span_0 _ (List.mem_of_getElem? (i := 1) rfl)
theorem cX_span_4 : zCode 130 4 = some (.ifCond .eq 12, 7, 16, 0, 0, 0, 7) := cAX_span_0 _ (List.mem_of_getElem? (i := 2) rfl)
theorem cX_span_7 : zCode 130 7 = some (.iload_n 2, 8, 0, 0, 0, 0, 7) := cAX_span_0 _ (List.mem_of_getElem? (i := 3) rfl)
theorem cX_span_8 : zCode 130 8 = some (.iconst 0, 9, 0, 0, 0, 0, 7) := cAX_span_0 _ (List.mem_of_getElem? (i := 4) rfl)
theorem cX_span_9 : zCode 130 9 = some (.iconst 1, 10, 0, 0, 0, 0, 7) := cAX_span_0 _ (List.mem_of_getElem? (i := 5) rfl)
theorem cX_span_10 : zCode 130 10 = some (.invokestatic 150, 13, 139, 3, 3, 11, 7) := cAX_span_0 _ (List.mem_of_getElem? (i := 6) rfl)
theorem cX_span_13 : zCode 130 13 = some (.ifCond .ne 11, 16, 24, 0, 0, 0, 7) := cAX_span_0 _ (List.mem_of_getElem? (i := 7) rfl)
theorem cX_span_16 : zCode 130 16 = some (.aload_n 0, 17, 0, 0, 0, 0, 1) := cAX_span_0 _ (List.mem_of_getElem? (i := 8) rfl)
theorem cX_span_17 : zCode 130 17 = some (.iconst 0, 18, 0, 0, 0, 0, 0) := cAX_span_0 _ (List.mem_of_getElem? (i := 9) rfl)
theorem cX_span_18 : zCode 130 18 = some (.bipush (-2), 20, 0, 0, 0, 0, 0) := cAX_span_0 _ (List.mem_of_getElem? (i := 10) rfl)
theorem cX_span_20 : zCode 130 20 = some (.invokevirtual 72, 23, 138, 2, 3, 11, 0) := cAX_span_0 _ (List.mem_of_getElem? (i := 11) rfl)
theorem cX_span_23 : zCode 130 23 = some (.ireturn, 24, 0, 0, 0, 0, 0) := cAX_span_0 _ (List.mem_of_getElem? (i := 12) rfl)
theorem cX_span_24 : zCode 130 24 = some (.getstatic 66, 27, 2, 538, 2, 0, 7) := cAX_span_0 _ (List.mem_of_getElem? (i := 13) rfl)
theorem cX_span_27 : zCode 130 27 = some (.iconst 0, 28, 0, 0, 0, 0, 7) := cAX_span_0 _ (List.mem_of_getElem? (i := 14) rfl)
theorem cX_span_28 : zCode 130 28 = some (.iaload, 29, 0, 0, 0, 0, 7) := cAX_span_0 _ (List.mem_of_getElem? (i := 15) rfl)
theorem cX_span_29 : zCode 130 29 = some (.istore_n 3, 30, 0, 0, 0, 0, 7) := cAX_span_1 _ (List.mem_of_getElem? (i := 0) rfl)
theorem cX_span_30 : zCode 130 30 = some (.getstatic 69, 33, 3, 540, 2, 0, 15) := cAX_span_1 _ (List.mem_of_getElem? (i := 1) rfl)
theorem cX_span_33 : zCode 130 33 = some (.iconst 0, 34, 0, 0, 0, 0, 15) := cAX_span_1 _ (List.mem_of_getElem? (i := 2) rfl)
theorem cX_span_34 : zCode 130 34 = some (.iaload, 35, 0, 0, 0, 0, 15) := cAX_span_1 _ (List.mem_of_getElem? (i := 3) rfl)
theorem cX_span_35 : zCode 130 35 = some (.istore 4, 37, 0, 0, 0, 0, 15) := cAX_span_1 _ (List.mem_of_getElem? (i := 4) rfl)
theorem cX_span_37 : zCode 130 37 = some (.iconst 0, 38, 0, 0, 0, 0, 31) := cAX_span_1 _ (List.mem_of_getElem? (i := 5) rfl)
theorem cX_span_38 : zCode 130 38 = some (.istore 5, 40, 0, 0, 0, 0, 31) := cAX_span_1 _ (List.mem_of_getElem? (i := 6) rfl)
theorem cX_span_40 : zCode 130 40 = some (.iload 5, 42, 0, 0, 0, 0, 63) := cAX_span_1 _ (List.mem_of_getElem? (i := 7) rfl)
theorem cX_span_42 : zCode 130 42 = some (.aload_n 0, 43, 0, 0, 0, 0, 63) := cAX_span_1 _ (List.mem_of_getElem? (i := 8) rfl)
theorem cX_span_43 : zCode 130 43 = some (.getfield 10, 46, 11, 0, 2, 506, 63) := cAX_span_1 _ (List.mem_of_getElem? (i := 9) rfl)
theorem cX_span_46 : zCode 130 46 = some (.getfield 223, 49, 9, 5, 2, 178, 63) := cAX_span_1 _ (List.mem_of_getElem? (i := 10) rfl)
theorem cX_span_49 : zCode 130 49 = some (.getfield 93, 52, 10, 3, 0, 145, 63) := cAX_span_1 _ (List.mem_of_getElem? (i := 11) rfl)
theorem cX_span_52 : zCode 130 52 = some (.if_icmp .ge 85, 55, 137, 0, 0, 0, 63) := cAX_span_1 _ (List.mem_of_getElem? (i := 12) rfl)
theorem cX_span_55 : zCode 130 55 = some (.aload_n 0, 56, 0, 0, 0, 0, 63) := cAX_span_1 _ (List.mem_of_getElem? (i := 13) rfl)
theorem cX_span_56 : zCode 130 56 = some (.getfield 10, 59, 11, 0, 2, 506, 63) := cAX_span_1 _ (List.mem_of_getElem? (i := 14) rfl)
theorem cX_span_59 : zCode 130 59 = some (.getfield 223, 62, 9, 5, 2, 178, 63) := cAX_span_1 _ (List.mem_of_getElem? (i := 15) rfl)
theorem cX_span_62 : zCode 130 62 = some (.iload 5, 64, 0, 0, 0, 0, 63) := cAX_span_2 _ (List.mem_of_getElem? (i := 0) rfl)
theorem cX_span_64 : zCode 130 64 = some (.iconst 0, 65, 0, 0, 0, 0, 63) := cAX_span_2 _ (List.mem_of_getElem? (i := 1) rfl)
theorem cX_span_65 : zCode 130 65 = some (.invokevirtual 165, 68, 97, 2, 4, 10, 63) := cAX_span_2 _ (List.mem_of_getElem? (i := 2) rfl)
theorem cX_span_68 : zCode 130 68 = some (.iload_n 1, 69, 0, 0, 0, 0, 63) := cAX_span_2 _ (List.mem_of_getElem? (i := 3) rfl)
theorem cX_span_69 : zCode 130 69 = some (.if_icmp .ne 62, 72, 131, 0, 0, 0, 63) := cAX_span_2 _ (List.mem_of_getElem? (i := 4) rfl)
theorem cX_span_72 : zCode 130 72 = some (.aload_n 0, 73, 0, 0, 0, 0, 63) := cAX_span_2 _ (List.mem_of_getElem? (i := 5) rfl)
theorem cX_span_73 : zCode 130 73 = some (.getfield 10, 76, 11, 0, 2, 506, 63) := cAX_span_2 _ (List.mem_of_getElem? (i := 6) rfl)
theorem cX_span_76 : zCode 130 76 = some (.getfield 223, 79, 9, 5, 2, 178, 63) := cAX_span_2 _ (List.mem_of_getElem? (i := 7) rfl)
theorem cX_span_79 : zCode 130 79 = some (.iload 5, 81, 0, 0, 0, 0, 63) := cAX_span_2 _ (List.mem_of_getElem? (i := 8) rfl)
theorem cX_span_81 : zCode 130 81 = some (.iconst 2, 82, 0, 0, 0, 0, 63) := cAX_span_2 _ (List.mem_of_getElem? (i := 9) rfl)
theorem cX_span_82 : zCode 130 82 = some (.invokevirtual 165, 85, 97, 2, 4, 10, 63) := cAX_span_2 _ (List.mem_of_getElem? (i := 10) rfl)
theorem cX_span_85 : zCode 130 85 = some (.istore 6, 87, 0, 0, 0, 0, 63) := cAX_span_2 _ (List.mem_of_getElem? (i := 11) rfl)
theorem cX_span_87 : zCode 130 87 = some (.aload_n 0, 88, 0, 0, 0, 0, 127) := cAX_span_2 _ (List.mem_of_getElem? (i := 12) rfl)
theorem cX_span_88 : zCode 130 88 = some (.getfield 10, 91, 11, 0, 2, 506, 127) := cAX_span_2 _ (List.mem_of_getElem? (i := 13) rfl)
theorem cX_span_91 : zCode 130 91 = some (.getfield 223, 94, 9, 5, 2, 178, 127) := cAX_span_2 _ (List.mem_of_getElem? (i := 14) rfl)
theorem cX_span_94 : zCode 130 94 = some (.iload 5, 96, 0, 0, 0, 0, 127) := cAX_span_2 _ (List.mem_of_getElem? (i := 15) rfl)
theorem cX_span_96 : zCode 130 96 = some (.iconst 1, 97, 0, 0, 0, 0, 127) := cAX_span_3 _ (List.mem_of_getElem? (i := 0) rfl)
theorem cX_span_97 : zCode 130 97 = some (.invokevirtual 165, 100, 97, 2, 4, 10, 127) := cAX_span_3 _ (List.mem_of_getElem? (i := 1) rfl)
theorem cX_span_100 : zCode 130 100 = some (.iload 6, 102, 0, 0, 0, 0, 127) := cAX_span_3 _ (List.mem_of_getElem? (i := 2) rfl)
theorem cX_span_102 : zCode 130 102 = some (.isub, 103, 0, 0, 0, 0, 127) := cAX_span_3 _ (List.mem_of_getElem? (i := 3) rfl)
theorem cX_span_103 : zCode 130 103 = some (.istore 7, 105, 0, 0, 0, 0, 127) := cAX_span_3 _ (List.mem_of_getElem? (i := 4) rfl)
theorem cX_span_105 : zCode 130 105 = some (.iload_n 3, 106, 0, 0, 0, 0, 255) := cAX_span_3 _ (List.mem_of_getElem? (i := 5) rfl)
theorem cX_span_106 : zCode 130 106 = some (.iload 7, 108, 0, 0, 0, 0, 247) := cAX_span_3 _ (List.mem_of_getElem? (i := 6) rfl)
theorem cX_span_108 : zCode 130 108 = some (.invokestatic 226, 111, 259, 2, 2, 15, 247) := cAX_span_3 _ (List.mem_of_getElem? (i := 7) rfl)
theorem cX_span_111 : zCode 130 111 = some (.istore_n 3, 112, 0, 0, 0, 0, 247) := cAX_span_3 _ (List.mem_of_getElem? (i := 8) rfl)
theorem cX_span_112 : zCode 130 112 = some (.iload 6, 114, 0, 0, 0, 0, 255) := cAX_span_3 _ (List.mem_of_getElem? (i := 9) rfl)
theorem cX_span_114 : zCode 130 114 = some (.ifCond .le 13, 117, 127, 0, 0, 0, 191) := cAX_span_3 _ (List.mem_of_getElem? (i := 10) rfl)
theorem cX_span_117 : zCode 130 117 = some (.iload 4, 119, 0, 0, 0, 0, 191) := cAX_span_3 _ (List.mem_of_getElem? (i := 11) rfl)
theorem cX_span_119 : zCode 130 119 = some (.iload 7, 121, 0, 0, 0, 0, 175) := cAX_span_3 _ (List.mem_of_getElem? (i := 12) rfl)
theorem cX_span_121 : zCode 130 121 = some (.invokestatic 229, 124, 260, 2, 2, 15, 47) := cAX_span_3 _ (List.mem_of_getElem? (i := 13) rfl)
theorem cX_span_124 : zCode 130 124 = some (.goto 5, 127, 129, 0, 0, 0, 47) := cAX_span_3 _ (List.mem_of_getElem? (i := 14) rfl)
theorem cX_span_127 : zCode 130 127 = some (.iload 4, 129, 0, 0, 0, 0, 63) := cAX_span_3 _ (List.mem_of_getElem? (i := 15) rfl)
theorem cX_span_129 : zCode 130 129 = some (.istore 4, 131, 0, 0, 0, 0, 47) := cAX_span_4 _ (List.mem_of_getElem? (i := 0) rfl)
theorem cX_span_131 : zCode 130 131 = some (.iinc 5 1, 134, 0, 0, 0, 0, 63) := cAX_span_4 _ (List.mem_of_getElem? (i := 1) rfl)
theorem cX_span_134 : zCode 130 134 = some (.goto (-94), 137, 40, 0, 0, 0, 63) := cAX_span_4 _ (List.mem_of_getElem? (i := 2) rfl)
theorem cX_span_137 : zCode 130 137 = some (.iload_n 3, 138, 0, 0, 0, 0, 29) := cAX_span_4 _ (List.mem_of_getElem? (i := 3) rfl)
theorem cX_span_138 : zCode 130 138 = some (.iload 4, 140, 0, 0, 0, 0, 29) := cAX_span_4 _ (List.mem_of_getElem? (i := 4) rfl)
theorem cX_span_140 : zCode 130 140 = some (.if_icmp .le 11, 143, 151, 0, 0, 0, 29) := cAX_span_4 _ (List.mem_of_getElem? (i := 5) rfl)
theorem cX_span_143 : zCode 130 143 = some (.aload_n 0, 144, 0, 0, 0, 0, 1) := cAX_span_4 _ (List.mem_of_getElem? (i := 6) rfl)
theorem cX_span_144 : zCode 130 144 = some (.iconst 1, 145, 0, 0, 0, 0, 0) := cAX_span_4 _ (List.mem_of_getElem? (i := 7) rfl)
theorem cX_span_145 : zCode 130 145 = some (.bipush (-3), 147, 0, 0, 0, 0, 0) := cAX_span_4 _ (List.mem_of_getElem? (i := 8) rfl)
theorem cX_span_147 : zCode 130 147 = some (.invokevirtual 72, 150, 138, 2, 3, 11, 0) := cAX_span_4 _ (List.mem_of_getElem? (i := 9) rfl)
theorem cX_span_150 : zCode 130 150 = some (.ireturn, 151, 0, 0, 0, 0, 0) := cAX_span_4 _ (List.mem_of_getElem? (i := 10) rfl)
theorem cX_span_151 : zCode 130 151 = some (.iload_n 2, 152, 0, 0, 0, 0, 28) := cAX_span_4 _ (List.mem_of_getElem? (i := 11) rfl)
theorem cX_span_152 : zCode 130 152 = some (.ifCond .ne 7, 155, 159, 0, 0, 0, 24) := cAX_span_4 _ (List.mem_of_getElem? (i := 12) rfl)
theorem cX_span_155 : zCode 130 155 = some (.iload_n 3, 156, 0, 0, 0, 0, 8) := cAX_span_4 _ (List.mem_of_getElem? (i := 13) rfl)
theorem cX_span_156 : zCode 130 156 = some (.goto 5, 159, 161, 0, 0, 0, 0) := cAX_span_4 _ (List.mem_of_getElem? (i := 14) rfl)
theorem cX_span_159 : zCode 130 159 = some (.iload 4, 161, 0, 0, 0, 0, 16) := cAX_span_4 _ (List.mem_of_getElem? (i := 15) rfl)
theorem cX_span_161 : zCode 130 161 = some (.ireturn, 162, 0, 0, 0, 0, 0) := cAX_span_5 _ (List.mem_of_getElem? (i := 0) rfl)
theorem rX_span_0 {a0 : Nat} {a1 a2 : Int} {u3 u4 u5 u6 u7 : zV} : zS 130 0 [zR a0, zI a1, zI a2, u3, u4, u5, u6, u7] [] sh pp mm Q ↔ zS 130 1 [zR a0, zI a1, zI a2, zU, zU, zU, zU, zU] [zI a1] sh pp mm Q := s_go cX_span_0 cX_span_1 rfl rfl
theorem rX_span_1 {a0 : Nat} {a1 a2 s0 : Int} {u3 u4 u5 u6 u7 : zV} : zS 130 1 [zR a0, zI a1, zI a2, u3, u4, u5, u6, u7] [zI s0] sh pp mm Q ↔ zS 141 0 [zI s0] [] sh pp mm (fun v sh pp mm => zS 130 4 [zR a0, zI a1, zI a2, zU, zU, zU, zU, zU] (zPush v []) sh pp mm Q) := s_call cX_span_1 cX_span_4 rfl rfl
theorem rX_span_4 {a0 : Nat} {a1 a2 s0 : Int} {u3 u4 u5 u6 u7 : zV} : zS 130 4 [zR a0, zI a1, zI a2, u3, u4, u5, u6, u7] [zI s0] sh pp mm Q ↔ (s0 = 0 → zS 130 16 [zR a0, zU, zU, zU, zU, zU, zU, zU] [] sh pp mm Q) ∧ (¬ s0 = 0 → zS 130 7 [zR a0, zI a1, zI a2, zU, zU, zU, zU, zU] [] sh pp mm Q) := s_if cX_span_4 cX_span_16 cX_span_7 rfl rfl rfl
theorem rX_span_7 {a0 : Nat} {a1 a2 : Int} {u3 u4 u5 u6 u7 : zV} : zS 130 7 [zR a0, zI a1, zI a2, u3, u4, u5, u6, u7] [] sh pp mm Q ↔ zS 130 8 [zR a0, zI a1, zI a2, zU, zU, zU, zU, zU] [zI a2] sh pp mm Q := s_go cX_span_7 cX_span_8 rfl rfl
theorem rX_span_8 {a0 : Nat} {a1 a2 s0 : Int} {u3 u4 u5 u6 u7 : zV} : zS 130 8 [zR a0, zI a1, zI a2, u3, u4, u5, u6, u7] [zI s0] sh pp mm Q ↔ zS 130 9 [zR a0, zI a1, zI a2, zU, zU, zU, zU, zU] [zI 0, zI s0] sh pp mm Q := s_go cX_span_8 cX_span_9 rfl rfl
theorem rX_span_9 {a0 : Nat} {a1 a2 s0 s1 : Int} {u3 u4 u5 u6 u7 : zV} : zS 130 9 [zR a0, zI a1, zI a2, u3, u4, u5, u6, u7] [zI s0, zI s1] sh pp mm Q ↔ zS 130 10 [zR a0, zI a1, zI a2, zU, zU, zU, zU, zU] [zI 1, zI s0, zI s1] sh pp mm Q := s_go cX_span_9 cX_span_10 rfl rfl
theorem rX_span_10 {a0 : Nat} {a1 a2 s0 s1 s2 : Int} {u3 u4 u5 u6 u7 : zV} : zS 130 10 [zR a0, zI a1, zI a2, u3, u4, u5, u6, u7] [zI s0, zI s1, zI s2] sh pp mm Q ↔ zS 139 0 [zI s2, zI s1, zI s0] [] sh pp mm (fun v sh pp mm => zS 130 13 [zR a0, zI a1, zI a2, zU, zU, zU, zU, zU] (zPush v []) sh pp mm Q) := s_call cX_span_10 cX_span_13 rfl rfl
theorem rX_span_13 {a0 : Nat} {a1 a2 s0 : Int} {u3 u4 u5 u6 u7 : zV} : zS 130 13 [zR a0, zI a1, zI a2, u3, u4, u5, u6, u7] [zI s0] sh pp mm Q ↔ (s0 = 0 → zS 130 16 [zR a0, zU, zU, zU, zU, zU, zU, zU] [] sh pp mm Q) ∧ (¬ s0 = 0 → zS 130 24 [zR a0, zI a1, zI a2, zU, zU, zU, zU, zU] [] sh pp mm Q) := s_ifn cX_span_13 cX_span_16 cX_span_24 rfl rfl rfl
theorem rX_span_16 {a0 : Nat} {u1 u2 u3 u4 u5 u6 u7 : zV} : zS 130 16 [zR a0, u1, u2, u3, u4, u5, u6, u7] [] sh pp mm Q ↔ zS 130 17 [zU, zU, zU, zU, zU, zU, zU, zU] [zR a0] sh pp mm Q := s_go cX_span_16 cX_span_17 rfl rfl
theorem rX_span_17 {s0 : Nat} {u0 u1 u2 u3 u4 u5 u6 u7 : zV} : zS 130 17 [u0, u1, u2, u3, u4, u5, u6, u7] [zR s0] sh pp mm Q ↔ zS 130 18 [zU, zU, zU, zU, zU, zU, zU, zU] [zI 0, zR s0] sh pp mm Q := s_go cX_span_17 cX_span_18 rfl rfl
theorem rX_span_18 {s1 : Nat} {s0 : Int} {u0 u1 u2 u3 u4 u5 u6 u7 : zV} : zS 130 18 [u0, u1, u2, u3, u4, u5, u6, u7] [zI s0, zR s1] sh pp mm Q ↔ zS 130 20 [zU, zU, zU, zU, zU, zU, zU, zU] [zI (-2), zI s0, zR s1] sh pp mm Q := s_go cX_span_18 cX_span_20 rfl rfl
theorem rX_span_20 {s2 : Nat} {s0 s1 : Int} {u0 u1 u2 u3 u4 u5 u6 u7 : zV} (hk : zKd sh s2 = 11) : zS 130 20 [u0, u1, u2, u3, u4, u5, u6, u7] [zI s0, zI s1, zR s2] sh pp mm Q ↔ zS 138 0 [zR s2, zI s1, zI s0] [] sh pp mm (fun v sh pp mm => zS 130 23 [zU, zU, zU, zU, zU, zU, zU, zU] (zPush v []) sh pp mm Q) := s_call cX_span_20 cX_span_23 ((if_pos hk).trans rfl) rfl
theorem rX_span_23 {s0 : Int} {u0 u1 u2 u3 u4 u5 u6 u7 : zV} : zS 130 23 [u0, u1, u2, u3, u4, u5, u6, u7] [zI s0] sh pp mm Q ↔ Q (zI s0) sh pp mm := s_ret cX_span_23 rfl
theorem rX_span_24 {a0 : Nat} {a1 a2 : Int} {u3 u4 u5 u6 u7 : zV} : zS 130 24 [zR a0, zI a1, zI a2, u3, u4, u5, u6, u7] [] sh pp mm Q ↔ zS 130 27 [zR a0, zI a1, zI a2, zU, zU, zU, zU, zU] [zR 2] sh pp mm Q := s_go cX_span_24 cX_span_27 rfl rfl
theorem rX_span_27 {a0 s0 : Nat} {a1 a2 : Int} {u3 u4 u5 u6 u7 : zV} : zS 130 27 [zR a0, zI a1, zI a2, u3, u4, u5, u6, u7] [zR s0] sh pp mm Q ↔ zS 130 28 [zR a0, zI a1, zI a2, zU, zU, zU, zU, zU] [zI 0, zR s0] sh pp mm Q := s_go cX_span_27 cX_span_28 rfl rfl
theorem rX_span_28 {a0 s1 : Nat} {a1 a2 s0 : Int} {u3 u4 u5 u6 u7 : zV} (hk : zKd sh s1 = 20 ∨ zKd sh s1 = 30) (h0 : 0 ≤ s0) (h1 : s0 < zLn sh s1) : zS 130 28 [zR a0, zI a1, zI a2, u3, u4, u5, u6, u7] [zI s0, zR s1] sh pp mm Q ↔ zS 130 29 [zR a0, zI a1, zI a2, zU, zU, zU, zU, zU] [zI (mm s1 s0)] sh pp mm Q := s_go cX_span_28 cX_span_29 (if_pos ⟨hk, h0, h1⟩) rfl
theorem rX_span_29 {a0 : Nat} {a1 a2 s0 : Int} {u3 u4 u5 u6 u7 : zV} : zS 130 29 [zR a0, zI a1, zI a2, u3, u4, u5, u6, u7] [zI s0] sh pp mm Q ↔ zS 130 30 [zR a0, zI a1, zI a2, zI s0, zU, zU, zU, zU] [] sh pp mm Q := s_go cX_span_29 cX_span_30 rfl rfl
theorem rX_span_30 {a0 : Nat} {a1 a2 a3 : Int} {u4 u5 u6 u7 : zV} : zS 130 30 [zR a0, zI a1, zI a2, zI a3, u4, u5, u6, u7] [] sh pp mm Q ↔ zS 130 33 [zR a0, zI a1, zI a2, zI a3, zU, zU, zU, zU] [zR 3] sh pp mm Q := s_go cX_span_30 cX_span_33 rfl rfl
theorem rX_span_33 {a0 s0 : Nat} {a1 a2 a3 : Int} {u4 u5 u6 u7 : zV} : zS 130 33 [zR a0, zI a1, zI a2, zI a3, u4, u5, u6, u7] [zR s0] sh pp mm Q ↔ zS 130 34 [zR a0, zI a1, zI a2, zI a3, zU, zU, zU, zU] [zI 0, zR s0] sh pp mm Q := s_go cX_span_33 cX_span_34 rfl rfl
theorem rX_span_34 {a0 s1 : Nat} {a1 a2 a3 s0 : Int} {u4 u5 u6 u7 : zV} (hk : zKd sh s1 = 20 ∨ zKd sh s1 = 30) (h0 : 0 ≤ s0) (h1 : s0 < zLn sh s1) : zS 130 34 [zR a0, zI a1, zI a2, zI a3, u4, u5, u6, u7] [zI s0, zR s1] sh pp mm Q ↔ zS 130 35 [zR a0, zI a1, zI a2, zI a3, zU, zU, zU, zU] [zI (mm s1 s0)] sh pp mm Q := s_go cX_span_34 cX_span_35 (if_pos ⟨hk, h0, h1⟩) rfl
theorem rX_span_35 {a0 : Nat} {a1 a2 a3 s0 : Int} {u4 u5 u6 u7 : zV} : zS 130 35 [zR a0, zI a1, zI a2, zI a3, u4, u5, u6, u7] [zI s0] sh pp mm Q ↔ zS 130 37 [zR a0, zI a1, zI a2, zI a3, zI s0, zU, zU, zU] [] sh pp mm Q := s_go cX_span_35 cX_span_37 rfl rfl
theorem rX_span_37 {a0 : Nat} {a1 a2 a3 a4 : Int} {u5 u6 u7 : zV} : zS 130 37 [zR a0, zI a1, zI a2, zI a3, zI a4, u5, u6, u7] [] sh pp mm Q ↔ zS 130 38 [zR a0, zI a1, zI a2, zI a3, zI a4, zU, zU, zU] [zI 0] sh pp mm Q := s_go cX_span_37 cX_span_38 rfl rfl
theorem rX_span_38 {a0 : Nat} {a1 a2 a3 a4 s0 : Int} {u5 u6 u7 : zV} : zS 130 38 [zR a0, zI a1, zI a2, zI a3, zI a4, u5, u6, u7] [zI s0] sh pp mm Q ↔ zS 130 40 [zR a0, zI a1, zI a2, zI a3, zI a4, zI s0, zU, zU] [] sh pp mm Q := s_go cX_span_38 cX_span_40 rfl rfl
theorem rX_span_40 {a0 : Nat} {a1 a2 a3 a4 a5 : Int} {u6 u7 : zV} : zS 130 40 [zR a0, zI a1, zI a2, zI a3, zI a4, zI a5, u6, u7] [] sh pp mm Q ↔ zS 130 42 [zR a0, zI a1, zI a2, zI a3, zI a4, zI a5, zU, zU] [zI a5] sh pp mm Q := s_go cX_span_40 cX_span_42 rfl rfl
theorem rX_span_42 {a0 : Nat} {a1 a2 a3 a4 a5 s0 : Int} {u6 u7 : zV} : zS 130 42 [zR a0, zI a1, zI a2, zI a3, zI a4, zI a5, u6, u7] [zI s0] sh pp mm Q ↔ zS 130 43 [zR a0, zI a1, zI a2, zI a3, zI a4, zI a5, zU, zU] [zR a0, zI s0] sh pp mm Q := s_go cX_span_42 cX_span_43 rfl rfl
theorem rX_span_43 {a0 s0 : Nat} {a1 a2 a3 a4 a5 s1 : Int} {u6 u7 : zV} (hk : zKd sh s0 = 11) : zS 130 43 [zR a0, zI a1, zI a2, zI a3, zI a4, zI a5, u6, u7] [zR s0, zI s1] sh pp mm Q ↔ zS 130 46 [zR a0, zI a1, zI a2, zI a3, zI a4, zI a5, zU, zU] [zR (pp s0 0), zI s1] sh pp mm Q := s_go cX_span_43 cX_span_46 (if_pos hk) rfl
theorem rX_span_46 {a0 s0 : Nat} {a1 a2 a3 a4 a5 s1 : Int} {u6 u7 : zV} (hk : zKd sh s0 = 9) : zS 130 46 [zR a0, zI a1, zI a2, zI a3, zI a4, zI a5, u6, u7] [zR s0, zI s1] sh pp mm Q ↔ zS 130 49 [zR a0, zI a1, zI a2, zI a3, zI a4, zI a5, zU, zU] [zR (pp s0 5), zI s1] sh pp mm Q := s_go cX_span_46 cX_span_49 (if_pos hk) rfl
theorem rX_span_49 {a0 s0 : Nat} {a1 a2 a3 a4 a5 s1 : Int} {u6 u7 : zV} (hk : zKd sh s0 = 10) : zS 130 49 [zR a0, zI a1, zI a2, zI a3, zI a4, zI a5, u6, u7] [zR s0, zI s1] sh pp mm Q ↔ zS 130 52 [zR a0, zI a1, zI a2, zI a3, zI a4, zI a5, zU, zU] [zI (mm s0 3), zI s1] sh pp mm Q := s_go cX_span_49 cX_span_52 (if_pos hk) rfl
theorem rX_span_52 {a0 : Nat} {a1 a2 a3 a4 a5 s0 s1 : Int} {u6 u7 : zV} : zS 130 52 [zR a0, zI a1, zI a2, zI a3, zI a4, zI a5, u6, u7] [zI s0, zI s1] sh pp mm Q ↔ (s1 < s0 → zS 130 55 [zR a0, zI a1, zI a2, zI a3, zI a4, zI a5, zU, zU] [] sh pp mm Q) ∧ (¬ s1 < s0 → zS 130 137 [zR a0, zU, zI a2, zI a3, zI a4, zU, zU, zU] [] sh pp mm Q) := s_ifn cX_span_52 cX_span_55 cX_span_137 rfl rfl rfl
theorem rX_span_55 {a0 : Nat} {a1 a2 a3 a4 a5 : Int} {u6 u7 : zV} : zS 130 55 [zR a0, zI a1, zI a2, zI a3, zI a4, zI a5, u6, u7] [] sh pp mm Q ↔ zS 130 56 [zR a0, zI a1, zI a2, zI a3, zI a4, zI a5, zU, zU] [zR a0] sh pp mm Q := s_go cX_span_55 cX_span_56 rfl rfl
theorem rX_span_56 {a0 s0 : Nat} {a1 a2 a3 a4 a5 : Int} {u6 u7 : zV} (hk : zKd sh s0 = 11) : zS 130 56 [zR a0, zI a1, zI a2, zI a3, zI a4, zI a5, u6, u7] [zR s0] sh pp mm Q ↔ zS 130 59 [zR a0, zI a1, zI a2, zI a3, zI a4, zI a5, zU, zU] [zR (pp s0 0)] sh pp mm Q := s_go cX_span_56 cX_span_59 (if_pos hk) rfl
theorem rX_span_59 {a0 s0 : Nat} {a1 a2 a3 a4 a5 : Int} {u6 u7 : zV} (hk : zKd sh s0 = 9) : zS 130 59 [zR a0, zI a1, zI a2, zI a3, zI a4, zI a5, u6, u7] [zR s0] sh pp mm Q ↔ zS 130 62 [zR a0, zI a1, zI a2, zI a3, zI a4, zI a5, zU, zU] [zR (pp s0 5)] sh pp mm Q := s_go cX_span_59 cX_span_62 (if_pos hk) rfl
theorem rX_span_62 {a0 s0 : Nat} {a1 a2 a3 a4 a5 : Int} {u6 u7 : zV} : zS 130 62 [zR a0, zI a1, zI a2, zI a3, zI a4, zI a5, u6, u7] [zR s0] sh pp mm Q ↔ zS 130 64 [zR a0, zI a1, zI a2, zI a3, zI a4, zI a5, zU, zU] [zI a5, zR s0] sh pp mm Q := s_go cX_span_62 cX_span_64 rfl rfl
theorem rX_span_64 {a0 s1 : Nat} {a1 a2 a3 a4 a5 s0 : Int} {u6 u7 : zV} : zS 130 64 [zR a0, zI a1, zI a2, zI a3, zI a4, zI a5, u6, u7] [zI s0, zR s1] sh pp mm Q ↔ zS 130 65 [zR a0, zI a1, zI a2, zI a3, zI a4, zI a5, zU, zU] [zI 0, zI s0, zR s1] sh pp mm Q := s_go cX_span_64 cX_span_65 rfl rfl
theorem rX_span_65 {a0 s2 : Nat} {a1 a2 a3 a4 a5 s0 s1 : Int} {u6 u7 : zV} (hk : zKd sh s2 = 10) : zS 130 65 [zR a0, zI a1, zI a2, zI a3, zI a4, zI a5, u6, u7] [zI s0, zI s1, zR s2] sh pp mm Q ↔ zS 97 0 [zR s2, zI s1, zI s0, zU] [] sh pp mm (fun v sh pp mm => zS 130 68 [zR a0, zI a1, zI a2, zI a3, zI a4, zI a5, zU, zU] (zPush v []) sh pp mm Q) := s_call cX_span_65 cX_span_68 ((if_pos hk).trans rfl) rfl
theorem rX_span_68 {a0 : Nat} {a1 a2 a3 a4 a5 s0 : Int} {u6 u7 : zV} : zS 130 68 [zR a0, zI a1, zI a2, zI a3, zI a4, zI a5, u6, u7] [zI s0] sh pp mm Q ↔ zS 130 69 [zR a0, zI a1, zI a2, zI a3, zI a4, zI a5, zU, zU] [zI a1, zI s0] sh pp mm Q := s_go cX_span_68 cX_span_69 rfl rfl
theorem rX_span_69 {a0 : Nat} {a1 a2 a3 a4 a5 s0 s1 : Int} {u6 u7 : zV} : zS 130 69 [zR a0, zI a1, zI a2, zI a3, zI a4, zI a5, u6, u7] [zI s0, zI s1] sh pp mm Q ↔ (s1 = s0 → zS 130 72 [zR a0, zI a1, zI a2, zI a3, zI a4, zI a5, zU, zU] [] sh pp mm Q) ∧ (¬ s1 = s0 → zS 130 131 [zR a0, zI a1, zI a2, zI a3, zI a4, zI a5, zU, zU] [] sh pp mm Q) := s_ifn cX_span_69 cX_span_72 cX_span_131 rfl rfl rfl
theorem rX_span_72 {a0 : Nat} {a1 a2 a3 a4 a5 : Int} {u6 u7 : zV} : zS 130 72 [zR a0, zI a1, zI a2, zI a3, zI a4, zI a5, u6, u7] [] sh pp mm Q ↔ zS 130 73 [zR a0, zI a1, zI a2, zI a3, zI a4, zI a5, zU, zU] [zR a0] sh pp mm Q := s_go cX_span_72 cX_span_73 rfl rfl
theorem rX_span_73 {a0 s0 : Nat} {a1 a2 a3 a4 a5 : Int} {u6 u7 : zV} (hk : zKd sh s0 = 11) : zS 130 73 [zR a0, zI a1, zI a2, zI a3, zI a4, zI a5, u6, u7] [zR s0] sh pp mm Q ↔ zS 130 76 [zR a0, zI a1, zI a2, zI a3, zI a4, zI a5, zU, zU] [zR (pp s0 0)] sh pp mm Q := s_go cX_span_73 cX_span_76 (if_pos hk) rfl
theorem rX_span_76 {a0 s0 : Nat} {a1 a2 a3 a4 a5 : Int} {u6 u7 : zV} (hk : zKd sh s0 = 9) : zS 130 76 [zR a0, zI a1, zI a2, zI a3, zI a4, zI a5, u6, u7] [zR s0] sh pp mm Q ↔ zS 130 79 [zR a0, zI a1, zI a2, zI a3, zI a4, zI a5, zU, zU] [zR (pp s0 5)] sh pp mm Q := s_go cX_span_76 cX_span_79 (if_pos hk) rfl
theorem rX_span_79 {a0 s0 : Nat} {a1 a2 a3 a4 a5 : Int} {u6 u7 : zV} : zS 130 79 [zR a0, zI a1, zI a2, zI a3, zI a4, zI a5, u6, u7] [zR s0] sh pp mm Q ↔ zS 130 81 [zR a0, zI a1, zI a2, zI a3, zI a4, zI a5, zU, zU] [zI a5, zR s0] sh pp mm Q := s_go cX_span_79 cX_span_81 rfl rfl
theorem rX_span_81 {a0 s1 : Nat} {a1 a2 a3 a4 a5 s0 : Int} {u6 u7 : zV} : zS 130 81 [zR a0, zI a1, zI a2, zI a3, zI a4, zI a5, u6, u7] [zI s0, zR s1] sh pp mm Q ↔ zS 130 82 [zR a0, zI a1, zI a2, zI a3, zI a4, zI a5, zU, zU] [zI 2, zI s0, zR s1] sh pp mm Q := s_go cX_span_81 cX_span_82 rfl rfl
theorem rX_span_82 {a0 s2 : Nat} {a1 a2 a3 a4 a5 s0 s1 : Int} {u6 u7 : zV} (hk : zKd sh s2 = 10) : zS 130 82 [zR a0, zI a1, zI a2, zI a3, zI a4, zI a5, u6, u7] [zI s0, zI s1, zR s2] sh pp mm Q ↔ zS 97 0 [zR s2, zI s1, zI s0, zU] [] sh pp mm (fun v sh pp mm => zS 130 85 [zR a0, zI a1, zI a2, zI a3, zI a4, zI a5, zU, zU] (zPush v []) sh pp mm Q) := s_call cX_span_82 cX_span_85 ((if_pos hk).trans rfl) rfl
theorem rX_span_85 {a0 : Nat} {a1 a2 a3 a4 a5 s0 : Int} {u6 u7 : zV} : zS 130 85 [zR a0, zI a1, zI a2, zI a3, zI a4, zI a5, u6, u7] [zI s0] sh pp mm Q ↔ zS 130 87 [zR a0, zI a1, zI a2, zI a3, zI a4, zI a5, zI s0, zU] [] sh pp mm Q := s_go cX_span_85 cX_span_87 rfl rfl
theorem rX_span_87 {a0 : Nat} {a1 a2 a3 a4 a5 a6 : Int} {u7 : zV} : zS 130 87 [zR a0, zI a1, zI a2, zI a3, zI a4, zI a5, zI a6, u7] [] sh pp mm Q ↔ zS 130 88 [zR a0, zI a1, zI a2, zI a3, zI a4, zI a5, zI a6, zU] [zR a0] sh pp mm Q := s_go cX_span_87 cX_span_88 rfl rfl
theorem rX_span_88 {a0 s0 : Nat} {a1 a2 a3 a4 a5 a6 : Int} {u7 : zV} (hk : zKd sh s0 = 11) : zS 130 88 [zR a0, zI a1, zI a2, zI a3, zI a4, zI a5, zI a6, u7] [zR s0] sh pp mm Q ↔ zS 130 91 [zR a0, zI a1, zI a2, zI a3, zI a4, zI a5, zI a6, zU] [zR (pp s0 0)] sh pp mm Q := s_go cX_span_88 cX_span_91 (if_pos hk) rfl
theorem rX_span_91 {a0 s0 : Nat} {a1 a2 a3 a4 a5 a6 : Int} {u7 : zV} (hk : zKd sh s0 = 9) : zS 130 91 [zR a0, zI a1, zI a2, zI a3, zI a4, zI a5, zI a6, u7] [zR s0] sh pp mm Q ↔ zS 130 94 [zR a0, zI a1, zI a2, zI a3, zI a4, zI a5, zI a6, zU] [zR (pp s0 5)] sh pp mm Q := s_go cX_span_91 cX_span_94 (if_pos hk) rfl
theorem rX_span_94 {a0 s0 : Nat} {a1 a2 a3 a4 a5 a6 : Int} {u7 : zV} : zS 130 94 [zR a0, zI a1, zI a2, zI a3, zI a4, zI a5, zI a6, u7] [zR s0] sh pp mm Q ↔ zS 130 96 [zR a0, zI a1, zI a2, zI a3, zI a4, zI a5, zI a6, zU] [zI a5, zR s0] sh pp mm Q := s_go cX_span_94 cX_span_96 rfl rfl
theorem rX_span_96 {a0 s1 : Nat} {a1 a2 a3 a4 a5 a6 s0 : Int} {u7 : zV} : zS 130 96 [zR a0, zI a1, zI a2, zI a3, zI a4, zI a5, zI a6, u7] [zI s0, zR s1] sh pp mm Q ↔ zS 130 97 [zR a0, zI a1, zI a2, zI a3, zI a4, zI a5, zI a6, zU] [zI 1, zI s0, zR s1] sh pp mm Q := s_go cX_span_96 cX_span_97 rfl rfl
theorem rX_span_97 {a0 s2 : Nat} {a1 a2 a3 a4 a5 a6 s0 s1 : Int} {u7 : zV} (hk : zKd sh s2 = 10) : zS 130 97 [zR a0, zI a1, zI a2, zI a3, zI a4, zI a5, zI a6, u7] [zI s0, zI s1, zR s2] sh pp mm Q ↔ zS 97 0 [zR s2, zI s1, zI s0, zU] [] sh pp mm (fun v sh pp mm => zS 130 100 [zR a0, zI a1, zI a2, zI a3, zI a4, zI a5, zI a6, zU] (zPush v []) sh pp mm Q) := s_call cX_span_97 cX_span_100 ((if_pos hk).trans rfl) rfl
theorem rX_span_100 {a0 : Nat} {a1 a2 a3 a4 a5 a6 s0 : Int} {u7 : zV} : zS 130 100 [zR a0, zI a1, zI a2, zI a3, zI a4, zI a5, zI a6, u7] [zI s0] sh pp mm Q ↔ zS 130 102 [zR a0, zI a1, zI a2, zI a3, zI a4, zI a5, zI a6, zU] [zI a6, zI s0] sh pp mm Q := s_go cX_span_100 cX_span_102 rfl rfl
theorem rX_span_102 {a0 : Nat} {a1 a2 a3 a4 a5 a6 s0 s1 : Int} {u7 : zV} : zS 130 102 [zR a0, zI a1, zI a2, zI a3, zI a4, zI a5, zI a6, u7] [zI s0, zI s1] sh pp mm Q ↔ zS 130 103 [zR a0, zI a1, zI a2, zI a3, zI a4, zI a5, zI a6, zU] [zI (zw32 (s1 - s0))] sh pp mm Q := s_go cX_span_102 cX_span_103 rfl rfl
theorem rX_span_103 {a0 : Nat} {a1 a2 a3 a4 a5 a6 s0 : Int} {u7 : zV} : zS 130 103 [zR a0, zI a1, zI a2, zI a3, zI a4, zI a5, zI a6, u7] [zI s0] sh pp mm Q ↔ zS 130 105 [zR a0, zI a1, zI a2, zI a3, zI a4, zI a5, zI a6, zI s0] [] sh pp mm Q := s_go cX_span_103 cX_span_105 rfl rfl
theorem rX_span_105 {a0 : Nat} {a1 a2 a3 a4 a5 a6 a7 : Int} : zS 130 105 [zR a0, zI a1, zI a2, zI a3, zI a4, zI a5, zI a6, zI a7] [] sh pp mm Q ↔ zS 130 106 [zR a0, zI a1, zI a2, zU, zI a4, zI a5, zI a6, zI a7] [zI a3] sh pp mm Q := s_go cX_span_105 cX_span_106 rfl rfl
theorem rX_span_106 {a0 : Nat} {a1 a2 a4 a5 a6 a7 s0 : Int} {u3 : zV} : zS 130 106 [zR a0, zI a1, zI a2, u3, zI a4, zI a5, zI a6, zI a7] [zI s0] sh pp mm Q ↔ zS 130 108 [zR a0, zI a1, zI a2, zU, zI a4, zI a5, zI a6, zI a7] [zI a7, zI s0] sh pp mm Q := s_go cX_span_106 cX_span_108 rfl rfl
theorem rX_span_108 {a0 : Nat} {a1 a2 a4 a5 a6 a7 s0 s1 : Int} {u3 : zV} : zS 130 108 [zR a0, zI a1, zI a2, u3, zI a4, zI a5, zI a6, zI a7] [zI s0, zI s1] sh pp mm Q ↔ zS 259 0 [zI s1, zI s0] [] sh pp mm (fun v sh pp mm => zS 130 111 [zR a0, zI a1, zI a2, zU, zI a4, zI a5, zI a6, zI a7] (zPush v []) sh pp mm Q) := s_call cX_span_108 cX_span_111 rfl rfl
theorem rX_span_111 {a0 : Nat} {a1 a2 a4 a5 a6 a7 s0 : Int} {u3 : zV} : zS 130 111 [zR a0, zI a1, zI a2, u3, zI a4, zI a5, zI a6, zI a7] [zI s0] sh pp mm Q ↔ zS 130 112 [zR a0, zI a1, zI a2, zI s0, zI a4, zI a5, zI a6, zI a7] [] sh pp mm Q := s_go cX_span_111 cX_span_112 rfl rfl
theorem rX_span_112 {a0 : Nat} {a1 a2 a3 a4 a5 a6 a7 : Int} : zS 130 112 [zR a0, zI a1, zI a2, zI a3, zI a4, zI a5, zI a6, zI a7] [] sh pp mm Q ↔ zS 130 114 [zR a0, zI a1, zI a2, zI a3, zI a4, zI a5, zU, zI a7] [zI a6] sh pp mm Q := s_go cX_span_112 cX_span_114 rfl rfl
theorem rX_span_114 {a0 : Nat} {a1 a2 a3 a4 a5 a7 s0 : Int} {u6 : zV} : zS 130 114 [zR a0, zI a1, zI a2, zI a3, zI a4, zI a5, u6, zI a7] [zI s0] sh pp mm Q ↔ (0 < s0 → zS 130 117 [zR a0, zI a1, zI a2, zI a3, zI a4, zI a5, zU, zI a7] [] sh pp mm Q) ∧ (¬ 0 < s0 → zS 130 127 [zR a0, zI a1, zI a2, zI a3, zI a4, zI a5, zU, zU] [] sh pp mm Q) := s_ifn cX_span_114 cX_span_117 cX_span_127 rfl rfl rfl
theorem rX_span_117 {a0 : Nat} {a1 a2 a3 a4 a5 a7 : Int} {u6 : zV} : zS 130 117 [zR a0, zI a1, zI a2, zI a3, zI a4, zI a5, u6, zI a7] [] sh pp mm Q ↔ zS 130 119 [zR a0, zI a1, zI a2, zI a3, zU, zI a5, zU, zI a7] [zI a4] sh pp mm Q := s_go cX_span_117 cX_span_119 rfl rfl
theorem rX_span_119 {a0 : Nat} {a1 a2 a3 a5 a7 s0 : Int} {u4 u6 : zV} : zS 130 119 [zR a0, zI a1, zI a2, zI a3, u4, zI a5, u6, zI a7] [zI s0] sh pp mm Q ↔ zS 130 121 [zR a0, zI a1, zI a2, zI a3, zU, zI a5, zU, zU] [zI a7, zI s0] sh pp mm Q := s_go cX_span_119 cX_span_121 rfl rfl
theorem rX_span_121 {a0 : Nat} {a1 a2 a3 a5 s0 s1 : Int} {u4 u6 u7 : zV} : zS 130 121 [zR a0, zI a1, zI a2, zI a3, u4, zI a5, u6, u7] [zI s0, zI s1] sh pp mm Q ↔ zS 260 0 [zI s1, zI s0] [] sh pp mm (fun v sh pp mm => zS 130 124 [zR a0, zI a1, zI a2, zI a3, zU, zI a5, zU, zU] (zPush v []) sh pp mm Q) := s_call cX_span_121 cX_span_124 rfl rfl
theorem rX_span_124 {a0 : Nat} {a1 a2 a3 a5 s0 : Int} {u4 u6 u7 : zV} : zS 130 124 [zR a0, zI a1, zI a2, zI a3, u4, zI a5, u6, u7] [zI s0] sh pp mm Q ↔ zS 130 129 [zR a0, zI a1, zI a2, zI a3, zU, zI a5, zU, zU] [zI s0] sh pp mm Q := s_go cX_span_124 cX_span_129 rfl rfl
theorem rX_span_127 {a0 : Nat} {a1 a2 a3 a4 a5 : Int} {u6 u7 : zV} : zS 130 127 [zR a0, zI a1, zI a2, zI a3, zI a4, zI a5, u6, u7] [] sh pp mm Q ↔ zS 130 129 [zR a0, zI a1, zI a2, zI a3, zU, zI a5, zU, zU] [zI a4] sh pp mm Q := s_go cX_span_127 cX_span_129 rfl rfl
theorem rX_span_129 {a0 : Nat} {a1 a2 a3 a5 s0 : Int} {u4 u6 u7 : zV} : zS 130 129 [zR a0, zI a1, zI a2, zI a3, u4, zI a5, u6, u7] [zI s0] sh pp mm Q ↔ zS 130 131 [zR a0, zI a1, zI a2, zI a3, zI s0, zI a5, zU, zU] [] sh pp mm Q := s_go cX_span_129 cX_span_131 rfl rfl
theorem rX_span_131 {a0 : Nat} {a1 a2 a3 a4 a5 : Int} {u6 u7 : zV} : zS 130 131 [zR a0, zI a1, zI a2, zI a3, zI a4, zI a5, u6, u7] [] sh pp mm Q ↔ zS 130 134 [zR a0, zI a1, zI a2, zI a3, zI a4, zI (zw32 (a5 + 1)), zU, zU] [] sh pp mm Q := s_go cX_span_131 cX_span_134 rfl rfl
theorem rX_span_134 {a0 : Nat} {a1 a2 a3 a4 a5 : Int} {u6 u7 : zV} : zS 130 134 [zR a0, zI a1, zI a2, zI a3, zI a4, zI a5, u6, u7] [] sh pp mm Q ↔ zS 130 40 [zR a0, zI a1, zI a2, zI a3, zI a4, zI a5, zU, zU] [] sh pp mm Q := s_go cX_span_134 cX_span_40 rfl rfl
theorem rX_span_137 {a0 : Nat} {a2 a3 a4 : Int} {u1 u5 u6 u7 : zV} : zS 130 137 [zR a0, u1, zI a2, zI a3, zI a4, u5, u6, u7] [] sh pp mm Q ↔ zS 130 138 [zR a0, zU, zI a2, zI a3, zI a4, zU, zU, zU] [zI a3] sh pp mm Q := s_go cX_span_137 cX_span_138 rfl rfl
theorem rX_span_138 {a0 : Nat} {a2 a3 a4 s0 : Int} {u1 u5 u6 u7 : zV} : zS 130 138 [zR a0, u1, zI a2, zI a3, zI a4, u5, u6, u7] [zI s0] sh pp mm Q ↔ zS 130 140 [zR a0, zU, zI a2, zI a3, zI a4, zU, zU, zU] [zI a4, zI s0] sh pp mm Q := s_go cX_span_138 cX_span_140 rfl rfl
theorem rX_span_140 {a0 : Nat} {a2 a3 a4 s0 s1 : Int} {u1 u5 u6 u7 : zV} : zS 130 140 [zR a0, u1, zI a2, zI a3, zI a4, u5, u6, u7] [zI s0, zI s1] sh pp mm Q ↔ (s0 < s1 → zS 130 143 [zR a0, zU, zU, zU, zU, zU, zU, zU] [] sh pp mm Q) ∧ (¬ s0 < s1 → zS 130 151 [zU, zU, zI a2, zI a3, zI a4, zU, zU, zU] [] sh pp mm Q) := s_ifn cX_span_140 cX_span_143 cX_span_151 rfl rfl rfl
theorem rX_span_143 {a0 : Nat} {u1 u2 u3 u4 u5 u6 u7 : zV} : zS 130 143 [zR a0, u1, u2, u3, u4, u5, u6, u7] [] sh pp mm Q ↔ zS 130 144 [zU, zU, zU, zU, zU, zU, zU, zU] [zR a0] sh pp mm Q := s_go cX_span_143 cX_span_144 rfl rfl
theorem rX_span_144 {s0 : Nat} {u0 u1 u2 u3 u4 u5 u6 u7 : zV} : zS 130 144 [u0, u1, u2, u3, u4, u5, u6, u7] [zR s0] sh pp mm Q ↔ zS 130 145 [zU, zU, zU, zU, zU, zU, zU, zU] [zI 1, zR s0] sh pp mm Q := s_go cX_span_144 cX_span_145 rfl rfl
theorem rX_span_145 {s1 : Nat} {s0 : Int} {u0 u1 u2 u3 u4 u5 u6 u7 : zV} : zS 130 145 [u0, u1, u2, u3, u4, u5, u6, u7] [zI s0, zR s1] sh pp mm Q ↔ zS 130 147 [zU, zU, zU, zU, zU, zU, zU, zU] [zI (-3), zI s0, zR s1] sh pp mm Q := s_go cX_span_145 cX_span_147 rfl rfl
theorem rX_span_147 {s2 : Nat} {s0 s1 : Int} {u0 u1 u2 u3 u4 u5 u6 u7 : zV} (hk : zKd sh s2 = 11) : zS 130 147 [u0, u1, u2, u3, u4, u5, u6, u7] [zI s0, zI s1, zR s2] sh pp mm Q ↔ zS 138 0 [zR s2, zI s1, zI s0] [] sh pp mm (fun v sh pp mm => zS 130 150 [zU, zU, zU, zU, zU, zU, zU, zU] (zPush v []) sh pp mm Q) := s_call cX_span_147 cX_span_150 ((if_pos hk).trans rfl) rfl
theorem rX_span_150 {s0 : Int} {u0 u1 u2 u3 u4 u5 u6 u7 : zV} : zS 130 150 [u0, u1, u2, u3, u4, u5, u6, u7] [zI s0] sh pp mm Q ↔ Q (zI s0) sh pp mm := s_ret cX_span_150 rfl
theorem rX_span_151 {a2 a3 a4 : Int} {u0 u1 u5 u6 u7 : zV} : zS 130 151 [u0, u1, zI a2, zI a3, zI a4, u5, u6, u7] [] sh pp mm Q ↔ zS 130 152 [zU, zU, zU, zI a3, zI a4, zU, zU, zU] [zI a2] sh pp mm Q := s_go cX_span_151 cX_span_152 rfl rfl
theorem rX_span_152 {a3 a4 s0 : Int} {u0 u1 u2 u5 u6 u7 : zV} : zS 130 152 [u0, u1, u2, zI a3, zI a4, u5, u6, u7] [zI s0] sh pp mm Q ↔ (s0 = 0 → zS 130 155 [zU, zU, zU, zI a3, zU, zU, zU, zU] [] sh pp mm Q) ∧ (¬ s0 = 0 → zS 130 159 [zU, zU, zU, zU, zI a4, zU, zU, zU] [] sh pp mm Q) := s_ifn cX_span_152 cX_span_155 cX_span_159 rfl rfl rfl
theorem rX_span_155 {a3 : Int} {u0 u1 u2 u4 u5 u6 u7 : zV} : zS 130 155 [u0, u1, u2, zI a3, u4, u5, u6, u7] [] sh pp mm Q ↔ zS 130 156 [zU, zU, zU, zU, zU, zU, zU, zU] [zI a3] sh pp mm Q := s_go cX_span_155 cX_span_156 rfl rfl
theorem rX_span_156 {s0 : Int} {u0 u1 u2 u3 u4 u5 u6 u7 : zV} : zS 130 156 [u0, u1, u2, u3, u4, u5, u6, u7] [zI s0] sh pp mm Q ↔ zS 130 161 [zU, zU, zU, zU, zU, zU, zU, zU] [zI s0] sh pp mm Q := s_go cX_span_156 cX_span_161 rfl rfl
theorem rX_span_159 {a4 : Int} {u0 u1 u2 u3 u5 u6 u7 : zV} : zS 130 159 [u0, u1, u2, u3, zI a4, u5, u6, u7] [] sh pp mm Q ↔ zS 130 161 [zU, zU, zU, zU, zU, zU, zU, zU] [zI a4] sh pp mm Q := s_go cX_span_159 cX_span_161 rfl rfl
theorem rX_span_161 {s0 : Int} {u0 u1 u2 u3 u4 u5 u6 u7 : zV} : zS 130 161 [u0, u1, u2, u3, u4, u5, u6, u7] [zI s0] sh pp mm Q ↔ Q (zI s0) sh pp mm := s_ret cX_span_161 rfl
theorem cAX_sign : ∀ q ∈ zT131, zCode 131 q.1 = some q.2 := zAll (mid := 131) rfl (by decide +kernel)
theorem cAX_sign_0 : ∀ q ∈ zT131_0, zCode 131 q.1 = some q.2 := fun q h => cAX_sign q (h)
theorem cX_sign_0 : zCode 131 0 = some (.iload_n 1, 1, 0, 0, 0, 0, 3) := cAX_sign_0 _ (List.mem_of_getElem? (i := 0) rfl)
theorem cX_sign_1 : zCode 131 1 = some (.iconst 0, 2, 0, 0, 0, 0, 3) := cAX_sign_0 _ (List.mem_of_getElem? (i := 1) rfl)
theorem cX_sign_2 : zCode 131 2 = some (.iconst 2, 3, 0, 0, 0, 0, 3) := cAX_sign_0 _ (List.mem_of_getElem? (i := 2) rfl)
theorem cX_sign_3 : zCode 131 3 = some (.invokestatic 150, 6, 139, 3, 3, 11, 3) := cAX_sign_0 _ (List.mem_of_getElem? (i := 3) rfl)
theorem cX_sign_6 : zCode 131 6 = some (.ifCond .ne 11, 9, 17, 0, 0, 0, 3) := cAX_sign_0 _ (List.mem_of_getElem? (i := 4) rfl)
theorem cX_sign_9 : zCode 131 9 = some (.aload_n 0, 10, 0, 0, 0, 0, 1) := cAX_sign_0 _ (List.mem_of_getElem? (i := 5) rfl)
theorem cX_sign_10 : zCode 131 10 = some (.iconst 0, 11, 0, 0, 0, 0, 0) := cAX_sign_0 _ (List.mem_of_getElem? (i := 6) rfl)
theorem cX_sign_11 : zCode 131 11 = some (.bipush (-2), 13, 0, 0, 0, 0, 0) := cAX_sign_0 _ (List.mem_of_getElem? (i := 7) rfl)
theorem cX_sign_13 : zCode 131 13 = some (.invokevirtual 72, 16, 138, 2, 3, 11, 0) := cAX_sign_0 _ (List.mem_of_getElem? (i := 8) rfl)
theorem cX_sign_16 : zCode 131 16 = some (.ireturn, 17, 0, 0, 0, 0, 0) := cAX_sign_0 _ (List.mem_of_getElem? (i := 9) rfl)
theorem cX_sign_17 : zCode 131 17 = some (.aload_n 0, 18, 0, 0, 0, 0, 3) := cAX_sign_0 _ (List.mem_of_getElem? (i := 10) rfl)
theorem cX_sign_18 : zCode 131 18 = some (.getfield 60, 21, 11, 8, 2, 514, 2) := cAX_sign_0 _ (List.mem_of_getElem? (i := 11) rfl)
theorem cX_sign_21 : zCode 131 21 = some (.iload_n 1, 22, 0, 0, 0, 0, 2) := cAX_sign_0 _ (List.mem_of_getElem? (i := 12) rfl)
theorem cX_sign_22 : zCode 131 22 = some (.invokevirtual 232, 25, 35, 1, 2, 2, 0) := cAX_sign_0 _ (List.mem_of_getElem? (i := 13) rfl)
theorem cX_sign_25 : zCode 131 25 = some (.ireturn, 26, 0, 0, 0, 0, 0) := cAX_sign_0 _ (List.mem_of_getElem? (i := 14) rfl)
theorem rX_sign_0 {a0 : Nat} {a1 : Int} : zS 131 0 [zR a0, zI a1] [] sh pp mm Q ↔ zS 131 1 [zR a0, zI a1] [zI a1] sh pp mm Q := s_go cX_sign_0 cX_sign_1 rfl rfl
theorem rX_sign_1 {a0 : Nat} {a1 s0 : Int} : zS 131 1 [zR a0, zI a1] [zI s0] sh pp mm Q ↔ zS 131 2 [zR a0, zI a1] [zI 0, zI s0] sh pp mm Q := s_go cX_sign_1 cX_sign_2 rfl rfl
theorem rX_sign_2 {a0 : Nat} {a1 s0 s1 : Int} : zS 131 2 [zR a0, zI a1] [zI s0, zI s1] sh pp mm Q ↔ zS 131 3 [zR a0, zI a1] [zI 2, zI s0, zI s1] sh pp mm Q := s_go cX_sign_2 cX_sign_3 rfl rfl
theorem rX_sign_3 {a0 : Nat} {a1 s0 s1 s2 : Int} : zS 131 3 [zR a0, zI a1] [zI s0, zI s1, zI s2] sh pp mm Q ↔ zS 139 0 [zI s2, zI s1, zI s0] [] sh pp mm (fun v sh pp mm => zS 131 6 [zR a0, zI a1] (zPush v []) sh pp mm Q) := s_call cX_sign_3 cX_sign_6 rfl rfl
theorem rX_sign_6 {a0 : Nat} {a1 s0 : Int} : zS 131 6 [zR a0, zI a1] [zI s0] sh pp mm Q ↔ (s0 = 0 → zS 131 9 [zR a0, zU] [] sh pp mm Q) ∧ (¬ s0 = 0 → zS 131 17 [zR a0, zI a1] [] sh pp mm Q) := s_ifn cX_sign_6 cX_sign_9 cX_sign_17 rfl rfl rfl
theorem rX_sign_9 {a0 : Nat} {u1 : zV} : zS 131 9 [zR a0, u1] [] sh pp mm Q ↔ zS 131 10 [zU, zU] [zR a0] sh pp mm Q := s_go cX_sign_9 cX_sign_10 rfl rfl
theorem rX_sign_10 {s0 : Nat} {u0 u1 : zV} : zS 131 10 [u0, u1] [zR s0] sh pp mm Q ↔ zS 131 11 [zU, zU] [zI 0, zR s0] sh pp mm Q := s_go cX_sign_10 cX_sign_11 rfl rfl
theorem rX_sign_11 {s1 : Nat} {s0 : Int} {u0 u1 : zV} : zS 131 11 [u0, u1] [zI s0, zR s1] sh pp mm Q ↔ zS 131 13 [zU, zU] [zI (-2), zI s0, zR s1] sh pp mm Q := s_go cX_sign_11 cX_sign_13 rfl rfl
theorem rX_sign_13 {s2 : Nat} {s0 s1 : Int} {u0 u1 : zV} (hk : zKd sh s2 = 11) : zS 131 13 [u0, u1] [zI s0, zI s1, zR s2] sh pp mm Q ↔ zS 138 0 [zR s2, zI s1, zI s0] [] sh pp mm (fun v sh pp mm => zS 131 16 [zU, zU] (zPush v []) sh pp mm Q) := s_call cX_sign_13 cX_sign_16 ((if_pos hk).trans rfl) rfl
theorem rX_sign_16 {s0 : Int} {u0 u1 : zV} : zS 131 16 [u0, u1] [zI s0] sh pp mm Q ↔ Q (zI s0) sh pp mm := s_ret cX_sign_16 rfl
theorem rX_sign_17 {a0 : Nat} {a1 : Int} : zS 131 17 [zR a0, zI a1] [] sh pp mm Q ↔ zS 131 18 [zU, zI a1] [zR a0] sh pp mm Q := s_go cX_sign_17 cX_sign_18 rfl rfl
theorem rX_sign_18 {s0 : Nat} {a1 : Int} {u0 : zV} (hk : zKd sh s0 = 11) : zS 131 18 [u0, zI a1] [zR s0] sh pp mm Q ↔ zS 131 21 [zU, zI a1] [zR (pp s0 8)] sh pp mm Q := s_go cX_sign_18 cX_sign_21 (if_pos hk) rfl
theorem rX_sign_21 {s0 : Nat} {a1 : Int} {u0 : zV} : zS 131 21 [u0, zI a1] [zR s0] sh pp mm Q ↔ zS 131 22 [zU, zU] [zI a1, zR s0] sh pp mm Q := s_go cX_sign_21 cX_sign_22 rfl rfl
theorem rX_sign_22 {s1 : Nat} {s0 : Int} {u0 u1 : zV} (hk : zKd sh s1 = 2) : zS 131 22 [u0, u1] [zI s0, zR s1] sh pp mm Q ↔ zS 35 0 [zR s1, zI s0] [] sh pp mm (fun v sh pp mm => zS 131 25 [zU, zU] (zPush v []) sh pp mm Q) := s_call cX_sign_22 cX_sign_25 ((if_pos hk).trans rfl) rfl
theorem rX_sign_25 {s0 : Int} {u0 u1 : zV} : zS 131 25 [u0, u1] [zI s0] sh pp mm Q ↔ Q (zI s0) sh pp mm := s_ret cX_sign_25 rfl
theorem cAX_limb : ∀ q ∈ zT132, zCode 132 q.1 = some q.2 := zAll (mid := 132) rfl (by decide +kernel)
theorem cAX_limb_0 : ∀ q ∈ zT132_0, zCode 132 q.1 = some q.2 := fun q h => cAX_limb q (List.mem_append_left _ h)
theorem cAX_limb_1 : ∀ q ∈ zT132_1, zCode 132 q.1 = some q.2 := fun q h => cAX_limb q (List.mem_append_right _ (List.mem_append_left _ h))
theorem cAX_limb_2 : ∀ q ∈ zT132_2, zCode 132 q.1 = some q.2 := fun q h => cAX_limb q (List.mem_append_right _ (List.mem_append_right _ h))
theorem cX_limb_0 : zCode 132 0 = some (.iload_n 1, 1, 0, 0, 0, 0, 7) := cAX_limb_0 _ (List.mem_of_getElem? (i := 0) rfl)
theorem cX_limb_1 : zCode 132 1 = some (.iconst 0, 2, 0, 0, 0, 0, 7) := cAX_limb_0 _ (List.mem_of_getElem? (i := 1) rfl)
theorem cX_limb_2 : zCode 132 2 = some (.iconst 1, 3, 0, 0, 0, 0, 7) := cAX_limb_0 _ (List.mem_of_getElem? (i := 2) rfl)
theorem cX_limb_3 : zCode 132 3 = some (.invokestatic 150, 6, 139, 3, 3, 11, 7) := cAX_limb_0 _ (List.mem_of_getElem? (i := 3) rfl)
theorem cX_limb_6 : zCode 132 6 = some (.ifCond .eq 7, 9, 13, 0, 0, 0, 7) := cAX_limb_0 _ (List.mem_of_getElem? (i := 4) rfl)
theorem cX_limb_9 : zCode 132 9 = some (.iload_n 2, 10, 0, 0, 0, 0, 7) := cAX_limb_0 _ (List.mem_of_getElem? (i := 5) rfl)
theorem cX_limb_10 : zCode 132 10 = some (.ifCond .ge 11, 13, 21, 0, 0, 0, 7) := cAX_limb_0 _ (List.mem_of_getElem? (i := 6) rfl)
theorem cX_limb_13 : zCode 132 13 = some (.aload_n 0, 14, 0, 0, 0, 0, 1) := cAX_limb_0 _ (List.mem_of_getElem? (i := 7) rfl)
theorem cX_limb_14 : zCode 132 14 = some (.iconst 0, 15, 0, 0, 0, 0, 0) := cAX_limb_0 _ (List.mem_of_getElem? (i := 8) rfl)
theorem cX_limb_15 : zCode 132 15 = some (.bipush (-2), 17, 0, 0, 0, 0, 0) := cAX_limb_0 _ (List.mem_of_getElem? (i := 9) rfl)
theorem cX_limb_17 : zCode 132 17 = some (.invokevirtual 72, 20, 138, 2, 3, 11, 0) := cAX_limb_0 _ (List.mem_of_getElem? (i := 10) rfl)
theorem cX_limb_20 : zCode 132 20 = some (.ireturn, 21, 0, 0, 0, 0, 0) := cAX_limb_0 _ (List.mem_of_getElem? (i := 11) rfl)
theorem cX_limb_21 : zCode 132 21 = some (.iload_n 1, 22, 0, 0, 0, 0, 7) := cAX_limb_0 _ (List.mem_of_getElem? (i := 12) rfl)
theorem cX_limb_22 : zCode 132 22 = some (.ifCond .ne 13, 25, 35, 0, 0, 0, 5) := cAX_limb_0 _ (List.mem_of_getElem? (i := 13) rfl)
theorem cX_limb_25 : zCode 132 25 = some (.aload_n 0, 26, 0, 0, 0, 0, 5) := cAX_limb_0 _ (List.mem_of_getElem? (i := 14) rfl)
theorem cX_limb_26 : zCode 132 26 = some (.getfield 60, 29, 11, 8, 2, 514, 4) := cAX_limb_0 _ (List.mem_of_getElem? (i := 15) rfl)
theorem cX_limb_29 : zCode 132 29 = some (.getfield 233, 32, 2, 0, 2, 350, 4) := cAX_limb_1 _ (List.mem_of_getElem? (i := 0) rfl)
theorem cX_limb_32 : zCode 132 32 = some (.goto 10, 35, 42, 0, 0, 0, 4) := cAX_limb_1 _ (List.mem_of_getElem? (i := 1) rfl)
theorem cX_limb_35 : zCode 132 35 = some (.aload_n 0, 36, 0, 0, 0, 0, 5) := cAX_limb_1 _ (List.mem_of_getElem? (i := 2) rfl)
theorem cX_limb_36 : zCode 132 36 = some (.getfield 60, 39, 11, 8, 2, 514, 4) := cAX_limb_1 _ (List.mem_of_getElem? (i := 3) rfl)
theorem cX_limb_39 : zCode 132 39 = some (.getfield 237, 42, 2, 1, 2, 352, 4) := cAX_limb_1 _ (List.mem_of_getElem? (i := 4) rfl)
theorem cX_limb_42 : zCode 132 42 = some (.astore_n 3, 43, 0, 0, 0, 0, 4) := cAX_limb_1 _ (List.mem_of_getElem? (i := 5) rfl)
theorem cX_limb_43 : zCode 132 43 = some (.iload_n 2, 44, 0, 0, 0, 0, 12) := cAX_limb_1 _ (List.mem_of_getElem? (i := 6) rfl)
theorem cX_limb_44 : zCode 132 44 = some (.aload_n 3, 45, 0, 0, 0, 0, 12) := cAX_limb_1 _ (List.mem_of_getElem? (i := 7) rfl)
theorem cX_limb_45 : zCode 132 45 = some (.getfield 240, 48, 0, 1, 0, 337, 12) := cAX_limb_1 _ (List.mem_of_getElem? (i := 8) rfl)
theorem cX_limb_48 : zCode 132 48 = some (.if_icmp .lt 7, 51, 55, 0, 0, 0, 12) := cAX_limb_1 _ (List.mem_of_getElem? (i := 9) rfl)
theorem cX_limb_51 : zCode 132 51 = some (.iconst (-1), 52, 0, 0, 0, 0, 0) := cAX_limb_1 _ (List.mem_of_getElem? (i := 10) rfl)
theorem cX_limb_52 : zCode 132 52 = some (.goto 9, 55, 61, 0, 0, 0, 0) := cAX_limb_1 _ (List.mem_of_getElem? (i := 11) rfl)
theorem cX_limb_55 : zCode 132 55 = some (.aload_n 3, 56, 0, 0, 0, 0, 12) := cAX_limb_1 _ (List.mem_of_getElem? (i := 12) rfl)
theorem cX_limb_56 : zCode 132 56 = some (.getfield 245, 59, 0, 0, 2, 334, 4) := cAX_limb_1 _ (List.mem_of_getElem? (i := 13) rfl)
theorem cX_limb_59 : zCode 132 59 = some (.iload_n 2, 60, 0, 0, 0, 0, 4) := cAX_limb_1 _ (List.mem_of_getElem? (i := 14) rfl)
theorem cX_limb_60 : zCode 132 60 = some (.iaload, 61, 0, 0, 0, 0, 0) := cAX_limb_1 _ (List.mem_of_getElem? (i := 15) rfl)
theorem cX_limb_61 : zCode 132 61 = some (.ireturn, 62, 0, 0, 0, 0, 0) := cAX_limb_2 _ (List.mem_of_getElem? (i := 0) rfl)
theorem rX_limb_0 {a0 : Nat} {a1 a2 : Int} {u3 : zV} : zS 132 0 [zR a0, zI a1, zI a2, u3] [] sh pp mm Q ↔ zS 132 1 [zR a0, zI a1, zI a2, zU] [zI a1] sh pp mm Q := s_go cX_limb_0 cX_limb_1 rfl rfl
theorem rX_limb_1 {a0 : Nat} {a1 a2 s0 : Int} {u3 : zV} : zS 132 1 [zR a0, zI a1, zI a2, u3] [zI s0] sh pp mm Q ↔ zS 132 2 [zR a0, zI a1, zI a2, zU] [zI 0, zI s0] sh pp mm Q := s_go cX_limb_1 cX_limb_2 rfl rfl
theorem rX_limb_2 {a0 : Nat} {a1 a2 s0 s1 : Int} {u3 : zV} : zS 132 2 [zR a0, zI a1, zI a2, u3] [zI s0, zI s1] sh pp mm Q ↔ zS 132 3 [zR a0, zI a1, zI a2, zU] [zI 1, zI s0, zI s1] sh pp mm Q := s_go cX_limb_2 cX_limb_3 rfl rfl
theorem rX_limb_3 {a0 : Nat} {a1 a2 s0 s1 s2 : Int} {u3 : zV} : zS 132 3 [zR a0, zI a1, zI a2, u3] [zI s0, zI s1, zI s2] sh pp mm Q ↔ zS 139 0 [zI s2, zI s1, zI s0] [] sh pp mm (fun v sh pp mm => zS 132 6 [zR a0, zI a1, zI a2, zU] (zPush v []) sh pp mm Q) := s_call cX_limb_3 cX_limb_6 rfl rfl
theorem rX_limb_6 {a0 : Nat} {a1 a2 s0 : Int} {u3 : zV} : zS 132 6 [zR a0, zI a1, zI a2, u3] [zI s0] sh pp mm Q ↔ (s0 = 0 → zS 132 13 [zR a0, zU, zU, zU] [] sh pp mm Q) ∧ (¬ s0 = 0 → zS 132 9 [zR a0, zI a1, zI a2, zU] [] sh pp mm Q) := s_if cX_limb_6 cX_limb_13 cX_limb_9 rfl rfl rfl
theorem rX_limb_9 {a0 : Nat} {a1 a2 : Int} {u3 : zV} : zS 132 9 [zR a0, zI a1, zI a2, u3] [] sh pp mm Q ↔ zS 132 10 [zR a0, zI a1, zI a2, zU] [zI a2] sh pp mm Q := s_go cX_limb_9 cX_limb_10 rfl rfl
theorem rX_limb_10 {a0 : Nat} {a1 a2 s0 : Int} {u3 : zV} : zS 132 10 [zR a0, zI a1, zI a2, u3] [zI s0] sh pp mm Q ↔ (s0 < 0 → zS 132 13 [zR a0, zU, zU, zU] [] sh pp mm Q) ∧ (¬ s0 < 0 → zS 132 21 [zR a0, zI a1, zI a2, zU] [] sh pp mm Q) := s_ifn cX_limb_10 cX_limb_13 cX_limb_21 rfl rfl rfl
theorem rX_limb_13 {a0 : Nat} {u1 u2 u3 : zV} : zS 132 13 [zR a0, u1, u2, u3] [] sh pp mm Q ↔ zS 132 14 [zU, zU, zU, zU] [zR a0] sh pp mm Q := s_go cX_limb_13 cX_limb_14 rfl rfl
theorem rX_limb_14 {s0 : Nat} {u0 u1 u2 u3 : zV} : zS 132 14 [u0, u1, u2, u3] [zR s0] sh pp mm Q ↔ zS 132 15 [zU, zU, zU, zU] [zI 0, zR s0] sh pp mm Q := s_go cX_limb_14 cX_limb_15 rfl rfl
theorem rX_limb_15 {s1 : Nat} {s0 : Int} {u0 u1 u2 u3 : zV} : zS 132 15 [u0, u1, u2, u3] [zI s0, zR s1] sh pp mm Q ↔ zS 132 17 [zU, zU, zU, zU] [zI (-2), zI s0, zR s1] sh pp mm Q := s_go cX_limb_15 cX_limb_17 rfl rfl
theorem rX_limb_17 {s2 : Nat} {s0 s1 : Int} {u0 u1 u2 u3 : zV} (hk : zKd sh s2 = 11) : zS 132 17 [u0, u1, u2, u3] [zI s0, zI s1, zR s2] sh pp mm Q ↔ zS 138 0 [zR s2, zI s1, zI s0] [] sh pp mm (fun v sh pp mm => zS 132 20 [zU, zU, zU, zU] (zPush v []) sh pp mm Q) := s_call cX_limb_17 cX_limb_20 ((if_pos hk).trans rfl) rfl
theorem rX_limb_20 {s0 : Int} {u0 u1 u2 u3 : zV} : zS 132 20 [u0, u1, u2, u3] [zI s0] sh pp mm Q ↔ Q (zI s0) sh pp mm := s_ret cX_limb_20 rfl
theorem rX_limb_21 {a0 : Nat} {a1 a2 : Int} {u3 : zV} : zS 132 21 [zR a0, zI a1, zI a2, u3] [] sh pp mm Q ↔ zS 132 22 [zR a0, zU, zI a2, zU] [zI a1] sh pp mm Q := s_go cX_limb_21 cX_limb_22 rfl rfl
theorem rX_limb_22 {a0 : Nat} {a2 s0 : Int} {u1 u3 : zV} : zS 132 22 [zR a0, u1, zI a2, u3] [zI s0] sh pp mm Q ↔ (s0 = 0 → zS 132 25 [zR a0, zU, zI a2, zU] [] sh pp mm Q) ∧ (¬ s0 = 0 → zS 132 35 [zR a0, zU, zI a2, zU] [] sh pp mm Q) := s_ifn cX_limb_22 cX_limb_25 cX_limb_35 rfl rfl rfl
theorem rX_limb_25 {a0 : Nat} {a2 : Int} {u1 u3 : zV} : zS 132 25 [zR a0, u1, zI a2, u3] [] sh pp mm Q ↔ zS 132 26 [zU, zU, zI a2, zU] [zR a0] sh pp mm Q := s_go cX_limb_25 cX_limb_26 rfl rfl
theorem rX_limb_26 {s0 : Nat} {a2 : Int} {u0 u1 u3 : zV} (hk : zKd sh s0 = 11) : zS 132 26 [u0, u1, zI a2, u3] [zR s0] sh pp mm Q ↔ zS 132 29 [zU, zU, zI a2, zU] [zR (pp s0 8)] sh pp mm Q := s_go cX_limb_26 cX_limb_29 (if_pos hk) rfl
theorem rX_limb_29 {s0 : Nat} {a2 : Int} {u0 u1 u3 : zV} (hk : zKd sh s0 = 2) : zS 132 29 [u0, u1, zI a2, u3] [zR s0] sh pp mm Q ↔ zS 132 32 [zU, zU, zI a2, zU] [zR (pp s0 0)] sh pp mm Q := s_go cX_limb_29 cX_limb_32 (if_pos hk) rfl
theorem rX_limb_32 {s0 : Nat} {a2 : Int} {u0 u1 u3 : zV} : zS 132 32 [u0, u1, zI a2, u3] [zR s0] sh pp mm Q ↔ zS 132 42 [zU, zU, zI a2, zU] [zR s0] sh pp mm Q := s_go cX_limb_32 cX_limb_42 rfl rfl
theorem rX_limb_35 {a0 : Nat} {a2 : Int} {u1 u3 : zV} : zS 132 35 [zR a0, u1, zI a2, u3] [] sh pp mm Q ↔ zS 132 36 [zU, zU, zI a2, zU] [zR a0] sh pp mm Q := s_go cX_limb_35 cX_limb_36 rfl rfl
theorem rX_limb_36 {s0 : Nat} {a2 : Int} {u0 u1 u3 : zV} (hk : zKd sh s0 = 11) : zS 132 36 [u0, u1, zI a2, u3] [zR s0] sh pp mm Q ↔ zS 132 39 [zU, zU, zI a2, zU] [zR (pp s0 8)] sh pp mm Q := s_go cX_limb_36 cX_limb_39 (if_pos hk) rfl
theorem rX_limb_39 {s0 : Nat} {a2 : Int} {u0 u1 u3 : zV} (hk : zKd sh s0 = 2) : zS 132 39 [u0, u1, zI a2, u3] [zR s0] sh pp mm Q ↔ zS 132 42 [zU, zU, zI a2, zU] [zR (pp s0 1)] sh pp mm Q := s_go cX_limb_39 cX_limb_42 (if_pos hk) rfl
theorem rX_limb_42 {s0 : Nat} {a2 : Int} {u0 u1 u3 : zV} : zS 132 42 [u0, u1, zI a2, u3] [zR s0] sh pp mm Q ↔ zS 132 43 [zU, zU, zI a2, zR s0] [] sh pp mm Q := s_go cX_limb_42 cX_limb_43 rfl rfl
theorem rX_limb_43 {a3 : Nat} {a2 : Int} {u0 u1 : zV} : zS 132 43 [u0, u1, zI a2, zR a3] [] sh pp mm Q ↔ zS 132 44 [zU, zU, zI a2, zR a3] [zI a2] sh pp mm Q := s_go cX_limb_43 cX_limb_44 rfl rfl
theorem rX_limb_44 {a3 : Nat} {a2 s0 : Int} {u0 u1 : zV} : zS 132 44 [u0, u1, zI a2, zR a3] [zI s0] sh pp mm Q ↔ zS 132 45 [zU, zU, zI a2, zR a3] [zR a3, zI s0] sh pp mm Q := s_go cX_limb_44 cX_limb_45 rfl rfl
theorem rX_limb_45 {a3 s0 : Nat} {a2 s1 : Int} {u0 u1 : zV} (hk : zKd sh s0 = 0) : zS 132 45 [u0, u1, zI a2, zR a3] [zR s0, zI s1] sh pp mm Q ↔ zS 132 48 [zU, zU, zI a2, zR a3] [zI (mm s0 1), zI s1] sh pp mm Q := s_go cX_limb_45 cX_limb_48 (if_pos hk) rfl
theorem rX_limb_48 {a3 : Nat} {a2 s0 s1 : Int} {u0 u1 : zV} : zS 132 48 [u0, u1, zI a2, zR a3] [zI s0, zI s1] sh pp mm Q ↔ (s1 < s0 → zS 132 55 [zU, zU, zI a2, zR a3] [] sh pp mm Q) ∧ (¬ s1 < s0 → zS 132 51 [zU, zU, zU, zU] [] sh pp mm Q) := s_if cX_limb_48 cX_limb_55 cX_limb_51 rfl rfl rfl
theorem rX_limb_51 {u0 u1 u2 u3 : zV} : zS 132 51 [u0, u1, u2, u3] [] sh pp mm Q ↔ zS 132 52 [zU, zU, zU, zU] [zI (-1)] sh pp mm Q := s_go cX_limb_51 cX_limb_52 rfl rfl
theorem rX_limb_52 {s0 : Int} {u0 u1 u2 u3 : zV} : zS 132 52 [u0, u1, u2, u3] [zI s0] sh pp mm Q ↔ zS 132 61 [zU, zU, zU, zU] [zI s0] sh pp mm Q := s_go cX_limb_52 cX_limb_61 rfl rfl
theorem rX_limb_55 {a3 : Nat} {a2 : Int} {u0 u1 : zV} : zS 132 55 [u0, u1, zI a2, zR a3] [] sh pp mm Q ↔ zS 132 56 [zU, zU, zI a2, zU] [zR a3] sh pp mm Q := s_go cX_limb_55 cX_limb_56 rfl rfl
theorem rX_limb_56 {s0 : Nat} {a2 : Int} {u0 u1 u3 : zV} (hk : zKd sh s0 = 0) : zS 132 56 [u0, u1, zI a2, u3] [zR s0] sh pp mm Q ↔ zS 132 59 [zU, zU, zI a2, zU] [zR (pp s0 0)] sh pp mm Q := s_go cX_limb_56 cX_limb_59 (if_pos hk) rfl
theorem rX_limb_59 {s0 : Nat} {a2 : Int} {u0 u1 u3 : zV} : zS 132 59 [u0, u1, zI a2, u3] [zR s0] sh pp mm Q ↔ zS 132 60 [zU, zU, zU, zU] [zI a2, zR s0] sh pp mm Q := s_go cX_limb_59 cX_limb_60 rfl rfl
theorem rX_limb_60 {s1 : Nat} {s0 : Int} {u0 u1 u2 u3 : zV} (hk : zKd sh s1 = 20 ∨ zKd sh s1 = 30) (h0 : 0 ≤ s0) (h1 : s0 < zLn sh s1) : zS 132 60 [u0, u1, u2, u3] [zI s0, zR s1] sh pp mm Q ↔ zS 132 61 [zU, zU, zU, zU] [zI (mm s1 s0)] sh pp mm Q := s_go cX_limb_60 cX_limb_61 (if_pos ⟨hk, h0, h1⟩) rfl
theorem rX_limb_61 {s0 : Int} {u0 u1 u2 u3 : zV} : zS 132 61 [u0, u1, u2, u3] [zI s0] sh pp mm Q ↔ Q (zI s0) sh pp mm := s_ret cX_limb_61 rfl
theorem cAX_image : ∀ q ∈ zT133, zCode 133 q.1 = some q.2 := zAll (mid := 133) rfl (by decide +kernel)
theorem cAX_image_0 : ∀ q ∈ zT133_0, zCode 133 q.1 = some q.2 := fun q h => cAX_image q (List.mem_append_left _ h)
theorem cAX_image_1 : ∀ q ∈ zT133_1, zCode 133 q.1 = some q.2 := fun q h => cAX_image q (List.mem_append_right _ h)
theorem cX_image_0 : zCode 133 0 = some (.iload_n 1, 1, 0, 0, 0, 0, 3) := cAX_image_0 _ (List.mem_of_getElem? (i := 0) rfl)
theorem cX_image_1 : zCode 133 1 = some (.iconst 0, 2, 0, 0, 0, 0, 3) := cAX_image_0 _ (List.mem_of_getElem? (i := 1) rfl)
theorem cX_image_2 : zCode 133 2 = some (.iconst 1, 3, 0, 0, 0, 0, 3) := cAX_image_0 _ (List.mem_of_getElem? (i := 2) rfl)
theorem cX_image_3 : zCode 133 3 = some (.invokestatic 150, 6, 139, 3, 3, 11, 3) := cAX_image_0 _ (List.mem_of_getElem? (i := 3) rfl)
theorem cX_image_6 : zCode 133 6 = some (.ifCond .ne 11, 9, 17, 0, 0, 0, 3) := cAX_image_0 _ (List.mem_of_getElem? (i := 4) rfl)
theorem cX_image_9 : zCode 133 9 = some (.aload_n 0, 10, 0, 0, 0, 0, 1) := cAX_image_0 _ (List.mem_of_getElem? (i := 5) rfl)
theorem cX_image_10 : zCode 133 10 = some (.iconst 0, 11, 0, 0, 0, 0, 0) := cAX_image_0 _ (List.mem_of_getElem? (i := 6) rfl)
theorem cX_image_11 : zCode 133 11 = some (.bipush (-2), 13, 0, 0, 0, 0, 0) := cAX_image_0 _ (List.mem_of_getElem? (i := 7) rfl)
theorem cX_image_13 : zCode 133 13 = some (.invokevirtual 72, 16, 138, 2, 3, 11, 0) := cAX_image_0 _ (List.mem_of_getElem? (i := 8) rfl)
theorem cX_image_16 : zCode 133 16 = some (.ireturn, 17, 0, 0, 0, 0, 0) := cAX_image_0 _ (List.mem_of_getElem? (i := 9) rfl)
theorem cX_image_17 : zCode 133 17 = some (.aload_n 0, 18, 0, 0, 0, 0, 3) := cAX_image_0 _ (List.mem_of_getElem? (i := 10) rfl)
theorem cX_image_18 : zCode 133 18 = some (.getfield 16, 21, 11, 1, 2, 507, 3) := cAX_image_0 _ (List.mem_of_getElem? (i := 11) rfl)
theorem cX_image_21 : zCode 133 21 = some (.iload_n 1, 22, 0, 0, 0, 0, 3) := cAX_image_0 _ (List.mem_of_getElem? (i := 12) rfl)
theorem cX_image_22 : zCode 133 22 = some (.aaload, 23, 0, 0, 0, 0, 3) := cAX_image_0 _ (List.mem_of_getElem? (i := 13) rfl)
theorem cX_image_23 : zCode 133 23 = some (.ifnonnull 16, 26, 39, 0, 0, 0, 3) := cAX_image_0 _ (List.mem_of_getElem? (i := 14) rfl)
theorem cX_image_26 : zCode 133 26 = some (.aload_n 0, 27, 0, 0, 0, 0, 3) := cAX_image_0 _ (List.mem_of_getElem? (i := 15) rfl)
theorem cX_image_27 : zCode 133 27 = some (.getfield 16, 30, 11, 1, 2, 507, 3) := cAX_image_1 _ (List.mem_of_getElem? (i := 0) rfl)
theorem cX_image_30 : zCode 133 30 = some (.iload_n 1, 31, 0, 0, 0, 0, 3) := cAX_image_1 _ (List.mem_of_getElem? (i := 1) rfl)
theorem cX_image_31 : zCode 133 31 = some (.new 7, 34, 9, 8, 124, 0, 3) := cAX_image_1 _ (List.mem_of_getElem? (i := 2) rfl)
theorem cX_image_34 : zCode 133 34 = some (.dup, 35, 0, 0, 0, 0, 3) := cAX_image_1 _ (List.mem_of_getElem? (i := 3) rfl)
theorem cX_image_35 : zCode 133 35 = some (.invokespecial 9, 38, 91, 0, 2, 9, 3) := cAX_image_1 _ (List.mem_of_getElem? (i := 4) rfl)
theorem cX_image_38 : zCode 133 38 = some (.aastore, 39, 0, 0, 0, 0, 3) := cAX_image_1 _ (List.mem_of_getElem? (i := 5) rfl)
theorem cX_image_39 : zCode 133 39 = some (.aload_n 0, 40, 0, 0, 0, 0, 3) := cAX_image_1 _ (List.mem_of_getElem? (i := 6) rfl)
theorem cX_image_40 : zCode 133 40 = some (.getfield 16, 43, 11, 1, 2, 507, 3) := cAX_image_1 _ (List.mem_of_getElem? (i := 7) rfl)
theorem cX_image_43 : zCode 133 43 = some (.iload_n 1, 44, 0, 0, 0, 0, 3) := cAX_image_1 _ (List.mem_of_getElem? (i := 8) rfl)
theorem cX_image_44 : zCode 133 44 = some (.aaload, 45, 0, 0, 0, 0, 1) := cAX_image_1 _ (List.mem_of_getElem? (i := 9) rfl)
theorem cX_image_45 : zCode 133 45 = some (.aload_n 0, 46, 0, 0, 0, 0, 1) := cAX_image_1 _ (List.mem_of_getElem? (i := 10) rfl)
theorem cX_image_46 : zCode 133 46 = some (.getfield 10, 49, 11, 0, 2, 506, 0) := cAX_image_1 _ (List.mem_of_getElem? (i := 11) rfl)
theorem cX_image_49 : zCode 133 49 = some (.invokevirtual 248, 52, 92, 1, 3, 9, 0) := cAX_image_1 _ (List.mem_of_getElem? (i := 12) rfl)
theorem cX_image_52 : zCode 133 52 = some (.iconst 1, 53, 0, 0, 0, 0, 0) := cAX_image_1 _ (List.mem_of_getElem? (i := 13) rfl)
theorem cX_image_53 : zCode 133 53 = some (.ireturn, 54, 0, 0, 0, 0, 0) := cAX_image_1 _ (List.mem_of_getElem? (i := 14) rfl)
theorem rX_image_0 {a0 : Nat} {a1 : Int} : zS 133 0 [zR a0, zI a1] [] sh pp mm Q ↔ zS 133 1 [zR a0, zI a1] [zI a1] sh pp mm Q := s_go cX_image_0 cX_image_1 rfl rfl
theorem rX_image_1 {a0 : Nat} {a1 s0 : Int} : zS 133 1 [zR a0, zI a1] [zI s0] sh pp mm Q ↔ zS 133 2 [zR a0, zI a1] [zI 0, zI s0] sh pp mm Q := s_go cX_image_1 cX_image_2 rfl rfl
theorem rX_image_2 {a0 : Nat} {a1 s0 s1 : Int} : zS 133 2 [zR a0, zI a1] [zI s0, zI s1] sh pp mm Q ↔ zS 133 3 [zR a0, zI a1] [zI 1, zI s0, zI s1] sh pp mm Q := s_go cX_image_2 cX_image_3 rfl rfl
theorem rX_image_3 {a0 : Nat} {a1 s0 s1 s2 : Int} : zS 133 3 [zR a0, zI a1] [zI s0, zI s1, zI s2] sh pp mm Q ↔ zS 139 0 [zI s2, zI s1, zI s0] [] sh pp mm (fun v sh pp mm => zS 133 6 [zR a0, zI a1] (zPush v []) sh pp mm Q) := s_call cX_image_3 cX_image_6 rfl rfl
theorem rX_image_6 {a0 : Nat} {a1 s0 : Int} : zS 133 6 [zR a0, zI a1] [zI s0] sh pp mm Q ↔ (s0 = 0 → zS 133 9 [zR a0, zU] [] sh pp mm Q) ∧ (¬ s0 = 0 → zS 133 17 [zR a0, zI a1] [] sh pp mm Q) := s_ifn cX_image_6 cX_image_9 cX_image_17 rfl rfl rfl
theorem rX_image_9 {a0 : Nat} {u1 : zV} : zS 133 9 [zR a0, u1] [] sh pp mm Q ↔ zS 133 10 [zU, zU] [zR a0] sh pp mm Q := s_go cX_image_9 cX_image_10 rfl rfl
theorem rX_image_10 {s0 : Nat} {u0 u1 : zV} : zS 133 10 [u0, u1] [zR s0] sh pp mm Q ↔ zS 133 11 [zU, zU] [zI 0, zR s0] sh pp mm Q := s_go cX_image_10 cX_image_11 rfl rfl
theorem rX_image_11 {s1 : Nat} {s0 : Int} {u0 u1 : zV} : zS 133 11 [u0, u1] [zI s0, zR s1] sh pp mm Q ↔ zS 133 13 [zU, zU] [zI (-2), zI s0, zR s1] sh pp mm Q := s_go cX_image_11 cX_image_13 rfl rfl
theorem rX_image_13 {s2 : Nat} {s0 s1 : Int} {u0 u1 : zV} (hk : zKd sh s2 = 11) : zS 133 13 [u0, u1] [zI s0, zI s1, zR s2] sh pp mm Q ↔ zS 138 0 [zR s2, zI s1, zI s0] [] sh pp mm (fun v sh pp mm => zS 133 16 [zU, zU] (zPush v []) sh pp mm Q) := s_call cX_image_13 cX_image_16 ((if_pos hk).trans rfl) rfl
theorem rX_image_16 {s0 : Int} {u0 u1 : zV} : zS 133 16 [u0, u1] [zI s0] sh pp mm Q ↔ Q (zI s0) sh pp mm := s_ret cX_image_16 rfl
theorem rX_image_17 {a0 : Nat} {a1 : Int} : zS 133 17 [zR a0, zI a1] [] sh pp mm Q ↔ zS 133 18 [zR a0, zI a1] [zR a0] sh pp mm Q := s_go cX_image_17 cX_image_18 rfl rfl
theorem rX_image_18 {a0 s0 : Nat} {a1 : Int} (hk : zKd sh s0 = 11) : zS 133 18 [zR a0, zI a1] [zR s0] sh pp mm Q ↔ zS 133 21 [zR a0, zI a1] [zR (pp s0 1)] sh pp mm Q := s_go cX_image_18 cX_image_21 (if_pos hk) rfl
theorem rX_image_21 {a0 s0 : Nat} {a1 : Int} : zS 133 21 [zR a0, zI a1] [zR s0] sh pp mm Q ↔ zS 133 22 [zR a0, zI a1] [zI a1, zR s0] sh pp mm Q := s_go cX_image_21 cX_image_22 rfl rfl
theorem rX_image_22 {a0 s1 : Nat} {a1 s0 : Int} (hk : 24 ≤ zKd sh s1) (hl : zKd sh s1 ≤ 27) (h0 : 0 ≤ s0) (h1 : s0 < zLn sh s1) : zS 133 22 [zR a0, zI a1] [zI s0, zR s1] sh pp mm Q ↔ zS 133 23 [zR a0, zI a1] [zR (pp s1 s0)] sh pp mm Q := s_go cX_image_22 cX_image_23 (if_pos ⟨zEl_ok hk hl, h0, h1⟩) rfl
theorem rX_image_23 {a0 s0 : Nat} {a1 : Int} : zS 133 23 [zR a0, zI a1] [zR s0] sh pp mm Q ↔ (s0 = 0 → zS 133 26 [zR a0, zI a1] [] sh pp mm Q) ∧ (¬ s0 = 0 → zS 133 39 [zR a0, zI a1] [] sh pp mm Q) := s_br cX_image_23 cX_image_26 cX_image_39 rfl rfl rfl
theorem rX_image_26 {a0 : Nat} {a1 : Int} : zS 133 26 [zR a0, zI a1] [] sh pp mm Q ↔ zS 133 27 [zR a0, zI a1] [zR a0] sh pp mm Q := s_go cX_image_26 cX_image_27 rfl rfl
theorem rX_image_27 {a0 s0 : Nat} {a1 : Int} (hk : zKd sh s0 = 11) : zS 133 27 [zR a0, zI a1] [zR s0] sh pp mm Q ↔ zS 133 30 [zR a0, zI a1] [zR (pp s0 1)] sh pp mm Q := s_go cX_image_27 cX_image_30 (if_pos hk) rfl
theorem rX_image_30 {a0 s0 : Nat} {a1 : Int} : zS 133 30 [zR a0, zI a1] [zR s0] sh pp mm Q ↔ zS 133 31 [zR a0, zI a1] [zI a1, zR s0] sh pp mm Q := s_go cX_image_30 cX_image_31 rfl rfl
theorem rX_image_31 {a0 s1 : Nat} {a1 s0 : Int} : zS 133 31 [zR a0, zI a1] [zI s0, zR s1] sh pp mm Q ↔ zS 133 34 [zR a0, zI a1] [zR sh.length, zI s0, zR s1] (sh ++ [(9, 8)]) (zclp pp sh.length) (zclr mm sh.length) Q := s_go cX_image_31 cX_image_34 rfl rfl
theorem rX_image_34 {a0 s0 s2 : Nat} {a1 s1 : Int} : zS 133 34 [zR a0, zI a1] [zR s0, zI s1, zR s2] sh pp mm Q ↔ zS 133 35 [zR a0, zI a1] [zR s0, zR s0, zI s1, zR s2] sh pp mm Q := s_go cX_image_34 cX_image_35 rfl rfl
theorem rX_image_35 {a0 s0 s1 s3 : Nat} {a1 s2 : Int} (hk : zKd sh s0 = 9) : zS 133 35 [zR a0, zI a1] [zR s0, zR s1, zI s2, zR s3] sh pp mm Q ↔ zS 91 0 [zR s0, zU] [] sh pp mm (fun v sh pp mm => zS 133 38 [zR a0, zI a1] (zPush v [zR s1, zI s2, zR s3]) sh pp mm Q) := s_call cX_image_35 cX_image_38 ((if_pos hk).trans rfl) rfl
theorem rX_image_38 {a0 s0 s2 : Nat} {a1 s1 : Int} (hk : (zKd sh s2 = 24 ∧ zKd sh s0 = 10) ∨ (zKd sh s2 = 25 ∧ zKd sh s0 = 9) ∨ (zKd sh s2 = 26 ∧ zKd sh s0 = 8) ∨ (zKd sh s2 = 27 ∧ zKd sh s0 = 1)) (h0 : 0 ≤ s1) (h1 : s1 < zLn sh s2) : zS 133 38 [zR a0, zI a1] [zR s0, zI s1, zR s2] sh pp mm Q ↔ zS 133 39 [zR a0, zI a1] [] sh (zupp pp s2 s1 s0) mm Q := s_go cX_image_38 cX_image_39 (if_pos ⟨(zEl_st hk).1, (zEl_st hk).2, h0, h1⟩) rfl
theorem rX_image_39 {a0 : Nat} {a1 : Int} : zS 133 39 [zR a0, zI a1] [] sh pp mm Q ↔ zS 133 40 [zR a0, zI a1] [zR a0] sh pp mm Q := s_go cX_image_39 cX_image_40 rfl rfl
theorem rX_image_40 {a0 s0 : Nat} {a1 : Int} (hk : zKd sh s0 = 11) : zS 133 40 [zR a0, zI a1] [zR s0] sh pp mm Q ↔ zS 133 43 [zR a0, zI a1] [zR (pp s0 1)] sh pp mm Q := s_go cX_image_40 cX_image_43 (if_pos hk) rfl
theorem rX_image_43 {a0 s0 : Nat} {a1 : Int} : zS 133 43 [zR a0, zI a1] [zR s0] sh pp mm Q ↔ zS 133 44 [zR a0, zU] [zI a1, zR s0] sh pp mm Q := s_go cX_image_43 cX_image_44 rfl rfl
theorem rX_image_44 {a0 s1 : Nat} {s0 : Int} {u1 : zV} (hk : 24 ≤ zKd sh s1) (hl : zKd sh s1 ≤ 27) (h0 : 0 ≤ s0) (h1 : s0 < zLn sh s1) : zS 133 44 [zR a0, u1] [zI s0, zR s1] sh pp mm Q ↔ zS 133 45 [zR a0, zU] [zR (pp s1 s0)] sh pp mm Q := s_go cX_image_44 cX_image_45 (if_pos ⟨zEl_ok hk hl, h0, h1⟩) rfl
theorem rX_image_45 {a0 s0 : Nat} {u1 : zV} : zS 133 45 [zR a0, u1] [zR s0] sh pp mm Q ↔ zS 133 46 [zU, zU] [zR a0, zR s0] sh pp mm Q := s_go cX_image_45 cX_image_46 rfl rfl
theorem rX_image_46 {s0 s1 : Nat} {u0 u1 : zV} (hk : zKd sh s0 = 11) : zS 133 46 [u0, u1] [zR s0, zR s1] sh pp mm Q ↔ zS 133 49 [zU, zU] [zR (pp s0 0), zR s1] sh pp mm Q := s_go cX_image_46 cX_image_49 (if_pos hk) rfl
theorem rX_image_49 {s0 s1 : Nat} {u0 u1 : zV} (hk : zKd sh s1 = 9) : zS 133 49 [u0, u1] [zR s0, zR s1] sh pp mm Q ↔ zS 92 0 [zR s1, zR s0, zU] [] sh pp mm (fun v sh pp mm => zS 133 52 [zU, zU] (zPush v []) sh pp mm Q) := s_call cX_image_49 cX_image_52 ((if_pos hk).trans rfl) rfl
theorem rX_image_52 {u0 u1 : zV} : zS 133 52 [u0, u1] [] sh pp mm Q ↔ zS 133 53 [zU, zU] [zI 1] sh pp mm Q := s_go cX_image_52 cX_image_53 rfl rfl
theorem rX_image_53 {s0 : Int} {u0 u1 : zV} : zS 133 53 [u0, u1] [zI s0] sh pp mm Q ↔ Q (zI s0) sh pp mm := s_ret cX_image_53 rfl
theorem cAX_from : ∀ q ∈ zT134, zCode 134 q.1 = some q.2 := zAll (mid := 134) rfl (by decide +kernel)
theorem cAX_from_0 : ∀ q ∈ zT134_0, zCode 134 q.1 = some q.2 := fun q h => cAX_from q (List.mem_append_left _ h)
theorem cAX_from_1 : ∀ q ∈ zT134_1, zCode 134 q.1 = some q.2 := fun q h => cAX_from q (List.mem_append_right _ (List.mem_append_left _ h))
theorem cAX_from_2 : ∀ q ∈ zT134_2, zCode 134 q.1 = some q.2 := fun q h => cAX_from q (List.mem_append_right _ (List.mem_append_right _ h))
theorem cX_from_0 : zCode 134 0 = some (.iload_n 1, 1, 0, 0, 0, 0, 3) := cAX_from_0 _ (List.mem_of_getElem? (i := 0) rfl)
theorem cX_from_1 : zCode 134 1 = some (.iconst 0, 2, 0, 0, 0, 0, 3) := cAX_from_0 _ (List.mem_of_getElem? (i := 1) rfl)
theorem cX_from_2 : zCode 134 2 = some (.iconst 1, 3, 0, 0, 0, 0, 3) := cAX_from_0 _ (List.mem_of_getElem? (i := 2) rfl)
theorem cX_from_3 : zCode 134 3 = some (.invokestatic 150, 6, 139, 3, 3, 11, 3) := cAX_from_0 _ (List.mem_of_getElem? (i := 3) rfl)
theorem cX_from_6 : zCode 134 6 = some (.ifCond .ne 11, 9, 17, 0, 0, 0, 3) := cAX_from_0 _ (List.mem_of_getElem? (i := 4) rfl)
theorem cX_from_9 : zCode 134 9 = some (.aload_n 0, 10, 0, 0, 0, 0, 1) := cAX_from_0 _ (List.mem_of_getElem? (i := 5) rfl)
theorem cX_from_10 : zCode 134 10 = some (.iconst 0, 11, 0, 0, 0, 0, 0) := cAX_from_0 _ (List.mem_of_getElem? (i := 6) rfl)
theorem cX_from_11 : zCode 134 11 = some (.bipush (-2), 13, 0, 0, 0, 0, 0) := cAX_from_0 _ (List.mem_of_getElem? (i := 7) rfl)
theorem cX_from_13 : zCode 134 13 = some (.invokevirtual 72, 16, 138, 2, 3, 11, 0) := cAX_from_0 _ (List.mem_of_getElem? (i := 8) rfl)
theorem cX_from_16 : zCode 134 16 = some (.ireturn, 17, 0, 0, 0, 0, 0) := cAX_from_0 _ (List.mem_of_getElem? (i := 9) rfl)
theorem cX_from_17 : zCode 134 17 = some (.aload_n 0, 18, 0, 0, 0, 0, 3) := cAX_from_0 _ (List.mem_of_getElem? (i := 10) rfl)
theorem cX_from_18 : zCode 134 18 = some (.getfield 16, 21, 11, 1, 2, 507, 3) := cAX_from_0 _ (List.mem_of_getElem? (i := 11) rfl)
theorem cX_from_21 : zCode 134 21 = some (.iload_n 1, 22, 0, 0, 0, 0, 3) := cAX_from_0 _ (List.mem_of_getElem? (i := 12) rfl)
theorem cX_from_22 : zCode 134 22 = some (.aaload, 23, 0, 0, 0, 0, 1) := cAX_from_0 _ (List.mem_of_getElem? (i := 13) rfl)
theorem cX_from_23 : zCode 134 23 = some (.astore_n 2, 24, 0, 0, 0, 0, 1) := cAX_from_0 _ (List.mem_of_getElem? (i := 14) rfl)
theorem cX_from_24 : zCode 134 24 = some (.aload_n 2, 25, 0, 0, 0, 0, 5) := cAX_from_0 _ (List.mem_of_getElem? (i := 15) rfl)
theorem cX_from_25 : zCode 134 25 = some (.ifnonnull 11, 28, 36, 0, 0, 0, 5) := cAX_from_1 _ (List.mem_of_getElem? (i := 0) rfl)
theorem cX_from_28 : zCode 134 28 = some (.aload_n 0, 29, 0, 0, 0, 0, 1) := cAX_from_1 _ (List.mem_of_getElem? (i := 1) rfl)
theorem cX_from_29 : zCode 134 29 = some (.iconst 1, 30, 0, 0, 0, 0, 0) := cAX_from_1 _ (List.mem_of_getElem? (i := 2) rfl)
theorem cX_from_30 : zCode 134 30 = some (.bipush (-3), 32, 0, 0, 0, 0, 0) := cAX_from_1 _ (List.mem_of_getElem? (i := 3) rfl)
theorem cX_from_32 : zCode 134 32 = some (.invokevirtual 72, 35, 138, 2, 3, 11, 0) := cAX_from_1 _ (List.mem_of_getElem? (i := 4) rfl)
theorem cX_from_35 : zCode 134 35 = some (.ireturn, 36, 0, 0, 0, 0, 0) := cAX_from_1 _ (List.mem_of_getElem? (i := 5) rfl)
theorem cX_from_36 : zCode 134 36 = some (.aload_n 0, 37, 0, 0, 0, 0, 5) := cAX_from_1 _ (List.mem_of_getElem? (i := 6) rfl)
theorem cX_from_37 : zCode 134 37 = some (.getfield 10, 40, 11, 0, 2, 506, 5) := cAX_from_1 _ (List.mem_of_getElem? (i := 7) rfl)
theorem cX_from_40 : zCode 134 40 = some (.aload_n 2, 41, 0, 0, 0, 0, 5) := cAX_from_1 _ (List.mem_of_getElem? (i := 8) rfl)
theorem cX_from_41 : zCode 134 41 = some (.invokevirtual 248, 44, 92, 1, 3, 9, 1) := cAX_from_1 _ (List.mem_of_getElem? (i := 9) rfl)
theorem cX_from_44 : zCode 134 44 = some (.iconst 0, 45, 0, 0, 0, 0, 1) := cAX_from_1 _ (List.mem_of_getElem? (i := 10) rfl)
theorem cX_from_45 : zCode 134 45 = some (.istore_n 3, 46, 0, 0, 0, 0, 1) := cAX_from_1 _ (List.mem_of_getElem? (i := 11) rfl)
theorem cX_from_46 : zCode 134 46 = some (.iload_n 3, 47, 0, 0, 0, 0, 9) := cAX_from_1 _ (List.mem_of_getElem? (i := 12) rfl)
theorem cX_from_47 : zCode 134 47 = some (.iconst 4, 48, 0, 0, 0, 0, 9) := cAX_from_1 _ (List.mem_of_getElem? (i := 13) rfl)
theorem cX_from_48 : zCode 134 48 = some (.if_icmp .ge 14, 51, 62, 0, 0, 0, 9) := cAX_from_1 _ (List.mem_of_getElem? (i := 14) rfl)
theorem cX_from_51 : zCode 134 51 = some (.aload_n 0, 52, 0, 0, 0, 0, 9) := cAX_from_1 _ (List.mem_of_getElem? (i := 15) rfl)
theorem cX_from_52 : zCode 134 52 = some (.iload_n 3, 53, 0, 0, 0, 0, 9) := cAX_from_2 _ (List.mem_of_getElem? (i := 0) rfl)
theorem cX_from_53 : zCode 134 53 = some (.invokevirtual 103, 56, 146, 1, 2, 11, 9) := cAX_from_2 _ (List.mem_of_getElem? (i := 1) rfl)
theorem cX_from_56 : zCode 134 56 = some (.iinc 3 1, 59, 0, 0, 0, 0, 9) := cAX_from_2 _ (List.mem_of_getElem? (i := 2) rfl)
theorem cX_from_59 : zCode 134 59 = some (.goto (-13), 62, 46, 0, 0, 0, 9) := cAX_from_2 _ (List.mem_of_getElem? (i := 3) rfl)
theorem cX_from_62 : zCode 134 62 = some (.aload_n 0, 63, 0, 0, 0, 0, 1) := cAX_from_2 _ (List.mem_of_getElem? (i := 4) rfl)
theorem cX_from_63 : zCode 134 63 = some (.getfield 39, 66, 11, 5, 2, 511, 0) := cAX_from_2 _ (List.mem_of_getElem? (i := 5) rfl)
theorem cX_from_66 : zCode 134 66 = some (.invokevirtual 82, 69, 54, 0, 1, 6, 0) := cAX_from_2 _ (List.mem_of_getElem? (i := 6) rfl)
theorem cX_from_69 : zCode 134 69 = some (.iconst 1, 70, 0, 0, 0, 0, 0) := cAX_from_2 _ (List.mem_of_getElem? (i := 7) rfl)
theorem cX_from_70 : zCode 134 70 = some (.ireturn, 71, 0, 0, 0, 0, 0) := cAX_from_2 _ (List.mem_of_getElem? (i := 8) rfl)
theorem rX_from_0 {a0 : Nat} {a1 : Int} {u2 u3 : zV} : zS 134 0 [zR a0, zI a1, u2, u3] [] sh pp mm Q ↔ zS 134 1 [zR a0, zI a1, zU, zU] [zI a1] sh pp mm Q := s_go cX_from_0 cX_from_1 rfl rfl
theorem rX_from_1 {a0 : Nat} {a1 s0 : Int} {u2 u3 : zV} : zS 134 1 [zR a0, zI a1, u2, u3] [zI s0] sh pp mm Q ↔ zS 134 2 [zR a0, zI a1, zU, zU] [zI 0, zI s0] sh pp mm Q := s_go cX_from_1 cX_from_2 rfl rfl
theorem rX_from_2 {a0 : Nat} {a1 s0 s1 : Int} {u2 u3 : zV} : zS 134 2 [zR a0, zI a1, u2, u3] [zI s0, zI s1] sh pp mm Q ↔ zS 134 3 [zR a0, zI a1, zU, zU] [zI 1, zI s0, zI s1] sh pp mm Q := s_go cX_from_2 cX_from_3 rfl rfl
theorem rX_from_3 {a0 : Nat} {a1 s0 s1 s2 : Int} {u2 u3 : zV} : zS 134 3 [zR a0, zI a1, u2, u3] [zI s0, zI s1, zI s2] sh pp mm Q ↔ zS 139 0 [zI s2, zI s1, zI s0] [] sh pp mm (fun v sh pp mm => zS 134 6 [zR a0, zI a1, zU, zU] (zPush v []) sh pp mm Q) := s_call cX_from_3 cX_from_6 rfl rfl
theorem rX_from_6 {a0 : Nat} {a1 s0 : Int} {u2 u3 : zV} : zS 134 6 [zR a0, zI a1, u2, u3] [zI s0] sh pp mm Q ↔ (s0 = 0 → zS 134 9 [zR a0, zU, zU, zU] [] sh pp mm Q) ∧ (¬ s0 = 0 → zS 134 17 [zR a0, zI a1, zU, zU] [] sh pp mm Q) := s_ifn cX_from_6 cX_from_9 cX_from_17 rfl rfl rfl
theorem rX_from_9 {a0 : Nat} {u1 u2 u3 : zV} : zS 134 9 [zR a0, u1, u2, u3] [] sh pp mm Q ↔ zS 134 10 [zU, zU, zU, zU] [zR a0] sh pp mm Q := s_go cX_from_9 cX_from_10 rfl rfl
theorem rX_from_10 {s0 : Nat} {u0 u1 u2 u3 : zV} : zS 134 10 [u0, u1, u2, u3] [zR s0] sh pp mm Q ↔ zS 134 11 [zU, zU, zU, zU] [zI 0, zR s0] sh pp mm Q := s_go cX_from_10 cX_from_11 rfl rfl
theorem rX_from_11 {s1 : Nat} {s0 : Int} {u0 u1 u2 u3 : zV} : zS 134 11 [u0, u1, u2, u3] [zI s0, zR s1] sh pp mm Q ↔ zS 134 13 [zU, zU, zU, zU] [zI (-2), zI s0, zR s1] sh pp mm Q := s_go cX_from_11 cX_from_13 rfl rfl
theorem rX_from_13 {s2 : Nat} {s0 s1 : Int} {u0 u1 u2 u3 : zV} (hk : zKd sh s2 = 11) : zS 134 13 [u0, u1, u2, u3] [zI s0, zI s1, zR s2] sh pp mm Q ↔ zS 138 0 [zR s2, zI s1, zI s0] [] sh pp mm (fun v sh pp mm => zS 134 16 [zU, zU, zU, zU] (zPush v []) sh pp mm Q) := s_call cX_from_13 cX_from_16 ((if_pos hk).trans rfl) rfl
theorem rX_from_16 {s0 : Int} {u0 u1 u2 u3 : zV} : zS 134 16 [u0, u1, u2, u3] [zI s0] sh pp mm Q ↔ Q (zI s0) sh pp mm := s_ret cX_from_16 rfl
theorem rX_from_17 {a0 : Nat} {a1 : Int} {u2 u3 : zV} : zS 134 17 [zR a0, zI a1, u2, u3] [] sh pp mm Q ↔ zS 134 18 [zR a0, zI a1, zU, zU] [zR a0] sh pp mm Q := s_go cX_from_17 cX_from_18 rfl rfl
theorem rX_from_18 {a0 s0 : Nat} {a1 : Int} {u2 u3 : zV} (hk : zKd sh s0 = 11) : zS 134 18 [zR a0, zI a1, u2, u3] [zR s0] sh pp mm Q ↔ zS 134 21 [zR a0, zI a1, zU, zU] [zR (pp s0 1)] sh pp mm Q := s_go cX_from_18 cX_from_21 (if_pos hk) rfl
theorem rX_from_21 {a0 s0 : Nat} {a1 : Int} {u2 u3 : zV} : zS 134 21 [zR a0, zI a1, u2, u3] [zR s0] sh pp mm Q ↔ zS 134 22 [zR a0, zU, zU, zU] [zI a1, zR s0] sh pp mm Q := s_go cX_from_21 cX_from_22 rfl rfl
theorem rX_from_22 {a0 s1 : Nat} {s0 : Int} {u1 u2 u3 : zV} (hk : 24 ≤ zKd sh s1) (hl : zKd sh s1 ≤ 27) (h0 : 0 ≤ s0) (h1 : s0 < zLn sh s1) : zS 134 22 [zR a0, u1, u2, u3] [zI s0, zR s1] sh pp mm Q ↔ zS 134 23 [zR a0, zU, zU, zU] [zR (pp s1 s0)] sh pp mm Q := s_go cX_from_22 cX_from_23 (if_pos ⟨zEl_ok hk hl, h0, h1⟩) rfl
theorem rX_from_23 {a0 s0 : Nat} {u1 u2 u3 : zV} : zS 134 23 [zR a0, u1, u2, u3] [zR s0] sh pp mm Q ↔ zS 134 24 [zR a0, zU, zR s0, zU] [] sh pp mm Q := s_go cX_from_23 cX_from_24 rfl rfl
theorem rX_from_24 {a0 a2 : Nat} {u1 u3 : zV} : zS 134 24 [zR a0, u1, zR a2, u3] [] sh pp mm Q ↔ zS 134 25 [zR a0, zU, zR a2, zU] [zR a2] sh pp mm Q := s_go cX_from_24 cX_from_25 rfl rfl
theorem rX_from_25 {a0 a2 s0 : Nat} {u1 u3 : zV} : zS 134 25 [zR a0, u1, zR a2, u3] [zR s0] sh pp mm Q ↔ (s0 = 0 → zS 134 28 [zR a0, zU, zU, zU] [] sh pp mm Q) ∧ (¬ s0 = 0 → zS 134 36 [zR a0, zU, zR a2, zU] [] sh pp mm Q) := s_br cX_from_25 cX_from_28 cX_from_36 rfl rfl rfl
theorem rX_from_28 {a0 : Nat} {u1 u2 u3 : zV} : zS 134 28 [zR a0, u1, u2, u3] [] sh pp mm Q ↔ zS 134 29 [zU, zU, zU, zU] [zR a0] sh pp mm Q := s_go cX_from_28 cX_from_29 rfl rfl
theorem rX_from_29 {s0 : Nat} {u0 u1 u2 u3 : zV} : zS 134 29 [u0, u1, u2, u3] [zR s0] sh pp mm Q ↔ zS 134 30 [zU, zU, zU, zU] [zI 1, zR s0] sh pp mm Q := s_go cX_from_29 cX_from_30 rfl rfl
theorem rX_from_30 {s1 : Nat} {s0 : Int} {u0 u1 u2 u3 : zV} : zS 134 30 [u0, u1, u2, u3] [zI s0, zR s1] sh pp mm Q ↔ zS 134 32 [zU, zU, zU, zU] [zI (-3), zI s0, zR s1] sh pp mm Q := s_go cX_from_30 cX_from_32 rfl rfl
theorem rX_from_32 {s2 : Nat} {s0 s1 : Int} {u0 u1 u2 u3 : zV} (hk : zKd sh s2 = 11) : zS 134 32 [u0, u1, u2, u3] [zI s0, zI s1, zR s2] sh pp mm Q ↔ zS 138 0 [zR s2, zI s1, zI s0] [] sh pp mm (fun v sh pp mm => zS 134 35 [zU, zU, zU, zU] (zPush v []) sh pp mm Q) := s_call cX_from_32 cX_from_35 ((if_pos hk).trans rfl) rfl
theorem rX_from_35 {s0 : Int} {u0 u1 u2 u3 : zV} : zS 134 35 [u0, u1, u2, u3] [zI s0] sh pp mm Q ↔ Q (zI s0) sh pp mm := s_ret cX_from_35 rfl
theorem rX_from_36 {a0 a2 : Nat} {u1 u3 : zV} : zS 134 36 [zR a0, u1, zR a2, u3] [] sh pp mm Q ↔ zS 134 37 [zR a0, zU, zR a2, zU] [zR a0] sh pp mm Q := s_go cX_from_36 cX_from_37 rfl rfl
theorem rX_from_37 {a0 a2 s0 : Nat} {u1 u3 : zV} (hk : zKd sh s0 = 11) : zS 134 37 [zR a0, u1, zR a2, u3] [zR s0] sh pp mm Q ↔ zS 134 40 [zR a0, zU, zR a2, zU] [zR (pp s0 0)] sh pp mm Q := s_go cX_from_37 cX_from_40 (if_pos hk) rfl
theorem rX_from_40 {a0 a2 s0 : Nat} {u1 u3 : zV} : zS 134 40 [zR a0, u1, zR a2, u3] [zR s0] sh pp mm Q ↔ zS 134 41 [zR a0, zU, zU, zU] [zR a2, zR s0] sh pp mm Q := s_go cX_from_40 cX_from_41 rfl rfl
theorem rX_from_41 {a0 s0 s1 : Nat} {u1 u2 u3 : zV} (hk : zKd sh s1 = 9) : zS 134 41 [zR a0, u1, u2, u3] [zR s0, zR s1] sh pp mm Q ↔ zS 92 0 [zR s1, zR s0, zU] [] sh pp mm (fun v sh pp mm => zS 134 44 [zR a0, zU, zU, zU] (zPush v []) sh pp mm Q) := s_call cX_from_41 cX_from_44 ((if_pos hk).trans rfl) rfl
theorem rX_from_44 {a0 : Nat} {u1 u2 u3 : zV} : zS 134 44 [zR a0, u1, u2, u3] [] sh pp mm Q ↔ zS 134 45 [zR a0, zU, zU, zU] [zI 0] sh pp mm Q := s_go cX_from_44 cX_from_45 rfl rfl
theorem rX_from_45 {a0 : Nat} {s0 : Int} {u1 u2 u3 : zV} : zS 134 45 [zR a0, u1, u2, u3] [zI s0] sh pp mm Q ↔ zS 134 46 [zR a0, zU, zU, zI s0] [] sh pp mm Q := s_go cX_from_45 cX_from_46 rfl rfl
theorem rX_from_46 {a0 : Nat} {a3 : Int} {u1 u2 : zV} : zS 134 46 [zR a0, u1, u2, zI a3] [] sh pp mm Q ↔ zS 134 47 [zR a0, zU, zU, zI a3] [zI a3] sh pp mm Q := s_go cX_from_46 cX_from_47 rfl rfl
theorem rX_from_47 {a0 : Nat} {a3 s0 : Int} {u1 u2 : zV} : zS 134 47 [zR a0, u1, u2, zI a3] [zI s0] sh pp mm Q ↔ zS 134 48 [zR a0, zU, zU, zI a3] [zI 4, zI s0] sh pp mm Q := s_go cX_from_47 cX_from_48 rfl rfl
theorem rX_from_48 {a0 : Nat} {a3 s0 s1 : Int} {u1 u2 : zV} : zS 134 48 [zR a0, u1, u2, zI a3] [zI s0, zI s1] sh pp mm Q ↔ (s1 < s0 → zS 134 51 [zR a0, zU, zU, zI a3] [] sh pp mm Q) ∧ (¬ s1 < s0 → zS 134 62 [zR a0, zU, zU, zU] [] sh pp mm Q) := s_ifn cX_from_48 cX_from_51 cX_from_62 rfl rfl rfl
theorem rX_from_51 {a0 : Nat} {a3 : Int} {u1 u2 : zV} : zS 134 51 [zR a0, u1, u2, zI a3] [] sh pp mm Q ↔ zS 134 52 [zR a0, zU, zU, zI a3] [zR a0] sh pp mm Q := s_go cX_from_51 cX_from_52 rfl rfl
theorem rX_from_52 {a0 s0 : Nat} {a3 : Int} {u1 u2 : zV} : zS 134 52 [zR a0, u1, u2, zI a3] [zR s0] sh pp mm Q ↔ zS 134 53 [zR a0, zU, zU, zI a3] [zI a3, zR s0] sh pp mm Q := s_go cX_from_52 cX_from_53 rfl rfl
theorem rX_from_53 {a0 s1 : Nat} {a3 s0 : Int} {u1 u2 : zV} (hk : zKd sh s1 = 11) : zS 134 53 [zR a0, u1, u2, zI a3] [zI s0, zR s1] sh pp mm Q ↔ zS 146 0 [zR s1, zI s0] [] sh pp mm (fun v sh pp mm => zS 134 56 [zR a0, zU, zU, zI a3] (zPush v []) sh pp mm Q) := s_call cX_from_53 cX_from_56 ((if_pos hk).trans rfl) rfl
theorem rX_from_56 {a0 : Nat} {a3 : Int} {u1 u2 : zV} : zS 134 56 [zR a0, u1, u2, zI a3] [] sh pp mm Q ↔ zS 134 59 [zR a0, zU, zU, zI (zw32 (a3 + 1))] [] sh pp mm Q := s_go cX_from_56 cX_from_59 rfl rfl
theorem rX_from_59 {a0 : Nat} {a3 : Int} {u1 u2 : zV} : zS 134 59 [zR a0, u1, u2, zI a3] [] sh pp mm Q ↔ zS 134 46 [zR a0, zU, zU, zI a3] [] sh pp mm Q := s_go cX_from_59 cX_from_46 rfl rfl
theorem rX_from_62 {a0 : Nat} {u1 u2 u3 : zV} : zS 134 62 [zR a0, u1, u2, u3] [] sh pp mm Q ↔ zS 134 63 [zU, zU, zU, zU] [zR a0] sh pp mm Q := s_go cX_from_62 cX_from_63 rfl rfl
theorem rX_from_63 {s0 : Nat} {u0 u1 u2 u3 : zV} (hk : zKd sh s0 = 11) : zS 134 63 [u0, u1, u2, u3] [zR s0] sh pp mm Q ↔ zS 134 66 [zU, zU, zU, zU] [zR (pp s0 5)] sh pp mm Q := s_go cX_from_63 cX_from_66 (if_pos hk) rfl
theorem rX_from_66 {s0 : Nat} {u0 u1 u2 u3 : zV} (hk : zKd sh s0 = 6) : zS 134 66 [u0, u1, u2, u3] [zR s0] sh pp mm Q ↔ zS 54 0 [zR s0] [] sh pp mm (fun v sh pp mm => zS 134 69 [zU, zU, zU, zU] (zPush v []) sh pp mm Q) := s_call cX_from_66 cX_from_69 ((if_pos hk).trans rfl) rfl
theorem rX_from_69 {u0 u1 u2 u3 : zV} : zS 134 69 [u0, u1, u2, u3] [] sh pp mm Q ↔ zS 134 70 [zU, zU, zU, zU] [zI 1] sh pp mm Q := s_go cX_from_69 cX_from_70 rfl rfl
theorem rX_from_70 {s0 : Int} {u0 u1 u2 u3 : zV} : zS 134 70 [u0, u1, u2, u3] [zI s0] sh pp mm Q ↔ Q (zI s0) sh pp mm := s_ret cX_from_70 rfl
theorem cAX_status : ∀ q ∈ zT135, zCode 135 q.1 = some q.2 := zAll (mid := 135) rfl (by decide +kernel)
theorem cAX_status_0 : ∀ q ∈ zT135_0, zCode 135 q.1 = some q.2 := fun q h => cAX_status q (h)
theorem cX_status_0 : zCode 135 0 = some (.iload_n 1, 1, 0, 0, 0, 0, 3) := cAX_status_0 _ (List.mem_of_getElem? (i := 0) rfl)
theorem cX_status_1 : zCode 135 1 = some (.iconst 0, 2, 0, 0, 0, 0, 3) := cAX_status_0 _ (List.mem_of_getElem? (i := 1) rfl)
theorem cX_status_2 : zCode 135 2 = some (.iconst 2, 3, 0, 0, 0, 0, 3) := cAX_status_0 _ (List.mem_of_getElem? (i := 2) rfl)
theorem cX_status_3 : zCode 135 3 = some (.invokestatic 150, 6, 139, 3, 3, 11, 3) := cAX_status_0 _ (List.mem_of_getElem? (i := 3) rfl)
theorem cX_status_6 : zCode 135 6 = some (.ifCond .ne 10, 9, 16, 0, 0, 0, 3) := cAX_status_0 _ (List.mem_of_getElem? (i := 4) rfl)
theorem cX_status_9 : zCode 135 9 = some (.aload_n 0, 10, 0, 0, 0, 0, 1) := cAX_status_0 _ (List.mem_of_getElem? (i := 5) rfl)
theorem cX_status_10 : zCode 135 10 = some (.iconst 0, 11, 0, 0, 0, 0, 0) := cAX_status_0 _ (List.mem_of_getElem? (i := 6) rfl)
theorem cX_status_11 : zCode 135 11 = some (.iconst (-1), 12, 0, 0, 0, 0, 0) := cAX_status_0 _ (List.mem_of_getElem? (i := 7) rfl)
theorem cX_status_12 : zCode 135 12 = some (.invokevirtual 72, 15, 138, 2, 3, 11, 0) := cAX_status_0 _ (List.mem_of_getElem? (i := 8) rfl)
theorem cX_status_15 : zCode 135 15 = some (.ireturn, 16, 0, 0, 0, 0, 0) := cAX_status_0 _ (List.mem_of_getElem? (i := 9) rfl)
theorem cX_status_16 : zCode 135 16 = some (.aload_n 0, 17, 0, 0, 0, 0, 3) := cAX_status_0 _ (List.mem_of_getElem? (i := 10) rfl)
theorem cX_status_17 : zCode 135 17 = some (.getfield 20, 20, 11, 2, 2, 508, 2) := cAX_status_0 _ (List.mem_of_getElem? (i := 11) rfl)
theorem cX_status_20 : zCode 135 20 = some (.iload_n 1, 21, 0, 0, 0, 0, 2) := cAX_status_0 _ (List.mem_of_getElem? (i := 12) rfl)
theorem cX_status_21 : zCode 135 21 = some (.iaload, 22, 0, 0, 0, 0, 0) := cAX_status_0 _ (List.mem_of_getElem? (i := 13) rfl)
theorem cX_status_22 : zCode 135 22 = some (.ireturn, 23, 0, 0, 0, 0, 0) := cAX_status_0 _ (List.mem_of_getElem? (i := 14) rfl)
theorem rX_status_0 {a0 : Nat} {a1 : Int} : zS 135 0 [zR a0, zI a1] [] sh pp mm Q ↔ zS 135 1 [zR a0, zI a1] [zI a1] sh pp mm Q := s_go cX_status_0 cX_status_1 rfl rfl
theorem rX_status_1 {a0 : Nat} {a1 s0 : Int} : zS 135 1 [zR a0, zI a1] [zI s0] sh pp mm Q ↔ zS 135 2 [zR a0, zI a1] [zI 0, zI s0] sh pp mm Q := s_go cX_status_1 cX_status_2 rfl rfl
theorem rX_status_2 {a0 : Nat} {a1 s0 s1 : Int} : zS 135 2 [zR a0, zI a1] [zI s0, zI s1] sh pp mm Q ↔ zS 135 3 [zR a0, zI a1] [zI 2, zI s0, zI s1] sh pp mm Q := s_go cX_status_2 cX_status_3 rfl rfl
theorem rX_status_3 {a0 : Nat} {a1 s0 s1 s2 : Int} : zS 135 3 [zR a0, zI a1] [zI s0, zI s1, zI s2] sh pp mm Q ↔ zS 139 0 [zI s2, zI s1, zI s0] [] sh pp mm (fun v sh pp mm => zS 135 6 [zR a0, zI a1] (zPush v []) sh pp mm Q) := s_call cX_status_3 cX_status_6 rfl rfl
theorem rX_status_6 {a0 : Nat} {a1 s0 : Int} : zS 135 6 [zR a0, zI a1] [zI s0] sh pp mm Q ↔ (s0 = 0 → zS 135 9 [zR a0, zU] [] sh pp mm Q) ∧ (¬ s0 = 0 → zS 135 16 [zR a0, zI a1] [] sh pp mm Q) := s_ifn cX_status_6 cX_status_9 cX_status_16 rfl rfl rfl
theorem rX_status_9 {a0 : Nat} {u1 : zV} : zS 135 9 [zR a0, u1] [] sh pp mm Q ↔ zS 135 10 [zU, zU] [zR a0] sh pp mm Q := s_go cX_status_9 cX_status_10 rfl rfl
theorem rX_status_10 {s0 : Nat} {u0 u1 : zV} : zS 135 10 [u0, u1] [zR s0] sh pp mm Q ↔ zS 135 11 [zU, zU] [zI 0, zR s0] sh pp mm Q := s_go cX_status_10 cX_status_11 rfl rfl
theorem rX_status_11 {s1 : Nat} {s0 : Int} {u0 u1 : zV} : zS 135 11 [u0, u1] [zI s0, zR s1] sh pp mm Q ↔ zS 135 12 [zU, zU] [zI (-1), zI s0, zR s1] sh pp mm Q := s_go cX_status_11 cX_status_12 rfl rfl
theorem rX_status_12 {s2 : Nat} {s0 s1 : Int} {u0 u1 : zV} (hk : zKd sh s2 = 11) : zS 135 12 [u0, u1] [zI s0, zI s1, zR s2] sh pp mm Q ↔ zS 138 0 [zR s2, zI s1, zI s0] [] sh pp mm (fun v sh pp mm => zS 135 15 [zU, zU] (zPush v []) sh pp mm Q) := s_call cX_status_12 cX_status_15 ((if_pos hk).trans rfl) rfl
theorem rX_status_15 {s0 : Int} {u0 u1 : zV} : zS 135 15 [u0, u1] [zI s0] sh pp mm Q ↔ Q (zI s0) sh pp mm := s_ret cX_status_15 rfl
theorem rX_status_16 {a0 : Nat} {a1 : Int} : zS 135 16 [zR a0, zI a1] [] sh pp mm Q ↔ zS 135 17 [zU, zI a1] [zR a0] sh pp mm Q := s_go cX_status_16 cX_status_17 rfl rfl
theorem rX_status_17 {s0 : Nat} {a1 : Int} {u0 : zV} (hk : zKd sh s0 = 11) : zS 135 17 [u0, zI a1] [zR s0] sh pp mm Q ↔ zS 135 20 [zU, zI a1] [zR (pp s0 2)] sh pp mm Q := s_go cX_status_17 cX_status_20 (if_pos hk) rfl
theorem rX_status_20 {s0 : Nat} {a1 : Int} {u0 : zV} : zS 135 20 [u0, zI a1] [zR s0] sh pp mm Q ↔ zS 135 21 [zU, zU] [zI a1, zR s0] sh pp mm Q := s_go cX_status_20 cX_status_21 rfl rfl
theorem rX_status_21 {s1 : Nat} {s0 : Int} {u0 u1 : zV} (hk : zKd sh s1 = 20 ∨ zKd sh s1 = 30) (h0 : 0 ≤ s0) (h1 : s0 < zLn sh s1) : zS 135 21 [u0, u1] [zI s0, zR s1] sh pp mm Q ↔ zS 135 22 [zU, zU] [zI (mm s1 s0)] sh pp mm Q := s_go cX_status_21 cX_status_22 (if_pos ⟨hk, h0, h1⟩) rfl
theorem rX_status_22 {s0 : Int} {u0 u1 : zV} : zS 135 22 [u0, u1] [zI s0] sh pp mm Q ↔ Q (zI s0) sh pp mm := s_ret cX_status_22 rfl
theorem cAX_count : ∀ q ∈ zT136, zCode 136 q.1 = some q.2 := zAll (mid := 136) rfl (by decide +kernel)
theorem cAX_count_0 : ∀ q ∈ zT136_0, zCode 136 q.1 = some q.2 := fun q h => cAX_count q (h)
theorem cX_count_0 : zCode 136 0 = some (.iload_n 1, 1, 0, 0, 0, 0, 3) := cAX_count_0 _ (List.mem_of_getElem? (i := 0) rfl)
theorem cX_count_1 : zCode 136 1 = some (.iconst 0, 2, 0, 0, 0, 0, 3) := cAX_count_0 _ (List.mem_of_getElem? (i := 1) rfl)
theorem cX_count_2 : zCode 136 2 = some (.bipush 8, 4, 0, 0, 0, 0, 3) := cAX_count_0 _ (List.mem_of_getElem? (i := 2) rfl)
theorem cX_count_4 : zCode 136 4 = some (.invokestatic 150, 7, 139, 3, 3, 11, 3) := cAX_count_0 _ (List.mem_of_getElem? (i := 3) rfl)
theorem cX_count_7 : zCode 136 7 = some (.ifCond .ne 11, 10, 18, 0, 0, 0, 3) := cAX_count_0 _ (List.mem_of_getElem? (i := 4) rfl)
theorem cX_count_10 : zCode 136 10 = some (.aload_n 0, 11, 0, 0, 0, 0, 1) := cAX_count_0 _ (List.mem_of_getElem? (i := 5) rfl)
theorem cX_count_11 : zCode 136 11 = some (.iconst 0, 12, 0, 0, 0, 0, 0) := cAX_count_0 _ (List.mem_of_getElem? (i := 6) rfl)
theorem cX_count_12 : zCode 136 12 = some (.bipush (-2), 14, 0, 0, 0, 0, 0) := cAX_count_0 _ (List.mem_of_getElem? (i := 7) rfl)
theorem cX_count_14 : zCode 136 14 = some (.invokevirtual 72, 17, 138, 2, 3, 11, 0) := cAX_count_0 _ (List.mem_of_getElem? (i := 8) rfl)
theorem cX_count_17 : zCode 136 17 = some (.ireturn, 18, 0, 0, 0, 0, 0) := cAX_count_0 _ (List.mem_of_getElem? (i := 9) rfl)
theorem cX_count_18 : zCode 136 18 = some (.aload_n 0, 19, 0, 0, 0, 0, 3) := cAX_count_0 _ (List.mem_of_getElem? (i := 10) rfl)
theorem cX_count_19 : zCode 136 19 = some (.getfield 10, 22, 11, 0, 2, 506, 2) := cAX_count_0 _ (List.mem_of_getElem? (i := 11) rfl)
theorem cX_count_22 : zCode 136 22 = some (.iload_n 1, 23, 0, 0, 0, 0, 2) := cAX_count_0 _ (List.mem_of_getElem? (i := 12) rfl)
theorem cX_count_23 : zCode 136 23 = some (.invokevirtual 251, 26, 93, 1, 2, 9, 0) := cAX_count_0 _ (List.mem_of_getElem? (i := 13) rfl)
theorem cX_count_26 : zCode 136 26 = some (.ireturn, 27, 0, 0, 0, 0, 0) := cAX_count_0 _ (List.mem_of_getElem? (i := 14) rfl)
theorem rX_count_0 {a0 : Nat} {a1 : Int} : zS 136 0 [zR a0, zI a1] [] sh pp mm Q ↔ zS 136 1 [zR a0, zI a1] [zI a1] sh pp mm Q := s_go cX_count_0 cX_count_1 rfl rfl
theorem rX_count_1 {a0 : Nat} {a1 s0 : Int} : zS 136 1 [zR a0, zI a1] [zI s0] sh pp mm Q ↔ zS 136 2 [zR a0, zI a1] [zI 0, zI s0] sh pp mm Q := s_go cX_count_1 cX_count_2 rfl rfl
theorem rX_count_2 {a0 : Nat} {a1 s0 s1 : Int} : zS 136 2 [zR a0, zI a1] [zI s0, zI s1] sh pp mm Q ↔ zS 136 4 [zR a0, zI a1] [zI 8, zI s0, zI s1] sh pp mm Q := s_go cX_count_2 cX_count_4 rfl rfl
theorem rX_count_4 {a0 : Nat} {a1 s0 s1 s2 : Int} : zS 136 4 [zR a0, zI a1] [zI s0, zI s1, zI s2] sh pp mm Q ↔ zS 139 0 [zI s2, zI s1, zI s0] [] sh pp mm (fun v sh pp mm => zS 136 7 [zR a0, zI a1] (zPush v []) sh pp mm Q) := s_call cX_count_4 cX_count_7 rfl rfl
theorem rX_count_7 {a0 : Nat} {a1 s0 : Int} : zS 136 7 [zR a0, zI a1] [zI s0] sh pp mm Q ↔ (s0 = 0 → zS 136 10 [zR a0, zU] [] sh pp mm Q) ∧ (¬ s0 = 0 → zS 136 18 [zR a0, zI a1] [] sh pp mm Q) := s_ifn cX_count_7 cX_count_10 cX_count_18 rfl rfl rfl
theorem rX_count_10 {a0 : Nat} {u1 : zV} : zS 136 10 [zR a0, u1] [] sh pp mm Q ↔ zS 136 11 [zU, zU] [zR a0] sh pp mm Q := s_go cX_count_10 cX_count_11 rfl rfl
theorem rX_count_11 {s0 : Nat} {u0 u1 : zV} : zS 136 11 [u0, u1] [zR s0] sh pp mm Q ↔ zS 136 12 [zU, zU] [zI 0, zR s0] sh pp mm Q := s_go cX_count_11 cX_count_12 rfl rfl
theorem rX_count_12 {s1 : Nat} {s0 : Int} {u0 u1 : zV} : zS 136 12 [u0, u1] [zI s0, zR s1] sh pp mm Q ↔ zS 136 14 [zU, zU] [zI (-2), zI s0, zR s1] sh pp mm Q := s_go cX_count_12 cX_count_14 rfl rfl
theorem rX_count_14 {s2 : Nat} {s0 s1 : Int} {u0 u1 : zV} (hk : zKd sh s2 = 11) : zS 136 14 [u0, u1] [zI s0, zI s1, zR s2] sh pp mm Q ↔ zS 138 0 [zR s2, zI s1, zI s0] [] sh pp mm (fun v sh pp mm => zS 136 17 [zU, zU] (zPush v []) sh pp mm Q) := s_call cX_count_14 cX_count_17 ((if_pos hk).trans rfl) rfl
theorem rX_count_17 {s0 : Int} {u0 u1 : zV} : zS 136 17 [u0, u1] [zI s0] sh pp mm Q ↔ Q (zI s0) sh pp mm := s_ret cX_count_17 rfl
theorem rX_count_18 {a0 : Nat} {a1 : Int} : zS 136 18 [zR a0, zI a1] [] sh pp mm Q ↔ zS 136 19 [zU, zI a1] [zR a0] sh pp mm Q := s_go cX_count_18 cX_count_19 rfl rfl
theorem rX_count_19 {s0 : Nat} {a1 : Int} {u0 : zV} (hk : zKd sh s0 = 11) : zS 136 19 [u0, zI a1] [zR s0] sh pp mm Q ↔ zS 136 22 [zU, zI a1] [zR (pp s0 0)] sh pp mm Q := s_go cX_count_19 cX_count_22 (if_pos hk) rfl
theorem rX_count_22 {s0 : Nat} {a1 : Int} {u0 : zV} : zS 136 22 [u0, zI a1] [zR s0] sh pp mm Q ↔ zS 136 23 [zU, zU] [zI a1, zR s0] sh pp mm Q := s_go cX_count_22 cX_count_23 rfl rfl
theorem rX_count_23 {s1 : Nat} {s0 : Int} {u0 u1 : zV} (hk : zKd sh s1 = 9) : zS 136 23 [u0, u1] [zI s0, zR s1] sh pp mm Q ↔ zS 93 0 [zR s1, zI s0] [] sh pp mm (fun v sh pp mm => zS 136 26 [zU, zU] (zPush v []) sh pp mm Q) := s_call cX_count_23 cX_count_26 ((if_pos hk).trans rfl) rfl
theorem rX_count_26 {s0 : Int} {u0 u1 : zV} : zS 136 26 [u0, u1] [zI s0] sh pp mm Q ↔ Q (zI s0) sh pp mm := s_ret cX_count_26 rfl
theorem cAX_digest : ∀ q ∈ zT137, zCode 137 q.1 = some q.2 := zAll (mid := 137) rfl (by decide +kernel)
theorem cAX_digest_0 : ∀ q ∈ zT137_0, zCode 137 q.1 = some q.2 := fun q h => cAX_digest q (h)
theorem cX_digest_0 : zCode 137 0 = some (.aload_n 0, 1, 0, 0, 0, 0, 1) := cAX_digest_0 _ (List.mem_of_getElem? (i := 0) rfl)
theorem cX_digest_1 : zCode 137 1 = some (.getfield 60, 4, 11, 8, 2, 514, 1) := cAX_digest_0 _ (List.mem_of_getElem? (i := 1) rfl)
theorem cX_digest_4 : zCode 137 4 = some (.aload_n 0, 5, 0, 0, 0, 0, 1) := cAX_digest_0 _ (List.mem_of_getElem? (i := 2) rfl)
theorem cX_digest_5 : zCode 137 5 = some (.getfield 10, 8, 11, 0, 2, 506, 0) := cAX_digest_0 _ (List.mem_of_getElem? (i := 3) rfl)
theorem cX_digest_8 : zCode 137 8 = some (.ldc2_w 254, 11, 0, 0, 1174, 599, 0) := cAX_digest_0 _ (List.mem_of_getElem? (i := 4) rfl)
theorem cX_digest_11 : zCode 137 11 = some (.invokevirtual 256, 14, 94, 1, 6, 9, 0) := cAX_digest_0 _ (List.mem_of_getElem? (i := 5) rfl)
theorem cX_digest_14 : zCode 137 14 = some (.invokevirtual 260, 17, 36, 1, 6, 2, 0) := cAX_digest_0 _ (List.mem_of_getElem? (i := 6) rfl)
theorem cX_digest_17 : zCode 137 17 = some (.lreturn, 18, 0, 0, 0, 0, 0) := cAX_digest_0 _ (List.mem_of_getElem? (i := 7) rfl)
theorem rX_digest_0 {a0 : Nat} : zS 137 0 [zR a0] [] sh pp mm Q ↔ zS 137 1 [zR a0] [zR a0] sh pp mm Q := s_go cX_digest_0 cX_digest_1 rfl rfl
theorem rX_digest_1 {a0 s0 : Nat} (hk : zKd sh s0 = 11) : zS 137 1 [zR a0] [zR s0] sh pp mm Q ↔ zS 137 4 [zR a0] [zR (pp s0 8)] sh pp mm Q := s_go cX_digest_1 cX_digest_4 (if_pos hk) rfl
theorem rX_digest_4 {a0 s0 : Nat} : zS 137 4 [zR a0] [zR s0] sh pp mm Q ↔ zS 137 5 [zU] [zR a0, zR s0] sh pp mm Q := s_go cX_digest_4 cX_digest_5 rfl rfl
theorem rX_digest_5 {s0 s1 : Nat} {u0 : zV} (hk : zKd sh s0 = 11) : zS 137 5 [u0] [zR s0, zR s1] sh pp mm Q ↔ zS 137 8 [zU] [zR (pp s0 0), zR s1] sh pp mm Q := s_go cX_digest_5 cX_digest_8 (if_pos hk) rfl
theorem rX_digest_8 {s0 s1 : Nat} {u0 : zV} : zS 137 8 [u0] [zR s0, zR s1] sh pp mm Q ↔ zS 137 11 [zU] [zL 599, zR s0, zR s1] sh pp mm Q := s_go cX_digest_8 cX_digest_11 rfl rfl
theorem rX_digest_11 {s1 s2 : Nat} {s0 : Int} {u0 : zV} (hk : zKd sh s1 = 9) : zS 137 11 [u0] [zL s0, zR s1, zR s2] sh pp mm Q ↔ zS 94 0 [zR s1, zL s0, zU, zU, zU, zU] [] sh pp mm (fun v sh pp mm => zS 137 14 [zU] (zPush v [zR s2]) sh pp mm Q) := s_call cX_digest_11 cX_digest_14 ((if_pos hk).trans rfl) rfl
theorem rX_digest_14 {s1 : Nat} {s0 : Int} {u0 : zV} (hk : zKd sh s1 = 2) : zS 137 14 [u0] [zL s0, zR s1] sh pp mm Q ↔ zS 36 0 [zR s1, zL s0, zU, zU, zU, zU] [] sh pp mm (fun v sh pp mm => zS 137 17 [zU] (zPush v []) sh pp mm Q) := s_call cX_digest_14 cX_digest_17 ((if_pos hk).trans rfl) rfl
theorem rX_digest_17 {s0 : Int} {u0 : zV} : zS 137 17 [u0] [zL s0] sh pp mm Q ↔ Q (zL s0) sh pp mm := s_ret cX_digest_17 rfl
theorem cAX_refuse : ∀ q ∈ zT138, zCode 138 q.1 = some q.2 := zAll (mid := 138) rfl (by decide +kernel)
theorem cAX_refuse_0 : ∀ q ∈ zT138_0, zCode 138 q.1 = some q.2 := fun q h => cAX_refuse q (h)
theorem cX_refuse_0 : zCode 138 0 = some (.aload_n 0, 1, 0, 0, 0, 0, 7) := cAX_refuse_0 _ (List.mem_of_getElem? (i := 0) rfl)
theorem cX_refuse_1 : zCode 138 1 = some (.getfield 20, 4, 11, 2, 2, 508, 6) := cAX_refuse_0 _ (List.mem_of_getElem? (i := 1) rfl)
theorem cX_refuse_4 : zCode 138 4 = some (.iload_n 1, 5, 0, 0, 0, 0, 6) := cAX_refuse_0 _ (List.mem_of_getElem? (i := 2) rfl)
theorem cX_refuse_5 : zCode 138 5 = some (.dup2, 6, 0, 0, 0, 0, 4) := cAX_refuse_0 _ (List.mem_of_getElem? (i := 3) rfl)
theorem cX_refuse_6 : zCode 138 6 = some (.iaload, 7, 0, 0, 0, 0, 4) := cAX_refuse_0 _ (List.mem_of_getElem? (i := 4) rfl)
theorem cX_refuse_7 : zCode 138 7 = some (.iconst 1, 8, 0, 0, 0, 0, 4) := cAX_refuse_0 _ (List.mem_of_getElem? (i := 5) rfl)
theorem cX_refuse_8 : zCode 138 8 = some (.iadd, 9, 0, 0, 0, 0, 4) := cAX_refuse_0 _ (List.mem_of_getElem? (i := 6) rfl)
theorem cX_refuse_9 : zCode 138 9 = some (.iastore, 10, 0, 0, 0, 0, 4) := cAX_refuse_0 _ (List.mem_of_getElem? (i := 7) rfl)
theorem cX_refuse_10 : zCode 138 10 = some (.iload_n 2, 11, 0, 0, 0, 0, 4) := cAX_refuse_0 _ (List.mem_of_getElem? (i := 8) rfl)
theorem cX_refuse_11 : zCode 138 11 = some (.ireturn, 12, 0, 0, 0, 0, 0) := cAX_refuse_0 _ (List.mem_of_getElem? (i := 9) rfl)
theorem rX_refuse_0 {a0 : Nat} {a1 a2 : Int} : zS 138 0 [zR a0, zI a1, zI a2] [] sh pp mm Q ↔ zS 138 1 [zU, zI a1, zI a2] [zR a0] sh pp mm Q := s_go cX_refuse_0 cX_refuse_1 rfl rfl
theorem rX_refuse_1 {s0 : Nat} {a1 a2 : Int} {u0 : zV} (hk : zKd sh s0 = 11) : zS 138 1 [u0, zI a1, zI a2] [zR s0] sh pp mm Q ↔ zS 138 4 [zU, zI a1, zI a2] [zR (pp s0 2)] sh pp mm Q := s_go cX_refuse_1 cX_refuse_4 (if_pos hk) rfl
theorem rX_refuse_4 {s0 : Nat} {a1 a2 : Int} {u0 : zV} : zS 138 4 [u0, zI a1, zI a2] [zR s0] sh pp mm Q ↔ zS 138 5 [zU, zU, zI a2] [zI a1, zR s0] sh pp mm Q := s_go cX_refuse_4 cX_refuse_5 rfl rfl
theorem rX_refuse_5 {s1 : Nat} {a2 s0 : Int} {u0 u1 : zV} : zS 138 5 [u0, u1, zI a2] [zI s0, zR s1] sh pp mm Q ↔ zS 138 6 [zU, zU, zI a2] [zI s0, zR s1, zI s0, zR s1] sh pp mm Q := s_go cX_refuse_5 cX_refuse_6 rfl rfl
theorem rX_refuse_6 {s1 s3 : Nat} {a2 s0 s2 : Int} {u0 u1 : zV} (hk : zKd sh s1 = 20 ∨ zKd sh s1 = 30) (h0 : 0 ≤ s0) (h1 : s0 < zLn sh s1) : zS 138 6 [u0, u1, zI a2] [zI s0, zR s1, zI s2, zR s3] sh pp mm Q ↔ zS 138 7 [zU, zU, zI a2] [zI (mm s1 s0), zI s2, zR s3] sh pp mm Q := s_go cX_refuse_6 cX_refuse_7 (if_pos ⟨hk, h0, h1⟩) rfl
theorem rX_refuse_7 {s2 : Nat} {a2 s0 s1 : Int} {u0 u1 : zV} : zS 138 7 [u0, u1, zI a2] [zI s0, zI s1, zR s2] sh pp mm Q ↔ zS 138 8 [zU, zU, zI a2] [zI 1, zI s0, zI s1, zR s2] sh pp mm Q := s_go cX_refuse_7 cX_refuse_8 rfl rfl
theorem rX_refuse_8 {s3 : Nat} {a2 s0 s1 s2 : Int} {u0 u1 : zV} : zS 138 8 [u0, u1, zI a2] [zI s0, zI s1, zI s2, zR s3] sh pp mm Q ↔ zS 138 9 [zU, zU, zI a2] [zI (zw32 (s1 + s0)), zI s2, zR s3] sh pp mm Q := s_go cX_refuse_8 cX_refuse_9 rfl rfl
theorem rX_refuse_9 {s2 : Nat} {a2 s0 s1 : Int} {u0 u1 : zV} (hk : zKd sh s2 = 20) (h0 : 0 ≤ s1) (h1 : s1 < zLn sh s2) : zS 138 9 [u0, u1, zI a2] [zI s0, zI s1, zR s2] sh pp mm Q ↔ zS 138 10 [zU, zU, zI a2] [] sh pp (zupd mm s2 s1 s0) Q := s_go cX_refuse_9 cX_refuse_10 (if_pos ⟨hk, h0, h1, fun h => absurd h (by decide)⟩) rfl
theorem rX_refuse_10 {a2 : Int} {u0 u1 : zV} : zS 138 10 [u0, u1, zI a2] [] sh pp mm Q ↔ zS 138 11 [zU, zU, zU] [zI a2] sh pp mm Q := s_go cX_refuse_10 cX_refuse_11 rfl rfl
theorem rX_refuse_11 {s0 : Int} {u0 u1 u2 : zV} : zS 138 11 [u0, u1, u2] [zI s0] sh pp mm Q ↔ Q (zI s0) sh pp mm := s_ret cX_refuse_11 rfl
theorem cAX_isWithin : ∀ q ∈ zT139, zCode 139 q.1 = some q.2 := zAll (mid := 139) rfl (by decide +kernel)
theorem cAX_isWithin_0 : ∀ q ∈ zT139_0, zCode 139 q.1 = some q.2 := fun q h => cAX_isWithin q (h)
theorem cX_isWithin_0 : zCode 139 0 = some (.iload_n 0, 1, 0, 0, 0, 0, 7) := cAX_isWithin_0 _ (List.mem_of_getElem? (i := 0) rfl)
theorem cX_isWithin_1 : zCode 139 1 = some (.iload_n 1, 2, 0, 0, 0, 0, 7) := cAX_isWithin_0 _ (List.mem_of_getElem? (i := 1) rfl)
theorem cX_isWithin_2 : zCode 139 2 = some (.if_icmp .lt 12, 5, 14, 0, 0, 0, 5) := cAX_isWithin_0 _ (List.mem_of_getElem? (i := 2) rfl)
theorem cX_isWithin_5 : zCode 139 5 = some (.iload_n 0, 6, 0, 0, 0, 0, 5) := cAX_isWithin_0 _ (List.mem_of_getElem? (i := 3) rfl)
theorem cX_isWithin_6 : zCode 139 6 = some (.iload_n 2, 7, 0, 0, 0, 0, 4) := cAX_isWithin_0 _ (List.mem_of_getElem? (i := 4) rfl)
theorem cX_isWithin_7 : zCode 139 7 = some (.if_icmp .gt 7, 10, 14, 0, 0, 0, 0) := cAX_isWithin_0 _ (List.mem_of_getElem? (i := 5) rfl)
theorem cX_isWithin_10 : zCode 139 10 = some (.iconst 1, 11, 0, 0, 0, 0, 0) := cAX_isWithin_0 _ (List.mem_of_getElem? (i := 6) rfl)
theorem cX_isWithin_11 : zCode 139 11 = some (.goto 4, 14, 15, 0, 0, 0, 0) := cAX_isWithin_0 _ (List.mem_of_getElem? (i := 7) rfl)
theorem cX_isWithin_14 : zCode 139 14 = some (.iconst 0, 15, 0, 0, 0, 0, 0) := cAX_isWithin_0 _ (List.mem_of_getElem? (i := 8) rfl)
theorem cX_isWithin_15 : zCode 139 15 = some (.ireturn, 16, 0, 3, 0, 0, 0) := cAX_isWithin_0 _ (List.mem_of_getElem? (i := 9) rfl)
theorem rX_isWithin_0 {a0 a1 a2 : Int} : zS 139 0 [zI a0, zI a1, zI a2] [] sh pp mm Q ↔ zS 139 1 [zI a0, zI a1, zI a2] [zI a0] sh pp mm Q := s_go cX_isWithin_0 cX_isWithin_1 rfl rfl
theorem rX_isWithin_1 {a0 a1 a2 s0 : Int} : zS 139 1 [zI a0, zI a1, zI a2] [zI s0] sh pp mm Q ↔ zS 139 2 [zI a0, zU, zI a2] [zI a1, zI s0] sh pp mm Q := s_go cX_isWithin_1 cX_isWithin_2 rfl rfl
theorem rX_isWithin_2 {a0 a2 s0 s1 : Int} {u1 : zV} : zS 139 2 [zI a0, u1, zI a2] [zI s0, zI s1] sh pp mm Q ↔ (s1 < s0 → zS 139 14 [zU, zU, zU] [] sh pp mm Q) ∧ (¬ s1 < s0 → zS 139 5 [zI a0, zU, zI a2] [] sh pp mm Q) := s_if cX_isWithin_2 cX_isWithin_14 cX_isWithin_5 rfl rfl rfl
theorem rX_isWithin_5 {a0 a2 : Int} {u1 : zV} : zS 139 5 [zI a0, u1, zI a2] [] sh pp mm Q ↔ zS 139 6 [zU, zU, zI a2] [zI a0] sh pp mm Q := s_go cX_isWithin_5 cX_isWithin_6 rfl rfl
theorem rX_isWithin_6 {a2 s0 : Int} {u0 u1 : zV} : zS 139 6 [u0, u1, zI a2] [zI s0] sh pp mm Q ↔ zS 139 7 [zU, zU, zU] [zI a2, zI s0] sh pp mm Q := s_go cX_isWithin_6 cX_isWithin_7 rfl rfl
theorem rX_isWithin_7 {s0 s1 : Int} {u0 u1 u2 : zV} : zS 139 7 [u0, u1, u2] [zI s0, zI s1] sh pp mm Q ↔ (s0 < s1 → zS 139 14 [zU, zU, zU] [] sh pp mm Q) ∧ (¬ s0 < s1 → zS 139 10 [zU, zU, zU] [] sh pp mm Q) := s_if cX_isWithin_7 cX_isWithin_14 cX_isWithin_10 rfl rfl rfl
theorem rX_isWithin_10 {u0 u1 u2 : zV} : zS 139 10 [u0, u1, u2] [] sh pp mm Q ↔ zS 139 11 [zU, zU, zU] [zI 1] sh pp mm Q := s_go cX_isWithin_10 cX_isWithin_11 rfl rfl
theorem rX_isWithin_11 {s0 : Int} {u0 u1 u2 : zV} : zS 139 11 [u0, u1, u2] [zI s0] sh pp mm Q ↔ zS 139 15 [zU, zU, zU] [zI s0] sh pp mm Q := s_go cX_isWithin_11 cX_isWithin_15 rfl rfl
theorem rX_isWithin_14 {u0 u1 u2 : zV} : zS 139 14 [u0, u1, u2] [] sh pp mm Q ↔ zS 139 15 [zU, zU, zU] [zI 0] sh pp mm Q := s_go cX_isWithin_14 cX_isWithin_15 rfl rfl
theorem rX_isWithin_15 {s0 : Int} {u0 u1 u2 : zV} (hb : s0 = 0 ∨ s0 = 1) : zS 139 15 [u0, u1, u2] [zI s0] sh pp mm Q ↔ Q (zI s0) sh pp mm := s_ret cX_isWithin_15 (if_pos (decide_eq_true hb))
theorem cAX_isProgram : ∀ q ∈ zT140, zCode 140 q.1 = some q.2 := zAll (mid := 140) rfl (by decide +kernel)
theorem cAX_isProgram_0 : ∀ q ∈ zT140_0, zCode 140 q.1 = some q.2 := fun q h => cAX_isProgram q (h)
theorem cX_isProgram_0 : zCode 140 0 = some (.iload_n 0, 1, 0, 0, 0, 0, 1) := cAX_isProgram_0 _ (List.mem_of_getElem? (i := 0) rfl)
theorem cX_isProgram_1 : zCode 140 1 = some (.iconst 0, 2, 0, 0, 0, 0, 0) := cAX_isProgram_0 _ (List.mem_of_getElem? (i := 1) rfl)
theorem cX_isProgram_2 : zCode 140 2 = some (.iconst 3, 3, 0, 0, 0, 0, 0) := cAX_isProgram_0 _ (List.mem_of_getElem? (i := 2) rfl)
theorem cX_isProgram_3 : zCode 140 3 = some (.invokestatic 150, 6, 139, 3, 3, 11, 0) := cAX_isProgram_0 _ (List.mem_of_getElem? (i := 3) rfl)
theorem cX_isProgram_6 : zCode 140 6 = some (.ireturn, 7, 0, 3, 0, 0, 0) := cAX_isProgram_0 _ (List.mem_of_getElem? (i := 4) rfl)
theorem rX_isProgram_0 {a0 : Int} : zS 140 0 [zI a0] [] sh pp mm Q ↔ zS 140 1 [zU] [zI a0] sh pp mm Q := s_go cX_isProgram_0 cX_isProgram_1 rfl rfl
theorem rX_isProgram_1 {s0 : Int} {u0 : zV} : zS 140 1 [u0] [zI s0] sh pp mm Q ↔ zS 140 2 [zU] [zI 0, zI s0] sh pp mm Q := s_go cX_isProgram_1 cX_isProgram_2 rfl rfl
theorem rX_isProgram_2 {s0 s1 : Int} {u0 : zV} : zS 140 2 [u0] [zI s0, zI s1] sh pp mm Q ↔ zS 140 3 [zU] [zI 3, zI s0, zI s1] sh pp mm Q := s_go cX_isProgram_2 cX_isProgram_3 rfl rfl
theorem rX_isProgram_3 {s0 s1 s2 : Int} {u0 : zV} : zS 140 3 [u0] [zI s0, zI s1, zI s2] sh pp mm Q ↔ zS 139 0 [zI s2, zI s1, zI s0] [] sh pp mm (fun v sh pp mm => zS 140 6 [zU] (zPush v []) sh pp mm Q) := s_call cX_isProgram_3 cX_isProgram_6 rfl rfl
theorem rX_isProgram_6 {s0 : Int} {u0 : zV} (hb : s0 = 0 ∨ s0 = 1) : zS 140 6 [u0] [zI s0] sh pp mm Q ↔ Q (zI s0) sh pp mm := s_ret cX_isProgram_6 (if_pos (decide_eq_true hb))
theorem cAX_isKnob : ∀ q ∈ zT141, zCode 141 q.1 = some q.2 := zAll (mid := 141) rfl (by decide +kernel)
theorem cAX_isKnob_0 : ∀ q ∈ zT141_0, zCode 141 q.1 = some q.2 := fun q h => cAX_isKnob q (h)
theorem cX_isKnob_0 : zCode 141 0 = some (.iload_n 0, 1, 0, 0, 0, 0, 1) := cAX_isKnob_0 _ (List.mem_of_getElem? (i := 0) rfl)
theorem cX_isKnob_1 : zCode 141 1 = some (.iconst 0, 2, 0, 0, 0, 0, 0) := cAX_isKnob_0 _ (List.mem_of_getElem? (i := 1) rfl)
theorem cX_isKnob_2 : zCode 141 2 = some (.iconst 1, 3, 0, 0, 0, 0, 0) := cAX_isKnob_0 _ (List.mem_of_getElem? (i := 2) rfl)
theorem cX_isKnob_3 : zCode 141 3 = some (.invokestatic 150, 6, 139, 3, 3, 11, 0) := cAX_isKnob_0 _ (List.mem_of_getElem? (i := 3) rfl)
theorem cX_isKnob_6 : zCode 141 6 = some (.ireturn, 7, 0, 3, 0, 0, 0) := cAX_isKnob_0 _ (List.mem_of_getElem? (i := 4) rfl)
theorem rX_isKnob_0 {a0 : Int} : zS 141 0 [zI a0] [] sh pp mm Q ↔ zS 141 1 [zU] [zI a0] sh pp mm Q := s_go cX_isKnob_0 cX_isKnob_1 rfl rfl
theorem rX_isKnob_1 {s0 : Int} {u0 : zV} : zS 141 1 [u0] [zI s0] sh pp mm Q ↔ zS 141 2 [zU] [zI 0, zI s0] sh pp mm Q := s_go cX_isKnob_1 cX_isKnob_2 rfl rfl
theorem rX_isKnob_2 {s0 s1 : Int} {u0 : zV} : zS 141 2 [u0] [zI s0, zI s1] sh pp mm Q ↔ zS 141 3 [zU] [zI 1, zI s0, zI s1] sh pp mm Q := s_go cX_isKnob_2 cX_isKnob_3 rfl rfl
theorem rX_isKnob_3 {s0 s1 s2 : Int} {u0 : zV} : zS 141 3 [u0] [zI s0, zI s1, zI s2] sh pp mm Q ↔ zS 139 0 [zI s2, zI s1, zI s0] [] sh pp mm (fun v sh pp mm => zS 141 6 [zU] (zPush v []) sh pp mm Q) := s_call cX_isKnob_3 cX_isKnob_6 rfl rfl
theorem rX_isKnob_6 {s0 : Int} {u0 : zV} (hb : s0 = 0 ∨ s0 = 1) : zS 141 6 [u0] [zI s0] sh pp mm Q ↔ Q (zI s0) sh pp mm := s_ret cX_isKnob_6 (if_pos (decide_eq_true hb))
theorem cAX_isCell : ∀ q ∈ zT142, zCode 142 q.1 = some q.2 := zAll (mid := 142) rfl (by decide +kernel)
theorem cAX_isCell_0 : ∀ q ∈ zT142_0, zCode 142 q.1 = some q.2 := fun q h => cAX_isCell q (h)
theorem cX_isCell_0 : zCode 142 0 = some (.iload_n 0, 1, 0, 0, 0, 0, 3) := cAX_isCell_0 _ (List.mem_of_getElem? (i := 0) rfl)
theorem cX_isCell_1 : zCode 142 1 = some (.iconst 0, 2, 0, 0, 0, 0, 2) := cAX_isCell_0 _ (List.mem_of_getElem? (i := 1) rfl)
theorem cX_isCell_2 : zCode 142 2 = some (.bipush 23, 4, 0, 0, 0, 0, 2) := cAX_isCell_0 _ (List.mem_of_getElem? (i := 2) rfl)
theorem cX_isCell_4 : zCode 142 4 = some (.invokestatic 150, 7, 139, 3, 3, 11, 2) := cAX_isCell_0 _ (List.mem_of_getElem? (i := 3) rfl)
theorem cX_isCell_7 : zCode 142 7 = some (.ifCond .eq 17, 10, 24, 0, 0, 0, 2) := cAX_isCell_0 _ (List.mem_of_getElem? (i := 4) rfl)
theorem cX_isCell_10 : zCode 142 10 = some (.iload_n 1, 11, 0, 0, 0, 0, 2) := cAX_isCell_0 _ (List.mem_of_getElem? (i := 5) rfl)
theorem cX_isCell_11 : zCode 142 11 = some (.iconst 0, 12, 0, 0, 0, 0, 0) := cAX_isCell_0 _ (List.mem_of_getElem? (i := 6) rfl)
theorem cX_isCell_12 : zCode 142 12 = some (.bipush 15, 14, 0, 0, 0, 0, 0) := cAX_isCell_0 _ (List.mem_of_getElem? (i := 7) rfl)
theorem cX_isCell_14 : zCode 142 14 = some (.invokestatic 150, 17, 139, 3, 3, 11, 0) := cAX_isCell_0 _ (List.mem_of_getElem? (i := 8) rfl)
theorem cX_isCell_17 : zCode 142 17 = some (.ifCond .eq 7, 20, 24, 0, 0, 0, 0) := cAX_isCell_0 _ (List.mem_of_getElem? (i := 9) rfl)
theorem cX_isCell_20 : zCode 142 20 = some (.iconst 1, 21, 0, 0, 0, 0, 0) := cAX_isCell_0 _ (List.mem_of_getElem? (i := 10) rfl)
theorem cX_isCell_21 : zCode 142 21 = some (.goto 4, 24, 25, 0, 0, 0, 0) := cAX_isCell_0 _ (List.mem_of_getElem? (i := 11) rfl)
theorem cX_isCell_24 : zCode 142 24 = some (.iconst 0, 25, 0, 0, 0, 0, 0) := cAX_isCell_0 _ (List.mem_of_getElem? (i := 12) rfl)
theorem cX_isCell_25 : zCode 142 25 = some (.ireturn, 26, 0, 3, 0, 0, 0) := cAX_isCell_0 _ (List.mem_of_getElem? (i := 13) rfl)
theorem rX_isCell_0 {a0 a1 : Int} : zS 142 0 [zI a0, zI a1] [] sh pp mm Q ↔ zS 142 1 [zU, zI a1] [zI a0] sh pp mm Q := s_go cX_isCell_0 cX_isCell_1 rfl rfl
theorem rX_isCell_1 {a1 s0 : Int} {u0 : zV} : zS 142 1 [u0, zI a1] [zI s0] sh pp mm Q ↔ zS 142 2 [zU, zI a1] [zI 0, zI s0] sh pp mm Q := s_go cX_isCell_1 cX_isCell_2 rfl rfl
theorem rX_isCell_2 {a1 s0 s1 : Int} {u0 : zV} : zS 142 2 [u0, zI a1] [zI s0, zI s1] sh pp mm Q ↔ zS 142 4 [zU, zI a1] [zI 23, zI s0, zI s1] sh pp mm Q := s_go cX_isCell_2 cX_isCell_4 rfl rfl
theorem rX_isCell_4 {a1 s0 s1 s2 : Int} {u0 : zV} : zS 142 4 [u0, zI a1] [zI s0, zI s1, zI s2] sh pp mm Q ↔ zS 139 0 [zI s2, zI s1, zI s0] [] sh pp mm (fun v sh pp mm => zS 142 7 [zU, zI a1] (zPush v []) sh pp mm Q) := s_call cX_isCell_4 cX_isCell_7 rfl rfl
theorem rX_isCell_7 {a1 s0 : Int} {u0 : zV} : zS 142 7 [u0, zI a1] [zI s0] sh pp mm Q ↔ (s0 = 0 → zS 142 24 [zU, zU] [] sh pp mm Q) ∧ (¬ s0 = 0 → zS 142 10 [zU, zI a1] [] sh pp mm Q) := s_if cX_isCell_7 cX_isCell_24 cX_isCell_10 rfl rfl rfl
theorem rX_isCell_10 {a1 : Int} {u0 : zV} : zS 142 10 [u0, zI a1] [] sh pp mm Q ↔ zS 142 11 [zU, zU] [zI a1] sh pp mm Q := s_go cX_isCell_10 cX_isCell_11 rfl rfl
theorem rX_isCell_11 {s0 : Int} {u0 u1 : zV} : zS 142 11 [u0, u1] [zI s0] sh pp mm Q ↔ zS 142 12 [zU, zU] [zI 0, zI s0] sh pp mm Q := s_go cX_isCell_11 cX_isCell_12 rfl rfl
theorem rX_isCell_12 {s0 s1 : Int} {u0 u1 : zV} : zS 142 12 [u0, u1] [zI s0, zI s1] sh pp mm Q ↔ zS 142 14 [zU, zU] [zI 15, zI s0, zI s1] sh pp mm Q := s_go cX_isCell_12 cX_isCell_14 rfl rfl
theorem rX_isCell_14 {s0 s1 s2 : Int} {u0 u1 : zV} : zS 142 14 [u0, u1] [zI s0, zI s1, zI s2] sh pp mm Q ↔ zS 139 0 [zI s2, zI s1, zI s0] [] sh pp mm (fun v sh pp mm => zS 142 17 [zU, zU] (zPush v []) sh pp mm Q) := s_call cX_isCell_14 cX_isCell_17 rfl rfl
theorem rX_isCell_17 {s0 : Int} {u0 u1 : zV} : zS 142 17 [u0, u1] [zI s0] sh pp mm Q ↔ (s0 = 0 → zS 142 24 [zU, zU] [] sh pp mm Q) ∧ (¬ s0 = 0 → zS 142 20 [zU, zU] [] sh pp mm Q) := s_if cX_isCell_17 cX_isCell_24 cX_isCell_20 rfl rfl rfl
theorem rX_isCell_20 {u0 u1 : zV} : zS 142 20 [u0, u1] [] sh pp mm Q ↔ zS 142 21 [zU, zU] [zI 1] sh pp mm Q := s_go cX_isCell_20 cX_isCell_21 rfl rfl
theorem rX_isCell_21 {s0 : Int} {u0 u1 : zV} : zS 142 21 [u0, u1] [zI s0] sh pp mm Q ↔ zS 142 25 [zU, zU] [zI s0] sh pp mm Q := s_go cX_isCell_21 cX_isCell_25 rfl rfl
theorem rX_isCell_24 {u0 u1 : zV} : zS 142 24 [u0, u1] [] sh pp mm Q ↔ zS 142 25 [zU, zU] [zI 0] sh pp mm Q := s_go cX_isCell_24 cX_isCell_25 rfl rfl
theorem rX_isCell_25 {s0 : Int} {u0 u1 : zV} (hb : s0 = 0 ∨ s0 = 1) : zS 142 25 [u0, u1] [zI s0] sh pp mm Q ↔ Q (zI s0) sh pp mm := s_ret cX_isCell_25 (if_pos (decide_eq_true hb))
theorem cAX_cellAt : ∀ q ∈ zT143, zCode 143 q.1 = some q.2 := zAll (mid := 143) rfl (by decide +kernel)
theorem cAX_cellAt_0 : ∀ q ∈ zT143_0, zCode 143 q.1 = some q.2 := fun q h => cAX_cellAt q (h)
theorem cX_cellAt_0 : zCode 143 0 = some (.bipush 24, 2, 0, 0, 0, 0, 3) := cAX_cellAt_0 _ (List.mem_of_getElem? (i := 0) rfl)
theorem cX_cellAt_2 : zCode 143 2 = some (.iload_n 1, 3, 0, 0, 0, 0, 3) := cAX_cellAt_0 _ (List.mem_of_getElem? (i := 1) rfl)
theorem cX_cellAt_3 : zCode 143 3 = some (.imul, 4, 0, 0, 0, 0, 1) := cAX_cellAt_0 _ (List.mem_of_getElem? (i := 2) rfl)
theorem cX_cellAt_4 : zCode 143 4 = some (.iload_n 0, 5, 0, 0, 0, 0, 1) := cAX_cellAt_0 _ (List.mem_of_getElem? (i := 3) rfl)
theorem cX_cellAt_5 : zCode 143 5 = some (.iadd, 6, 0, 0, 0, 0, 0) := cAX_cellAt_0 _ (List.mem_of_getElem? (i := 4) rfl)
theorem cX_cellAt_6 : zCode 143 6 = some (.ireturn, 7, 0, 0, 0, 0, 0) := cAX_cellAt_0 _ (List.mem_of_getElem? (i := 5) rfl)
theorem rX_cellAt_0 {a0 a1 : Int} : zS 143 0 [zI a0, zI a1] [] sh pp mm Q ↔ zS 143 2 [zI a0, zI a1] [zI 24] sh pp mm Q := s_go cX_cellAt_0 cX_cellAt_2 rfl rfl
theorem rX_cellAt_2 {a0 a1 s0 : Int} : zS 143 2 [zI a0, zI a1] [zI s0] sh pp mm Q ↔ zS 143 3 [zI a0, zU] [zI a1, zI s0] sh pp mm Q := s_go cX_cellAt_2 cX_cellAt_3 rfl rfl
theorem rX_cellAt_3 {a0 s0 s1 : Int} {u1 : zV} : zS 143 3 [zI a0, u1] [zI s0, zI s1] sh pp mm Q ↔ zS 143 4 [zI a0, zU] [zI (zw32 (s1 * s0))] sh pp mm Q := s_go cX_cellAt_3 cX_cellAt_4 rfl rfl
theorem rX_cellAt_4 {a0 s0 : Int} {u1 : zV} : zS 143 4 [zI a0, u1] [zI s0] sh pp mm Q ↔ zS 143 5 [zU, zU] [zI a0, zI s0] sh pp mm Q := s_go cX_cellAt_4 cX_cellAt_5 rfl rfl
theorem rX_cellAt_5 {s0 s1 : Int} {u0 u1 : zV} : zS 143 5 [u0, u1] [zI s0, zI s1] sh pp mm Q ↔ zS 143 6 [zU, zU] [zI (zw32 (s1 + s0))] sh pp mm Q := s_go cX_cellAt_5 cX_cellAt_6 rfl rfl
theorem rX_cellAt_6 {s0 : Int} {u0 u1 : zV} : zS 143 6 [u0, u1] [zI s0] sh pp mm Q ↔ Q (zI s0) sh pp mm := s_ret cX_cellAt_6 rfl
theorem cAX_isShakenOff : ∀ q ∈ zT144, zCode 144 q.1 = some q.2 := zAll (mid := 144) rfl (by decide +kernel)
theorem cAX_isShakenOff_0 : ∀ q ∈ zT144_0, zCode 144 q.1 = some q.2 := fun q h => cAX_isShakenOff q (List.mem_append_left _ h)
theorem cAX_isShakenOff_1 : ∀ q ∈ zT144_1, zCode 144 q.1 = some q.2 := fun q h => cAX_isShakenOff q (List.mem_append_right _ h)
theorem cX_isShakenOff_0 : zCode 144 0 = some (.iload_n 0, 1, 0, 0, 0, 0, 3) := cAX_isShakenOff_0 _ (List.mem_of_getElem? (i := 0) rfl)
theorem cX_isShakenOff_1 : zCode 144 1 = some (.bipush 24, 3, 0, 0, 0, 0, 3) := cAX_isShakenOff_0 _ (List.mem_of_getElem? (i := 1) rfl)
theorem cX_isShakenOff_3 : zCode 144 3 = some (.irem, 4, 0, 0, 0, 0, 3) := cAX_isShakenOff_0 _ (List.mem_of_getElem? (i := 2) rfl)
theorem cX_isShakenOff_4 : zCode 144 4 = some (.iconst 2, 5, 0, 0, 0, 0, 3) := cAX_isShakenOff_0 _ (List.mem_of_getElem? (i := 3) rfl)
theorem cX_isShakenOff_5 : zCode 144 5 = some (.iload_n 0, 6, 0, 0, 0, 0, 3) := cAX_isShakenOff_0 _ (List.mem_of_getElem? (i := 4) rfl)
theorem cX_isShakenOff_6 : zCode 144 6 = some (.bipush 24, 8, 0, 0, 0, 0, 2) := cAX_isShakenOff_0 _ (List.mem_of_getElem? (i := 5) rfl)
theorem cX_isShakenOff_8 : zCode 144 8 = some (.idiv, 9, 0, 0, 0, 0, 2) := cAX_isShakenOff_0 _ (List.mem_of_getElem? (i := 6) rfl)
theorem cX_isShakenOff_9 : zCode 144 9 = some (.imul, 10, 0, 0, 0, 0, 2) := cAX_isShakenOff_0 _ (List.mem_of_getElem? (i := 7) rfl)
theorem cX_isShakenOff_10 : zCode 144 10 = some (.iadd, 11, 0, 0, 0, 0, 2) := cAX_isShakenOff_0 _ (List.mem_of_getElem? (i := 8) rfl)
theorem cX_isShakenOff_11 : zCode 144 11 = some (.iload_n 1, 12, 0, 0, 0, 0, 2) := cAX_isShakenOff_0 _ (List.mem_of_getElem? (i := 9) rfl)
theorem cX_isShakenOff_12 : zCode 144 12 = some (.iadd, 13, 0, 0, 0, 0, 0) := cAX_isShakenOff_0 _ (List.mem_of_getElem? (i := 10) rfl)
theorem cX_isShakenOff_13 : zCode 144 13 = some (.iconst 3, 14, 0, 0, 0, 0, 0) := cAX_isShakenOff_0 _ (List.mem_of_getElem? (i := 11) rfl)
theorem cX_isShakenOff_14 : zCode 144 14 = some (.irem, 15, 0, 0, 0, 0, 0) := cAX_isShakenOff_0 _ (List.mem_of_getElem? (i := 12) rfl)
theorem cX_isShakenOff_15 : zCode 144 15 = some (.ifCond .ne 7, 18, 22, 0, 0, 0, 0) := cAX_isShakenOff_0 _ (List.mem_of_getElem? (i := 13) rfl)
theorem cX_isShakenOff_18 : zCode 144 18 = some (.iconst 1, 19, 0, 0, 0, 0, 0) := cAX_isShakenOff_0 _ (List.mem_of_getElem? (i := 14) rfl)
theorem cX_isShakenOff_19 : zCode 144 19 = some (.goto 4, 22, 23, 0, 0, 0, 0) := cAX_isShakenOff_0 _ (List.mem_of_getElem? (i := 15) rfl)
theorem cX_isShakenOff_22 : zCode 144 22 = some (.iconst 0, 23, 0, 0, 0, 0, 0) := cAX_isShakenOff_1 _ (List.mem_of_getElem? (i := 0) rfl)
theorem cX_isShakenOff_23 : zCode 144 23 = some (.ireturn, 24, 0, 3, 0, 0, 0) := cAX_isShakenOff_1 _ (List.mem_of_getElem? (i := 1) rfl)
theorem rX_isShakenOff_0 {a0 a1 : Int} : zS 144 0 [zI a0, zI a1] [] sh pp mm Q ↔ zS 144 1 [zI a0, zI a1] [zI a0] sh pp mm Q := s_go cX_isShakenOff_0 cX_isShakenOff_1 rfl rfl
theorem rX_isShakenOff_1 {a0 a1 s0 : Int} : zS 144 1 [zI a0, zI a1] [zI s0] sh pp mm Q ↔ zS 144 3 [zI a0, zI a1] [zI 24, zI s0] sh pp mm Q := s_go cX_isShakenOff_1 cX_isShakenOff_3 rfl rfl
theorem rX_isShakenOff_3 {a0 a1 s0 s1 : Int} (hz : s0 ≠ 0) : zS 144 3 [zI a0, zI a1] [zI s0, zI s1] sh pp mm Q ↔ zS 144 4 [zI a0, zI a1] [zI (s1.tmod s0)] sh pp mm Q := s_go cX_isShakenOff_3 cX_isShakenOff_4 (if_neg hz) rfl
theorem rX_isShakenOff_4 {a0 a1 s0 : Int} : zS 144 4 [zI a0, zI a1] [zI s0] sh pp mm Q ↔ zS 144 5 [zI a0, zI a1] [zI 2, zI s0] sh pp mm Q := s_go cX_isShakenOff_4 cX_isShakenOff_5 rfl rfl
theorem rX_isShakenOff_5 {a0 a1 s0 s1 : Int} : zS 144 5 [zI a0, zI a1] [zI s0, zI s1] sh pp mm Q ↔ zS 144 6 [zU, zI a1] [zI a0, zI s0, zI s1] sh pp mm Q := s_go cX_isShakenOff_5 cX_isShakenOff_6 rfl rfl
theorem rX_isShakenOff_6 {a1 s0 s1 s2 : Int} {u0 : zV} : zS 144 6 [u0, zI a1] [zI s0, zI s1, zI s2] sh pp mm Q ↔ zS 144 8 [zU, zI a1] [zI 24, zI s0, zI s1, zI s2] sh pp mm Q := s_go cX_isShakenOff_6 cX_isShakenOff_8 rfl rfl
theorem rX_isShakenOff_8 {a1 s0 s1 s2 s3 : Int} {u0 : zV} (hz : s0 ≠ 0) : zS 144 8 [u0, zI a1] [zI s0, zI s1, zI s2, zI s3] sh pp mm Q ↔ zS 144 9 [zU, zI a1] [zI (zw32 (s1.tdiv s0)), zI s2, zI s3] sh pp mm Q := s_go cX_isShakenOff_8 cX_isShakenOff_9 (if_neg hz) rfl
theorem rX_isShakenOff_9 {a1 s0 s1 s2 : Int} {u0 : zV} : zS 144 9 [u0, zI a1] [zI s0, zI s1, zI s2] sh pp mm Q ↔ zS 144 10 [zU, zI a1] [zI (zw32 (s1 * s0)), zI s2] sh pp mm Q := s_go cX_isShakenOff_9 cX_isShakenOff_10 rfl rfl
theorem rX_isShakenOff_10 {a1 s0 s1 : Int} {u0 : zV} : zS 144 10 [u0, zI a1] [zI s0, zI s1] sh pp mm Q ↔ zS 144 11 [zU, zI a1] [zI (zw32 (s1 + s0))] sh pp mm Q := s_go cX_isShakenOff_10 cX_isShakenOff_11 rfl rfl
theorem rX_isShakenOff_11 {a1 s0 : Int} {u0 : zV} : zS 144 11 [u0, zI a1] [zI s0] sh pp mm Q ↔ zS 144 12 [zU, zU] [zI a1, zI s0] sh pp mm Q := s_go cX_isShakenOff_11 cX_isShakenOff_12 rfl rfl
theorem rX_isShakenOff_12 {s0 s1 : Int} {u0 u1 : zV} : zS 144 12 [u0, u1] [zI s0, zI s1] sh pp mm Q ↔ zS 144 13 [zU, zU] [zI (zw32 (s1 + s0))] sh pp mm Q := s_go cX_isShakenOff_12 cX_isShakenOff_13 rfl rfl
theorem rX_isShakenOff_13 {s0 : Int} {u0 u1 : zV} : zS 144 13 [u0, u1] [zI s0] sh pp mm Q ↔ zS 144 14 [zU, zU] [zI 3, zI s0] sh pp mm Q := s_go cX_isShakenOff_13 cX_isShakenOff_14 rfl rfl
theorem rX_isShakenOff_14 {s0 s1 : Int} {u0 u1 : zV} (hz : s0 ≠ 0) : zS 144 14 [u0, u1] [zI s0, zI s1] sh pp mm Q ↔ zS 144 15 [zU, zU] [zI (s1.tmod s0)] sh pp mm Q := s_go cX_isShakenOff_14 cX_isShakenOff_15 (if_neg hz) rfl
theorem rX_isShakenOff_15 {s0 : Int} {u0 u1 : zV} : zS 144 15 [u0, u1] [zI s0] sh pp mm Q ↔ (s0 = 0 → zS 144 18 [zU, zU] [] sh pp mm Q) ∧ (¬ s0 = 0 → zS 144 22 [zU, zU] [] sh pp mm Q) := s_ifn cX_isShakenOff_15 cX_isShakenOff_18 cX_isShakenOff_22 rfl rfl rfl
theorem rX_isShakenOff_18 {u0 u1 : zV} : zS 144 18 [u0, u1] [] sh pp mm Q ↔ zS 144 19 [zU, zU] [zI 1] sh pp mm Q := s_go cX_isShakenOff_18 cX_isShakenOff_19 rfl rfl
theorem rX_isShakenOff_19 {s0 : Int} {u0 u1 : zV} : zS 144 19 [u0, u1] [zI s0] sh pp mm Q ↔ zS 144 23 [zU, zU] [zI s0] sh pp mm Q := s_go cX_isShakenOff_19 cX_isShakenOff_23 rfl rfl
theorem rX_isShakenOff_22 {u0 u1 : zV} : zS 144 22 [u0, u1] [] sh pp mm Q ↔ zS 144 23 [zU, zU] [zI 0] sh pp mm Q := s_go cX_isShakenOff_22 cX_isShakenOff_23 rfl rfl
theorem rX_isShakenOff_23 {s0 : Int} {u0 u1 : zV} (hb : s0 = 0 ∨ s0 = 1) : zS 144 23 [u0, u1] [zI s0] sh pp mm Q ↔ Q (zI s0) sh pp mm := s_ret cX_isShakenOff_23 (if_pos (decide_eq_true hb))
theorem cAX_slackFor : ∀ q ∈ zT145, zCode 145 q.1 = some q.2 := zAll (mid := 145) rfl (by decide +kernel)
theorem cAX_slackFor_0 : ∀ q ∈ zT145_0, zCode 145 q.1 = some q.2 := fun q h => cAX_slackFor q (h)
theorem cX_slackFor_0 : zCode 145 0 = some (.iload_n 0, 1, 0, 0, 0, 0, 7) := cAX_slackFor_0 _ (List.mem_of_getElem? (i := 0) rfl)
theorem cX_slackFor_1 : zCode 145 1 = some (.ifCond .ne 5, 4, 6, 0, 0, 0, 7) := cAX_slackFor_0 _ (List.mem_of_getElem? (i := 1) rfl)
theorem cX_slackFor_4 : zCode 145 4 = some (.iload_n 1, 5, 0, 0, 0, 0, 2) := cAX_slackFor_0 _ (List.mem_of_getElem? (i := 2) rfl)
theorem cX_slackFor_5 : zCode 145 5 = some (.ireturn, 6, 0, 0, 0, 0, 0) := cAX_slackFor_0 _ (List.mem_of_getElem? (i := 3) rfl)
theorem cX_slackFor_6 : zCode 145 6 = some (.iload_n 0, 7, 0, 0, 0, 0, 5) := cAX_slackFor_0 _ (List.mem_of_getElem? (i := 4) rfl)
theorem cX_slackFor_7 : zCode 145 7 = some (.ifCond .le 7, 10, 14, 0, 0, 0, 4) := cAX_slackFor_0 _ (List.mem_of_getElem? (i := 5) rfl)
theorem cX_slackFor_10 : zCode 145 10 = some (.iload_n 2, 11, 0, 0, 0, 0, 4) := cAX_slackFor_0 _ (List.mem_of_getElem? (i := 6) rfl)
theorem cX_slackFor_11 : zCode 145 11 = some (.goto 4, 14, 15, 0, 0, 0, 0) := cAX_slackFor_0 _ (List.mem_of_getElem? (i := 7) rfl)
theorem cX_slackFor_14 : zCode 145 14 = some (.iconst 0, 15, 0, 0, 0, 0, 0) := cAX_slackFor_0 _ (List.mem_of_getElem? (i := 8) rfl)
theorem cX_slackFor_15 : zCode 145 15 = some (.ireturn, 16, 0, 0, 0, 0, 0) := cAX_slackFor_0 _ (List.mem_of_getElem? (i := 9) rfl)
theorem rX_slackFor_0 {a0 a1 a2 : Int} : zS 145 0 [zI a0, zI a1, zI a2] [] sh pp mm Q ↔ zS 145 1 [zI a0, zI a1, zI a2] [zI a0] sh pp mm Q := s_go cX_slackFor_0 cX_slackFor_1 rfl rfl
theorem rX_slackFor_1 {a0 a1 a2 s0 : Int} : zS 145 1 [zI a0, zI a1, zI a2] [zI s0] sh pp mm Q ↔ (s0 = 0 → zS 145 4 [zU, zI a1, zU] [] sh pp mm Q) ∧ (¬ s0 = 0 → zS 145 6 [zI a0, zU, zI a2] [] sh pp mm Q) := s_ifn cX_slackFor_1 cX_slackFor_4 cX_slackFor_6 rfl rfl rfl
theorem rX_slackFor_4 {a1 : Int} {u0 u2 : zV} : zS 145 4 [u0, zI a1, u2] [] sh pp mm Q ↔ zS 145 5 [zU, zU, zU] [zI a1] sh pp mm Q := s_go cX_slackFor_4 cX_slackFor_5 rfl rfl
theorem rX_slackFor_5 {s0 : Int} {u0 u1 u2 : zV} : zS 145 5 [u0, u1, u2] [zI s0] sh pp mm Q ↔ Q (zI s0) sh pp mm := s_ret cX_slackFor_5 rfl
theorem rX_slackFor_6 {a0 a2 : Int} {u1 : zV} : zS 145 6 [zI a0, u1, zI a2] [] sh pp mm Q ↔ zS 145 7 [zU, zU, zI a2] [zI a0] sh pp mm Q := s_go cX_slackFor_6 cX_slackFor_7 rfl rfl
theorem rX_slackFor_7 {a2 s0 : Int} {u0 u1 : zV} : zS 145 7 [u0, u1, zI a2] [zI s0] sh pp mm Q ↔ (0 < s0 → zS 145 10 [zU, zU, zI a2] [] sh pp mm Q) ∧ (¬ 0 < s0 → zS 145 14 [zU, zU, zU] [] sh pp mm Q) := s_ifn cX_slackFor_7 cX_slackFor_10 cX_slackFor_14 rfl rfl rfl
theorem rX_slackFor_10 {a2 : Int} {u0 u1 : zV} : zS 145 10 [u0, u1, zI a2] [] sh pp mm Q ↔ zS 145 11 [zU, zU, zU] [zI a2] sh pp mm Q := s_go cX_slackFor_10 cX_slackFor_11 rfl rfl
theorem rX_slackFor_11 {s0 : Int} {u0 u1 u2 : zV} : zS 145 11 [u0, u1, u2] [zI s0] sh pp mm Q ↔ zS 145 15 [zU, zU, zU] [zI s0] sh pp mm Q := s_go cX_slackFor_11 cX_slackFor_15 rfl rfl
theorem rX_slackFor_14 {u0 u1 u2 : zV} : zS 145 14 [u0, u1, u2] [] sh pp mm Q ↔ zS 145 15 [zU, zU, zU] [zI 0] sh pp mm Q := s_go cX_slackFor_14 cX_slackFor_15 rfl rfl
theorem rX_slackFor_15 {s0 : Int} {u0 u1 u2 : zV} : zS 145 15 [u0, u1, u2] [zI s0] sh pp mm Q ↔ Q (zI s0) sh pp mm := s_ret cX_slackFor_15 rfl
theorem cAX_outdateProgram : ∀ q ∈ zT146, zCode 146 q.1 = some q.2 := zAll (mid := 146) rfl (by decide +kernel)
theorem cAX_outdateProgram_0 : ∀ q ∈ zT146_0, zCode 146 q.1 = some q.2 := fun q h => cAX_outdateProgram q (h)
theorem cX_outdateProgram_0 : zCode 146 0 = some (.aload_n 0, 1, 0, 0, 0, 0, 3) := cAX_outdateProgram_0 _ (List.mem_of_getElem? (i := 0) rfl)
theorem cX_outdateProgram_1 : zCode 146 1 = some (.getfield 26, 4, 11, 3, 2, 509, 3) := cAX_outdateProgram_0 _ (List.mem_of_getElem? (i := 1) rfl)
theorem cX_outdateProgram_4 : zCode 146 4 = some (.iload_n 1, 5, 0, 0, 0, 0, 3) := cAX_outdateProgram_0 _ (List.mem_of_getElem? (i := 2) rfl)
theorem cX_outdateProgram_5 : zCode 146 5 = some (.aaload, 6, 0, 0, 0, 0, 3) := cAX_outdateProgram_0 _ (List.mem_of_getElem? (i := 3) rfl)
theorem cX_outdateProgram_6 : zCode 146 6 = some (.iconst 0, 7, 0, 0, 0, 0, 3) := cAX_outdateProgram_0 _ (List.mem_of_getElem? (i := 4) rfl)
theorem cX_outdateProgram_7 : zCode 146 7 = some (.putfield 261, 10, 8, 5, 3, 380, 3) := cAX_outdateProgram_0 _ (List.mem_of_getElem? (i := 5) rfl)
theorem cX_outdateProgram_10 : zCode 146 10 = some (.aload_n 0, 11, 0, 0, 0, 0, 3) := cAX_outdateProgram_0 _ (List.mem_of_getElem? (i := 6) rfl)
theorem cX_outdateProgram_11 : zCode 146 11 = some (.getfield 32, 14, 11, 4, 2, 510, 2) := cAX_outdateProgram_0 _ (List.mem_of_getElem? (i := 7) rfl)
theorem cX_outdateProgram_14 : zCode 146 14 = some (.iload_n 1, 15, 0, 0, 0, 0, 2) := cAX_outdateProgram_0 _ (List.mem_of_getElem? (i := 8) rfl)
theorem cX_outdateProgram_15 : zCode 146 15 = some (.aaload, 16, 0, 0, 0, 0, 0) := cAX_outdateProgram_0 _ (List.mem_of_getElem? (i := 9) rfl)
theorem cX_outdateProgram_16 : zCode 146 16 = some (.iconst 0, 17, 0, 0, 0, 0, 0) := cAX_outdateProgram_0 _ (List.mem_of_getElem? (i := 10) rfl)
theorem cX_outdateProgram_17 : zCode 146 17 = some (.putfield 264, 20, 1, 5, 3, 474, 0) := cAX_outdateProgram_0 _ (List.mem_of_getElem? (i := 11) rfl)
theorem cX_outdateProgram_20 : zCode 146 20 = some (.return_, 21, 0, 0, 0, 0, 0) := cAX_outdateProgram_0 _ (List.mem_of_getElem? (i := 12) rfl)
theorem rX_outdateProgram_0 {a0 : Nat} {a1 : Int} : zS 146 0 [zR a0, zI a1] [] sh pp mm Q ↔ zS 146 1 [zR a0, zI a1] [zR a0] sh pp mm Q := s_go cX_outdateProgram_0 cX_outdateProgram_1 rfl rfl
theorem rX_outdateProgram_1 {a0 s0 : Nat} {a1 : Int} (hk : zKd sh s0 = 11) : zS 146 1 [zR a0, zI a1] [zR s0] sh pp mm Q ↔ zS 146 4 [zR a0, zI a1] [zR (pp s0 3)] sh pp mm Q := s_go cX_outdateProgram_1 cX_outdateProgram_4 (if_pos hk) rfl
theorem rX_outdateProgram_4 {a0 s0 : Nat} {a1 : Int} : zS 146 4 [zR a0, zI a1] [zR s0] sh pp mm Q ↔ zS 146 5 [zR a0, zI a1] [zI a1, zR s0] sh pp mm Q := s_go cX_outdateProgram_4 cX_outdateProgram_5 rfl rfl
theorem rX_outdateProgram_5 {a0 s1 : Nat} {a1 s0 : Int} (hk : 24 ≤ zKd sh s1) (hl : zKd sh s1 ≤ 27) (h0 : 0 ≤ s0) (h1 : s0 < zLn sh s1) : zS 146 5 [zR a0, zI a1] [zI s0, zR s1] sh pp mm Q ↔ zS 146 6 [zR a0, zI a1] [zR (pp s1 s0)] sh pp mm Q := s_go cX_outdateProgram_5 cX_outdateProgram_6 (if_pos ⟨zEl_ok hk hl, h0, h1⟩) rfl
theorem rX_outdateProgram_6 {a0 s0 : Nat} {a1 : Int} : zS 146 6 [zR a0, zI a1] [zR s0] sh pp mm Q ↔ zS 146 7 [zR a0, zI a1] [zI 0, zR s0] sh pp mm Q := s_go cX_outdateProgram_6 cX_outdateProgram_7 rfl rfl
theorem rX_outdateProgram_7 {a0 s1 : Nat} {a1 s0 : Int} (hk : zKd sh s1 = 8) (hb : s0 = 0 ∨ s0 = 1) : zS 146 7 [zR a0, zI a1] [zI s0, zR s1] sh pp mm Q ↔ zS 146 10 [zR a0, zI a1] [] sh pp (zupd mm s1 5 s0) Q := s_go cX_outdateProgram_7 cX_outdateProgram_10 (if_pos ⟨hk, Or.inr ⟨rfl, hb⟩⟩) rfl
theorem rX_outdateProgram_10 {a0 : Nat} {a1 : Int} : zS 146 10 [zR a0, zI a1] [] sh pp mm Q ↔ zS 146 11 [zU, zI a1] [zR a0] sh pp mm Q := s_go cX_outdateProgram_10 cX_outdateProgram_11 rfl rfl
theorem rX_outdateProgram_11 {s0 : Nat} {a1 : Int} {u0 : zV} (hk : zKd sh s0 = 11) : zS 146 11 [u0, zI a1] [zR s0] sh pp mm Q ↔ zS 146 14 [zU, zI a1] [zR (pp s0 4)] sh pp mm Q := s_go cX_outdateProgram_11 cX_outdateProgram_14 (if_pos hk) rfl
theorem rX_outdateProgram_14 {s0 : Nat} {a1 : Int} {u0 : zV} : zS 146 14 [u0, zI a1] [zR s0] sh pp mm Q ↔ zS 146 15 [zU, zU] [zI a1, zR s0] sh pp mm Q := s_go cX_outdateProgram_14 cX_outdateProgram_15 rfl rfl
theorem rX_outdateProgram_15 {s1 : Nat} {s0 : Int} {u0 u1 : zV} (hk : 24 ≤ zKd sh s1) (hl : zKd sh s1 ≤ 27) (h0 : 0 ≤ s0) (h1 : s0 < zLn sh s1) : zS 146 15 [u0, u1] [zI s0, zR s1] sh pp mm Q ↔ zS 146 16 [zU, zU] [zR (pp s1 s0)] sh pp mm Q := s_go cX_outdateProgram_15 cX_outdateProgram_16 (if_pos ⟨zEl_ok hk hl, h0, h1⟩) rfl
theorem rX_outdateProgram_16 {s0 : Nat} {u0 u1 : zV} : zS 146 16 [u0, u1] [zR s0] sh pp mm Q ↔ zS 146 17 [zU, zU] [zI 0, zR s0] sh pp mm Q := s_go cX_outdateProgram_16 cX_outdateProgram_17 rfl rfl
theorem rX_outdateProgram_17 {s1 : Nat} {s0 : Int} {u0 u1 : zV} (hk : zKd sh s1 = 1) (hb : s0 = 0 ∨ s0 = 1) : zS 146 17 [u0, u1] [zI s0, zR s1] sh pp mm Q ↔ zS 146 20 [zU, zU] [] sh pp (zupd mm s1 5 s0) Q := s_go cX_outdateProgram_17 cX_outdateProgram_20 (if_pos ⟨hk, Or.inr ⟨rfl, hb⟩⟩) rfl
theorem rX_outdateProgram_20 {u0 u1 : zV} : zS 146 20 [u0, u1] [] sh pp mm Q ↔ Q zU sh pp mm := s_ret cX_outdateProgram_20 rfl
theorem cAX_outdateDrawings : ∀ q ∈ zT147, zCode 147 q.1 = some q.2 := zAll (mid := 147) rfl (by decide +kernel)
theorem cAX_outdateDrawings_0 : ∀ q ∈ zT147_0, zCode 147 q.1 = some q.2 := fun q h => cAX_outdateDrawings q (h)
theorem cX_outdateDrawings_0 : zCode 147 0 = some (.iconst 0, 1, 0, 0, 0, 0, 1) := cAX_outdateDrawings_0 _ (List.mem_of_getElem? (i := 0) rfl)
theorem cX_outdateDrawings_1 : zCode 147 1 = some (.istore_n 1, 2, 0, 0, 0, 0, 1) := cAX_outdateDrawings_0 _ (List.mem_of_getElem? (i := 1) rfl)
theorem cX_outdateDrawings_2 : zCode 147 2 = some (.iload_n 1, 3, 0, 0, 0, 0, 3) := cAX_outdateDrawings_0 _ (List.mem_of_getElem? (i := 2) rfl)
theorem cX_outdateDrawings_3 : zCode 147 3 = some (.iconst 4, 4, 0, 0, 0, 0, 3) := cAX_outdateDrawings_0 _ (List.mem_of_getElem? (i := 3) rfl)
theorem cX_outdateDrawings_4 : zCode 147 4 = some (.if_icmp .ge 19, 7, 23, 0, 0, 0, 3) := cAX_outdateDrawings_0 _ (List.mem_of_getElem? (i := 4) rfl)
theorem cX_outdateDrawings_7 : zCode 147 7 = some (.aload_n 0, 8, 0, 0, 0, 0, 3) := cAX_outdateDrawings_0 _ (List.mem_of_getElem? (i := 5) rfl)
theorem cX_outdateDrawings_8 : zCode 147 8 = some (.getfield 32, 11, 11, 4, 2, 510, 3) := cAX_outdateDrawings_0 _ (List.mem_of_getElem? (i := 6) rfl)
theorem cX_outdateDrawings_11 : zCode 147 11 = some (.iload_n 1, 12, 0, 0, 0, 0, 3) := cAX_outdateDrawings_0 _ (List.mem_of_getElem? (i := 7) rfl)
theorem cX_outdateDrawings_12 : zCode 147 12 = some (.aaload, 13, 0, 0, 0, 0, 3) := cAX_outdateDrawings_0 _ (List.mem_of_getElem? (i := 8) rfl)
theorem cX_outdateDrawings_13 : zCode 147 13 = some (.iconst 0, 14, 0, 0, 0, 0, 3) := cAX_outdateDrawings_0 _ (List.mem_of_getElem? (i := 9) rfl)
theorem cX_outdateDrawings_14 : zCode 147 14 = some (.putfield 264, 17, 1, 5, 3, 474, 3) := cAX_outdateDrawings_0 _ (List.mem_of_getElem? (i := 10) rfl)
theorem cX_outdateDrawings_17 : zCode 147 17 = some (.iinc 1 1, 20, 0, 0, 0, 0, 3) := cAX_outdateDrawings_0 _ (List.mem_of_getElem? (i := 11) rfl)
theorem cX_outdateDrawings_20 : zCode 147 20 = some (.goto (-18), 23, 2, 0, 0, 0, 3) := cAX_outdateDrawings_0 _ (List.mem_of_getElem? (i := 12) rfl)
theorem cX_outdateDrawings_23 : zCode 147 23 = some (.return_, 24, 0, 0, 0, 0, 0) := cAX_outdateDrawings_0 _ (List.mem_of_getElem? (i := 13) rfl)
theorem rX_outdateDrawings_0 {a0 : Nat} {u1 : zV} : zS 147 0 [zR a0, u1] [] sh pp mm Q ↔ zS 147 1 [zR a0, zU] [zI 0] sh pp mm Q := s_go cX_outdateDrawings_0 cX_outdateDrawings_1 rfl rfl
theorem rX_outdateDrawings_1 {a0 : Nat} {s0 : Int} {u1 : zV} : zS 147 1 [zR a0, u1] [zI s0] sh pp mm Q ↔ zS 147 2 [zR a0, zI s0] [] sh pp mm Q := s_go cX_outdateDrawings_1 cX_outdateDrawings_2 rfl rfl
theorem rX_outdateDrawings_2 {a0 : Nat} {a1 : Int} : zS 147 2 [zR a0, zI a1] [] sh pp mm Q ↔ zS 147 3 [zR a0, zI a1] [zI a1] sh pp mm Q := s_go cX_outdateDrawings_2 cX_outdateDrawings_3 rfl rfl
theorem rX_outdateDrawings_3 {a0 : Nat} {a1 s0 : Int} : zS 147 3 [zR a0, zI a1] [zI s0] sh pp mm Q ↔ zS 147 4 [zR a0, zI a1] [zI 4, zI s0] sh pp mm Q := s_go cX_outdateDrawings_3 cX_outdateDrawings_4 rfl rfl
theorem rX_outdateDrawings_4 {a0 : Nat} {a1 s0 s1 : Int} : zS 147 4 [zR a0, zI a1] [zI s0, zI s1] sh pp mm Q ↔ (s1 < s0 → zS 147 7 [zR a0, zI a1] [] sh pp mm Q) ∧ (¬ s1 < s0 → zS 147 23 [zU, zU] [] sh pp mm Q) := s_ifn cX_outdateDrawings_4 cX_outdateDrawings_7 cX_outdateDrawings_23 rfl rfl rfl
theorem rX_outdateDrawings_7 {a0 : Nat} {a1 : Int} : zS 147 7 [zR a0, zI a1] [] sh pp mm Q ↔ zS 147 8 [zR a0, zI a1] [zR a0] sh pp mm Q := s_go cX_outdateDrawings_7 cX_outdateDrawings_8 rfl rfl
theorem rX_outdateDrawings_8 {a0 s0 : Nat} {a1 : Int} (hk : zKd sh s0 = 11) : zS 147 8 [zR a0, zI a1] [zR s0] sh pp mm Q ↔ zS 147 11 [zR a0, zI a1] [zR (pp s0 4)] sh pp mm Q := s_go cX_outdateDrawings_8 cX_outdateDrawings_11 (if_pos hk) rfl
theorem rX_outdateDrawings_11 {a0 s0 : Nat} {a1 : Int} : zS 147 11 [zR a0, zI a1] [zR s0] sh pp mm Q ↔ zS 147 12 [zR a0, zI a1] [zI a1, zR s0] sh pp mm Q := s_go cX_outdateDrawings_11 cX_outdateDrawings_12 rfl rfl
theorem rX_outdateDrawings_12 {a0 s1 : Nat} {a1 s0 : Int} (hk : 24 ≤ zKd sh s1) (hl : zKd sh s1 ≤ 27) (h0 : 0 ≤ s0) (h1 : s0 < zLn sh s1) : zS 147 12 [zR a0, zI a1] [zI s0, zR s1] sh pp mm Q ↔ zS 147 13 [zR a0, zI a1] [zR (pp s1 s0)] sh pp mm Q := s_go cX_outdateDrawings_12 cX_outdateDrawings_13 (if_pos ⟨zEl_ok hk hl, h0, h1⟩) rfl
theorem rX_outdateDrawings_13 {a0 s0 : Nat} {a1 : Int} : zS 147 13 [zR a0, zI a1] [zR s0] sh pp mm Q ↔ zS 147 14 [zR a0, zI a1] [zI 0, zR s0] sh pp mm Q := s_go cX_outdateDrawings_13 cX_outdateDrawings_14 rfl rfl
theorem rX_outdateDrawings_14 {a0 s1 : Nat} {a1 s0 : Int} (hk : zKd sh s1 = 1) (hb : s0 = 0 ∨ s0 = 1) : zS 147 14 [zR a0, zI a1] [zI s0, zR s1] sh pp mm Q ↔ zS 147 17 [zR a0, zI a1] [] sh pp (zupd mm s1 5 s0) Q := s_go cX_outdateDrawings_14 cX_outdateDrawings_17 (if_pos ⟨hk, Or.inr ⟨rfl, hb⟩⟩) rfl
theorem rX_outdateDrawings_17 {a0 : Nat} {a1 : Int} : zS 147 17 [zR a0, zI a1] [] sh pp mm Q ↔ zS 147 20 [zR a0, zI (zw32 (a1 + 1))] [] sh pp mm Q := s_go cX_outdateDrawings_17 cX_outdateDrawings_20 rfl rfl
theorem rX_outdateDrawings_20 {a0 : Nat} {a1 : Int} : zS 147 20 [zR a0, zI a1] [] sh pp mm Q ↔ zS 147 2 [zR a0, zI a1] [] sh pp mm Q := s_go cX_outdateDrawings_20 cX_outdateDrawings_2 rfl rfl
theorem rX_outdateDrawings_23 {u0 u1 : zV} : zS 147 23 [u0, u1] [] sh pp mm Q ↔ Q zU sh pp mm := s_ret cX_outdateDrawings_23 rfl
theorem cAX_drawingOf : ∀ q ∈ zT148, zCode 148 q.1 = some q.2 := zAll (mid := 148) rfl (by decide +kernel)
theorem cAX_drawingOf_0 : ∀ q ∈ zT148_0, zCode 148 q.1 = some q.2 := fun q h => cAX_drawingOf q (List.mem_append_left _ h)
theorem cAX_drawingOf_1 : ∀ q ∈ zT148_1, zCode 148 q.1 = some q.2 := fun q h => cAX_drawingOf q (List.mem_append_right _ h)
theorem cX_drawingOf_0 : zCode 148 0 = some (.aload_n 0, 1, 0, 0, 0, 0, 3) := cAX_drawingOf_0 _ (List.mem_of_getElem? (i := 0) rfl)
theorem cX_drawingOf_1 : zCode 148 1 = some (.getfield 26, 4, 11, 3, 2, 509, 3) := cAX_drawingOf_0 _ (List.mem_of_getElem? (i := 1) rfl)
theorem cX_drawingOf_4 : zCode 148 4 = some (.iload_n 1, 5, 0, 0, 0, 0, 3) := cAX_drawingOf_0 _ (List.mem_of_getElem? (i := 2) rfl)
theorem cX_drawingOf_5 : zCode 148 5 = some (.aaload, 6, 0, 0, 0, 0, 3) := cAX_drawingOf_0 _ (List.mem_of_getElem? (i := 3) rfl)
theorem cX_drawingOf_6 : zCode 148 6 = some (.astore_n 2, 7, 0, 0, 0, 0, 3) := cAX_drawingOf_0 _ (List.mem_of_getElem? (i := 4) rfl)
theorem cX_drawingOf_7 : zCode 148 7 = some (.aload_n 2, 8, 0, 0, 0, 0, 7) := cAX_drawingOf_0 _ (List.mem_of_getElem? (i := 5) rfl)
theorem cX_drawingOf_8 : zCode 148 8 = some (.aload_n 0, 9, 0, 0, 0, 0, 7) := cAX_drawingOf_0 _ (List.mem_of_getElem? (i := 6) rfl)
theorem cX_drawingOf_9 : zCode 148 9 = some (.getfield 10, 12, 11, 0, 2, 506, 7) := cAX_drawingOf_0 _ (List.mem_of_getElem? (i := 7) rfl)
theorem cX_drawingOf_12 : zCode 148 12 = some (.getfield 89, 15, 9, 1, 2, 168, 7) := cAX_drawingOf_0 _ (List.mem_of_getElem? (i := 8) rfl)
theorem cX_drawingOf_15 : zCode 148 15 = some (.iload_n 1, 16, 0, 0, 0, 0, 7) := cAX_drawingOf_0 _ (List.mem_of_getElem? (i := 9) rfl)
theorem cX_drawingOf_16 : zCode 148 16 = some (.aaload, 17, 0, 0, 0, 0, 7) := cAX_drawingOf_0 _ (List.mem_of_getElem? (i := 10) rfl)
theorem cX_drawingOf_17 : zCode 148 17 = some (.invokevirtual 111, 20, 78, 1, 4, 8, 7) := cAX_drawingOf_0 _ (List.mem_of_getElem? (i := 11) rfl)
theorem cX_drawingOf_20 : zCode 148 20 = some (.aload_n 2, 21, 0, 0, 0, 0, 7) := cAX_drawingOf_0 _ (List.mem_of_getElem? (i := 12) rfl)
theorem cX_drawingOf_21 : zCode 148 21 = some (.getfield 115, 24, 8, 4, 0, 378, 7) := cAX_drawingOf_0 _ (List.mem_of_getElem? (i := 13) rfl)
theorem cX_drawingOf_24 : zCode 148 24 = some (.iconst (-1), 25, 0, 0, 0, 0, 7) := cAX_drawingOf_0 _ (List.mem_of_getElem? (i := 14) rfl)
theorem cX_drawingOf_25 : zCode 148 25 = some (.if_icmp .eq 5, 28, 30, 0, 0, 0, 7) := cAX_drawingOf_0 _ (List.mem_of_getElem? (i := 15) rfl)
theorem cX_drawingOf_28 : zCode 148 28 = some (.aconst_null, 29, 0, 0, 0, 0, 0) := cAX_drawingOf_1 _ (List.mem_of_getElem? (i := 0) rfl)
theorem cX_drawingOf_29 : zCode 148 29 = some (.areturn, 30, 0, 0, 0, 0, 0) := cAX_drawingOf_1 _ (List.mem_of_getElem? (i := 1) rfl)
theorem cX_drawingOf_30 : zCode 148 30 = some (.aload_n 0, 31, 0, 0, 0, 0, 7) := cAX_drawingOf_1 _ (List.mem_of_getElem? (i := 2) rfl)
theorem cX_drawingOf_31 : zCode 148 31 = some (.getfield 32, 34, 11, 4, 2, 510, 7) := cAX_drawingOf_1 _ (List.mem_of_getElem? (i := 3) rfl)
theorem cX_drawingOf_34 : zCode 148 34 = some (.iload_n 1, 35, 0, 0, 0, 0, 7) := cAX_drawingOf_1 _ (List.mem_of_getElem? (i := 4) rfl)
theorem cX_drawingOf_35 : zCode 148 35 = some (.aaload, 36, 0, 0, 0, 0, 5) := cAX_drawingOf_1 _ (List.mem_of_getElem? (i := 5) rfl)
theorem cX_drawingOf_36 : zCode 148 36 = some (.astore_n 3, 37, 0, 0, 0, 0, 5) := cAX_drawingOf_1 _ (List.mem_of_getElem? (i := 6) rfl)
theorem cX_drawingOf_37 : zCode 148 37 = some (.aload_n 3, 38, 0, 0, 0, 0, 13) := cAX_drawingOf_1 _ (List.mem_of_getElem? (i := 7) rfl)
theorem cX_drawingOf_38 : zCode 148 38 = some (.aload_n 2, 39, 0, 0, 0, 0, 13) := cAX_drawingOf_1 _ (List.mem_of_getElem? (i := 8) rfl)
theorem cX_drawingOf_39 : zCode 148 39 = some (.aload_n 0, 40, 0, 0, 0, 0, 9) := cAX_drawingOf_1 _ (List.mem_of_getElem? (i := 9) rfl)
theorem cX_drawingOf_40 : zCode 148 40 = some (.getfield 10, 43, 11, 0, 2, 506, 8) := cAX_drawingOf_1 _ (List.mem_of_getElem? (i := 10) rfl)
theorem cX_drawingOf_43 : zCode 148 43 = some (.getfield 76, 46, 9, 0, 2, 165, 8) := cAX_drawingOf_1 _ (List.mem_of_getElem? (i := 11) rfl)
theorem cX_drawingOf_46 : zCode 148 46 = some (.invokevirtual 267, 49, 16, 2, 5, 1, 8) := cAX_drawingOf_1 _ (List.mem_of_getElem? (i := 12) rfl)
theorem cX_drawingOf_49 : zCode 148 49 = some (.aload_n 3, 50, 0, 0, 0, 0, 8) := cAX_drawingOf_1 _ (List.mem_of_getElem? (i := 13) rfl)
theorem cX_drawingOf_50 : zCode 148 50 = some (.areturn, 51, 0, 0, 0, 0, 0) := cAX_drawingOf_1 _ (List.mem_of_getElem? (i := 14) rfl)
theorem rX_drawingOf_0 {a0 : Nat} {a1 : Int} {u2 u3 : zV} : zS 148 0 [zR a0, zI a1, u2, u3] [] sh pp mm Q ↔ zS 148 1 [zR a0, zI a1, zU, zU] [zR a0] sh pp mm Q := s_go cX_drawingOf_0 cX_drawingOf_1 rfl rfl
theorem rX_drawingOf_1 {a0 s0 : Nat} {a1 : Int} {u2 u3 : zV} (hk : zKd sh s0 = 11) : zS 148 1 [zR a0, zI a1, u2, u3] [zR s0] sh pp mm Q ↔ zS 148 4 [zR a0, zI a1, zU, zU] [zR (pp s0 3)] sh pp mm Q := s_go cX_drawingOf_1 cX_drawingOf_4 (if_pos hk) rfl
theorem rX_drawingOf_4 {a0 s0 : Nat} {a1 : Int} {u2 u3 : zV} : zS 148 4 [zR a0, zI a1, u2, u3] [zR s0] sh pp mm Q ↔ zS 148 5 [zR a0, zI a1, zU, zU] [zI a1, zR s0] sh pp mm Q := s_go cX_drawingOf_4 cX_drawingOf_5 rfl rfl
theorem rX_drawingOf_5 {a0 s1 : Nat} {a1 s0 : Int} {u2 u3 : zV} (hk : 24 ≤ zKd sh s1) (hl : zKd sh s1 ≤ 27) (h0 : 0 ≤ s0) (h1 : s0 < zLn sh s1) : zS 148 5 [zR a0, zI a1, u2, u3] [zI s0, zR s1] sh pp mm Q ↔ zS 148 6 [zR a0, zI a1, zU, zU] [zR (pp s1 s0)] sh pp mm Q := s_go cX_drawingOf_5 cX_drawingOf_6 (if_pos ⟨zEl_ok hk hl, h0, h1⟩) rfl
theorem rX_drawingOf_6 {a0 s0 : Nat} {a1 : Int} {u2 u3 : zV} : zS 148 6 [zR a0, zI a1, u2, u3] [zR s0] sh pp mm Q ↔ zS 148 7 [zR a0, zI a1, zR s0, zU] [] sh pp mm Q := s_go cX_drawingOf_6 cX_drawingOf_7 rfl rfl
theorem rX_drawingOf_7 {a0 a2 : Nat} {a1 : Int} {u3 : zV} : zS 148 7 [zR a0, zI a1, zR a2, u3] [] sh pp mm Q ↔ zS 148 8 [zR a0, zI a1, zR a2, zU] [zR a2] sh pp mm Q := s_go cX_drawingOf_7 cX_drawingOf_8 rfl rfl
theorem rX_drawingOf_8 {a0 a2 s0 : Nat} {a1 : Int} {u3 : zV} : zS 148 8 [zR a0, zI a1, zR a2, u3] [zR s0] sh pp mm Q ↔ zS 148 9 [zR a0, zI a1, zR a2, zU] [zR a0, zR s0] sh pp mm Q := s_go cX_drawingOf_8 cX_drawingOf_9 rfl rfl
theorem rX_drawingOf_9 {a0 a2 s0 s1 : Nat} {a1 : Int} {u3 : zV} (hk : zKd sh s0 = 11) : zS 148 9 [zR a0, zI a1, zR a2, u3] [zR s0, zR s1] sh pp mm Q ↔ zS 148 12 [zR a0, zI a1, zR a2, zU] [zR (pp s0 0), zR s1] sh pp mm Q := s_go cX_drawingOf_9 cX_drawingOf_12 (if_pos hk) rfl
theorem rX_drawingOf_12 {a0 a2 s0 s1 : Nat} {a1 : Int} {u3 : zV} (hk : zKd sh s0 = 9) : zS 148 12 [zR a0, zI a1, zR a2, u3] [zR s0, zR s1] sh pp mm Q ↔ zS 148 15 [zR a0, zI a1, zR a2, zU] [zR (pp s0 1), zR s1] sh pp mm Q := s_go cX_drawingOf_12 cX_drawingOf_15 (if_pos hk) rfl
theorem rX_drawingOf_15 {a0 a2 s0 s1 : Nat} {a1 : Int} {u3 : zV} : zS 148 15 [zR a0, zI a1, zR a2, u3] [zR s0, zR s1] sh pp mm Q ↔ zS 148 16 [zR a0, zI a1, zR a2, zU] [zI a1, zR s0, zR s1] sh pp mm Q := s_go cX_drawingOf_15 cX_drawingOf_16 rfl rfl
theorem rX_drawingOf_16 {a0 a2 s1 s2 : Nat} {a1 s0 : Int} {u3 : zV} (hk : 24 ≤ zKd sh s1) (hl : zKd sh s1 ≤ 27) (h0 : 0 ≤ s0) (h1 : s0 < zLn sh s1) : zS 148 16 [zR a0, zI a1, zR a2, u3] [zI s0, zR s1, zR s2] sh pp mm Q ↔ zS 148 17 [zR a0, zI a1, zR a2, zU] [zR (pp s1 s0), zR s2] sh pp mm Q := s_go cX_drawingOf_16 cX_drawingOf_17 (if_pos ⟨zEl_ok hk hl, h0, h1⟩) rfl
theorem rX_drawingOf_17 {a0 a2 s0 s1 : Nat} {a1 : Int} {u3 : zV} (hk : zKd sh s1 = 8) : zS 148 17 [zR a0, zI a1, zR a2, u3] [zR s0, zR s1] sh pp mm Q ↔ zS 78 0 [zR s1, zR s0, zU, zU] [] sh pp mm (fun v sh pp mm => zS 148 20 [zR a0, zI a1, zR a2, zU] (zPush v []) sh pp mm Q) := s_call cX_drawingOf_17 cX_drawingOf_20 ((if_pos hk).trans rfl) rfl
theorem rX_drawingOf_20 {a0 a2 : Nat} {a1 : Int} {u3 : zV} : zS 148 20 [zR a0, zI a1, zR a2, u3] [] sh pp mm Q ↔ zS 148 21 [zR a0, zI a1, zR a2, zU] [zR a2] sh pp mm Q := s_go cX_drawingOf_20 cX_drawingOf_21 rfl rfl
theorem rX_drawingOf_21 {a0 a2 s0 : Nat} {a1 : Int} {u3 : zV} (hk : zKd sh s0 = 8) : zS 148 21 [zR a0, zI a1, zR a2, u3] [zR s0] sh pp mm Q ↔ zS 148 24 [zR a0, zI a1, zR a2, zU] [zI (mm s0 4)] sh pp mm Q := s_go cX_drawingOf_21 cX_drawingOf_24 (if_pos hk) rfl
theorem rX_drawingOf_24 {a0 a2 : Nat} {a1 s0 : Int} {u3 : zV} : zS 148 24 [zR a0, zI a1, zR a2, u3] [zI s0] sh pp mm Q ↔ zS 148 25 [zR a0, zI a1, zR a2, zU] [zI (-1), zI s0] sh pp mm Q := s_go cX_drawingOf_24 cX_drawingOf_25 rfl rfl
theorem rX_drawingOf_25 {a0 a2 : Nat} {a1 s0 s1 : Int} {u3 : zV} : zS 148 25 [zR a0, zI a1, zR a2, u3] [zI s0, zI s1] sh pp mm Q ↔ (s1 = s0 → zS 148 30 [zR a0, zI a1, zR a2, zU] [] sh pp mm Q) ∧ (¬ s1 = s0 → zS 148 28 [zU, zU, zU, zU] [] sh pp mm Q) := s_if cX_drawingOf_25 cX_drawingOf_30 cX_drawingOf_28 rfl rfl rfl
theorem rX_drawingOf_28 {u0 u1 u2 u3 : zV} : zS 148 28 [u0, u1, u2, u3] [] sh pp mm Q ↔ zS 148 29 [zU, zU, zU, zU] [zR 0] sh pp mm Q := s_go cX_drawingOf_28 cX_drawingOf_29 rfl rfl
theorem rX_drawingOf_29 {s0 : Nat} {u0 u1 u2 u3 : zV} : zS 148 29 [u0, u1, u2, u3] [zR s0] sh pp mm Q ↔ Q (zR s0) sh pp mm := s_ret cX_drawingOf_29 rfl
theorem rX_drawingOf_30 {a0 a2 : Nat} {a1 : Int} {u3 : zV} : zS 148 30 [zR a0, zI a1, zR a2, u3] [] sh pp mm Q ↔ zS 148 31 [zR a0, zI a1, zR a2, zU] [zR a0] sh pp mm Q := s_go cX_drawingOf_30 cX_drawingOf_31 rfl rfl
theorem rX_drawingOf_31 {a0 a2 s0 : Nat} {a1 : Int} {u3 : zV} (hk : zKd sh s0 = 11) : zS 148 31 [zR a0, zI a1, zR a2, u3] [zR s0] sh pp mm Q ↔ zS 148 34 [zR a0, zI a1, zR a2, zU] [zR (pp s0 4)] sh pp mm Q := s_go cX_drawingOf_31 cX_drawingOf_34 (if_pos hk) rfl
theorem rX_drawingOf_34 {a0 a2 s0 : Nat} {a1 : Int} {u3 : zV} : zS 148 34 [zR a0, zI a1, zR a2, u3] [zR s0] sh pp mm Q ↔ zS 148 35 [zR a0, zU, zR a2, zU] [zI a1, zR s0] sh pp mm Q := s_go cX_drawingOf_34 cX_drawingOf_35 rfl rfl
theorem rX_drawingOf_35 {a0 a2 s1 : Nat} {s0 : Int} {u1 u3 : zV} (hk : 24 ≤ zKd sh s1) (hl : zKd sh s1 ≤ 27) (h0 : 0 ≤ s0) (h1 : s0 < zLn sh s1) : zS 148 35 [zR a0, u1, zR a2, u3] [zI s0, zR s1] sh pp mm Q ↔ zS 148 36 [zR a0, zU, zR a2, zU] [zR (pp s1 s0)] sh pp mm Q := s_go cX_drawingOf_35 cX_drawingOf_36 (if_pos ⟨zEl_ok hk hl, h0, h1⟩) rfl
theorem rX_drawingOf_36 {a0 a2 s0 : Nat} {u1 u3 : zV} : zS 148 36 [zR a0, u1, zR a2, u3] [zR s0] sh pp mm Q ↔ zS 148 37 [zR a0, zU, zR a2, zR s0] [] sh pp mm Q := s_go cX_drawingOf_36 cX_drawingOf_37 rfl rfl
theorem rX_drawingOf_37 {a0 a2 a3 : Nat} {u1 : zV} : zS 148 37 [zR a0, u1, zR a2, zR a3] [] sh pp mm Q ↔ zS 148 38 [zR a0, zU, zR a2, zR a3] [zR a3] sh pp mm Q := s_go cX_drawingOf_37 cX_drawingOf_38 rfl rfl
theorem rX_drawingOf_38 {a0 a2 a3 s0 : Nat} {u1 : zV} : zS 148 38 [zR a0, u1, zR a2, zR a3] [zR s0] sh pp mm Q ↔ zS 148 39 [zR a0, zU, zU, zR a3] [zR a2, zR s0] sh pp mm Q := s_go cX_drawingOf_38 cX_drawingOf_39 rfl rfl
theorem rX_drawingOf_39 {a0 a3 s0 s1 : Nat} {u1 u2 : zV} : zS 148 39 [zR a0, u1, u2, zR a3] [zR s0, zR s1] sh pp mm Q ↔ zS 148 40 [zU, zU, zU, zR a3] [zR a0, zR s0, zR s1] sh pp mm Q := s_go cX_drawingOf_39 cX_drawingOf_40 rfl rfl
theorem rX_drawingOf_40 {a3 s0 s1 s2 : Nat} {u0 u1 u2 : zV} (hk : zKd sh s0 = 11) : zS 148 40 [u0, u1, u2, zR a3] [zR s0, zR s1, zR s2] sh pp mm Q ↔ zS 148 43 [zU, zU, zU, zR a3] [zR (pp s0 0), zR s1, zR s2] sh pp mm Q := s_go cX_drawingOf_40 cX_drawingOf_43 (if_pos hk) rfl
theorem rX_drawingOf_43 {a3 s0 s1 s2 : Nat} {u0 u1 u2 : zV} (hk : zKd sh s0 = 9) : zS 148 43 [u0, u1, u2, zR a3] [zR s0, zR s1, zR s2] sh pp mm Q ↔ zS 148 46 [zU, zU, zU, zR a3] [zR (pp s0 0), zR s1, zR s2] sh pp mm Q := s_go cX_drawingOf_43 cX_drawingOf_46 (if_pos hk) rfl
theorem rX_drawingOf_46 {a3 s0 s1 s2 : Nat} {u0 u1 u2 : zV} (hk : zKd sh s2 = 1) : zS 148 46 [u0, u1, u2, zR a3] [zR s0, zR s1, zR s2] sh pp mm Q ↔ zS 16 0 [zR s2, zR s1, zR s0, zU, zU] [] sh pp mm (fun v sh pp mm => zS 148 49 [zU, zU, zU, zR a3] (zPush v []) sh pp mm Q) := s_call cX_drawingOf_46 cX_drawingOf_49 ((if_pos hk).trans rfl) rfl
theorem rX_drawingOf_49 {a3 : Nat} {u0 u1 u2 : zV} : zS 148 49 [u0, u1, u2, zR a3] [] sh pp mm Q ↔ zS 148 50 [zU, zU, zU, zU] [zR a3] sh pp mm Q := s_go cX_drawingOf_49 cX_drawingOf_50 rfl rfl
theorem rX_drawingOf_50 {s0 : Nat} {u0 u1 u2 u3 : zV} : zS 148 50 [u0, u1, u2, u3] [zR s0] sh pp mm Q ↔ Q (zR s0) sh pp mm := s_ret cX_drawingOf_50 rfl
theorem cAX_weigh : ∀ q ∈ zT149, zCode 149 q.1 = some q.2 := zAll (mid := 149) rfl (by decide +kernel)
theorem cAX_weigh_0 : ∀ q ∈ zT149_0, zCode 149 q.1 = some q.2 := fun q h => cAX_weigh q (List.mem_append_left _ h)
theorem cAX_weigh_1 : ∀ q ∈ zT149_1, zCode 149 q.1 = some q.2 := fun q h => cAX_weigh q (List.mem_append_right _ (List.mem_append_left _ h))
theorem cAX_weigh_2 : ∀ q ∈ zT149_2, zCode 149 q.1 = some q.2 := fun q h => cAX_weigh q (List.mem_append_right _ (List.mem_append_right _ (List.mem_append_left _ h)))
theorem cAX_weigh_3 : ∀ q ∈ zT149_3, zCode 149 q.1 = some q.2 := fun q h => cAX_weigh q (List.mem_append_right _ (List.mem_append_right _ (List.mem_append_right _ h)))
theorem cX_weigh_0 : zCode 149 0 = some (.aload_n 0, 1, 0, 0, 0, 0, 7) := cAX_weigh_0 _ (List.mem_of_getElem? (i := 0) rfl)
theorem cX_weigh_1 : zCode 149 1 = some (.getfield 53, 4, 11, 7, 2, 513, 7) := cAX_weigh_0 _ (List.mem_of_getElem? (i := 1) rfl)
theorem cX_weigh_4 : zCode 149 4 = some (.invokevirtual 271, 7, 38, 0, 2, 3, 7) := cAX_weigh_0 _ (List.mem_of_getElem? (i := 2) rfl)
theorem cX_weigh_7 : zCode 149 7 = some (.iconst 0, 8, 0, 0, 0, 0, 7) := cAX_weigh_0 _ (List.mem_of_getElem? (i := 3) rfl)
theorem cX_weigh_8 : zCode 149 8 = some (.istore_n 3, 9, 0, 0, 0, 0, 7) := cAX_weigh_0 _ (List.mem_of_getElem? (i := 4) rfl)
theorem cX_weigh_9 : zCode 149 9 = some (.iload_n 3, 10, 0, 0, 0, 0, 15) := cAX_weigh_0 _ (List.mem_of_getElem? (i := 5) rfl)
theorem cX_weigh_10 : zCode 149 10 = some (.iconst 4, 11, 0, 0, 0, 0, 15) := cAX_weigh_0 _ (List.mem_of_getElem? (i := 6) rfl)
theorem cX_weigh_11 : zCode 149 11 = some (.if_icmp .ge 46, 14, 57, 0, 0, 0, 15) := cAX_weigh_0 _ (List.mem_of_getElem? (i := 7) rfl)
theorem cX_weigh_14 : zCode 149 14 = some (.aload_n 0, 15, 0, 0, 0, 0, 15) := cAX_weigh_0 _ (List.mem_of_getElem? (i := 8) rfl)
theorem cX_weigh_15 : zCode 149 15 = some (.iload_n 3, 16, 0, 0, 0, 0, 15) := cAX_weigh_0 _ (List.mem_of_getElem? (i := 9) rfl)
theorem cX_weigh_16 : zCode 149 16 = some (.invokevirtual 118, 19, 148, 1, 4, 11, 15) := cAX_weigh_0 _ (List.mem_of_getElem? (i := 10) rfl)
theorem cX_weigh_19 : zCode 149 19 = some (.astore 4, 21, 0, 0, 0, 0, 15) := cAX_weigh_0 _ (List.mem_of_getElem? (i := 11) rfl)
theorem cX_weigh_21 : zCode 149 21 = some (.aload 4, 23, 0, 0, 0, 0, 31) := cAX_weigh_0 _ (List.mem_of_getElem? (i := 12) rfl)
theorem cX_weigh_23 : zCode 149 23 = some (.ifnull 28, 26, 51, 0, 0, 0, 31) := cAX_weigh_0 _ (List.mem_of_getElem? (i := 13) rfl)
theorem cX_weigh_26 : zCode 149 26 = some (.aload 4, 28, 0, 0, 0, 0, 31) := cAX_weigh_0 _ (List.mem_of_getElem? (i := 14) rfl)
theorem cX_weigh_28 : zCode 149 28 = some (.getfield 274, 31, 1, 4, 3, 472, 31) := cAX_weigh_0 _ (List.mem_of_getElem? (i := 15) rfl)
theorem cX_weigh_31 : zCode 149 31 = some (.ifCond .ne 20, 34, 51, 0, 0, 0, 31) := cAX_weigh_1 _ (List.mem_of_getElem? (i := 0) rfl)
theorem cX_weigh_34 : zCode 149 34 = some (.aload_n 0, 35, 0, 0, 0, 0, 31) := cAX_weigh_1 _ (List.mem_of_getElem? (i := 1) rfl)
theorem cX_weigh_35 : zCode 149 35 = some (.getfield 53, 38, 11, 7, 2, 513, 31) := cAX_weigh_1 _ (List.mem_of_getElem? (i := 2) rfl)
theorem cX_weigh_38 : zCode 149 38 = some (.iload_n 3, 39, 0, 0, 0, 0, 31) := cAX_weigh_1 _ (List.mem_of_getElem? (i := 3) rfl)
theorem cX_weigh_39 : zCode 149 39 = some (.aload 4, 41, 0, 0, 0, 0, 31) := cAX_weigh_1 _ (List.mem_of_getElem? (i := 4) rfl)
theorem cX_weigh_41 : zCode 149 41 = some (.aload_n 0, 42, 0, 0, 0, 0, 15) := cAX_weigh_1 _ (List.mem_of_getElem? (i := 5) rfl)
theorem cX_weigh_42 : zCode 149 42 = some (.getfield 10, 45, 11, 0, 2, 506, 15) := cAX_weigh_1 _ (List.mem_of_getElem? (i := 6) rfl)
theorem cX_weigh_45 : zCode 149 45 = some (.getfield 214, 48, 9, 6, 2, 180, 15) := cAX_weigh_1 _ (List.mem_of_getElem? (i := 7) rfl)
theorem cX_weigh_48 : zCode 149 48 = some (.invokevirtual 277, 51, 40, 3, 9, 3, 15) := cAX_weigh_1 _ (List.mem_of_getElem? (i := 8) rfl)
theorem cX_weigh_51 : zCode 149 51 = some (.iinc 3 1, 54, 0, 0, 0, 0, 15) := cAX_weigh_1 _ (List.mem_of_getElem? (i := 9) rfl)
theorem cX_weigh_54 : zCode 149 54 = some (.goto (-45), 57, 9, 0, 0, 0, 15) := cAX_weigh_1 _ (List.mem_of_getElem? (i := 10) rfl)
theorem cX_weigh_57 : zCode 149 57 = some (.aload_n 0, 58, 0, 0, 0, 0, 7) := cAX_weigh_1 _ (List.mem_of_getElem? (i := 11) rfl)
theorem cX_weigh_58 : zCode 149 58 = some (.getfield 53, 61, 11, 7, 2, 513, 7) := cAX_weigh_1 _ (List.mem_of_getElem? (i := 12) rfl)
theorem cX_weigh_61 : zCode 149 61 = some (.invokevirtual 281, 64, 39, 0, 2, 3, 7) := cAX_weigh_1 _ (List.mem_of_getElem? (i := 13) rfl)
theorem cX_weigh_64 : zCode 149 64 = some (.ifCond .eq 11, 67, 75, 0, 0, 0, 7) := cAX_weigh_1 _ (List.mem_of_getElem? (i := 14) rfl)
theorem cX_weigh_67 : zCode 149 67 = some (.aload_n 0, 68, 0, 0, 0, 0, 1) := cAX_weigh_1 _ (List.mem_of_getElem? (i := 15) rfl)
theorem cX_weigh_68 : zCode 149 68 = some (.iconst 1, 69, 0, 0, 0, 0, 0) := cAX_weigh_2 _ (List.mem_of_getElem? (i := 0) rfl)
theorem cX_weigh_69 : zCode 149 69 = some (.bipush (-3), 71, 0, 0, 0, 0, 0) := cAX_weigh_2 _ (List.mem_of_getElem? (i := 1) rfl)
theorem cX_weigh_71 : zCode 149 71 = some (.invokevirtual 72, 74, 138, 2, 3, 11, 0) := cAX_weigh_2 _ (List.mem_of_getElem? (i := 2) rfl)
theorem cX_weigh_74 : zCode 149 74 = some (.ireturn, 75, 0, 0, 0, 0, 0) := cAX_weigh_2 _ (List.mem_of_getElem? (i := 3) rfl)
theorem cX_weigh_75 : zCode 149 75 = some (.aload_n 0, 76, 0, 0, 0, 0, 7) := cAX_weigh_2 _ (List.mem_of_getElem? (i := 4) rfl)
theorem cX_weigh_76 : zCode 149 76 = some (.getfield 53, 79, 11, 7, 2, 513, 7) := cAX_weigh_2 _ (List.mem_of_getElem? (i := 5) rfl)
theorem cX_weigh_79 : zCode 149 79 = some (.iload_n 1, 80, 0, 0, 0, 0, 7) := cAX_weigh_2 _ (List.mem_of_getElem? (i := 6) rfl)
theorem cX_weigh_80 : zCode 149 80 = some (.iload_n 2, 81, 0, 0, 0, 0, 5) := cAX_weigh_2 _ (List.mem_of_getElem? (i := 7) rfl)
theorem cX_weigh_81 : zCode 149 81 = some (.aload_n 0, 82, 0, 0, 0, 0, 1) := cAX_weigh_2 _ (List.mem_of_getElem? (i := 8) rfl)
theorem cX_weigh_82 : zCode 149 82 = some (.getfield 32, 85, 11, 4, 2, 510, 1) := cAX_weigh_2 _ (List.mem_of_getElem? (i := 9) rfl)
theorem cX_weigh_85 : zCode 149 85 = some (.invokevirtual 284, 88, 41, 3, 9, 3, 1) := cAX_weigh_2 _ (List.mem_of_getElem? (i := 10) rfl)
theorem cX_weigh_88 : zCode 149 88 = some (.aload_n 0, 89, 0, 0, 0, 0, 1) := cAX_weigh_2 _ (List.mem_of_getElem? (i := 11) rfl)
theorem cX_weigh_89 : zCode 149 89 = some (.getfield 60, 92, 11, 8, 2, 514, 1) := cAX_weigh_2 _ (List.mem_of_getElem? (i := 12) rfl)
theorem cX_weigh_92 : zCode 149 92 = some (.aload_n 0, 93, 0, 0, 0, 0, 1) := cAX_weigh_2 _ (List.mem_of_getElem? (i := 13) rfl)
theorem cX_weigh_93 : zCode 149 93 = some (.getfield 53, 96, 11, 7, 2, 513, 1) := cAX_weigh_2 _ (List.mem_of_getElem? (i := 14) rfl)
theorem cX_weigh_96 : zCode 149 96 = some (.aload_n 0, 97, 0, 0, 0, 0, 1) := cAX_weigh_2 _ (List.mem_of_getElem? (i := 15) rfl)
theorem cX_weigh_97 : zCode 149 97 = some (.getfield 10, 100, 11, 0, 2, 506, 1) := cAX_weigh_3 _ (List.mem_of_getElem? (i := 0) rfl)
theorem cX_weigh_100 : zCode 149 100 = some (.getfield 76, 103, 9, 0, 2, 165, 1) := cAX_weigh_3 _ (List.mem_of_getElem? (i := 1) rfl)
theorem cX_weigh_103 : zCode 149 103 = some (.bipush 8, 105, 0, 0, 0, 0, 1) := cAX_weigh_3 _ (List.mem_of_getElem? (i := 2) rfl)
theorem cX_weigh_105 : zCode 149 105 = some (.iaload, 106, 0, 0, 0, 0, 1) := cAX_weigh_3 _ (List.mem_of_getElem? (i := 3) rfl)
theorem cX_weigh_106 : zCode 149 106 = some (.invokevirtual 288, 109, 31, 2, 3, 2, 1) := cAX_weigh_3 _ (List.mem_of_getElem? (i := 4) rfl)
theorem cX_weigh_109 : zCode 149 109 = some (.aload_n 0, 110, 0, 0, 0, 0, 1) := cAX_weigh_3 _ (List.mem_of_getElem? (i := 5) rfl)
theorem cX_weigh_110 : zCode 149 110 = some (.getfield 60, 113, 11, 8, 2, 514, 0) := cAX_weigh_3 _ (List.mem_of_getElem? (i := 6) rfl)
theorem cX_weigh_113 : zCode 149 113 = some (.invokevirtual 292, 116, 33, 0, 2, 2, 0) := cAX_weigh_3 _ (List.mem_of_getElem? (i := 7) rfl)
theorem cX_weigh_116 : zCode 149 116 = some (.iconst 1, 117, 0, 0, 0, 0, 0) := cAX_weigh_3 _ (List.mem_of_getElem? (i := 8) rfl)
theorem cX_weigh_117 : zCode 149 117 = some (.ireturn, 118, 0, 0, 0, 0, 0) := cAX_weigh_3 _ (List.mem_of_getElem? (i := 9) rfl)
theorem rX_weigh_0 {a0 : Nat} {a1 a2 : Int} {u3 u4 : zV} : zS 149 0 [zR a0, zI a1, zI a2, u3, u4] [] sh pp mm Q ↔ zS 149 1 [zR a0, zI a1, zI a2, zU, zU] [zR a0] sh pp mm Q := s_go cX_weigh_0 cX_weigh_1 rfl rfl
theorem rX_weigh_1 {a0 s0 : Nat} {a1 a2 : Int} {u3 u4 : zV} (hk : zKd sh s0 = 11) : zS 149 1 [zR a0, zI a1, zI a2, u3, u4] [zR s0] sh pp mm Q ↔ zS 149 4 [zR a0, zI a1, zI a2, zU, zU] [zR (pp s0 7)] sh pp mm Q := s_go cX_weigh_1 cX_weigh_4 (if_pos hk) rfl
theorem rX_weigh_4 {a0 s0 : Nat} {a1 a2 : Int} {u3 u4 : zV} (hk : zKd sh s0 = 3) : zS 149 4 [zR a0, zI a1, zI a2, u3, u4] [zR s0] sh pp mm Q ↔ zS 38 0 [zR s0, zU] [] sh pp mm (fun v sh pp mm => zS 149 7 [zR a0, zI a1, zI a2, zU, zU] (zPush v []) sh pp mm Q) := s_call cX_weigh_4 cX_weigh_7 ((if_pos hk).trans rfl) rfl
theorem rX_weigh_7 {a0 : Nat} {a1 a2 : Int} {u3 u4 : zV} : zS 149 7 [zR a0, zI a1, zI a2, u3, u4] [] sh pp mm Q ↔ zS 149 8 [zR a0, zI a1, zI a2, zU, zU] [zI 0] sh pp mm Q := s_go cX_weigh_7 cX_weigh_8 rfl rfl
theorem rX_weigh_8 {a0 : Nat} {a1 a2 s0 : Int} {u3 u4 : zV} : zS 149 8 [zR a0, zI a1, zI a2, u3, u4] [zI s0] sh pp mm Q ↔ zS 149 9 [zR a0, zI a1, zI a2, zI s0, zU] [] sh pp mm Q := s_go cX_weigh_8 cX_weigh_9 rfl rfl
theorem rX_weigh_9 {a0 : Nat} {a1 a2 a3 : Int} {u4 : zV} : zS 149 9 [zR a0, zI a1, zI a2, zI a3, u4] [] sh pp mm Q ↔ zS 149 10 [zR a0, zI a1, zI a2, zI a3, zU] [zI a3] sh pp mm Q := s_go cX_weigh_9 cX_weigh_10 rfl rfl
theorem rX_weigh_10 {a0 : Nat} {a1 a2 a3 s0 : Int} {u4 : zV} : zS 149 10 [zR a0, zI a1, zI a2, zI a3, u4] [zI s0] sh pp mm Q ↔ zS 149 11 [zR a0, zI a1, zI a2, zI a3, zU] [zI 4, zI s0] sh pp mm Q := s_go cX_weigh_10 cX_weigh_11 rfl rfl
theorem rX_weigh_11 {a0 : Nat} {a1 a2 a3 s0 s1 : Int} {u4 : zV} : zS 149 11 [zR a0, zI a1, zI a2, zI a3, u4] [zI s0, zI s1] sh pp mm Q ↔ (s1 < s0 → zS 149 14 [zR a0, zI a1, zI a2, zI a3, zU] [] sh pp mm Q) ∧ (¬ s1 < s0 → zS 149 57 [zR a0, zI a1, zI a2, zU, zU] [] sh pp mm Q) := s_ifn cX_weigh_11 cX_weigh_14 cX_weigh_57 rfl rfl rfl
theorem rX_weigh_14 {a0 : Nat} {a1 a2 a3 : Int} {u4 : zV} : zS 149 14 [zR a0, zI a1, zI a2, zI a3, u4] [] sh pp mm Q ↔ zS 149 15 [zR a0, zI a1, zI a2, zI a3, zU] [zR a0] sh pp mm Q := s_go cX_weigh_14 cX_weigh_15 rfl rfl
theorem rX_weigh_15 {a0 s0 : Nat} {a1 a2 a3 : Int} {u4 : zV} : zS 149 15 [zR a0, zI a1, zI a2, zI a3, u4] [zR s0] sh pp mm Q ↔ zS 149 16 [zR a0, zI a1, zI a2, zI a3, zU] [zI a3, zR s0] sh pp mm Q := s_go cX_weigh_15 cX_weigh_16 rfl rfl
theorem rX_weigh_16 {a0 s1 : Nat} {a1 a2 a3 s0 : Int} {u4 : zV} (hk : zKd sh s1 = 11) : zS 149 16 [zR a0, zI a1, zI a2, zI a3, u4] [zI s0, zR s1] sh pp mm Q ↔ zS 148 0 [zR s1, zI s0, zU, zU] [] sh pp mm (fun v sh pp mm => zS 149 19 [zR a0, zI a1, zI a2, zI a3, zU] (zPush v []) sh pp mm Q) := s_call cX_weigh_16 cX_weigh_19 ((if_pos hk).trans rfl) rfl
theorem rX_weigh_19 {a0 s0 : Nat} {a1 a2 a3 : Int} {u4 : zV} : zS 149 19 [zR a0, zI a1, zI a2, zI a3, u4] [zR s0] sh pp mm Q ↔ zS 149 21 [zR a0, zI a1, zI a2, zI a3, zR s0] [] sh pp mm Q := s_go cX_weigh_19 cX_weigh_21 rfl rfl
theorem rX_weigh_21 {a0 a4 : Nat} {a1 a2 a3 : Int} : zS 149 21 [zR a0, zI a1, zI a2, zI a3, zR a4] [] sh pp mm Q ↔ zS 149 23 [zR a0, zI a1, zI a2, zI a3, zR a4] [zR a4] sh pp mm Q := s_go cX_weigh_21 cX_weigh_23 rfl rfl
theorem rX_weigh_23 {a0 a4 s0 : Nat} {a1 a2 a3 : Int} : zS 149 23 [zR a0, zI a1, zI a2, zI a3, zR a4] [zR s0] sh pp mm Q ↔ (s0 = 0 → zS 149 51 [zR a0, zI a1, zI a2, zI a3, zU] [] sh pp mm Q) ∧ (¬ s0 = 0 → zS 149 26 [zR a0, zI a1, zI a2, zI a3, zR a4] [] sh pp mm Q) := s_br cX_weigh_23 cX_weigh_51 cX_weigh_26 rfl rfl rfl
theorem rX_weigh_26 {a0 a4 : Nat} {a1 a2 a3 : Int} : zS 149 26 [zR a0, zI a1, zI a2, zI a3, zR a4] [] sh pp mm Q ↔ zS 149 28 [zR a0, zI a1, zI a2, zI a3, zR a4] [zR a4] sh pp mm Q := s_go cX_weigh_26 cX_weigh_28 rfl rfl
theorem rX_weigh_28 {a0 a4 s0 : Nat} {a1 a2 a3 : Int} (hk : zKd sh s0 = 1) : zS 149 28 [zR a0, zI a1, zI a2, zI a3, zR a4] [zR s0] sh pp mm Q ↔ zS 149 31 [zR a0, zI a1, zI a2, zI a3, zR a4] [zI (mm s0 4)] sh pp mm Q := s_go cX_weigh_28 cX_weigh_31 (if_pos hk) rfl
theorem rX_weigh_31 {a0 a4 : Nat} {a1 a2 a3 s0 : Int} : zS 149 31 [zR a0, zI a1, zI a2, zI a3, zR a4] [zI s0] sh pp mm Q ↔ (s0 = 0 → zS 149 34 [zR a0, zI a1, zI a2, zI a3, zR a4] [] sh pp mm Q) ∧ (¬ s0 = 0 → zS 149 51 [zR a0, zI a1, zI a2, zI a3, zU] [] sh pp mm Q) := s_ifn cX_weigh_31 cX_weigh_34 cX_weigh_51 rfl rfl rfl
theorem rX_weigh_34 {a0 a4 : Nat} {a1 a2 a3 : Int} : zS 149 34 [zR a0, zI a1, zI a2, zI a3, zR a4] [] sh pp mm Q ↔ zS 149 35 [zR a0, zI a1, zI a2, zI a3, zR a4] [zR a0] sh pp mm Q := s_go cX_weigh_34 cX_weigh_35 rfl rfl
theorem rX_weigh_35 {a0 a4 s0 : Nat} {a1 a2 a3 : Int} (hk : zKd sh s0 = 11) : zS 149 35 [zR a0, zI a1, zI a2, zI a3, zR a4] [zR s0] sh pp mm Q ↔ zS 149 38 [zR a0, zI a1, zI a2, zI a3, zR a4] [zR (pp s0 7)] sh pp mm Q := s_go cX_weigh_35 cX_weigh_38 (if_pos hk) rfl
theorem rX_weigh_38 {a0 a4 s0 : Nat} {a1 a2 a3 : Int} : zS 149 38 [zR a0, zI a1, zI a2, zI a3, zR a4] [zR s0] sh pp mm Q ↔ zS 149 39 [zR a0, zI a1, zI a2, zI a3, zR a4] [zI a3, zR s0] sh pp mm Q := s_go cX_weigh_38 cX_weigh_39 rfl rfl
theorem rX_weigh_39 {a0 a4 s1 : Nat} {a1 a2 a3 s0 : Int} : zS 149 39 [zR a0, zI a1, zI a2, zI a3, zR a4] [zI s0, zR s1] sh pp mm Q ↔ zS 149 41 [zR a0, zI a1, zI a2, zI a3, zU] [zR a4, zI s0, zR s1] sh pp mm Q := s_go cX_weigh_39 cX_weigh_41 rfl rfl
theorem rX_weigh_41 {a0 s0 s2 : Nat} {a1 a2 a3 s1 : Int} {u4 : zV} : zS 149 41 [zR a0, zI a1, zI a2, zI a3, u4] [zR s0, zI s1, zR s2] sh pp mm Q ↔ zS 149 42 [zR a0, zI a1, zI a2, zI a3, zU] [zR a0, zR s0, zI s1, zR s2] sh pp mm Q := s_go cX_weigh_41 cX_weigh_42 rfl rfl
theorem rX_weigh_42 {a0 s0 s1 s3 : Nat} {a1 a2 a3 s2 : Int} {u4 : zV} (hk : zKd sh s0 = 11) : zS 149 42 [zR a0, zI a1, zI a2, zI a3, u4] [zR s0, zR s1, zI s2, zR s3] sh pp mm Q ↔ zS 149 45 [zR a0, zI a1, zI a2, zI a3, zU] [zR (pp s0 0), zR s1, zI s2, zR s3] sh pp mm Q := s_go cX_weigh_42 cX_weigh_45 (if_pos hk) rfl
theorem rX_weigh_45 {a0 s0 s1 s3 : Nat} {a1 a2 a3 s2 : Int} {u4 : zV} (hk : zKd sh s0 = 9) : zS 149 45 [zR a0, zI a1, zI a2, zI a3, u4] [zR s0, zR s1, zI s2, zR s3] sh pp mm Q ↔ zS 149 48 [zR a0, zI a1, zI a2, zI a3, zU] [zR (pp s0 6), zR s1, zI s2, zR s3] sh pp mm Q := s_go cX_weigh_45 cX_weigh_48 (if_pos hk) rfl
theorem rX_weigh_48 {a0 s0 s1 s3 : Nat} {a1 a2 a3 s2 : Int} {u4 : zV} (hk : zKd sh s3 = 3) : zS 149 48 [zR a0, zI a1, zI a2, zI a3, u4] [zR s0, zR s1, zI s2, zR s3] sh pp mm Q ↔ zS 40 0 [zR s3, zI s2, zR s1, zR s0, zU, zU, zU, zU, zU] [] sh pp mm (fun v sh pp mm => zS 149 51 [zR a0, zI a1, zI a2, zI a3, zU] (zPush v []) sh pp mm Q) := s_call cX_weigh_48 cX_weigh_51 ((if_pos hk).trans rfl) rfl
theorem rX_weigh_51 {a0 : Nat} {a1 a2 a3 : Int} {u4 : zV} : zS 149 51 [zR a0, zI a1, zI a2, zI a3, u4] [] sh pp mm Q ↔ zS 149 54 [zR a0, zI a1, zI a2, zI (zw32 (a3 + 1)), zU] [] sh pp mm Q := s_go cX_weigh_51 cX_weigh_54 rfl rfl
theorem rX_weigh_54 {a0 : Nat} {a1 a2 a3 : Int} {u4 : zV} : zS 149 54 [zR a0, zI a1, zI a2, zI a3, u4] [] sh pp mm Q ↔ zS 149 9 [zR a0, zI a1, zI a2, zI a3, zU] [] sh pp mm Q := s_go cX_weigh_54 cX_weigh_9 rfl rfl
theorem rX_weigh_57 {a0 : Nat} {a1 a2 : Int} {u3 u4 : zV} : zS 149 57 [zR a0, zI a1, zI a2, u3, u4] [] sh pp mm Q ↔ zS 149 58 [zR a0, zI a1, zI a2, zU, zU] [zR a0] sh pp mm Q := s_go cX_weigh_57 cX_weigh_58 rfl rfl
theorem rX_weigh_58 {a0 s0 : Nat} {a1 a2 : Int} {u3 u4 : zV} (hk : zKd sh s0 = 11) : zS 149 58 [zR a0, zI a1, zI a2, u3, u4] [zR s0] sh pp mm Q ↔ zS 149 61 [zR a0, zI a1, zI a2, zU, zU] [zR (pp s0 7)] sh pp mm Q := s_go cX_weigh_58 cX_weigh_61 (if_pos hk) rfl
theorem rX_weigh_61 {a0 s0 : Nat} {a1 a2 : Int} {u3 u4 : zV} (hk : zKd sh s0 = 3) : zS 149 61 [zR a0, zI a1, zI a2, u3, u4] [zR s0] sh pp mm Q ↔ zS 39 0 [zR s0, zU] [] sh pp mm (fun v sh pp mm => zS 149 64 [zR a0, zI a1, zI a2, zU, zU] (zPush v []) sh pp mm Q) := s_call cX_weigh_61 cX_weigh_64 ((if_pos hk).trans rfl) rfl
theorem rX_weigh_64 {a0 : Nat} {a1 a2 s0 : Int} {u3 u4 : zV} : zS 149 64 [zR a0, zI a1, zI a2, u3, u4] [zI s0] sh pp mm Q ↔ (s0 = 0 → zS 149 75 [zR a0, zI a1, zI a2, zU, zU] [] sh pp mm Q) ∧ (¬ s0 = 0 → zS 149 67 [zR a0, zU, zU, zU, zU] [] sh pp mm Q) := s_if cX_weigh_64 cX_weigh_75 cX_weigh_67 rfl rfl rfl
theorem rX_weigh_67 {a0 : Nat} {u1 u2 u3 u4 : zV} : zS 149 67 [zR a0, u1, u2, u3, u4] [] sh pp mm Q ↔ zS 149 68 [zU, zU, zU, zU, zU] [zR a0] sh pp mm Q := s_go cX_weigh_67 cX_weigh_68 rfl rfl
theorem rX_weigh_68 {s0 : Nat} {u0 u1 u2 u3 u4 : zV} : zS 149 68 [u0, u1, u2, u3, u4] [zR s0] sh pp mm Q ↔ zS 149 69 [zU, zU, zU, zU, zU] [zI 1, zR s0] sh pp mm Q := s_go cX_weigh_68 cX_weigh_69 rfl rfl
theorem rX_weigh_69 {s1 : Nat} {s0 : Int} {u0 u1 u2 u3 u4 : zV} : zS 149 69 [u0, u1, u2, u3, u4] [zI s0, zR s1] sh pp mm Q ↔ zS 149 71 [zU, zU, zU, zU, zU] [zI (-3), zI s0, zR s1] sh pp mm Q := s_go cX_weigh_69 cX_weigh_71 rfl rfl
theorem rX_weigh_71 {s2 : Nat} {s0 s1 : Int} {u0 u1 u2 u3 u4 : zV} (hk : zKd sh s2 = 11) : zS 149 71 [u0, u1, u2, u3, u4] [zI s0, zI s1, zR s2] sh pp mm Q ↔ zS 138 0 [zR s2, zI s1, zI s0] [] sh pp mm (fun v sh pp mm => zS 149 74 [zU, zU, zU, zU, zU] (zPush v []) sh pp mm Q) := s_call cX_weigh_71 cX_weigh_74 ((if_pos hk).trans rfl) rfl
theorem rX_weigh_74 {s0 : Int} {u0 u1 u2 u3 u4 : zV} : zS 149 74 [u0, u1, u2, u3, u4] [zI s0] sh pp mm Q ↔ Q (zI s0) sh pp mm := s_ret cX_weigh_74 rfl
theorem rX_weigh_75 {a0 : Nat} {a1 a2 : Int} {u3 u4 : zV} : zS 149 75 [zR a0, zI a1, zI a2, u3, u4] [] sh pp mm Q ↔ zS 149 76 [zR a0, zI a1, zI a2, zU, zU] [zR a0] sh pp mm Q := s_go cX_weigh_75 cX_weigh_76 rfl rfl
theorem rX_weigh_76 {a0 s0 : Nat} {a1 a2 : Int} {u3 u4 : zV} (hk : zKd sh s0 = 11) : zS 149 76 [zR a0, zI a1, zI a2, u3, u4] [zR s0] sh pp mm Q ↔ zS 149 79 [zR a0, zI a1, zI a2, zU, zU] [zR (pp s0 7)] sh pp mm Q := s_go cX_weigh_76 cX_weigh_79 (if_pos hk) rfl
theorem rX_weigh_79 {a0 s0 : Nat} {a1 a2 : Int} {u3 u4 : zV} : zS 149 79 [zR a0, zI a1, zI a2, u3, u4] [zR s0] sh pp mm Q ↔ zS 149 80 [zR a0, zU, zI a2, zU, zU] [zI a1, zR s0] sh pp mm Q := s_go cX_weigh_79 cX_weigh_80 rfl rfl
theorem rX_weigh_80 {a0 s1 : Nat} {a2 s0 : Int} {u1 u3 u4 : zV} : zS 149 80 [zR a0, u1, zI a2, u3, u4] [zI s0, zR s1] sh pp mm Q ↔ zS 149 81 [zR a0, zU, zU, zU, zU] [zI a2, zI s0, zR s1] sh pp mm Q := s_go cX_weigh_80 cX_weigh_81 rfl rfl
theorem rX_weigh_81 {a0 s2 : Nat} {s0 s1 : Int} {u1 u2 u3 u4 : zV} : zS 149 81 [zR a0, u1, u2, u3, u4] [zI s0, zI s1, zR s2] sh pp mm Q ↔ zS 149 82 [zR a0, zU, zU, zU, zU] [zR a0, zI s0, zI s1, zR s2] sh pp mm Q := s_go cX_weigh_81 cX_weigh_82 rfl rfl
theorem rX_weigh_82 {a0 s0 s3 : Nat} {s1 s2 : Int} {u1 u2 u3 u4 : zV} (hk : zKd sh s0 = 11) : zS 149 82 [zR a0, u1, u2, u3, u4] [zR s0, zI s1, zI s2, zR s3] sh pp mm Q ↔ zS 149 85 [zR a0, zU, zU, zU, zU] [zR (pp s0 4), zI s1, zI s2, zR s3] sh pp mm Q := s_go cX_weigh_82 cX_weigh_85 (if_pos hk) rfl
theorem rX_weigh_85 {a0 s0 s3 : Nat} {s1 s2 : Int} {u1 u2 u3 u4 : zV} (hk : zKd sh s3 = 3) : zS 149 85 [zR a0, u1, u2, u3, u4] [zR s0, zI s1, zI s2, zR s3] sh pp mm Q ↔ zS 41 0 [zR s3, zI s2, zI s1, zR s0, zU, zU, zU, zU, zU] [] sh pp mm (fun v sh pp mm => zS 149 88 [zR a0, zU, zU, zU, zU] (zPush v []) sh pp mm Q) := s_call cX_weigh_85 cX_weigh_88 ((if_pos hk).trans rfl) rfl
theorem rX_weigh_88 {a0 : Nat} {u1 u2 u3 u4 : zV} : zS 149 88 [zR a0, u1, u2, u3, u4] [] sh pp mm Q ↔ zS 149 89 [zR a0, zU, zU, zU, zU] [zR a0] sh pp mm Q := s_go cX_weigh_88 cX_weigh_89 rfl rfl
theorem rX_weigh_89 {a0 s0 : Nat} {u1 u2 u3 u4 : zV} (hk : zKd sh s0 = 11) : zS 149 89 [zR a0, u1, u2, u3, u4] [zR s0] sh pp mm Q ↔ zS 149 92 [zR a0, zU, zU, zU, zU] [zR (pp s0 8)] sh pp mm Q := s_go cX_weigh_89 cX_weigh_92 (if_pos hk) rfl
theorem rX_weigh_92 {a0 s0 : Nat} {u1 u2 u3 u4 : zV} : zS 149 92 [zR a0, u1, u2, u3, u4] [zR s0] sh pp mm Q ↔ zS 149 93 [zR a0, zU, zU, zU, zU] [zR a0, zR s0] sh pp mm Q := s_go cX_weigh_92 cX_weigh_93 rfl rfl
theorem rX_weigh_93 {a0 s0 s1 : Nat} {u1 u2 u3 u4 : zV} (hk : zKd sh s0 = 11) : zS 149 93 [zR a0, u1, u2, u3, u4] [zR s0, zR s1] sh pp mm Q ↔ zS 149 96 [zR a0, zU, zU, zU, zU] [zR (pp s0 7), zR s1] sh pp mm Q := s_go cX_weigh_93 cX_weigh_96 (if_pos hk) rfl
theorem rX_weigh_96 {a0 s0 s1 : Nat} {u1 u2 u3 u4 : zV} : zS 149 96 [zR a0, u1, u2, u3, u4] [zR s0, zR s1] sh pp mm Q ↔ zS 149 97 [zR a0, zU, zU, zU, zU] [zR a0, zR s0, zR s1] sh pp mm Q := s_go cX_weigh_96 cX_weigh_97 rfl rfl
theorem rX_weigh_97 {a0 s0 s1 s2 : Nat} {u1 u2 u3 u4 : zV} (hk : zKd sh s0 = 11) : zS 149 97 [zR a0, u1, u2, u3, u4] [zR s0, zR s1, zR s2] sh pp mm Q ↔ zS 149 100 [zR a0, zU, zU, zU, zU] [zR (pp s0 0), zR s1, zR s2] sh pp mm Q := s_go cX_weigh_97 cX_weigh_100 (if_pos hk) rfl
theorem rX_weigh_100 {a0 s0 s1 s2 : Nat} {u1 u2 u3 u4 : zV} (hk : zKd sh s0 = 9) : zS 149 100 [zR a0, u1, u2, u3, u4] [zR s0, zR s1, zR s2] sh pp mm Q ↔ zS 149 103 [zR a0, zU, zU, zU, zU] [zR (pp s0 0), zR s1, zR s2] sh pp mm Q := s_go cX_weigh_100 cX_weigh_103 (if_pos hk) rfl
theorem rX_weigh_103 {a0 s0 s1 s2 : Nat} {u1 u2 u3 u4 : zV} : zS 149 103 [zR a0, u1, u2, u3, u4] [zR s0, zR s1, zR s2] sh pp mm Q ↔ zS 149 105 [zR a0, zU, zU, zU, zU] [zI 8, zR s0, zR s1, zR s2] sh pp mm Q := s_go cX_weigh_103 cX_weigh_105 rfl rfl
theorem rX_weigh_105 {a0 s1 s2 s3 : Nat} {s0 : Int} {u1 u2 u3 u4 : zV} (hk : zKd sh s1 = 20 ∨ zKd sh s1 = 30) (h0 : 0 ≤ s0) (h1 : s0 < zLn sh s1) : zS 149 105 [zR a0, u1, u2, u3, u4] [zI s0, zR s1, zR s2, zR s3] sh pp mm Q ↔ zS 149 106 [zR a0, zU, zU, zU, zU] [zI (mm s1 s0), zR s2, zR s3] sh pp mm Q := s_go cX_weigh_105 cX_weigh_106 (if_pos ⟨hk, h0, h1⟩) rfl
theorem rX_weigh_106 {a0 s1 s2 : Nat} {s0 : Int} {u1 u2 u3 u4 : zV} (hk : zKd sh s2 = 2) : zS 149 106 [zR a0, u1, u2, u3, u4] [zI s0, zR s1, zR s2] sh pp mm Q ↔ zS 31 0 [zR s2, zR s1, zI s0] [] sh pp mm (fun v sh pp mm => zS 149 109 [zR a0, zU, zU, zU, zU] (zPush v []) sh pp mm Q) := s_call cX_weigh_106 cX_weigh_109 ((if_pos hk).trans rfl) rfl
theorem rX_weigh_109 {a0 : Nat} {u1 u2 u3 u4 : zV} : zS 149 109 [zR a0, u1, u2, u3, u4] [] sh pp mm Q ↔ zS 149 110 [zU, zU, zU, zU, zU] [zR a0] sh pp mm Q := s_go cX_weigh_109 cX_weigh_110 rfl rfl
theorem rX_weigh_110 {s0 : Nat} {u0 u1 u2 u3 u4 : zV} (hk : zKd sh s0 = 11) : zS 149 110 [u0, u1, u2, u3, u4] [zR s0] sh pp mm Q ↔ zS 149 113 [zU, zU, zU, zU, zU] [zR (pp s0 8)] sh pp mm Q := s_go cX_weigh_110 cX_weigh_113 (if_pos hk) rfl
theorem rX_weigh_113 {s0 : Nat} {u0 u1 u2 u3 u4 : zV} (hk : zKd sh s0 = 2) : zS 149 113 [u0, u1, u2, u3, u4] [zR s0] sh pp mm Q ↔ zS 33 0 [zR s0, zU] [] sh pp mm (fun v sh pp mm => zS 149 116 [zU, zU, zU, zU, zU] (zPush v []) sh pp mm Q) := s_call cX_weigh_113 cX_weigh_116 ((if_pos hk).trans rfl) rfl
theorem rX_weigh_116 {u0 u1 u2 u3 u4 : zV} : zS 149 116 [u0, u1, u2, u3, u4] [] sh pp mm Q ↔ zS 149 117 [zU, zU, zU, zU, zU] [zI 1] sh pp mm Q := s_go cX_weigh_116 cX_weigh_117 rfl rfl
theorem rX_weigh_117 {s0 : Int} {u0 u1 u2 u3 u4 : zV} : zS 149 117 [u0, u1, u2, u3, u4] [zI s0] sh pp mm Q ↔ Q (zI s0) sh pp mm := s_ret cX_weigh_117 rfl
end
