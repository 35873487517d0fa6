/-! rules of the small machine at each place of the code, by program: J_compare, J_bitCount, J_floorMod, J_abs, J_max, J_min, Js_length, Js_charAt, Js_coder, Js_isLatin1, Js_checkIndex, Jl_charAt, J_fill, Jp_checkIndex -/
section
variable {sh : zSh} {pp : zPp} {mm : zMm} {Q : zV → zSh → zPp → zMm → Prop}
theorem cAJ_compare : ∀ q ∈ zT255, zCode 255 q.1 = some q.2 := zAll (mid := 255) rfl (by decide +kernel)
theorem cAJ_compare_0 : ∀ q ∈ zT255_0, zCode 255 q.1 = some q.2 := fun q h => cAJ_compare q (h)
theorem cJ_compare_0 : zCode 255 0 = some (.iload_n 0, 1, 0, 0, 0, 0, 3) := cAJ_compare_0 _ (List.mem_of_getElem? (i := 0) rfl)
theorem cJ_compare_1 : zCode 255 1 = some (.iload_n 1, 2, 0, 0, 0, 0, 3) := cAJ_compare_0 _ (List.mem_of_getElem? (i := 1) rfl)
theorem cJ_compare_2 : zCode 255 2 = some (.if_icmp .ge 7, 5, 9, 0, 0, 0, 3) := cAJ_compare_0 _ (List.mem_of_getElem? (i := 2) rfl)
theorem cJ_compare_5 : zCode 255 5 = some (.iconst (-1), 6, 0, 0, 0, 0, 0) := cAJ_compare_0 _ (List.mem_of_getElem? (i := 3) rfl)
theorem cJ_compare_6 : zCode 255 6 = some (.goto 13, 9, 19, 0, 0, 0, 0) := cAJ_compare_0 _ (List.mem_of_getElem? (i := 4) rfl)
theorem cJ_compare_9 : zCode 255 9 = some (.iload_n 0, 10, 0, 0, 0, 0, 3) := cAJ_compare_0 _ (List.mem_of_getElem? (i := 5) rfl)
theorem cJ_compare_10 : zCode 255 10 = some (.iload_n 1, 11, 0, 0, 0, 0, 2) := cAJ_compare_0 _ (List.mem_of_getElem? (i := 6) rfl)
theorem cJ_compare_11 : zCode 255 11 = some (.if_icmp .ne 7, 14, 18, 0, 0, 0, 0) := cAJ_compare_0 _ (List.mem_of_getElem? (i := 7) rfl)
theorem cJ_compare_14 : zCode 255 14 = some (.iconst 0, 15, 0, 0, 0, 0, 0) := cAJ_compare_0 _ (List.mem_of_getElem? (i := 8) rfl)
theorem cJ_compare_15 : zCode 255 15 = some (.goto 4, 18, 19, 0, 0, 0, 0) := cAJ_compare_0 _ (List.mem_of_getElem? (i := 9) rfl)
theorem cJ_compare_18 : zCode 255 18 = some (.iconst 1, 19, 0, 0, 0, 0, 0) := cAJ_compare_0 _ (List.mem_of_getElem? (i := 10) rfl)
theorem cJ_compare_19 : zCode 255 19 = some (.ireturn, 20, 0, 0, 0, 0, 0) := cAJ_compare_0 _ (List.mem_of_getElem? (i := 11) rfl)
theorem rJ_compare_0 {a0 a1 : Int} : zS 255 0 [zI a0, zI a1] [] sh pp mm Q ↔ zS 255 1 [zI a0, zI a1] [zI a0] sh pp mm Q := s_go cJ_compare_0 cJ_compare_1 rfl rfl
theorem rJ_compare_1 {a0 a1 s0 : Int} : zS 255 1 [zI a0, zI a1] [zI s0] sh pp mm Q ↔ zS 255 2 [zI a0, zI a1] [zI a1, zI s0] sh pp mm Q := s_go cJ_compare_1 cJ_compare_2 rfl rfl
theorem rJ_compare_2 {a0 a1 s0 s1 : Int} : zS 255 2 [zI a0, zI a1] [zI s0, zI s1] sh pp mm Q ↔ (s1 < s0 → zS 255 5 [zU, zU] [] sh pp mm Q) ∧ (¬ s1 < s0 → zS 255 9 [zI a0, zI a1] [] sh pp mm Q) := s_ifn cJ_compare_2 cJ_compare_5 cJ_compare_9 rfl rfl rfl
theorem rJ_compare_5 {u0 u1 : zV} : zS 255 5 [u0, u1] [] sh pp mm Q ↔ zS 255 6 [zU, zU] [zI (-1)] sh pp mm Q := s_go cJ_compare_5 cJ_compare_6 rfl rfl
theorem rJ_compare_6 {s0 : Int} {u0 u1 : zV} : zS 255 6 [u0, u1] [zI s0] sh pp mm Q ↔ zS 255 19 [zU, zU] [zI s0] sh pp mm Q := s_go cJ_compare_6 cJ_compare_19 rfl rfl
theorem rJ_compare_9 {a0 a1 : Int} : zS 255 9 [zI a0, zI a1] [] sh pp mm Q ↔ zS 255 10 [zU, zI a1] [zI a0] sh pp mm Q := s_go cJ_compare_9 cJ_compare_10 rfl rfl
theorem rJ_compare_10 {a1 s0 : Int} {u0 : zV} : zS 255 10 [u0, zI a1] [zI s0] sh pp mm Q ↔ zS 255 11 [zU, zU] [zI a1, zI s0] sh pp mm Q := s_go cJ_compare_10 cJ_compare_11 rfl rfl
theorem rJ_compare_11 {s0 s1 : Int} {u0 u1 : zV} : zS 255 11 [u0, u1] [zI s0, zI s1] sh pp mm Q ↔ (s1 = s0 → zS 255 14 [zU, zU] [] sh pp mm Q) ∧ (¬ s1 = s0 → zS 255 18 [zU, zU] [] sh pp mm Q) := s_ifn cJ_compare_11 cJ_compare_14 cJ_compare_18 rfl rfl rfl
theorem rJ_compare_14 {u0 u1 : zV} : zS 255 14 [u0, u1] [] sh pp mm Q ↔ zS 255 15 [zU, zU] [zI 0] sh pp mm Q := s_go cJ_compare_14 cJ_compare_15 rfl rfl
theorem rJ_compare_15 {s0 : Int} {u0 u1 : zV} : zS 255 15 [u0, u1] [zI s0] sh pp mm Q ↔ zS 255 19 [zU, zU] [zI s0] sh pp mm Q := s_go cJ_compare_15 cJ_compare_19 rfl rfl
theorem rJ_compare_18 {u0 u1 : zV} : zS 255 18 [u0, u1] [] sh pp mm Q ↔ zS 255 19 [zU, zU] [zI 1] sh pp mm Q := s_go cJ_compare_18 cJ_compare_19 rfl rfl
theorem rJ_compare_19 {s0 : Int} {u0 u1 : zV} : zS 255 19 [u0, u1] [zI s0] sh pp mm Q ↔ Q (zI s0) sh pp mm := s_ret cJ_compare_19 rfl
theorem cAJ_bitCount : ∀ q ∈ zT256, zCode 256 q.1 = some q.2 := zAll (mid := 256) rfl (by decide +kernel)
theorem cAJ_bitCount_0 : ∀ q ∈ zT256_0, zCode 256 q.1 = some q.2 := fun q h => cAJ_bitCount q (List.mem_append_left _ h)
theorem cAJ_bitCount_1 : ∀ q ∈ zT256_1, zCode 256 q.1 = some q.2 := fun q h => cAJ_bitCount q (List.mem_append_right _ (List.mem_append_left _ h))
theorem cAJ_bitCount_2 : ∀ q ∈ zT256_2, zCode 256 q.1 = some q.2 := fun q h => cAJ_bitCount q (List.mem_append_right _ (List.mem_append_right _ h))
theorem cJ_bitCount_0 : zCode 256 0 = some (.iload_n 0, 1, 0, 0, 0, 0, 1) := cAJ_bitCount_0 _ (List.mem_of_getElem? (i := 0) rfl)
theorem cJ_bitCount_1 : zCode 256 1 = some (.iload_n 0, 2, 0, 0, 0, 0, 1) := cAJ_bitCount_0 _ (List.mem_of_getElem? (i := 1) rfl)
theorem cJ_bitCount_2 : zCode 256 2 = some (.iconst 1, 3, 0, 0, 0, 0, 0) := cAJ_bitCount_0 _ (List.mem_of_getElem? (i := 2) rfl)
theorem cJ_bitCount_3 : zCode 256 3 = some (.iushr, 4, 0, 0, 0, 0, 0) := cAJ_bitCount_0 _ (List.mem_of_getElem? (i := 3) rfl)
theorem cJ_bitCount_4 : zCode 256 4 = some (.ldc_w 265, 7, 0, 0, 866, 1431655765, 0) := cAJ_bitCount_0 _ (List.mem_of_getElem? (i := 4) rfl)
theorem cJ_bitCount_7 : zCode 256 7 = some (.iand, 8, 0, 0, 0, 0, 0) := cAJ_bitCount_0 _ (List.mem_of_getElem? (i := 5) rfl)
theorem cJ_bitCount_8 : zCode 256 8 = some (.isub, 9, 0, 0, 0, 0, 0) := cAJ_bitCount_0 _ (List.mem_of_getElem? (i := 6) rfl)
theorem cJ_bitCount_9 : zCode 256 9 = some (.istore_n 0, 10, 0, 0, 0, 0, 0) := cAJ_bitCount_0 _ (List.mem_of_getElem? (i := 7) rfl)
theorem cJ_bitCount_10 : zCode 256 10 = some (.iload_n 0, 11, 0, 0, 0, 0, 1) := cAJ_bitCount_0 _ (List.mem_of_getElem? (i := 8) rfl)
theorem cJ_bitCount_11 : zCode 256 11 = some (.ldc_w 266, 14, 0, 0, 867, 858993459, 1) := cAJ_bitCount_0 _ (List.mem_of_getElem? (i := 9) rfl)
theorem cJ_bitCount_14 : zCode 256 14 = some (.iand, 15, 0, 0, 0, 0, 1) := cAJ_bitCount_0 _ (List.mem_of_getElem? (i := 10) rfl)
theorem cJ_bitCount_15 : zCode 256 15 = some (.iload_n 0, 16, 0, 0, 0, 0, 1) := cAJ_bitCount_0 _ (List.mem_of_getElem? (i := 11) rfl)
theorem cJ_bitCount_16 : zCode 256 16 = some (.iconst 2, 17, 0, 0, 0, 0, 0) := cAJ_bitCount_0 _ (List.mem_of_getElem? (i := 12) rfl)
theorem cJ_bitCount_17 : zCode 256 17 = some (.iushr, 18, 0, 0, 0, 0, 0) := cAJ_bitCount_0 _ (List.mem_of_getElem? (i := 13) rfl)
theorem cJ_bitCount_18 : zCode 256 18 = some (.ldc_w 266, 21, 0, 0, 867, 858993459, 0) := cAJ_bitCount_0 _ (List.mem_of_getElem? (i := 14) rfl)
theorem cJ_bitCount_21 : zCode 256 21 = some (.iand, 22, 0, 0, 0, 0, 0) := cAJ_bitCount_0 _ (List.mem_of_getElem? (i := 15) rfl)
theorem cJ_bitCount_22 : zCode 256 22 = some (.iadd, 23, 0, 0, 0, 0, 0) := cAJ_bitCount_1 _ (List.mem_of_getElem? (i := 0) rfl)
theorem cJ_bitCount_23 : zCode 256 23 = some (.istore_n 0, 24, 0, 0, 0, 0, 0) := cAJ_bitCount_1 _ (List.mem_of_getElem? (i := 1) rfl)
theorem cJ_bitCount_24 : zCode 256 24 = some (.iload_n 0, 25, 0, 0, 0, 0, 1) := cAJ_bitCount_1 _ (List.mem_of_getElem? (i := 2) rfl)
theorem cJ_bitCount_25 : zCode 256 25 = some (.iload_n 0, 26, 0, 0, 0, 0, 1) := cAJ_bitCount_1 _ (List.mem_of_getElem? (i := 3) rfl)
theorem cJ_bitCount_26 : zCode 256 26 = some (.iconst 4, 27, 0, 0, 0, 0, 0) := cAJ_bitCount_1 _ (List.mem_of_getElem? (i := 4) rfl)
theorem cJ_bitCount_27 : zCode 256 27 = some (.iushr, 28, 0, 0, 0, 0, 0) := cAJ_bitCount_1 _ (List.mem_of_getElem? (i := 5) rfl)
theorem cJ_bitCount_28 : zCode 256 28 = some (.iadd, 29, 0, 0, 0, 0, 0) := cAJ_bitCount_1 _ (List.mem_of_getElem? (i := 6) rfl)
theorem cJ_bitCount_29 : zCode 256 29 = some (.ldc_w 267, 32, 0, 0, 868, 252645135, 0) := cAJ_bitCount_1 _ (List.mem_of_getElem? (i := 7) rfl)
theorem cJ_bitCount_32 : zCode 256 32 = some (.iand, 33, 0, 0, 0, 0, 0) := cAJ_bitCount_1 _ (List.mem_of_getElem? (i := 8) rfl)
theorem cJ_bitCount_33 : zCode 256 33 = some (.istore_n 0, 34, 0, 0, 0, 0, 0) := cAJ_bitCount_1 _ (List.mem_of_getElem? (i := 9) rfl)
theorem cJ_bitCount_34 : zCode 256 34 = some (.iload_n 0, 35, 0, 0, 0, 0, 1) := cAJ_bitCount_1 _ (List.mem_of_getElem? (i := 10) rfl)
theorem cJ_bitCount_35 : zCode 256 35 = some (.iload_n 0, 36, 0, 0, 0, 0, 1) := cAJ_bitCount_1 _ (List.mem_of_getElem? (i := 11) rfl)
theorem cJ_bitCount_36 : zCode 256 36 = some (.bipush 8, 38, 0, 0, 0, 0, 0) := cAJ_bitCount_1 _ (List.mem_of_getElem? (i := 12) rfl)
theorem cJ_bitCount_38 : zCode 256 38 = some (.iushr, 39, 0, 0, 0, 0, 0) := cAJ_bitCount_1 _ (List.mem_of_getElem? (i := 13) rfl)
theorem cJ_bitCount_39 : zCode 256 39 = some (.iadd, 40, 0, 0, 0, 0, 0) := cAJ_bitCount_1 _ (List.mem_of_getElem? (i := 14) rfl)
theorem cJ_bitCount_40 : zCode 256 40 = some (.istore_n 0, 41, 0, 0, 0, 0, 0) := cAJ_bitCount_1 _ (List.mem_of_getElem? (i := 15) rfl)
theorem cJ_bitCount_41 : zCode 256 41 = some (.iload_n 0, 42, 0, 0, 0, 0, 1) := cAJ_bitCount_2 _ (List.mem_of_getElem? (i := 0) rfl)
theorem cJ_bitCount_42 : zCode 256 42 = some (.iload_n 0, 43, 0, 0, 0, 0, 1) := cAJ_bitCount_2 _ (List.mem_of_getElem? (i := 1) rfl)
theorem cJ_bitCount_43 : zCode 256 43 = some (.bipush 16, 45, 0, 0, 0, 0, 0) := cAJ_bitCount_2 _ (List.mem_of_getElem? (i := 2) rfl)
theorem cJ_bitCount_45 : zCode 256 45 = some (.iushr, 46, 0, 0, 0, 0, 0) := cAJ_bitCount_2 _ (List.mem_of_getElem? (i := 3) rfl)
theorem cJ_bitCount_46 : zCode 256 46 = some (.iadd, 47, 0, 0, 0, 0, 0) := cAJ_bitCount_2 _ (List.mem_of_getElem? (i := 4) rfl)
theorem cJ_bitCount_47 : zCode 256 47 = some (.istore_n 0, 48, 0, 0, 0, 0, 0) := cAJ_bitCount_2 _ (List.mem_of_getElem? (i := 5) rfl)
theorem cJ_bitCount_48 : zCode 256 48 = some (.iload_n 0, 49, 0, 0, 0, 0, 1) := cAJ_bitCount_2 _ (List.mem_of_getElem? (i := 6) rfl)
theorem cJ_bitCount_49 : zCode 256 49 = some (.bipush 63, 51, 0, 0, 0, 0, 0) := cAJ_bitCount_2 _ (List.mem_of_getElem? (i := 7) rfl)
theorem cJ_bitCount_51 : zCode 256 51 = some (.iand, 52, 0, 0, 0, 0, 0) := cAJ_bitCount_2 _ (List.mem_of_getElem? (i := 8) rfl)
theorem cJ_bitCount_52 : zCode 256 52 = some (.ireturn, 53, 0, 0, 0, 0, 0) := cAJ_bitCount_2 _ (List.mem_of_getElem? (i := 9) rfl)
theorem rJ_bitCount_0 {a0 : Int} : zS 256 0 [zI a0] [] sh pp mm Q ↔ zS 256 1 [zI a0] [zI a0] sh pp mm Q := s_go cJ_bitCount_0 cJ_bitCount_1 rfl rfl
theorem rJ_bitCount_1 {a0 s0 : Int} : zS 256 1 [zI a0] [zI s0] sh pp mm Q ↔ zS 256 2 [zU] [zI a0, zI s0] sh pp mm Q := s_go cJ_bitCount_1 cJ_bitCount_2 rfl rfl
theorem rJ_bitCount_2 {s0 s1 : Int} {u0 : zV} : zS 256 2 [u0] [zI s0, zI s1] sh pp mm Q ↔ zS 256 3 [zU] [zI 1, zI s0, zI s1] sh pp mm Q := s_go cJ_bitCount_2 cJ_bitCount_3 rfl rfl
theorem rJ_bitCount_3 {s0 s1 s2 : Int} {u0 : zV} : zS 256 3 [u0] [zI s0, zI s1, zI s2] sh pp mm Q ↔ zS 256 4 [zU] [zI (zushr s1 s0), zI s2] sh pp mm Q := s_go cJ_bitCount_3 cJ_bitCount_4 rfl rfl
theorem rJ_bitCount_4 {s0 s1 : Int} {u0 : zV} : zS 256 4 [u0] [zI s0, zI s1] sh pp mm Q ↔ zS 256 7 [zU] [zI 1431655765, zI s0, zI s1] sh pp mm Q := s_go cJ_bitCount_4 cJ_bitCount_7 rfl rfl
theorem rJ_bitCount_7 {s0 s1 s2 : Int} {u0 : zV} : zS 256 7 [u0] [zI s0, zI s1, zI s2] sh pp mm Q ↔ zS 256 8 [zU] [zI (zand s1 s0), zI s2] sh pp mm Q := s_go cJ_bitCount_7 cJ_bitCount_8 rfl rfl
theorem rJ_bitCount_8 {s0 s1 : Int} {u0 : zV} : zS 256 8 [u0] [zI s0, zI s1] sh pp mm Q ↔ zS 256 9 [zU] [zI (zw32 (s1 - s0))] sh pp mm Q := s_go cJ_bitCount_8 cJ_bitCount_9 rfl rfl
theorem rJ_bitCount_9 {s0 : Int} {u0 : zV} : zS 256 9 [u0] [zI s0] sh pp mm Q ↔ zS 256 10 [zI s0] [] sh pp mm Q := s_go cJ_bitCount_9 cJ_bitCount_10 rfl rfl
theorem rJ_bitCount_10 {a0 : Int} : zS 256 10 [zI a0] [] sh pp mm Q ↔ zS 256 11 [zI a0] [zI a0] sh pp mm Q := s_go cJ_bitCount_10 cJ_bitCount_11 rfl rfl
theorem rJ_bitCount_11 {a0 s0 : Int} : zS 256 11 [zI a0] [zI s0] sh pp mm Q ↔ zS 256 14 [zI a0] [zI 858993459, zI s0] sh pp mm Q := s_go cJ_bitCount_11 cJ_bitCount_14 rfl rfl
theorem rJ_bitCount_14 {a0 s0 s1 : Int} : zS 256 14 [zI a0] [zI s0, zI s1] sh pp mm Q ↔ zS 256 15 [zI a0] [zI (zand s1 s0)] sh pp mm Q := s_go cJ_bitCount_14 cJ_bitCount_15 rfl rfl
theorem rJ_bitCount_15 {a0 s0 : Int} : zS 256 15 [zI a0] [zI s0] sh pp mm Q ↔ zS 256 16 [zU] [zI a0, zI s0] sh pp mm Q := s_go cJ_bitCount_15 cJ_bitCount_16 rfl rfl
theorem rJ_bitCount_16 {s0 s1 : Int} {u0 : zV} : zS 256 16 [u0] [zI s0, zI s1] sh pp mm Q ↔ zS 256 17 [zU] [zI 2, zI s0, zI s1] sh pp mm Q := s_go cJ_bitCount_16 cJ_bitCount_17 rfl rfl
theorem rJ_bitCount_17 {s0 s1 s2 : Int} {u0 : zV} : zS 256 17 [u0] [zI s0, zI s1, zI s2] sh pp mm Q ↔ zS 256 18 [zU] [zI (zushr s1 s0), zI s2] sh pp mm Q := s_go cJ_bitCount_17 cJ_bitCount_18 rfl rfl
theorem rJ_bitCount_18 {s0 s1 : Int} {u0 : zV} : zS 256 18 [u0] [zI s0, zI s1] sh pp mm Q ↔ zS 256 21 [zU] [zI 858993459, zI s0, zI s1] sh pp mm Q := s_go cJ_bitCount_18 cJ_bitCount_21 rfl rfl
theorem rJ_bitCount_21 {s0 s1 s2 : Int} {u0 : zV} : zS 256 21 [u0] [zI s0, zI s1, zI s2] sh pp mm Q ↔ zS 256 22 [zU] [zI (zand s1 s0), zI s2] sh pp mm Q := s_go cJ_bitCount_21 cJ_bitCount_22 rfl rfl
theorem rJ_bitCount_22 {s0 s1 : Int} {u0 : zV} : zS 256 22 [u0] [zI s0, zI s1] sh pp mm Q ↔ zS 256 23 [zU] [zI (zw32 (s1 + s0))] sh pp mm Q := s_go cJ_bitCount_22 cJ_bitCount_23 rfl rfl
theorem rJ_bitCount_23 {s0 : Int} {u0 : zV} : zS 256 23 [u0] [zI s0] sh pp mm Q ↔ zS 256 24 [zI s0] [] sh pp mm Q := s_go cJ_bitCount_23 cJ_bitCount_24 rfl rfl
theorem rJ_bitCount_24 {a0 : Int} : zS 256 24 [zI a0] [] sh pp mm Q ↔ zS 256 25 [zI a0] [zI a0] sh pp mm Q := s_go cJ_bitCount_24 cJ_bitCount_25 rfl rfl
theorem rJ_bitCount_25 {a0 s0 : Int} : zS 256 25 [zI a0] [zI s0] sh pp mm Q ↔ zS 256 26 [zU] [zI a0, zI s0] sh pp mm Q := s_go cJ_bitCount_25 cJ_bitCount_26 rfl rfl
theorem rJ_bitCount_26 {s0 s1 : Int} {u0 : zV} : zS 256 26 [u0] [zI s0, zI s1] sh pp mm Q ↔ zS 256 27 [zU] [zI 4, zI s0, zI s1] sh pp mm Q := s_go cJ_bitCount_26 cJ_bitCount_27 rfl rfl
theorem rJ_bitCount_27 {s0 s1 s2 : Int} {u0 : zV} : zS 256 27 [u0] [zI s0, zI s1, zI s2] sh pp mm Q ↔ zS 256 28 [zU] [zI (zushr s1 s0), zI s2] sh pp mm Q := s_go cJ_bitCount_27 cJ_bitCount_28 rfl rfl
theorem rJ_bitCount_28 {s0 s1 : Int} {u0 : zV} : zS 256 28 [u0] [zI s0, zI s1] sh pp mm Q ↔ zS 256 29 [zU] [zI (zw32 (s1 + s0))] sh pp mm Q := s_go cJ_bitCount_28 cJ_bitCount_29 rfl rfl
theorem rJ_bitCount_29 {s0 : Int} {u0 : zV} : zS 256 29 [u0] [zI s0] sh pp mm Q ↔ zS 256 32 [zU] [zI 252645135, zI s0] sh pp mm Q := s_go cJ_bitCount_29 cJ_bitCount_32 rfl rfl
theorem rJ_bitCount_32 {s0 s1 : Int} {u0 : zV} : zS 256 32 [u0] [zI s0, zI s1] sh pp mm Q ↔ zS 256 33 [zU] [zI (zand s1 s0)] sh pp mm Q := s_go cJ_bitCount_32 cJ_bitCount_33 rfl rfl
theorem rJ_bitCount_33 {s0 : Int} {u0 : zV} : zS 256 33 [u0] [zI s0] sh pp mm Q ↔ zS 256 34 [zI s0] [] sh pp mm Q := s_go cJ_bitCount_33 cJ_bitCount_34 rfl rfl
theorem rJ_bitCount_34 {a0 : Int} : zS 256 34 [zI a0] [] sh pp mm Q ↔ zS 256 35 [zI a0] [zI a0] sh pp mm Q := s_go cJ_bitCount_34 cJ_bitCount_35 rfl rfl
theorem rJ_bitCount_35 {a0 s0 : Int} : zS 256 35 [zI a0] [zI s0] sh pp mm Q ↔ zS 256 36 [zU] [zI a0, zI s0] sh pp mm Q := s_go cJ_bitCount_35 cJ_bitCount_36 rfl rfl
theorem rJ_bitCount_36 {s0 s1 : Int} {u0 : zV} : zS 256 36 [u0] [zI s0, zI s1] sh pp mm Q ↔ zS 256 38 [zU] [zI 8, zI s0, zI s1] sh pp mm Q := s_go cJ_bitCount_36 cJ_bitCount_38 rfl rfl
theorem rJ_bitCount_38 {s0 s1 s2 : Int} {u0 : zV} : zS 256 38 [u0] [zI s0, zI s1, zI s2] sh pp mm Q ↔ zS 256 39 [zU] [zI (zushr s1 s0), zI s2] sh pp mm Q := s_go cJ_bitCount_38 cJ_bitCount_39 rfl rfl
theorem rJ_bitCount_39 {s0 s1 : Int} {u0 : zV} : zS 256 39 [u0] [zI s0, zI s1] sh pp mm Q ↔ zS 256 40 [zU] [zI (zw32 (s1 + s0))] sh pp mm Q := s_go cJ_bitCount_39 cJ_bitCount_40 rfl rfl
theorem rJ_bitCount_40 {s0 : Int} {u0 : zV} : zS 256 40 [u0] [zI s0] sh pp mm Q ↔ zS 256 41 [zI s0] [] sh pp mm Q := s_go cJ_bitCount_40 cJ_bitCount_41 rfl rfl
theorem rJ_bitCount_41 {a0 : Int} : zS 256 41 [zI a0] [] sh pp mm Q ↔ zS 256 42 [zI a0] [zI a0] sh pp mm Q := s_go cJ_bitCount_41 cJ_bitCount_42 rfl rfl
theorem rJ_bitCount_42 {a0 s0 : Int} : zS 256 42 [zI a0] [zI s0] sh pp mm Q ↔ zS 256 43 [zU] [zI a0, zI s0] sh pp mm Q := s_go cJ_bitCount_42 cJ_bitCount_43 rfl rfl
theorem rJ_bitCount_43 {s0 s1 : Int} {u0 : zV} : zS 256 43 [u0] [zI s0, zI s1] sh pp mm Q ↔ zS 256 45 [zU] [zI 16, zI s0, zI s1] sh pp mm Q := s_go cJ_bitCount_43 cJ_bitCount_45 rfl rfl
theorem rJ_bitCount_45 {s0 s1 s2 : Int} {u0 : zV} : zS 256 45 [u0] [zI s0, zI s1, zI s2] sh pp mm Q ↔ zS 256 46 [zU] [zI (zushr s1 s0), zI s2] sh pp mm Q := s_go cJ_bitCount_45 cJ_bitCount_46 rfl rfl
theorem rJ_bitCount_46 {s0 s1 : Int} {u0 : zV} : zS 256 46 [u0] [zI s0, zI s1] sh pp mm Q ↔ zS 256 47 [zU] [zI (zw32 (s1 + s0))] sh pp mm Q := s_go cJ_bitCount_46 cJ_bitCount_47 rfl rfl
theorem rJ_bitCount_47 {s0 : Int} {u0 : zV} : zS 256 47 [u0] [zI s0] sh pp mm Q ↔ zS 256 48 [zI s0] [] sh pp mm Q := s_go cJ_bitCount_47 cJ_bitCount_48 rfl rfl
theorem rJ_bitCount_48 {a0 : Int} : zS 256 48 [zI a0] [] sh pp mm Q ↔ zS 256 49 [zU] [zI a0] sh pp mm Q := s_go cJ_bitCount_48 cJ_bitCount_49 rfl rfl
theorem rJ_bitCount_49 {s0 : Int} {u0 : zV} : zS 256 49 [u0] [zI s0] sh pp mm Q ↔ zS 256 51 [zU] [zI 63, zI s0] sh pp mm Q := s_go cJ_bitCount_49 cJ_bitCount_51 rfl rfl
theorem rJ_bitCount_51 {s0 s1 : Int} {u0 : zV} : zS 256 51 [u0] [zI s0, zI s1] sh pp mm Q ↔ zS 256 52 [zU] [zI (zand s1 s0)] sh pp mm Q := s_go cJ_bitCount_51 cJ_bitCount_52 rfl rfl
theorem rJ_bitCount_52 {s0 : Int} {u0 : zV} : zS 256 52 [u0] [zI s0] sh pp mm Q ↔ Q (zI s0) sh pp mm := s_ret cJ_bitCount_52 rfl
theorem cAJ_floorMod : ∀ q ∈ zT257, zCode 257 q.1 = some q.2 := zAll (mid := 257) rfl (by decide +kernel)
theorem cAJ_floorMod_0 : ∀ q ∈ zT257_0, zCode 257 q.1 = some q.2 := fun q h => cAJ_floorMod q (h)
theorem cJ_floorMod_0 : zCode 257 0 = some (.iload_n 0, 1, 0, 0, 0, 0, 3) := cAJ_floorMod_0 _ (List.mem_of_getElem? (i := 0) rfl)
theorem cJ_floorMod_1 : zCode 257 1 = some (.iload_n 1, 2, 0, 0, 0, 0, 3) := cAJ_floorMod_0 _ (List.mem_of_getElem? (i := 1) rfl)
theorem cJ_floorMod_2 : zCode 257 2 = some (.irem, 3, 0, 0, 0, 0, 3) := cAJ_floorMod_0 _ (List.mem_of_getElem? (i := 2) rfl)
theorem cJ_floorMod_3 : zCode 257 3 = some (.istore_n 2, 4, 0, 0, 0, 0, 3) := cAJ_floorMod_0 _ (List.mem_of_getElem? (i := 3) rfl)
theorem cJ_floorMod_4 : zCode 257 4 = some (.iload_n 0, 5, 0, 0, 0, 0, 7) := cAJ_floorMod_0 _ (List.mem_of_getElem? (i := 4) rfl)
theorem cJ_floorMod_5 : zCode 257 5 = some (.iload_n 1, 6, 0, 0, 0, 0, 6) := cAJ_floorMod_0 _ (List.mem_of_getElem? (i := 5) rfl)
theorem cJ_floorMod_6 : zCode 257 6 = some (.ixor, 7, 0, 0, 0, 0, 6) := cAJ_floorMod_0 _ (List.mem_of_getElem? (i := 6) rfl)
theorem cJ_floorMod_7 : zCode 257 7 = some (.ifCond .ge 11, 10, 18, 0, 0, 0, 6) := cAJ_floorMod_0 _ (List.mem_of_getElem? (i := 7) rfl)
theorem cJ_floorMod_10 : zCode 257 10 = some (.iload_n 2, 11, 0, 0, 0, 0, 6) := cAJ_floorMod_0 _ (List.mem_of_getElem? (i := 8) rfl)
theorem cJ_floorMod_11 : zCode 257 11 = some (.ifCond .eq 7, 14, 18, 0, 0, 0, 6) := cAJ_floorMod_0 _ (List.mem_of_getElem? (i := 9) rfl)
theorem cJ_floorMod_14 : zCode 257 14 = some (.iload_n 2, 15, 0, 0, 0, 0, 6) := cAJ_floorMod_0 _ (List.mem_of_getElem? (i := 10) rfl)
theorem cJ_floorMod_15 : zCode 257 15 = some (.iload_n 1, 16, 0, 0, 0, 0, 2) := cAJ_floorMod_0 _ (List.mem_of_getElem? (i := 11) rfl)
theorem cJ_floorMod_16 : zCode 257 16 = some (.iadd, 17, 0, 0, 0, 0, 0) := cAJ_floorMod_0 _ (List.mem_of_getElem? (i := 12) rfl)
theorem cJ_floorMod_17 : zCode 257 17 = some (.ireturn, 18, 0, 0, 0, 0, 0) := cAJ_floorMod_0 _ (List.mem_of_getElem? (i := 13) rfl)
theorem cJ_floorMod_18 : zCode 257 18 = some (.iload_n 2, 19, 0, 0, 0, 0, 4) := cAJ_floorMod_0 _ (List.mem_of_getElem? (i := 14) rfl)
theorem cJ_floorMod_19 : zCode 257 19 = some (.ireturn, 20, 0, 0, 0, 0, 0) := cAJ_floorMod_0 _ (List.mem_of_getElem? (i := 15) rfl)
theorem rJ_floorMod_0 {a0 a1 : Int} {u2 : zV} : zS 257 0 [zI a0, zI a1, u2] [] sh pp mm Q ↔ zS 257 1 [zI a0, zI a1, zU] [zI a0] sh pp mm Q := s_go cJ_floorMod_0 cJ_floorMod_1 rfl rfl
theorem rJ_floorMod_1 {a0 a1 s0 : Int} {u2 : zV} : zS 257 1 [zI a0, zI a1, u2] [zI s0] sh pp mm Q ↔ zS 257 2 [zI a0, zI a1, zU] [zI a1, zI s0] sh pp mm Q := s_go cJ_floorMod_1 cJ_floorMod_2 rfl rfl
theorem rJ_floorMod_2 {a0 a1 s0 s1 : Int} {u2 : zV} (hz : s0 ≠ 0) : zS 257 2 [zI a0, zI a1, u2] [zI s0, zI s1] sh pp mm Q ↔ zS 257 3 [zI a0, zI a1, zU] [zI (s1.tmod s0)] sh pp mm Q := s_go cJ_floorMod_2 cJ_floorMod_3 (if_neg hz) rfl
theorem rJ_floorMod_3 {a0 a1 s0 : Int} {u2 : zV} : zS 257 3 [zI a0, zI a1, u2] [zI s0] sh pp mm Q ↔ zS 257 4 [zI a0, zI a1, zI s0] [] sh pp mm Q := s_go cJ_floorMod_3 cJ_floorMod_4 rfl rfl
theorem rJ_floorMod_4 {a0 a1 a2 : Int} : zS 257 4 [zI a0, zI a1, zI a2] [] sh pp mm Q ↔ zS 257 5 [zU, zI a1, zI a2] [zI a0] sh pp mm Q := s_go cJ_floorMod_4 cJ_floorMod_5 rfl rfl
theorem rJ_floorMod_5 {a1 a2 s0 : Int} {u0 : zV} : zS 257 5 [u0, zI a1, zI a2] [zI s0] sh pp mm Q ↔ zS 257 6 [zU, zI a1, zI a2] [zI a1, zI s0] sh pp mm Q := s_go cJ_floorMod_5 cJ_floorMod_6 rfl rfl
theorem rJ_floorMod_6 {a1 a2 s0 s1 : Int} {u0 : zV} : zS 257 6 [u0, zI a1, zI a2] [zI s0, zI s1] sh pp mm Q ↔ zS 257 7 [zU, zI a1, zI a2] [zI (zxor s1 s0)] sh pp mm Q := s_go cJ_floorMod_6 cJ_floorMod_7 rfl rfl
theorem rJ_floorMod_7 {a1 a2 s0 : Int} {u0 : zV} : zS 257 7 [u0, zI a1, zI a2] [zI s0] sh pp mm Q ↔ (s0 < 0 → zS 257 10 [zU, zI a1, zI a2] [] sh pp mm Q) ∧ (¬ s0 < 0 → zS 257 18 [zU, zU, zI a2] [] sh pp mm Q) := s_ifn cJ_floorMod_7 cJ_floorMod_10 cJ_floorMod_18 rfl rfl rfl
theorem rJ_floorMod_10 {a1 a2 : Int} {u0 : zV} : zS 257 10 [u0, zI a1, zI a2] [] sh pp mm Q ↔ zS 257 11 [zU, zI a1, zI a2] [zI a2] sh pp mm Q := s_go cJ_floorMod_10 cJ_floorMod_11 rfl rfl
theorem rJ_floorMod_11 {a1 a2 s0 : Int} {u0 : zV} : zS 257 11 [u0, zI a1, zI a2] [zI s0] sh pp mm Q ↔ (s0 = 0 → zS 257 18 [zU, zU, zI a2] [] sh pp mm Q) ∧ (¬ s0 = 0 → zS 257 14 [zU, zI a1, zI a2] [] sh pp mm Q) := s_if cJ_floorMod_11 cJ_floorMod_18 cJ_floorMod_14 rfl rfl rfl
theorem rJ_floorMod_14 {a1 a2 : Int} {u0 : zV} : zS 257 14 [u0, zI a1, zI a2] [] sh pp mm Q ↔ zS 257 15 [zU, zI a1, zU] [zI a2] sh pp mm Q := s_go cJ_floorMod_14 cJ_floorMod_15 rfl rfl
theorem rJ_floorMod_15 {a1 s0 : Int} {u0 u2 : zV} : zS 257 15 [u0, zI a1, u2] [zI s0] sh pp mm Q ↔ zS 257 16 [zU, zU, zU] [zI a1, zI s0] sh pp mm Q := s_go cJ_floorMod_15 cJ_floorMod_16 rfl rfl
theorem rJ_floorMod_16 {s0 s1 : Int} {u0 u1 u2 : zV} : zS 257 16 [u0, u1, u2] [zI s0, zI s1] sh pp mm Q ↔ zS 257 17 [zU, zU, zU] [zI (zw32 (s1 + s0))] sh pp mm Q := s_go cJ_floorMod_16 cJ_floorMod_17 rfl rfl
theorem rJ_floorMod_17 {s0 : Int} {u0 u1 u2 : zV} : zS 257 17 [u0, u1, u2] [zI s0] sh pp mm Q ↔ Q (zI s0) sh pp mm := s_ret cJ_floorMod_17 rfl
theorem rJ_floorMod_18 {a2 : Int} {u0 u1 : zV} : zS 257 18 [u0, u1, zI a2] [] sh pp mm Q ↔ zS 257 19 [zU, zU, zU] [zI a2] sh pp mm Q := s_go cJ_floorMod_18 cJ_floorMod_19 rfl rfl
theorem rJ_floorMod_19 {s0 : Int} {u0 u1 u2 : zV} : zS 257 19 [u0, u1, u2] [zI s0] sh pp mm Q ↔ Q (zI s0) sh pp mm := s_ret cJ_floorMod_19 rfl
theorem cAJ_abs : ∀ q ∈ zT258, zCode 258 q.1 = some q.2 := zAll (mid := 258) rfl (by decide +kernel)
theorem cAJ_abs_0 : ∀ q ∈ zT258_0, zCode 258 q.1 = some q.2 := fun q h => cAJ_abs q (h)
theorem cJ_abs_0 : zCode 258 0 = some (.iload_n 0, 1, 0, 0, 0, 0, 1) := cAJ_abs_0 _ (List.mem_of_getElem? (i := 0) rfl)
theorem cJ_abs_1 : zCode 258 1 = some (.ifCond .ge 8, 4, 9, 0, 0, 0, 1) := cAJ_abs_0 _ (List.mem_of_getElem? (i := 1) rfl)
theorem cJ_abs_4 : zCode 258 4 = some (.iload_n 0, 5, 0, 0, 0, 0, 1) := cAJ_abs_0 _ (List.mem_of_getElem? (i := 2) rfl)
theorem cJ_abs_5 : zCode 258 5 = some (.ineg, 6, 0, 0, 0, 0, 0) := cAJ_abs_0 _ (List.mem_of_getElem? (i := 3) rfl)
theorem cJ_abs_6 : zCode 258 6 = some (.goto 4, 9, 10, 0, 0, 0, 0) := cAJ_abs_0 _ (List.mem_of_getElem? (i := 4) rfl)
theorem cJ_abs_9 : zCode 258 9 = some (.iload_n 0, 10, 0, 0, 0, 0, 1) := cAJ_abs_0 _ (List.mem_of_getElem? (i := 5) rfl)
theorem cJ_abs_10 : zCode 258 10 = some (.ireturn, 11, 0, 0, 0, 0, 0) := cAJ_abs_0 _ (List.mem_of_getElem? (i := 6) rfl)
theorem rJ_abs_0 {a0 : Int} : zS 258 0 [zI a0] [] sh pp mm Q ↔ zS 258 1 [zI a0] [zI a0] sh pp mm Q := s_go cJ_abs_0 cJ_abs_1 rfl rfl
theorem rJ_abs_1 {a0 s0 : Int} : zS 258 1 [zI a0] [zI s0] sh pp mm Q ↔ (s0 < 0 → zS 258 4 [zI a0] [] sh pp mm Q) ∧ (¬ s0 < 0 → zS 258 9 [zI a0] [] sh pp mm Q) := s_ifn cJ_abs_1 cJ_abs_4 cJ_abs_9 rfl rfl rfl
theorem rJ_abs_4 {a0 : Int} : zS 258 4 [zI a0] [] sh pp mm Q ↔ zS 258 5 [zU] [zI a0] sh pp mm Q := s_go cJ_abs_4 cJ_abs_5 rfl rfl
theorem rJ_abs_5 {s0 : Int} {u0 : zV} : zS 258 5 [u0] [zI s0] sh pp mm Q ↔ zS 258 6 [zU] [zI (zw32 (-s0))] sh pp mm Q := s_go cJ_abs_5 cJ_abs_6 rfl rfl
theorem rJ_abs_6 {s0 : Int} {u0 : zV} : zS 258 6 [u0] [zI s0] sh pp mm Q ↔ zS 258 10 [zU] [zI s0] sh pp mm Q := s_go cJ_abs_6 cJ_abs_10 rfl rfl
theorem rJ_abs_9 {a0 : Int} : zS 258 9 [zI a0] [] sh pp mm Q ↔ zS 258 10 [zU] [zI a0] sh pp mm Q := s_go cJ_abs_9 cJ_abs_10 rfl rfl
theorem rJ_abs_10 {s0 : Int} {u0 : zV} : zS 258 10 [u0] [zI s0] sh pp mm Q ↔ Q (zI s0) sh pp mm := s_ret cJ_abs_10 rfl
theorem cAJ_max : ∀ q ∈ zT259, zCode 259 q.1 = some q.2 := zAll (mid := 259) rfl (by decide +kernel)
theorem cAJ_max_0 : ∀ q ∈ zT259_0, zCode 259 q.1 = some q.2 := fun q h => cAJ_max q (h)
theorem cJ_max_0 : zCode 259 0 = some (.iload_n 0, 1, 0, 0, 0, 0, 3) := cAJ_max_0 _ (List.mem_of_getElem? (i := 0) rfl)
theorem cJ_max_1 : zCode 259 1 = some (.iload_n 1, 2, 0, 0, 0, 0, 3) := cAJ_max_0 _ (List.mem_of_getElem? (i := 1) rfl)
theorem cJ_max_2 : zCode 259 2 = some (.if_icmp .lt 7, 5, 9, 0, 0, 0, 3) := cAJ_max_0 _ (List.mem_of_getElem? (i := 2) rfl)
theorem cJ_max_5 : zCode 259 5 = some (.iload_n 0, 6, 0, 0, 0, 0, 1) := cAJ_max_0 _ (List.mem_of_getElem? (i := 3) rfl)
theorem cJ_max_6 : zCode 259 6 = some (.goto 4, 9, 10, 0, 0, 0, 0) := cAJ_max_0 _ (List.mem_of_getElem? (i := 4) rfl)
theorem cJ_max_9 : zCode 259 9 = some (.iload_n 1, 10, 0, 0, 0, 0, 2) := cAJ_max_0 _ (List.mem_of_getElem? (i := 5) rfl)
theorem cJ_max_10 : zCode 259 10 = some (.ireturn, 11, 0, 0, 0, 0, 0) := cAJ_max_0 _ (List.mem_of_getElem? (i := 6) rfl)
theorem rJ_max_0 {a0 a1 : Int} : zS 259 0 [zI a0, zI a1] [] sh pp mm Q ↔ zS 259 1 [zI a0, zI a1] [zI a0] sh pp mm Q := s_go cJ_max_0 cJ_max_1 rfl rfl
theorem rJ_max_1 {a0 a1 s0 : Int} : zS 259 1 [zI a0, zI a1] [zI s0] sh pp mm Q ↔ zS 259 2 [zI a0, zI a1] [zI a1, zI s0] sh pp mm Q := s_go cJ_max_1 cJ_max_2 rfl rfl
theorem rJ_max_2 {a0 a1 s0 s1 : Int} : zS 259 2 [zI a0, zI a1] [zI s0, zI s1] sh pp mm Q ↔ (s1 < s0 → zS 259 9 [zU, zI a1] [] sh pp mm Q) ∧ (¬ s1 < s0 → zS 259 5 [zI a0, zU] [] sh pp mm Q) := s_if cJ_max_2 cJ_max_9 cJ_max_5 rfl rfl rfl
theorem rJ_max_5 {a0 : Int} {u1 : zV} : zS 259 5 [zI a0, u1] [] sh pp mm Q ↔ zS 259 6 [zU, zU] [zI a0] sh pp mm Q := s_go cJ_max_5 cJ_max_6 rfl rfl
theorem rJ_max_6 {s0 : Int} {u0 u1 : zV} : zS 259 6 [u0, u1] [zI s0] sh pp mm Q ↔ zS 259 10 [zU, zU] [zI s0] sh pp mm Q := s_go cJ_max_6 cJ_max_10 rfl rfl
theorem rJ_max_9 {a1 : Int} {u0 : zV} : zS 259 9 [u0, zI a1] [] sh pp mm Q ↔ zS 259 10 [zU, zU] [zI a1] sh pp mm Q := s_go cJ_max_9 cJ_max_10 rfl rfl
theorem rJ_max_10 {s0 : Int} {u0 u1 : zV} : zS 259 10 [u0, u1] [zI s0] sh pp mm Q ↔ Q (zI s0) sh pp mm := s_ret cJ_max_10 rfl
theorem cAJ_min : ∀ q ∈ zT260, zCode 260 q.1 = some q.2 := zAll (mid := 260) rfl (by decide +kernel)
theorem cAJ_min_0 : ∀ q ∈ zT260_0, zCode 260 q.1 = some q.2 := fun q h => cAJ_min q (h)
theorem cJ_min_0 : zCode 260 0 = some (.iload_n 0, 1, 0, 0, 0, 0, 3) := cAJ_min_0 _ (List.mem_of_getElem? (i := 0) rfl)
theorem cJ_min_1 : zCode 260 1 = some (.iload_n 1, 2, 0, 0, 0, 0, 3) := cAJ_min_0 _ (List.mem_of_getElem? (i := 1) rfl)
theorem cJ_min_2 : zCode 260 2 = some (.if_icmp .gt 7, 5, 9, 0, 0, 0, 3) := cAJ_min_0 _ (List.mem_of_getElem? (i := 2) rfl)
theorem cJ_min_5 : zCode 260 5 = some (.iload_n 0, 6, 0, 0, 0, 0, 1) := cAJ_min_0 _ (List.mem_of_getElem? (i := 3) rfl)
theorem cJ_min_6 : zCode 260 6 = some (.goto 4, 9, 10, 0, 0, 0, 0) := cAJ_min_0 _ (List.mem_of_getElem? (i := 4) rfl)
theorem cJ_min_9 : zCode 260 9 = some (.iload_n 1, 10, 0, 0, 0, 0, 2) := cAJ_min_0 _ (List.mem_of_getElem? (i := 5) rfl)
theorem cJ_min_10 : zCode 260 10 = some (.ireturn, 11, 0, 0, 0, 0, 0) := cAJ_min_0 _ (List.mem_of_getElem? (i := 6) rfl)
theorem rJ_min_0 {a0 a1 : Int} : zS 260 0 [zI a0, zI a1] [] sh pp mm Q ↔ zS 260 1 [zI a0, zI a1] [zI a0] sh pp mm Q := s_go cJ_min_0 cJ_min_1 rfl rfl
theorem rJ_min_1 {a0 a1 s0 : Int} : zS 260 1 [zI a0, zI a1] [zI s0] sh pp mm Q ↔ zS 260 2 [zI a0, zI a1] [zI a1, zI s0] sh pp mm Q := s_go cJ_min_1 cJ_min_2 rfl rfl
theorem rJ_min_2 {a0 a1 s0 s1 : Int} : zS 260 2 [zI a0, zI a1] [zI s0, zI s1] sh pp mm Q ↔ (s0 < s1 → zS 260 9 [zU, zI a1] [] sh pp mm Q) ∧ (¬ s0 < s1 → zS 260 5 [zI a0, zU] [] sh pp mm Q) := s_if cJ_min_2 cJ_min_9 cJ_min_5 rfl rfl rfl
theorem rJ_min_5 {a0 : Int} {u1 : zV} : zS 260 5 [zI a0, u1] [] sh pp mm Q ↔ zS 260 6 [zU, zU] [zI a0] sh pp mm Q := s_go cJ_min_5 cJ_min_6 rfl rfl
theorem rJ_min_6 {s0 : Int} {u0 u1 : zV} : zS 260 6 [u0, u1] [zI s0] sh pp mm Q ↔ zS 260 10 [zU, zU] [zI s0] sh pp mm Q := s_go cJ_min_6 cJ_min_10 rfl rfl
theorem rJ_min_9 {a1 : Int} {u0 : zV} : zS 260 9 [u0, zI a1] [] sh pp mm Q ↔ zS 260 10 [zU, zU] [zI a1] sh pp mm Q := s_go cJ_min_9 cJ_min_10 rfl rfl
theorem rJ_min_10 {s0 : Int} {u0 u1 : zV} : zS 260 10 [u0, u1] [zI s0] sh pp mm Q ↔ Q (zI s0) sh pp mm := s_ret cJ_min_10 rfl
theorem cAJs_length : ∀ q ∈ zT261, zCode 261 q.1 = some q.2 := zAll (mid := 261) rfl (by decide +kernel)
theorem cAJs_length_0 : ∀ q ∈ zT261_0, zCode 261 q.1 = some q.2 := fun q h => cAJs_length q (h)
theorem cJs_length_0 : zCode 261 0 = some (.aload_n 0, 1, 0, 0, 0, 0, 1) := cAJs_length_0 _ (List.mem_of_getElem? (i := 0) rfl)
theorem cJs_length_1 : zCode 261 1 = some (.getfield 9, 4, 31, 0, 2, 1740, 1) := cAJs_length_0 _ (List.mem_of_getElem? (i := 1) rfl)
theorem cJs_length_4 : zCode 261 4 = some (.arraylength, 5, 0, 0, 0, 0, 1) := cAJs_length_0 _ (List.mem_of_getElem? (i := 2) rfl)
theorem cJs_length_5 : zCode 261 5 = some (.aload_n 0, 6, 0, 0, 0, 0, 1) := cAJs_length_0 _ (List.mem_of_getElem? (i := 3) rfl)
theorem cJs_length_6 : zCode 261 6 = some (.invokevirtual 335, 9, 263, 0, 1, 31, 0) := cAJs_length_0 _ (List.mem_of_getElem? (i := 4) rfl)
theorem cJs_length_9 : zCode 261 9 = some (.ishr, 10, 0, 0, 0, 0, 0) := cAJs_length_0 _ (List.mem_of_getElem? (i := 5) rfl)
theorem cJs_length_10 : zCode 261 10 = some (.ireturn, 11, 0, 0, 0, 0, 0) := cAJs_length_0 _ (List.mem_of_getElem? (i := 6) rfl)
theorem rJs_length_0 {a0 : Nat} : zS 261 0 [zR a0] [] sh pp mm Q ↔ zS 261 1 [zR a0] [zR a0] sh pp mm Q := s_go cJs_length_0 cJs_length_1 rfl rfl
theorem rJs_length_1 {a0 s0 : Nat} (hk : zKd sh s0 = 31) : zS 261 1 [zR a0] [zR s0] sh pp mm Q ↔ zS 261 4 [zR a0] [zR (pp s0 0)] sh pp mm Q := s_go cJs_length_1 cJs_length_4 (if_pos hk) rfl
theorem rJs_length_4 {a0 s0 : Nat} (hk : 20 ≤ zKd sh s0 ∧ zKd sh s0 < 50 ∧ zKd sh s0 ≠ 31) : zS 261 4 [zR a0] [zR s0] sh pp mm Q ↔ zS 261 5 [zR a0] [zI (zLn sh s0)] sh pp mm Q := s_go cJs_length_4 cJs_length_5 (if_pos hk) rfl
theorem rJs_length_5 {a0 : Nat} {s0 : Int} : zS 261 5 [zR a0] [zI s0] sh pp mm Q ↔ zS 261 6 [zU] [zR a0, zI s0] sh pp mm Q := s_go cJs_length_5 cJs_length_6 rfl rfl
theorem rJs_length_6 {s0 : Nat} {s1 : Int} {u0 : zV} (hk : zKd sh s0 = 31) : zS 261 6 [u0] [zR s0, zI s1] sh pp mm Q ↔ zS 263 0 [zR s0] [] sh pp mm (fun v sh pp mm => zS 261 9 [zU] (zPush v [zI s1]) sh pp mm Q) := s_call cJs_length_6 cJs_length_9 ((if_pos hk).trans rfl) rfl
theorem rJs_length_9 {s0 s1 : Int} {u0 : zV} : zS 261 9 [u0] [zI s0, zI s1] sh pp mm Q ↔ zS 261 10 [zU] [zI (zshr s1 s0)] sh pp mm Q := s_go cJs_length_9 cJs_length_10 rfl rfl
theorem rJs_length_10 {s0 : Int} {u0 : zV} : zS 261 10 [u0] [zI s0] sh pp mm Q ↔ Q (zI s0) sh pp mm := s_ret cJs_length_10 rfl
theorem cAJs_charAt : ∀ q ∈ zT262, zCode 262 q.1 = some q.2 := zAll (mid := 262) rfl (by decide +kernel)
theorem cAJs_charAt_0 : ∀ q ∈ zT262_0, zCode 262 q.1 = some q.2 := fun q h => cAJs_charAt q (h)
theorem cJs_charAt_0 : zCode 262 0 = some (.aload_n 0, 1, 0, 0, 0, 0, 3) := cAJs_charAt_0 _ (List.mem_of_getElem? (i := 0) rfl)
theorem cJs_charAt_1 : zCode 262 1 = some (.invokevirtual 492, 4, 264, 0, 1, 31, 3) := cAJs_charAt_0 _ (List.mem_of_getElem? (i := 1) rfl)
theorem cJs_charAt_4 : zCode 262 4 = some (.ifCond .eq 12, 7, 16, 0, 0, 0, 3) := cAJs_charAt_0 _ (List.mem_of_getElem? (i := 2) rfl)
theorem cJs_charAt_7 : zCode 262 7 = some (.aload_n 0, 8, 0, 0, 0, 0, 3) := cAJs_charAt_0 _ (List.mem_of_getElem? (i := 3) rfl)
theorem cJs_charAt_8 : zCode 262 8 = some (.getfield 9, 11, 31, 0, 2, 1740, 2) := cAJs_charAt_0 _ (List.mem_of_getElem? (i := 4) rfl)
theorem cJs_charAt_11 : zCode 262 11 = some (.iload_n 1, 12, 0, 0, 0, 0, 2) := cAJs_charAt_0 _ (List.mem_of_getElem? (i := 5) rfl)
theorem cJs_charAt_12 : zCode 262 12 = some (.invokestatic 495, 15, 266, 2, 2, 17, 0) := cAJs_charAt_0 _ (List.mem_of_getElem? (i := 6) rfl)
theorem cJs_charAt_15 : zCode 262 15 = some (.ireturn, 16, 0, 5, 0, 0, 0) := cAJs_charAt_0 _ (List.mem_of_getElem? (i := 7) rfl)
theorem cJs_charAt_16 : zCode 262 16 = some (.aload_n 0, 17, 0, 0, 0, 0, 3) := cAJs_charAt_0 _ (List.mem_of_getElem? (i := 8) rfl)
theorem cJs_charAt_17 : zCode 262 17 = some (.getfield 9, 20, 31, 0, 2, 1740, 2) := cAJs_charAt_0 _ (List.mem_of_getElem? (i := 9) rfl)
theorem cJs_charAt_20 : zCode 262 20 = some (.iload_n 1, 21, 0, 0, 0, 0, 2) := cAJs_charAt_0 _ (List.mem_of_getElem? (i := 10) rfl)
theorem rJs_charAt_0 {a0 : Nat} {a1 : Int} : zS 262 0 [zR a0, zI a1] [] sh pp mm Q ↔ zS 262 1 [zR a0, zI a1] [zR a0] sh pp mm Q := s_go cJs_charAt_0 cJs_charAt_1 rfl rfl
theorem rJs_charAt_1 {a0 s0 : Nat} {a1 : Int} (hk : zKd sh s0 = 31) : zS 262 1 [zR a0, zI a1] [zR s0] sh pp mm Q ↔ zS 264 0 [zR s0] [] sh pp mm (fun v sh pp mm => zS 262 4 [zR a0, zI a1] (zPush v []) sh pp mm Q) := s_call cJs_charAt_1 cJs_charAt_4 ((if_pos hk).trans rfl) rfl
theorem rJs_charAt_4 {a0 : Nat} {a1 s0 : Int} : zS 262 4 [zR a0, zI a1] [zI s0] sh pp mm Q ↔ (s0 = 0 → zS 262 16 [zR a0, zI a1] [] sh pp mm Q) ∧ (¬ s0 = 0 → zS 262 7 [zR a0, zI a1] [] sh pp mm Q) := s_if cJs_charAt_4 cJs_charAt_16 cJs_charAt_7 rfl rfl rfl
theorem rJs_charAt_7 {a0 : Nat} {a1 : Int} : zS 262 7 [zR a0, zI a1] [] sh pp mm Q ↔ zS 262 8 [zU, zI a1] [zR a0] sh pp mm Q := s_go cJs_charAt_7 cJs_charAt_8 rfl rfl
theorem rJs_charAt_8 {s0 : Nat} {a1 : Int} {u0 : zV} (hk : zKd sh s0 = 31) : zS 262 8 [u0, zI a1] [zR s0] sh pp mm Q ↔ zS 262 11 [zU, zI a1] [zR (pp s0 0)] sh pp mm Q := s_go cJs_charAt_8 cJs_charAt_11 (if_pos hk) rfl
theorem rJs_charAt_11 {s0 : Nat} {a1 : Int} {u0 : zV} : zS 262 11 [u0, zI a1] [zR s0] sh pp mm Q ↔ zS 262 12 [zU, zU] [zI a1, zR s0] sh pp mm Q := s_go cJs_charAt_11 cJs_charAt_12 rfl rfl
theorem rJs_charAt_12 {s1 : Nat} {s0 : Int} {u0 u1 : zV} : zS 262 12 [u0, u1] [zI s0, zR s1] sh pp mm Q ↔ zS 266 0 [zR s1, zI s0] [] sh pp mm (fun v sh pp mm => zS 262 15 [zU, zU] (zPush v []) sh pp mm Q) := s_call cJs_charAt_12 cJs_charAt_15 rfl rfl
theorem rJs_charAt_15 {s0 : Int} {u0 u1 : zV} (hb : 0 ≤ s0 ∧ s0 ≤ 65535) : zS 262 15 [u0, u1] [zI s0] sh pp mm Q ↔ Q (zI s0) sh pp mm := s_ret cJs_charAt_15 (if_pos (decide_eq_true hb))
theorem rJs_charAt_16 {a0 : Nat} {a1 : Int} : zS 262 16 [zR a0, zI a1] [] sh pp mm Q ↔ zS 262 17 [zU, zI a1] [zR a0] sh pp mm Q := s_go cJs_charAt_16 cJs_charAt_17 rfl rfl
theorem rJs_charAt_17 {s0 : Nat} {a1 : Int} {u0 : zV} (hk : zKd sh s0 = 31) : zS 262 17 [u0, zI a1] [zR s0] sh pp mm Q ↔ zS 262 20 [zU, zI a1] [zR (pp s0 0)] sh pp mm Q := s_go cJs_charAt_17 cJs_charAt_20 (if_pos hk) rfl
theorem cAJs_coder : ∀ q ∈ zT263, zCode 263 q.1 = some q.2 := zAll (mid := 263) rfl (by decide +kernel)
theorem cAJs_coder_0 : ∀ q ∈ zT263_0, zCode 263 q.1 = some q.2 := fun q h => cAJs_coder q (h)
theorem cJs_coder_0 : zCode 263 0 = some (.getstatic 38, 3, 0, 619, 0, 1, 1) := cAJs_coder_0 _ (List.mem_of_getElem? (i := 0) rfl)
theorem cJs_coder_3 : zCode 263 3 = some (.ifCond .eq 10, 6, 13, 0, 0, 0, 1) := cAJs_coder_0 _ (List.mem_of_getElem? (i := 1) rfl)
theorem cJs_coder_6 : zCode 263 6 = some (.aload_n 0, 7, 0, 0, 0, 0, 1) := cAJs_coder_0 _ (List.mem_of_getElem? (i := 2) rfl)
theorem cJs_coder_7 : zCode 263 7 = some (.getfield 15, 10, 31, 1, 0, 1741, 0) := cAJs_coder_0 _ (List.mem_of_getElem? (i := 3) rfl)
theorem cJs_coder_10 : zCode 263 10 = some (.goto 4, 13, 14, 0, 0, 0, 0) := cAJs_coder_0 _ (List.mem_of_getElem? (i := 4) rfl)
theorem cJs_coder_13 : zCode 263 13 = some (.iconst 1, 14, 0, 0, 0, 0, 0) := cAJs_coder_0 _ (List.mem_of_getElem? (i := 5) rfl)
theorem cJs_coder_14 : zCode 263 14 = some (.ireturn, 15, 0, 4, 0, 0, 0) := cAJs_coder_0 _ (List.mem_of_getElem? (i := 6) rfl)
theorem rJs_coder_0 {a0 : Nat} : zS 263 0 [zR a0] [] sh pp mm Q ↔ zS 263 3 [zR a0] [zI 1] sh pp mm Q := s_go cJs_coder_0 cJs_coder_3 rfl rfl
theorem rJs_coder_3 {a0 : Nat} {s0 : Int} : zS 263 3 [zR a0] [zI s0] sh pp mm Q ↔ (s0 = 0 → zS 263 13 [zU] [] sh pp mm Q) ∧ (¬ s0 = 0 → zS 263 6 [zR a0] [] sh pp mm Q) := s_if cJs_coder_3 cJs_coder_13 cJs_coder_6 rfl rfl rfl
theorem rJs_coder_6 {a0 : Nat} : zS 263 6 [zR a0] [] sh pp mm Q ↔ zS 263 7 [zU] [zR a0] sh pp mm Q := s_go cJs_coder_6 cJs_coder_7 rfl rfl
theorem rJs_coder_7 {s0 : Nat} {u0 : zV} (hk : zKd sh s0 = 31) : zS 263 7 [u0] [zR s0] sh pp mm Q ↔ zS 263 10 [zU] [zI (mm s0 1)] sh pp mm Q := s_go cJs_coder_7 cJs_coder_10 (if_pos hk) rfl
theorem rJs_coder_10 {s0 : Int} {u0 : zV} : zS 263 10 [u0] [zI s0] sh pp mm Q ↔ zS 263 14 [zU] [zI s0] sh pp mm Q := s_go cJs_coder_10 cJs_coder_14 rfl rfl
theorem rJs_coder_13 {u0 : zV} : zS 263 13 [u0] [] sh pp mm Q ↔ zS 263 14 [zU] [zI 1] sh pp mm Q := s_go cJs_coder_13 cJs_coder_14 rfl rfl
theorem rJs_coder_14 {s0 : Int} {u0 : zV} (hb : -128 ≤ s0 ∧ s0 ≤ 127) : zS 263 14 [u0] [zI s0] sh pp mm Q ↔ Q (zI s0) sh pp mm := s_ret cJs_coder_14 (if_pos (decide_eq_true hb))
theorem cAJs_isLatin1 : ∀ q ∈ zT264, zCode 264 q.1 = some q.2 := zAll (mid := 264) rfl (by decide +kernel)
theorem cAJs_isLatin1_0 : ∀ q ∈ zT264_0, zCode 264 q.1 = some q.2 := fun q h => cAJs_isLatin1 q (h)
theorem cJs_isLatin1_0 : zCode 264 0 = some (.getstatic 38, 3, 0, 619, 0, 1, 1) := cAJs_isLatin1_0 _ (List.mem_of_getElem? (i := 0) rfl)
theorem cJs_isLatin1_3 : zCode 264 3 = some (.ifCond .eq 14, 6, 17, 0, 0, 0, 1) := cAJs_isLatin1_0 _ (List.mem_of_getElem? (i := 1) rfl)
theorem cJs_isLatin1_6 : zCode 264 6 = some (.aload_n 0, 7, 0, 0, 0, 0, 1) := cAJs_isLatin1_0 _ (List.mem_of_getElem? (i := 2) rfl)
theorem cJs_isLatin1_7 : zCode 264 7 = some (.getfield 15, 10, 31, 1, 0, 1741, 0) := cAJs_isLatin1_0 _ (List.mem_of_getElem? (i := 3) rfl)
theorem cJs_isLatin1_10 : zCode 264 10 = some (.ifCond .ne 7, 13, 17, 0, 0, 0, 0) := cAJs_isLatin1_0 _ (List.mem_of_getElem? (i := 4) rfl)
theorem cJs_isLatin1_13 : zCode 264 13 = some (.iconst 1, 14, 0, 0, 0, 0, 0) := cAJs_isLatin1_0 _ (List.mem_of_getElem? (i := 5) rfl)
theorem cJs_isLatin1_14 : zCode 264 14 = some (.goto 4, 17, 18, 0, 0, 0, 0) := cAJs_isLatin1_0 _ (List.mem_of_getElem? (i := 6) rfl)
theorem cJs_isLatin1_17 : zCode 264 17 = some (.iconst 0, 18, 0, 0, 0, 0, 0) := cAJs_isLatin1_0 _ (List.mem_of_getElem? (i := 7) rfl)
theorem cJs_isLatin1_18 : zCode 264 18 = some (.ireturn, 19, 0, 3, 0, 0, 0) := cAJs_isLatin1_0 _ (List.mem_of_getElem? (i := 8) rfl)
theorem rJs_isLatin1_0 {a0 : Nat} : zS 264 0 [zR a0] [] sh pp mm Q ↔ zS 264 3 [zR a0] [zI 1] sh pp mm Q := s_go cJs_isLatin1_0 cJs_isLatin1_3 rfl rfl
theorem rJs_isLatin1_3 {a0 : Nat} {s0 : Int} : zS 264 3 [zR a0] [zI s0] sh pp mm Q ↔ (s0 = 0 → zS 264 17 [zU] [] sh pp mm Q) ∧ (¬ s0 = 0 → zS 264 6 [zR a0] [] sh pp mm Q) := s_if cJs_isLatin1_3 cJs_isLatin1_17 cJs_isLatin1_6 rfl rfl rfl
theorem rJs_isLatin1_6 {a0 : Nat} : zS 264 6 [zR a0] [] sh pp mm Q ↔ zS 264 7 [zU] [zR a0] sh pp mm Q := s_go cJs_isLatin1_6 cJs_isLatin1_7 rfl rfl
theorem rJs_isLatin1_7 {s0 : Nat} {u0 : zV} (hk : zKd sh s0 = 31) : zS 264 7 [u0] [zR s0] sh pp mm Q ↔ zS 264 10 [zU] [zI (mm s0 1)] sh pp mm Q := s_go cJs_isLatin1_7 cJs_isLatin1_10 (if_pos hk) rfl
theorem rJs_isLatin1_10 {s0 : Int} {u0 : zV} : zS 264 10 [u0] [zI s0] sh pp mm Q ↔ (s0 = 0 → zS 264 13 [zU] [] sh pp mm Q) ∧ (¬ s0 = 0 → zS 264 17 [zU] [] sh pp mm Q) := s_ifn cJs_isLatin1_10 cJs_isLatin1_13 cJs_isLatin1_17 rfl rfl rfl
theorem rJs_isLatin1_13 {u0 : zV} : zS 264 13 [u0] [] sh pp mm Q ↔ zS 264 14 [zU] [zI 1] sh pp mm Q := s_go cJs_isLatin1_13 cJs_isLatin1_14 rfl rfl
theorem rJs_isLatin1_14 {s0 : Int} {u0 : zV} : zS 264 14 [u0] [zI s0] sh pp mm Q ↔ zS 264 18 [zU] [zI s0] sh pp mm Q := s_go cJs_isLatin1_14 cJs_isLatin1_18 rfl rfl
theorem rJs_isLatin1_17 {u0 : zV} : zS 264 17 [u0] [] sh pp mm Q ↔ zS 264 18 [zU] [zI 0] sh pp mm Q := s_go cJs_isLatin1_17 cJs_isLatin1_18 rfl rfl
theorem rJs_isLatin1_18 {s0 : Int} {u0 : zV} (hb : s0 = 0 ∨ s0 = 1) : zS 264 18 [u0] [zI s0] sh pp mm Q ↔ Q (zI s0) sh pp mm := s_ret cJs_isLatin1_18 (if_pos (decide_eq_true hb))
theorem cAJs_checkIndex : ∀ q ∈ zT265, zCode 265 q.1 = some q.2 := zAll (mid := 265) rfl (by decide +kernel)
theorem cAJs_checkIndex_0 : ∀ q ∈ zT265_0, zCode 265 q.1 = some q.2 := fun q h => cAJs_checkIndex q (h)
theorem cJs_checkIndex_0 : zCode 265 0 = some (.iload_n 0, 1, 0, 0, 0, 0, 3) := cAJs_checkIndex_0 _ (List.mem_of_getElem? (i := 0) rfl)
theorem cJs_checkIndex_1 : zCode 265 1 = some (.iload_n 1, 2, 0, 0, 0, 0, 2) := cAJs_checkIndex_0 _ (List.mem_of_getElem? (i := 1) rfl)
theorem cJs_checkIndex_2 : zCode 265 2 = some (.getstatic 1053, 5, 0, 635, 3, 0, 0) := cAJs_checkIndex_0 _ (List.mem_of_getElem? (i := 2) rfl)
theorem cJs_checkIndex_5 : zCode 265 5 = some (.invokestatic 1059, 8, 272, 3, 3, 19, 0) := cAJs_checkIndex_0 _ (List.mem_of_getElem? (i := 3) rfl)
theorem cJs_checkIndex_8 : zCode 265 8 = some (.pop, 9, 0, 0, 0, 0, 0) := cAJs_checkIndex_0 _ (List.mem_of_getElem? (i := 4) rfl)
theorem cJs_checkIndex_9 : zCode 265 9 = some (.return_, 10, 0, 0, 0, 0, 0) := cAJs_checkIndex_0 _ (List.mem_of_getElem? (i := 5) rfl)
theorem rJs_checkIndex_0 {a0 a1 : Int} : zS 265 0 [zI a0, zI a1] [] sh pp mm Q ↔ zS 265 1 [zU, zI a1] [zI a0] sh pp mm Q := s_go cJs_checkIndex_0 cJs_checkIndex_1 rfl rfl
theorem rJs_checkIndex_1 {a1 s0 : Int} {u0 : zV} : zS 265 1 [u0, zI a1] [zI s0] sh pp mm Q ↔ zS 265 2 [zU, zU] [zI a1, zI s0] sh pp mm Q := s_go cJs_checkIndex_1 cJs_checkIndex_2 rfl rfl
theorem rJs_checkIndex_2 {s0 s1 : Int} {u0 u1 : zV} : zS 265 2 [u0, u1] [zI s0, zI s1] sh pp mm Q ↔ zS 265 5 [zU, zU] [zQ, zI s0, zI s1] sh pp mm Q := s_go cJs_checkIndex_2 cJs_checkIndex_5 rfl rfl
theorem rJs_checkIndex_5 {s1 s2 : Int} {u0 u1 : zV} : zS 265 5 [u0, u1] [zQ, zI s1, zI s2] sh pp mm Q ↔ zS 272 0 [zI s2, zI s1, zQ] [] sh pp mm (fun v sh pp mm => zS 265 8 [zU, zU] (zPush v []) sh pp mm Q) := s_call cJs_checkIndex_5 cJs_checkIndex_8 rfl rfl
theorem rJs_checkIndex_8 {s0 : Int} {u0 u1 : zV} : zS 265 8 [u0, u1] [zI s0] sh pp mm Q ↔ zS 265 9 [zU, zU] [] sh pp mm Q := s_go cJs_checkIndex_8 cJs_checkIndex_9 rfl rfl
theorem rJs_checkIndex_9 {u0 u1 : zV} : zS 265 9 [u0, u1] [] sh pp mm Q ↔ Q zU sh pp mm := s_ret cJs_checkIndex_9 rfl
theorem cAJl_charAt : ∀ q ∈ zT266, zCode 266 q.1 = some q.2 := zAll (mid := 266) rfl (by decide +kernel)
theorem cAJl_charAt_0 : ∀ q ∈ zT266_0, zCode 266 q.1 = some q.2 := fun q h => cAJl_charAt q (h)
theorem cJl_charAt_0 : zCode 266 0 = some (.iload_n 1, 1, 0, 0, 0, 0, 3) := cAJl_charAt_0 _ (List.mem_of_getElem? (i := 0) rfl)
theorem cJl_charAt_1 : zCode 266 1 = some (.aload_n 0, 2, 0, 0, 0, 0, 3) := cAJl_charAt_0 _ (List.mem_of_getElem? (i := 1) rfl)
theorem cJl_charAt_2 : zCode 266 2 = some (.arraylength, 3, 0, 0, 0, 0, 3) := cAJl_charAt_0 _ (List.mem_of_getElem? (i := 2) rfl)
theorem cJl_charAt_3 : zCode 266 3 = some (.invokestatic 9, 6, 265, 2, 2, 31, 3) := cAJl_charAt_0 _ (List.mem_of_getElem? (i := 3) rfl)
theorem cJl_charAt_6 : zCode 266 6 = some (.aload_n 0, 7, 0, 0, 0, 0, 3) := cAJl_charAt_0 _ (List.mem_of_getElem? (i := 4) rfl)
theorem cJl_charAt_7 : zCode 266 7 = some (.iload_n 1, 8, 0, 0, 0, 0, 2) := cAJl_charAt_0 _ (List.mem_of_getElem? (i := 5) rfl)
theorem cJl_charAt_8 : zCode 266 8 = some (.baload, 9, 0, 0, 0, 0, 0) := cAJl_charAt_0 _ (List.mem_of_getElem? (i := 6) rfl)
theorem cJl_charAt_9 : zCode 266 9 = some (.sipush 255, 12, 0, 0, 0, 0, 0) := cAJl_charAt_0 _ (List.mem_of_getElem? (i := 7) rfl)
theorem cJl_charAt_12 : zCode 266 12 = some (.iand, 13, 0, 0, 0, 0, 0) := cAJl_charAt_0 _ (List.mem_of_getElem? (i := 8) rfl)
theorem cJl_charAt_13 : zCode 266 13 = some (.i2c, 14, 0, 0, 0, 0, 0) := cAJl_charAt_0 _ (List.mem_of_getElem? (i := 9) rfl)
theorem cJl_charAt_14 : zCode 266 14 = some (.ireturn, 15, 0, 5, 0, 0, 0) := cAJl_charAt_0 _ (List.mem_of_getElem? (i := 10) rfl)
theorem rJl_charAt_0 {a0 : Nat} {a1 : Int} : zS 266 0 [zR a0, zI a1] [] sh pp mm Q ↔ zS 266 1 [zR a0, zI a1] [zI a1] sh pp mm Q := s_go cJl_charAt_0 cJl_charAt_1 rfl rfl
theorem rJl_charAt_1 {a0 : Nat} {a1 s0 : Int} : zS 266 1 [zR a0, zI a1] [zI s0] sh pp mm Q ↔ zS 266 2 [zR a0, zI a1] [zR a0, zI s0] sh pp mm Q := s_go cJl_charAt_1 cJl_charAt_2 rfl rfl
theorem rJl_charAt_2 {a0 s0 : Nat} {a1 s1 : Int} (hk : 20 ≤ zKd sh s0 ∧ zKd sh s0 < 50 ∧ zKd sh s0 ≠ 31) : zS 266 2 [zR a0, zI a1] [zR s0, zI s1] sh pp mm Q ↔ zS 266 3 [zR a0, zI a1] [zI (zLn sh s0), zI s1] sh pp mm Q := s_go cJl_charAt_2 cJl_charAt_3 (if_pos hk) rfl
theorem rJl_charAt_3 {a0 : Nat} {a1 s0 s1 : Int} : zS 266 3 [zR a0, zI a1] [zI s0, zI s1] sh pp mm Q ↔ zS 265 0 [zI s1, zI s0] [] sh pp mm (fun v sh pp mm => zS 266 6 [zR a0, zI a1] (zPush v []) sh pp mm Q) := s_call cJl_charAt_3 cJl_charAt_6 rfl rfl
theorem rJl_charAt_6 {a0 : Nat} {a1 : Int} : zS 266 6 [zR a0, zI a1] [] sh pp mm Q ↔ zS 266 7 [zU, zI a1] [zR a0] sh pp mm Q := s_go cJl_charAt_6 cJl_charAt_7 rfl rfl
theorem rJl_charAt_7 {s0 : Nat} {a1 : Int} {u0 : zV} : zS 266 7 [u0, zI a1] [zR s0] sh pp mm Q ↔ zS 266 8 [zU, zU] [zI a1, zR s0] sh pp mm Q := s_go cJl_charAt_7 cJl_charAt_8 rfl rfl
theorem rJl_charAt_8 {s1 : Nat} {s0 : Int} {u0 u1 : zV} (hk : zKd sh s1 = 22 ∨ zKd sh s1 = 32) (h0 : 0 ≤ s0) (h1 : s0 < zLn sh s1) : zS 266 8 [u0, u1] [zI s0, zR s1] sh pp mm Q ↔ zS 266 9 [zU, zU] [zI (mm s1 s0)] sh pp mm Q := s_go cJl_charAt_8 cJl_charAt_9 (if_pos ⟨hk, h0, h1⟩) rfl
theorem rJl_charAt_9 {s0 : Int} {u0 u1 : zV} : zS 266 9 [u0, u1] [zI s0] sh pp mm Q ↔ zS 266 12 [zU, zU] [zI 255, zI s0] sh pp mm Q := s_go cJl_charAt_9 cJl_charAt_12 rfl rfl
theorem rJl_charAt_12 {s0 s1 : Int} {u0 u1 : zV} : zS 266 12 [u0, u1] [zI s0, zI s1] sh pp mm Q ↔ zS 266 13 [zU, zU] [zI (zand s1 s0)] sh pp mm Q := s_go cJl_charAt_12 cJl_charAt_13 rfl rfl
theorem rJl_charAt_13 {s0 : Int} {u0 u1 : zV} : zS 266 13 [u0, u1] [zI s0] sh pp mm Q ↔ zS 266 14 [zU, zU] [zI (zi2c s0)] sh pp mm Q := s_go cJl_charAt_13 cJl_charAt_14 rfl rfl
theorem rJl_charAt_14 {s0 : Int} {u0 u1 : zV} (hb : 0 ≤ s0 ∧ s0 ≤ 65535) : zS 266 14 [u0, u1] [zI s0] sh pp mm Q ↔ Q (zI s0) sh pp mm := s_ret cJl_charAt_14 (if_pos (decide_eq_true hb))
theorem cAJ_fill : ∀ q ∈ zT271, zCode 271 q.1 = some q.2 := zAll (mid := 271) rfl (by decide +kernel)
theorem cAJ_fill_0 : ∀ q ∈ zT271_0, zCode 271 q.1 = some q.2 := fun q h => cAJ_fill q (h)
theorem cJ_fill_0 : zCode 271 0 = some (.iconst 0, 1, 0, 0, 0, 0, 3) := cAJ_fill_0 _ (List.mem_of_getElem? (i := 0) rfl)
theorem cJ_fill_1 : zCode 271 1 = some (.istore_n 2, 2, 0, 0, 0, 0, 3) := cAJ_fill_0 _ (List.mem_of_getElem? (i := 1) rfl)
theorem cJ_fill_2 : zCode 271 2 = some (.aload_n 0, 3, 0, 0, 0, 0, 7) := cAJ_fill_0 _ (List.mem_of_getElem? (i := 2) rfl)
theorem cJ_fill_3 : zCode 271 3 = some (.arraylength, 4, 0, 0, 0, 0, 7) := cAJ_fill_0 _ (List.mem_of_getElem? (i := 3) rfl)
theorem cJ_fill_4 : zCode 271 4 = some (.istore_n 3, 5, 0, 0, 0, 0, 7) := cAJ_fill_0 _ (List.mem_of_getElem? (i := 4) rfl)
theorem cJ_fill_5 : zCode 271 5 = some (.iload_n 2, 6, 0, 0, 0, 0, 15) := cAJ_fill_0 _ (List.mem_of_getElem? (i := 5) rfl)
theorem cJ_fill_6 : zCode 271 6 = some (.iload_n 3, 7, 0, 0, 0, 0, 15) := cAJ_fill_0 _ (List.mem_of_getElem? (i := 6) rfl)
theorem cJ_fill_7 : zCode 271 7 = some (.if_icmp .ge 13, 10, 20, 0, 0, 0, 15) := cAJ_fill_0 _ (List.mem_of_getElem? (i := 7) rfl)
theorem cJ_fill_10 : zCode 271 10 = some (.aload_n 0, 11, 0, 0, 0, 0, 15) := cAJ_fill_0 _ (List.mem_of_getElem? (i := 8) rfl)
theorem cJ_fill_11 : zCode 271 11 = some (.iload_n 2, 12, 0, 0, 0, 0, 15) := cAJ_fill_0 _ (List.mem_of_getElem? (i := 9) rfl)
theorem cJ_fill_12 : zCode 271 12 = some (.iload_n 1, 13, 0, 0, 0, 0, 15) := cAJ_fill_0 _ (List.mem_of_getElem? (i := 10) rfl)
theorem cJ_fill_13 : zCode 271 13 = some (.iastore, 14, 0, 0, 0, 0, 15) := cAJ_fill_0 _ (List.mem_of_getElem? (i := 11) rfl)
theorem cJ_fill_14 : zCode 271 14 = some (.iinc 2 1, 17, 0, 0, 0, 0, 15) := cAJ_fill_0 _ (List.mem_of_getElem? (i := 12) rfl)
theorem cJ_fill_17 : zCode 271 17 = some (.goto (-12), 20, 5, 0, 0, 0, 15) := cAJ_fill_0 _ (List.mem_of_getElem? (i := 13) rfl)
theorem cJ_fill_20 : zCode 271 20 = some (.return_, 21, 0, 0, 0, 0, 0) := cAJ_fill_0 _ (List.mem_of_getElem? (i := 14) rfl)
theorem rJ_fill_0 {a0 : Nat} {a1 : Int} {u2 u3 : zV} : zS 271 0 [zR a0, zI a1, u2, u3] [] sh pp mm Q ↔ zS 271 1 [zR a0, zI a1, zU, zU] [zI 0] sh pp mm Q := s_go cJ_fill_0 cJ_fill_1 rfl rfl
theorem rJ_fill_1 {a0 : Nat} {a1 s0 : Int} {u2 u3 : zV} : zS 271 1 [zR a0, zI a1, u2, u3] [zI s0] sh pp mm Q ↔ zS 271 2 [zR a0, zI a1, zI s0, zU] [] sh pp mm Q := s_go cJ_fill_1 cJ_fill_2 rfl rfl
theorem rJ_fill_2 {a0 : Nat} {a1 a2 : Int} {u3 : zV} : zS 271 2 [zR a0, zI a1, zI a2, u3] [] sh pp mm Q ↔ zS 271 3 [zR a0, zI a1, zI a2, zU] [zR a0] sh pp mm Q := s_go cJ_fill_2 cJ_fill_3 rfl rfl
theorem rJ_fill_3 {a0 s0 : Nat} {a1 a2 : Int} {u3 : zV} (hk : 20 ≤ zKd sh s0 ∧ zKd sh s0 < 50 ∧ zKd sh s0 ≠ 31) : zS 271 3 [zR a0, zI a1, zI a2, u3] [zR s0] sh pp mm Q ↔ zS 271 4 [zR a0, zI a1, zI a2, zU] [zI (zLn sh s0)] sh pp mm Q := s_go cJ_fill_3 cJ_fill_4 (if_pos hk) rfl
theorem rJ_fill_4 {a0 : Nat} {a1 a2 s0 : Int} {u3 : zV} : zS 271 4 [zR a0, zI a1, zI a2, u3] [zI s0] sh pp mm Q ↔ zS 271 5 [zR a0, zI a1, zI a2, zI s0] [] sh pp mm Q := s_go cJ_fill_4 cJ_fill_5 rfl rfl
theorem rJ_fill_5 {a0 : Nat} {a1 a2 a3 : Int} : zS 271 5 [zR a0, zI a1, zI a2, zI a3] [] sh pp mm Q ↔ zS 271 6 [zR a0, zI a1, zI a2, zI a3] [zI a2] sh pp mm Q := s_go cJ_fill_5 cJ_fill_6 rfl rfl
theorem rJ_fill_6 {a0 : Nat} {a1 a2 a3 s0 : Int} : zS 271 6 [zR a0, zI a1, zI a2, zI a3] [zI s0] sh pp mm Q ↔ zS 271 7 [zR a0, zI a1, zI a2, zI a3] [zI a3, zI s0] sh pp mm Q := s_go cJ_fill_6 cJ_fill_7 rfl rfl
theorem rJ_fill_7 {a0 : Nat} {a1 a2 a3 s0 s1 : Int} : zS 271 7 [zR a0, zI a1, zI a2, zI a3] [zI s0, zI s1] sh pp mm Q ↔ (s1 < s0 → zS 271 10 [zR a0, zI a1, zI a2, zI a3] [] sh pp mm Q) ∧ (¬ s1 < s0 → zS 271 20 [zU, zU, zU, zU] [] sh pp mm Q) := s_ifn cJ_fill_7 cJ_fill_10 cJ_fill_20 rfl rfl rfl
theorem rJ_fill_10 {a0 : Nat} {a1 a2 a3 : Int} : zS 271 10 [zR a0, zI a1, zI a2, zI a3] [] sh pp mm Q ↔ zS 271 11 [zR a0, zI a1, zI a2, zI a3] [zR a0] sh pp mm Q := s_go cJ_fill_10 cJ_fill_11 rfl rfl
theorem rJ_fill_11 {a0 s0 : Nat} {a1 a2 a3 : Int} : zS 271 11 [zR a0, zI a1, zI a2, zI a3] [zR s0] sh pp mm Q ↔ zS 271 12 [zR a0, zI a1, zI a2, zI a3] [zI a2, zR s0] sh pp mm Q := s_go cJ_fill_11 cJ_fill_12 rfl rfl
theorem rJ_fill_12 {a0 s1 : Nat} {a1 a2 a3 s0 : Int} : zS 271 12 [zR a0, zI a1, zI a2, zI a3] [zI s0, zR s1] sh pp mm Q ↔ zS 271 13 [zR a0, zI a1, zI a2, zI a3] [zI a1, zI s0, zR s1] sh pp mm Q := s_go cJ_fill_12 cJ_fill_13 rfl rfl
theorem rJ_fill_13 {a0 s2 : Nat} {a1 a2 a3 s0 s1 : Int} (hk : zKd sh s2 = 20) (h0 : 0 ≤ s1) (h1 : s1 < zLn sh s2) : zS 271 13 [zR a0, zI a1, zI a2, zI a3] [zI s0, zI s1, zR s2] sh pp mm Q ↔ zS 271 14 [zR a0, zI a1, zI a2, zI a3] [] sh pp (zupd mm s2 s1 s0) Q := s_go cJ_fill_13 cJ_fill_14 (if_pos ⟨hk, h0, h1, fun h => absurd h (by decide)⟩) rfl
theorem rJ_fill_14 {a0 : Nat} {a1 a2 a3 : Int} : zS 271 14 [zR a0, zI a1, zI a2, zI a3] [] sh pp mm Q ↔ zS 271 17 [zR a0, zI a1, zI (zw32 (a2 + 1)), zI a3] [] sh pp mm Q := s_go cJ_fill_14 cJ_fill_17 rfl rfl
theorem rJ_fill_17 {a0 : Nat} {a1 a2 a3 : Int} : zS 271 17 [zR a0, zI a1, zI a2, zI a3] [] sh pp mm Q ↔ zS 271 5 [zR a0, zI a1, zI a2, zI a3] [] sh pp mm Q := s_go cJ_fill_17 cJ_fill_5 rfl rfl
theorem rJ_fill_20 {u0 u1 u2 u3 : zV} : zS 271 20 [u0, u1, u2, u3] [] sh pp mm Q ↔ Q zU sh pp mm := s_ret cJ_fill_20 rfl
theorem cAJp_checkIndex : ∀ q ∈ zT272, zCode 272 q.1 = some q.2 := zAll (mid := 272) rfl (by decide +kernel)
theorem cAJp_checkIndex_0 : ∀ q ∈ zT272_0, zCode 272 q.1 = some q.2 := fun q h => cAJp_checkIndex q (h)
theorem cJp_checkIndex_0 : zCode 272 0 = some (.iload_n 0, 1, 0, 0, 0, 0, 7) := cAJp_checkIndex_0 _ (List.mem_of_getElem? (i := 0) rfl)
theorem cJp_checkIndex_1 : zCode 272 1 = some (.ifCond .lt 8, 4, 9, 0, 0, 0, 7) := cAJp_checkIndex_0 _ (List.mem_of_getElem? (i := 1) rfl)
theorem cJp_checkIndex_4 : zCode 272 4 = some (.iload_n 0, 5, 0, 0, 0, 0, 7) := cAJp_checkIndex_0 _ (List.mem_of_getElem? (i := 2) rfl)
theorem cJp_checkIndex_5 : zCode 272 5 = some (.iload_n 1, 6, 0, 0, 0, 0, 7) := cAJp_checkIndex_0 _ (List.mem_of_getElem? (i := 3) rfl)
theorem cJp_checkIndex_6 : zCode 272 6 = some (.if_icmp .lt 10, 9, 16, 0, 0, 0, 7) := cAJp_checkIndex_0 _ (List.mem_of_getElem? (i := 4) rfl)
theorem cJp_checkIndex_9 : zCode 272 9 = some (.aload_n 2, 10, 0, 0, 0, 0, 7) := cAJp_checkIndex_0 _ (List.mem_of_getElem? (i := 5) rfl)
theorem cJp_checkIndex_10 : zCode 272 10 = some (.iload_n 0, 11, 0, 0, 0, 0, 3) := cAJp_checkIndex_0 _ (List.mem_of_getElem? (i := 6) rfl)
theorem cJp_checkIndex_11 : zCode 272 11 = some (.iload_n 1, 12, 0, 0, 0, 0, 2) := cAJp_checkIndex_0 _ (List.mem_of_getElem? (i := 7) rfl)
theorem cJp_checkIndex_16 : zCode 272 16 = some (.iload_n 0, 17, 0, 0, 0, 0, 1) := cAJp_checkIndex_0 _ (List.mem_of_getElem? (i := 8) rfl)
theorem cJp_checkIndex_17 : zCode 272 17 = some (.ireturn, 18, 0, 0, 0, 0, 0) := cAJp_checkIndex_0 _ (List.mem_of_getElem? (i := 9) rfl)
theorem rJp_checkIndex_0 {a0 a1 : Int} : zS 272 0 [zI a0, zI a1, zQ] [] sh pp mm Q ↔ zS 272 1 [zI a0, zI a1, zQ] [zI a0] sh pp mm Q := s_go cJp_checkIndex_0 cJp_checkIndex_1 rfl rfl
theorem rJp_checkIndex_1 {a0 a1 s0 : Int} : zS 272 1 [zI a0, zI a1, zQ] [zI s0] sh pp mm Q ↔ (s0 < 0 → zS 272 9 [zI a0, zI a1, zQ] [] sh pp mm Q) ∧ (¬ s0 < 0 → zS 272 4 [zI a0, zI a1, zQ] [] sh pp mm Q) := s_if cJp_checkIndex_1 cJp_checkIndex_9 cJp_checkIndex_4 rfl rfl rfl
theorem rJp_checkIndex_4 {a0 a1 : Int} : zS 272 4 [zI a0, zI a1, zQ] [] sh pp mm Q ↔ zS 272 5 [zI a0, zI a1, zQ] [zI a0] sh pp mm Q := s_go cJp_checkIndex_4 cJp_checkIndex_5 rfl rfl
theorem rJp_checkIndex_5 {a0 a1 s0 : Int} : zS 272 5 [zI a0, zI a1, zQ] [zI s0] sh pp mm Q ↔ zS 272 6 [zI a0, zI a1, zQ] [zI a1, zI s0] sh pp mm Q := s_go cJp_checkIndex_5 cJp_checkIndex_6 rfl rfl
theorem rJp_checkIndex_6 {a0 a1 s0 s1 : Int} : zS 272 6 [zI a0, zI a1, zQ] [zI s0, zI s1] sh pp mm Q ↔ (s1 < s0 → zS 272 16 [zI a0, zU, zU] [] sh pp mm Q) ∧ (¬ s1 < s0 → zS 272 9 [zI a0, zI a1, zQ] [] sh pp mm Q) := s_if cJp_checkIndex_6 cJp_checkIndex_16 cJp_checkIndex_9 rfl rfl rfl
theorem rJp_checkIndex_9 {a0 a1 : Int} : zS 272 9 [zI a0, zI a1, zQ] [] sh pp mm Q ↔ zS 272 10 [zI a0, zI a1, zU] [zQ] sh pp mm Q := s_go cJp_checkIndex_9 cJp_checkIndex_10 rfl rfl
theorem rJp_checkIndex_10 {a0 a1 : Int} {u2 : zV} : zS 272 10 [zI a0, zI a1, u2] [zQ] sh pp mm Q ↔ zS 272 11 [zU, zI a1, zU] [zI a0, zQ] sh pp mm Q := s_go cJp_checkIndex_10 cJp_checkIndex_11 rfl rfl
theorem rJp_checkIndex_16 {a0 : Int} {u1 u2 : zV} : zS 272 16 [zI a0, u1, u2] [] sh pp mm Q ↔ zS 272 17 [zU, zU, zU] [zI a0] sh pp mm Q := s_go cJp_checkIndex_16 cJp_checkIndex_17 rfl rfl
theorem rJp_checkIndex_17 {s0 : Int} {u0 u1 u2 : zV} : zS 272 17 [u0, u1, u2] [zI s0] sh pp mm Q ↔ Q (zI s0) sh pp mm := s_ret cJp_checkIndex_17 rfl
end
