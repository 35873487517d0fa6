/-! rules of the small machine at each place of the code, by program: D_init, D_perform, D_begin, D_performItem, D_openLoop, D_afterEnd, D_longer, D_handsTake, D_turn, D_mark, D_shake, D_endCell, D_looksLike, D_cellsDrawn, D_tell, C_init, C_read, C_readToken, C_readWord, C_spells, C_readFigures, C_isLetter, C_isFigure, C_takeItem, C_mayBegin, C_fail, C_numbersOf, C_mayFollow, C_keep -/
section
variable {sh : zSh} {pp : zPp} {mm : zMm} {Q : zV → zSh → zPp → zMm → Prop}
theorem cAD_init : ∀ q ∈ zT15, zCode 15 q.1 = some q.2 := zAll (mid := 15) rfl (by decide +kernel)
theorem cAD_init_0 : ∀ q ∈ zT15_0, zCode 15 q.1 = some q.2 := fun q h => cAD_init q (List.mem_append_left _ h)
theorem cAD_init_1 : ∀ q ∈ zT15_1, zCode 15 q.1 = some q.2 := fun q h => cAD_init q (List.mem_append_right _ (List.mem_append_left _ h))
theorem cAD_init_2 : ∀ q ∈ zT15_2, zCode 15 q.1 = some q.2 := fun q h => cAD_init q (List.mem_append_right _ (List.mem_append_right _ h))
theorem cD_init_0 : zCode 15 0 = some (.aload_n 0, 1, 0, 0, 0, 0, 1) := cAD_init_0 _ (List.mem_of_getElem? (i := 0) rfl)
theorem cD_init_1 : zCode 15 1 = some (.invokespecial 3, 4, 0, 78, 0, 422, 1) := cAD_init_0 _ (List.mem_of_getElem? (i := 1) rfl)
theorem cD_init_4 : zCode 15 4 = some (.aload_n 0, 5, 0, 0, 0, 0, 1) := cAD_init_0 _ (List.mem_of_getElem? (i := 2) rfl)
theorem cD_init_5 : zCode 15 5 = some (.sipush 384, 8, 0, 0, 0, 0, 1) := cAD_init_0 _ (List.mem_of_getElem? (i := 3) rfl)
theorem cD_init_8 : zCode 15 8 = some (.newarray .int, 10, 20, 0, 0, 0, 1) := cAD_init_0 _ (List.mem_of_getElem? (i := 4) rfl)
theorem cD_init_10 : zCode 15 10 = some (.putfield 9, 13, 1, 0, 2, 462, 1) := cAD_init_0 _ (List.mem_of_getElem? (i := 5) rfl)
theorem cD_init_13 : zCode 15 13 = some (.aload_n 0, 14, 0, 0, 0, 0, 1) := cAD_init_0 _ (List.mem_of_getElem? (i := 6) rfl)
theorem cD_init_14 : zCode 15 14 = some (.sipush 2001, 17, 0, 0, 0, 0, 1) := cAD_init_0 _ (List.mem_of_getElem? (i := 7) rfl)
theorem cD_init_17 : zCode 15 17 = some (.newarray .int, 19, 20, 0, 0, 0, 1) := cAD_init_0 _ (List.mem_of_getElem? (i := 8) rfl)
theorem cD_init_19 : zCode 15 19 = some (.putfield 15, 22, 1, 1, 2, 465, 1) := cAD_init_0 _ (List.mem_of_getElem? (i := 9) rfl)
theorem cD_init_22 : zCode 15 22 = some (.aload_n 0, 23, 0, 0, 0, 0, 1) := cAD_init_0 _ (List.mem_of_getElem? (i := 10) rfl)
theorem cD_init_23 : zCode 15 23 = some (.iconst 0, 24, 0, 0, 0, 0, 1) := cAD_init_0 _ (List.mem_of_getElem? (i := 11) rfl)
theorem cD_init_24 : zCode 15 24 = some (.putfield 18, 27, 1, 2, 0, 467, 1) := cAD_init_0 _ (List.mem_of_getElem? (i := 12) rfl)
theorem cD_init_27 : zCode 15 27 = some (.aload_n 0, 28, 0, 0, 0, 0, 1) := cAD_init_0 _ (List.mem_of_getElem? (i := 13) rfl)
theorem cD_init_28 : zCode 15 28 = some (.iconst 0, 29, 0, 0, 0, 0, 1) := cAD_init_0 _ (List.mem_of_getElem? (i := 14) rfl)
theorem cD_init_29 : zCode 15 29 = some (.putfield 22, 32, 1, 3, 0, 469, 1) := cAD_init_0 _ (List.mem_of_getElem? (i := 15) rfl)
theorem cD_init_32 : zCode 15 32 = some (.aload_n 0, 33, 0, 0, 0, 0, 1) := cAD_init_1 _ (List.mem_of_getElem? (i := 0) rfl)
theorem cD_init_33 : zCode 15 33 = some (.iconst 0, 34, 0, 0, 0, 0, 1) := cAD_init_1 _ (List.mem_of_getElem? (i := 1) rfl)
theorem cD_init_34 : zCode 15 34 = some (.putfield 25, 37, 1, 4, 3, 471, 1) := cAD_init_1 _ (List.mem_of_getElem? (i := 2) rfl)
theorem cD_init_37 : zCode 15 37 = some (.aload_n 0, 38, 0, 0, 0, 0, 1) := cAD_init_1 _ (List.mem_of_getElem? (i := 3) rfl)
theorem cD_init_38 : zCode 15 38 = some (.iconst 0, 39, 0, 0, 0, 0, 1) := cAD_init_1 _ (List.mem_of_getElem? (i := 4) rfl)
theorem cD_init_39 : zCode 15 39 = some (.putfield 29, 42, 1, 5, 3, 473, 1) := cAD_init_1 _ (List.mem_of_getElem? (i := 5) rfl)
theorem cD_init_42 : zCode 15 42 = some (.aload_n 0, 43, 0, 0, 0, 0, 1) := cAD_init_1 _ (List.mem_of_getElem? (i := 6) rfl)
theorem cD_init_43 : zCode 15 43 = some (.new 32, 46, 4, 9, 423, 0, 1) := cAD_init_1 _ (List.mem_of_getElem? (i := 7) rfl)
theorem cD_init_46 : zCode 15 46 = some (.dup, 47, 0, 0, 0, 0, 1) := cAD_init_1 _ (List.mem_of_getElem? (i := 8) rfl)
theorem cD_init_47 : zCode 15 47 = some (.invokespecial 34, 50, 43, 0, 1, 4, 1) := cAD_init_1 _ (List.mem_of_getElem? (i := 9) rfl)
theorem cD_init_50 : zCode 15 50 = some (.putfield 35, 53, 1, 6, 2, 475, 1) := cAD_init_1 _ (List.mem_of_getElem? (i := 10) rfl)
theorem cD_init_53 : zCode 15 53 = some (.aload_n 0, 54, 0, 0, 0, 0, 1) := cAD_init_1 _ (List.mem_of_getElem? (i := 11) rfl)
theorem cD_init_54 : zCode 15 54 = some (.new 32, 57, 4, 9, 423, 0, 1) := cAD_init_1 _ (List.mem_of_getElem? (i := 12) rfl)
theorem cD_init_57 : zCode 15 57 = some (.dup, 58, 0, 0, 0, 0, 1) := cAD_init_1 _ (List.mem_of_getElem? (i := 13) rfl)
theorem cD_init_58 : zCode 15 58 = some (.invokespecial 34, 61, 43, 0, 1, 4, 1) := cAD_init_1 _ (List.mem_of_getElem? (i := 14) rfl)
theorem cD_init_61 : zCode 15 61 = some (.putfield 39, 64, 1, 7, 2, 476, 1) := cAD_init_1 _ (List.mem_of_getElem? (i := 15) rfl)
theorem cD_init_64 : zCode 15 64 = some (.aload_n 0, 65, 0, 0, 0, 0, 1) := cAD_init_2 _ (List.mem_of_getElem? (i := 0) rfl)
theorem cD_init_65 : zCode 15 65 = some (.iconst 0, 66, 0, 0, 0, 0, 1) := cAD_init_2 _ (List.mem_of_getElem? (i := 1) rfl)
theorem cD_init_66 : zCode 15 66 = some (.putfield 42, 69, 1, 8, 0, 477, 1) := cAD_init_2 _ (List.mem_of_getElem? (i := 2) rfl)
theorem cD_init_69 : zCode 15 69 = some (.aload_n 0, 70, 0, 0, 0, 0, 1) := cAD_init_2 _ (List.mem_of_getElem? (i := 3) rfl)
theorem cD_init_70 : zCode 15 70 = some (.iconst 3, 71, 0, 0, 0, 0, 1) := cAD_init_2 _ (List.mem_of_getElem? (i := 4) rfl)
theorem cD_init_71 : zCode 15 71 = some (.newarray .int, 73, 20, 0, 0, 0, 1) := cAD_init_2 _ (List.mem_of_getElem? (i := 5) rfl)
theorem cD_init_73 : zCode 15 73 = some (.putfield 45, 76, 1, 9, 2, 478, 1) := cAD_init_2 _ (List.mem_of_getElem? (i := 6) rfl)
theorem cD_init_76 : zCode 15 76 = some (.aload_n 0, 77, 0, 0, 0, 0, 1) := cAD_init_2 _ (List.mem_of_getElem? (i := 7) rfl)
theorem cD_init_77 : zCode 15 77 = some (.iconst 3, 78, 0, 0, 0, 0, 1) := cAD_init_2 _ (List.mem_of_getElem? (i := 8) rfl)
theorem cD_init_78 : zCode 15 78 = some (.newarray .int, 80, 20, 0, 0, 0, 1) := cAD_init_2 _ (List.mem_of_getElem? (i := 9) rfl)
theorem cD_init_80 : zCode 15 80 = some (.putfield 48, 83, 1, 10, 2, 479, 1) := cAD_init_2 _ (List.mem_of_getElem? (i := 10) rfl)
theorem cD_init_83 : zCode 15 83 = some (.aload_n 0, 84, 0, 0, 0, 0, 1) := cAD_init_2 _ (List.mem_of_getElem? (i := 11) rfl)
theorem cD_init_84 : zCode 15 84 = some (.iconst 0, 85, 0, 0, 0, 0, 0) := cAD_init_2 _ (List.mem_of_getElem? (i := 12) rfl)
theorem cD_init_85 : zCode 15 85 = some (.putfield 51, 88, 1, 11, 0, 480, 0) := cAD_init_2 _ (List.mem_of_getElem? (i := 13) rfl)
theorem cD_init_88 : zCode 15 88 = some (.return_, 89, 0, 0, 0, 0, 0) := cAD_init_2 _ (List.mem_of_getElem? (i := 14) rfl)
theorem rD_init_0 {a0 : Nat} : zS 15 0 [zR a0] [] sh pp mm Q ↔ zS 15 1 [zR a0] [zR a0] sh pp mm Q := s_go cD_init_0 cD_init_1 rfl rfl
theorem rD_init_1 {a0 s0 : Nat} (hr : s0 ≠ 0) (hl : s0 < sh.length) : zS 15 1 [zR a0] [zR s0] sh pp mm Q ↔ zS 15 4 [zR a0] [] sh pp mm Q := s_go cD_init_1 cD_init_4 (if_pos ⟨hr, hl, by decide⟩) rfl
theorem rD_init_4 {a0 : Nat} : zS 15 4 [zR a0] [] sh pp mm Q ↔ zS 15 5 [zR a0] [zR a0] sh pp mm Q := s_go cD_init_4 cD_init_5 rfl rfl
theorem rD_init_5 {a0 s0 : Nat} : zS 15 5 [zR a0] [zR s0] sh pp mm Q ↔ zS 15 8 [zR a0] [zI 384, zR s0] sh pp mm Q := s_go cD_init_5 cD_init_8 rfl rfl
theorem rD_init_8 {a0 s1 : Nat} {s0 : Int} (h0 : 0 ≤ s0) (h1 : s0 ≤ 100000) : zS 15 8 [zR a0] [zI s0, zR s1] sh pp mm Q ↔ zS 15 10 [zR a0] [zR sh.length, zR s1] (sh ++ [(20, s0.toNat)]) (zclp pp sh.length) (zclr mm sh.length) Q := s_go cD_init_8 cD_init_10 (if_pos ⟨h0, h1⟩) rfl
theorem rD_init_10 {a0 s0 s1 : Nat} (hk : zKd sh s1 = 1) : zS 15 10 [zR a0] [zR s0, zR s1] sh pp mm Q ↔ zS 15 13 [zR a0] [] sh (zupp pp s1 0 s0) mm Q := s_go cD_init_10 cD_init_13 (if_pos ⟨hk, rfl⟩) rfl
theorem rD_init_13 {a0 : Nat} : zS 15 13 [zR a0] [] sh pp mm Q ↔ zS 15 14 [zR a0] [zR a0] sh pp mm Q := s_go cD_init_13 cD_init_14 rfl rfl
theorem rD_init_14 {a0 s0 : Nat} : zS 15 14 [zR a0] [zR s0] sh pp mm Q ↔ zS 15 17 [zR a0] [zI 2001, zR s0] sh pp mm Q := s_go cD_init_14 cD_init_17 rfl rfl
theorem rD_init_17 {a0 s1 : Nat} {s0 : Int} (h0 : 0 ≤ s0) (h1 : s0 ≤ 100000) : zS 15 17 [zR a0] [zI s0, zR s1] sh pp mm Q ↔ zS 15 19 [zR a0] [zR sh.length, zR s1] (sh ++ [(20, s0.toNat)]) (zclp pp sh.length) (zclr mm sh.length) Q := s_go cD_init_17 cD_init_19 (if_pos ⟨h0, h1⟩) rfl
theorem rD_init_19 {a0 s0 s1 : Nat} (hk : zKd sh s1 = 1) : zS 15 19 [zR a0] [zR s0, zR s1] sh pp mm Q ↔ zS 15 22 [zR a0] [] sh (zupp pp s1 1 s0) mm Q := s_go cD_init_19 cD_init_22 (if_pos ⟨hk, rfl⟩) rfl
theorem rD_init_22 {a0 : Nat} : zS 15 22 [zR a0] [] sh pp mm Q ↔ zS 15 23 [zR a0] [zR a0] sh pp mm Q := s_go cD_init_22 cD_init_23 rfl rfl
theorem rD_init_23 {a0 s0 : Nat} : zS 15 23 [zR a0] [zR s0] sh pp mm Q ↔ zS 15 24 [zR a0] [zI 0, zR s0] sh pp mm Q := s_go cD_init_23 cD_init_24 rfl rfl
theorem rD_init_24 {a0 s1 : Nat} {s0 : Int} (hk : zKd sh s1 = 1) : zS 15 24 [zR a0] [zI s0, zR s1] sh pp mm Q ↔ zS 15 27 [zR a0] [] sh pp (zupd mm s1 2 s0) Q := s_go cD_init_24 cD_init_27 (if_pos ⟨hk, Or.inl rfl⟩) rfl
theorem rD_init_27 {a0 : Nat} : zS 15 27 [zR a0] [] sh pp mm Q ↔ zS 15 28 [zR a0] [zR a0] sh pp mm Q := s_go cD_init_27 cD_init_28 rfl rfl
theorem rD_init_28 {a0 s0 : Nat} : zS 15 28 [zR a0] [zR s0] sh pp mm Q ↔ zS 15 29 [zR a0] [zI 0, zR s0] sh pp mm Q := s_go cD_init_28 cD_init_29 rfl rfl
theorem rD_init_29 {a0 s1 : Nat} {s0 : Int} (hk : zKd sh s1 = 1) : zS 15 29 [zR a0] [zI s0, zR s1] sh pp mm Q ↔ zS 15 32 [zR a0] [] sh pp (zupd mm s1 3 s0) Q := s_go cD_init_29 cD_init_32 (if_pos ⟨hk, Or.inl rfl⟩) rfl
theorem rD_init_32 {a0 : Nat} : zS 15 32 [zR a0] [] sh pp mm Q ↔ zS 15 33 [zR a0] [zR a0] sh pp mm Q := s_go cD_init_32 cD_init_33 rfl rfl
theorem rD_init_33 {a0 s0 : Nat} : zS 15 33 [zR a0] [zR s0] sh pp mm Q ↔ zS 15 34 [zR a0] [zI 0, zR s0] sh pp mm Q := s_go cD_init_33 cD_init_34 rfl rfl
theorem rD_init_34 {a0 s1 : Nat} {s0 : Int} (hk : zKd sh s1 = 1) (hb : s0 = 0 ∨ s0 = 1) : zS 15 34 [zR a0] [zI s0, zR s1] sh pp mm Q ↔ zS 15 37 [zR a0] [] sh pp (zupd mm s1 4 s0) Q := s_go cD_init_34 cD_init_37 (if_pos ⟨hk, Or.inr ⟨rfl, hb⟩⟩) rfl
theorem rD_init_37 {a0 : Nat} : zS 15 37 [zR a0] [] sh pp mm Q ↔ zS 15 38 [zR a0] [zR a0] sh pp mm Q := s_go cD_init_37 cD_init_38 rfl rfl
theorem rD_init_38 {a0 s0 : Nat} : zS 15 38 [zR a0] [zR s0] sh pp mm Q ↔ zS 15 39 [zR a0] [zI 0, zR s0] sh pp mm Q := s_go cD_init_38 cD_init_39 rfl rfl
theorem rD_init_39 {a0 s1 : Nat} {s0 : Int} (hk : zKd sh s1 = 1) (hb : s0 = 0 ∨ s0 = 1) : zS 15 39 [zR a0] [zI s0, zR s1] sh pp mm Q ↔ zS 15 42 [zR a0] [] sh pp (zupd mm s1 5 s0) Q := s_go cD_init_39 cD_init_42 (if_pos ⟨hk, Or.inr ⟨rfl, hb⟩⟩) rfl
theorem rD_init_42 {a0 : Nat} : zS 15 42 [zR a0] [] sh pp mm Q ↔ zS 15 43 [zR a0] [zR a0] sh pp mm Q := s_go cD_init_42 cD_init_43 rfl rfl
theorem rD_init_43 {a0 s0 : Nat} : zS 15 43 [zR a0] [zR s0] sh pp mm Q ↔ zS 15 46 [zR a0] [zR sh.length, zR s0] (sh ++ [(4, 9)]) (zclp pp sh.length) (zclr mm sh.length) Q := s_go cD_init_43 cD_init_46 rfl rfl
theorem rD_init_46 {a0 s0 s1 : Nat} : zS 15 46 [zR a0] [zR s0, zR s1] sh pp mm Q ↔ zS 15 47 [zR a0] [zR s0, zR s0, zR s1] sh pp mm Q := s_go cD_init_46 cD_init_47 rfl rfl
theorem rD_init_47 {a0 s0 s1 s2 : Nat} (hk : zKd sh s0 = 4) : zS 15 47 [zR a0] [zR s0, zR s1, zR s2] sh pp mm Q ↔ zS 43 0 [zR s0] [] sh pp mm (fun v sh pp mm => zS 15 50 [zR a0] (zPush v [zR s1, zR s2]) sh pp mm Q) := s_call cD_init_47 cD_init_50 ((if_pos hk).trans rfl) rfl
theorem rD_init_50 {a0 s0 s1 : Nat} (hk : zKd sh s1 = 1) : zS 15 50 [zR a0] [zR s0, zR s1] sh pp mm Q ↔ zS 15 53 [zR a0] [] sh (zupp pp s1 6 s0) mm Q := s_go cD_init_50 cD_init_53 (if_pos ⟨hk, rfl⟩) rfl
theorem rD_init_53 {a0 : Nat} : zS 15 53 [zR a0] [] sh pp mm Q ↔ zS 15 54 [zR a0] [zR a0] sh pp mm Q := s_go cD_init_53 cD_init_54 rfl rfl
theorem rD_init_54 {a0 s0 : Nat} : zS 15 54 [zR a0] [zR s0] sh pp mm Q ↔ zS 15 57 [zR a0] [zR sh.length, zR s0] (sh ++ [(4, 9)]) (zclp pp sh.length) (zclr mm sh.length) Q := s_go cD_init_54 cD_init_57 rfl rfl
theorem rD_init_57 {a0 s0 s1 : Nat} : zS 15 57 [zR a0] [zR s0, zR s1] sh pp mm Q ↔ zS 15 58 [zR a0] [zR s0, zR s0, zR s1] sh pp mm Q := s_go cD_init_57 cD_init_58 rfl rfl
theorem rD_init_58 {a0 s0 s1 s2 : Nat} (hk : zKd sh s0 = 4) : zS 15 58 [zR a0] [zR s0, zR s1, zR s2] sh pp mm Q ↔ zS 43 0 [zR s0] [] sh pp mm (fun v sh pp mm => zS 15 61 [zR a0] (zPush v [zR s1, zR s2]) sh pp mm Q) := s_call cD_init_58 cD_init_61 ((if_pos hk).trans rfl) rfl
theorem rD_init_61 {a0 s0 s1 : Nat} (hk : zKd sh s1 = 1) : zS 15 61 [zR a0] [zR s0, zR s1] sh pp mm Q ↔ zS 15 64 [zR a0] [] sh (zupp pp s1 7 s0) mm Q := s_go cD_init_61 cD_init_64 (if_pos ⟨hk, rfl⟩) rfl
theorem rD_init_64 {a0 : Nat} : zS 15 64 [zR a0] [] sh pp mm Q ↔ zS 15 65 [zR a0] [zR a0] sh pp mm Q := s_go cD_init_64 cD_init_65 rfl rfl
theorem rD_init_65 {a0 s0 : Nat} : zS 15 65 [zR a0] [zR s0] sh pp mm Q ↔ zS 15 66 [zR a0] [zI 0, zR s0] sh pp mm Q := s_go cD_init_65 cD_init_66 rfl rfl
theorem rD_init_66 {a0 s1 : Nat} {s0 : Int} (hk : zKd sh s1 = 1) : zS 15 66 [zR a0] [zI s0, zR s1] sh pp mm Q ↔ zS 15 69 [zR a0] [] sh pp (zupd mm s1 8 s0) Q := s_go cD_init_66 cD_init_69 (if_pos ⟨hk, Or.inl rfl⟩) rfl
theorem rD_init_69 {a0 : Nat} : zS 15 69 [zR a0] [] sh pp mm Q ↔ zS 15 70 [zR a0] [zR a0] sh pp mm Q := s_go cD_init_69 cD_init_70 rfl rfl
theorem rD_init_70 {a0 s0 : Nat} : zS 15 70 [zR a0] [zR s0] sh pp mm Q ↔ zS 15 71 [zR a0] [zI 3, zR s0] sh pp mm Q := s_go cD_init_70 cD_init_71 rfl rfl
theorem rD_init_71 {a0 s1 : Nat} {s0 : Int} (h0 : 0 ≤ s0) (h1 : s0 ≤ 100000) : zS 15 71 [zR a0] [zI s0, zR s1] sh pp mm Q ↔ zS 15 73 [zR a0] [zR sh.length, zR s1] (sh ++ [(20, s0.toNat)]) (zclp pp sh.length) (zclr mm sh.length) Q := s_go cD_init_71 cD_init_73 (if_pos ⟨h0, h1⟩) rfl
theorem rD_init_73 {a0 s0 s1 : Nat} (hk : zKd sh s1 = 1) : zS 15 73 [zR a0] [zR s0, zR s1] sh pp mm Q ↔ zS 15 76 [zR a0] [] sh (zupp pp s1 9 s0) mm Q := s_go cD_init_73 cD_init_76 (if_pos ⟨hk, rfl⟩) rfl
theorem rD_init_76 {a0 : Nat} : zS 15 76 [zR a0] [] sh pp mm Q ↔ zS 15 77 [zR a0] [zR a0] sh pp mm Q := s_go cD_init_76 cD_init_77 rfl rfl
theorem rD_init_77 {a0 s0 : Nat} : zS 15 77 [zR a0] [zR s0] sh pp mm Q ↔ zS 15 78 [zR a0] [zI 3, zR s0] sh pp mm Q := s_go cD_init_77 cD_init_78 rfl rfl
theorem rD_init_78 {a0 s1 : Nat} {s0 : Int} (h0 : 0 ≤ s0) (h1 : s0 ≤ 100000) : zS 15 78 [zR a0] [zI s0, zR s1] sh pp mm Q ↔ zS 15 80 [zR a0] [zR sh.length, zR s1] (sh ++ [(20, s0.toNat)]) (zclp pp sh.length) (zclr mm sh.length) Q := s_go cD_init_78 cD_init_80 (if_pos ⟨h0, h1⟩) rfl
theorem rD_init_80 {a0 s0 s1 : Nat} (hk : zKd sh s1 = 1) : zS 15 80 [zR a0] [zR s0, zR s1] sh pp mm Q ↔ zS 15 83 [zR a0] [] sh (zupp pp s1 10 s0) mm Q := s_go cD_init_80 cD_init_83 (if_pos ⟨hk, rfl⟩) rfl
theorem rD_init_83 {a0 : Nat} : zS 15 83 [zR a0] [] sh pp mm Q ↔ zS 15 84 [zU] [zR a0] sh pp mm Q := s_go cD_init_83 cD_init_84 rfl rfl
theorem rD_init_84 {s0 : Nat} {u0 : zV} : zS 15 84 [u0] [zR s0] sh pp mm Q ↔ zS 15 85 [zU] [zI 0, zR s0] sh pp mm Q := s_go cD_init_84 cD_init_85 rfl rfl
theorem rD_init_85 {s1 : Nat} {s0 : Int} {u0 : zV} (hk : zKd sh s1 = 1) : zS 15 85 [u0] [zI s0, zR s1] sh pp mm Q ↔ zS 15 88 [zU] [] sh pp (zupd mm s1 11 s0) Q := s_go cD_init_85 cD_init_88 (if_pos ⟨hk, Or.inl rfl⟩) rfl
theorem rD_init_88 {u0 : zV} : zS 15 88 [u0] [] sh pp mm Q ↔ Q zU sh pp mm := s_ret cD_init_88 rfl
theorem cAD_perform : ∀ q ∈ zT16, zCode 16 q.1 = some q.2 := zAll (mid := 16) rfl (by decide +kernel)
theorem cAD_perform_0 : ∀ q ∈ zT16_0, zCode 16 q.1 = some q.2 := fun q h => cAD_perform q (List.mem_append_left _ h)
theorem cAD_perform_1 : ∀ q ∈ zT16_1, zCode 16 q.1 = some q.2 := fun q h => cAD_perform q (List.mem_append_right _ (List.mem_append_left _ h))
theorem cAD_perform_2 : ∀ q ∈ zT16_2, zCode 16 q.1 = some q.2 := fun q h => cAD_perform q (List.mem_append_right _ (List.mem_append_right _ (List.mem_append_left _ h)))
theorem cAD_perform_3 : ∀ q ∈ zT16_3, zCode 16 q.1 = some q.2 := fun q h => cAD_perform q (List.mem_append_right _ (List.mem_append_right _ (List.mem_append_right _ h)))
theorem cD_perform_0 : zCode 16 0 = some (.aload_n 0, 1, 0, 0, 0, 0, 7) := cAD_perform_0 _ (List.mem_of_getElem? (i := 0) rfl)
theorem cD_perform_1 : zCode 16 1 = some (.getfield 29, 4, 1, 5, 3, 473, 7) := cAD_perform_0 _ (List.mem_of_getElem? (i := 1) rfl)
theorem cD_perform_4 : zCode 16 4 = some (.ifCond .eq 4, 7, 8, 0, 0, 0, 7) := cAD_perform_0 _ (List.mem_of_getElem? (i := 2) rfl)
theorem cD_perform_7 : zCode 16 7 = some (.return_, 8, 0, 0, 0, 0, 0) := cAD_perform_0 _ (List.mem_of_getElem? (i := 3) rfl)
theorem cD_perform_8 : zCode 16 8 = some (.aload_n 0, 9, 0, 0, 0, 0, 7) := cAD_perform_0 _ (List.mem_of_getElem? (i := 4) rfl)
theorem cD_perform_9 : zCode 16 9 = some (.aload_n 2, 10, 0, 0, 0, 0, 7) := cAD_perform_0 _ (List.mem_of_getElem? (i := 5) rfl)
theorem cD_perform_10 : zCode 16 10 = some (.invokevirtual 54, 13, 17, 1, 2, 1, 7) := cAD_perform_0 _ (List.mem_of_getElem? (i := 6) rfl)
theorem cD_perform_13 : zCode 16 13 = some (.iconst 0, 14, 0, 0, 0, 0, 7) := cAD_perform_0 _ (List.mem_of_getElem? (i := 7) rfl)
theorem cD_perform_14 : zCode 16 14 = some (.istore_n 3, 15, 0, 0, 0, 0, 7) := cAD_perform_0 _ (List.mem_of_getElem? (i := 8) rfl)
theorem cD_perform_15 : zCode 16 15 = some (.iconst 0, 16, 0, 0, 0, 0, 15) := cAD_perform_0 _ (List.mem_of_getElem? (i := 9) rfl)
theorem cD_perform_16 : zCode 16 16 = some (.istore 4, 18, 0, 0, 0, 0, 15) := cAD_perform_0 _ (List.mem_of_getElem? (i := 10) rfl)
theorem cD_perform_18 : zCode 16 18 = some (.iload 4, 20, 0, 0, 0, 0, 31) := cAD_perform_0 _ (List.mem_of_getElem? (i := 11) rfl)
theorem cD_perform_20 : zCode 16 20 = some (.sipush 10000, 23, 0, 0, 0, 0, 31) := cAD_perform_0 _ (List.mem_of_getElem? (i := 12) rfl)
theorem cD_perform_23 : zCode 16 23 = some (.if_icmp .ge 32, 26, 55, 0, 0, 0, 31) := cAD_perform_0 _ (List.mem_of_getElem? (i := 13) rfl)
theorem cD_perform_26 : zCode 16 26 = some (.aload_n 0, 27, 0, 0, 0, 0, 31) := cAD_perform_0 _ (List.mem_of_getElem? (i := 14) rfl)
theorem cD_perform_27 : zCode 16 27 = some (.getfield 25, 30, 1, 4, 3, 471, 31) := cAD_perform_0 _ (List.mem_of_getElem? (i := 15) rfl)
theorem cD_perform_30 : zCode 16 30 = some (.ifCond .ne 25, 33, 55, 0, 0, 0, 31) := cAD_perform_1 _ (List.mem_of_getElem? (i := 0) rfl)
theorem cD_perform_33 : zCode 16 33 = some (.iload_n 3, 34, 0, 0, 0, 0, 31) := cAD_perform_1 _ (List.mem_of_getElem? (i := 1) rfl)
theorem cD_perform_34 : zCode 16 34 = some (.aload_n 1, 35, 0, 0, 0, 0, 31) := cAD_perform_1 _ (List.mem_of_getElem? (i := 2) rfl)
theorem cD_perform_35 : zCode 16 35 = some (.getfield 58, 38, 8, 3, 0, 376, 31) := cAD_perform_1 _ (List.mem_of_getElem? (i := 3) rfl)
theorem cD_perform_38 : zCode 16 38 = some (.if_icmp .ge 17, 41, 55, 0, 0, 0, 31) := cAD_perform_1 _ (List.mem_of_getElem? (i := 4) rfl)
theorem cD_perform_41 : zCode 16 41 = some (.aload_n 0, 42, 0, 0, 0, 0, 31) := cAD_perform_1 _ (List.mem_of_getElem? (i := 5) rfl)
theorem cD_perform_42 : zCode 16 42 = some (.aload_n 1, 43, 0, 0, 0, 0, 31) := cAD_perform_1 _ (List.mem_of_getElem? (i := 6) rfl)
theorem cD_perform_43 : zCode 16 43 = some (.iload_n 3, 44, 0, 0, 0, 0, 31) := cAD_perform_1 _ (List.mem_of_getElem? (i := 7) rfl)
theorem cD_perform_44 : zCode 16 44 = some (.aload_n 2, 45, 0, 0, 0, 0, 23) := cAD_perform_1 _ (List.mem_of_getElem? (i := 8) rfl)
theorem cD_perform_45 : zCode 16 45 = some (.invokevirtual 63, 48, 18, 3, 9, 1, 23) := cAD_perform_1 _ (List.mem_of_getElem? (i := 9) rfl)
theorem cD_perform_48 : zCode 16 48 = some (.istore_n 3, 49, 0, 0, 0, 0, 23) := cAD_perform_1 _ (List.mem_of_getElem? (i := 10) rfl)
theorem cD_perform_49 : zCode 16 49 = some (.iinc 4 1, 52, 0, 0, 0, 0, 31) := cAD_perform_1 _ (List.mem_of_getElem? (i := 11) rfl)
theorem cD_perform_52 : zCode 16 52 = some (.goto (-34), 55, 18, 0, 0, 0, 31) := cAD_perform_1 _ (List.mem_of_getElem? (i := 12) rfl)
theorem cD_perform_55 : zCode 16 55 = some (.aload_n 0, 56, 0, 0, 0, 0, 5) := cAD_perform_1 _ (List.mem_of_getElem? (i := 13) rfl)
theorem cD_perform_56 : zCode 16 56 = some (.dup, 57, 0, 0, 0, 0, 5) := cAD_perform_1 _ (List.mem_of_getElem? (i := 14) rfl)
theorem cD_perform_57 : zCode 16 57 = some (.getfield 22, 60, 1, 3, 0, 469, 5) := cAD_perform_1 _ (List.mem_of_getElem? (i := 15) rfl)
theorem cD_perform_60 : zCode 16 60 = some (.aload_n 2, 61, 0, 0, 0, 0, 5) := cAD_perform_2 _ (List.mem_of_getElem? (i := 0) rfl)
theorem cD_perform_61 : zCode 16 61 = some (.bipush 6, 63, 0, 0, 0, 0, 1) := cAD_perform_2 _ (List.mem_of_getElem? (i := 1) rfl)
theorem cD_perform_63 : zCode 16 63 = some (.iaload, 64, 0, 0, 0, 0, 1) := cAD_perform_2 _ (List.mem_of_getElem? (i := 2) rfl)
theorem cD_perform_64 : zCode 16 64 = some (.aload_n 0, 65, 0, 0, 0, 0, 1) := cAD_perform_2 _ (List.mem_of_getElem? (i := 3) rfl)
theorem cD_perform_65 : zCode 16 65 = some (.getfield 35, 68, 1, 6, 2, 475, 1) := cAD_perform_2 _ (List.mem_of_getElem? (i := 4) rfl)
theorem cD_perform_68 : zCode 16 68 = some (.getfield 67, 71, 4, 4, 0, 438, 1) := cAD_perform_2 _ (List.mem_of_getElem? (i := 5) rfl)
theorem cD_perform_71 : zCode 16 71 = some (.aload_n 0, 72, 0, 0, 0, 0, 1) := cAD_perform_2 _ (List.mem_of_getElem? (i := 6) rfl)
theorem cD_perform_72 : zCode 16 72 = some (.getfield 39, 75, 1, 7, 2, 476, 1) := cAD_perform_2 _ (List.mem_of_getElem? (i := 7) rfl)
theorem cD_perform_75 : zCode 16 75 = some (.getfield 67, 78, 4, 4, 0, 438, 1) := cAD_perform_2 _ (List.mem_of_getElem? (i := 8) rfl)
theorem cD_perform_78 : zCode 16 78 = some (.iadd, 79, 0, 0, 0, 0, 1) := cAD_perform_2 _ (List.mem_of_getElem? (i := 9) rfl)
theorem cD_perform_79 : zCode 16 79 = some (.imul, 80, 0, 0, 0, 0, 1) := cAD_perform_2 _ (List.mem_of_getElem? (i := 10) rfl)
theorem cD_perform_80 : zCode 16 80 = some (.iadd, 81, 0, 0, 0, 0, 1) := cAD_perform_2 _ (List.mem_of_getElem? (i := 11) rfl)
theorem cD_perform_81 : zCode 16 81 = some (.putfield 22, 84, 1, 3, 0, 469, 1) := cAD_perform_2 _ (List.mem_of_getElem? (i := 12) rfl)
theorem cD_perform_84 : zCode 16 84 = some (.aload_n 0, 85, 0, 0, 0, 0, 1) := cAD_perform_2 _ (List.mem_of_getElem? (i := 13) rfl)
theorem cD_perform_85 : zCode 16 85 = some (.iconst 1, 86, 0, 0, 0, 0, 0) := cAD_perform_2 _ (List.mem_of_getElem? (i := 14) rfl)
theorem cD_perform_86 : zCode 16 86 = some (.putfield 29, 89, 1, 5, 3, 473, 0) := cAD_perform_2 _ (List.mem_of_getElem? (i := 15) rfl)
theorem cD_perform_89 : zCode 16 89 = some (.return_, 90, 0, 0, 0, 0, 0) := cAD_perform_3 _ (List.mem_of_getElem? (i := 0) rfl)
theorem rD_perform_0 {a0 a1 a2 : Nat} {u3 u4 : zV} : zS 16 0 [zR a0, zR a1, zR a2, u3, u4] [] sh pp mm Q ↔ zS 16 1 [zR a0, zR a1, zR a2, zU, zU] [zR a0] sh pp mm Q := s_go cD_perform_0 cD_perform_1 rfl rfl
theorem rD_perform_1 {a0 a1 a2 s0 : Nat} {u3 u4 : zV} (hk : zKd sh s0 = 1) : zS 16 1 [zR a0, zR a1, zR a2, u3, u4] [zR s0] sh pp mm Q ↔ zS 16 4 [zR a0, zR a1, zR a2, zU, zU] [zI (mm s0 5)] sh pp mm Q := s_go cD_perform_1 cD_perform_4 (if_pos hk) rfl
theorem rD_perform_4 {a0 a1 a2 : Nat} {s0 : Int} {u3 u4 : zV} : zS 16 4 [zR a0, zR a1, zR a2, u3, u4] [zI s0] sh pp mm Q ↔ (s0 = 0 → zS 16 8 [zR a0, zR a1, zR a2, zU, zU] [] sh pp mm Q) ∧ (¬ s0 = 0 → zS 16 7 [zU, zU, zU, zU, zU] [] sh pp mm Q) := s_if cD_perform_4 cD_perform_8 cD_perform_7 rfl rfl rfl
theorem rD_perform_7 {u0 u1 u2 u3 u4 : zV} : zS 16 7 [u0, u1, u2, u3, u4] [] sh pp mm Q ↔ Q zU sh pp mm := s_ret cD_perform_7 rfl
theorem rD_perform_8 {a0 a1 a2 : Nat} {u3 u4 : zV} : zS 16 8 [zR a0, zR a1, zR a2, u3, u4] [] sh pp mm Q ↔ zS 16 9 [zR a0, zR a1, zR a2, zU, zU] [zR a0] sh pp mm Q := s_go cD_perform_8 cD_perform_9 rfl rfl
theorem rD_perform_9 {a0 a1 a2 s0 : Nat} {u3 u4 : zV} : zS 16 9 [zR a0, zR a1, zR a2, u3, u4] [zR s0] sh pp mm Q ↔ zS 16 10 [zR a0, zR a1, zR a2, zU, zU] [zR a2, zR s0] sh pp mm Q := s_go cD_perform_9 cD_perform_10 rfl rfl
theorem rD_perform_10 {a0 a1 a2 s0 s1 : Nat} {u3 u4 : zV} (hk : zKd sh s1 = 1) : zS 16 10 [zR a0, zR a1, zR a2, u3, u4] [zR s0, zR s1] sh pp mm Q ↔ zS 17 0 [zR s1, zR s0] [] sh pp mm (fun v sh pp mm => zS 16 13 [zR a0, zR a1, zR a2, zU, zU] (zPush v []) sh pp mm Q) := s_call cD_perform_10 cD_perform_13 ((if_pos hk).trans rfl) rfl
theorem rD_perform_13 {a0 a1 a2 : Nat} {u3 u4 : zV} : zS 16 13 [zR a0, zR a1, zR a2, u3, u4] [] sh pp mm Q ↔ zS 16 14 [zR a0, zR a1, zR a2, zU, zU] [zI 0] sh pp mm Q := s_go cD_perform_13 cD_perform_14 rfl rfl
theorem rD_perform_14 {a0 a1 a2 : Nat} {s0 : Int} {u3 u4 : zV} : zS 16 14 [zR a0, zR a1, zR a2, u3, u4] [zI s0] sh pp mm Q ↔ zS 16 15 [zR a0, zR a1, zR a2, zI s0, zU] [] sh pp mm Q := s_go cD_perform_14 cD_perform_15 rfl rfl
theorem rD_perform_15 {a0 a1 a2 : Nat} {a3 : Int} {u4 : zV} : zS 16 15 [zR a0, zR a1, zR a2, zI a3, u4] [] sh pp mm Q ↔ zS 16 16 [zR a0, zR a1, zR a2, zI a3, zU] [zI 0] sh pp mm Q := s_go cD_perform_15 cD_perform_16 rfl rfl
theorem rD_perform_16 {a0 a1 a2 : Nat} {a3 s0 : Int} {u4 : zV} : zS 16 16 [zR a0, zR a1, zR a2, zI a3, u4] [zI s0] sh pp mm Q ↔ zS 16 18 [zR a0, zR a1, zR a2, zI a3, zI s0] [] sh pp mm Q := s_go cD_perform_16 cD_perform_18 rfl rfl
theorem rD_perform_18 {a0 a1 a2 : Nat} {a3 a4 : Int} : zS 16 18 [zR a0, zR a1, zR a2, zI a3, zI a4] [] sh pp mm Q ↔ zS 16 20 [zR a0, zR a1, zR a2, zI a3, zI a4] [zI a4] sh pp mm Q := s_go cD_perform_18 cD_perform_20 rfl rfl
theorem rD_perform_20 {a0 a1 a2 : Nat} {a3 a4 s0 : Int} : zS 16 20 [zR a0, zR a1, zR a2, zI a3, zI a4] [zI s0] sh pp mm Q ↔ zS 16 23 [zR a0, zR a1, zR a2, zI a3, zI a4] [zI 10000, zI s0] sh pp mm Q := s_go cD_perform_20 cD_perform_23 rfl rfl
theorem rD_perform_23 {a0 a1 a2 : Nat} {a3 a4 s0 s1 : Int} : zS 16 23 [zR a0, zR a1, zR a2, zI a3, zI a4] [zI s0, zI s1] sh pp mm Q ↔ (s1 < s0 → zS 16 26 [zR a0, zR a1, zR a2, zI a3, zI a4] [] sh pp mm Q) ∧ (¬ s1 < s0 → zS 16 55 [zR a0, zU, zR a2, zU, zU] [] sh pp mm Q) := s_ifn cD_perform_23 cD_perform_26 cD_perform_55 rfl rfl rfl
theorem rD_perform_26 {a0 a1 a2 : Nat} {a3 a4 : Int} : zS 16 26 [zR a0, zR a1, zR a2, zI a3, zI a4] [] sh pp mm Q ↔ zS 16 27 [zR a0, zR a1, zR a2, zI a3, zI a4] [zR a0] sh pp mm Q := s_go cD_perform_26 cD_perform_27 rfl rfl
theorem rD_perform_27 {a0 a1 a2 s0 : Nat} {a3 a4 : Int} (hk : zKd sh s0 = 1) : zS 16 27 [zR a0, zR a1, zR a2, zI a3, zI a4] [zR s0] sh pp mm Q ↔ zS 16 30 [zR a0, zR a1, zR a2, zI a3, zI a4] [zI (mm s0 4)] sh pp mm Q := s_go cD_perform_27 cD_perform_30 (if_pos hk) rfl
theorem rD_perform_30 {a0 a1 a2 : Nat} {a3 a4 s0 : Int} : zS 16 30 [zR a0, zR a1, zR a2, zI a3, zI a4] [zI s0] sh pp mm Q ↔ (s0 = 0 → zS 16 33 [zR a0, zR a1, zR a2, zI a3, zI a4] [] sh pp mm Q) ∧ (¬ s0 = 0 → zS 16 55 [zR a0, zU, zR a2, zU, zU] [] sh pp mm Q) := s_ifn cD_perform_30 cD_perform_33 cD_perform_55 rfl rfl rfl
theorem rD_perform_33 {a0 a1 a2 : Nat} {a3 a4 : Int} : zS 16 33 [zR a0, zR a1, zR a2, zI a3, zI a4] [] sh pp mm Q ↔ zS 16 34 [zR a0, zR a1, zR a2, zI a3, zI a4] [zI a3] sh pp mm Q := s_go cD_perform_33 cD_perform_34 rfl rfl
theorem rD_perform_34 {a0 a1 a2 : Nat} {a3 a4 s0 : Int} : zS 16 34 [zR a0, zR a1, zR a2, zI a3, zI a4] [zI s0] sh pp mm Q ↔ zS 16 35 [zR a0, zR a1, zR a2, zI a3, zI a4] [zR a1, zI s0] sh pp mm Q := s_go cD_perform_34 cD_perform_35 rfl rfl
theorem rD_perform_35 {a0 a1 a2 s0 : Nat} {a3 a4 s1 : Int} (hk : zKd sh s0 = 8) : zS 16 35 [zR a0, zR a1, zR a2, zI a3, zI a4] [zR s0, zI s1] sh pp mm Q ↔ zS 16 38 [zR a0, zR a1, zR a2, zI a3, zI a4] [zI (mm s0 3), zI s1] sh pp mm Q := s_go cD_perform_35 cD_perform_38 (if_pos hk) rfl
theorem rD_perform_38 {a0 a1 a2 : Nat} {a3 a4 s0 s1 : Int} : zS 16 38 [zR a0, zR a1, zR a2, zI a3, zI a4] [zI s0, zI s1] sh pp mm Q ↔ (s1 < s0 → zS 16 41 [zR a0, zR a1, zR a2, zI a3, zI a4] [] sh pp mm Q) ∧ (¬ s1 < s0 → zS 16 55 [zR a0, zU, zR a2, zU, zU] [] sh pp mm Q) := s_ifn cD_perform_38 cD_perform_41 cD_perform_55 rfl rfl rfl
theorem rD_perform_41 {a0 a1 a2 : Nat} {a3 a4 : Int} : zS 16 41 [zR a0, zR a1, zR a2, zI a3, zI a4] [] sh pp mm Q ↔ zS 16 42 [zR a0, zR a1, zR a2, zI a3, zI a4] [zR a0] sh pp mm Q := s_go cD_perform_41 cD_perform_42 rfl rfl
theorem rD_perform_42 {a0 a1 a2 s0 : Nat} {a3 a4 : Int} : zS 16 42 [zR a0, zR a1, zR a2, zI a3, zI a4] [zR s0] sh pp mm Q ↔ zS 16 43 [zR a0, zR a1, zR a2, zI a3, zI a4] [zR a1, zR s0] sh pp mm Q := s_go cD_perform_42 cD_perform_43 rfl rfl
theorem rD_perform_43 {a0 a1 a2 s0 s1 : Nat} {a3 a4 : Int} : zS 16 43 [zR a0, zR a1, zR a2, zI a3, zI a4] [zR s0, zR s1] sh pp mm Q ↔ zS 16 44 [zR a0, zR a1, zR a2, zU, zI a4] [zI a3, zR s0, zR s1] sh pp mm Q := s_go cD_perform_43 cD_perform_44 rfl rfl
theorem rD_perform_44 {a0 a1 a2 s1 s2 : Nat} {a4 s0 : Int} {u3 : zV} : zS 16 44 [zR a0, zR a1, zR a2, u3, zI a4] [zI s0, zR s1, zR s2] sh pp mm Q ↔ zS 16 45 [zR a0, zR a1, zR a2, zU, zI a4] [zR a2, zI s0, zR s1, zR s2] sh pp mm Q := s_go cD_perform_44 cD_perform_45 rfl rfl
theorem rD_perform_45 {a0 a1 a2 s0 s2 s3 : Nat} {a4 s1 : Int} {u3 : zV} (hk : zKd sh s3 = 1) : zS 16 45 [zR a0, zR a1, zR a2, u3, zI a4] [zR s0, zI s1, zR s2, zR s3] sh pp mm Q ↔ zS 18 0 [zR s3, zR s2, zI s1, zR s0, zU, zU, zU, zU, zU] [] sh pp mm (fun v sh pp mm => zS 16 48 [zR a0, zR a1, zR a2, zU, zI a4] (zPush v []) sh pp mm Q) := s_call cD_perform_45 cD_perform_48 ((if_pos hk).trans rfl) rfl
theorem rD_perform_48 {a0 a1 a2 : Nat} {a4 s0 : Int} {u3 : zV} : zS 16 48 [zR a0, zR a1, zR a2, u3, zI a4] [zI s0] sh pp mm Q ↔ zS 16 49 [zR a0, zR a1, zR a2, zI s0, zI a4] [] sh pp mm Q := s_go cD_perform_48 cD_perform_49 rfl rfl
theorem rD_perform_49 {a0 a1 a2 : Nat} {a3 a4 : Int} : zS 16 49 [zR a0, zR a1, zR a2, zI a3, zI a4] [] sh pp mm Q ↔ zS 16 52 [zR a0, zR a1, zR a2, zI a3, zI (zw32 (a4 + 1))] [] sh pp mm Q := s_go cD_perform_49 cD_perform_52 rfl rfl
theorem rD_perform_52 {a0 a1 a2 : Nat} {a3 a4 : Int} : zS 16 52 [zR a0, zR a1, zR a2, zI a3, zI a4] [] sh pp mm Q ↔ zS 16 18 [zR a0, zR a1, zR a2, zI a3, zI a4] [] sh pp mm Q := s_go cD_perform_52 cD_perform_18 rfl rfl
theorem rD_perform_55 {a0 a2 : Nat} {u1 u3 u4 : zV} : zS 16 55 [zR a0, u1, zR a2, u3, u4] [] sh pp mm Q ↔ zS 16 56 [zR a0, zU, zR a2, zU, zU] [zR a0] sh pp mm Q := s_go cD_perform_55 cD_perform_56 rfl rfl
theorem rD_perform_56 {a0 a2 s0 : Nat} {u1 u3 u4 : zV} : zS 16 56 [zR a0, u1, zR a2, u3, u4] [zR s0] sh pp mm Q ↔ zS 16 57 [zR a0, zU, zR a2, zU, zU] [zR s0, zR s0] sh pp mm Q := s_go cD_perform_56 cD_perform_57 rfl rfl
theorem rD_perform_57 {a0 a2 s0 s1 : Nat} {u1 u3 u4 : zV} (hk : zKd sh s0 = 1) : zS 16 57 [zR a0, u1, zR a2, u3, u4] [zR s0, zR s1] sh pp mm Q ↔ zS 16 60 [zR a0, zU, zR a2, zU, zU] [zI (mm s0 3), zR s1] sh pp mm Q := s_go cD_perform_57 cD_perform_60 (if_pos hk) rfl
theorem rD_perform_60 {a0 a2 s1 : Nat} {s0 : Int} {u1 u3 u4 : zV} : zS 16 60 [zR a0, u1, zR a2, u3, u4] [zI s0, zR s1] sh pp mm Q ↔ zS 16 61 [zR a0, zU, zU, zU, zU] [zR a2, zI s0, zR s1] sh pp mm Q := s_go cD_perform_60 cD_perform_61 rfl rfl
theorem rD_perform_61 {a0 s0 s2 : Nat} {s1 : Int} {u1 u2 u3 u4 : zV} : zS 16 61 [zR a0, u1, u2, u3, u4] [zR s0, zI s1, zR s2] sh pp mm Q ↔ zS 16 63 [zR a0, zU, zU, zU, zU] [zI 6, zR s0, zI s1, zR s2] sh pp mm Q := s_go cD_perform_61 cD_perform_63 rfl rfl
theorem rD_perform_63 {a0 s1 s3 : Nat} {s0 s2 : Int} {u1 u2 u3 u4 : zV} (hk : zKd sh s1 = 20 ∨ zKd sh s1 = 30) (h0 : 0 ≤ s0) (h1 : s0 < zLn sh s1) : zS 16 63 [zR a0, u1, u2, u3, u4] [zI s0, zR s1, zI s2, zR s3] sh pp mm Q ↔ zS 16 64 [zR a0, zU, zU, zU, zU] [zI (mm s1 s0), zI s2, zR s3] sh pp mm Q := s_go cD_perform_63 cD_perform_64 (if_pos ⟨hk, h0, h1⟩) rfl
theorem rD_perform_64 {a0 s2 : Nat} {s0 s1 : Int} {u1 u2 u3 u4 : zV} : zS 16 64 [zR a0, u1, u2, u3, u4] [zI s0, zI s1, zR s2] sh pp mm Q ↔ zS 16 65 [zR a0, zU, zU, zU, zU] [zR a0, zI s0, zI s1, zR s2] sh pp mm Q := s_go cD_perform_64 cD_perform_65 rfl rfl
theorem rD_perform_65 {a0 s0 s3 : Nat} {s1 s2 : Int} {u1 u2 u3 u4 : zV} (hk : zKd sh s0 = 1) : zS 16 65 [zR a0, u1, u2, u3, u4] [zR s0, zI s1, zI s2, zR s3] sh pp mm Q ↔ zS 16 68 [zR a0, zU, zU, zU, zU] [zR (pp s0 6), zI s1, zI s2, zR s3] sh pp mm Q := s_go cD_perform_65 cD_perform_68 (if_pos hk) rfl
theorem rD_perform_68 {a0 s0 s3 : Nat} {s1 s2 : Int} {u1 u2 u3 u4 : zV} (hk : zKd sh s0 = 4) : zS 16 68 [zR a0, u1, u2, u3, u4] [zR s0, zI s1, zI s2, zR s3] sh pp mm Q ↔ zS 16 71 [zR a0, zU, zU, zU, zU] [zI (mm s0 4), zI s1, zI s2, zR s3] sh pp mm Q := s_go cD_perform_68 cD_perform_71 (if_pos hk) rfl
theorem rD_perform_71 {a0 s3 : Nat} {s0 s1 s2 : Int} {u1 u2 u3 u4 : zV} : zS 16 71 [zR a0, u1, u2, u3, u4] [zI s0, zI s1, zI s2, zR s3] sh pp mm Q ↔ zS 16 72 [zR a0, zU, zU, zU, zU] [zR a0, zI s0, zI s1, zI s2, zR s3] sh pp mm Q := s_go cD_perform_71 cD_perform_72 rfl rfl
theorem rD_perform_72 {a0 s0 s4 : Nat} {s1 s2 s3 : Int} {u1 u2 u3 u4 : zV} (hk : zKd sh s0 = 1) : zS 16 72 [zR a0, u1, u2, u3, u4] [zR s0, zI s1, zI s2, zI s3, zR s4] sh pp mm Q ↔ zS 16 75 [zR a0, zU, zU, zU, zU] [zR (pp s0 7), zI s1, zI s2, zI s3, zR s4] sh pp mm Q := s_go cD_perform_72 cD_perform_75 (if_pos hk) rfl
theorem rD_perform_75 {a0 s0 s4 : Nat} {s1 s2 s3 : Int} {u1 u2 u3 u4 : zV} (hk : zKd sh s0 = 4) : zS 16 75 [zR a0, u1, u2, u3, u4] [zR s0, zI s1, zI s2, zI s3, zR s4] sh pp mm Q ↔ zS 16 78 [zR a0, zU, zU, zU, zU] [zI (mm s0 4), zI s1, zI s2, zI s3, zR s4] sh pp mm Q := s_go cD_perform_75 cD_perform_78 (if_pos hk) rfl
theorem rD_perform_78 {a0 s4 : Nat} {s0 s1 s2 s3 : Int} {u1 u2 u3 u4 : zV} : zS 16 78 [zR a0, u1, u2, u3, u4] [zI s0, zI s1, zI s2, zI s3, zR s4] sh pp mm Q ↔ zS 16 79 [zR a0, zU, zU, zU, zU] [zI (zw32 (s1 + s0)), zI s2, zI s3, zR s4] sh pp mm Q := s_go cD_perform_78 cD_perform_79 rfl rfl
theorem rD_perform_79 {a0 s3 : Nat} {s0 s1 s2 : Int} {u1 u2 u3 u4 : zV} : zS 16 79 [zR a0, u1, u2, u3, u4] [zI s0, zI s1, zI s2, zR s3] sh pp mm Q ↔ zS 16 80 [zR a0, zU, zU, zU, zU] [zI (zw32 (s1 * s0)), zI s2, zR s3] sh pp mm Q := s_go cD_perform_79 cD_perform_80 rfl rfl
theorem rD_perform_80 {a0 s2 : Nat} {s0 s1 : Int} {u1 u2 u3 u4 : zV} : zS 16 80 [zR a0, u1, u2, u3, u4] [zI s0, zI s1, zR s2] sh pp mm Q ↔ zS 16 81 [zR a0, zU, zU, zU, zU] [zI (zw32 (s1 + s0)), zR s2] sh pp mm Q := s_go cD_perform_80 cD_perform_81 rfl rfl
theorem rD_perform_81 {a0 s1 : Nat} {s0 : Int} {u1 u2 u3 u4 : zV} (hk : zKd sh s1 = 1) : zS 16 81 [zR a0, u1, u2, u3, u4] [zI s0, zR s1] sh pp mm Q ↔ zS 16 84 [zR a0, zU, zU, zU, zU] [] sh pp (zupd mm s1 3 s0) Q := s_go cD_perform_81 cD_perform_84 (if_pos ⟨hk, Or.inl rfl⟩) rfl
theorem rD_perform_84 {a0 : Nat} {u1 u2 u3 u4 : zV} : zS 16 84 [zR a0, u1, u2, u3, u4] [] sh pp mm Q ↔ zS 16 85 [zU, zU, zU, zU, zU] [zR a0] sh pp mm Q := s_go cD_perform_84 cD_perform_85 rfl rfl
theorem rD_perform_85 {s0 : Nat} {u0 u1 u2 u3 u4 : zV} : zS 16 85 [u0, u1, u2, u3, u4] [zR s0] sh pp mm Q ↔ zS 16 86 [zU, zU, zU, zU, zU] [zI 1, zR s0] sh pp mm Q := s_go cD_perform_85 cD_perform_86 rfl rfl
theorem rD_perform_86 {s1 : Nat} {s0 : Int} {u0 u1 u2 u3 u4 : zV} (hk : zKd sh s1 = 1) (hb : s0 = 0 ∨ s0 = 1) : zS 16 86 [u0, u1, u2, u3, u4] [zI s0, zR s1] sh pp mm Q ↔ zS 16 89 [zU, zU, zU, zU, zU] [] sh pp (zupd mm s1 5 s0) Q := s_go cD_perform_86 cD_perform_89 (if_pos ⟨hk, Or.inr ⟨rfl, hb⟩⟩) rfl
theorem rD_perform_89 {u0 u1 u2 u3 u4 : zV} : zS 16 89 [u0, u1, u2, u3, u4] [] sh pp mm Q ↔ Q zU sh pp mm := s_ret cD_perform_89 rfl
theorem cAD_begin : ∀ q ∈ zT17, zCode 17 q.1 = some q.2 := zAll (mid := 17) rfl (by decide +kernel)
theorem cAD_begin_0 : ∀ q ∈ zT17_0, zCode 17 q.1 = some q.2 := fun q h => cAD_begin q (List.mem_append_left _ h)
theorem cAD_begin_1 : ∀ q ∈ zT17_1, zCode 17 q.1 = some q.2 := fun q h => cAD_begin q (List.mem_append_right _ (List.mem_append_left _ h))
theorem cAD_begin_2 : ∀ q ∈ zT17_2, zCode 17 q.1 = some q.2 := fun q h => cAD_begin q (List.mem_append_right _ (List.mem_append_right _ h))
theorem cD_begin_0 : zCode 17 0 = some (.aload_n 0, 1, 0, 0, 0, 0, 3) := cAD_begin_0 _ (List.mem_of_getElem? (i := 0) rfl)
theorem cD_begin_1 : zCode 17 1 = some (.getfield 35, 4, 1, 6, 2, 475, 3) := cAD_begin_0 _ (List.mem_of_getElem? (i := 1) rfl)
theorem cD_begin_4 : zCode 17 4 = some (.aload_n 1, 5, 0, 0, 0, 0, 3) := cAD_begin_0 _ (List.mem_of_getElem? (i := 2) rfl)
theorem cD_begin_5 : zCode 17 5 = some (.iconst 2, 6, 0, 0, 0, 0, 3) := cAD_begin_0 _ (List.mem_of_getElem? (i := 3) rfl)
theorem cD_begin_6 : zCode 17 6 = some (.iaload, 7, 0, 0, 0, 0, 3) := cAD_begin_0 _ (List.mem_of_getElem? (i := 4) rfl)
theorem cD_begin_7 : zCode 17 7 = some (.aload_n 1, 8, 0, 0, 0, 0, 3) := cAD_begin_0 _ (List.mem_of_getElem? (i := 5) rfl)
theorem cD_begin_8 : zCode 17 8 = some (.iconst 0, 9, 0, 0, 0, 0, 3) := cAD_begin_0 _ (List.mem_of_getElem? (i := 6) rfl)
theorem cD_begin_9 : zCode 17 9 = some (.iaload, 10, 0, 0, 0, 0, 3) := cAD_begin_0 _ (List.mem_of_getElem? (i := 7) rfl)
theorem cD_begin_10 : zCode 17 10 = some (.bipush 23, 12, 0, 0, 0, 0, 3) := cAD_begin_0 _ (List.mem_of_getElem? (i := 8) rfl)
theorem cD_begin_12 : zCode 17 12 = some (.invokevirtual 70, 15, 44, 3, 4, 4, 3) := cAD_begin_0 _ (List.mem_of_getElem? (i := 9) rfl)
theorem cD_begin_15 : zCode 17 15 = some (.aload_n 0, 16, 0, 0, 0, 0, 3) := cAD_begin_0 _ (List.mem_of_getElem? (i := 10) rfl)
theorem cD_begin_16 : zCode 17 16 = some (.getfield 39, 19, 1, 7, 2, 476, 3) := cAD_begin_0 _ (List.mem_of_getElem? (i := 11) rfl)
theorem cD_begin_19 : zCode 17 19 = some (.aload_n 1, 20, 0, 0, 0, 0, 3) := cAD_begin_0 _ (List.mem_of_getElem? (i := 12) rfl)
theorem cD_begin_20 : zCode 17 20 = some (.iconst 3, 21, 0, 0, 0, 0, 3) := cAD_begin_0 _ (List.mem_of_getElem? (i := 13) rfl)
theorem cD_begin_21 : zCode 17 21 = some (.iaload, 22, 0, 0, 0, 0, 3) := cAD_begin_0 _ (List.mem_of_getElem? (i := 14) rfl)
theorem cD_begin_22 : zCode 17 22 = some (.aload_n 1, 23, 0, 0, 0, 0, 3) := cAD_begin_0 _ (List.mem_of_getElem? (i := 15) rfl)
theorem cD_begin_23 : zCode 17 23 = some (.iconst 1, 24, 0, 0, 0, 0, 1) := cAD_begin_1 _ (List.mem_of_getElem? (i := 0) rfl)
theorem cD_begin_24 : zCode 17 24 = some (.iaload, 25, 0, 0, 0, 0, 1) := cAD_begin_1 _ (List.mem_of_getElem? (i := 1) rfl)
theorem cD_begin_25 : zCode 17 25 = some (.bipush 15, 27, 0, 0, 0, 0, 1) := cAD_begin_1 _ (List.mem_of_getElem? (i := 2) rfl)
theorem cD_begin_27 : zCode 17 27 = some (.invokevirtual 70, 30, 44, 3, 4, 4, 1) := cAD_begin_1 _ (List.mem_of_getElem? (i := 3) rfl)
theorem cD_begin_30 : zCode 17 30 = some (.aload_n 0, 31, 0, 0, 0, 0, 1) := cAD_begin_1 _ (List.mem_of_getElem? (i := 4) rfl)
theorem cD_begin_31 : zCode 17 31 = some (.getfield 9, 34, 1, 0, 2, 462, 1) := cAD_begin_1 _ (List.mem_of_getElem? (i := 5) rfl)
theorem cD_begin_34 : zCode 17 34 = some (.iconst 0, 35, 0, 0, 0, 0, 1) := cAD_begin_1 _ (List.mem_of_getElem? (i := 6) rfl)
theorem cD_begin_35 : zCode 17 35 = some (.invokestatic 73, 38, 271, 2, 4, 18, 1) := cAD_begin_1 _ (List.mem_of_getElem? (i := 7) rfl)
theorem cD_begin_38 : zCode 17 38 = some (.aload_n 0, 39, 0, 0, 0, 0, 1) := cAD_begin_1 _ (List.mem_of_getElem? (i := 8) rfl)
theorem cD_begin_39 : zCode 17 39 = some (.iconst 0, 40, 0, 0, 0, 0, 1) := cAD_begin_1 _ (List.mem_of_getElem? (i := 9) rfl)
theorem cD_begin_40 : zCode 17 40 = some (.putfield 18, 43, 1, 2, 0, 467, 1) := cAD_begin_1 _ (List.mem_of_getElem? (i := 10) rfl)
theorem cD_begin_43 : zCode 17 43 = some (.aload_n 0, 44, 0, 0, 0, 0, 1) := cAD_begin_1 _ (List.mem_of_getElem? (i := 11) rfl)
theorem cD_begin_44 : zCode 17 44 = some (.iconst 0, 45, 0, 0, 0, 0, 1) := cAD_begin_1 _ (List.mem_of_getElem? (i := 12) rfl)
theorem cD_begin_45 : zCode 17 45 = some (.putfield 22, 48, 1, 3, 0, 469, 1) := cAD_begin_1 _ (List.mem_of_getElem? (i := 13) rfl)
theorem cD_begin_48 : zCode 17 48 = some (.aload_n 0, 49, 0, 0, 0, 0, 1) := cAD_begin_1 _ (List.mem_of_getElem? (i := 14) rfl)
theorem cD_begin_49 : zCode 17 49 = some (.iconst 0, 50, 0, 0, 0, 0, 1) := cAD_begin_1 _ (List.mem_of_getElem? (i := 15) rfl)
theorem cD_begin_50 : zCode 17 50 = some (.putfield 42, 53, 1, 8, 0, 477, 1) := cAD_begin_2 _ (List.mem_of_getElem? (i := 0) rfl)
theorem cD_begin_53 : zCode 17 53 = some (.aload_n 0, 54, 0, 0, 0, 0, 1) := cAD_begin_2 _ (List.mem_of_getElem? (i := 1) rfl)
theorem cD_begin_54 : zCode 17 54 = some (.iconst 0, 55, 0, 0, 0, 0, 1) := cAD_begin_2 _ (List.mem_of_getElem? (i := 2) rfl)
theorem cD_begin_55 : zCode 17 55 = some (.putfield 51, 58, 1, 11, 0, 480, 1) := cAD_begin_2 _ (List.mem_of_getElem? (i := 3) rfl)
theorem cD_begin_58 : zCode 17 58 = some (.aload_n 0, 59, 0, 0, 0, 0, 1) := cAD_begin_2 _ (List.mem_of_getElem? (i := 4) rfl)
theorem cD_begin_59 : zCode 17 59 = some (.iconst 0, 60, 0, 0, 0, 0, 1) := cAD_begin_2 _ (List.mem_of_getElem? (i := 5) rfl)
theorem cD_begin_60 : zCode 17 60 = some (.putfield 25, 63, 1, 4, 3, 471, 1) := cAD_begin_2 _ (List.mem_of_getElem? (i := 6) rfl)
theorem cD_begin_63 : zCode 17 63 = some (.aload_n 0, 64, 0, 0, 0, 0, 1) := cAD_begin_2 _ (List.mem_of_getElem? (i := 7) rfl)
theorem cD_begin_64 : zCode 17 64 = some (.invokevirtual 79, 67, 24, 0, 2, 1, 0) := cAD_begin_2 _ (List.mem_of_getElem? (i := 8) rfl)
theorem cD_begin_67 : zCode 17 67 = some (.return_, 68, 0, 0, 0, 0, 0) := cAD_begin_2 _ (List.mem_of_getElem? (i := 9) rfl)
theorem rD_begin_0 {a0 a1 : Nat} : zS 17 0 [zR a0, zR a1] [] sh pp mm Q ↔ zS 17 1 [zR a0, zR a1] [zR a0] sh pp mm Q := s_go cD_begin_0 cD_begin_1 rfl rfl
theorem rD_begin_1 {a0 a1 s0 : Nat} (hk : zKd sh s0 = 1) : zS 17 1 [zR a0, zR a1] [zR s0] sh pp mm Q ↔ zS 17 4 [zR a0, zR a1] [zR (pp s0 6)] sh pp mm Q := s_go cD_begin_1 cD_begin_4 (if_pos hk) rfl
theorem rD_begin_4 {a0 a1 s0 : Nat} : zS 17 4 [zR a0, zR a1] [zR s0] sh pp mm Q ↔ zS 17 5 [zR a0, zR a1] [zR a1, zR s0] sh pp mm Q := s_go cD_begin_4 cD_begin_5 rfl rfl
theorem rD_begin_5 {a0 a1 s0 s1 : Nat} : zS 17 5 [zR a0, zR a1] [zR s0, zR s1] sh pp mm Q ↔ zS 17 6 [zR a0, zR a1] [zI 2, zR s0, zR s1] sh pp mm Q := s_go cD_begin_5 cD_begin_6 rfl rfl
theorem rD_begin_6 {a0 a1 s1 s2 : Nat} {s0 : Int} (hk : zKd sh s1 = 20 ∨ zKd sh s1 = 30) (h0 : 0 ≤ s0) (h1 : s0 < zLn sh s1) : zS 17 6 [zR a0, zR a1] [zI s0, zR s1, zR s2] sh pp mm Q ↔ zS 17 7 [zR a0, zR a1] [zI (mm s1 s0), zR s2] sh pp mm Q := s_go cD_begin_6 cD_begin_7 (if_pos ⟨hk, h0, h1⟩) rfl
theorem rD_begin_7 {a0 a1 s1 : Nat} {s0 : Int} : zS 17 7 [zR a0, zR a1] [zI s0, zR s1] sh pp mm Q ↔ zS 17 8 [zR a0, zR a1] [zR a1, zI s0, zR s1] sh pp mm Q := s_go cD_begin_7 cD_begin_8 rfl rfl
theorem rD_begin_8 {a0 a1 s0 s2 : Nat} {s1 : Int} : zS 17 8 [zR a0, zR a1] [zR s0, zI s1, zR s2] sh pp mm Q ↔ zS 17 9 [zR a0, zR a1] [zI 0, zR s0, zI s1, zR s2] sh pp mm Q := s_go cD_begin_8 cD_begin_9 rfl rfl
theorem rD_begin_9 {a0 a1 s1 s3 : Nat} {s0 s2 : Int} (hk : zKd sh s1 = 20 ∨ zKd sh s1 = 30) (h0 : 0 ≤ s0) (h1 : s0 < zLn sh s1) : zS 17 9 [zR a0, zR a1] [zI s0, zR s1, zI s2, zR s3] sh pp mm Q ↔ zS 17 10 [zR a0, zR a1] [zI (mm s1 s0), zI s2, zR s3] sh pp mm Q := s_go cD_begin_9 cD_begin_10 (if_pos ⟨hk, h0, h1⟩) rfl
theorem rD_begin_10 {a0 a1 s2 : Nat} {s0 s1 : Int} : zS 17 10 [zR a0, zR a1] [zI s0, zI s1, zR s2] sh pp mm Q ↔ zS 17 12 [zR a0, zR a1] [zI 23, zI s0, zI s1, zR s2] sh pp mm Q := s_go cD_begin_10 cD_begin_12 rfl rfl
theorem rD_begin_12 {a0 a1 s3 : Nat} {s0 s1 s2 : Int} (hk : zKd sh s3 = 4) : zS 17 12 [zR a0, zR a1] [zI s0, zI s1, zI s2, zR s3] sh pp mm Q ↔ zS 44 0 [zR s3, zI s2, zI s1, zI s0] [] sh pp mm (fun v sh pp mm => zS 17 15 [zR a0, zR a1] (zPush v []) sh pp mm Q) := s_call cD_begin_12 cD_begin_15 ((if_pos hk).trans rfl) rfl
theorem rD_begin_15 {a0 a1 : Nat} : zS 17 15 [zR a0, zR a1] [] sh pp mm Q ↔ zS 17 16 [zR a0, zR a1] [zR a0] sh pp mm Q := s_go cD_begin_15 cD_begin_16 rfl rfl
theorem rD_begin_16 {a0 a1 s0 : Nat} (hk : zKd sh s0 = 1) : zS 17 16 [zR a0, zR a1] [zR s0] sh pp mm Q ↔ zS 17 19 [zR a0, zR a1] [zR (pp s0 7)] sh pp mm Q := s_go cD_begin_16 cD_begin_19 (if_pos hk) rfl
theorem rD_begin_19 {a0 a1 s0 : Nat} : zS 17 19 [zR a0, zR a1] [zR s0] sh pp mm Q ↔ zS 17 20 [zR a0, zR a1] [zR a1, zR s0] sh pp mm Q := s_go cD_begin_19 cD_begin_20 rfl rfl
theorem rD_begin_20 {a0 a1 s0 s1 : Nat} : zS 17 20 [zR a0, zR a1] [zR s0, zR s1] sh pp mm Q ↔ zS 17 21 [zR a0, zR a1] [zI 3, zR s0, zR s1] sh pp mm Q := s_go cD_begin_20 cD_begin_21 rfl rfl
theorem rD_begin_21 {a0 a1 s1 s2 : Nat} {s0 : Int} (hk : zKd sh s1 = 20 ∨ zKd sh s1 = 30) (h0 : 0 ≤ s0) (h1 : s0 < zLn sh s1) : zS 17 21 [zR a0, zR a1] [zI s0, zR s1, zR s2] sh pp mm Q ↔ zS 17 22 [zR a0, zR a1] [zI (mm s1 s0), zR s2] sh pp mm Q := s_go cD_begin_21 cD_begin_22 (if_pos ⟨hk, h0, h1⟩) rfl
theorem rD_begin_22 {a0 a1 s1 : Nat} {s0 : Int} : zS 17 22 [zR a0, zR a1] [zI s0, zR s1] sh pp mm Q ↔ zS 17 23 [zR a0, zU] [zR a1, zI s0, zR s1] sh pp mm Q := s_go cD_begin_22 cD_begin_23 rfl rfl
theorem rD_begin_23 {a0 s0 s2 : Nat} {s1 : Int} {u1 : zV} : zS 17 23 [zR a0, u1] [zR s0, zI s1, zR s2] sh pp mm Q ↔ zS 17 24 [zR a0, zU] [zI 1, zR s0, zI s1, zR s2] sh pp mm Q := s_go cD_begin_23 cD_begin_24 rfl rfl
theorem rD_begin_24 {a0 s1 s3 : Nat} {s0 s2 : Int} {u1 : zV} (hk : zKd sh s1 = 20 ∨ zKd sh s1 = 30) (h0 : 0 ≤ s0) (h1 : s0 < zLn sh s1) : zS 17 24 [zR a0, u1] [zI s0, zR s1, zI s2, zR s3] sh pp mm Q ↔ zS 17 25 [zR a0, zU] [zI (mm s1 s0), zI s2, zR s3] sh pp mm Q := s_go cD_begin_24 cD_begin_25 (if_pos ⟨hk, h0, h1⟩) rfl
theorem rD_begin_25 {a0 s2 : Nat} {s0 s1 : Int} {u1 : zV} : zS 17 25 [zR a0, u1] [zI s0, zI s1, zR s2] sh pp mm Q ↔ zS 17 27 [zR a0, zU] [zI 15, zI s0, zI s1, zR s2] sh pp mm Q := s_go cD_begin_25 cD_begin_27 rfl rfl
theorem rD_begin_27 {a0 s3 : Nat} {s0 s1 s2 : Int} {u1 : zV} (hk : zKd sh s3 = 4) : zS 17 27 [zR a0, u1] [zI s0, zI s1, zI s2, zR s3] sh pp mm Q ↔ zS 44 0 [zR s3, zI s2, zI s1, zI s0] [] sh pp mm (fun v sh pp mm => zS 17 30 [zR a0, zU] (zPush v []) sh pp mm Q) := s_call cD_begin_27 cD_begin_30 ((if_pos hk).trans rfl) rfl
theorem rD_begin_30 {a0 : Nat} {u1 : zV} : zS 17 30 [zR a0, u1] [] sh pp mm Q ↔ zS 17 31 [zR a0, zU] [zR a0] sh pp mm Q := s_go cD_begin_30 cD_begin_31 rfl rfl
theorem rD_begin_31 {a0 s0 : Nat} {u1 : zV} (hk : zKd sh s0 = 1) : zS 17 31 [zR a0, u1] [zR s0] sh pp mm Q ↔ zS 17 34 [zR a0, zU] [zR (pp s0 0)] sh pp mm Q := s_go cD_begin_31 cD_begin_34 (if_pos hk) rfl
theorem rD_begin_34 {a0 s0 : Nat} {u1 : zV} : zS 17 34 [zR a0, u1] [zR s0] sh pp mm Q ↔ zS 17 35 [zR a0, zU] [zI 0, zR s0] sh pp mm Q := s_go cD_begin_34 cD_begin_35 rfl rfl
theorem rD_begin_35 {a0 s1 : Nat} {s0 : Int} {u1 : zV} : zS 17 35 [zR a0, u1] [zI s0, zR s1] sh pp mm Q ↔ zS 271 0 [zR s1, zI s0, zU, zU] [] sh pp mm (fun v sh pp mm => zS 17 38 [zR a0, zU] (zPush v []) sh pp mm Q) := s_call cD_begin_35 cD_begin_38 rfl rfl
theorem rD_begin_38 {a0 : Nat} {u1 : zV} : zS 17 38 [zR a0, u1] [] sh pp mm Q ↔ zS 17 39 [zR a0, zU] [zR a0] sh pp mm Q := s_go cD_begin_38 cD_begin_39 rfl rfl
theorem rD_begin_39 {a0 s0 : Nat} {u1 : zV} : zS 17 39 [zR a0, u1] [zR s0] sh pp mm Q ↔ zS 17 40 [zR a0, zU] [zI 0, zR s0] sh pp mm Q := s_go cD_begin_39 cD_begin_40 rfl rfl
theorem rD_begin_40 {a0 s1 : Nat} {s0 : Int} {u1 : zV} (hk : zKd sh s1 = 1) : zS 17 40 [zR a0, u1] [zI s0, zR s1] sh pp mm Q ↔ zS 17 43 [zR a0, zU] [] sh pp (zupd mm s1 2 s0) Q := s_go cD_begin_40 cD_begin_43 (if_pos ⟨hk, Or.inl rfl⟩) rfl
theorem rD_begin_43 {a0 : Nat} {u1 : zV} : zS 17 43 [zR a0, u1] [] sh pp mm Q ↔ zS 17 44 [zR a0, zU] [zR a0] sh pp mm Q := s_go cD_begin_43 cD_begin_44 rfl rfl
theorem rD_begin_44 {a0 s0 : Nat} {u1 : zV} : zS 17 44 [zR a0, u1] [zR s0] sh pp mm Q ↔ zS 17 45 [zR a0, zU] [zI 0, zR s0] sh pp mm Q := s_go cD_begin_44 cD_begin_45 rfl rfl
theorem rD_begin_45 {a0 s1 : Nat} {s0 : Int} {u1 : zV} (hk : zKd sh s1 = 1) : zS 17 45 [zR a0, u1] [zI s0, zR s1] sh pp mm Q ↔ zS 17 48 [zR a0, zU] [] sh pp (zupd mm s1 3 s0) Q := s_go cD_begin_45 cD_begin_48 (if_pos ⟨hk, Or.inl rfl⟩) rfl
theorem rD_begin_48 {a0 : Nat} {u1 : zV} : zS 17 48 [zR a0, u1] [] sh pp mm Q ↔ zS 17 49 [zR a0, zU] [zR a0] sh pp mm Q := s_go cD_begin_48 cD_begin_49 rfl rfl
theorem rD_begin_49 {a0 s0 : Nat} {u1 : zV} : zS 17 49 [zR a0, u1] [zR s0] sh pp mm Q ↔ zS 17 50 [zR a0, zU] [zI 0, zR s0] sh pp mm Q := s_go cD_begin_49 cD_begin_50 rfl rfl
theorem rD_begin_50 {a0 s1 : Nat} {s0 : Int} {u1 : zV} (hk : zKd sh s1 = 1) : zS 17 50 [zR a0, u1] [zI s0, zR s1] sh pp mm Q ↔ zS 17 53 [zR a0, zU] [] sh pp (zupd mm s1 8 s0) Q := s_go cD_begin_50 cD_begin_53 (if_pos ⟨hk, Or.inl rfl⟩) rfl
theorem rD_begin_53 {a0 : Nat} {u1 : zV} : zS 17 53 [zR a0, u1] [] sh pp mm Q ↔ zS 17 54 [zR a0, zU] [zR a0] sh pp mm Q := s_go cD_begin_53 cD_begin_54 rfl rfl
theorem rD_begin_54 {a0 s0 : Nat} {u1 : zV} : zS 17 54 [zR a0, u1] [zR s0] sh pp mm Q ↔ zS 17 55 [zR a0, zU] [zI 0, zR s0] sh pp mm Q := s_go cD_begin_54 cD_begin_55 rfl rfl
theorem rD_begin_55 {a0 s1 : Nat} {s0 : Int} {u1 : zV} (hk : zKd sh s1 = 1) : zS 17 55 [zR a0, u1] [zI s0, zR s1] sh pp mm Q ↔ zS 17 58 [zR a0, zU] [] sh pp (zupd mm s1 11 s0) Q := s_go cD_begin_55 cD_begin_58 (if_pos ⟨hk, Or.inl rfl⟩) rfl
theorem rD_begin_58 {a0 : Nat} {u1 : zV} : zS 17 58 [zR a0, u1] [] sh pp mm Q ↔ zS 17 59 [zR a0, zU] [zR a0] sh pp mm Q := s_go cD_begin_58 cD_begin_59 rfl rfl
theorem rD_begin_59 {a0 s0 : Nat} {u1 : zV} : zS 17 59 [zR a0, u1] [zR s0] sh pp mm Q ↔ zS 17 60 [zR a0, zU] [zI 0, zR s0] sh pp mm Q := s_go cD_begin_59 cD_begin_60 rfl rfl
theorem rD_begin_60 {a0 s1 : Nat} {s0 : Int} {u1 : zV} (hk : zKd sh s1 = 1) (hb : s0 = 0 ∨ s0 = 1) : zS 17 60 [zR a0, u1] [zI s0, zR s1] sh pp mm Q ↔ zS 17 63 [zR a0, zU] [] sh pp (zupd mm s1 4 s0) Q := s_go cD_begin_60 cD_begin_63 (if_pos ⟨hk, Or.inr ⟨rfl, hb⟩⟩) rfl
theorem rD_begin_63 {a0 : Nat} {u1 : zV} : zS 17 63 [zR a0, u1] [] sh pp mm Q ↔ zS 17 64 [zU, zU] [zR a0] sh pp mm Q := s_go cD_begin_63 cD_begin_64 rfl rfl
theorem rD_begin_64 {s0 : Nat} {u0 u1 : zV} (hk : zKd sh s0 = 1) : zS 17 64 [u0, u1] [zR s0] sh pp mm Q ↔ zS 24 0 [zR s0, zU] [] sh pp mm (fun v sh pp mm => zS 17 67 [zU, zU] (zPush v []) sh pp mm Q) := s_call cD_begin_64 cD_begin_67 ((if_pos hk).trans rfl) rfl
theorem rD_begin_67 {u0 u1 : zV} : zS 17 67 [u0, u1] [] sh pp mm Q ↔ Q zU sh pp mm := s_ret cD_begin_67 rfl
theorem cAD_performItem : ∀ q ∈ zT18, zCode 18 q.1 = some q.2 := zAll (mid := 18) rfl (by decide +kernel)
theorem cAD_performItem_0 : ∀ q ∈ zT18_0, zCode 18 q.1 = some q.2 := fun q h => cAD_performItem q (List.mem_append_left _ h)
theorem cAD_performItem_1 : ∀ q ∈ zT18_1, zCode 18 q.1 = some q.2 := fun q h => cAD_performItem q (List.mem_append_right _ (List.mem_append_left _ h))
theorem cAD_performItem_2 : ∀ q ∈ zT18_2, zCode 18 q.1 = some q.2 := fun q h => cAD_performItem q (List.mem_append_right _ (List.mem_append_right _ (List.mem_append_left _ h)))
theorem cAD_performItem_3 : ∀ q ∈ zT18_3, zCode 18 q.1 = some q.2 := fun q h => cAD_performItem q (List.mem_append_right _ (List.mem_append_right _ (List.mem_append_right _ (List.mem_append_left _ h))))
theorem cAD_performItem_4 : ∀ q ∈ zT18_4, zCode 18 q.1 = some q.2 := fun q h => cAD_performItem q (List.mem_append_right _ (List.mem_append_right _ (List.mem_append_right _ (List.mem_append_right _ (List.mem_append_left _ h)))))
theorem cAD_performItem_5 : ∀ q ∈ zT18_5, zCode 18 q.1 = some q.2 := fun q h => cAD_performItem q (List.mem_append_right _ (List.mem_append_right _ (List.mem_append_right _ (List.mem_append_right _ (List.mem_append_right _ (List.mem_append_left _ h))))))
theorem cAD_performItem_6 : ∀ q ∈ zT18_6, zCode 18 q.1 = some q.2 := fun q h => cAD_performItem q (List.mem_append_right _ (List.mem_append_right _ (List.mem_append_right _ (List.mem_append_right _ (List.mem_append_right _ (List.mem_append_right _ h))))))
theorem cD_performItem_0 : zCode 18 0 = some (.aload_n 1, 1, 0, 0, 0, 0, 15) := cAD_performItem_0 _ (List.mem_of_getElem? (i := 0) rfl)
theorem cD_performItem_1 : zCode 18 1 = some (.getfield 82, 4, 8, 0, 2, 370, 15) := cAD_performItem_0 _ (List.mem_of_getElem? (i := 1) rfl)
theorem cD_performItem_4 : zCode 18 4 = some (.iload_n 2, 5, 0, 0, 0, 0, 15) := cAD_performItem_0 _ (List.mem_of_getElem? (i := 2) rfl)
theorem cD_performItem_5 : zCode 18 5 = some (.iaload, 6, 0, 0, 0, 0, 15) := cAD_performItem_0 _ (List.mem_of_getElem? (i := 3) rfl)
theorem cD_performItem_6 : zCode 18 6 = some (.istore 4, 8, 0, 0, 0, 0, 15) := cAD_performItem_0 _ (List.mem_of_getElem? (i := 4) rfl)
theorem cD_performItem_8 : zCode 18 8 = some (.iload 4, 10, 0, 0, 0, 0, 31) := cAD_performItem_0 _ (List.mem_of_getElem? (i := 5) rfl)
theorem cD_performItem_10 : zCode 18 10 = some (.bipush 7, 12, 0, 0, 0, 0, 31) := cAD_performItem_0 _ (List.mem_of_getElem? (i := 6) rfl)
theorem cD_performItem_12 : zCode 18 12 = some (.if_icmp .ne 9, 15, 21, 0, 0, 0, 31) := cAD_performItem_0 _ (List.mem_of_getElem? (i := 7) rfl)
theorem cD_performItem_15 : zCode 18 15 = some (.aload_n 0, 16, 0, 0, 0, 0, 5) := cAD_performItem_0 _ (List.mem_of_getElem? (i := 8) rfl)
theorem cD_performItem_16 : zCode 18 16 = some (.iload_n 2, 17, 0, 0, 0, 0, 4) := cAD_performItem_0 _ (List.mem_of_getElem? (i := 9) rfl)
theorem cD_performItem_17 : zCode 18 17 = some (.invokevirtual 85, 20, 20, 1, 3, 1, 0) := cAD_performItem_0 _ (List.mem_of_getElem? (i := 10) rfl)
theorem cD_performItem_20 : zCode 18 20 = some (.ireturn, 21, 0, 0, 0, 0, 0) := cAD_performItem_0 _ (List.mem_of_getElem? (i := 11) rfl)
theorem cD_performItem_21 : zCode 18 21 = some (.aload_n 1, 22, 0, 0, 0, 0, 31) := cAD_performItem_0 _ (List.mem_of_getElem? (i := 12) rfl)
theorem cD_performItem_22 : zCode 18 22 = some (.getfield 89, 25, 8, 1, 2, 372, 31) := cAD_performItem_0 _ (List.mem_of_getElem? (i := 13) rfl)
theorem cD_performItem_25 : zCode 18 25 = some (.iload_n 2, 26, 0, 0, 0, 0, 31) := cAD_performItem_0 _ (List.mem_of_getElem? (i := 14) rfl)
theorem cD_performItem_26 : zCode 18 26 = some (.iaload, 27, 0, 0, 0, 0, 31) := cAD_performItem_0 _ (List.mem_of_getElem? (i := 15) rfl)
theorem cD_performItem_27 : zCode 18 27 = some (.istore 5, 29, 0, 0, 0, 0, 31) := cAD_performItem_1 _ (List.mem_of_getElem? (i := 0) rfl)
theorem cD_performItem_29 : zCode 18 29 = some (.aload_n 1, 30, 0, 0, 0, 0, 63) := cAD_performItem_1 _ (List.mem_of_getElem? (i := 1) rfl)
theorem cD_performItem_30 : zCode 18 30 = some (.getfield 92, 33, 8, 2, 2, 374, 61) := cAD_performItem_1 _ (List.mem_of_getElem? (i := 2) rfl)
theorem cD_performItem_33 : zCode 18 33 = some (.iload_n 2, 34, 0, 0, 0, 0, 61) := cAD_performItem_1 _ (List.mem_of_getElem? (i := 3) rfl)
theorem cD_performItem_34 : zCode 18 34 = some (.iaload, 35, 0, 0, 0, 0, 61) := cAD_performItem_1 _ (List.mem_of_getElem? (i := 4) rfl)
theorem cD_performItem_35 : zCode 18 35 = some (.istore 6, 37, 0, 0, 0, 0, 61) := cAD_performItem_1 _ (List.mem_of_getElem? (i := 5) rfl)
theorem cD_performItem_37 : zCode 18 37 = some (.iload 4, 39, 0, 0, 0, 0, 125) := cAD_performItem_1 _ (List.mem_of_getElem? (i := 6) rfl)
theorem cD_performItem_39 : zCode 18 39 = some (.iconst 4, 40, 0, 0, 0, 0, 125) := cAD_performItem_1 _ (List.mem_of_getElem? (i := 7) rfl)
theorem cD_performItem_40 : zCode 18 40 = some (.if_icmp .ne 7, 43, 47, 0, 0, 0, 125) := cAD_performItem_1 _ (List.mem_of_getElem? (i := 8) rfl)
theorem cD_performItem_43 : zCode 18 43 = some (.iconst 1, 44, 0, 0, 0, 0, 125) := cAD_performItem_1 _ (List.mem_of_getElem? (i := 9) rfl)
theorem cD_performItem_44 : zCode 18 44 = some (.goto 4, 47, 48, 0, 0, 0, 125) := cAD_performItem_1 _ (List.mem_of_getElem? (i := 10) rfl)
theorem cD_performItem_47 : zCode 18 47 = some (.iconst 0, 48, 0, 0, 0, 0, 125) := cAD_performItem_1 _ (List.mem_of_getElem? (i := 11) rfl)
theorem cD_performItem_48 : zCode 18 48 = some (.istore 7, 50, 0, 0, 0, 0, 125) := cAD_performItem_1 _ (List.mem_of_getElem? (i := 12) rfl)
theorem cD_performItem_50 : zCode 18 50 = some (.iload 7, 52, 0, 0, 0, 0, 253) := cAD_performItem_1 _ (List.mem_of_getElem? (i := 13) rfl)
theorem cD_performItem_52 : zCode 18 52 = some (.ifCond .eq 25, 55, 77, 0, 0, 0, 253) := cAD_performItem_1 _ (List.mem_of_getElem? (i := 14) rfl)
theorem cD_performItem_55 : zCode 18 55 = some (.aload_n 0, 56, 0, 0, 0, 0, 253) := cAD_performItem_1 _ (List.mem_of_getElem? (i := 15) rfl)
theorem cD_performItem_56 : zCode 18 56 = some (.getfield 18, 59, 1, 2, 0, 467, 253) := cAD_performItem_2 _ (List.mem_of_getElem? (i := 0) rfl)
theorem cD_performItem_59 : zCode 18 59 = some (.iload 5, 61, 0, 0, 0, 0, 253) := cAD_performItem_2 _ (List.mem_of_getElem? (i := 1) rfl)
theorem cD_performItem_61 : zCode 18 61 = some (.iload 6, 63, 0, 0, 0, 0, 253) := cAD_performItem_2 _ (List.mem_of_getElem? (i := 2) rfl)
theorem cD_performItem_63 : zCode 18 63 = some (.invokestatic 94, 66, 21, 2, 2, 1, 253) := cAD_performItem_2 _ (List.mem_of_getElem? (i := 3) rfl)
theorem cD_performItem_66 : zCode 18 66 = some (.iadd, 67, 0, 0, 0, 0, 253) := cAD_performItem_2 _ (List.mem_of_getElem? (i := 4) rfl)
theorem cD_performItem_67 : zCode 18 67 = some (.sipush 2000, 70, 0, 0, 0, 0, 253) := cAD_performItem_2 _ (List.mem_of_getElem? (i := 5) rfl)
theorem cD_performItem_70 : zCode 18 70 = some (.if_icmp .le 7, 73, 77, 0, 0, 0, 253) := cAD_performItem_2 _ (List.mem_of_getElem? (i := 6) rfl)
theorem cD_performItem_73 : zCode 18 73 = some (.iconst 1, 74, 0, 0, 0, 0, 253) := cAD_performItem_2 _ (List.mem_of_getElem? (i := 7) rfl)
theorem cD_performItem_74 : zCode 18 74 = some (.goto 4, 77, 78, 0, 0, 0, 253) := cAD_performItem_2 _ (List.mem_of_getElem? (i := 8) rfl)
theorem cD_performItem_77 : zCode 18 77 = some (.iconst 0, 78, 0, 0, 0, 0, 253) := cAD_performItem_2 _ (List.mem_of_getElem? (i := 9) rfl)
theorem cD_performItem_78 : zCode 18 78 = some (.istore 8, 80, 0, 0, 0, 0, 253) := cAD_performItem_2 _ (List.mem_of_getElem? (i := 10) rfl)
theorem cD_performItem_80 : zCode 18 80 = some (.iload 8, 82, 0, 0, 0, 0, 509) := cAD_performItem_2 _ (List.mem_of_getElem? (i := 11) rfl)
theorem cD_performItem_82 : zCode 18 82 = some (.ifCond .ne 13, 85, 95, 0, 0, 0, 253) := cAD_performItem_2 _ (List.mem_of_getElem? (i := 12) rfl)
theorem cD_performItem_85 : zCode 18 85 = some (.aload_n 0, 86, 0, 0, 0, 0, 253) := cAD_performItem_2 _ (List.mem_of_getElem? (i := 13) rfl)
theorem cD_performItem_86 : zCode 18 86 = some (.getfield 42, 89, 1, 8, 0, 477, 253) := cAD_performItem_2 _ (List.mem_of_getElem? (i := 14) rfl)
theorem cD_performItem_89 : zCode 18 89 = some (.sipush 300, 92, 0, 0, 0, 0, 253) := cAD_performItem_2 _ (List.mem_of_getElem? (i := 15) rfl)
theorem cD_performItem_92 : zCode 18 92 = some (.if_icmp .lt 10, 95, 102, 0, 0, 0, 253) := cAD_performItem_3 _ (List.mem_of_getElem? (i := 0) rfl)
theorem cD_performItem_95 : zCode 18 95 = some (.aload_n 0, 96, 0, 0, 0, 0, 5) := cAD_performItem_3 _ (List.mem_of_getElem? (i := 1) rfl)
theorem cD_performItem_96 : zCode 18 96 = some (.iconst 1, 97, 0, 0, 0, 0, 4) := cAD_performItem_3 _ (List.mem_of_getElem? (i := 2) rfl)
theorem cD_performItem_97 : zCode 18 97 = some (.putfield 25, 100, 1, 4, 3, 471, 4) := cAD_performItem_3 _ (List.mem_of_getElem? (i := 3) rfl)
theorem cD_performItem_100 : zCode 18 100 = some (.iload_n 2, 101, 0, 0, 0, 0, 4) := cAD_performItem_3 _ (List.mem_of_getElem? (i := 4) rfl)
theorem cD_performItem_101 : zCode 18 101 = some (.ireturn, 102, 0, 0, 0, 0, 0) := cAD_performItem_3 _ (List.mem_of_getElem? (i := 5) rfl)
theorem cD_performItem_102 : zCode 18 102 = some (.aload_n 0, 103, 0, 0, 0, 0, 253) := cAD_performItem_3 _ (List.mem_of_getElem? (i := 6) rfl)
theorem cD_performItem_103 : zCode 18 103 = some (.dup, 104, 0, 0, 0, 0, 253) := cAD_performItem_3 _ (List.mem_of_getElem? (i := 7) rfl)
theorem cD_performItem_104 : zCode 18 104 = some (.getfield 42, 107, 1, 8, 0, 477, 253) := cAD_performItem_3 _ (List.mem_of_getElem? (i := 8) rfl)
theorem cD_performItem_107 : zCode 18 107 = some (.iconst 1, 108, 0, 0, 0, 0, 253) := cAD_performItem_3 _ (List.mem_of_getElem? (i := 9) rfl)
theorem cD_performItem_108 : zCode 18 108 = some (.iadd, 109, 0, 0, 0, 0, 253) := cAD_performItem_3 _ (List.mem_of_getElem? (i := 10) rfl)
theorem cD_performItem_109 : zCode 18 109 = some (.putfield 42, 112, 1, 8, 0, 477, 253) := cAD_performItem_3 _ (List.mem_of_getElem? (i := 11) rfl)
theorem cD_performItem_112 : zCode 18 112 = some (.iload 7, 114, 0, 0, 0, 0, 253) := cAD_performItem_3 _ (List.mem_of_getElem? (i := 12) rfl)
theorem cD_performItem_114 : zCode 18 114 = some (.ifCond .eq 42, 117, 156, 0, 0, 0, 125) := cAD_performItem_3 _ (List.mem_of_getElem? (i := 13) rfl)
theorem cD_performItem_117 : zCode 18 117 = some (.aload_n 0, 118, 0, 0, 0, 0, 109) := cAD_performItem_3 _ (List.mem_of_getElem? (i := 14) rfl)
theorem cD_performItem_118 : zCode 18 118 = some (.iload 5, 120, 0, 0, 0, 0, 109) := cAD_performItem_3 _ (List.mem_of_getElem? (i := 15) rfl)
theorem cD_performItem_120 : zCode 18 120 = some (.iload 6, 122, 0, 0, 0, 0, 109) := cAD_performItem_4 _ (List.mem_of_getElem? (i := 0) rfl)
theorem cD_performItem_122 : zCode 18 122 = some (.invokevirtual 98, 125, 23, 2, 7, 1, 109) := cAD_performItem_4 _ (List.mem_of_getElem? (i := 1) rfl)
theorem cD_performItem_125 : zCode 18 125 = some (.aload_n 0, 126, 0, 0, 0, 0, 109) := cAD_performItem_4 _ (List.mem_of_getElem? (i := 2) rfl)
theorem cD_performItem_126 : zCode 18 126 = some (.dup, 127, 0, 0, 0, 0, 108) := cAD_performItem_4 _ (List.mem_of_getElem? (i := 3) rfl)
theorem cD_performItem_127 : zCode 18 127 = some (.getfield 22, 130, 1, 3, 0, 469, 108) := cAD_performItem_4 _ (List.mem_of_getElem? (i := 4) rfl)
theorem cD_performItem_130 : zCode 18 130 = some (.iload 5, 132, 0, 0, 0, 0, 108) := cAD_performItem_4 _ (List.mem_of_getElem? (i := 5) rfl)
theorem cD_performItem_132 : zCode 18 132 = some (.aload_n 3, 133, 0, 0, 0, 0, 76) := cAD_performItem_4 _ (List.mem_of_getElem? (i := 6) rfl)
theorem cD_performItem_133 : zCode 18 133 = some (.iconst 4, 134, 0, 0, 0, 0, 76) := cAD_performItem_4 _ (List.mem_of_getElem? (i := 7) rfl)
theorem cD_performItem_134 : zCode 18 134 = some (.iaload, 135, 0, 0, 0, 0, 76) := cAD_performItem_4 _ (List.mem_of_getElem? (i := 8) rfl)
theorem cD_performItem_135 : zCode 18 135 = some (.invokestatic 102, 138, 22, 2, 2, 1, 76) := cAD_performItem_4 _ (List.mem_of_getElem? (i := 9) rfl)
theorem cD_performItem_138 : zCode 18 138 = some (.iload 6, 140, 0, 0, 0, 0, 76) := cAD_performItem_4 _ (List.mem_of_getElem? (i := 10) rfl)
theorem cD_performItem_140 : zCode 18 140 = some (.aload_n 3, 141, 0, 0, 0, 0, 12) := cAD_performItem_4 _ (List.mem_of_getElem? (i := 11) rfl)
theorem cD_performItem_141 : zCode 18 141 = some (.iconst 5, 142, 0, 0, 0, 0, 4) := cAD_performItem_4 _ (List.mem_of_getElem? (i := 12) rfl)
theorem cD_performItem_142 : zCode 18 142 = some (.iaload, 143, 0, 0, 0, 0, 4) := cAD_performItem_4 _ (List.mem_of_getElem? (i := 13) rfl)
theorem cD_performItem_143 : zCode 18 143 = some (.invokestatic 102, 146, 22, 2, 2, 1, 4) := cAD_performItem_4 _ (List.mem_of_getElem? (i := 14) rfl)
theorem cD_performItem_146 : zCode 18 146 = some (.invokestatic 105, 149, 259, 2, 2, 15, 4) := cAD_performItem_4 _ (List.mem_of_getElem? (i := 15) rfl)
theorem cD_performItem_149 : zCode 18 149 = some (.iadd, 150, 0, 0, 0, 0, 4) := cAD_performItem_5 _ (List.mem_of_getElem? (i := 0) rfl)
theorem cD_performItem_150 : zCode 18 150 = some (.putfield 22, 153, 1, 3, 0, 469, 4) := cAD_performItem_5 _ (List.mem_of_getElem? (i := 1) rfl)
theorem cD_performItem_153 : zCode 18 153 = some (.goto 25, 156, 178, 0, 0, 0, 4) := cAD_performItem_5 _ (List.mem_of_getElem? (i := 2) rfl)
theorem cD_performItem_156 : zCode 18 156 = some (.iload 4, 158, 0, 0, 0, 0, 53) := cAD_performItem_5 _ (List.mem_of_getElem? (i := 3) rfl)
theorem cD_performItem_158 : zCode 18 158 = some (.iconst 5, 159, 0, 0, 0, 0, 37) := cAD_performItem_5 _ (List.mem_of_getElem? (i := 4) rfl)
theorem cD_performItem_159 : zCode 18 159 = some (.if_icmp .ne 12, 162, 171, 0, 0, 0, 37) := cAD_performItem_5 _ (List.mem_of_getElem? (i := 5) rfl)
theorem cD_performItem_162 : zCode 18 162 = some (.aload_n 0, 163, 0, 0, 0, 0, 37) := cAD_performItem_5 _ (List.mem_of_getElem? (i := 6) rfl)
theorem cD_performItem_163 : zCode 18 163 = some (.iload 5, 165, 0, 0, 0, 0, 36) := cAD_performItem_5 _ (List.mem_of_getElem? (i := 7) rfl)
theorem cD_performItem_165 : zCode 18 165 = some (.invokevirtual 110, 168, 25, 1, 4, 1, 4) := cAD_performItem_5 _ (List.mem_of_getElem? (i := 8) rfl)
theorem cD_performItem_168 : zCode 18 168 = some (.goto 10, 171, 178, 0, 0, 0, 4) := cAD_performItem_5 _ (List.mem_of_getElem? (i := 9) rfl)
theorem cD_performItem_171 : zCode 18 171 = some (.aload_n 0, 172, 0, 0, 0, 0, 37) := cAD_performItem_5 _ (List.mem_of_getElem? (i := 10) rfl)
theorem cD_performItem_172 : zCode 18 172 = some (.iload_n 2, 173, 0, 0, 0, 0, 36) := cAD_performItem_5 _ (List.mem_of_getElem? (i := 11) rfl)
theorem cD_performItem_173 : zCode 18 173 = some (.iload 5, 175, 0, 0, 0, 0, 36) := cAD_performItem_5 _ (List.mem_of_getElem? (i := 12) rfl)
theorem cD_performItem_175 : zCode 18 175 = some (.invokevirtual 114, 178, 19, 2, 3, 1, 4) := cAD_performItem_5 _ (List.mem_of_getElem? (i := 13) rfl)
theorem cD_performItem_178 : zCode 18 178 = some (.iload_n 2, 179, 0, 0, 0, 0, 4) := cAD_performItem_5 _ (List.mem_of_getElem? (i := 14) rfl)
theorem cD_performItem_179 : zCode 18 179 = some (.iconst 1, 180, 0, 0, 0, 0, 0) := cAD_performItem_5 _ (List.mem_of_getElem? (i := 15) rfl)
theorem cD_performItem_180 : zCode 18 180 = some (.iadd, 181, 0, 0, 0, 0, 0) := cAD_performItem_6 _ (List.mem_of_getElem? (i := 0) rfl)
theorem cD_performItem_181 : zCode 18 181 = some (.ireturn, 182, 0, 0, 0, 0, 0) := cAD_performItem_6 _ (List.mem_of_getElem? (i := 1) rfl)
theorem rD_performItem_0 {a0 a1 a3 : Nat} {a2 : Int} {u4 u5 u6 u7 u8 : zV} : zS 18 0 [zR a0, zR a1, zI a2, zR a3, u4, u5, u6, u7, u8] [] sh pp mm Q ↔ zS 18 1 [zR a0, zR a1, zI a2, zR a3, zU, zU, zU, zU, zU] [zR a1] sh pp mm Q := s_go cD_performItem_0 cD_performItem_1 rfl rfl
theorem rD_performItem_1 {a0 a1 a3 s0 : Nat} {a2 : Int} {u4 u5 u6 u7 u8 : zV} (hk : zKd sh s0 = 8) : zS 18 1 [zR a0, zR a1, zI a2, zR a3, u4, u5, u6, u7, u8] [zR s0] sh pp mm Q ↔ zS 18 4 [zR a0, zR a1, zI a2, zR a3, zU, zU, zU, zU, zU] [zR (pp s0 0)] sh pp mm Q := s_go cD_performItem_1 cD_performItem_4 (if_pos hk) rfl
theorem rD_performItem_4 {a0 a1 a3 s0 : Nat} {a2 : Int} {u4 u5 u6 u7 u8 : zV} : zS 18 4 [zR a0, zR a1, zI a2, zR a3, u4, u5, u6, u7, u8] [zR s0] sh pp mm Q ↔ zS 18 5 [zR a0, zR a1, zI a2, zR a3, zU, zU, zU, zU, zU] [zI a2, zR s0] sh pp mm Q := s_go cD_performItem_4 cD_performItem_5 rfl rfl
theorem rD_performItem_5 {a0 a1 a3 s1 : Nat} {a2 s0 : Int} {u4 u5 u6 u7 u8 : zV} (hk : zKd sh s1 = 20 ∨ zKd sh s1 = 30) (h0 : 0 ≤ s0) (h1 : s0 < zLn sh s1) : zS 18 5 [zR a0, zR a1, zI a2, zR a3, u4, u5, u6, u7, u8] [zI s0, zR s1] sh pp mm Q ↔ zS 18 6 [zR a0, zR a1, zI a2, zR a3, zU, zU, zU, zU, zU] [zI (mm s1 s0)] sh pp mm Q := s_go cD_performItem_5 cD_performItem_6 (if_pos ⟨hk, h0, h1⟩) rfl
theorem rD_performItem_6 {a0 a1 a3 : Nat} {a2 s0 : Int} {u4 u5 u6 u7 u8 : zV} : zS 18 6 [zR a0, zR a1, zI a2, zR a3, u4, u5, u6, u7, u8] [zI s0] sh pp mm Q ↔ zS 18 8 [zR a0, zR a1, zI a2, zR a3, zI s0, zU, zU, zU, zU] [] sh pp mm Q := s_go cD_performItem_6 cD_performItem_8 rfl rfl
theorem rD_performItem_8 {a0 a1 a3 : Nat} {a2 a4 : Int} {u5 u6 u7 u8 : zV} : zS 18 8 [zR a0, zR a1, zI a2, zR a3, zI a4, u5, u6, u7, u8] [] sh pp mm Q ↔ zS 18 10 [zR a0, zR a1, zI a2, zR a3, zI a4, zU, zU, zU, zU] [zI a4] sh pp mm Q := s_go cD_performItem_8 cD_performItem_10 rfl rfl
theorem rD_performItem_10 {a0 a1 a3 : Nat} {a2 a4 s0 : Int} {u5 u6 u7 u8 : zV} : zS 18 10 [zR a0, zR a1, zI a2, zR a3, zI a4, u5, u6, u7, u8] [zI s0] sh pp mm Q ↔ zS 18 12 [zR a0, zR a1, zI a2, zR a3, zI a4, zU, zU, zU, zU] [zI 7, zI s0] sh pp mm Q := s_go cD_performItem_10 cD_performItem_12 rfl rfl
theorem rD_performItem_12 {a0 a1 a3 : Nat} {a2 a4 s0 s1 : Int} {u5 u6 u7 u8 : zV} : zS 18 12 [zR a0, zR a1, zI a2, zR a3, zI a4, u5, u6, u7, u8] [zI s0, zI s1] sh pp mm Q ↔ (s1 = s0 → zS 18 15 [zR a0, zU, zI a2, zU, zU, zU, zU, zU, zU] [] sh pp mm Q) ∧ (¬ s1 = s0 → zS 18 21 [zR a0, zR a1, zI a2, zR a3, zI a4, zU, zU, zU, zU] [] sh pp mm Q) := s_ifn cD_performItem_12 cD_performItem_15 cD_performItem_21 rfl rfl rfl
theorem rD_performItem_15 {a0 : Nat} {a2 : Int} {u1 u3 u4 u5 u6 u7 u8 : zV} : zS 18 15 [zR a0, u1, zI a2, u3, u4, u5, u6, u7, u8] [] sh pp mm Q ↔ zS 18 16 [zU, zU, zI a2, zU, zU, zU, zU, zU, zU] [zR a0] sh pp mm Q := s_go cD_performItem_15 cD_performItem_16 rfl rfl
theorem rD_performItem_16 {s0 : Nat} {a2 : Int} {u0 u1 u3 u4 u5 u6 u7 u8 : zV} : zS 18 16 [u0, u1, zI a2, u3, u4, u5, u6, u7, u8] [zR s0] sh pp mm Q ↔ zS 18 17 [zU, zU, zU, zU, zU, zU, zU, zU, zU] [zI a2, zR s0] sh pp mm Q := s_go cD_performItem_16 cD_performItem_17 rfl rfl
theorem rD_performItem_17 {s1 : Nat} {s0 : Int} {u0 u1 u2 u3 u4 u5 u6 u7 u8 : zV} (hk : zKd sh s1 = 1) : zS 18 17 [u0, u1, u2, u3, u4, u5, u6, u7, u8] [zI s0, zR s1] sh pp mm Q ↔ zS 20 0 [zR s1, zI s0, zU] [] sh pp mm (fun v sh pp mm => zS 18 20 [zU, zU, zU, zU, zU, zU, zU, zU, zU] (zPush v []) sh pp mm Q) := s_call cD_performItem_17 cD_performItem_20 ((if_pos hk).trans rfl) rfl
theorem rD_performItem_20 {s0 : Int} {u0 u1 u2 u3 u4 u5 u6 u7 u8 : zV} : zS 18 20 [u0, u1, u2, u3, u4, u5, u6, u7, u8] [zI s0] sh pp mm Q ↔ Q (zI s0) sh pp mm := s_ret cD_performItem_20 rfl
theorem rD_performItem_21 {a0 a1 a3 : Nat} {a2 a4 : Int} {u5 u6 u7 u8 : zV} : zS 18 21 [zR a0, zR a1, zI a2, zR a3, zI a4, u5, u6, u7, u8] [] sh pp mm Q ↔ zS 18 22 [zR a0, zR a1, zI a2, zR a3, zI a4, zU, zU, zU, zU] [zR a1] sh pp mm Q := s_go cD_performItem_21 cD_performItem_22 rfl rfl
theorem rD_performItem_22 {a0 a1 a3 s0 : Nat} {a2 a4 : Int} {u5 u6 u7 u8 : zV} (hk : zKd sh s0 = 8) : zS 18 22 [zR a0, zR a1, zI a2, zR a3, zI a4, u5, u6, u7, u8] [zR s0] sh pp mm Q ↔ zS 18 25 [zR a0, zR a1, zI a2, zR a3, zI a4, zU, zU, zU, zU] [zR (pp s0 1)] sh pp mm Q := s_go cD_performItem_22 cD_performItem_25 (if_pos hk) rfl
theorem rD_performItem_25 {a0 a1 a3 s0 : Nat} {a2 a4 : Int} {u5 u6 u7 u8 : zV} : zS 18 25 [zR a0, zR a1, zI a2, zR a3, zI a4, u5, u6, u7, u8] [zR s0] sh pp mm Q ↔ zS 18 26 [zR a0, zR a1, zI a2, zR a3, zI a4, zU, zU, zU, zU] [zI a2, zR s0] sh pp mm Q := s_go cD_performItem_25 cD_performItem_26 rfl rfl
theorem rD_performItem_26 {a0 a1 a3 s1 : Nat} {a2 a4 s0 : Int} {u5 u6 u7 u8 : zV} (hk : zKd sh s1 = 20 ∨ zKd sh s1 = 30) (h0 : 0 ≤ s0) (h1 : s0 < zLn sh s1) : zS 18 26 [zR a0, zR a1, zI a2, zR a3, zI a4, u5, u6, u7, u8] [zI s0, zR s1] sh pp mm Q ↔ zS 18 27 [zR a0, zR a1, zI a2, zR a3, zI a4, zU, zU, zU, zU] [zI (mm s1 s0)] sh pp mm Q := s_go cD_performItem_26 cD_performItem_27 (if_pos ⟨hk, h0, h1⟩) rfl
theorem rD_performItem_27 {a0 a1 a3 : Nat} {a2 a4 s0 : Int} {u5 u6 u7 u8 : zV} : zS 18 27 [zR a0, zR a1, zI a2, zR a3, zI a4, u5, u6, u7, u8] [zI s0] sh pp mm Q ↔ zS 18 29 [zR a0, zR a1, zI a2, zR a3, zI a4, zI s0, zU, zU, zU] [] sh pp mm Q := s_go cD_performItem_27 cD_performItem_29 rfl rfl
theorem rD_performItem_29 {a0 a1 a3 : Nat} {a2 a4 a5 : Int} {u6 u7 u8 : zV} : zS 18 29 [zR a0, zR a1, zI a2, zR a3, zI a4, zI a5, u6, u7, u8] [] sh pp mm Q ↔ zS 18 30 [zR a0, zU, zI a2, zR a3, zI a4, zI a5, zU, zU, zU] [zR a1] sh pp mm Q := s_go cD_performItem_29 cD_performItem_30 rfl rfl
theorem rD_performItem_30 {a0 a3 s0 : Nat} {a2 a4 a5 : Int} {u1 u6 u7 u8 : zV} (hk : zKd sh s0 = 8) : zS 18 30 [zR a0, u1, zI a2, zR a3, zI a4, zI a5, u6, u7, u8] [zR s0] sh pp mm Q ↔ zS 18 33 [zR a0, zU, zI a2, zR a3, zI a4, zI a5, zU, zU, zU] [zR (pp s0 2)] sh pp mm Q := s_go cD_performItem_30 cD_performItem_33 (if_pos hk) rfl
theorem rD_performItem_33 {a0 a3 s0 : Nat} {a2 a4 a5 : Int} {u1 u6 u7 u8 : zV} : zS 18 33 [zR a0, u1, zI a2, zR a3, zI a4, zI a5, u6, u7, u8] [zR s0] sh pp mm Q ↔ zS 18 34 [zR a0, zU, zI a2, zR a3, zI a4, zI a5, zU, zU, zU] [zI a2, zR s0] sh pp mm Q := s_go cD_performItem_33 cD_performItem_34 rfl rfl
theorem rD_performItem_34 {a0 a3 s1 : Nat} {a2 a4 a5 s0 : Int} {u1 u6 u7 u8 : zV} (hk : zKd sh s1 = 20 ∨ zKd sh s1 = 30) (h0 : 0 ≤ s0) (h1 : s0 < zLn sh s1) : zS 18 34 [zR a0, u1, zI a2, zR a3, zI a4, zI a5, u6, u7, u8] [zI s0, zR s1] sh pp mm Q ↔ zS 18 35 [zR a0, zU, zI a2, zR a3, zI a4, zI a5, zU, zU, zU] [zI (mm s1 s0)] sh pp mm Q := s_go cD_performItem_34 cD_performItem_35 (if_pos ⟨hk, h0, h1⟩) rfl
theorem rD_performItem_35 {a0 a3 : Nat} {a2 a4 a5 s0 : Int} {u1 u6 u7 u8 : zV} : zS 18 35 [zR a0, u1, zI a2, zR a3, zI a4, zI a5, u6, u7, u8] [zI s0] sh pp mm Q ↔ zS 18 37 [zR a0, zU, zI a2, zR a3, zI a4, zI a5, zI s0, zU, zU] [] sh pp mm Q := s_go cD_performItem_35 cD_performItem_37 rfl rfl
theorem rD_performItem_37 {a0 a3 : Nat} {a2 a4 a5 a6 : Int} {u1 u7 u8 : zV} : zS 18 37 [zR a0, u1, zI a2, zR a3, zI a4, zI a5, zI a6, u7, u8] [] sh pp mm Q ↔ zS 18 39 [zR a0, zU, zI a2, zR a3, zI a4, zI a5, zI a6, zU, zU] [zI a4] sh pp mm Q := s_go cD_performItem_37 cD_performItem_39 rfl rfl
theorem rD_performItem_39 {a0 a3 : Nat} {a2 a4 a5 a6 s0 : Int} {u1 u7 u8 : zV} : zS 18 39 [zR a0, u1, zI a2, zR a3, zI a4, zI a5, zI a6, u7, u8] [zI s0] sh pp mm Q ↔ zS 18 40 [zR a0, zU, zI a2, zR a3, zI a4, zI a5, zI a6, zU, zU] [zI 4, zI s0] sh pp mm Q := s_go cD_performItem_39 cD_performItem_40 rfl rfl
theorem rD_performItem_40 {a0 a3 : Nat} {a2 a4 a5 a6 s0 s1 : Int} {u1 u7 u8 : zV} : zS 18 40 [zR a0, u1, zI a2, zR a3, zI a4, zI a5, zI a6, u7, u8] [zI s0, zI s1] sh pp mm Q ↔ (s1 = s0 → zS 18 43 [zR a0, zU, zI a2, zR a3, zI a4, zI a5, zI a6, zU, zU] [] sh pp mm Q) ∧ (¬ s1 = s0 → zS 18 47 [zR a0, zU, zI a2, zR a3, zI a4, zI a5, zI a6, zU, zU] [] sh pp mm Q) := s_ifn cD_performItem_40 cD_performItem_43 cD_performItem_47 rfl rfl rfl
theorem rD_performItem_43 {a0 a3 : Nat} {a2 a4 a5 a6 : Int} {u1 u7 u8 : zV} : zS 18 43 [zR a0, u1, zI a2, zR a3, zI a4, zI a5, zI a6, u7, u8] [] sh pp mm Q ↔ zS 18 44 [zR a0, zU, zI a2, zR a3, zI a4, zI a5, zI a6, zU, zU] [zI 1] sh pp mm Q := s_go cD_performItem_43 cD_performItem_44 rfl rfl
theorem rD_performItem_44 {a0 a3 : Nat} {a2 a4 a5 a6 s0 : Int} {u1 u7 u8 : zV} : zS 18 44 [zR a0, u1, zI a2, zR a3, zI a4, zI a5, zI a6, u7, u8] [zI s0] sh pp mm Q ↔ zS 18 48 [zR a0, zU, zI a2, zR a3, zI a4, zI a5, zI a6, zU, zU] [zI s0] sh pp mm Q := s_go cD_performItem_44 cD_performItem_48 rfl rfl
theorem rD_performItem_47 {a0 a3 : Nat} {a2 a4 a5 a6 : Int} {u1 u7 u8 : zV} : zS 18 47 [zR a0, u1, zI a2, zR a3, zI a4, zI a5, zI a6, u7, u8] [] sh pp mm Q ↔ zS 18 48 [zR a0, zU, zI a2, zR a3, zI a4, zI a5, zI a6, zU, zU] [zI 0] sh pp mm Q := s_go cD_performItem_47 cD_performItem_48 rfl rfl
theorem rD_performItem_48 {a0 a3 : Nat} {a2 a4 a5 a6 s0 : Int} {u1 u7 u8 : zV} : zS 18 48 [zR a0, u1, zI a2, zR a3, zI a4, zI a5, zI a6, u7, u8] [zI s0] sh pp mm Q ↔ zS 18 50 [zR a0, zU, zI a2, zR a3, zI a4, zI a5, zI a6, zI s0, zU] [] sh pp mm Q := s_go cD_performItem_48 cD_performItem_50 rfl rfl
theorem rD_performItem_50 {a0 a3 : Nat} {a2 a4 a5 a6 a7 : Int} {u1 u8 : zV} : zS 18 50 [zR a0, u1, zI a2, zR a3, zI a4, zI a5, zI a6, zI a7, u8] [] sh pp mm Q ↔ zS 18 52 [zR a0, zU, zI a2, zR a3, zI a4, zI a5, zI a6, zI a7, zU] [zI a7] sh pp mm Q := s_go cD_performItem_50 cD_performItem_52 rfl rfl
theorem rD_performItem_52 {a0 a3 : Nat} {a2 a4 a5 a6 a7 s0 : Int} {u1 u8 : zV} : zS 18 52 [zR a0, u1, zI a2, zR a3, zI a4, zI a5, zI a6, zI a7, u8] [zI s0] sh pp mm Q ↔ (s0 = 0 → zS 18 77 [zR a0, zU, zI a2, zR a3, zI a4, zI a5, zI a6, zI a7, zU] [] sh pp mm Q) ∧ (¬ s0 = 0 → zS 18 55 [zR a0, zU, zI a2, zR a3, zI a4, zI a5, zI a6, zI a7, zU] [] sh pp mm Q) := s_if cD_performItem_52 cD_performItem_77 cD_performItem_55 rfl rfl rfl
theorem rD_performItem_55 {a0 a3 : Nat} {a2 a4 a5 a6 a7 : Int} {u1 u8 : zV} : zS 18 55 [zR a0, u1, zI a2, zR a3, zI a4, zI a5, zI a6, zI a7, u8] [] sh pp mm Q ↔ zS 18 56 [zR a0, zU, zI a2, zR a3, zI a4, zI a5, zI a6, zI a7, zU] [zR a0] sh pp mm Q := s_go cD_performItem_55 cD_performItem_56 rfl rfl
theorem rD_performItem_56 {a0 a3 s0 : Nat} {a2 a4 a5 a6 a7 : Int} {u1 u8 : zV} (hk : zKd sh s0 = 1) : zS 18 56 [zR a0, u1, zI a2, zR a3, zI a4, zI a5, zI a6, zI a7, u8] [zR s0] sh pp mm Q ↔ zS 18 59 [zR a0, zU, zI a2, zR a3, zI a4, zI a5, zI a6, zI a7, zU] [zI (mm s0 2)] sh pp mm Q := s_go cD_performItem_56 cD_performItem_59 (if_pos hk) rfl
theorem rD_performItem_59 {a0 a3 : Nat} {a2 a4 a5 a6 a7 s0 : Int} {u1 u8 : zV} : zS 18 59 [zR a0, u1, zI a2, zR a3, zI a4, zI a5, zI a6, zI a7, u8] [zI s0] sh pp mm Q ↔ zS 18 61 [zR a0, zU, zI a2, zR a3, zI a4, zI a5, zI a6, zI a7, zU] [zI a5, zI s0] sh pp mm Q := s_go cD_performItem_59 cD_performItem_61 rfl rfl
theorem rD_performItem_61 {a0 a3 : Nat} {a2 a4 a5 a6 a7 s0 s1 : Int} {u1 u8 : zV} : zS 18 61 [zR a0, u1, zI a2, zR a3, zI a4, zI a5, zI a6, zI a7, u8] [zI s0, zI s1] sh pp mm Q ↔ zS 18 63 [zR a0, zU, zI a2, zR a3, zI a4, zI a5, zI a6, zI a7, zU] [zI a6, zI s0, zI s1] sh pp mm Q := s_go cD_performItem_61 cD_performItem_63 rfl rfl
theorem rD_performItem_63 {a0 a3 : Nat} {a2 a4 a5 a6 a7 s0 s1 s2 : Int} {u1 u8 : zV} : zS 18 63 [zR a0, u1, zI a2, zR a3, zI a4, zI a5, zI a6, zI a7, u8] [zI s0, zI s1, zI s2] sh pp mm Q ↔ zS 21 0 [zI s1, zI s0] [] sh pp mm (fun v sh pp mm => zS 18 66 [zR a0, zU, zI a2, zR a3, zI a4, zI a5, zI a6, zI a7, zU] (zPush v [zI s2]) sh pp mm Q) := s_call cD_performItem_63 cD_performItem_66 rfl rfl
theorem rD_performItem_66 {a0 a3 : Nat} {a2 a4 a5 a6 a7 s0 s1 : Int} {u1 u8 : zV} : zS 18 66 [zR a0, u1, zI a2, zR a3, zI a4, zI a5, zI a6, zI a7, u8] [zI s0, zI s1] sh pp mm Q ↔ zS 18 67 [zR a0, zU, zI a2, zR a3, zI a4, zI a5, zI a6, zI a7, zU] [zI (zw32 (s1 + s0))] sh pp mm Q := s_go cD_performItem_66 cD_performItem_67 rfl rfl
theorem rD_performItem_67 {a0 a3 : Nat} {a2 a4 a5 a6 a7 s0 : Int} {u1 u8 : zV} : zS 18 67 [zR a0, u1, zI a2, zR a3, zI a4, zI a5, zI a6, zI a7, u8] [zI s0] sh pp mm Q ↔ zS 18 70 [zR a0, zU, zI a2, zR a3, zI a4, zI a5, zI a6, zI a7, zU] [zI 2000, zI s0] sh pp mm Q := s_go cD_performItem_67 cD_performItem_70 rfl rfl
theorem rD_performItem_70 {a0 a3 : Nat} {a2 a4 a5 a6 a7 s0 s1 : Int} {u1 u8 : zV} : zS 18 70 [zR a0, u1, zI a2, zR a3, zI a4, zI a5, zI a6, zI a7, u8] [zI s0, zI s1] sh pp mm Q ↔ (s0 < s1 → zS 18 73 [zR a0, zU, zI a2, zR a3, zI a4, zI a5, zI a6, zI a7, zU] [] sh pp mm Q) ∧ (¬ s0 < s1 → zS 18 77 [zR a0, zU, zI a2, zR a3, zI a4, zI a5, zI a6, zI a7, zU] [] sh pp mm Q) := s_ifn cD_performItem_70 cD_performItem_73 cD_performItem_77 rfl rfl rfl
theorem rD_performItem_73 {a0 a3 : Nat} {a2 a4 a5 a6 a7 : Int} {u1 u8 : zV} : zS 18 73 [zR a0, u1, zI a2, zR a3, zI a4, zI a5, zI a6, zI a7, u8] [] sh pp mm Q ↔ zS 18 74 [zR a0, zU, zI a2, zR a3, zI a4, zI a5, zI a6, zI a7, zU] [zI 1] sh pp mm Q := s_go cD_performItem_73 cD_performItem_74 rfl rfl
theorem rD_performItem_74 {a0 a3 : Nat} {a2 a4 a5 a6 a7 s0 : Int} {u1 u8 : zV} : zS 18 74 [zR a0, u1, zI a2, zR a3, zI a4, zI a5, zI a6, zI a7, u8] [zI s0] sh pp mm Q ↔ zS 18 78 [zR a0, zU, zI a2, zR a3, zI a4, zI a5, zI a6, zI a7, zU] [zI s0] sh pp mm Q := s_go cD_performItem_74 cD_performItem_78 rfl rfl
theorem rD_performItem_77 {a0 a3 : Nat} {a2 a4 a5 a6 a7 : Int} {u1 u8 : zV} : zS 18 77 [zR a0, u1, zI a2, zR a3, zI a4, zI a5, zI a6, zI a7, u8] [] sh pp mm Q ↔ zS 18 78 [zR a0, zU, zI a2, zR a3, zI a4, zI a5, zI a6, zI a7, zU] [zI 0] sh pp mm Q := s_go cD_performItem_77 cD_performItem_78 rfl rfl
theorem rD_performItem_78 {a0 a3 : Nat} {a2 a4 a5 a6 a7 s0 : Int} {u1 u8 : zV} : zS 18 78 [zR a0, u1, zI a2, zR a3, zI a4, zI a5, zI a6, zI a7, u8] [zI s0] sh pp mm Q ↔ zS 18 80 [zR a0, zU, zI a2, zR a3, zI a4, zI a5, zI a6, zI a7, zI s0] [] sh pp mm Q := s_go cD_performItem_78 cD_performItem_80 rfl rfl
theorem rD_performItem_80 {a0 a3 : Nat} {a2 a4 a5 a6 a7 a8 : Int} {u1 : zV} : zS 18 80 [zR a0, u1, zI a2, zR a3, zI a4, zI a5, zI a6, zI a7, zI a8] [] sh pp mm Q ↔ zS 18 82 [zR a0, zU, zI a2, zR a3, zI a4, zI a5, zI a6, zI a7, zU] [zI a8] sh pp mm Q := s_go cD_performItem_80 cD_performItem_82 rfl rfl
theorem rD_performItem_82 {a0 a3 : Nat} {a2 a4 a5 a6 a7 s0 : Int} {u1 u8 : zV} : zS 18 82 [zR a0, u1, zI a2, zR a3, zI a4, zI a5, zI a6, zI a7, u8] [zI s0] sh pp mm Q ↔ (s0 = 0 → zS 18 85 [zR a0, zU, zI a2, zR a3, zI a4, zI a5, zI a6, zI a7, zU] [] sh pp mm Q) ∧ (¬ s0 = 0 → zS 18 95 [zR a0, zU, zI a2, zU, zU, zU, zU, zU, zU] [] sh pp mm Q) := s_ifn cD_performItem_82 cD_performItem_85 cD_performItem_95 rfl rfl rfl
theorem rD_performItem_85 {a0 a3 : Nat} {a2 a4 a5 a6 a7 : Int} {u1 u8 : zV} : zS 18 85 [zR a0, u1, zI a2, zR a3, zI a4, zI a5, zI a6, zI a7, u8] [] sh pp mm Q ↔ zS 18 86 [zR a0, zU, zI a2, zR a3, zI a4, zI a5, zI a6, zI a7, zU] [zR a0] sh pp mm Q := s_go cD_performItem_85 cD_performItem_86 rfl rfl
theorem rD_performItem_86 {a0 a3 s0 : Nat} {a2 a4 a5 a6 a7 : Int} {u1 u8 : zV} (hk : zKd sh s0 = 1) : zS 18 86 [zR a0, u1, zI a2, zR a3, zI a4, zI a5, zI a6, zI a7, u8] [zR s0] sh pp mm Q ↔ zS 18 89 [zR a0, zU, zI a2, zR a3, zI a4, zI a5, zI a6, zI a7, zU] [zI (mm s0 8)] sh pp mm Q := s_go cD_performItem_86 cD_performItem_89 (if_pos hk) rfl
theorem rD_performItem_89 {a0 a3 : Nat} {a2 a4 a5 a6 a7 s0 : Int} {u1 u8 : zV} : zS 18 89 [zR a0, u1, zI a2, zR a3, zI a4, zI a5, zI a6, zI a7, u8] [zI s0] sh pp mm Q ↔ zS 18 92 [zR a0, zU, zI a2, zR a3, zI a4, zI a5, zI a6, zI a7, zU] [zI 300, zI s0] sh pp mm Q := s_go cD_performItem_89 cD_performItem_92 rfl rfl
theorem rD_performItem_92 {a0 a3 : Nat} {a2 a4 a5 a6 a7 s0 s1 : Int} {u1 u8 : zV} : zS 18 92 [zR a0, u1, zI a2, zR a3, zI a4, zI a5, zI a6, zI a7, u8] [zI s0, zI s1] sh pp mm Q ↔ (s1 < s0 → zS 18 102 [zR a0, zU, zI a2, zR a3, zI a4, zI a5, zI a6, zI a7, zU] [] sh pp mm Q) ∧ (¬ s1 < s0 → zS 18 95 [zR a0, zU, zI a2, zU, zU, zU, zU, zU, zU] [] sh pp mm Q) := s_if cD_performItem_92 cD_performItem_102 cD_performItem_95 rfl rfl rfl
theorem rD_performItem_95 {a0 : Nat} {a2 : Int} {u1 u3 u4 u5 u6 u7 u8 : zV} : zS 18 95 [zR a0, u1, zI a2, u3, u4, u5, u6, u7, u8] [] sh pp mm Q ↔ zS 18 96 [zU, zU, zI a2, zU, zU, zU, zU, zU, zU] [zR a0] sh pp mm Q := s_go cD_performItem_95 cD_performItem_96 rfl rfl
theorem rD_performItem_96 {s0 : Nat} {a2 : Int} {u0 u1 u3 u4 u5 u6 u7 u8 : zV} : zS 18 96 [u0, u1, zI a2, u3, u4, u5, u6, u7, u8] [zR s0] sh pp mm Q ↔ zS 18 97 [zU, zU, zI a2, zU, zU, zU, zU, zU, zU] [zI 1, zR s0] sh pp mm Q := s_go cD_performItem_96 cD_performItem_97 rfl rfl
theorem rD_performItem_97 {s1 : Nat} {a2 s0 : Int} {u0 u1 u3 u4 u5 u6 u7 u8 : zV} (hk : zKd sh s1 = 1) (hb : s0 = 0 ∨ s0 = 1) : zS 18 97 [u0, u1, zI a2, u3, u4, u5, u6, u7, u8] [zI s0, zR s1] sh pp mm Q ↔ zS 18 100 [zU, zU, zI a2, zU, zU, zU, zU, zU, zU] [] sh pp (zupd mm s1 4 s0) Q := s_go cD_performItem_97 cD_performItem_100 (if_pos ⟨hk, Or.inr ⟨rfl, hb⟩⟩) rfl
theorem rD_performItem_100 {a2 : Int} {u0 u1 u3 u4 u5 u6 u7 u8 : zV} : zS 18 100 [u0, u1, zI a2, u3, u4, u5, u6, u7, u8] [] sh pp mm Q ↔ zS 18 101 [zU, zU, zU, zU, zU, zU, zU, zU, zU] [zI a2] sh pp mm Q := s_go cD_performItem_100 cD_performItem_101 rfl rfl
theorem rD_performItem_101 {s0 : Int} {u0 u1 u2 u3 u4 u5 u6 u7 u8 : zV} : zS 18 101 [u0, u1, u2, u3, u4, u5, u6, u7, u8] [zI s0] sh pp mm Q ↔ Q (zI s0) sh pp mm := s_ret cD_performItem_101 rfl
theorem rD_performItem_102 {a0 a3 : Nat} {a2 a4 a5 a6 a7 : Int} {u1 u8 : zV} : zS 18 102 [zR a0, u1, zI a2, zR a3, zI a4, zI a5, zI a6, zI a7, u8] [] sh pp mm Q ↔ zS 18 103 [zR a0, zU, zI a2, zR a3, zI a4, zI a5, zI a6, zI a7, zU] [zR a0] sh pp mm Q := s_go cD_performItem_102 cD_performItem_103 rfl rfl
theorem rD_performItem_103 {a0 a3 s0 : Nat} {a2 a4 a5 a6 a7 : Int} {u1 u8 : zV} : zS 18 103 [zR a0, u1, zI a2, zR a3, zI a4, zI a5, zI a6, zI a7, u8] [zR s0] sh pp mm Q ↔ zS 18 104 [zR a0, zU, zI a2, zR a3, zI a4, zI a5, zI a6, zI a7, zU] [zR s0, zR s0] sh pp mm Q := s_go cD_performItem_103 cD_performItem_104 rfl rfl
theorem rD_performItem_104 {a0 a3 s0 s1 : Nat} {a2 a4 a5 a6 a7 : Int} {u1 u8 : zV} (hk : zKd sh s0 = 1) : zS 18 104 [zR a0, u1, zI a2, zR a3, zI a4, zI a5, zI a6, zI a7, u8] [zR s0, zR s1] sh pp mm Q ↔ zS 18 107 [zR a0, zU, zI a2, zR a3, zI a4, zI a5, zI a6, zI a7, zU] [zI (mm s0 8), zR s1] sh pp mm Q := s_go cD_performItem_104 cD_performItem_107 (if_pos hk) rfl
theorem rD_performItem_107 {a0 a3 s1 : Nat} {a2 a4 a5 a6 a7 s0 : Int} {u1 u8 : zV} : zS 18 107 [zR a0, u1, zI a2, zR a3, zI a4, zI a5, zI a6, zI a7, u8] [zI s0, zR s1] sh pp mm Q ↔ zS 18 108 [zR a0, zU, zI a2, zR a3, zI a4, zI a5, zI a6, zI a7, zU] [zI 1, zI s0, zR s1] sh pp mm Q := s_go cD_performItem_107 cD_performItem_108 rfl rfl
theorem rD_performItem_108 {a0 a3 s2 : Nat} {a2 a4 a5 a6 a7 s0 s1 : Int} {u1 u8 : zV} : zS 18 108 [zR a0, u1, zI a2, zR a3, zI a4, zI a5, zI a6, zI a7, u8] [zI s0, zI s1, zR s2] sh pp mm Q ↔ zS 18 109 [zR a0, zU, zI a2, zR a3, zI a4, zI a5, zI a6, zI a7, zU] [zI (zw32 (s1 + s0)), zR s2] sh pp mm Q := s_go cD_performItem_108 cD_performItem_109 rfl rfl
theorem rD_performItem_109 {a0 a3 s1 : Nat} {a2 a4 a5 a6 a7 s0 : Int} {u1 u8 : zV} (hk : zKd sh s1 = 1) : zS 18 109 [zR a0, u1, zI a2, zR a3, zI a4, zI a5, zI a6, zI a7, u8] [zI s0, zR s1] sh pp mm Q ↔ zS 18 112 [zR a0, zU, zI a2, zR a3, zI a4, zI a5, zI a6, zI a7, zU] [] sh pp (zupd mm s1 8 s0) Q := s_go cD_performItem_109 cD_performItem_112 (if_pos ⟨hk, Or.inl rfl⟩) rfl
theorem rD_performItem_112 {a0 a3 : Nat} {a2 a4 a5 a6 a7 : Int} {u1 u8 : zV} : zS 18 112 [zR a0, u1, zI a2, zR a3, zI a4, zI a5, zI a6, zI a7, u8] [] sh pp mm Q ↔ zS 18 114 [zR a0, zU, zI a2, zR a3, zI a4, zI a5, zI a6, zU, zU] [zI a7] sh pp mm Q := s_go cD_performItem_112 cD_performItem_114 rfl rfl
theorem rD_performItem_114 {a0 a3 : Nat} {a2 a4 a5 a6 s0 : Int} {u1 u7 u8 : zV} : zS 18 114 [zR a0, u1, zI a2, zR a3, zI a4, zI a5, zI a6, u7, u8] [zI s0] sh pp mm Q ↔ (s0 = 0 → zS 18 156 [zR a0, zU, zI a2, zU, zI a4, zI a5, zU, zU, zU] [] sh pp mm Q) ∧ (¬ s0 = 0 → zS 18 117 [zR a0, zU, zI a2, zR a3, zU, zI a5, zI a6, zU, zU] [] sh pp mm Q) := s_if cD_performItem_114 cD_performItem_156 cD_performItem_117 rfl rfl rfl
theorem rD_performItem_117 {a0 a3 : Nat} {a2 a5 a6 : Int} {u1 u4 u7 u8 : zV} : zS 18 117 [zR a0, u1, zI a2, zR a3, u4, zI a5, zI a6, u7, u8] [] sh pp mm Q ↔ zS 18 118 [zR a0, zU, zI a2, zR a3, zU, zI a5, zI a6, zU, zU] [zR a0] sh pp mm Q := s_go cD_performItem_117 cD_performItem_118 rfl rfl
theorem rD_performItem_118 {a0 a3 s0 : Nat} {a2 a5 a6 : Int} {u1 u4 u7 u8 : zV} : zS 18 118 [zR a0, u1, zI a2, zR a3, u4, zI a5, zI a6, u7, u8] [zR s0] sh pp mm Q ↔ zS 18 120 [zR a0, zU, zI a2, zR a3, zU, zI a5, zI a6, zU, zU] [zI a5, zR s0] sh pp mm Q := s_go cD_performItem_118 cD_performItem_120 rfl rfl
theorem rD_performItem_120 {a0 a3 s1 : Nat} {a2 a5 a6 s0 : Int} {u1 u4 u7 u8 : zV} : zS 18 120 [zR a0, u1, zI a2, zR a3, u4, zI a5, zI a6, u7, u8] [zI s0, zR s1] sh pp mm Q ↔ zS 18 122 [zR a0, zU, zI a2, zR a3, zU, zI a5, zI a6, zU, zU] [zI a6, zI s0, zR s1] sh pp mm Q := s_go cD_performItem_120 cD_performItem_122 rfl rfl
theorem rD_performItem_122 {a0 a3 s2 : Nat} {a2 a5 a6 s0 s1 : Int} {u1 u4 u7 u8 : zV} (hk : zKd sh s2 = 1) : zS 18 122 [zR a0, u1, zI a2, zR a3, u4, zI a5, zI a6, u7, u8] [zI s0, zI s1, zR s2] sh pp mm Q ↔ zS 23 0 [zR s2, zI s1, zI s0, zU, zU, zU, zU] [] sh pp mm (fun v sh pp mm => zS 18 125 [zR a0, zU, zI a2, zR a3, zU, zI a5, zI a6, zU, zU] (zPush v []) sh pp mm Q) := s_call cD_performItem_122 cD_performItem_125 ((if_pos hk).trans rfl) rfl
theorem rD_performItem_125 {a0 a3 : Nat} {a2 a5 a6 : Int} {u1 u4 u7 u8 : zV} : zS 18 125 [zR a0, u1, zI a2, zR a3, u4, zI a5, zI a6, u7, u8] [] sh pp mm Q ↔ zS 18 126 [zU, zU, zI a2, zR a3, zU, zI a5, zI a6, zU, zU] [zR a0] sh pp mm Q := s_go cD_performItem_125 cD_performItem_126 rfl rfl
theorem rD_performItem_126 {a3 s0 : Nat} {a2 a5 a6 : Int} {u0 u1 u4 u7 u8 : zV} : zS 18 126 [u0, u1, zI a2, zR a3, u4, zI a5, zI a6, u7, u8] [zR s0] sh pp mm Q ↔ zS 18 127 [zU, zU, zI a2, zR a3, zU, zI a5, zI a6, zU, zU] [zR s0, zR s0] sh pp mm Q := s_go cD_performItem_126 cD_performItem_127 rfl rfl
theorem rD_performItem_127 {a3 s0 s1 : Nat} {a2 a5 a6 : Int} {u0 u1 u4 u7 u8 : zV} (hk : zKd sh s0 = 1) : zS 18 127 [u0, u1, zI a2, zR a3, u4, zI a5, zI a6, u7, u8] [zR s0, zR s1] sh pp mm Q ↔ zS 18 130 [zU, zU, zI a2, zR a3, zU, zI a5, zI a6, zU, zU] [zI (mm s0 3), zR s1] sh pp mm Q := s_go cD_performItem_127 cD_performItem_130 (if_pos hk) rfl
theorem rD_performItem_130 {a3 s1 : Nat} {a2 a5 a6 s0 : Int} {u0 u1 u4 u7 u8 : zV} : zS 18 130 [u0, u1, zI a2, zR a3, u4, zI a5, zI a6, u7, u8] [zI s0, zR s1] sh pp mm Q ↔ zS 18 132 [zU, zU, zI a2, zR a3, zU, zU, zI a6, zU, zU] [zI a5, zI s0, zR s1] sh pp mm Q := s_go cD_performItem_130 cD_performItem_132 rfl rfl
theorem rD_performItem_132 {a3 s2 : Nat} {a2 a6 s0 s1 : Int} {u0 u1 u4 u5 u7 u8 : zV} : zS 18 132 [u0, u1, zI a2, zR a3, u4, u5, zI a6, u7, u8] [zI s0, zI s1, zR s2] sh pp mm Q ↔ zS 18 133 [zU, zU, zI a2, zR a3, zU, zU, zI a6, zU, zU] [zR a3, zI s0, zI s1, zR s2] sh pp mm Q := s_go cD_performItem_132 cD_performItem_133 rfl rfl
theorem rD_performItem_133 {a3 s0 s3 : Nat} {a2 a6 s1 s2 : Int} {u0 u1 u4 u5 u7 u8 : zV} : zS 18 133 [u0, u1, zI a2, zR a3, u4, u5, zI a6, u7, u8] [zR s0, zI s1, zI s2, zR s3] sh pp mm Q ↔ zS 18 134 [zU, zU, zI a2, zR a3, zU, zU, zI a6, zU, zU] [zI 4, zR s0, zI s1, zI s2, zR s3] sh pp mm Q := s_go cD_performItem_133 cD_performItem_134 rfl rfl
theorem rD_performItem_134 {a3 s1 s4 : Nat} {a2 a6 s0 s2 s3 : Int} {u0 u1 u4 u5 u7 u8 : zV} (hk : zKd sh s1 = 20 ∨ zKd sh s1 = 30) (h0 : 0 ≤ s0) (h1 : s0 < zLn sh s1) : zS 18 134 [u0, u1, zI a2, zR a3, u4, u5, zI a6, u7, u8] [zI s0, zR s1, zI s2, zI s3, zR s4] sh pp mm Q ↔ zS 18 135 [zU, zU, zI a2, zR a3, zU, zU, zI a6, zU, zU] [zI (mm s1 s0), zI s2, zI s3, zR s4] sh pp mm Q := s_go cD_performItem_134 cD_performItem_135 (if_pos ⟨hk, h0, h1⟩) rfl
theorem rD_performItem_135 {a3 s3 : Nat} {a2 a6 s0 s1 s2 : Int} {u0 u1 u4 u5 u7 u8 : zV} : zS 18 135 [u0, u1, zI a2, zR a3, u4, u5, zI a6, u7, u8] [zI s0, zI s1, zI s2, zR s3] sh pp mm Q ↔ zS 22 0 [zI s1, zI s0] [] sh pp mm (fun v sh pp mm => zS 18 138 [zU, zU, zI a2, zR a3, zU, zU, zI a6, zU, zU] (zPush v [zI s2, zR s3]) sh pp mm Q) := s_call cD_performItem_135 cD_performItem_138 rfl rfl
theorem rD_performItem_138 {a3 s2 : Nat} {a2 a6 s0 s1 : Int} {u0 u1 u4 u5 u7 u8 : zV} : zS 18 138 [u0, u1, zI a2, zR a3, u4, u5, zI a6, u7, u8] [zI s0, zI s1, zR s2] sh pp mm Q ↔ zS 18 140 [zU, zU, zI a2, zR a3, zU, zU, zU, zU, zU] [zI a6, zI s0, zI s1, zR s2] sh pp mm Q := s_go cD_performItem_138 cD_performItem_140 rfl rfl
theorem rD_performItem_140 {a3 s3 : Nat} {a2 s0 s1 s2 : Int} {u0 u1 u4 u5 u6 u7 u8 : zV} : zS 18 140 [u0, u1, zI a2, zR a3, u4, u5, u6, u7, u8] [zI s0, zI s1, zI s2, zR s3] sh pp mm Q ↔ zS 18 141 [zU, zU, zI a2, zU, zU, zU, zU, zU, zU] [zR a3, zI s0, zI s1, zI s2, zR s3] sh pp mm Q := s_go cD_performItem_140 cD_performItem_141 rfl rfl
theorem rD_performItem_141 {s0 s4 : Nat} {a2 s1 s2 s3 : Int} {u0 u1 u3 u4 u5 u6 u7 u8 : zV} : zS 18 141 [u0, u1, zI a2, u3, u4, u5, u6, u7, u8] [zR s0, zI s1, zI s2, zI s3, zR s4] sh pp mm Q ↔ zS 18 142 [zU, zU, zI a2, zU, zU, zU, zU, zU, zU] [zI 5, zR s0, zI s1, zI s2, zI s3, zR s4] sh pp mm Q := s_go cD_performItem_141 cD_performItem_142 rfl rfl
theorem rD_performItem_142 {s1 s5 : Nat} {a2 s0 s2 s3 s4 : Int} {u0 u1 u3 u4 u5 u6 u7 u8 : zV} (hk : zKd sh s1 = 20 ∨ zKd sh s1 = 30) (h0 : 0 ≤ s0) (h1 : s0 < zLn sh s1) : zS 18 142 [u0, u1, zI a2, u3, u4, u5, u6, u7, u8] [zI s0, zR s1, zI s2, zI s3, zI s4, zR s5] sh pp mm Q ↔ zS 18 143 [zU, zU, zI a2, zU, zU, zU, zU, zU, zU] [zI (mm s1 s0), zI s2, zI s3, zI s4, zR s5] sh pp mm Q := s_go cD_performItem_142 cD_performItem_143 (if_pos ⟨hk, h0, h1⟩) rfl
theorem rD_performItem_143 {s4 : Nat} {a2 s0 s1 s2 s3 : Int} {u0 u1 u3 u4 u5 u6 u7 u8 : zV} : zS 18 143 [u0, u1, zI a2, u3, u4, u5, u6, u7, u8] [zI s0, zI s1, zI s2, zI s3, zR s4] sh pp mm Q ↔ zS 22 0 [zI s1, zI s0] [] sh pp mm (fun v sh pp mm => zS 18 146 [zU, zU, zI a2, zU, zU, zU, zU, zU, zU] (zPush v [zI s2, zI s3, zR s4]) sh pp mm Q) := s_call cD_performItem_143 cD_performItem_146 rfl rfl
theorem rD_performItem_146 {s3 : Nat} {a2 s0 s1 s2 : Int} {u0 u1 u3 u4 u5 u6 u7 u8 : zV} : zS 18 146 [u0, u1, zI a2, u3, u4, u5, u6, u7, u8] [zI s0, zI s1, zI s2, zR s3] sh pp mm Q ↔ zS 259 0 [zI s1, zI s0] [] sh pp mm (fun v sh pp mm => zS 18 149 [zU, zU, zI a2, zU, zU, zU, zU, zU, zU] (zPush v [zI s2, zR s3]) sh pp mm Q) := s_call cD_performItem_146 cD_performItem_149 rfl rfl
theorem rD_performItem_149 {s2 : Nat} {a2 s0 s1 : Int} {u0 u1 u3 u4 u5 u6 u7 u8 : zV} : zS 18 149 [u0, u1, zI a2, u3, u4, u5, u6, u7, u8] [zI s0, zI s1, zR s2] sh pp mm Q ↔ zS 18 150 [zU, zU, zI a2, zU, zU, zU, zU, zU, zU] [zI (zw32 (s1 + s0)), zR s2] sh pp mm Q := s_go cD_performItem_149 cD_performItem_150 rfl rfl
theorem rD_performItem_150 {s1 : Nat} {a2 s0 : Int} {u0 u1 u3 u4 u5 u6 u7 u8 : zV} (hk : zKd sh s1 = 1) : zS 18 150 [u0, u1, zI a2, u3, u4, u5, u6, u7, u8] [zI s0, zR s1] sh pp mm Q ↔ zS 18 153 [zU, zU, zI a2, zU, zU, zU, zU, zU, zU] [] sh pp (zupd mm s1 3 s0) Q := s_go cD_performItem_150 cD_performItem_153 (if_pos ⟨hk, Or.inl rfl⟩) rfl
theorem rD_performItem_153 {a2 : Int} {u0 u1 u3 u4 u5 u6 u7 u8 : zV} : zS 18 153 [u0, u1, zI a2, u3, u4, u5, u6, u7, u8] [] sh pp mm Q ↔ zS 18 178 [zU, zU, zI a2, zU, zU, zU, zU, zU, zU] [] sh pp mm Q := s_go cD_performItem_153 cD_performItem_178 rfl rfl
theorem rD_performItem_156 {a0 : Nat} {a2 a4 a5 : Int} {u1 u3 u6 u7 u8 : zV} : zS 18 156 [zR a0, u1, zI a2, u3, zI a4, zI a5, u6, u7, u8] [] sh pp mm Q ↔ zS 18 158 [zR a0, zU, zI a2, zU, zU, zI a5, zU, zU, zU] [zI a4] sh pp mm Q := s_go cD_performItem_156 cD_performItem_158 rfl rfl
theorem rD_performItem_158 {a0 : Nat} {a2 a5 s0 : Int} {u1 u3 u4 u6 u7 u8 : zV} : zS 18 158 [zR a0, u1, zI a2, u3, u4, zI a5, u6, u7, u8] [zI s0] sh pp mm Q ↔ zS 18 159 [zR a0, zU, zI a2, zU, zU, zI a5, zU, zU, zU] [zI 5, zI s0] sh pp mm Q := s_go cD_performItem_158 cD_performItem_159 rfl rfl
theorem rD_performItem_159 {a0 : Nat} {a2 a5 s0 s1 : Int} {u1 u3 u4 u6 u7 u8 : zV} : zS 18 159 [zR a0, u1, zI a2, u3, u4, zI a5, u6, u7, u8] [zI s0, zI s1] sh pp mm Q ↔ (s1 = s0 → zS 18 162 [zR a0, zU, zI a2, zU, zU, zI a5, zU, zU, zU] [] sh pp mm Q) ∧ (¬ s1 = s0 → zS 18 171 [zR a0, zU, zI a2, zU, zU, zI a5, zU, zU, zU] [] sh pp mm Q) := s_ifn cD_performItem_159 cD_performItem_162 cD_performItem_171 rfl rfl rfl
theorem rD_performItem_162 {a0 : Nat} {a2 a5 : Int} {u1 u3 u4 u6 u7 u8 : zV} : zS 18 162 [zR a0, u1, zI a2, u3, u4, zI a5, u6, u7, u8] [] sh pp mm Q ↔ zS 18 163 [zU, zU, zI a2, zU, zU, zI a5, zU, zU, zU] [zR a0] sh pp mm Q := s_go cD_performItem_162 cD_performItem_163 rfl rfl
theorem rD_performItem_163 {s0 : Nat} {a2 a5 : Int} {u0 u1 u3 u4 u6 u7 u8 : zV} : zS 18 163 [u0, u1, zI a2, u3, u4, zI a5, u6, u7, u8] [zR s0] sh pp mm Q ↔ zS 18 165 [zU, zU, zI a2, zU, zU, zU, zU, zU, zU] [zI a5, zR s0] sh pp mm Q := s_go cD_performItem_163 cD_performItem_165 rfl rfl
theorem rD_performItem_165 {s1 : Nat} {a2 s0 : Int} {u0 u1 u3 u4 u5 u6 u7 u8 : zV} (hk : zKd sh s1 = 1) : zS 18 165 [u0, u1, zI a2, u3, u4, u5, u6, u7, u8] [zI s0, zR s1] sh pp mm Q ↔ zS 25 0 [zR s1, zI s0, zU, zU] [] sh pp mm (fun v sh pp mm => zS 18 168 [zU, zU, zI a2, zU, zU, zU, zU, zU, zU] (zPush v []) sh pp mm Q) := s_call cD_performItem_165 cD_performItem_168 ((if_pos hk).trans rfl) rfl
theorem rD_performItem_168 {a2 : Int} {u0 u1 u3 u4 u5 u6 u7 u8 : zV} : zS 18 168 [u0, u1, zI a2, u3, u4, u5, u6, u7, u8] [] sh pp mm Q ↔ zS 18 178 [zU, zU, zI a2, zU, zU, zU, zU, zU, zU] [] sh pp mm Q := s_go cD_performItem_168 cD_performItem_178 rfl rfl
theorem rD_performItem_171 {a0 : Nat} {a2 a5 : Int} {u1 u3 u4 u6 u7 u8 : zV} : zS 18 171 [zR a0, u1, zI a2, u3, u4, zI a5, u6, u7, u8] [] sh pp mm Q ↔ zS 18 172 [zU, zU, zI a2, zU, zU, zI a5, zU, zU, zU] [zR a0] sh pp mm Q := s_go cD_performItem_171 cD_performItem_172 rfl rfl
theorem rD_performItem_172 {s0 : Nat} {a2 a5 : Int} {u0 u1 u3 u4 u6 u7 u8 : zV} : zS 18 172 [u0, u1, zI a2, u3, u4, zI a5, u6, u7, u8] [zR s0] sh pp mm Q ↔ zS 18 173 [zU, zU, zI a2, zU, zU, zI a5, zU, zU, zU] [zI a2, zR s0] sh pp mm Q := s_go cD_performItem_172 cD_performItem_173 rfl rfl
theorem rD_performItem_173 {s1 : Nat} {a2 a5 s0 : Int} {u0 u1 u3 u4 u6 u7 u8 : zV} : zS 18 173 [u0, u1, zI a2, u3, u4, zI a5, u6, u7, u8] [zI s0, zR s1] sh pp mm Q ↔ zS 18 175 [zU, zU, zI a2, zU, zU, zU, zU, zU, zU] [zI a5, zI s0, zR s1] sh pp mm Q := s_go cD_performItem_173 cD_performItem_175 rfl rfl
theorem rD_performItem_175 {s2 : Nat} {a2 s0 s1 : Int} {u0 u1 u3 u4 u5 u6 u7 u8 : zV} (hk : zKd sh s2 = 1) : zS 18 175 [u0, u1, zI a2, u3, u4, u5, u6, u7, u8] [zI s0, zI s1, zR s2] sh pp mm Q ↔ zS 19 0 [zR s2, zI s1, zI s0] [] sh pp mm (fun v sh pp mm => zS 18 178 [zU, zU, zI a2, zU, zU, zU, zU, zU, zU] (zPush v []) sh pp mm Q) := s_call cD_performItem_175 cD_performItem_178 ((if_pos hk).trans rfl) rfl
theorem rD_performItem_178 {a2 : Int} {u0 u1 u3 u4 u5 u6 u7 u8 : zV} : zS 18 178 [u0, u1, zI a2, u3, u4, u5, u6, u7, u8] [] sh pp mm Q ↔ zS 18 179 [zU, zU, zU, zU, zU, zU, zU, zU, zU] [zI a2] sh pp mm Q := s_go cD_performItem_178 cD_performItem_179 rfl rfl
theorem rD_performItem_179 {s0 : Int} {u0 u1 u2 u3 u4 u5 u6 u7 u8 : zV} : zS 18 179 [u0, u1, u2, u3, u4, u5, u6, u7, u8] [zI s0] sh pp mm Q ↔ zS 18 180 [zU, zU, zU, zU, zU, zU, zU, zU, zU] [zI 1, zI s0] sh pp mm Q := s_go cD_performItem_179 cD_performItem_180 rfl rfl
theorem rD_performItem_180 {s0 s1 : Int} {u0 u1 u2 u3 u4 u5 u6 u7 u8 : zV} : zS 18 180 [u0, u1, u2, u3, u4, u5, u6, u7, u8] [zI s0, zI s1] sh pp mm Q ↔ zS 18 181 [zU, zU, zU, zU, zU, zU, zU, zU, zU] [zI (zw32 (s1 + s0))] sh pp mm Q := s_go cD_performItem_180 cD_performItem_181 rfl rfl
theorem rD_performItem_181 {s0 : Int} {u0 u1 u2 u3 u4 u5 u6 u7 u8 : zV} : zS 18 181 [u0, u1, u2, u3, u4, u5, u6, u7, u8] [zI s0] sh pp mm Q ↔ Q (zI s0) sh pp mm := s_ret cD_performItem_181 rfl
theorem cAD_openLoop : ∀ q ∈ zT19, zCode 19 q.1 = some q.2 := zAll (mid := 19) rfl (by decide +kernel)
theorem cAD_openLoop_0 : ∀ q ∈ zT19_0, zCode 19 q.1 = some q.2 := fun q h => cAD_openLoop q (List.mem_append_left _ h)
theorem cAD_openLoop_1 : ∀ q ∈ zT19_1, zCode 19 q.1 = some q.2 := fun q h => cAD_openLoop q (List.mem_append_right _ h)
theorem cD_openLoop_0 : zCode 19 0 = some (.aload_n 0, 1, 0, 0, 0, 0, 7) := cAD_openLoop_0 _ (List.mem_of_getElem? (i := 0) rfl)
theorem cD_openLoop_1 : zCode 19 1 = some (.getfield 51, 4, 1, 11, 0, 480, 7) := cAD_openLoop_0 _ (List.mem_of_getElem? (i := 1) rfl)
theorem cD_openLoop_4 : zCode 19 4 = some (.iconst 3, 5, 0, 0, 0, 0, 7) := cAD_openLoop_0 _ (List.mem_of_getElem? (i := 2) rfl)
theorem cD_openLoop_5 : zCode 19 5 = some (.if_icmp .ge 35, 8, 40, 0, 0, 0, 7) := cAD_openLoop_0 _ (List.mem_of_getElem? (i := 3) rfl)
theorem cD_openLoop_8 : zCode 19 8 = some (.aload_n 0, 9, 0, 0, 0, 0, 7) := cAD_openLoop_0 _ (List.mem_of_getElem? (i := 4) rfl)
theorem cD_openLoop_9 : zCode 19 9 = some (.getfield 45, 12, 1, 9, 2, 478, 7) := cAD_openLoop_0 _ (List.mem_of_getElem? (i := 5) rfl)
theorem cD_openLoop_12 : zCode 19 12 = some (.aload_n 0, 13, 0, 0, 0, 0, 7) := cAD_openLoop_0 _ (List.mem_of_getElem? (i := 6) rfl)
theorem cD_openLoop_13 : zCode 19 13 = some (.getfield 51, 16, 1, 11, 0, 480, 7) := cAD_openLoop_0 _ (List.mem_of_getElem? (i := 7) rfl)
theorem cD_openLoop_16 : zCode 19 16 = some (.iload_n 1, 17, 0, 0, 0, 0, 7) := cAD_openLoop_0 _ (List.mem_of_getElem? (i := 8) rfl)
theorem cD_openLoop_17 : zCode 19 17 = some (.iconst 1, 18, 0, 0, 0, 0, 5) := cAD_openLoop_0 _ (List.mem_of_getElem? (i := 9) rfl)
theorem cD_openLoop_18 : zCode 19 18 = some (.iadd, 19, 0, 0, 0, 0, 5) := cAD_openLoop_0 _ (List.mem_of_getElem? (i := 10) rfl)
theorem cD_openLoop_19 : zCode 19 19 = some (.iastore, 20, 0, 0, 0, 0, 5) := cAD_openLoop_0 _ (List.mem_of_getElem? (i := 11) rfl)
theorem cD_openLoop_20 : zCode 19 20 = some (.aload_n 0, 21, 0, 0, 0, 0, 5) := cAD_openLoop_0 _ (List.mem_of_getElem? (i := 12) rfl)
theorem cD_openLoop_21 : zCode 19 21 = some (.getfield 48, 24, 1, 10, 2, 479, 5) := cAD_openLoop_0 _ (List.mem_of_getElem? (i := 13) rfl)
theorem cD_openLoop_24 : zCode 19 24 = some (.aload_n 0, 25, 0, 0, 0, 0, 5) := cAD_openLoop_0 _ (List.mem_of_getElem? (i := 14) rfl)
theorem cD_openLoop_25 : zCode 19 25 = some (.getfield 51, 28, 1, 11, 0, 480, 5) := cAD_openLoop_0 _ (List.mem_of_getElem? (i := 15) rfl)
theorem cD_openLoop_28 : zCode 19 28 = some (.iload_n 2, 29, 0, 0, 0, 0, 5) := cAD_openLoop_1 _ (List.mem_of_getElem? (i := 0) rfl)
theorem cD_openLoop_29 : zCode 19 29 = some (.iastore, 30, 0, 0, 0, 0, 1) := cAD_openLoop_1 _ (List.mem_of_getElem? (i := 1) rfl)
theorem cD_openLoop_30 : zCode 19 30 = some (.aload_n 0, 31, 0, 0, 0, 0, 1) := cAD_openLoop_1 _ (List.mem_of_getElem? (i := 2) rfl)
theorem cD_openLoop_31 : zCode 19 31 = some (.dup, 32, 0, 0, 0, 0, 0) := cAD_openLoop_1 _ (List.mem_of_getElem? (i := 3) rfl)
theorem cD_openLoop_32 : zCode 19 32 = some (.getfield 51, 35, 1, 11, 0, 480, 0) := cAD_openLoop_1 _ (List.mem_of_getElem? (i := 4) rfl)
theorem cD_openLoop_35 : zCode 19 35 = some (.iconst 1, 36, 0, 0, 0, 0, 0) := cAD_openLoop_1 _ (List.mem_of_getElem? (i := 5) rfl)
theorem cD_openLoop_36 : zCode 19 36 = some (.iadd, 37, 0, 0, 0, 0, 0) := cAD_openLoop_1 _ (List.mem_of_getElem? (i := 6) rfl)
theorem cD_openLoop_37 : zCode 19 37 = some (.putfield 51, 40, 1, 11, 0, 480, 0) := cAD_openLoop_1 _ (List.mem_of_getElem? (i := 7) rfl)
theorem cD_openLoop_40 : zCode 19 40 = some (.return_, 41, 0, 0, 0, 0, 0) := cAD_openLoop_1 _ (List.mem_of_getElem? (i := 8) rfl)
theorem rD_openLoop_0 {a0 : Nat} {a1 a2 : Int} : zS 19 0 [zR a0, zI a1, zI a2] [] sh pp mm Q ↔ zS 19 1 [zR a0, zI a1, zI a2] [zR a0] sh pp mm Q := s_go cD_openLoop_0 cD_openLoop_1 rfl rfl
theorem rD_openLoop_1 {a0 s0 : Nat} {a1 a2 : Int} (hk : zKd sh s0 = 1) : zS 19 1 [zR a0, zI a1, zI a2] [zR s0] sh pp mm Q ↔ zS 19 4 [zR a0, zI a1, zI a2] [zI (mm s0 11)] sh pp mm Q := s_go cD_openLoop_1 cD_openLoop_4 (if_pos hk) rfl
theorem rD_openLoop_4 {a0 : Nat} {a1 a2 s0 : Int} : zS 19 4 [zR a0, zI a1, zI a2] [zI s0] sh pp mm Q ↔ zS 19 5 [zR a0, zI a1, zI a2] [zI 3, zI s0] sh pp mm Q := s_go cD_openLoop_4 cD_openLoop_5 rfl rfl
theorem rD_openLoop_5 {a0 : Nat} {a1 a2 s0 s1 : Int} : zS 19 5 [zR a0, zI a1, zI a2] [zI s0, zI s1] sh pp mm Q ↔ (s1 < s0 → zS 19 8 [zR a0, zI a1, zI a2] [] sh pp mm Q) ∧ (¬ s1 < s0 → zS 19 40 [zU, zU, zU] [] sh pp mm Q) := s_ifn cD_openLoop_5 cD_openLoop_8 cD_openLoop_40 rfl rfl rfl
theorem rD_openLoop_8 {a0 : Nat} {a1 a2 : Int} : zS 19 8 [zR a0, zI a1, zI a2] [] sh pp mm Q ↔ zS 19 9 [zR a0, zI a1, zI a2] [zR a0] sh pp mm Q := s_go cD_openLoop_8 cD_openLoop_9 rfl rfl
theorem rD_openLoop_9 {a0 s0 : Nat} {a1 a2 : Int} (hk : zKd sh s0 = 1) : zS 19 9 [zR a0, zI a1, zI a2] [zR s0] sh pp mm Q ↔ zS 19 12 [zR a0, zI a1, zI a2] [zR (pp s0 9)] sh pp mm Q := s_go cD_openLoop_9 cD_openLoop_12 (if_pos hk) rfl
theorem rD_openLoop_12 {a0 s0 : Nat} {a1 a2 : Int} : zS 19 12 [zR a0, zI a1, zI a2] [zR s0] sh pp mm Q ↔ zS 19 13 [zR a0, zI a1, zI a2] [zR a0, zR s0] sh pp mm Q := s_go cD_openLoop_12 cD_openLoop_13 rfl rfl
theorem rD_openLoop_13 {a0 s0 s1 : Nat} {a1 a2 : Int} (hk : zKd sh s0 = 1) : zS 19 13 [zR a0, zI a1, zI a2] [zR s0, zR s1] sh pp mm Q ↔ zS 19 16 [zR a0, zI a1, zI a2] [zI (mm s0 11), zR s1] sh pp mm Q := s_go cD_openLoop_13 cD_openLoop_16 (if_pos hk) rfl
theorem rD_openLoop_16 {a0 s1 : Nat} {a1 a2 s0 : Int} : zS 19 16 [zR a0, zI a1, zI a2] [zI s0, zR s1] sh pp mm Q ↔ zS 19 17 [zR a0, zU, zI a2] [zI a1, zI s0, zR s1] sh pp mm Q := s_go cD_openLoop_16 cD_openLoop_17 rfl rfl
theorem rD_openLoop_17 {a0 s2 : Nat} {a2 s0 s1 : Int} {u1 : zV} : zS 19 17 [zR a0, u1, zI a2] [zI s0, zI s1, zR s2] sh pp mm Q ↔ zS 19 18 [zR a0, zU, zI a2] [zI 1, zI s0, zI s1, zR s2] sh pp mm Q := s_go cD_openLoop_17 cD_openLoop_18 rfl rfl
theorem rD_openLoop_18 {a0 s3 : Nat} {a2 s0 s1 s2 : Int} {u1 : zV} : zS 19 18 [zR a0, u1, zI a2] [zI s0, zI s1, zI s2, zR s3] sh pp mm Q ↔ zS 19 19 [zR a0, zU, zI a2] [zI (zw32 (s1 + s0)), zI s2, zR s3] sh pp mm Q := s_go cD_openLoop_18 cD_openLoop_19 rfl rfl
theorem rD_openLoop_19 {a0 s2 : Nat} {a2 s0 s1 : Int} {u1 : zV} (hk : zKd sh s2 = 20) (h0 : 0 ≤ s1) (h1 : s1 < zLn sh s2) : zS 19 19 [zR a0, u1, zI a2] [zI s0, zI s1, zR s2] sh pp mm Q ↔ zS 19 20 [zR a0, zU, zI a2] [] sh pp (zupd mm s2 s1 s0) Q := s_go cD_openLoop_19 cD_openLoop_20 (if_pos ⟨hk, h0, h1, fun h => absurd h (by decide)⟩) rfl
theorem rD_openLoop_20 {a0 : Nat} {a2 : Int} {u1 : zV} : zS 19 20 [zR a0, u1, zI a2] [] sh pp mm Q ↔ zS 19 21 [zR a0, zU, zI a2] [zR a0] sh pp mm Q := s_go cD_openLoop_20 cD_openLoop_21 rfl rfl
theorem rD_openLoop_21 {a0 s0 : Nat} {a2 : Int} {u1 : zV} (hk : zKd sh s0 = 1) : zS 19 21 [zR a0, u1, zI a2] [zR s0] sh pp mm Q ↔ zS 19 24 [zR a0, zU, zI a2] [zR (pp s0 10)] sh pp mm Q := s_go cD_openLoop_21 cD_openLoop_24 (if_pos hk) rfl
theorem rD_openLoop_24 {a0 s0 : Nat} {a2 : Int} {u1 : zV} : zS 19 24 [zR a0, u1, zI a2] [zR s0] sh pp mm Q ↔ zS 19 25 [zR a0, zU, zI a2] [zR a0, zR s0] sh pp mm Q := s_go cD_openLoop_24 cD_openLoop_25 rfl rfl
theorem rD_openLoop_25 {a0 s0 s1 : Nat} {a2 : Int} {u1 : zV} (hk : zKd sh s0 = 1) : zS 19 25 [zR a0, u1, zI a2] [zR s0, zR s1] sh pp mm Q ↔ zS 19 28 [zR a0, zU, zI a2] [zI (mm s0 11), zR s1] sh pp mm Q := s_go cD_openLoop_25 cD_openLoop_28 (if_pos hk) rfl
theorem rD_openLoop_28 {a0 s1 : Nat} {a2 s0 : Int} {u1 : zV} : zS 19 28 [zR a0, u1, zI a2] [zI s0, zR s1] sh pp mm Q ↔ zS 19 29 [zR a0, zU, zU] [zI a2, zI s0, zR s1] sh pp mm Q := s_go cD_openLoop_28 cD_openLoop_29 rfl rfl
theorem rD_openLoop_29 {a0 s2 : Nat} {s0 s1 : Int} {u1 u2 : zV} (hk : zKd sh s2 = 20) (h0 : 0 ≤ s1) (h1 : s1 < zLn sh s2) : zS 19 29 [zR a0, u1, u2] [zI s0, zI s1, zR s2] sh pp mm Q ↔ zS 19 30 [zR a0, zU, zU] [] sh pp (zupd mm s2 s1 s0) Q := s_go cD_openLoop_29 cD_openLoop_30 (if_pos ⟨hk, h0, h1, fun h => absurd h (by decide)⟩) rfl
theorem rD_openLoop_30 {a0 : Nat} {u1 u2 : zV} : zS 19 30 [zR a0, u1, u2] [] sh pp mm Q ↔ zS 19 31 [zU, zU, zU] [zR a0] sh pp mm Q := s_go cD_openLoop_30 cD_openLoop_31 rfl rfl
theorem rD_openLoop_31 {s0 : Nat} {u0 u1 u2 : zV} : zS 19 31 [u0, u1, u2] [zR s0] sh pp mm Q ↔ zS 19 32 [zU, zU, zU] [zR s0, zR s0] sh pp mm Q := s_go cD_openLoop_31 cD_openLoop_32 rfl rfl
theorem rD_openLoop_32 {s0 s1 : Nat} {u0 u1 u2 : zV} (hk : zKd sh s0 = 1) : zS 19 32 [u0, u1, u2] [zR s0, zR s1] sh pp mm Q ↔ zS 19 35 [zU, zU, zU] [zI (mm s0 11), zR s1] sh pp mm Q := s_go cD_openLoop_32 cD_openLoop_35 (if_pos hk) rfl
theorem rD_openLoop_35 {s1 : Nat} {s0 : Int} {u0 u1 u2 : zV} : zS 19 35 [u0, u1, u2] [zI s0, zR s1] sh pp mm Q ↔ zS 19 36 [zU, zU, zU] [zI 1, zI s0, zR s1] sh pp mm Q := s_go cD_openLoop_35 cD_openLoop_36 rfl rfl
theorem rD_openLoop_36 {s2 : Nat} {s0 s1 : Int} {u0 u1 u2 : zV} : zS 19 36 [u0, u1, u2] [zI s0, zI s1, zR s2] sh pp mm Q ↔ zS 19 37 [zU, zU, zU] [zI (zw32 (s1 + s0)), zR s2] sh pp mm Q := s_go cD_openLoop_36 cD_openLoop_37 rfl rfl
theorem rD_openLoop_37 {s1 : Nat} {s0 : Int} {u0 u1 u2 : zV} (hk : zKd sh s1 = 1) : zS 19 37 [u0, u1, u2] [zI s0, zR s1] sh pp mm Q ↔ zS 19 40 [zU, zU, zU] [] sh pp (zupd mm s1 11 s0) Q := s_go cD_openLoop_37 cD_openLoop_40 (if_pos ⟨hk, Or.inl rfl⟩) rfl
theorem rD_openLoop_40 {u0 u1 u2 : zV} : zS 19 40 [u0, u1, u2] [] sh pp mm Q ↔ Q zU sh pp mm := s_ret cD_openLoop_40 rfl
theorem cAD_afterEnd : ∀ q ∈ zT20, zCode 20 q.1 = some q.2 := zAll (mid := 20) rfl (by decide +kernel)
theorem cAD_afterEnd_0 : ∀ q ∈ zT20_0, zCode 20 q.1 = some q.2 := fun q h => cAD_afterEnd q (List.mem_append_left _ h)
theorem cAD_afterEnd_1 : ∀ q ∈ zT20_1, zCode 20 q.1 = some q.2 := fun q h => cAD_afterEnd q (List.mem_append_right _ (List.mem_append_left _ h))
theorem cAD_afterEnd_2 : ∀ q ∈ zT20_2, zCode 20 q.1 = some q.2 := fun q h => cAD_afterEnd q (List.mem_append_right _ (List.mem_append_right _ h))
theorem cD_afterEnd_0 : zCode 20 0 = some (.aload_n 0, 1, 0, 0, 0, 0, 3) := cAD_afterEnd_0 _ (List.mem_of_getElem? (i := 0) rfl)
theorem cD_afterEnd_1 : zCode 20 1 = some (.getfield 51, 4, 1, 11, 0, 480, 3) := cAD_afterEnd_0 _ (List.mem_of_getElem? (i := 1) rfl)
theorem cD_afterEnd_4 : zCode 20 4 = some (.ifCond .ne 7, 7, 11, 0, 0, 0, 3) := cAD_afterEnd_0 _ (List.mem_of_getElem? (i := 2) rfl)
theorem cD_afterEnd_7 : zCode 20 7 = some (.iload_n 1, 8, 0, 0, 0, 0, 2) := cAD_afterEnd_0 _ (List.mem_of_getElem? (i := 3) rfl)
theorem cD_afterEnd_8 : zCode 20 8 = some (.iconst 1, 9, 0, 0, 0, 0, 0) := cAD_afterEnd_0 _ (List.mem_of_getElem? (i := 4) rfl)
theorem cD_afterEnd_9 : zCode 20 9 = some (.iadd, 10, 0, 0, 0, 0, 0) := cAD_afterEnd_0 _ (List.mem_of_getElem? (i := 5) rfl)
theorem cD_afterEnd_10 : zCode 20 10 = some (.ireturn, 11, 0, 0, 0, 0, 0) := cAD_afterEnd_0 _ (List.mem_of_getElem? (i := 6) rfl)
theorem cD_afterEnd_11 : zCode 20 11 = some (.aload_n 0, 12, 0, 0, 0, 0, 3) := cAD_afterEnd_0 _ (List.mem_of_getElem? (i := 7) rfl)
theorem cD_afterEnd_12 : zCode 20 12 = some (.getfield 51, 15, 1, 11, 0, 480, 3) := cAD_afterEnd_0 _ (List.mem_of_getElem? (i := 8) rfl)
theorem cD_afterEnd_15 : zCode 20 15 = some (.iconst 1, 16, 0, 0, 0, 0, 3) := cAD_afterEnd_0 _ (List.mem_of_getElem? (i := 9) rfl)
theorem cD_afterEnd_16 : zCode 20 16 = some (.isub, 17, 0, 0, 0, 0, 3) := cAD_afterEnd_0 _ (List.mem_of_getElem? (i := 10) rfl)
theorem cD_afterEnd_17 : zCode 20 17 = some (.istore_n 2, 18, 0, 0, 0, 0, 3) := cAD_afterEnd_0 _ (List.mem_of_getElem? (i := 11) rfl)
theorem cD_afterEnd_18 : zCode 20 18 = some (.aload_n 0, 19, 0, 0, 0, 0, 7) := cAD_afterEnd_0 _ (List.mem_of_getElem? (i := 12) rfl)
theorem cD_afterEnd_19 : zCode 20 19 = some (.getfield 48, 22, 1, 10, 2, 479, 7) := cAD_afterEnd_0 _ (List.mem_of_getElem? (i := 13) rfl)
theorem cD_afterEnd_22 : zCode 20 22 = some (.iload_n 2, 23, 0, 0, 0, 0, 7) := cAD_afterEnd_0 _ (List.mem_of_getElem? (i := 14) rfl)
theorem cD_afterEnd_23 : zCode 20 23 = some (.dup2, 24, 0, 0, 0, 0, 7) := cAD_afterEnd_0 _ (List.mem_of_getElem? (i := 15) rfl)
theorem cD_afterEnd_24 : zCode 20 24 = some (.iaload, 25, 0, 0, 0, 0, 7) := cAD_afterEnd_1 _ (List.mem_of_getElem? (i := 0) rfl)
theorem cD_afterEnd_25 : zCode 20 25 = some (.iconst 1, 26, 0, 0, 0, 0, 7) := cAD_afterEnd_1 _ (List.mem_of_getElem? (i := 1) rfl)
theorem cD_afterEnd_26 : zCode 20 26 = some (.isub, 27, 0, 0, 0, 0, 7) := cAD_afterEnd_1 _ (List.mem_of_getElem? (i := 2) rfl)
theorem cD_afterEnd_27 : zCode 20 27 = some (.iastore, 28, 0, 0, 0, 0, 7) := cAD_afterEnd_1 _ (List.mem_of_getElem? (i := 3) rfl)
theorem cD_afterEnd_28 : zCode 20 28 = some (.aload_n 0, 29, 0, 0, 0, 0, 7) := cAD_afterEnd_1 _ (List.mem_of_getElem? (i := 4) rfl)
theorem cD_afterEnd_29 : zCode 20 29 = some (.getfield 48, 32, 1, 10, 2, 479, 7) := cAD_afterEnd_1 _ (List.mem_of_getElem? (i := 5) rfl)
theorem cD_afterEnd_32 : zCode 20 32 = some (.iload_n 2, 33, 0, 0, 0, 0, 7) := cAD_afterEnd_1 _ (List.mem_of_getElem? (i := 6) rfl)
theorem cD_afterEnd_33 : zCode 20 33 = some (.iaload, 34, 0, 0, 0, 0, 7) := cAD_afterEnd_1 _ (List.mem_of_getElem? (i := 7) rfl)
theorem cD_afterEnd_34 : zCode 20 34 = some (.ifCond .le 10, 37, 44, 0, 0, 0, 7) := cAD_afterEnd_1 _ (List.mem_of_getElem? (i := 8) rfl)
theorem cD_afterEnd_37 : zCode 20 37 = some (.aload_n 0, 38, 0, 0, 0, 0, 5) := cAD_afterEnd_1 _ (List.mem_of_getElem? (i := 9) rfl)
theorem cD_afterEnd_38 : zCode 20 38 = some (.getfield 45, 41, 1, 9, 2, 478, 4) := cAD_afterEnd_1 _ (List.mem_of_getElem? (i := 10) rfl)
theorem cD_afterEnd_41 : zCode 20 41 = some (.iload_n 2, 42, 0, 0, 0, 0, 4) := cAD_afterEnd_1 _ (List.mem_of_getElem? (i := 11) rfl)
theorem cD_afterEnd_42 : zCode 20 42 = some (.iaload, 43, 0, 0, 0, 0, 0) := cAD_afterEnd_1 _ (List.mem_of_getElem? (i := 12) rfl)
theorem cD_afterEnd_43 : zCode 20 43 = some (.ireturn, 44, 0, 0, 0, 0, 0) := cAD_afterEnd_1 _ (List.mem_of_getElem? (i := 13) rfl)
theorem cD_afterEnd_44 : zCode 20 44 = some (.aload_n 0, 45, 0, 0, 0, 0, 3) := cAD_afterEnd_1 _ (List.mem_of_getElem? (i := 14) rfl)
theorem cD_afterEnd_45 : zCode 20 45 = some (.dup, 46, 0, 0, 0, 0, 2) := cAD_afterEnd_1 _ (List.mem_of_getElem? (i := 15) rfl)
theorem cD_afterEnd_46 : zCode 20 46 = some (.getfield 51, 49, 1, 11, 0, 480, 2) := cAD_afterEnd_2 _ (List.mem_of_getElem? (i := 0) rfl)
theorem cD_afterEnd_49 : zCode 20 49 = some (.iconst 1, 50, 0, 0, 0, 0, 2) := cAD_afterEnd_2 _ (List.mem_of_getElem? (i := 1) rfl)
theorem cD_afterEnd_50 : zCode 20 50 = some (.isub, 51, 0, 0, 0, 0, 2) := cAD_afterEnd_2 _ (List.mem_of_getElem? (i := 2) rfl)
theorem cD_afterEnd_51 : zCode 20 51 = some (.putfield 51, 54, 1, 11, 0, 480, 2) := cAD_afterEnd_2 _ (List.mem_of_getElem? (i := 3) rfl)
theorem cD_afterEnd_54 : zCode 20 54 = some (.iload_n 1, 55, 0, 0, 0, 0, 2) := cAD_afterEnd_2 _ (List.mem_of_getElem? (i := 4) rfl)
theorem cD_afterEnd_55 : zCode 20 55 = some (.iconst 1, 56, 0, 0, 0, 0, 0) := cAD_afterEnd_2 _ (List.mem_of_getElem? (i := 5) rfl)
theorem cD_afterEnd_56 : zCode 20 56 = some (.iadd, 57, 0, 0, 0, 0, 0) := cAD_afterEnd_2 _ (List.mem_of_getElem? (i := 6) rfl)
theorem cD_afterEnd_57 : zCode 20 57 = some (.ireturn, 58, 0, 0, 0, 0, 0) := cAD_afterEnd_2 _ (List.mem_of_getElem? (i := 7) rfl)
theorem rD_afterEnd_0 {a0 : Nat} {a1 : Int} {u2 : zV} : zS 20 0 [zR a0, zI a1, u2] [] sh pp mm Q ↔ zS 20 1 [zR a0, zI a1, zU] [zR a0] sh pp mm Q := s_go cD_afterEnd_0 cD_afterEnd_1 rfl rfl
theorem rD_afterEnd_1 {a0 s0 : Nat} {a1 : Int} {u2 : zV} (hk : zKd sh s0 = 1) : zS 20 1 [zR a0, zI a1, u2] [zR s0] sh pp mm Q ↔ zS 20 4 [zR a0, zI a1, zU] [zI (mm s0 11)] sh pp mm Q := s_go cD_afterEnd_1 cD_afterEnd_4 (if_pos hk) rfl
theorem rD_afterEnd_4 {a0 : Nat} {a1 s0 : Int} {u2 : zV} : zS 20 4 [zR a0, zI a1, u2] [zI s0] sh pp mm Q ↔ (s0 = 0 → zS 20 7 [zU, zI a1, zU] [] sh pp mm Q) ∧ (¬ s0 = 0 → zS 20 11 [zR a0, zI a1, zU] [] sh pp mm Q) := s_ifn cD_afterEnd_4 cD_afterEnd_7 cD_afterEnd_11 rfl rfl rfl
theorem rD_afterEnd_7 {a1 : Int} {u0 u2 : zV} : zS 20 7 [u0, zI a1, u2] [] sh pp mm Q ↔ zS 20 8 [zU, zU, zU] [zI a1] sh pp mm Q := s_go cD_afterEnd_7 cD_afterEnd_8 rfl rfl
theorem rD_afterEnd_8 {s0 : Int} {u0 u1 u2 : zV} : zS 20 8 [u0, u1, u2] [zI s0] sh pp mm Q ↔ zS 20 9 [zU, zU, zU] [zI 1, zI s0] sh pp mm Q := s_go cD_afterEnd_8 cD_afterEnd_9 rfl rfl
theorem rD_afterEnd_9 {s0 s1 : Int} {u0 u1 u2 : zV} : zS 20 9 [u0, u1, u2] [zI s0, zI s1] sh pp mm Q ↔ zS 20 10 [zU, zU, zU] [zI (zw32 (s1 + s0))] sh pp mm Q := s_go cD_afterEnd_9 cD_afterEnd_10 rfl rfl
theorem rD_afterEnd_10 {s0 : Int} {u0 u1 u2 : zV} : zS 20 10 [u0, u1, u2] [zI s0] sh pp mm Q ↔ Q (zI s0) sh pp mm := s_ret cD_afterEnd_10 rfl
theorem rD_afterEnd_11 {a0 : Nat} {a1 : Int} {u2 : zV} : zS 20 11 [zR a0, zI a1, u2] [] sh pp mm Q ↔ zS 20 12 [zR a0, zI a1, zU] [zR a0] sh pp mm Q := s_go cD_afterEnd_11 cD_afterEnd_12 rfl rfl
theorem rD_afterEnd_12 {a0 s0 : Nat} {a1 : Int} {u2 : zV} (hk : zKd sh s0 = 1) : zS 20 12 [zR a0, zI a1, u2] [zR s0] sh pp mm Q ↔ zS 20 15 [zR a0, zI a1, zU] [zI (mm s0 11)] sh pp mm Q := s_go cD_afterEnd_12 cD_afterEnd_15 (if_pos hk) rfl
theorem rD_afterEnd_15 {a0 : Nat} {a1 s0 : Int} {u2 : zV} : zS 20 15 [zR a0, zI a1, u2] [zI s0] sh pp mm Q ↔ zS 20 16 [zR a0, zI a1, zU] [zI 1, zI s0] sh pp mm Q := s_go cD_afterEnd_15 cD_afterEnd_16 rfl rfl
theorem rD_afterEnd_16 {a0 : Nat} {a1 s0 s1 : Int} {u2 : zV} : zS 20 16 [zR a0, zI a1, u2] [zI s0, zI s1] sh pp mm Q ↔ zS 20 17 [zR a0, zI a1, zU] [zI (zw32 (s1 - s0))] sh pp mm Q := s_go cD_afterEnd_16 cD_afterEnd_17 rfl rfl
theorem rD_afterEnd_17 {a0 : Nat} {a1 s0 : Int} {u2 : zV} : zS 20 17 [zR a0, zI a1, u2] [zI s0] sh pp mm Q ↔ zS 20 18 [zR a0, zI a1, zI s0] [] sh pp mm Q := s_go cD_afterEnd_17 cD_afterEnd_18 rfl rfl
theorem rD_afterEnd_18 {a0 : Nat} {a1 a2 : Int} : zS 20 18 [zR a0, zI a1, zI a2] [] sh pp mm Q ↔ zS 20 19 [zR a0, zI a1, zI a2] [zR a0] sh pp mm Q := s_go cD_afterEnd_18 cD_afterEnd_19 rfl rfl
theorem rD_afterEnd_19 {a0 s0 : Nat} {a1 a2 : Int} (hk : zKd sh s0 = 1) : zS 20 19 [zR a0, zI a1, zI a2] [zR s0] sh pp mm Q ↔ zS 20 22 [zR a0, zI a1, zI a2] [zR (pp s0 10)] sh pp mm Q := s_go cD_afterEnd_19 cD_afterEnd_22 (if_pos hk) rfl
theorem rD_afterEnd_22 {a0 s0 : Nat} {a1 a2 : Int} : zS 20 22 [zR a0, zI a1, zI a2] [zR s0] sh pp mm Q ↔ zS 20 23 [zR a0, zI a1, zI a2] [zI a2, zR s0] sh pp mm Q := s_go cD_afterEnd_22 cD_afterEnd_23 rfl rfl
theorem rD_afterEnd_23 {a0 s1 : Nat} {a1 a2 s0 : Int} : zS 20 23 [zR a0, zI a1, zI a2] [zI s0, zR s1] sh pp mm Q ↔ zS 20 24 [zR a0, zI a1, zI a2] [zI s0, zR s1, zI s0, zR s1] sh pp mm Q := s_go cD_afterEnd_23 cD_afterEnd_24 rfl rfl
theorem rD_afterEnd_24 {a0 s1 s3 : Nat} {a1 a2 s0 s2 : Int} (hk : zKd sh s1 = 20 ∨ zKd sh s1 = 30) (h0 : 0 ≤ s0) (h1 : s0 < zLn sh s1) : zS 20 24 [zR a0, zI a1, zI a2] [zI s0, zR s1, zI s2, zR s3] sh pp mm Q ↔ zS 20 25 [zR a0, zI a1, zI a2] [zI (mm s1 s0), zI s2, zR s3] sh pp mm Q := s_go cD_afterEnd_24 cD_afterEnd_25 (if_pos ⟨hk, h0, h1⟩) rfl
theorem rD_afterEnd_25 {a0 s2 : Nat} {a1 a2 s0 s1 : Int} : zS 20 25 [zR a0, zI a1, zI a2] [zI s0, zI s1, zR s2] sh pp mm Q ↔ zS 20 26 [zR a0, zI a1, zI a2] [zI 1, zI s0, zI s1, zR s2] sh pp mm Q := s_go cD_afterEnd_25 cD_afterEnd_26 rfl rfl
theorem rD_afterEnd_26 {a0 s3 : Nat} {a1 a2 s0 s1 s2 : Int} : zS 20 26 [zR a0, zI a1, zI a2] [zI s0, zI s1, zI s2, zR s3] sh pp mm Q ↔ zS 20 27 [zR a0, zI a1, zI a2] [zI (zw32 (s1 - s0)), zI s2, zR s3] sh pp mm Q := s_go cD_afterEnd_26 cD_afterEnd_27 rfl rfl
theorem rD_afterEnd_27 {a0 s2 : Nat} {a1 a2 s0 s1 : Int} (hk : zKd sh s2 = 20) (h0 : 0 ≤ s1) (h1 : s1 < zLn sh s2) : zS 20 27 [zR a0, zI a1, zI a2] [zI s0, zI s1, zR s2] sh pp mm Q ↔ zS 20 28 [zR a0, zI a1, zI a2] [] sh pp (zupd mm s2 s1 s0) Q := s_go cD_afterEnd_27 cD_afterEnd_28 (if_pos ⟨hk, h0, h1, fun h => absurd h (by decide)⟩) rfl
theorem rD_afterEnd_28 {a0 : Nat} {a1 a2 : Int} : zS 20 28 [zR a0, zI a1, zI a2] [] sh pp mm Q ↔ zS 20 29 [zR a0, zI a1, zI a2] [zR a0] sh pp mm Q := s_go cD_afterEnd_28 cD_afterEnd_29 rfl rfl
theorem rD_afterEnd_29 {a0 s0 : Nat} {a1 a2 : Int} (hk : zKd sh s0 = 1) : zS 20 29 [zR a0, zI a1, zI a2] [zR s0] sh pp mm Q ↔ zS 20 32 [zR a0, zI a1, zI a2] [zR (pp s0 10)] sh pp mm Q := s_go cD_afterEnd_29 cD_afterEnd_32 (if_pos hk) rfl
theorem rD_afterEnd_32 {a0 s0 : Nat} {a1 a2 : Int} : zS 20 32 [zR a0, zI a1, zI a2] [zR s0] sh pp mm Q ↔ zS 20 33 [zR a0, zI a1, zI a2] [zI a2, zR s0] sh pp mm Q := s_go cD_afterEnd_32 cD_afterEnd_33 rfl rfl
theorem rD_afterEnd_33 {a0 s1 : Nat} {a1 a2 s0 : Int} (hk : zKd sh s1 = 20 ∨ zKd sh s1 = 30) (h0 : 0 ≤ s0) (h1 : s0 < zLn sh s1) : zS 20 33 [zR a0, zI a1, zI a2] [zI s0, zR s1] sh pp mm Q ↔ zS 20 34 [zR a0, zI a1, zI a2] [zI (mm s1 s0)] sh pp mm Q := s_go cD_afterEnd_33 cD_afterEnd_34 (if_pos ⟨hk, h0, h1⟩) rfl
theorem rD_afterEnd_34 {a0 : Nat} {a1 a2 s0 : Int} : zS 20 34 [zR a0, zI a1, zI a2] [zI s0] sh pp mm Q ↔ (0 < s0 → zS 20 37 [zR a0, zU, zI a2] [] sh pp mm Q) ∧ (¬ 0 < s0 → zS 20 44 [zR a0, zI a1, zU] [] sh pp mm Q) := s_ifn cD_afterEnd_34 cD_afterEnd_37 cD_afterEnd_44 rfl rfl rfl
theorem rD_afterEnd_37 {a0 : Nat} {a2 : Int} {u1 : zV} : zS 20 37 [zR a0, u1, zI a2] [] sh pp mm Q ↔ zS 20 38 [zU, zU, zI a2] [zR a0] sh pp mm Q := s_go cD_afterEnd_37 cD_afterEnd_38 rfl rfl
theorem rD_afterEnd_38 {s0 : Nat} {a2 : Int} {u0 u1 : zV} (hk : zKd sh s0 = 1) : zS 20 38 [u0, u1, zI a2] [zR s0] sh pp mm Q ↔ zS 20 41 [zU, zU, zI a2] [zR (pp s0 9)] sh pp mm Q := s_go cD_afterEnd_38 cD_afterEnd_41 (if_pos hk) rfl
theorem rD_afterEnd_41 {s0 : Nat} {a2 : Int} {u0 u1 : zV} : zS 20 41 [u0, u1, zI a2] [zR s0] sh pp mm Q ↔ zS 20 42 [zU, zU, zU] [zI a2, zR s0] sh pp mm Q := s_go cD_afterEnd_41 cD_afterEnd_42 rfl rfl
theorem rD_afterEnd_42 {s1 : Nat} {s0 : Int} {u0 u1 u2 : zV} (hk : zKd sh s1 = 20 ∨ zKd sh s1 = 30) (h0 : 0 ≤ s0) (h1 : s0 < zLn sh s1) : zS 20 42 [u0, u1, u2] [zI s0, zR s1] sh pp mm Q ↔ zS 20 43 [zU, zU, zU] [zI (mm s1 s0)] sh pp mm Q := s_go cD_afterEnd_42 cD_afterEnd_43 (if_pos ⟨hk, h0, h1⟩) rfl
theorem rD_afterEnd_43 {s0 : Int} {u0 u1 u2 : zV} : zS 20 43 [u0, u1, u2] [zI s0] sh pp mm Q ↔ Q (zI s0) sh pp mm := s_ret cD_afterEnd_43 rfl
theorem rD_afterEnd_44 {a0 : Nat} {a1 : Int} {u2 : zV} : zS 20 44 [zR a0, zI a1, u2] [] sh pp mm Q ↔ zS 20 45 [zU, zI a1, zU] [zR a0] sh pp mm Q := s_go cD_afterEnd_44 cD_afterEnd_45 rfl rfl
theorem rD_afterEnd_45 {s0 : Nat} {a1 : Int} {u0 u2 : zV} : zS 20 45 [u0, zI a1, u2] [zR s0] sh pp mm Q ↔ zS 20 46 [zU, zI a1, zU] [zR s0, zR s0] sh pp mm Q := s_go cD_afterEnd_45 cD_afterEnd_46 rfl rfl
theorem rD_afterEnd_46 {s0 s1 : Nat} {a1 : Int} {u0 u2 : zV} (hk : zKd sh s0 = 1) : zS 20 46 [u0, zI a1, u2] [zR s0, zR s1] sh pp mm Q ↔ zS 20 49 [zU, zI a1, zU] [zI (mm s0 11), zR s1] sh pp mm Q := s_go cD_afterEnd_46 cD_afterEnd_49 (if_pos hk) rfl
theorem rD_afterEnd_49 {s1 : Nat} {a1 s0 : Int} {u0 u2 : zV} : zS 20 49 [u0, zI a1, u2] [zI s0, zR s1] sh pp mm Q ↔ zS 20 50 [zU, zI a1, zU] [zI 1, zI s0, zR s1] sh pp mm Q := s_go cD_afterEnd_49 cD_afterEnd_50 rfl rfl
theorem rD_afterEnd_50 {s2 : Nat} {a1 s0 s1 : Int} {u0 u2 : zV} : zS 20 50 [u0, zI a1, u2] [zI s0, zI s1, zR s2] sh pp mm Q ↔ zS 20 51 [zU, zI a1, zU] [zI (zw32 (s1 - s0)), zR s2] sh pp mm Q := s_go cD_afterEnd_50 cD_afterEnd_51 rfl rfl
theorem rD_afterEnd_51 {s1 : Nat} {a1 s0 : Int} {u0 u2 : zV} (hk : zKd sh s1 = 1) : zS 20 51 [u0, zI a1, u2] [zI s0, zR s1] sh pp mm Q ↔ zS 20 54 [zU, zI a1, zU] [] sh pp (zupd mm s1 11 s0) Q := s_go cD_afterEnd_51 cD_afterEnd_54 (if_pos ⟨hk, Or.inl rfl⟩) rfl
theorem rD_afterEnd_54 {a1 : Int} {u0 u2 : zV} : zS 20 54 [u0, zI a1, u2] [] sh pp mm Q ↔ zS 20 55 [zU, zU, zU] [zI a1] sh pp mm Q := s_go cD_afterEnd_54 cD_afterEnd_55 rfl rfl
theorem rD_afterEnd_55 {s0 : Int} {u0 u1 u2 : zV} : zS 20 55 [u0, u1, u2] [zI s0] sh pp mm Q ↔ zS 20 56 [zU, zU, zU] [zI 1, zI s0] sh pp mm Q := s_go cD_afterEnd_55 cD_afterEnd_56 rfl rfl
theorem rD_afterEnd_56 {s0 s1 : Int} {u0 u1 u2 : zV} : zS 20 56 [u0, u1, u2] [zI s0, zI s1] sh pp mm Q ↔ zS 20 57 [zU, zU, zU] [zI (zw32 (s1 + s0))] sh pp mm Q := s_go cD_afterEnd_56 cD_afterEnd_57 rfl rfl
theorem rD_afterEnd_57 {s0 : Int} {u0 u1 u2 : zV} : zS 20 57 [u0, u1, u2] [zI s0] sh pp mm Q ↔ Q (zI s0) sh pp mm := s_ret cD_afterEnd_57 rfl
theorem cAD_longer : ∀ q ∈ zT21, zCode 21 q.1 = some q.2 := zAll (mid := 21) rfl (by decide +kernel)
theorem cAD_longer_0 : ∀ q ∈ zT21_0, zCode 21 q.1 = some q.2 := fun q h => cAD_longer q (h)
theorem cD_longer_0 : zCode 21 0 = some (.iload_n 0, 1, 0, 0, 0, 0, 3) := cAD_longer_0 _ (List.mem_of_getElem? (i := 0) rfl)
theorem cD_longer_1 : zCode 21 1 = some (.invokestatic 117, 4, 258, 1, 1, 15, 2) := cAD_longer_0 _ (List.mem_of_getElem? (i := 1) rfl)
theorem cD_longer_4 : zCode 21 4 = some (.iload_n 1, 5, 0, 0, 0, 0, 2) := cAD_longer_0 _ (List.mem_of_getElem? (i := 2) rfl)
theorem cD_longer_5 : zCode 21 5 = some (.invokestatic 117, 8, 258, 1, 1, 15, 0) := cAD_longer_0 _ (List.mem_of_getElem? (i := 3) rfl)
theorem cD_longer_8 : zCode 21 8 = some (.invokestatic 105, 11, 259, 2, 2, 15, 0) := cAD_longer_0 _ (List.mem_of_getElem? (i := 4) rfl)
theorem cD_longer_11 : zCode 21 11 = some (.ireturn, 12, 0, 0, 0, 0, 0) := cAD_longer_0 _ (List.mem_of_getElem? (i := 5) rfl)
theorem rD_longer_0 {a0 a1 : Int} : zS 21 0 [zI a0, zI a1] [] sh pp mm Q ↔ zS 21 1 [zU, zI a1] [zI a0] sh pp mm Q := s_go cD_longer_0 cD_longer_1 rfl rfl
theorem rD_longer_1 {a1 s0 : Int} {u0 : zV} : zS 21 1 [u0, zI a1] [zI s0] sh pp mm Q ↔ zS 258 0 [zI s0] [] sh pp mm (fun v sh pp mm => zS 21 4 [zU, zI a1] (zPush v []) sh pp mm Q) := s_call cD_longer_1 cD_longer_4 rfl rfl
theorem rD_longer_4 {a1 s0 : Int} {u0 : zV} : zS 21 4 [u0, zI a1] [zI s0] sh pp mm Q ↔ zS 21 5 [zU, zU] [zI a1, zI s0] sh pp mm Q := s_go cD_longer_4 cD_longer_5 rfl rfl
theorem rD_longer_5 {s0 s1 : Int} {u0 u1 : zV} : zS 21 5 [u0, u1] [zI s0, zI s1] sh pp mm Q ↔ zS 258 0 [zI s0] [] sh pp mm (fun v sh pp mm => zS 21 8 [zU, zU] (zPush v [zI s1]) sh pp mm Q) := s_call cD_longer_5 cD_longer_8 rfl rfl
theorem rD_longer_8 {s0 s1 : Int} {u0 u1 : zV} : zS 21 8 [u0, u1] [zI s0, zI s1] sh pp mm Q ↔ zS 259 0 [zI s1, zI s0] [] sh pp mm (fun v sh pp mm => zS 21 11 [zU, zU] (zPush v []) sh pp mm Q) := s_call cD_longer_8 cD_longer_11 rfl rfl
theorem rD_longer_11 {s0 : Int} {u0 u1 : zV} : zS 21 11 [u0, u1] [zI s0] sh pp mm Q ↔ Q (zI s0) sh pp mm := s_ret cD_longer_11 rfl
theorem cAD_handsTake : ∀ q ∈ zT22, zCode 22 q.1 = some q.2 := zAll (mid := 22) rfl (by decide +kernel)
theorem cAD_handsTake_0 : ∀ q ∈ zT22_0, zCode 22 q.1 = some q.2 := fun q h => cAD_handsTake q (h)
theorem cD_handsTake_0 : zCode 22 0 = some (.iload_n 1, 1, 0, 0, 0, 0, 3) := cAD_handsTake_0 _ (List.mem_of_getElem? (i := 0) rfl)
theorem cD_handsTake_1 : zCode 22 1 = some (.iconst 1, 2, 0, 0, 0, 0, 3) := cAD_handsTake_0 _ (List.mem_of_getElem? (i := 1) rfl)
theorem cD_handsTake_2 : zCode 22 2 = some (.if_icmp .ge 7, 5, 9, 0, 0, 0, 3) := cAD_handsTake_0 _ (List.mem_of_getElem? (i := 2) rfl)
theorem cD_handsTake_5 : zCode 22 5 = some (.iconst 0, 6, 0, 0, 0, 0, 0) := cAD_handsTake_0 _ (List.mem_of_getElem? (i := 3) rfl)
theorem cD_handsTake_6 : zCode 22 6 = some (.goto 13, 9, 19, 0, 0, 0, 0) := cAD_handsTake_0 _ (List.mem_of_getElem? (i := 4) rfl)
theorem cD_handsTake_9 : zCode 22 9 = some (.iload_n 0, 10, 0, 0, 0, 0, 3) := cAD_handsTake_0 _ (List.mem_of_getElem? (i := 5) rfl)
theorem cD_handsTake_10 : zCode 22 10 = some (.invokestatic 117, 13, 258, 1, 1, 15, 2) := cAD_handsTake_0 _ (List.mem_of_getElem? (i := 6) rfl)
theorem cD_handsTake_13 : zCode 22 13 = some (.iload_n 1, 14, 0, 0, 0, 0, 2) := cAD_handsTake_0 _ (List.mem_of_getElem? (i := 7) rfl)
theorem cD_handsTake_14 : zCode 22 14 = some (.iadd, 15, 0, 0, 0, 0, 2) := cAD_handsTake_0 _ (List.mem_of_getElem? (i := 8) rfl)
theorem cD_handsTake_15 : zCode 22 15 = some (.iconst 1, 16, 0, 0, 0, 0, 2) := cAD_handsTake_0 _ (List.mem_of_getElem? (i := 9) rfl)
theorem cD_handsTake_16 : zCode 22 16 = some (.isub, 17, 0, 0, 0, 0, 2) := cAD_handsTake_0 _ (List.mem_of_getElem? (i := 10) rfl)
theorem cD_handsTake_17 : zCode 22 17 = some (.iload_n 1, 18, 0, 0, 0, 0, 2) := cAD_handsTake_0 _ (List.mem_of_getElem? (i := 11) rfl)
theorem cD_handsTake_18 : zCode 22 18 = some (.idiv, 19, 0, 0, 0, 0, 0) := cAD_handsTake_0 _ (List.mem_of_getElem? (i := 12) rfl)
theorem cD_handsTake_19 : zCode 22 19 = some (.ireturn, 20, 0, 0, 0, 0, 0) := cAD_handsTake_0 _ (List.mem_of_getElem? (i := 13) rfl)
theorem rD_handsTake_0 {a0 a1 : Int} : zS 22 0 [zI a0, zI a1] [] sh pp mm Q ↔ zS 22 1 [zI a0, zI a1] [zI a1] sh pp mm Q := s_go cD_handsTake_0 cD_handsTake_1 rfl rfl
theorem rD_handsTake_1 {a0 a1 s0 : Int} : zS 22 1 [zI a0, zI a1] [zI s0] sh pp mm Q ↔ zS 22 2 [zI a0, zI a1] [zI 1, zI s0] sh pp mm Q := s_go cD_handsTake_1 cD_handsTake_2 rfl rfl
theorem rD_handsTake_2 {a0 a1 s0 s1 : Int} : zS 22 2 [zI a0, zI a1] [zI s0, zI s1] sh pp mm Q ↔ (s1 < s0 → zS 22 5 [zU, zU] [] sh pp mm Q) ∧ (¬ s1 < s0 → zS 22 9 [zI a0, zI a1] [] sh pp mm Q) := s_ifn cD_handsTake_2 cD_handsTake_5 cD_handsTake_9 rfl rfl rfl
theorem rD_handsTake_5 {u0 u1 : zV} : zS 22 5 [u0, u1] [] sh pp mm Q ↔ zS 22 6 [zU, zU] [zI 0] sh pp mm Q := s_go cD_handsTake_5 cD_handsTake_6 rfl rfl
theorem rD_handsTake_6 {s0 : Int} {u0 u1 : zV} : zS 22 6 [u0, u1] [zI s0] sh pp mm Q ↔ zS 22 19 [zU, zU] [zI s0] sh pp mm Q := s_go cD_handsTake_6 cD_handsTake_19 rfl rfl
theorem rD_handsTake_9 {a0 a1 : Int} : zS 22 9 [zI a0, zI a1] [] sh pp mm Q ↔ zS 22 10 [zU, zI a1] [zI a0] sh pp mm Q := s_go cD_handsTake_9 cD_handsTake_10 rfl rfl
theorem rD_handsTake_10 {a1 s0 : Int} {u0 : zV} : zS 22 10 [u0, zI a1] [zI s0] sh pp mm Q ↔ zS 258 0 [zI s0] [] sh pp mm (fun v sh pp mm => zS 22 13 [zU, zI a1] (zPush v []) sh pp mm Q) := s_call cD_handsTake_10 cD_handsTake_13 rfl rfl
theorem rD_handsTake_13 {a1 s0 : Int} {u0 : zV} : zS 22 13 [u0, zI a1] [zI s0] sh pp mm Q ↔ zS 22 14 [zU, zI a1] [zI a1, zI s0] sh pp mm Q := s_go cD_handsTake_13 cD_handsTake_14 rfl rfl
theorem rD_handsTake_14 {a1 s0 s1 : Int} {u0 : zV} : zS 22 14 [u0, zI a1] [zI s0, zI s1] sh pp mm Q ↔ zS 22 15 [zU, zI a1] [zI (zw32 (s1 + s0))] sh pp mm Q := s_go cD_handsTake_14 cD_handsTake_15 rfl rfl
theorem rD_handsTake_15 {a1 s0 : Int} {u0 : zV} : zS 22 15 [u0, zI a1] [zI s0] sh pp mm Q ↔ zS 22 16 [zU, zI a1] [zI 1, zI s0] sh pp mm Q := s_go cD_handsTake_15 cD_handsTake_16 rfl rfl
theorem rD_handsTake_16 {a1 s0 s1 : Int} {u0 : zV} : zS 22 16 [u0, zI a1] [zI s0, zI s1] sh pp mm Q ↔ zS 22 17 [zU, zI a1] [zI (zw32 (s1 - s0))] sh pp mm Q := s_go cD_handsTake_16 cD_handsTake_17 rfl rfl
theorem rD_handsTake_17 {a1 s0 : Int} {u0 : zV} : zS 22 17 [u0, zI a1] [zI s0] sh pp mm Q ↔ zS 22 18 [zU, zU] [zI a1, zI s0] sh pp mm Q := s_go cD_handsTake_17 cD_handsTake_18 rfl rfl
theorem rD_handsTake_18 {s0 s1 : Int} {u0 u1 : zV} (hz : s0 ≠ 0) : zS 22 18 [u0, u1] [zI s0, zI s1] sh pp mm Q ↔ zS 22 19 [zU, zU] [zI (zw32 (s1.tdiv s0))] sh pp mm Q := s_go cD_handsTake_18 cD_handsTake_19 (if_neg hz) rfl
theorem rD_handsTake_19 {s0 : Int} {u0 u1 : zV} : zS 22 19 [u0, u1] [zI s0] sh pp mm Q ↔ Q (zI s0) sh pp mm := s_ret cD_handsTake_19 rfl
theorem cAD_turn : ∀ q ∈ zT23, zCode 23 q.1 = some q.2 := zAll (mid := 23) rfl (by decide +kernel)
theorem cAD_turn_0 : ∀ q ∈ zT23_0, zCode 23 q.1 = some q.2 := fun q h => cAD_turn q (List.mem_append_left _ h)
theorem cAD_turn_1 : ∀ q ∈ zT23_1, zCode 23 q.1 = some q.2 := fun q h => cAD_turn q (List.mem_append_right _ (List.mem_append_left _ h))
theorem cAD_turn_2 : ∀ q ∈ zT23_2, zCode 23 q.1 = some q.2 := fun q h => cAD_turn q (List.mem_append_right _ (List.mem_append_right _ (List.mem_append_left _ h)))
theorem cAD_turn_3 : ∀ q ∈ zT23_3, zCode 23 q.1 = some q.2 := fun q h => cAD_turn q (List.mem_append_right _ (List.mem_append_right _ (List.mem_append_right _ (List.mem_append_left _ h))))
theorem cAD_turn_4 : ∀ q ∈ zT23_4, zCode 23 q.1 = some q.2 := fun q h => cAD_turn q (List.mem_append_right _ (List.mem_append_right _ (List.mem_append_right _ (List.mem_append_right _ h))))
theorem cD_turn_0 : zCode 23 0 = some (.iload_n 1, 1, 0, 0, 0, 0, 7) := cAD_turn_0 _ (List.mem_of_getElem? (i := 0) rfl)
theorem cD_turn_1 : zCode 23 1 = some (.iload_n 2, 2, 0, 0, 0, 0, 7) := cAD_turn_0 _ (List.mem_of_getElem? (i := 1) rfl)
theorem cD_turn_2 : zCode 23 2 = some (.invokestatic 94, 5, 21, 2, 2, 1, 7) := cAD_turn_0 _ (List.mem_of_getElem? (i := 2) rfl)
theorem cD_turn_5 : zCode 23 5 = some (.istore_n 3, 6, 0, 0, 0, 0, 7) := cAD_turn_0 _ (List.mem_of_getElem? (i := 3) rfl)
theorem cD_turn_6 : zCode 23 6 = some (.iload_n 1, 7, 0, 0, 0, 0, 15) := cAD_turn_0 _ (List.mem_of_getElem? (i := 4) rfl)
theorem cD_turn_7 : zCode 23 7 = some (.invokestatic 117, 10, 258, 1, 1, 15, 15) := cAD_turn_0 _ (List.mem_of_getElem? (i := 5) rfl)
theorem cD_turn_10 : zCode 23 10 = some (.istore 4, 12, 0, 0, 0, 0, 15) := cAD_turn_0 _ (List.mem_of_getElem? (i := 6) rfl)
theorem cD_turn_12 : zCode 23 12 = some (.iload_n 2, 13, 0, 0, 0, 0, 31) := cAD_turn_0 _ (List.mem_of_getElem? (i := 7) rfl)
theorem cD_turn_13 : zCode 23 13 = some (.invokestatic 117, 16, 258, 1, 1, 15, 31) := cAD_turn_0 _ (List.mem_of_getElem? (i := 8) rfl)
theorem cD_turn_16 : zCode 23 16 = some (.istore 5, 18, 0, 0, 0, 0, 31) := cAD_turn_0 _ (List.mem_of_getElem? (i := 9) rfl)
theorem cD_turn_18 : zCode 23 18 = some (.iconst 1, 19, 0, 0, 0, 0, 63) := cAD_turn_0 _ (List.mem_of_getElem? (i := 10) rfl)
theorem cD_turn_19 : zCode 23 19 = some (.istore 6, 21, 0, 0, 0, 0, 63) := cAD_turn_0 _ (List.mem_of_getElem? (i := 11) rfl)
theorem cD_turn_21 : zCode 23 21 = some (.iload 6, 23, 0, 0, 0, 0, 127) := cAD_turn_0 _ (List.mem_of_getElem? (i := 12) rfl)
theorem cD_turn_23 : zCode 23 23 = some (.iload_n 3, 24, 0, 0, 0, 0, 127) := cAD_turn_0 _ (List.mem_of_getElem? (i := 13) rfl)
theorem cD_turn_24 : zCode 23 24 = some (.if_icmp .gt 103, 27, 127, 0, 0, 0, 127) := cAD_turn_0 _ (List.mem_of_getElem? (i := 14) rfl)
theorem cD_turn_27 : zCode 23 27 = some (.iload 6, 29, 0, 0, 0, 0, 127) := cAD_turn_0 _ (List.mem_of_getElem? (i := 15) rfl)
theorem cD_turn_29 : zCode 23 29 = some (.iload 4, 31, 0, 0, 0, 0, 127) := cAD_turn_1 _ (List.mem_of_getElem? (i := 0) rfl)
theorem cD_turn_31 : zCode 23 31 = some (.imul, 32, 0, 0, 0, 0, 127) := cAD_turn_1 _ (List.mem_of_getElem? (i := 1) rfl)
theorem cD_turn_32 : zCode 23 32 = some (.iload_n 3, 33, 0, 0, 0, 0, 127) := cAD_turn_1 _ (List.mem_of_getElem? (i := 2) rfl)
theorem cD_turn_33 : zCode 23 33 = some (.idiv, 34, 0, 0, 0, 0, 127) := cAD_turn_1 _ (List.mem_of_getElem? (i := 3) rfl)
theorem cD_turn_34 : zCode 23 34 = some (.iload 6, 36, 0, 0, 0, 0, 127) := cAD_turn_1 _ (List.mem_of_getElem? (i := 4) rfl)
theorem cD_turn_36 : zCode 23 36 = some (.iconst 1, 37, 0, 0, 0, 0, 127) := cAD_turn_1 _ (List.mem_of_getElem? (i := 5) rfl)
theorem cD_turn_37 : zCode 23 37 = some (.isub, 38, 0, 0, 0, 0, 127) := cAD_turn_1 _ (List.mem_of_getElem? (i := 6) rfl)
theorem cD_turn_38 : zCode 23 38 = some (.iload 4, 40, 0, 0, 0, 0, 127) := cAD_turn_1 _ (List.mem_of_getElem? (i := 7) rfl)
theorem cD_turn_40 : zCode 23 40 = some (.imul, 41, 0, 0, 0, 0, 127) := cAD_turn_1 _ (List.mem_of_getElem? (i := 8) rfl)
theorem cD_turn_41 : zCode 23 41 = some (.iload_n 3, 42, 0, 0, 0, 0, 127) := cAD_turn_1 _ (List.mem_of_getElem? (i := 9) rfl)
theorem cD_turn_42 : zCode 23 42 = some (.idiv, 43, 0, 0, 0, 0, 127) := cAD_turn_1 _ (List.mem_of_getElem? (i := 10) rfl)
theorem cD_turn_43 : zCode 23 43 = some (.if_icmp .le 19, 46, 62, 0, 0, 0, 127) := cAD_turn_1 _ (List.mem_of_getElem? (i := 11) rfl)
theorem cD_turn_46 : zCode 23 46 = some (.aload_n 0, 47, 0, 0, 0, 0, 127) := cAD_turn_1 _ (List.mem_of_getElem? (i := 12) rfl)
theorem cD_turn_47 : zCode 23 47 = some (.getfield 35, 50, 1, 6, 2, 475, 127) := cAD_turn_1 _ (List.mem_of_getElem? (i := 13) rfl)
theorem cD_turn_50 : zCode 23 50 = some (.iload_n 1, 51, 0, 0, 0, 0, 127) := cAD_turn_1 _ (List.mem_of_getElem? (i := 14) rfl)
theorem cD_turn_51 : zCode 23 51 = some (.ifCond .le 7, 54, 58, 0, 0, 0, 127) := cAD_turn_1 _ (List.mem_of_getElem? (i := 15) rfl)
theorem cD_turn_54 : zCode 23 54 = some (.iconst 1, 55, 0, 0, 0, 0, 127) := cAD_turn_2 _ (List.mem_of_getElem? (i := 0) rfl)
theorem cD_turn_55 : zCode 23 55 = some (.goto 4, 58, 59, 0, 0, 0, 127) := cAD_turn_2 _ (List.mem_of_getElem? (i := 1) rfl)
theorem cD_turn_58 : zCode 23 58 = some (.iconst (-1), 59, 0, 0, 0, 0, 127) := cAD_turn_2 _ (List.mem_of_getElem? (i := 2) rfl)
theorem cD_turn_59 : zCode 23 59 = some (.invokevirtual 120, 62, 45, 1, 3, 4, 127) := cAD_turn_2 _ (List.mem_of_getElem? (i := 3) rfl)
theorem cD_turn_62 : zCode 23 62 = some (.iload 6, 64, 0, 0, 0, 0, 127) := cAD_turn_2 _ (List.mem_of_getElem? (i := 4) rfl)
theorem cD_turn_64 : zCode 23 64 = some (.iload 5, 66, 0, 0, 0, 0, 127) := cAD_turn_2 _ (List.mem_of_getElem? (i := 5) rfl)
theorem cD_turn_66 : zCode 23 66 = some (.imul, 67, 0, 0, 0, 0, 127) := cAD_turn_2 _ (List.mem_of_getElem? (i := 6) rfl)
theorem cD_turn_67 : zCode 23 67 = some (.iload_n 3, 68, 0, 0, 0, 0, 127) := cAD_turn_2 _ (List.mem_of_getElem? (i := 7) rfl)
theorem cD_turn_68 : zCode 23 68 = some (.idiv, 69, 0, 0, 0, 0, 127) := cAD_turn_2 _ (List.mem_of_getElem? (i := 8) rfl)
theorem cD_turn_69 : zCode 23 69 = some (.iload 6, 71, 0, 0, 0, 0, 127) := cAD_turn_2 _ (List.mem_of_getElem? (i := 9) rfl)
theorem cD_turn_71 : zCode 23 71 = some (.iconst 1, 72, 0, 0, 0, 0, 127) := cAD_turn_2 _ (List.mem_of_getElem? (i := 10) rfl)
theorem cD_turn_72 : zCode 23 72 = some (.isub, 73, 0, 0, 0, 0, 127) := cAD_turn_2 _ (List.mem_of_getElem? (i := 11) rfl)
theorem cD_turn_73 : zCode 23 73 = some (.iload 5, 75, 0, 0, 0, 0, 127) := cAD_turn_2 _ (List.mem_of_getElem? (i := 12) rfl)
theorem cD_turn_75 : zCode 23 75 = some (.imul, 76, 0, 0, 0, 0, 127) := cAD_turn_2 _ (List.mem_of_getElem? (i := 13) rfl)
theorem cD_turn_76 : zCode 23 76 = some (.iload_n 3, 77, 0, 0, 0, 0, 127) := cAD_turn_2 _ (List.mem_of_getElem? (i := 14) rfl)
theorem cD_turn_77 : zCode 23 77 = some (.idiv, 78, 0, 0, 0, 0, 127) := cAD_turn_2 _ (List.mem_of_getElem? (i := 15) rfl)
theorem cD_turn_78 : zCode 23 78 = some (.if_icmp .le 19, 81, 97, 0, 0, 0, 127) := cAD_turn_3 _ (List.mem_of_getElem? (i := 0) rfl)
theorem cD_turn_81 : zCode 23 81 = some (.aload_n 0, 82, 0, 0, 0, 0, 127) := cAD_turn_3 _ (List.mem_of_getElem? (i := 1) rfl)
theorem cD_turn_82 : zCode 23 82 = some (.getfield 39, 85, 1, 7, 2, 476, 127) := cAD_turn_3 _ (List.mem_of_getElem? (i := 2) rfl)
theorem cD_turn_85 : zCode 23 85 = some (.iload_n 2, 86, 0, 0, 0, 0, 127) := cAD_turn_3 _ (List.mem_of_getElem? (i := 3) rfl)
theorem cD_turn_86 : zCode 23 86 = some (.ifCond .le 7, 89, 93, 0, 0, 0, 127) := cAD_turn_3 _ (List.mem_of_getElem? (i := 4) rfl)
theorem cD_turn_89 : zCode 23 89 = some (.iconst 1, 90, 0, 0, 0, 0, 127) := cAD_turn_3 _ (List.mem_of_getElem? (i := 5) rfl)
theorem cD_turn_90 : zCode 23 90 = some (.goto 4, 93, 94, 0, 0, 0, 127) := cAD_turn_3 _ (List.mem_of_getElem? (i := 6) rfl)
theorem cD_turn_93 : zCode 23 93 = some (.iconst (-1), 94, 0, 0, 0, 0, 127) := cAD_turn_3 _ (List.mem_of_getElem? (i := 7) rfl)
theorem cD_turn_94 : zCode 23 94 = some (.invokevirtual 120, 97, 45, 1, 3, 4, 127) := cAD_turn_3 _ (List.mem_of_getElem? (i := 8) rfl)
theorem cD_turn_97 : zCode 23 97 = some (.aload_n 0, 98, 0, 0, 0, 0, 127) := cAD_turn_3 _ (List.mem_of_getElem? (i := 9) rfl)
theorem cD_turn_98 : zCode 23 98 = some (.getfield 18, 101, 1, 2, 0, 467, 127) := cAD_turn_3 _ (List.mem_of_getElem? (i := 10) rfl)
theorem cD_turn_101 : zCode 23 101 = some (.sipush 2000, 104, 0, 0, 0, 0, 127) := cAD_turn_3 _ (List.mem_of_getElem? (i := 11) rfl)
theorem cD_turn_104 : zCode 23 104 = some (.if_icmp .ge 13, 107, 117, 0, 0, 0, 127) := cAD_turn_3 _ (List.mem_of_getElem? (i := 12) rfl)
theorem cD_turn_107 : zCode 23 107 = some (.aload_n 0, 108, 0, 0, 0, 0, 127) := cAD_turn_3 _ (List.mem_of_getElem? (i := 13) rfl)
theorem cD_turn_108 : zCode 23 108 = some (.dup, 109, 0, 0, 0, 0, 127) := cAD_turn_3 _ (List.mem_of_getElem? (i := 14) rfl)
theorem cD_turn_109 : zCode 23 109 = some (.getfield 18, 112, 1, 2, 0, 467, 127) := cAD_turn_3 _ (List.mem_of_getElem? (i := 15) rfl)
theorem cD_turn_112 : zCode 23 112 = some (.iconst 1, 113, 0, 0, 0, 0, 127) := cAD_turn_4 _ (List.mem_of_getElem? (i := 0) rfl)
theorem cD_turn_113 : zCode 23 113 = some (.iadd, 114, 0, 0, 0, 0, 127) := cAD_turn_4 _ (List.mem_of_getElem? (i := 1) rfl)
theorem cD_turn_114 : zCode 23 114 = some (.putfield 18, 117, 1, 2, 0, 467, 127) := cAD_turn_4 _ (List.mem_of_getElem? (i := 2) rfl)
theorem cD_turn_117 : zCode 23 117 = some (.aload_n 0, 118, 0, 0, 0, 0, 127) := cAD_turn_4 _ (List.mem_of_getElem? (i := 3) rfl)
theorem cD_turn_118 : zCode 23 118 = some (.invokevirtual 79, 121, 24, 0, 2, 1, 127) := cAD_turn_4 _ (List.mem_of_getElem? (i := 4) rfl)
theorem cD_turn_121 : zCode 23 121 = some (.iinc 6 1, 124, 0, 0, 0, 0, 127) := cAD_turn_4 _ (List.mem_of_getElem? (i := 5) rfl)
theorem cD_turn_124 : zCode 23 124 = some (.goto (-103), 127, 21, 0, 0, 0, 127) := cAD_turn_4 _ (List.mem_of_getElem? (i := 6) rfl)
theorem cD_turn_127 : zCode 23 127 = some (.return_, 128, 0, 0, 0, 0, 0) := cAD_turn_4 _ (List.mem_of_getElem? (i := 7) rfl)
theorem rD_turn_0 {a0 : Nat} {a1 a2 : Int} {u3 u4 u5 u6 : zV} : zS 23 0 [zR a0, zI a1, zI a2, u3, u4, u5, u6] [] sh pp mm Q ↔ zS 23 1 [zR a0, zI a1, zI a2, zU, zU, zU, zU] [zI a1] sh pp mm Q := s_go cD_turn_0 cD_turn_1 rfl rfl
theorem rD_turn_1 {a0 : Nat} {a1 a2 s0 : Int} {u3 u4 u5 u6 : zV} : zS 23 1 [zR a0, zI a1, zI a2, u3, u4, u5, u6] [zI s0] sh pp mm Q ↔ zS 23 2 [zR a0, zI a1, zI a2, zU, zU, zU, zU] [zI a2, zI s0] sh pp mm Q := s_go cD_turn_1 cD_turn_2 rfl rfl
theorem rD_turn_2 {a0 : Nat} {a1 a2 s0 s1 : Int} {u3 u4 u5 u6 : zV} : zS 23 2 [zR a0, zI a1, zI a2, u3, u4, u5, u6] [zI s0, zI s1] sh pp mm Q ↔ zS 21 0 [zI s1, zI s0] [] sh pp mm (fun v sh pp mm => zS 23 5 [zR a0, zI a1, zI a2, zU, zU, zU, zU] (zPush v []) sh pp mm Q) := s_call cD_turn_2 cD_turn_5 rfl rfl
theorem rD_turn_5 {a0 : Nat} {a1 a2 s0 : Int} {u3 u4 u5 u6 : zV} : zS 23 5 [zR a0, zI a1, zI a2, u3, u4, u5, u6] [zI s0] sh pp mm Q ↔ zS 23 6 [zR a0, zI a1, zI a2, zI s0, zU, zU, zU] [] sh pp mm Q := s_go cD_turn_5 cD_turn_6 rfl rfl
theorem rD_turn_6 {a0 : Nat} {a1 a2 a3 : Int} {u4 u5 u6 : zV} : zS 23 6 [zR a0, zI a1, zI a2, zI a3, u4, u5, u6] [] sh pp mm Q ↔ zS 23 7 [zR a0, zI a1, zI a2, zI a3, zU, zU, zU] [zI a1] sh pp mm Q := s_go cD_turn_6 cD_turn_7 rfl rfl
theorem rD_turn_7 {a0 : Nat} {a1 a2 a3 s0 : Int} {u4 u5 u6 : zV} : zS 23 7 [zR a0, zI a1, zI a2, zI a3, u4, u5, u6] [zI s0] sh pp mm Q ↔ zS 258 0 [zI s0] [] sh pp mm (fun v sh pp mm => zS 23 10 [zR a0, zI a1, zI a2, zI a3, zU, zU, zU] (zPush v []) sh pp mm Q) := s_call cD_turn_7 cD_turn_10 rfl rfl
theorem rD_turn_10 {a0 : Nat} {a1 a2 a3 s0 : Int} {u4 u5 u6 : zV} : zS 23 10 [zR a0, zI a1, zI a2, zI a3, u4, u5, u6] [zI s0] sh pp mm Q ↔ zS 23 12 [zR a0, zI a1, zI a2, zI a3, zI s0, zU, zU] [] sh pp mm Q := s_go cD_turn_10 cD_turn_12 rfl rfl
theorem rD_turn_12 {a0 : Nat} {a1 a2 a3 a4 : Int} {u5 u6 : zV} : zS 23 12 [zR a0, zI a1, zI a2, zI a3, zI a4, u5, u6] [] sh pp mm Q ↔ zS 23 13 [zR a0, zI a1, zI a2, zI a3, zI a4, zU, zU] [zI a2] sh pp mm Q := s_go cD_turn_12 cD_turn_13 rfl rfl
theorem rD_turn_13 {a0 : Nat} {a1 a2 a3 a4 s0 : Int} {u5 u6 : zV} : zS 23 13 [zR a0, zI a1, zI a2, zI a3, zI a4, u5, u6] [zI s0] sh pp mm Q ↔ zS 258 0 [zI s0] [] sh pp mm (fun v sh pp mm => zS 23 16 [zR a0, zI a1, zI a2, zI a3, zI a4, zU, zU] (zPush v []) sh pp mm Q) := s_call cD_turn_13 cD_turn_16 rfl rfl
theorem rD_turn_16 {a0 : Nat} {a1 a2 a3 a4 s0 : Int} {u5 u6 : zV} : zS 23 16 [zR a0, zI a1, zI a2, zI a3, zI a4, u5, u6] [zI s0] sh pp mm Q ↔ zS 23 18 [zR a0, zI a1, zI a2, zI a3, zI a4, zI s0, zU] [] sh pp mm Q := s_go cD_turn_16 cD_turn_18 rfl rfl
theorem rD_turn_18 {a0 : Nat} {a1 a2 a3 a4 a5 : Int} {u6 : zV} : zS 23 18 [zR a0, zI a1, zI a2, zI a3, zI a4, zI a5, u6] [] sh pp mm Q ↔ zS 23 19 [zR a0, zI a1, zI a2, zI a3, zI a4, zI a5, zU] [zI 1] sh pp mm Q := s_go cD_turn_18 cD_turn_19 rfl rfl
theorem rD_turn_19 {a0 : Nat} {a1 a2 a3 a4 a5 s0 : Int} {u6 : zV} : zS 23 19 [zR a0, zI a1, zI a2, zI a3, zI a4, zI a5, u6] [zI s0] sh pp mm Q ↔ zS 23 21 [zR a0, zI a1, zI a2, zI a3, zI a4, zI a5, zI s0] [] sh pp mm Q := s_go cD_turn_19 cD_turn_21 rfl rfl
theorem rD_turn_21 {a0 : Nat} {a1 a2 a3 a4 a5 a6 : Int} : zS 23 21 [zR a0, zI a1, zI a2, zI a3, zI a4, zI a5, zI a6] [] sh pp mm Q ↔ zS 23 23 [zR a0, zI a1, zI a2, zI a3, zI a4, zI a5, zI a6] [zI a6] sh pp mm Q := s_go cD_turn_21 cD_turn_23 rfl rfl
theorem rD_turn_23 {a0 : Nat} {a1 a2 a3 a4 a5 a6 s0 : Int} : zS 23 23 [zR a0, zI a1, zI a2, zI a3, zI a4, zI a5, zI a6] [zI s0] sh pp mm Q ↔ zS 23 24 [zR a0, zI a1, zI a2, zI a3, zI a4, zI a5, zI a6] [zI a3, zI s0] sh pp mm Q := s_go cD_turn_23 cD_turn_24 rfl rfl
theorem rD_turn_24 {a0 : Nat} {a1 a2 a3 a4 a5 a6 s0 s1 : Int} : zS 23 24 [zR a0, zI a1, zI a2, zI a3, zI a4, zI a5, zI a6] [zI s0, zI s1] sh pp mm Q ↔ (s0 < s1 → zS 23 127 [zU, zU, zU, zU, zU, zU, zU] [] sh pp mm Q) ∧ (¬ s0 < s1 → zS 23 27 [zR a0, zI a1, zI a2, zI a3, zI a4, zI a5, zI a6] [] sh pp mm Q) := s_if cD_turn_24 cD_turn_127 cD_turn_27 rfl rfl rfl
theorem rD_turn_27 {a0 : Nat} {a1 a2 a3 a4 a5 a6 : Int} : zS 23 27 [zR a0, zI a1, zI a2, zI a3, zI a4, zI a5, zI a6] [] sh pp mm Q ↔ zS 23 29 [zR a0, zI a1, zI a2, zI a3, zI a4, zI a5, zI a6] [zI a6] sh pp mm Q := s_go cD_turn_27 cD_turn_29 rfl rfl
theorem rD_turn_29 {a0 : Nat} {a1 a2 a3 a4 a5 a6 s0 : Int} : zS 23 29 [zR a0, zI a1, zI a2, zI a3, zI a4, zI a5, zI a6] [zI s0] sh pp mm Q ↔ zS 23 31 [zR a0, zI a1, zI a2, zI a3, zI a4, zI a5, zI a6] [zI a4, zI s0] sh pp mm Q := s_go cD_turn_29 cD_turn_31 rfl rfl
theorem rD_turn_31 {a0 : Nat} {a1 a2 a3 a4 a5 a6 s0 s1 : Int} : zS 23 31 [zR a0, zI a1, zI a2, zI a3, zI a4, zI a5, zI a6] [zI s0, zI s1] sh pp mm Q ↔ zS 23 32 [zR a0, zI a1, zI a2, zI a3, zI a4, zI a5, zI a6] [zI (zw32 (s1 * s0))] sh pp mm Q := s_go cD_turn_31 cD_turn_32 rfl rfl
theorem rD_turn_32 {a0 : Nat} {a1 a2 a3 a4 a5 a6 s0 : Int} : zS 23 32 [zR a0, zI a1, zI a2, zI a3, zI a4, zI a5, zI a6] [zI s0] sh pp mm Q ↔ zS 23 33 [zR a0, zI a1, zI a2, zI a3, zI a4, zI a5, zI a6] [zI a3, zI s0] sh pp mm Q := s_go cD_turn_32 cD_turn_33 rfl rfl
theorem rD_turn_33 {a0 : Nat} {a1 a2 a3 a4 a5 a6 s0 s1 : Int} (hz : s0 ≠ 0) : zS 23 33 [zR a0, zI a1, zI a2, zI a3, zI a4, zI a5, zI a6] [zI s0, zI s1] sh pp mm Q ↔ zS 23 34 [zR a0, zI a1, zI a2, zI a3, zI a4, zI a5, zI a6] [zI (zw32 (s1.tdiv s0))] sh pp mm Q := s_go cD_turn_33 cD_turn_34 (if_neg hz) rfl
theorem rD_turn_34 {a0 : Nat} {a1 a2 a3 a4 a5 a6 s0 : Int} : zS 23 34 [zR a0, zI a1, zI a2, zI a3, zI a4, zI a5, zI a6] [zI s0] sh pp mm Q ↔ zS 23 36 [zR a0, zI a1, zI a2, zI a3, zI a4, zI a5, zI a6] [zI a6, zI s0] sh pp mm Q := s_go cD_turn_34 cD_turn_36 rfl rfl
theorem rD_turn_36 {a0 : Nat} {a1 a2 a3 a4 a5 a6 s0 s1 : Int} : zS 23 36 [zR a0, zI a1, zI a2, zI a3, zI a4, zI a5, zI a6] [zI s0, zI s1] sh pp mm Q ↔ zS 23 37 [zR a0, zI a1, zI a2, zI a3, zI a4, zI a5, zI a6] [zI 1, zI s0, zI s1] sh pp mm Q := s_go cD_turn_36 cD_turn_37 rfl rfl
theorem rD_turn_37 {a0 : Nat} {a1 a2 a3 a4 a5 a6 s0 s1 s2 : Int} : zS 23 37 [zR a0, zI a1, zI a2, zI a3, zI a4, zI a5, zI a6] [zI s0, zI s1, zI s2] sh pp mm Q ↔ zS 23 38 [zR a0, zI a1, zI a2, zI a3, zI a4, zI a5, zI a6] [zI (zw32 (s1 - s0)), zI s2] sh pp mm Q := s_go cD_turn_37 cD_turn_38 rfl rfl
theorem rD_turn_38 {a0 : Nat} {a1 a2 a3 a4 a5 a6 s0 s1 : Int} : zS 23 38 [zR a0, zI a1, zI a2, zI a3, zI a4, zI a5, zI a6] [zI s0, zI s1] sh pp mm Q ↔ zS 23 40 [zR a0, zI a1, zI a2, zI a3, zI a4, zI a5, zI a6] [zI a4, zI s0, zI s1] sh pp mm Q := s_go cD_turn_38 cD_turn_40 rfl rfl
theorem rD_turn_40 {a0 : Nat} {a1 a2 a3 a4 a5 a6 s0 s1 s2 : Int} : zS 23 40 [zR a0, zI a1, zI a2, zI a3, zI a4, zI a5, zI a6] [zI s0, zI s1, zI s2] sh pp mm Q ↔ zS 23 41 [zR a0, zI a1, zI a2, zI a3, zI a4, zI a5, zI a6] [zI (zw32 (s1 * s0)), zI s2] sh pp mm Q := s_go cD_turn_40 cD_turn_41 rfl rfl
theorem rD_turn_41 {a0 : Nat} {a1 a2 a3 a4 a5 a6 s0 s1 : Int} : zS 23 41 [zR a0, zI a1, zI a2, zI a3, zI a4, zI a5, zI a6] [zI s0, zI s1] sh pp mm Q ↔ zS 23 42 [zR a0, zI a1, zI a2, zI a3, zI a4, zI a5, zI a6] [zI a3, zI s0, zI s1] sh pp mm Q := s_go cD_turn_41 cD_turn_42 rfl rfl
theorem rD_turn_42 {a0 : Nat} {a1 a2 a3 a4 a5 a6 s0 s1 s2 : Int} (hz : s0 ≠ 0) : zS 23 42 [zR a0, zI a1, zI a2, zI a3, zI a4, zI a5, zI a6] [zI s0, zI s1, zI s2] sh pp mm Q ↔ zS 23 43 [zR a0, zI a1, zI a2, zI a3, zI a4, zI a5, zI a6] [zI (zw32 (s1.tdiv s0)), zI s2] sh pp mm Q := s_go cD_turn_42 cD_turn_43 (if_neg hz) rfl
theorem rD_turn_43 {a0 : Nat} {a1 a2 a3 a4 a5 a6 s0 s1 : Int} : zS 23 43 [zR a0, zI a1, zI a2, zI a3, zI a4, zI a5, zI a6] [zI s0, zI s1] sh pp mm Q ↔ (s0 < s1 → zS 23 46 [zR a0, zI a1, zI a2, zI a3, zI a4, zI a5, zI a6] [] sh pp mm Q) ∧ (¬ s0 < s1 → zS 23 62 [zR a0, zI a1, zI a2, zI a3, zI a4, zI a5, zI a6] [] sh pp mm Q) := s_ifn cD_turn_43 cD_turn_46 cD_turn_62 rfl rfl rfl
theorem rD_turn_46 {a0 : Nat} {a1 a2 a3 a4 a5 a6 : Int} : zS 23 46 [zR a0, zI a1, zI a2, zI a3, zI a4, zI a5, zI a6] [] sh pp mm Q ↔ zS 23 47 [zR a0, zI a1, zI a2, zI a3, zI a4, zI a5, zI a6] [zR a0] sh pp mm Q := s_go cD_turn_46 cD_turn_47 rfl rfl
theorem rD_turn_47 {a0 s0 : Nat} {a1 a2 a3 a4 a5 a6 : Int} (hk : zKd sh s0 = 1) : zS 23 47 [zR a0, zI a1, zI a2, zI a3, zI a4, zI a5, zI a6] [zR s0] sh pp mm Q ↔ zS 23 50 [zR a0, zI a1, zI a2, zI a3, zI a4, zI a5, zI a6] [zR (pp s0 6)] sh pp mm Q := s_go cD_turn_47 cD_turn_50 (if_pos hk) rfl
theorem rD_turn_50 {a0 s0 : Nat} {a1 a2 a3 a4 a5 a6 : Int} : zS 23 50 [zR a0, zI a1, zI a2, zI a3, zI a4, zI a5, zI a6] [zR s0] sh pp mm Q ↔ zS 23 51 [zR a0, zI a1, zI a2, zI a3, zI a4, zI a5, zI a6] [zI a1, zR s0] sh pp mm Q := s_go cD_turn_50 cD_turn_51 rfl rfl
theorem rD_turn_51 {a0 s1 : Nat} {a1 a2 a3 a4 a5 a6 s0 : Int} : zS 23 51 [zR a0, zI a1, zI a2, zI a3, zI a4, zI a5, zI a6] [zI s0, zR s1] sh pp mm Q ↔ (0 < s0 → zS 23 54 [zR a0, zI a1, zI a2, zI a3, zI a4, zI a5, zI a6] [zR s1] sh pp mm Q) ∧ (¬ 0 < s0 → zS 23 58 [zR a0, zI a1, zI a2, zI a3, zI a4, zI a5, zI a6] [zR s1] sh pp mm Q) := s_ifn cD_turn_51 cD_turn_54 cD_turn_58 rfl rfl rfl
theorem rD_turn_54 {a0 s0 : Nat} {a1 a2 a3 a4 a5 a6 : Int} : zS 23 54 [zR a0, zI a1, zI a2, zI a3, zI a4, zI a5, zI a6] [zR s0] sh pp mm Q ↔ zS 23 55 [zR a0, zI a1, zI a2, zI a3, zI a4, zI a5, zI a6] [zI 1, zR s0] sh pp mm Q := s_go cD_turn_54 cD_turn_55 rfl rfl
theorem rD_turn_55 {a0 s1 : Nat} {a1 a2 a3 a4 a5 a6 s0 : Int} : zS 23 55 [zR a0, zI a1, zI a2, zI a3, zI a4, zI a5, zI a6] [zI s0, zR s1] sh pp mm Q ↔ zS 23 59 [zR a0, zI a1, zI a2, zI a3, zI a4, zI a5, zI a6] [zI s0, zR s1] sh pp mm Q := s_go cD_turn_55 cD_turn_59 rfl rfl
theorem rD_turn_58 {a0 s0 : Nat} {a1 a2 a3 a4 a5 a6 : Int} : zS 23 58 [zR a0, zI a1, zI a2, zI a3, zI a4, zI a5, zI a6] [zR s0] sh pp mm Q ↔ zS 23 59 [zR a0, zI a1, zI a2, zI a3, zI a4, zI a5, zI a6] [zI (-1), zR s0] sh pp mm Q := s_go cD_turn_58 cD_turn_59 rfl rfl
theorem rD_turn_59 {a0 s1 : Nat} {a1 a2 a3 a4 a5 a6 s0 : Int} (hk : zKd sh s1 = 4) : zS 23 59 [zR a0, zI a1, zI a2, zI a3, zI a4, zI a5, zI a6] [zI s0, zR s1] sh pp mm Q ↔ zS 45 0 [zR s1, zI s0, zU] [] sh pp mm (fun v sh pp mm => zS 23 62 [zR a0, zI a1, zI a2, zI a3, zI a4, zI a5, zI a6] (zPush v []) sh pp mm Q) := s_call cD_turn_59 cD_turn_62 ((if_pos hk).trans rfl) rfl
theorem rD_turn_62 {a0 : Nat} {a1 a2 a3 a4 a5 a6 : Int} : zS 23 62 [zR a0, zI a1, zI a2, zI a3, zI a4, zI a5, zI a6] [] sh pp mm Q ↔ zS 23 64 [zR a0, zI a1, zI a2, zI a3, zI a4, zI a5, zI a6] [zI a6] sh pp mm Q := s_go cD_turn_62 cD_turn_64 rfl rfl
theorem rD_turn_64 {a0 : Nat} {a1 a2 a3 a4 a5 a6 s0 : Int} : zS 23 64 [zR a0, zI a1, zI a2, zI a3, zI a4, zI a5, zI a6] [zI s0] sh pp mm Q ↔ zS 23 66 [zR a0, zI a1, zI a2, zI a3, zI a4, zI a5, zI a6] [zI a5, zI s0] sh pp mm Q := s_go cD_turn_64 cD_turn_66 rfl rfl
theorem rD_turn_66 {a0 : Nat} {a1 a2 a3 a4 a5 a6 s0 s1 : Int} : zS 23 66 [zR a0, zI a1, zI a2, zI a3, zI a4, zI a5, zI a6] [zI s0, zI s1] sh pp mm Q ↔ zS 23 67 [zR a0, zI a1, zI a2, zI a3, zI a4, zI a5, zI a6] [zI (zw32 (s1 * s0))] sh pp mm Q := s_go cD_turn_66 cD_turn_67 rfl rfl
theorem rD_turn_67 {a0 : Nat} {a1 a2 a3 a4 a5 a6 s0 : Int} : zS 23 67 [zR a0, zI a1, zI a2, zI a3, zI a4, zI a5, zI a6] [zI s0] sh pp mm Q ↔ zS 23 68 [zR a0, zI a1, zI a2, zI a3, zI a4, zI a5, zI a6] [zI a3, zI s0] sh pp mm Q := s_go cD_turn_67 cD_turn_68 rfl rfl
theorem rD_turn_68 {a0 : Nat} {a1 a2 a3 a4 a5 a6 s0 s1 : Int} (hz : s0 ≠ 0) : zS 23 68 [zR a0, zI a1, zI a2, zI a3, zI a4, zI a5, zI a6] [zI s0, zI s1] sh pp mm Q ↔ zS 23 69 [zR a0, zI a1, zI a2, zI a3, zI a4, zI a5, zI a6] [zI (zw32 (s1.tdiv s0))] sh pp mm Q := s_go cD_turn_68 cD_turn_69 (if_neg hz) rfl
theorem rD_turn_69 {a0 : Nat} {a1 a2 a3 a4 a5 a6 s0 : Int} : zS 23 69 [zR a0, zI a1, zI a2, zI a3, zI a4, zI a5, zI a6] [zI s0] sh pp mm Q ↔ zS 23 71 [zR a0, zI a1, zI a2, zI a3, zI a4, zI a5, zI a6] [zI a6, zI s0] sh pp mm Q := s_go cD_turn_69 cD_turn_71 rfl rfl
theorem rD_turn_71 {a0 : Nat} {a1 a2 a3 a4 a5 a6 s0 s1 : Int} : zS 23 71 [zR a0, zI a1, zI a2, zI a3, zI a4, zI a5, zI a6] [zI s0, zI s1] sh pp mm Q ↔ zS 23 72 [zR a0, zI a1, zI a2, zI a3, zI a4, zI a5, zI a6] [zI 1, zI s0, zI s1] sh pp mm Q := s_go cD_turn_71 cD_turn_72 rfl rfl
theorem rD_turn_72 {a0 : Nat} {a1 a2 a3 a4 a5 a6 s0 s1 s2 : Int} : zS 23 72 [zR a0, zI a1, zI a2, zI a3, zI a4, zI a5, zI a6] [zI s0, zI s1, zI s2] sh pp mm Q ↔ zS 23 73 [zR a0, zI a1, zI a2, zI a3, zI a4, zI a5, zI a6] [zI (zw32 (s1 - s0)), zI s2] sh pp mm Q := s_go cD_turn_72 cD_turn_73 rfl rfl
theorem rD_turn_73 {a0 : Nat} {a1 a2 a3 a4 a5 a6 s0 s1 : Int} : zS 23 73 [zR a0, zI a1, zI a2, zI a3, zI a4, zI a5, zI a6] [zI s0, zI s1] sh pp mm Q ↔ zS 23 75 [zR a0, zI a1, zI a2, zI a3, zI a4, zI a5, zI a6] [zI a5, zI s0, zI s1] sh pp mm Q := s_go cD_turn_73 cD_turn_75 rfl rfl
theorem rD_turn_75 {a0 : Nat} {a1 a2 a3 a4 a5 a6 s0 s1 s2 : Int} : zS 23 75 [zR a0, zI a1, zI a2, zI a3, zI a4, zI a5, zI a6] [zI s0, zI s1, zI s2] sh pp mm Q ↔ zS 23 76 [zR a0, zI a1, zI a2, zI a3, zI a4, zI a5, zI a6] [zI (zw32 (s1 * s0)), zI s2] sh pp mm Q := s_go cD_turn_75 cD_turn_76 rfl rfl
theorem rD_turn_76 {a0 : Nat} {a1 a2 a3 a4 a5 a6 s0 s1 : Int} : zS 23 76 [zR a0, zI a1, zI a2, zI a3, zI a4, zI a5, zI a6] [zI s0, zI s1] sh pp mm Q ↔ zS 23 77 [zR a0, zI a1, zI a2, zI a3, zI a4, zI a5, zI a6] [zI a3, zI s0, zI s1] sh pp mm Q := s_go cD_turn_76 cD_turn_77 rfl rfl
theorem rD_turn_77 {a0 : Nat} {a1 a2 a3 a4 a5 a6 s0 s1 s2 : Int} (hz : s0 ≠ 0) : zS 23 77 [zR a0, zI a1, zI a2, zI a3, zI a4, zI a5, zI a6] [zI s0, zI s1, zI s2] sh pp mm Q ↔ zS 23 78 [zR a0, zI a1, zI a2, zI a3, zI a4, zI a5, zI a6] [zI (zw32 (s1.tdiv s0)), zI s2] sh pp mm Q := s_go cD_turn_77 cD_turn_78 (if_neg hz) rfl
theorem rD_turn_78 {a0 : Nat} {a1 a2 a3 a4 a5 a6 s0 s1 : Int} : zS 23 78 [zR a0, zI a1, zI a2, zI a3, zI a4, zI a5, zI a6] [zI s0, zI s1] sh pp mm Q ↔ (s0 < s1 → zS 23 81 [zR a0, zI a1, zI a2, zI a3, zI a4, zI a5, zI a6] [] sh pp mm Q) ∧ (¬ s0 < s1 → zS 23 97 [zR a0, zI a1, zI a2, zI a3, zI a4, zI a5, zI a6] [] sh pp mm Q) := s_ifn cD_turn_78 cD_turn_81 cD_turn_97 rfl rfl rfl
theorem rD_turn_81 {a0 : Nat} {a1 a2 a3 a4 a5 a6 : Int} : zS 23 81 [zR a0, zI a1, zI a2, zI a3, zI a4, zI a5, zI a6] [] sh pp mm Q ↔ zS 23 82 [zR a0, zI a1, zI a2, zI a3, zI a4, zI a5, zI a6] [zR a0] sh pp mm Q := s_go cD_turn_81 cD_turn_82 rfl rfl
theorem rD_turn_82 {a0 s0 : Nat} {a1 a2 a3 a4 a5 a6 : Int} (hk : zKd sh s0 = 1) : zS 23 82 [zR a0, zI a1, zI a2, zI a3, zI a4, zI a5, zI a6] [zR s0] sh pp mm Q ↔ zS 23 85 [zR a0, zI a1, zI a2, zI a3, zI a4, zI a5, zI a6] [zR (pp s0 7)] sh pp mm Q := s_go cD_turn_82 cD_turn_85 (if_pos hk) rfl
theorem rD_turn_85 {a0 s0 : Nat} {a1 a2 a3 a4 a5 a6 : Int} : zS 23 85 [zR a0, zI a1, zI a2, zI a3, zI a4, zI a5, zI a6] [zR s0] sh pp mm Q ↔ zS 23 86 [zR a0, zI a1, zI a2, zI a3, zI a4, zI a5, zI a6] [zI a2, zR s0] sh pp mm Q := s_go cD_turn_85 cD_turn_86 rfl rfl
theorem rD_turn_86 {a0 s1 : Nat} {a1 a2 a3 a4 a5 a6 s0 : Int} : zS 23 86 [zR a0, zI a1, zI a2, zI a3, zI a4, zI a5, zI a6] [zI s0, zR s1] sh pp mm Q ↔ (0 < s0 → zS 23 89 [zR a0, zI a1, zI a2, zI a3, zI a4, zI a5, zI a6] [zR s1] sh pp mm Q) ∧ (¬ 0 < s0 → zS 23 93 [zR a0, zI a1, zI a2, zI a3, zI a4, zI a5, zI a6] [zR s1] sh pp mm Q) := s_ifn cD_turn_86 cD_turn_89 cD_turn_93 rfl rfl rfl
theorem rD_turn_89 {a0 s0 : Nat} {a1 a2 a3 a4 a5 a6 : Int} : zS 23 89 [zR a0, zI a1, zI a2, zI a3, zI a4, zI a5, zI a6] [zR s0] sh pp mm Q ↔ zS 23 90 [zR a0, zI a1, zI a2, zI a3, zI a4, zI a5, zI a6] [zI 1, zR s0] sh pp mm Q := s_go cD_turn_89 cD_turn_90 rfl rfl
theorem rD_turn_90 {a0 s1 : Nat} {a1 a2 a3 a4 a5 a6 s0 : Int} : zS 23 90 [zR a0, zI a1, zI a2, zI a3, zI a4, zI a5, zI a6] [zI s0, zR s1] sh pp mm Q ↔ zS 23 94 [zR a0, zI a1, zI a2, zI a3, zI a4, zI a5, zI a6] [zI s0, zR s1] sh pp mm Q := s_go cD_turn_90 cD_turn_94 rfl rfl
theorem rD_turn_93 {a0 s0 : Nat} {a1 a2 a3 a4 a5 a6 : Int} : zS 23 93 [zR a0, zI a1, zI a2, zI a3, zI a4, zI a5, zI a6] [zR s0] sh pp mm Q ↔ zS 23 94 [zR a0, zI a1, zI a2, zI a3, zI a4, zI a5, zI a6] [zI (-1), zR s0] sh pp mm Q := s_go cD_turn_93 cD_turn_94 rfl rfl
theorem rD_turn_94 {a0 s1 : Nat} {a1 a2 a3 a4 a5 a6 s0 : Int} (hk : zKd sh s1 = 4) : zS 23 94 [zR a0, zI a1, zI a2, zI a3, zI a4, zI a5, zI a6] [zI s0, zR s1] sh pp mm Q ↔ zS 45 0 [zR s1, zI s0, zU] [] sh pp mm (fun v sh pp mm => zS 23 97 [zR a0, zI a1, zI a2, zI a3, zI a4, zI a5, zI a6] (zPush v []) sh pp mm Q) := s_call cD_turn_94 cD_turn_97 ((if_pos hk).trans rfl) rfl
theorem rD_turn_97 {a0 : Nat} {a1 a2 a3 a4 a5 a6 : Int} : zS 23 97 [zR a0, zI a1, zI a2, zI a3, zI a4, zI a5, zI a6] [] sh pp mm Q ↔ zS 23 98 [zR a0, zI a1, zI a2, zI a3, zI a4, zI a5, zI a6] [zR a0] sh pp mm Q := s_go cD_turn_97 cD_turn_98 rfl rfl
theorem rD_turn_98 {a0 s0 : Nat} {a1 a2 a3 a4 a5 a6 : Int} (hk : zKd sh s0 = 1) : zS 23 98 [zR a0, zI a1, zI a2, zI a3, zI a4, zI a5, zI a6] [zR s0] sh pp mm Q ↔ zS 23 101 [zR a0, zI a1, zI a2, zI a3, zI a4, zI a5, zI a6] [zI (mm s0 2)] sh pp mm Q := s_go cD_turn_98 cD_turn_101 (if_pos hk) rfl
theorem rD_turn_101 {a0 : Nat} {a1 a2 a3 a4 a5 a6 s0 : Int} : zS 23 101 [zR a0, zI a1, zI a2, zI a3, zI a4, zI a5, zI a6] [zI s0] sh pp mm Q ↔ zS 23 104 [zR a0, zI a1, zI a2, zI a3, zI a4, zI a5, zI a6] [zI 2000, zI s0] sh pp mm Q := s_go cD_turn_101 cD_turn_104 rfl rfl
theorem rD_turn_104 {a0 : Nat} {a1 a2 a3 a4 a5 a6 s0 s1 : Int} : zS 23 104 [zR a0, zI a1, zI a2, zI a3, zI a4, zI a5, zI a6] [zI s0, zI s1] sh pp mm Q ↔ (s1 < s0 → zS 23 107 [zR a0, zI a1, zI a2, zI a3, zI a4, zI a5, zI a6] [] sh pp mm Q) ∧ (¬ s1 < s0 → zS 23 117 [zR a0, zI a1, zI a2, zI a3, zI a4, zI a5, zI a6] [] sh pp mm Q) := s_ifn cD_turn_104 cD_turn_107 cD_turn_117 rfl rfl rfl
theorem rD_turn_107 {a0 : Nat} {a1 a2 a3 a4 a5 a6 : Int} : zS 23 107 [zR a0, zI a1, zI a2, zI a3, zI a4, zI a5, zI a6] [] sh pp mm Q ↔ zS 23 108 [zR a0, zI a1, zI a2, zI a3, zI a4, zI a5, zI a6] [zR a0] sh pp mm Q := s_go cD_turn_107 cD_turn_108 rfl rfl
theorem rD_turn_108 {a0 s0 : Nat} {a1 a2 a3 a4 a5 a6 : Int} : zS 23 108 [zR a0, zI a1, zI a2, zI a3, zI a4, zI a5, zI a6] [zR s0] sh pp mm Q ↔ zS 23 109 [zR a0, zI a1, zI a2, zI a3, zI a4, zI a5, zI a6] [zR s0, zR s0] sh pp mm Q := s_go cD_turn_108 cD_turn_109 rfl rfl
theorem rD_turn_109 {a0 s0 s1 : Nat} {a1 a2 a3 a4 a5 a6 : Int} (hk : zKd sh s0 = 1) : zS 23 109 [zR a0, zI a1, zI a2, zI a3, zI a4, zI a5, zI a6] [zR s0, zR s1] sh pp mm Q ↔ zS 23 112 [zR a0, zI a1, zI a2, zI a3, zI a4, zI a5, zI a6] [zI (mm s0 2), zR s1] sh pp mm Q := s_go cD_turn_109 cD_turn_112 (if_pos hk) rfl
theorem rD_turn_112 {a0 s1 : Nat} {a1 a2 a3 a4 a5 a6 s0 : Int} : zS 23 112 [zR a0, zI a1, zI a2, zI a3, zI a4, zI a5, zI a6] [zI s0, zR s1] sh pp mm Q ↔ zS 23 113 [zR a0, zI a1, zI a2, zI a3, zI a4, zI a5, zI a6] [zI 1, zI s0, zR s1] sh pp mm Q := s_go cD_turn_112 cD_turn_113 rfl rfl
theorem rD_turn_113 {a0 s2 : Nat} {a1 a2 a3 a4 a5 a6 s0 s1 : Int} : zS 23 113 [zR a0, zI a1, zI a2, zI a3, zI a4, zI a5, zI a6] [zI s0, zI s1, zR s2] sh pp mm Q ↔ zS 23 114 [zR a0, zI a1, zI a2, zI a3, zI a4, zI a5, zI a6] [zI (zw32 (s1 + s0)), zR s2] sh pp mm Q := s_go cD_turn_113 cD_turn_114 rfl rfl
theorem rD_turn_114 {a0 s1 : Nat} {a1 a2 a3 a4 a5 a6 s0 : Int} (hk : zKd sh s1 = 1) : zS 23 114 [zR a0, zI a1, zI a2, zI a3, zI a4, zI a5, zI a6] [zI s0, zR s1] sh pp mm Q ↔ zS 23 117 [zR a0, zI a1, zI a2, zI a3, zI a4, zI a5, zI a6] [] sh pp (zupd mm s1 2 s0) Q := s_go cD_turn_114 cD_turn_117 (if_pos ⟨hk, Or.inl rfl⟩) rfl
theorem rD_turn_117 {a0 : Nat} {a1 a2 a3 a4 a5 a6 : Int} : zS 23 117 [zR a0, zI a1, zI a2, zI a3, zI a4, zI a5, zI a6] [] sh pp mm Q ↔ zS 23 118 [zR a0, zI a1, zI a2, zI a3, zI a4, zI a5, zI a6] [zR a0] sh pp mm Q := s_go cD_turn_117 cD_turn_118 rfl rfl
theorem rD_turn_118 {a0 s0 : Nat} {a1 a2 a3 a4 a5 a6 : Int} (hk : zKd sh s0 = 1) : zS 23 118 [zR a0, zI a1, zI a2, zI a3, zI a4, zI a5, zI a6] [zR s0] sh pp mm Q ↔ zS 24 0 [zR s0, zU] [] sh pp mm (fun v sh pp mm => zS 23 121 [zR a0, zI a1, zI a2, zI a3, zI a4, zI a5, zI a6] (zPush v []) sh pp mm Q) := s_call cD_turn_118 cD_turn_121 ((if_pos hk).trans rfl) rfl
theorem rD_turn_121 {a0 : Nat} {a1 a2 a3 a4 a5 a6 : Int} : zS 23 121 [zR a0, zI a1, zI a2, zI a3, zI a4, zI a5, zI a6] [] sh pp mm Q ↔ zS 23 124 [zR a0, zI a1, zI a2, zI a3, zI a4, zI a5, zI (zw32 (a6 + 1))] [] sh pp mm Q := s_go cD_turn_121 cD_turn_124 rfl rfl
theorem rD_turn_124 {a0 : Nat} {a1 a2 a3 a4 a5 a6 : Int} : zS 23 124 [zR a0, zI a1, zI a2, zI a3, zI a4, zI a5, zI a6] [] sh pp mm Q ↔ zS 23 21 [zR a0, zI a1, zI a2, zI a3, zI a4, zI a5, zI a6] [] sh pp mm Q := s_go cD_turn_124 cD_turn_21 rfl rfl
theorem rD_turn_127 {u0 u1 u2 u3 u4 u5 u6 : zV} : zS 23 127 [u0, u1, u2, u3, u4, u5, u6] [] sh pp mm Q ↔ Q zU sh pp mm := s_ret cD_turn_127 rfl
theorem cAD_mark : ∀ q ∈ zT24, zCode 24 q.1 = some q.2 := zAll (mid := 24) rfl (by decide +kernel)
theorem cAD_mark_0 : ∀ q ∈ zT24_0, zCode 24 q.1 = some q.2 := fun q h => cAD_mark q (List.mem_append_left _ h)
theorem cAD_mark_1 : ∀ q ∈ zT24_1, zCode 24 q.1 = some q.2 := fun q h => cAD_mark q (List.mem_append_right _ h)
theorem cD_mark_0 : zCode 24 0 = some (.bipush 24, 2, 0, 0, 0, 0, 1) := cAD_mark_0 _ (List.mem_of_getElem? (i := 0) rfl)
theorem cD_mark_2 : zCode 24 2 = some (.aload_n 0, 3, 0, 0, 0, 0, 1) := cAD_mark_0 _ (List.mem_of_getElem? (i := 1) rfl)
theorem cD_mark_3 : zCode 24 3 = some (.getfield 39, 6, 1, 7, 2, 476, 1) := cAD_mark_0 _ (List.mem_of_getElem? (i := 2) rfl)
theorem cD_mark_6 : zCode 24 6 = some (.getfield 123, 9, 4, 0, 0, 430, 1) := cAD_mark_0 _ (List.mem_of_getElem? (i := 3) rfl)
theorem cD_mark_9 : zCode 24 9 = some (.imul, 10, 0, 0, 0, 0, 1) := cAD_mark_0 _ (List.mem_of_getElem? (i := 4) rfl)
theorem cD_mark_10 : zCode 24 10 = some (.aload_n 0, 11, 0, 0, 0, 0, 1) := cAD_mark_0 _ (List.mem_of_getElem? (i := 5) rfl)
theorem cD_mark_11 : zCode 24 11 = some (.getfield 35, 14, 1, 6, 2, 475, 1) := cAD_mark_0 _ (List.mem_of_getElem? (i := 6) rfl)
theorem cD_mark_14 : zCode 24 14 = some (.getfield 123, 17, 4, 0, 0, 430, 1) := cAD_mark_0 _ (List.mem_of_getElem? (i := 7) rfl)
theorem cD_mark_17 : zCode 24 17 = some (.iadd, 18, 0, 0, 0, 0, 1) := cAD_mark_0 _ (List.mem_of_getElem? (i := 8) rfl)
theorem cD_mark_18 : zCode 24 18 = some (.istore_n 1, 19, 0, 0, 0, 0, 1) := cAD_mark_0 _ (List.mem_of_getElem? (i := 9) rfl)
theorem cD_mark_19 : zCode 24 19 = some (.aload_n 0, 20, 0, 0, 0, 0, 3) := cAD_mark_0 _ (List.mem_of_getElem? (i := 10) rfl)
theorem cD_mark_20 : zCode 24 20 = some (.getfield 15, 23, 1, 1, 2, 465, 3) := cAD_mark_0 _ (List.mem_of_getElem? (i := 11) rfl)
theorem cD_mark_23 : zCode 24 23 = some (.aload_n 0, 24, 0, 0, 0, 0, 3) := cAD_mark_0 _ (List.mem_of_getElem? (i := 12) rfl)
theorem cD_mark_24 : zCode 24 24 = some (.getfield 18, 27, 1, 2, 0, 467, 3) := cAD_mark_0 _ (List.mem_of_getElem? (i := 13) rfl)
theorem cD_mark_27 : zCode 24 27 = some (.iload_n 1, 28, 0, 0, 0, 0, 3) := cAD_mark_0 _ (List.mem_of_getElem? (i := 14) rfl)
theorem cD_mark_28 : zCode 24 28 = some (.iastore, 29, 0, 0, 0, 0, 3) := cAD_mark_0 _ (List.mem_of_getElem? (i := 15) rfl)
theorem cD_mark_29 : zCode 24 29 = some (.aload_n 0, 30, 0, 0, 0, 0, 3) := cAD_mark_1 _ (List.mem_of_getElem? (i := 0) rfl)
theorem cD_mark_30 : zCode 24 30 = some (.getfield 9, 33, 1, 0, 2, 462, 2) := cAD_mark_1 _ (List.mem_of_getElem? (i := 1) rfl)
theorem cD_mark_33 : zCode 24 33 = some (.iload_n 1, 34, 0, 0, 0, 0, 2) := cAD_mark_1 _ (List.mem_of_getElem? (i := 2) rfl)
theorem cD_mark_34 : zCode 24 34 = some (.iconst 1, 35, 0, 0, 0, 0, 0) := cAD_mark_1 _ (List.mem_of_getElem? (i := 3) rfl)
theorem cD_mark_35 : zCode 24 35 = some (.iastore, 36, 0, 0, 0, 0, 0) := cAD_mark_1 _ (List.mem_of_getElem? (i := 4) rfl)
theorem cD_mark_36 : zCode 24 36 = some (.return_, 37, 0, 0, 0, 0, 0) := cAD_mark_1 _ (List.mem_of_getElem? (i := 5) rfl)
theorem rD_mark_0 {a0 : Nat} {u1 : zV} : zS 24 0 [zR a0, u1] [] sh pp mm Q ↔ zS 24 2 [zR a0, zU] [zI 24] sh pp mm Q := s_go cD_mark_0 cD_mark_2 rfl rfl
theorem rD_mark_2 {a0 : Nat} {s0 : Int} {u1 : zV} : zS 24 2 [zR a0, u1] [zI s0] sh pp mm Q ↔ zS 24 3 [zR a0, zU] [zR a0, zI s0] sh pp mm Q := s_go cD_mark_2 cD_mark_3 rfl rfl
theorem rD_mark_3 {a0 s0 : Nat} {s1 : Int} {u1 : zV} (hk : zKd sh s0 = 1) : zS 24 3 [zR a0, u1] [zR s0, zI s1] sh pp mm Q ↔ zS 24 6 [zR a0, zU] [zR (pp s0 7), zI s1] sh pp mm Q := s_go cD_mark_3 cD_mark_6 (if_pos hk) rfl
theorem rD_mark_6 {a0 s0 : Nat} {s1 : Int} {u1 : zV} (hk : zKd sh s0 = 4) : zS 24 6 [zR a0, u1] [zR s0, zI s1] sh pp mm Q ↔ zS 24 9 [zR a0, zU] [zI (mm s0 0), zI s1] sh pp mm Q := s_go cD_mark_6 cD_mark_9 (if_pos hk) rfl
theorem rD_mark_9 {a0 : Nat} {s0 s1 : Int} {u1 : zV} : zS 24 9 [zR a0, u1] [zI s0, zI s1] sh pp mm Q ↔ zS 24 10 [zR a0, zU] [zI (zw32 (s1 * s0))] sh pp mm Q := s_go cD_mark_9 cD_mark_10 rfl rfl
theorem rD_mark_10 {a0 : Nat} {s0 : Int} {u1 : zV} : zS 24 10 [zR a0, u1] [zI s0] sh pp mm Q ↔ zS 24 11 [zR a0, zU] [zR a0, zI s0] sh pp mm Q := s_go cD_mark_10 cD_mark_11 rfl rfl
theorem rD_mark_11 {a0 s0 : Nat} {s1 : Int} {u1 : zV} (hk : zKd sh s0 = 1) : zS 24 11 [zR a0, u1] [zR s0, zI s1] sh pp mm Q ↔ zS 24 14 [zR a0, zU] [zR (pp s0 6), zI s1] sh pp mm Q := s_go cD_mark_11 cD_mark_14 (if_pos hk) rfl
theorem rD_mark_14 {a0 s0 : Nat} {s1 : Int} {u1 : zV} (hk : zKd sh s0 = 4) : zS 24 14 [zR a0, u1] [zR s0, zI s1] sh pp mm Q ↔ zS 24 17 [zR a0, zU] [zI (mm s0 0), zI s1] sh pp mm Q := s_go cD_mark_14 cD_mark_17 (if_pos hk) rfl
theorem rD_mark_17 {a0 : Nat} {s0 s1 : Int} {u1 : zV} : zS 24 17 [zR a0, u1] [zI s0, zI s1] sh pp mm Q ↔ zS 24 18 [zR a0, zU] [zI (zw32 (s1 + s0))] sh pp mm Q := s_go cD_mark_17 cD_mark_18 rfl rfl
theorem rD_mark_18 {a0 : Nat} {s0 : Int} {u1 : zV} : zS 24 18 [zR a0, u1] [zI s0] sh pp mm Q ↔ zS 24 19 [zR a0, zI s0] [] sh pp mm Q := s_go cD_mark_18 cD_mark_19 rfl rfl
theorem rD_mark_19 {a0 : Nat} {a1 : Int} : zS 24 19 [zR a0, zI a1] [] sh pp mm Q ↔ zS 24 20 [zR a0, zI a1] [zR a0] sh pp mm Q := s_go cD_mark_19 cD_mark_20 rfl rfl
theorem rD_mark_20 {a0 s0 : Nat} {a1 : Int} (hk : zKd sh s0 = 1) : zS 24 20 [zR a0, zI a1] [zR s0] sh pp mm Q ↔ zS 24 23 [zR a0, zI a1] [zR (pp s0 1)] sh pp mm Q := s_go cD_mark_20 cD_mark_23 (if_pos hk) rfl
theorem rD_mark_23 {a0 s0 : Nat} {a1 : Int} : zS 24 23 [zR a0, zI a1] [zR s0] sh pp mm Q ↔ zS 24 24 [zR a0, zI a1] [zR a0, zR s0] sh pp mm Q := s_go cD_mark_23 cD_mark_24 rfl rfl
theorem rD_mark_24 {a0 s0 s1 : Nat} {a1 : Int} (hk : zKd sh s0 = 1) : zS 24 24 [zR a0, zI a1] [zR s0, zR s1] sh pp mm Q ↔ zS 24 27 [zR a0, zI a1] [zI (mm s0 2), zR s1] sh pp mm Q := s_go cD_mark_24 cD_mark_27 (if_pos hk) rfl
theorem rD_mark_27 {a0 s1 : Nat} {a1 s0 : Int} : zS 24 27 [zR a0, zI a1] [zI s0, zR s1] sh pp mm Q ↔ zS 24 28 [zR a0, zI a1] [zI a1, zI s0, zR s1] sh pp mm Q := s_go cD_mark_27 cD_mark_28 rfl rfl
theorem rD_mark_28 {a0 s2 : Nat} {a1 s0 s1 : Int} (hk : zKd sh s2 = 20) (h0 : 0 ≤ s1) (h1 : s1 < zLn sh s2) : zS 24 28 [zR a0, zI a1] [zI s0, zI s1, zR s2] sh pp mm Q ↔ zS 24 29 [zR a0, zI a1] [] sh pp (zupd mm s2 s1 s0) Q := s_go cD_mark_28 cD_mark_29 (if_pos ⟨hk, h0, h1, fun h => absurd h (by decide)⟩) rfl
theorem rD_mark_29 {a0 : Nat} {a1 : Int} : zS 24 29 [zR a0, zI a1] [] sh pp mm Q ↔ zS 24 30 [zU, zI a1] [zR a0] sh pp mm Q := s_go cD_mark_29 cD_mark_30 rfl rfl
theorem rD_mark_30 {s0 : Nat} {a1 : Int} {u0 : zV} (hk : zKd sh s0 = 1) : zS 24 30 [u0, zI a1] [zR s0] sh pp mm Q ↔ zS 24 33 [zU, zI a1] [zR (pp s0 0)] sh pp mm Q := s_go cD_mark_30 cD_mark_33 (if_pos hk) rfl
theorem rD_mark_33 {s0 : Nat} {a1 : Int} {u0 : zV} : zS 24 33 [u0, zI a1] [zR s0] sh pp mm Q ↔ zS 24 34 [zU, zU] [zI a1, zR s0] sh pp mm Q := s_go cD_mark_33 cD_mark_34 rfl rfl
theorem rD_mark_34 {s1 : Nat} {s0 : Int} {u0 u1 : zV} : zS 24 34 [u0, u1] [zI s0, zR s1] sh pp mm Q ↔ zS 24 35 [zU, zU] [zI 1, zI s0, zR s1] sh pp mm Q := s_go cD_mark_34 cD_mark_35 rfl rfl
theorem rD_mark_35 {s2 : Nat} {s0 s1 : Int} {u0 u1 : zV} (hk : zKd sh s2 = 20) (h0 : 0 ≤ s1) (h1 : s1 < zLn sh s2) : zS 24 35 [u0, u1] [zI s0, zI s1, zR s2] sh pp mm Q ↔ zS 24 36 [zU, zU] [] sh pp (zupd mm s2 s1 s0) Q := s_go cD_mark_35 cD_mark_36 (if_pos ⟨hk, h0, h1, fun h => absurd h (by decide)⟩) rfl
theorem rD_mark_36 {u0 u1 : zV} : zS 24 36 [u0, u1] [] sh pp mm Q ↔ Q zU sh pp mm := s_ret cD_mark_36 rfl
theorem cAD_shake : ∀ q ∈ zT25, zCode 25 q.1 = some q.2 := zAll (mid := 25) rfl (by decide +kernel)
theorem cAD_shake_0 : ∀ q ∈ zT25_0, zCode 25 q.1 = some q.2 := fun q h => cAD_shake q (List.mem_append_left _ h)
theorem cAD_shake_1 : ∀ q ∈ zT25_1, zCode 25 q.1 = some q.2 := fun q h => cAD_shake q (List.mem_append_right _ (List.mem_append_left _ h))
theorem cAD_shake_2 : ∀ q ∈ zT25_2, zCode 25 q.1 = some q.2 := fun q h => cAD_shake q (List.mem_append_right _ (List.mem_append_right _ h))
theorem cD_shake_0 : zCode 25 0 = some (.iconst 0, 1, 0, 0, 0, 0, 3) := cAD_shake_0 _ (List.mem_of_getElem? (i := 0) rfl)
theorem cD_shake_1 : zCode 25 1 = some (.istore_n 2, 2, 0, 0, 0, 0, 3) := cAD_shake_0 _ (List.mem_of_getElem? (i := 1) rfl)
theorem cD_shake_2 : zCode 25 2 = some (.iload_n 2, 3, 0, 0, 0, 0, 7) := cAD_shake_0 _ (List.mem_of_getElem? (i := 2) rfl)
theorem cD_shake_3 : zCode 25 3 = some (.bipush 16, 5, 0, 0, 0, 0, 7) := cAD_shake_0 _ (List.mem_of_getElem? (i := 3) rfl)
theorem cD_shake_5 : zCode 25 5 = some (.if_icmp .ge 43, 8, 48, 0, 0, 0, 7) := cAD_shake_0 _ (List.mem_of_getElem? (i := 4) rfl)
theorem cD_shake_8 : zCode 25 8 = some (.bipush (-2), 10, 0, 0, 0, 0, 7) := cAD_shake_0 _ (List.mem_of_getElem? (i := 5) rfl)
theorem cD_shake_10 : zCode 25 10 = some (.iload_n 2, 11, 0, 0, 0, 0, 7) := cAD_shake_0 _ (List.mem_of_getElem? (i := 6) rfl)
theorem cD_shake_11 : zCode 25 11 = some (.imul, 12, 0, 0, 0, 0, 7) := cAD_shake_0 _ (List.mem_of_getElem? (i := 7) rfl)
theorem cD_shake_12 : zCode 25 12 = some (.iload_n 1, 13, 0, 0, 0, 0, 7) := cAD_shake_0 _ (List.mem_of_getElem? (i := 8) rfl)
theorem cD_shake_13 : zCode 25 13 = some (.isub, 14, 0, 0, 0, 0, 7) := cAD_shake_0 _ (List.mem_of_getElem? (i := 9) rfl)
theorem cD_shake_14 : zCode 25 14 = some (.iconst 3, 15, 0, 0, 0, 0, 7) := cAD_shake_0 _ (List.mem_of_getElem? (i := 10) rfl)
theorem cD_shake_15 : zCode 25 15 = some (.invokestatic 126, 18, 257, 2, 3, 15, 7) := cAD_shake_0 _ (List.mem_of_getElem? (i := 11) rfl)
theorem cD_shake_18 : zCode 25 18 = some (.istore_n 3, 19, 0, 0, 0, 0, 7) := cAD_shake_0 _ (List.mem_of_getElem? (i := 12) rfl)
theorem cD_shake_19 : zCode 25 19 = some (.iload_n 3, 20, 0, 0, 0, 0, 15) := cAD_shake_0 _ (List.mem_of_getElem? (i := 13) rfl)
theorem cD_shake_20 : zCode 25 20 = some (.bipush 24, 22, 0, 0, 0, 0, 15) := cAD_shake_0 _ (List.mem_of_getElem? (i := 14) rfl)
theorem cD_shake_22 : zCode 25 22 = some (.if_icmp .ge 20, 25, 42, 0, 0, 0, 15) := cAD_shake_0 _ (List.mem_of_getElem? (i := 15) rfl)
theorem cD_shake_25 : zCode 25 25 = some (.aload_n 0, 26, 0, 0, 0, 0, 15) := cAD_shake_1 _ (List.mem_of_getElem? (i := 0) rfl)
theorem cD_shake_26 : zCode 25 26 = some (.getfield 9, 29, 1, 0, 2, 462, 15) := cAD_shake_1 _ (List.mem_of_getElem? (i := 1) rfl)
theorem cD_shake_29 : zCode 25 29 = some (.iload_n 3, 30, 0, 0, 0, 0, 15) := cAD_shake_1 _ (List.mem_of_getElem? (i := 2) rfl)
theorem cD_shake_30 : zCode 25 30 = some (.iload_n 2, 31, 0, 0, 0, 0, 15) := cAD_shake_1 _ (List.mem_of_getElem? (i := 3) rfl)
theorem cD_shake_31 : zCode 25 31 = some (.invokestatic 129, 34, 143, 2, 2, 11, 15) := cAD_shake_1 _ (List.mem_of_getElem? (i := 4) rfl)
theorem cD_shake_34 : zCode 25 34 = some (.iconst 0, 35, 0, 0, 0, 0, 15) := cAD_shake_1 _ (List.mem_of_getElem? (i := 5) rfl)
theorem cD_shake_35 : zCode 25 35 = some (.iastore, 36, 0, 0, 0, 0, 15) := cAD_shake_1 _ (List.mem_of_getElem? (i := 6) rfl)
theorem cD_shake_36 : zCode 25 36 = some (.iinc 3 3, 39, 0, 0, 0, 0, 15) := cAD_shake_1 _ (List.mem_of_getElem? (i := 7) rfl)
theorem cD_shake_39 : zCode 25 39 = some (.goto (-20), 42, 19, 0, 0, 0, 15) := cAD_shake_1 _ (List.mem_of_getElem? (i := 8) rfl)
theorem cD_shake_42 : zCode 25 42 = some (.iinc 2 1, 45, 0, 0, 0, 0, 7) := cAD_shake_1 _ (List.mem_of_getElem? (i := 9) rfl)
theorem cD_shake_45 : zCode 25 45 = some (.goto (-43), 48, 2, 0, 0, 0, 7) := cAD_shake_1 _ (List.mem_of_getElem? (i := 10) rfl)
theorem cD_shake_48 : zCode 25 48 = some (.aload_n 0, 49, 0, 0, 0, 0, 1) := cAD_shake_1 _ (List.mem_of_getElem? (i := 11) rfl)
theorem cD_shake_49 : zCode 25 49 = some (.getfield 9, 52, 1, 0, 2, 462, 1) := cAD_shake_1 _ (List.mem_of_getElem? (i := 12) rfl)
theorem cD_shake_52 : zCode 25 52 = some (.aload_n 0, 53, 0, 0, 0, 0, 1) := cAD_shake_1 _ (List.mem_of_getElem? (i := 13) rfl)
theorem cD_shake_53 : zCode 25 53 = some (.invokevirtual 132, 56, 26, 0, 1, 1, 0) := cAD_shake_1 _ (List.mem_of_getElem? (i := 14) rfl)
theorem cD_shake_56 : zCode 25 56 = some (.iconst 1, 57, 0, 0, 0, 0, 0) := cAD_shake_1 _ (List.mem_of_getElem? (i := 15) rfl)
theorem cD_shake_57 : zCode 25 57 = some (.iastore, 58, 0, 0, 0, 0, 0) := cAD_shake_2 _ (List.mem_of_getElem? (i := 0) rfl)
theorem cD_shake_58 : zCode 25 58 = some (.return_, 59, 0, 0, 0, 0, 0) := cAD_shake_2 _ (List.mem_of_getElem? (i := 1) rfl)
theorem rD_shake_0 {a0 : Nat} {a1 : Int} {u2 u3 : zV} : zS 25 0 [zR a0, zI a1, u2, u3] [] sh pp mm Q ↔ zS 25 1 [zR a0, zI a1, zU, zU] [zI 0] sh pp mm Q := s_go cD_shake_0 cD_shake_1 rfl rfl
theorem rD_shake_1 {a0 : Nat} {a1 s0 : Int} {u2 u3 : zV} : zS 25 1 [zR a0, zI a1, u2, u3] [zI s0] sh pp mm Q ↔ zS 25 2 [zR a0, zI a1, zI s0, zU] [] sh pp mm Q := s_go cD_shake_1 cD_shake_2 rfl rfl
theorem rD_shake_2 {a0 : Nat} {a1 a2 : Int} {u3 : zV} : zS 25 2 [zR a0, zI a1, zI a2, u3] [] sh pp mm Q ↔ zS 25 3 [zR a0, zI a1, zI a2, zU] [zI a2] sh pp mm Q := s_go cD_shake_2 cD_shake_3 rfl rfl
theorem rD_shake_3 {a0 : Nat} {a1 a2 s0 : Int} {u3 : zV} : zS 25 3 [zR a0, zI a1, zI a2, u3] [zI s0] sh pp mm Q ↔ zS 25 5 [zR a0, zI a1, zI a2, zU] [zI 16, zI s0] sh pp mm Q := s_go cD_shake_3 cD_shake_5 rfl rfl
theorem rD_shake_5 {a0 : Nat} {a1 a2 s0 s1 : Int} {u3 : zV} : zS 25 5 [zR a0, zI a1, zI a2, u3] [zI s0, zI s1] sh pp mm Q ↔ (s1 < s0 → zS 25 8 [zR a0, zI a1, zI a2, zU] [] sh pp mm Q) ∧ (¬ s1 < s0 → zS 25 48 [zR a0, zU, zU, zU] [] sh pp mm Q) := s_ifn cD_shake_5 cD_shake_8 cD_shake_48 rfl rfl rfl
theorem rD_shake_8 {a0 : Nat} {a1 a2 : Int} {u3 : zV} : zS 25 8 [zR a0, zI a1, zI a2, u3] [] sh pp mm Q ↔ zS 25 10 [zR a0, zI a1, zI a2, zU] [zI (-2)] sh pp mm Q := s_go cD_shake_8 cD_shake_10 rfl rfl
theorem rD_shake_10 {a0 : Nat} {a1 a2 s0 : Int} {u3 : zV} : zS 25 10 [zR a0, zI a1, zI a2, u3] [zI s0] sh pp mm Q ↔ zS 25 11 [zR a0, zI a1, zI a2, zU] [zI a2, zI s0] sh pp mm Q := s_go cD_shake_10 cD_shake_11 rfl rfl
theorem rD_shake_11 {a0 : Nat} {a1 a2 s0 s1 : Int} {u3 : zV} : zS 25 11 [zR a0, zI a1, zI a2, u3] [zI s0, zI s1] sh pp mm Q ↔ zS 25 12 [zR a0, zI a1, zI a2, zU] [zI (zw32 (s1 * s0))] sh pp mm Q := s_go cD_shake_11 cD_shake_12 rfl rfl
theorem rD_shake_12 {a0 : Nat} {a1 a2 s0 : Int} {u3 : zV} : zS 25 12 [zR a0, zI a1, zI a2, u3] [zI s0] sh pp mm Q ↔ zS 25 13 [zR a0, zI a1, zI a2, zU] [zI a1, zI s0] sh pp mm Q := s_go cD_shake_12 cD_shake_13 rfl rfl
theorem rD_shake_13 {a0 : Nat} {a1 a2 s0 s1 : Int} {u3 : zV} : zS 25 13 [zR a0, zI a1, zI a2, u3] [zI s0, zI s1] sh pp mm Q ↔ zS 25 14 [zR a0, zI a1, zI a2, zU] [zI (zw32 (s1 - s0))] sh pp mm Q := s_go cD_shake_13 cD_shake_14 rfl rfl
theorem rD_shake_14 {a0 : Nat} {a1 a2 s0 : Int} {u3 : zV} : zS 25 14 [zR a0, zI a1, zI a2, u3] [zI s0] sh pp mm Q ↔ zS 25 15 [zR a0, zI a1, zI a2, zU] [zI 3, zI s0] sh pp mm Q := s_go cD_shake_14 cD_shake_15 rfl rfl
theorem rD_shake_15 {a0 : Nat} {a1 a2 s0 s1 : Int} {u3 : zV} : zS 25 15 [zR a0, zI a1, zI a2, u3] [zI s0, zI s1] sh pp mm Q ↔ zS 257 0 [zI s1, zI s0, zU] [] sh pp mm (fun v sh pp mm => zS 25 18 [zR a0, zI a1, zI a2, zU] (zPush v []) sh pp mm Q) := s_call cD_shake_15 cD_shake_18 rfl rfl
theorem rD_shake_18 {a0 : Nat} {a1 a2 s0 : Int} {u3 : zV} : zS 25 18 [zR a0, zI a1, zI a2, u3] [zI s0] sh pp mm Q ↔ zS 25 19 [zR a0, zI a1, zI a2, zI s0] [] sh pp mm Q := s_go cD_shake_18 cD_shake_19 rfl rfl
theorem rD_shake_19 {a0 : Nat} {a1 a2 a3 : Int} : zS 25 19 [zR a0, zI a1, zI a2, zI a3] [] sh pp mm Q ↔ zS 25 20 [zR a0, zI a1, zI a2, zI a3] [zI a3] sh pp mm Q := s_go cD_shake_19 cD_shake_20 rfl rfl
theorem rD_shake_20 {a0 : Nat} {a1 a2 a3 s0 : Int} : zS 25 20 [zR a0, zI a1, zI a2, zI a3] [zI s0] sh pp mm Q ↔ zS 25 22 [zR a0, zI a1, zI a2, zI a3] [zI 24, zI s0] sh pp mm Q := s_go cD_shake_20 cD_shake_22 rfl rfl
theorem rD_shake_22 {a0 : Nat} {a1 a2 a3 s0 s1 : Int} : zS 25 22 [zR a0, zI a1, zI a2, zI a3] [zI s0, zI s1] sh pp mm Q ↔ (s1 < s0 → zS 25 25 [zR a0, zI a1, zI a2, zI a3] [] sh pp mm Q) ∧ (¬ s1 < s0 → zS 25 42 [zR a0, zI a1, zI a2, zU] [] sh pp mm Q) := s_ifn cD_shake_22 cD_shake_25 cD_shake_42 rfl rfl rfl
theorem rD_shake_25 {a0 : Nat} {a1 a2 a3 : Int} : zS 25 25 [zR a0, zI a1, zI a2, zI a3] [] sh pp mm Q ↔ zS 25 26 [zR a0, zI a1, zI a2, zI a3] [zR a0] sh pp mm Q := s_go cD_shake_25 cD_shake_26 rfl rfl
theorem rD_shake_26 {a0 s0 : Nat} {a1 a2 a3 : Int} (hk : zKd sh s0 = 1) : zS 25 26 [zR a0, zI a1, zI a2, zI a3] [zR s0] sh pp mm Q ↔ zS 25 29 [zR a0, zI a1, zI a2, zI a3] [zR (pp s0 0)] sh pp mm Q := s_go cD_shake_26 cD_shake_29 (if_pos hk) rfl
theorem rD_shake_29 {a0 s0 : Nat} {a1 a2 a3 : Int} : zS 25 29 [zR a0, zI a1, zI a2, zI a3] [zR s0] sh pp mm Q ↔ zS 25 30 [zR a0, zI a1, zI a2, zI a3] [zI a3, zR s0] sh pp mm Q := s_go cD_shake_29 cD_shake_30 rfl rfl
theorem rD_shake_30 {a0 s1 : Nat} {a1 a2 a3 s0 : Int} : zS 25 30 [zR a0, zI a1, zI a2, zI a3] [zI s0, zR s1] sh pp mm Q ↔ zS 25 31 [zR a0, zI a1, zI a2, zI a3] [zI a2, zI s0, zR s1] sh pp mm Q := s_go cD_shake_30 cD_shake_31 rfl rfl
theorem rD_shake_31 {a0 s2 : Nat} {a1 a2 a3 s0 s1 : Int} : zS 25 31 [zR a0, zI a1, zI a2, zI a3] [zI s0, zI s1, zR s2] sh pp mm Q ↔ zS 143 0 [zI s1, zI s0] [] sh pp mm (fun v sh pp mm => zS 25 34 [zR a0, zI a1, zI a2, zI a3] (zPush v [zR s2]) sh pp mm Q) := s_call cD_shake_31 cD_shake_34 rfl rfl
theorem rD_shake_34 {a0 s1 : Nat} {a1 a2 a3 s0 : Int} : zS 25 34 [zR a0, zI a1, zI a2, zI a3] [zI s0, zR s1] sh pp mm Q ↔ zS 25 35 [zR a0, zI a1, zI a2, zI a3] [zI 0, zI s0, zR s1] sh pp mm Q := s_go cD_shake_34 cD_shake_35 rfl rfl
theorem rD_shake_35 {a0 s2 : Nat} {a1 a2 a3 s0 s1 : Int} (hk : zKd sh s2 = 20) (h0 : 0 ≤ s1) (h1 : s1 < zLn sh s2) : zS 25 35 [zR a0, zI a1, zI a2, zI a3] [zI s0, zI s1, zR s2] sh pp mm Q ↔ zS 25 36 [zR a0, zI a1, zI a2, zI a3] [] sh pp (zupd mm s2 s1 s0) Q := s_go cD_shake_35 cD_shake_36 (if_pos ⟨hk, h0, h1, fun h => absurd h (by decide)⟩) rfl
theorem rD_shake_36 {a0 : Nat} {a1 a2 a3 : Int} : zS 25 36 [zR a0, zI a1, zI a2, zI a3] [] sh pp mm Q ↔ zS 25 39 [zR a0, zI a1, zI a2, zI (zw32 (a3 + 3))] [] sh pp mm Q := s_go cD_shake_36 cD_shake_39 rfl rfl
theorem rD_shake_39 {a0 : Nat} {a1 a2 a3 : Int} : zS 25 39 [zR a0, zI a1, zI a2, zI a3] [] sh pp mm Q ↔ zS 25 19 [zR a0, zI a1, zI a2, zI a3] [] sh pp mm Q := s_go cD_shake_39 cD_shake_19 rfl rfl
theorem rD_shake_42 {a0 : Nat} {a1 a2 : Int} {u3 : zV} : zS 25 42 [zR a0, zI a1, zI a2, u3] [] sh pp mm Q ↔ zS 25 45 [zR a0, zI a1, zI (zw32 (a2 + 1)), zU] [] sh pp mm Q := s_go cD_shake_42 cD_shake_45 rfl rfl
theorem rD_shake_45 {a0 : Nat} {a1 a2 : Int} {u3 : zV} : zS 25 45 [zR a0, zI a1, zI a2, u3] [] sh pp mm Q ↔ zS 25 2 [zR a0, zI a1, zI a2, zU] [] sh pp mm Q := s_go cD_shake_45 cD_shake_2 rfl rfl
theorem rD_shake_48 {a0 : Nat} {u1 u2 u3 : zV} : zS 25 48 [zR a0, u1, u2, u3] [] sh pp mm Q ↔ zS 25 49 [zR a0, zU, zU, zU] [zR a0] sh pp mm Q := s_go cD_shake_48 cD_shake_49 rfl rfl
theorem rD_shake_49 {a0 s0 : Nat} {u1 u2 u3 : zV} (hk : zKd sh s0 = 1) : zS 25 49 [zR a0, u1, u2, u3] [zR s0] sh pp mm Q ↔ zS 25 52 [zR a0, zU, zU, zU] [zR (pp s0 0)] sh pp mm Q := s_go cD_shake_49 cD_shake_52 (if_pos hk) rfl
theorem rD_shake_52 {a0 s0 : Nat} {u1 u2 u3 : zV} : zS 25 52 [zR a0, u1, u2, u3] [zR s0] sh pp mm Q ↔ zS 25 53 [zU, zU, zU, zU] [zR a0, zR s0] sh pp mm Q := s_go cD_shake_52 cD_shake_53 rfl rfl
theorem rD_shake_53 {s0 s1 : Nat} {u0 u1 u2 u3 : zV} (hk : zKd sh s0 = 1) : zS 25 53 [u0, u1, u2, u3] [zR s0, zR s1] sh pp mm Q ↔ zS 26 0 [zR s0] [] sh pp mm (fun v sh pp mm => zS 25 56 [zU, zU, zU, zU] (zPush v [zR s1]) sh pp mm Q) := s_call cD_shake_53 cD_shake_56 ((if_pos hk).trans rfl) rfl
theorem rD_shake_56 {s1 : Nat} {s0 : Int} {u0 u1 u2 u3 : zV} : zS 25 56 [u0, u1, u2, u3] [zI s0, zR s1] sh pp mm Q ↔ zS 25 57 [zU, zU, zU, zU] [zI 1, zI s0, zR s1] sh pp mm Q := s_go cD_shake_56 cD_shake_57 rfl rfl
theorem rD_shake_57 {s2 : Nat} {s0 s1 : Int} {u0 u1 u2 u3 : zV} (hk : zKd sh s2 = 20) (h0 : 0 ≤ s1) (h1 : s1 < zLn sh s2) : zS 25 57 [u0, u1, u2, u3] [zI s0, zI s1, zR s2] sh pp mm Q ↔ zS 25 58 [zU, zU, zU, zU] [] sh pp (zupd mm s2 s1 s0) Q := s_go cD_shake_57 cD_shake_58 (if_pos ⟨hk, h0, h1, fun h => absurd h (by decide)⟩) rfl
theorem rD_shake_58 {u0 u1 u2 u3 : zV} : zS 25 58 [u0, u1, u2, u3] [] sh pp mm Q ↔ Q zU sh pp mm := s_ret cD_shake_58 rfl
theorem cAD_endCell : ∀ q ∈ zT26, zCode 26 q.1 = some q.2 := zAll (mid := 26) rfl (by decide +kernel)
theorem cAD_endCell_0 : ∀ q ∈ zT26_0, zCode 26 q.1 = some q.2 := fun q h => cAD_endCell q (h)
theorem cD_endCell_0 : zCode 26 0 = some (.aload_n 0, 1, 0, 0, 0, 0, 1) := cAD_endCell_0 _ (List.mem_of_getElem? (i := 0) rfl)
theorem cD_endCell_1 : zCode 26 1 = some (.getfield 35, 4, 1, 6, 2, 475, 1) := cAD_endCell_0 _ (List.mem_of_getElem? (i := 1) rfl)
theorem cD_endCell_4 : zCode 26 4 = some (.getfield 123, 7, 4, 0, 0, 430, 1) := cAD_endCell_0 _ (List.mem_of_getElem? (i := 2) rfl)
theorem cD_endCell_7 : zCode 26 7 = some (.aload_n 0, 8, 0, 0, 0, 0, 1) := cAD_endCell_0 _ (List.mem_of_getElem? (i := 3) rfl)
theorem cD_endCell_8 : zCode 26 8 = some (.getfield 39, 11, 1, 7, 2, 476, 0) := cAD_endCell_0 _ (List.mem_of_getElem? (i := 4) rfl)
theorem cD_endCell_11 : zCode 26 11 = some (.getfield 123, 14, 4, 0, 0, 430, 0) := cAD_endCell_0 _ (List.mem_of_getElem? (i := 5) rfl)
theorem cD_endCell_14 : zCode 26 14 = some (.invokestatic 129, 17, 143, 2, 2, 11, 0) := cAD_endCell_0 _ (List.mem_of_getElem? (i := 6) rfl)
theorem cD_endCell_17 : zCode 26 17 = some (.ireturn, 18, 0, 0, 0, 0, 0) := cAD_endCell_0 _ (List.mem_of_getElem? (i := 7) rfl)
theorem rD_endCell_0 {a0 : Nat} : zS 26 0 [zR a0] [] sh pp mm Q ↔ zS 26 1 [zR a0] [zR a0] sh pp mm Q := s_go cD_endCell_0 cD_endCell_1 rfl rfl
theorem rD_endCell_1 {a0 s0 : Nat} (hk : zKd sh s0 = 1) : zS 26 1 [zR a0] [zR s0] sh pp mm Q ↔ zS 26 4 [zR a0] [zR (pp s0 6)] sh pp mm Q := s_go cD_endCell_1 cD_endCell_4 (if_pos hk) rfl
theorem rD_endCell_4 {a0 s0 : Nat} (hk : zKd sh s0 = 4) : zS 26 4 [zR a0] [zR s0] sh pp mm Q ↔ zS 26 7 [zR a0] [zI (mm s0 0)] sh pp mm Q := s_go cD_endCell_4 cD_endCell_7 (if_pos hk) rfl
theorem rD_endCell_7 {a0 : Nat} {s0 : Int} : zS 26 7 [zR a0] [zI s0] sh pp mm Q ↔ zS 26 8 [zU] [zR a0, zI s0] sh pp mm Q := s_go cD_endCell_7 cD_endCell_8 rfl rfl
theorem rD_endCell_8 {s0 : Nat} {s1 : Int} {u0 : zV} (hk : zKd sh s0 = 1) : zS 26 8 [u0] [zR s0, zI s1] sh pp mm Q ↔ zS 26 11 [zU] [zR (pp s0 7), zI s1] sh pp mm Q := s_go cD_endCell_8 cD_endCell_11 (if_pos hk) rfl
theorem rD_endCell_11 {s0 : Nat} {s1 : Int} {u0 : zV} (hk : zKd sh s0 = 4) : zS 26 11 [u0] [zR s0, zI s1] sh pp mm Q ↔ zS 26 14 [zU] [zI (mm s0 0), zI s1] sh pp mm Q := s_go cD_endCell_11 cD_endCell_14 (if_pos hk) rfl
theorem rD_endCell_14 {s0 s1 : Int} {u0 : zV} : zS 26 14 [u0] [zI s0, zI s1] sh pp mm Q ↔ zS 143 0 [zI s1, zI s0] [] sh pp mm (fun v sh pp mm => zS 26 17 [zU] (zPush v []) sh pp mm Q) := s_call cD_endCell_14 cD_endCell_17 rfl rfl
theorem rD_endCell_17 {s0 : Int} {u0 : zV} : zS 26 17 [u0] [zI s0] sh pp mm Q ↔ Q (zI s0) sh pp mm := s_ret cD_endCell_17 rfl
theorem cAD_looksLike : ∀ q ∈ zT27, zCode 27 q.1 = some q.2 := zAll (mid := 27) rfl (by decide +kernel)
theorem cAD_looksLike_0 : ∀ q ∈ zT27_0, zCode 27 q.1 = some q.2 := fun q h => cAD_looksLike q (List.mem_append_left _ h)
theorem cAD_looksLike_1 : ∀ q ∈ zT27_1, zCode 27 q.1 = some q.2 := fun q h => cAD_looksLike q (List.mem_append_right _ h)
theorem cD_looksLike_0 : zCode 27 0 = some (.iconst 0, 1, 0, 0, 0, 0, 3) := cAD_looksLike_0 _ (List.mem_of_getElem? (i := 0) rfl)
theorem cD_looksLike_1 : zCode 27 1 = some (.istore_n 2, 2, 0, 0, 0, 0, 3) := cAD_looksLike_0 _ (List.mem_of_getElem? (i := 1) rfl)
theorem cD_looksLike_2 : zCode 27 2 = some (.iload_n 2, 3, 0, 0, 0, 0, 7) := cAD_looksLike_0 _ (List.mem_of_getElem? (i := 2) rfl)
theorem cD_looksLike_3 : zCode 27 3 = some (.sipush 384, 6, 0, 0, 0, 0, 7) := cAD_looksLike_0 _ (List.mem_of_getElem? (i := 3) rfl)
theorem cD_looksLike_6 : zCode 27 6 = some (.if_icmp .ge 26, 9, 32, 0, 0, 0, 7) := cAD_looksLike_0 _ (List.mem_of_getElem? (i := 4) rfl)
theorem cD_looksLike_9 : zCode 27 9 = some (.aload_n 0, 10, 0, 0, 0, 0, 7) := cAD_looksLike_0 _ (List.mem_of_getElem? (i := 5) rfl)
theorem cD_looksLike_10 : zCode 27 10 = some (.getfield 9, 13, 1, 0, 2, 462, 7) := cAD_looksLike_0 _ (List.mem_of_getElem? (i := 6) rfl)
theorem cD_looksLike_13 : zCode 27 13 = some (.iload_n 2, 14, 0, 0, 0, 0, 7) := cAD_looksLike_0 _ (List.mem_of_getElem? (i := 7) rfl)
theorem cD_looksLike_14 : zCode 27 14 = some (.iaload, 15, 0, 0, 0, 0, 7) := cAD_looksLike_0 _ (List.mem_of_getElem? (i := 8) rfl)
theorem cD_looksLike_15 : zCode 27 15 = some (.aload_n 1, 16, 0, 0, 0, 0, 7) := cAD_looksLike_0 _ (List.mem_of_getElem? (i := 9) rfl)
theorem cD_looksLike_16 : zCode 27 16 = some (.getfield 9, 19, 1, 0, 2, 462, 7) := cAD_looksLike_0 _ (List.mem_of_getElem? (i := 10) rfl)
theorem cD_looksLike_19 : zCode 27 19 = some (.iload_n 2, 20, 0, 0, 0, 0, 7) := cAD_looksLike_0 _ (List.mem_of_getElem? (i := 11) rfl)
theorem cD_looksLike_20 : zCode 27 20 = some (.iaload, 21, 0, 0, 0, 0, 7) := cAD_looksLike_0 _ (List.mem_of_getElem? (i := 12) rfl)
theorem cD_looksLike_21 : zCode 27 21 = some (.if_icmp .eq 5, 24, 26, 0, 0, 0, 7) := cAD_looksLike_0 _ (List.mem_of_getElem? (i := 13) rfl)
theorem cD_looksLike_24 : zCode 27 24 = some (.iconst 0, 25, 0, 0, 0, 0, 0) := cAD_looksLike_0 _ (List.mem_of_getElem? (i := 14) rfl)
theorem cD_looksLike_25 : zCode 27 25 = some (.ireturn, 26, 0, 3, 0, 0, 0) := cAD_looksLike_0 _ (List.mem_of_getElem? (i := 15) rfl)
theorem cD_looksLike_26 : zCode 27 26 = some (.iinc 2 1, 29, 0, 0, 0, 0, 7) := cAD_looksLike_1 _ (List.mem_of_getElem? (i := 0) rfl)
theorem cD_looksLike_29 : zCode 27 29 = some (.goto (-27), 32, 2, 0, 0, 0, 7) := cAD_looksLike_1 _ (List.mem_of_getElem? (i := 1) rfl)
theorem cD_looksLike_32 : zCode 27 32 = some (.iconst 1, 33, 0, 0, 0, 0, 0) := cAD_looksLike_1 _ (List.mem_of_getElem? (i := 2) rfl)
theorem cD_looksLike_33 : zCode 27 33 = some (.ireturn, 34, 0, 3, 0, 0, 0) := cAD_looksLike_1 _ (List.mem_of_getElem? (i := 3) rfl)
theorem rD_looksLike_0 {a0 a1 : Nat} {u2 : zV} : zS 27 0 [zR a0, zR a1, u2] [] sh pp mm Q ↔ zS 27 1 [zR a0, zR a1, zU] [zI 0] sh pp mm Q := s_go cD_looksLike_0 cD_looksLike_1 rfl rfl
theorem rD_looksLike_1 {a0 a1 : Nat} {s0 : Int} {u2 : zV} : zS 27 1 [zR a0, zR a1, u2] [zI s0] sh pp mm Q ↔ zS 27 2 [zR a0, zR a1, zI s0] [] sh pp mm Q := s_go cD_looksLike_1 cD_looksLike_2 rfl rfl
theorem rD_looksLike_2 {a0 a1 : Nat} {a2 : Int} : zS 27 2 [zR a0, zR a1, zI a2] [] sh pp mm Q ↔ zS 27 3 [zR a0, zR a1, zI a2] [zI a2] sh pp mm Q := s_go cD_looksLike_2 cD_looksLike_3 rfl rfl
theorem rD_looksLike_3 {a0 a1 : Nat} {a2 s0 : Int} : zS 27 3 [zR a0, zR a1, zI a2] [zI s0] sh pp mm Q ↔ zS 27 6 [zR a0, zR a1, zI a2] [zI 384, zI s0] sh pp mm Q := s_go cD_looksLike_3 cD_looksLike_6 rfl rfl
theorem rD_looksLike_6 {a0 a1 : Nat} {a2 s0 s1 : Int} : zS 27 6 [zR a0, zR a1, zI a2] [zI s0, zI s1] sh pp mm Q ↔ (s1 < s0 → zS 27 9 [zR a0, zR a1, zI a2] [] sh pp mm Q) ∧ (¬ s1 < s0 → zS 27 32 [zU, zU, zU] [] sh pp mm Q) := s_ifn cD_looksLike_6 cD_looksLike_9 cD_looksLike_32 rfl rfl rfl
theorem rD_looksLike_9 {a0 a1 : Nat} {a2 : Int} : zS 27 9 [zR a0, zR a1, zI a2] [] sh pp mm Q ↔ zS 27 10 [zR a0, zR a1, zI a2] [zR a0] sh pp mm Q := s_go cD_looksLike_9 cD_looksLike_10 rfl rfl
theorem rD_looksLike_10 {a0 a1 s0 : Nat} {a2 : Int} (hk : zKd sh s0 = 1) : zS 27 10 [zR a0, zR a1, zI a2] [zR s0] sh pp mm Q ↔ zS 27 13 [zR a0, zR a1, zI a2] [zR (pp s0 0)] sh pp mm Q := s_go cD_looksLike_10 cD_looksLike_13 (if_pos hk) rfl
theorem rD_looksLike_13 {a0 a1 s0 : Nat} {a2 : Int} : zS 27 13 [zR a0, zR a1, zI a2] [zR s0] sh pp mm Q ↔ zS 27 14 [zR a0, zR a1, zI a2] [zI a2, zR s0] sh pp mm Q := s_go cD_looksLike_13 cD_looksLike_14 rfl rfl
theorem rD_looksLike_14 {a0 a1 s1 : Nat} {a2 s0 : Int} (hk : zKd sh s1 = 20 ∨ zKd sh s1 = 30) (h0 : 0 ≤ s0) (h1 : s0 < zLn sh s1) : zS 27 14 [zR a0, zR a1, zI a2] [zI s0, zR s1] sh pp mm Q ↔ zS 27 15 [zR a0, zR a1, zI a2] [zI (mm s1 s0)] sh pp mm Q := s_go cD_looksLike_14 cD_looksLike_15 (if_pos ⟨hk, h0, h1⟩) rfl
theorem rD_looksLike_15 {a0 a1 : Nat} {a2 s0 : Int} : zS 27 15 [zR a0, zR a1, zI a2] [zI s0] sh pp mm Q ↔ zS 27 16 [zR a0, zR a1, zI a2] [zR a1, zI s0] sh pp mm Q := s_go cD_looksLike_15 cD_looksLike_16 rfl rfl
theorem rD_looksLike_16 {a0 a1 s0 : Nat} {a2 s1 : Int} (hk : zKd sh s0 = 1) : zS 27 16 [zR a0, zR a1, zI a2] [zR s0, zI s1] sh pp mm Q ↔ zS 27 19 [zR a0, zR a1, zI a2] [zR (pp s0 0), zI s1] sh pp mm Q := s_go cD_looksLike_16 cD_looksLike_19 (if_pos hk) rfl
theorem rD_looksLike_19 {a0 a1 s0 : Nat} {a2 s1 : Int} : zS 27 19 [zR a0, zR a1, zI a2] [zR s0, zI s1] sh pp mm Q ↔ zS 27 20 [zR a0, zR a1, zI a2] [zI a2, zR s0, zI s1] sh pp mm Q := s_go cD_looksLike_19 cD_looksLike_20 rfl rfl
theorem rD_looksLike_20 {a0 a1 s1 : Nat} {a2 s0 s2 : Int} (hk : zKd sh s1 = 20 ∨ zKd sh s1 = 30) (h0 : 0 ≤ s0) (h1 : s0 < zLn sh s1) : zS 27 20 [zR a0, zR a1, zI a2] [zI s0, zR s1, zI s2] sh pp mm Q ↔ zS 27 21 [zR a0, zR a1, zI a2] [zI (mm s1 s0), zI s2] sh pp mm Q := s_go cD_looksLike_20 cD_looksLike_21 (if_pos ⟨hk, h0, h1⟩) rfl
theorem rD_looksLike_21 {a0 a1 : Nat} {a2 s0 s1 : Int} : zS 27 21 [zR a0, zR a1, zI a2] [zI s0, zI s1] sh pp mm Q ↔ (s1 = s0 → zS 27 26 [zR a0, zR a1, zI a2] [] sh pp mm Q) ∧ (¬ s1 = s0 → zS 27 24 [zU, zU, zU] [] sh pp mm Q) := s_if cD_looksLike_21 cD_looksLike_26 cD_looksLike_24 rfl rfl rfl
theorem rD_looksLike_24 {u0 u1 u2 : zV} : zS 27 24 [u0, u1, u2] [] sh pp mm Q ↔ zS 27 25 [zU, zU, zU] [zI 0] sh pp mm Q := s_go cD_looksLike_24 cD_looksLike_25 rfl rfl
theorem rD_looksLike_25 {s0 : Int} {u0 u1 u2 : zV} (hb : s0 = 0 ∨ s0 = 1) : zS 27 25 [u0, u1, u2] [zI s0] sh pp mm Q ↔ Q (zI s0) sh pp mm := s_ret cD_looksLike_25 (if_pos (decide_eq_true hb))
theorem rD_looksLike_26 {a0 a1 : Nat} {a2 : Int} : zS 27 26 [zR a0, zR a1, zI a2] [] sh pp mm Q ↔ zS 27 29 [zR a0, zR a1, zI (zw32 (a2 + 1))] [] sh pp mm Q := s_go cD_looksLike_26 cD_looksLike_29 rfl rfl
theorem rD_looksLike_29 {a0 a1 : Nat} {a2 : Int} : zS 27 29 [zR a0, zR a1, zI a2] [] sh pp mm Q ↔ zS 27 2 [zR a0, zR a1, zI a2] [] sh pp mm Q := s_go cD_looksLike_29 cD_looksLike_2 rfl rfl
theorem rD_looksLike_32 {u0 u1 u2 : zV} : zS 27 32 [u0, u1, u2] [] sh pp mm Q ↔ zS 27 33 [zU, zU, zU] [zI 1] sh pp mm Q := s_go cD_looksLike_32 cD_looksLike_33 rfl rfl
theorem rD_looksLike_33 {s0 : Int} {u0 u1 u2 : zV} (hb : s0 = 0 ∨ s0 = 1) : zS 27 33 [u0, u1, u2] [zI s0] sh pp mm Q ↔ Q (zI s0) sh pp mm := s_ret cD_looksLike_33 (if_pos (decide_eq_true hb))
theorem cAD_cellsDrawn : ∀ q ∈ zT28, zCode 28 q.1 = some q.2 := zAll (mid := 28) rfl (by decide +kernel)
theorem cAD_cellsDrawn_0 : ∀ q ∈ zT28_0, zCode 28 q.1 = some q.2 := fun q h => cAD_cellsDrawn q (List.mem_append_left _ h)
theorem cAD_cellsDrawn_1 : ∀ q ∈ zT28_1, zCode 28 q.1 = some q.2 := fun q h => cAD_cellsDrawn q (List.mem_append_right _ h)
theorem cD_cellsDrawn_0 : zCode 28 0 = some (.iconst 0, 1, 0, 0, 0, 0, 1) := cAD_cellsDrawn_0 _ (List.mem_of_getElem? (i := 0) rfl)
theorem cD_cellsDrawn_1 : zCode 28 1 = some (.istore_n 1, 2, 0, 0, 0, 0, 1) := cAD_cellsDrawn_0 _ (List.mem_of_getElem? (i := 1) rfl)
theorem cD_cellsDrawn_2 : zCode 28 2 = some (.iconst 0, 3, 0, 0, 0, 0, 3) := cAD_cellsDrawn_0 _ (List.mem_of_getElem? (i := 2) rfl)
theorem cD_cellsDrawn_3 : zCode 28 3 = some (.istore_n 2, 4, 0, 0, 0, 0, 3) := cAD_cellsDrawn_0 _ (List.mem_of_getElem? (i := 3) rfl)
theorem cD_cellsDrawn_4 : zCode 28 4 = some (.iload_n 2, 5, 0, 0, 0, 0, 7) := cAD_cellsDrawn_0 _ (List.mem_of_getElem? (i := 4) rfl)
theorem cD_cellsDrawn_5 : zCode 28 5 = some (.sipush 384, 8, 0, 0, 0, 0, 7) := cAD_cellsDrawn_0 _ (List.mem_of_getElem? (i := 5) rfl)
theorem cD_cellsDrawn_8 : zCode 28 8 = some (.if_icmp .ge 18, 11, 26, 0, 0, 0, 7) := cAD_cellsDrawn_0 _ (List.mem_of_getElem? (i := 6) rfl)
theorem cD_cellsDrawn_11 : zCode 28 11 = some (.iload_n 1, 12, 0, 0, 0, 0, 7) := cAD_cellsDrawn_0 _ (List.mem_of_getElem? (i := 7) rfl)
theorem cD_cellsDrawn_12 : zCode 28 12 = some (.aload_n 0, 13, 0, 0, 0, 0, 5) := cAD_cellsDrawn_0 _ (List.mem_of_getElem? (i := 8) rfl)
theorem cD_cellsDrawn_13 : zCode 28 13 = some (.getfield 9, 16, 1, 0, 2, 462, 5) := cAD_cellsDrawn_0 _ (List.mem_of_getElem? (i := 9) rfl)
theorem cD_cellsDrawn_16 : zCode 28 16 = some (.iload_n 2, 17, 0, 0, 0, 0, 5) := cAD_cellsDrawn_0 _ (List.mem_of_getElem? (i := 10) rfl)
theorem cD_cellsDrawn_17 : zCode 28 17 = some (.iaload, 18, 0, 0, 0, 0, 5) := cAD_cellsDrawn_0 _ (List.mem_of_getElem? (i := 11) rfl)
theorem cD_cellsDrawn_18 : zCode 28 18 = some (.iadd, 19, 0, 0, 0, 0, 5) := cAD_cellsDrawn_0 _ (List.mem_of_getElem? (i := 12) rfl)
theorem cD_cellsDrawn_19 : zCode 28 19 = some (.istore_n 1, 20, 0, 0, 0, 0, 5) := cAD_cellsDrawn_0 _ (List.mem_of_getElem? (i := 13) rfl)
theorem cD_cellsDrawn_20 : zCode 28 20 = some (.iinc 2 1, 23, 0, 0, 0, 0, 7) := cAD_cellsDrawn_0 _ (List.mem_of_getElem? (i := 14) rfl)
theorem cD_cellsDrawn_23 : zCode 28 23 = some (.goto (-19), 26, 4, 0, 0, 0, 7) := cAD_cellsDrawn_0 _ (List.mem_of_getElem? (i := 15) rfl)
theorem cD_cellsDrawn_26 : zCode 28 26 = some (.iload_n 1, 27, 0, 0, 0, 0, 2) := cAD_cellsDrawn_1 _ (List.mem_of_getElem? (i := 0) rfl)
theorem cD_cellsDrawn_27 : zCode 28 27 = some (.ireturn, 28, 0, 0, 0, 0, 0) := cAD_cellsDrawn_1 _ (List.mem_of_getElem? (i := 1) rfl)
theorem rD_cellsDrawn_0 {a0 : Nat} {u1 u2 : zV} : zS 28 0 [zR a0, u1, u2] [] sh pp mm Q ↔ zS 28 1 [zR a0, zU, zU] [zI 0] sh pp mm Q := s_go cD_cellsDrawn_0 cD_cellsDrawn_1 rfl rfl
theorem rD_cellsDrawn_1 {a0 : Nat} {s0 : Int} {u1 u2 : zV} : zS 28 1 [zR a0, u1, u2] [zI s0] sh pp mm Q ↔ zS 28 2 [zR a0, zI s0, zU] [] sh pp mm Q := s_go cD_cellsDrawn_1 cD_cellsDrawn_2 rfl rfl
theorem rD_cellsDrawn_2 {a0 : Nat} {a1 : Int} {u2 : zV} : zS 28 2 [zR a0, zI a1, u2] [] sh pp mm Q ↔ zS 28 3 [zR a0, zI a1, zU] [zI 0] sh pp mm Q := s_go cD_cellsDrawn_2 cD_cellsDrawn_3 rfl rfl
theorem rD_cellsDrawn_3 {a0 : Nat} {a1 s0 : Int} {u2 : zV} : zS 28 3 [zR a0, zI a1, u2] [zI s0] sh pp mm Q ↔ zS 28 4 [zR a0, zI a1, zI s0] [] sh pp mm Q := s_go cD_cellsDrawn_3 cD_cellsDrawn_4 rfl rfl
theorem rD_cellsDrawn_4 {a0 : Nat} {a1 a2 : Int} : zS 28 4 [zR a0, zI a1, zI a2] [] sh pp mm Q ↔ zS 28 5 [zR a0, zI a1, zI a2] [zI a2] sh pp mm Q := s_go cD_cellsDrawn_4 cD_cellsDrawn_5 rfl rfl
theorem rD_cellsDrawn_5 {a0 : Nat} {a1 a2 s0 : Int} : zS 28 5 [zR a0, zI a1, zI a2] [zI s0] sh pp mm Q ↔ zS 28 8 [zR a0, zI a1, zI a2] [zI 384, zI s0] sh pp mm Q := s_go cD_cellsDrawn_5 cD_cellsDrawn_8 rfl rfl
theorem rD_cellsDrawn_8 {a0 : Nat} {a1 a2 s0 s1 : Int} : zS 28 8 [zR a0, zI a1, zI a2] [zI s0, zI s1] sh pp mm Q ↔ (s1 < s0 → zS 28 11 [zR a0, zI a1, zI a2] [] sh pp mm Q) ∧ (¬ s1 < s0 → zS 28 26 [zU, zI a1, zU] [] sh pp mm Q) := s_ifn cD_cellsDrawn_8 cD_cellsDrawn_11 cD_cellsDrawn_26 rfl rfl rfl
theorem rD_cellsDrawn_11 {a0 : Nat} {a1 a2 : Int} : zS 28 11 [zR a0, zI a1, zI a2] [] sh pp mm Q ↔ zS 28 12 [zR a0, zU, zI a2] [zI a1] sh pp mm Q := s_go cD_cellsDrawn_11 cD_cellsDrawn_12 rfl rfl
theorem rD_cellsDrawn_12 {a0 : Nat} {a2 s0 : Int} {u1 : zV} : zS 28 12 [zR a0, u1, zI a2] [zI s0] sh pp mm Q ↔ zS 28 13 [zR a0, zU, zI a2] [zR a0, zI s0] sh pp mm Q := s_go cD_cellsDrawn_12 cD_cellsDrawn_13 rfl rfl
theorem rD_cellsDrawn_13 {a0 s0 : Nat} {a2 s1 : Int} {u1 : zV} (hk : zKd sh s0 = 1) : zS 28 13 [zR a0, u1, zI a2] [zR s0, zI s1] sh pp mm Q ↔ zS 28 16 [zR a0, zU, zI a2] [zR (pp s0 0), zI s1] sh pp mm Q := s_go cD_cellsDrawn_13 cD_cellsDrawn_16 (if_pos hk) rfl
theorem rD_cellsDrawn_16 {a0 s0 : Nat} {a2 s1 : Int} {u1 : zV} : zS 28 16 [zR a0, u1, zI a2] [zR s0, zI s1] sh pp mm Q ↔ zS 28 17 [zR a0, zU, zI a2] [zI a2, zR s0, zI s1] sh pp mm Q := s_go cD_cellsDrawn_16 cD_cellsDrawn_17 rfl rfl
theorem rD_cellsDrawn_17 {a0 s1 : Nat} {a2 s0 s2 : Int} {u1 : zV} (hk : zKd sh s1 = 20 ∨ zKd sh s1 = 30) (h0 : 0 ≤ s0) (h1 : s0 < zLn sh s1) : zS 28 17 [zR a0, u1, zI a2] [zI s0, zR s1, zI s2] sh pp mm Q ↔ zS 28 18 [zR a0, zU, zI a2] [zI (mm s1 s0), zI s2] sh pp mm Q := s_go cD_cellsDrawn_17 cD_cellsDrawn_18 (if_pos ⟨hk, h0, h1⟩) rfl
theorem rD_cellsDrawn_18 {a0 : Nat} {a2 s0 s1 : Int} {u1 : zV} : zS 28 18 [zR a0, u1, zI a2] [zI s0, zI s1] sh pp mm Q ↔ zS 28 19 [zR a0, zU, zI a2] [zI (zw32 (s1 + s0))] sh pp mm Q := s_go cD_cellsDrawn_18 cD_cellsDrawn_19 rfl rfl
theorem rD_cellsDrawn_19 {a0 : Nat} {a2 s0 : Int} {u1 : zV} : zS 28 19 [zR a0, u1, zI a2] [zI s0] sh pp mm Q ↔ zS 28 20 [zR a0, zI s0, zI a2] [] sh pp mm Q := s_go cD_cellsDrawn_19 cD_cellsDrawn_20 rfl rfl
theorem rD_cellsDrawn_20 {a0 : Nat} {a1 a2 : Int} : zS 28 20 [zR a0, zI a1, zI a2] [] sh pp mm Q ↔ zS 28 23 [zR a0, zI a1, zI (zw32 (a2 + 1))] [] sh pp mm Q := s_go cD_cellsDrawn_20 cD_cellsDrawn_23 rfl rfl
theorem rD_cellsDrawn_23 {a0 : Nat} {a1 a2 : Int} : zS 28 23 [zR a0, zI a1, zI a2] [] sh pp mm Q ↔ zS 28 4 [zR a0, zI a1, zI a2] [] sh pp mm Q := s_go cD_cellsDrawn_23 cD_cellsDrawn_4 rfl rfl
theorem rD_cellsDrawn_26 {a1 : Int} {u0 u2 : zV} : zS 28 26 [u0, zI a1, u2] [] sh pp mm Q ↔ zS 28 27 [zU, zU, zU] [zI a1] sh pp mm Q := s_go cD_cellsDrawn_26 cD_cellsDrawn_27 rfl rfl
theorem rD_cellsDrawn_27 {s0 : Int} {u0 u1 u2 : zV} : zS 28 27 [u0, u1, u2] [zI s0] sh pp mm Q ↔ Q (zI s0) sh pp mm := s_ret cD_cellsDrawn_27 rfl
theorem cAD_tell : ∀ q ∈ zT29, zCode 29 q.1 = some q.2 := zAll (mid := 29) rfl (by decide +kernel)
theorem cAD_tell_0 : ∀ q ∈ zT29_0, zCode 29 q.1 = some q.2 := fun q h => cAD_tell q (List.mem_append_left _ h)
theorem cAD_tell_1 : ∀ q ∈ zT29_1, zCode 29 q.1 = some q.2 := fun q h => cAD_tell q (List.mem_append_right _ (List.mem_append_left _ h))
theorem cAD_tell_2 : ∀ q ∈ zT29_2, zCode 29 q.1 = some q.2 := fun q h => cAD_tell q (List.mem_append_right _ (List.mem_append_right _ (List.mem_append_left _ h)))
theorem cAD_tell_3 : ∀ q ∈ zT29_3, zCode 29 q.1 = some q.2 := fun q h => cAD_tell q (List.mem_append_right _ (List.mem_append_right _ (List.mem_append_right _ h)))
theorem cD_tell_0 : zCode 29 0 = some (.iload_n 1, 1, 0, 0, 0, 0, 3) := cAD_tell_0 _ (List.mem_of_getElem? (i := 0) rfl)
theorem cD_tell_1 : zCode 29 1 = some (.tableswitch 146 0 8 #[51, 56, 61, 77, 93, 109, 125, 133, 141], 52, 0, 0, 0, 0, 1) := cAD_tell_0 _ (List.mem_of_getElem? (i := 1) rfl)
theorem cD_tell_52 : zCode 29 52 = some (.aload_n 0, 53, 0, 0, 0, 0, 1) := cAD_tell_0 _ (List.mem_of_getElem? (i := 2) rfl)
theorem cD_tell_53 : zCode 29 53 = some (.invokevirtual 136, 56, 28, 0, 3, 1, 0) := cAD_tell_0 _ (List.mem_of_getElem? (i := 3) rfl)
theorem cD_tell_56 : zCode 29 56 = some (.ireturn, 57, 0, 0, 0, 0, 0) := cAD_tell_0 _ (List.mem_of_getElem? (i := 4) rfl)
theorem cD_tell_57 : zCode 29 57 = some (.aload_n 0, 58, 0, 0, 0, 0, 1) := cAD_tell_0 _ (List.mem_of_getElem? (i := 5) rfl)
theorem cD_tell_58 : zCode 29 58 = some (.getfield 18, 61, 1, 2, 0, 467, 0) := cAD_tell_0 _ (List.mem_of_getElem? (i := 6) rfl)
theorem cD_tell_61 : zCode 29 61 = some (.ireturn, 62, 0, 0, 0, 0, 0) := cAD_tell_0 _ (List.mem_of_getElem? (i := 7) rfl)
theorem cD_tell_62 : zCode 29 62 = some (.aload_n 0, 63, 0, 0, 0, 0, 1) := cAD_tell_0 _ (List.mem_of_getElem? (i := 8) rfl)
theorem cD_tell_63 : zCode 29 63 = some (.getfield 35, 66, 1, 6, 2, 475, 1) := cAD_tell_0 _ (List.mem_of_getElem? (i := 9) rfl)
theorem cD_tell_66 : zCode 29 66 = some (.getfield 139, 69, 4, 1, 0, 432, 1) := cAD_tell_0 _ (List.mem_of_getElem? (i := 10) rfl)
theorem cD_tell_69 : zCode 29 69 = some (.aload_n 0, 70, 0, 0, 0, 0, 1) := cAD_tell_0 _ (List.mem_of_getElem? (i := 11) rfl)
theorem cD_tell_70 : zCode 29 70 = some (.getfield 39, 73, 1, 7, 2, 476, 0) := cAD_tell_0 _ (List.mem_of_getElem? (i := 12) rfl)
theorem cD_tell_73 : zCode 29 73 = some (.getfield 139, 76, 4, 1, 0, 432, 0) := cAD_tell_0 _ (List.mem_of_getElem? (i := 13) rfl)
theorem cD_tell_76 : zCode 29 76 = some (.iadd, 77, 0, 0, 0, 0, 0) := cAD_tell_0 _ (List.mem_of_getElem? (i := 14) rfl)
theorem cD_tell_77 : zCode 29 77 = some (.ireturn, 78, 0, 0, 0, 0, 0) := cAD_tell_0 _ (List.mem_of_getElem? (i := 15) rfl)
theorem cD_tell_78 : zCode 29 78 = some (.aload_n 0, 79, 0, 0, 0, 0, 1) := cAD_tell_1 _ (List.mem_of_getElem? (i := 0) rfl)
theorem cD_tell_79 : zCode 29 79 = some (.getfield 35, 82, 1, 6, 2, 475, 1) := cAD_tell_1 _ (List.mem_of_getElem? (i := 1) rfl)
theorem cD_tell_82 : zCode 29 82 = some (.getfield 142, 85, 4, 2, 0, 434, 1) := cAD_tell_1 _ (List.mem_of_getElem? (i := 2) rfl)
theorem cD_tell_85 : zCode 29 85 = some (.aload_n 0, 86, 0, 0, 0, 0, 1) := cAD_tell_1 _ (List.mem_of_getElem? (i := 3) rfl)
theorem cD_tell_86 : zCode 29 86 = some (.getfield 39, 89, 1, 7, 2, 476, 0) := cAD_tell_1 _ (List.mem_of_getElem? (i := 4) rfl)
theorem cD_tell_89 : zCode 29 89 = some (.getfield 142, 92, 4, 2, 0, 434, 0) := cAD_tell_1 _ (List.mem_of_getElem? (i := 5) rfl)
theorem cD_tell_92 : zCode 29 92 = some (.iadd, 93, 0, 0, 0, 0, 0) := cAD_tell_1 _ (List.mem_of_getElem? (i := 6) rfl)
theorem cD_tell_93 : zCode 29 93 = some (.ireturn, 94, 0, 0, 0, 0, 0) := cAD_tell_1 _ (List.mem_of_getElem? (i := 7) rfl)
theorem cD_tell_94 : zCode 29 94 = some (.aload_n 0, 95, 0, 0, 0, 0, 1) := cAD_tell_1 _ (List.mem_of_getElem? (i := 8) rfl)
theorem cD_tell_95 : zCode 29 95 = some (.getfield 35, 98, 1, 6, 2, 475, 1) := cAD_tell_1 _ (List.mem_of_getElem? (i := 9) rfl)
theorem cD_tell_98 : zCode 29 98 = some (.getfield 145, 101, 4, 3, 0, 436, 1) := cAD_tell_1 _ (List.mem_of_getElem? (i := 10) rfl)
theorem cD_tell_101 : zCode 29 101 = some (.aload_n 0, 102, 0, 0, 0, 0, 1) := cAD_tell_1 _ (List.mem_of_getElem? (i := 11) rfl)
theorem cD_tell_102 : zCode 29 102 = some (.getfield 39, 105, 1, 7, 2, 476, 0) := cAD_tell_1 _ (List.mem_of_getElem? (i := 12) rfl)
theorem cD_tell_105 : zCode 29 105 = some (.getfield 145, 108, 4, 3, 0, 436, 0) := cAD_tell_1 _ (List.mem_of_getElem? (i := 13) rfl)
theorem cD_tell_108 : zCode 29 108 = some (.iadd, 109, 0, 0, 0, 0, 0) := cAD_tell_1 _ (List.mem_of_getElem? (i := 14) rfl)
theorem cD_tell_109 : zCode 29 109 = some (.ireturn, 110, 0, 0, 0, 0, 0) := cAD_tell_1 _ (List.mem_of_getElem? (i := 15) rfl)
theorem cD_tell_110 : zCode 29 110 = some (.aload_n 0, 111, 0, 0, 0, 0, 1) := cAD_tell_2 _ (List.mem_of_getElem? (i := 0) rfl)
theorem cD_tell_111 : zCode 29 111 = some (.getfield 35, 114, 1, 6, 2, 475, 1) := cAD_tell_2 _ (List.mem_of_getElem? (i := 1) rfl)
theorem cD_tell_114 : zCode 29 114 = some (.getfield 67, 117, 4, 4, 0, 438, 1) := cAD_tell_2 _ (List.mem_of_getElem? (i := 2) rfl)
theorem cD_tell_117 : zCode 29 117 = some (.aload_n 0, 118, 0, 0, 0, 0, 1) := cAD_tell_2 _ (List.mem_of_getElem? (i := 3) rfl)
theorem cD_tell_118 : zCode 29 118 = some (.getfield 39, 121, 1, 7, 2, 476, 0) := cAD_tell_2 _ (List.mem_of_getElem? (i := 4) rfl)
theorem cD_tell_121 : zCode 29 121 = some (.getfield 67, 124, 4, 4, 0, 438, 0) := cAD_tell_2 _ (List.mem_of_getElem? (i := 5) rfl)
theorem cD_tell_124 : zCode 29 124 = some (.iadd, 125, 0, 0, 0, 0, 0) := cAD_tell_2 _ (List.mem_of_getElem? (i := 6) rfl)
theorem cD_tell_125 : zCode 29 125 = some (.ireturn, 126, 0, 0, 0, 0, 0) := cAD_tell_2 _ (List.mem_of_getElem? (i := 7) rfl)
theorem cD_tell_126 : zCode 29 126 = some (.aload_n 0, 127, 0, 0, 0, 0, 1) := cAD_tell_2 _ (List.mem_of_getElem? (i := 8) rfl)
theorem cD_tell_127 : zCode 29 127 = some (.getfield 35, 130, 1, 6, 2, 475, 0) := cAD_tell_2 _ (List.mem_of_getElem? (i := 9) rfl)
theorem cD_tell_130 : zCode 29 130 = some (.getfield 123, 133, 4, 0, 0, 430, 0) := cAD_tell_2 _ (List.mem_of_getElem? (i := 10) rfl)
theorem cD_tell_133 : zCode 29 133 = some (.ireturn, 134, 0, 0, 0, 0, 0) := cAD_tell_2 _ (List.mem_of_getElem? (i := 11) rfl)
theorem cD_tell_134 : zCode 29 134 = some (.aload_n 0, 135, 0, 0, 0, 0, 1) := cAD_tell_2 _ (List.mem_of_getElem? (i := 12) rfl)
theorem cD_tell_135 : zCode 29 135 = some (.getfield 39, 138, 1, 7, 2, 476, 0) := cAD_tell_2 _ (List.mem_of_getElem? (i := 13) rfl)
theorem cD_tell_138 : zCode 29 138 = some (.getfield 123, 141, 4, 0, 0, 430, 0) := cAD_tell_2 _ (List.mem_of_getElem? (i := 14) rfl)
theorem cD_tell_141 : zCode 29 141 = some (.ireturn, 142, 0, 0, 0, 0, 0) := cAD_tell_2 _ (List.mem_of_getElem? (i := 15) rfl)
theorem cD_tell_142 : zCode 29 142 = some (.aload_n 0, 143, 0, 0, 0, 0, 1) := cAD_tell_3 _ (List.mem_of_getElem? (i := 0) rfl)
theorem cD_tell_143 : zCode 29 143 = some (.getfield 22, 146, 1, 3, 0, 469, 0) := cAD_tell_3 _ (List.mem_of_getElem? (i := 1) rfl)
theorem cD_tell_146 : zCode 29 146 = some (.ireturn, 147, 0, 0, 0, 0, 0) := cAD_tell_3 _ (List.mem_of_getElem? (i := 2) rfl)
theorem cD_tell_147 : zCode 29 147 = some (.aload_n 0, 148, 0, 0, 0, 0, 1) := cAD_tell_3 _ (List.mem_of_getElem? (i := 3) rfl)
theorem cD_tell_148 : zCode 29 148 = some (.getfield 25, 151, 1, 4, 3, 471, 0) := cAD_tell_3 _ (List.mem_of_getElem? (i := 4) rfl)
theorem cD_tell_151 : zCode 29 151 = some (.ifCond .eq 7, 154, 158, 0, 0, 0, 0) := cAD_tell_3 _ (List.mem_of_getElem? (i := 5) rfl)
theorem cD_tell_154 : zCode 29 154 = some (.iconst 1, 155, 0, 0, 0, 0, 0) := cAD_tell_3 _ (List.mem_of_getElem? (i := 6) rfl)
theorem cD_tell_155 : zCode 29 155 = some (.goto 4, 158, 159, 0, 0, 0, 0) := cAD_tell_3 _ (List.mem_of_getElem? (i := 7) rfl)
theorem cD_tell_158 : zCode 29 158 = some (.iconst 0, 159, 0, 0, 0, 0, 0) := cAD_tell_3 _ (List.mem_of_getElem? (i := 8) rfl)
theorem cD_tell_159 : zCode 29 159 = some (.ireturn, 160, 0, 0, 0, 0, 0) := cAD_tell_3 _ (List.mem_of_getElem? (i := 9) rfl)
theorem rD_tell_0 {a0 : Nat} {a1 : Int} : zS 29 0 [zR a0, zI a1] [] sh pp mm Q ↔ zS 29 1 [zR a0, zU] [zI a1] sh pp mm Q := s_go cD_tell_0 cD_tell_1 rfl rfl
theorem rD_tell_1_0 {a0 : Nat} {u1 : zV} : zS 29 1 [zR a0, u1] [zI 0] sh pp mm Q ↔ zS 29 52 [zR a0, zU] [] sh pp mm Q := s_go cD_tell_1 cD_tell_52 rfl rfl
theorem rD_tell_1_1 {a0 : Nat} {u1 : zV} : zS 29 1 [zR a0, u1] [zI 1] sh pp mm Q ↔ zS 29 57 [zR a0, zU] [] sh pp mm Q := s_go cD_tell_1 cD_tell_57 rfl rfl
theorem rD_tell_1_2 {a0 : Nat} {u1 : zV} : zS 29 1 [zR a0, u1] [zI 2] sh pp mm Q ↔ zS 29 62 [zR a0, zU] [] sh pp mm Q := s_go cD_tell_1 cD_tell_62 rfl rfl
theorem rD_tell_1_3 {a0 : Nat} {u1 : zV} : zS 29 1 [zR a0, u1] [zI 3] sh pp mm Q ↔ zS 29 78 [zR a0, zU] [] sh pp mm Q := s_go cD_tell_1 cD_tell_78 rfl rfl
theorem rD_tell_1_4 {a0 : Nat} {u1 : zV} : zS 29 1 [zR a0, u1] [zI 4] sh pp mm Q ↔ zS 29 94 [zR a0, zU] [] sh pp mm Q := s_go cD_tell_1 cD_tell_94 rfl rfl
theorem rD_tell_1_5 {a0 : Nat} {u1 : zV} : zS 29 1 [zR a0, u1] [zI 5] sh pp mm Q ↔ zS 29 110 [zR a0, zU] [] sh pp mm Q := s_go cD_tell_1 cD_tell_110 rfl rfl
theorem rD_tell_1_6 {a0 : Nat} {u1 : zV} : zS 29 1 [zR a0, u1] [zI 6] sh pp mm Q ↔ zS 29 126 [zR a0, zU] [] sh pp mm Q := s_go cD_tell_1 cD_tell_126 rfl rfl
theorem rD_tell_1_7 {a0 : Nat} {u1 : zV} : zS 29 1 [zR a0, u1] [zI 7] sh pp mm Q ↔ zS 29 134 [zR a0, zU] [] sh pp mm Q := s_go cD_tell_1 cD_tell_134 rfl rfl
theorem rD_tell_1_8 {a0 : Nat} {u1 : zV} : zS 29 1 [zR a0, u1] [zI 8] sh pp mm Q ↔ zS 29 142 [zR a0, zU] [] sh pp mm Q := s_go cD_tell_1 cD_tell_142 rfl rfl
theorem rD_tell_1_d {a0 : Nat} {s0 : Int} {u1 : zV} (hd : s0 < 0 ∨ 8 < s0) : zS 29 1 [zR a0, u1] [zI s0] sh pp mm Q ↔ zS 29 147 [zR a0, zU] [] sh pp mm Q := s_go cD_tell_1 cD_tell_147 (if_pos hd) rfl
theorem rD_tell_52 {a0 : Nat} {u1 : zV} : zS 29 52 [zR a0, u1] [] sh pp mm Q ↔ zS 29 53 [zU, zU] [zR a0] sh pp mm Q := s_go cD_tell_52 cD_tell_53 rfl rfl
theorem rD_tell_53 {s0 : Nat} {u0 u1 : zV} (hk : zKd sh s0 = 1) : zS 29 53 [u0, u1] [zR s0] sh pp mm Q ↔ zS 28 0 [zR s0, zU, zU] [] sh pp mm (fun v sh pp mm => zS 29 56 [zU, zU] (zPush v []) sh pp mm Q) := s_call cD_tell_53 cD_tell_56 ((if_pos hk).trans rfl) rfl
theorem rD_tell_56 {s0 : Int} {u0 u1 : zV} : zS 29 56 [u0, u1] [zI s0] sh pp mm Q ↔ Q (zI s0) sh pp mm := s_ret cD_tell_56 rfl
theorem rD_tell_57 {a0 : Nat} {u1 : zV} : zS 29 57 [zR a0, u1] [] sh pp mm Q ↔ zS 29 58 [zU, zU] [zR a0] sh pp mm Q := s_go cD_tell_57 cD_tell_58 rfl rfl
theorem rD_tell_58 {s0 : Nat} {u0 u1 : zV} (hk : zKd sh s0 = 1) : zS 29 58 [u0, u1] [zR s0] sh pp mm Q ↔ zS 29 61 [zU, zU] [zI (mm s0 2)] sh pp mm Q := s_go cD_tell_58 cD_tell_61 (if_pos hk) rfl
theorem rD_tell_61 {s0 : Int} {u0 u1 : zV} : zS 29 61 [u0, u1] [zI s0] sh pp mm Q ↔ Q (zI s0) sh pp mm := s_ret cD_tell_61 rfl
theorem rD_tell_62 {a0 : Nat} {u1 : zV} : zS 29 62 [zR a0, u1] [] sh pp mm Q ↔ zS 29 63 [zR a0, zU] [zR a0] sh pp mm Q := s_go cD_tell_62 cD_tell_63 rfl rfl
theorem rD_tell_63 {a0 s0 : Nat} {u1 : zV} (hk : zKd sh s0 = 1) : zS 29 63 [zR a0, u1] [zR s0] sh pp mm Q ↔ zS 29 66 [zR a0, zU] [zR (pp s0 6)] sh pp mm Q := s_go cD_tell_63 cD_tell_66 (if_pos hk) rfl
theorem rD_tell_66 {a0 s0 : Nat} {u1 : zV} (hk : zKd sh s0 = 4) : zS 29 66 [zR a0, u1] [zR s0] sh pp mm Q ↔ zS 29 69 [zR a0, zU] [zI (mm s0 1)] sh pp mm Q := s_go cD_tell_66 cD_tell_69 (if_pos hk) rfl
theorem rD_tell_69 {a0 : Nat} {s0 : Int} {u1 : zV} : zS 29 69 [zR a0, u1] [zI s0] sh pp mm Q ↔ zS 29 70 [zU, zU] [zR a0, zI s0] sh pp mm Q := s_go cD_tell_69 cD_tell_70 rfl rfl
theorem rD_tell_70 {s0 : Nat} {s1 : Int} {u0 u1 : zV} (hk : zKd sh s0 = 1) : zS 29 70 [u0, u1] [zR s0, zI s1] sh pp mm Q ↔ zS 29 73 [zU, zU] [zR (pp s0 7), zI s1] sh pp mm Q := s_go cD_tell_70 cD_tell_73 (if_pos hk) rfl
theorem rD_tell_73 {s0 : Nat} {s1 : Int} {u0 u1 : zV} (hk : zKd sh s0 = 4) : zS 29 73 [u0, u1] [zR s0, zI s1] sh pp mm Q ↔ zS 29 76 [zU, zU] [zI (mm s0 1), zI s1] sh pp mm Q := s_go cD_tell_73 cD_tell_76 (if_pos hk) rfl
theorem rD_tell_76 {s0 s1 : Int} {u0 u1 : zV} : zS 29 76 [u0, u1] [zI s0, zI s1] sh pp mm Q ↔ zS 29 77 [zU, zU] [zI (zw32 (s1 + s0))] sh pp mm Q := s_go cD_tell_76 cD_tell_77 rfl rfl
theorem rD_tell_77 {s0 : Int} {u0 u1 : zV} : zS 29 77 [u0, u1] [zI s0] sh pp mm Q ↔ Q (zI s0) sh pp mm := s_ret cD_tell_77 rfl
theorem rD_tell_78 {a0 : Nat} {u1 : zV} : zS 29 78 [zR a0, u1] [] sh pp mm Q ↔ zS 29 79 [zR a0, zU] [zR a0] sh pp mm Q := s_go cD_tell_78 cD_tell_79 rfl rfl
theorem rD_tell_79 {a0 s0 : Nat} {u1 : zV} (hk : zKd sh s0 = 1) : zS 29 79 [zR a0, u1] [zR s0] sh pp mm Q ↔ zS 29 82 [zR a0, zU] [zR (pp s0 6)] sh pp mm Q := s_go cD_tell_79 cD_tell_82 (if_pos hk) rfl
theorem rD_tell_82 {a0 s0 : Nat} {u1 : zV} (hk : zKd sh s0 = 4) : zS 29 82 [zR a0, u1] [zR s0] sh pp mm Q ↔ zS 29 85 [zR a0, zU] [zI (mm s0 2)] sh pp mm Q := s_go cD_tell_82 cD_tell_85 (if_pos hk) rfl
theorem rD_tell_85 {a0 : Nat} {s0 : Int} {u1 : zV} : zS 29 85 [zR a0, u1] [zI s0] sh pp mm Q ↔ zS 29 86 [zU, zU] [zR a0, zI s0] sh pp mm Q := s_go cD_tell_85 cD_tell_86 rfl rfl
theorem rD_tell_86 {s0 : Nat} {s1 : Int} {u0 u1 : zV} (hk : zKd sh s0 = 1) : zS 29 86 [u0, u1] [zR s0, zI s1] sh pp mm Q ↔ zS 29 89 [zU, zU] [zR (pp s0 7), zI s1] sh pp mm Q := s_go cD_tell_86 cD_tell_89 (if_pos hk) rfl
theorem rD_tell_89 {s0 : Nat} {s1 : Int} {u0 u1 : zV} (hk : zKd sh s0 = 4) : zS 29 89 [u0, u1] [zR s0, zI s1] sh pp mm Q ↔ zS 29 92 [zU, zU] [zI (mm s0 2), zI s1] sh pp mm Q := s_go cD_tell_89 cD_tell_92 (if_pos hk) rfl
theorem rD_tell_92 {s0 s1 : Int} {u0 u1 : zV} : zS 29 92 [u0, u1] [zI s0, zI s1] sh pp mm Q ↔ zS 29 93 [zU, zU] [zI (zw32 (s1 + s0))] sh pp mm Q := s_go cD_tell_92 cD_tell_93 rfl rfl
theorem rD_tell_93 {s0 : Int} {u0 u1 : zV} : zS 29 93 [u0, u1] [zI s0] sh pp mm Q ↔ Q (zI s0) sh pp mm := s_ret cD_tell_93 rfl
theorem rD_tell_94 {a0 : Nat} {u1 : zV} : zS 29 94 [zR a0, u1] [] sh pp mm Q ↔ zS 29 95 [zR a0, zU] [zR a0] sh pp mm Q := s_go cD_tell_94 cD_tell_95 rfl rfl
theorem rD_tell_95 {a0 s0 : Nat} {u1 : zV} (hk : zKd sh s0 = 1) : zS 29 95 [zR a0, u1] [zR s0] sh pp mm Q ↔ zS 29 98 [zR a0, zU] [zR (pp s0 6)] sh pp mm Q := s_go cD_tell_95 cD_tell_98 (if_pos hk) rfl
theorem rD_tell_98 {a0 s0 : Nat} {u1 : zV} (hk : zKd sh s0 = 4) : zS 29 98 [zR a0, u1] [zR s0] sh pp mm Q ↔ zS 29 101 [zR a0, zU] [zI (mm s0 3)] sh pp mm Q := s_go cD_tell_98 cD_tell_101 (if_pos hk) rfl
theorem rD_tell_101 {a0 : Nat} {s0 : Int} {u1 : zV} : zS 29 101 [zR a0, u1] [zI s0] sh pp mm Q ↔ zS 29 102 [zU, zU] [zR a0, zI s0] sh pp mm Q := s_go cD_tell_101 cD_tell_102 rfl rfl
theorem rD_tell_102 {s0 : Nat} {s1 : Int} {u0 u1 : zV} (hk : zKd sh s0 = 1) : zS 29 102 [u0, u1] [zR s0, zI s1] sh pp mm Q ↔ zS 29 105 [zU, zU] [zR (pp s0 7), zI s1] sh pp mm Q := s_go cD_tell_102 cD_tell_105 (if_pos hk) rfl
theorem rD_tell_105 {s0 : Nat} {s1 : Int} {u0 u1 : zV} (hk : zKd sh s0 = 4) : zS 29 105 [u0, u1] [zR s0, zI s1] sh pp mm Q ↔ zS 29 108 [zU, zU] [zI (mm s0 3), zI s1] sh pp mm Q := s_go cD_tell_105 cD_tell_108 (if_pos hk) rfl
theorem rD_tell_108 {s0 s1 : Int} {u0 u1 : zV} : zS 29 108 [u0, u1] [zI s0, zI s1] sh pp mm Q ↔ zS 29 109 [zU, zU] [zI (zw32 (s1 + s0))] sh pp mm Q := s_go cD_tell_108 cD_tell_109 rfl rfl
theorem rD_tell_109 {s0 : Int} {u0 u1 : zV} : zS 29 109 [u0, u1] [zI s0] sh pp mm Q ↔ Q (zI s0) sh pp mm := s_ret cD_tell_109 rfl
theorem rD_tell_110 {a0 : Nat} {u1 : zV} : zS 29 110 [zR a0, u1] [] sh pp mm Q ↔ zS 29 111 [zR a0, zU] [zR a0] sh pp mm Q := s_go cD_tell_110 cD_tell_111 rfl rfl
theorem rD_tell_111 {a0 s0 : Nat} {u1 : zV} (hk : zKd sh s0 = 1) : zS 29 111 [zR a0, u1] [zR s0] sh pp mm Q ↔ zS 29 114 [zR a0, zU] [zR (pp s0 6)] sh pp mm Q := s_go cD_tell_111 cD_tell_114 (if_pos hk) rfl
theorem rD_tell_114 {a0 s0 : Nat} {u1 : zV} (hk : zKd sh s0 = 4) : zS 29 114 [zR a0, u1] [zR s0] sh pp mm Q ↔ zS 29 117 [zR a0, zU] [zI (mm s0 4)] sh pp mm Q := s_go cD_tell_114 cD_tell_117 (if_pos hk) rfl
theorem rD_tell_117 {a0 : Nat} {s0 : Int} {u1 : zV} : zS 29 117 [zR a0, u1] [zI s0] sh pp mm Q ↔ zS 29 118 [zU, zU] [zR a0, zI s0] sh pp mm Q := s_go cD_tell_117 cD_tell_118 rfl rfl
theorem rD_tell_118 {s0 : Nat} {s1 : Int} {u0 u1 : zV} (hk : zKd sh s0 = 1) : zS 29 118 [u0, u1] [zR s0, zI s1] sh pp mm Q ↔ zS 29 121 [zU, zU] [zR (pp s0 7), zI s1] sh pp mm Q := s_go cD_tell_118 cD_tell_121 (if_pos hk) rfl
theorem rD_tell_121 {s0 : Nat} {s1 : Int} {u0 u1 : zV} (hk : zKd sh s0 = 4) : zS 29 121 [u0, u1] [zR s0, zI s1] sh pp mm Q ↔ zS 29 124 [zU, zU] [zI (mm s0 4), zI s1] sh pp mm Q := s_go cD_tell_121 cD_tell_124 (if_pos hk) rfl
theorem rD_tell_124 {s0 s1 : Int} {u0 u1 : zV} : zS 29 124 [u0, u1] [zI s0, zI s1] sh pp mm Q ↔ zS 29 125 [zU, zU] [zI (zw32 (s1 + s0))] sh pp mm Q := s_go cD_tell_124 cD_tell_125 rfl rfl
theorem rD_tell_125 {s0 : Int} {u0 u1 : zV} : zS 29 125 [u0, u1] [zI s0] sh pp mm Q ↔ Q (zI s0) sh pp mm := s_ret cD_tell_125 rfl
theorem rD_tell_126 {a0 : Nat} {u1 : zV} : zS 29 126 [zR a0, u1] [] sh pp mm Q ↔ zS 29 127 [zU, zU] [zR a0] sh pp mm Q := s_go cD_tell_126 cD_tell_127 rfl rfl
theorem rD_tell_127 {s0 : Nat} {u0 u1 : zV} (hk : zKd sh s0 = 1) : zS 29 127 [u0, u1] [zR s0] sh pp mm Q ↔ zS 29 130 [zU, zU] [zR (pp s0 6)] sh pp mm Q := s_go cD_tell_127 cD_tell_130 (if_pos hk) rfl
theorem rD_tell_130 {s0 : Nat} {u0 u1 : zV} (hk : zKd sh s0 = 4) : zS 29 130 [u0, u1] [zR s0] sh pp mm Q ↔ zS 29 133 [zU, zU] [zI (mm s0 0)] sh pp mm Q := s_go cD_tell_130 cD_tell_133 (if_pos hk) rfl
theorem rD_tell_133 {s0 : Int} {u0 u1 : zV} : zS 29 133 [u0, u1] [zI s0] sh pp mm Q ↔ Q (zI s0) sh pp mm := s_ret cD_tell_133 rfl
theorem rD_tell_134 {a0 : Nat} {u1 : zV} : zS 29 134 [zR a0, u1] [] sh pp mm Q ↔ zS 29 135 [zU, zU] [zR a0] sh pp mm Q := s_go cD_tell_134 cD_tell_135 rfl rfl
theorem rD_tell_135 {s0 : Nat} {u0 u1 : zV} (hk : zKd sh s0 = 1) : zS 29 135 [u0, u1] [zR s0] sh pp mm Q ↔ zS 29 138 [zU, zU] [zR (pp s0 7)] sh pp mm Q := s_go cD_tell_135 cD_tell_138 (if_pos hk) rfl
theorem rD_tell_138 {s0 : Nat} {u0 u1 : zV} (hk : zKd sh s0 = 4) : zS 29 138 [u0, u1] [zR s0] sh pp mm Q ↔ zS 29 141 [zU, zU] [zI (mm s0 0)] sh pp mm Q := s_go cD_tell_138 cD_tell_141 (if_pos hk) rfl
theorem rD_tell_141 {s0 : Int} {u0 u1 : zV} : zS 29 141 [u0, u1] [zI s0] sh pp mm Q ↔ Q (zI s0) sh pp mm := s_ret cD_tell_141 rfl
theorem rD_tell_142 {a0 : Nat} {u1 : zV} : zS 29 142 [zR a0, u1] [] sh pp mm Q ↔ zS 29 143 [zU, zU] [zR a0] sh pp mm Q := s_go cD_tell_142 cD_tell_143 rfl rfl
theorem rD_tell_143 {s0 : Nat} {u0 u1 : zV} (hk : zKd sh s0 = 1) : zS 29 143 [u0, u1] [zR s0] sh pp mm Q ↔ zS 29 146 [zU, zU] [zI (mm s0 3)] sh pp mm Q := s_go cD_tell_143 cD_tell_146 (if_pos hk) rfl
theorem rD_tell_146 {s0 : Int} {u0 u1 : zV} : zS 29 146 [u0, u1] [zI s0] sh pp mm Q ↔ Q (zI s0) sh pp mm := s_ret cD_tell_146 rfl
theorem rD_tell_147 {a0 : Nat} {u1 : zV} : zS 29 147 [zR a0, u1] [] sh pp mm Q ↔ zS 29 148 [zU, zU] [zR a0] sh pp mm Q := s_go cD_tell_147 cD_tell_148 rfl rfl
theorem rD_tell_148 {s0 : Nat} {u0 u1 : zV} (hk : zKd sh s0 = 1) : zS 29 148 [u0, u1] [zR s0] sh pp mm Q ↔ zS 29 151 [zU, zU] [zI (mm s0 4)] sh pp mm Q := s_go cD_tell_148 cD_tell_151 (if_pos hk) rfl
theorem rD_tell_151 {s0 : Int} {u0 u1 : zV} : zS 29 151 [u0, u1] [zI s0] sh pp mm Q ↔ (s0 = 0 → zS 29 158 [zU, zU] [] sh pp mm Q) ∧ (¬ s0 = 0 → zS 29 154 [zU, zU] [] sh pp mm Q) := s_if cD_tell_151 cD_tell_158 cD_tell_154 rfl rfl rfl
theorem rD_tell_154 {u0 u1 : zV} : zS 29 154 [u0, u1] [] sh pp mm Q ↔ zS 29 155 [zU, zU] [zI 1] sh pp mm Q := s_go cD_tell_154 cD_tell_155 rfl rfl
theorem rD_tell_155 {s0 : Int} {u0 u1 : zV} : zS 29 155 [u0, u1] [zI s0] sh pp mm Q ↔ zS 29 159 [zU, zU] [zI s0] sh pp mm Q := s_go cD_tell_155 cD_tell_159 rfl rfl
theorem rD_tell_158 {u0 u1 : zV} : zS 29 158 [u0, u1] [] sh pp mm Q ↔ zS 29 159 [zU, zU] [zI 0] sh pp mm Q := s_go cD_tell_158 cD_tell_159 rfl rfl
theorem rD_tell_159 {s0 : Int} {u0 u1 : zV} : zS 29 159 [u0, u1] [zI s0] sh pp mm Q ↔ Q (zI s0) sh pp mm := s_ret cD_tell_159 rfl
theorem cAC_init : ∀ q ∈ zT77, zCode 77 q.1 = some q.2 := zAll (mid := 77) rfl (by decide +kernel)
theorem cAC_init_0 : ∀ q ∈ zT77_0, zCode 77 q.1 = some q.2 := fun q h => cAC_init q (List.mem_append_left _ h)
theorem cAC_init_1 : ∀ q ∈ zT77_1, zCode 77 q.1 = some q.2 := fun q h => cAC_init q (List.mem_append_right _ (List.mem_append_left _ h))
theorem cAC_init_2 : ∀ q ∈ zT77_2, zCode 77 q.1 = some q.2 := fun q h => cAC_init q (List.mem_append_right _ (List.mem_append_right _ (List.mem_append_left _ h)))
theorem cAC_init_3 : ∀ q ∈ zT77_3, zCode 77 q.1 = some q.2 := fun q h => cAC_init q (List.mem_append_right _ (List.mem_append_right _ (List.mem_append_right _ h)))
theorem cC_init_0 : zCode 77 0 = some (.aload_n 0, 1, 0, 0, 0, 0, 1) := cAC_init_0 _ (List.mem_of_getElem? (i := 0) rfl)
theorem cC_init_1 : zCode 77 1 = some (.invokespecial 3, 4, 0, 78, 0, 368, 1) := cAC_init_0 _ (List.mem_of_getElem? (i := 1) rfl)
theorem cC_init_4 : zCode 77 4 = some (.aload_n 0, 5, 0, 0, 0, 0, 1) := cAC_init_0 _ (List.mem_of_getElem? (i := 2) rfl)
theorem cC_init_5 : zCode 77 5 = some (.bipush 30, 7, 0, 0, 0, 0, 1) := cAC_init_0 _ (List.mem_of_getElem? (i := 3) rfl)
theorem cC_init_7 : zCode 77 7 = some (.newarray .int, 9, 20, 0, 0, 0, 1) := cAC_init_0 _ (List.mem_of_getElem? (i := 4) rfl)
theorem cC_init_9 : zCode 77 9 = some (.putfield 9, 12, 8, 0, 2, 369, 1) := cAC_init_0 _ (List.mem_of_getElem? (i := 5) rfl)
theorem cC_init_12 : zCode 77 12 = some (.aload_n 0, 13, 0, 0, 0, 0, 1) := cAC_init_0 _ (List.mem_of_getElem? (i := 6) rfl)
theorem cC_init_13 : zCode 77 13 = some (.bipush 30, 15, 0, 0, 0, 0, 1) := cAC_init_0 _ (List.mem_of_getElem? (i := 7) rfl)
theorem cC_init_15 : zCode 77 15 = some (.newarray .int, 17, 20, 0, 0, 0, 1) := cAC_init_0 _ (List.mem_of_getElem? (i := 8) rfl)
theorem cC_init_17 : zCode 77 17 = some (.putfield 15, 20, 8, 1, 2, 371, 1) := cAC_init_0 _ (List.mem_of_getElem? (i := 9) rfl)
theorem cC_init_20 : zCode 77 20 = some (.aload_n 0, 21, 0, 0, 0, 0, 1) := cAC_init_0 _ (List.mem_of_getElem? (i := 10) rfl)
theorem cC_init_21 : zCode 77 21 = some (.bipush 30, 23, 0, 0, 0, 0, 1) := cAC_init_0 _ (List.mem_of_getElem? (i := 11) rfl)
theorem cC_init_23 : zCode 77 23 = some (.newarray .int, 25, 20, 0, 0, 0, 1) := cAC_init_0 _ (List.mem_of_getElem? (i := 12) rfl)
theorem cC_init_25 : zCode 77 25 = some (.putfield 18, 28, 8, 2, 2, 373, 1) := cAC_init_0 _ (List.mem_of_getElem? (i := 13) rfl)
theorem cC_init_28 : zCode 77 28 = some (.aload_n 0, 29, 0, 0, 0, 0, 1) := cAC_init_0 _ (List.mem_of_getElem? (i := 14) rfl)
theorem cC_init_29 : zCode 77 29 = some (.iconst 0, 30, 0, 0, 0, 0, 1) := cAC_init_0 _ (List.mem_of_getElem? (i := 15) rfl)
theorem cC_init_30 : zCode 77 30 = some (.putfield 21, 33, 8, 3, 0, 375, 1) := cAC_init_1 _ (List.mem_of_getElem? (i := 0) rfl)
theorem cC_init_33 : zCode 77 33 = some (.aload_n 0, 34, 0, 0, 0, 0, 1) := cAC_init_1 _ (List.mem_of_getElem? (i := 1) rfl)
theorem cC_init_34 : zCode 77 34 = some (.iconst (-1), 35, 0, 0, 0, 0, 1) := cAC_init_1 _ (List.mem_of_getElem? (i := 2) rfl)
theorem cC_init_35 : zCode 77 35 = some (.putfield 25, 38, 8, 4, 0, 377, 1) := cAC_init_1 _ (List.mem_of_getElem? (i := 3) rfl)
theorem cC_init_38 : zCode 77 38 = some (.aload_n 0, 39, 0, 0, 0, 0, 1) := cAC_init_1 _ (List.mem_of_getElem? (i := 4) rfl)
theorem cC_init_39 : zCode 77 39 = some (.iconst 0, 40, 0, 0, 0, 0, 1) := cAC_init_1 _ (List.mem_of_getElem? (i := 5) rfl)
theorem cC_init_40 : zCode 77 40 = some (.putfield 28, 43, 8, 5, 3, 379, 1) := cAC_init_1 _ (List.mem_of_getElem? (i := 6) rfl)
theorem cC_init_43 : zCode 77 43 = some (.aload_n 0, 44, 0, 0, 0, 0, 1) := cAC_init_1 _ (List.mem_of_getElem? (i := 7) rfl)
theorem cC_init_44 : zCode 77 44 = some (.aconst_null, 45, 0, 0, 0, 0, 1) := cAC_init_1 _ (List.mem_of_getElem? (i := 8) rfl)
theorem cC_init_45 : zCode 77 45 = some (.putfield 32, 48, 8, 6, 2, 381, 1) := cAC_init_1 _ (List.mem_of_getElem? (i := 9) rfl)
theorem cC_init_48 : zCode 77 48 = some (.aload_n 0, 49, 0, 0, 0, 0, 1) := cAC_init_1 _ (List.mem_of_getElem? (i := 10) rfl)
theorem cC_init_49 : zCode 77 49 = some (.iconst 0, 50, 0, 0, 0, 0, 1) := cAC_init_1 _ (List.mem_of_getElem? (i := 11) rfl)
theorem cC_init_50 : zCode 77 50 = some (.putfield 35, 53, 8, 7, 0, 382, 1) := cAC_init_1 _ (List.mem_of_getElem? (i := 12) rfl)
theorem cC_init_53 : zCode 77 53 = some (.aload_n 0, 54, 0, 0, 0, 0, 1) := cAC_init_1 _ (List.mem_of_getElem? (i := 13) rfl)
theorem cC_init_54 : zCode 77 54 = some (.iconst 0, 55, 0, 0, 0, 0, 1) := cAC_init_1 _ (List.mem_of_getElem? (i := 14) rfl)
theorem cC_init_55 : zCode 77 55 = some (.putfield 38, 58, 8, 8, 0, 383, 1) := cAC_init_1 _ (List.mem_of_getElem? (i := 15) rfl)
theorem cC_init_58 : zCode 77 58 = some (.aload_n 0, 59, 0, 0, 0, 0, 1) := cAC_init_2 _ (List.mem_of_getElem? (i := 0) rfl)
theorem cC_init_59 : zCode 77 59 = some (.bipush 121, 61, 0, 0, 0, 0, 1) := cAC_init_2 _ (List.mem_of_getElem? (i := 1) rfl)
theorem cC_init_61 : zCode 77 61 = some (.newarray .int, 63, 20, 0, 0, 0, 1) := cAC_init_2 _ (List.mem_of_getElem? (i := 2) rfl)
theorem cC_init_63 : zCode 77 63 = some (.putfield 41, 66, 8, 9, 2, 384, 1) := cAC_init_2 _ (List.mem_of_getElem? (i := 3) rfl)
theorem cC_init_66 : zCode 77 66 = some (.aload_n 0, 67, 0, 0, 0, 0, 1) := cAC_init_2 _ (List.mem_of_getElem? (i := 4) rfl)
theorem cC_init_67 : zCode 77 67 = some (.bipush 121, 69, 0, 0, 0, 0, 1) := cAC_init_2 _ (List.mem_of_getElem? (i := 5) rfl)
theorem cC_init_69 : zCode 77 69 = some (.newarray .int, 71, 20, 0, 0, 0, 1) := cAC_init_2 _ (List.mem_of_getElem? (i := 6) rfl)
theorem cC_init_71 : zCode 77 71 = some (.putfield 44, 74, 8, 10, 2, 385, 1) := cAC_init_2 _ (List.mem_of_getElem? (i := 7) rfl)
theorem cC_init_74 : zCode 77 74 = some (.aload_n 0, 75, 0, 0, 0, 0, 1) := cAC_init_2 _ (List.mem_of_getElem? (i := 8) rfl)
theorem cC_init_75 : zCode 77 75 = some (.bipush 121, 77, 0, 0, 0, 0, 1) := cAC_init_2 _ (List.mem_of_getElem? (i := 9) rfl)
theorem cC_init_77 : zCode 77 77 = some (.newarray .int, 79, 20, 0, 0, 0, 1) := cAC_init_2 _ (List.mem_of_getElem? (i := 10) rfl)
theorem cC_init_79 : zCode 77 79 = some (.putfield 47, 82, 8, 11, 2, 386, 1) := cAC_init_2 _ (List.mem_of_getElem? (i := 11) rfl)
theorem cC_init_82 : zCode 77 82 = some (.aload_n 0, 83, 0, 0, 0, 0, 1) := cAC_init_2 _ (List.mem_of_getElem? (i := 12) rfl)
theorem cC_init_83 : zCode 77 83 = some (.iconst 0, 84, 0, 0, 0, 0, 1) := cAC_init_2 _ (List.mem_of_getElem? (i := 13) rfl)
theorem cC_init_84 : zCode 77 84 = some (.putfield 50, 87, 8, 12, 0, 387, 1) := cAC_init_2 _ (List.mem_of_getElem? (i := 14) rfl)
theorem cC_init_87 : zCode 77 87 = some (.aload_n 0, 88, 0, 0, 0, 0, 1) := cAC_init_2 _ (List.mem_of_getElem? (i := 15) rfl)
theorem cC_init_88 : zCode 77 88 = some (.iconst 0, 89, 0, 0, 0, 0, 0) := cAC_init_3 _ (List.mem_of_getElem? (i := 0) rfl)
theorem cC_init_89 : zCode 77 89 = some (.putfield 53, 92, 8, 13, 0, 388, 0) := cAC_init_3 _ (List.mem_of_getElem? (i := 1) rfl)
theorem cC_init_92 : zCode 77 92 = some (.return_, 93, 0, 0, 0, 0, 0) := cAC_init_3 _ (List.mem_of_getElem? (i := 2) rfl)
theorem rC_init_0 {a0 : Nat} : zS 77 0 [zR a0] [] sh pp mm Q ↔ zS 77 1 [zR a0] [zR a0] sh pp mm Q := s_go cC_init_0 cC_init_1 rfl rfl
theorem rC_init_1 {a0 s0 : Nat} (hr : s0 ≠ 0) (hl : s0 < sh.length) : zS 77 1 [zR a0] [zR s0] sh pp mm Q ↔ zS 77 4 [zR a0] [] sh pp mm Q := s_go cC_init_1 cC_init_4 (if_pos ⟨hr, hl, by decide⟩) rfl
theorem rC_init_4 {a0 : Nat} : zS 77 4 [zR a0] [] sh pp mm Q ↔ zS 77 5 [zR a0] [zR a0] sh pp mm Q := s_go cC_init_4 cC_init_5 rfl rfl
theorem rC_init_5 {a0 s0 : Nat} : zS 77 5 [zR a0] [zR s0] sh pp mm Q ↔ zS 77 7 [zR a0] [zI 30, zR s0] sh pp mm Q := s_go cC_init_5 cC_init_7 rfl rfl
theorem rC_init_7 {a0 s1 : Nat} {s0 : Int} (h0 : 0 ≤ s0) (h1 : s0 ≤ 100000) : zS 77 7 [zR a0] [zI s0, zR s1] sh pp mm Q ↔ zS 77 9 [zR a0] [zR sh.length, zR s1] (sh ++ [(20, s0.toNat)]) (zclp pp sh.length) (zclr mm sh.length) Q := s_go cC_init_7 cC_init_9 (if_pos ⟨h0, h1⟩) rfl
theorem rC_init_9 {a0 s0 s1 : Nat} (hk : zKd sh s1 = 8) : zS 77 9 [zR a0] [zR s0, zR s1] sh pp mm Q ↔ zS 77 12 [zR a0] [] sh (zupp pp s1 0 s0) mm Q := s_go cC_init_9 cC_init_12 (if_pos ⟨hk, rfl⟩) rfl
theorem rC_init_12 {a0 : Nat} : zS 77 12 [zR a0] [] sh pp mm Q ↔ zS 77 13 [zR a0] [zR a0] sh pp mm Q := s_go cC_init_12 cC_init_13 rfl rfl
theorem rC_init_13 {a0 s0 : Nat} : zS 77 13 [zR a0] [zR s0] sh pp mm Q ↔ zS 77 15 [zR a0] [zI 30, zR s0] sh pp mm Q := s_go cC_init_13 cC_init_15 rfl rfl
theorem rC_init_15 {a0 s1 : Nat} {s0 : Int} (h0 : 0 ≤ s0) (h1 : s0 ≤ 100000) : zS 77 15 [zR a0] [zI s0, zR s1] sh pp mm Q ↔ zS 77 17 [zR a0] [zR sh.length, zR s1] (sh ++ [(20, s0.toNat)]) (zclp pp sh.length) (zclr mm sh.length) Q := s_go cC_init_15 cC_init_17 (if_pos ⟨h0, h1⟩) rfl
theorem rC_init_17 {a0 s0 s1 : Nat} (hk : zKd sh s1 = 8) : zS 77 17 [zR a0] [zR s0, zR s1] sh pp mm Q ↔ zS 77 20 [zR a0] [] sh (zupp pp s1 1 s0) mm Q := s_go cC_init_17 cC_init_20 (if_pos ⟨hk, rfl⟩) rfl
theorem rC_init_20 {a0 : Nat} : zS 77 20 [zR a0] [] sh pp mm Q ↔ zS 77 21 [zR a0] [zR a0] sh pp mm Q := s_go cC_init_20 cC_init_21 rfl rfl
theorem rC_init_21 {a0 s0 : Nat} : zS 77 21 [zR a0] [zR s0] sh pp mm Q ↔ zS 77 23 [zR a0] [zI 30, zR s0] sh pp mm Q := s_go cC_init_21 cC_init_23 rfl rfl
theorem rC_init_23 {a0 s1 : Nat} {s0 : Int} (h0 : 0 ≤ s0) (h1 : s0 ≤ 100000) : zS 77 23 [zR a0] [zI s0, zR s1] sh pp mm Q ↔ zS 77 25 [zR a0] [zR sh.length, zR s1] (sh ++ [(20, s0.toNat)]) (zclp pp sh.length) (zclr mm sh.length) Q := s_go cC_init_23 cC_init_25 (if_pos ⟨h0, h1⟩) rfl
theorem rC_init_25 {a0 s0 s1 : Nat} (hk : zKd sh s1 = 8) : zS 77 25 [zR a0] [zR s0, zR s1] sh pp mm Q ↔ zS 77 28 [zR a0] [] sh (zupp pp s1 2 s0) mm Q := s_go cC_init_25 cC_init_28 (if_pos ⟨hk, rfl⟩) rfl
theorem rC_init_28 {a0 : Nat} : zS 77 28 [zR a0] [] sh pp mm Q ↔ zS 77 29 [zR a0] [zR a0] sh pp mm Q := s_go cC_init_28 cC_init_29 rfl rfl
theorem rC_init_29 {a0 s0 : Nat} : zS 77 29 [zR a0] [zR s0] sh pp mm Q ↔ zS 77 30 [zR a0] [zI 0, zR s0] sh pp mm Q := s_go cC_init_29 cC_init_30 rfl rfl
theorem rC_init_30 {a0 s1 : Nat} {s0 : Int} (hk : zKd sh s1 = 8) : zS 77 30 [zR a0] [zI s0, zR s1] sh pp mm Q ↔ zS 77 33 [zR a0] [] sh pp (zupd mm s1 3 s0) Q := s_go cC_init_30 cC_init_33 (if_pos ⟨hk, Or.inl rfl⟩) rfl
theorem rC_init_33 {a0 : Nat} : zS 77 33 [zR a0] [] sh pp mm Q ↔ zS 77 34 [zR a0] [zR a0] sh pp mm Q := s_go cC_init_33 cC_init_34 rfl rfl
theorem rC_init_34 {a0 s0 : Nat} : zS 77 34 [zR a0] [zR s0] sh pp mm Q ↔ zS 77 35 [zR a0] [zI (-1), zR s0] sh pp mm Q := s_go cC_init_34 cC_init_35 rfl rfl
theorem rC_init_35 {a0 s1 : Nat} {s0 : Int} (hk : zKd sh s1 = 8) : zS 77 35 [zR a0] [zI s0, zR s1] sh pp mm Q ↔ zS 77 38 [zR a0] [] sh pp (zupd mm s1 4 s0) Q := s_go cC_init_35 cC_init_38 (if_pos ⟨hk, Or.inl rfl⟩) rfl
theorem rC_init_38 {a0 : Nat} : zS 77 38 [zR a0] [] sh pp mm Q ↔ zS 77 39 [zR a0] [zR a0] sh pp mm Q := s_go cC_init_38 cC_init_39 rfl rfl
theorem rC_init_39 {a0 s0 : Nat} : zS 77 39 [zR a0] [zR s0] sh pp mm Q ↔ zS 77 40 [zR a0] [zI 0, zR s0] sh pp mm Q := s_go cC_init_39 cC_init_40 rfl rfl
theorem rC_init_40 {a0 s1 : Nat} {s0 : Int} (hk : zKd sh s1 = 8) (hb : s0 = 0 ∨ s0 = 1) : zS 77 40 [zR a0] [zI s0, zR s1] sh pp mm Q ↔ zS 77 43 [zR a0] [] sh pp (zupd mm s1 5 s0) Q := s_go cC_init_40 cC_init_43 (if_pos ⟨hk, Or.inr ⟨rfl, hb⟩⟩) rfl
theorem rC_init_43 {a0 : Nat} : zS 77 43 [zR a0] [] sh pp mm Q ↔ zS 77 44 [zR a0] [zR a0] sh pp mm Q := s_go cC_init_43 cC_init_44 rfl rfl
theorem rC_init_44 {a0 s0 : Nat} : zS 77 44 [zR a0] [zR s0] sh pp mm Q ↔ zS 77 45 [zR a0] [zR 0, zR s0] sh pp mm Q := s_go cC_init_44 cC_init_45 rfl rfl
theorem rC_init_45 {a0 s0 s1 : Nat} (hk : zKd sh s1 = 8) : zS 77 45 [zR a0] [zR s0, zR s1] sh pp mm Q ↔ zS 77 48 [zR a0] [] sh (zupp pp s1 6 s0) mm Q := s_go cC_init_45 cC_init_48 (if_pos ⟨hk, rfl⟩) rfl
theorem rC_init_48 {a0 : Nat} : zS 77 48 [zR a0] [] sh pp mm Q ↔ zS 77 49 [zR a0] [zR a0] sh pp mm Q := s_go cC_init_48 cC_init_49 rfl rfl
theorem rC_init_49 {a0 s0 : Nat} : zS 77 49 [zR a0] [zR s0] sh pp mm Q ↔ zS 77 50 [zR a0] [zI 0, zR s0] sh pp mm Q := s_go cC_init_49 cC_init_50 rfl rfl
theorem rC_init_50 {a0 s1 : Nat} {s0 : Int} (hk : zKd sh s1 = 8) : zS 77 50 [zR a0] [zI s0, zR s1] sh pp mm Q ↔ zS 77 53 [zR a0] [] sh pp (zupd mm s1 7 s0) Q := s_go cC_init_50 cC_init_53 (if_pos ⟨hk, Or.inl rfl⟩) rfl
theorem rC_init_53 {a0 : Nat} : zS 77 53 [zR a0] [] sh pp mm Q ↔ zS 77 54 [zR a0] [zR a0] sh pp mm Q := s_go cC_init_53 cC_init_54 rfl rfl
theorem rC_init_54 {a0 s0 : Nat} : zS 77 54 [zR a0] [zR s0] sh pp mm Q ↔ zS 77 55 [zR a0] [zI 0, zR s0] sh pp mm Q := s_go cC_init_54 cC_init_55 rfl rfl
theorem rC_init_55 {a0 s1 : Nat} {s0 : Int} (hk : zKd sh s1 = 8) : zS 77 55 [zR a0] [zI s0, zR s1] sh pp mm Q ↔ zS 77 58 [zR a0] [] sh pp (zupd mm s1 8 s0) Q := s_go cC_init_55 cC_init_58 (if_pos ⟨hk, Or.inl rfl⟩) rfl
theorem rC_init_58 {a0 : Nat} : zS 77 58 [zR a0] [] sh pp mm Q ↔ zS 77 59 [zR a0] [zR a0] sh pp mm Q := s_go cC_init_58 cC_init_59 rfl rfl
theorem rC_init_59 {a0 s0 : Nat} : zS 77 59 [zR a0] [zR s0] sh pp mm Q ↔ zS 77 61 [zR a0] [zI 121, zR s0] sh pp mm Q := s_go cC_init_59 cC_init_61 rfl rfl
theorem rC_init_61 {a0 s1 : Nat} {s0 : Int} (h0 : 0 ≤ s0) (h1 : s0 ≤ 100000) : zS 77 61 [zR a0] [zI s0, zR s1] sh pp mm Q ↔ zS 77 63 [zR a0] [zR sh.length, zR s1] (sh ++ [(20, s0.toNat)]) (zclp pp sh.length) (zclr mm sh.length) Q := s_go cC_init_61 cC_init_63 (if_pos ⟨h0, h1⟩) rfl
theorem rC_init_63 {a0 s0 s1 : Nat} (hk : zKd sh s1 = 8) : zS 77 63 [zR a0] [zR s0, zR s1] sh pp mm Q ↔ zS 77 66 [zR a0] [] sh (zupp pp s1 9 s0) mm Q := s_go cC_init_63 cC_init_66 (if_pos ⟨hk, rfl⟩) rfl
theorem rC_init_66 {a0 : Nat} : zS 77 66 [zR a0] [] sh pp mm Q ↔ zS 77 67 [zR a0] [zR a0] sh pp mm Q := s_go cC_init_66 cC_init_67 rfl rfl
theorem rC_init_67 {a0 s0 : Nat} : zS 77 67 [zR a0] [zR s0] sh pp mm Q ↔ zS 77 69 [zR a0] [zI 121, zR s0] sh pp mm Q := s_go cC_init_67 cC_init_69 rfl rfl
theorem rC_init_69 {a0 s1 : Nat} {s0 : Int} (h0 : 0 ≤ s0) (h1 : s0 ≤ 100000) : zS 77 69 [zR a0] [zI s0, zR s1] sh pp mm Q ↔ zS 77 71 [zR a0] [zR sh.length, zR s1] (sh ++ [(20, s0.toNat)]) (zclp pp sh.length) (zclr mm sh.length) Q := s_go cC_init_69 cC_init_71 (if_pos ⟨h0, h1⟩) rfl
theorem rC_init_71 {a0 s0 s1 : Nat} (hk : zKd sh s1 = 8) : zS 77 71 [zR a0] [zR s0, zR s1] sh pp mm Q ↔ zS 77 74 [zR a0] [] sh (zupp pp s1 10 s0) mm Q := s_go cC_init_71 cC_init_74 (if_pos ⟨hk, rfl⟩) rfl
theorem rC_init_74 {a0 : Nat} : zS 77 74 [zR a0] [] sh pp mm Q ↔ zS 77 75 [zR a0] [zR a0] sh pp mm Q := s_go cC_init_74 cC_init_75 rfl rfl
theorem rC_init_75 {a0 s0 : Nat} : zS 77 75 [zR a0] [zR s0] sh pp mm Q ↔ zS 77 77 [zR a0] [zI 121, zR s0] sh pp mm Q := s_go cC_init_75 cC_init_77 rfl rfl
theorem rC_init_77 {a0 s1 : Nat} {s0 : Int} (h0 : 0 ≤ s0) (h1 : s0 ≤ 100000) : zS 77 77 [zR a0] [zI s0, zR s1] sh pp mm Q ↔ zS 77 79 [zR a0] [zR sh.length, zR s1] (sh ++ [(20, s0.toNat)]) (zclp pp sh.length) (zclr mm sh.length) Q := s_go cC_init_77 cC_init_79 (if_pos ⟨h0, h1⟩) rfl
theorem rC_init_79 {a0 s0 s1 : Nat} (hk : zKd sh s1 = 8) : zS 77 79 [zR a0] [zR s0, zR s1] sh pp mm Q ↔ zS 77 82 [zR a0] [] sh (zupp pp s1 11 s0) mm Q := s_go cC_init_79 cC_init_82 (if_pos ⟨hk, rfl⟩) rfl
theorem rC_init_82 {a0 : Nat} : zS 77 82 [zR a0] [] sh pp mm Q ↔ zS 77 83 [zR a0] [zR a0] sh pp mm Q := s_go cC_init_82 cC_init_83 rfl rfl
theorem rC_init_83 {a0 s0 : Nat} : zS 77 83 [zR a0] [zR s0] sh pp mm Q ↔ zS 77 84 [zR a0] [zI 0, zR s0] sh pp mm Q := s_go cC_init_83 cC_init_84 rfl rfl
theorem rC_init_84 {a0 s1 : Nat} {s0 : Int} (hk : zKd sh s1 = 8) : zS 77 84 [zR a0] [zI s0, zR s1] sh pp mm Q ↔ zS 77 87 [zR a0] [] sh pp (zupd mm s1 12 s0) Q := s_go cC_init_84 cC_init_87 (if_pos ⟨hk, Or.inl rfl⟩) rfl
theorem rC_init_87 {a0 : Nat} : zS 77 87 [zR a0] [] sh pp mm Q ↔ zS 77 88 [zU] [zR a0] sh pp mm Q := s_go cC_init_87 cC_init_88 rfl rfl
theorem rC_init_88 {s0 : Nat} {u0 : zV} : zS 77 88 [u0] [zR s0] sh pp mm Q ↔ zS 77 89 [zU] [zI 0, zR s0] sh pp mm Q := s_go cC_init_88 cC_init_89 rfl rfl
theorem rC_init_89 {s1 : Nat} {s0 : Int} {u0 : zV} (hk : zKd sh s1 = 8) : zS 77 89 [u0] [zI s0, zR s1] sh pp mm Q ↔ zS 77 92 [zU] [] sh pp (zupd mm s1 13 s0) Q := s_go cC_init_89 cC_init_92 (if_pos ⟨hk, Or.inl rfl⟩) rfl
theorem rC_init_92 {u0 : zV} : zS 77 92 [u0] [] sh pp mm Q ↔ Q zU sh pp mm := s_ret cC_init_92 rfl
theorem cAC_read : ∀ q ∈ zT78, zCode 78 q.1 = some q.2 := zAll (mid := 78) rfl (by decide +kernel)
theorem cAC_read_0 : ∀ q ∈ zT78_0, zCode 78 q.1 = some q.2 := fun q h => cAC_read q (List.mem_append_left _ h)
theorem cAC_read_1 : ∀ q ∈ zT78_1, zCode 78 q.1 = some q.2 := fun q h => cAC_read q (List.mem_append_right _ (List.mem_append_left _ h))
theorem cAC_read_2 : ∀ q ∈ zT78_2, zCode 78 q.1 = some q.2 := fun q h => cAC_read q (List.mem_append_right _ (List.mem_append_right _ (List.mem_append_left _ h)))
theorem cAC_read_3 : ∀ q ∈ zT78_3, zCode 78 q.1 = some q.2 := fun q h => cAC_read q (List.mem_append_right _ (List.mem_append_right _ (List.mem_append_right _ (List.mem_append_left _ h))))
theorem cAC_read_4 : ∀ q ∈ zT78_4, zCode 78 q.1 = some q.2 := fun q h => cAC_read q (List.mem_append_right _ (List.mem_append_right _ (List.mem_append_right _ (List.mem_append_right _ h))))
theorem cC_read_0 : zCode 78 0 = some (.aload_n 0, 1, 0, 0, 0, 0, 3) := cAC_read_0 _ (List.mem_of_getElem? (i := 0) rfl)
theorem cC_read_1 : zCode 78 1 = some (.getfield 28, 4, 8, 5, 3, 379, 3) := cAC_read_0 _ (List.mem_of_getElem? (i := 1) rfl)
theorem cC_read_4 : zCode 78 4 = some (.ifCond .eq 4, 7, 8, 0, 0, 0, 3) := cAC_read_0 _ (List.mem_of_getElem? (i := 2) rfl)
theorem cC_read_7 : zCode 78 7 = some (.return_, 8, 0, 0, 0, 0, 0) := cAC_read_0 _ (List.mem_of_getElem? (i := 3) rfl)
theorem cC_read_8 : zCode 78 8 = some (.aload_n 0, 9, 0, 0, 0, 0, 3) := cAC_read_0 _ (List.mem_of_getElem? (i := 4) rfl)
theorem cC_read_9 : zCode 78 9 = some (.aload_n 1, 10, 0, 0, 0, 0, 3) := cAC_read_0 _ (List.mem_of_getElem? (i := 5) rfl)
theorem cC_read_10 : zCode 78 10 = some (.getfield 56, 13, 10, 2, 2, 140, 3) := cAC_read_0 _ (List.mem_of_getElem? (i := 6) rfl)
theorem cC_read_13 : zCode 78 13 = some (.putfield 32, 16, 8, 6, 2, 381, 3) := cAC_read_0 _ (List.mem_of_getElem? (i := 7) rfl)
theorem cC_read_16 : zCode 78 16 = some (.aload_n 0, 17, 0, 0, 0, 0, 3) := cAC_read_0 _ (List.mem_of_getElem? (i := 8) rfl)
theorem cC_read_17 : zCode 78 17 = some (.aload_n 1, 18, 0, 0, 0, 0, 3) := cAC_read_0 _ (List.mem_of_getElem? (i := 9) rfl)
theorem cC_read_18 : zCode 78 18 = some (.getfield 61, 21, 10, 3, 0, 142, 1) := cAC_read_0 _ (List.mem_of_getElem? (i := 10) rfl)
theorem cC_read_21 : zCode 78 21 = some (.bipush 120, 23, 0, 0, 0, 0, 1) := cAC_read_0 _ (List.mem_of_getElem? (i := 11) rfl)
theorem cC_read_23 : zCode 78 23 = some (.invokestatic 64, 26, 260, 2, 2, 15, 1) := cAC_read_0 _ (List.mem_of_getElem? (i := 12) rfl)
theorem cC_read_26 : zCode 78 26 = some (.putfield 35, 29, 8, 7, 0, 382, 1) := cAC_read_0 _ (List.mem_of_getElem? (i := 13) rfl)
theorem cC_read_29 : zCode 78 29 = some (.aload_n 0, 30, 0, 0, 0, 0, 1) := cAC_read_0 _ (List.mem_of_getElem? (i := 14) rfl)
theorem cC_read_30 : zCode 78 30 = some (.iconst 0, 31, 0, 0, 0, 0, 1) := cAC_read_0 _ (List.mem_of_getElem? (i := 15) rfl)
theorem cC_read_31 : zCode 78 31 = some (.putfield 38, 34, 8, 8, 0, 383, 1) := cAC_read_1 _ (List.mem_of_getElem? (i := 0) rfl)
theorem cC_read_34 : zCode 78 34 = some (.iconst 0, 35, 0, 0, 0, 0, 1) := cAC_read_1 _ (List.mem_of_getElem? (i := 1) rfl)
theorem cC_read_35 : zCode 78 35 = some (.istore_n 2, 36, 0, 0, 0, 0, 1) := cAC_read_1 _ (List.mem_of_getElem? (i := 2) rfl)
theorem cC_read_36 : zCode 78 36 = some (.iload_n 2, 37, 0, 0, 0, 0, 5) := cAC_read_1 _ (List.mem_of_getElem? (i := 3) rfl)
theorem cC_read_37 : zCode 78 37 = some (.aload_n 0, 38, 0, 0, 0, 0, 5) := cAC_read_1 _ (List.mem_of_getElem? (i := 4) rfl)
theorem cC_read_38 : zCode 78 38 = some (.getfield 35, 41, 8, 7, 0, 382, 5) := cAC_read_1 _ (List.mem_of_getElem? (i := 5) rfl)
theorem cC_read_41 : zCode 78 41 = some (.if_icmp .gt 29, 44, 70, 0, 0, 0, 5) := cAC_read_1 _ (List.mem_of_getElem? (i := 6) rfl)
theorem cC_read_44 : zCode 78 44 = some (.iload_n 2, 45, 0, 0, 0, 0, 5) := cAC_read_1 _ (List.mem_of_getElem? (i := 7) rfl)
theorem cC_read_45 : zCode 78 45 = some (.ifCond .eq 14, 48, 59, 0, 0, 0, 5) := cAC_read_1 _ (List.mem_of_getElem? (i := 8) rfl)
theorem cC_read_48 : zCode 78 48 = some (.aload_n 0, 49, 0, 0, 0, 0, 5) := cAC_read_1 _ (List.mem_of_getElem? (i := 9) rfl)
theorem cC_read_49 : zCode 78 49 = some (.getfield 41, 52, 8, 9, 2, 384, 5) := cAC_read_1 _ (List.mem_of_getElem? (i := 10) rfl)
theorem cC_read_52 : zCode 78 52 = some (.iload_n 2, 53, 0, 0, 0, 0, 5) := cAC_read_1 _ (List.mem_of_getElem? (i := 11) rfl)
theorem cC_read_53 : zCode 78 53 = some (.iconst 1, 54, 0, 0, 0, 0, 5) := cAC_read_1 _ (List.mem_of_getElem? (i := 12) rfl)
theorem cC_read_54 : zCode 78 54 = some (.isub, 55, 0, 0, 0, 0, 5) := cAC_read_1 _ (List.mem_of_getElem? (i := 13) rfl)
theorem cC_read_55 : zCode 78 55 = some (.iaload, 56, 0, 0, 0, 0, 5) := cAC_read_1 _ (List.mem_of_getElem? (i := 14) rfl)
theorem cC_read_56 : zCode 78 56 = some (.ifCond .eq 14, 59, 70, 0, 0, 0, 5) := cAC_read_1 _ (List.mem_of_getElem? (i := 15) rfl)
theorem cC_read_59 : zCode 78 59 = some (.aload_n 0, 60, 0, 0, 0, 0, 5) := cAC_read_2 _ (List.mem_of_getElem? (i := 0) rfl)
theorem cC_read_60 : zCode 78 60 = some (.iload_n 2, 61, 0, 0, 0, 0, 5) := cAC_read_2 _ (List.mem_of_getElem? (i := 1) rfl)
theorem cC_read_61 : zCode 78 61 = some (.invokevirtual 70, 64, 79, 1, 3, 8, 5) := cAC_read_2 _ (List.mem_of_getElem? (i := 2) rfl)
theorem cC_read_64 : zCode 78 64 = some (.iinc 2 1, 67, 0, 0, 0, 0, 5) := cAC_read_2 _ (List.mem_of_getElem? (i := 3) rfl)
theorem cC_read_67 : zCode 78 67 = some (.goto (-31), 70, 36, 0, 0, 0, 5) := cAC_read_2 _ (List.mem_of_getElem? (i := 4) rfl)
theorem cC_read_70 : zCode 78 70 = some (.aload_n 0, 71, 0, 0, 0, 0, 1) := cAC_read_2 _ (List.mem_of_getElem? (i := 5) rfl)
theorem cC_read_71 : zCode 78 71 = some (.iconst 0, 72, 0, 0, 0, 0, 1) := cAC_read_2 _ (List.mem_of_getElem? (i := 6) rfl)
theorem cC_read_72 : zCode 78 72 = some (.putfield 21, 75, 8, 3, 0, 375, 1) := cAC_read_2 _ (List.mem_of_getElem? (i := 7) rfl)
theorem cC_read_75 : zCode 78 75 = some (.aload_n 0, 76, 0, 0, 0, 0, 1) := cAC_read_2 _ (List.mem_of_getElem? (i := 8) rfl)
theorem cC_read_76 : zCode 78 76 = some (.iconst 0, 77, 0, 0, 0, 0, 1) := cAC_read_2 _ (List.mem_of_getElem? (i := 9) rfl)
theorem cC_read_77 : zCode 78 77 = some (.putfield 50, 80, 8, 12, 0, 387, 1) := cAC_read_2 _ (List.mem_of_getElem? (i := 10) rfl)
theorem cC_read_80 : zCode 78 80 = some (.aload_n 0, 81, 0, 0, 0, 0, 1) := cAC_read_2 _ (List.mem_of_getElem? (i := 11) rfl)
theorem cC_read_81 : zCode 78 81 = some (.iconst 0, 82, 0, 0, 0, 0, 1) := cAC_read_2 _ (List.mem_of_getElem? (i := 12) rfl)
theorem cC_read_82 : zCode 78 82 = some (.putfield 53, 85, 8, 13, 0, 388, 1) := cAC_read_2 _ (List.mem_of_getElem? (i := 13) rfl)
theorem cC_read_85 : zCode 78 85 = some (.aload_n 0, 86, 0, 0, 0, 0, 1) := cAC_read_2 _ (List.mem_of_getElem? (i := 14) rfl)
theorem cC_read_86 : zCode 78 86 = some (.iconst (-1), 87, 0, 0, 0, 0, 1) := cAC_read_2 _ (List.mem_of_getElem? (i := 15) rfl)
theorem cC_read_87 : zCode 78 87 = some (.putfield 25, 90, 8, 4, 0, 377, 1) := cAC_read_3 _ (List.mem_of_getElem? (i := 0) rfl)
theorem cC_read_90 : zCode 78 90 = some (.iconst 1, 91, 0, 0, 0, 0, 1) := cAC_read_3 _ (List.mem_of_getElem? (i := 1) rfl)
theorem cC_read_91 : zCode 78 91 = some (.istore_n 2, 92, 0, 0, 0, 0, 1) := cAC_read_3 _ (List.mem_of_getElem? (i := 2) rfl)
theorem cC_read_92 : zCode 78 92 = some (.iconst 0, 93, 0, 0, 0, 0, 5) := cAC_read_3 _ (List.mem_of_getElem? (i := 3) rfl)
theorem cC_read_93 : zCode 78 93 = some (.istore_n 3, 94, 0, 0, 0, 0, 5) := cAC_read_3 _ (List.mem_of_getElem? (i := 4) rfl)
theorem cC_read_94 : zCode 78 94 = some (.iload_n 3, 95, 0, 0, 0, 0, 13) := cAC_read_3 _ (List.mem_of_getElem? (i := 5) rfl)
theorem cC_read_95 : zCode 78 95 = some (.bipush 30, 97, 0, 0, 0, 0, 13) := cAC_read_3 _ (List.mem_of_getElem? (i := 6) rfl)
theorem cC_read_97 : zCode 78 97 = some (.if_icmp .gt 18, 100, 115, 0, 0, 0, 13) := cAC_read_3 _ (List.mem_of_getElem? (i := 7) rfl)
theorem cC_read_100 : zCode 78 100 = some (.iload_n 2, 101, 0, 0, 0, 0, 13) := cAC_read_3 _ (List.mem_of_getElem? (i := 8) rfl)
theorem cC_read_101 : zCode 78 101 = some (.ifCond .eq 14, 104, 115, 0, 0, 0, 9) := cAC_read_3 _ (List.mem_of_getElem? (i := 9) rfl)
theorem cC_read_104 : zCode 78 104 = some (.aload_n 0, 105, 0, 0, 0, 0, 9) := cAC_read_3 _ (List.mem_of_getElem? (i := 10) rfl)
theorem cC_read_105 : zCode 78 105 = some (.invokevirtual 74, 108, 85, 0, 4, 8, 9) := cAC_read_3 _ (List.mem_of_getElem? (i := 11) rfl)
theorem cC_read_108 : zCode 78 108 = some (.istore_n 2, 109, 0, 0, 0, 0, 9) := cAC_read_3 _ (List.mem_of_getElem? (i := 12) rfl)
theorem cC_read_109 : zCode 78 109 = some (.iinc 3 1, 112, 0, 0, 0, 0, 13) := cAC_read_3 _ (List.mem_of_getElem? (i := 13) rfl)
theorem cC_read_112 : zCode 78 112 = some (.goto (-18), 115, 94, 0, 0, 0, 13) := cAC_read_3 _ (List.mem_of_getElem? (i := 14) rfl)
theorem cC_read_115 : zCode 78 115 = some (.aload_n 0, 116, 0, 0, 0, 0, 1) := cAC_read_3 _ (List.mem_of_getElem? (i := 15) rfl)
theorem cC_read_116 : zCode 78 116 = some (.iconst 1, 117, 0, 0, 0, 0, 0) := cAC_read_4 _ (List.mem_of_getElem? (i := 0) rfl)
theorem cC_read_117 : zCode 78 117 = some (.putfield 28, 120, 8, 5, 3, 379, 0) := cAC_read_4 _ (List.mem_of_getElem? (i := 1) rfl)
theorem cC_read_120 : zCode 78 120 = some (.return_, 121, 0, 0, 0, 0, 0) := cAC_read_4 _ (List.mem_of_getElem? (i := 2) rfl)
theorem rC_read_0 {a0 a1 : Nat} {u2 u3 : zV} : zS 78 0 [zR a0, zR a1, u2, u3] [] sh pp mm Q ↔ zS 78 1 [zR a0, zR a1, zU, zU] [zR a0] sh pp mm Q := s_go cC_read_0 cC_read_1 rfl rfl
theorem rC_read_1 {a0 a1 s0 : Nat} {u2 u3 : zV} (hk : zKd sh s0 = 8) : zS 78 1 [zR a0, zR a1, u2, u3] [zR s0] sh pp mm Q ↔ zS 78 4 [zR a0, zR a1, zU, zU] [zI (mm s0 5)] sh pp mm Q := s_go cC_read_1 cC_read_4 (if_pos hk) rfl
theorem rC_read_4 {a0 a1 : Nat} {s0 : Int} {u2 u3 : zV} : zS 78 4 [zR a0, zR a1, u2, u3] [zI s0] sh pp mm Q ↔ (s0 = 0 → zS 78 8 [zR a0, zR a1, zU, zU] [] sh pp mm Q) ∧ (¬ s0 = 0 → zS 78 7 [zU, zU, zU, zU] [] sh pp mm Q) := s_if cC_read_4 cC_read_8 cC_read_7 rfl rfl rfl
theorem rC_read_7 {u0 u1 u2 u3 : zV} : zS 78 7 [u0, u1, u2, u3] [] sh pp mm Q ↔ Q zU sh pp mm := s_ret cC_read_7 rfl
theorem rC_read_8 {a0 a1 : Nat} {u2 u3 : zV} : zS 78 8 [zR a0, zR a1, u2, u3] [] sh pp mm Q ↔ zS 78 9 [zR a0, zR a1, zU, zU] [zR a0] sh pp mm Q := s_go cC_read_8 cC_read_9 rfl rfl
theorem rC_read_9 {a0 a1 s0 : Nat} {u2 u3 : zV} : zS 78 9 [zR a0, zR a1, u2, u3] [zR s0] sh pp mm Q ↔ zS 78 10 [zR a0, zR a1, zU, zU] [zR a1, zR s0] sh pp mm Q := s_go cC_read_9 cC_read_10 rfl rfl
theorem rC_read_10 {a0 a1 s0 s1 : Nat} {u2 u3 : zV} (hk : zKd sh s0 = 10) : zS 78 10 [zR a0, zR a1, u2, u3] [zR s0, zR s1] sh pp mm Q ↔ zS 78 13 [zR a0, zR a1, zU, zU] [zR (pp s0 2), zR s1] sh pp mm Q := s_go cC_read_10 cC_read_13 (if_pos hk) rfl
theorem rC_read_13 {a0 a1 s0 s1 : Nat} {u2 u3 : zV} (hk : zKd sh s1 = 8) : zS 78 13 [zR a0, zR a1, u2, u3] [zR s0, zR s1] sh pp mm Q ↔ zS 78 16 [zR a0, zR a1, zU, zU] [] sh (zupp pp s1 6 s0) mm Q := s_go cC_read_13 cC_read_16 (if_pos ⟨hk, rfl⟩) rfl
theorem rC_read_16 {a0 a1 : Nat} {u2 u3 : zV} : zS 78 16 [zR a0, zR a1, u2, u3] [] sh pp mm Q ↔ zS 78 17 [zR a0, zR a1, zU, zU] [zR a0] sh pp mm Q := s_go cC_read_16 cC_read_17 rfl rfl
theorem rC_read_17 {a0 a1 s0 : Nat} {u2 u3 : zV} : zS 78 17 [zR a0, zR a1, u2, u3] [zR s0] sh pp mm Q ↔ zS 78 18 [zR a0, zU, zU, zU] [zR a1, zR s0] sh pp mm Q := s_go cC_read_17 cC_read_18 rfl rfl
theorem rC_read_18 {a0 s0 s1 : Nat} {u1 u2 u3 : zV} (hk : zKd sh s0 = 10) : zS 78 18 [zR a0, u1, u2, u3] [zR s0, zR s1] sh pp mm Q ↔ zS 78 21 [zR a0, zU, zU, zU] [zI (mm s0 3), zR s1] sh pp mm Q := s_go cC_read_18 cC_read_21 (if_pos hk) rfl
theorem rC_read_21 {a0 s1 : Nat} {s0 : Int} {u1 u2 u3 : zV} : zS 78 21 [zR a0, u1, u2, u3] [zI s0, zR s1] sh pp mm Q ↔ zS 78 23 [zR a0, zU, zU, zU] [zI 120, zI s0, zR s1] sh pp mm Q := s_go cC_read_21 cC_read_23 rfl rfl
theorem rC_read_23 {a0 s2 : Nat} {s0 s1 : Int} {u1 u2 u3 : zV} : zS 78 23 [zR a0, u1, u2, u3] [zI s0, zI s1, zR s2] sh pp mm Q ↔ zS 260 0 [zI s1, zI s0] [] sh pp mm (fun v sh pp mm => zS 78 26 [zR a0, zU, zU, zU] (zPush v [zR s2]) sh pp mm Q) := s_call cC_read_23 cC_read_26 rfl rfl
theorem rC_read_26 {a0 s1 : Nat} {s0 : Int} {u1 u2 u3 : zV} (hk : zKd sh s1 = 8) : zS 78 26 [zR a0, u1, u2, u3] [zI s0, zR s1] sh pp mm Q ↔ zS 78 29 [zR a0, zU, zU, zU] [] sh pp (zupd mm s1 7 s0) Q := s_go cC_read_26 cC_read_29 (if_pos ⟨hk, Or.inl rfl⟩) rfl
theorem rC_read_29 {a0 : Nat} {u1 u2 u3 : zV} : zS 78 29 [zR a0, u1, u2, u3] [] sh pp mm Q ↔ zS 78 30 [zR a0, zU, zU, zU] [zR a0] sh pp mm Q := s_go cC_read_29 cC_read_30 rfl rfl
theorem rC_read_30 {a0 s0 : Nat} {u1 u2 u3 : zV} : zS 78 30 [zR a0, u1, u2, u3] [zR s0] sh pp mm Q ↔ zS 78 31 [zR a0, zU, zU, zU] [zI 0, zR s0] sh pp mm Q := s_go cC_read_30 cC_read_31 rfl rfl
theorem rC_read_31 {a0 s1 : Nat} {s0 : Int} {u1 u2 u3 : zV} (hk : zKd sh s1 = 8) : zS 78 31 [zR a0, u1, u2, u3] [zI s0, zR s1] sh pp mm Q ↔ zS 78 34 [zR a0, zU, zU, zU] [] sh pp (zupd mm s1 8 s0) Q := s_go cC_read_31 cC_read_34 (if_pos ⟨hk, Or.inl rfl⟩) rfl
theorem rC_read_34 {a0 : Nat} {u1 u2 u3 : zV} : zS 78 34 [zR a0, u1, u2, u3] [] sh pp mm Q ↔ zS 78 35 [zR a0, zU, zU, zU] [zI 0] sh pp mm Q := s_go cC_read_34 cC_read_35 rfl rfl
theorem rC_read_35 {a0 : Nat} {s0 : Int} {u1 u2 u3 : zV} : zS 78 35 [zR a0, u1, u2, u3] [zI s0] sh pp mm Q ↔ zS 78 36 [zR a0, zU, zI s0, zU] [] sh pp mm Q := s_go cC_read_35 cC_read_36 rfl rfl
theorem rC_read_36 {a0 : Nat} {a2 : Int} {u1 u3 : zV} : zS 78 36 [zR a0, u1, zI a2, u3] [] sh pp mm Q ↔ zS 78 37 [zR a0, zU, zI a2, zU] [zI a2] sh pp mm Q := s_go cC_read_36 cC_read_37 rfl rfl
theorem rC_read_37 {a0 : Nat} {a2 s0 : Int} {u1 u3 : zV} : zS 78 37 [zR a0, u1, zI a2, u3] [zI s0] sh pp mm Q ↔ zS 78 38 [zR a0, zU, zI a2, zU] [zR a0, zI s0] sh pp mm Q := s_go cC_read_37 cC_read_38 rfl rfl
theorem rC_read_38 {a0 s0 : Nat} {a2 s1 : Int} {u1 u3 : zV} (hk : zKd sh s0 = 8) : zS 78 38 [zR a0, u1, zI a2, u3] [zR s0, zI s1] sh pp mm Q ↔ zS 78 41 [zR a0, zU, zI a2, zU] [zI (mm s0 7), zI s1] sh pp mm Q := s_go cC_read_38 cC_read_41 (if_pos hk) rfl
theorem rC_read_41 {a0 : Nat} {a2 s0 s1 : Int} {u1 u3 : zV} : zS 78 41 [zR a0, u1, zI a2, u3] [zI s0, zI s1] sh pp mm Q ↔ (s0 < s1 → zS 78 70 [zR a0, zU, zU, zU] [] sh pp mm Q) ∧ (¬ s0 < s1 → zS 78 44 [zR a0, zU, zI a2, zU] [] sh pp mm Q) := s_if cC_read_41 cC_read_70 cC_read_44 rfl rfl rfl
theorem rC_read_44 {a0 : Nat} {a2 : Int} {u1 u3 : zV} : zS 78 44 [zR a0, u1, zI a2, u3] [] sh pp mm Q ↔ zS 78 45 [zR a0, zU, zI a2, zU] [zI a2] sh pp mm Q := s_go cC_read_44 cC_read_45 rfl rfl
theorem rC_read_45 {a0 : Nat} {a2 s0 : Int} {u1 u3 : zV} : zS 78 45 [zR a0, u1, zI a2, u3] [zI s0] sh pp mm Q ↔ (s0 = 0 → zS 78 59 [zR a0, zU, zI a2, zU] [] sh pp mm Q) ∧ (¬ s0 = 0 → zS 78 48 [zR a0, zU, zI a2, zU] [] sh pp mm Q) := s_if cC_read_45 cC_read_59 cC_read_48 rfl rfl rfl
theorem rC_read_48 {a0 : Nat} {a2 : Int} {u1 u3 : zV} : zS 78 48 [zR a0, u1, zI a2, u3] [] sh pp mm Q ↔ zS 78 49 [zR a0, zU, zI a2, zU] [zR a0] sh pp mm Q := s_go cC_read_48 cC_read_49 rfl rfl
theorem rC_read_49 {a0 s0 : Nat} {a2 : Int} {u1 u3 : zV} (hk : zKd sh s0 = 8) : zS 78 49 [zR a0, u1, zI a2, u3] [zR s0] sh pp mm Q ↔ zS 78 52 [zR a0, zU, zI a2, zU] [zR (pp s0 9)] sh pp mm Q := s_go cC_read_49 cC_read_52 (if_pos hk) rfl
theorem rC_read_52 {a0 s0 : Nat} {a2 : Int} {u1 u3 : zV} : zS 78 52 [zR a0, u1, zI a2, u3] [zR s0] sh pp mm Q ↔ zS 78 53 [zR a0, zU, zI a2, zU] [zI a2, zR s0] sh pp mm Q := s_go cC_read_52 cC_read_53 rfl rfl
theorem rC_read_53 {a0 s1 : Nat} {a2 s0 : Int} {u1 u3 : zV} : zS 78 53 [zR a0, u1, zI a2, u3] [zI s0, zR s1] sh pp mm Q ↔ zS 78 54 [zR a0, zU, zI a2, zU] [zI 1, zI s0, zR s1] sh pp mm Q := s_go cC_read_53 cC_read_54 rfl rfl
theorem rC_read_54 {a0 s2 : Nat} {a2 s0 s1 : Int} {u1 u3 : zV} : zS 78 54 [zR a0, u1, zI a2, u3] [zI s0, zI s1, zR s2] sh pp mm Q ↔ zS 78 55 [zR a0, zU, zI a2, zU] [zI (zw32 (s1 - s0)), zR s2] sh pp mm Q := s_go cC_read_54 cC_read_55 rfl rfl
theorem rC_read_55 {a0 s1 : Nat} {a2 s0 : Int} {u1 u3 : zV} (hk : zKd sh s1 = 20 ∨ zKd sh s1 = 30) (h0 : 0 ≤ s0) (h1 : s0 < zLn sh s1) : zS 78 55 [zR a0, u1, zI a2, u3] [zI s0, zR s1] sh pp mm Q ↔ zS 78 56 [zR a0, zU, zI a2, zU] [zI (mm s1 s0)] sh pp mm Q := s_go cC_read_55 cC_read_56 (if_pos ⟨hk, h0, h1⟩) rfl
theorem rC_read_56 {a0 : Nat} {a2 s0 : Int} {u1 u3 : zV} : zS 78 56 [zR a0, u1, zI a2, u3] [zI s0] sh pp mm Q ↔ (s0 = 0 → zS 78 70 [zR a0, zU, zU, zU] [] sh pp mm Q) ∧ (¬ s0 = 0 → zS 78 59 [zR a0, zU, zI a2, zU] [] sh pp mm Q) := s_if cC_read_56 cC_read_70 cC_read_59 rfl rfl rfl
theorem rC_read_59 {a0 : Nat} {a2 : Int} {u1 u3 : zV} : zS 78 59 [zR a0, u1, zI a2, u3] [] sh pp mm Q ↔ zS 78 60 [zR a0, zU, zI a2, zU] [zR a0] sh pp mm Q := s_go cC_read_59 cC_read_60 rfl rfl
theorem rC_read_60 {a0 s0 : Nat} {a2 : Int} {u1 u3 : zV} : zS 78 60 [zR a0, u1, zI a2, u3] [zR s0] sh pp mm Q ↔ zS 78 61 [zR a0, zU, zI a2, zU] [zI a2, zR s0] sh pp mm Q := s_go cC_read_60 cC_read_61 rfl rfl
theorem rC_read_61 {a0 s1 : Nat} {a2 s0 : Int} {u1 u3 : zV} (hk : zKd sh s1 = 8) : zS 78 61 [zR a0, u1, zI a2, u3] [zI s0, zR s1] sh pp mm Q ↔ zS 79 0 [zR s1, zI s0, zU] [] sh pp mm (fun v sh pp mm => zS 78 64 [zR a0, zU, zI a2, zU] (zPush v []) sh pp mm Q) := s_call cC_read_61 cC_read_64 ((if_pos hk).trans rfl) rfl
theorem rC_read_64 {a0 : Nat} {a2 : Int} {u1 u3 : zV} : zS 78 64 [zR a0, u1, zI a2, u3] [] sh pp mm Q ↔ zS 78 67 [zR a0, zU, zI (zw32 (a2 + 1)), zU] [] sh pp mm Q := s_go cC_read_64 cC_read_67 rfl rfl
theorem rC_read_67 {a0 : Nat} {a2 : Int} {u1 u3 : zV} : zS 78 67 [zR a0, u1, zI a2, u3] [] sh pp mm Q ↔ zS 78 36 [zR a0, zU, zI a2, zU] [] sh pp mm Q := s_go cC_read_67 cC_read_36 rfl rfl
theorem rC_read_70 {a0 : Nat} {u1 u2 u3 : zV} : zS 78 70 [zR a0, u1, u2, u3] [] sh pp mm Q ↔ zS 78 71 [zR a0, zU, zU, zU] [zR a0] sh pp mm Q := s_go cC_read_70 cC_read_71 rfl rfl
theorem rC_read_71 {a0 s0 : Nat} {u1 u2 u3 : zV} : zS 78 71 [zR a0, u1, u2, u3] [zR s0] sh pp mm Q ↔ zS 78 72 [zR a0, zU, zU, zU] [zI 0, zR s0] sh pp mm Q := s_go cC_read_71 cC_read_72 rfl rfl
theorem rC_read_72 {a0 s1 : Nat} {s0 : Int} {u1 u2 u3 : zV} (hk : zKd sh s1 = 8) : zS 78 72 [zR a0, u1, u2, u3] [zI s0, zR s1] sh pp mm Q ↔ zS 78 75 [zR a0, zU, zU, zU] [] sh pp (zupd mm s1 3 s0) Q := s_go cC_read_72 cC_read_75 (if_pos ⟨hk, Or.inl rfl⟩) rfl
theorem rC_read_75 {a0 : Nat} {u1 u2 u3 : zV} : zS 78 75 [zR a0, u1, u2, u3] [] sh pp mm Q ↔ zS 78 76 [zR a0, zU, zU, zU] [zR a0] sh pp mm Q := s_go cC_read_75 cC_read_76 rfl rfl
theorem rC_read_76 {a0 s0 : Nat} {u1 u2 u3 : zV} : zS 78 76 [zR a0, u1, u2, u3] [zR s0] sh pp mm Q ↔ zS 78 77 [zR a0, zU, zU, zU] [zI 0, zR s0] sh pp mm Q := s_go cC_read_76 cC_read_77 rfl rfl
theorem rC_read_77 {a0 s1 : Nat} {s0 : Int} {u1 u2 u3 : zV} (hk : zKd sh s1 = 8) : zS 78 77 [zR a0, u1, u2, u3] [zI s0, zR s1] sh pp mm Q ↔ zS 78 80 [zR a0, zU, zU, zU] [] sh pp (zupd mm s1 12 s0) Q := s_go cC_read_77 cC_read_80 (if_pos ⟨hk, Or.inl rfl⟩) rfl
theorem rC_read_80 {a0 : Nat} {u1 u2 u3 : zV} : zS 78 80 [zR a0, u1, u2, u3] [] sh pp mm Q ↔ zS 78 81 [zR a0, zU, zU, zU] [zR a0] sh pp mm Q := s_go cC_read_80 cC_read_81 rfl rfl
theorem rC_read_81 {a0 s0 : Nat} {u1 u2 u3 : zV} : zS 78 81 [zR a0, u1, u2, u3] [zR s0] sh pp mm Q ↔ zS 78 82 [zR a0, zU, zU, zU] [zI 0, zR s0] sh pp mm Q := s_go cC_read_81 cC_read_82 rfl rfl
theorem rC_read_82 {a0 s1 : Nat} {s0 : Int} {u1 u2 u3 : zV} (hk : zKd sh s1 = 8) : zS 78 82 [zR a0, u1, u2, u3] [zI s0, zR s1] sh pp mm Q ↔ zS 78 85 [zR a0, zU, zU, zU] [] sh pp (zupd mm s1 13 s0) Q := s_go cC_read_82 cC_read_85 (if_pos ⟨hk, Or.inl rfl⟩) rfl
theorem rC_read_85 {a0 : Nat} {u1 u2 u3 : zV} : zS 78 85 [zR a0, u1, u2, u3] [] sh pp mm Q ↔ zS 78 86 [zR a0, zU, zU, zU] [zR a0] sh pp mm Q := s_go cC_read_85 cC_read_86 rfl rfl
theorem rC_read_86 {a0 s0 : Nat} {u1 u2 u3 : zV} : zS 78 86 [zR a0, u1, u2, u3] [zR s0] sh pp mm Q ↔ zS 78 87 [zR a0, zU, zU, zU] [zI (-1), zR s0] sh pp mm Q := s_go cC_read_86 cC_read_87 rfl rfl
theorem rC_read_87 {a0 s1 : Nat} {s0 : Int} {u1 u2 u3 : zV} (hk : zKd sh s1 = 8) : zS 78 87 [zR a0, u1, u2, u3] [zI s0, zR s1] sh pp mm Q ↔ zS 78 90 [zR a0, zU, zU, zU] [] sh pp (zupd mm s1 4 s0) Q := s_go cC_read_87 cC_read_90 (if_pos ⟨hk, Or.inl rfl⟩) rfl
theorem rC_read_90 {a0 : Nat} {u1 u2 u3 : zV} : zS 78 90 [zR a0, u1, u2, u3] [] sh pp mm Q ↔ zS 78 91 [zR a0, zU, zU, zU] [zI 1] sh pp mm Q := s_go cC_read_90 cC_read_91 rfl rfl
theorem rC_read_91 {a0 : Nat} {s0 : Int} {u1 u2 u3 : zV} : zS 78 91 [zR a0, u1, u2, u3] [zI s0] sh pp mm Q ↔ zS 78 92 [zR a0, zU, zI s0, zU] [] sh pp mm Q := s_go cC_read_91 cC_read_92 rfl rfl
theorem rC_read_92 {a0 : Nat} {a2 : Int} {u1 u3 : zV} : zS 78 92 [zR a0, u1, zI a2, u3] [] sh pp mm Q ↔ zS 78 93 [zR a0, zU, zI a2, zU] [zI 0] sh pp mm Q := s_go cC_read_92 cC_read_93 rfl rfl
theorem rC_read_93 {a0 : Nat} {a2 s0 : Int} {u1 u3 : zV} : zS 78 93 [zR a0, u1, zI a2, u3] [zI s0] sh pp mm Q ↔ zS 78 94 [zR a0, zU, zI a2, zI s0] [] sh pp mm Q := s_go cC_read_93 cC_read_94 rfl rfl
theorem rC_read_94 {a0 : Nat} {a2 a3 : Int} {u1 : zV} : zS 78 94 [zR a0, u1, zI a2, zI a3] [] sh pp mm Q ↔ zS 78 95 [zR a0, zU, zI a2, zI a3] [zI a3] sh pp mm Q := s_go cC_read_94 cC_read_95 rfl rfl
theorem rC_read_95 {a0 : Nat} {a2 a3 s0 : Int} {u1 : zV} : zS 78 95 [zR a0, u1, zI a2, zI a3] [zI s0] sh pp mm Q ↔ zS 78 97 [zR a0, zU, zI a2, zI a3] [zI 30, zI s0] sh pp mm Q := s_go cC_read_95 cC_read_97 rfl rfl
theorem rC_read_97 {a0 : Nat} {a2 a3 s0 s1 : Int} {u1 : zV} : zS 78 97 [zR a0, u1, zI a2, zI a3] [zI s0, zI s1] sh pp mm Q ↔ (s0 < s1 → zS 78 115 [zR a0, zU, zU, zU] [] sh pp mm Q) ∧ (¬ s0 < s1 → zS 78 100 [zR a0, zU, zI a2, zI a3] [] sh pp mm Q) := s_if cC_read_97 cC_read_115 cC_read_100 rfl rfl rfl
theorem rC_read_100 {a0 : Nat} {a2 a3 : Int} {u1 : zV} : zS 78 100 [zR a0, u1, zI a2, zI a3] [] sh pp mm Q ↔ zS 78 101 [zR a0, zU, zU, zI a3] [zI a2] sh pp mm Q := s_go cC_read_100 cC_read_101 rfl rfl
theorem rC_read_101 {a0 : Nat} {a3 s0 : Int} {u1 u2 : zV} : zS 78 101 [zR a0, u1, u2, zI a3] [zI s0] sh pp mm Q ↔ (s0 = 0 → zS 78 115 [zR a0, zU, zU, zU] [] sh pp mm Q) ∧ (¬ s0 = 0 → zS 78 104 [zR a0, zU, zU, zI a3] [] sh pp mm Q) := s_if cC_read_101 cC_read_115 cC_read_104 rfl rfl rfl
theorem rC_read_104 {a0 : Nat} {a3 : Int} {u1 u2 : zV} : zS 78 104 [zR a0, u1, u2, zI a3] [] sh pp mm Q ↔ zS 78 105 [zR a0, zU, zU, zI a3] [zR a0] sh pp mm Q := s_go cC_read_104 cC_read_105 rfl rfl
theorem rC_read_105 {a0 s0 : Nat} {a3 : Int} {u1 u2 : zV} (hk : zKd sh s0 = 8) : zS 78 105 [zR a0, u1, u2, zI a3] [zR s0] sh pp mm Q ↔ zS 85 0 [zR s0, zU, zU, zU] [] sh pp mm (fun v sh pp mm => zS 78 108 [zR a0, zU, zU, zI a3] (zPush v []) sh pp mm Q) := s_call cC_read_105 cC_read_108 ((if_pos hk).trans rfl) rfl
theorem rC_read_108 {a0 : Nat} {a3 s0 : Int} {u1 u2 : zV} : zS 78 108 [zR a0, u1, u2, zI a3] [zI s0] sh pp mm Q ↔ zS 78 109 [zR a0, zU, zI s0, zI a3] [] sh pp mm Q := s_go cC_read_108 cC_read_109 rfl rfl
theorem rC_read_109 {a0 : Nat} {a2 a3 : Int} {u1 : zV} : zS 78 109 [zR a0, u1, zI a2, zI a3] [] sh pp mm Q ↔ zS 78 112 [zR a0, zU, zI a2, zI (zw32 (a3 + 1))] [] sh pp mm Q := s_go cC_read_109 cC_read_112 rfl rfl
theorem rC_read_112 {a0 : Nat} {a2 a3 : Int} {u1 : zV} : zS 78 112 [zR a0, u1, zI a2, zI a3] [] sh pp mm Q ↔ zS 78 94 [zR a0, zU, zI a2, zI a3] [] sh pp mm Q := s_go cC_read_112 cC_read_94 rfl rfl
theorem rC_read_115 {a0 : Nat} {u1 u2 u3 : zV} : zS 78 115 [zR a0, u1, u2, u3] [] sh pp mm Q ↔ zS 78 116 [zU, zU, zU, zU] [zR a0] sh pp mm Q := s_go cC_read_115 cC_read_116 rfl rfl
theorem rC_read_116 {s0 : Nat} {u0 u1 u2 u3 : zV} : zS 78 116 [u0, u1, u2, u3] [zR s0] sh pp mm Q ↔ zS 78 117 [zU, zU, zU, zU] [zI 1, zR s0] sh pp mm Q := s_go cC_read_116 cC_read_117 rfl rfl
theorem rC_read_117 {s1 : Nat} {s0 : Int} {u0 u1 u2 u3 : zV} (hk : zKd sh s1 = 8) (hb : s0 = 0 ∨ s0 = 1) : zS 78 117 [u0, u1, u2, u3] [zI s0, zR s1] sh pp mm Q ↔ zS 78 120 [zU, zU, zU, zU] [] sh pp (zupd mm s1 5 s0) Q := s_go cC_read_117 cC_read_120 (if_pos ⟨hk, Or.inr ⟨rfl, hb⟩⟩) rfl
theorem rC_read_120 {u0 u1 u2 u3 : zV} : zS 78 120 [u0, u1, u2, u3] [] sh pp mm Q ↔ Q zU sh pp mm := s_ret cC_read_120 rfl
theorem cAC_readToken : ∀ q ∈ zT79, zCode 79 q.1 = some q.2 := zAll (mid := 79) rfl (by decide +kernel)
theorem cAC_readToken_0 : ∀ q ∈ zT79_0, zCode 79 q.1 = some q.2 := fun q h => cAC_readToken q (List.mem_append_left _ h)
theorem cAC_readToken_1 : ∀ q ∈ zT79_1, zCode 79 q.1 = some q.2 := fun q h => cAC_readToken q (List.mem_append_right _ (List.mem_append_left _ h))
theorem cAC_readToken_2 : ∀ q ∈ zT79_2, zCode 79 q.1 = some q.2 := fun q h => cAC_readToken q (List.mem_append_right _ (List.mem_append_right _ (List.mem_append_left _ h)))
theorem cAC_readToken_3 : ∀ q ∈ zT79_3, zCode 79 q.1 = some q.2 := fun q h => cAC_readToken q (List.mem_append_right _ (List.mem_append_right _ (List.mem_append_right _ (List.mem_append_left _ h))))
theorem cAC_readToken_4 : ∀ q ∈ zT79_4, zCode 79 q.1 = some q.2 := fun q h => cAC_readToken q (List.mem_append_right _ (List.mem_append_right _ (List.mem_append_right _ (List.mem_append_right _ (List.mem_append_left _ h)))))
theorem cAC_readToken_5 : ∀ q ∈ zT79_5, zCode 79 q.1 = some q.2 := fun q h => cAC_readToken q (List.mem_append_right _ (List.mem_append_right _ (List.mem_append_right _ (List.mem_append_right _ (List.mem_append_right _ h)))))
theorem cC_readToken_0 : zCode 79 0 = some (.aload_n 0, 1, 0, 0, 0, 0, 3) := cAC_readToken_0 _ (List.mem_of_getElem? (i := 0) rfl)
theorem cC_readToken_1 : zCode 79 1 = some (.getfield 38, 4, 8, 8, 0, 383, 3) := cAC_readToken_0 _ (List.mem_of_getElem? (i := 1) rfl)
theorem cC_readToken_4 : zCode 79 4 = some (.aload_n 0, 5, 0, 0, 0, 0, 3) := cAC_readToken_0 _ (List.mem_of_getElem? (i := 2) rfl)
theorem cC_readToken_5 : zCode 79 5 = some (.getfield 35, 8, 8, 7, 0, 382, 3) := cAC_readToken_0 _ (List.mem_of_getElem? (i := 3) rfl)
theorem cC_readToken_8 : zCode 79 8 = some (.if_icmp .ge 30, 11, 38, 0, 0, 0, 3) := cAC_readToken_0 _ (List.mem_of_getElem? (i := 4) rfl)
theorem cC_readToken_11 : zCode 79 11 = some (.aload_n 0, 12, 0, 0, 0, 0, 3) := cAC_readToken_0 _ (List.mem_of_getElem? (i := 5) rfl)
theorem cC_readToken_12 : zCode 79 12 = some (.getfield 32, 15, 8, 6, 2, 381, 3) := cAC_readToken_0 _ (List.mem_of_getElem? (i := 6) rfl)
theorem cC_readToken_15 : zCode 79 15 = some (.aload_n 0, 16, 0, 0, 0, 0, 3) := cAC_readToken_0 _ (List.mem_of_getElem? (i := 7) rfl)
theorem cC_readToken_16 : zCode 79 16 = some (.getfield 38, 19, 8, 8, 0, 383, 3) := cAC_readToken_0 _ (List.mem_of_getElem? (i := 8) rfl)
theorem cC_readToken_19 : zCode 79 19 = some (.iaload, 20, 0, 0, 0, 0, 3) := cAC_readToken_0 _ (List.mem_of_getElem? (i := 9) rfl)
theorem cC_readToken_20 : zCode 79 20 = some (.bipush 32, 22, 0, 0, 0, 0, 3) := cAC_readToken_0 _ (List.mem_of_getElem? (i := 10) rfl)
theorem cC_readToken_22 : zCode 79 22 = some (.if_icmp .ne 16, 25, 38, 0, 0, 0, 3) := cAC_readToken_0 _ (List.mem_of_getElem? (i := 11) rfl)
theorem cC_readToken_25 : zCode 79 25 = some (.aload_n 0, 26, 0, 0, 0, 0, 3) := cAC_readToken_0 _ (List.mem_of_getElem? (i := 12) rfl)
theorem cC_readToken_26 : zCode 79 26 = some (.dup, 27, 0, 0, 0, 0, 3) := cAC_readToken_0 _ (List.mem_of_getElem? (i := 13) rfl)
theorem cC_readToken_27 : zCode 79 27 = some (.getfield 38, 30, 8, 8, 0, 383, 3) := cAC_readToken_0 _ (List.mem_of_getElem? (i := 14) rfl)
theorem cC_readToken_30 : zCode 79 30 = some (.iconst 1, 31, 0, 0, 0, 0, 3) := cAC_readToken_0 _ (List.mem_of_getElem? (i := 15) rfl)
theorem cC_readToken_31 : zCode 79 31 = some (.iadd, 32, 0, 0, 0, 0, 3) := cAC_readToken_1 _ (List.mem_of_getElem? (i := 0) rfl)
theorem cC_readToken_32 : zCode 79 32 = some (.putfield 38, 35, 8, 8, 0, 383, 3) := cAC_readToken_1 _ (List.mem_of_getElem? (i := 1) rfl)
theorem cC_readToken_35 : zCode 79 35 = some (.goto (-35), 38, 0, 0, 0, 0, 3) := cAC_readToken_1 _ (List.mem_of_getElem? (i := 2) rfl)
theorem cC_readToken_38 : zCode 79 38 = some (.aload_n 0, 39, 0, 0, 0, 0, 3) := cAC_readToken_1 _ (List.mem_of_getElem? (i := 3) rfl)
theorem cC_readToken_39 : zCode 79 39 = some (.getfield 44, 42, 8, 10, 2, 385, 3) := cAC_readToken_1 _ (List.mem_of_getElem? (i := 4) rfl)
theorem cC_readToken_42 : zCode 79 42 = some (.iload_n 1, 43, 0, 0, 0, 0, 3) := cAC_readToken_1 _ (List.mem_of_getElem? (i := 5) rfl)
theorem cC_readToken_43 : zCode 79 43 = some (.aload_n 0, 44, 0, 0, 0, 0, 3) := cAC_readToken_1 _ (List.mem_of_getElem? (i := 6) rfl)
theorem cC_readToken_44 : zCode 79 44 = some (.getfield 38, 47, 8, 8, 0, 383, 3) := cAC_readToken_1 _ (List.mem_of_getElem? (i := 7) rfl)
theorem cC_readToken_47 : zCode 79 47 = some (.iastore, 48, 0, 0, 0, 0, 3) := cAC_readToken_1 _ (List.mem_of_getElem? (i := 8) rfl)
theorem cC_readToken_48 : zCode 79 48 = some (.aload_n 0, 49, 0, 0, 0, 0, 3) := cAC_readToken_1 _ (List.mem_of_getElem? (i := 9) rfl)
theorem cC_readToken_49 : zCode 79 49 = some (.getfield 38, 52, 8, 8, 0, 383, 3) := cAC_readToken_1 _ (List.mem_of_getElem? (i := 10) rfl)
theorem cC_readToken_52 : zCode 79 52 = some (.aload_n 0, 53, 0, 0, 0, 0, 3) := cAC_readToken_1 _ (List.mem_of_getElem? (i := 11) rfl)
theorem cC_readToken_53 : zCode 79 53 = some (.getfield 35, 56, 8, 7, 0, 382, 3) := cAC_readToken_1 _ (List.mem_of_getElem? (i := 12) rfl)
theorem cC_readToken_56 : zCode 79 56 = some (.if_icmp .lt 11, 59, 67, 0, 0, 0, 3) := cAC_readToken_1 _ (List.mem_of_getElem? (i := 13) rfl)
theorem cC_readToken_59 : zCode 79 59 = some (.aload_n 0, 60, 0, 0, 0, 0, 3) := cAC_readToken_1 _ (List.mem_of_getElem? (i := 14) rfl)
theorem cC_readToken_60 : zCode 79 60 = some (.getfield 41, 63, 8, 9, 2, 384, 2) := cAC_readToken_1 _ (List.mem_of_getElem? (i := 15) rfl)
theorem cC_readToken_63 : zCode 79 63 = some (.iload_n 1, 64, 0, 0, 0, 0, 2) := cAC_readToken_2 _ (List.mem_of_getElem? (i := 0) rfl)
theorem cC_readToken_64 : zCode 79 64 = some (.iconst 0, 65, 0, 0, 0, 0, 0) := cAC_readToken_2 _ (List.mem_of_getElem? (i := 1) rfl)
theorem cC_readToken_65 : zCode 79 65 = some (.iastore, 66, 0, 0, 0, 0, 0) := cAC_readToken_2 _ (List.mem_of_getElem? (i := 2) rfl)
theorem cC_readToken_66 : zCode 79 66 = some (.return_, 67, 0, 0, 0, 0, 0) := cAC_readToken_2 _ (List.mem_of_getElem? (i := 3) rfl)
theorem cC_readToken_67 : zCode 79 67 = some (.aload_n 0, 68, 0, 0, 0, 0, 3) := cAC_readToken_2 _ (List.mem_of_getElem? (i := 4) rfl)
theorem cC_readToken_68 : zCode 79 68 = some (.getfield 32, 71, 8, 6, 2, 381, 3) := cAC_readToken_2 _ (List.mem_of_getElem? (i := 5) rfl)
theorem cC_readToken_71 : zCode 79 71 = some (.aload_n 0, 72, 0, 0, 0, 0, 3) := cAC_readToken_2 _ (List.mem_of_getElem? (i := 6) rfl)
theorem cC_readToken_72 : zCode 79 72 = some (.getfield 38, 75, 8, 8, 0, 383, 3) := cAC_readToken_2 _ (List.mem_of_getElem? (i := 7) rfl)
theorem cC_readToken_75 : zCode 79 75 = some (.iaload, 76, 0, 0, 0, 0, 3) := cAC_readToken_2 _ (List.mem_of_getElem? (i := 8) rfl)
theorem cC_readToken_76 : zCode 79 76 = some (.istore_n 2, 77, 0, 0, 0, 0, 3) := cAC_readToken_2 _ (List.mem_of_getElem? (i := 9) rfl)
theorem cC_readToken_77 : zCode 79 77 = some (.iload_n 2, 78, 0, 0, 0, 0, 7) := cAC_readToken_2 _ (List.mem_of_getElem? (i := 10) rfl)
theorem cC_readToken_78 : zCode 79 78 = some (.invokestatic 78, 81, 83, 1, 1, 8, 7) := cAC_readToken_2 _ (List.mem_of_getElem? (i := 11) rfl)
theorem cC_readToken_81 : zCode 79 81 = some (.ifCond .eq 11, 84, 92, 0, 0, 0, 7) := cAC_readToken_2 _ (List.mem_of_getElem? (i := 12) rfl)
theorem cC_readToken_84 : zCode 79 84 = some (.aload_n 0, 85, 0, 0, 0, 0, 3) := cAC_readToken_2 _ (List.mem_of_getElem? (i := 13) rfl)
theorem cC_readToken_85 : zCode 79 85 = some (.iload_n 1, 86, 0, 0, 0, 0, 2) := cAC_readToken_2 _ (List.mem_of_getElem? (i := 14) rfl)
theorem cC_readToken_86 : zCode 79 86 = some (.invokevirtual 82, 89, 80, 1, 2, 8, 0) := cAC_readToken_2 _ (List.mem_of_getElem? (i := 15) rfl)
theorem cC_readToken_89 : zCode 79 89 = some (.goto 62, 92, 151, 0, 0, 0, 0) := cAC_readToken_3 _ (List.mem_of_getElem? (i := 0) rfl)
theorem cC_readToken_92 : zCode 79 92 = some (.iload_n 2, 93, 0, 0, 0, 0, 7) := cAC_readToken_3 _ (List.mem_of_getElem? (i := 1) rfl)
theorem cC_readToken_93 : zCode 79 93 = some (.bipush 45, 95, 0, 0, 0, 0, 7) := cAC_readToken_3 _ (List.mem_of_getElem? (i := 2) rfl)
theorem cC_readToken_95 : zCode 79 95 = some (.if_icmp .eq 10, 98, 105, 0, 0, 0, 7) := cAC_readToken_3 _ (List.mem_of_getElem? (i := 3) rfl)
theorem cC_readToken_98 : zCode 79 98 = some (.iload_n 2, 99, 0, 0, 0, 0, 7) := cAC_readToken_3 _ (List.mem_of_getElem? (i := 4) rfl)
theorem cC_readToken_99 : zCode 79 99 = some (.invokestatic 85, 102, 84, 1, 1, 8, 7) := cAC_readToken_3 _ (List.mem_of_getElem? (i := 5) rfl)
theorem cC_readToken_102 : zCode 79 102 = some (.ifCond .eq 22, 105, 124, 0, 0, 0, 7) := cAC_readToken_3 _ (List.mem_of_getElem? (i := 6) rfl)
theorem cC_readToken_105 : zCode 79 105 = some (.aload_n 0, 106, 0, 0, 0, 0, 7) := cAC_readToken_3 _ (List.mem_of_getElem? (i := 7) rfl)
theorem cC_readToken_106 : zCode 79 106 = some (.iload_n 1, 107, 0, 0, 0, 0, 6) := cAC_readToken_3 _ (List.mem_of_getElem? (i := 8) rfl)
theorem cC_readToken_107 : zCode 79 107 = some (.iload_n 2, 108, 0, 0, 0, 0, 4) := cAC_readToken_3 _ (List.mem_of_getElem? (i := 9) rfl)
theorem cC_readToken_108 : zCode 79 108 = some (.bipush 45, 110, 0, 0, 0, 0, 0) := cAC_readToken_3 _ (List.mem_of_getElem? (i := 10) rfl)
theorem cC_readToken_110 : zCode 79 110 = some (.if_icmp .ne 7, 113, 117, 0, 0, 0, 0) := cAC_readToken_3 _ (List.mem_of_getElem? (i := 11) rfl)
theorem cC_readToken_113 : zCode 79 113 = some (.iconst 1, 114, 0, 0, 0, 0, 0) := cAC_readToken_3 _ (List.mem_of_getElem? (i := 12) rfl)
theorem cC_readToken_114 : zCode 79 114 = some (.goto 4, 117, 118, 0, 0, 0, 0) := cAC_readToken_3 _ (List.mem_of_getElem? (i := 13) rfl)
theorem cC_readToken_117 : zCode 79 117 = some (.iconst 0, 118, 0, 0, 0, 0, 0) := cAC_readToken_3 _ (List.mem_of_getElem? (i := 14) rfl)
theorem cC_readToken_118 : zCode 79 118 = some (.invokevirtual 88, 121, 82, 2, 6, 8, 0) := cAC_readToken_3 _ (List.mem_of_getElem? (i := 15) rfl)
theorem cC_readToken_121 : zCode 79 121 = some (.goto 30, 124, 151, 0, 0, 0, 0) := cAC_readToken_4 _ (List.mem_of_getElem? (i := 0) rfl)
theorem cC_readToken_124 : zCode 79 124 = some (.aload_n 0, 125, 0, 0, 0, 0, 7) := cAC_readToken_4 _ (List.mem_of_getElem? (i := 1) rfl)
theorem cC_readToken_125 : zCode 79 125 = some (.getfield 41, 128, 8, 9, 2, 384, 7) := cAC_readToken_4 _ (List.mem_of_getElem? (i := 2) rfl)
theorem cC_readToken_128 : zCode 79 128 = some (.iload_n 1, 129, 0, 0, 0, 0, 7) := cAC_readToken_4 _ (List.mem_of_getElem? (i := 3) rfl)
theorem cC_readToken_129 : zCode 79 129 = some (.iload_n 2, 130, 0, 0, 0, 0, 5) := cAC_readToken_4 _ (List.mem_of_getElem? (i := 4) rfl)
theorem cC_readToken_130 : zCode 79 130 = some (.bipush 59, 132, 0, 0, 0, 0, 1) := cAC_readToken_4 _ (List.mem_of_getElem? (i := 5) rfl)
theorem cC_readToken_132 : zCode 79 132 = some (.if_icmp .ne 7, 135, 139, 0, 0, 0, 1) := cAC_readToken_4 _ (List.mem_of_getElem? (i := 6) rfl)
theorem cC_readToken_135 : zCode 79 135 = some (.iconst 2, 136, 0, 0, 0, 0, 1) := cAC_readToken_4 _ (List.mem_of_getElem? (i := 7) rfl)
theorem cC_readToken_136 : zCode 79 136 = some (.goto 4, 139, 140, 0, 0, 0, 1) := cAC_readToken_4 _ (List.mem_of_getElem? (i := 8) rfl)
theorem cC_readToken_139 : zCode 79 139 = some (.iconst 1, 140, 0, 0, 0, 0, 1) := cAC_readToken_4 _ (List.mem_of_getElem? (i := 9) rfl)
theorem cC_readToken_140 : zCode 79 140 = some (.iastore, 141, 0, 0, 0, 0, 1) := cAC_readToken_4 _ (List.mem_of_getElem? (i := 10) rfl)
theorem cC_readToken_141 : zCode 79 141 = some (.aload_n 0, 142, 0, 0, 0, 0, 1) := cAC_readToken_4 _ (List.mem_of_getElem? (i := 11) rfl)
theorem cC_readToken_142 : zCode 79 142 = some (.dup, 143, 0, 0, 0, 0, 0) := cAC_readToken_4 _ (List.mem_of_getElem? (i := 12) rfl)
theorem cC_readToken_143 : zCode 79 143 = some (.getfield 38, 146, 8, 8, 0, 383, 0) := cAC_readToken_4 _ (List.mem_of_getElem? (i := 13) rfl)
theorem cC_readToken_146 : zCode 79 146 = some (.iconst 1, 147, 0, 0, 0, 0, 0) := cAC_readToken_4 _ (List.mem_of_getElem? (i := 14) rfl)
theorem cC_readToken_147 : zCode 79 147 = some (.iadd, 148, 0, 0, 0, 0, 0) := cAC_readToken_4 _ (List.mem_of_getElem? (i := 15) rfl)
theorem cC_readToken_148 : zCode 79 148 = some (.putfield 38, 151, 8, 8, 0, 383, 0) := cAC_readToken_5 _ (List.mem_of_getElem? (i := 0) rfl)
theorem cC_readToken_151 : zCode 79 151 = some (.return_, 152, 0, 0, 0, 0, 0) := cAC_readToken_5 _ (List.mem_of_getElem? (i := 1) rfl)
theorem rC_readToken_0 {a0 : Nat} {a1 : Int} {u2 : zV} : zS 79 0 [zR a0, zI a1, u2] [] sh pp mm Q ↔ zS 79 1 [zR a0, zI a1, zU] [zR a0] sh pp mm Q := s_go cC_readToken_0 cC_readToken_1 rfl rfl
theorem rC_readToken_1 {a0 s0 : Nat} {a1 : Int} {u2 : zV} (hk : zKd sh s0 = 8) : zS 79 1 [zR a0, zI a1, u2] [zR s0] sh pp mm Q ↔ zS 79 4 [zR a0, zI a1, zU] [zI (mm s0 8)] sh pp mm Q := s_go cC_readToken_1 cC_readToken_4 (if_pos hk) rfl
theorem rC_readToken_4 {a0 : Nat} {a1 s0 : Int} {u2 : zV} : zS 79 4 [zR a0, zI a1, u2] [zI s0] sh pp mm Q ↔ zS 79 5 [zR a0, zI a1, zU] [zR a0, zI s0] sh pp mm Q := s_go cC_readToken_4 cC_readToken_5 rfl rfl
theorem rC_readToken_5 {a0 s0 : Nat} {a1 s1 : Int} {u2 : zV} (hk : zKd sh s0 = 8) : zS 79 5 [zR a0, zI a1, u2] [zR s0, zI s1] sh pp mm Q ↔ zS 79 8 [zR a0, zI a1, zU] [zI (mm s0 7), zI s1] sh pp mm Q := s_go cC_readToken_5 cC_readToken_8 (if_pos hk) rfl
theorem rC_readToken_8 {a0 : Nat} {a1 s0 s1 : Int} {u2 : zV} : zS 79 8 [zR a0, zI a1, u2] [zI s0, zI s1] sh pp mm Q ↔ (s1 < s0 → zS 79 11 [zR a0, zI a1, zU] [] sh pp mm Q) ∧ (¬ s1 < s0 → zS 79 38 [zR a0, zI a1, zU] [] sh pp mm Q) := s_ifn cC_readToken_8 cC_readToken_11 cC_readToken_38 rfl rfl rfl
theorem rC_readToken_11 {a0 : Nat} {a1 : Int} {u2 : zV} : zS 79 11 [zR a0, zI a1, u2] [] sh pp mm Q ↔ zS 79 12 [zR a0, zI a1, zU] [zR a0] sh pp mm Q := s_go cC_readToken_11 cC_readToken_12 rfl rfl
theorem rC_readToken_12 {a0 s0 : Nat} {a1 : Int} {u2 : zV} (hk : zKd sh s0 = 8) : zS 79 12 [zR a0, zI a1, u2] [zR s0] sh pp mm Q ↔ zS 79 15 [zR a0, zI a1, zU] [zR (pp s0 6)] sh pp mm Q := s_go cC_readToken_12 cC_readToken_15 (if_pos hk) rfl
theorem rC_readToken_15 {a0 s0 : Nat} {a1 : Int} {u2 : zV} : zS 79 15 [zR a0, zI a1, u2] [zR s0] sh pp mm Q ↔ zS 79 16 [zR a0, zI a1, zU] [zR a0, zR s0] sh pp mm Q := s_go cC_readToken_15 cC_readToken_16 rfl rfl
theorem rC_readToken_16 {a0 s0 s1 : Nat} {a1 : Int} {u2 : zV} (hk : zKd sh s0 = 8) : zS 79 16 [zR a0, zI a1, u2] [zR s0, zR s1] sh pp mm Q ↔ zS 79 19 [zR a0, zI a1, zU] [zI (mm s0 8), zR s1] sh pp mm Q := s_go cC_readToken_16 cC_readToken_19 (if_pos hk) rfl
theorem rC_readToken_19 {a0 s1 : Nat} {a1 s0 : Int} {u2 : zV} (hk : zKd sh s1 = 20 ∨ zKd sh s1 = 30) (h0 : 0 ≤ s0) (h1 : s0 < zLn sh s1) : zS 79 19 [zR a0, zI a1, u2] [zI s0, zR s1] sh pp mm Q ↔ zS 79 20 [zR a0, zI a1, zU] [zI (mm s1 s0)] sh pp mm Q := s_go cC_readToken_19 cC_readToken_20 (if_pos ⟨hk, h0, h1⟩) rfl
theorem rC_readToken_20 {a0 : Nat} {a1 s0 : Int} {u2 : zV} : zS 79 20 [zR a0, zI a1, u2] [zI s0] sh pp mm Q ↔ zS 79 22 [zR a0, zI a1, zU] [zI 32, zI s0] sh pp mm Q := s_go cC_readToken_20 cC_readToken_22 rfl rfl
theorem rC_readToken_22 {a0 : Nat} {a1 s0 s1 : Int} {u2 : zV} : zS 79 22 [zR a0, zI a1, u2] [zI s0, zI s1] sh pp mm Q ↔ (s1 = s0 → zS 79 25 [zR a0, zI a1, zU] [] sh pp mm Q) ∧ (¬ s1 = s0 → zS 79 38 [zR a0, zI a1, zU] [] sh pp mm Q) := s_ifn cC_readToken_22 cC_readToken_25 cC_readToken_38 rfl rfl rfl
theorem rC_readToken_25 {a0 : Nat} {a1 : Int} {u2 : zV} : zS 79 25 [zR a0, zI a1, u2] [] sh pp mm Q ↔ zS 79 26 [zR a0, zI a1, zU] [zR a0] sh pp mm Q := s_go cC_readToken_25 cC_readToken_26 rfl rfl
theorem rC_readToken_26 {a0 s0 : Nat} {a1 : Int} {u2 : zV} : zS 79 26 [zR a0, zI a1, u2] [zR s0] sh pp mm Q ↔ zS 79 27 [zR a0, zI a1, zU] [zR s0, zR s0] sh pp mm Q := s_go cC_readToken_26 cC_readToken_27 rfl rfl
theorem rC_readToken_27 {a0 s0 s1 : Nat} {a1 : Int} {u2 : zV} (hk : zKd sh s0 = 8) : zS 79 27 [zR a0, zI a1, u2] [zR s0, zR s1] sh pp mm Q ↔ zS 79 30 [zR a0, zI a1, zU] [zI (mm s0 8), zR s1] sh pp mm Q := s_go cC_readToken_27 cC_readToken_30 (if_pos hk) rfl
theorem rC_readToken_30 {a0 s1 : Nat} {a1 s0 : Int} {u2 : zV} : zS 79 30 [zR a0, zI a1, u2] [zI s0, zR s1] sh pp mm Q ↔ zS 79 31 [zR a0, zI a1, zU] [zI 1, zI s0, zR s1] sh pp mm Q := s_go cC_readToken_30 cC_readToken_31 rfl rfl
theorem rC_readToken_31 {a0 s2 : Nat} {a1 s0 s1 : Int} {u2 : zV} : zS 79 31 [zR a0, zI a1, u2] [zI s0, zI s1, zR s2] sh pp mm Q ↔ zS 79 32 [zR a0, zI a1, zU] [zI (zw32 (s1 + s0)), zR s2] sh pp mm Q := s_go cC_readToken_31 cC_readToken_32 rfl rfl
theorem rC_readToken_32 {a0 s1 : Nat} {a1 s0 : Int} {u2 : zV} (hk : zKd sh s1 = 8) : zS 79 32 [zR a0, zI a1, u2] [zI s0, zR s1] sh pp mm Q ↔ zS 79 35 [zR a0, zI a1, zU] [] sh pp (zupd mm s1 8 s0) Q := s_go cC_readToken_32 cC_readToken_35 (if_pos ⟨hk, Or.inl rfl⟩) rfl
theorem rC_readToken_35 {a0 : Nat} {a1 : Int} {u2 : zV} : zS 79 35 [zR a0, zI a1, u2] [] sh pp mm Q ↔ zS 79 0 [zR a0, zI a1, zU] [] sh pp mm Q := s_go cC_readToken_35 cC_readToken_0 rfl rfl
theorem rC_readToken_38 {a0 : Nat} {a1 : Int} {u2 : zV} : zS 79 38 [zR a0, zI a1, u2] [] sh pp mm Q ↔ zS 79 39 [zR a0, zI a1, zU] [zR a0] sh pp mm Q := s_go cC_readToken_38 cC_readToken_39 rfl rfl
theorem rC_readToken_39 {a0 s0 : Nat} {a1 : Int} {u2 : zV} (hk : zKd sh s0 = 8) : zS 79 39 [zR a0, zI a1, u2] [zR s0] sh pp mm Q ↔ zS 79 42 [zR a0, zI a1, zU] [zR (pp s0 10)] sh pp mm Q := s_go cC_readToken_39 cC_readToken_42 (if_pos hk) rfl
theorem rC_readToken_42 {a0 s0 : Nat} {a1 : Int} {u2 : zV} : zS 79 42 [zR a0, zI a1, u2] [zR s0] sh pp mm Q ↔ zS 79 43 [zR a0, zI a1, zU] [zI a1, zR s0] sh pp mm Q := s_go cC_readToken_42 cC_readToken_43 rfl rfl
theorem rC_readToken_43 {a0 s1 : Nat} {a1 s0 : Int} {u2 : zV} : zS 79 43 [zR a0, zI a1, u2] [zI s0, zR s1] sh pp mm Q ↔ zS 79 44 [zR a0, zI a1, zU] [zR a0, zI s0, zR s1] sh pp mm Q := s_go cC_readToken_43 cC_readToken_44 rfl rfl
theorem rC_readToken_44 {a0 s0 s2 : Nat} {a1 s1 : Int} {u2 : zV} (hk : zKd sh s0 = 8) : zS 79 44 [zR a0, zI a1, u2] [zR s0, zI s1, zR s2] sh pp mm Q ↔ zS 79 47 [zR a0, zI a1, zU] [zI (mm s0 8), zI s1, zR s2] sh pp mm Q := s_go cC_readToken_44 cC_readToken_47 (if_pos hk) rfl
theorem rC_readToken_47 {a0 s2 : Nat} {a1 s0 s1 : Int} {u2 : zV} (hk : zKd sh s2 = 20) (h0 : 0 ≤ s1) (h1 : s1 < zLn sh s2) : zS 79 47 [zR a0, zI a1, u2] [zI s0, zI s1, zR s2] sh pp mm Q ↔ zS 79 48 [zR a0, zI a1, zU] [] sh pp (zupd mm s2 s1 s0) Q := s_go cC_readToken_47 cC_readToken_48 (if_pos ⟨hk, h0, h1, fun h => absurd h (by decide)⟩) rfl
theorem rC_readToken_48 {a0 : Nat} {a1 : Int} {u2 : zV} : zS 79 48 [zR a0, zI a1, u2] [] sh pp mm Q ↔ zS 79 49 [zR a0, zI a1, zU] [zR a0] sh pp mm Q := s_go cC_readToken_48 cC_readToken_49 rfl rfl
theorem rC_readToken_49 {a0 s0 : Nat} {a1 : Int} {u2 : zV} (hk : zKd sh s0 = 8) : zS 79 49 [zR a0, zI a1, u2] [zR s0] sh pp mm Q ↔ zS 79 52 [zR a0, zI a1, zU] [zI (mm s0 8)] sh pp mm Q := s_go cC_readToken_49 cC_readToken_52 (if_pos hk) rfl
theorem rC_readToken_52 {a0 : Nat} {a1 s0 : Int} {u2 : zV} : zS 79 52 [zR a0, zI a1, u2] [zI s0] sh pp mm Q ↔ zS 79 53 [zR a0, zI a1, zU] [zR a0, zI s0] sh pp mm Q := s_go cC_readToken_52 cC_readToken_53 rfl rfl
theorem rC_readToken_53 {a0 s0 : Nat} {a1 s1 : Int} {u2 : zV} (hk : zKd sh s0 = 8) : zS 79 53 [zR a0, zI a1, u2] [zR s0, zI s1] sh pp mm Q ↔ zS 79 56 [zR a0, zI a1, zU] [zI (mm s0 7), zI s1] sh pp mm Q := s_go cC_readToken_53 cC_readToken_56 (if_pos hk) rfl
theorem rC_readToken_56 {a0 : Nat} {a1 s0 s1 : Int} {u2 : zV} : zS 79 56 [zR a0, zI a1, u2] [zI s0, zI s1] sh pp mm Q ↔ (s1 < s0 → zS 79 67 [zR a0, zI a1, zU] [] sh pp mm Q) ∧ (¬ s1 < s0 → zS 79 59 [zR a0, zI a1, zU] [] sh pp mm Q) := s_if cC_readToken_56 cC_readToken_67 cC_readToken_59 rfl rfl rfl
theorem rC_readToken_59 {a0 : Nat} {a1 : Int} {u2 : zV} : zS 79 59 [zR a0, zI a1, u2] [] sh pp mm Q ↔ zS 79 60 [zU, zI a1, zU] [zR a0] sh pp mm Q := s_go cC_readToken_59 cC_readToken_60 rfl rfl
theorem rC_readToken_60 {s0 : Nat} {a1 : Int} {u0 u2 : zV} (hk : zKd sh s0 = 8) : zS 79 60 [u0, zI a1, u2] [zR s0] sh pp mm Q ↔ zS 79 63 [zU, zI a1, zU] [zR (pp s0 9)] sh pp mm Q := s_go cC_readToken_60 cC_readToken_63 (if_pos hk) rfl
theorem rC_readToken_63 {s0 : Nat} {a1 : Int} {u0 u2 : zV} : zS 79 63 [u0, zI a1, u2] [zR s0] sh pp mm Q ↔ zS 79 64 [zU, zU, zU] [zI a1, zR s0] sh pp mm Q := s_go cC_readToken_63 cC_readToken_64 rfl rfl
theorem rC_readToken_64 {s1 : Nat} {s0 : Int} {u0 u1 u2 : zV} : zS 79 64 [u0, u1, u2] [zI s0, zR s1] sh pp mm Q ↔ zS 79 65 [zU, zU, zU] [zI 0, zI s0, zR s1] sh pp mm Q := s_go cC_readToken_64 cC_readToken_65 rfl rfl
theorem rC_readToken_65 {s2 : Nat} {s0 s1 : Int} {u0 u1 u2 : zV} (hk : zKd sh s2 = 20) (h0 : 0 ≤ s1) (h1 : s1 < zLn sh s2) : zS 79 65 [u0, u1, u2] [zI s0, zI s1, zR s2] sh pp mm Q ↔ zS 79 66 [zU, zU, zU] [] sh pp (zupd mm s2 s1 s0) Q := s_go cC_readToken_65 cC_readToken_66 (if_pos ⟨hk, h0, h1, fun h => absurd h (by decide)⟩) rfl
theorem rC_readToken_66 {u0 u1 u2 : zV} : zS 79 66 [u0, u1, u2] [] sh pp mm Q ↔ Q zU sh pp mm := s_ret cC_readToken_66 rfl
theorem rC_readToken_67 {a0 : Nat} {a1 : Int} {u2 : zV} : zS 79 67 [zR a0, zI a1, u2] [] sh pp mm Q ↔ zS 79 68 [zR a0, zI a1, zU] [zR a0] sh pp mm Q := s_go cC_readToken_67 cC_readToken_68 rfl rfl
theorem rC_readToken_68 {a0 s0 : Nat} {a1 : Int} {u2 : zV} (hk : zKd sh s0 = 8) : zS 79 68 [zR a0, zI a1, u2] [zR s0] sh pp mm Q ↔ zS 79 71 [zR a0, zI a1, zU] [zR (pp s0 6)] sh pp mm Q := s_go cC_readToken_68 cC_readToken_71 (if_pos hk) rfl
theorem rC_readToken_71 {a0 s0 : Nat} {a1 : Int} {u2 : zV} : zS 79 71 [zR a0, zI a1, u2] [zR s0] sh pp mm Q ↔ zS 79 72 [zR a0, zI a1, zU] [zR a0, zR s0] sh pp mm Q := s_go cC_readToken_71 cC_readToken_72 rfl rfl
theorem rC_readToken_72 {a0 s0 s1 : Nat} {a1 : Int} {u2 : zV} (hk : zKd sh s0 = 8) : zS 79 72 [zR a0, zI a1, u2] [zR s0, zR s1] sh pp mm Q ↔ zS 79 75 [zR a0, zI a1, zU] [zI (mm s0 8), zR s1] sh pp mm Q := s_go cC_readToken_72 cC_readToken_75 (if_pos hk) rfl
theorem rC_readToken_75 {a0 s1 : Nat} {a1 s0 : Int} {u2 : zV} (hk : zKd sh s1 = 20 ∨ zKd sh s1 = 30) (h0 : 0 ≤ s0) (h1 : s0 < zLn sh s1) : zS 79 75 [zR a0, zI a1, u2] [zI s0, zR s1] sh pp mm Q ↔ zS 79 76 [zR a0, zI a1, zU] [zI (mm s1 s0)] sh pp mm Q := s_go cC_readToken_75 cC_readToken_76 (if_pos ⟨hk, h0, h1⟩) rfl
theorem rC_readToken_76 {a0 : Nat} {a1 s0 : Int} {u2 : zV} : zS 79 76 [zR a0, zI a1, u2] [zI s0] sh pp mm Q ↔ zS 79 77 [zR a0, zI a1, zI s0] [] sh pp mm Q := s_go cC_readToken_76 cC_readToken_77 rfl rfl
theorem rC_readToken_77 {a0 : Nat} {a1 a2 : Int} : zS 79 77 [zR a0, zI a1, zI a2] [] sh pp mm Q ↔ zS 79 78 [zR a0, zI a1, zI a2] [zI a2] sh pp mm Q := s_go cC_readToken_77 cC_readToken_78 rfl rfl
theorem rC_readToken_78 {a0 : Nat} {a1 a2 s0 : Int} : zS 79 78 [zR a0, zI a1, zI a2] [zI s0] sh pp mm Q ↔ zS 83 0 [zI s0] [] sh pp mm (fun v sh pp mm => zS 79 81 [zR a0, zI a1, zI a2] (zPush v []) sh pp mm Q) := s_call cC_readToken_78 cC_readToken_81 rfl rfl
theorem rC_readToken_81 {a0 : Nat} {a1 a2 s0 : Int} : zS 79 81 [zR a0, zI a1, zI a2] [zI s0] sh pp mm Q ↔ (s0 = 0 → zS 79 92 [zR a0, zI a1, zI a2] [] sh pp mm Q) ∧ (¬ s0 = 0 → zS 79 84 [zR a0, zI a1, zU] [] sh pp mm Q) := s_if cC_readToken_81 cC_readToken_92 cC_readToken_84 rfl rfl rfl
theorem rC_readToken_84 {a0 : Nat} {a1 : Int} {u2 : zV} : zS 79 84 [zR a0, zI a1, u2] [] sh pp mm Q ↔ zS 79 85 [zU, zI a1, zU] [zR a0] sh pp mm Q := s_go cC_readToken_84 cC_readToken_85 rfl rfl
theorem rC_readToken_85 {s0 : Nat} {a1 : Int} {u0 u2 : zV} : zS 79 85 [u0, zI a1, u2] [zR s0] sh pp mm Q ↔ zS 79 86 [zU, zU, zU] [zI a1, zR s0] sh pp mm Q := s_go cC_readToken_85 cC_readToken_86 rfl rfl
theorem rC_readToken_86 {s1 : Nat} {s0 : Int} {u0 u1 u2 : zV} (hk : zKd sh s1 = 8) : zS 79 86 [u0, u1, u2] [zI s0, zR s1] sh pp mm Q ↔ zS 80 0 [zR s1, zI s0] [] sh pp mm (fun v sh pp mm => zS 79 89 [zU, zU, zU] (zPush v []) sh pp mm Q) := s_call cC_readToken_86 cC_readToken_89 ((if_pos hk).trans rfl) rfl
theorem rC_readToken_89 {u0 u1 u2 : zV} : zS 79 89 [u0, u1, u2] [] sh pp mm Q ↔ zS 79 151 [zU, zU, zU] [] sh pp mm Q := s_go cC_readToken_89 cC_readToken_151 rfl rfl
theorem rC_readToken_92 {a0 : Nat} {a1 a2 : Int} : zS 79 92 [zR a0, zI a1, zI a2] [] sh pp mm Q ↔ zS 79 93 [zR a0, zI a1, zI a2] [zI a2] sh pp mm Q := s_go cC_readToken_92 cC_readToken_93 rfl rfl
theorem rC_readToken_93 {a0 : Nat} {a1 a2 s0 : Int} : zS 79 93 [zR a0, zI a1, zI a2] [zI s0] sh pp mm Q ↔ zS 79 95 [zR a0, zI a1, zI a2] [zI 45, zI s0] sh pp mm Q := s_go cC_readToken_93 cC_readToken_95 rfl rfl
theorem rC_readToken_95 {a0 : Nat} {a1 a2 s0 s1 : Int} : zS 79 95 [zR a0, zI a1, zI a2] [zI s0, zI s1] sh pp mm Q ↔ (s1 = s0 → zS 79 105 [zR a0, zI a1, zI a2] [] sh pp mm Q) ∧ (¬ s1 = s0 → zS 79 98 [zR a0, zI a1, zI a2] [] sh pp mm Q) := s_if cC_readToken_95 cC_readToken_105 cC_readToken_98 rfl rfl rfl
theorem rC_readToken_98 {a0 : Nat} {a1 a2 : Int} : zS 79 98 [zR a0, zI a1, zI a2] [] sh pp mm Q ↔ zS 79 99 [zR a0, zI a1, zI a2] [zI a2] sh pp mm Q := s_go cC_readToken_98 cC_readToken_99 rfl rfl
theorem rC_readToken_99 {a0 : Nat} {a1 a2 s0 : Int} : zS 79 99 [zR a0, zI a1, zI a2] [zI s0] sh pp mm Q ↔ zS 84 0 [zI s0] [] sh pp mm (fun v sh pp mm => zS 79 102 [zR a0, zI a1, zI a2] (zPush v []) sh pp mm Q) := s_call cC_readToken_99 cC_readToken_102 rfl rfl
theorem rC_readToken_102 {a0 : Nat} {a1 a2 s0 : Int} : zS 79 102 [zR a0, zI a1, zI a2] [zI s0] sh pp mm Q ↔ (s0 = 0 → zS 79 124 [zR a0, zI a1, zI a2] [] sh pp mm Q) ∧ (¬ s0 = 0 → zS 79 105 [zR a0, zI a1, zI a2] [] sh pp mm Q) := s_if cC_readToken_102 cC_readToken_124 cC_readToken_105 rfl rfl rfl
theorem rC_readToken_105 {a0 : Nat} {a1 a2 : Int} : zS 79 105 [zR a0, zI a1, zI a2] [] sh pp mm Q ↔ zS 79 106 [zU, zI a1, zI a2] [zR a0] sh pp mm Q := s_go cC_readToken_105 cC_readToken_106 rfl rfl
theorem rC_readToken_106 {s0 : Nat} {a1 a2 : Int} {u0 : zV} : zS 79 106 [u0, zI a1, zI a2] [zR s0] sh pp mm Q ↔ zS 79 107 [zU, zU, zI a2] [zI a1, zR s0] sh pp mm Q := s_go cC_readToken_106 cC_readToken_107 rfl rfl
theorem rC_readToken_107 {s1 : Nat} {a2 s0 : Int} {u0 u1 : zV} : zS 79 107 [u0, u1, zI a2] [zI s0, zR s1] sh pp mm Q ↔ zS 79 108 [zU, zU, zU] [zI a2, zI s0, zR s1] sh pp mm Q := s_go cC_readToken_107 cC_readToken_108 rfl rfl
theorem rC_readToken_108 {s2 : Nat} {s0 s1 : Int} {u0 u1 u2 : zV} : zS 79 108 [u0, u1, u2] [zI s0, zI s1, zR s2] sh pp mm Q ↔ zS 79 110 [zU, zU, zU] [zI 45, zI s0, zI s1, zR s2] sh pp mm Q := s_go cC_readToken_108 cC_readToken_110 rfl rfl
theorem rC_readToken_110 {s3 : Nat} {s0 s1 s2 : Int} {u0 u1 u2 : zV} : zS 79 110 [u0, u1, u2] [zI s0, zI s1, zI s2, zR s3] sh pp mm Q ↔ (s1 = s0 → zS 79 113 [zU, zU, zU] [zI s2, zR s3] sh pp mm Q) ∧ (¬ s1 = s0 → zS 79 117 [zU, zU, zU] [zI s2, zR s3] sh pp mm Q) := s_ifn cC_readToken_110 cC_readToken_113 cC_readToken_117 rfl rfl rfl
theorem rC_readToken_113 {s1 : Nat} {s0 : Int} {u0 u1 u2 : zV} : zS 79 113 [u0, u1, u2] [zI s0, zR s1] sh pp mm Q ↔ zS 79 114 [zU, zU, zU] [zI 1, zI s0, zR s1] sh pp mm Q := s_go cC_readToken_113 cC_readToken_114 rfl rfl
theorem rC_readToken_114 {s2 : Nat} {s0 s1 : Int} {u0 u1 u2 : zV} : zS 79 114 [u0, u1, u2] [zI s0, zI s1, zR s2] sh pp mm Q ↔ zS 79 118 [zU, zU, zU] [zI s0, zI s1, zR s2] sh pp mm Q := s_go cC_readToken_114 cC_readToken_118 rfl rfl
theorem rC_readToken_117 {s1 : Nat} {s0 : Int} {u0 u1 u2 : zV} : zS 79 117 [u0, u1, u2] [zI s0, zR s1] sh pp mm Q ↔ zS 79 118 [zU, zU, zU] [zI 0, zI s0, zR s1] sh pp mm Q := s_go cC_readToken_117 cC_readToken_118 rfl rfl
theorem rC_readToken_118 {s2 : Nat} {s0 s1 : Int} {u0 u1 u2 : zV} (hk : zKd sh s2 = 8) : zS 79 118 [u0, u1, u2] [zI s0, zI s1, zR s2] sh pp mm Q ↔ zS 82 0 [zR s2, zI s1, zI s0, zU, zU, zU] [] sh pp mm (fun v sh pp mm => zS 79 121 [zU, zU, zU] (zPush v []) sh pp mm Q) := s_call cC_readToken_118 cC_readToken_121 ((if_pos hk).trans rfl) rfl
theorem rC_readToken_121 {u0 u1 u2 : zV} : zS 79 121 [u0, u1, u2] [] sh pp mm Q ↔ zS 79 151 [zU, zU, zU] [] sh pp mm Q := s_go cC_readToken_121 cC_readToken_151 rfl rfl
theorem rC_readToken_124 {a0 : Nat} {a1 a2 : Int} : zS 79 124 [zR a0, zI a1, zI a2] [] sh pp mm Q ↔ zS 79 125 [zR a0, zI a1, zI a2] [zR a0] sh pp mm Q := s_go cC_readToken_124 cC_readToken_125 rfl rfl
theorem rC_readToken_125 {a0 s0 : Nat} {a1 a2 : Int} (hk : zKd sh s0 = 8) : zS 79 125 [zR a0, zI a1, zI a2] [zR s0] sh pp mm Q ↔ zS 79 128 [zR a0, zI a1, zI a2] [zR (pp s0 9)] sh pp mm Q := s_go cC_readToken_125 cC_readToken_128 (if_pos hk) rfl
theorem rC_readToken_128 {a0 s0 : Nat} {a1 a2 : Int} : zS 79 128 [zR a0, zI a1, zI a2] [zR s0] sh pp mm Q ↔ zS 79 129 [zR a0, zU, zI a2] [zI a1, zR s0] sh pp mm Q := s_go cC_readToken_128 cC_readToken_129 rfl rfl
theorem rC_readToken_129 {a0 s1 : Nat} {a2 s0 : Int} {u1 : zV} : zS 79 129 [zR a0, u1, zI a2] [zI s0, zR s1] sh pp mm Q ↔ zS 79 130 [zR a0, zU, zU] [zI a2, zI s0, zR s1] sh pp mm Q := s_go cC_readToken_129 cC_readToken_130 rfl rfl
theorem rC_readToken_130 {a0 s2 : Nat} {s0 s1 : Int} {u1 u2 : zV} : zS 79 130 [zR a0, u1, u2] [zI s0, zI s1, zR s2] sh pp mm Q ↔ zS 79 132 [zR a0, zU, zU] [zI 59, zI s0, zI s1, zR s2] sh pp mm Q := s_go cC_readToken_130 cC_readToken_132 rfl rfl
theorem rC_readToken_132 {a0 s3 : Nat} {s0 s1 s2 : Int} {u1 u2 : zV} : zS 79 132 [zR a0, u1, u2] [zI s0, zI s1, zI s2, zR s3] sh pp mm Q ↔ (s1 = s0 → zS 79 135 [zR a0, zU, zU] [zI s2, zR s3] sh pp mm Q) ∧ (¬ s1 = s0 → zS 79 139 [zR a0, zU, zU] [zI s2, zR s3] sh pp mm Q) := s_ifn cC_readToken_132 cC_readToken_135 cC_readToken_139 rfl rfl rfl
theorem rC_readToken_135 {a0 s1 : Nat} {s0 : Int} {u1 u2 : zV} : zS 79 135 [zR a0, u1, u2] [zI s0, zR s1] sh pp mm Q ↔ zS 79 136 [zR a0, zU, zU] [zI 2, zI s0, zR s1] sh pp mm Q := s_go cC_readToken_135 cC_readToken_136 rfl rfl
theorem rC_readToken_136 {a0 s2 : Nat} {s0 s1 : Int} {u1 u2 : zV} : zS 79 136 [zR a0, u1, u2] [zI s0, zI s1, zR s2] sh pp mm Q ↔ zS 79 140 [zR a0, zU, zU] [zI s0, zI s1, zR s2] sh pp mm Q := s_go cC_readToken_136 cC_readToken_140 rfl rfl
theorem rC_readToken_139 {a0 s1 : Nat} {s0 : Int} {u1 u2 : zV} : zS 79 139 [zR a0, u1, u2] [zI s0, zR s1] sh pp mm Q ↔ zS 79 140 [zR a0, zU, zU] [zI 1, zI s0, zR s1] sh pp mm Q := s_go cC_readToken_139 cC_readToken_140 rfl rfl
theorem rC_readToken_140 {a0 s2 : Nat} {s0 s1 : Int} {u1 u2 : zV} (hk : zKd sh s2 = 20) (h0 : 0 ≤ s1) (h1 : s1 < zLn sh s2) : zS 79 140 [zR a0, u1, u2] [zI s0, zI s1, zR s2] sh pp mm Q ↔ zS 79 141 [zR a0, zU, zU] [] sh pp (zupd mm s2 s1 s0) Q := s_go cC_readToken_140 cC_readToken_141 (if_pos ⟨hk, h0, h1, fun h => absurd h (by decide)⟩) rfl
theorem rC_readToken_141 {a0 : Nat} {u1 u2 : zV} : zS 79 141 [zR a0, u1, u2] [] sh pp mm Q ↔ zS 79 142 [zU, zU, zU] [zR a0] sh pp mm Q := s_go cC_readToken_141 cC_readToken_142 rfl rfl
theorem rC_readToken_142 {s0 : Nat} {u0 u1 u2 : zV} : zS 79 142 [u0, u1, u2] [zR s0] sh pp mm Q ↔ zS 79 143 [zU, zU, zU] [zR s0, zR s0] sh pp mm Q := s_go cC_readToken_142 cC_readToken_143 rfl rfl
theorem rC_readToken_143 {s0 s1 : Nat} {u0 u1 u2 : zV} (hk : zKd sh s0 = 8) : zS 79 143 [u0, u1, u2] [zR s0, zR s1] sh pp mm Q ↔ zS 79 146 [zU, zU, zU] [zI (mm s0 8), zR s1] sh pp mm Q := s_go cC_readToken_143 cC_readToken_146 (if_pos hk) rfl
theorem rC_readToken_146 {s1 : Nat} {s0 : Int} {u0 u1 u2 : zV} : zS 79 146 [u0, u1, u2] [zI s0, zR s1] sh pp mm Q ↔ zS 79 147 [zU, zU, zU] [zI 1, zI s0, zR s1] sh pp mm Q := s_go cC_readToken_146 cC_readToken_147 rfl rfl
theorem rC_readToken_147 {s2 : Nat} {s0 s1 : Int} {u0 u1 u2 : zV} : zS 79 147 [u0, u1, u2] [zI s0, zI s1, zR s2] sh pp mm Q ↔ zS 79 148 [zU, zU, zU] [zI (zw32 (s1 + s0)), zR s2] sh pp mm Q := s_go cC_readToken_147 cC_readToken_148 rfl rfl
theorem rC_readToken_148 {s1 : Nat} {s0 : Int} {u0 u1 u2 : zV} (hk : zKd sh s1 = 8) : zS 79 148 [u0, u1, u2] [zI s0, zR s1] sh pp mm Q ↔ zS 79 151 [zU, zU, zU] [] sh pp (zupd mm s1 8 s0) Q := s_go cC_readToken_148 cC_readToken_151 (if_pos ⟨hk, Or.inl rfl⟩) rfl
theorem rC_readToken_151 {u0 u1 u2 : zV} : zS 79 151 [u0, u1, u2] [] sh pp mm Q ↔ Q zU sh pp mm := s_ret cC_readToken_151 rfl
theorem cAC_readWord : ∀ q ∈ zT80, zCode 80 q.1 = some q.2 := zAll (mid := 80) rfl (by decide +kernel)
theorem cAC_readWord_0 : ∀ q ∈ zT80_0, zCode 80 q.1 = some q.2 := fun q h => cAC_readWord q (List.mem_append_left _ h)
theorem cAC_readWord_1 : ∀ q ∈ zT80_1, zCode 80 q.1 = some q.2 := fun q h => cAC_readWord q (List.mem_append_right _ (List.mem_append_left _ h))
theorem cAC_readWord_2 : ∀ q ∈ zT80_2, zCode 80 q.1 = some q.2 := fun q h => cAC_readWord q (List.mem_append_right _ (List.mem_append_right _ (List.mem_append_left _ h)))
theorem cAC_readWord_3 : ∀ q ∈ zT80_3, zCode 80 q.1 = some q.2 := fun q h => cAC_readWord q (List.mem_append_right _ (List.mem_append_right _ (List.mem_append_right _ (List.mem_append_left _ h))))
theorem cAC_readWord_4 : ∀ q ∈ zT80_4, zCode 80 q.1 = some q.2 := fun q h => cAC_readWord q (List.mem_append_right _ (List.mem_append_right _ (List.mem_append_right _ (List.mem_append_right _ (List.mem_append_left _ h)))))
theorem cAC_readWord_5 : ∀ q ∈ zT80_5, zCode 80 q.1 = some q.2 := fun q h => cAC_readWord q (List.mem_append_right _ (List.mem_append_right _ (List.mem_append_right _ (List.mem_append_right _ (List.mem_append_right _ h)))))
theorem cC_readWord_0 : zCode 80 0 = some (.aload_n 0, 1, 0, 0, 0, 0, 3) := cAC_readWord_0 _ (List.mem_of_getElem? (i := 0) rfl)
theorem cC_readWord_1 : zCode 80 1 = some (.getfield 38, 4, 8, 8, 0, 383, 3) := cAC_readWord_0 _ (List.mem_of_getElem? (i := 1) rfl)
theorem cC_readWord_4 : zCode 80 4 = some (.aload_n 0, 5, 0, 0, 0, 0, 3) := cAC_readWord_0 _ (List.mem_of_getElem? (i := 2) rfl)
theorem cC_readWord_5 : zCode 80 5 = some (.getfield 35, 8, 8, 7, 0, 382, 3) := cAC_readWord_0 _ (List.mem_of_getElem? (i := 3) rfl)
theorem cC_readWord_8 : zCode 80 8 = some (.if_icmp .ge 31, 11, 39, 0, 0, 0, 3) := cAC_readWord_0 _ (List.mem_of_getElem? (i := 4) rfl)
theorem cC_readWord_11 : zCode 80 11 = some (.aload_n 0, 12, 0, 0, 0, 0, 3) := cAC_readWord_0 _ (List.mem_of_getElem? (i := 5) rfl)
theorem cC_readWord_12 : zCode 80 12 = some (.getfield 32, 15, 8, 6, 2, 381, 3) := cAC_readWord_0 _ (List.mem_of_getElem? (i := 6) rfl)
theorem cC_readWord_15 : zCode 80 15 = some (.aload_n 0, 16, 0, 0, 0, 0, 3) := cAC_readWord_0 _ (List.mem_of_getElem? (i := 7) rfl)
theorem cC_readWord_16 : zCode 80 16 = some (.getfield 38, 19, 8, 8, 0, 383, 3) := cAC_readWord_0 _ (List.mem_of_getElem? (i := 8) rfl)
theorem cC_readWord_19 : zCode 80 19 = some (.iaload, 20, 0, 0, 0, 0, 3) := cAC_readWord_0 _ (List.mem_of_getElem? (i := 9) rfl)
theorem cC_readWord_20 : zCode 80 20 = some (.invokestatic 78, 23, 83, 1, 1, 8, 3) := cAC_readWord_0 _ (List.mem_of_getElem? (i := 10) rfl)
theorem cC_readWord_23 : zCode 80 23 = some (.ifCond .eq 16, 26, 39, 0, 0, 0, 3) := cAC_readWord_0 _ (List.mem_of_getElem? (i := 11) rfl)
theorem cC_readWord_26 : zCode 80 26 = some (.aload_n 0, 27, 0, 0, 0, 0, 3) := cAC_readWord_0 _ (List.mem_of_getElem? (i := 12) rfl)
theorem cC_readWord_27 : zCode 80 27 = some (.dup, 28, 0, 0, 0, 0, 3) := cAC_readWord_0 _ (List.mem_of_getElem? (i := 13) rfl)
theorem cC_readWord_28 : zCode 80 28 = some (.getfield 38, 31, 8, 8, 0, 383, 3) := cAC_readWord_0 _ (List.mem_of_getElem? (i := 14) rfl)
theorem cC_readWord_31 : zCode 80 31 = some (.iconst 1, 32, 0, 0, 0, 0, 3) := cAC_readWord_0 _ (List.mem_of_getElem? (i := 15) rfl)
theorem cC_readWord_32 : zCode 80 32 = some (.iadd, 33, 0, 0, 0, 0, 3) := cAC_readWord_1 _ (List.mem_of_getElem? (i := 0) rfl)
theorem cC_readWord_33 : zCode 80 33 = some (.putfield 38, 36, 8, 8, 0, 383, 3) := cAC_readWord_1 _ (List.mem_of_getElem? (i := 1) rfl)
theorem cC_readWord_36 : zCode 80 36 = some (.goto (-36), 39, 0, 0, 0, 0, 3) := cAC_readWord_1 _ (List.mem_of_getElem? (i := 2) rfl)
theorem cC_readWord_39 : zCode 80 39 = some (.aload_n 0, 40, 0, 0, 0, 0, 3) := cAC_readWord_1 _ (List.mem_of_getElem? (i := 3) rfl)
theorem cC_readWord_40 : zCode 80 40 = some (.aload_n 0, 41, 0, 0, 0, 0, 3) := cAC_readWord_1 _ (List.mem_of_getElem? (i := 4) rfl)
theorem cC_readWord_41 : zCode 80 41 = some (.getfield 44, 44, 8, 10, 2, 385, 3) := cAC_readWord_1 _ (List.mem_of_getElem? (i := 5) rfl)
theorem cC_readWord_44 : zCode 80 44 = some (.iload_n 1, 45, 0, 0, 0, 0, 3) := cAC_readWord_1 _ (List.mem_of_getElem? (i := 6) rfl)
theorem cC_readWord_45 : zCode 80 45 = some (.iaload, 46, 0, 0, 0, 0, 3) := cAC_readWord_1 _ (List.mem_of_getElem? (i := 7) rfl)
theorem cC_readWord_46 : zCode 80 46 = some (.ldc 92, 48, 1, 5, 606, 0, 3) := cAC_readWord_1 _ (List.mem_of_getElem? (i := 8) rfl)
theorem cC_readWord_48 : zCode 80 48 = some (.invokevirtual 94, 51, 81, 2, 4, 8, 3) := cAC_readWord_1 _ (List.mem_of_getElem? (i := 9) rfl)
theorem cC_readWord_51 : zCode 80 51 = some (.ifCond .eq 13, 54, 64, 0, 0, 0, 3) := cAC_readWord_1 _ (List.mem_of_getElem? (i := 10) rfl)
theorem cC_readWord_54 : zCode 80 54 = some (.aload_n 0, 55, 0, 0, 0, 0, 3) := cAC_readWord_1 _ (List.mem_of_getElem? (i := 11) rfl)
theorem cC_readWord_55 : zCode 80 55 = some (.getfield 41, 58, 8, 9, 2, 384, 2) := cAC_readWord_1 _ (List.mem_of_getElem? (i := 12) rfl)
theorem cC_readWord_58 : zCode 80 58 = some (.iload_n 1, 59, 0, 0, 0, 0, 2) := cAC_readWord_1 _ (List.mem_of_getElem? (i := 13) rfl)
theorem cC_readWord_59 : zCode 80 59 = some (.iconst 4, 60, 0, 0, 0, 0, 0) := cAC_readWord_1 _ (List.mem_of_getElem? (i := 14) rfl)
theorem cC_readWord_60 : zCode 80 60 = some (.iastore, 61, 0, 0, 0, 0, 0) := cAC_readWord_1 _ (List.mem_of_getElem? (i := 15) rfl)
theorem cC_readWord_61 : zCode 80 61 = some (.goto 87, 64, 148, 0, 0, 0, 0) := cAC_readWord_2 _ (List.mem_of_getElem? (i := 0) rfl)
theorem cC_readWord_64 : zCode 80 64 = some (.aload_n 0, 65, 0, 0, 0, 0, 3) := cAC_readWord_2 _ (List.mem_of_getElem? (i := 1) rfl)
theorem cC_readWord_65 : zCode 80 65 = some (.aload_n 0, 66, 0, 0, 0, 0, 3) := cAC_readWord_2 _ (List.mem_of_getElem? (i := 2) rfl)
theorem cC_readWord_66 : zCode 80 66 = some (.getfield 44, 69, 8, 10, 2, 385, 3) := cAC_readWord_2 _ (List.mem_of_getElem? (i := 3) rfl)
theorem cC_readWord_69 : zCode 80 69 = some (.iload_n 1, 70, 0, 0, 0, 0, 3) := cAC_readWord_2 _ (List.mem_of_getElem? (i := 4) rfl)
theorem cC_readWord_70 : zCode 80 70 = some (.iaload, 71, 0, 0, 0, 0, 3) := cAC_readWord_2 _ (List.mem_of_getElem? (i := 5) rfl)
theorem cC_readWord_71 : zCode 80 71 = some (.ldc 98, 73, 1, 6, 659, 0, 3) := cAC_readWord_2 _ (List.mem_of_getElem? (i := 6) rfl)
theorem cC_readWord_73 : zCode 80 73 = some (.invokevirtual 94, 76, 81, 2, 4, 8, 3) := cAC_readWord_2 _ (List.mem_of_getElem? (i := 7) rfl)
theorem cC_readWord_76 : zCode 80 76 = some (.ifCond .eq 13, 79, 89, 0, 0, 0, 3) := cAC_readWord_2 _ (List.mem_of_getElem? (i := 8) rfl)
theorem cC_readWord_79 : zCode 80 79 = some (.aload_n 0, 80, 0, 0, 0, 0, 3) := cAC_readWord_2 _ (List.mem_of_getElem? (i := 9) rfl)
theorem cC_readWord_80 : zCode 80 80 = some (.getfield 41, 83, 8, 9, 2, 384, 2) := cAC_readWord_2 _ (List.mem_of_getElem? (i := 10) rfl)
theorem cC_readWord_83 : zCode 80 83 = some (.iload_n 1, 84, 0, 0, 0, 0, 2) := cAC_readWord_2 _ (List.mem_of_getElem? (i := 11) rfl)
theorem cC_readWord_84 : zCode 80 84 = some (.iconst 5, 85, 0, 0, 0, 0, 0) := cAC_readWord_2 _ (List.mem_of_getElem? (i := 12) rfl)
theorem cC_readWord_85 : zCode 80 85 = some (.iastore, 86, 0, 0, 0, 0, 0) := cAC_readWord_2 _ (List.mem_of_getElem? (i := 13) rfl)
theorem cC_readWord_86 : zCode 80 86 = some (.goto 62, 89, 148, 0, 0, 0, 0) := cAC_readWord_2 _ (List.mem_of_getElem? (i := 14) rfl)
theorem cC_readWord_89 : zCode 80 89 = some (.aload_n 0, 90, 0, 0, 0, 0, 3) := cAC_readWord_2 _ (List.mem_of_getElem? (i := 15) rfl)
theorem cC_readWord_90 : zCode 80 90 = some (.aload_n 0, 91, 0, 0, 0, 0, 3) := cAC_readWord_3 _ (List.mem_of_getElem? (i := 0) rfl)
theorem cC_readWord_91 : zCode 80 91 = some (.getfield 44, 94, 8, 10, 2, 385, 3) := cAC_readWord_3 _ (List.mem_of_getElem? (i := 1) rfl)
theorem cC_readWord_94 : zCode 80 94 = some (.iload_n 1, 95, 0, 0, 0, 0, 3) := cAC_readWord_3 _ (List.mem_of_getElem? (i := 2) rfl)
theorem cC_readWord_95 : zCode 80 95 = some (.iaload, 96, 0, 0, 0, 0, 3) := cAC_readWord_3 _ (List.mem_of_getElem? (i := 3) rfl)
theorem cC_readWord_96 : zCode 80 96 = some (.ldc 100, 98, 1, 7, 660, 0, 3) := cAC_readWord_3 _ (List.mem_of_getElem? (i := 4) rfl)
theorem cC_readWord_98 : zCode 80 98 = some (.invokevirtual 94, 101, 81, 2, 4, 8, 3) := cAC_readWord_3 _ (List.mem_of_getElem? (i := 5) rfl)
theorem cC_readWord_101 : zCode 80 101 = some (.ifCond .eq 14, 104, 115, 0, 0, 0, 3) := cAC_readWord_3 _ (List.mem_of_getElem? (i := 6) rfl)
theorem cC_readWord_104 : zCode 80 104 = some (.aload_n 0, 105, 0, 0, 0, 0, 3) := cAC_readWord_3 _ (List.mem_of_getElem? (i := 7) rfl)
theorem cC_readWord_105 : zCode 80 105 = some (.getfield 41, 108, 8, 9, 2, 384, 2) := cAC_readWord_3 _ (List.mem_of_getElem? (i := 8) rfl)
theorem cC_readWord_108 : zCode 80 108 = some (.iload_n 1, 109, 0, 0, 0, 0, 2) := cAC_readWord_3 _ (List.mem_of_getElem? (i := 9) rfl)
theorem cC_readWord_109 : zCode 80 109 = some (.bipush 6, 111, 0, 0, 0, 0, 0) := cAC_readWord_3 _ (List.mem_of_getElem? (i := 10) rfl)
theorem cC_readWord_111 : zCode 80 111 = some (.iastore, 112, 0, 0, 0, 0, 0) := cAC_readWord_3 _ (List.mem_of_getElem? (i := 11) rfl)
theorem cC_readWord_112 : zCode 80 112 = some (.goto 36, 115, 148, 0, 0, 0, 0) := cAC_readWord_3 _ (List.mem_of_getElem? (i := 12) rfl)
theorem cC_readWord_115 : zCode 80 115 = some (.aload_n 0, 116, 0, 0, 0, 0, 3) := cAC_readWord_3 _ (List.mem_of_getElem? (i := 13) rfl)
theorem cC_readWord_116 : zCode 80 116 = some (.aload_n 0, 117, 0, 0, 0, 0, 3) := cAC_readWord_3 _ (List.mem_of_getElem? (i := 14) rfl)
theorem cC_readWord_117 : zCode 80 117 = some (.getfield 44, 120, 8, 10, 2, 385, 3) := cAC_readWord_3 _ (List.mem_of_getElem? (i := 15) rfl)
theorem cC_readWord_120 : zCode 80 120 = some (.iload_n 1, 121, 0, 0, 0, 0, 3) := cAC_readWord_4 _ (List.mem_of_getElem? (i := 0) rfl)
theorem cC_readWord_121 : zCode 80 121 = some (.iaload, 122, 0, 0, 0, 0, 3) := cAC_readWord_4 _ (List.mem_of_getElem? (i := 1) rfl)
theorem cC_readWord_122 : zCode 80 122 = some (.ldc 102, 124, 1, 8, 661, 0, 3) := cAC_readWord_4 _ (List.mem_of_getElem? (i := 2) rfl)
theorem cC_readWord_124 : zCode 80 124 = some (.invokevirtual 94, 127, 81, 2, 4, 8, 3) := cAC_readWord_4 _ (List.mem_of_getElem? (i := 3) rfl)
theorem cC_readWord_127 : zCode 80 127 = some (.ifCond .eq 14, 130, 141, 0, 0, 0, 3) := cAC_readWord_4 _ (List.mem_of_getElem? (i := 4) rfl)
theorem cC_readWord_130 : zCode 80 130 = some (.aload_n 0, 131, 0, 0, 0, 0, 3) := cAC_readWord_4 _ (List.mem_of_getElem? (i := 5) rfl)
theorem cC_readWord_131 : zCode 80 131 = some (.getfield 41, 134, 8, 9, 2, 384, 2) := cAC_readWord_4 _ (List.mem_of_getElem? (i := 6) rfl)
theorem cC_readWord_134 : zCode 80 134 = some (.iload_n 1, 135, 0, 0, 0, 0, 2) := cAC_readWord_4 _ (List.mem_of_getElem? (i := 7) rfl)
theorem cC_readWord_135 : zCode 80 135 = some (.bipush 7, 137, 0, 0, 0, 0, 0) := cAC_readWord_4 _ (List.mem_of_getElem? (i := 8) rfl)
theorem cC_readWord_137 : zCode 80 137 = some (.iastore, 138, 0, 0, 0, 0, 0) := cAC_readWord_4 _ (List.mem_of_getElem? (i := 9) rfl)
theorem cC_readWord_138 : zCode 80 138 = some (.goto 10, 141, 148, 0, 0, 0, 0) := cAC_readWord_4 _ (List.mem_of_getElem? (i := 10) rfl)
theorem cC_readWord_141 : zCode 80 141 = some (.aload_n 0, 142, 0, 0, 0, 0, 3) := cAC_readWord_4 _ (List.mem_of_getElem? (i := 11) rfl)
theorem cC_readWord_142 : zCode 80 142 = some (.getfield 41, 145, 8, 9, 2, 384, 2) := cAC_readWord_4 _ (List.mem_of_getElem? (i := 12) rfl)
theorem cC_readWord_145 : zCode 80 145 = some (.iload_n 1, 146, 0, 0, 0, 0, 2) := cAC_readWord_4 _ (List.mem_of_getElem? (i := 13) rfl)
theorem cC_readWord_146 : zCode 80 146 = some (.iconst 1, 147, 0, 0, 0, 0, 0) := cAC_readWord_4 _ (List.mem_of_getElem? (i := 14) rfl)
theorem cC_readWord_147 : zCode 80 147 = some (.iastore, 148, 0, 0, 0, 0, 0) := cAC_readWord_4 _ (List.mem_of_getElem? (i := 15) rfl)
theorem cC_readWord_148 : zCode 80 148 = some (.return_, 149, 0, 0, 0, 0, 0) := cAC_readWord_5 _ (List.mem_of_getElem? (i := 0) rfl)
theorem rC_readWord_0 {a0 : Nat} {a1 : Int} : zS 80 0 [zR a0, zI a1] [] sh pp mm Q ↔ zS 80 1 [zR a0, zI a1] [zR a0] sh pp mm Q := s_go cC_readWord_0 cC_readWord_1 rfl rfl
theorem rC_readWord_1 {a0 s0 : Nat} {a1 : Int} (hk : zKd sh s0 = 8) : zS 80 1 [zR a0, zI a1] [zR s0] sh pp mm Q ↔ zS 80 4 [zR a0, zI a1] [zI (mm s0 8)] sh pp mm Q := s_go cC_readWord_1 cC_readWord_4 (if_pos hk) rfl
theorem rC_readWord_4 {a0 : Nat} {a1 s0 : Int} : zS 80 4 [zR a0, zI a1] [zI s0] sh pp mm Q ↔ zS 80 5 [zR a0, zI a1] [zR a0, zI s0] sh pp mm Q := s_go cC_readWord_4 cC_readWord_5 rfl rfl
theorem rC_readWord_5 {a0 s0 : Nat} {a1 s1 : Int} (hk : zKd sh s0 = 8) : zS 80 5 [zR a0, zI a1] [zR s0, zI s1] sh pp mm Q ↔ zS 80 8 [zR a0, zI a1] [zI (mm s0 7), zI s1] sh pp mm Q := s_go cC_readWord_5 cC_readWord_8 (if_pos hk) rfl
theorem rC_readWord_8 {a0 : Nat} {a1 s0 s1 : Int} : zS 80 8 [zR a0, zI a1] [zI s0, zI s1] sh pp mm Q ↔ (s1 < s0 → zS 80 11 [zR a0, zI a1] [] sh pp mm Q) ∧ (¬ s1 < s0 → zS 80 39 [zR a0, zI a1] [] sh pp mm Q) := s_ifn cC_readWord_8 cC_readWord_11 cC_readWord_39 rfl rfl rfl
theorem rC_readWord_11 {a0 : Nat} {a1 : Int} : zS 80 11 [zR a0, zI a1] [] sh pp mm Q ↔ zS 80 12 [zR a0, zI a1] [zR a0] sh pp mm Q := s_go cC_readWord_11 cC_readWord_12 rfl rfl
theorem rC_readWord_12 {a0 s0 : Nat} {a1 : Int} (hk : zKd sh s0 = 8) : zS 80 12 [zR a0, zI a1] [zR s0] sh pp mm Q ↔ zS 80 15 [zR a0, zI a1] [zR (pp s0 6)] sh pp mm Q := s_go cC_readWord_12 cC_readWord_15 (if_pos hk) rfl
theorem rC_readWord_15 {a0 s0 : Nat} {a1 : Int} : zS 80 15 [zR a0, zI a1] [zR s0] sh pp mm Q ↔ zS 80 16 [zR a0, zI a1] [zR a0, zR s0] sh pp mm Q := s_go cC_readWord_15 cC_readWord_16 rfl rfl
theorem rC_readWord_16 {a0 s0 s1 : Nat} {a1 : Int} (hk : zKd sh s0 = 8) : zS 80 16 [zR a0, zI a1] [zR s0, zR s1] sh pp mm Q ↔ zS 80 19 [zR a0, zI a1] [zI (mm s0 8), zR s1] sh pp mm Q := s_go cC_readWord_16 cC_readWord_19 (if_pos hk) rfl
theorem rC_readWord_19 {a0 s1 : Nat} {a1 s0 : Int} (hk : zKd sh s1 = 20 ∨ zKd sh s1 = 30) (h0 : 0 ≤ s0) (h1 : s0 < zLn sh s1) : zS 80 19 [zR a0, zI a1] [zI s0, zR s1] sh pp mm Q ↔ zS 80 20 [zR a0, zI a1] [zI (mm s1 s0)] sh pp mm Q := s_go cC_readWord_19 cC_readWord_20 (if_pos ⟨hk, h0, h1⟩) rfl
theorem rC_readWord_20 {a0 : Nat} {a1 s0 : Int} : zS 80 20 [zR a0, zI a1] [zI s0] sh pp mm Q ↔ zS 83 0 [zI s0] [] sh pp mm (fun v sh pp mm => zS 80 23 [zR a0, zI a1] (zPush v []) sh pp mm Q) := s_call cC_readWord_20 cC_readWord_23 rfl rfl
theorem rC_readWord_23 {a0 : Nat} {a1 s0 : Int} : zS 80 23 [zR a0, zI a1] [zI s0] sh pp mm Q ↔ (s0 = 0 → zS 80 39 [zR a0, zI a1] [] sh pp mm Q) ∧ (¬ s0 = 0 → zS 80 26 [zR a0, zI a1] [] sh pp mm Q) := s_if cC_readWord_23 cC_readWord_39 cC_readWord_26 rfl rfl rfl
theorem rC_readWord_26 {a0 : Nat} {a1 : Int} : zS 80 26 [zR a0, zI a1] [] sh pp mm Q ↔ zS 80 27 [zR a0, zI a1] [zR a0] sh pp mm Q := s_go cC_readWord_26 cC_readWord_27 rfl rfl
theorem rC_readWord_27 {a0 s0 : Nat} {a1 : Int} : zS 80 27 [zR a0, zI a1] [zR s0] sh pp mm Q ↔ zS 80 28 [zR a0, zI a1] [zR s0, zR s0] sh pp mm Q := s_go cC_readWord_27 cC_readWord_28 rfl rfl
theorem rC_readWord_28 {a0 s0 s1 : Nat} {a1 : Int} (hk : zKd sh s0 = 8) : zS 80 28 [zR a0, zI a1] [zR s0, zR s1] sh pp mm Q ↔ zS 80 31 [zR a0, zI a1] [zI (mm s0 8), zR s1] sh pp mm Q := s_go cC_readWord_28 cC_readWord_31 (if_pos hk) rfl
theorem rC_readWord_31 {a0 s1 : Nat} {a1 s0 : Int} : zS 80 31 [zR a0, zI a1] [zI s0, zR s1] sh pp mm Q ↔ zS 80 32 [zR a0, zI a1] [zI 1, zI s0, zR s1] sh pp mm Q := s_go cC_readWord_31 cC_readWord_32 rfl rfl
theorem rC_readWord_32 {a0 s2 : Nat} {a1 s0 s1 : Int} : zS 80 32 [zR a0, zI a1] [zI s0, zI s1, zR s2] sh pp mm Q ↔ zS 80 33 [zR a0, zI a1] [zI (zw32 (s1 + s0)), zR s2] sh pp mm Q := s_go cC_readWord_32 cC_readWord_33 rfl rfl
theorem rC_readWord_33 {a0 s1 : Nat} {a1 s0 : Int} (hk : zKd sh s1 = 8) : zS 80 33 [zR a0, zI a1] [zI s0, zR s1] sh pp mm Q ↔ zS 80 36 [zR a0, zI a1] [] sh pp (zupd mm s1 8 s0) Q := s_go cC_readWord_33 cC_readWord_36 (if_pos ⟨hk, Or.inl rfl⟩) rfl
theorem rC_readWord_36 {a0 : Nat} {a1 : Int} : zS 80 36 [zR a0, zI a1] [] sh pp mm Q ↔ zS 80 0 [zR a0, zI a1] [] sh pp mm Q := s_go cC_readWord_36 cC_readWord_0 rfl rfl
theorem rC_readWord_39 {a0 : Nat} {a1 : Int} : zS 80 39 [zR a0, zI a1] [] sh pp mm Q ↔ zS 80 40 [zR a0, zI a1] [zR a0] sh pp mm Q := s_go cC_readWord_39 cC_readWord_40 rfl rfl
theorem rC_readWord_40 {a0 s0 : Nat} {a1 : Int} : zS 80 40 [zR a0, zI a1] [zR s0] sh pp mm Q ↔ zS 80 41 [zR a0, zI a1] [zR a0, zR s0] sh pp mm Q := s_go cC_readWord_40 cC_readWord_41 rfl rfl
theorem rC_readWord_41 {a0 s0 s1 : Nat} {a1 : Int} (hk : zKd sh s0 = 8) : zS 80 41 [zR a0, zI a1] [zR s0, zR s1] sh pp mm Q ↔ zS 80 44 [zR a0, zI a1] [zR (pp s0 10), zR s1] sh pp mm Q := s_go cC_readWord_41 cC_readWord_44 (if_pos hk) rfl
theorem rC_readWord_44 {a0 s0 s1 : Nat} {a1 : Int} : zS 80 44 [zR a0, zI a1] [zR s0, zR s1] sh pp mm Q ↔ zS 80 45 [zR a0, zI a1] [zI a1, zR s0, zR s1] sh pp mm Q := s_go cC_readWord_44 cC_readWord_45 rfl rfl
theorem rC_readWord_45 {a0 s1 s2 : Nat} {a1 s0 : Int} (hk : zKd sh s1 = 20 ∨ zKd sh s1 = 30) (h0 : 0 ≤ s0) (h1 : s0 < zLn sh s1) : zS 80 45 [zR a0, zI a1] [zI s0, zR s1, zR s2] sh pp mm Q ↔ zS 80 46 [zR a0, zI a1] [zI (mm s1 s0), zR s2] sh pp mm Q := s_go cC_readWord_45 cC_readWord_46 (if_pos ⟨hk, h0, h1⟩) rfl
theorem rC_readWord_46 {a0 s1 : Nat} {a1 s0 : Int} : zS 80 46 [zR a0, zI a1] [zI s0, zR s1] sh pp mm Q ↔ zS 80 48 [zR a0, zI a1] [zR 5, zI s0, zR s1] sh pp mm Q := s_go cC_readWord_46 cC_readWord_48 rfl rfl
theorem rC_readWord_48 {a0 s0 s2 : Nat} {a1 s1 : Int} (hk : zKd sh s2 = 8) : zS 80 48 [zR a0, zI a1] [zR s0, zI s1, zR s2] sh pp mm Q ↔ zS 81 0 [zR s2, zI s1, zR s0, zU] [] sh pp mm (fun v sh pp mm => zS 80 51 [zR a0, zI a1] (zPush v []) sh pp mm Q) := s_call cC_readWord_48 cC_readWord_51 ((if_pos hk).trans rfl) rfl
theorem rC_readWord_51 {a0 : Nat} {a1 s0 : Int} : zS 80 51 [zR a0, zI a1] [zI s0] sh pp mm Q ↔ (s0 = 0 → zS 80 64 [zR a0, zI a1] [] sh pp mm Q) ∧ (¬ s0 = 0 → zS 80 54 [zR a0, zI a1] [] sh pp mm Q) := s_if cC_readWord_51 cC_readWord_64 cC_readWord_54 rfl rfl rfl
theorem rC_readWord_54 {a0 : Nat} {a1 : Int} : zS 80 54 [zR a0, zI a1] [] sh pp mm Q ↔ zS 80 55 [zU, zI a1] [zR a0] sh pp mm Q := s_go cC_readWord_54 cC_readWord_55 rfl rfl
theorem rC_readWord_55 {s0 : Nat} {a1 : Int} {u0 : zV} (hk : zKd sh s0 = 8) : zS 80 55 [u0, zI a1] [zR s0] sh pp mm Q ↔ zS 80 58 [zU, zI a1] [zR (pp s0 9)] sh pp mm Q := s_go cC_readWord_55 cC_readWord_58 (if_pos hk) rfl
theorem rC_readWord_58 {s0 : Nat} {a1 : Int} {u0 : zV} : zS 80 58 [u0, zI a1] [zR s0] sh pp mm Q ↔ zS 80 59 [zU, zU] [zI a1, zR s0] sh pp mm Q := s_go cC_readWord_58 cC_readWord_59 rfl rfl
theorem rC_readWord_59 {s1 : Nat} {s0 : Int} {u0 u1 : zV} : zS 80 59 [u0, u1] [zI s0, zR s1] sh pp mm Q ↔ zS 80 60 [zU, zU] [zI 4, zI s0, zR s1] sh pp mm Q := s_go cC_readWord_59 cC_readWord_60 rfl rfl
theorem rC_readWord_60 {s2 : Nat} {s0 s1 : Int} {u0 u1 : zV} (hk : zKd sh s2 = 20) (h0 : 0 ≤ s1) (h1 : s1 < zLn sh s2) : zS 80 60 [u0, u1] [zI s0, zI s1, zR s2] sh pp mm Q ↔ zS 80 61 [zU, zU] [] sh pp (zupd mm s2 s1 s0) Q := s_go cC_readWord_60 cC_readWord_61 (if_pos ⟨hk, h0, h1, fun h => absurd h (by decide)⟩) rfl
theorem rC_readWord_61 {u0 u1 : zV} : zS 80 61 [u0, u1] [] sh pp mm Q ↔ zS 80 148 [zU, zU] [] sh pp mm Q := s_go cC_readWord_61 cC_readWord_148 rfl rfl
theorem rC_readWord_64 {a0 : Nat} {a1 : Int} : zS 80 64 [zR a0, zI a1] [] sh pp mm Q ↔ zS 80 65 [zR a0, zI a1] [zR a0] sh pp mm Q := s_go cC_readWord_64 cC_readWord_65 rfl rfl
theorem rC_readWord_65 {a0 s0 : Nat} {a1 : Int} : zS 80 65 [zR a0, zI a1] [zR s0] sh pp mm Q ↔ zS 80 66 [zR a0, zI a1] [zR a0, zR s0] sh pp mm Q := s_go cC_readWord_65 cC_readWord_66 rfl rfl
theorem rC_readWord_66 {a0 s0 s1 : Nat} {a1 : Int} (hk : zKd sh s0 = 8) : zS 80 66 [zR a0, zI a1] [zR s0, zR s1] sh pp mm Q ↔ zS 80 69 [zR a0, zI a1] [zR (pp s0 10), zR s1] sh pp mm Q := s_go cC_readWord_66 cC_readWord_69 (if_pos hk) rfl
theorem rC_readWord_69 {a0 s0 s1 : Nat} {a1 : Int} : zS 80 69 [zR a0, zI a1] [zR s0, zR s1] sh pp mm Q ↔ zS 80 70 [zR a0, zI a1] [zI a1, zR s0, zR s1] sh pp mm Q := s_go cC_readWord_69 cC_readWord_70 rfl rfl
theorem rC_readWord_70 {a0 s1 s2 : Nat} {a1 s0 : Int} (hk : zKd sh s1 = 20 ∨ zKd sh s1 = 30) (h0 : 0 ≤ s0) (h1 : s0 < zLn sh s1) : zS 80 70 [zR a0, zI a1] [zI s0, zR s1, zR s2] sh pp mm Q ↔ zS 80 71 [zR a0, zI a1] [zI (mm s1 s0), zR s2] sh pp mm Q := s_go cC_readWord_70 cC_readWord_71 (if_pos ⟨hk, h0, h1⟩) rfl
theorem rC_readWord_71 {a0 s1 : Nat} {a1 s0 : Int} : zS 80 71 [zR a0, zI a1] [zI s0, zR s1] sh pp mm Q ↔ zS 80 73 [zR a0, zI a1] [zR 6, zI s0, zR s1] sh pp mm Q := s_go cC_readWord_71 cC_readWord_73 rfl rfl
theorem rC_readWord_73 {a0 s0 s2 : Nat} {a1 s1 : Int} (hk : zKd sh s2 = 8) : zS 80 73 [zR a0, zI a1] [zR s0, zI s1, zR s2] sh pp mm Q ↔ zS 81 0 [zR s2, zI s1, zR s0, zU] [] sh pp mm (fun v sh pp mm => zS 80 76 [zR a0, zI a1] (zPush v []) sh pp mm Q) := s_call cC_readWord_73 cC_readWord_76 ((if_pos hk).trans rfl) rfl
theorem rC_readWord_76 {a0 : Nat} {a1 s0 : Int} : zS 80 76 [zR a0, zI a1] [zI s0] sh pp mm Q ↔ (s0 = 0 → zS 80 89 [zR a0, zI a1] [] sh pp mm Q) ∧ (¬ s0 = 0 → zS 80 79 [zR a0, zI a1] [] sh pp mm Q) := s_if cC_readWord_76 cC_readWord_89 cC_readWord_79 rfl rfl rfl
theorem rC_readWord_79 {a0 : Nat} {a1 : Int} : zS 80 79 [zR a0, zI a1] [] sh pp mm Q ↔ zS 80 80 [zU, zI a1] [zR a0] sh pp mm Q := s_go cC_readWord_79 cC_readWord_80 rfl rfl
theorem rC_readWord_80 {s0 : Nat} {a1 : Int} {u0 : zV} (hk : zKd sh s0 = 8) : zS 80 80 [u0, zI a1] [zR s0] sh pp mm Q ↔ zS 80 83 [zU, zI a1] [zR (pp s0 9)] sh pp mm Q := s_go cC_readWord_80 cC_readWord_83 (if_pos hk) rfl
theorem rC_readWord_83 {s0 : Nat} {a1 : Int} {u0 : zV} : zS 80 83 [u0, zI a1] [zR s0] sh pp mm Q ↔ zS 80 84 [zU, zU] [zI a1, zR s0] sh pp mm Q := s_go cC_readWord_83 cC_readWord_84 rfl rfl
theorem rC_readWord_84 {s1 : Nat} {s0 : Int} {u0 u1 : zV} : zS 80 84 [u0, u1] [zI s0, zR s1] sh pp mm Q ↔ zS 80 85 [zU, zU] [zI 5, zI s0, zR s1] sh pp mm Q := s_go cC_readWord_84 cC_readWord_85 rfl rfl
theorem rC_readWord_85 {s2 : Nat} {s0 s1 : Int} {u0 u1 : zV} (hk : zKd sh s2 = 20) (h0 : 0 ≤ s1) (h1 : s1 < zLn sh s2) : zS 80 85 [u0, u1] [zI s0, zI s1, zR s2] sh pp mm Q ↔ zS 80 86 [zU, zU] [] sh pp (zupd mm s2 s1 s0) Q := s_go cC_readWord_85 cC_readWord_86 (if_pos ⟨hk, h0, h1, fun h => absurd h (by decide)⟩) rfl
theorem rC_readWord_86 {u0 u1 : zV} : zS 80 86 [u0, u1] [] sh pp mm Q ↔ zS 80 148 [zU, zU] [] sh pp mm Q := s_go cC_readWord_86 cC_readWord_148 rfl rfl
theorem rC_readWord_89 {a0 : Nat} {a1 : Int} : zS 80 89 [zR a0, zI a1] [] sh pp mm Q ↔ zS 80 90 [zR a0, zI a1] [zR a0] sh pp mm Q := s_go cC_readWord_89 cC_readWord_90 rfl rfl
theorem rC_readWord_90 {a0 s0 : Nat} {a1 : Int} : zS 80 90 [zR a0, zI a1] [zR s0] sh pp mm Q ↔ zS 80 91 [zR a0, zI a1] [zR a0, zR s0] sh pp mm Q := s_go cC_readWord_90 cC_readWord_91 rfl rfl
theorem rC_readWord_91 {a0 s0 s1 : Nat} {a1 : Int} (hk : zKd sh s0 = 8) : zS 80 91 [zR a0, zI a1] [zR s0, zR s1] sh pp mm Q ↔ zS 80 94 [zR a0, zI a1] [zR (pp s0 10), zR s1] sh pp mm Q := s_go cC_readWord_91 cC_readWord_94 (if_pos hk) rfl
theorem rC_readWord_94 {a0 s0 s1 : Nat} {a1 : Int} : zS 80 94 [zR a0, zI a1] [zR s0, zR s1] sh pp mm Q ↔ zS 80 95 [zR a0, zI a1] [zI a1, zR s0, zR s1] sh pp mm Q := s_go cC_readWord_94 cC_readWord_95 rfl rfl
theorem rC_readWord_95 {a0 s1 s2 : Nat} {a1 s0 : Int} (hk : zKd sh s1 = 20 ∨ zKd sh s1 = 30) (h0 : 0 ≤ s0) (h1 : s0 < zLn sh s1) : zS 80 95 [zR a0, zI a1] [zI s0, zR s1, zR s2] sh pp mm Q ↔ zS 80 96 [zR a0, zI a1] [zI (mm s1 s0), zR s2] sh pp mm Q := s_go cC_readWord_95 cC_readWord_96 (if_pos ⟨hk, h0, h1⟩) rfl
theorem rC_readWord_96 {a0 s1 : Nat} {a1 s0 : Int} : zS 80 96 [zR a0, zI a1] [zI s0, zR s1] sh pp mm Q ↔ zS 80 98 [zR a0, zI a1] [zR 7, zI s0, zR s1] sh pp mm Q := s_go cC_readWord_96 cC_readWord_98 rfl rfl
theorem rC_readWord_98 {a0 s0 s2 : Nat} {a1 s1 : Int} (hk : zKd sh s2 = 8) : zS 80 98 [zR a0, zI a1] [zR s0, zI s1, zR s2] sh pp mm Q ↔ zS 81 0 [zR s2, zI s1, zR s0, zU] [] sh pp mm (fun v sh pp mm => zS 80 101 [zR a0, zI a1] (zPush v []) sh pp mm Q) := s_call cC_readWord_98 cC_readWord_101 ((if_pos hk).trans rfl) rfl
theorem rC_readWord_101 {a0 : Nat} {a1 s0 : Int} : zS 80 101 [zR a0, zI a1] [zI s0] sh pp mm Q ↔ (s0 = 0 → zS 80 115 [zR a0, zI a1] [] sh pp mm Q) ∧ (¬ s0 = 0 → zS 80 104 [zR a0, zI a1] [] sh pp mm Q) := s_if cC_readWord_101 cC_readWord_115 cC_readWord_104 rfl rfl rfl
theorem rC_readWord_104 {a0 : Nat} {a1 : Int} : zS 80 104 [zR a0, zI a1] [] sh pp mm Q ↔ zS 80 105 [zU, zI a1] [zR a0] sh pp mm Q := s_go cC_readWord_104 cC_readWord_105 rfl rfl
theorem rC_readWord_105 {s0 : Nat} {a1 : Int} {u0 : zV} (hk : zKd sh s0 = 8) : zS 80 105 [u0, zI a1] [zR s0] sh pp mm Q ↔ zS 80 108 [zU, zI a1] [zR (pp s0 9)] sh pp mm Q := s_go cC_readWord_105 cC_readWord_108 (if_pos hk) rfl
theorem rC_readWord_108 {s0 : Nat} {a1 : Int} {u0 : zV} : zS 80 108 [u0, zI a1] [zR s0] sh pp mm Q ↔ zS 80 109 [zU, zU] [zI a1, zR s0] sh pp mm Q := s_go cC_readWord_108 cC_readWord_109 rfl rfl
theorem rC_readWord_109 {s1 : Nat} {s0 : Int} {u0 u1 : zV} : zS 80 109 [u0, u1] [zI s0, zR s1] sh pp mm Q ↔ zS 80 111 [zU, zU] [zI 6, zI s0, zR s1] sh pp mm Q := s_go cC_readWord_109 cC_readWord_111 rfl rfl
theorem rC_readWord_111 {s2 : Nat} {s0 s1 : Int} {u0 u1 : zV} (hk : zKd sh s2 = 20) (h0 : 0 ≤ s1) (h1 : s1 < zLn sh s2) : zS 80 111 [u0, u1] [zI s0, zI s1, zR s2] sh pp mm Q ↔ zS 80 112 [zU, zU] [] sh pp (zupd mm s2 s1 s0) Q := s_go cC_readWord_111 cC_readWord_112 (if_pos ⟨hk, h0, h1, fun h => absurd h (by decide)⟩) rfl
theorem rC_readWord_112 {u0 u1 : zV} : zS 80 112 [u0, u1] [] sh pp mm Q ↔ zS 80 148 [zU, zU] [] sh pp mm Q := s_go cC_readWord_112 cC_readWord_148 rfl rfl
theorem rC_readWord_115 {a0 : Nat} {a1 : Int} : zS 80 115 [zR a0, zI a1] [] sh pp mm Q ↔ zS 80 116 [zR a0, zI a1] [zR a0] sh pp mm Q := s_go cC_readWord_115 cC_readWord_116 rfl rfl
theorem rC_readWord_116 {a0 s0 : Nat} {a1 : Int} : zS 80 116 [zR a0, zI a1] [zR s0] sh pp mm Q ↔ zS 80 117 [zR a0, zI a1] [zR a0, zR s0] sh pp mm Q := s_go cC_readWord_116 cC_readWord_117 rfl rfl
theorem rC_readWord_117 {a0 s0 s1 : Nat} {a1 : Int} (hk : zKd sh s0 = 8) : zS 80 117 [zR a0, zI a1] [zR s0, zR s1] sh pp mm Q ↔ zS 80 120 [zR a0, zI a1] [zR (pp s0 10), zR s1] sh pp mm Q := s_go cC_readWord_117 cC_readWord_120 (if_pos hk) rfl
theorem rC_readWord_120 {a0 s0 s1 : Nat} {a1 : Int} : zS 80 120 [zR a0, zI a1] [zR s0, zR s1] sh pp mm Q ↔ zS 80 121 [zR a0, zI a1] [zI a1, zR s0, zR s1] sh pp mm Q := s_go cC_readWord_120 cC_readWord_121 rfl rfl
theorem rC_readWord_121 {a0 s1 s2 : Nat} {a1 s0 : Int} (hk : zKd sh s1 = 20 ∨ zKd sh s1 = 30) (h0 : 0 ≤ s0) (h1 : s0 < zLn sh s1) : zS 80 121 [zR a0, zI a1] [zI s0, zR s1, zR s2] sh pp mm Q ↔ zS 80 122 [zR a0, zI a1] [zI (mm s1 s0), zR s2] sh pp mm Q := s_go cC_readWord_121 cC_readWord_122 (if_pos ⟨hk, h0, h1⟩) rfl
theorem rC_readWord_122 {a0 s1 : Nat} {a1 s0 : Int} : zS 80 122 [zR a0, zI a1] [zI s0, zR s1] sh pp mm Q ↔ zS 80 124 [zR a0, zI a1] [zR 8, zI s0, zR s1] sh pp mm Q := s_go cC_readWord_122 cC_readWord_124 rfl rfl
theorem rC_readWord_124 {a0 s0 s2 : Nat} {a1 s1 : Int} (hk : zKd sh s2 = 8) : zS 80 124 [zR a0, zI a1] [zR s0, zI s1, zR s2] sh pp mm Q ↔ zS 81 0 [zR s2, zI s1, zR s0, zU] [] sh pp mm (fun v sh pp mm => zS 80 127 [zR a0, zI a1] (zPush v []) sh pp mm Q) := s_call cC_readWord_124 cC_readWord_127 ((if_pos hk).trans rfl) rfl
theorem rC_readWord_127 {a0 : Nat} {a1 s0 : Int} : zS 80 127 [zR a0, zI a1] [zI s0] sh pp mm Q ↔ (s0 = 0 → zS 80 141 [zR a0, zI a1] [] sh pp mm Q) ∧ (¬ s0 = 0 → zS 80 130 [zR a0, zI a1] [] sh pp mm Q) := s_if cC_readWord_127 cC_readWord_141 cC_readWord_130 rfl rfl rfl
theorem rC_readWord_130 {a0 : Nat} {a1 : Int} : zS 80 130 [zR a0, zI a1] [] sh pp mm Q ↔ zS 80 131 [zU, zI a1] [zR a0] sh pp mm Q := s_go cC_readWord_130 cC_readWord_131 rfl rfl
theorem rC_readWord_131 {s0 : Nat} {a1 : Int} {u0 : zV} (hk : zKd sh s0 = 8) : zS 80 131 [u0, zI a1] [zR s0] sh pp mm Q ↔ zS 80 134 [zU, zI a1] [zR (pp s0 9)] sh pp mm Q := s_go cC_readWord_131 cC_readWord_134 (if_pos hk) rfl
theorem rC_readWord_134 {s0 : Nat} {a1 : Int} {u0 : zV} : zS 80 134 [u0, zI a1] [zR s0] sh pp mm Q ↔ zS 80 135 [zU, zU] [zI a1, zR s0] sh pp mm Q := s_go cC_readWord_134 cC_readWord_135 rfl rfl
theorem rC_readWord_135 {s1 : Nat} {s0 : Int} {u0 u1 : zV} : zS 80 135 [u0, u1] [zI s0, zR s1] sh pp mm Q ↔ zS 80 137 [zU, zU] [zI 7, zI s0, zR s1] sh pp mm Q := s_go cC_readWord_135 cC_readWord_137 rfl rfl
theorem rC_readWord_137 {s2 : Nat} {s0 s1 : Int} {u0 u1 : zV} (hk : zKd sh s2 = 20) (h0 : 0 ≤ s1) (h1 : s1 < zLn sh s2) : zS 80 137 [u0, u1] [zI s0, zI s1, zR s2] sh pp mm Q ↔ zS 80 138 [zU, zU] [] sh pp (zupd mm s2 s1 s0) Q := s_go cC_readWord_137 cC_readWord_138 (if_pos ⟨hk, h0, h1, fun h => absurd h (by decide)⟩) rfl
theorem rC_readWord_138 {u0 u1 : zV} : zS 80 138 [u0, u1] [] sh pp mm Q ↔ zS 80 148 [zU, zU] [] sh pp mm Q := s_go cC_readWord_138 cC_readWord_148 rfl rfl
theorem rC_readWord_141 {a0 : Nat} {a1 : Int} : zS 80 141 [zR a0, zI a1] [] sh pp mm Q ↔ zS 80 142 [zU, zI a1] [zR a0] sh pp mm Q := s_go cC_readWord_141 cC_readWord_142 rfl rfl
theorem rC_readWord_142 {s0 : Nat} {a1 : Int} {u0 : zV} (hk : zKd sh s0 = 8) : zS 80 142 [u0, zI a1] [zR s0] sh pp mm Q ↔ zS 80 145 [zU, zI a1] [zR (pp s0 9)] sh pp mm Q := s_go cC_readWord_142 cC_readWord_145 (if_pos hk) rfl
theorem rC_readWord_145 {s0 : Nat} {a1 : Int} {u0 : zV} : zS 80 145 [u0, zI a1] [zR s0] sh pp mm Q ↔ zS 80 146 [zU, zU] [zI a1, zR s0] sh pp mm Q := s_go cC_readWord_145 cC_readWord_146 rfl rfl
theorem rC_readWord_146 {s1 : Nat} {s0 : Int} {u0 u1 : zV} : zS 80 146 [u0, u1] [zI s0, zR s1] sh pp mm Q ↔ zS 80 147 [zU, zU] [zI 1, zI s0, zR s1] sh pp mm Q := s_go cC_readWord_146 cC_readWord_147 rfl rfl
theorem rC_readWord_147 {s2 : Nat} {s0 s1 : Int} {u0 u1 : zV} (hk : zKd sh s2 = 20) (h0 : 0 ≤ s1) (h1 : s1 < zLn sh s2) : zS 80 147 [u0, u1] [zI s0, zI s1, zR s2] sh pp mm Q ↔ zS 80 148 [zU, zU] [] sh pp (zupd mm s2 s1 s0) Q := s_go cC_readWord_147 cC_readWord_148 (if_pos ⟨hk, h0, h1, fun h => absurd h (by decide)⟩) rfl
theorem rC_readWord_148 {u0 u1 : zV} : zS 80 148 [u0, u1] [] sh pp mm Q ↔ Q zU sh pp mm := s_ret cC_readWord_148 rfl
theorem cAC_spells : ∀ q ∈ zT81, zCode 81 q.1 = some q.2 := zAll (mid := 81) rfl (by decide +kernel)
theorem cAC_spells_0 : ∀ q ∈ zT81_0, zCode 81 q.1 = some q.2 := fun q h => cAC_spells q (List.mem_append_left _ h)
theorem cAC_spells_1 : ∀ q ∈ zT81_1, zCode 81 q.1 = some q.2 := fun q h => cAC_spells q (List.mem_append_right _ h)
theorem cC_spells_0 : zCode 81 0 = some (.aload_n 0, 1, 0, 0, 0, 0, 7) := cAC_spells_0 _ (List.mem_of_getElem? (i := 0) rfl)
theorem cC_spells_1 : zCode 81 1 = some (.getfield 38, 4, 8, 8, 0, 383, 7) := cAC_spells_0 _ (List.mem_of_getElem? (i := 1) rfl)
theorem cC_spells_4 : zCode 81 4 = some (.iload_n 1, 5, 0, 0, 0, 0, 7) := cAC_spells_0 _ (List.mem_of_getElem? (i := 2) rfl)
theorem cC_spells_5 : zCode 81 5 = some (.isub, 6, 0, 0, 0, 0, 7) := cAC_spells_0 _ (List.mem_of_getElem? (i := 3) rfl)
theorem cC_spells_6 : zCode 81 6 = some (.aload_n 2, 7, 0, 0, 0, 0, 7) := cAC_spells_0 _ (List.mem_of_getElem? (i := 4) rfl)
theorem cC_spells_7 : zCode 81 7 = some (.invokevirtual 104, 10, 261, 0, 1, 31, 7) := cAC_spells_0 _ (List.mem_of_getElem? (i := 5) rfl)
theorem cC_spells_10 : zCode 81 10 = some (.if_icmp .eq 5, 13, 15, 0, 0, 0, 7) := cAC_spells_0 _ (List.mem_of_getElem? (i := 6) rfl)
theorem cC_spells_13 : zCode 81 13 = some (.iconst 0, 14, 0, 0, 0, 0, 0) := cAC_spells_0 _ (List.mem_of_getElem? (i := 7) rfl)
theorem cC_spells_14 : zCode 81 14 = some (.ireturn, 15, 0, 3, 0, 0, 0) := cAC_spells_0 _ (List.mem_of_getElem? (i := 8) rfl)
theorem cC_spells_15 : zCode 81 15 = some (.iconst 0, 16, 0, 0, 0, 0, 7) := cAC_spells_0 _ (List.mem_of_getElem? (i := 9) rfl)
theorem cC_spells_16 : zCode 81 16 = some (.istore_n 3, 17, 0, 0, 0, 0, 7) := cAC_spells_0 _ (List.mem_of_getElem? (i := 10) rfl)
theorem cC_spells_17 : zCode 81 17 = some (.iload_n 3, 18, 0, 0, 0, 0, 15) := cAC_spells_0 _ (List.mem_of_getElem? (i := 11) rfl)
theorem cC_spells_18 : zCode 81 18 = some (.aload_n 2, 19, 0, 0, 0, 0, 15) := cAC_spells_0 _ (List.mem_of_getElem? (i := 12) rfl)
theorem cC_spells_19 : zCode 81 19 = some (.invokevirtual 104, 22, 261, 0, 1, 31, 15) := cAC_spells_0 _ (List.mem_of_getElem? (i := 13) rfl)
theorem cC_spells_22 : zCode 81 22 = some (.if_icmp .ge 27, 25, 49, 0, 0, 0, 15) := cAC_spells_0 _ (List.mem_of_getElem? (i := 14) rfl)
theorem cC_spells_25 : zCode 81 25 = some (.aload_n 0, 26, 0, 0, 0, 0, 15) := cAC_spells_0 _ (List.mem_of_getElem? (i := 15) rfl)
theorem cC_spells_26 : zCode 81 26 = some (.getfield 32, 29, 8, 6, 2, 381, 15) := cAC_spells_1 _ (List.mem_of_getElem? (i := 0) rfl)
theorem cC_spells_29 : zCode 81 29 = some (.iload_n 1, 30, 0, 0, 0, 0, 15) := cAC_spells_1 _ (List.mem_of_getElem? (i := 1) rfl)
theorem cC_spells_30 : zCode 81 30 = some (.iload_n 3, 31, 0, 0, 0, 0, 15) := cAC_spells_1 _ (List.mem_of_getElem? (i := 2) rfl)
theorem cC_spells_31 : zCode 81 31 = some (.iadd, 32, 0, 0, 0, 0, 15) := cAC_spells_1 _ (List.mem_of_getElem? (i := 3) rfl)
theorem cC_spells_32 : zCode 81 32 = some (.iaload, 33, 0, 0, 0, 0, 15) := cAC_spells_1 _ (List.mem_of_getElem? (i := 4) rfl)
theorem cC_spells_33 : zCode 81 33 = some (.aload_n 2, 34, 0, 0, 0, 0, 15) := cAC_spells_1 _ (List.mem_of_getElem? (i := 5) rfl)
theorem cC_spells_34 : zCode 81 34 = some (.iload_n 3, 35, 0, 0, 0, 0, 15) := cAC_spells_1 _ (List.mem_of_getElem? (i := 6) rfl)
theorem cC_spells_35 : zCode 81 35 = some (.invokevirtual 109, 38, 262, 1, 2, 31, 15) := cAC_spells_1 _ (List.mem_of_getElem? (i := 7) rfl)
theorem cC_spells_38 : zCode 81 38 = some (.if_icmp .eq 5, 41, 43, 0, 0, 0, 15) := cAC_spells_1 _ (List.mem_of_getElem? (i := 8) rfl)
theorem cC_spells_41 : zCode 81 41 = some (.iconst 0, 42, 0, 0, 0, 0, 0) := cAC_spells_1 _ (List.mem_of_getElem? (i := 9) rfl)
theorem cC_spells_42 : zCode 81 42 = some (.ireturn, 43, 0, 3, 0, 0, 0) := cAC_spells_1 _ (List.mem_of_getElem? (i := 10) rfl)
theorem cC_spells_43 : zCode 81 43 = some (.iinc 3 1, 46, 0, 0, 0, 0, 15) := cAC_spells_1 _ (List.mem_of_getElem? (i := 11) rfl)
theorem cC_spells_46 : zCode 81 46 = some (.goto (-29), 49, 17, 0, 0, 0, 15) := cAC_spells_1 _ (List.mem_of_getElem? (i := 12) rfl)
theorem cC_spells_49 : zCode 81 49 = some (.iconst 1, 50, 0, 0, 0, 0, 0) := cAC_spells_1 _ (List.mem_of_getElem? (i := 13) rfl)
theorem cC_spells_50 : zCode 81 50 = some (.ireturn, 51, 0, 3, 0, 0, 0) := cAC_spells_1 _ (List.mem_of_getElem? (i := 14) rfl)
theorem rC_spells_0 {a0 a2 : Nat} {a1 : Int} {u3 : zV} : zS 81 0 [zR a0, zI a1, zR a2, u3] [] sh pp mm Q ↔ zS 81 1 [zR a0, zI a1, zR a2, zU] [zR a0] sh pp mm Q := s_go cC_spells_0 cC_spells_1 rfl rfl
theorem rC_spells_1 {a0 a2 s0 : Nat} {a1 : Int} {u3 : zV} (hk : zKd sh s0 = 8) : zS 81 1 [zR a0, zI a1, zR a2, u3] [zR s0] sh pp mm Q ↔ zS 81 4 [zR a0, zI a1, zR a2, zU] [zI (mm s0 8)] sh pp mm Q := s_go cC_spells_1 cC_spells_4 (if_pos hk) rfl
theorem rC_spells_4 {a0 a2 : Nat} {a1 s0 : Int} {u3 : zV} : zS 81 4 [zR a0, zI a1, zR a2, u3] [zI s0] sh pp mm Q ↔ zS 81 5 [zR a0, zI a1, zR a2, zU] [zI a1, zI s0] sh pp mm Q := s_go cC_spells_4 cC_spells_5 rfl rfl
theorem rC_spells_5 {a0 a2 : Nat} {a1 s0 s1 : Int} {u3 : zV} : zS 81 5 [zR a0, zI a1, zR a2, u3] [zI s0, zI s1] sh pp mm Q ↔ zS 81 6 [zR a0, zI a1, zR a2, zU] [zI (zw32 (s1 - s0))] sh pp mm Q := s_go cC_spells_5 cC_spells_6 rfl rfl
theorem rC_spells_6 {a0 a2 : Nat} {a1 s0 : Int} {u3 : zV} : zS 81 6 [zR a0, zI a1, zR a2, u3] [zI s0] sh pp mm Q ↔ zS 81 7 [zR a0, zI a1, zR a2, zU] [zR a2, zI s0] sh pp mm Q := s_go cC_spells_6 cC_spells_7 rfl rfl
theorem rC_spells_7 {a0 a2 s0 : Nat} {a1 s1 : Int} {u3 : zV} (hk : zKd sh s0 = 31) : zS 81 7 [zR a0, zI a1, zR a2, u3] [zR s0, zI s1] sh pp mm Q ↔ zS 261 0 [zR s0] [] sh pp mm (fun v sh pp mm => zS 81 10 [zR a0, zI a1, zR a2, zU] (zPush v [zI s1]) sh pp mm Q) := s_call cC_spells_7 cC_spells_10 ((if_pos hk).trans rfl) rfl
theorem rC_spells_10 {a0 a2 : Nat} {a1 s0 s1 : Int} {u3 : zV} : zS 81 10 [zR a0, zI a1, zR a2, u3] [zI s0, zI s1] sh pp mm Q ↔ (s1 = s0 → zS 81 15 [zR a0, zI a1, zR a2, zU] [] sh pp mm Q) ∧ (¬ s1 = s0 → zS 81 13 [zU, zU, zU, zU] [] sh pp mm Q) := s_if cC_spells_10 cC_spells_15 cC_spells_13 rfl rfl rfl
theorem rC_spells_13 {u0 u1 u2 u3 : zV} : zS 81 13 [u0, u1, u2, u3] [] sh pp mm Q ↔ zS 81 14 [zU, zU, zU, zU] [zI 0] sh pp mm Q := s_go cC_spells_13 cC_spells_14 rfl rfl
theorem rC_spells_14 {s0 : Int} {u0 u1 u2 u3 : zV} (hb : s0 = 0 ∨ s0 = 1) : zS 81 14 [u0, u1, u2, u3] [zI s0] sh pp mm Q ↔ Q (zI s0) sh pp mm := s_ret cC_spells_14 (if_pos (decide_eq_true hb))
theorem rC_spells_15 {a0 a2 : Nat} {a1 : Int} {u3 : zV} : zS 81 15 [zR a0, zI a1, zR a2, u3] [] sh pp mm Q ↔ zS 81 16 [zR a0, zI a1, zR a2, zU] [zI 0] sh pp mm Q := s_go cC_spells_15 cC_spells_16 rfl rfl
theorem rC_spells_16 {a0 a2 : Nat} {a1 s0 : Int} {u3 : zV} : zS 81 16 [zR a0, zI a1, zR a2, u3] [zI s0] sh pp mm Q ↔ zS 81 17 [zR a0, zI a1, zR a2, zI s0] [] sh pp mm Q := s_go cC_spells_16 cC_spells_17 rfl rfl
theorem rC_spells_17 {a0 a2 : Nat} {a1 a3 : Int} : zS 81 17 [zR a0, zI a1, zR a2, zI a3] [] sh pp mm Q ↔ zS 81 18 [zR a0, zI a1, zR a2, zI a3] [zI a3] sh pp mm Q := s_go cC_spells_17 cC_spells_18 rfl rfl
theorem rC_spells_18 {a0 a2 : Nat} {a1 a3 s0 : Int} : zS 81 18 [zR a0, zI a1, zR a2, zI a3] [zI s0] sh pp mm Q ↔ zS 81 19 [zR a0, zI a1, zR a2, zI a3] [zR a2, zI s0] sh pp mm Q := s_go cC_spells_18 cC_spells_19 rfl rfl
theorem rC_spells_19 {a0 a2 s0 : Nat} {a1 a3 s1 : Int} (hk : zKd sh s0 = 31) : zS 81 19 [zR a0, zI a1, zR a2, zI a3] [zR s0, zI s1] sh pp mm Q ↔ zS 261 0 [zR s0] [] sh pp mm (fun v sh pp mm => zS 81 22 [zR a0, zI a1, zR a2, zI a3] (zPush v [zI s1]) sh pp mm Q) := s_call cC_spells_19 cC_spells_22 ((if_pos hk).trans rfl) rfl
theorem rC_spells_22 {a0 a2 : Nat} {a1 a3 s0 s1 : Int} : zS 81 22 [zR a0, zI a1, zR a2, zI a3] [zI s0, zI s1] sh pp mm Q ↔ (s1 < s0 → zS 81 25 [zR a0, zI a1, zR a2, zI a3] [] sh pp mm Q) ∧ (¬ s1 < s0 → zS 81 49 [zU, zU, zU, zU] [] sh pp mm Q) := s_ifn cC_spells_22 cC_spells_25 cC_spells_49 rfl rfl rfl
theorem rC_spells_25 {a0 a2 : Nat} {a1 a3 : Int} : zS 81 25 [zR a0, zI a1, zR a2, zI a3] [] sh pp mm Q ↔ zS 81 26 [zR a0, zI a1, zR a2, zI a3] [zR a0] sh pp mm Q := s_go cC_spells_25 cC_spells_26 rfl rfl
theorem rC_spells_26 {a0 a2 s0 : Nat} {a1 a3 : Int} (hk : zKd sh s0 = 8) : zS 81 26 [zR a0, zI a1, zR a2, zI a3] [zR s0] sh pp mm Q ↔ zS 81 29 [zR a0, zI a1, zR a2, zI a3] [zR (pp s0 6)] sh pp mm Q := s_go cC_spells_26 cC_spells_29 (if_pos hk) rfl
theorem rC_spells_29 {a0 a2 s0 : Nat} {a1 a3 : Int} : zS 81 29 [zR a0, zI a1, zR a2, zI a3] [zR s0] sh pp mm Q ↔ zS 81 30 [zR a0, zI a1, zR a2, zI a3] [zI a1, zR s0] sh pp mm Q := s_go cC_spells_29 cC_spells_30 rfl rfl
theorem rC_spells_30 {a0 a2 s1 : Nat} {a1 a3 s0 : Int} : zS 81 30 [zR a0, zI a1, zR a2, zI a3] [zI s0, zR s1] sh pp mm Q ↔ zS 81 31 [zR a0, zI a1, zR a2, zI a3] [zI a3, zI s0, zR s1] sh pp mm Q := s_go cC_spells_30 cC_spells_31 rfl rfl
theorem rC_spells_31 {a0 a2 s2 : Nat} {a1 a3 s0 s1 : Int} : zS 81 31 [zR a0, zI a1, zR a2, zI a3] [zI s0, zI s1, zR s2] sh pp mm Q ↔ zS 81 32 [zR a0, zI a1, zR a2, zI a3] [zI (zw32 (s1 + s0)), zR s2] sh pp mm Q := s_go cC_spells_31 cC_spells_32 rfl rfl
theorem rC_spells_32 {a0 a2 s1 : Nat} {a1 a3 s0 : Int} (hk : zKd sh s1 = 20 ∨ zKd sh s1 = 30) (h0 : 0 ≤ s0) (h1 : s0 < zLn sh s1) : zS 81 32 [zR a0, zI a1, zR a2, zI a3] [zI s0, zR s1] sh pp mm Q ↔ zS 81 33 [zR a0, zI a1, zR a2, zI a3] [zI (mm s1 s0)] sh pp mm Q := s_go cC_spells_32 cC_spells_33 (if_pos ⟨hk, h0, h1⟩) rfl
theorem rC_spells_33 {a0 a2 : Nat} {a1 a3 s0 : Int} : zS 81 33 [zR a0, zI a1, zR a2, zI a3] [zI s0] sh pp mm Q ↔ zS 81 34 [zR a0, zI a1, zR a2, zI a3] [zR a2, zI s0] sh pp mm Q := s_go cC_spells_33 cC_spells_34 rfl rfl
theorem rC_spells_34 {a0 a2 s0 : Nat} {a1 a3 s1 : Int} : zS 81 34 [zR a0, zI a1, zR a2, zI a3] [zR s0, zI s1] sh pp mm Q ↔ zS 81 35 [zR a0, zI a1, zR a2, zI a3] [zI a3, zR s0, zI s1] sh pp mm Q := s_go cC_spells_34 cC_spells_35 rfl rfl
theorem rC_spells_35 {a0 a2 s1 : Nat} {a1 a3 s0 s2 : Int} (hk : zKd sh s1 = 31) : zS 81 35 [zR a0, zI a1, zR a2, zI a3] [zI s0, zR s1, zI s2] sh pp mm Q ↔ zS 262 0 [zR s1, zI s0] [] sh pp mm (fun v sh pp mm => zS 81 38 [zR a0, zI a1, zR a2, zI a3] (zPush v [zI s2]) sh pp mm Q) := s_call cC_spells_35 cC_spells_38 ((if_pos hk).trans rfl) rfl
theorem rC_spells_38 {a0 a2 : Nat} {a1 a3 s0 s1 : Int} : zS 81 38 [zR a0, zI a1, zR a2, zI a3] [zI s0, zI s1] sh pp mm Q ↔ (s1 = s0 → zS 81 43 [zR a0, zI a1, zR a2, zI a3] [] sh pp mm Q) ∧ (¬ s1 = s0 → zS 81 41 [zU, zU, zU, zU] [] sh pp mm Q) := s_if cC_spells_38 cC_spells_43 cC_spells_41 rfl rfl rfl
theorem rC_spells_41 {u0 u1 u2 u3 : zV} : zS 81 41 [u0, u1, u2, u3] [] sh pp mm Q ↔ zS 81 42 [zU, zU, zU, zU] [zI 0] sh pp mm Q := s_go cC_spells_41 cC_spells_42 rfl rfl
theorem rC_spells_42 {s0 : Int} {u0 u1 u2 u3 : zV} (hb : s0 = 0 ∨ s0 = 1) : zS 81 42 [u0, u1, u2, u3] [zI s0] sh pp mm Q ↔ Q (zI s0) sh pp mm := s_ret cC_spells_42 (if_pos (decide_eq_true hb))
theorem rC_spells_43 {a0 a2 : Nat} {a1 a3 : Int} : zS 81 43 [zR a0, zI a1, zR a2, zI a3] [] sh pp mm Q ↔ zS 81 46 [zR a0, zI a1, zR a2, zI (zw32 (a3 + 1))] [] sh pp mm Q := s_go cC_spells_43 cC_spells_46 rfl rfl
theorem rC_spells_46 {a0 a2 : Nat} {a1 a3 : Int} : zS 81 46 [zR a0, zI a1, zR a2, zI a3] [] sh pp mm Q ↔ zS 81 17 [zR a0, zI a1, zR a2, zI a3] [] sh pp mm Q := s_go cC_spells_46 cC_spells_17 rfl rfl
theorem rC_spells_49 {u0 u1 u2 u3 : zV} : zS 81 49 [u0, u1, u2, u3] [] sh pp mm Q ↔ zS 81 50 [zU, zU, zU, zU] [zI 1] sh pp mm Q := s_go cC_spells_49 cC_spells_50 rfl rfl
theorem rC_spells_50 {s0 : Int} {u0 u1 u2 u3 : zV} (hb : s0 = 0 ∨ s0 = 1) : zS 81 50 [u0, u1, u2, u3] [zI s0] sh pp mm Q ↔ Q (zI s0) sh pp mm := s_ret cC_spells_50 (if_pos (decide_eq_true hb))
theorem cAC_readFigures : ∀ q ∈ zT82, zCode 82 q.1 = some q.2 := zAll (mid := 82) rfl (by decide +kernel)
theorem cAC_readFigures_0 : ∀ q ∈ zT82_0, zCode 82 q.1 = some q.2 := fun q h => cAC_readFigures q (List.mem_append_left _ h)
theorem cAC_readFigures_1 : ∀ q ∈ zT82_1, zCode 82 q.1 = some q.2 := fun q h => cAC_readFigures q (List.mem_append_right _ (List.mem_append_left _ h))
theorem cAC_readFigures_2 : ∀ q ∈ zT82_2, zCode 82 q.1 = some q.2 := fun q h => cAC_readFigures q (List.mem_append_right _ (List.mem_append_right _ (List.mem_append_left _ h)))
theorem cAC_readFigures_3 : ∀ q ∈ zT82_3, zCode 82 q.1 = some q.2 := fun q h => cAC_readFigures q (List.mem_append_right _ (List.mem_append_right _ (List.mem_append_right _ (List.mem_append_left _ h))))
theorem cAC_readFigures_4 : ∀ q ∈ zT82_4, zCode 82 q.1 = some q.2 := fun q h => cAC_readFigures q (List.mem_append_right _ (List.mem_append_right _ (List.mem_append_right _ (List.mem_append_right _ (List.mem_append_left _ h)))))
theorem cAC_readFigures_5 : ∀ q ∈ zT82_5, zCode 82 q.1 = some q.2 := fun q h => cAC_readFigures q (List.mem_append_right _ (List.mem_append_right _ (List.mem_append_right _ (List.mem_append_right _ (List.mem_append_right _ h)))))
theorem cC_readFigures_0 : zCode 82 0 = some (.iload_n 2, 1, 0, 0, 0, 0, 7) := cAC_readFigures_0 _ (List.mem_of_getElem? (i := 0) rfl)
theorem cC_readFigures_1 : zCode 82 1 = some (.ifCond .eq 13, 4, 14, 0, 0, 0, 7) := cAC_readFigures_0 _ (List.mem_of_getElem? (i := 1) rfl)
theorem cC_readFigures_4 : zCode 82 4 = some (.aload_n 0, 5, 0, 0, 0, 0, 7) := cAC_readFigures_0 _ (List.mem_of_getElem? (i := 2) rfl)
theorem cC_readFigures_5 : zCode 82 5 = some (.dup, 6, 0, 0, 0, 0, 7) := cAC_readFigures_0 _ (List.mem_of_getElem? (i := 3) rfl)
theorem cC_readFigures_6 : zCode 82 6 = some (.getfield 38, 9, 8, 8, 0, 383, 7) := cAC_readFigures_0 _ (List.mem_of_getElem? (i := 4) rfl)
theorem cC_readFigures_9 : zCode 82 9 = some (.iconst 1, 10, 0, 0, 0, 0, 7) := cAC_readFigures_0 _ (List.mem_of_getElem? (i := 5) rfl)
theorem cC_readFigures_10 : zCode 82 10 = some (.iadd, 11, 0, 0, 0, 0, 7) := cAC_readFigures_0 _ (List.mem_of_getElem? (i := 6) rfl)
theorem cC_readFigures_11 : zCode 82 11 = some (.putfield 38, 14, 8, 8, 0, 383, 7) := cAC_readFigures_0 _ (List.mem_of_getElem? (i := 7) rfl)
theorem cC_readFigures_14 : zCode 82 14 = some (.aload_n 0, 15, 0, 0, 0, 0, 7) := cAC_readFigures_0 _ (List.mem_of_getElem? (i := 8) rfl)
theorem cC_readFigures_15 : zCode 82 15 = some (.getfield 38, 18, 8, 8, 0, 383, 7) := cAC_readFigures_0 _ (List.mem_of_getElem? (i := 9) rfl)
theorem cC_readFigures_18 : zCode 82 18 = some (.istore_n 3, 19, 0, 0, 0, 0, 7) := cAC_readFigures_0 _ (List.mem_of_getElem? (i := 10) rfl)
theorem cC_readFigures_19 : zCode 82 19 = some (.iconst 0, 20, 0, 0, 0, 0, 15) := cAC_readFigures_0 _ (List.mem_of_getElem? (i := 11) rfl)
theorem cC_readFigures_20 : zCode 82 20 = some (.istore 4, 22, 0, 0, 0, 0, 15) := cAC_readFigures_0 _ (List.mem_of_getElem? (i := 12) rfl)
theorem cC_readFigures_22 : zCode 82 22 = some (.aload_n 0, 23, 0, 0, 0, 0, 31) := cAC_readFigures_0 _ (List.mem_of_getElem? (i := 13) rfl)
theorem cC_readFigures_23 : zCode 82 23 = some (.getfield 38, 26, 8, 8, 0, 383, 31) := cAC_readFigures_0 _ (List.mem_of_getElem? (i := 14) rfl)
theorem cC_readFigures_26 : zCode 82 26 = some (.aload_n 0, 27, 0, 0, 0, 0, 31) := cAC_readFigures_0 _ (List.mem_of_getElem? (i := 15) rfl)
theorem cC_readFigures_27 : zCode 82 27 = some (.getfield 35, 30, 8, 7, 0, 382, 31) := cAC_readFigures_1 _ (List.mem_of_getElem? (i := 0) rfl)
theorem cC_readFigures_30 : zCode 82 30 = some (.if_icmp .ge 55, 33, 85, 0, 0, 0, 31) := cAC_readFigures_1 _ (List.mem_of_getElem? (i := 1) rfl)
theorem cC_readFigures_33 : zCode 82 33 = some (.aload_n 0, 34, 0, 0, 0, 0, 31) := cAC_readFigures_1 _ (List.mem_of_getElem? (i := 2) rfl)
theorem cC_readFigures_34 : zCode 82 34 = some (.getfield 32, 37, 8, 6, 2, 381, 31) := cAC_readFigures_1 _ (List.mem_of_getElem? (i := 3) rfl)
theorem cC_readFigures_37 : zCode 82 37 = some (.aload_n 0, 38, 0, 0, 0, 0, 31) := cAC_readFigures_1 _ (List.mem_of_getElem? (i := 4) rfl)
theorem cC_readFigures_38 : zCode 82 38 = some (.getfield 38, 41, 8, 8, 0, 383, 31) := cAC_readFigures_1 _ (List.mem_of_getElem? (i := 5) rfl)
theorem cC_readFigures_41 : zCode 82 41 = some (.iaload, 42, 0, 0, 0, 0, 31) := cAC_readFigures_1 _ (List.mem_of_getElem? (i := 6) rfl)
theorem cC_readFigures_42 : zCode 82 42 = some (.invokestatic 85, 45, 84, 1, 1, 8, 31) := cAC_readFigures_1 _ (List.mem_of_getElem? (i := 7) rfl)
theorem cC_readFigures_45 : zCode 82 45 = some (.ifCond .eq 40, 48, 85, 0, 0, 0, 31) := cAC_readFigures_1 _ (List.mem_of_getElem? (i := 8) rfl)
theorem cC_readFigures_48 : zCode 82 48 = some (.iload 4, 50, 0, 0, 0, 0, 31) := cAC_readFigures_1 _ (List.mem_of_getElem? (i := 9) rfl)
theorem cC_readFigures_50 : zCode 82 50 = some (.bipush 10, 52, 0, 0, 0, 0, 15) := cAC_readFigures_1 _ (List.mem_of_getElem? (i := 10) rfl)
theorem cC_readFigures_52 : zCode 82 52 = some (.imul, 53, 0, 0, 0, 0, 15) := cAC_readFigures_1 _ (List.mem_of_getElem? (i := 11) rfl)
theorem cC_readFigures_53 : zCode 82 53 = some (.aload_n 0, 54, 0, 0, 0, 0, 15) := cAC_readFigures_1 _ (List.mem_of_getElem? (i := 12) rfl)
theorem cC_readFigures_54 : zCode 82 54 = some (.getfield 32, 57, 8, 6, 2, 381, 15) := cAC_readFigures_1 _ (List.mem_of_getElem? (i := 13) rfl)
theorem cC_readFigures_57 : zCode 82 57 = some (.aload_n 0, 58, 0, 0, 0, 0, 15) := cAC_readFigures_1 _ (List.mem_of_getElem? (i := 14) rfl)
theorem cC_readFigures_58 : zCode 82 58 = some (.getfield 38, 61, 8, 8, 0, 383, 15) := cAC_readFigures_1 _ (List.mem_of_getElem? (i := 15) rfl)
theorem cC_readFigures_61 : zCode 82 61 = some (.iaload, 62, 0, 0, 0, 0, 15) := cAC_readFigures_2 _ (List.mem_of_getElem? (i := 0) rfl)
theorem cC_readFigures_62 : zCode 82 62 = some (.iadd, 63, 0, 0, 0, 0, 15) := cAC_readFigures_2 _ (List.mem_of_getElem? (i := 1) rfl)
theorem cC_readFigures_63 : zCode 82 63 = some (.bipush 48, 65, 0, 0, 0, 0, 15) := cAC_readFigures_2 _ (List.mem_of_getElem? (i := 2) rfl)
theorem cC_readFigures_65 : zCode 82 65 = some (.isub, 66, 0, 0, 0, 0, 15) := cAC_readFigures_2 _ (List.mem_of_getElem? (i := 3) rfl)
theorem cC_readFigures_66 : zCode 82 66 = some (.sipush 1000, 69, 0, 0, 0, 0, 15) := cAC_readFigures_2 _ (List.mem_of_getElem? (i := 4) rfl)
theorem cC_readFigures_69 : zCode 82 69 = some (.irem, 70, 0, 0, 0, 0, 15) := cAC_readFigures_2 _ (List.mem_of_getElem? (i := 5) rfl)
theorem cC_readFigures_70 : zCode 82 70 = some (.istore 4, 72, 0, 0, 0, 0, 15) := cAC_readFigures_2 _ (List.mem_of_getElem? (i := 6) rfl)
theorem cC_readFigures_72 : zCode 82 72 = some (.aload_n 0, 73, 0, 0, 0, 0, 31) := cAC_readFigures_2 _ (List.mem_of_getElem? (i := 7) rfl)
theorem cC_readFigures_73 : zCode 82 73 = some (.dup, 74, 0, 0, 0, 0, 31) := cAC_readFigures_2 _ (List.mem_of_getElem? (i := 8) rfl)
theorem cC_readFigures_74 : zCode 82 74 = some (.getfield 38, 77, 8, 8, 0, 383, 31) := cAC_readFigures_2 _ (List.mem_of_getElem? (i := 9) rfl)
theorem cC_readFigures_77 : zCode 82 77 = some (.iconst 1, 78, 0, 0, 0, 0, 31) := cAC_readFigures_2 _ (List.mem_of_getElem? (i := 10) rfl)
theorem cC_readFigures_78 : zCode 82 78 = some (.iadd, 79, 0, 0, 0, 0, 31) := cAC_readFigures_2 _ (List.mem_of_getElem? (i := 11) rfl)
theorem cC_readFigures_79 : zCode 82 79 = some (.putfield 38, 82, 8, 8, 0, 383, 31) := cAC_readFigures_2 _ (List.mem_of_getElem? (i := 12) rfl)
theorem cC_readFigures_82 : zCode 82 82 = some (.goto (-60), 85, 22, 0, 0, 0, 31) := cAC_readFigures_2 _ (List.mem_of_getElem? (i := 13) rfl)
theorem cC_readFigures_85 : zCode 82 85 = some (.aload_n 0, 86, 0, 0, 0, 0, 31) := cAC_readFigures_2 _ (List.mem_of_getElem? (i := 14) rfl)
theorem cC_readFigures_86 : zCode 82 86 = some (.getfield 38, 89, 8, 8, 0, 383, 31) := cAC_readFigures_2 _ (List.mem_of_getElem? (i := 15) rfl)
theorem cC_readFigures_89 : zCode 82 89 = some (.iload_n 3, 90, 0, 0, 0, 0, 31) := cAC_readFigures_3 _ (List.mem_of_getElem? (i := 0) rfl)
theorem cC_readFigures_90 : zCode 82 90 = some (.isub, 91, 0, 0, 0, 0, 31) := cAC_readFigures_3 _ (List.mem_of_getElem? (i := 1) rfl)
theorem cC_readFigures_91 : zCode 82 91 = some (.iconst 1, 92, 0, 0, 0, 0, 31) := cAC_readFigures_3 _ (List.mem_of_getElem? (i := 2) rfl)
theorem cC_readFigures_92 : zCode 82 92 = some (.if_icmp .eq 13, 95, 105, 0, 0, 0, 31) := cAC_readFigures_3 _ (List.mem_of_getElem? (i := 3) rfl)
theorem cC_readFigures_95 : zCode 82 95 = some (.aload_n 0, 96, 0, 0, 0, 0, 31) := cAC_readFigures_3 _ (List.mem_of_getElem? (i := 4) rfl)
theorem cC_readFigures_96 : zCode 82 96 = some (.getfield 38, 99, 8, 8, 0, 383, 31) := cAC_readFigures_3 _ (List.mem_of_getElem? (i := 5) rfl)
theorem cC_readFigures_99 : zCode 82 99 = some (.iload_n 3, 100, 0, 0, 0, 0, 31) := cAC_readFigures_3 _ (List.mem_of_getElem? (i := 6) rfl)
theorem cC_readFigures_100 : zCode 82 100 = some (.isub, 101, 0, 0, 0, 0, 23) := cAC_readFigures_3 _ (List.mem_of_getElem? (i := 7) rfl)
theorem cC_readFigures_101 : zCode 82 101 = some (.iconst 2, 102, 0, 0, 0, 0, 23) := cAC_readFigures_3 _ (List.mem_of_getElem? (i := 8) rfl)
theorem cC_readFigures_102 : zCode 82 102 = some (.if_icmp .ne 7, 105, 109, 0, 0, 0, 23) := cAC_readFigures_3 _ (List.mem_of_getElem? (i := 9) rfl)
theorem cC_readFigures_105 : zCode 82 105 = some (.iconst 1, 106, 0, 0, 0, 0, 23) := cAC_readFigures_3 _ (List.mem_of_getElem? (i := 10) rfl)
theorem cC_readFigures_106 : zCode 82 106 = some (.goto 4, 109, 110, 0, 0, 0, 23) := cAC_readFigures_3 _ (List.mem_of_getElem? (i := 11) rfl)
theorem cC_readFigures_109 : zCode 82 109 = some (.iconst 0, 110, 0, 0, 0, 0, 23) := cAC_readFigures_3 _ (List.mem_of_getElem? (i := 12) rfl)
theorem cC_readFigures_110 : zCode 82 110 = some (.istore 5, 112, 0, 0, 0, 0, 23) := cAC_readFigures_3 _ (List.mem_of_getElem? (i := 13) rfl)
theorem cC_readFigures_112 : zCode 82 112 = some (.aload_n 0, 113, 0, 0, 0, 0, 55) := cAC_readFigures_3 _ (List.mem_of_getElem? (i := 14) rfl)
theorem cC_readFigures_113 : zCode 82 113 = some (.getfield 41, 116, 8, 9, 2, 384, 55) := cAC_readFigures_3 _ (List.mem_of_getElem? (i := 15) rfl)
theorem cC_readFigures_116 : zCode 82 116 = some (.iload_n 1, 117, 0, 0, 0, 0, 55) := cAC_readFigures_4 _ (List.mem_of_getElem? (i := 0) rfl)
theorem cC_readFigures_117 : zCode 82 117 = some (.iload 5, 119, 0, 0, 0, 0, 55) := cAC_readFigures_4 _ (List.mem_of_getElem? (i := 1) rfl)
theorem cC_readFigures_119 : zCode 82 119 = some (.ifCond .eq 7, 122, 126, 0, 0, 0, 23) := cAC_readFigures_4 _ (List.mem_of_getElem? (i := 2) rfl)
theorem cC_readFigures_122 : zCode 82 122 = some (.iconst 3, 123, 0, 0, 0, 0, 23) := cAC_readFigures_4 _ (List.mem_of_getElem? (i := 3) rfl)
theorem cC_readFigures_123 : zCode 82 123 = some (.goto 4, 126, 127, 0, 0, 0, 23) := cAC_readFigures_4 _ (List.mem_of_getElem? (i := 4) rfl)
theorem cC_readFigures_126 : zCode 82 126 = some (.iconst 1, 127, 0, 0, 0, 0, 23) := cAC_readFigures_4 _ (List.mem_of_getElem? (i := 5) rfl)
theorem cC_readFigures_127 : zCode 82 127 = some (.iastore, 128, 0, 0, 0, 0, 23) := cAC_readFigures_4 _ (List.mem_of_getElem? (i := 6) rfl)
theorem cC_readFigures_128 : zCode 82 128 = some (.aload_n 0, 129, 0, 0, 0, 0, 23) := cAC_readFigures_4 _ (List.mem_of_getElem? (i := 7) rfl)
theorem cC_readFigures_129 : zCode 82 129 = some (.getfield 47, 132, 8, 11, 2, 386, 22) := cAC_readFigures_4 _ (List.mem_of_getElem? (i := 8) rfl)
theorem cC_readFigures_132 : zCode 82 132 = some (.iload_n 1, 133, 0, 0, 0, 0, 22) := cAC_readFigures_4 _ (List.mem_of_getElem? (i := 9) rfl)
theorem cC_readFigures_133 : zCode 82 133 = some (.iload_n 2, 134, 0, 0, 0, 0, 20) := cAC_readFigures_4 _ (List.mem_of_getElem? (i := 10) rfl)
theorem cC_readFigures_134 : zCode 82 134 = some (.ifCond .eq 9, 137, 143, 0, 0, 0, 16) := cAC_readFigures_4 _ (List.mem_of_getElem? (i := 11) rfl)
theorem cC_readFigures_137 : zCode 82 137 = some (.iload 4, 139, 0, 0, 0, 0, 16) := cAC_readFigures_4 _ (List.mem_of_getElem? (i := 12) rfl)
theorem cC_readFigures_139 : zCode 82 139 = some (.ineg, 140, 0, 0, 0, 0, 0) := cAC_readFigures_4 _ (List.mem_of_getElem? (i := 13) rfl)
theorem cC_readFigures_140 : zCode 82 140 = some (.goto 5, 143, 145, 0, 0, 0, 0) := cAC_readFigures_4 _ (List.mem_of_getElem? (i := 14) rfl)
theorem cC_readFigures_143 : zCode 82 143 = some (.iload 4, 145, 0, 0, 0, 0, 16) := cAC_readFigures_4 _ (List.mem_of_getElem? (i := 15) rfl)
theorem cC_readFigures_145 : zCode 82 145 = some (.iastore, 146, 0, 0, 0, 0, 0) := cAC_readFigures_5 _ (List.mem_of_getElem? (i := 0) rfl)
theorem cC_readFigures_146 : zCode 82 146 = some (.return_, 147, 0, 0, 0, 0, 0) := cAC_readFigures_5 _ (List.mem_of_getElem? (i := 1) rfl)
theorem rC_readFigures_0 {a0 : Nat} {a1 a2 : Int} {u3 u4 u5 : zV} : zS 82 0 [zR a0, zI a1, zI a2, u3, u4, u5] [] sh pp mm Q ↔ zS 82 1 [zR a0, zI a1, zI a2, zU, zU, zU] [zI a2] sh pp mm Q := s_go cC_readFigures_0 cC_readFigures_1 rfl rfl
theorem rC_readFigures_1 {a0 : Nat} {a1 a2 s0 : Int} {u3 u4 u5 : zV} : zS 82 1 [zR a0, zI a1, zI a2, u3, u4, u5] [zI s0] sh pp mm Q ↔ (s0 = 0 → zS 82 14 [zR a0, zI a1, zI a2, zU, zU, zU] [] sh pp mm Q) ∧ (¬ s0 = 0 → zS 82 4 [zR a0, zI a1, zI a2, zU, zU, zU] [] sh pp mm Q) := s_if cC_readFigures_1 cC_readFigures_14 cC_readFigures_4 rfl rfl rfl
theorem rC_readFigures_4 {a0 : Nat} {a1 a2 : Int} {u3 u4 u5 : zV} : zS 82 4 [zR a0, zI a1, zI a2, u3, u4, u5] [] sh pp mm Q ↔ zS 82 5 [zR a0, zI a1, zI a2, zU, zU, zU] [zR a0] sh pp mm Q := s_go cC_readFigures_4 cC_readFigures_5 rfl rfl
theorem rC_readFigures_5 {a0 s0 : Nat} {a1 a2 : Int} {u3 u4 u5 : zV} : zS 82 5 [zR a0, zI a1, zI a2, u3, u4, u5] [zR s0] sh pp mm Q ↔ zS 82 6 [zR a0, zI a1, zI a2, zU, zU, zU] [zR s0, zR s0] sh pp mm Q := s_go cC_readFigures_5 cC_readFigures_6 rfl rfl
theorem rC_readFigures_6 {a0 s0 s1 : Nat} {a1 a2 : Int} {u3 u4 u5 : zV} (hk : zKd sh s0 = 8) : zS 82 6 [zR a0, zI a1, zI a2, u3, u4, u5] [zR s0, zR s1] sh pp mm Q ↔ zS 82 9 [zR a0, zI a1, zI a2, zU, zU, zU] [zI (mm s0 8), zR s1] sh pp mm Q := s_go cC_readFigures_6 cC_readFigures_9 (if_pos hk) rfl
theorem rC_readFigures_9 {a0 s1 : Nat} {a1 a2 s0 : Int} {u3 u4 u5 : zV} : zS 82 9 [zR a0, zI a1, zI a2, u3, u4, u5] [zI s0, zR s1] sh pp mm Q ↔ zS 82 10 [zR a0, zI a1, zI a2, zU, zU, zU] [zI 1, zI s0, zR s1] sh pp mm Q := s_go cC_readFigures_9 cC_readFigures_10 rfl rfl
theorem rC_readFigures_10 {a0 s2 : Nat} {a1 a2 s0 s1 : Int} {u3 u4 u5 : zV} : zS 82 10 [zR a0, zI a1, zI a2, u3, u4, u5] [zI s0, zI s1, zR s2] sh pp mm Q ↔ zS 82 11 [zR a0, zI a1, zI a2, zU, zU, zU] [zI (zw32 (s1 + s0)), zR s2] sh pp mm Q := s_go cC_readFigures_10 cC_readFigures_11 rfl rfl
theorem rC_readFigures_11 {a0 s1 : Nat} {a1 a2 s0 : Int} {u3 u4 u5 : zV} (hk : zKd sh s1 = 8) : zS 82 11 [zR a0, zI a1, zI a2, u3, u4, u5] [zI s0, zR s1] sh pp mm Q ↔ zS 82 14 [zR a0, zI a1, zI a2, zU, zU, zU] [] sh pp (zupd mm s1 8 s0) Q := s_go cC_readFigures_11 cC_readFigures_14 (if_pos ⟨hk, Or.inl rfl⟩) rfl
theorem rC_readFigures_14 {a0 : Nat} {a1 a2 : Int} {u3 u4 u5 : zV} : zS 82 14 [zR a0, zI a1, zI a2, u3, u4, u5] [] sh pp mm Q ↔ zS 82 15 [zR a0, zI a1, zI a2, zU, zU, zU] [zR a0] sh pp mm Q := s_go cC_readFigures_14 cC_readFigures_15 rfl rfl
theorem rC_readFigures_15 {a0 s0 : Nat} {a1 a2 : Int} {u3 u4 u5 : zV} (hk : zKd sh s0 = 8) : zS 82 15 [zR a0, zI a1, zI a2, u3, u4, u5] [zR s0] sh pp mm Q ↔ zS 82 18 [zR a0, zI a1, zI a2, zU, zU, zU] [zI (mm s0 8)] sh pp mm Q := s_go cC_readFigures_15 cC_readFigures_18 (if_pos hk) rfl
theorem rC_readFigures_18 {a0 : Nat} {a1 a2 s0 : Int} {u3 u4 u5 : zV} : zS 82 18 [zR a0, zI a1, zI a2, u3, u4, u5] [zI s0] sh pp mm Q ↔ zS 82 19 [zR a0, zI a1, zI a2, zI s0, zU, zU] [] sh pp mm Q := s_go cC_readFigures_18 cC_readFigures_19 rfl rfl
theorem rC_readFigures_19 {a0 : Nat} {a1 a2 a3 : Int} {u4 u5 : zV} : zS 82 19 [zR a0, zI a1, zI a2, zI a3, u4, u5] [] sh pp mm Q ↔ zS 82 20 [zR a0, zI a1, zI a2, zI a3, zU, zU] [zI 0] sh pp mm Q := s_go cC_readFigures_19 cC_readFigures_20 rfl rfl
theorem rC_readFigures_20 {a0 : Nat} {a1 a2 a3 s0 : Int} {u4 u5 : zV} : zS 82 20 [zR a0, zI a1, zI a2, zI a3, u4, u5] [zI s0] sh pp mm Q ↔ zS 82 22 [zR a0, zI a1, zI a2, zI a3, zI s0, zU] [] sh pp mm Q := s_go cC_readFigures_20 cC_readFigures_22 rfl rfl
theorem rC_readFigures_22 {a0 : Nat} {a1 a2 a3 a4 : Int} {u5 : zV} : zS 82 22 [zR a0, zI a1, zI a2, zI a3, zI a4, u5] [] sh pp mm Q ↔ zS 82 23 [zR a0, zI a1, zI a2, zI a3, zI a4, zU] [zR a0] sh pp mm Q := s_go cC_readFigures_22 cC_readFigures_23 rfl rfl
theorem rC_readFigures_23 {a0 s0 : Nat} {a1 a2 a3 a4 : Int} {u5 : zV} (hk : zKd sh s0 = 8) : zS 82 23 [zR a0, zI a1, zI a2, zI a3, zI a4, u5] [zR s0] sh pp mm Q ↔ zS 82 26 [zR a0, zI a1, zI a2, zI a3, zI a4, zU] [zI (mm s0 8)] sh pp mm Q := s_go cC_readFigures_23 cC_readFigures_26 (if_pos hk) rfl
theorem rC_readFigures_26 {a0 : Nat} {a1 a2 a3 a4 s0 : Int} {u5 : zV} : zS 82 26 [zR a0, zI a1, zI a2, zI a3, zI a4, u5] [zI s0] sh pp mm Q ↔ zS 82 27 [zR a0, zI a1, zI a2, zI a3, zI a4, zU] [zR a0, zI s0] sh pp mm Q := s_go cC_readFigures_26 cC_readFigures_27 rfl rfl
theorem rC_readFigures_27 {a0 s0 : Nat} {a1 a2 a3 a4 s1 : Int} {u5 : zV} (hk : zKd sh s0 = 8) : zS 82 27 [zR a0, zI a1, zI a2, zI a3, zI a4, u5] [zR s0, zI s1] sh pp mm Q ↔ zS 82 30 [zR a0, zI a1, zI a2, zI a3, zI a4, zU] [zI (mm s0 7), zI s1] sh pp mm Q := s_go cC_readFigures_27 cC_readFigures_30 (if_pos hk) rfl
theorem rC_readFigures_30 {a0 : Nat} {a1 a2 a3 a4 s0 s1 : Int} {u5 : zV} : zS 82 30 [zR a0, zI a1, zI a2, zI a3, zI a4, u5] [zI s0, zI s1] sh pp mm Q ↔ (s1 < s0 → zS 82 33 [zR a0, zI a1, zI a2, zI a3, zI a4, zU] [] sh pp mm Q) ∧ (¬ s1 < s0 → zS 82 85 [zR a0, zI a1, zI a2, zI a3, zI a4, zU] [] sh pp mm Q) := s_ifn cC_readFigures_30 cC_readFigures_33 cC_readFigures_85 rfl rfl rfl
theorem rC_readFigures_33 {a0 : Nat} {a1 a2 a3 a4 : Int} {u5 : zV} : zS 82 33 [zR a0, zI a1, zI a2, zI a3, zI a4, u5] [] sh pp mm Q ↔ zS 82 34 [zR a0, zI a1, zI a2, zI a3, zI a4, zU] [zR a0] sh pp mm Q := s_go cC_readFigures_33 cC_readFigures_34 rfl rfl
theorem rC_readFigures_34 {a0 s0 : Nat} {a1 a2 a3 a4 : Int} {u5 : zV} (hk : zKd sh s0 = 8) : zS 82 34 [zR a0, zI a1, zI a2, zI a3, zI a4, u5] [zR s0] sh pp mm Q ↔ zS 82 37 [zR a0, zI a1, zI a2, zI a3, zI a4, zU] [zR (pp s0 6)] sh pp mm Q := s_go cC_readFigures_34 cC_readFigures_37 (if_pos hk) rfl
theorem rC_readFigures_37 {a0 s0 : Nat} {a1 a2 a3 a4 : Int} {u5 : zV} : zS 82 37 [zR a0, zI a1, zI a2, zI a3, zI a4, u5] [zR s0] sh pp mm Q ↔ zS 82 38 [zR a0, zI a1, zI a2, zI a3, zI a4, zU] [zR a0, zR s0] sh pp mm Q := s_go cC_readFigures_37 cC_readFigures_38 rfl rfl
theorem rC_readFigures_38 {a0 s0 s1 : Nat} {a1 a2 a3 a4 : Int} {u5 : zV} (hk : zKd sh s0 = 8) : zS 82 38 [zR a0, zI a1, zI a2, zI a3, zI a4, u5] [zR s0, zR s1] sh pp mm Q ↔ zS 82 41 [zR a0, zI a1, zI a2, zI a3, zI a4, zU] [zI (mm s0 8), zR s1] sh pp mm Q := s_go cC_readFigures_38 cC_readFigures_41 (if_pos hk) rfl
theorem rC_readFigures_41 {a0 s1 : Nat} {a1 a2 a3 a4 s0 : Int} {u5 : zV} (hk : zKd sh s1 = 20 ∨ zKd sh s1 = 30) (h0 : 0 ≤ s0) (h1 : s0 < zLn sh s1) : zS 82 41 [zR a0, zI a1, zI a2, zI a3, zI a4, u5] [zI s0, zR s1] sh pp mm Q ↔ zS 82 42 [zR a0, zI a1, zI a2, zI a3, zI a4, zU] [zI (mm s1 s0)] sh pp mm Q := s_go cC_readFigures_41 cC_readFigures_42 (if_pos ⟨hk, h0, h1⟩) rfl
theorem rC_readFigures_42 {a0 : Nat} {a1 a2 a3 a4 s0 : Int} {u5 : zV} : zS 82 42 [zR a0, zI a1, zI a2, zI a3, zI a4, u5] [zI s0] sh pp mm Q ↔ zS 84 0 [zI s0] [] sh pp mm (fun v sh pp mm => zS 82 45 [zR a0, zI a1, zI a2, zI a3, zI a4, zU] (zPush v []) sh pp mm Q) := s_call cC_readFigures_42 cC_readFigures_45 rfl rfl
theorem rC_readFigures_45 {a0 : Nat} {a1 a2 a3 a4 s0 : Int} {u5 : zV} : zS 82 45 [zR a0, zI a1, zI a2, zI a3, zI a4, u5] [zI s0] sh pp mm Q ↔ (s0 = 0 → zS 82 85 [zR a0, zI a1, zI a2, zI a3, zI a4, zU] [] sh pp mm Q) ∧ (¬ s0 = 0 → zS 82 48 [zR a0, zI a1, zI a2, zI a3, zI a4, zU] [] sh pp mm Q) := s_if cC_readFigures_45 cC_readFigures_85 cC_readFigures_48 rfl rfl rfl
theorem rC_readFigures_48 {a0 : Nat} {a1 a2 a3 a4 : Int} {u5 : zV} : zS 82 48 [zR a0, zI a1, zI a2, zI a3, zI a4, u5] [] sh pp mm Q ↔ zS 82 50 [zR a0, zI a1, zI a2, zI a3, zU, zU] [zI a4] sh pp mm Q := s_go cC_readFigures_48 cC_readFigures_50 rfl rfl
theorem rC_readFigures_50 {a0 : Nat} {a1 a2 a3 s0 : Int} {u4 u5 : zV} : zS 82 50 [zR a0, zI a1, zI a2, zI a3, u4, u5] [zI s0] sh pp mm Q ↔ zS 82 52 [zR a0, zI a1, zI a2, zI a3, zU, zU] [zI 10, zI s0] sh pp mm Q := s_go cC_readFigures_50 cC_readFigures_52 rfl rfl
theorem rC_readFigures_52 {a0 : Nat} {a1 a2 a3 s0 s1 : Int} {u4 u5 : zV} : zS 82 52 [zR a0, zI a1, zI a2, zI a3, u4, u5] [zI s0, zI s1] sh pp mm Q ↔ zS 82 53 [zR a0, zI a1, zI a2, zI a3, zU, zU] [zI (zw32 (s1 * s0))] sh pp mm Q := s_go cC_readFigures_52 cC_readFigures_53 rfl rfl
theorem rC_readFigures_53 {a0 : Nat} {a1 a2 a3 s0 : Int} {u4 u5 : zV} : zS 82 53 [zR a0, zI a1, zI a2, zI a3, u4, u5] [zI s0] sh pp mm Q ↔ zS 82 54 [zR a0, zI a1, zI a2, zI a3, zU, zU] [zR a0, zI s0] sh pp mm Q := s_go cC_readFigures_53 cC_readFigures_54 rfl rfl
theorem rC_readFigures_54 {a0 s0 : Nat} {a1 a2 a3 s1 : Int} {u4 u5 : zV} (hk : zKd sh s0 = 8) : zS 82 54 [zR a0, zI a1, zI a2, zI a3, u4, u5] [zR s0, zI s1] sh pp mm Q ↔ zS 82 57 [zR a0, zI a1, zI a2, zI a3, zU, zU] [zR (pp s0 6), zI s1] sh pp mm Q := s_go cC_readFigures_54 cC_readFigures_57 (if_pos hk) rfl
theorem rC_readFigures_57 {a0 s0 : Nat} {a1 a2 a3 s1 : Int} {u4 u5 : zV} : zS 82 57 [zR a0, zI a1, zI a2, zI a3, u4, u5] [zR s0, zI s1] sh pp mm Q ↔ zS 82 58 [zR a0, zI a1, zI a2, zI a3, zU, zU] [zR a0, zR s0, zI s1] sh pp mm Q := s_go cC_readFigures_57 cC_readFigures_58 rfl rfl
theorem rC_readFigures_58 {a0 s0 s1 : Nat} {a1 a2 a3 s2 : Int} {u4 u5 : zV} (hk : zKd sh s0 = 8) : zS 82 58 [zR a0, zI a1, zI a2, zI a3, u4, u5] [zR s0, zR s1, zI s2] sh pp mm Q ↔ zS 82 61 [zR a0, zI a1, zI a2, zI a3, zU, zU] [zI (mm s0 8), zR s1, zI s2] sh pp mm Q := s_go cC_readFigures_58 cC_readFigures_61 (if_pos hk) rfl
theorem rC_readFigures_61 {a0 s1 : Nat} {a1 a2 a3 s0 s2 : Int} {u4 u5 : zV} (hk : zKd sh s1 = 20 ∨ zKd sh s1 = 30) (h0 : 0 ≤ s0) (h1 : s0 < zLn sh s1) : zS 82 61 [zR a0, zI a1, zI a2, zI a3, u4, u5] [zI s0, zR s1, zI s2] sh pp mm Q ↔ zS 82 62 [zR a0, zI a1, zI a2, zI a3, zU, zU] [zI (mm s1 s0), zI s2] sh pp mm Q := s_go cC_readFigures_61 cC_readFigures_62 (if_pos ⟨hk, h0, h1⟩) rfl
theorem rC_readFigures_62 {a0 : Nat} {a1 a2 a3 s0 s1 : Int} {u4 u5 : zV} : zS 82 62 [zR a0, zI a1, zI a2, zI a3, u4, u5] [zI s0, zI s1] sh pp mm Q ↔ zS 82 63 [zR a0, zI a1, zI a2, zI a3, zU, zU] [zI (zw32 (s1 + s0))] sh pp mm Q := s_go cC_readFigures_62 cC_readFigures_63 rfl rfl
theorem rC_readFigures_63 {a0 : Nat} {a1 a2 a3 s0 : Int} {u4 u5 : zV} : zS 82 63 [zR a0, zI a1, zI a2, zI a3, u4, u5] [zI s0] sh pp mm Q ↔ zS 82 65 [zR a0, zI a1, zI a2, zI a3, zU, zU] [zI 48, zI s0] sh pp mm Q := s_go cC_readFigures_63 cC_readFigures_65 rfl rfl
theorem rC_readFigures_65 {a0 : Nat} {a1 a2 a3 s0 s1 : Int} {u4 u5 : zV} : zS 82 65 [zR a0, zI a1, zI a2, zI a3, u4, u5] [zI s0, zI s1] sh pp mm Q ↔ zS 82 66 [zR a0, zI a1, zI a2, zI a3, zU, zU] [zI (zw32 (s1 - s0))] sh pp mm Q := s_go cC_readFigures_65 cC_readFigures_66 rfl rfl
theorem rC_readFigures_66 {a0 : Nat} {a1 a2 a3 s0 : Int} {u4 u5 : zV} : zS 82 66 [zR a0, zI a1, zI a2, zI a3, u4, u5] [zI s0] sh pp mm Q ↔ zS 82 69 [zR a0, zI a1, zI a2, zI a3, zU, zU] [zI 1000, zI s0] sh pp mm Q := s_go cC_readFigures_66 cC_readFigures_69 rfl rfl
theorem rC_readFigures_69 {a0 : Nat} {a1 a2 a3 s0 s1 : Int} {u4 u5 : zV} (hz : s0 ≠ 0) : zS 82 69 [zR a0, zI a1, zI a2, zI a3, u4, u5] [zI s0, zI s1] sh pp mm Q ↔ zS 82 70 [zR a0, zI a1, zI a2, zI a3, zU, zU] [zI (s1.tmod s0)] sh pp mm Q := s_go cC_readFigures_69 cC_readFigures_70 (if_neg hz) rfl
theorem rC_readFigures_70 {a0 : Nat} {a1 a2 a3 s0 : Int} {u4 u5 : zV} : zS 82 70 [zR a0, zI a1, zI a2, zI a3, u4, u5] [zI s0] sh pp mm Q ↔ zS 82 72 [zR a0, zI a1, zI a2, zI a3, zI s0, zU] [] sh pp mm Q := s_go cC_readFigures_70 cC_readFigures_72 rfl rfl
theorem rC_readFigures_72 {a0 : Nat} {a1 a2 a3 a4 : Int} {u5 : zV} : zS 82 72 [zR a0, zI a1, zI a2, zI a3, zI a4, u5] [] sh pp mm Q ↔ zS 82 73 [zR a0, zI a1, zI a2, zI a3, zI a4, zU] [zR a0] sh pp mm Q := s_go cC_readFigures_72 cC_readFigures_73 rfl rfl
theorem rC_readFigures_73 {a0 s0 : Nat} {a1 a2 a3 a4 : Int} {u5 : zV} : zS 82 73 [zR a0, zI a1, zI a2, zI a3, zI a4, u5] [zR s0] sh pp mm Q ↔ zS 82 74 [zR a0, zI a1, zI a2, zI a3, zI a4, zU] [zR s0, zR s0] sh pp mm Q := s_go cC_readFigures_73 cC_readFigures_74 rfl rfl
theorem rC_readFigures_74 {a0 s0 s1 : Nat} {a1 a2 a3 a4 : Int} {u5 : zV} (hk : zKd sh s0 = 8) : zS 82 74 [zR a0, zI a1, zI a2, zI a3, zI a4, u5] [zR s0, zR s1] sh pp mm Q ↔ zS 82 77 [zR a0, zI a1, zI a2, zI a3, zI a4, zU] [zI (mm s0 8), zR s1] sh pp mm Q := s_go cC_readFigures_74 cC_readFigures_77 (if_pos hk) rfl
theorem rC_readFigures_77 {a0 s1 : Nat} {a1 a2 a3 a4 s0 : Int} {u5 : zV} : zS 82 77 [zR a0, zI a1, zI a2, zI a3, zI a4, u5] [zI s0, zR s1] sh pp mm Q ↔ zS 82 78 [zR a0, zI a1, zI a2, zI a3, zI a4, zU] [zI 1, zI s0, zR s1] sh pp mm Q := s_go cC_readFigures_77 cC_readFigures_78 rfl rfl
theorem rC_readFigures_78 {a0 s2 : Nat} {a1 a2 a3 a4 s0 s1 : Int} {u5 : zV} : zS 82 78 [zR a0, zI a1, zI a2, zI a3, zI a4, u5] [zI s0, zI s1, zR s2] sh pp mm Q ↔ zS 82 79 [zR a0, zI a1, zI a2, zI a3, zI a4, zU] [zI (zw32 (s1 + s0)), zR s2] sh pp mm Q := s_go cC_readFigures_78 cC_readFigures_79 rfl rfl
theorem rC_readFigures_79 {a0 s1 : Nat} {a1 a2 a3 a4 s0 : Int} {u5 : zV} (hk : zKd sh s1 = 8) : zS 82 79 [zR a0, zI a1, zI a2, zI a3, zI a4, u5] [zI s0, zR s1] sh pp mm Q ↔ zS 82 82 [zR a0, zI a1, zI a2, zI a3, zI a4, zU] [] sh pp (zupd mm s1 8 s0) Q := s_go cC_readFigures_79 cC_readFigures_82 (if_pos ⟨hk, Or.inl rfl⟩) rfl
theorem rC_readFigures_82 {a0 : Nat} {a1 a2 a3 a4 : Int} {u5 : zV} : zS 82 82 [zR a0, zI a1, zI a2, zI a3, zI a4, u5] [] sh pp mm Q ↔ zS 82 22 [zR a0, zI a1, zI a2, zI a3, zI a4, zU] [] sh pp mm Q := s_go cC_readFigures_82 cC_readFigures_22 rfl rfl
theorem rC_readFigures_85 {a0 : Nat} {a1 a2 a3 a4 : Int} {u5 : zV} : zS 82 85 [zR a0, zI a1, zI a2, zI a3, zI a4, u5] [] sh pp mm Q ↔ zS 82 86 [zR a0, zI a1, zI a2, zI a3, zI a4, zU] [zR a0] sh pp mm Q := s_go cC_readFigures_85 cC_readFigures_86 rfl rfl
theorem rC_readFigures_86 {a0 s0 : Nat} {a1 a2 a3 a4 : Int} {u5 : zV} (hk : zKd sh s0 = 8) : zS 82 86 [zR a0, zI a1, zI a2, zI a3, zI a4, u5] [zR s0] sh pp mm Q ↔ zS 82 89 [zR a0, zI a1, zI a2, zI a3, zI a4, zU] [zI (mm s0 8)] sh pp mm Q := s_go cC_readFigures_86 cC_readFigures_89 (if_pos hk) rfl
theorem rC_readFigures_89 {a0 : Nat} {a1 a2 a3 a4 s0 : Int} {u5 : zV} : zS 82 89 [zR a0, zI a1, zI a2, zI a3, zI a4, u5] [zI s0] sh pp mm Q ↔ zS 82 90 [zR a0, zI a1, zI a2, zI a3, zI a4, zU] [zI a3, zI s0] sh pp mm Q := s_go cC_readFigures_89 cC_readFigures_90 rfl rfl
theorem rC_readFigures_90 {a0 : Nat} {a1 a2 a3 a4 s0 s1 : Int} {u5 : zV} : zS 82 90 [zR a0, zI a1, zI a2, zI a3, zI a4, u5] [zI s0, zI s1] sh pp mm Q ↔ zS 82 91 [zR a0, zI a1, zI a2, zI a3, zI a4, zU] [zI (zw32 (s1 - s0))] sh pp mm Q := s_go cC_readFigures_90 cC_readFigures_91 rfl rfl
theorem rC_readFigures_91 {a0 : Nat} {a1 a2 a3 a4 s0 : Int} {u5 : zV} : zS 82 91 [zR a0, zI a1, zI a2, zI a3, zI a4, u5] [zI s0] sh pp mm Q ↔ zS 82 92 [zR a0, zI a1, zI a2, zI a3, zI a4, zU] [zI 1, zI s0] sh pp mm Q := s_go cC_readFigures_91 cC_readFigures_92 rfl rfl
theorem rC_readFigures_92 {a0 : Nat} {a1 a2 a3 a4 s0 s1 : Int} {u5 : zV} : zS 82 92 [zR a0, zI a1, zI a2, zI a3, zI a4, u5] [zI s0, zI s1] sh pp mm Q ↔ (s1 = s0 → zS 82 105 [zR a0, zI a1, zI a2, zU, zI a4, zU] [] sh pp mm Q) ∧ (¬ s1 = s0 → zS 82 95 [zR a0, zI a1, zI a2, zI a3, zI a4, zU] [] sh pp mm Q) := s_if cC_readFigures_92 cC_readFigures_105 cC_readFigures_95 rfl rfl rfl
theorem rC_readFigures_95 {a0 : Nat} {a1 a2 a3 a4 : Int} {u5 : zV} : zS 82 95 [zR a0, zI a1, zI a2, zI a3, zI a4, u5] [] sh pp mm Q ↔ zS 82 96 [zR a0, zI a1, zI a2, zI a3, zI a4, zU] [zR a0] sh pp mm Q := s_go cC_readFigures_95 cC_readFigures_96 rfl rfl
theorem rC_readFigures_96 {a0 s0 : Nat} {a1 a2 a3 a4 : Int} {u5 : zV} (hk : zKd sh s0 = 8) : zS 82 96 [zR a0, zI a1, zI a2, zI a3, zI a4, u5] [zR s0] sh pp mm Q ↔ zS 82 99 [zR a0, zI a1, zI a2, zI a3, zI a4, zU] [zI (mm s0 8)] sh pp mm Q := s_go cC_readFigures_96 cC_readFigures_99 (if_pos hk) rfl
theorem rC_readFigures_99 {a0 : Nat} {a1 a2 a3 a4 s0 : Int} {u5 : zV} : zS 82 99 [zR a0, zI a1, zI a2, zI a3, zI a4, u5] [zI s0] sh pp mm Q ↔ zS 82 100 [zR a0, zI a1, zI a2, zU, zI a4, zU] [zI a3, zI s0] sh pp mm Q := s_go cC_readFigures_99 cC_readFigures_100 rfl rfl
theorem rC_readFigures_100 {a0 : Nat} {a1 a2 a4 s0 s1 : Int} {u3 u5 : zV} : zS 82 100 [zR a0, zI a1, zI a2, u3, zI a4, u5] [zI s0, zI s1] sh pp mm Q ↔ zS 82 101 [zR a0, zI a1, zI a2, zU, zI a4, zU] [zI (zw32 (s1 - s0))] sh pp mm Q := s_go cC_readFigures_100 cC_readFigures_101 rfl rfl
theorem rC_readFigures_101 {a0 : Nat} {a1 a2 a4 s0 : Int} {u3 u5 : zV} : zS 82 101 [zR a0, zI a1, zI a2, u3, zI a4, u5] [zI s0] sh pp mm Q ↔ zS 82 102 [zR a0, zI a1, zI a2, zU, zI a4, zU] [zI 2, zI s0] sh pp mm Q := s_go cC_readFigures_101 cC_readFigures_102 rfl rfl
theorem rC_readFigures_102 {a0 : Nat} {a1 a2 a4 s0 s1 : Int} {u3 u5 : zV} : zS 82 102 [zR a0, zI a1, zI a2, u3, zI a4, u5] [zI s0, zI s1] sh pp mm Q ↔ (s1 = s0 → zS 82 105 [zR a0, zI a1, zI a2, zU, zI a4, zU] [] sh pp mm Q) ∧ (¬ s1 = s0 → zS 82 109 [zR a0, zI a1, zI a2, zU, zI a4, zU] [] sh pp mm Q) := s_ifn cC_readFigures_102 cC_readFigures_105 cC_readFigures_109 rfl rfl rfl
theorem rC_readFigures_105 {a0 : Nat} {a1 a2 a4 : Int} {u3 u5 : zV} : zS 82 105 [zR a0, zI a1, zI a2, u3, zI a4, u5] [] sh pp mm Q ↔ zS 82 106 [zR a0, zI a1, zI a2, zU, zI a4, zU] [zI 1] sh pp mm Q := s_go cC_readFigures_105 cC_readFigures_106 rfl rfl
theorem rC_readFigures_106 {a0 : Nat} {a1 a2 a4 s0 : Int} {u3 u5 : zV} : zS 82 106 [zR a0, zI a1, zI a2, u3, zI a4, u5] [zI s0] sh pp mm Q ↔ zS 82 110 [zR a0, zI a1, zI a2, zU, zI a4, zU] [zI s0] sh pp mm Q := s_go cC_readFigures_106 cC_readFigures_110 rfl rfl
theorem rC_readFigures_109 {a0 : Nat} {a1 a2 a4 : Int} {u3 u5 : zV} : zS 82 109 [zR a0, zI a1, zI a2, u3, zI a4, u5] [] sh pp mm Q ↔ zS 82 110 [zR a0, zI a1, zI a2, zU, zI a4, zU] [zI 0] sh pp mm Q := s_go cC_readFigures_109 cC_readFigures_110 rfl rfl
theorem rC_readFigures_110 {a0 : Nat} {a1 a2 a4 s0 : Int} {u3 u5 : zV} : zS 82 110 [zR a0, zI a1, zI a2, u3, zI a4, u5] [zI s0] sh pp mm Q ↔ zS 82 112 [zR a0, zI a1, zI a2, zU, zI a4, zI s0] [] sh pp mm Q := s_go cC_readFigures_110 cC_readFigures_112 rfl rfl
theorem rC_readFigures_112 {a0 : Nat} {a1 a2 a4 a5 : Int} {u3 : zV} : zS 82 112 [zR a0, zI a1, zI a2, u3, zI a4, zI a5] [] sh pp mm Q ↔ zS 82 113 [zR a0, zI a1, zI a2, zU, zI a4, zI a5] [zR a0] sh pp mm Q := s_go cC_readFigures_112 cC_readFigures_113 rfl rfl
theorem rC_readFigures_113 {a0 s0 : Nat} {a1 a2 a4 a5 : Int} {u3 : zV} (hk : zKd sh s0 = 8) : zS 82 113 [zR a0, zI a1, zI a2, u3, zI a4, zI a5] [zR s0] sh pp mm Q ↔ zS 82 116 [zR a0, zI a1, zI a2, zU, zI a4, zI a5] [zR (pp s0 9)] sh pp mm Q := s_go cC_readFigures_113 cC_readFigures_116 (if_pos hk) rfl
theorem rC_readFigures_116 {a0 s0 : Nat} {a1 a2 a4 a5 : Int} {u3 : zV} : zS 82 116 [zR a0, zI a1, zI a2, u3, zI a4, zI a5] [zR s0] sh pp mm Q ↔ zS 82 117 [zR a0, zI a1, zI a2, zU, zI a4, zI a5] [zI a1, zR s0] sh pp mm Q := s_go cC_readFigures_116 cC_readFigures_117 rfl rfl
theorem rC_readFigures_117 {a0 s1 : Nat} {a1 a2 a4 a5 s0 : Int} {u3 : zV} : zS 82 117 [zR a0, zI a1, zI a2, u3, zI a4, zI a5] [zI s0, zR s1] sh pp mm Q ↔ zS 82 119 [zR a0, zI a1, zI a2, zU, zI a4, zU] [zI a5, zI s0, zR s1] sh pp mm Q := s_go cC_readFigures_117 cC_readFigures_119 rfl rfl
theorem rC_readFigures_119 {a0 s2 : Nat} {a1 a2 a4 s0 s1 : Int} {u3 u5 : zV} : zS 82 119 [zR a0, zI a1, zI a2, u3, zI a4, u5] [zI s0, zI s1, zR s2] sh pp mm Q ↔ (s0 = 0 → zS 82 126 [zR a0, zI a1, zI a2, zU, zI a4, zU] [zI s1, zR s2] sh pp mm Q) ∧ (¬ s0 = 0 → zS 82 122 [zR a0, zI a1, zI a2, zU, zI a4, zU] [zI s1, zR s2] sh pp mm Q) := s_if cC_readFigures_119 cC_readFigures_126 cC_readFigures_122 rfl rfl rfl
theorem rC_readFigures_122 {a0 s1 : Nat} {a1 a2 a4 s0 : Int} {u3 u5 : zV} : zS 82 122 [zR a0, zI a1, zI a2, u3, zI a4, u5] [zI s0, zR s1] sh pp mm Q ↔ zS 82 123 [zR a0, zI a1, zI a2, zU, zI a4, zU] [zI 3, zI s0, zR s1] sh pp mm Q := s_go cC_readFigures_122 cC_readFigures_123 rfl rfl
theorem rC_readFigures_123 {a0 s2 : Nat} {a1 a2 a4 s0 s1 : Int} {u3 u5 : zV} : zS 82 123 [zR a0, zI a1, zI a2, u3, zI a4, u5] [zI s0, zI s1, zR s2] sh pp mm Q ↔ zS 82 127 [zR a0, zI a1, zI a2, zU, zI a4, zU] [zI s0, zI s1, zR s2] sh pp mm Q := s_go cC_readFigures_123 cC_readFigures_127 rfl rfl
theorem rC_readFigures_126 {a0 s1 : Nat} {a1 a2 a4 s0 : Int} {u3 u5 : zV} : zS 82 126 [zR a0, zI a1, zI a2, u3, zI a4, u5] [zI s0, zR s1] sh pp mm Q ↔ zS 82 127 [zR a0, zI a1, zI a2, zU, zI a4, zU] [zI 1, zI s0, zR s1] sh pp mm Q := s_go cC_readFigures_126 cC_readFigures_127 rfl rfl
theorem rC_readFigures_127 {a0 s2 : Nat} {a1 a2 a4 s0 s1 : Int} {u3 u5 : zV} (hk : zKd sh s2 = 20) (h0 : 0 ≤ s1) (h1 : s1 < zLn sh s2) : zS 82 127 [zR a0, zI a1, zI a2, u3, zI a4, u5] [zI s0, zI s1, zR s2] sh pp mm Q ↔ zS 82 128 [zR a0, zI a1, zI a2, zU, zI a4, zU] [] sh pp (zupd mm s2 s1 s0) Q := s_go cC_readFigures_127 cC_readFigures_128 (if_pos ⟨hk, h0, h1, fun h => absurd h (by decide)⟩) rfl
theorem rC_readFigures_128 {a0 : Nat} {a1 a2 a4 : Int} {u3 u5 : zV} : zS 82 128 [zR a0, zI a1, zI a2, u3, zI a4, u5] [] sh pp mm Q ↔ zS 82 129 [zU, zI a1, zI a2, zU, zI a4, zU] [zR a0] sh pp mm Q := s_go cC_readFigures_128 cC_readFigures_129 rfl rfl
theorem rC_readFigures_129 {s0 : Nat} {a1 a2 a4 : Int} {u0 u3 u5 : zV} (hk : zKd sh s0 = 8) : zS 82 129 [u0, zI a1, zI a2, u3, zI a4, u5] [zR s0] sh pp mm Q ↔ zS 82 132 [zU, zI a1, zI a2, zU, zI a4, zU] [zR (pp s0 11)] sh pp mm Q := s_go cC_readFigures_129 cC_readFigures_132 (if_pos hk) rfl
theorem rC_readFigures_132 {s0 : Nat} {a1 a2 a4 : Int} {u0 u3 u5 : zV} : zS 82 132 [u0, zI a1, zI a2, u3, zI a4, u5] [zR s0] sh pp mm Q ↔ zS 82 133 [zU, zU, zI a2, zU, zI a4, zU] [zI a1, zR s0] sh pp mm Q := s_go cC_readFigures_132 cC_readFigures_133 rfl rfl
theorem rC_readFigures_133 {s1 : Nat} {a2 a4 s0 : Int} {u0 u1 u3 u5 : zV} : zS 82 133 [u0, u1, zI a2, u3, zI a4, u5] [zI s0, zR s1] sh pp mm Q ↔ zS 82 134 [zU, zU, zU, zU, zI a4, zU] [zI a2, zI s0, zR s1] sh pp mm Q := s_go cC_readFigures_133 cC_readFigures_134 rfl rfl
theorem rC_readFigures_134 {s2 : Nat} {a4 s0 s1 : Int} {u0 u1 u2 u3 u5 : zV} : zS 82 134 [u0, u1, u2, u3, zI a4, u5] [zI s0, zI s1, zR s2] sh pp mm Q ↔ (s0 = 0 → zS 82 143 [zU, zU, zU, zU, zI a4, zU] [zI s1, zR s2] sh pp mm Q) ∧ (¬ s0 = 0 → zS 82 137 [zU, zU, zU, zU, zI a4, zU] [zI s1, zR s2] sh pp mm Q) := s_if cC_readFigures_134 cC_readFigures_143 cC_readFigures_137 rfl rfl rfl
theorem rC_readFigures_137 {s1 : Nat} {a4 s0 : Int} {u0 u1 u2 u3 u5 : zV} : zS 82 137 [u0, u1, u2, u3, zI a4, u5] [zI s0, zR s1] sh pp mm Q ↔ zS 82 139 [zU, zU, zU, zU, zU, zU] [zI a4, zI s0, zR s1] sh pp mm Q := s_go cC_readFigures_137 cC_readFigures_139 rfl rfl
theorem rC_readFigures_139 {s2 : Nat} {s0 s1 : Int} {u0 u1 u2 u3 u4 u5 : zV} : zS 82 139 [u0, u1, u2, u3, u4, u5] [zI s0, zI s1, zR s2] sh pp mm Q ↔ zS 82 140 [zU, zU, zU, zU, zU, zU] [zI (zw32 (-s0)), zI s1, zR s2] sh pp mm Q := s_go cC_readFigures_139 cC_readFigures_140 rfl rfl
theorem rC_readFigures_140 {s2 : Nat} {s0 s1 : Int} {u0 u1 u2 u3 u4 u5 : zV} : zS 82 140 [u0, u1, u2, u3, u4, u5] [zI s0, zI s1, zR s2] sh pp mm Q ↔ zS 82 145 [zU, zU, zU, zU, zU, zU] [zI s0, zI s1, zR s2] sh pp mm Q := s_go cC_readFigures_140 cC_readFigures_145 rfl rfl
theorem rC_readFigures_143 {s1 : Nat} {a4 s0 : Int} {u0 u1 u2 u3 u5 : zV} : zS 82 143 [u0, u1, u2, u3, zI a4, u5] [zI s0, zR s1] sh pp mm Q ↔ zS 82 145 [zU, zU, zU, zU, zU, zU] [zI a4, zI s0, zR s1] sh pp mm Q := s_go cC_readFigures_143 cC_readFigures_145 rfl rfl
theorem rC_readFigures_145 {s2 : Nat} {s0 s1 : Int} {u0 u1 u2 u3 u4 u5 : zV} (hk : zKd sh s2 = 20) (h0 : 0 ≤ s1) (h1 : s1 < zLn sh s2) : zS 82 145 [u0, u1, u2, u3, u4, u5] [zI s0, zI s1, zR s2] sh pp mm Q ↔ zS 82 146 [zU, zU, zU, zU, zU, zU] [] sh pp (zupd mm s2 s1 s0) Q := s_go cC_readFigures_145 cC_readFigures_146 (if_pos ⟨hk, h0, h1, fun h => absurd h (by decide)⟩) rfl
theorem rC_readFigures_146 {u0 u1 u2 u3 u4 u5 : zV} : zS 82 146 [u0, u1, u2, u3, u4, u5] [] sh pp mm Q ↔ Q zU sh pp mm := s_ret cC_readFigures_146 rfl
theorem cAC_isLetter : ∀ q ∈ zT83, zCode 83 q.1 = some q.2 := zAll (mid := 83) rfl (by decide +kernel)
theorem cAC_isLetter_0 : ∀ q ∈ zT83_0, zCode 83 q.1 = some q.2 := fun q h => cAC_isLetter q (h)
theorem cC_isLetter_0 : zCode 83 0 = some (.iload_n 0, 1, 0, 0, 0, 0, 1) := cAC_isLetter_0 _ (List.mem_of_getElem? (i := 0) rfl)
theorem cC_isLetter_1 : zCode 83 1 = some (.bipush 97, 3, 0, 0, 0, 0, 1) := cAC_isLetter_0 _ (List.mem_of_getElem? (i := 1) rfl)
theorem cC_isLetter_3 : zCode 83 3 = some (.if_icmp .lt 13, 6, 16, 0, 0, 0, 1) := cAC_isLetter_0 _ (List.mem_of_getElem? (i := 2) rfl)
theorem cC_isLetter_6 : zCode 83 6 = some (.iload_n 0, 7, 0, 0, 0, 0, 1) := cAC_isLetter_0 _ (List.mem_of_getElem? (i := 3) rfl)
theorem cC_isLetter_7 : zCode 83 7 = some (.bipush 122, 9, 0, 0, 0, 0, 0) := cAC_isLetter_0 _ (List.mem_of_getElem? (i := 4) rfl)
theorem cC_isLetter_9 : zCode 83 9 = some (.if_icmp .gt 7, 12, 16, 0, 0, 0, 0) := cAC_isLetter_0 _ (List.mem_of_getElem? (i := 5) rfl)
theorem cC_isLetter_12 : zCode 83 12 = some (.iconst 1, 13, 0, 0, 0, 0, 0) := cAC_isLetter_0 _ (List.mem_of_getElem? (i := 6) rfl)
theorem cC_isLetter_13 : zCode 83 13 = some (.goto 4, 16, 17, 0, 0, 0, 0) := cAC_isLetter_0 _ (List.mem_of_getElem? (i := 7) rfl)
theorem cC_isLetter_16 : zCode 83 16 = some (.iconst 0, 17, 0, 0, 0, 0, 0) := cAC_isLetter_0 _ (List.mem_of_getElem? (i := 8) rfl)
theorem cC_isLetter_17 : zCode 83 17 = some (.ireturn, 18, 0, 3, 0, 0, 0) := cAC_isLetter_0 _ (List.mem_of_getElem? (i := 9) rfl)
theorem rC_isLetter_0 {a0 : Int} : zS 83 0 [zI a0] [] sh pp mm Q ↔ zS 83 1 [zI a0] [zI a0] sh pp mm Q := s_go cC_isLetter_0 cC_isLetter_1 rfl rfl
theorem rC_isLetter_1 {a0 s0 : Int} : zS 83 1 [zI a0] [zI s0] sh pp mm Q ↔ zS 83 3 [zI a0] [zI 97, zI s0] sh pp mm Q := s_go cC_isLetter_1 cC_isLetter_3 rfl rfl
theorem rC_isLetter_3 {a0 s0 s1 : Int} : zS 83 3 [zI a0] [zI s0, zI s1] sh pp mm Q ↔ (s1 < s0 → zS 83 16 [zU] [] sh pp mm Q) ∧ (¬ s1 < s0 → zS 83 6 [zI a0] [] sh pp mm Q) := s_if cC_isLetter_3 cC_isLetter_16 cC_isLetter_6 rfl rfl rfl
theorem rC_isLetter_6 {a0 : Int} : zS 83 6 [zI a0] [] sh pp mm Q ↔ zS 83 7 [zU] [zI a0] sh pp mm Q := s_go cC_isLetter_6 cC_isLetter_7 rfl rfl
theorem rC_isLetter_7 {s0 : Int} {u0 : zV} : zS 83 7 [u0] [zI s0] sh pp mm Q ↔ zS 83 9 [zU] [zI 122, zI s0] sh pp mm Q := s_go cC_isLetter_7 cC_isLetter_9 rfl rfl
theorem rC_isLetter_9 {s0 s1 : Int} {u0 : zV} : zS 83 9 [u0] [zI s0, zI s1] sh pp mm Q ↔ (s0 < s1 → zS 83 16 [zU] [] sh pp mm Q) ∧ (¬ s0 < s1 → zS 83 12 [zU] [] sh pp mm Q) := s_if cC_isLetter_9 cC_isLetter_16 cC_isLetter_12 rfl rfl rfl
theorem rC_isLetter_12 {u0 : zV} : zS 83 12 [u0] [] sh pp mm Q ↔ zS 83 13 [zU] [zI 1] sh pp mm Q := s_go cC_isLetter_12 cC_isLetter_13 rfl rfl
theorem rC_isLetter_13 {s0 : Int} {u0 : zV} : zS 83 13 [u0] [zI s0] sh pp mm Q ↔ zS 83 17 [zU] [zI s0] sh pp mm Q := s_go cC_isLetter_13 cC_isLetter_17 rfl rfl
theorem rC_isLetter_16 {u0 : zV} : zS 83 16 [u0] [] sh pp mm Q ↔ zS 83 17 [zU] [zI 0] sh pp mm Q := s_go cC_isLetter_16 cC_isLetter_17 rfl rfl
theorem rC_isLetter_17 {s0 : Int} {u0 : zV} (hb : s0 = 0 ∨ s0 = 1) : zS 83 17 [u0] [zI s0] sh pp mm Q ↔ Q (zI s0) sh pp mm := s_ret cC_isLetter_17 (if_pos (decide_eq_true hb))
theorem cAC_isFigure : ∀ q ∈ zT84, zCode 84 q.1 = some q.2 := zAll (mid := 84) rfl (by decide +kernel)
theorem cAC_isFigure_0 : ∀ q ∈ zT84_0, zCode 84 q.1 = some q.2 := fun q h => cAC_isFigure q (h)
theorem cC_isFigure_0 : zCode 84 0 = some (.iload_n 0, 1, 0, 0, 0, 0, 1) := cAC_isFigure_0 _ (List.mem_of_getElem? (i := 0) rfl)
theorem cC_isFigure_1 : zCode 84 1 = some (.bipush 48, 3, 0, 0, 0, 0, 1) := cAC_isFigure_0 _ (List.mem_of_getElem? (i := 1) rfl)
theorem cC_isFigure_3 : zCode 84 3 = some (.if_icmp .lt 13, 6, 16, 0, 0, 0, 1) := cAC_isFigure_0 _ (List.mem_of_getElem? (i := 2) rfl)
theorem cC_isFigure_6 : zCode 84 6 = some (.iload_n 0, 7, 0, 0, 0, 0, 1) := cAC_isFigure_0 _ (List.mem_of_getElem? (i := 3) rfl)
theorem cC_isFigure_7 : zCode 84 7 = some (.bipush 57, 9, 0, 0, 0, 0, 0) := cAC_isFigure_0 _ (List.mem_of_getElem? (i := 4) rfl)
theorem cC_isFigure_9 : zCode 84 9 = some (.if_icmp .gt 7, 12, 16, 0, 0, 0, 0) := cAC_isFigure_0 _ (List.mem_of_getElem? (i := 5) rfl)
theorem cC_isFigure_12 : zCode 84 12 = some (.iconst 1, 13, 0, 0, 0, 0, 0) := cAC_isFigure_0 _ (List.mem_of_getElem? (i := 6) rfl)
theorem cC_isFigure_13 : zCode 84 13 = some (.goto 4, 16, 17, 0, 0, 0, 0) := cAC_isFigure_0 _ (List.mem_of_getElem? (i := 7) rfl)
theorem cC_isFigure_16 : zCode 84 16 = some (.iconst 0, 17, 0, 0, 0, 0, 0) := cAC_isFigure_0 _ (List.mem_of_getElem? (i := 8) rfl)
theorem cC_isFigure_17 : zCode 84 17 = some (.ireturn, 18, 0, 3, 0, 0, 0) := cAC_isFigure_0 _ (List.mem_of_getElem? (i := 9) rfl)
theorem rC_isFigure_0 {a0 : Int} : zS 84 0 [zI a0] [] sh pp mm Q ↔ zS 84 1 [zI a0] [zI a0] sh pp mm Q := s_go cC_isFigure_0 cC_isFigure_1 rfl rfl
theorem rC_isFigure_1 {a0 s0 : Int} : zS 84 1 [zI a0] [zI s0] sh pp mm Q ↔ zS 84 3 [zI a0] [zI 48, zI s0] sh pp mm Q := s_go cC_isFigure_1 cC_isFigure_3 rfl rfl
theorem rC_isFigure_3 {a0 s0 s1 : Int} : zS 84 3 [zI a0] [zI s0, zI s1] sh pp mm Q ↔ (s1 < s0 → zS 84 16 [zU] [] sh pp mm Q) ∧ (¬ s1 < s0 → zS 84 6 [zI a0] [] sh pp mm Q) := s_if cC_isFigure_3 cC_isFigure_16 cC_isFigure_6 rfl rfl rfl
theorem rC_isFigure_6 {a0 : Int} : zS 84 6 [zI a0] [] sh pp mm Q ↔ zS 84 7 [zU] [zI a0] sh pp mm Q := s_go cC_isFigure_6 cC_isFigure_7 rfl rfl
theorem rC_isFigure_7 {s0 : Int} {u0 : zV} : zS 84 7 [u0] [zI s0] sh pp mm Q ↔ zS 84 9 [zU] [zI 57, zI s0] sh pp mm Q := s_go cC_isFigure_7 cC_isFigure_9 rfl rfl
theorem rC_isFigure_9 {s0 s1 : Int} {u0 : zV} : zS 84 9 [u0] [zI s0, zI s1] sh pp mm Q ↔ (s0 < s1 → zS 84 16 [zU] [] sh pp mm Q) ∧ (¬ s0 < s1 → zS 84 12 [zU] [] sh pp mm Q) := s_if cC_isFigure_9 cC_isFigure_16 cC_isFigure_12 rfl rfl rfl
theorem rC_isFigure_12 {u0 : zV} : zS 84 12 [u0] [] sh pp mm Q ↔ zS 84 13 [zU] [zI 1] sh pp mm Q := s_go cC_isFigure_12 cC_isFigure_13 rfl rfl
theorem rC_isFigure_13 {s0 : Int} {u0 : zV} : zS 84 13 [u0] [zI s0] sh pp mm Q ↔ zS 84 17 [zU] [zI s0] sh pp mm Q := s_go cC_isFigure_13 cC_isFigure_17 rfl rfl
theorem rC_isFigure_16 {u0 : zV} : zS 84 16 [u0] [] sh pp mm Q ↔ zS 84 17 [zU] [zI 0] sh pp mm Q := s_go cC_isFigure_16 cC_isFigure_17 rfl rfl
theorem rC_isFigure_17 {s0 : Int} {u0 : zV} (hb : s0 = 0 ∨ s0 = 1) : zS 84 17 [u0] [zI s0] sh pp mm Q ↔ Q (zI s0) sh pp mm := s_ret cC_isFigure_17 (if_pos (decide_eq_true hb))
theorem cAC_takeItem : ∀ q ∈ zT85, zCode 85 q.1 = some q.2 := zAll (mid := 85) rfl (by decide +kernel)
theorem cAC_takeItem_0 : ∀ q ∈ zT85_0, zCode 85 q.1 = some q.2 := fun q h => cAC_takeItem q (List.mem_append_left _ h)
theorem cAC_takeItem_1 : ∀ q ∈ zT85_1, zCode 85 q.1 = some q.2 := fun q h => cAC_takeItem q (List.mem_append_right _ (List.mem_append_left _ h))
theorem cAC_takeItem_2 : ∀ q ∈ zT85_2, zCode 85 q.1 = some q.2 := fun q h => cAC_takeItem q (List.mem_append_right _ (List.mem_append_right _ (List.mem_append_left _ h)))
theorem cAC_takeItem_3 : ∀ q ∈ zT85_3, zCode 85 q.1 = some q.2 := fun q h => cAC_takeItem q (List.mem_append_right _ (List.mem_append_right _ (List.mem_append_right _ (List.mem_append_left _ h))))
theorem cAC_takeItem_4 : ∀ q ∈ zT85_4, zCode 85 q.1 = some q.2 := fun q h => cAC_takeItem q (List.mem_append_right _ (List.mem_append_right _ (List.mem_append_right _ (List.mem_append_right _ (List.mem_append_left _ h)))))
theorem cAC_takeItem_5 : ∀ q ∈ zT85_5, zCode 85 q.1 = some q.2 := fun q h => cAC_takeItem q (List.mem_append_right _ (List.mem_append_right _ (List.mem_append_right _ (List.mem_append_right _ (List.mem_append_right _ (List.mem_append_left _ h))))))
theorem cAC_takeItem_6 : ∀ q ∈ zT85_6, zCode 85 q.1 = some q.2 := fun q h => cAC_takeItem q (List.mem_append_right _ (List.mem_append_right _ (List.mem_append_right _ (List.mem_append_right _ (List.mem_append_right _ (List.mem_append_right _ h))))))
theorem cC_takeItem_0 : zCode 85 0 = some (.aload_n 0, 1, 0, 0, 0, 0, 1) := cAC_takeItem_0 _ (List.mem_of_getElem? (i := 0) rfl)
theorem cC_takeItem_1 : zCode 85 1 = some (.getfield 50, 4, 8, 12, 0, 387, 1) := cAC_takeItem_0 _ (List.mem_of_getElem? (i := 1) rfl)
theorem cC_takeItem_4 : zCode 85 4 = some (.istore_n 1, 5, 0, 0, 0, 0, 1) := cAC_takeItem_0 _ (List.mem_of_getElem? (i := 2) rfl)
theorem cC_takeItem_5 : zCode 85 5 = some (.aload_n 0, 6, 0, 0, 0, 0, 3) := cAC_takeItem_0 _ (List.mem_of_getElem? (i := 3) rfl)
theorem cC_takeItem_6 : zCode 85 6 = some (.getfield 41, 9, 8, 9, 2, 384, 3) := cAC_takeItem_0 _ (List.mem_of_getElem? (i := 4) rfl)
theorem cC_takeItem_9 : zCode 85 9 = some (.iload_n 1, 10, 0, 0, 0, 0, 3) := cAC_takeItem_0 _ (List.mem_of_getElem? (i := 5) rfl)
theorem cC_takeItem_10 : zCode 85 10 = some (.iaload, 11, 0, 0, 0, 0, 3) := cAC_takeItem_0 _ (List.mem_of_getElem? (i := 6) rfl)
theorem cC_takeItem_11 : zCode 85 11 = some (.istore_n 2, 12, 0, 0, 0, 0, 3) := cAC_takeItem_0 _ (List.mem_of_getElem? (i := 7) rfl)
theorem cC_takeItem_12 : zCode 85 12 = some (.iload_n 2, 13, 0, 0, 0, 0, 7) := cAC_takeItem_0 _ (List.mem_of_getElem? (i := 8) rfl)
theorem cC_takeItem_13 : zCode 85 13 = some (.ifCond .ne 12, 16, 25, 0, 0, 0, 7) := cAC_takeItem_0 _ (List.mem_of_getElem? (i := 9) rfl)
theorem cC_takeItem_16 : zCode 85 16 = some (.aload_n 0, 17, 0, 0, 0, 0, 7) := cAC_takeItem_0 _ (List.mem_of_getElem? (i := 10) rfl)
theorem cC_takeItem_17 : zCode 85 17 = some (.getfield 53, 20, 8, 13, 0, 388, 7) := cAC_takeItem_0 _ (List.mem_of_getElem? (i := 11) rfl)
theorem cC_takeItem_20 : zCode 85 20 = some (.ifCond .ne 5, 23, 25, 0, 0, 0, 7) := cAC_takeItem_0 _ (List.mem_of_getElem? (i := 12) rfl)
theorem cC_takeItem_23 : zCode 85 23 = some (.iconst 0, 24, 0, 0, 0, 0, 0) := cAC_takeItem_0 _ (List.mem_of_getElem? (i := 13) rfl)
theorem cC_takeItem_24 : zCode 85 24 = some (.ireturn, 25, 0, 3, 0, 0, 0) := cAC_takeItem_0 _ (List.mem_of_getElem? (i := 14) rfl)
theorem cC_takeItem_25 : zCode 85 25 = some (.aload_n 0, 26, 0, 0, 0, 0, 7) := cAC_takeItem_0 _ (List.mem_of_getElem? (i := 15) rfl)
theorem cC_takeItem_26 : zCode 85 26 = some (.iload_n 2, 27, 0, 0, 0, 0, 7) := cAC_takeItem_1 _ (List.mem_of_getElem? (i := 0) rfl)
theorem cC_takeItem_27 : zCode 85 27 = some (.invokevirtual 113, 30, 86, 1, 2, 8, 7) := cAC_takeItem_1 _ (List.mem_of_getElem? (i := 1) rfl)
theorem cC_takeItem_30 : zCode 85 30 = some (.ifCond .ne 8, 33, 38, 0, 0, 0, 7) := cAC_takeItem_1 _ (List.mem_of_getElem? (i := 2) rfl)
theorem cC_takeItem_33 : zCode 85 33 = some (.aload_n 0, 34, 0, 0, 0, 0, 1) := cAC_takeItem_1 _ (List.mem_of_getElem? (i := 3) rfl)
theorem cC_takeItem_34 : zCode 85 34 = some (.invokevirtual 116, 37, 87, 0, 1, 8, 0) := cAC_takeItem_1 _ (List.mem_of_getElem? (i := 4) rfl)
theorem cC_takeItem_37 : zCode 85 37 = some (.ireturn, 38, 0, 3, 0, 0, 0) := cAC_takeItem_1 _ (List.mem_of_getElem? (i := 5) rfl)
theorem cC_takeItem_38 : zCode 85 38 = some (.aload_n 0, 39, 0, 0, 0, 0, 7) := cAC_takeItem_1 _ (List.mem_of_getElem? (i := 6) rfl)
theorem cC_takeItem_39 : zCode 85 39 = some (.dup, 40, 0, 0, 0, 0, 7) := cAC_takeItem_1 _ (List.mem_of_getElem? (i := 7) rfl)
theorem cC_takeItem_40 : zCode 85 40 = some (.getfield 50, 43, 8, 12, 0, 387, 7) := cAC_takeItem_1 _ (List.mem_of_getElem? (i := 8) rfl)
theorem cC_takeItem_43 : zCode 85 43 = some (.iconst 1, 44, 0, 0, 0, 0, 7) := cAC_takeItem_1 _ (List.mem_of_getElem? (i := 9) rfl)
theorem cC_takeItem_44 : zCode 85 44 = some (.iadd, 45, 0, 0, 0, 0, 7) := cAC_takeItem_1 _ (List.mem_of_getElem? (i := 10) rfl)
theorem cC_takeItem_45 : zCode 85 45 = some (.putfield 50, 48, 8, 12, 0, 387, 7) := cAC_takeItem_1 _ (List.mem_of_getElem? (i := 11) rfl)
theorem cC_takeItem_48 : zCode 85 48 = some (.iconst 0, 49, 0, 0, 0, 0, 7) := cAC_takeItem_1 _ (List.mem_of_getElem? (i := 12) rfl)
theorem cC_takeItem_49 : zCode 85 49 = some (.istore_n 3, 50, 0, 0, 0, 0, 7) := cAC_takeItem_1 _ (List.mem_of_getElem? (i := 13) rfl)
theorem cC_takeItem_50 : zCode 85 50 = some (.iload_n 3, 51, 0, 0, 0, 0, 15) := cAC_takeItem_1 _ (List.mem_of_getElem? (i := 14) rfl)
theorem cC_takeItem_51 : zCode 85 51 = some (.iload_n 2, 52, 0, 0, 0, 0, 15) := cAC_takeItem_1 _ (List.mem_of_getElem? (i := 15) rfl)
theorem cC_takeItem_52 : zCode 85 52 = some (.invokestatic 119, 55, 88, 1, 1, 8, 15) := cAC_takeItem_2 _ (List.mem_of_getElem? (i := 0) rfl)
theorem cC_takeItem_55 : zCode 85 55 = some (.if_icmp .ge 53, 58, 108, 0, 0, 0, 15) := cAC_takeItem_2 _ (List.mem_of_getElem? (i := 1) rfl)
theorem cC_takeItem_58 : zCode 85 58 = some (.aload_n 0, 59, 0, 0, 0, 0, 15) := cAC_takeItem_2 _ (List.mem_of_getElem? (i := 2) rfl)
theorem cC_takeItem_59 : zCode 85 59 = some (.getfield 41, 62, 8, 9, 2, 384, 15) := cAC_takeItem_2 _ (List.mem_of_getElem? (i := 3) rfl)
theorem cC_takeItem_62 : zCode 85 62 = some (.aload_n 0, 63, 0, 0, 0, 0, 15) := cAC_takeItem_2 _ (List.mem_of_getElem? (i := 4) rfl)
theorem cC_takeItem_63 : zCode 85 63 = some (.getfield 50, 66, 8, 12, 0, 387, 15) := cAC_takeItem_2 _ (List.mem_of_getElem? (i := 5) rfl)
theorem cC_takeItem_66 : zCode 85 66 = some (.iaload, 67, 0, 0, 0, 0, 15) := cAC_takeItem_2 _ (List.mem_of_getElem? (i := 6) rfl)
theorem cC_takeItem_67 : zCode 85 67 = some (.iconst 3, 68, 0, 0, 0, 0, 15) := cAC_takeItem_2 _ (List.mem_of_getElem? (i := 7) rfl)
theorem cC_takeItem_68 : zCode 85 68 = some (.if_icmp .ne 19, 71, 87, 0, 0, 0, 15) := cAC_takeItem_2 _ (List.mem_of_getElem? (i := 8) rfl)
theorem cC_takeItem_71 : zCode 85 71 = some (.iload_n 2, 72, 0, 0, 0, 0, 15) := cAC_takeItem_2 _ (List.mem_of_getElem? (i := 9) rfl)
theorem cC_takeItem_72 : zCode 85 72 = some (.aload_n 0, 73, 0, 0, 0, 0, 15) := cAC_takeItem_2 _ (List.mem_of_getElem? (i := 10) rfl)
theorem cC_takeItem_73 : zCode 85 73 = some (.getfield 47, 76, 8, 11, 2, 386, 15) := cAC_takeItem_2 _ (List.mem_of_getElem? (i := 11) rfl)
theorem cC_takeItem_76 : zCode 85 76 = some (.aload_n 0, 77, 0, 0, 0, 0, 15) := cAC_takeItem_2 _ (List.mem_of_getElem? (i := 12) rfl)
theorem cC_takeItem_77 : zCode 85 77 = some (.getfield 50, 80, 8, 12, 0, 387, 15) := cAC_takeItem_2 _ (List.mem_of_getElem? (i := 13) rfl)
theorem cC_takeItem_80 : zCode 85 80 = some (.iaload, 81, 0, 0, 0, 0, 15) := cAC_takeItem_2 _ (List.mem_of_getElem? (i := 14) rfl)
theorem cC_takeItem_81 : zCode 85 81 = some (.invokestatic 123, 84, 89, 2, 2, 8, 15) := cAC_takeItem_2 _ (List.mem_of_getElem? (i := 15) rfl)
theorem cC_takeItem_84 : zCode 85 84 = some (.ifCond .ne 8, 87, 92, 0, 0, 0, 15) := cAC_takeItem_3 _ (List.mem_of_getElem? (i := 0) rfl)
theorem cC_takeItem_87 : zCode 85 87 = some (.aload_n 0, 88, 0, 0, 0, 0, 1) := cAC_takeItem_3 _ (List.mem_of_getElem? (i := 1) rfl)
theorem cC_takeItem_88 : zCode 85 88 = some (.invokevirtual 116, 91, 87, 0, 1, 8, 0) := cAC_takeItem_3 _ (List.mem_of_getElem? (i := 2) rfl)
theorem cC_takeItem_91 : zCode 85 91 = some (.ireturn, 92, 0, 3, 0, 0, 0) := cAC_takeItem_3 _ (List.mem_of_getElem? (i := 3) rfl)
theorem cC_takeItem_92 : zCode 85 92 = some (.aload_n 0, 93, 0, 0, 0, 0, 15) := cAC_takeItem_3 _ (List.mem_of_getElem? (i := 4) rfl)
theorem cC_takeItem_93 : zCode 85 93 = some (.dup, 94, 0, 0, 0, 0, 15) := cAC_takeItem_3 _ (List.mem_of_getElem? (i := 5) rfl)
theorem cC_takeItem_94 : zCode 85 94 = some (.getfield 50, 97, 8, 12, 0, 387, 15) := cAC_takeItem_3 _ (List.mem_of_getElem? (i := 6) rfl)
theorem cC_takeItem_97 : zCode 85 97 = some (.iconst 1, 98, 0, 0, 0, 0, 15) := cAC_takeItem_3 _ (List.mem_of_getElem? (i := 7) rfl)
theorem cC_takeItem_98 : zCode 85 98 = some (.iadd, 99, 0, 0, 0, 0, 15) := cAC_takeItem_3 _ (List.mem_of_getElem? (i := 8) rfl)
theorem cC_takeItem_99 : zCode 85 99 = some (.putfield 50, 102, 8, 12, 0, 387, 15) := cAC_takeItem_3 _ (List.mem_of_getElem? (i := 9) rfl)
theorem cC_takeItem_102 : zCode 85 102 = some (.iinc 3 1, 105, 0, 0, 0, 0, 15) := cAC_takeItem_3 _ (List.mem_of_getElem? (i := 10) rfl)
theorem cC_takeItem_105 : zCode 85 105 = some (.goto (-55), 108, 50, 0, 0, 0, 15) := cAC_takeItem_3 _ (List.mem_of_getElem? (i := 11) rfl)
theorem cC_takeItem_108 : zCode 85 108 = some (.aload_n 0, 109, 0, 0, 0, 0, 7) := cAC_takeItem_3 _ (List.mem_of_getElem? (i := 12) rfl)
theorem cC_takeItem_109 : zCode 85 109 = some (.getfield 41, 112, 8, 9, 2, 384, 7) := cAC_takeItem_3 _ (List.mem_of_getElem? (i := 13) rfl)
theorem cC_takeItem_112 : zCode 85 112 = some (.aload_n 0, 113, 0, 0, 0, 0, 7) := cAC_takeItem_3 _ (List.mem_of_getElem? (i := 14) rfl)
theorem cC_takeItem_113 : zCode 85 113 = some (.getfield 50, 116, 8, 12, 0, 387, 7) := cAC_takeItem_3 _ (List.mem_of_getElem? (i := 15) rfl)
theorem cC_takeItem_116 : zCode 85 116 = some (.iaload, 117, 0, 0, 0, 0, 7) := cAC_takeItem_4 _ (List.mem_of_getElem? (i := 0) rfl)
theorem cC_takeItem_117 : zCode 85 117 = some (.iconst 2, 118, 0, 0, 0, 0, 7) := cAC_takeItem_4 _ (List.mem_of_getElem? (i := 1) rfl)
theorem cC_takeItem_118 : zCode 85 118 = some (.if_icmp .eq 8, 121, 126, 0, 0, 0, 7) := cAC_takeItem_4 _ (List.mem_of_getElem? (i := 2) rfl)
theorem cC_takeItem_121 : zCode 85 121 = some (.aload_n 0, 122, 0, 0, 0, 0, 1) := cAC_takeItem_4 _ (List.mem_of_getElem? (i := 3) rfl)
theorem cC_takeItem_122 : zCode 85 122 = some (.invokevirtual 116, 125, 87, 0, 1, 8, 0) := cAC_takeItem_4 _ (List.mem_of_getElem? (i := 4) rfl)
theorem cC_takeItem_125 : zCode 85 125 = some (.ireturn, 126, 0, 3, 0, 0, 0) := cAC_takeItem_4 _ (List.mem_of_getElem? (i := 5) rfl)
theorem cC_takeItem_126 : zCode 85 126 = some (.aload_n 0, 127, 0, 0, 0, 0, 7) := cAC_takeItem_4 _ (List.mem_of_getElem? (i := 6) rfl)
theorem cC_takeItem_127 : zCode 85 127 = some (.dup, 128, 0, 0, 0, 0, 7) := cAC_takeItem_4 _ (List.mem_of_getElem? (i := 7) rfl)
theorem cC_takeItem_128 : zCode 85 128 = some (.getfield 50, 131, 8, 12, 0, 387, 7) := cAC_takeItem_4 _ (List.mem_of_getElem? (i := 8) rfl)
theorem cC_takeItem_131 : zCode 85 131 = some (.iconst 1, 132, 0, 0, 0, 0, 7) := cAC_takeItem_4 _ (List.mem_of_getElem? (i := 9) rfl)
theorem cC_takeItem_132 : zCode 85 132 = some (.iadd, 133, 0, 0, 0, 0, 7) := cAC_takeItem_4 _ (List.mem_of_getElem? (i := 10) rfl)
theorem cC_takeItem_133 : zCode 85 133 = some (.putfield 50, 136, 8, 12, 0, 387, 7) := cAC_takeItem_4 _ (List.mem_of_getElem? (i := 11) rfl)
theorem cC_takeItem_136 : zCode 85 136 = some (.aload_n 0, 137, 0, 0, 0, 0, 7) := cAC_takeItem_4 _ (List.mem_of_getElem? (i := 12) rfl)
theorem cC_takeItem_137 : zCode 85 137 = some (.iload_n 2, 138, 0, 0, 0, 0, 7) := cAC_takeItem_4 _ (List.mem_of_getElem? (i := 13) rfl)
theorem cC_takeItem_138 : zCode 85 138 = some (.iload_n 2, 139, 0, 0, 0, 0, 7) := cAC_takeItem_4 _ (List.mem_of_getElem? (i := 14) rfl)
theorem cC_takeItem_139 : zCode 85 139 = some (.bipush 7, 141, 0, 0, 0, 0, 7) := cAC_takeItem_4 _ (List.mem_of_getElem? (i := 15) rfl)
theorem cC_takeItem_141 : zCode 85 141 = some (.if_icmp .ne 7, 144, 148, 0, 0, 0, 7) := cAC_takeItem_5 _ (List.mem_of_getElem? (i := 0) rfl)
theorem cC_takeItem_144 : zCode 85 144 = some (.iconst 0, 145, 0, 0, 0, 0, 7) := cAC_takeItem_5 _ (List.mem_of_getElem? (i := 1) rfl)
theorem cC_takeItem_145 : zCode 85 145 = some (.goto 11, 148, 156, 0, 0, 0, 7) := cAC_takeItem_5 _ (List.mem_of_getElem? (i := 2) rfl)
theorem cC_takeItem_148 : zCode 85 148 = some (.aload_n 0, 149, 0, 0, 0, 0, 7) := cAC_takeItem_5 _ (List.mem_of_getElem? (i := 3) rfl)
theorem cC_takeItem_149 : zCode 85 149 = some (.getfield 47, 152, 8, 11, 2, 386, 7) := cAC_takeItem_5 _ (List.mem_of_getElem? (i := 4) rfl)
theorem cC_takeItem_152 : zCode 85 152 = some (.iload_n 1, 153, 0, 0, 0, 0, 7) := cAC_takeItem_5 _ (List.mem_of_getElem? (i := 5) rfl)
theorem cC_takeItem_153 : zCode 85 153 = some (.iconst 1, 154, 0, 0, 0, 0, 7) := cAC_takeItem_5 _ (List.mem_of_getElem? (i := 6) rfl)
theorem cC_takeItem_154 : zCode 85 154 = some (.iadd, 155, 0, 0, 0, 0, 7) := cAC_takeItem_5 _ (List.mem_of_getElem? (i := 7) rfl)
theorem cC_takeItem_155 : zCode 85 155 = some (.iaload, 156, 0, 0, 0, 0, 7) := cAC_takeItem_5 _ (List.mem_of_getElem? (i := 8) rfl)
theorem cC_takeItem_156 : zCode 85 156 = some (.iload_n 2, 157, 0, 0, 0, 0, 7) := cAC_takeItem_5 _ (List.mem_of_getElem? (i := 9) rfl)
theorem cC_takeItem_157 : zCode 85 157 = some (.iconst 4, 158, 0, 0, 0, 0, 3) := cAC_takeItem_5 _ (List.mem_of_getElem? (i := 10) rfl)
theorem cC_takeItem_158 : zCode 85 158 = some (.if_icmp .ne 14, 161, 172, 0, 0, 0, 3) := cAC_takeItem_5 _ (List.mem_of_getElem? (i := 11) rfl)
theorem cC_takeItem_161 : zCode 85 161 = some (.aload_n 0, 162, 0, 0, 0, 0, 3) := cAC_takeItem_5 _ (List.mem_of_getElem? (i := 12) rfl)
theorem cC_takeItem_162 : zCode 85 162 = some (.getfield 47, 165, 8, 11, 2, 386, 2) := cAC_takeItem_5 _ (List.mem_of_getElem? (i := 13) rfl)
theorem cC_takeItem_165 : zCode 85 165 = some (.iload_n 1, 166, 0, 0, 0, 0, 2) := cAC_takeItem_5 _ (List.mem_of_getElem? (i := 14) rfl)
theorem cC_takeItem_166 : zCode 85 166 = some (.iconst 2, 167, 0, 0, 0, 0, 0) := cAC_takeItem_5 _ (List.mem_of_getElem? (i := 15) rfl)
theorem cC_takeItem_167 : zCode 85 167 = some (.iadd, 168, 0, 0, 0, 0, 0) := cAC_takeItem_6 _ (List.mem_of_getElem? (i := 0) rfl)
theorem cC_takeItem_168 : zCode 85 168 = some (.iaload, 169, 0, 0, 0, 0, 0) := cAC_takeItem_6 _ (List.mem_of_getElem? (i := 1) rfl)
theorem cC_takeItem_169 : zCode 85 169 = some (.goto 4, 172, 173, 0, 0, 0, 0) := cAC_takeItem_6 _ (List.mem_of_getElem? (i := 2) rfl)
theorem cC_takeItem_172 : zCode 85 172 = some (.iconst 0, 173, 0, 0, 0, 0, 0) := cAC_takeItem_6 _ (List.mem_of_getElem? (i := 3) rfl)
theorem cC_takeItem_173 : zCode 85 173 = some (.invokevirtual 127, 176, 90, 3, 4, 8, 0) := cAC_takeItem_6 _ (List.mem_of_getElem? (i := 4) rfl)
theorem cC_takeItem_176 : zCode 85 176 = some (.iconst 1, 177, 0, 0, 0, 0, 0) := cAC_takeItem_6 _ (List.mem_of_getElem? (i := 5) rfl)
theorem cC_takeItem_177 : zCode 85 177 = some (.ireturn, 178, 0, 3, 0, 0, 0) := cAC_takeItem_6 _ (List.mem_of_getElem? (i := 6) rfl)
theorem rC_takeItem_0 {a0 : Nat} {u1 u2 u3 : zV} : zS 85 0 [zR a0, u1, u2, u3] [] sh pp mm Q ↔ zS 85 1 [zR a0, zU, zU, zU] [zR a0] sh pp mm Q := s_go cC_takeItem_0 cC_takeItem_1 rfl rfl
theorem rC_takeItem_1 {a0 s0 : Nat} {u1 u2 u3 : zV} (hk : zKd sh s0 = 8) : zS 85 1 [zR a0, u1, u2, u3] [zR s0] sh pp mm Q ↔ zS 85 4 [zR a0, zU, zU, zU] [zI (mm s0 12)] sh pp mm Q := s_go cC_takeItem_1 cC_takeItem_4 (if_pos hk) rfl
theorem rC_takeItem_4 {a0 : Nat} {s0 : Int} {u1 u2 u3 : zV} : zS 85 4 [zR a0, u1, u2, u3] [zI s0] sh pp mm Q ↔ zS 85 5 [zR a0, zI s0, zU, zU] [] sh pp mm Q := s_go cC_takeItem_4 cC_takeItem_5 rfl rfl
theorem rC_takeItem_5 {a0 : Nat} {a1 : Int} {u2 u3 : zV} : zS 85 5 [zR a0, zI a1, u2, u3] [] sh pp mm Q ↔ zS 85 6 [zR a0, zI a1, zU, zU] [zR a0] sh pp mm Q := s_go cC_takeItem_5 cC_takeItem_6 rfl rfl
theorem rC_takeItem_6 {a0 s0 : Nat} {a1 : Int} {u2 u3 : zV} (hk : zKd sh s0 = 8) : zS 85 6 [zR a0, zI a1, u2, u3] [zR s0] sh pp mm Q ↔ zS 85 9 [zR a0, zI a1, zU, zU] [zR (pp s0 9)] sh pp mm Q := s_go cC_takeItem_6 cC_takeItem_9 (if_pos hk) rfl
theorem rC_takeItem_9 {a0 s0 : Nat} {a1 : Int} {u2 u3 : zV} : zS 85 9 [zR a0, zI a1, u2, u3] [zR s0] sh pp mm Q ↔ zS 85 10 [zR a0, zI a1, zU, zU] [zI a1, zR s0] sh pp mm Q := s_go cC_takeItem_9 cC_takeItem_10 rfl rfl
theorem rC_takeItem_10 {a0 s1 : Nat} {a1 s0 : Int} {u2 u3 : zV} (hk : zKd sh s1 = 20 ∨ zKd sh s1 = 30) (h0 : 0 ≤ s0) (h1 : s0 < zLn sh s1) : zS 85 10 [zR a0, zI a1, u2, u3] [zI s0, zR s1] sh pp mm Q ↔ zS 85 11 [zR a0, zI a1, zU, zU] [zI (mm s1 s0)] sh pp mm Q := s_go cC_takeItem_10 cC_takeItem_11 (if_pos ⟨hk, h0, h1⟩) rfl
theorem rC_takeItem_11 {a0 : Nat} {a1 s0 : Int} {u2 u3 : zV} : zS 85 11 [zR a0, zI a1, u2, u3] [zI s0] sh pp mm Q ↔ zS 85 12 [zR a0, zI a1, zI s0, zU] [] sh pp mm Q := s_go cC_takeItem_11 cC_takeItem_12 rfl rfl
theorem rC_takeItem_12 {a0 : Nat} {a1 a2 : Int} {u3 : zV} : zS 85 12 [zR a0, zI a1, zI a2, u3] [] sh pp mm Q ↔ zS 85 13 [zR a0, zI a1, zI a2, zU] [zI a2] sh pp mm Q := s_go cC_takeItem_12 cC_takeItem_13 rfl rfl
theorem rC_takeItem_13 {a0 : Nat} {a1 a2 s0 : Int} {u3 : zV} : zS 85 13 [zR a0, zI a1, zI a2, u3] [zI s0] sh pp mm Q ↔ (s0 = 0 → zS 85 16 [zR a0, zI a1, zI a2, zU] [] sh pp mm Q) ∧ (¬ s0 = 0 → zS 85 25 [zR a0, zI a1, zI a2, zU] [] sh pp mm Q) := s_ifn cC_takeItem_13 cC_takeItem_16 cC_takeItem_25 rfl rfl rfl
theorem rC_takeItem_16 {a0 : Nat} {a1 a2 : Int} {u3 : zV} : zS 85 16 [zR a0, zI a1, zI a2, u3] [] sh pp mm Q ↔ zS 85 17 [zR a0, zI a1, zI a2, zU] [zR a0] sh pp mm Q := s_go cC_takeItem_16 cC_takeItem_17 rfl rfl
theorem rC_takeItem_17 {a0 s0 : Nat} {a1 a2 : Int} {u3 : zV} (hk : zKd sh s0 = 8) : zS 85 17 [zR a0, zI a1, zI a2, u3] [zR s0] sh pp mm Q ↔ zS 85 20 [zR a0, zI a1, zI a2, zU] [zI (mm s0 13)] sh pp mm Q := s_go cC_takeItem_17 cC_takeItem_20 (if_pos hk) rfl
theorem rC_takeItem_20 {a0 : Nat} {a1 a2 s0 : Int} {u3 : zV} : zS 85 20 [zR a0, zI a1, zI a2, u3] [zI s0] sh pp mm Q ↔ (s0 = 0 → zS 85 23 [zU, zU, zU, zU] [] sh pp mm Q) ∧ (¬ s0 = 0 → zS 85 25 [zR a0, zI a1, zI a2, zU] [] sh pp mm Q) := s_ifn cC_takeItem_20 cC_takeItem_23 cC_takeItem_25 rfl rfl rfl
theorem rC_takeItem_23 {u0 u1 u2 u3 : zV} : zS 85 23 [u0, u1, u2, u3] [] sh pp mm Q ↔ zS 85 24 [zU, zU, zU, zU] [zI 0] sh pp mm Q := s_go cC_takeItem_23 cC_takeItem_24 rfl rfl
theorem rC_takeItem_24 {s0 : Int} {u0 u1 u2 u3 : zV} (hb : s0 = 0 ∨ s0 = 1) : zS 85 24 [u0, u1, u2, u3] [zI s0] sh pp mm Q ↔ Q (zI s0) sh pp mm := s_ret cC_takeItem_24 (if_pos (decide_eq_true hb))
theorem rC_takeItem_25 {a0 : Nat} {a1 a2 : Int} {u3 : zV} : zS 85 25 [zR a0, zI a1, zI a2, u3] [] sh pp mm Q ↔ zS 85 26 [zR a0, zI a1, zI a2, zU] [zR a0] sh pp mm Q := s_go cC_takeItem_25 cC_takeItem_26 rfl rfl
theorem rC_takeItem_26 {a0 s0 : Nat} {a1 a2 : Int} {u3 : zV} : zS 85 26 [zR a0, zI a1, zI a2, u3] [zR s0] sh pp mm Q ↔ zS 85 27 [zR a0, zI a1, zI a2, zU] [zI a2, zR s0] sh pp mm Q := s_go cC_takeItem_26 cC_takeItem_27 rfl rfl
theorem rC_takeItem_27 {a0 s1 : Nat} {a1 a2 s0 : Int} {u3 : zV} (hk : zKd sh s1 = 8) : zS 85 27 [zR a0, zI a1, zI a2, u3] [zI s0, zR s1] sh pp mm Q ↔ zS 86 0 [zR s1, zI s0] [] sh pp mm (fun v sh pp mm => zS 85 30 [zR a0, zI a1, zI a2, zU] (zPush v []) sh pp mm Q) := s_call cC_takeItem_27 cC_takeItem_30 ((if_pos hk).trans rfl) rfl
theorem rC_takeItem_30 {a0 : Nat} {a1 a2 s0 : Int} {u3 : zV} : zS 85 30 [zR a0, zI a1, zI a2, u3] [zI s0] sh pp mm Q ↔ (s0 = 0 → zS 85 33 [zR a0, zU, zU, zU] [] sh pp mm Q) ∧ (¬ s0 = 0 → zS 85 38 [zR a0, zI a1, zI a2, zU] [] sh pp mm Q) := s_ifn cC_takeItem_30 cC_takeItem_33 cC_takeItem_38 rfl rfl rfl
theorem rC_takeItem_33 {a0 : Nat} {u1 u2 u3 : zV} : zS 85 33 [zR a0, u1, u2, u3] [] sh pp mm Q ↔ zS 85 34 [zU, zU, zU, zU] [zR a0] sh pp mm Q := s_go cC_takeItem_33 cC_takeItem_34 rfl rfl
theorem rC_takeItem_34 {s0 : Nat} {u0 u1 u2 u3 : zV} (hk : zKd sh s0 = 8) : zS 85 34 [u0, u1, u2, u3] [zR s0] sh pp mm Q ↔ zS 87 0 [zR s0] [] sh pp mm (fun v sh pp mm => zS 85 37 [zU, zU, zU, zU] (zPush v []) sh pp mm Q) := s_call cC_takeItem_34 cC_takeItem_37 ((if_pos hk).trans rfl) rfl
theorem rC_takeItem_37 {s0 : Int} {u0 u1 u2 u3 : zV} (hb : s0 = 0 ∨ s0 = 1) : zS 85 37 [u0, u1, u2, u3] [zI s0] sh pp mm Q ↔ Q (zI s0) sh pp mm := s_ret cC_takeItem_37 (if_pos (decide_eq_true hb))
theorem rC_takeItem_38 {a0 : Nat} {a1 a2 : Int} {u3 : zV} : zS 85 38 [zR a0, zI a1, zI a2, u3] [] sh pp mm Q ↔ zS 85 39 [zR a0, zI a1, zI a2, zU] [zR a0] sh pp mm Q := s_go cC_takeItem_38 cC_takeItem_39 rfl rfl
theorem rC_takeItem_39 {a0 s0 : Nat} {a1 a2 : Int} {u3 : zV} : zS 85 39 [zR a0, zI a1, zI a2, u3] [zR s0] sh pp mm Q ↔ zS 85 40 [zR a0, zI a1, zI a2, zU] [zR s0, zR s0] sh pp mm Q := s_go cC_takeItem_39 cC_takeItem_40 rfl rfl
theorem rC_takeItem_40 {a0 s0 s1 : Nat} {a1 a2 : Int} {u3 : zV} (hk : zKd sh s0 = 8) : zS 85 40 [zR a0, zI a1, zI a2, u3] [zR s0, zR s1] sh pp mm Q ↔ zS 85 43 [zR a0, zI a1, zI a2, zU] [zI (mm s0 12), zR s1] sh pp mm Q := s_go cC_takeItem_40 cC_takeItem_43 (if_pos hk) rfl
theorem rC_takeItem_43 {a0 s1 : Nat} {a1 a2 s0 : Int} {u3 : zV} : zS 85 43 [zR a0, zI a1, zI a2, u3] [zI s0, zR s1] sh pp mm Q ↔ zS 85 44 [zR a0, zI a1, zI a2, zU] [zI 1, zI s0, zR s1] sh pp mm Q := s_go cC_takeItem_43 cC_takeItem_44 rfl rfl
theorem rC_takeItem_44 {a0 s2 : Nat} {a1 a2 s0 s1 : Int} {u3 : zV} : zS 85 44 [zR a0, zI a1, zI a2, u3] [zI s0, zI s1, zR s2] sh pp mm Q ↔ zS 85 45 [zR a0, zI a1, zI a2, zU] [zI (zw32 (s1 + s0)), zR s2] sh pp mm Q := s_go cC_takeItem_44 cC_takeItem_45 rfl rfl
theorem rC_takeItem_45 {a0 s1 : Nat} {a1 a2 s0 : Int} {u3 : zV} (hk : zKd sh s1 = 8) : zS 85 45 [zR a0, zI a1, zI a2, u3] [zI s0, zR s1] sh pp mm Q ↔ zS 85 48 [zR a0, zI a1, zI a2, zU] [] sh pp (zupd mm s1 12 s0) Q := s_go cC_takeItem_45 cC_takeItem_48 (if_pos ⟨hk, Or.inl rfl⟩) rfl
theorem rC_takeItem_48 {a0 : Nat} {a1 a2 : Int} {u3 : zV} : zS 85 48 [zR a0, zI a1, zI a2, u3] [] sh pp mm Q ↔ zS 85 49 [zR a0, zI a1, zI a2, zU] [zI 0] sh pp mm Q := s_go cC_takeItem_48 cC_takeItem_49 rfl rfl
theorem rC_takeItem_49 {a0 : Nat} {a1 a2 s0 : Int} {u3 : zV} : zS 85 49 [zR a0, zI a1, zI a2, u3] [zI s0] sh pp mm Q ↔ zS 85 50 [zR a0, zI a1, zI a2, zI s0] [] sh pp mm Q := s_go cC_takeItem_49 cC_takeItem_50 rfl rfl
theorem rC_takeItem_50 {a0 : Nat} {a1 a2 a3 : Int} : zS 85 50 [zR a0, zI a1, zI a2, zI a3] [] sh pp mm Q ↔ zS 85 51 [zR a0, zI a1, zI a2, zI a3] [zI a3] sh pp mm Q := s_go cC_takeItem_50 cC_takeItem_51 rfl rfl
theorem rC_takeItem_51 {a0 : Nat} {a1 a2 a3 s0 : Int} : zS 85 51 [zR a0, zI a1, zI a2, zI a3] [zI s0] sh pp mm Q ↔ zS 85 52 [zR a0, zI a1, zI a2, zI a3] [zI a2, zI s0] sh pp mm Q := s_go cC_takeItem_51 cC_takeItem_52 rfl rfl
theorem rC_takeItem_52 {a0 : Nat} {a1 a2 a3 s0 s1 : Int} : zS 85 52 [zR a0, zI a1, zI a2, zI a3] [zI s0, zI s1] sh pp mm Q ↔ zS 88 0 [zI s0] [] sh pp mm (fun v sh pp mm => zS 85 55 [zR a0, zI a1, zI a2, zI a3] (zPush v [zI s1]) sh pp mm Q) := s_call cC_takeItem_52 cC_takeItem_55 rfl rfl
theorem rC_takeItem_55 {a0 : Nat} {a1 a2 a3 s0 s1 : Int} : zS 85 55 [zR a0, zI a1, zI a2, zI a3] [zI s0, zI s1] sh pp mm Q ↔ (s1 < s0 → zS 85 58 [zR a0, zI a1, zI a2, zI a3] [] sh pp mm Q) ∧ (¬ s1 < s0 → zS 85 108 [zR a0, zI a1, zI a2, zU] [] sh pp mm Q) := s_ifn cC_takeItem_55 cC_takeItem_58 cC_takeItem_108 rfl rfl rfl
theorem rC_takeItem_58 {a0 : Nat} {a1 a2 a3 : Int} : zS 85 58 [zR a0, zI a1, zI a2, zI a3] [] sh pp mm Q ↔ zS 85 59 [zR a0, zI a1, zI a2, zI a3] [zR a0] sh pp mm Q := s_go cC_takeItem_58 cC_takeItem_59 rfl rfl
theorem rC_takeItem_59 {a0 s0 : Nat} {a1 a2 a3 : Int} (hk : zKd sh s0 = 8) : zS 85 59 [zR a0, zI a1, zI a2, zI a3] [zR s0] sh pp mm Q ↔ zS 85 62 [zR a0, zI a1, zI a2, zI a3] [zR (pp s0 9)] sh pp mm Q := s_go cC_takeItem_59 cC_takeItem_62 (if_pos hk) rfl
theorem rC_takeItem_62 {a0 s0 : Nat} {a1 a2 a3 : Int} : zS 85 62 [zR a0, zI a1, zI a2, zI a3] [zR s0] sh pp mm Q ↔ zS 85 63 [zR a0, zI a1, zI a2, zI a3] [zR a0, zR s0] sh pp mm Q := s_go cC_takeItem_62 cC_takeItem_63 rfl rfl
theorem rC_takeItem_63 {a0 s0 s1 : Nat} {a1 a2 a3 : Int} (hk : zKd sh s0 = 8) : zS 85 63 [zR a0, zI a1, zI a2, zI a3] [zR s0, zR s1] sh pp mm Q ↔ zS 85 66 [zR a0, zI a1, zI a2, zI a3] [zI (mm s0 12), zR s1] sh pp mm Q := s_go cC_takeItem_63 cC_takeItem_66 (if_pos hk) rfl
theorem rC_takeItem_66 {a0 s1 : Nat} {a1 a2 a3 s0 : Int} (hk : zKd sh s1 = 20 ∨ zKd sh s1 = 30) (h0 : 0 ≤ s0) (h1 : s0 < zLn sh s1) : zS 85 66 [zR a0, zI a1, zI a2, zI a3] [zI s0, zR s1] sh pp mm Q ↔ zS 85 67 [zR a0, zI a1, zI a2, zI a3] [zI (mm s1 s0)] sh pp mm Q := s_go cC_takeItem_66 cC_takeItem_67 (if_pos ⟨hk, h0, h1⟩) rfl
theorem rC_takeItem_67 {a0 : Nat} {a1 a2 a3 s0 : Int} : zS 85 67 [zR a0, zI a1, zI a2, zI a3] [zI s0] sh pp mm Q ↔ zS 85 68 [zR a0, zI a1, zI a2, zI a3] [zI 3, zI s0] sh pp mm Q := s_go cC_takeItem_67 cC_takeItem_68 rfl rfl
theorem rC_takeItem_68 {a0 : Nat} {a1 a2 a3 s0 s1 : Int} : zS 85 68 [zR a0, zI a1, zI a2, zI a3] [zI s0, zI s1] sh pp mm Q ↔ (s1 = s0 → zS 85 71 [zR a0, zI a1, zI a2, zI a3] [] sh pp mm Q) ∧ (¬ s1 = s0 → zS 85 87 [zR a0, zU, zU, zU] [] sh pp mm Q) := s_ifn cC_takeItem_68 cC_takeItem_71 cC_takeItem_87 rfl rfl rfl
theorem rC_takeItem_71 {a0 : Nat} {a1 a2 a3 : Int} : zS 85 71 [zR a0, zI a1, zI a2, zI a3] [] sh pp mm Q ↔ zS 85 72 [zR a0, zI a1, zI a2, zI a3] [zI a2] sh pp mm Q := s_go cC_takeItem_71 cC_takeItem_72 rfl rfl
theorem rC_takeItem_72 {a0 : Nat} {a1 a2 a3 s0 : Int} : zS 85 72 [zR a0, zI a1, zI a2, zI a3] [zI s0] sh pp mm Q ↔ zS 85 73 [zR a0, zI a1, zI a2, zI a3] [zR a0, zI s0] sh pp mm Q := s_go cC_takeItem_72 cC_takeItem_73 rfl rfl
theorem rC_takeItem_73 {a0 s0 : Nat} {a1 a2 a3 s1 : Int} (hk : zKd sh s0 = 8) : zS 85 73 [zR a0, zI a1, zI a2, zI a3] [zR s0, zI s1] sh pp mm Q ↔ zS 85 76 [zR a0, zI a1, zI a2, zI a3] [zR (pp s0 11), zI s1] sh pp mm Q := s_go cC_takeItem_73 cC_takeItem_76 (if_pos hk) rfl
theorem rC_takeItem_76 {a0 s0 : Nat} {a1 a2 a3 s1 : Int} : zS 85 76 [zR a0, zI a1, zI a2, zI a3] [zR s0, zI s1] sh pp mm Q ↔ zS 85 77 [zR a0, zI a1, zI a2, zI a3] [zR a0, zR s0, zI s1] sh pp mm Q := s_go cC_takeItem_76 cC_takeItem_77 rfl rfl
theorem rC_takeItem_77 {a0 s0 s1 : Nat} {a1 a2 a3 s2 : Int} (hk : zKd sh s0 = 8) : zS 85 77 [zR a0, zI a1, zI a2, zI a3] [zR s0, zR s1, zI s2] sh pp mm Q ↔ zS 85 80 [zR a0, zI a1, zI a2, zI a3] [zI (mm s0 12), zR s1, zI s2] sh pp mm Q := s_go cC_takeItem_77 cC_takeItem_80 (if_pos hk) rfl
theorem rC_takeItem_80 {a0 s1 : Nat} {a1 a2 a3 s0 s2 : Int} (hk : zKd sh s1 = 20 ∨ zKd sh s1 = 30) (h0 : 0 ≤ s0) (h1 : s0 < zLn sh s1) : zS 85 80 [zR a0, zI a1, zI a2, zI a3] [zI s0, zR s1, zI s2] sh pp mm Q ↔ zS 85 81 [zR a0, zI a1, zI a2, zI a3] [zI (mm s1 s0), zI s2] sh pp mm Q := s_go cC_takeItem_80 cC_takeItem_81 (if_pos ⟨hk, h0, h1⟩) rfl
theorem rC_takeItem_81 {a0 : Nat} {a1 a2 a3 s0 s1 : Int} : zS 85 81 [zR a0, zI a1, zI a2, zI a3] [zI s0, zI s1] sh pp mm Q ↔ zS 89 0 [zI s1, zI s0] [] sh pp mm (fun v sh pp mm => zS 85 84 [zR a0, zI a1, zI a2, zI a3] (zPush v []) sh pp mm Q) := s_call cC_takeItem_81 cC_takeItem_84 rfl rfl
theorem rC_takeItem_84 {a0 : Nat} {a1 a2 a3 s0 : Int} : zS 85 84 [zR a0, zI a1, zI a2, zI a3] [zI s0] sh pp mm Q ↔ (s0 = 0 → zS 85 87 [zR a0, zU, zU, zU] [] sh pp mm Q) ∧ (¬ s0 = 0 → zS 85 92 [zR a0, zI a1, zI a2, zI a3] [] sh pp mm Q) := s_ifn cC_takeItem_84 cC_takeItem_87 cC_takeItem_92 rfl rfl rfl
theorem rC_takeItem_87 {a0 : Nat} {u1 u2 u3 : zV} : zS 85 87 [zR a0, u1, u2, u3] [] sh pp mm Q ↔ zS 85 88 [zU, zU, zU, zU] [zR a0] sh pp mm Q := s_go cC_takeItem_87 cC_takeItem_88 rfl rfl
theorem rC_takeItem_88 {s0 : Nat} {u0 u1 u2 u3 : zV} (hk : zKd sh s0 = 8) : zS 85 88 [u0, u1, u2, u3] [zR s0] sh pp mm Q ↔ zS 87 0 [zR s0] [] sh pp mm (fun v sh pp mm => zS 85 91 [zU, zU, zU, zU] (zPush v []) sh pp mm Q) := s_call cC_takeItem_88 cC_takeItem_91 ((if_pos hk).trans rfl) rfl
theorem rC_takeItem_91 {s0 : Int} {u0 u1 u2 u3 : zV} (hb : s0 = 0 ∨ s0 = 1) : zS 85 91 [u0, u1, u2, u3] [zI s0] sh pp mm Q ↔ Q (zI s0) sh pp mm := s_ret cC_takeItem_91 (if_pos (decide_eq_true hb))
theorem rC_takeItem_92 {a0 : Nat} {a1 a2 a3 : Int} : zS 85 92 [zR a0, zI a1, zI a2, zI a3] [] sh pp mm Q ↔ zS 85 93 [zR a0, zI a1, zI a2, zI a3] [zR a0] sh pp mm Q := s_go cC_takeItem_92 cC_takeItem_93 rfl rfl
theorem rC_takeItem_93 {a0 s0 : Nat} {a1 a2 a3 : Int} : zS 85 93 [zR a0, zI a1, zI a2, zI a3] [zR s0] sh pp mm Q ↔ zS 85 94 [zR a0, zI a1, zI a2, zI a3] [zR s0, zR s0] sh pp mm Q := s_go cC_takeItem_93 cC_takeItem_94 rfl rfl
theorem rC_takeItem_94 {a0 s0 s1 : Nat} {a1 a2 a3 : Int} (hk : zKd sh s0 = 8) : zS 85 94 [zR a0, zI a1, zI a2, zI a3] [zR s0, zR s1] sh pp mm Q ↔ zS 85 97 [zR a0, zI a1, zI a2, zI a3] [zI (mm s0 12), zR s1] sh pp mm Q := s_go cC_takeItem_94 cC_takeItem_97 (if_pos hk) rfl
theorem rC_takeItem_97 {a0 s1 : Nat} {a1 a2 a3 s0 : Int} : zS 85 97 [zR a0, zI a1, zI a2, zI a3] [zI s0, zR s1] sh pp mm Q ↔ zS 85 98 [zR a0, zI a1, zI a2, zI a3] [zI 1, zI s0, zR s1] sh pp mm Q := s_go cC_takeItem_97 cC_takeItem_98 rfl rfl
theorem rC_takeItem_98 {a0 s2 : Nat} {a1 a2 a3 s0 s1 : Int} : zS 85 98 [zR a0, zI a1, zI a2, zI a3] [zI s0, zI s1, zR s2] sh pp mm Q ↔ zS 85 99 [zR a0, zI a1, zI a2, zI a3] [zI (zw32 (s1 + s0)), zR s2] sh pp mm Q := s_go cC_takeItem_98 cC_takeItem_99 rfl rfl
theorem rC_takeItem_99 {a0 s1 : Nat} {a1 a2 a3 s0 : Int} (hk : zKd sh s1 = 8) : zS 85 99 [zR a0, zI a1, zI a2, zI a3] [zI s0, zR s1] sh pp mm Q ↔ zS 85 102 [zR a0, zI a1, zI a2, zI a3] [] sh pp (zupd mm s1 12 s0) Q := s_go cC_takeItem_99 cC_takeItem_102 (if_pos ⟨hk, Or.inl rfl⟩) rfl
theorem rC_takeItem_102 {a0 : Nat} {a1 a2 a3 : Int} : zS 85 102 [zR a0, zI a1, zI a2, zI a3] [] sh pp mm Q ↔ zS 85 105 [zR a0, zI a1, zI a2, zI (zw32 (a3 + 1))] [] sh pp mm Q := s_go cC_takeItem_102 cC_takeItem_105 rfl rfl
theorem rC_takeItem_105 {a0 : Nat} {a1 a2 a3 : Int} : zS 85 105 [zR a0, zI a1, zI a2, zI a3] [] sh pp mm Q ↔ zS 85 50 [zR a0, zI a1, zI a2, zI a3] [] sh pp mm Q := s_go cC_takeItem_105 cC_takeItem_50 rfl rfl
theorem rC_takeItem_108 {a0 : Nat} {a1 a2 : Int} {u3 : zV} : zS 85 108 [zR a0, zI a1, zI a2, u3] [] sh pp mm Q ↔ zS 85 109 [zR a0, zI a1, zI a2, zU] [zR a0] sh pp mm Q := s_go cC_takeItem_108 cC_takeItem_109 rfl rfl
theorem rC_takeItem_109 {a0 s0 : Nat} {a1 a2 : Int} {u3 : zV} (hk : zKd sh s0 = 8) : zS 85 109 [zR a0, zI a1, zI a2, u3] [zR s0] sh pp mm Q ↔ zS 85 112 [zR a0, zI a1, zI a2, zU] [zR (pp s0 9)] sh pp mm Q := s_go cC_takeItem_109 cC_takeItem_112 (if_pos hk) rfl
theorem rC_takeItem_112 {a0 s0 : Nat} {a1 a2 : Int} {u3 : zV} : zS 85 112 [zR a0, zI a1, zI a2, u3] [zR s0] sh pp mm Q ↔ zS 85 113 [zR a0, zI a1, zI a2, zU] [zR a0, zR s0] sh pp mm Q := s_go cC_takeItem_112 cC_takeItem_113 rfl rfl
theorem rC_takeItem_113 {a0 s0 s1 : Nat} {a1 a2 : Int} {u3 : zV} (hk : zKd sh s0 = 8) : zS 85 113 [zR a0, zI a1, zI a2, u3] [zR s0, zR s1] sh pp mm Q ↔ zS 85 116 [zR a0, zI a1, zI a2, zU] [zI (mm s0 12), zR s1] sh pp mm Q := s_go cC_takeItem_113 cC_takeItem_116 (if_pos hk) rfl
theorem rC_takeItem_116 {a0 s1 : Nat} {a1 a2 s0 : Int} {u3 : zV} (hk : zKd sh s1 = 20 ∨ zKd sh s1 = 30) (h0 : 0 ≤ s0) (h1 : s0 < zLn sh s1) : zS 85 116 [zR a0, zI a1, zI a2, u3] [zI s0, zR s1] sh pp mm Q ↔ zS 85 117 [zR a0, zI a1, zI a2, zU] [zI (mm s1 s0)] sh pp mm Q := s_go cC_takeItem_116 cC_takeItem_117 (if_pos ⟨hk, h0, h1⟩) rfl
theorem rC_takeItem_117 {a0 : Nat} {a1 a2 s0 : Int} {u3 : zV} : zS 85 117 [zR a0, zI a1, zI a2, u3] [zI s0] sh pp mm Q ↔ zS 85 118 [zR a0, zI a1, zI a2, zU] [zI 2, zI s0] sh pp mm Q := s_go cC_takeItem_117 cC_takeItem_118 rfl rfl
theorem rC_takeItem_118 {a0 : Nat} {a1 a2 s0 s1 : Int} {u3 : zV} : zS 85 118 [zR a0, zI a1, zI a2, u3] [zI s0, zI s1] sh pp mm Q ↔ (s1 = s0 → zS 85 126 [zR a0, zI a1, zI a2, zU] [] sh pp mm Q) ∧ (¬ s1 = s0 → zS 85 121 [zR a0, zU, zU, zU] [] sh pp mm Q) := s_if cC_takeItem_118 cC_takeItem_126 cC_takeItem_121 rfl rfl rfl
theorem rC_takeItem_121 {a0 : Nat} {u1 u2 u3 : zV} : zS 85 121 [zR a0, u1, u2, u3] [] sh pp mm Q ↔ zS 85 122 [zU, zU, zU, zU] [zR a0] sh pp mm Q := s_go cC_takeItem_121 cC_takeItem_122 rfl rfl
theorem rC_takeItem_122 {s0 : Nat} {u0 u1 u2 u3 : zV} (hk : zKd sh s0 = 8) : zS 85 122 [u0, u1, u2, u3] [zR s0] sh pp mm Q ↔ zS 87 0 [zR s0] [] sh pp mm (fun v sh pp mm => zS 85 125 [zU, zU, zU, zU] (zPush v []) sh pp mm Q) := s_call cC_takeItem_122 cC_takeItem_125 ((if_pos hk).trans rfl) rfl
theorem rC_takeItem_125 {s0 : Int} {u0 u1 u2 u3 : zV} (hb : s0 = 0 ∨ s0 = 1) : zS 85 125 [u0, u1, u2, u3] [zI s0] sh pp mm Q ↔ Q (zI s0) sh pp mm := s_ret cC_takeItem_125 (if_pos (decide_eq_true hb))
theorem rC_takeItem_126 {a0 : Nat} {a1 a2 : Int} {u3 : zV} : zS 85 126 [zR a0, zI a1, zI a2, u3] [] sh pp mm Q ↔ zS 85 127 [zR a0, zI a1, zI a2, zU] [zR a0] sh pp mm Q := s_go cC_takeItem_126 cC_takeItem_127 rfl rfl
theorem rC_takeItem_127 {a0 s0 : Nat} {a1 a2 : Int} {u3 : zV} : zS 85 127 [zR a0, zI a1, zI a2, u3] [zR s0] sh pp mm Q ↔ zS 85 128 [zR a0, zI a1, zI a2, zU] [zR s0, zR s0] sh pp mm Q := s_go cC_takeItem_127 cC_takeItem_128 rfl rfl
theorem rC_takeItem_128 {a0 s0 s1 : Nat} {a1 a2 : Int} {u3 : zV} (hk : zKd sh s0 = 8) : zS 85 128 [zR a0, zI a1, zI a2, u3] [zR s0, zR s1] sh pp mm Q ↔ zS 85 131 [zR a0, zI a1, zI a2, zU] [zI (mm s0 12), zR s1] sh pp mm Q := s_go cC_takeItem_128 cC_takeItem_131 (if_pos hk) rfl
theorem rC_takeItem_131 {a0 s1 : Nat} {a1 a2 s0 : Int} {u3 : zV} : zS 85 131 [zR a0, zI a1, zI a2, u3] [zI s0, zR s1] sh pp mm Q ↔ zS 85 132 [zR a0, zI a1, zI a2, zU] [zI 1, zI s0, zR s1] sh pp mm Q := s_go cC_takeItem_131 cC_takeItem_132 rfl rfl
theorem rC_takeItem_132 {a0 s2 : Nat} {a1 a2 s0 s1 : Int} {u3 : zV} : zS 85 132 [zR a0, zI a1, zI a2, u3] [zI s0, zI s1, zR s2] sh pp mm Q ↔ zS 85 133 [zR a0, zI a1, zI a2, zU] [zI (zw32 (s1 + s0)), zR s2] sh pp mm Q := s_go cC_takeItem_132 cC_takeItem_133 rfl rfl
theorem rC_takeItem_133 {a0 s1 : Nat} {a1 a2 s0 : Int} {u3 : zV} (hk : zKd sh s1 = 8) : zS 85 133 [zR a0, zI a1, zI a2, u3] [zI s0, zR s1] sh pp mm Q ↔ zS 85 136 [zR a0, zI a1, zI a2, zU] [] sh pp (zupd mm s1 12 s0) Q := s_go cC_takeItem_133 cC_takeItem_136 (if_pos ⟨hk, Or.inl rfl⟩) rfl
theorem rC_takeItem_136 {a0 : Nat} {a1 a2 : Int} {u3 : zV} : zS 85 136 [zR a0, zI a1, zI a2, u3] [] sh pp mm Q ↔ zS 85 137 [zR a0, zI a1, zI a2, zU] [zR a0] sh pp mm Q := s_go cC_takeItem_136 cC_takeItem_137 rfl rfl
theorem rC_takeItem_137 {a0 s0 : Nat} {a1 a2 : Int} {u3 : zV} : zS 85 137 [zR a0, zI a1, zI a2, u3] [zR s0] sh pp mm Q ↔ zS 85 138 [zR a0, zI a1, zI a2, zU] [zI a2, zR s0] sh pp mm Q := s_go cC_takeItem_137 cC_takeItem_138 rfl rfl
theorem rC_takeItem_138 {a0 s1 : Nat} {a1 a2 s0 : Int} {u3 : zV} : zS 85 138 [zR a0, zI a1, zI a2, u3] [zI s0, zR s1] sh pp mm Q ↔ zS 85 139 [zR a0, zI a1, zI a2, zU] [zI a2, zI s0, zR s1] sh pp mm Q := s_go cC_takeItem_138 cC_takeItem_139 rfl rfl
theorem rC_takeItem_139 {a0 s2 : Nat} {a1 a2 s0 s1 : Int} {u3 : zV} : zS 85 139 [zR a0, zI a1, zI a2, u3] [zI s0, zI s1, zR s2] sh pp mm Q ↔ zS 85 141 [zR a0, zI a1, zI a2, zU] [zI 7, zI s0, zI s1, zR s2] sh pp mm Q := s_go cC_takeItem_139 cC_takeItem_141 rfl rfl
theorem rC_takeItem_141 {a0 s3 : Nat} {a1 a2 s0 s1 s2 : Int} {u3 : zV} : zS 85 141 [zR a0, zI a1, zI a2, u3] [zI s0, zI s1, zI s2, zR s3] sh pp mm Q ↔ (s1 = s0 → zS 85 144 [zR a0, zI a1, zI a2, zU] [zI s2, zR s3] sh pp mm Q) ∧ (¬ s1 = s0 → zS 85 148 [zR a0, zI a1, zI a2, zU] [zI s2, zR s3] sh pp mm Q) := s_ifn cC_takeItem_141 cC_takeItem_144 cC_takeItem_148 rfl rfl rfl
theorem rC_takeItem_144 {a0 s1 : Nat} {a1 a2 s0 : Int} {u3 : zV} : zS 85 144 [zR a0, zI a1, zI a2, u3] [zI s0, zR s1] sh pp mm Q ↔ zS 85 145 [zR a0, zI a1, zI a2, zU] [zI 0, zI s0, zR s1] sh pp mm Q := s_go cC_takeItem_144 cC_takeItem_145 rfl rfl
theorem rC_takeItem_145 {a0 s2 : Nat} {a1 a2 s0 s1 : Int} {u3 : zV} : zS 85 145 [zR a0, zI a1, zI a2, u3] [zI s0, zI s1, zR s2] sh pp mm Q ↔ zS 85 156 [zR a0, zI a1, zI a2, zU] [zI s0, zI s1, zR s2] sh pp mm Q := s_go cC_takeItem_145 cC_takeItem_156 rfl rfl
theorem rC_takeItem_148 {a0 s1 : Nat} {a1 a2 s0 : Int} {u3 : zV} : zS 85 148 [zR a0, zI a1, zI a2, u3] [zI s0, zR s1] sh pp mm Q ↔ zS 85 149 [zR a0, zI a1, zI a2, zU] [zR a0, zI s0, zR s1] sh pp mm Q := s_go cC_takeItem_148 cC_takeItem_149 rfl rfl
theorem rC_takeItem_149 {a0 s0 s2 : Nat} {a1 a2 s1 : Int} {u3 : zV} (hk : zKd sh s0 = 8) : zS 85 149 [zR a0, zI a1, zI a2, u3] [zR s0, zI s1, zR s2] sh pp mm Q ↔ zS 85 152 [zR a0, zI a1, zI a2, zU] [zR (pp s0 11), zI s1, zR s2] sh pp mm Q := s_go cC_takeItem_149 cC_takeItem_152 (if_pos hk) rfl
theorem rC_takeItem_152 {a0 s0 s2 : Nat} {a1 a2 s1 : Int} {u3 : zV} : zS 85 152 [zR a0, zI a1, zI a2, u3] [zR s0, zI s1, zR s2] sh pp mm Q ↔ zS 85 153 [zR a0, zI a1, zI a2, zU] [zI a1, zR s0, zI s1, zR s2] sh pp mm Q := s_go cC_takeItem_152 cC_takeItem_153 rfl rfl
theorem rC_takeItem_153 {a0 s1 s3 : Nat} {a1 a2 s0 s2 : Int} {u3 : zV} : zS 85 153 [zR a0, zI a1, zI a2, u3] [zI s0, zR s1, zI s2, zR s3] sh pp mm Q ↔ zS 85 154 [zR a0, zI a1, zI a2, zU] [zI 1, zI s0, zR s1, zI s2, zR s3] sh pp mm Q := s_go cC_takeItem_153 cC_takeItem_154 rfl rfl
theorem rC_takeItem_154 {a0 s2 s4 : Nat} {a1 a2 s0 s1 s3 : Int} {u3 : zV} : zS 85 154 [zR a0, zI a1, zI a2, u3] [zI s0, zI s1, zR s2, zI s3, zR s4] sh pp mm Q ↔ zS 85 155 [zR a0, zI a1, zI a2, zU] [zI (zw32 (s1 + s0)), zR s2, zI s3, zR s4] sh pp mm Q := s_go cC_takeItem_154 cC_takeItem_155 rfl rfl
theorem rC_takeItem_155 {a0 s1 s3 : Nat} {a1 a2 s0 s2 : Int} {u3 : zV} (hk : zKd sh s1 = 20 ∨ zKd sh s1 = 30) (h0 : 0 ≤ s0) (h1 : s0 < zLn sh s1) : zS 85 155 [zR a0, zI a1, zI a2, u3] [zI s0, zR s1, zI s2, zR s3] sh pp mm Q ↔ zS 85 156 [zR a0, zI a1, zI a2, zU] [zI (mm s1 s0), zI s2, zR s3] sh pp mm Q := s_go cC_takeItem_155 cC_takeItem_156 (if_pos ⟨hk, h0, h1⟩) rfl
theorem rC_takeItem_156 {a0 s2 : Nat} {a1 a2 s0 s1 : Int} {u3 : zV} : zS 85 156 [zR a0, zI a1, zI a2, u3] [zI s0, zI s1, zR s2] sh pp mm Q ↔ zS 85 157 [zR a0, zI a1, zU, zU] [zI a2, zI s0, zI s1, zR s2] sh pp mm Q := s_go cC_takeItem_156 cC_takeItem_157 rfl rfl
theorem rC_takeItem_157 {a0 s3 : Nat} {a1 s0 s1 s2 : Int} {u2 u3 : zV} : zS 85 157 [zR a0, zI a1, u2, u3] [zI s0, zI s1, zI s2, zR s3] sh pp mm Q ↔ zS 85 158 [zR a0, zI a1, zU, zU] [zI 4, zI s0, zI s1, zI s2, zR s3] sh pp mm Q := s_go cC_takeItem_157 cC_takeItem_158 rfl rfl
theorem rC_takeItem_158 {a0 s4 : Nat} {a1 s0 s1 s2 s3 : Int} {u2 u3 : zV} : zS 85 158 [zR a0, zI a1, u2, u3] [zI s0, zI s1, zI s2, zI s3, zR s4] sh pp mm Q ↔ (s1 = s0 → zS 85 161 [zR a0, zI a1, zU, zU] [zI s2, zI s3, zR s4] sh pp mm Q) ∧ (¬ s1 = s0 → zS 85 172 [zU, zU, zU, zU] [zI s2, zI s3, zR s4] sh pp mm Q) := s_ifn cC_takeItem_158 cC_takeItem_161 cC_takeItem_172 rfl rfl rfl
theorem rC_takeItem_161 {a0 s2 : Nat} {a1 s0 s1 : Int} {u2 u3 : zV} : zS 85 161 [zR a0, zI a1, u2, u3] [zI s0, zI s1, zR s2] sh pp mm Q ↔ zS 85 162 [zU, zI a1, zU, zU] [zR a0, zI s0, zI s1, zR s2] sh pp mm Q := s_go cC_takeItem_161 cC_takeItem_162 rfl rfl
theorem rC_takeItem_162 {s0 s3 : Nat} {a1 s1 s2 : Int} {u0 u2 u3 : zV} (hk : zKd sh s0 = 8) : zS 85 162 [u0, zI a1, u2, u3] [zR s0, zI s1, zI s2, zR s3] sh pp mm Q ↔ zS 85 165 [zU, zI a1, zU, zU] [zR (pp s0 11), zI s1, zI s2, zR s3] sh pp mm Q := s_go cC_takeItem_162 cC_takeItem_165 (if_pos hk) rfl
theorem rC_takeItem_165 {s0 s3 : Nat} {a1 s1 s2 : Int} {u0 u2 u3 : zV} : zS 85 165 [u0, zI a1, u2, u3] [zR s0, zI s1, zI s2, zR s3] sh pp mm Q ↔ zS 85 166 [zU, zU, zU, zU] [zI a1, zR s0, zI s1, zI s2, zR s3] sh pp mm Q := s_go cC_takeItem_165 cC_takeItem_166 rfl rfl
theorem rC_takeItem_166 {s1 s4 : Nat} {s0 s2 s3 : Int} {u0 u1 u2 u3 : zV} : zS 85 166 [u0, u1, u2, u3] [zI s0, zR s1, zI s2, zI s3, zR s4] sh pp mm Q ↔ zS 85 167 [zU, zU, zU, zU] [zI 2, zI s0, zR s1, zI s2, zI s3, zR s4] sh pp mm Q := s_go cC_takeItem_166 cC_takeItem_167 rfl rfl
theorem rC_takeItem_167 {s2 s5 : Nat} {s0 s1 s3 s4 : Int} {u0 u1 u2 u3 : zV} : zS 85 167 [u0, u1, u2, u3] [zI s0, zI s1, zR s2, zI s3, zI s4, zR s5] sh pp mm Q ↔ zS 85 168 [zU, zU, zU, zU] [zI (zw32 (s1 + s0)), zR s2, zI s3, zI s4, zR s5] sh pp mm Q := s_go cC_takeItem_167 cC_takeItem_168 rfl rfl
theorem rC_takeItem_168 {s1 s4 : Nat} {s0 s2 s3 : Int} {u0 u1 u2 u3 : zV} (hk : zKd sh s1 = 20 ∨ zKd sh s1 = 30) (h0 : 0 ≤ s0) (h1 : s0 < zLn sh s1) : zS 85 168 [u0, u1, u2, u3] [zI s0, zR s1, zI s2, zI s3, zR s4] sh pp mm Q ↔ zS 85 169 [zU, zU, zU, zU] [zI (mm s1 s0), zI s2, zI s3, zR s4] sh pp mm Q := s_go cC_takeItem_168 cC_takeItem_169 (if_pos ⟨hk, h0, h1⟩) rfl
theorem rC_takeItem_169 {s3 : Nat} {s0 s1 s2 : Int} {u0 u1 u2 u3 : zV} : zS 85 169 [u0, u1, u2, u3] [zI s0, zI s1, zI s2, zR s3] sh pp mm Q ↔ zS 85 173 [zU, zU, zU, zU] [zI s0, zI s1, zI s2, zR s3] sh pp mm Q := s_go cC_takeItem_169 cC_takeItem_173 rfl rfl
theorem rC_takeItem_172 {s2 : Nat} {s0 s1 : Int} {u0 u1 u2 u3 : zV} : zS 85 172 [u0, u1, u2, u3] [zI s0, zI s1, zR s2] sh pp mm Q ↔ zS 85 173 [zU, zU, zU, zU] [zI 0, zI s0, zI s1, zR s2] sh pp mm Q := s_go cC_takeItem_172 cC_takeItem_173 rfl rfl
theorem rC_takeItem_173 {s3 : Nat} {s0 s1 s2 : Int} {u0 u1 u2 u3 : zV} (hk : zKd sh s3 = 8) : zS 85 173 [u0, u1, u2, u3] [zI s0, zI s1, zI s2, zR s3] sh pp mm Q ↔ zS 90 0 [zR s3, zI s2, zI s1, zI s0] [] sh pp mm (fun v sh pp mm => zS 85 176 [zU, zU, zU, zU] (zPush v []) sh pp mm Q) := s_call cC_takeItem_173 cC_takeItem_176 ((if_pos hk).trans rfl) rfl
theorem rC_takeItem_176 {u0 u1 u2 u3 : zV} : zS 85 176 [u0, u1, u2, u3] [] sh pp mm Q ↔ zS 85 177 [zU, zU, zU, zU] [zI 1] sh pp mm Q := s_go cC_takeItem_176 cC_takeItem_177 rfl rfl
theorem rC_takeItem_177 {s0 : Int} {u0 u1 u2 u3 : zV} (hb : s0 = 0 ∨ s0 = 1) : zS 85 177 [u0, u1, u2, u3] [zI s0] sh pp mm Q ↔ Q (zI s0) sh pp mm := s_ret cC_takeItem_177 (if_pos (decide_eq_true hb))
theorem cAC_mayBegin : ∀ q ∈ zT86, zCode 86 q.1 = some q.2 := zAll (mid := 86) rfl (by decide +kernel)
theorem cAC_mayBegin_0 : ∀ q ∈ zT86_0, zCode 86 q.1 = some q.2 := fun q h => cAC_mayBegin q (List.mem_append_left _ h)
theorem cAC_mayBegin_1 : ∀ q ∈ zT86_1, zCode 86 q.1 = some q.2 := fun q h => cAC_mayBegin q (List.mem_append_right _ h)
theorem cC_mayBegin_0 : zCode 86 0 = some (.iload_n 1, 1, 0, 0, 0, 0, 3) := cAC_mayBegin_0 _ (List.mem_of_getElem? (i := 0) rfl)
theorem cC_mayBegin_1 : zCode 86 1 = some (.tableswitch 60 4 7 #[31, 31, 33, 47], 32, 0, 0, 0, 0, 1) := cAC_mayBegin_0 _ (List.mem_of_getElem? (i := 1) rfl)
theorem cC_mayBegin_32 : zCode 86 32 = some (.iconst 1, 33, 0, 0, 0, 0, 0) := cAC_mayBegin_0 _ (List.mem_of_getElem? (i := 2) rfl)
theorem cC_mayBegin_33 : zCode 86 33 = some (.ireturn, 34, 0, 3, 0, 0, 0) := cAC_mayBegin_0 _ (List.mem_of_getElem? (i := 3) rfl)
theorem cC_mayBegin_34 : zCode 86 34 = some (.aload_n 0, 35, 0, 0, 0, 0, 1) := cAC_mayBegin_0 _ (List.mem_of_getElem? (i := 4) rfl)
theorem cC_mayBegin_35 : zCode 86 35 = some (.getfield 53, 38, 8, 13, 0, 388, 0) := cAC_mayBegin_0 _ (List.mem_of_getElem? (i := 5) rfl)
theorem cC_mayBegin_38 : zCode 86 38 = some (.iconst 3, 39, 0, 0, 0, 0, 0) := cAC_mayBegin_0 _ (List.mem_of_getElem? (i := 6) rfl)
theorem cC_mayBegin_39 : zCode 86 39 = some (.if_icmp .ge 7, 42, 46, 0, 0, 0, 0) := cAC_mayBegin_0 _ (List.mem_of_getElem? (i := 7) rfl)
theorem cC_mayBegin_42 : zCode 86 42 = some (.iconst 1, 43, 0, 0, 0, 0, 0) := cAC_mayBegin_0 _ (List.mem_of_getElem? (i := 8) rfl)
theorem cC_mayBegin_43 : zCode 86 43 = some (.goto 4, 46, 47, 0, 0, 0, 0) := cAC_mayBegin_0 _ (List.mem_of_getElem? (i := 9) rfl)
theorem cC_mayBegin_46 : zCode 86 46 = some (.iconst 0, 47, 0, 0, 0, 0, 0) := cAC_mayBegin_0 _ (List.mem_of_getElem? (i := 10) rfl)
theorem cC_mayBegin_47 : zCode 86 47 = some (.ireturn, 48, 0, 3, 0, 0, 0) := cAC_mayBegin_0 _ (List.mem_of_getElem? (i := 11) rfl)
theorem cC_mayBegin_48 : zCode 86 48 = some (.aload_n 0, 49, 0, 0, 0, 0, 1) := cAC_mayBegin_0 _ (List.mem_of_getElem? (i := 12) rfl)
theorem cC_mayBegin_49 : zCode 86 49 = some (.getfield 53, 52, 8, 13, 0, 388, 0) := cAC_mayBegin_0 _ (List.mem_of_getElem? (i := 13) rfl)
theorem cC_mayBegin_52 : zCode 86 52 = some (.ifCond .le 7, 55, 59, 0, 0, 0, 0) := cAC_mayBegin_0 _ (List.mem_of_getElem? (i := 14) rfl)
theorem cC_mayBegin_55 : zCode 86 55 = some (.iconst 1, 56, 0, 0, 0, 0, 0) := cAC_mayBegin_0 _ (List.mem_of_getElem? (i := 15) rfl)
theorem cC_mayBegin_56 : zCode 86 56 = some (.goto 4, 59, 60, 0, 0, 0, 0) := cAC_mayBegin_1 _ (List.mem_of_getElem? (i := 0) rfl)
theorem cC_mayBegin_59 : zCode 86 59 = some (.iconst 0, 60, 0, 0, 0, 0, 0) := cAC_mayBegin_1 _ (List.mem_of_getElem? (i := 1) rfl)
theorem cC_mayBegin_60 : zCode 86 60 = some (.ireturn, 61, 0, 3, 0, 0, 0) := cAC_mayBegin_1 _ (List.mem_of_getElem? (i := 2) rfl)
theorem cC_mayBegin_61 : zCode 86 61 = some (.iconst 0, 62, 0, 0, 0, 0, 0) := cAC_mayBegin_1 _ (List.mem_of_getElem? (i := 3) rfl)
theorem cC_mayBegin_62 : zCode 86 62 = some (.ireturn, 63, 0, 3, 0, 0, 0) := cAC_mayBegin_1 _ (List.mem_of_getElem? (i := 4) rfl)
theorem rC_mayBegin_0 {a0 : Nat} {a1 : Int} : zS 86 0 [zR a0, zI a1] [] sh pp mm Q ↔ zS 86 1 [zR a0, zU] [zI a1] sh pp mm Q := s_go cC_mayBegin_0 cC_mayBegin_1 rfl rfl
theorem rC_mayBegin_1_4 {a0 : Nat} {u1 : zV} : zS 86 1 [zR a0, u1] [zI 4] sh pp mm Q ↔ zS 86 32 [zU, zU] [] sh pp mm Q := s_go cC_mayBegin_1 cC_mayBegin_32 rfl rfl
theorem rC_mayBegin_1_5 {a0 : Nat} {u1 : zV} : zS 86 1 [zR a0, u1] [zI 5] sh pp mm Q ↔ zS 86 32 [zU, zU] [] sh pp mm Q := s_go cC_mayBegin_1 cC_mayBegin_32 rfl rfl
theorem rC_mayBegin_1_6 {a0 : Nat} {u1 : zV} : zS 86 1 [zR a0, u1] [zI 6] sh pp mm Q ↔ zS 86 34 [zR a0, zU] [] sh pp mm Q := s_go cC_mayBegin_1 cC_mayBegin_34 rfl rfl
theorem rC_mayBegin_1_7 {a0 : Nat} {u1 : zV} : zS 86 1 [zR a0, u1] [zI 7] sh pp mm Q ↔ zS 86 48 [zR a0, zU] [] sh pp mm Q := s_go cC_mayBegin_1 cC_mayBegin_48 rfl rfl
theorem rC_mayBegin_1_d {a0 : Nat} {s0 : Int} {u1 : zV} (hd : s0 < 4 ∨ 7 < s0) : zS 86 1 [zR a0, u1] [zI s0] sh pp mm Q ↔ zS 86 61 [zU, zU] [] sh pp mm Q := s_go cC_mayBegin_1 cC_mayBegin_61 (if_pos hd) rfl
theorem rC_mayBegin_32 {u0 u1 : zV} : zS 86 32 [u0, u1] [] sh pp mm Q ↔ zS 86 33 [zU, zU] [zI 1] sh pp mm Q := s_go cC_mayBegin_32 cC_mayBegin_33 rfl rfl
theorem rC_mayBegin_33 {s0 : Int} {u0 u1 : zV} (hb : s0 = 0 ∨ s0 = 1) : zS 86 33 [u0, u1] [zI s0] sh pp mm Q ↔ Q (zI s0) sh pp mm := s_ret cC_mayBegin_33 (if_pos (decide_eq_true hb))
theorem rC_mayBegin_34 {a0 : Nat} {u1 : zV} : zS 86 34 [zR a0, u1] [] sh pp mm Q ↔ zS 86 35 [zU, zU] [zR a0] sh pp mm Q := s_go cC_mayBegin_34 cC_mayBegin_35 rfl rfl
theorem rC_mayBegin_35 {s0 : Nat} {u0 u1 : zV} (hk : zKd sh s0 = 8) : zS 86 35 [u0, u1] [zR s0] sh pp mm Q ↔ zS 86 38 [zU, zU] [zI (mm s0 13)] sh pp mm Q := s_go cC_mayBegin_35 cC_mayBegin_38 (if_pos hk) rfl
theorem rC_mayBegin_38 {s0 : Int} {u0 u1 : zV} : zS 86 38 [u0, u1] [zI s0] sh pp mm Q ↔ zS 86 39 [zU, zU] [zI 3, zI s0] sh pp mm Q := s_go cC_mayBegin_38 cC_mayBegin_39 rfl rfl
theorem rC_mayBegin_39 {s0 s1 : Int} {u0 u1 : zV} : zS 86 39 [u0, u1] [zI s0, zI s1] sh pp mm Q ↔ (s1 < s0 → zS 86 42 [zU, zU] [] sh pp mm Q) ∧ (¬ s1 < s0 → zS 86 46 [zU, zU] [] sh pp mm Q) := s_ifn cC_mayBegin_39 cC_mayBegin_42 cC_mayBegin_46 rfl rfl rfl
theorem rC_mayBegin_42 {u0 u1 : zV} : zS 86 42 [u0, u1] [] sh pp mm Q ↔ zS 86 43 [zU, zU] [zI 1] sh pp mm Q := s_go cC_mayBegin_42 cC_mayBegin_43 rfl rfl
theorem rC_mayBegin_43 {s0 : Int} {u0 u1 : zV} : zS 86 43 [u0, u1] [zI s0] sh pp mm Q ↔ zS 86 47 [zU, zU] [zI s0] sh pp mm Q := s_go cC_mayBegin_43 cC_mayBegin_47 rfl rfl
theorem rC_mayBegin_46 {u0 u1 : zV} : zS 86 46 [u0, u1] [] sh pp mm Q ↔ zS 86 47 [zU, zU] [zI 0] sh pp mm Q := s_go cC_mayBegin_46 cC_mayBegin_47 rfl rfl
theorem rC_mayBegin_47 {s0 : Int} {u0 u1 : zV} (hb : s0 = 0 ∨ s0 = 1) : zS 86 47 [u0, u1] [zI s0] sh pp mm Q ↔ Q (zI s0) sh pp mm := s_ret cC_mayBegin_47 (if_pos (decide_eq_true hb))
theorem rC_mayBegin_48 {a0 : Nat} {u1 : zV} : zS 86 48 [zR a0, u1] [] sh pp mm Q ↔ zS 86 49 [zU, zU] [zR a0] sh pp mm Q := s_go cC_mayBegin_48 cC_mayBegin_49 rfl rfl
theorem rC_mayBegin_49 {s0 : Nat} {u0 u1 : zV} (hk : zKd sh s0 = 8) : zS 86 49 [u0, u1] [zR s0] sh pp mm Q ↔ zS 86 52 [zU, zU] [zI (mm s0 13)] sh pp mm Q := s_go cC_mayBegin_49 cC_mayBegin_52 (if_pos hk) rfl
theorem rC_mayBegin_52 {s0 : Int} {u0 u1 : zV} : zS 86 52 [u0, u1] [zI s0] sh pp mm Q ↔ (0 < s0 → zS 86 55 [zU, zU] [] sh pp mm Q) ∧ (¬ 0 < s0 → zS 86 59 [zU, zU] [] sh pp mm Q) := s_ifn cC_mayBegin_52 cC_mayBegin_55 cC_mayBegin_59 rfl rfl rfl
theorem rC_mayBegin_55 {u0 u1 : zV} : zS 86 55 [u0, u1] [] sh pp mm Q ↔ zS 86 56 [zU, zU] [zI 1] sh pp mm Q := s_go cC_mayBegin_55 cC_mayBegin_56 rfl rfl
theorem rC_mayBegin_56 {s0 : Int} {u0 u1 : zV} : zS 86 56 [u0, u1] [zI s0] sh pp mm Q ↔ zS 86 60 [zU, zU] [zI s0] sh pp mm Q := s_go cC_mayBegin_56 cC_mayBegin_60 rfl rfl
theorem rC_mayBegin_59 {u0 u1 : zV} : zS 86 59 [u0, u1] [] sh pp mm Q ↔ zS 86 60 [zU, zU] [zI 0] sh pp mm Q := s_go cC_mayBegin_59 cC_mayBegin_60 rfl rfl
theorem rC_mayBegin_60 {s0 : Int} {u0 u1 : zV} (hb : s0 = 0 ∨ s0 = 1) : zS 86 60 [u0, u1] [zI s0] sh pp mm Q ↔ Q (zI s0) sh pp mm := s_ret cC_mayBegin_60 (if_pos (decide_eq_true hb))
theorem rC_mayBegin_61 {u0 u1 : zV} : zS 86 61 [u0, u1] [] sh pp mm Q ↔ zS 86 62 [zU, zU] [zI 0] sh pp mm Q := s_go cC_mayBegin_61 cC_mayBegin_62 rfl rfl
theorem rC_mayBegin_62 {s0 : Int} {u0 u1 : zV} (hb : s0 = 0 ∨ s0 = 1) : zS 86 62 [u0, u1] [zI s0] sh pp mm Q ↔ Q (zI s0) sh pp mm := s_ret cC_mayBegin_62 (if_pos (decide_eq_true hb))
theorem cAC_fail : ∀ q ∈ zT87, zCode 87 q.1 = some q.2 := zAll (mid := 87) rfl (by decide +kernel)
theorem cAC_fail_0 : ∀ q ∈ zT87_0, zCode 87 q.1 = some q.2 := fun q h => cAC_fail q (h)
theorem cC_fail_0 : zCode 87 0 = some (.aload_n 0, 1, 0, 0, 0, 0, 1) := cAC_fail_0 _ (List.mem_of_getElem? (i := 0) rfl)
theorem cC_fail_1 : zCode 87 1 = some (.aload_n 0, 2, 0, 0, 0, 0, 1) := cAC_fail_0 _ (List.mem_of_getElem? (i := 1) rfl)
theorem cC_fail_2 : zCode 87 2 = some (.getfield 44, 5, 8, 10, 2, 385, 1) := cAC_fail_0 _ (List.mem_of_getElem? (i := 2) rfl)
theorem cC_fail_5 : zCode 87 5 = some (.aload_n 0, 6, 0, 0, 0, 0, 1) := cAC_fail_0 _ (List.mem_of_getElem? (i := 3) rfl)
theorem cC_fail_6 : zCode 87 6 = some (.getfield 50, 9, 8, 12, 0, 387, 0) := cAC_fail_0 _ (List.mem_of_getElem? (i := 4) rfl)
theorem cC_fail_9 : zCode 87 9 = some (.iaload, 10, 0, 0, 0, 0, 0) := cAC_fail_0 _ (List.mem_of_getElem? (i := 5) rfl)
theorem cC_fail_10 : zCode 87 10 = some (.putfield 25, 13, 8, 4, 0, 377, 0) := cAC_fail_0 _ (List.mem_of_getElem? (i := 6) rfl)
theorem cC_fail_13 : zCode 87 13 = some (.iconst 0, 14, 0, 0, 0, 0, 0) := cAC_fail_0 _ (List.mem_of_getElem? (i := 7) rfl)
theorem cC_fail_14 : zCode 87 14 = some (.ireturn, 15, 0, 3, 0, 0, 0) := cAC_fail_0 _ (List.mem_of_getElem? (i := 8) rfl)
theorem rC_fail_0 {a0 : Nat} : zS 87 0 [zR a0] [] sh pp mm Q ↔ zS 87 1 [zR a0] [zR a0] sh pp mm Q := s_go cC_fail_0 cC_fail_1 rfl rfl
theorem rC_fail_1 {a0 s0 : Nat} : zS 87 1 [zR a0] [zR s0] sh pp mm Q ↔ zS 87 2 [zR a0] [zR a0, zR s0] sh pp mm Q := s_go cC_fail_1 cC_fail_2 rfl rfl
theorem rC_fail_2 {a0 s0 s1 : Nat} (hk : zKd sh s0 = 8) : zS 87 2 [zR a0] [zR s0, zR s1] sh pp mm Q ↔ zS 87 5 [zR a0] [zR (pp s0 10), zR s1] sh pp mm Q := s_go cC_fail_2 cC_fail_5 (if_pos hk) rfl
theorem rC_fail_5 {a0 s0 s1 : Nat} : zS 87 5 [zR a0] [zR s0, zR s1] sh pp mm Q ↔ zS 87 6 [zU] [zR a0, zR s0, zR s1] sh pp mm Q := s_go cC_fail_5 cC_fail_6 rfl rfl
theorem rC_fail_6 {s0 s1 s2 : Nat} {u0 : zV} (hk : zKd sh s0 = 8) : zS 87 6 [u0] [zR s0, zR s1, zR s2] sh pp mm Q ↔ zS 87 9 [zU] [zI (mm s0 12), zR s1, zR s2] sh pp mm Q := s_go cC_fail_6 cC_fail_9 (if_pos hk) rfl
theorem rC_fail_9 {s1 s2 : Nat} {s0 : Int} {u0 : zV} (hk : zKd sh s1 = 20 ∨ zKd sh s1 = 30) (h0 : 0 ≤ s0) (h1 : s0 < zLn sh s1) : zS 87 9 [u0] [zI s0, zR s1, zR s2] sh pp mm Q ↔ zS 87 10 [zU] [zI (mm s1 s0), zR s2] sh pp mm Q := s_go cC_fail_9 cC_fail_10 (if_pos ⟨hk, h0, h1⟩) rfl
theorem rC_fail_10 {s1 : Nat} {s0 : Int} {u0 : zV} (hk : zKd sh s1 = 8) : zS 87 10 [u0] [zI s0, zR s1] sh pp mm Q ↔ zS 87 13 [zU] [] sh pp (zupd mm s1 4 s0) Q := s_go cC_fail_10 cC_fail_13 (if_pos ⟨hk, Or.inl rfl⟩) rfl
theorem rC_fail_13 {u0 : zV} : zS 87 13 [u0] [] sh pp mm Q ↔ zS 87 14 [zU] [zI 0] sh pp mm Q := s_go cC_fail_13 cC_fail_14 rfl rfl
theorem rC_fail_14 {s0 : Int} {u0 : zV} (hb : s0 = 0 ∨ s0 = 1) : zS 87 14 [u0] [zI s0] sh pp mm Q ↔ Q (zI s0) sh pp mm := s_ret cC_fail_14 (if_pos (decide_eq_true hb))
theorem cAC_numbersOf : ∀ q ∈ zT88, zCode 88 q.1 = some q.2 := zAll (mid := 88) rfl (by decide +kernel)
theorem cAC_numbersOf_0 : ∀ q ∈ zT88_0, zCode 88 q.1 = some q.2 := fun q h => cAC_numbersOf q (h)
theorem cC_numbersOf_0 : zCode 88 0 = some (.iload_n 0, 1, 0, 0, 0, 0, 1) := cAC_numbersOf_0 _ (List.mem_of_getElem? (i := 0) rfl)
theorem cC_numbersOf_1 : zCode 88 1 = some (.lookupswitch 31 #[(4, 27), (7, 29)], 28, 0, 0, 0, 0, 0) := cAC_numbersOf_0 _ (List.mem_of_getElem? (i := 1) rfl)
theorem cC_numbersOf_28 : zCode 88 28 = some (.iconst 2, 29, 0, 0, 0, 0, 0) := cAC_numbersOf_0 _ (List.mem_of_getElem? (i := 2) rfl)
theorem cC_numbersOf_29 : zCode 88 29 = some (.ireturn, 30, 0, 0, 0, 0, 0) := cAC_numbersOf_0 _ (List.mem_of_getElem? (i := 3) rfl)
theorem cC_numbersOf_30 : zCode 88 30 = some (.iconst 0, 31, 0, 0, 0, 0, 0) := cAC_numbersOf_0 _ (List.mem_of_getElem? (i := 4) rfl)
theorem cC_numbersOf_31 : zCode 88 31 = some (.ireturn, 32, 0, 0, 0, 0, 0) := cAC_numbersOf_0 _ (List.mem_of_getElem? (i := 5) rfl)
theorem cC_numbersOf_32 : zCode 88 32 = some (.iconst 1, 33, 0, 0, 0, 0, 0) := cAC_numbersOf_0 _ (List.mem_of_getElem? (i := 6) rfl)
theorem cC_numbersOf_33 : zCode 88 33 = some (.ireturn, 34, 0, 0, 0, 0, 0) := cAC_numbersOf_0 _ (List.mem_of_getElem? (i := 7) rfl)
theorem rC_numbersOf_0 {a0 : Int} : zS 88 0 [zI a0] [] sh pp mm Q ↔ zS 88 1 [zU] [zI a0] sh pp mm Q := s_go cC_numbersOf_0 cC_numbersOf_1 rfl rfl
theorem rC_numbersOf_1_4 {u0 : zV} : zS 88 1 [u0] [zI 4] sh pp mm Q ↔ zS 88 28 [zU] [] sh pp mm Q := s_go cC_numbersOf_1 cC_numbersOf_28 rfl rfl
theorem rC_numbersOf_1_7 {u0 : zV} : zS 88 1 [u0] [zI 7] sh pp mm Q ↔ zS 88 30 [zU] [] sh pp mm Q := s_go cC_numbersOf_1 cC_numbersOf_30 rfl rfl
theorem rC_numbersOf_1_d {s0 : Int} {u0 : zV} (hd0 : ¬ s0 = 4) (hd1 : ¬ s0 = 7) : zS 88 1 [u0] [zI s0] sh pp mm Q ↔ zS 88 32 [zU] [] sh pp mm Q := s_go cC_numbersOf_1 cC_numbersOf_32 ((congrArg (fun o => zSwT 1 o [zU] [] sh pp mm) (show Op.lookupswitch.offset [(4, 27), (7, 29)] 31 s0 = 31 by simp [Op.lookupswitch.offset, Ne.symm hd0, Ne.symm hd1])).trans rfl) rfl
theorem rC_numbersOf_28 {u0 : zV} : zS 88 28 [u0] [] sh pp mm Q ↔ zS 88 29 [zU] [zI 2] sh pp mm Q := s_go cC_numbersOf_28 cC_numbersOf_29 rfl rfl
theorem rC_numbersOf_29 {s0 : Int} {u0 : zV} : zS 88 29 [u0] [zI s0] sh pp mm Q ↔ Q (zI s0) sh pp mm := s_ret cC_numbersOf_29 rfl
theorem rC_numbersOf_30 {u0 : zV} : zS 88 30 [u0] [] sh pp mm Q ↔ zS 88 31 [zU] [zI 0] sh pp mm Q := s_go cC_numbersOf_30 cC_numbersOf_31 rfl rfl
theorem rC_numbersOf_31 {s0 : Int} {u0 : zV} : zS 88 31 [u0] [zI s0] sh pp mm Q ↔ Q (zI s0) sh pp mm := s_ret cC_numbersOf_31 rfl
theorem rC_numbersOf_32 {u0 : zV} : zS 88 32 [u0] [] sh pp mm Q ↔ zS 88 33 [zU] [zI 1] sh pp mm Q := s_go cC_numbersOf_32 cC_numbersOf_33 rfl rfl
theorem rC_numbersOf_33 {s0 : Int} {u0 : zV} : zS 88 33 [u0] [zI s0] sh pp mm Q ↔ Q (zI s0) sh pp mm := s_ret cC_numbersOf_33 rfl
theorem cAC_mayFollow : ∀ q ∈ zT89, zCode 89 q.1 = some q.2 := zAll (mid := 89) rfl (by decide +kernel)
theorem cAC_mayFollow_0 : ∀ q ∈ zT89_0, zCode 89 q.1 = some q.2 := fun q h => cAC_mayFollow q (List.mem_append_left _ h)
theorem cAC_mayFollow_1 : ∀ q ∈ zT89_1, zCode 89 q.1 = some q.2 := fun q h => cAC_mayFollow q (List.mem_append_right _ h)
theorem cC_mayFollow_0 : zCode 89 0 = some (.iload_n 0, 1, 0, 0, 0, 0, 3) := cAC_mayFollow_0 _ (List.mem_of_getElem? (i := 0) rfl)
theorem cC_mayFollow_1 : zCode 89 1 = some (.lookupswitch 59 #[(5, 27), (6, 42)], 28, 0, 0, 0, 0, 2) := cAC_mayFollow_0 _ (List.mem_of_getElem? (i := 1) rfl)
theorem cC_mayFollow_28 : zCode 89 28 = some (.iload_n 1, 29, 0, 0, 0, 0, 2) := cAC_mayFollow_0 _ (List.mem_of_getElem? (i := 2) rfl)
theorem cC_mayFollow_29 : zCode 89 29 = some (.ifCond .lt 12, 32, 41, 0, 0, 0, 2) := cAC_mayFollow_0 _ (List.mem_of_getElem? (i := 3) rfl)
theorem cC_mayFollow_32 : zCode 89 32 = some (.iload_n 1, 33, 0, 0, 0, 0, 2) := cAC_mayFollow_0 _ (List.mem_of_getElem? (i := 4) rfl)
theorem cC_mayFollow_33 : zCode 89 33 = some (.iconst 2, 34, 0, 0, 0, 0, 0) := cAC_mayFollow_0 _ (List.mem_of_getElem? (i := 5) rfl)
theorem cC_mayFollow_34 : zCode 89 34 = some (.if_icmp .gt 7, 37, 41, 0, 0, 0, 0) := cAC_mayFollow_0 _ (List.mem_of_getElem? (i := 6) rfl)
theorem cC_mayFollow_37 : zCode 89 37 = some (.iconst 1, 38, 0, 0, 0, 0, 0) := cAC_mayFollow_0 _ (List.mem_of_getElem? (i := 7) rfl)
theorem cC_mayFollow_38 : zCode 89 38 = some (.goto 4, 41, 42, 0, 0, 0, 0) := cAC_mayFollow_0 _ (List.mem_of_getElem? (i := 8) rfl)
theorem cC_mayFollow_41 : zCode 89 41 = some (.iconst 0, 42, 0, 0, 0, 0, 0) := cAC_mayFollow_0 _ (List.mem_of_getElem? (i := 9) rfl)
theorem cC_mayFollow_42 : zCode 89 42 = some (.ireturn, 43, 0, 3, 0, 0, 0) := cAC_mayFollow_0 _ (List.mem_of_getElem? (i := 10) rfl)
theorem cC_mayFollow_43 : zCode 89 43 = some (.iload_n 1, 44, 0, 0, 0, 0, 2) := cAC_mayFollow_0 _ (List.mem_of_getElem? (i := 11) rfl)
theorem cC_mayFollow_44 : zCode 89 44 = some (.iconst 1, 45, 0, 0, 0, 0, 2) := cAC_mayFollow_0 _ (List.mem_of_getElem? (i := 12) rfl)
theorem cC_mayFollow_45 : zCode 89 45 = some (.if_icmp .lt 13, 48, 58, 0, 0, 0, 2) := cAC_mayFollow_0 _ (List.mem_of_getElem? (i := 13) rfl)
theorem cC_mayFollow_48 : zCode 89 48 = some (.iload_n 1, 49, 0, 0, 0, 0, 2) := cAC_mayFollow_0 _ (List.mem_of_getElem? (i := 14) rfl)
theorem cC_mayFollow_49 : zCode 89 49 = some (.bipush 20, 51, 0, 0, 0, 0, 0) := cAC_mayFollow_0 _ (List.mem_of_getElem? (i := 15) rfl)
theorem cC_mayFollow_51 : zCode 89 51 = some (.if_icmp .gt 7, 54, 58, 0, 0, 0, 0) := cAC_mayFollow_1 _ (List.mem_of_getElem? (i := 0) rfl)
theorem cC_mayFollow_54 : zCode 89 54 = some (.iconst 1, 55, 0, 0, 0, 0, 0) := cAC_mayFollow_1 _ (List.mem_of_getElem? (i := 1) rfl)
theorem cC_mayFollow_55 : zCode 89 55 = some (.goto 4, 58, 59, 0, 0, 0, 0) := cAC_mayFollow_1 _ (List.mem_of_getElem? (i := 2) rfl)
theorem cC_mayFollow_58 : zCode 89 58 = some (.iconst 0, 59, 0, 0, 0, 0, 0) := cAC_mayFollow_1 _ (List.mem_of_getElem? (i := 3) rfl)
theorem cC_mayFollow_59 : zCode 89 59 = some (.ireturn, 60, 0, 3, 0, 0, 0) := cAC_mayFollow_1 _ (List.mem_of_getElem? (i := 4) rfl)
theorem cC_mayFollow_60 : zCode 89 60 = some (.iconst 1, 61, 0, 0, 0, 0, 0) := cAC_mayFollow_1 _ (List.mem_of_getElem? (i := 5) rfl)
theorem cC_mayFollow_61 : zCode 89 61 = some (.ireturn, 62, 0, 3, 0, 0, 0) := cAC_mayFollow_1 _ (List.mem_of_getElem? (i := 6) rfl)
theorem rC_mayFollow_0 {a0 a1 : Int} : zS 89 0 [zI a0, zI a1] [] sh pp mm Q ↔ zS 89 1 [zU, zI a1] [zI a0] sh pp mm Q := s_go cC_mayFollow_0 cC_mayFollow_1 rfl rfl
theorem rC_mayFollow_1_5 {a1 : Int} {u0 : zV} : zS 89 1 [u0, zI a1] [zI 5] sh pp mm Q ↔ zS 89 28 [zU, zI a1] [] sh pp mm Q := s_go cC_mayFollow_1 cC_mayFollow_28 rfl rfl
theorem rC_mayFollow_1_6 {a1 : Int} {u0 : zV} : zS 89 1 [u0, zI a1] [zI 6] sh pp mm Q ↔ zS 89 43 [zU, zI a1] [] sh pp mm Q := s_go cC_mayFollow_1 cC_mayFollow_43 rfl rfl
theorem rC_mayFollow_1_d {a1 s0 : Int} {u0 : zV} (hd0 : ¬ s0 = 5) (hd1 : ¬ s0 = 6) : zS 89 1 [u0, zI a1] [zI s0] sh pp mm Q ↔ zS 89 60 [zU, zU] [] sh pp mm Q := s_go cC_mayFollow_1 cC_mayFollow_60 ((congrArg (fun o => zSwT 1 o [zU, zI a1] [] sh pp mm) (show Op.lookupswitch.offset [(5, 27), (6, 42)] 59 s0 = 59 by simp [Op.lookupswitch.offset, Ne.symm hd0, Ne.symm hd1])).trans rfl) rfl
theorem rC_mayFollow_28 {a1 : Int} {u0 : zV} : zS 89 28 [u0, zI a1] [] sh pp mm Q ↔ zS 89 29 [zU, zI a1] [zI a1] sh pp mm Q := s_go cC_mayFollow_28 cC_mayFollow_29 rfl rfl
theorem rC_mayFollow_29 {a1 s0 : Int} {u0 : zV} : zS 89 29 [u0, zI a1] [zI s0] sh pp mm Q ↔ (s0 < 0 → zS 89 41 [zU, zU] [] sh pp mm Q) ∧ (¬ s0 < 0 → zS 89 32 [zU, zI a1] [] sh pp mm Q) := s_if cC_mayFollow_29 cC_mayFollow_41 cC_mayFollow_32 rfl rfl rfl
theorem rC_mayFollow_32 {a1 : Int} {u0 : zV} : zS 89 32 [u0, zI a1] [] sh pp mm Q ↔ zS 89 33 [zU, zU] [zI a1] sh pp mm Q := s_go cC_mayFollow_32 cC_mayFollow_33 rfl rfl
theorem rC_mayFollow_33 {s0 : Int} {u0 u1 : zV} : zS 89 33 [u0, u1] [zI s0] sh pp mm Q ↔ zS 89 34 [zU, zU] [zI 2, zI s0] sh pp mm Q := s_go cC_mayFollow_33 cC_mayFollow_34 rfl rfl
theorem rC_mayFollow_34 {s0 s1 : Int} {u0 u1 : zV} : zS 89 34 [u0, u1] [zI s0, zI s1] sh pp mm Q ↔ (s0 < s1 → zS 89 41 [zU, zU] [] sh pp mm Q) ∧ (¬ s0 < s1 → zS 89 37 [zU, zU] [] sh pp mm Q) := s_if cC_mayFollow_34 cC_mayFollow_41 cC_mayFollow_37 rfl rfl rfl
theorem rC_mayFollow_37 {u0 u1 : zV} : zS 89 37 [u0, u1] [] sh pp mm Q ↔ zS 89 38 [zU, zU] [zI 1] sh pp mm Q := s_go cC_mayFollow_37 cC_mayFollow_38 rfl rfl
theorem rC_mayFollow_38 {s0 : Int} {u0 u1 : zV} : zS 89 38 [u0, u1] [zI s0] sh pp mm Q ↔ zS 89 42 [zU, zU] [zI s0] sh pp mm Q := s_go cC_mayFollow_38 cC_mayFollow_42 rfl rfl
theorem rC_mayFollow_41 {u0 u1 : zV} : zS 89 41 [u0, u1] [] sh pp mm Q ↔ zS 89 42 [zU, zU] [zI 0] sh pp mm Q := s_go cC_mayFollow_41 cC_mayFollow_42 rfl rfl
theorem rC_mayFollow_42 {s0 : Int} {u0 u1 : zV} (hb : s0 = 0 ∨ s0 = 1) : zS 89 42 [u0, u1] [zI s0] sh pp mm Q ↔ Q (zI s0) sh pp mm := s_ret cC_mayFollow_42 (if_pos (decide_eq_true hb))
theorem rC_mayFollow_43 {a1 : Int} {u0 : zV} : zS 89 43 [u0, zI a1] [] sh pp mm Q ↔ zS 89 44 [zU, zI a1] [zI a1] sh pp mm Q := s_go cC_mayFollow_43 cC_mayFollow_44 rfl rfl
theorem rC_mayFollow_44 {a1 s0 : Int} {u0 : zV} : zS 89 44 [u0, zI a1] [zI s0] sh pp mm Q ↔ zS 89 45 [zU, zI a1] [zI 1, zI s0] sh pp mm Q := s_go cC_mayFollow_44 cC_mayFollow_45 rfl rfl
theorem rC_mayFollow_45 {a1 s0 s1 : Int} {u0 : zV} : zS 89 45 [u0, zI a1] [zI s0, zI s1] sh pp mm Q ↔ (s1 < s0 → zS 89 58 [zU, zU] [] sh pp mm Q) ∧ (¬ s1 < s0 → zS 89 48 [zU, zI a1] [] sh pp mm Q) := s_if cC_mayFollow_45 cC_mayFollow_58 cC_mayFollow_48 rfl rfl rfl
theorem rC_mayFollow_48 {a1 : Int} {u0 : zV} : zS 89 48 [u0, zI a1] [] sh pp mm Q ↔ zS 89 49 [zU, zU] [zI a1] sh pp mm Q := s_go cC_mayFollow_48 cC_mayFollow_49 rfl rfl
theorem rC_mayFollow_49 {s0 : Int} {u0 u1 : zV} : zS 89 49 [u0, u1] [zI s0] sh pp mm Q ↔ zS 89 51 [zU, zU] [zI 20, zI s0] sh pp mm Q := s_go cC_mayFollow_49 cC_mayFollow_51 rfl rfl
theorem rC_mayFollow_51 {s0 s1 : Int} {u0 u1 : zV} : zS 89 51 [u0, u1] [zI s0, zI s1] sh pp mm Q ↔ (s0 < s1 → zS 89 58 [zU, zU] [] sh pp mm Q) ∧ (¬ s0 < s1 → zS 89 54 [zU, zU] [] sh pp mm Q) := s_if cC_mayFollow_51 cC_mayFollow_58 cC_mayFollow_54 rfl rfl rfl
theorem rC_mayFollow_54 {u0 u1 : zV} : zS 89 54 [u0, u1] [] sh pp mm Q ↔ zS 89 55 [zU, zU] [zI 1] sh pp mm Q := s_go cC_mayFollow_54 cC_mayFollow_55 rfl rfl
theorem rC_mayFollow_55 {s0 : Int} {u0 u1 : zV} : zS 89 55 [u0, u1] [zI s0] sh pp mm Q ↔ zS 89 59 [zU, zU] [zI s0] sh pp mm Q := s_go cC_mayFollow_55 cC_mayFollow_59 rfl rfl
theorem rC_mayFollow_58 {u0 u1 : zV} : zS 89 58 [u0, u1] [] sh pp mm Q ↔ zS 89 59 [zU, zU] [zI 0] sh pp mm Q := s_go cC_mayFollow_58 cC_mayFollow_59 rfl rfl
theorem rC_mayFollow_59 {s0 : Int} {u0 u1 : zV} (hb : s0 = 0 ∨ s0 = 1) : zS 89 59 [u0, u1] [zI s0] sh pp mm Q ↔ Q (zI s0) sh pp mm := s_ret cC_mayFollow_59 (if_pos (decide_eq_true hb))
theorem rC_mayFollow_60 {u0 u1 : zV} : zS 89 60 [u0, u1] [] sh pp mm Q ↔ zS 89 61 [zU, zU] [zI 1] sh pp mm Q := s_go cC_mayFollow_60 cC_mayFollow_61 rfl rfl
theorem rC_mayFollow_61 {s0 : Int} {u0 u1 : zV} (hb : s0 = 0 ∨ s0 = 1) : zS 89 61 [u0, u1] [zI s0] sh pp mm Q ↔ Q (zI s0) sh pp mm := s_ret cC_mayFollow_61 (if_pos (decide_eq_true hb))
theorem cAC_keep : ∀ q ∈ zT90, zCode 90 q.1 = some q.2 := zAll (mid := 90) rfl (by decide +kernel)
theorem cAC_keep_0 : ∀ q ∈ zT90_0, zCode 90 q.1 = some q.2 := fun q h => cAC_keep q (List.mem_append_left _ h)
theorem cAC_keep_1 : ∀ q ∈ zT90_1, zCode 90 q.1 = some q.2 := fun q h => cAC_keep q (List.mem_append_right _ (List.mem_append_left _ h))
theorem cAC_keep_2 : ∀ q ∈ zT90_2, zCode 90 q.1 = some q.2 := fun q h => cAC_keep q (List.mem_append_right _ (List.mem_append_right _ h))
theorem cC_keep_0 : zCode 90 0 = some (.iload_n 1, 1, 0, 0, 0, 0, 15) := cAC_keep_0 _ (List.mem_of_getElem? (i := 0) rfl)
theorem cC_keep_1 : zCode 90 1 = some (.bipush 6, 3, 0, 0, 0, 0, 15) := cAC_keep_0 _ (List.mem_of_getElem? (i := 1) rfl)
theorem cC_keep_3 : zCode 90 3 = some (.if_icmp .ne 13, 6, 16, 0, 0, 0, 15) := cAC_keep_0 _ (List.mem_of_getElem? (i := 2) rfl)
theorem cC_keep_6 : zCode 90 6 = some (.aload_n 0, 7, 0, 0, 0, 0, 15) := cAC_keep_0 _ (List.mem_of_getElem? (i := 3) rfl)
theorem cC_keep_7 : zCode 90 7 = some (.dup, 8, 0, 0, 0, 0, 15) := cAC_keep_0 _ (List.mem_of_getElem? (i := 4) rfl)
theorem cC_keep_8 : zCode 90 8 = some (.getfield 53, 11, 8, 13, 0, 388, 15) := cAC_keep_0 _ (List.mem_of_getElem? (i := 5) rfl)
theorem cC_keep_11 : zCode 90 11 = some (.iconst 1, 12, 0, 0, 0, 0, 15) := cAC_keep_0 _ (List.mem_of_getElem? (i := 6) rfl)
theorem cC_keep_12 : zCode 90 12 = some (.iadd, 13, 0, 0, 0, 0, 15) := cAC_keep_0 _ (List.mem_of_getElem? (i := 7) rfl)
theorem cC_keep_13 : zCode 90 13 = some (.putfield 53, 16, 8, 13, 0, 388, 15) := cAC_keep_0 _ (List.mem_of_getElem? (i := 8) rfl)
theorem cC_keep_16 : zCode 90 16 = some (.iload_n 1, 17, 0, 0, 0, 0, 15) := cAC_keep_0 _ (List.mem_of_getElem? (i := 9) rfl)
theorem cC_keep_17 : zCode 90 17 = some (.bipush 7, 19, 0, 0, 0, 0, 15) := cAC_keep_0 _ (List.mem_of_getElem? (i := 10) rfl)
theorem cC_keep_19 : zCode 90 19 = some (.if_icmp .ne 13, 22, 32, 0, 0, 0, 15) := cAC_keep_0 _ (List.mem_of_getElem? (i := 11) rfl)
theorem cC_keep_22 : zCode 90 22 = some (.aload_n 0, 23, 0, 0, 0, 0, 15) := cAC_keep_0 _ (List.mem_of_getElem? (i := 12) rfl)
theorem cC_keep_23 : zCode 90 23 = some (.dup, 24, 0, 0, 0, 0, 15) := cAC_keep_0 _ (List.mem_of_getElem? (i := 13) rfl)
theorem cC_keep_24 : zCode 90 24 = some (.getfield 53, 27, 8, 13, 0, 388, 15) := cAC_keep_0 _ (List.mem_of_getElem? (i := 14) rfl)
theorem cC_keep_27 : zCode 90 27 = some (.iconst 1, 28, 0, 0, 0, 0, 15) := cAC_keep_0 _ (List.mem_of_getElem? (i := 15) rfl)
theorem cC_keep_28 : zCode 90 28 = some (.isub, 29, 0, 0, 0, 0, 15) := cAC_keep_1 _ (List.mem_of_getElem? (i := 0) rfl)
theorem cC_keep_29 : zCode 90 29 = some (.putfield 53, 32, 8, 13, 0, 388, 15) := cAC_keep_1 _ (List.mem_of_getElem? (i := 1) rfl)
theorem cC_keep_32 : zCode 90 32 = some (.aload_n 0, 33, 0, 0, 0, 0, 15) := cAC_keep_1 _ (List.mem_of_getElem? (i := 2) rfl)
theorem cC_keep_33 : zCode 90 33 = some (.getfield 21, 36, 8, 3, 0, 375, 15) := cAC_keep_1 _ (List.mem_of_getElem? (i := 3) rfl)
theorem cC_keep_36 : zCode 90 36 = some (.bipush 30, 38, 0, 0, 0, 0, 15) := cAC_keep_1 _ (List.mem_of_getElem? (i := 4) rfl)
theorem cC_keep_38 : zCode 90 38 = some (.if_icmp .ge 43, 41, 81, 0, 0, 0, 15) := cAC_keep_1 _ (List.mem_of_getElem? (i := 5) rfl)
theorem cC_keep_41 : zCode 90 41 = some (.aload_n 0, 42, 0, 0, 0, 0, 15) := cAC_keep_1 _ (List.mem_of_getElem? (i := 6) rfl)
theorem cC_keep_42 : zCode 90 42 = some (.getfield 9, 45, 8, 0, 2, 369, 15) := cAC_keep_1 _ (List.mem_of_getElem? (i := 7) rfl)
theorem cC_keep_45 : zCode 90 45 = some (.aload_n 0, 46, 0, 0, 0, 0, 15) := cAC_keep_1 _ (List.mem_of_getElem? (i := 8) rfl)
theorem cC_keep_46 : zCode 90 46 = some (.getfield 21, 49, 8, 3, 0, 375, 15) := cAC_keep_1 _ (List.mem_of_getElem? (i := 9) rfl)
theorem cC_keep_49 : zCode 90 49 = some (.iload_n 1, 50, 0, 0, 0, 0, 15) := cAC_keep_1 _ (List.mem_of_getElem? (i := 10) rfl)
theorem cC_keep_50 : zCode 90 50 = some (.iastore, 51, 0, 0, 0, 0, 13) := cAC_keep_1 _ (List.mem_of_getElem? (i := 11) rfl)
theorem cC_keep_51 : zCode 90 51 = some (.aload_n 0, 52, 0, 0, 0, 0, 13) := cAC_keep_1 _ (List.mem_of_getElem? (i := 12) rfl)
theorem cC_keep_52 : zCode 90 52 = some (.getfield 15, 55, 8, 1, 2, 371, 13) := cAC_keep_1 _ (List.mem_of_getElem? (i := 13) rfl)
theorem cC_keep_55 : zCode 90 55 = some (.aload_n 0, 56, 0, 0, 0, 0, 13) := cAC_keep_1 _ (List.mem_of_getElem? (i := 14) rfl)
theorem cC_keep_56 : zCode 90 56 = some (.getfield 21, 59, 8, 3, 0, 375, 13) := cAC_keep_1 _ (List.mem_of_getElem? (i := 15) rfl)
theorem cC_keep_59 : zCode 90 59 = some (.iload_n 2, 60, 0, 0, 0, 0, 13) := cAC_keep_2 _ (List.mem_of_getElem? (i := 0) rfl)
theorem cC_keep_60 : zCode 90 60 = some (.iastore, 61, 0, 0, 0, 0, 9) := cAC_keep_2 _ (List.mem_of_getElem? (i := 1) rfl)
theorem cC_keep_61 : zCode 90 61 = some (.aload_n 0, 62, 0, 0, 0, 0, 9) := cAC_keep_2 _ (List.mem_of_getElem? (i := 2) rfl)
theorem cC_keep_62 : zCode 90 62 = some (.getfield 18, 65, 8, 2, 2, 373, 9) := cAC_keep_2 _ (List.mem_of_getElem? (i := 3) rfl)
theorem cC_keep_65 : zCode 90 65 = some (.aload_n 0, 66, 0, 0, 0, 0, 9) := cAC_keep_2 _ (List.mem_of_getElem? (i := 4) rfl)
theorem cC_keep_66 : zCode 90 66 = some (.getfield 21, 69, 8, 3, 0, 375, 9) := cAC_keep_2 _ (List.mem_of_getElem? (i := 5) rfl)
theorem cC_keep_69 : zCode 90 69 = some (.iload_n 3, 70, 0, 0, 0, 0, 9) := cAC_keep_2 _ (List.mem_of_getElem? (i := 6) rfl)
theorem cC_keep_70 : zCode 90 70 = some (.iastore, 71, 0, 0, 0, 0, 1) := cAC_keep_2 _ (List.mem_of_getElem? (i := 7) rfl)
theorem cC_keep_71 : zCode 90 71 = some (.aload_n 0, 72, 0, 0, 0, 0, 1) := cAC_keep_2 _ (List.mem_of_getElem? (i := 8) rfl)
theorem cC_keep_72 : zCode 90 72 = some (.dup, 73, 0, 0, 0, 0, 0) := cAC_keep_2 _ (List.mem_of_getElem? (i := 9) rfl)
theorem cC_keep_73 : zCode 90 73 = some (.getfield 21, 76, 8, 3, 0, 375, 0) := cAC_keep_2 _ (List.mem_of_getElem? (i := 10) rfl)
theorem cC_keep_76 : zCode 90 76 = some (.iconst 1, 77, 0, 0, 0, 0, 0) := cAC_keep_2 _ (List.mem_of_getElem? (i := 11) rfl)
theorem cC_keep_77 : zCode 90 77 = some (.iadd, 78, 0, 0, 0, 0, 0) := cAC_keep_2 _ (List.mem_of_getElem? (i := 12) rfl)
theorem cC_keep_78 : zCode 90 78 = some (.putfield 21, 81, 8, 3, 0, 375, 0) := cAC_keep_2 _ (List.mem_of_getElem? (i := 13) rfl)
theorem cC_keep_81 : zCode 90 81 = some (.return_, 82, 0, 0, 0, 0, 0) := cAC_keep_2 _ (List.mem_of_getElem? (i := 14) rfl)
theorem rC_keep_0 {a0 : Nat} {a1 a2 a3 : Int} : zS 90 0 [zR a0, zI a1, zI a2, zI a3] [] sh pp mm Q ↔ zS 90 1 [zR a0, zI a1, zI a2, zI a3] [zI a1] sh pp mm Q := s_go cC_keep_0 cC_keep_1 rfl rfl
theorem rC_keep_1 {a0 : Nat} {a1 a2 a3 s0 : Int} : zS 90 1 [zR a0, zI a1, zI a2, zI a3] [zI s0] sh pp mm Q ↔ zS 90 3 [zR a0, zI a1, zI a2, zI a3] [zI 6, zI s0] sh pp mm Q := s_go cC_keep_1 cC_keep_3 rfl rfl
theorem rC_keep_3 {a0 : Nat} {a1 a2 a3 s0 s1 : Int} : zS 90 3 [zR a0, zI a1, zI a2, zI a3] [zI s0, zI s1] sh pp mm Q ↔ (s1 = s0 → zS 90 6 [zR a0, zI a1, zI a2, zI a3] [] sh pp mm Q) ∧ (¬ s1 = s0 → zS 90 16 [zR a0, zI a1, zI a2, zI a3] [] sh pp mm Q) := s_ifn cC_keep_3 cC_keep_6 cC_keep_16 rfl rfl rfl
theorem rC_keep_6 {a0 : Nat} {a1 a2 a3 : Int} : zS 90 6 [zR a0, zI a1, zI a2, zI a3] [] sh pp mm Q ↔ zS 90 7 [zR a0, zI a1, zI a2, zI a3] [zR a0] sh pp mm Q := s_go cC_keep_6 cC_keep_7 rfl rfl
theorem rC_keep_7 {a0 s0 : Nat} {a1 a2 a3 : Int} : zS 90 7 [zR a0, zI a1, zI a2, zI a3] [zR s0] sh pp mm Q ↔ zS 90 8 [zR a0, zI a1, zI a2, zI a3] [zR s0, zR s0] sh pp mm Q := s_go cC_keep_7 cC_keep_8 rfl rfl
theorem rC_keep_8 {a0 s0 s1 : Nat} {a1 a2 a3 : Int} (hk : zKd sh s0 = 8) : zS 90 8 [zR a0, zI a1, zI a2, zI a3] [zR s0, zR s1] sh pp mm Q ↔ zS 90 11 [zR a0, zI a1, zI a2, zI a3] [zI (mm s0 13), zR s1] sh pp mm Q := s_go cC_keep_8 cC_keep_11 (if_pos hk) rfl
theorem rC_keep_11 {a0 s1 : Nat} {a1 a2 a3 s0 : Int} : zS 90 11 [zR a0, zI a1, zI a2, zI a3] [zI s0, zR s1] sh pp mm Q ↔ zS 90 12 [zR a0, zI a1, zI a2, zI a3] [zI 1, zI s0, zR s1] sh pp mm Q := s_go cC_keep_11 cC_keep_12 rfl rfl
theorem rC_keep_12 {a0 s2 : Nat} {a1 a2 a3 s0 s1 : Int} : zS 90 12 [zR a0, zI a1, zI a2, zI a3] [zI s0, zI s1, zR s2] sh pp mm Q ↔ zS 90 13 [zR a0, zI a1, zI a2, zI a3] [zI (zw32 (s1 + s0)), zR s2] sh pp mm Q := s_go cC_keep_12 cC_keep_13 rfl rfl
theorem rC_keep_13 {a0 s1 : Nat} {a1 a2 a3 s0 : Int} (hk : zKd sh s1 = 8) : zS 90 13 [zR a0, zI a1, zI a2, zI a3] [zI s0, zR s1] sh pp mm Q ↔ zS 90 16 [zR a0, zI a1, zI a2, zI a3] [] sh pp (zupd mm s1 13 s0) Q := s_go cC_keep_13 cC_keep_16 (if_pos ⟨hk, Or.inl rfl⟩) rfl
theorem rC_keep_16 {a0 : Nat} {a1 a2 a3 : Int} : zS 90 16 [zR a0, zI a1, zI a2, zI a3] [] sh pp mm Q ↔ zS 90 17 [zR a0, zI a1, zI a2, zI a3] [zI a1] sh pp mm Q := s_go cC_keep_16 cC_keep_17 rfl rfl
theorem rC_keep_17 {a0 : Nat} {a1 a2 a3 s0 : Int} : zS 90 17 [zR a0, zI a1, zI a2, zI a3] [zI s0] sh pp mm Q ↔ zS 90 19 [zR a0, zI a1, zI a2, zI a3] [zI 7, zI s0] sh pp mm Q := s_go cC_keep_17 cC_keep_19 rfl rfl
theorem rC_keep_19 {a0 : Nat} {a1 a2 a3 s0 s1 : Int} : zS 90 19 [zR a0, zI a1, zI a2, zI a3] [zI s0, zI s1] sh pp mm Q ↔ (s1 = s0 → zS 90 22 [zR a0, zI a1, zI a2, zI a3] [] sh pp mm Q) ∧ (¬ s1 = s0 → zS 90 32 [zR a0, zI a1, zI a2, zI a3] [] sh pp mm Q) := s_ifn cC_keep_19 cC_keep_22 cC_keep_32 rfl rfl rfl
theorem rC_keep_22 {a0 : Nat} {a1 a2 a3 : Int} : zS 90 22 [zR a0, zI a1, zI a2, zI a3] [] sh pp mm Q ↔ zS 90 23 [zR a0, zI a1, zI a2, zI a3] [zR a0] sh pp mm Q := s_go cC_keep_22 cC_keep_23 rfl rfl
theorem rC_keep_23 {a0 s0 : Nat} {a1 a2 a3 : Int} : zS 90 23 [zR a0, zI a1, zI a2, zI a3] [zR s0] sh pp mm Q ↔ zS 90 24 [zR a0, zI a1, zI a2, zI a3] [zR s0, zR s0] sh pp mm Q := s_go cC_keep_23 cC_keep_24 rfl rfl
theorem rC_keep_24 {a0 s0 s1 : Nat} {a1 a2 a3 : Int} (hk : zKd sh s0 = 8) : zS 90 24 [zR a0, zI a1, zI a2, zI a3] [zR s0, zR s1] sh pp mm Q ↔ zS 90 27 [zR a0, zI a1, zI a2, zI a3] [zI (mm s0 13), zR s1] sh pp mm Q := s_go cC_keep_24 cC_keep_27 (if_pos hk) rfl
theorem rC_keep_27 {a0 s1 : Nat} {a1 a2 a3 s0 : Int} : zS 90 27 [zR a0, zI a1, zI a2, zI a3] [zI s0, zR s1] sh pp mm Q ↔ zS 90 28 [zR a0, zI a1, zI a2, zI a3] [zI 1, zI s0, zR s1] sh pp mm Q := s_go cC_keep_27 cC_keep_28 rfl rfl
theorem rC_keep_28 {a0 s2 : Nat} {a1 a2 a3 s0 s1 : Int} : zS 90 28 [zR a0, zI a1, zI a2, zI a3] [zI s0, zI s1, zR s2] sh pp mm Q ↔ zS 90 29 [zR a0, zI a1, zI a2, zI a3] [zI (zw32 (s1 - s0)), zR s2] sh pp mm Q := s_go cC_keep_28 cC_keep_29 rfl rfl
theorem rC_keep_29 {a0 s1 : Nat} {a1 a2 a3 s0 : Int} (hk : zKd sh s1 = 8) : zS 90 29 [zR a0, zI a1, zI a2, zI a3] [zI s0, zR s1] sh pp mm Q ↔ zS 90 32 [zR a0, zI a1, zI a2, zI a3] [] sh pp (zupd mm s1 13 s0) Q := s_go cC_keep_29 cC_keep_32 (if_pos ⟨hk, Or.inl rfl⟩) rfl
theorem rC_keep_32 {a0 : Nat} {a1 a2 a3 : Int} : zS 90 32 [zR a0, zI a1, zI a2, zI a3] [] sh pp mm Q ↔ zS 90 33 [zR a0, zI a1, zI a2, zI a3] [zR a0] sh pp mm Q := s_go cC_keep_32 cC_keep_33 rfl rfl
theorem rC_keep_33 {a0 s0 : Nat} {a1 a2 a3 : Int} (hk : zKd sh s0 = 8) : zS 90 33 [zR a0, zI a1, zI a2, zI a3] [zR s0] sh pp mm Q ↔ zS 90 36 [zR a0, zI a1, zI a2, zI a3] [zI (mm s0 3)] sh pp mm Q := s_go cC_keep_33 cC_keep_36 (if_pos hk) rfl
theorem rC_keep_36 {a0 : Nat} {a1 a2 a3 s0 : Int} : zS 90 36 [zR a0, zI a1, zI a2, zI a3] [zI s0] sh pp mm Q ↔ zS 90 38 [zR a0, zI a1, zI a2, zI a3] [zI 30, zI s0] sh pp mm Q := s_go cC_keep_36 cC_keep_38 rfl rfl
theorem rC_keep_38 {a0 : Nat} {a1 a2 a3 s0 s1 : Int} : zS 90 38 [zR a0, zI a1, zI a2, zI a3] [zI s0, zI s1] sh pp mm Q ↔ (s1 < s0 → zS 90 41 [zR a0, zI a1, zI a2, zI a3] [] sh pp mm Q) ∧ (¬ s1 < s0 → zS 90 81 [zU, zU, zU, zU] [] sh pp mm Q) := s_ifn cC_keep_38 cC_keep_41 cC_keep_81 rfl rfl rfl
theorem rC_keep_41 {a0 : Nat} {a1 a2 a3 : Int} : zS 90 41 [zR a0, zI a1, zI a2, zI a3] [] sh pp mm Q ↔ zS 90 42 [zR a0, zI a1, zI a2, zI a3] [zR a0] sh pp mm Q := s_go cC_keep_41 cC_keep_42 rfl rfl
theorem rC_keep_42 {a0 s0 : Nat} {a1 a2 a3 : Int} (hk : zKd sh s0 = 8) : zS 90 42 [zR a0, zI a1, zI a2, zI a3] [zR s0] sh pp mm Q ↔ zS 90 45 [zR a0, zI a1, zI a2, zI a3] [zR (pp s0 0)] sh pp mm Q := s_go cC_keep_42 cC_keep_45 (if_pos hk) rfl
theorem rC_keep_45 {a0 s0 : Nat} {a1 a2 a3 : Int} : zS 90 45 [zR a0, zI a1, zI a2, zI a3] [zR s0] sh pp mm Q ↔ zS 90 46 [zR a0, zI a1, zI a2, zI a3] [zR a0, zR s0] sh pp mm Q := s_go cC_keep_45 cC_keep_46 rfl rfl
theorem rC_keep_46 {a0 s0 s1 : Nat} {a1 a2 a3 : Int} (hk : zKd sh s0 = 8) : zS 90 46 [zR a0, zI a1, zI a2, zI a3] [zR s0, zR s1] sh pp mm Q ↔ zS 90 49 [zR a0, zI a1, zI a2, zI a3] [zI (mm s0 3), zR s1] sh pp mm Q := s_go cC_keep_46 cC_keep_49 (if_pos hk) rfl
theorem rC_keep_49 {a0 s1 : Nat} {a1 a2 a3 s0 : Int} : zS 90 49 [zR a0, zI a1, zI a2, zI a3] [zI s0, zR s1] sh pp mm Q ↔ zS 90 50 [zR a0, zU, zI a2, zI a3] [zI a1, zI s0, zR s1] sh pp mm Q := s_go cC_keep_49 cC_keep_50 rfl rfl
theorem rC_keep_50 {a0 s2 : Nat} {a2 a3 s0 s1 : Int} {u1 : zV} (hk : zKd sh s2 = 20) (h0 : 0 ≤ s1) (h1 : s1 < zLn sh s2) : zS 90 50 [zR a0, u1, zI a2, zI a3] [zI s0, zI s1, zR s2] sh pp mm Q ↔ zS 90 51 [zR a0, zU, zI a2, zI a3] [] sh pp (zupd mm s2 s1 s0) Q := s_go cC_keep_50 cC_keep_51 (if_pos ⟨hk, h0, h1, fun h => absurd h (by decide)⟩) rfl
theorem rC_keep_51 {a0 : Nat} {a2 a3 : Int} {u1 : zV} : zS 90 51 [zR a0, u1, zI a2, zI a3] [] sh pp mm Q ↔ zS 90 52 [zR a0, zU, zI a2, zI a3] [zR a0] sh pp mm Q := s_go cC_keep_51 cC_keep_52 rfl rfl
theorem rC_keep_52 {a0 s0 : Nat} {a2 a3 : Int} {u1 : zV} (hk : zKd sh s0 = 8) : zS 90 52 [zR a0, u1, zI a2, zI a3] [zR s0] sh pp mm Q ↔ zS 90 55 [zR a0, zU, zI a2, zI a3] [zR (pp s0 1)] sh pp mm Q := s_go cC_keep_52 cC_keep_55 (if_pos hk) rfl
theorem rC_keep_55 {a0 s0 : Nat} {a2 a3 : Int} {u1 : zV} : zS 90 55 [zR a0, u1, zI a2, zI a3] [zR s0] sh pp mm Q ↔ zS 90 56 [zR a0, zU, zI a2, zI a3] [zR a0, zR s0] sh pp mm Q := s_go cC_keep_55 cC_keep_56 rfl rfl
theorem rC_keep_56 {a0 s0 s1 : Nat} {a2 a3 : Int} {u1 : zV} (hk : zKd sh s0 = 8) : zS 90 56 [zR a0, u1, zI a2, zI a3] [zR s0, zR s1] sh pp mm Q ↔ zS 90 59 [zR a0, zU, zI a2, zI a3] [zI (mm s0 3), zR s1] sh pp mm Q := s_go cC_keep_56 cC_keep_59 (if_pos hk) rfl
theorem rC_keep_59 {a0 s1 : Nat} {a2 a3 s0 : Int} {u1 : zV} : zS 90 59 [zR a0, u1, zI a2, zI a3] [zI s0, zR s1] sh pp mm Q ↔ zS 90 60 [zR a0, zU, zU, zI a3] [zI a2, zI s0, zR s1] sh pp mm Q := s_go cC_keep_59 cC_keep_60 rfl rfl
theorem rC_keep_60 {a0 s2 : Nat} {a3 s0 s1 : Int} {u1 u2 : zV} (hk : zKd sh s2 = 20) (h0 : 0 ≤ s1) (h1 : s1 < zLn sh s2) : zS 90 60 [zR a0, u1, u2, zI a3] [zI s0, zI s1, zR s2] sh pp mm Q ↔ zS 90 61 [zR a0, zU, zU, zI a3] [] sh pp (zupd mm s2 s1 s0) Q := s_go cC_keep_60 cC_keep_61 (if_pos ⟨hk, h0, h1, fun h => absurd h (by decide)⟩) rfl
theorem rC_keep_61 {a0 : Nat} {a3 : Int} {u1 u2 : zV} : zS 90 61 [zR a0, u1, u2, zI a3] [] sh pp mm Q ↔ zS 90 62 [zR a0, zU, zU, zI a3] [zR a0] sh pp mm Q := s_go cC_keep_61 cC_keep_62 rfl rfl
theorem rC_keep_62 {a0 s0 : Nat} {a3 : Int} {u1 u2 : zV} (hk : zKd sh s0 = 8) : zS 90 62 [zR a0, u1, u2, zI a3] [zR s0] sh pp mm Q ↔ zS 90 65 [zR a0, zU, zU, zI a3] [zR (pp s0 2)] sh pp mm Q := s_go cC_keep_62 cC_keep_65 (if_pos hk) rfl
theorem rC_keep_65 {a0 s0 : Nat} {a3 : Int} {u1 u2 : zV} : zS 90 65 [zR a0, u1, u2, zI a3] [zR s0] sh pp mm Q ↔ zS 90 66 [zR a0, zU, zU, zI a3] [zR a0, zR s0] sh pp mm Q := s_go cC_keep_65 cC_keep_66 rfl rfl
theorem rC_keep_66 {a0 s0 s1 : Nat} {a3 : Int} {u1 u2 : zV} (hk : zKd sh s0 = 8) : zS 90 66 [zR a0, u1, u2, zI a3] [zR s0, zR s1] sh pp mm Q ↔ zS 90 69 [zR a0, zU, zU, zI a3] [zI (mm s0 3), zR s1] sh pp mm Q := s_go cC_keep_66 cC_keep_69 (if_pos hk) rfl
theorem rC_keep_69 {a0 s1 : Nat} {a3 s0 : Int} {u1 u2 : zV} : zS 90 69 [zR a0, u1, u2, zI a3] [zI s0, zR s1] sh pp mm Q ↔ zS 90 70 [zR a0, zU, zU, zU] [zI a3, zI s0, zR s1] sh pp mm Q := s_go cC_keep_69 cC_keep_70 rfl rfl
theorem rC_keep_70 {a0 s2 : Nat} {s0 s1 : Int} {u1 u2 u3 : zV} (hk : zKd sh s2 = 20) (h0 : 0 ≤ s1) (h1 : s1 < zLn sh s2) : zS 90 70 [zR a0, u1, u2, u3] [zI s0, zI s1, zR s2] sh pp mm Q ↔ zS 90 71 [zR a0, zU, zU, zU] [] sh pp (zupd mm s2 s1 s0) Q := s_go cC_keep_70 cC_keep_71 (if_pos ⟨hk, h0, h1, fun h => absurd h (by decide)⟩) rfl
theorem rC_keep_71 {a0 : Nat} {u1 u2 u3 : zV} : zS 90 71 [zR a0, u1, u2, u3] [] sh pp mm Q ↔ zS 90 72 [zU, zU, zU, zU] [zR a0] sh pp mm Q := s_go cC_keep_71 cC_keep_72 rfl rfl
theorem rC_keep_72 {s0 : Nat} {u0 u1 u2 u3 : zV} : zS 90 72 [u0, u1, u2, u3] [zR s0] sh pp mm Q ↔ zS 90 73 [zU, zU, zU, zU] [zR s0, zR s0] sh pp mm Q := s_go cC_keep_72 cC_keep_73 rfl rfl
theorem rC_keep_73 {s0 s1 : Nat} {u0 u1 u2 u3 : zV} (hk : zKd sh s0 = 8) : zS 90 73 [u0, u1, u2, u3] [zR s0, zR s1] sh pp mm Q ↔ zS 90 76 [zU, zU, zU, zU] [zI (mm s0 3), zR s1] sh pp mm Q := s_go cC_keep_73 cC_keep_76 (if_pos hk) rfl
theorem rC_keep_76 {s1 : Nat} {s0 : Int} {u0 u1 u2 u3 : zV} : zS 90 76 [u0, u1, u2, u3] [zI s0, zR s1] sh pp mm Q ↔ zS 90 77 [zU, zU, zU, zU] [zI 1, zI s0, zR s1] sh pp mm Q := s_go cC_keep_76 cC_keep_77 rfl rfl
theorem rC_keep_77 {s2 : Nat} {s0 s1 : Int} {u0 u1 u2 u3 : zV} : zS 90 77 [u0, u1, u2, u3] [zI s0, zI s1, zR s2] sh pp mm Q ↔ zS 90 78 [zU, zU, zU, zU] [zI (zw32 (s1 + s0)), zR s2] sh pp mm Q := s_go cC_keep_77 cC_keep_78 rfl rfl
theorem rC_keep_78 {s1 : Nat} {s0 : Int} {u0 u1 u2 u3 : zV} (hk : zKd sh s1 = 8) : zS 90 78 [u0, u1, u2, u3] [zI s0, zR s1] sh pp mm Q ↔ zS 90 81 [zU, zU, zU, zU] [] sh pp (zupd mm s1 3 s0) Q := s_go cC_keep_78 cC_keep_81 (if_pos ⟨hk, Or.inl rfl⟩) rfl
theorem rC_keep_81 {u0 u1 u2 u3 : zV} : zS 90 81 [u0, u1, u2, u3] [] sh pp mm Q ↔ Q zU sh pp mm := s_ret cC_keep_81 rfl
end
