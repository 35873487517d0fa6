/-! rules of the small machine at each place of the code, by program: F_init, F_become, F_weigh, F_reduce, F_findCommonOdd, F_tell, F_fold, G_init, G_begin, G_isEmpty, G_compare, G_gather, G_isMeant, Q_init, Q_leastOff, Q_row, Q_goOn, Q_stroke, Q_strokeOff, S_init, S_take, S_howMany, S_fold -/
section
variable {sh : zSh} {pp : zPp} {mm : zMm} {Q : zV → zSh → zPp → zMm → Prop}
theorem cAF_init : ∀ q ∈ zT30, zCode 30 q.1 = some q.2 := zAll (mid := 30) rfl (by decide +kernel)
theorem cAF_init_0 : ∀ q ∈ zT30_0, zCode 30 q.1 = some q.2 := fun q h => cAF_init q (List.mem_append_left _ h)
theorem cAF_init_1 : ∀ q ∈ zT30_1, zCode 30 q.1 = some q.2 := fun q h => cAF_init q (List.mem_append_right _ h)
theorem cF_init_0 : zCode 30 0 = some (.aload_n 0, 1, 0, 0, 0, 0, 1) := cAF_init_0 _ (List.mem_of_getElem? (i := 0) rfl)
theorem cF_init_1 : zCode 30 1 = some (.invokespecial 3, 4, 0, 78, 0, 326, 1) := cAF_init_0 _ (List.mem_of_getElem? (i := 1) rfl)
theorem cF_init_4 : zCode 30 4 = some (.aload_n 0, 5, 0, 0, 0, 0, 1) := cAF_init_0 _ (List.mem_of_getElem? (i := 2) rfl)
theorem cF_init_5 : zCode 30 5 = some (.new 9, 8, 0, 2, 327, 0, 1) := cAF_init_0 _ (List.mem_of_getElem? (i := 3) rfl)
theorem cF_init_8 : zCode 30 8 = some (.dup, 9, 0, 0, 0, 0, 1) := cAF_init_0 _ (List.mem_of_getElem? (i := 4) rfl)
theorem cF_init_9 : zCode 30 9 = some (.invokespecial 11, 12, 0, 0, 1, 0, 1) := cAF_init_0 _ (List.mem_of_getElem? (i := 5) rfl)
theorem cF_init_12 : zCode 30 12 = some (.putfield 12, 15, 2, 0, 2, 349, 1) := cAF_init_0 _ (List.mem_of_getElem? (i := 6) rfl)
theorem cF_init_15 : zCode 30 15 = some (.aload_n 0, 16, 0, 0, 0, 0, 1) := cAF_init_0 _ (List.mem_of_getElem? (i := 7) rfl)
theorem cF_init_16 : zCode 30 16 = some (.new 9, 19, 0, 2, 327, 0, 1) := cAF_init_0 _ (List.mem_of_getElem? (i := 8) rfl)
theorem cF_init_19 : zCode 30 19 = some (.dup, 20, 0, 0, 0, 0, 1) := cAF_init_0 _ (List.mem_of_getElem? (i := 9) rfl)
theorem cF_init_20 : zCode 30 20 = some (.invokespecial 11, 23, 0, 0, 1, 0, 1) := cAF_init_0 _ (List.mem_of_getElem? (i := 10) rfl)
theorem cF_init_23 : zCode 30 23 = some (.putfield 18, 26, 2, 1, 2, 351, 1) := cAF_init_0 _ (List.mem_of_getElem? (i := 11) rfl)
theorem cF_init_26 : zCode 30 26 = some (.aload_n 0, 27, 0, 0, 0, 0, 1) := cAF_init_0 _ (List.mem_of_getElem? (i := 12) rfl)
theorem cF_init_27 : zCode 30 27 = some (.new 9, 30, 0, 2, 327, 0, 1) := cAF_init_0 _ (List.mem_of_getElem? (i := 13) rfl)
theorem cF_init_30 : zCode 30 30 = some (.dup, 31, 0, 0, 0, 0, 1) := cAF_init_0 _ (List.mem_of_getElem? (i := 14) rfl)
theorem cF_init_31 : zCode 30 31 = some (.invokespecial 11, 34, 0, 0, 1, 0, 1) := cAF_init_0 _ (List.mem_of_getElem? (i := 15) rfl)
theorem cF_init_34 : zCode 30 34 = some (.putfield 21, 37, 2, 2, 2, 353, 1) := cAF_init_1 _ (List.mem_of_getElem? (i := 0) rfl)
theorem cF_init_37 : zCode 30 37 = some (.aload_n 0, 38, 0, 0, 0, 0, 1) := cAF_init_1 _ (List.mem_of_getElem? (i := 1) rfl)
theorem cF_init_38 : zCode 30 38 = some (.new 9, 41, 0, 2, 327, 0, 1) := cAF_init_1 _ (List.mem_of_getElem? (i := 2) rfl)
theorem cF_init_41 : zCode 30 41 = some (.dup, 42, 0, 0, 0, 0, 1) := cAF_init_1 _ (List.mem_of_getElem? (i := 3) rfl)
theorem cF_init_42 : zCode 30 42 = some (.invokespecial 11, 45, 0, 0, 1, 0, 1) := cAF_init_1 _ (List.mem_of_getElem? (i := 4) rfl)
theorem cF_init_45 : zCode 30 45 = some (.putfield 24, 48, 2, 3, 2, 354, 1) := cAF_init_1 _ (List.mem_of_getElem? (i := 5) rfl)
theorem cF_init_48 : zCode 30 48 = some (.aload_n 0, 49, 0, 0, 0, 0, 1) := cAF_init_1 _ (List.mem_of_getElem? (i := 6) rfl)
theorem cF_init_49 : zCode 30 49 = some (.getfield 18, 52, 2, 1, 2, 351, 0) := cAF_init_1 _ (List.mem_of_getElem? (i := 7) rfl)
theorem cF_init_52 : zCode 30 52 = some (.iconst 1, 53, 0, 0, 0, 0, 0) := cAF_init_1 _ (List.mem_of_getElem? (i := 8) rfl)
theorem cF_init_53 : zCode 30 53 = some (.invokevirtual 27, 56, 1, 1, 2, 0, 0) := cAF_init_1 _ (List.mem_of_getElem? (i := 9) rfl)
theorem cF_init_56 : zCode 30 56 = some (.return_, 57, 0, 0, 0, 0, 0) := cAF_init_1 _ (List.mem_of_getElem? (i := 10) rfl)
theorem rF_init_0 {a0 : Nat} : zS 30 0 [zR a0] [] sh pp mm Q ↔ zS 30 1 [zR a0] [zR a0] sh pp mm Q := s_go cF_init_0 cF_init_1 rfl rfl
theorem rF_init_1 {a0 s0 : Nat} (hr : s0 ≠ 0) (hl : s0 < sh.length) : zS 30 1 [zR a0] [zR s0] sh pp mm Q ↔ zS 30 4 [zR a0] [] sh pp mm Q := s_go cF_init_1 cF_init_4 (if_pos ⟨hr, hl, by decide⟩) rfl
theorem rF_init_4 {a0 : Nat} : zS 30 4 [zR a0] [] sh pp mm Q ↔ zS 30 5 [zR a0] [zR a0] sh pp mm Q := s_go cF_init_4 cF_init_5 rfl rfl
theorem rF_init_5 {a0 s0 : Nat} : zS 30 5 [zR a0] [zR s0] sh pp mm Q ↔ zS 30 8 [zR a0] [zR sh.length, zR s0] (sh ++ [(0, 2)]) (zclp pp sh.length) (zclr mm sh.length) Q := s_go cF_init_5 cF_init_8 rfl rfl
theorem rF_init_8 {a0 s0 s1 : Nat} : zS 30 8 [zR a0] [zR s0, zR s1] sh pp mm Q ↔ zS 30 9 [zR a0] [zR s0, zR s0, zR s1] sh pp mm Q := s_go cF_init_8 cF_init_9 rfl rfl
theorem rF_init_9 {a0 s0 s1 s2 : Nat} (hk : zKd sh s0 = 0) : zS 30 9 [zR a0] [zR s0, zR s1, zR s2] sh pp mm Q ↔ zS 0 0 [zR s0] [] sh pp mm (fun v sh pp mm => zS 30 12 [zR a0] (zPush v [zR s1, zR s2]) sh pp mm Q) := s_call cF_init_9 cF_init_12 ((if_pos hk).trans rfl) rfl
theorem rF_init_12 {a0 s0 s1 : Nat} (hk : zKd sh s1 = 2) : zS 30 12 [zR a0] [zR s0, zR s1] sh pp mm Q ↔ zS 30 15 [zR a0] [] sh (zupp pp s1 0 s0) mm Q := s_go cF_init_12 cF_init_15 (if_pos ⟨hk, rfl⟩) rfl
theorem rF_init_15 {a0 : Nat} : zS 30 15 [zR a0] [] sh pp mm Q ↔ zS 30 16 [zR a0] [zR a0] sh pp mm Q := s_go cF_init_15 cF_init_16 rfl rfl
theorem rF_init_16 {a0 s0 : Nat} : zS 30 16 [zR a0] [zR s0] sh pp mm Q ↔ zS 30 19 [zR a0] [zR sh.length, zR s0] (sh ++ [(0, 2)]) (zclp pp sh.length) (zclr mm sh.length) Q := s_go cF_init_16 cF_init_19 rfl rfl
theorem rF_init_19 {a0 s0 s1 : Nat} : zS 30 19 [zR a0] [zR s0, zR s1] sh pp mm Q ↔ zS 30 20 [zR a0] [zR s0, zR s0, zR s1] sh pp mm Q := s_go cF_init_19 cF_init_20 rfl rfl
theorem rF_init_20 {a0 s0 s1 s2 : Nat} (hk : zKd sh s0 = 0) : zS 30 20 [zR a0] [zR s0, zR s1, zR s2] sh pp mm Q ↔ zS 0 0 [zR s0] [] sh pp mm (fun v sh pp mm => zS 30 23 [zR a0] (zPush v [zR s1, zR s2]) sh pp mm Q) := s_call cF_init_20 cF_init_23 ((if_pos hk).trans rfl) rfl
theorem rF_init_23 {a0 s0 s1 : Nat} (hk : zKd sh s1 = 2) : zS 30 23 [zR a0] [zR s0, zR s1] sh pp mm Q ↔ zS 30 26 [zR a0] [] sh (zupp pp s1 1 s0) mm Q := s_go cF_init_23 cF_init_26 (if_pos ⟨hk, rfl⟩) rfl
theorem rF_init_26 {a0 : Nat} : zS 30 26 [zR a0] [] sh pp mm Q ↔ zS 30 27 [zR a0] [zR a0] sh pp mm Q := s_go cF_init_26 cF_init_27 rfl rfl
theorem rF_init_27 {a0 s0 : Nat} : zS 30 27 [zR a0] [zR s0] sh pp mm Q ↔ zS 30 30 [zR a0] [zR sh.length, zR s0] (sh ++ [(0, 2)]) (zclp pp sh.length) (zclr mm sh.length) Q := s_go cF_init_27 cF_init_30 rfl rfl
theorem rF_init_30 {a0 s0 s1 : Nat} : zS 30 30 [zR a0] [zR s0, zR s1] sh pp mm Q ↔ zS 30 31 [zR a0] [zR s0, zR s0, zR s1] sh pp mm Q := s_go cF_init_30 cF_init_31 rfl rfl
theorem rF_init_31 {a0 s0 s1 s2 : Nat} (hk : zKd sh s0 = 0) : zS 30 31 [zR a0] [zR s0, zR s1, zR s2] sh pp mm Q ↔ zS 0 0 [zR s0] [] sh pp mm (fun v sh pp mm => zS 30 34 [zR a0] (zPush v [zR s1, zR s2]) sh pp mm Q) := s_call cF_init_31 cF_init_34 ((if_pos hk).trans rfl) rfl
theorem rF_init_34 {a0 s0 s1 : Nat} (hk : zKd sh s1 = 2) : zS 30 34 [zR a0] [zR s0, zR s1] sh pp mm Q ↔ zS 30 37 [zR a0] [] sh (zupp pp s1 2 s0) mm Q := s_go cF_init_34 cF_init_37 (if_pos ⟨hk, rfl⟩) rfl
theorem rF_init_37 {a0 : Nat} : zS 30 37 [zR a0] [] sh pp mm Q ↔ zS 30 38 [zR a0] [zR a0] sh pp mm Q := s_go cF_init_37 cF_init_38 rfl rfl
theorem rF_init_38 {a0 s0 : Nat} : zS 30 38 [zR a0] [zR s0] sh pp mm Q ↔ zS 30 41 [zR a0] [zR sh.length, zR s0] (sh ++ [(0, 2)]) (zclp pp sh.length) (zclr mm sh.length) Q := s_go cF_init_38 cF_init_41 rfl rfl
theorem rF_init_41 {a0 s0 s1 : Nat} : zS 30 41 [zR a0] [zR s0, zR s1] sh pp mm Q ↔ zS 30 42 [zR a0] [zR s0, zR s0, zR s1] sh pp mm Q := s_go cF_init_41 cF_init_42 rfl rfl
theorem rF_init_42 {a0 s0 s1 s2 : Nat} (hk : zKd sh s0 = 0) : zS 30 42 [zR a0] [zR s0, zR s1, zR s2] sh pp mm Q ↔ zS 0 0 [zR s0] [] sh pp mm (fun v sh pp mm => zS 30 45 [zR a0] (zPush v [zR s1, zR s2]) sh pp mm Q) := s_call cF_init_42 cF_init_45 ((if_pos hk).trans rfl) rfl
theorem rF_init_45 {a0 s0 s1 : Nat} (hk : zKd sh s1 = 2) : zS 30 45 [zR a0] [zR s0, zR s1] sh pp mm Q ↔ zS 30 48 [zR a0] [] sh (zupp pp s1 3 s0) mm Q := s_go cF_init_45 cF_init_48 (if_pos ⟨hk, rfl⟩) rfl
theorem rF_init_48 {a0 : Nat} : zS 30 48 [zR a0] [] sh pp mm Q ↔ zS 30 49 [zU] [zR a0] sh pp mm Q := s_go cF_init_48 cF_init_49 rfl rfl
theorem rF_init_49 {s0 : Nat} {u0 : zV} (hk : zKd sh s0 = 2) : zS 30 49 [u0] [zR s0] sh pp mm Q ↔ zS 30 52 [zU] [zR (pp s0 1)] sh pp mm Q := s_go cF_init_49 cF_init_52 (if_pos hk) rfl
theorem rF_init_52 {s0 : Nat} {u0 : zV} : zS 30 52 [u0] [zR s0] sh pp mm Q ↔ zS 30 53 [zU] [zI 1, zR s0] sh pp mm Q := s_go cF_init_52 cF_init_53 rfl rfl
theorem rF_init_53 {s1 : Nat} {s0 : Int} {u0 : zV} (hk : zKd sh s1 = 0) : zS 30 53 [u0] [zI s0, zR s1] sh pp mm Q ↔ zS 1 0 [zR s1, zI s0] [] sh pp mm (fun v sh pp mm => zS 30 56 [zU] (zPush v []) sh pp mm Q) := s_call cF_init_53 cF_init_56 ((if_pos hk).trans rfl) rfl
theorem rF_init_56 {u0 : zV} : zS 30 56 [u0] [] sh pp mm Q ↔ Q zU sh pp mm := s_ret cF_init_56 rfl
theorem cAF_become : ∀ q ∈ zT31, zCode 31 q.1 = some q.2 := zAll (mid := 31) rfl (by decide +kernel)
theorem cAF_become_0 : ∀ q ∈ zT31_0, zCode 31 q.1 = some q.2 := fun q h => cAF_become q (List.mem_append_left _ h)
theorem cAF_become_1 : ∀ q ∈ zT31_1, zCode 31 q.1 = some q.2 := fun q h => cAF_become q (List.mem_append_right _ h)
theorem cF_become_0 : zCode 31 0 = some (.aload_n 0, 1, 0, 0, 0, 0, 7) := cAF_become_0 _ (List.mem_of_getElem? (i := 0) rfl)
theorem cF_become_1 : zCode 31 1 = some (.aload_n 0, 2, 0, 0, 0, 0, 7) := cAF_become_0 _ (List.mem_of_getElem? (i := 1) rfl)
theorem cF_become_2 : zCode 31 2 = some (.getfield 12, 5, 2, 0, 2, 349, 7) := cAF_become_0 _ (List.mem_of_getElem? (i := 2) rfl)
theorem cF_become_5 : zCode 31 5 = some (.aload_n 1, 6, 0, 0, 0, 0, 7) := cAF_become_0 _ (List.mem_of_getElem? (i := 3) rfl)
theorem cF_become_6 : zCode 31 6 = some (.getfield 31, 9, 3, 0, 2, 299, 7) := cAF_become_0 _ (List.mem_of_getElem? (i := 4) rfl)
theorem cF_become_9 : zCode 31 9 = some (.aload_n 1, 10, 0, 0, 0, 0, 7) := cAF_become_0 _ (List.mem_of_getElem? (i := 5) rfl)
theorem cF_become_10 : zCode 31 10 = some (.iload_n 2, 11, 0, 0, 0, 0, 7) := cAF_become_0 _ (List.mem_of_getElem? (i := 6) rfl)
theorem cF_become_11 : zCode 31 11 = some (.invokevirtual 37, 14, 32, 4, 7, 2, 7) := cAF_become_0 _ (List.mem_of_getElem? (i := 7) rfl)
theorem cF_become_14 : zCode 31 14 = some (.aload_n 0, 15, 0, 0, 0, 0, 7) := cAF_become_0 _ (List.mem_of_getElem? (i := 8) rfl)
theorem cF_become_15 : zCode 31 15 = some (.aload_n 0, 16, 0, 0, 0, 0, 7) := cAF_become_0 _ (List.mem_of_getElem? (i := 9) rfl)
theorem cF_become_16 : zCode 31 16 = some (.getfield 18, 19, 2, 1, 2, 351, 6) := cAF_become_0 _ (List.mem_of_getElem? (i := 10) rfl)
theorem cF_become_19 : zCode 31 19 = some (.aload_n 1, 20, 0, 0, 0, 0, 6) := cAF_become_0 _ (List.mem_of_getElem? (i := 11) rfl)
theorem cF_become_20 : zCode 31 20 = some (.getfield 41, 23, 3, 1, 2, 301, 6) := cAF_become_0 _ (List.mem_of_getElem? (i := 12) rfl)
theorem cF_become_23 : zCode 31 23 = some (.aload_n 1, 24, 0, 0, 0, 0, 6) := cAF_become_0 _ (List.mem_of_getElem? (i := 13) rfl)
theorem cF_become_24 : zCode 31 24 = some (.iload_n 2, 25, 0, 0, 0, 0, 4) := cAF_become_0 _ (List.mem_of_getElem? (i := 14) rfl)
theorem cF_become_25 : zCode 31 25 = some (.invokevirtual 37, 28, 32, 4, 7, 2, 0) := cAF_become_0 _ (List.mem_of_getElem? (i := 15) rfl)
theorem cF_become_28 : zCode 31 28 = some (.return_, 29, 0, 0, 0, 0, 0) := cAF_become_1 _ (List.mem_of_getElem? (i := 0) rfl)
theorem rF_become_0 {a0 a1 : Nat} {a2 : Int} : zS 31 0 [zR a0, zR a1, zI a2] [] sh pp mm Q ↔ zS 31 1 [zR a0, zR a1, zI a2] [zR a0] sh pp mm Q := s_go cF_become_0 cF_become_1 rfl rfl
theorem rF_become_1 {a0 a1 s0 : Nat} {a2 : Int} : zS 31 1 [zR a0, zR a1, zI a2] [zR s0] sh pp mm Q ↔ zS 31 2 [zR a0, zR a1, zI a2] [zR a0, zR s0] sh pp mm Q := s_go cF_become_1 cF_become_2 rfl rfl
theorem rF_become_2 {a0 a1 s0 s1 : Nat} {a2 : Int} (hk : zKd sh s0 = 2) : zS 31 2 [zR a0, zR a1, zI a2] [zR s0, zR s1] sh pp mm Q ↔ zS 31 5 [zR a0, zR a1, zI a2] [zR (pp s0 0), zR s1] sh pp mm Q := s_go cF_become_2 cF_become_5 (if_pos hk) rfl
theorem rF_become_5 {a0 a1 s0 s1 : Nat} {a2 : Int} : zS 31 5 [zR a0, zR a1, zI a2] [zR s0, zR s1] sh pp mm Q ↔ zS 31 6 [zR a0, zR a1, zI a2] [zR a1, zR s0, zR s1] sh pp mm Q := s_go cF_become_5 cF_become_6 rfl rfl
theorem rF_become_6 {a0 a1 s0 s1 s2 : Nat} {a2 : Int} (hk : zKd sh s0 = 3) : zS 31 6 [zR a0, zR a1, zI a2] [zR s0, zR s1, zR s2] sh pp mm Q ↔ zS 31 9 [zR a0, zR a1, zI a2] [zR (pp s0 0), zR s1, zR s2] sh pp mm Q := s_go cF_become_6 cF_become_9 (if_pos hk) rfl
theorem rF_become_9 {a0 a1 s0 s1 s2 : Nat} {a2 : Int} : zS 31 9 [zR a0, zR a1, zI a2] [zR s0, zR s1, zR s2] sh pp mm Q ↔ zS 31 10 [zR a0, zR a1, zI a2] [zR a1, zR s0, zR s1, zR s2] sh pp mm Q := s_go cF_become_9 cF_become_10 rfl rfl
theorem rF_become_10 {a0 a1 s0 s1 s2 s3 : Nat} {a2 : Int} : zS 31 10 [zR a0, zR a1, zI a2] [zR s0, zR s1, zR s2, zR s3] sh pp mm Q ↔ zS 31 11 [zR a0, zR a1, zI a2] [zI a2, zR s0, zR s1, zR s2, zR s3] sh pp mm Q := s_go cF_become_10 cF_become_11 rfl rfl
theorem rF_become_11 {a0 a1 s1 s2 s3 s4 : Nat} {a2 s0 : Int} (hk : zKd sh s4 = 2) : zS 31 11 [zR a0, zR a1, zI a2] [zI s0, zR s1, zR s2, zR s3, zR s4] sh pp mm Q ↔ zS 32 0 [zR s4, zR s3, zR s2, zR s1, zI s0, zU, zU] [] sh pp mm (fun v sh pp mm => zS 31 14 [zR a0, zR a1, zI a2] (zPush v []) sh pp mm Q) := s_call cF_become_11 cF_become_14 ((if_pos hk).trans rfl) rfl
theorem rF_become_14 {a0 a1 : Nat} {a2 : Int} : zS 31 14 [zR a0, zR a1, zI a2] [] sh pp mm Q ↔ zS 31 15 [zR a0, zR a1, zI a2] [zR a0] sh pp mm Q := s_go cF_become_14 cF_become_15 rfl rfl
theorem rF_become_15 {a0 a1 s0 : Nat} {a2 : Int} : zS 31 15 [zR a0, zR a1, zI a2] [zR s0] sh pp mm Q ↔ zS 31 16 [zU, zR a1, zI a2] [zR a0, zR s0] sh pp mm Q := s_go cF_become_15 cF_become_16 rfl rfl
theorem rF_become_16 {a1 s0 s1 : Nat} {a2 : Int} {u0 : zV} (hk : zKd sh s0 = 2) : zS 31 16 [u0, zR a1, zI a2] [zR s0, zR s1] sh pp mm Q ↔ zS 31 19 [zU, zR a1, zI a2] [zR (pp s0 1), zR s1] sh pp mm Q := s_go cF_become_16 cF_become_19 (if_pos hk) rfl
theorem rF_become_19 {a1 s0 s1 : Nat} {a2 : Int} {u0 : zV} : zS 31 19 [u0, zR a1, zI a2] [zR s0, zR s1] sh pp mm Q ↔ zS 31 20 [zU, zR a1, zI a2] [zR a1, zR s0, zR s1] sh pp mm Q := s_go cF_become_19 cF_become_20 rfl rfl
theorem rF_become_20 {a1 s0 s1 s2 : Nat} {a2 : Int} {u0 : zV} (hk : zKd sh s0 = 3) : zS 31 20 [u0, zR a1, zI a2] [zR s0, zR s1, zR s2] sh pp mm Q ↔ zS 31 23 [zU, zR a1, zI a2] [zR (pp s0 1), zR s1, zR s2] sh pp mm Q := s_go cF_become_20 cF_become_23 (if_pos hk) rfl
theorem rF_become_23 {a1 s0 s1 s2 : Nat} {a2 : Int} {u0 : zV} : zS 31 23 [u0, zR a1, zI a2] [zR s0, zR s1, zR s2] sh pp mm Q ↔ zS 31 24 [zU, zU, zI a2] [zR a1, zR s0, zR s1, zR s2] sh pp mm Q := s_go cF_become_23 cF_become_24 rfl rfl
theorem rF_become_24 {s0 s1 s2 s3 : Nat} {a2 : Int} {u0 u1 : zV} : zS 31 24 [u0, u1, zI a2] [zR s0, zR s1, zR s2, zR s3] sh pp mm Q ↔ zS 31 25 [zU, zU, zU] [zI a2, zR s0, zR s1, zR s2, zR s3] sh pp mm Q := s_go cF_become_24 cF_become_25 rfl rfl
theorem rF_become_25 {s1 s2 s3 s4 : Nat} {s0 : Int} {u0 u1 u2 : zV} (hk : zKd sh s4 = 2) : zS 31 25 [u0, u1, u2] [zI s0, zR s1, zR s2, zR s3, zR s4] sh pp mm Q ↔ zS 32 0 [zR s4, zR s3, zR s2, zR s1, zI s0, zU, zU] [] sh pp mm (fun v sh pp mm => zS 31 28 [zU, zU, zU] (zPush v []) sh pp mm Q) := s_call cF_become_25 cF_become_28 ((if_pos hk).trans rfl) rfl
theorem rF_become_28 {u0 u1 u2 : zV} : zS 31 28 [u0, u1, u2] [] sh pp mm Q ↔ Q zU sh pp mm := s_ret cF_become_28 rfl
theorem cAF_weigh : ∀ q ∈ zT32, zCode 32 q.1 = some q.2 := zAll (mid := 32) rfl (by decide +kernel)
theorem cAF_weigh_0 : ∀ q ∈ zT32_0, zCode 32 q.1 = some q.2 := fun q h => cAF_weigh q (List.mem_append_left _ h)
theorem cAF_weigh_1 : ∀ q ∈ zT32_1, zCode 32 q.1 = some q.2 := fun q h => cAF_weigh q (List.mem_append_right _ (List.mem_append_left _ h))
theorem cAF_weigh_2 : ∀ q ∈ zT32_2, zCode 32 q.1 = some q.2 := fun q h => cAF_weigh q (List.mem_append_right _ (List.mem_append_right _ h))
theorem cF_weigh_0 : zCode 32 0 = some (.aload_n 0, 1, 0, 0, 0, 0, 31) := cAF_weigh_0 _ (List.mem_of_getElem? (i := 0) rfl)
theorem cF_weigh_1 : zCode 32 1 = some (.getfield 21, 4, 2, 2, 2, 353, 30) := cAF_weigh_0 _ (List.mem_of_getElem? (i := 1) rfl)
theorem cF_weigh_4 : zCode 32 4 = some (.astore 5, 6, 0, 0, 0, 0, 30) := cAF_weigh_0 _ (List.mem_of_getElem? (i := 2) rfl)
theorem cF_weigh_6 : zCode 32 6 = some (.aload 5, 8, 0, 0, 0, 0, 62) := cAF_weigh_0 _ (List.mem_of_getElem? (i := 3) rfl)
theorem cF_weigh_8 : zCode 32 8 = some (.iconst 1, 9, 0, 0, 0, 0, 62) := cAF_weigh_0 _ (List.mem_of_getElem? (i := 4) rfl)
theorem cF_weigh_9 : zCode 32 9 = some (.invokevirtual 27, 12, 1, 1, 2, 0, 62) := cAF_weigh_0 _ (List.mem_of_getElem? (i := 5) rfl)
theorem cF_weigh_12 : zCode 32 12 = some (.aload_n 1, 13, 0, 0, 0, 0, 62) := cAF_weigh_0 _ (List.mem_of_getElem? (i := 6) rfl)
theorem cF_weigh_13 : zCode 32 13 = some (.iconst 0, 14, 0, 0, 0, 0, 62) := cAF_weigh_0 _ (List.mem_of_getElem? (i := 7) rfl)
theorem cF_weigh_14 : zCode 32 14 = some (.invokevirtual 27, 17, 1, 1, 2, 0, 62) := cAF_weigh_0 _ (List.mem_of_getElem? (i := 8) rfl)
theorem cF_weigh_17 : zCode 32 17 = some (.aload_n 3, 18, 0, 0, 0, 0, 62) := cAF_weigh_0 _ (List.mem_of_getElem? (i := 9) rfl)
theorem cF_weigh_18 : zCode 32 18 = some (.getfield 44, 21, 3, 2, 0, 303, 62) := cAF_weigh_0 _ (List.mem_of_getElem? (i := 10) rfl)
theorem cF_weigh_21 : zCode 32 21 = some (.istore 6, 23, 0, 0, 0, 0, 62) := cAF_weigh_0 _ (List.mem_of_getElem? (i := 11) rfl)
theorem cF_weigh_23 : zCode 32 23 = some (.iload 6, 25, 0, 0, 0, 0, 126) := cAF_weigh_0 _ (List.mem_of_getElem? (i := 12) rfl)
theorem cF_weigh_25 : zCode 32 25 = some (.aload_n 3, 26, 0, 0, 0, 0, 126) := cAF_weigh_0 _ (List.mem_of_getElem? (i := 13) rfl)
theorem cF_weigh_26 : zCode 32 26 = some (.getfield 48, 29, 3, 3, 0, 305, 126) := cAF_weigh_0 _ (List.mem_of_getElem? (i := 14) rfl)
theorem cF_weigh_29 : zCode 32 29 = some (.if_icmp .gt 35, 32, 64, 0, 0, 0, 126) := cAF_weigh_0 _ (List.mem_of_getElem? (i := 15) rfl)
theorem cF_weigh_32 : zCode 32 32 = some (.aload_n 1, 33, 0, 0, 0, 0, 126) := cAF_weigh_1 _ (List.mem_of_getElem? (i := 0) rfl)
theorem cF_weigh_33 : zCode 32 33 = some (.bipush 10, 35, 0, 0, 0, 0, 126) := cAF_weigh_1 _ (List.mem_of_getElem? (i := 1) rfl)
theorem cF_weigh_35 : zCode 32 35 = some (.iload 4, 37, 0, 0, 0, 0, 126) := cAF_weigh_1 _ (List.mem_of_getElem? (i := 2) rfl)
theorem cF_weigh_37 : zCode 32 37 = some (.isub, 38, 0, 0, 0, 0, 126) := cAF_weigh_1 _ (List.mem_of_getElem? (i := 3) rfl)
theorem cF_weigh_38 : zCode 32 38 = some (.invokevirtual 51, 41, 6, 1, 5, 0, 126) := cAF_weigh_1 _ (List.mem_of_getElem? (i := 4) rfl)
theorem cF_weigh_41 : zCode 32 41 = some (.aload_n 1, 42, 0, 0, 0, 0, 126) := cAF_weigh_1 _ (List.mem_of_getElem? (i := 5) rfl)
theorem cF_weigh_42 : zCode 32 42 = some (.aload 5, 44, 0, 0, 0, 0, 126) := cAF_weigh_1 _ (List.mem_of_getElem? (i := 6) rfl)
theorem cF_weigh_44 : zCode 32 44 = some (.aload_n 2, 45, 0, 0, 0, 0, 126) := cAF_weigh_1 _ (List.mem_of_getElem? (i := 7) rfl)
theorem cF_weigh_45 : zCode 32 45 = some (.iload 6, 47, 0, 0, 0, 0, 126) := cAF_weigh_1 _ (List.mem_of_getElem? (i := 8) rfl)
theorem cF_weigh_47 : zCode 32 47 = some (.iaload, 48, 0, 0, 0, 0, 126) := cAF_weigh_1 _ (List.mem_of_getElem? (i := 9) rfl)
theorem cF_weigh_48 : zCode 32 48 = some (.invokevirtual 54, 51, 7, 2, 6, 0, 126) := cAF_weigh_1 _ (List.mem_of_getElem? (i := 10) rfl)
theorem cF_weigh_51 : zCode 32 51 = some (.aload 5, 53, 0, 0, 0, 0, 126) := cAF_weigh_1 _ (List.mem_of_getElem? (i := 11) rfl)
theorem cF_weigh_53 : zCode 32 53 = some (.iload 4, 55, 0, 0, 0, 0, 126) := cAF_weigh_1 _ (List.mem_of_getElem? (i := 12) rfl)
theorem cF_weigh_55 : zCode 32 55 = some (.invokevirtual 51, 58, 6, 1, 5, 0, 126) := cAF_weigh_1 _ (List.mem_of_getElem? (i := 13) rfl)
theorem cF_weigh_58 : zCode 32 58 = some (.iinc 6 1, 61, 0, 0, 0, 0, 126) := cAF_weigh_1 _ (List.mem_of_getElem? (i := 14) rfl)
theorem cF_weigh_61 : zCode 32 61 = some (.goto (-38), 64, 23, 0, 0, 0, 126) := cAF_weigh_1 _ (List.mem_of_getElem? (i := 15) rfl)
theorem cF_weigh_64 : zCode 32 64 = some (.return_, 65, 0, 0, 0, 0, 0) := cAF_weigh_2 _ (List.mem_of_getElem? (i := 0) rfl)
theorem rF_weigh_0 {a0 a1 a2 a3 : Nat} {a4 : Int} {u5 u6 : zV} : zS 32 0 [zR a0, zR a1, zR a2, zR a3, zI a4, u5, u6] [] sh pp mm Q ↔ zS 32 1 [zU, zR a1, zR a2, zR a3, zI a4, zU, zU] [zR a0] sh pp mm Q := s_go cF_weigh_0 cF_weigh_1 rfl rfl
theorem rF_weigh_1 {a1 a2 a3 s0 : Nat} {a4 : Int} {u0 u5 u6 : zV} (hk : zKd sh s0 = 2) : zS 32 1 [u0, zR a1, zR a2, zR a3, zI a4, u5, u6] [zR s0] sh pp mm Q ↔ zS 32 4 [zU, zR a1, zR a2, zR a3, zI a4, zU, zU] [zR (pp s0 2)] sh pp mm Q := s_go cF_weigh_1 cF_weigh_4 (if_pos hk) rfl
theorem rF_weigh_4 {a1 a2 a3 s0 : Nat} {a4 : Int} {u0 u5 u6 : zV} : zS 32 4 [u0, zR a1, zR a2, zR a3, zI a4, u5, u6] [zR s0] sh pp mm Q ↔ zS 32 6 [zU, zR a1, zR a2, zR a3, zI a4, zR s0, zU] [] sh pp mm Q := s_go cF_weigh_4 cF_weigh_6 rfl rfl
theorem rF_weigh_6 {a1 a2 a3 a5 : Nat} {a4 : Int} {u0 u6 : zV} : zS 32 6 [u0, zR a1, zR a2, zR a3, zI a4, zR a5, u6] [] sh pp mm Q ↔ zS 32 8 [zU, zR a1, zR a2, zR a3, zI a4, zR a5, zU] [zR a5] sh pp mm Q := s_go cF_weigh_6 cF_weigh_8 rfl rfl
theorem rF_weigh_8 {a1 a2 a3 a5 s0 : Nat} {a4 : Int} {u0 u6 : zV} : zS 32 8 [u0, zR a1, zR a2, zR a3, zI a4, zR a5, u6] [zR s0] sh pp mm Q ↔ zS 32 9 [zU, zR a1, zR a2, zR a3, zI a4, zR a5, zU] [zI 1, zR s0] sh pp mm Q := s_go cF_weigh_8 cF_weigh_9 rfl rfl
theorem rF_weigh_9 {a1 a2 a3 a5 s1 : Nat} {a4 s0 : Int} {u0 u6 : zV} (hk : zKd sh s1 = 0) : zS 32 9 [u0, zR a1, zR a2, zR a3, zI a4, zR a5, u6] [zI s0, zR s1] sh pp mm Q ↔ zS 1 0 [zR s1, zI s0] [] sh pp mm (fun v sh pp mm => zS 32 12 [zU, zR a1, zR a2, zR a3, zI a4, zR a5, zU] (zPush v []) sh pp mm Q) := s_call cF_weigh_9 cF_weigh_12 ((if_pos hk).trans rfl) rfl
theorem rF_weigh_12 {a1 a2 a3 a5 : Nat} {a4 : Int} {u0 u6 : zV} : zS 32 12 [u0, zR a1, zR a2, zR a3, zI a4, zR a5, u6] [] sh pp mm Q ↔ zS 32 13 [zU, zR a1, zR a2, zR a3, zI a4, zR a5, zU] [zR a1] sh pp mm Q := s_go cF_weigh_12 cF_weigh_13 rfl rfl
theorem rF_weigh_13 {a1 a2 a3 a5 s0 : Nat} {a4 : Int} {u0 u6 : zV} : zS 32 13 [u0, zR a1, zR a2, zR a3, zI a4, zR a5, u6] [zR s0] sh pp mm Q ↔ zS 32 14 [zU, zR a1, zR a2, zR a3, zI a4, zR a5, zU] [zI 0, zR s0] sh pp mm Q := s_go cF_weigh_13 cF_weigh_14 rfl rfl
theorem rF_weigh_14 {a1 a2 a3 a5 s1 : Nat} {a4 s0 : Int} {u0 u6 : zV} (hk : zKd sh s1 = 0) : zS 32 14 [u0, zR a1, zR a2, zR a3, zI a4, zR a5, u6] [zI s0, zR s1] sh pp mm Q ↔ zS 1 0 [zR s1, zI s0] [] sh pp mm (fun v sh pp mm => zS 32 17 [zU, zR a1, zR a2, zR a3, zI a4, zR a5, zU] (zPush v []) sh pp mm Q) := s_call cF_weigh_14 cF_weigh_17 ((if_pos hk).trans rfl) rfl
theorem rF_weigh_17 {a1 a2 a3 a5 : Nat} {a4 : Int} {u0 u6 : zV} : zS 32 17 [u0, zR a1, zR a2, zR a3, zI a4, zR a5, u6] [] sh pp mm Q ↔ zS 32 18 [zU, zR a1, zR a2, zR a3, zI a4, zR a5, zU] [zR a3] sh pp mm Q := s_go cF_weigh_17 cF_weigh_18 rfl rfl
theorem rF_weigh_18 {a1 a2 a3 a5 s0 : Nat} {a4 : Int} {u0 u6 : zV} (hk : zKd sh s0 = 3) : zS 32 18 [u0, zR a1, zR a2, zR a3, zI a4, zR a5, u6] [zR s0] sh pp mm Q ↔ zS 32 21 [zU, zR a1, zR a2, zR a3, zI a4, zR a5, zU] [zI (mm s0 2)] sh pp mm Q := s_go cF_weigh_18 cF_weigh_21 (if_pos hk) rfl
theorem rF_weigh_21 {a1 a2 a3 a5 : Nat} {a4 s0 : Int} {u0 u6 : zV} : zS 32 21 [u0, zR a1, zR a2, zR a3, zI a4, zR a5, u6] [zI s0] sh pp mm Q ↔ zS 32 23 [zU, zR a1, zR a2, zR a3, zI a4, zR a5, zI s0] [] sh pp mm Q := s_go cF_weigh_21 cF_weigh_23 rfl rfl
theorem rF_weigh_23 {a1 a2 a3 a5 : Nat} {a4 a6 : Int} {u0 : zV} : zS 32 23 [u0, zR a1, zR a2, zR a3, zI a4, zR a5, zI a6] [] sh pp mm Q ↔ zS 32 25 [zU, zR a1, zR a2, zR a3, zI a4, zR a5, zI a6] [zI a6] sh pp mm Q := s_go cF_weigh_23 cF_weigh_25 rfl rfl
theorem rF_weigh_25 {a1 a2 a3 a5 : Nat} {a4 a6 s0 : Int} {u0 : zV} : zS 32 25 [u0, zR a1, zR a2, zR a3, zI a4, zR a5, zI a6] [zI s0] sh pp mm Q ↔ zS 32 26 [zU, zR a1, zR a2, zR a3, zI a4, zR a5, zI a6] [zR a3, zI s0] sh pp mm Q := s_go cF_weigh_25 cF_weigh_26 rfl rfl
theorem rF_weigh_26 {a1 a2 a3 a5 s0 : Nat} {a4 a6 s1 : Int} {u0 : zV} (hk : zKd sh s0 = 3) : zS 32 26 [u0, zR a1, zR a2, zR a3, zI a4, zR a5, zI a6] [zR s0, zI s1] sh pp mm Q ↔ zS 32 29 [zU, zR a1, zR a2, zR a3, zI a4, zR a5, zI a6] [zI (mm s0 3), zI s1] sh pp mm Q := s_go cF_weigh_26 cF_weigh_29 (if_pos hk) rfl
theorem rF_weigh_29 {a1 a2 a3 a5 : Nat} {a4 a6 s0 s1 : Int} {u0 : zV} : zS 32 29 [u0, zR a1, zR a2, zR a3, zI a4, zR a5, zI a6] [zI s0, zI s1] sh pp mm Q ↔ (s0 < s1 → zS 32 64 [zU, zU, zU, zU, zU, zU, zU] [] sh pp mm Q) ∧ (¬ s0 < s1 → zS 32 32 [zU, zR a1, zR a2, zR a3, zI a4, zR a5, zI a6] [] sh pp mm Q) := s_if cF_weigh_29 cF_weigh_64 cF_weigh_32 rfl rfl rfl
theorem rF_weigh_32 {a1 a2 a3 a5 : Nat} {a4 a6 : Int} {u0 : zV} : zS 32 32 [u0, zR a1, zR a2, zR a3, zI a4, zR a5, zI a6] [] sh pp mm Q ↔ zS 32 33 [zU, zR a1, zR a2, zR a3, zI a4, zR a5, zI a6] [zR a1] sh pp mm Q := s_go cF_weigh_32 cF_weigh_33 rfl rfl
theorem rF_weigh_33 {a1 a2 a3 a5 s0 : Nat} {a4 a6 : Int} {u0 : zV} : zS 32 33 [u0, zR a1, zR a2, zR a3, zI a4, zR a5, zI a6] [zR s0] sh pp mm Q ↔ zS 32 35 [zU, zR a1, zR a2, zR a3, zI a4, zR a5, zI a6] [zI 10, zR s0] sh pp mm Q := s_go cF_weigh_33 cF_weigh_35 rfl rfl
theorem rF_weigh_35 {a1 a2 a3 a5 s1 : Nat} {a4 a6 s0 : Int} {u0 : zV} : zS 32 35 [u0, zR a1, zR a2, zR a3, zI a4, zR a5, zI a6] [zI s0, zR s1] sh pp mm Q ↔ zS 32 37 [zU, zR a1, zR a2, zR a3, zI a4, zR a5, zI a6] [zI a4, zI s0, zR s1] sh pp mm Q := s_go cF_weigh_35 cF_weigh_37 rfl rfl
theorem rF_weigh_37 {a1 a2 a3 a5 s2 : Nat} {a4 a6 s0 s1 : Int} {u0 : zV} : zS 32 37 [u0, zR a1, zR a2, zR a3, zI a4, zR a5, zI a6] [zI s0, zI s1, zR s2] sh pp mm Q ↔ zS 32 38 [zU, zR a1, zR a2, zR a3, zI a4, zR a5, zI a6] [zI (zw32 (s1 - s0)), zR s2] sh pp mm Q := s_go cF_weigh_37 cF_weigh_38 rfl rfl
theorem rF_weigh_38 {a1 a2 a3 a5 s1 : Nat} {a4 a6 s0 : Int} {u0 : zV} (hk : zKd sh s1 = 0) : zS 32 38 [u0, zR a1, zR a2, zR a3, zI a4, zR a5, zI a6] [zI s0, zR s1] sh pp mm Q ↔ zS 6 0 [zR s1, zI s0, zU, zU, zU] [] sh pp mm (fun v sh pp mm => zS 32 41 [zU, zR a1, zR a2, zR a3, zI a4, zR a5, zI a6] (zPush v []) sh pp mm Q) := s_call cF_weigh_38 cF_weigh_41 ((if_pos hk).trans rfl) rfl
theorem rF_weigh_41 {a1 a2 a3 a5 : Nat} {a4 a6 : Int} {u0 : zV} : zS 32 41 [u0, zR a1, zR a2, zR a3, zI a4, zR a5, zI a6] [] sh pp mm Q ↔ zS 32 42 [zU, zR a1, zR a2, zR a3, zI a4, zR a5, zI a6] [zR a1] sh pp mm Q := s_go cF_weigh_41 cF_weigh_42 rfl rfl
theorem rF_weigh_42 {a1 a2 a3 a5 s0 : Nat} {a4 a6 : Int} {u0 : zV} : zS 32 42 [u0, zR a1, zR a2, zR a3, zI a4, zR a5, zI a6] [zR s0] sh pp mm Q ↔ zS 32 44 [zU, zR a1, zR a2, zR a3, zI a4, zR a5, zI a6] [zR a5, zR s0] sh pp mm Q := s_go cF_weigh_42 cF_weigh_44 rfl rfl
theorem rF_weigh_44 {a1 a2 a3 a5 s0 s1 : Nat} {a4 a6 : Int} {u0 : zV} : zS 32 44 [u0, zR a1, zR a2, zR a3, zI a4, zR a5, zI a6] [zR s0, zR s1] sh pp mm Q ↔ zS 32 45 [zU, zR a1, zR a2, zR a3, zI a4, zR a5, zI a6] [zR a2, zR s0, zR s1] sh pp mm Q := s_go cF_weigh_44 cF_weigh_45 rfl rfl
theorem rF_weigh_45 {a1 a2 a3 a5 s0 s1 s2 : Nat} {a4 a6 : Int} {u0 : zV} : zS 32 45 [u0, zR a1, zR a2, zR a3, zI a4, zR a5, zI a6] [zR s0, zR s1, zR s2] sh pp mm Q ↔ zS 32 47 [zU, zR a1, zR a2, zR a3, zI a4, zR a5, zI a6] [zI a6, zR s0, zR s1, zR s2] sh pp mm Q := s_go cF_weigh_45 cF_weigh_47 rfl rfl
theorem rF_weigh_47 {a1 a2 a3 a5 s1 s2 s3 : Nat} {a4 a6 s0 : Int} {u0 : zV} (hk : zKd sh s1 = 20 ∨ zKd sh s1 = 30) (h0 : 0 ≤ s0) (h1 : s0 < zLn sh s1) : zS 32 47 [u0, zR a1, zR a2, zR a3, zI a4, zR a5, zI a6] [zI s0, zR s1, zR s2, zR s3] sh pp mm Q ↔ zS 32 48 [zU, zR a1, zR a2, zR a3, zI a4, zR a5, zI a6] [zI (mm s1 s0), zR s2, zR s3] sh pp mm Q := s_go cF_weigh_47 cF_weigh_48 (if_pos ⟨hk, h0, h1⟩) rfl
theorem rF_weigh_48 {a1 a2 a3 a5 s1 s2 : Nat} {a4 a6 s0 : Int} {u0 : zV} (hk : zKd sh s2 = 0) : zS 32 48 [u0, zR a1, zR a2, zR a3, zI a4, zR a5, zI a6] [zI s0, zR s1, zR s2] sh pp mm Q ↔ zS 7 0 [zR s2, zR s1, zI s0, zU, zU, zU] [] sh pp mm (fun v sh pp mm => zS 32 51 [zU, zR a1, zR a2, zR a3, zI a4, zR a5, zI a6] (zPush v []) sh pp mm Q) := s_call cF_weigh_48 cF_weigh_51 ((if_pos hk).trans rfl) rfl
theorem rF_weigh_51 {a1 a2 a3 a5 : Nat} {a4 a6 : Int} {u0 : zV} : zS 32 51 [u0, zR a1, zR a2, zR a3, zI a4, zR a5, zI a6] [] sh pp mm Q ↔ zS 32 53 [zU, zR a1, zR a2, zR a3, zI a4, zR a5, zI a6] [zR a5] sh pp mm Q := s_go cF_weigh_51 cF_weigh_53 rfl rfl
theorem rF_weigh_53 {a1 a2 a3 a5 s0 : Nat} {a4 a6 : Int} {u0 : zV} : zS 32 53 [u0, zR a1, zR a2, zR a3, zI a4, zR a5, zI a6] [zR s0] sh pp mm Q ↔ zS 32 55 [zU, zR a1, zR a2, zR a3, zI a4, zR a5, zI a6] [zI a4, zR s0] sh pp mm Q := s_go cF_weigh_53 cF_weigh_55 rfl rfl
theorem rF_weigh_55 {a1 a2 a3 a5 s1 : Nat} {a4 a6 s0 : Int} {u0 : zV} (hk : zKd sh s1 = 0) : zS 32 55 [u0, zR a1, zR a2, zR a3, zI a4, zR a5, zI a6] [zI s0, zR s1] sh pp mm Q ↔ zS 6 0 [zR s1, zI s0, zU, zU, zU] [] sh pp mm (fun v sh pp mm => zS 32 58 [zU, zR a1, zR a2, zR a3, zI a4, zR a5, zI a6] (zPush v []) sh pp mm Q) := s_call cF_weigh_55 cF_weigh_58 ((if_pos hk).trans rfl) rfl
theorem rF_weigh_58 {a1 a2 a3 a5 : Nat} {a4 a6 : Int} {u0 : zV} : zS 32 58 [u0, zR a1, zR a2, zR a3, zI a4, zR a5, zI a6] [] sh pp mm Q ↔ zS 32 61 [zU, zR a1, zR a2, zR a3, zI a4, zR a5, zI (zw32 (a6 + 1))] [] sh pp mm Q := s_go cF_weigh_58 cF_weigh_61 rfl rfl
theorem rF_weigh_61 {a1 a2 a3 a5 : Nat} {a4 a6 : Int} {u0 : zV} : zS 32 61 [u0, zR a1, zR a2, zR a3, zI a4, zR a5, zI a6] [] sh pp mm Q ↔ zS 32 23 [zU, zR a1, zR a2, zR a3, zI a4, zR a5, zI a6] [] sh pp mm Q := s_go cF_weigh_61 cF_weigh_23 rfl rfl
theorem rF_weigh_64 {u0 u1 u2 u3 u4 u5 u6 : zV} : zS 32 64 [u0, u1, u2, u3, u4, u5, u6] [] sh pp mm Q ↔ Q zU sh pp mm := s_ret cF_weigh_64 rfl
theorem cAF_reduce : ∀ q ∈ zT33, zCode 33 q.1 = some q.2 := zAll (mid := 33) rfl (by decide +kernel)
theorem cAF_reduce_0 : ∀ q ∈ zT33_0, zCode 33 q.1 = some q.2 := fun q h => cAF_reduce q (List.mem_append_left _ h)
theorem cAF_reduce_1 : ∀ q ∈ zT33_1, zCode 33 q.1 = some q.2 := fun q h => cAF_reduce q (List.mem_append_right _ (List.mem_append_left _ h))
theorem cAF_reduce_2 : ∀ q ∈ zT33_2, zCode 33 q.1 = some q.2 := fun q h => cAF_reduce q (List.mem_append_right _ (List.mem_append_right _ h))
theorem cF_reduce_0 : zCode 33 0 = some (.aload_n 0, 1, 0, 0, 0, 0, 1) := cAF_reduce_0 _ (List.mem_of_getElem? (i := 0) rfl)
theorem cF_reduce_1 : zCode 33 1 = some (.getfield 12, 4, 2, 0, 2, 349, 1) := cAF_reduce_0 _ (List.mem_of_getElem? (i := 1) rfl)
theorem cF_reduce_4 : zCode 33 4 = some (.getfield 58, 7, 0, 1, 0, 336, 1) := cAF_reduce_0 _ (List.mem_of_getElem? (i := 2) rfl)
theorem cF_reduce_7 : zCode 33 7 = some (.ifCond .ne 12, 10, 19, 0, 0, 0, 1) := cAF_reduce_0 _ (List.mem_of_getElem? (i := 3) rfl)
theorem cF_reduce_10 : zCode 33 10 = some (.aload_n 0, 11, 0, 0, 0, 0, 1) := cAF_reduce_0 _ (List.mem_of_getElem? (i := 4) rfl)
theorem cF_reduce_11 : zCode 33 11 = some (.getfield 18, 14, 2, 1, 2, 351, 0) := cAF_reduce_0 _ (List.mem_of_getElem? (i := 5) rfl)
theorem cF_reduce_14 : zCode 33 14 = some (.iconst 1, 15, 0, 0, 0, 0, 0) := cAF_reduce_0 _ (List.mem_of_getElem? (i := 6) rfl)
theorem cF_reduce_15 : zCode 33 15 = some (.invokevirtual 27, 18, 1, 1, 2, 0, 0) := cAF_reduce_0 _ (List.mem_of_getElem? (i := 7) rfl)
theorem cF_reduce_18 : zCode 33 18 = some (.return_, 19, 0, 0, 0, 0, 0) := cAF_reduce_0 _ (List.mem_of_getElem? (i := 8) rfl)
theorem cF_reduce_19 : zCode 33 19 = some (.iconst 0, 20, 0, 0, 0, 0, 1) := cAF_reduce_0 _ (List.mem_of_getElem? (i := 9) rfl)
theorem cF_reduce_20 : zCode 33 20 = some (.istore_n 1, 21, 0, 0, 0, 0, 1) := cAF_reduce_0 _ (List.mem_of_getElem? (i := 10) rfl)
theorem cF_reduce_21 : zCode 33 21 = some (.iload_n 1, 22, 0, 0, 0, 0, 3) := cAF_reduce_0 _ (List.mem_of_getElem? (i := 11) rfl)
theorem cF_reduce_22 : zCode 33 22 = some (.sipush 240, 25, 0, 0, 0, 0, 3) := cAF_reduce_0 _ (List.mem_of_getElem? (i := 12) rfl)
theorem cF_reduce_25 : zCode 33 25 = some (.if_icmp .ge 43, 28, 68, 0, 0, 0, 3) := cAF_reduce_0 _ (List.mem_of_getElem? (i := 13) rfl)
theorem cF_reduce_28 : zCode 33 28 = some (.aload_n 0, 29, 0, 0, 0, 0, 3) := cAF_reduce_0 _ (List.mem_of_getElem? (i := 14) rfl)
theorem cF_reduce_29 : zCode 33 29 = some (.getfield 12, 32, 2, 0, 2, 349, 3) := cAF_reduce_0 _ (List.mem_of_getElem? (i := 15) rfl)
theorem cF_reduce_32 : zCode 33 32 = some (.invokevirtual 61, 35, 3, 0, 1, 0, 3) := cAF_reduce_1 _ (List.mem_of_getElem? (i := 0) rfl)
theorem cF_reduce_35 : zCode 33 35 = some (.ifCond .eq 33, 38, 68, 0, 0, 0, 3) := cAF_reduce_1 _ (List.mem_of_getElem? (i := 1) rfl)
theorem cF_reduce_38 : zCode 33 38 = some (.aload_n 0, 39, 0, 0, 0, 0, 3) := cAF_reduce_1 _ (List.mem_of_getElem? (i := 2) rfl)
theorem cF_reduce_39 : zCode 33 39 = some (.getfield 18, 42, 2, 1, 2, 351, 3) := cAF_reduce_1 _ (List.mem_of_getElem? (i := 3) rfl)
theorem cF_reduce_42 : zCode 33 42 = some (.invokevirtual 61, 45, 3, 0, 1, 0, 3) := cAF_reduce_1 _ (List.mem_of_getElem? (i := 4) rfl)
theorem cF_reduce_45 : zCode 33 45 = some (.ifCond .eq 23, 48, 68, 0, 0, 0, 3) := cAF_reduce_1 _ (List.mem_of_getElem? (i := 5) rfl)
theorem cF_reduce_48 : zCode 33 48 = some (.aload_n 0, 49, 0, 0, 0, 0, 3) := cAF_reduce_1 _ (List.mem_of_getElem? (i := 6) rfl)
theorem cF_reduce_49 : zCode 33 49 = some (.getfield 12, 52, 2, 0, 2, 349, 3) := cAF_reduce_1 _ (List.mem_of_getElem? (i := 7) rfl)
theorem cF_reduce_52 : zCode 33 52 = some (.invokevirtual 65, 55, 9, 0, 3, 0, 3) := cAF_reduce_1 _ (List.mem_of_getElem? (i := 8) rfl)
theorem cF_reduce_55 : zCode 33 55 = some (.aload_n 0, 56, 0, 0, 0, 0, 3) := cAF_reduce_1 _ (List.mem_of_getElem? (i := 9) rfl)
theorem cF_reduce_56 : zCode 33 56 = some (.getfield 18, 59, 2, 1, 2, 351, 3) := cAF_reduce_1 _ (List.mem_of_getElem? (i := 10) rfl)
theorem cF_reduce_59 : zCode 33 59 = some (.invokevirtual 65, 62, 9, 0, 3, 0, 3) := cAF_reduce_1 _ (List.mem_of_getElem? (i := 11) rfl)
theorem cF_reduce_62 : zCode 33 62 = some (.iinc 1 1, 65, 0, 0, 0, 0, 3) := cAF_reduce_1 _ (List.mem_of_getElem? (i := 12) rfl)
theorem cF_reduce_65 : zCode 33 65 = some (.goto (-44), 68, 21, 0, 0, 0, 3) := cAF_reduce_1 _ (List.mem_of_getElem? (i := 13) rfl)
theorem cF_reduce_68 : zCode 33 68 = some (.aload_n 0, 69, 0, 0, 0, 0, 1) := cAF_reduce_1 _ (List.mem_of_getElem? (i := 14) rfl)
theorem cF_reduce_69 : zCode 33 69 = some (.invokevirtual 68, 72, 34, 0, 4, 2, 1) := cAF_reduce_1 _ (List.mem_of_getElem? (i := 15) rfl)
theorem cF_reduce_72 : zCode 33 72 = some (.aload_n 0, 73, 0, 0, 0, 0, 1) := cAF_reduce_2 _ (List.mem_of_getElem? (i := 0) rfl)
theorem cF_reduce_73 : zCode 33 73 = some (.getfield 21, 76, 2, 2, 2, 353, 1) := cAF_reduce_2 _ (List.mem_of_getElem? (i := 1) rfl)
theorem cF_reduce_76 : zCode 33 76 = some (.invokevirtual 71, 79, 4, 0, 1, 0, 1) := cAF_reduce_2 _ (List.mem_of_getElem? (i := 2) rfl)
theorem cF_reduce_79 : zCode 33 79 = some (.ifCond .ne 25, 82, 104, 0, 0, 0, 1) := cAF_reduce_2 _ (List.mem_of_getElem? (i := 3) rfl)
theorem cF_reduce_82 : zCode 33 82 = some (.aload_n 0, 83, 0, 0, 0, 0, 1) := cAF_reduce_2 _ (List.mem_of_getElem? (i := 4) rfl)
theorem cF_reduce_83 : zCode 33 83 = some (.getfield 12, 86, 2, 0, 2, 349, 1) := cAF_reduce_2 _ (List.mem_of_getElem? (i := 5) rfl)
theorem cF_reduce_86 : zCode 33 86 = some (.aload_n 0, 87, 0, 0, 0, 0, 1) := cAF_reduce_2 _ (List.mem_of_getElem? (i := 6) rfl)
theorem cF_reduce_87 : zCode 33 87 = some (.getfield 21, 90, 2, 2, 2, 353, 1) := cAF_reduce_2 _ (List.mem_of_getElem? (i := 7) rfl)
theorem cF_reduce_90 : zCode 33 90 = some (.invokevirtual 74, 93, 12, 1, 8, 0, 1) := cAF_reduce_2 _ (List.mem_of_getElem? (i := 8) rfl)
theorem cF_reduce_93 : zCode 33 93 = some (.aload_n 0, 94, 0, 0, 0, 0, 1) := cAF_reduce_2 _ (List.mem_of_getElem? (i := 9) rfl)
theorem cF_reduce_94 : zCode 33 94 = some (.getfield 18, 97, 2, 1, 2, 351, 1) := cAF_reduce_2 _ (List.mem_of_getElem? (i := 10) rfl)
theorem cF_reduce_97 : zCode 33 97 = some (.aload_n 0, 98, 0, 0, 0, 0, 1) := cAF_reduce_2 _ (List.mem_of_getElem? (i := 11) rfl)
theorem cF_reduce_98 : zCode 33 98 = some (.getfield 21, 101, 2, 2, 2, 353, 0) := cAF_reduce_2 _ (List.mem_of_getElem? (i := 12) rfl)
theorem cF_reduce_101 : zCode 33 101 = some (.invokevirtual 74, 104, 12, 1, 8, 0, 0) := cAF_reduce_2 _ (List.mem_of_getElem? (i := 13) rfl)
theorem cF_reduce_104 : zCode 33 104 = some (.return_, 105, 0, 0, 0, 0, 0) := cAF_reduce_2 _ (List.mem_of_getElem? (i := 14) rfl)
theorem rF_reduce_0 {a0 : Nat} {u1 : zV} : zS 33 0 [zR a0, u1] [] sh pp mm Q ↔ zS 33 1 [zR a0, zU] [zR a0] sh pp mm Q := s_go cF_reduce_0 cF_reduce_1 rfl rfl
theorem rF_reduce_1 {a0 s0 : Nat} {u1 : zV} (hk : zKd sh s0 = 2) : zS 33 1 [zR a0, u1] [zR s0] sh pp mm Q ↔ zS 33 4 [zR a0, zU] [zR (pp s0 0)] sh pp mm Q := s_go cF_reduce_1 cF_reduce_4 (if_pos hk) rfl
theorem rF_reduce_4 {a0 s0 : Nat} {u1 : zV} (hk : zKd sh s0 = 0) : zS 33 4 [zR a0, u1] [zR s0] sh pp mm Q ↔ zS 33 7 [zR a0, zU] [zI (mm s0 1)] sh pp mm Q := s_go cF_reduce_4 cF_reduce_7 (if_pos hk) rfl
theorem rF_reduce_7 {a0 : Nat} {s0 : Int} {u1 : zV} : zS 33 7 [zR a0, u1] [zI s0] sh pp mm Q ↔ (s0 = 0 → zS 33 10 [zR a0, zU] [] sh pp mm Q) ∧ (¬ s0 = 0 → zS 33 19 [zR a0, zU] [] sh pp mm Q) := s_ifn cF_reduce_7 cF_reduce_10 cF_reduce_19 rfl rfl rfl
theorem rF_reduce_10 {a0 : Nat} {u1 : zV} : zS 33 10 [zR a0, u1] [] sh pp mm Q ↔ zS 33 11 [zU, zU] [zR a0] sh pp mm Q := s_go cF_reduce_10 cF_reduce_11 rfl rfl
theorem rF_reduce_11 {s0 : Nat} {u0 u1 : zV} (hk : zKd sh s0 = 2) : zS 33 11 [u0, u1] [zR s0] sh pp mm Q ↔ zS 33 14 [zU, zU] [zR (pp s0 1)] sh pp mm Q := s_go cF_reduce_11 cF_reduce_14 (if_pos hk) rfl
theorem rF_reduce_14 {s0 : Nat} {u0 u1 : zV} : zS 33 14 [u0, u1] [zR s0] sh pp mm Q ↔ zS 33 15 [zU, zU] [zI 1, zR s0] sh pp mm Q := s_go cF_reduce_14 cF_reduce_15 rfl rfl
theorem rF_reduce_15 {s1 : Nat} {s0 : Int} {u0 u1 : zV} (hk : zKd sh s1 = 0) : zS 33 15 [u0, u1] [zI s0, zR s1] sh pp mm Q ↔ zS 1 0 [zR s1, zI s0] [] sh pp mm (fun v sh pp mm => zS 33 18 [zU, zU] (zPush v []) sh pp mm Q) := s_call cF_reduce_15 cF_reduce_18 ((if_pos hk).trans rfl) rfl
theorem rF_reduce_18 {u0 u1 : zV} : zS 33 18 [u0, u1] [] sh pp mm Q ↔ Q zU sh pp mm := s_ret cF_reduce_18 rfl
theorem rF_reduce_19 {a0 : Nat} {u1 : zV} : zS 33 19 [zR a0, u1] [] sh pp mm Q ↔ zS 33 20 [zR a0, zU] [zI 0] sh pp mm Q := s_go cF_reduce_19 cF_reduce_20 rfl rfl
theorem rF_reduce_20 {a0 : Nat} {s0 : Int} {u1 : zV} : zS 33 20 [zR a0, u1] [zI s0] sh pp mm Q ↔ zS 33 21 [zR a0, zI s0] [] sh pp mm Q := s_go cF_reduce_20 cF_reduce_21 rfl rfl
theorem rF_reduce_21 {a0 : Nat} {a1 : Int} : zS 33 21 [zR a0, zI a1] [] sh pp mm Q ↔ zS 33 22 [zR a0, zI a1] [zI a1] sh pp mm Q := s_go cF_reduce_21 cF_reduce_22 rfl rfl
theorem rF_reduce_22 {a0 : Nat} {a1 s0 : Int} : zS 33 22 [zR a0, zI a1] [zI s0] sh pp mm Q ↔ zS 33 25 [zR a0, zI a1] [zI 240, zI s0] sh pp mm Q := s_go cF_reduce_22 cF_reduce_25 rfl rfl
theorem rF_reduce_25 {a0 : Nat} {a1 s0 s1 : Int} : zS 33 25 [zR a0, zI a1] [zI s0, zI s1] sh pp mm Q ↔ (s1 < s0 → zS 33 28 [zR a0, zI a1] [] sh pp mm Q) ∧ (¬ s1 < s0 → zS 33 68 [zR a0, zU] [] sh pp mm Q) := s_ifn cF_reduce_25 cF_reduce_28 cF_reduce_68 rfl rfl rfl
theorem rF_reduce_28 {a0 : Nat} {a1 : Int} : zS 33 28 [zR a0, zI a1] [] sh pp mm Q ↔ zS 33 29 [zR a0, zI a1] [zR a0] sh pp mm Q := s_go cF_reduce_28 cF_reduce_29 rfl rfl
theorem rF_reduce_29 {a0 s0 : Nat} {a1 : Int} (hk : zKd sh s0 = 2) : zS 33 29 [zR a0, zI a1] [zR s0] sh pp mm Q ↔ zS 33 32 [zR a0, zI a1] [zR (pp s0 0)] sh pp mm Q := s_go cF_reduce_29 cF_reduce_32 (if_pos hk) rfl
theorem rF_reduce_32 {a0 s0 : Nat} {a1 : Int} (hk : zKd sh s0 = 0) : zS 33 32 [zR a0, zI a1] [zR s0] sh pp mm Q ↔ zS 3 0 [zR s0] [] sh pp mm (fun v sh pp mm => zS 33 35 [zR a0, zI a1] (zPush v []) sh pp mm Q) := s_call cF_reduce_32 cF_reduce_35 ((if_pos hk).trans rfl) rfl
theorem rF_reduce_35 {a0 : Nat} {a1 s0 : Int} : zS 33 35 [zR a0, zI a1] [zI s0] sh pp mm Q ↔ (s0 = 0 → zS 33 68 [zR a0, zU] [] sh pp mm Q) ∧ (¬ s0 = 0 → zS 33 38 [zR a0, zI a1] [] sh pp mm Q) := s_if cF_reduce_35 cF_reduce_68 cF_reduce_38 rfl rfl rfl
theorem rF_reduce_38 {a0 : Nat} {a1 : Int} : zS 33 38 [zR a0, zI a1] [] sh pp mm Q ↔ zS 33 39 [zR a0, zI a1] [zR a0] sh pp mm Q := s_go cF_reduce_38 cF_reduce_39 rfl rfl
theorem rF_reduce_39 {a0 s0 : Nat} {a1 : Int} (hk : zKd sh s0 = 2) : zS 33 39 [zR a0, zI a1] [zR s0] sh pp mm Q ↔ zS 33 42 [zR a0, zI a1] [zR (pp s0 1)] sh pp mm Q := s_go cF_reduce_39 cF_reduce_42 (if_pos hk) rfl
theorem rF_reduce_42 {a0 s0 : Nat} {a1 : Int} (hk : zKd sh s0 = 0) : zS 33 42 [zR a0, zI a1] [zR s0] sh pp mm Q ↔ zS 3 0 [zR s0] [] sh pp mm (fun v sh pp mm => zS 33 45 [zR a0, zI a1] (zPush v []) sh pp mm Q) := s_call cF_reduce_42 cF_reduce_45 ((if_pos hk).trans rfl) rfl
theorem rF_reduce_45 {a0 : Nat} {a1 s0 : Int} : zS 33 45 [zR a0, zI a1] [zI s0] sh pp mm Q ↔ (s0 = 0 → zS 33 68 [zR a0, zU] [] sh pp mm Q) ∧ (¬ s0 = 0 → zS 33 48 [zR a0, zI a1] [] sh pp mm Q) := s_if cF_reduce_45 cF_reduce_68 cF_reduce_48 rfl rfl rfl
theorem rF_reduce_48 {a0 : Nat} {a1 : Int} : zS 33 48 [zR a0, zI a1] [] sh pp mm Q ↔ zS 33 49 [zR a0, zI a1] [zR a0] sh pp mm Q := s_go cF_reduce_48 cF_reduce_49 rfl rfl
theorem rF_reduce_49 {a0 s0 : Nat} {a1 : Int} (hk : zKd sh s0 = 2) : zS 33 49 [zR a0, zI a1] [zR s0] sh pp mm Q ↔ zS 33 52 [zR a0, zI a1] [zR (pp s0 0)] sh pp mm Q := s_go cF_reduce_49 cF_reduce_52 (if_pos hk) rfl
theorem rF_reduce_52 {a0 s0 : Nat} {a1 : Int} (hk : zKd sh s0 = 0) : zS 33 52 [zR a0, zI a1] [zR s0] sh pp mm Q ↔ zS 9 0 [zR s0, zU, zU] [] sh pp mm (fun v sh pp mm => zS 33 55 [zR a0, zI a1] (zPush v []) sh pp mm Q) := s_call cF_reduce_52 cF_reduce_55 ((if_pos hk).trans rfl) rfl
theorem rF_reduce_55 {a0 : Nat} {a1 : Int} : zS 33 55 [zR a0, zI a1] [] sh pp mm Q ↔ zS 33 56 [zR a0, zI a1] [zR a0] sh pp mm Q := s_go cF_reduce_55 cF_reduce_56 rfl rfl
theorem rF_reduce_56 {a0 s0 : Nat} {a1 : Int} (hk : zKd sh s0 = 2) : zS 33 56 [zR a0, zI a1] [zR s0] sh pp mm Q ↔ zS 33 59 [zR a0, zI a1] [zR (pp s0 1)] sh pp mm Q := s_go cF_reduce_56 cF_reduce_59 (if_pos hk) rfl
theorem rF_reduce_59 {a0 s0 : Nat} {a1 : Int} (hk : zKd sh s0 = 0) : zS 33 59 [zR a0, zI a1] [zR s0] sh pp mm Q ↔ zS 9 0 [zR s0, zU, zU] [] sh pp mm (fun v sh pp mm => zS 33 62 [zR a0, zI a1] (zPush v []) sh pp mm Q) := s_call cF_reduce_59 cF_reduce_62 ((if_pos hk).trans rfl) rfl
theorem rF_reduce_62 {a0 : Nat} {a1 : Int} : zS 33 62 [zR a0, zI a1] [] sh pp mm Q ↔ zS 33 65 [zR a0, zI (zw32 (a1 + 1))] [] sh pp mm Q := s_go cF_reduce_62 cF_reduce_65 rfl rfl
theorem rF_reduce_65 {a0 : Nat} {a1 : Int} : zS 33 65 [zR a0, zI a1] [] sh pp mm Q ↔ zS 33 21 [zR a0, zI a1] [] sh pp mm Q := s_go cF_reduce_65 cF_reduce_21 rfl rfl
theorem rF_reduce_68 {a0 : Nat} {u1 : zV} : zS 33 68 [zR a0, u1] [] sh pp mm Q ↔ zS 33 69 [zR a0, zU] [zR a0] sh pp mm Q := s_go cF_reduce_68 cF_reduce_69 rfl rfl
theorem rF_reduce_69 {a0 s0 : Nat} {u1 : zV} (hk : zKd sh s0 = 2) : zS 33 69 [zR a0, u1] [zR s0] sh pp mm Q ↔ zS 34 0 [zR s0, zU, zU, zU] [] sh pp mm (fun v sh pp mm => zS 33 72 [zR a0, zU] (zPush v []) sh pp mm Q) := s_call cF_reduce_69 cF_reduce_72 ((if_pos hk).trans rfl) rfl
theorem rF_reduce_72 {a0 : Nat} {u1 : zV} : zS 33 72 [zR a0, u1] [] sh pp mm Q ↔ zS 33 73 [zR a0, zU] [zR a0] sh pp mm Q := s_go cF_reduce_72 cF_reduce_73 rfl rfl
theorem rF_reduce_73 {a0 s0 : Nat} {u1 : zV} (hk : zKd sh s0 = 2) : zS 33 73 [zR a0, u1] [zR s0] sh pp mm Q ↔ zS 33 76 [zR a0, zU] [zR (pp s0 2)] sh pp mm Q := s_go cF_reduce_73 cF_reduce_76 (if_pos hk) rfl
theorem rF_reduce_76 {a0 s0 : Nat} {u1 : zV} (hk : zKd sh s0 = 0) : zS 33 76 [zR a0, u1] [zR s0] sh pp mm Q ↔ zS 4 0 [zR s0] [] sh pp mm (fun v sh pp mm => zS 33 79 [zR a0, zU] (zPush v []) sh pp mm Q) := s_call cF_reduce_76 cF_reduce_79 ((if_pos hk).trans rfl) rfl
theorem rF_reduce_79 {a0 : Nat} {s0 : Int} {u1 : zV} : zS 33 79 [zR a0, u1] [zI s0] sh pp mm Q ↔ (s0 = 0 → zS 33 82 [zR a0, zU] [] sh pp mm Q) ∧ (¬ s0 = 0 → zS 33 104 [zU, zU] [] sh pp mm Q) := s_ifn cF_reduce_79 cF_reduce_82 cF_reduce_104 rfl rfl rfl
theorem rF_reduce_82 {a0 : Nat} {u1 : zV} : zS 33 82 [zR a0, u1] [] sh pp mm Q ↔ zS 33 83 [zR a0, zU] [zR a0] sh pp mm Q := s_go cF_reduce_82 cF_reduce_83 rfl rfl
theorem rF_reduce_83 {a0 s0 : Nat} {u1 : zV} (hk : zKd sh s0 = 2) : zS 33 83 [zR a0, u1] [zR s0] sh pp mm Q ↔ zS 33 86 [zR a0, zU] [zR (pp s0 0)] sh pp mm Q := s_go cF_reduce_83 cF_reduce_86 (if_pos hk) rfl
theorem rF_reduce_86 {a0 s0 : Nat} {u1 : zV} : zS 33 86 [zR a0, u1] [zR s0] sh pp mm Q ↔ zS 33 87 [zR a0, zU] [zR a0, zR s0] sh pp mm Q := s_go cF_reduce_86 cF_reduce_87 rfl rfl
theorem rF_reduce_87 {a0 s0 s1 : Nat} {u1 : zV} (hk : zKd sh s0 = 2) : zS 33 87 [zR a0, u1] [zR s0, zR s1] sh pp mm Q ↔ zS 33 90 [zR a0, zU] [zR (pp s0 2), zR s1] sh pp mm Q := s_go cF_reduce_87 cF_reduce_90 (if_pos hk) rfl
theorem rF_reduce_90 {a0 s0 s1 : Nat} {u1 : zV} (hk : zKd sh s1 = 0) : zS 33 90 [zR a0, u1] [zR s0, zR s1] sh pp mm Q ↔ zS 12 0 [zR s1, zR s0, zU, zU, zU, zU, zU, zU] [] sh pp mm (fun v sh pp mm => zS 33 93 [zR a0, zU] (zPush v []) sh pp mm Q) := s_call cF_reduce_90 cF_reduce_93 ((if_pos hk).trans rfl) rfl
theorem rF_reduce_93 {a0 : Nat} {u1 : zV} : zS 33 93 [zR a0, u1] [] sh pp mm Q ↔ zS 33 94 [zR a0, zU] [zR a0] sh pp mm Q := s_go cF_reduce_93 cF_reduce_94 rfl rfl
theorem rF_reduce_94 {a0 s0 : Nat} {u1 : zV} (hk : zKd sh s0 = 2) : zS 33 94 [zR a0, u1] [zR s0] sh pp mm Q ↔ zS 33 97 [zR a0, zU] [zR (pp s0 1)] sh pp mm Q := s_go cF_reduce_94 cF_reduce_97 (if_pos hk) rfl
theorem rF_reduce_97 {a0 s0 : Nat} {u1 : zV} : zS 33 97 [zR a0, u1] [zR s0] sh pp mm Q ↔ zS 33 98 [zU, zU] [zR a0, zR s0] sh pp mm Q := s_go cF_reduce_97 cF_reduce_98 rfl rfl
theorem rF_reduce_98 {s0 s1 : Nat} {u0 u1 : zV} (hk : zKd sh s0 = 2) : zS 33 98 [u0, u1] [zR s0, zR s1] sh pp mm Q ↔ zS 33 101 [zU, zU] [zR (pp s0 2), zR s1] sh pp mm Q := s_go cF_reduce_98 cF_reduce_101 (if_pos hk) rfl
theorem rF_reduce_101 {s0 s1 : Nat} {u0 u1 : zV} (hk : zKd sh s1 = 0) : zS 33 101 [u0, u1] [zR s0, zR s1] sh pp mm Q ↔ zS 12 0 [zR s1, zR s0, zU, zU, zU, zU, zU, zU] [] sh pp mm (fun v sh pp mm => zS 33 104 [zU, zU] (zPush v []) sh pp mm Q) := s_call cF_reduce_101 cF_reduce_104 ((if_pos hk).trans rfl) rfl
theorem rF_reduce_104 {u0 u1 : zV} : zS 33 104 [u0, u1] [] sh pp mm Q ↔ Q zU sh pp mm := s_ret cF_reduce_104 rfl
theorem cAF_findCommonOdd : ∀ q ∈ zT34, zCode 34 q.1 = some q.2 := zAll (mid := 34) rfl (by decide +kernel)
theorem cAF_findCommonOdd_0 : ∀ q ∈ zT34_0, zCode 34 q.1 = some q.2 := fun q h => cAF_findCommonOdd q (List.mem_append_left _ h)
theorem cAF_findCommonOdd_1 : ∀ q ∈ zT34_1, zCode 34 q.1 = some q.2 := fun q h => cAF_findCommonOdd q (List.mem_append_right _ (List.mem_append_left _ h))
theorem cAF_findCommonOdd_2 : ∀ q ∈ zT34_2, zCode 34 q.1 = some q.2 := fun q h => cAF_findCommonOdd q (List.mem_append_right _ (List.mem_append_right _ (List.mem_append_left _ h)))
theorem cAF_findCommonOdd_3 : ∀ q ∈ zT34_3, zCode 34 q.1 = some q.2 := fun q h => cAF_findCommonOdd q (List.mem_append_right _ (List.mem_append_right _ (List.mem_append_right _ h)))
theorem cF_findCommonOdd_0 : zCode 34 0 = some (.aload_n 0, 1, 0, 0, 0, 0, 1) := cAF_findCommonOdd_0 _ (List.mem_of_getElem? (i := 0) rfl)
theorem cF_findCommonOdd_1 : zCode 34 1 = some (.getfield 21, 4, 2, 2, 2, 353, 1) := cAF_findCommonOdd_0 _ (List.mem_of_getElem? (i := 1) rfl)
theorem cF_findCommonOdd_4 : zCode 34 4 = some (.aload_n 0, 5, 0, 0, 0, 0, 1) := cAF_findCommonOdd_0 _ (List.mem_of_getElem? (i := 2) rfl)
theorem cF_findCommonOdd_5 : zCode 34 5 = some (.getfield 12, 8, 2, 0, 2, 349, 1) := cAF_findCommonOdd_0 _ (List.mem_of_getElem? (i := 3) rfl)
theorem cF_findCommonOdd_8 : zCode 34 8 = some (.invokevirtual 78, 11, 2, 1, 2, 0, 1) := cAF_findCommonOdd_0 _ (List.mem_of_getElem? (i := 4) rfl)
theorem cF_findCommonOdd_11 : zCode 34 11 = some (.aload_n 0, 12, 0, 0, 0, 0, 1) := cAF_findCommonOdd_0 _ (List.mem_of_getElem? (i := 5) rfl)
theorem cF_findCommonOdd_12 : zCode 34 12 = some (.getfield 24, 15, 2, 3, 2, 354, 1) := cAF_findCommonOdd_0 _ (List.mem_of_getElem? (i := 6) rfl)
theorem cF_findCommonOdd_15 : zCode 34 15 = some (.aload_n 0, 16, 0, 0, 0, 0, 1) := cAF_findCommonOdd_0 _ (List.mem_of_getElem? (i := 7) rfl)
theorem cF_findCommonOdd_16 : zCode 34 16 = some (.getfield 18, 19, 2, 1, 2, 351, 1) := cAF_findCommonOdd_0 _ (List.mem_of_getElem? (i := 8) rfl)
theorem cF_findCommonOdd_19 : zCode 34 19 = some (.invokevirtual 78, 22, 2, 1, 2, 0, 1) := cAF_findCommonOdd_0 _ (List.mem_of_getElem? (i := 9) rfl)
theorem cF_findCommonOdd_22 : zCode 34 22 = some (.aload_n 0, 23, 0, 0, 0, 0, 1) := cAF_findCommonOdd_0 _ (List.mem_of_getElem? (i := 10) rfl)
theorem cF_findCommonOdd_23 : zCode 34 23 = some (.getfield 21, 26, 2, 2, 2, 353, 1) := cAF_findCommonOdd_0 _ (List.mem_of_getElem? (i := 11) rfl)
theorem cF_findCommonOdd_26 : zCode 34 26 = some (.invokevirtual 81, 29, 10, 0, 2, 0, 1) := cAF_findCommonOdd_0 _ (List.mem_of_getElem? (i := 12) rfl)
theorem cF_findCommonOdd_29 : zCode 34 29 = some (.aload_n 0, 30, 0, 0, 0, 0, 1) := cAF_findCommonOdd_0 _ (List.mem_of_getElem? (i := 13) rfl)
theorem cF_findCommonOdd_30 : zCode 34 30 = some (.getfield 24, 33, 2, 3, 2, 354, 1) := cAF_findCommonOdd_0 _ (List.mem_of_getElem? (i := 14) rfl)
theorem cF_findCommonOdd_33 : zCode 34 33 = some (.invokevirtual 81, 36, 10, 0, 2, 0, 1) := cAF_findCommonOdd_0 _ (List.mem_of_getElem? (i := 15) rfl)
theorem cF_findCommonOdd_36 : zCode 34 36 = some (.iconst 0, 37, 0, 0, 0, 0, 1) := cAF_findCommonOdd_1 _ (List.mem_of_getElem? (i := 0) rfl)
theorem cF_findCommonOdd_37 : zCode 34 37 = some (.istore_n 1, 38, 0, 0, 0, 0, 1) := cAF_findCommonOdd_1 _ (List.mem_of_getElem? (i := 1) rfl)
theorem cF_findCommonOdd_38 : zCode 34 38 = some (.iload_n 1, 39, 0, 0, 0, 0, 3) := cAF_findCommonOdd_1 _ (List.mem_of_getElem? (i := 2) rfl)
theorem cF_findCommonOdd_39 : zCode 34 39 = some (.sipush 480, 42, 0, 0, 0, 0, 3) := cAF_findCommonOdd_1 _ (List.mem_of_getElem? (i := 3) rfl)
theorem cF_findCommonOdd_42 : zCode 34 42 = some (.if_icmp .ge 65, 45, 107, 0, 0, 0, 3) := cAF_findCommonOdd_1 _ (List.mem_of_getElem? (i := 4) rfl)
theorem cF_findCommonOdd_45 : zCode 34 45 = some (.aload_n 0, 46, 0, 0, 0, 0, 3) := cAF_findCommonOdd_1 _ (List.mem_of_getElem? (i := 5) rfl)
theorem cF_findCommonOdd_46 : zCode 34 46 = some (.getfield 21, 49, 2, 2, 2, 353, 3) := cAF_findCommonOdd_1 _ (List.mem_of_getElem? (i := 6) rfl)
theorem cF_findCommonOdd_49 : zCode 34 49 = some (.aload_n 0, 50, 0, 0, 0, 0, 3) := cAF_findCommonOdd_1 _ (List.mem_of_getElem? (i := 7) rfl)
theorem cF_findCommonOdd_50 : zCode 34 50 = some (.getfield 24, 53, 2, 3, 2, 354, 3) := cAF_findCommonOdd_1 _ (List.mem_of_getElem? (i := 8) rfl)
theorem cF_findCommonOdd_53 : zCode 34 53 = some (.invokevirtual 84, 56, 11, 1, 3, 0, 3) := cAF_findCommonOdd_1 _ (List.mem_of_getElem? (i := 9) rfl)
theorem cF_findCommonOdd_56 : zCode 34 56 = some (.istore_n 2, 57, 0, 0, 0, 0, 3) := cAF_findCommonOdd_1 _ (List.mem_of_getElem? (i := 10) rfl)
theorem cF_findCommonOdd_57 : zCode 34 57 = some (.iload_n 2, 58, 0, 0, 0, 0, 7) := cAF_findCommonOdd_1 _ (List.mem_of_getElem? (i := 11) rfl)
theorem cF_findCommonOdd_58 : zCode 34 58 = some (.ifCond .ne 4, 61, 62, 0, 0, 0, 7) := cAF_findCommonOdd_1 _ (List.mem_of_getElem? (i := 12) rfl)
theorem cF_findCommonOdd_61 : zCode 34 61 = some (.return_, 62, 0, 0, 0, 0, 0) := cAF_findCommonOdd_1 _ (List.mem_of_getElem? (i := 13) rfl)
theorem cF_findCommonOdd_62 : zCode 34 62 = some (.iload_n 2, 63, 0, 0, 0, 0, 7) := cAF_findCommonOdd_1 _ (List.mem_of_getElem? (i := 14) rfl)
theorem cF_findCommonOdd_63 : zCode 34 63 = some (.ifCond .le 10, 66, 73, 0, 0, 0, 7) := cAF_findCommonOdd_1 _ (List.mem_of_getElem? (i := 15) rfl)
theorem cF_findCommonOdd_66 : zCode 34 66 = some (.aload_n 0, 67, 0, 0, 0, 0, 7) := cAF_findCommonOdd_2 _ (List.mem_of_getElem? (i := 0) rfl)
theorem cF_findCommonOdd_67 : zCode 34 67 = some (.getfield 21, 70, 2, 2, 2, 353, 7) := cAF_findCommonOdd_2 _ (List.mem_of_getElem? (i := 1) rfl)
theorem cF_findCommonOdd_70 : zCode 34 70 = some (.goto 7, 73, 77, 0, 0, 0, 7) := cAF_findCommonOdd_2 _ (List.mem_of_getElem? (i := 2) rfl)
theorem cF_findCommonOdd_73 : zCode 34 73 = some (.aload_n 0, 74, 0, 0, 0, 0, 7) := cAF_findCommonOdd_2 _ (List.mem_of_getElem? (i := 3) rfl)
theorem cF_findCommonOdd_74 : zCode 34 74 = some (.getfield 24, 77, 2, 3, 2, 354, 7) := cAF_findCommonOdd_2 _ (List.mem_of_getElem? (i := 4) rfl)
theorem cF_findCommonOdd_77 : zCode 34 77 = some (.astore_n 3, 78, 0, 0, 0, 0, 7) := cAF_findCommonOdd_2 _ (List.mem_of_getElem? (i := 5) rfl)
theorem cF_findCommonOdd_78 : zCode 34 78 = some (.aload_n 3, 79, 0, 0, 0, 0, 15) := cAF_findCommonOdd_2 _ (List.mem_of_getElem? (i := 6) rfl)
theorem cF_findCommonOdd_79 : zCode 34 79 = some (.iload_n 2, 80, 0, 0, 0, 0, 15) := cAF_findCommonOdd_2 _ (List.mem_of_getElem? (i := 7) rfl)
theorem cF_findCommonOdd_80 : zCode 34 80 = some (.ifCond .le 10, 83, 90, 0, 0, 0, 11) := cAF_findCommonOdd_2 _ (List.mem_of_getElem? (i := 8) rfl)
theorem cF_findCommonOdd_83 : zCode 34 83 = some (.aload_n 0, 84, 0, 0, 0, 0, 11) := cAF_findCommonOdd_2 _ (List.mem_of_getElem? (i := 9) rfl)
theorem cF_findCommonOdd_84 : zCode 34 84 = some (.getfield 24, 87, 2, 3, 2, 354, 11) := cAF_findCommonOdd_2 _ (List.mem_of_getElem? (i := 10) rfl)
theorem cF_findCommonOdd_87 : zCode 34 87 = some (.goto 7, 90, 94, 0, 0, 0, 11) := cAF_findCommonOdd_2 _ (List.mem_of_getElem? (i := 11) rfl)
theorem cF_findCommonOdd_90 : zCode 34 90 = some (.aload_n 0, 91, 0, 0, 0, 0, 11) := cAF_findCommonOdd_2 _ (List.mem_of_getElem? (i := 12) rfl)
theorem cF_findCommonOdd_91 : zCode 34 91 = some (.getfield 21, 94, 2, 2, 2, 353, 11) := cAF_findCommonOdd_2 _ (List.mem_of_getElem? (i := 13) rfl)
theorem cF_findCommonOdd_94 : zCode 34 94 = some (.invokevirtual 88, 97, 8, 1, 5, 0, 11) := cAF_findCommonOdd_2 _ (List.mem_of_getElem? (i := 14) rfl)
theorem cF_findCommonOdd_97 : zCode 34 97 = some (.aload_n 3, 98, 0, 0, 0, 0, 11) := cAF_findCommonOdd_2 _ (List.mem_of_getElem? (i := 15) rfl)
theorem cF_findCommonOdd_98 : zCode 34 98 = some (.invokevirtual 81, 101, 10, 0, 2, 0, 3) := cAF_findCommonOdd_3 _ (List.mem_of_getElem? (i := 0) rfl)
theorem cF_findCommonOdd_101 : zCode 34 101 = some (.iinc 1 1, 104, 0, 0, 0, 0, 3) := cAF_findCommonOdd_3 _ (List.mem_of_getElem? (i := 1) rfl)
theorem cF_findCommonOdd_104 : zCode 34 104 = some (.goto (-66), 107, 38, 0, 0, 0, 3) := cAF_findCommonOdd_3 _ (List.mem_of_getElem? (i := 2) rfl)
theorem cF_findCommonOdd_107 : zCode 34 107 = some (.return_, 108, 0, 0, 0, 0, 0) := cAF_findCommonOdd_3 _ (List.mem_of_getElem? (i := 3) rfl)
theorem rF_findCommonOdd_0 {a0 : Nat} {u1 u2 u3 : zV} : zS 34 0 [zR a0, u1, u2, u3] [] sh pp mm Q ↔ zS 34 1 [zR a0, zU, zU, zU] [zR a0] sh pp mm Q := s_go cF_findCommonOdd_0 cF_findCommonOdd_1 rfl rfl
theorem rF_findCommonOdd_1 {a0 s0 : Nat} {u1 u2 u3 : zV} (hk : zKd sh s0 = 2) : zS 34 1 [zR a0, u1, u2, u3] [zR s0] sh pp mm Q ↔ zS 34 4 [zR a0, zU, zU, zU] [zR (pp s0 2)] sh pp mm Q := s_go cF_findCommonOdd_1 cF_findCommonOdd_4 (if_pos hk) rfl
theorem rF_findCommonOdd_4 {a0 s0 : Nat} {u1 u2 u3 : zV} : zS 34 4 [zR a0, u1, u2, u3] [zR s0] sh pp mm Q ↔ zS 34 5 [zR a0, zU, zU, zU] [zR a0, zR s0] sh pp mm Q := s_go cF_findCommonOdd_4 cF_findCommonOdd_5 rfl rfl
theorem rF_findCommonOdd_5 {a0 s0 s1 : Nat} {u1 u2 u3 : zV} (hk : zKd sh s0 = 2) : zS 34 5 [zR a0, u1, u2, u3] [zR s0, zR s1] sh pp mm Q ↔ zS 34 8 [zR a0, zU, zU, zU] [zR (pp s0 0), zR s1] sh pp mm Q := s_go cF_findCommonOdd_5 cF_findCommonOdd_8 (if_pos hk) rfl
theorem rF_findCommonOdd_8 {a0 s0 s1 : Nat} {u1 u2 u3 : zV} (hk : zKd sh s1 = 0) : zS 34 8 [zR a0, u1, u2, u3] [zR s0, zR s1] sh pp mm Q ↔ zS 2 0 [zR s1, zR s0] [] sh pp mm (fun v sh pp mm => zS 34 11 [zR a0, zU, zU, zU] (zPush v []) sh pp mm Q) := s_call cF_findCommonOdd_8 cF_findCommonOdd_11 ((if_pos hk).trans rfl) rfl
theorem rF_findCommonOdd_11 {a0 : Nat} {u1 u2 u3 : zV} : zS 34 11 [zR a0, u1, u2, u3] [] sh pp mm Q ↔ zS 34 12 [zR a0, zU, zU, zU] [zR a0] sh pp mm Q := s_go cF_findCommonOdd_11 cF_findCommonOdd_12 rfl rfl
theorem rF_findCommonOdd_12 {a0 s0 : Nat} {u1 u2 u3 : zV} (hk : zKd sh s0 = 2) : zS 34 12 [zR a0, u1, u2, u3] [zR s0] sh pp mm Q ↔ zS 34 15 [zR a0, zU, zU, zU] [zR (pp s0 3)] sh pp mm Q := s_go cF_findCommonOdd_12 cF_findCommonOdd_15 (if_pos hk) rfl
theorem rF_findCommonOdd_15 {a0 s0 : Nat} {u1 u2 u3 : zV} : zS 34 15 [zR a0, u1, u2, u3] [zR s0] sh pp mm Q ↔ zS 34 16 [zR a0, zU, zU, zU] [zR a0, zR s0] sh pp mm Q := s_go cF_findCommonOdd_15 cF_findCommonOdd_16 rfl rfl
theorem rF_findCommonOdd_16 {a0 s0 s1 : Nat} {u1 u2 u3 : zV} (hk : zKd sh s0 = 2) : zS 34 16 [zR a0, u1, u2, u3] [zR s0, zR s1] sh pp mm Q ↔ zS 34 19 [zR a0, zU, zU, zU] [zR (pp s0 1), zR s1] sh pp mm Q := s_go cF_findCommonOdd_16 cF_findCommonOdd_19 (if_pos hk) rfl
theorem rF_findCommonOdd_19 {a0 s0 s1 : Nat} {u1 u2 u3 : zV} (hk : zKd sh s1 = 0) : zS 34 19 [zR a0, u1, u2, u3] [zR s0, zR s1] sh pp mm Q ↔ zS 2 0 [zR s1, zR s0] [] sh pp mm (fun v sh pp mm => zS 34 22 [zR a0, zU, zU, zU] (zPush v []) sh pp mm Q) := s_call cF_findCommonOdd_19 cF_findCommonOdd_22 ((if_pos hk).trans rfl) rfl
theorem rF_findCommonOdd_22 {a0 : Nat} {u1 u2 u3 : zV} : zS 34 22 [zR a0, u1, u2, u3] [] sh pp mm Q ↔ zS 34 23 [zR a0, zU, zU, zU] [zR a0] sh pp mm Q := s_go cF_findCommonOdd_22 cF_findCommonOdd_23 rfl rfl
theorem rF_findCommonOdd_23 {a0 s0 : Nat} {u1 u2 u3 : zV} (hk : zKd sh s0 = 2) : zS 34 23 [zR a0, u1, u2, u3] [zR s0] sh pp mm Q ↔ zS 34 26 [zR a0, zU, zU, zU] [zR (pp s0 2)] sh pp mm Q := s_go cF_findCommonOdd_23 cF_findCommonOdd_26 (if_pos hk) rfl
theorem rF_findCommonOdd_26 {a0 s0 : Nat} {u1 u2 u3 : zV} (hk : zKd sh s0 = 0) : zS 34 26 [zR a0, u1, u2, u3] [zR s0] sh pp mm Q ↔ zS 10 0 [zR s0, zU] [] sh pp mm (fun v sh pp mm => zS 34 29 [zR a0, zU, zU, zU] (zPush v []) sh pp mm Q) := s_call cF_findCommonOdd_26 cF_findCommonOdd_29 ((if_pos hk).trans rfl) rfl
theorem rF_findCommonOdd_29 {a0 : Nat} {u1 u2 u3 : zV} : zS 34 29 [zR a0, u1, u2, u3] [] sh pp mm Q ↔ zS 34 30 [zR a0, zU, zU, zU] [zR a0] sh pp mm Q := s_go cF_findCommonOdd_29 cF_findCommonOdd_30 rfl rfl
theorem rF_findCommonOdd_30 {a0 s0 : Nat} {u1 u2 u3 : zV} (hk : zKd sh s0 = 2) : zS 34 30 [zR a0, u1, u2, u3] [zR s0] sh pp mm Q ↔ zS 34 33 [zR a0, zU, zU, zU] [zR (pp s0 3)] sh pp mm Q := s_go cF_findCommonOdd_30 cF_findCommonOdd_33 (if_pos hk) rfl
theorem rF_findCommonOdd_33 {a0 s0 : Nat} {u1 u2 u3 : zV} (hk : zKd sh s0 = 0) : zS 34 33 [zR a0, u1, u2, u3] [zR s0] sh pp mm Q ↔ zS 10 0 [zR s0, zU] [] sh pp mm (fun v sh pp mm => zS 34 36 [zR a0, zU, zU, zU] (zPush v []) sh pp mm Q) := s_call cF_findCommonOdd_33 cF_findCommonOdd_36 ((if_pos hk).trans rfl) rfl
theorem rF_findCommonOdd_36 {a0 : Nat} {u1 u2 u3 : zV} : zS 34 36 [zR a0, u1, u2, u3] [] sh pp mm Q ↔ zS 34 37 [zR a0, zU, zU, zU] [zI 0] sh pp mm Q := s_go cF_findCommonOdd_36 cF_findCommonOdd_37 rfl rfl
theorem rF_findCommonOdd_37 {a0 : Nat} {s0 : Int} {u1 u2 u3 : zV} : zS 34 37 [zR a0, u1, u2, u3] [zI s0] sh pp mm Q ↔ zS 34 38 [zR a0, zI s0, zU, zU] [] sh pp mm Q := s_go cF_findCommonOdd_37 cF_findCommonOdd_38 rfl rfl
theorem rF_findCommonOdd_38 {a0 : Nat} {a1 : Int} {u2 u3 : zV} : zS 34 38 [zR a0, zI a1, u2, u3] [] sh pp mm Q ↔ zS 34 39 [zR a0, zI a1, zU, zU] [zI a1] sh pp mm Q := s_go cF_findCommonOdd_38 cF_findCommonOdd_39 rfl rfl
theorem rF_findCommonOdd_39 {a0 : Nat} {a1 s0 : Int} {u2 u3 : zV} : zS 34 39 [zR a0, zI a1, u2, u3] [zI s0] sh pp mm Q ↔ zS 34 42 [zR a0, zI a1, zU, zU] [zI 480, zI s0] sh pp mm Q := s_go cF_findCommonOdd_39 cF_findCommonOdd_42 rfl rfl
theorem rF_findCommonOdd_42 {a0 : Nat} {a1 s0 s1 : Int} {u2 u3 : zV} : zS 34 42 [zR a0, zI a1, u2, u3] [zI s0, zI s1] sh pp mm Q ↔ (s1 < s0 → zS 34 45 [zR a0, zI a1, zU, zU] [] sh pp mm Q) ∧ (¬ s1 < s0 → zS 34 107 [zU, zU, zU, zU] [] sh pp mm Q) := s_ifn cF_findCommonOdd_42 cF_findCommonOdd_45 cF_findCommonOdd_107 rfl rfl rfl
theorem rF_findCommonOdd_45 {a0 : Nat} {a1 : Int} {u2 u3 : zV} : zS 34 45 [zR a0, zI a1, u2, u3] [] sh pp mm Q ↔ zS 34 46 [zR a0, zI a1, zU, zU] [zR a0] sh pp mm Q := s_go cF_findCommonOdd_45 cF_findCommonOdd_46 rfl rfl
theorem rF_findCommonOdd_46 {a0 s0 : Nat} {a1 : Int} {u2 u3 : zV} (hk : zKd sh s0 = 2) : zS 34 46 [zR a0, zI a1, u2, u3] [zR s0] sh pp mm Q ↔ zS 34 49 [zR a0, zI a1, zU, zU] [zR (pp s0 2)] sh pp mm Q := s_go cF_findCommonOdd_46 cF_findCommonOdd_49 (if_pos hk) rfl
theorem rF_findCommonOdd_49 {a0 s0 : Nat} {a1 : Int} {u2 u3 : zV} : zS 34 49 [zR a0, zI a1, u2, u3] [zR s0] sh pp mm Q ↔ zS 34 50 [zR a0, zI a1, zU, zU] [zR a0, zR s0] sh pp mm Q := s_go cF_findCommonOdd_49 cF_findCommonOdd_50 rfl rfl
theorem rF_findCommonOdd_50 {a0 s0 s1 : Nat} {a1 : Int} {u2 u3 : zV} (hk : zKd sh s0 = 2) : zS 34 50 [zR a0, zI a1, u2, u3] [zR s0, zR s1] sh pp mm Q ↔ zS 34 53 [zR a0, zI a1, zU, zU] [zR (pp s0 3), zR s1] sh pp mm Q := s_go cF_findCommonOdd_50 cF_findCommonOdd_53 (if_pos hk) rfl
theorem rF_findCommonOdd_53 {a0 s0 s1 : Nat} {a1 : Int} {u2 u3 : zV} (hk : zKd sh s1 = 0) : zS 34 53 [zR a0, zI a1, u2, u3] [zR s0, zR s1] sh pp mm Q ↔ zS 11 0 [zR s1, zR s0, zU] [] sh pp mm (fun v sh pp mm => zS 34 56 [zR a0, zI a1, zU, zU] (zPush v []) sh pp mm Q) := s_call cF_findCommonOdd_53 cF_findCommonOdd_56 ((if_pos hk).trans rfl) rfl
theorem rF_findCommonOdd_56 {a0 : Nat} {a1 s0 : Int} {u2 u3 : zV} : zS 34 56 [zR a0, zI a1, u2, u3] [zI s0] sh pp mm Q ↔ zS 34 57 [zR a0, zI a1, zI s0, zU] [] sh pp mm Q := s_go cF_findCommonOdd_56 cF_findCommonOdd_57 rfl rfl
theorem rF_findCommonOdd_57 {a0 : Nat} {a1 a2 : Int} {u3 : zV} : zS 34 57 [zR a0, zI a1, zI a2, u3] [] sh pp mm Q ↔ zS 34 58 [zR a0, zI a1, zI a2, zU] [zI a2] sh pp mm Q := s_go cF_findCommonOdd_57 cF_findCommonOdd_58 rfl rfl
theorem rF_findCommonOdd_58 {a0 : Nat} {a1 a2 s0 : Int} {u3 : zV} : zS 34 58 [zR a0, zI a1, zI a2, u3] [zI s0] sh pp mm Q ↔ (s0 = 0 → zS 34 61 [zU, zU, zU, zU] [] sh pp mm Q) ∧ (¬ s0 = 0 → zS 34 62 [zR a0, zI a1, zI a2, zU] [] sh pp mm Q) := s_ifn cF_findCommonOdd_58 cF_findCommonOdd_61 cF_findCommonOdd_62 rfl rfl rfl
theorem rF_findCommonOdd_61 {u0 u1 u2 u3 : zV} : zS 34 61 [u0, u1, u2, u3] [] sh pp mm Q ↔ Q zU sh pp mm := s_ret cF_findCommonOdd_61 rfl
theorem rF_findCommonOdd_62 {a0 : Nat} {a1 a2 : Int} {u3 : zV} : zS 34 62 [zR a0, zI a1, zI a2, u3] [] sh pp mm Q ↔ zS 34 63 [zR a0, zI a1, zI a2, zU] [zI a2] sh pp mm Q := s_go cF_findCommonOdd_62 cF_findCommonOdd_63 rfl rfl
theorem rF_findCommonOdd_63 {a0 : Nat} {a1 a2 s0 : Int} {u3 : zV} : zS 34 63 [zR a0, zI a1, zI a2, u3] [zI s0] sh pp mm Q ↔ (0 < s0 → zS 34 66 [zR a0, zI a1, zI a2, zU] [] sh pp mm Q) ∧ (¬ 0 < s0 → zS 34 73 [zR a0, zI a1, zI a2, zU] [] sh pp mm Q) := s_ifn cF_findCommonOdd_63 cF_findCommonOdd_66 cF_findCommonOdd_73 rfl rfl rfl
theorem rF_findCommonOdd_66 {a0 : Nat} {a1 a2 : Int} {u3 : zV} : zS 34 66 [zR a0, zI a1, zI a2, u3] [] sh pp mm Q ↔ zS 34 67 [zR a0, zI a1, zI a2, zU] [zR a0] sh pp mm Q := s_go cF_findCommonOdd_66 cF_findCommonOdd_67 rfl rfl
theorem rF_findCommonOdd_67 {a0 s0 : Nat} {a1 a2 : Int} {u3 : zV} (hk : zKd sh s0 = 2) : zS 34 67 [zR a0, zI a1, zI a2, u3] [zR s0] sh pp mm Q ↔ zS 34 70 [zR a0, zI a1, zI a2, zU] [zR (pp s0 2)] sh pp mm Q := s_go cF_findCommonOdd_67 cF_findCommonOdd_70 (if_pos hk) rfl
theorem rF_findCommonOdd_70 {a0 s0 : Nat} {a1 a2 : Int} {u3 : zV} : zS 34 70 [zR a0, zI a1, zI a2, u3] [zR s0] sh pp mm Q ↔ zS 34 77 [zR a0, zI a1, zI a2, zU] [zR s0] sh pp mm Q := s_go cF_findCommonOdd_70 cF_findCommonOdd_77 rfl rfl
theorem rF_findCommonOdd_73 {a0 : Nat} {a1 a2 : Int} {u3 : zV} : zS 34 73 [zR a0, zI a1, zI a2, u3] [] sh pp mm Q ↔ zS 34 74 [zR a0, zI a1, zI a2, zU] [zR a0] sh pp mm Q := s_go cF_findCommonOdd_73 cF_findCommonOdd_74 rfl rfl
theorem rF_findCommonOdd_74 {a0 s0 : Nat} {a1 a2 : Int} {u3 : zV} (hk : zKd sh s0 = 2) : zS 34 74 [zR a0, zI a1, zI a2, u3] [zR s0] sh pp mm Q ↔ zS 34 77 [zR a0, zI a1, zI a2, zU] [zR (pp s0 3)] sh pp mm Q := s_go cF_findCommonOdd_74 cF_findCommonOdd_77 (if_pos hk) rfl
theorem rF_findCommonOdd_77 {a0 s0 : Nat} {a1 a2 : Int} {u3 : zV} : zS 34 77 [zR a0, zI a1, zI a2, u3] [zR s0] sh pp mm Q ↔ zS 34 78 [zR a0, zI a1, zI a2, zR s0] [] sh pp mm Q := s_go cF_findCommonOdd_77 cF_findCommonOdd_78 rfl rfl
theorem rF_findCommonOdd_78 {a0 a3 : Nat} {a1 a2 : Int} : zS 34 78 [zR a0, zI a1, zI a2, zR a3] [] sh pp mm Q ↔ zS 34 79 [zR a0, zI a1, zI a2, zR a3] [zR a3] sh pp mm Q := s_go cF_findCommonOdd_78 cF_findCommonOdd_79 rfl rfl
theorem rF_findCommonOdd_79 {a0 a3 s0 : Nat} {a1 a2 : Int} : zS 34 79 [zR a0, zI a1, zI a2, zR a3] [zR s0] sh pp mm Q ↔ zS 34 80 [zR a0, zI a1, zU, zR a3] [zI a2, zR s0] sh pp mm Q := s_go cF_findCommonOdd_79 cF_findCommonOdd_80 rfl rfl
theorem rF_findCommonOdd_80 {a0 a3 s1 : Nat} {a1 s0 : Int} {u2 : zV} : zS 34 80 [zR a0, zI a1, u2, zR a3] [zI s0, zR s1] sh pp mm Q ↔ (0 < s0 → zS 34 83 [zR a0, zI a1, zU, zR a3] [zR s1] sh pp mm Q) ∧ (¬ 0 < s0 → zS 34 90 [zR a0, zI a1, zU, zR a3] [zR s1] sh pp mm Q) := s_ifn cF_findCommonOdd_80 cF_findCommonOdd_83 cF_findCommonOdd_90 rfl rfl rfl
theorem rF_findCommonOdd_83 {a0 a3 s0 : Nat} {a1 : Int} {u2 : zV} : zS 34 83 [zR a0, zI a1, u2, zR a3] [zR s0] sh pp mm Q ↔ zS 34 84 [zR a0, zI a1, zU, zR a3] [zR a0, zR s0] sh pp mm Q := s_go cF_findCommonOdd_83 cF_findCommonOdd_84 rfl rfl
theorem rF_findCommonOdd_84 {a0 a3 s0 s1 : Nat} {a1 : Int} {u2 : zV} (hk : zKd sh s0 = 2) : zS 34 84 [zR a0, zI a1, u2, zR a3] [zR s0, zR s1] sh pp mm Q ↔ zS 34 87 [zR a0, zI a1, zU, zR a3] [zR (pp s0 3), zR s1] sh pp mm Q := s_go cF_findCommonOdd_84 cF_findCommonOdd_87 (if_pos hk) rfl
theorem rF_findCommonOdd_87 {a0 a3 s0 s1 : Nat} {a1 : Int} {u2 : zV} : zS 34 87 [zR a0, zI a1, u2, zR a3] [zR s0, zR s1] sh pp mm Q ↔ zS 34 94 [zR a0, zI a1, zU, zR a3] [zR s0, zR s1] sh pp mm Q := s_go cF_findCommonOdd_87 cF_findCommonOdd_94 rfl rfl
theorem rF_findCommonOdd_90 {a0 a3 s0 : Nat} {a1 : Int} {u2 : zV} : zS 34 90 [zR a0, zI a1, u2, zR a3] [zR s0] sh pp mm Q ↔ zS 34 91 [zR a0, zI a1, zU, zR a3] [zR a0, zR s0] sh pp mm Q := s_go cF_findCommonOdd_90 cF_findCommonOdd_91 rfl rfl
theorem rF_findCommonOdd_91 {a0 a3 s0 s1 : Nat} {a1 : Int} {u2 : zV} (hk : zKd sh s0 = 2) : zS 34 91 [zR a0, zI a1, u2, zR a3] [zR s0, zR s1] sh pp mm Q ↔ zS 34 94 [zR a0, zI a1, zU, zR a3] [zR (pp s0 2), zR s1] sh pp mm Q := s_go cF_findCommonOdd_91 cF_findCommonOdd_94 (if_pos hk) rfl
theorem rF_findCommonOdd_94 {a0 a3 s0 s1 : Nat} {a1 : Int} {u2 : zV} (hk : zKd sh s1 = 0) : zS 34 94 [zR a0, zI a1, u2, zR a3] [zR s0, zR s1] sh pp mm Q ↔ zS 8 0 [zR s1, zR s0, zU, zU, zU] [] sh pp mm (fun v sh pp mm => zS 34 97 [zR a0, zI a1, zU, zR a3] (zPush v []) sh pp mm Q) := s_call cF_findCommonOdd_94 cF_findCommonOdd_97 ((if_pos hk).trans rfl) rfl
theorem rF_findCommonOdd_97 {a0 a3 : Nat} {a1 : Int} {u2 : zV} : zS 34 97 [zR a0, zI a1, u2, zR a3] [] sh pp mm Q ↔ zS 34 98 [zR a0, zI a1, zU, zU] [zR a3] sh pp mm Q := s_go cF_findCommonOdd_97 cF_findCommonOdd_98 rfl rfl
theorem rF_findCommonOdd_98 {a0 s0 : Nat} {a1 : Int} {u2 u3 : zV} (hk : zKd sh s0 = 0) : zS 34 98 [zR a0, zI a1, u2, u3] [zR s0] sh pp mm Q ↔ zS 10 0 [zR s0, zU] [] sh pp mm (fun v sh pp mm => zS 34 101 [zR a0, zI a1, zU, zU] (zPush v []) sh pp mm Q) := s_call cF_findCommonOdd_98 cF_findCommonOdd_101 ((if_pos hk).trans rfl) rfl
theorem rF_findCommonOdd_101 {a0 : Nat} {a1 : Int} {u2 u3 : zV} : zS 34 101 [zR a0, zI a1, u2, u3] [] sh pp mm Q ↔ zS 34 104 [zR a0, zI (zw32 (a1 + 1)), zU, zU] [] sh pp mm Q := s_go cF_findCommonOdd_101 cF_findCommonOdd_104 rfl rfl
theorem rF_findCommonOdd_104 {a0 : Nat} {a1 : Int} {u2 u3 : zV} : zS 34 104 [zR a0, zI a1, u2, u3] [] sh pp mm Q ↔ zS 34 38 [zR a0, zI a1, zU, zU] [] sh pp mm Q := s_go cF_findCommonOdd_104 cF_findCommonOdd_38 rfl rfl
theorem rF_findCommonOdd_107 {u0 u1 u2 u3 : zV} : zS 34 107 [u0, u1, u2, u3] [] sh pp mm Q ↔ Q zU sh pp mm := s_ret cF_findCommonOdd_107 rfl
theorem cAF_tell : ∀ q ∈ zT35, zCode 35 q.1 = some q.2 := zAll (mid := 35) rfl (by decide +kernel)
theorem cAF_tell_0 : ∀ q ∈ zT35_0, zCode 35 q.1 = some q.2 := fun q h => cAF_tell q (List.mem_append_left _ h)
theorem cAF_tell_1 : ∀ q ∈ zT35_1, zCode 35 q.1 = some q.2 := fun q h => cAF_tell q (List.mem_append_right _ h)
theorem cF_tell_0 : zCode 35 0 = some (.iload_n 1, 1, 0, 0, 0, 0, 3) := cAF_tell_0 _ (List.mem_of_getElem? (i := 0) rfl)
theorem cF_tell_1 : zCode 35 1 = some (.ifCond .ne 19, 4, 20, 0, 0, 0, 3) := cAF_tell_0 _ (List.mem_of_getElem? (i := 1) rfl)
theorem cF_tell_4 : zCode 35 4 = some (.aload_n 0, 5, 0, 0, 0, 0, 1) := cAF_tell_0 _ (List.mem_of_getElem? (i := 2) rfl)
theorem cF_tell_5 : zCode 35 5 = some (.getfield 12, 8, 2, 0, 2, 349, 0) := cAF_tell_0 _ (List.mem_of_getElem? (i := 3) rfl)
theorem cF_tell_8 : zCode 35 8 = some (.getfield 58, 11, 0, 1, 0, 336, 0) := cAF_tell_0 _ (List.mem_of_getElem? (i := 4) rfl)
theorem cF_tell_11 : zCode 35 11 = some (.ifCond .ne 7, 14, 18, 0, 0, 0, 0) := cAF_tell_0 _ (List.mem_of_getElem? (i := 5) rfl)
theorem cF_tell_14 : zCode 35 14 = some (.iconst 0, 15, 0, 0, 0, 0, 0) := cAF_tell_0 _ (List.mem_of_getElem? (i := 6) rfl)
theorem cF_tell_15 : zCode 35 15 = some (.goto 4, 18, 19, 0, 0, 0, 0) := cAF_tell_0 _ (List.mem_of_getElem? (i := 7) rfl)
theorem cF_tell_18 : zCode 35 18 = some (.iconst 1, 19, 0, 0, 0, 0, 0) := cAF_tell_0 _ (List.mem_of_getElem? (i := 8) rfl)
theorem cF_tell_19 : zCode 35 19 = some (.ireturn, 20, 0, 0, 0, 0, 0) := cAF_tell_0 _ (List.mem_of_getElem? (i := 9) rfl)
theorem cF_tell_20 : zCode 35 20 = some (.iload_n 1, 21, 0, 0, 0, 0, 3) := cAF_tell_0 _ (List.mem_of_getElem? (i := 10) rfl)
theorem cF_tell_21 : zCode 35 21 = some (.iconst 1, 22, 0, 0, 0, 0, 1) := cAF_tell_0 _ (List.mem_of_getElem? (i := 11) rfl)
theorem cF_tell_22 : zCode 35 22 = some (.if_icmp .ne 13, 25, 35, 0, 0, 0, 1) := cAF_tell_0 _ (List.mem_of_getElem? (i := 12) rfl)
theorem cF_tell_25 : zCode 35 25 = some (.aload_n 0, 26, 0, 0, 0, 0, 1) := cAF_tell_0 _ (List.mem_of_getElem? (i := 13) rfl)
theorem cF_tell_26 : zCode 35 26 = some (.getfield 12, 29, 2, 0, 2, 349, 0) := cAF_tell_0 _ (List.mem_of_getElem? (i := 14) rfl)
theorem cF_tell_29 : zCode 35 29 = some (.getfield 58, 32, 0, 1, 0, 336, 0) := cAF_tell_0 _ (List.mem_of_getElem? (i := 15) rfl)
theorem cF_tell_32 : zCode 35 32 = some (.goto 10, 35, 42, 0, 0, 0, 0) := cAF_tell_1 _ (List.mem_of_getElem? (i := 0) rfl)
theorem cF_tell_35 : zCode 35 35 = some (.aload_n 0, 36, 0, 0, 0, 0, 1) := cAF_tell_1 _ (List.mem_of_getElem? (i := 1) rfl)
theorem cF_tell_36 : zCode 35 36 = some (.getfield 18, 39, 2, 1, 2, 351, 0) := cAF_tell_1 _ (List.mem_of_getElem? (i := 2) rfl)
theorem cF_tell_39 : zCode 35 39 = some (.getfield 58, 42, 0, 1, 0, 336, 0) := cAF_tell_1 _ (List.mem_of_getElem? (i := 3) rfl)
theorem cF_tell_42 : zCode 35 42 = some (.ireturn, 43, 0, 0, 0, 0, 0) := cAF_tell_1 _ (List.mem_of_getElem? (i := 4) rfl)
theorem rF_tell_0 {a0 : Nat} {a1 : Int} : zS 35 0 [zR a0, zI a1] [] sh pp mm Q ↔ zS 35 1 [zR a0, zI a1] [zI a1] sh pp mm Q := s_go cF_tell_0 cF_tell_1 rfl rfl
theorem rF_tell_1 {a0 : Nat} {a1 s0 : Int} : zS 35 1 [zR a0, zI a1] [zI s0] sh pp mm Q ↔ (s0 = 0 → zS 35 4 [zR a0, zU] [] sh pp mm Q) ∧ (¬ s0 = 0 → zS 35 20 [zR a0, zI a1] [] sh pp mm Q) := s_ifn cF_tell_1 cF_tell_4 cF_tell_20 rfl rfl rfl
theorem rF_tell_4 {a0 : Nat} {u1 : zV} : zS 35 4 [zR a0, u1] [] sh pp mm Q ↔ zS 35 5 [zU, zU] [zR a0] sh pp mm Q := s_go cF_tell_4 cF_tell_5 rfl rfl
theorem rF_tell_5 {s0 : Nat} {u0 u1 : zV} (hk : zKd sh s0 = 2) : zS 35 5 [u0, u1] [zR s0] sh pp mm Q ↔ zS 35 8 [zU, zU] [zR (pp s0 0)] sh pp mm Q := s_go cF_tell_5 cF_tell_8 (if_pos hk) rfl
theorem rF_tell_8 {s0 : Nat} {u0 u1 : zV} (hk : zKd sh s0 = 0) : zS 35 8 [u0, u1] [zR s0] sh pp mm Q ↔ zS 35 11 [zU, zU] [zI (mm s0 1)] sh pp mm Q := s_go cF_tell_8 cF_tell_11 (if_pos hk) rfl
theorem rF_tell_11 {s0 : Int} {u0 u1 : zV} : zS 35 11 [u0, u1] [zI s0] sh pp mm Q ↔ (s0 = 0 → zS 35 14 [zU, zU] [] sh pp mm Q) ∧ (¬ s0 = 0 → zS 35 18 [zU, zU] [] sh pp mm Q) := s_ifn cF_tell_11 cF_tell_14 cF_tell_18 rfl rfl rfl
theorem rF_tell_14 {u0 u1 : zV} : zS 35 14 [u0, u1] [] sh pp mm Q ↔ zS 35 15 [zU, zU] [zI 0] sh pp mm Q := s_go cF_tell_14 cF_tell_15 rfl rfl
theorem rF_tell_15 {s0 : Int} {u0 u1 : zV} : zS 35 15 [u0, u1] [zI s0] sh pp mm Q ↔ zS 35 19 [zU, zU] [zI s0] sh pp mm Q := s_go cF_tell_15 cF_tell_19 rfl rfl
theorem rF_tell_18 {u0 u1 : zV} : zS 35 18 [u0, u1] [] sh pp mm Q ↔ zS 35 19 [zU, zU] [zI 1] sh pp mm Q := s_go cF_tell_18 cF_tell_19 rfl rfl
theorem rF_tell_19 {s0 : Int} {u0 u1 : zV} : zS 35 19 [u0, u1] [zI s0] sh pp mm Q ↔ Q (zI s0) sh pp mm := s_ret cF_tell_19 rfl
theorem rF_tell_20 {a0 : Nat} {a1 : Int} : zS 35 20 [zR a0, zI a1] [] sh pp mm Q ↔ zS 35 21 [zR a0, zU] [zI a1] sh pp mm Q := s_go cF_tell_20 cF_tell_21 rfl rfl
theorem rF_tell_21 {a0 : Nat} {s0 : Int} {u1 : zV} : zS 35 21 [zR a0, u1] [zI s0] sh pp mm Q ↔ zS 35 22 [zR a0, zU] [zI 1, zI s0] sh pp mm Q := s_go cF_tell_21 cF_tell_22 rfl rfl
theorem rF_tell_22 {a0 : Nat} {s0 s1 : Int} {u1 : zV} : zS 35 22 [zR a0, u1] [zI s0, zI s1] sh pp mm Q ↔ (s1 = s0 → zS 35 25 [zR a0, zU] [] sh pp mm Q) ∧ (¬ s1 = s0 → zS 35 35 [zR a0, zU] [] sh pp mm Q) := s_ifn cF_tell_22 cF_tell_25 cF_tell_35 rfl rfl rfl
theorem rF_tell_25 {a0 : Nat} {u1 : zV} : zS 35 25 [zR a0, u1] [] sh pp mm Q ↔ zS 35 26 [zU, zU] [zR a0] sh pp mm Q := s_go cF_tell_25 cF_tell_26 rfl rfl
theorem rF_tell_26 {s0 : Nat} {u0 u1 : zV} (hk : zKd sh s0 = 2) : zS 35 26 [u0, u1] [zR s0] sh pp mm Q ↔ zS 35 29 [zU, zU] [zR (pp s0 0)] sh pp mm Q := s_go cF_tell_26 cF_tell_29 (if_pos hk) rfl
theorem rF_tell_29 {s0 : Nat} {u0 u1 : zV} (hk : zKd sh s0 = 0) : zS 35 29 [u0, u1] [zR s0] sh pp mm Q ↔ zS 35 32 [zU, zU] [zI (mm s0 1)] sh pp mm Q := s_go cF_tell_29 cF_tell_32 (if_pos hk) rfl
theorem rF_tell_32 {s0 : Int} {u0 u1 : zV} : zS 35 32 [u0, u1] [zI s0] sh pp mm Q ↔ zS 35 42 [zU, zU] [zI s0] sh pp mm Q := s_go cF_tell_32 cF_tell_42 rfl rfl
theorem rF_tell_35 {a0 : Nat} {u1 : zV} : zS 35 35 [zR a0, u1] [] sh pp mm Q ↔ zS 35 36 [zU, zU] [zR a0] sh pp mm Q := s_go cF_tell_35 cF_tell_36 rfl rfl
theorem rF_tell_36 {s0 : Nat} {u0 u1 : zV} (hk : zKd sh s0 = 2) : zS 35 36 [u0, u1] [zR s0] sh pp mm Q ↔ zS 35 39 [zU, zU] [zR (pp s0 1)] sh pp mm Q := s_go cF_tell_36 cF_tell_39 (if_pos hk) rfl
theorem rF_tell_39 {s0 : Nat} {u0 u1 : zV} (hk : zKd sh s0 = 0) : zS 35 39 [u0, u1] [zR s0] sh pp mm Q ↔ zS 35 42 [zU, zU] [zI (mm s0 1)] sh pp mm Q := s_go cF_tell_39 cF_tell_42 (if_pos hk) rfl
theorem rF_tell_42 {s0 : Int} {u0 u1 : zV} : zS 35 42 [u0, u1] [zI s0] sh pp mm Q ↔ Q (zI s0) sh pp mm := s_ret cF_tell_42 rfl
theorem cAF_fold : ∀ q ∈ zT36, zCode 36 q.1 = some q.2 := zAll (mid := 36) rfl (by decide +kernel)
theorem cAF_fold_0 : ∀ q ∈ zT36_0, zCode 36 q.1 = some q.2 := fun q h => cAF_fold q (List.mem_append_left _ h)
theorem cAF_fold_1 : ∀ q ∈ zT36_1, zCode 36 q.1 = some q.2 := fun q h => cAF_fold q (List.mem_append_right _ h)
theorem cF_fold_0 : zCode 36 0 = some (.lload_n 1, 1, 0, 0, 0, 0, 3) := cAF_fold_0 _ (List.mem_of_getElem? (i := 0) rfl)
theorem cF_fold_1 : zCode 36 1 = some (.lstore_n 3, 2, 0, 0, 0, 0, 1) := cAF_fold_0 _ (List.mem_of_getElem? (i := 1) rfl)
theorem cF_fold_2 : zCode 36 2 = some (.iconst 0, 3, 0, 0, 0, 0, 9) := cAF_fold_0 _ (List.mem_of_getElem? (i := 2) rfl)
theorem cF_fold_3 : zCode 36 3 = some (.istore 5, 5, 0, 0, 0, 0, 9) := cAF_fold_0 _ (List.mem_of_getElem? (i := 3) rfl)
theorem cF_fold_5 : zCode 36 5 = some (.iload 5, 7, 0, 0, 0, 0, 41) := cAF_fold_0 _ (List.mem_of_getElem? (i := 4) rfl)
theorem cF_fold_7 : zCode 36 7 = some (.iconst 3, 8, 0, 0, 0, 0, 41) := cAF_fold_0 _ (List.mem_of_getElem? (i := 5) rfl)
theorem cF_fold_8 : zCode 36 8 = some (.if_icmp .ge 23, 11, 31, 0, 0, 0, 41) := cAF_fold_0 _ (List.mem_of_getElem? (i := 6) rfl)
theorem cF_fold_11 : zCode 36 11 = some (.ldc2_w 91, 14, 0, 0, 1190, 31, 41) := cAF_fold_0 _ (List.mem_of_getElem? (i := 7) rfl)
theorem cF_fold_14 : zCode 36 14 = some (.lload_n 3, 15, 0, 0, 0, 0, 41) := cAF_fold_0 _ (List.mem_of_getElem? (i := 8) rfl)
theorem cF_fold_15 : zCode 36 15 = some (.lmul, 16, 0, 0, 0, 0, 33) := cAF_fold_0 _ (List.mem_of_getElem? (i := 9) rfl)
theorem cF_fold_16 : zCode 36 16 = some (.aload_n 0, 17, 0, 0, 0, 0, 33) := cAF_fold_0 _ (List.mem_of_getElem? (i := 10) rfl)
theorem cF_fold_17 : zCode 36 17 = some (.iload 5, 19, 0, 0, 0, 0, 33) := cAF_fold_0 _ (List.mem_of_getElem? (i := 11) rfl)
theorem cF_fold_19 : zCode 36 19 = some (.invokevirtual 93, 22, 35, 1, 2, 2, 33) := cAF_fold_0 _ (List.mem_of_getElem? (i := 12) rfl)
theorem cF_fold_22 : zCode 36 22 = some (.i2l, 23, 0, 0, 0, 0, 33) := cAF_fold_0 _ (List.mem_of_getElem? (i := 13) rfl)
theorem cF_fold_23 : zCode 36 23 = some (.ladd, 24, 0, 0, 0, 0, 33) := cAF_fold_0 _ (List.mem_of_getElem? (i := 14) rfl)
theorem cF_fold_24 : zCode 36 24 = some (.lstore_n 3, 25, 0, 0, 0, 0, 33) := cAF_fold_0 _ (List.mem_of_getElem? (i := 15) rfl)
theorem cF_fold_25 : zCode 36 25 = some (.iinc 5 1, 28, 0, 0, 0, 0, 41) := cAF_fold_1 _ (List.mem_of_getElem? (i := 0) rfl)
theorem cF_fold_28 : zCode 36 28 = some (.goto (-23), 31, 5, 0, 0, 0, 41) := cAF_fold_1 _ (List.mem_of_getElem? (i := 1) rfl)
theorem cF_fold_31 : zCode 36 31 = some (.aload_n 0, 32, 0, 0, 0, 0, 9) := cAF_fold_1 _ (List.mem_of_getElem? (i := 2) rfl)
theorem cF_fold_32 : zCode 36 32 = some (.getfield 18, 35, 2, 1, 2, 351, 9) := cAF_fold_1 _ (List.mem_of_getElem? (i := 3) rfl)
theorem cF_fold_35 : zCode 36 35 = some (.aload_n 0, 36, 0, 0, 0, 0, 9) := cAF_fold_1 _ (List.mem_of_getElem? (i := 4) rfl)
theorem cF_fold_36 : zCode 36 36 = some (.getfield 12, 39, 2, 0, 2, 349, 8) := cAF_fold_1 _ (List.mem_of_getElem? (i := 5) rfl)
theorem cF_fold_39 : zCode 36 39 = some (.lload_n 3, 40, 0, 0, 0, 0, 8) := cAF_fold_1 _ (List.mem_of_getElem? (i := 6) rfl)
theorem cF_fold_40 : zCode 36 40 = some (.invokevirtual 97, 43, 14, 1, 6, 0, 0) := cAF_fold_1 _ (List.mem_of_getElem? (i := 7) rfl)
theorem cF_fold_43 : zCode 36 43 = some (.invokevirtual 97, 46, 14, 1, 6, 0, 0) := cAF_fold_1 _ (List.mem_of_getElem? (i := 8) rfl)
theorem cF_fold_46 : zCode 36 46 = some (.lreturn, 47, 0, 0, 0, 0, 0) := cAF_fold_1 _ (List.mem_of_getElem? (i := 9) rfl)
theorem rF_fold_0 {a0 : Nat} {a1 : Int} {u2 u3 u4 u5 : zV} : zS 36 0 [zR a0, zL a1, u2, u3, u4, u5] [] sh pp mm Q ↔ zS 36 1 [zR a0, zU, zU, zU, zU, zU] [zL a1] sh pp mm Q := s_go cF_fold_0 cF_fold_1 rfl rfl
theorem rF_fold_1 {a0 : Nat} {s0 : Int} {u1 u2 u3 u4 u5 : zV} : zS 36 1 [zR a0, u1, u2, u3, u4, u5] [zL s0] sh pp mm Q ↔ zS 36 2 [zR a0, zU, zU, zL s0, zU, zU] [] sh pp mm Q := s_go cF_fold_1 cF_fold_2 rfl rfl
theorem rF_fold_2 {a0 : Nat} {a3 : Int} {u1 u2 u4 u5 : zV} : zS 36 2 [zR a0, u1, u2, zL a3, u4, u5] [] sh pp mm Q ↔ zS 36 3 [zR a0, zU, zU, zL a3, zU, zU] [zI 0] sh pp mm Q := s_go cF_fold_2 cF_fold_3 rfl rfl
theorem rF_fold_3 {a0 : Nat} {a3 s0 : Int} {u1 u2 u4 u5 : zV} : zS 36 3 [zR a0, u1, u2, zL a3, u4, u5] [zI s0] sh pp mm Q ↔ zS 36 5 [zR a0, zU, zU, zL a3, zU, zI s0] [] sh pp mm Q := s_go cF_fold_3 cF_fold_5 rfl rfl
theorem rF_fold_5 {a0 : Nat} {a3 a5 : Int} {u1 u2 u4 : zV} : zS 36 5 [zR a0, u1, u2, zL a3, u4, zI a5] [] sh pp mm Q ↔ zS 36 7 [zR a0, zU, zU, zL a3, zU, zI a5] [zI a5] sh pp mm Q := s_go cF_fold_5 cF_fold_7 rfl rfl
theorem rF_fold_7 {a0 : Nat} {a3 a5 s0 : Int} {u1 u2 u4 : zV} : zS 36 7 [zR a0, u1, u2, zL a3, u4, zI a5] [zI s0] sh pp mm Q ↔ zS 36 8 [zR a0, zU, zU, zL a3, zU, zI a5] [zI 3, zI s0] sh pp mm Q := s_go cF_fold_7 cF_fold_8 rfl rfl
theorem rF_fold_8 {a0 : Nat} {a3 a5 s0 s1 : Int} {u1 u2 u4 : zV} : zS 36 8 [zR a0, u1, u2, zL a3, u4, zI a5] [zI s0, zI s1] sh pp mm Q ↔ (s1 < s0 → zS 36 11 [zR a0, zU, zU, zL a3, zU, zI a5] [] sh pp mm Q) ∧ (¬ s1 < s0 → zS 36 31 [zR a0, zU, zU, zL a3, zU, zU] [] sh pp mm Q) := s_ifn cF_fold_8 cF_fold_11 cF_fold_31 rfl rfl rfl
theorem rF_fold_11 {a0 : Nat} {a3 a5 : Int} {u1 u2 u4 : zV} : zS 36 11 [zR a0, u1, u2, zL a3, u4, zI a5] [] sh pp mm Q ↔ zS 36 14 [zR a0, zU, zU, zL a3, zU, zI a5] [zL 31] sh pp mm Q := s_go cF_fold_11 cF_fold_14 rfl rfl
theorem rF_fold_14 {a0 : Nat} {a3 a5 s0 : Int} {u1 u2 u4 : zV} : zS 36 14 [zR a0, u1, u2, zL a3, u4, zI a5] [zL s0] sh pp mm Q ↔ zS 36 15 [zR a0, zU, zU, zU, zU, zI a5] [zL a3, zL s0] sh pp mm Q := s_go cF_fold_14 cF_fold_15 rfl rfl
theorem rF_fold_15 {a0 : Nat} {a5 s0 s1 : Int} {u1 u2 u3 u4 : zV} : zS 36 15 [zR a0, u1, u2, u3, u4, zI a5] [zL s0, zL s1] sh pp mm Q ↔ zS 36 16 [zR a0, zU, zU, zU, zU, zI a5] [zL (zw64 (s1 * s0))] sh pp mm Q := s_go cF_fold_15 cF_fold_16 rfl rfl
theorem rF_fold_16 {a0 : Nat} {a5 s0 : Int} {u1 u2 u3 u4 : zV} : zS 36 16 [zR a0, u1, u2, u3, u4, zI a5] [zL s0] sh pp mm Q ↔ zS 36 17 [zR a0, zU, zU, zU, zU, zI a5] [zR a0, zL s0] sh pp mm Q := s_go cF_fold_16 cF_fold_17 rfl rfl
theorem rF_fold_17 {a0 s0 : Nat} {a5 s1 : Int} {u1 u2 u3 u4 : zV} : zS 36 17 [zR a0, u1, u2, u3, u4, zI a5] [zR s0, zL s1] sh pp mm Q ↔ zS 36 19 [zR a0, zU, zU, zU, zU, zI a5] [zI a5, zR s0, zL s1] sh pp mm Q := s_go cF_fold_17 cF_fold_19 rfl rfl
theorem rF_fold_19 {a0 s1 : Nat} {a5 s0 s2 : Int} {u1 u2 u3 u4 : zV} (hk : zKd sh s1 = 2) : zS 36 19 [zR a0, u1, u2, u3, u4, zI a5] [zI s0, zR s1, zL s2] sh pp mm Q ↔ zS 35 0 [zR s1, zI s0] [] sh pp mm (fun v sh pp mm => zS 36 22 [zR a0, zU, zU, zU, zU, zI a5] (zPush v [zL s2]) sh pp mm Q) := s_call cF_fold_19 cF_fold_22 ((if_pos hk).trans rfl) rfl
theorem rF_fold_22 {a0 : Nat} {a5 s0 s1 : Int} {u1 u2 u3 u4 : zV} : zS 36 22 [zR a0, u1, u2, u3, u4, zI a5] [zI s0, zL s1] sh pp mm Q ↔ zS 36 23 [zR a0, zU, zU, zU, zU, zI a5] [zL s0, zL s1] sh pp mm Q := s_go cF_fold_22 cF_fold_23 rfl rfl
theorem rF_fold_23 {a0 : Nat} {a5 s0 s1 : Int} {u1 u2 u3 u4 : zV} : zS 36 23 [zR a0, u1, u2, u3, u4, zI a5] [zL s0, zL s1] sh pp mm Q ↔ zS 36 24 [zR a0, zU, zU, zU, zU, zI a5] [zL (zw64 (s1 + s0))] sh pp mm Q := s_go cF_fold_23 cF_fold_24 rfl rfl
theorem rF_fold_24 {a0 : Nat} {a5 s0 : Int} {u1 u2 u3 u4 : zV} : zS 36 24 [zR a0, u1, u2, u3, u4, zI a5] [zL s0] sh pp mm Q ↔ zS 36 25 [zR a0, zU, zU, zL s0, zU, zI a5] [] sh pp mm Q := s_go cF_fold_24 cF_fold_25 rfl rfl
theorem rF_fold_25 {a0 : Nat} {a3 a5 : Int} {u1 u2 u4 : zV} : zS 36 25 [zR a0, u1, u2, zL a3, u4, zI a5] [] sh pp mm Q ↔ zS 36 28 [zR a0, zU, zU, zL a3, zU, zI (zw32 (a5 + 1))] [] sh pp mm Q := s_go cF_fold_25 cF_fold_28 rfl rfl
theorem rF_fold_28 {a0 : Nat} {a3 a5 : Int} {u1 u2 u4 : zV} : zS 36 28 [zR a0, u1, u2, zL a3, u4, zI a5] [] sh pp mm Q ↔ zS 36 5 [zR a0, zU, zU, zL a3, zU, zI a5] [] sh pp mm Q := s_go cF_fold_28 cF_fold_5 rfl rfl
theorem rF_fold_31 {a0 : Nat} {a3 : Int} {u1 u2 u4 u5 : zV} : zS 36 31 [zR a0, u1, u2, zL a3, u4, u5] [] sh pp mm Q ↔ zS 36 32 [zR a0, zU, zU, zL a3, zU, zU] [zR a0] sh pp mm Q := s_go cF_fold_31 cF_fold_32 rfl rfl
theorem rF_fold_32 {a0 s0 : Nat} {a3 : Int} {u1 u2 u4 u5 : zV} (hk : zKd sh s0 = 2) : zS 36 32 [zR a0, u1, u2, zL a3, u4, u5] [zR s0] sh pp mm Q ↔ zS 36 35 [zR a0, zU, zU, zL a3, zU, zU] [zR (pp s0 1)] sh pp mm Q := s_go cF_fold_32 cF_fold_35 (if_pos hk) rfl
theorem rF_fold_35 {a0 s0 : Nat} {a3 : Int} {u1 u2 u4 u5 : zV} : zS 36 35 [zR a0, u1, u2, zL a3, u4, u5] [zR s0] sh pp mm Q ↔ zS 36 36 [zU, zU, zU, zL a3, zU, zU] [zR a0, zR s0] sh pp mm Q := s_go cF_fold_35 cF_fold_36 rfl rfl
theorem rF_fold_36 {s0 s1 : Nat} {a3 : Int} {u0 u1 u2 u4 u5 : zV} (hk : zKd sh s0 = 2) : zS 36 36 [u0, u1, u2, zL a3, u4, u5] [zR s0, zR s1] sh pp mm Q ↔ zS 36 39 [zU, zU, zU, zL a3, zU, zU] [zR (pp s0 0), zR s1] sh pp mm Q := s_go cF_fold_36 cF_fold_39 (if_pos hk) rfl
theorem rF_fold_39 {s0 s1 : Nat} {a3 : Int} {u0 u1 u2 u4 u5 : zV} : zS 36 39 [u0, u1, u2, zL a3, u4, u5] [zR s0, zR s1] sh pp mm Q ↔ zS 36 40 [zU, zU, zU, zU, zU, zU] [zL a3, zR s0, zR s1] sh pp mm Q := s_go cF_fold_39 cF_fold_40 rfl rfl
theorem rF_fold_40 {s1 s2 : Nat} {s0 : Int} {u0 u1 u2 u3 u4 u5 : zV} (hk : zKd sh s1 = 0) : zS 36 40 [u0, u1, u2, u3, u4, u5] [zL s0, zR s1, zR s2] sh pp mm Q ↔ zS 14 0 [zR s1, zL s0, zU, zU, zU, zU] [] sh pp mm (fun v sh pp mm => zS 36 43 [zU, zU, zU, zU, zU, zU] (zPush v [zR s2]) sh pp mm Q) := s_call cF_fold_40 cF_fold_43 ((if_pos hk).trans rfl) rfl
theorem rF_fold_43 {s1 : Nat} {s0 : Int} {u0 u1 u2 u3 u4 u5 : zV} (hk : zKd sh s1 = 0) : zS 36 43 [u0, u1, u2, u3, u4, u5] [zL s0, zR s1] sh pp mm Q ↔ zS 14 0 [zR s1, zL s0, zU, zU, zU, zU] [] sh pp mm (fun v sh pp mm => zS 36 46 [zU, zU, zU, zU, zU, zU] (zPush v []) sh pp mm Q) := s_call cF_fold_43 cF_fold_46 ((if_pos hk).trans rfl) rfl
theorem rF_fold_46 {s0 : Int} {u0 u1 u2 u3 u4 u5 : zV} : zS 36 46 [u0, u1, u2, u3, u4, u5] [zL s0] sh pp mm Q ↔ Q (zL s0) sh pp mm := s_ret cF_fold_46 rfl
theorem cAG_init : ∀ q ∈ zT37, zCode 37 q.1 = some q.2 := zAll (mid := 37) rfl (by decide +kernel)
theorem cAG_init_0 : ∀ q ∈ zT37_0, zCode 37 q.1 = some q.2 := fun q h => cAG_init q (List.mem_append_left _ h)
theorem cAG_init_1 : ∀ q ∈ zT37_1, zCode 37 q.1 = some q.2 := fun q h => cAG_init q (List.mem_append_right _ h)
theorem cG_init_0 : zCode 37 0 = some (.aload_n 0, 1, 0, 0, 0, 0, 1) := cAG_init_0 _ (List.mem_of_getElem? (i := 0) rfl)
theorem cG_init_1 : zCode 37 1 = some (.invokespecial 3, 4, 0, 78, 0, 297, 1) := cAG_init_0 _ (List.mem_of_getElem? (i := 1) rfl)
theorem cG_init_4 : zCode 37 4 = some (.aload_n 0, 5, 0, 0, 0, 0, 1) := cAG_init_0 _ (List.mem_of_getElem? (i := 2) rfl)
theorem cG_init_5 : zCode 37 5 = some (.bipush 61, 7, 0, 0, 0, 0, 1) := cAG_init_0 _ (List.mem_of_getElem? (i := 3) rfl)
theorem cG_init_7 : zCode 37 7 = some (.newarray .int, 9, 20, 0, 0, 0, 1) := cAG_init_0 _ (List.mem_of_getElem? (i := 4) rfl)
theorem cG_init_9 : zCode 37 9 = some (.putfield 9, 12, 3, 0, 2, 298, 1) := cAG_init_0 _ (List.mem_of_getElem? (i := 5) rfl)
theorem cG_init_12 : zCode 37 12 = some (.aload_n 0, 13, 0, 0, 0, 0, 1) := cAG_init_0 _ (List.mem_of_getElem? (i := 6) rfl)
theorem cG_init_13 : zCode 37 13 = some (.bipush 61, 15, 0, 0, 0, 0, 1) := cAG_init_0 _ (List.mem_of_getElem? (i := 7) rfl)
theorem cG_init_15 : zCode 37 15 = some (.newarray .int, 17, 20, 0, 0, 0, 1) := cAG_init_0 _ (List.mem_of_getElem? (i := 8) rfl)
theorem cG_init_17 : zCode 37 17 = some (.putfield 15, 20, 3, 1, 2, 300, 1) := cAG_init_0 _ (List.mem_of_getElem? (i := 9) rfl)
theorem cG_init_20 : zCode 37 20 = some (.aload_n 0, 21, 0, 0, 0, 0, 1) := cAG_init_0 _ (List.mem_of_getElem? (i := 10) rfl)
theorem cG_init_21 : zCode 37 21 = some (.iconst 0, 22, 0, 0, 0, 0, 1) := cAG_init_0 _ (List.mem_of_getElem? (i := 11) rfl)
theorem cG_init_22 : zCode 37 22 = some (.putfield 18, 25, 3, 2, 0, 302, 1) := cAG_init_0 _ (List.mem_of_getElem? (i := 12) rfl)
theorem cG_init_25 : zCode 37 25 = some (.aload_n 0, 26, 0, 0, 0, 0, 1) := cAG_init_0 _ (List.mem_of_getElem? (i := 13) rfl)
theorem cG_init_26 : zCode 37 26 = some (.iconst 0, 27, 0, 0, 0, 0, 1) := cAG_init_0 _ (List.mem_of_getElem? (i := 14) rfl)
theorem cG_init_27 : zCode 37 27 = some (.putfield 22, 30, 3, 3, 0, 304, 1) := cAG_init_0 _ (List.mem_of_getElem? (i := 15) rfl)
theorem cG_init_30 : zCode 37 30 = some (.aload_n 0, 31, 0, 0, 0, 0, 1) := cAG_init_1 _ (List.mem_of_getElem? (i := 0) rfl)
theorem cG_init_31 : zCode 37 31 = some (.iconst 4, 32, 0, 0, 0, 0, 1) := cAG_init_1 _ (List.mem_of_getElem? (i := 1) rfl)
theorem cG_init_32 : zCode 37 32 = some (.newarray .boolean, 34, 22, 0, 0, 0, 1) := cAG_init_1 _ (List.mem_of_getElem? (i := 2) rfl)
theorem cG_init_34 : zCode 37 34 = some (.putfield 25, 37, 3, 4, 2, 306, 1) := cAG_init_1 _ (List.mem_of_getElem? (i := 3) rfl)
theorem cG_init_37 : zCode 37 37 = some (.aload_n 0, 38, 0, 0, 0, 0, 1) := cAG_init_1 _ (List.mem_of_getElem? (i := 4) rfl)
theorem cG_init_38 : zCode 37 38 = some (.bipush 16, 40, 0, 0, 0, 0, 0) := cAG_init_1 _ (List.mem_of_getElem? (i := 5) rfl)
theorem cG_init_40 : zCode 37 40 = some (.newarray .int, 42, 20, 0, 0, 0, 0) := cAG_init_1 _ (List.mem_of_getElem? (i := 6) rfl)
theorem cG_init_42 : zCode 37 42 = some (.putfield 29, 45, 3, 5, 2, 307, 0) := cAG_init_1 _ (List.mem_of_getElem? (i := 7) rfl)
theorem cG_init_45 : zCode 37 45 = some (.return_, 46, 0, 0, 0, 0, 0) := cAG_init_1 _ (List.mem_of_getElem? (i := 8) rfl)
theorem rG_init_0 {a0 : Nat} : zS 37 0 [zR a0] [] sh pp mm Q ↔ zS 37 1 [zR a0] [zR a0] sh pp mm Q := s_go cG_init_0 cG_init_1 rfl rfl
theorem rG_init_1 {a0 s0 : Nat} (hr : s0 ≠ 0) (hl : s0 < sh.length) : zS 37 1 [zR a0] [zR s0] sh pp mm Q ↔ zS 37 4 [zR a0] [] sh pp mm Q := s_go cG_init_1 cG_init_4 (if_pos ⟨hr, hl, by decide⟩) rfl
theorem rG_init_4 {a0 : Nat} : zS 37 4 [zR a0] [] sh pp mm Q ↔ zS 37 5 [zR a0] [zR a0] sh pp mm Q := s_go cG_init_4 cG_init_5 rfl rfl
theorem rG_init_5 {a0 s0 : Nat} : zS 37 5 [zR a0] [zR s0] sh pp mm Q ↔ zS 37 7 [zR a0] [zI 61, zR s0] sh pp mm Q := s_go cG_init_5 cG_init_7 rfl rfl
theorem rG_init_7 {a0 s1 : Nat} {s0 : Int} (h0 : 0 ≤ s0) (h1 : s0 ≤ 100000) : zS 37 7 [zR a0] [zI s0, zR s1] sh pp mm Q ↔ zS 37 9 [zR a0] [zR sh.length, zR s1] (sh ++ [(20, s0.toNat)]) (zclp pp sh.length) (zclr mm sh.length) Q := s_go cG_init_7 cG_init_9 (if_pos ⟨h0, h1⟩) rfl
theorem rG_init_9 {a0 s0 s1 : Nat} (hk : zKd sh s1 = 3) : zS 37 9 [zR a0] [zR s0, zR s1] sh pp mm Q ↔ zS 37 12 [zR a0] [] sh (zupp pp s1 0 s0) mm Q := s_go cG_init_9 cG_init_12 (if_pos ⟨hk, rfl⟩) rfl
theorem rG_init_12 {a0 : Nat} : zS 37 12 [zR a0] [] sh pp mm Q ↔ zS 37 13 [zR a0] [zR a0] sh pp mm Q := s_go cG_init_12 cG_init_13 rfl rfl
theorem rG_init_13 {a0 s0 : Nat} : zS 37 13 [zR a0] [zR s0] sh pp mm Q ↔ zS 37 15 [zR a0] [zI 61, zR s0] sh pp mm Q := s_go cG_init_13 cG_init_15 rfl rfl
theorem rG_init_15 {a0 s1 : Nat} {s0 : Int} (h0 : 0 ≤ s0) (h1 : s0 ≤ 100000) : zS 37 15 [zR a0] [zI s0, zR s1] sh pp mm Q ↔ zS 37 17 [zR a0] [zR sh.length, zR s1] (sh ++ [(20, s0.toNat)]) (zclp pp sh.length) (zclr mm sh.length) Q := s_go cG_init_15 cG_init_17 (if_pos ⟨h0, h1⟩) rfl
theorem rG_init_17 {a0 s0 s1 : Nat} (hk : zKd sh s1 = 3) : zS 37 17 [zR a0] [zR s0, zR s1] sh pp mm Q ↔ zS 37 20 [zR a0] [] sh (zupp pp s1 1 s0) mm Q := s_go cG_init_17 cG_init_20 (if_pos ⟨hk, rfl⟩) rfl
theorem rG_init_20 {a0 : Nat} : zS 37 20 [zR a0] [] sh pp mm Q ↔ zS 37 21 [zR a0] [zR a0] sh pp mm Q := s_go cG_init_20 cG_init_21 rfl rfl
theorem rG_init_21 {a0 s0 : Nat} : zS 37 21 [zR a0] [zR s0] sh pp mm Q ↔ zS 37 22 [zR a0] [zI 0, zR s0] sh pp mm Q := s_go cG_init_21 cG_init_22 rfl rfl
theorem rG_init_22 {a0 s1 : Nat} {s0 : Int} (hk : zKd sh s1 = 3) : zS 37 22 [zR a0] [zI s0, zR s1] sh pp mm Q ↔ zS 37 25 [zR a0] [] sh pp (zupd mm s1 2 s0) Q := s_go cG_init_22 cG_init_25 (if_pos ⟨hk, Or.inl rfl⟩) rfl
theorem rG_init_25 {a0 : Nat} : zS 37 25 [zR a0] [] sh pp mm Q ↔ zS 37 26 [zR a0] [zR a0] sh pp mm Q := s_go cG_init_25 cG_init_26 rfl rfl
theorem rG_init_26 {a0 s0 : Nat} : zS 37 26 [zR a0] [zR s0] sh pp mm Q ↔ zS 37 27 [zR a0] [zI 0, zR s0] sh pp mm Q := s_go cG_init_26 cG_init_27 rfl rfl
theorem rG_init_27 {a0 s1 : Nat} {s0 : Int} (hk : zKd sh s1 = 3) : zS 37 27 [zR a0] [zI s0, zR s1] sh pp mm Q ↔ zS 37 30 [zR a0] [] sh pp (zupd mm s1 3 s0) Q := s_go cG_init_27 cG_init_30 (if_pos ⟨hk, Or.inl rfl⟩) rfl
theorem rG_init_30 {a0 : Nat} : zS 37 30 [zR a0] [] sh pp mm Q ↔ zS 37 31 [zR a0] [zR a0] sh pp mm Q := s_go cG_init_30 cG_init_31 rfl rfl
theorem rG_init_31 {a0 s0 : Nat} : zS 37 31 [zR a0] [zR s0] sh pp mm Q ↔ zS 37 32 [zR a0] [zI 4, zR s0] sh pp mm Q := s_go cG_init_31 cG_init_32 rfl rfl
theorem rG_init_32 {a0 s1 : Nat} {s0 : Int} (h0 : 0 ≤ s0) (h1 : s0 ≤ 100000) : zS 37 32 [zR a0] [zI s0, zR s1] sh pp mm Q ↔ zS 37 34 [zR a0] [zR sh.length, zR s1] (sh ++ [(22, s0.toNat)]) (zclp pp sh.length) (zclr mm sh.length) Q := s_go cG_init_32 cG_init_34 (if_pos ⟨h0, h1⟩) rfl
theorem rG_init_34 {a0 s0 s1 : Nat} (hk : zKd sh s1 = 3) : zS 37 34 [zR a0] [zR s0, zR s1] sh pp mm Q ↔ zS 37 37 [zR a0] [] sh (zupp pp s1 4 s0) mm Q := s_go cG_init_34 cG_init_37 (if_pos ⟨hk, rfl⟩) rfl
theorem rG_init_37 {a0 : Nat} : zS 37 37 [zR a0] [] sh pp mm Q ↔ zS 37 38 [zU] [zR a0] sh pp mm Q := s_go cG_init_37 cG_init_38 rfl rfl
theorem rG_init_38 {s0 : Nat} {u0 : zV} : zS 37 38 [u0] [zR s0] sh pp mm Q ↔ zS 37 40 [zU] [zI 16, zR s0] sh pp mm Q := s_go cG_init_38 cG_init_40 rfl rfl
theorem rG_init_40 {s1 : Nat} {s0 : Int} {u0 : zV} (h0 : 0 ≤ s0) (h1 : s0 ≤ 100000) : zS 37 40 [u0] [zI s0, zR s1] sh pp mm Q ↔ zS 37 42 [zU] [zR sh.length, zR s1] (sh ++ [(20, s0.toNat)]) (zclp pp sh.length) (zclr mm sh.length) Q := s_go cG_init_40 cG_init_42 (if_pos ⟨h0, h1⟩) rfl
theorem rG_init_42 {s0 s1 : Nat} {u0 : zV} (hk : zKd sh s1 = 3) : zS 37 42 [u0] [zR s0, zR s1] sh pp mm Q ↔ zS 37 45 [zU] [] sh (zupp pp s1 5 s0) mm Q := s_go cG_init_42 cG_init_45 (if_pos ⟨hk, rfl⟩) rfl
theorem rG_init_45 {u0 : zV} : zS 37 45 [u0] [] sh pp mm Q ↔ Q zU sh pp mm := s_ret cG_init_45 rfl
theorem cAG_begin : ∀ q ∈ zT38, zCode 38 q.1 = some q.2 := zAll (mid := 38) rfl (by decide +kernel)
theorem cAG_begin_0 : ∀ q ∈ zT38_0, zCode 38 q.1 = some q.2 := fun q h => cAG_begin q (List.mem_append_left _ h)
theorem cAG_begin_1 : ∀ q ∈ zT38_1, zCode 38 q.1 = some q.2 := fun q h => cAG_begin q (List.mem_append_right _ h)
theorem cG_begin_0 : zCode 38 0 = some (.iconst 0, 1, 0, 0, 0, 0, 1) := cAG_begin_0 _ (List.mem_of_getElem? (i := 0) rfl)
theorem cG_begin_1 : zCode 38 1 = some (.istore_n 1, 2, 0, 0, 0, 0, 1) := cAG_begin_0 _ (List.mem_of_getElem? (i := 1) rfl)
theorem cG_begin_2 : zCode 38 2 = some (.iload_n 1, 3, 0, 0, 0, 0, 3) := cAG_begin_0 _ (List.mem_of_getElem? (i := 2) rfl)
theorem cG_begin_3 : zCode 38 3 = some (.iconst 4, 4, 0, 0, 0, 0, 3) := cAG_begin_0 _ (List.mem_of_getElem? (i := 3) rfl)
theorem cG_begin_4 : zCode 38 4 = some (.if_icmp .ge 16, 7, 20, 0, 0, 0, 3) := cAG_begin_0 _ (List.mem_of_getElem? (i := 4) rfl)
theorem cG_begin_7 : zCode 38 7 = some (.aload_n 0, 8, 0, 0, 0, 0, 3) := cAG_begin_0 _ (List.mem_of_getElem? (i := 5) rfl)
theorem cG_begin_8 : zCode 38 8 = some (.getfield 25, 11, 3, 4, 2, 306, 3) := cAG_begin_0 _ (List.mem_of_getElem? (i := 6) rfl)
theorem cG_begin_11 : zCode 38 11 = some (.iload_n 1, 12, 0, 0, 0, 0, 3) := cAG_begin_0 _ (List.mem_of_getElem? (i := 7) rfl)
theorem cG_begin_12 : zCode 38 12 = some (.iconst 0, 13, 0, 0, 0, 0, 3) := cAG_begin_0 _ (List.mem_of_getElem? (i := 8) rfl)
theorem cG_begin_13 : zCode 38 13 = some (.bastore, 14, 0, 0, 0, 0, 3) := cAG_begin_0 _ (List.mem_of_getElem? (i := 9) rfl)
theorem cG_begin_14 : zCode 38 14 = some (.iinc 1 1, 17, 0, 0, 0, 0, 3) := cAG_begin_0 _ (List.mem_of_getElem? (i := 10) rfl)
theorem cG_begin_17 : zCode 38 17 = some (.goto (-15), 20, 2, 0, 0, 0, 3) := cAG_begin_0 _ (List.mem_of_getElem? (i := 11) rfl)
theorem cG_begin_20 : zCode 38 20 = some (.aload_n 0, 21, 0, 0, 0, 0, 1) := cAG_begin_0 _ (List.mem_of_getElem? (i := 12) rfl)
theorem cG_begin_21 : zCode 38 21 = some (.getfield 29, 24, 3, 5, 2, 307, 0) := cAG_begin_0 _ (List.mem_of_getElem? (i := 13) rfl)
theorem cG_begin_24 : zCode 38 24 = some (.iconst 0, 25, 0, 0, 0, 0, 0) := cAG_begin_0 _ (List.mem_of_getElem? (i := 14) rfl)
theorem cG_begin_25 : zCode 38 25 = some (.invokestatic 32, 28, 271, 2, 4, 18, 0) := cAG_begin_0 _ (List.mem_of_getElem? (i := 15) rfl)
theorem cG_begin_28 : zCode 38 28 = some (.return_, 29, 0, 0, 0, 0, 0) := cAG_begin_1 _ (List.mem_of_getElem? (i := 0) rfl)
theorem rG_begin_0 {a0 : Nat} {u1 : zV} : zS 38 0 [zR a0, u1] [] sh pp mm Q ↔ zS 38 1 [zR a0, zU] [zI 0] sh pp mm Q := s_go cG_begin_0 cG_begin_1 rfl rfl
theorem rG_begin_1 {a0 : Nat} {s0 : Int} {u1 : zV} : zS 38 1 [zR a0, u1] [zI s0] sh pp mm Q ↔ zS 38 2 [zR a0, zI s0] [] sh pp mm Q := s_go cG_begin_1 cG_begin_2 rfl rfl
theorem rG_begin_2 {a0 : Nat} {a1 : Int} : zS 38 2 [zR a0, zI a1] [] sh pp mm Q ↔ zS 38 3 [zR a0, zI a1] [zI a1] sh pp mm Q := s_go cG_begin_2 cG_begin_3 rfl rfl
theorem rG_begin_3 {a0 : Nat} {a1 s0 : Int} : zS 38 3 [zR a0, zI a1] [zI s0] sh pp mm Q ↔ zS 38 4 [zR a0, zI a1] [zI 4, zI s0] sh pp mm Q := s_go cG_begin_3 cG_begin_4 rfl rfl
theorem rG_begin_4 {a0 : Nat} {a1 s0 s1 : Int} : zS 38 4 [zR a0, zI a1] [zI s0, zI s1] sh pp mm Q ↔ (s1 < s0 → zS 38 7 [zR a0, zI a1] [] sh pp mm Q) ∧ (¬ s1 < s0 → zS 38 20 [zR a0, zU] [] sh pp mm Q) := s_ifn cG_begin_4 cG_begin_7 cG_begin_20 rfl rfl rfl
theorem rG_begin_7 {a0 : Nat} {a1 : Int} : zS 38 7 [zR a0, zI a1] [] sh pp mm Q ↔ zS 38 8 [zR a0, zI a1] [zR a0] sh pp mm Q := s_go cG_begin_7 cG_begin_8 rfl rfl
theorem rG_begin_8 {a0 s0 : Nat} {a1 : Int} (hk : zKd sh s0 = 3) : zS 38 8 [zR a0, zI a1] [zR s0] sh pp mm Q ↔ zS 38 11 [zR a0, zI a1] [zR (pp s0 4)] sh pp mm Q := s_go cG_begin_8 cG_begin_11 (if_pos hk) rfl
theorem rG_begin_11 {a0 s0 : Nat} {a1 : Int} : zS 38 11 [zR a0, zI a1] [zR s0] sh pp mm Q ↔ zS 38 12 [zR a0, zI a1] [zI a1, zR s0] sh pp mm Q := s_go cG_begin_11 cG_begin_12 rfl rfl
theorem rG_begin_12 {a0 s1 : Nat} {a1 s0 : Int} : zS 38 12 [zR a0, zI a1] [zI s0, zR s1] sh pp mm Q ↔ zS 38 13 [zR a0, zI a1] [zI 0, zI s0, zR s1] sh pp mm Q := s_go cG_begin_12 cG_begin_13 rfl rfl
theorem rG_begin_13 {a0 s2 : Nat} {a1 s0 s1 : Int} (hk : zKd sh s2 = 22) (h0 : 0 ≤ s1) (h1 : s1 < zLn sh s2) (hb : s0 = 0 ∨ s0 = 1) : zS 38 13 [zR a0, zI a1] [zI s0, zI s1, zR s2] sh pp mm Q ↔ zS 38 14 [zR a0, zI a1] [] sh pp (zupd mm s2 s1 s0) Q := s_go cG_begin_13 cG_begin_14 (if_pos ⟨hk, h0, h1, fun _ => hb⟩) rfl
theorem rG_begin_14 {a0 : Nat} {a1 : Int} : zS 38 14 [zR a0, zI a1] [] sh pp mm Q ↔ zS 38 17 [zR a0, zI (zw32 (a1 + 1))] [] sh pp mm Q := s_go cG_begin_14 cG_begin_17 rfl rfl
theorem rG_begin_17 {a0 : Nat} {a1 : Int} : zS 38 17 [zR a0, zI a1] [] sh pp mm Q ↔ zS 38 2 [zR a0, zI a1] [] sh pp mm Q := s_go cG_begin_17 cG_begin_2 rfl rfl
theorem rG_begin_20 {a0 : Nat} {u1 : zV} : zS 38 20 [zR a0, u1] [] sh pp mm Q ↔ zS 38 21 [zU, zU] [zR a0] sh pp mm Q := s_go cG_begin_20 cG_begin_21 rfl rfl
theorem rG_begin_21 {s0 : Nat} {u0 u1 : zV} (hk : zKd sh s0 = 3) : zS 38 21 [u0, u1] [zR s0] sh pp mm Q ↔ zS 38 24 [zU, zU] [zR (pp s0 5)] sh pp mm Q := s_go cG_begin_21 cG_begin_24 (if_pos hk) rfl
theorem rG_begin_24 {s0 : Nat} {u0 u1 : zV} : zS 38 24 [u0, u1] [zR s0] sh pp mm Q ↔ zS 38 25 [zU, zU] [zI 0, zR s0] sh pp mm Q := s_go cG_begin_24 cG_begin_25 rfl rfl
theorem rG_begin_25 {s1 : Nat} {s0 : Int} {u0 u1 : zV} : zS 38 25 [u0, u1] [zI s0, zR s1] sh pp mm Q ↔ zS 271 0 [zR s1, zI s0, zU, zU] [] sh pp mm (fun v sh pp mm => zS 38 28 [zU, zU] (zPush v []) sh pp mm Q) := s_call cG_begin_25 cG_begin_28 rfl rfl
theorem rG_begin_28 {u0 u1 : zV} : zS 38 28 [u0, u1] [] sh pp mm Q ↔ Q zU sh pp mm := s_ret cG_begin_28 rfl
theorem cAG_isEmpty : ∀ q ∈ zT39, zCode 39 q.1 = some q.2 := zAll (mid := 39) rfl (by decide +kernel)
theorem cAG_isEmpty_0 : ∀ q ∈ zT39_0, zCode 39 q.1 = some q.2 := fun q h => cAG_isEmpty q (h)
theorem cG_isEmpty_0 : zCode 39 0 = some (.iconst 0, 1, 0, 0, 0, 0, 1) := cAG_isEmpty_0 _ (List.mem_of_getElem? (i := 0) rfl)
theorem cG_isEmpty_1 : zCode 39 1 = some (.istore_n 1, 2, 0, 0, 0, 0, 1) := cAG_isEmpty_0 _ (List.mem_of_getElem? (i := 1) rfl)
theorem cG_isEmpty_2 : zCode 39 2 = some (.iload_n 1, 3, 0, 0, 0, 0, 3) := cAG_isEmpty_0 _ (List.mem_of_getElem? (i := 2) rfl)
theorem cG_isEmpty_3 : zCode 39 3 = some (.iconst 4, 4, 0, 0, 0, 0, 3) := cAG_isEmpty_0 _ (List.mem_of_getElem? (i := 3) rfl)
theorem cG_isEmpty_4 : zCode 39 4 = some (.if_icmp .ge 20, 7, 24, 0, 0, 0, 3) := cAG_isEmpty_0 _ (List.mem_of_getElem? (i := 4) rfl)
theorem cG_isEmpty_7 : zCode 39 7 = some (.aload_n 0, 8, 0, 0, 0, 0, 3) := cAG_isEmpty_0 _ (List.mem_of_getElem? (i := 5) rfl)
theorem cG_isEmpty_8 : zCode 39 8 = some (.getfield 25, 11, 3, 4, 2, 306, 3) := cAG_isEmpty_0 _ (List.mem_of_getElem? (i := 6) rfl)
theorem cG_isEmpty_11 : zCode 39 11 = some (.iload_n 1, 12, 0, 0, 0, 0, 3) := cAG_isEmpty_0 _ (List.mem_of_getElem? (i := 7) rfl)
theorem cG_isEmpty_12 : zCode 39 12 = some (.baload, 13, 0, 0, 0, 0, 3) := cAG_isEmpty_0 _ (List.mem_of_getElem? (i := 8) rfl)
theorem cG_isEmpty_13 : zCode 39 13 = some (.ifCond .eq 5, 16, 18, 0, 0, 0, 3) := cAG_isEmpty_0 _ (List.mem_of_getElem? (i := 9) rfl)
theorem cG_isEmpty_16 : zCode 39 16 = some (.iconst 0, 17, 0, 0, 0, 0, 0) := cAG_isEmpty_0 _ (List.mem_of_getElem? (i := 10) rfl)
theorem cG_isEmpty_17 : zCode 39 17 = some (.ireturn, 18, 0, 3, 0, 0, 0) := cAG_isEmpty_0 _ (List.mem_of_getElem? (i := 11) rfl)
theorem cG_isEmpty_18 : zCode 39 18 = some (.iinc 1 1, 21, 0, 0, 0, 0, 3) := cAG_isEmpty_0 _ (List.mem_of_getElem? (i := 12) rfl)
theorem cG_isEmpty_21 : zCode 39 21 = some (.goto (-19), 24, 2, 0, 0, 0, 3) := cAG_isEmpty_0 _ (List.mem_of_getElem? (i := 13) rfl)
theorem cG_isEmpty_24 : zCode 39 24 = some (.iconst 1, 25, 0, 0, 0, 0, 0) := cAG_isEmpty_0 _ (List.mem_of_getElem? (i := 14) rfl)
theorem cG_isEmpty_25 : zCode 39 25 = some (.ireturn, 26, 0, 3, 0, 0, 0) := cAG_isEmpty_0 _ (List.mem_of_getElem? (i := 15) rfl)
theorem rG_isEmpty_0 {a0 : Nat} {u1 : zV} : zS 39 0 [zR a0, u1] [] sh pp mm Q ↔ zS 39 1 [zR a0, zU] [zI 0] sh pp mm Q := s_go cG_isEmpty_0 cG_isEmpty_1 rfl rfl
theorem rG_isEmpty_1 {a0 : Nat} {s0 : Int} {u1 : zV} : zS 39 1 [zR a0, u1] [zI s0] sh pp mm Q ↔ zS 39 2 [zR a0, zI s0] [] sh pp mm Q := s_go cG_isEmpty_1 cG_isEmpty_2 rfl rfl
theorem rG_isEmpty_2 {a0 : Nat} {a1 : Int} : zS 39 2 [zR a0, zI a1] [] sh pp mm Q ↔ zS 39 3 [zR a0, zI a1] [zI a1] sh pp mm Q := s_go cG_isEmpty_2 cG_isEmpty_3 rfl rfl
theorem rG_isEmpty_3 {a0 : Nat} {a1 s0 : Int} : zS 39 3 [zR a0, zI a1] [zI s0] sh pp mm Q ↔ zS 39 4 [zR a0, zI a1] [zI 4, zI s0] sh pp mm Q := s_go cG_isEmpty_3 cG_isEmpty_4 rfl rfl
theorem rG_isEmpty_4 {a0 : Nat} {a1 s0 s1 : Int} : zS 39 4 [zR a0, zI a1] [zI s0, zI s1] sh pp mm Q ↔ (s1 < s0 → zS 39 7 [zR a0, zI a1] [] sh pp mm Q) ∧ (¬ s1 < s0 → zS 39 24 [zU, zU] [] sh pp mm Q) := s_ifn cG_isEmpty_4 cG_isEmpty_7 cG_isEmpty_24 rfl rfl rfl
theorem rG_isEmpty_7 {a0 : Nat} {a1 : Int} : zS 39 7 [zR a0, zI a1] [] sh pp mm Q ↔ zS 39 8 [zR a0, zI a1] [zR a0] sh pp mm Q := s_go cG_isEmpty_7 cG_isEmpty_8 rfl rfl
theorem rG_isEmpty_8 {a0 s0 : Nat} {a1 : Int} (hk : zKd sh s0 = 3) : zS 39 8 [zR a0, zI a1] [zR s0] sh pp mm Q ↔ zS 39 11 [zR a0, zI a1] [zR (pp s0 4)] sh pp mm Q := s_go cG_isEmpty_8 cG_isEmpty_11 (if_pos hk) rfl
theorem rG_isEmpty_11 {a0 s0 : Nat} {a1 : Int} : zS 39 11 [zR a0, zI a1] [zR s0] sh pp mm Q ↔ zS 39 12 [zR a0, zI a1] [zI a1, zR s0] sh pp mm Q := s_go cG_isEmpty_11 cG_isEmpty_12 rfl rfl
theorem rG_isEmpty_12 {a0 s1 : Nat} {a1 s0 : Int} (hk : zKd sh s1 = 22 ∨ zKd sh s1 = 32) (h0 : 0 ≤ s0) (h1 : s0 < zLn sh s1) : zS 39 12 [zR a0, zI a1] [zI s0, zR s1] sh pp mm Q ↔ zS 39 13 [zR a0, zI a1] [zI (mm s1 s0)] sh pp mm Q := s_go cG_isEmpty_12 cG_isEmpty_13 (if_pos ⟨hk, h0, h1⟩) rfl
theorem rG_isEmpty_13 {a0 : Nat} {a1 s0 : Int} : zS 39 13 [zR a0, zI a1] [zI s0] sh pp mm Q ↔ (s0 = 0 → zS 39 18 [zR a0, zI a1] [] sh pp mm Q) ∧ (¬ s0 = 0 → zS 39 16 [zU, zU] [] sh pp mm Q) := s_if cG_isEmpty_13 cG_isEmpty_18 cG_isEmpty_16 rfl rfl rfl
theorem rG_isEmpty_16 {u0 u1 : zV} : zS 39 16 [u0, u1] [] sh pp mm Q ↔ zS 39 17 [zU, zU] [zI 0] sh pp mm Q := s_go cG_isEmpty_16 cG_isEmpty_17 rfl rfl
theorem rG_isEmpty_17 {s0 : Int} {u0 u1 : zV} (hb : s0 = 0 ∨ s0 = 1) : zS 39 17 [u0, u1] [zI s0] sh pp mm Q ↔ Q (zI s0) sh pp mm := s_ret cG_isEmpty_17 (if_pos (decide_eq_true hb))
theorem rG_isEmpty_18 {a0 : Nat} {a1 : Int} : zS 39 18 [zR a0, zI a1] [] sh pp mm Q ↔ zS 39 21 [zR a0, zI (zw32 (a1 + 1))] [] sh pp mm Q := s_go cG_isEmpty_18 cG_isEmpty_21 rfl rfl
theorem rG_isEmpty_21 {a0 : Nat} {a1 : Int} : zS 39 21 [zR a0, zI a1] [] sh pp mm Q ↔ zS 39 2 [zR a0, zI a1] [] sh pp mm Q := s_go cG_isEmpty_21 cG_isEmpty_2 rfl rfl
theorem rG_isEmpty_24 {u0 u1 : zV} : zS 39 24 [u0, u1] [] sh pp mm Q ↔ zS 39 25 [zU, zU] [zI 1] sh pp mm Q := s_go cG_isEmpty_24 cG_isEmpty_25 rfl rfl
theorem rG_isEmpty_25 {s0 : Int} {u0 u1 : zV} (hb : s0 = 0 ∨ s0 = 1) : zS 39 25 [u0, u1] [zI s0] sh pp mm Q ↔ Q (zI s0) sh pp mm := s_ret cG_isEmpty_25 (if_pos (decide_eq_true hb))
theorem cAG_compare : ∀ q ∈ zT40, zCode 40 q.1 = some q.2 := zAll (mid := 40) rfl (by decide +kernel)
theorem cAG_compare_0 : ∀ q ∈ zT40_0, zCode 40 q.1 = some q.2 := fun q h => cAG_compare q (List.mem_append_left _ h)
theorem cAG_compare_1 : ∀ q ∈ zT40_1, zCode 40 q.1 = some q.2 := fun q h => cAG_compare q (List.mem_append_right _ (List.mem_append_left _ h))
theorem cAG_compare_2 : ∀ q ∈ zT40_2, zCode 40 q.1 = some q.2 := fun q h => cAG_compare q (List.mem_append_right _ (List.mem_append_right _ (List.mem_append_left _ h)))
theorem cAG_compare_3 : ∀ q ∈ zT40_3, zCode 40 q.1 = some q.2 := fun q h => cAG_compare q (List.mem_append_right _ (List.mem_append_right _ (List.mem_append_right _ (List.mem_append_left _ h))))
theorem cAG_compare_4 : ∀ q ∈ zT40_4, zCode 40 q.1 = some q.2 := fun q h => cAG_compare q (List.mem_append_right _ (List.mem_append_right _ (List.mem_append_right _ (List.mem_append_right _ h))))
theorem cG_compare_0 : zCode 40 0 = some (.aload_n 0, 1, 0, 0, 0, 0, 15) := cAG_compare_0 _ (List.mem_of_getElem? (i := 0) rfl)
theorem cG_compare_1 : zCode 40 1 = some (.getfield 25, 4, 3, 4, 2, 306, 15) := cAG_compare_0 _ (List.mem_of_getElem? (i := 1) rfl)
theorem cG_compare_4 : zCode 40 4 = some (.iload_n 1, 5, 0, 0, 0, 0, 15) := cAG_compare_0 _ (List.mem_of_getElem? (i := 2) rfl)
theorem cG_compare_5 : zCode 40 5 = some (.iconst 1, 6, 0, 0, 0, 0, 15) := cAG_compare_0 _ (List.mem_of_getElem? (i := 3) rfl)
theorem cG_compare_6 : zCode 40 6 = some (.bastore, 7, 0, 0, 0, 0, 15) := cAG_compare_0 _ (List.mem_of_getElem? (i := 4) rfl)
theorem cG_compare_7 : zCode 40 7 = some (.aload_n 2, 8, 0, 0, 0, 0, 15) := cAG_compare_0 _ (List.mem_of_getElem? (i := 5) rfl)
theorem cG_compare_8 : zCode 40 8 = some (.invokevirtual 38, 11, 26, 0, 1, 1, 15) := cAG_compare_0 _ (List.mem_of_getElem? (i := 6) rfl)
theorem cG_compare_11 : zCode 40 11 = some (.istore 4, 13, 0, 0, 0, 0, 15) := cAG_compare_0 _ (List.mem_of_getElem? (i := 7) rfl)
theorem cG_compare_13 : zCode 40 13 = some (.iconst 0, 14, 0, 0, 0, 0, 31) := cAG_compare_0 _ (List.mem_of_getElem? (i := 8) rfl)
theorem cG_compare_14 : zCode 40 14 = some (.istore 5, 16, 0, 0, 0, 0, 31) := cAG_compare_0 _ (List.mem_of_getElem? (i := 9) rfl)
theorem cG_compare_16 : zCode 40 16 = some (.iload 5, 18, 0, 0, 0, 0, 63) := cAG_compare_0 _ (List.mem_of_getElem? (i := 10) rfl)
theorem cG_compare_18 : zCode 40 18 = some (.sipush 384, 21, 0, 0, 0, 0, 63) := cAG_compare_0 _ (List.mem_of_getElem? (i := 11) rfl)
theorem cG_compare_21 : zCode 40 21 = some (.if_icmp .ge 105, 24, 126, 0, 0, 0, 63) := cAG_compare_0 _ (List.mem_of_getElem? (i := 12) rfl)
theorem cG_compare_24 : zCode 40 24 = some (.aload_n 3, 25, 0, 0, 0, 0, 63) := cAG_compare_0 _ (List.mem_of_getElem? (i := 13) rfl)
theorem cG_compare_25 : zCode 40 25 = some (.iload 5, 27, 0, 0, 0, 0, 63) := cAG_compare_0 _ (List.mem_of_getElem? (i := 14) rfl)
theorem cG_compare_27 : zCode 40 27 = some (.iaload, 28, 0, 0, 0, 0, 63) := cAG_compare_0 _ (List.mem_of_getElem? (i := 15) rfl)
theorem cG_compare_28 : zCode 40 28 = some (.iconst (-1), 29, 0, 0, 0, 0, 63) := cAG_compare_1 _ (List.mem_of_getElem? (i := 0) rfl)
theorem cG_compare_29 : zCode 40 29 = some (.if_icmp .eq 91, 32, 120, 0, 0, 0, 63) := cAG_compare_1 _ (List.mem_of_getElem? (i := 1) rfl)
theorem cG_compare_32 : zCode 40 32 = some (.iconst 0, 33, 0, 0, 0, 0, 63) := cAG_compare_1 _ (List.mem_of_getElem? (i := 2) rfl)
theorem cG_compare_33 : zCode 40 33 = some (.istore 6, 35, 0, 0, 0, 0, 63) := cAG_compare_1 _ (List.mem_of_getElem? (i := 3) rfl)
theorem cG_compare_35 : zCode 40 35 = some (.iload 6, 37, 0, 0, 0, 0, 127) := cAG_compare_1 _ (List.mem_of_getElem? (i := 4) rfl)
theorem cG_compare_37 : zCode 40 37 = some (.iconst 4, 38, 0, 0, 0, 0, 127) := cAG_compare_1 _ (List.mem_of_getElem? (i := 5) rfl)
theorem cG_compare_38 : zCode 40 38 = some (.if_icmp .ge 82, 41, 120, 0, 0, 0, 127) := cAG_compare_1 _ (List.mem_of_getElem? (i := 6) rfl)
theorem cG_compare_41 : zCode 40 41 = some (.iload 6, 43, 0, 0, 0, 0, 127) := cAG_compare_1 _ (List.mem_of_getElem? (i := 7) rfl)
theorem cG_compare_43 : zCode 40 43 = some (.ifCond .le 26, 46, 69, 0, 0, 0, 127) := cAG_compare_1 _ (List.mem_of_getElem? (i := 8) rfl)
theorem cG_compare_46 : zCode 40 46 = some (.iload 5, 48, 0, 0, 0, 0, 127) := cAG_compare_1 _ (List.mem_of_getElem? (i := 9) rfl)
theorem cG_compare_48 : zCode 40 48 = some (.iload 4, 50, 0, 0, 0, 0, 127) := cAG_compare_1 _ (List.mem_of_getElem? (i := 10) rfl)
theorem cG_compare_50 : zCode 40 50 = some (.if_icmp .eq 19, 53, 69, 0, 0, 0, 127) := cAG_compare_1 _ (List.mem_of_getElem? (i := 11) rfl)
theorem cG_compare_53 : zCode 40 53 = some (.iload 5, 55, 0, 0, 0, 0, 127) := cAG_compare_1 _ (List.mem_of_getElem? (i := 12) rfl)
theorem cG_compare_55 : zCode 40 55 = some (.iload 6, 57, 0, 0, 0, 0, 127) := cAG_compare_1 _ (List.mem_of_getElem? (i := 13) rfl)
theorem cG_compare_57 : zCode 40 57 = some (.iconst 1, 58, 0, 0, 0, 0, 127) := cAG_compare_1 _ (List.mem_of_getElem? (i := 14) rfl)
theorem cG_compare_58 : zCode 40 58 = some (.isub, 59, 0, 0, 0, 0, 127) := cAG_compare_1 _ (List.mem_of_getElem? (i := 15) rfl)
theorem cG_compare_59 : zCode 40 59 = some (.invokestatic 44, 62, 144, 2, 2, 11, 127) := cAG_compare_2 _ (List.mem_of_getElem? (i := 0) rfl)
theorem cG_compare_62 : zCode 40 62 = some (.ifCond .eq 7, 65, 69, 0, 0, 0, 127) := cAG_compare_2 _ (List.mem_of_getElem? (i := 1) rfl)
theorem cG_compare_65 : zCode 40 65 = some (.iconst 1, 66, 0, 0, 0, 0, 127) := cAG_compare_2 _ (List.mem_of_getElem? (i := 2) rfl)
theorem cG_compare_66 : zCode 40 66 = some (.goto 4, 69, 70, 0, 0, 0, 127) := cAG_compare_2 _ (List.mem_of_getElem? (i := 3) rfl)
theorem cG_compare_69 : zCode 40 69 = some (.iconst 0, 70, 0, 0, 0, 0, 127) := cAG_compare_2 _ (List.mem_of_getElem? (i := 4) rfl)
theorem cG_compare_70 : zCode 40 70 = some (.istore 7, 72, 0, 0, 0, 0, 127) := cAG_compare_2 _ (List.mem_of_getElem? (i := 5) rfl)
theorem cG_compare_72 : zCode 40 72 = some (.iload 7, 74, 0, 0, 0, 0, 255) := cAG_compare_2 _ (List.mem_of_getElem? (i := 6) rfl)
theorem cG_compare_74 : zCode 40 74 = some (.ifCond .eq 7, 77, 81, 0, 0, 0, 127) := cAG_compare_2 _ (List.mem_of_getElem? (i := 7) rfl)
theorem cG_compare_77 : zCode 40 77 = some (.iconst 0, 78, 0, 0, 0, 0, 127) := cAG_compare_2 _ (List.mem_of_getElem? (i := 8) rfl)
theorem cG_compare_78 : zCode 40 78 = some (.goto 10, 81, 88, 0, 0, 0, 127) := cAG_compare_2 _ (List.mem_of_getElem? (i := 9) rfl)
theorem cG_compare_81 : zCode 40 81 = some (.aload_n 2, 82, 0, 0, 0, 0, 127) := cAG_compare_2 _ (List.mem_of_getElem? (i := 10) rfl)
theorem cG_compare_82 : zCode 40 82 = some (.getfield 48, 85, 1, 0, 2, 463, 127) := cAG_compare_2 _ (List.mem_of_getElem? (i := 11) rfl)
theorem cG_compare_85 : zCode 40 85 = some (.iload 5, 87, 0, 0, 0, 0, 127) := cAG_compare_2 _ (List.mem_of_getElem? (i := 12) rfl)
theorem cG_compare_87 : zCode 40 87 = some (.iaload, 88, 0, 0, 0, 0, 127) := cAG_compare_2 _ (List.mem_of_getElem? (i := 13) rfl)
theorem cG_compare_88 : zCode 40 88 = some (.istore 8, 90, 0, 0, 0, 0, 127) := cAG_compare_2 _ (List.mem_of_getElem? (i := 14) rfl)
theorem cG_compare_90 : zCode 40 90 = some (.iload 8, 92, 0, 0, 0, 0, 383) := cAG_compare_2 _ (List.mem_of_getElem? (i := 15) rfl)
theorem cG_compare_92 : zCode 40 92 = some (.aload_n 3, 93, 0, 0, 0, 0, 127) := cAG_compare_3 _ (List.mem_of_getElem? (i := 0) rfl)
theorem cG_compare_93 : zCode 40 93 = some (.iload 5, 95, 0, 0, 0, 0, 127) := cAG_compare_3 _ (List.mem_of_getElem? (i := 1) rfl)
theorem cG_compare_95 : zCode 40 95 = some (.iaload, 96, 0, 0, 0, 0, 127) := cAG_compare_3 _ (List.mem_of_getElem? (i := 2) rfl)
theorem cG_compare_96 : zCode 40 96 = some (.if_icmp .ne 18, 99, 114, 0, 0, 0, 127) := cAG_compare_3 _ (List.mem_of_getElem? (i := 3) rfl)
theorem cG_compare_99 : zCode 40 99 = some (.aload_n 0, 100, 0, 0, 0, 0, 127) := cAG_compare_3 _ (List.mem_of_getElem? (i := 4) rfl)
theorem cG_compare_100 : zCode 40 100 = some (.getfield 29, 103, 3, 5, 2, 307, 127) := cAG_compare_3 _ (List.mem_of_getElem? (i := 5) rfl)
theorem cG_compare_103 : zCode 40 103 = some (.iload_n 1, 104, 0, 0, 0, 0, 127) := cAG_compare_3 _ (List.mem_of_getElem? (i := 6) rfl)
theorem cG_compare_104 : zCode 40 104 = some (.iconst 4, 105, 0, 0, 0, 0, 127) := cAG_compare_3 _ (List.mem_of_getElem? (i := 7) rfl)
theorem cG_compare_105 : zCode 40 105 = some (.imul, 106, 0, 0, 0, 0, 127) := cAG_compare_3 _ (List.mem_of_getElem? (i := 8) rfl)
theorem cG_compare_106 : zCode 40 106 = some (.iload 6, 108, 0, 0, 0, 0, 127) := cAG_compare_3 _ (List.mem_of_getElem? (i := 9) rfl)
theorem cG_compare_108 : zCode 40 108 = some (.iadd, 109, 0, 0, 0, 0, 127) := cAG_compare_3 _ (List.mem_of_getElem? (i := 10) rfl)
theorem cG_compare_109 : zCode 40 109 = some (.dup2, 110, 0, 0, 0, 0, 127) := cAG_compare_3 _ (List.mem_of_getElem? (i := 11) rfl)
theorem cG_compare_110 : zCode 40 110 = some (.iaload, 111, 0, 0, 0, 0, 127) := cAG_compare_3 _ (List.mem_of_getElem? (i := 12) rfl)
theorem cG_compare_111 : zCode 40 111 = some (.iconst 1, 112, 0, 0, 0, 0, 127) := cAG_compare_3 _ (List.mem_of_getElem? (i := 13) rfl)
theorem cG_compare_112 : zCode 40 112 = some (.iadd, 113, 0, 0, 0, 0, 127) := cAG_compare_3 _ (List.mem_of_getElem? (i := 14) rfl)
theorem cG_compare_113 : zCode 40 113 = some (.iastore, 114, 0, 0, 0, 0, 127) := cAG_compare_3 _ (List.mem_of_getElem? (i := 15) rfl)
theorem cG_compare_114 : zCode 40 114 = some (.iinc 6 1, 117, 0, 0, 0, 0, 127) := cAG_compare_4 _ (List.mem_of_getElem? (i := 0) rfl)
theorem cG_compare_117 : zCode 40 117 = some (.goto (-82), 120, 35, 0, 0, 0, 127) := cAG_compare_4 _ (List.mem_of_getElem? (i := 1) rfl)
theorem cG_compare_120 : zCode 40 120 = some (.iinc 5 1, 123, 0, 0, 0, 0, 63) := cAG_compare_4 _ (List.mem_of_getElem? (i := 2) rfl)
theorem cG_compare_123 : zCode 40 123 = some (.goto (-107), 126, 16, 0, 0, 0, 63) := cAG_compare_4 _ (List.mem_of_getElem? (i := 3) rfl)
theorem cG_compare_126 : zCode 40 126 = some (.return_, 127, 0, 0, 0, 0, 0) := cAG_compare_4 _ (List.mem_of_getElem? (i := 4) rfl)
theorem rG_compare_0 {a0 a2 a3 : Nat} {a1 : Int} {u4 u5 u6 u7 u8 : zV} : zS 40 0 [zR a0, zI a1, zR a2, zR a3, u4, u5, u6, u7, u8] [] sh pp mm Q ↔ zS 40 1 [zR a0, zI a1, zR a2, zR a3, zU, zU, zU, zU, zU] [zR a0] sh pp mm Q := s_go cG_compare_0 cG_compare_1 rfl rfl
theorem rG_compare_1 {a0 a2 a3 s0 : Nat} {a1 : Int} {u4 u5 u6 u7 u8 : zV} (hk : zKd sh s0 = 3) : zS 40 1 [zR a0, zI a1, zR a2, zR a3, u4, u5, u6, u7, u8] [zR s0] sh pp mm Q ↔ zS 40 4 [zR a0, zI a1, zR a2, zR a3, zU, zU, zU, zU, zU] [zR (pp s0 4)] sh pp mm Q := s_go cG_compare_1 cG_compare_4 (if_pos hk) rfl
theorem rG_compare_4 {a0 a2 a3 s0 : Nat} {a1 : Int} {u4 u5 u6 u7 u8 : zV} : zS 40 4 [zR a0, zI a1, zR a2, zR a3, u4, u5, u6, u7, u8] [zR s0] sh pp mm Q ↔ zS 40 5 [zR a0, zI a1, zR a2, zR a3, zU, zU, zU, zU, zU] [zI a1, zR s0] sh pp mm Q := s_go cG_compare_4 cG_compare_5 rfl rfl
theorem rG_compare_5 {a0 a2 a3 s1 : Nat} {a1 s0 : Int} {u4 u5 u6 u7 u8 : zV} : zS 40 5 [zR a0, zI a1, zR a2, zR a3, u4, u5, u6, u7, u8] [zI s0, zR s1] sh pp mm Q ↔ zS 40 6 [zR a0, zI a1, zR a2, zR a3, zU, zU, zU, zU, zU] [zI 1, zI s0, zR s1] sh pp mm Q := s_go cG_compare_5 cG_compare_6 rfl rfl
theorem rG_compare_6 {a0 a2 a3 s2 : Nat} {a1 s0 s1 : Int} {u4 u5 u6 u7 u8 : zV} (hk : zKd sh s2 = 22) (h0 : 0 ≤ s1) (h1 : s1 < zLn sh s2) (hb : s0 = 0 ∨ s0 = 1) : zS 40 6 [zR a0, zI a1, zR a2, zR a3, u4, u5, u6, u7, u8] [zI s0, zI s1, zR s2] sh pp mm Q ↔ zS 40 7 [zR a0, zI a1, zR a2, zR a3, zU, zU, zU, zU, zU] [] sh pp (zupd mm s2 s1 s0) Q := s_go cG_compare_6 cG_compare_7 (if_pos ⟨hk, h0, h1, fun _ => hb⟩) rfl
theorem rG_compare_7 {a0 a2 a3 : Nat} {a1 : Int} {u4 u5 u6 u7 u8 : zV} : zS 40 7 [zR a0, zI a1, zR a2, zR a3, u4, u5, u6, u7, u8] [] sh pp mm Q ↔ zS 40 8 [zR a0, zI a1, zR a2, zR a3, zU, zU, zU, zU, zU] [zR a2] sh pp mm Q := s_go cG_compare_7 cG_compare_8 rfl rfl
theorem rG_compare_8 {a0 a2 a3 s0 : Nat} {a1 : Int} {u4 u5 u6 u7 u8 : zV} (hk : zKd sh s0 = 1) : zS 40 8 [zR a0, zI a1, zR a2, zR a3, u4, u5, u6, u7, u8] [zR s0] sh pp mm Q ↔ zS 26 0 [zR s0] [] sh pp mm (fun v sh pp mm => zS 40 11 [zR a0, zI a1, zR a2, zR a3, zU, zU, zU, zU, zU] (zPush v []) sh pp mm Q) := s_call cG_compare_8 cG_compare_11 ((if_pos hk).trans rfl) rfl
theorem rG_compare_11 {a0 a2 a3 : Nat} {a1 s0 : Int} {u4 u5 u6 u7 u8 : zV} : zS 40 11 [zR a0, zI a1, zR a2, zR a3, u4, u5, u6, u7, u8] [zI s0] sh pp mm Q ↔ zS 40 13 [zR a0, zI a1, zR a2, zR a3, zI s0, zU, zU, zU, zU] [] sh pp mm Q := s_go cG_compare_11 cG_compare_13 rfl rfl
theorem rG_compare_13 {a0 a2 a3 : Nat} {a1 a4 : Int} {u5 u6 u7 u8 : zV} : zS 40 13 [zR a0, zI a1, zR a2, zR a3, zI a4, u5, u6, u7, u8] [] sh pp mm Q ↔ zS 40 14 [zR a0, zI a1, zR a2, zR a3, zI a4, zU, zU, zU, zU] [zI 0] sh pp mm Q := s_go cG_compare_13 cG_compare_14 rfl rfl
theorem rG_compare_14 {a0 a2 a3 : Nat} {a1 a4 s0 : Int} {u5 u6 u7 u8 : zV} : zS 40 14 [zR a0, zI a1, zR a2, zR a3, zI a4, u5, u6, u7, u8] [zI s0] sh pp mm Q ↔ zS 40 16 [zR a0, zI a1, zR a2, zR a3, zI a4, zI s0, zU, zU, zU] [] sh pp mm Q := s_go cG_compare_14 cG_compare_16 rfl rfl
theorem rG_compare_16 {a0 a2 a3 : Nat} {a1 a4 a5 : Int} {u6 u7 u8 : zV} : zS 40 16 [zR a0, zI a1, zR a2, zR a3, zI a4, zI a5, u6, u7, u8] [] sh pp mm Q ↔ zS 40 18 [zR a0, zI a1, zR a2, zR a3, zI a4, zI a5, zU, zU, zU] [zI a5] sh pp mm Q := s_go cG_compare_16 cG_compare_18 rfl rfl
theorem rG_compare_18 {a0 a2 a3 : Nat} {a1 a4 a5 s0 : Int} {u6 u7 u8 : zV} : zS 40 18 [zR a0, zI a1, zR a2, zR a3, zI a4, zI a5, u6, u7, u8] [zI s0] sh pp mm Q ↔ zS 40 21 [zR a0, zI a1, zR a2, zR a3, zI a4, zI a5, zU, zU, zU] [zI 384, zI s0] sh pp mm Q := s_go cG_compare_18 cG_compare_21 rfl rfl
theorem rG_compare_21 {a0 a2 a3 : Nat} {a1 a4 a5 s0 s1 : Int} {u6 u7 u8 : zV} : zS 40 21 [zR a0, zI a1, zR a2, zR a3, zI a4, zI a5, u6, u7, u8] [zI s0, zI s1] sh pp mm Q ↔ (s1 < s0 → zS 40 24 [zR a0, zI a1, zR a2, zR a3, zI a4, zI a5, zU, zU, zU] [] sh pp mm Q) ∧ (¬ s1 < s0 → zS 40 126 [zU, zU, zU, zU, zU, zU, zU, zU, zU] [] sh pp mm Q) := s_ifn cG_compare_21 cG_compare_24 cG_compare_126 rfl rfl rfl
theorem rG_compare_24 {a0 a2 a3 : Nat} {a1 a4 a5 : Int} {u6 u7 u8 : zV} : zS 40 24 [zR a0, zI a1, zR a2, zR a3, zI a4, zI a5, u6, u7, u8] [] sh pp mm Q ↔ zS 40 25 [zR a0, zI a1, zR a2, zR a3, zI a4, zI a5, zU, zU, zU] [zR a3] sh pp mm Q := s_go cG_compare_24 cG_compare_25 rfl rfl
theorem rG_compare_25 {a0 a2 a3 s0 : Nat} {a1 a4 a5 : Int} {u6 u7 u8 : zV} : zS 40 25 [zR a0, zI a1, zR a2, zR a3, zI a4, zI a5, u6, u7, u8] [zR s0] sh pp mm Q ↔ zS 40 27 [zR a0, zI a1, zR a2, zR a3, zI a4, zI a5, zU, zU, zU] [zI a5, zR s0] sh pp mm Q := s_go cG_compare_25 cG_compare_27 rfl rfl
theorem rG_compare_27 {a0 a2 a3 s1 : Nat} {a1 a4 a5 s0 : Int} {u6 u7 u8 : zV} (hk : zKd sh s1 = 20 ∨ zKd sh s1 = 30) (h0 : 0 ≤ s0) (h1 : s0 < zLn sh s1) : zS 40 27 [zR a0, zI a1, zR a2, zR a3, zI a4, zI a5, u6, u7, u8] [zI s0, zR s1] sh pp mm Q ↔ zS 40 28 [zR a0, zI a1, zR a2, zR a3, zI a4, zI a5, zU, zU, zU] [zI (mm s1 s0)] sh pp mm Q := s_go cG_compare_27 cG_compare_28 (if_pos ⟨hk, h0, h1⟩) rfl
theorem rG_compare_28 {a0 a2 a3 : Nat} {a1 a4 a5 s0 : Int} {u6 u7 u8 : zV} : zS 40 28 [zR a0, zI a1, zR a2, zR a3, zI a4, zI a5, u6, u7, u8] [zI s0] sh pp mm Q ↔ zS 40 29 [zR a0, zI a1, zR a2, zR a3, zI a4, zI a5, zU, zU, zU] [zI (-1), zI s0] sh pp mm Q := s_go cG_compare_28 cG_compare_29 rfl rfl
theorem rG_compare_29 {a0 a2 a3 : Nat} {a1 a4 a5 s0 s1 : Int} {u6 u7 u8 : zV} : zS 40 29 [zR a0, zI a1, zR a2, zR a3, zI a4, zI a5, u6, u7, u8] [zI s0, zI s1] sh pp mm Q ↔ (s1 = s0 → zS 40 120 [zR a0, zI a1, zR a2, zR a3, zI a4, zI a5, zU, zU, zU] [] sh pp mm Q) ∧ (¬ s1 = s0 → zS 40 32 [zR a0, zI a1, zR a2, zR a3, zI a4, zI a5, zU, zU, zU] [] sh pp mm Q) := s_if cG_compare_29 cG_compare_120 cG_compare_32 rfl rfl rfl
theorem rG_compare_32 {a0 a2 a3 : Nat} {a1 a4 a5 : Int} {u6 u7 u8 : zV} : zS 40 32 [zR a0, zI a1, zR a2, zR a3, zI a4, zI a5, u6, u7, u8] [] sh pp mm Q ↔ zS 40 33 [zR a0, zI a1, zR a2, zR a3, zI a4, zI a5, zU, zU, zU] [zI 0] sh pp mm Q := s_go cG_compare_32 cG_compare_33 rfl rfl
theorem rG_compare_33 {a0 a2 a3 : Nat} {a1 a4 a5 s0 : Int} {u6 u7 u8 : zV} : zS 40 33 [zR a0, zI a1, zR a2, zR a3, zI a4, zI a5, u6, u7, u8] [zI s0] sh pp mm Q ↔ zS 40 35 [zR a0, zI a1, zR a2, zR a3, zI a4, zI a5, zI s0, zU, zU] [] sh pp mm Q := s_go cG_compare_33 cG_compare_35 rfl rfl
theorem rG_compare_35 {a0 a2 a3 : Nat} {a1 a4 a5 a6 : Int} {u7 u8 : zV} : zS 40 35 [zR a0, zI a1, zR a2, zR a3, zI a4, zI a5, zI a6, u7, u8] [] sh pp mm Q ↔ zS 40 37 [zR a0, zI a1, zR a2, zR a3, zI a4, zI a5, zI a6, zU, zU] [zI a6] sh pp mm Q := s_go cG_compare_35 cG_compare_37 rfl rfl
theorem rG_compare_37 {a0 a2 a3 : Nat} {a1 a4 a5 a6 s0 : Int} {u7 u8 : zV} : zS 40 37 [zR a0, zI a1, zR a2, zR a3, zI a4, zI a5, zI a6, u7, u8] [zI s0] sh pp mm Q ↔ zS 40 38 [zR a0, zI a1, zR a2, zR a3, zI a4, zI a5, zI a6, zU, zU] [zI 4, zI s0] sh pp mm Q := s_go cG_compare_37 cG_compare_38 rfl rfl
theorem rG_compare_38 {a0 a2 a3 : Nat} {a1 a4 a5 a6 s0 s1 : Int} {u7 u8 : zV} : zS 40 38 [zR a0, zI a1, zR a2, zR a3, zI a4, zI a5, zI a6, u7, u8] [zI s0, zI s1] sh pp mm Q ↔ (s1 < s0 → zS 40 41 [zR a0, zI a1, zR a2, zR a3, zI a4, zI a5, zI a6, zU, zU] [] sh pp mm Q) ∧ (¬ s1 < s0 → zS 40 120 [zR a0, zI a1, zR a2, zR a3, zI a4, zI a5, zU, zU, zU] [] sh pp mm Q) := s_ifn cG_compare_38 cG_compare_41 cG_compare_120 rfl rfl rfl
theorem rG_compare_41 {a0 a2 a3 : Nat} {a1 a4 a5 a6 : Int} {u7 u8 : zV} : zS 40 41 [zR a0, zI a1, zR a2, zR a3, zI a4, zI a5, zI a6, u7, u8] [] sh pp mm Q ↔ zS 40 43 [zR a0, zI a1, zR a2, zR a3, zI a4, zI a5, zI a6, zU, zU] [zI a6] sh pp mm Q := s_go cG_compare_41 cG_compare_43 rfl rfl
theorem rG_compare_43 {a0 a2 a3 : Nat} {a1 a4 a5 a6 s0 : Int} {u7 u8 : zV} : zS 40 43 [zR a0, zI a1, zR a2, zR a3, zI a4, zI a5, zI a6, u7, u8] [zI s0] sh pp mm Q ↔ (0 < s0 → zS 40 46 [zR a0, zI a1, zR a2, zR a3, zI a4, zI a5, zI a6, zU, zU] [] sh pp mm Q) ∧ (¬ 0 < s0 → zS 40 69 [zR a0, zI a1, zR a2, zR a3, zI a4, zI a5, zI a6, zU, zU] [] sh pp mm Q) := s_ifn cG_compare_43 cG_compare_46 cG_compare_69 rfl rfl rfl
theorem rG_compare_46 {a0 a2 a3 : Nat} {a1 a4 a5 a6 : Int} {u7 u8 : zV} : zS 40 46 [zR a0, zI a1, zR a2, zR a3, zI a4, zI a5, zI a6, u7, u8] [] sh pp mm Q ↔ zS 40 48 [zR a0, zI a1, zR a2, zR a3, zI a4, zI a5, zI a6, zU, zU] [zI a5] sh pp mm Q := s_go cG_compare_46 cG_compare_48 rfl rfl
theorem rG_compare_48 {a0 a2 a3 : Nat} {a1 a4 a5 a6 s0 : Int} {u7 u8 : zV} : zS 40 48 [zR a0, zI a1, zR a2, zR a3, zI a4, zI a5, zI a6, u7, u8] [zI s0] sh pp mm Q ↔ zS 40 50 [zR a0, zI a1, zR a2, zR a3, zI a4, zI a5, zI a6, zU, zU] [zI a4, zI s0] sh pp mm Q := s_go cG_compare_48 cG_compare_50 rfl rfl
theorem rG_compare_50 {a0 a2 a3 : Nat} {a1 a4 a5 a6 s0 s1 : Int} {u7 u8 : zV} : zS 40 50 [zR a0, zI a1, zR a2, zR a3, zI a4, zI a5, zI a6, u7, u8] [zI s0, zI s1] sh pp mm Q ↔ (s1 = s0 → zS 40 69 [zR a0, zI a1, zR a2, zR a3, zI a4, zI a5, zI a6, zU, zU] [] sh pp mm Q) ∧ (¬ s1 = s0 → zS 40 53 [zR a0, zI a1, zR a2, zR a3, zI a4, zI a5, zI a6, zU, zU] [] sh pp mm Q) := s_if cG_compare_50 cG_compare_69 cG_compare_53 rfl rfl rfl
theorem rG_compare_53 {a0 a2 a3 : Nat} {a1 a4 a5 a6 : Int} {u7 u8 : zV} : zS 40 53 [zR a0, zI a1, zR a2, zR a3, zI a4, zI a5, zI a6, u7, u8] [] sh pp mm Q ↔ zS 40 55 [zR a0, zI a1, zR a2, zR a3, zI a4, zI a5, zI a6, zU, zU] [zI a5] sh pp mm Q := s_go cG_compare_53 cG_compare_55 rfl rfl
theorem rG_compare_55 {a0 a2 a3 : Nat} {a1 a4 a5 a6 s0 : Int} {u7 u8 : zV} : zS 40 55 [zR a0, zI a1, zR a2, zR a3, zI a4, zI a5, zI a6, u7, u8] [zI s0] sh pp mm Q ↔ zS 40 57 [zR a0, zI a1, zR a2, zR a3, zI a4, zI a5, zI a6, zU, zU] [zI a6, zI s0] sh pp mm Q := s_go cG_compare_55 cG_compare_57 rfl rfl
theorem rG_compare_57 {a0 a2 a3 : Nat} {a1 a4 a5 a6 s0 s1 : Int} {u7 u8 : zV} : zS 40 57 [zR a0, zI a1, zR a2, zR a3, zI a4, zI a5, zI a6, u7, u8] [zI s0, zI s1] sh pp mm Q ↔ zS 40 58 [zR a0, zI a1, zR a2, zR a3, zI a4, zI a5, zI a6, zU, zU] [zI 1, zI s0, zI s1] sh pp mm Q := s_go cG_compare_57 cG_compare_58 rfl rfl
theorem rG_compare_58 {a0 a2 a3 : Nat} {a1 a4 a5 a6 s0 s1 s2 : Int} {u7 u8 : zV} : zS 40 58 [zR a0, zI a1, zR a2, zR a3, zI a4, zI a5, zI a6, u7, u8] [zI s0, zI s1, zI s2] sh pp mm Q ↔ zS 40 59 [zR a0, zI a1, zR a2, zR a3, zI a4, zI a5, zI a6, zU, zU] [zI (zw32 (s1 - s0)), zI s2] sh pp mm Q := s_go cG_compare_58 cG_compare_59 rfl rfl
theorem rG_compare_59 {a0 a2 a3 : Nat} {a1 a4 a5 a6 s0 s1 : Int} {u7 u8 : zV} : zS 40 59 [zR a0, zI a1, zR a2, zR a3, zI a4, zI a5, zI a6, u7, u8] [zI s0, zI s1] sh pp mm Q ↔ zS 144 0 [zI s1, zI s0] [] sh pp mm (fun v sh pp mm => zS 40 62 [zR a0, zI a1, zR a2, zR a3, zI a4, zI a5, zI a6, zU, zU] (zPush v []) sh pp mm Q) := s_call cG_compare_59 cG_compare_62 rfl rfl
theorem rG_compare_62 {a0 a2 a3 : Nat} {a1 a4 a5 a6 s0 : Int} {u7 u8 : zV} : zS 40 62 [zR a0, zI a1, zR a2, zR a3, zI a4, zI a5, zI a6, u7, u8] [zI s0] sh pp mm Q ↔ (s0 = 0 → zS 40 69 [zR a0, zI a1, zR a2, zR a3, zI a4, zI a5, zI a6, zU, zU] [] sh pp mm Q) ∧ (¬ s0 = 0 → zS 40 65 [zR a0, zI a1, zR a2, zR a3, zI a4, zI a5, zI a6, zU, zU] [] sh pp mm Q) := s_if cG_compare_62 cG_compare_69 cG_compare_65 rfl rfl rfl
theorem rG_compare_65 {a0 a2 a3 : Nat} {a1 a4 a5 a6 : Int} {u7 u8 : zV} : zS 40 65 [zR a0, zI a1, zR a2, zR a3, zI a4, zI a5, zI a6, u7, u8] [] sh pp mm Q ↔ zS 40 66 [zR a0, zI a1, zR a2, zR a3, zI a4, zI a5, zI a6, zU, zU] [zI 1] sh pp mm Q := s_go cG_compare_65 cG_compare_66 rfl rfl
theorem rG_compare_66 {a0 a2 a3 : Nat} {a1 a4 a5 a6 s0 : Int} {u7 u8 : zV} : zS 40 66 [zR a0, zI a1, zR a2, zR a3, zI a4, zI a5, zI a6, u7, u8] [zI s0] sh pp mm Q ↔ zS 40 70 [zR a0, zI a1, zR a2, zR a3, zI a4, zI a5, zI a6, zU, zU] [zI s0] sh pp mm Q := s_go cG_compare_66 cG_compare_70 rfl rfl
theorem rG_compare_69 {a0 a2 a3 : Nat} {a1 a4 a5 a6 : Int} {u7 u8 : zV} : zS 40 69 [zR a0, zI a1, zR a2, zR a3, zI a4, zI a5, zI a6, u7, u8] [] sh pp mm Q ↔ zS 40 70 [zR a0, zI a1, zR a2, zR a3, zI a4, zI a5, zI a6, zU, zU] [zI 0] sh pp mm Q := s_go cG_compare_69 cG_compare_70 rfl rfl
theorem rG_compare_70 {a0 a2 a3 : Nat} {a1 a4 a5 a6 s0 : Int} {u7 u8 : zV} : zS 40 70 [zR a0, zI a1, zR a2, zR a3, zI a4, zI a5, zI a6, u7, u8] [zI s0] sh pp mm Q ↔ zS 40 72 [zR a0, zI a1, zR a2, zR a3, zI a4, zI a5, zI a6, zI s0, zU] [] sh pp mm Q := s_go cG_compare_70 cG_compare_72 rfl rfl
theorem rG_compare_72 {a0 a2 a3 : Nat} {a1 a4 a5 a6 a7 : Int} {u8 : zV} : zS 40 72 [zR a0, zI a1, zR a2, zR a3, zI a4, zI a5, zI a6, zI a7, u8] [] sh pp mm Q ↔ zS 40 74 [zR a0, zI a1, zR a2, zR a3, zI a4, zI a5, zI a6, zU, zU] [zI a7] sh pp mm Q := s_go cG_compare_72 cG_compare_74 rfl rfl
theorem rG_compare_74 {a0 a2 a3 : Nat} {a1 a4 a5 a6 s0 : Int} {u7 u8 : zV} : zS 40 74 [zR a0, zI a1, zR a2, zR a3, zI a4, zI a5, zI a6, u7, u8] [zI s0] sh pp mm Q ↔ (s0 = 0 → zS 40 81 [zR a0, zI a1, zR a2, zR a3, zI a4, zI a5, zI a6, zU, zU] [] sh pp mm Q) ∧ (¬ s0 = 0 → zS 40 77 [zR a0, zI a1, zR a2, zR a3, zI a4, zI a5, zI a6, zU, zU] [] sh pp mm Q) := s_if cG_compare_74 cG_compare_81 cG_compare_77 rfl rfl rfl
theorem rG_compare_77 {a0 a2 a3 : Nat} {a1 a4 a5 a6 : Int} {u7 u8 : zV} : zS 40 77 [zR a0, zI a1, zR a2, zR a3, zI a4, zI a5, zI a6, u7, u8] [] sh pp mm Q ↔ zS 40 78 [zR a0, zI a1, zR a2, zR a3, zI a4, zI a5, zI a6, zU, zU] [zI 0] sh pp mm Q := s_go cG_compare_77 cG_compare_78 rfl rfl
theorem rG_compare_78 {a0 a2 a3 : Nat} {a1 a4 a5 a6 s0 : Int} {u7 u8 : zV} : zS 40 78 [zR a0, zI a1, zR a2, zR a3, zI a4, zI a5, zI a6, u7, u8] [zI s0] sh pp mm Q ↔ zS 40 88 [zR a0, zI a1, zR a2, zR a3, zI a4, zI a5, zI a6, zU, zU] [zI s0] sh pp mm Q := s_go cG_compare_78 cG_compare_88 rfl rfl
theorem rG_compare_81 {a0 a2 a3 : Nat} {a1 a4 a5 a6 : Int} {u7 u8 : zV} : zS 40 81 [zR a0, zI a1, zR a2, zR a3, zI a4, zI a5, zI a6, u7, u8] [] sh pp mm Q ↔ zS 40 82 [zR a0, zI a1, zR a2, zR a3, zI a4, zI a5, zI a6, zU, zU] [zR a2] sh pp mm Q := s_go cG_compare_81 cG_compare_82 rfl rfl
theorem rG_compare_82 {a0 a2 a3 s0 : Nat} {a1 a4 a5 a6 : Int} {u7 u8 : zV} (hk : zKd sh s0 = 1) : zS 40 82 [zR a0, zI a1, zR a2, zR a3, zI a4, zI a5, zI a6, u7, u8] [zR s0] sh pp mm Q ↔ zS 40 85 [zR a0, zI a1, zR a2, zR a3, zI a4, zI a5, zI a6, zU, zU] [zR (pp s0 0)] sh pp mm Q := s_go cG_compare_82 cG_compare_85 (if_pos hk) rfl
theorem rG_compare_85 {a0 a2 a3 s0 : Nat} {a1 a4 a5 a6 : Int} {u7 u8 : zV} : zS 40 85 [zR a0, zI a1, zR a2, zR a3, zI a4, zI a5, zI a6, u7, u8] [zR s0] sh pp mm Q ↔ zS 40 87 [zR a0, zI a1, zR a2, zR a3, zI a4, zI a5, zI a6, zU, zU] [zI a5, zR s0] sh pp mm Q := s_go cG_compare_85 cG_compare_87 rfl rfl
theorem rG_compare_87 {a0 a2 a3 s1 : Nat} {a1 a4 a5 a6 s0 : Int} {u7 u8 : zV} (hk : zKd sh s1 = 20 ∨ zKd sh s1 = 30) (h0 : 0 ≤ s0) (h1 : s0 < zLn sh s1) : zS 40 87 [zR a0, zI a1, zR a2, zR a3, zI a4, zI a5, zI a6, u7, u8] [zI s0, zR s1] sh pp mm Q ↔ zS 40 88 [zR a0, zI a1, zR a2, zR a3, zI a4, zI a5, zI a6, zU, zU] [zI (mm s1 s0)] sh pp mm Q := s_go cG_compare_87 cG_compare_88 (if_pos ⟨hk, h0, h1⟩) rfl
theorem rG_compare_88 {a0 a2 a3 : Nat} {a1 a4 a5 a6 s0 : Int} {u7 u8 : zV} : zS 40 88 [zR a0, zI a1, zR a2, zR a3, zI a4, zI a5, zI a6, u7, u8] [zI s0] sh pp mm Q ↔ zS 40 90 [zR a0, zI a1, zR a2, zR a3, zI a4, zI a5, zI a6, zU, zI s0] [] sh pp mm Q := s_go cG_compare_88 cG_compare_90 rfl rfl
theorem rG_compare_90 {a0 a2 a3 : Nat} {a1 a4 a5 a6 a8 : Int} {u7 : zV} : zS 40 90 [zR a0, zI a1, zR a2, zR a3, zI a4, zI a5, zI a6, u7, zI a8] [] sh pp mm Q ↔ zS 40 92 [zR a0, zI a1, zR a2, zR a3, zI a4, zI a5, zI a6, zU, zU] [zI a8] sh pp mm Q := s_go cG_compare_90 cG_compare_92 rfl rfl
theorem rG_compare_92 {a0 a2 a3 : Nat} {a1 a4 a5 a6 s0 : Int} {u7 u8 : zV} : zS 40 92 [zR a0, zI a1, zR a2, zR a3, zI a4, zI a5, zI a6, u7, u8] [zI s0] sh pp mm Q ↔ zS 40 93 [zR a0, zI a1, zR a2, zR a3, zI a4, zI a5, zI a6, zU, zU] [zR a3, zI s0] sh pp mm Q := s_go cG_compare_92 cG_compare_93 rfl rfl
theorem rG_compare_93 {a0 a2 a3 s0 : Nat} {a1 a4 a5 a6 s1 : Int} {u7 u8 : zV} : zS 40 93 [zR a0, zI a1, zR a2, zR a3, zI a4, zI a5, zI a6, u7, u8] [zR s0, zI s1] sh pp mm Q ↔ zS 40 95 [zR a0, zI a1, zR a2, zR a3, zI a4, zI a5, zI a6, zU, zU] [zI a5, zR s0, zI s1] sh pp mm Q := s_go cG_compare_93 cG_compare_95 rfl rfl
theorem rG_compare_95 {a0 a2 a3 s1 : Nat} {a1 a4 a5 a6 s0 s2 : Int} {u7 u8 : zV} (hk : zKd sh s1 = 20 ∨ zKd sh s1 = 30) (h0 : 0 ≤ s0) (h1 : s0 < zLn sh s1) : zS 40 95 [zR a0, zI a1, zR a2, zR a3, zI a4, zI a5, zI a6, u7, u8] [zI s0, zR s1, zI s2] sh pp mm Q ↔ zS 40 96 [zR a0, zI a1, zR a2, zR a3, zI a4, zI a5, zI a6, zU, zU] [zI (mm s1 s0), zI s2] sh pp mm Q := s_go cG_compare_95 cG_compare_96 (if_pos ⟨hk, h0, h1⟩) rfl
theorem rG_compare_96 {a0 a2 a3 : Nat} {a1 a4 a5 a6 s0 s1 : Int} {u7 u8 : zV} : zS 40 96 [zR a0, zI a1, zR a2, zR a3, zI a4, zI a5, zI a6, u7, u8] [zI s0, zI s1] sh pp mm Q ↔ (s1 = s0 → zS 40 99 [zR a0, zI a1, zR a2, zR a3, zI a4, zI a5, zI a6, zU, zU] [] sh pp mm Q) ∧ (¬ s1 = s0 → zS 40 114 [zR a0, zI a1, zR a2, zR a3, zI a4, zI a5, zI a6, zU, zU] [] sh pp mm Q) := s_ifn cG_compare_96 cG_compare_99 cG_compare_114 rfl rfl rfl
theorem rG_compare_99 {a0 a2 a3 : Nat} {a1 a4 a5 a6 : Int} {u7 u8 : zV} : zS 40 99 [zR a0, zI a1, zR a2, zR a3, zI a4, zI a5, zI a6, u7, u8] [] sh pp mm Q ↔ zS 40 100 [zR a0, zI a1, zR a2, zR a3, zI a4, zI a5, zI a6, zU, zU] [zR a0] sh pp mm Q := s_go cG_compare_99 cG_compare_100 rfl rfl
theorem rG_compare_100 {a0 a2 a3 s0 : Nat} {a1 a4 a5 a6 : Int} {u7 u8 : zV} (hk : zKd sh s0 = 3) : zS 40 100 [zR a0, zI a1, zR a2, zR a3, zI a4, zI a5, zI a6, u7, u8] [zR s0] sh pp mm Q ↔ zS 40 103 [zR a0, zI a1, zR a2, zR a3, zI a4, zI a5, zI a6, zU, zU] [zR (pp s0 5)] sh pp mm Q := s_go cG_compare_100 cG_compare_103 (if_pos hk) rfl
theorem rG_compare_103 {a0 a2 a3 s0 : Nat} {a1 a4 a5 a6 : Int} {u7 u8 : zV} : zS 40 103 [zR a0, zI a1, zR a2, zR a3, zI a4, zI a5, zI a6, u7, u8] [zR s0] sh pp mm Q ↔ zS 40 104 [zR a0, zI a1, zR a2, zR a3, zI a4, zI a5, zI a6, zU, zU] [zI a1, zR s0] sh pp mm Q := s_go cG_compare_103 cG_compare_104 rfl rfl
theorem rG_compare_104 {a0 a2 a3 s1 : Nat} {a1 a4 a5 a6 s0 : Int} {u7 u8 : zV} : zS 40 104 [zR a0, zI a1, zR a2, zR a3, zI a4, zI a5, zI a6, u7, u8] [zI s0, zR s1] sh pp mm Q ↔ zS 40 105 [zR a0, zI a1, zR a2, zR a3, zI a4, zI a5, zI a6, zU, zU] [zI 4, zI s0, zR s1] sh pp mm Q := s_go cG_compare_104 cG_compare_105 rfl rfl
theorem rG_compare_105 {a0 a2 a3 s2 : Nat} {a1 a4 a5 a6 s0 s1 : Int} {u7 u8 : zV} : zS 40 105 [zR a0, zI a1, zR a2, zR a3, zI a4, zI a5, zI a6, u7, u8] [zI s0, zI s1, zR s2] sh pp mm Q ↔ zS 40 106 [zR a0, zI a1, zR a2, zR a3, zI a4, zI a5, zI a6, zU, zU] [zI (zw32 (s1 * s0)), zR s2] sh pp mm Q := s_go cG_compare_105 cG_compare_106 rfl rfl
theorem rG_compare_106 {a0 a2 a3 s1 : Nat} {a1 a4 a5 a6 s0 : Int} {u7 u8 : zV} : zS 40 106 [zR a0, zI a1, zR a2, zR a3, zI a4, zI a5, zI a6, u7, u8] [zI s0, zR s1] sh pp mm Q ↔ zS 40 108 [zR a0, zI a1, zR a2, zR a3, zI a4, zI a5, zI a6, zU, zU] [zI a6, zI s0, zR s1] sh pp mm Q := s_go cG_compare_106 cG_compare_108 rfl rfl
theorem rG_compare_108 {a0 a2 a3 s2 : Nat} {a1 a4 a5 a6 s0 s1 : Int} {u7 u8 : zV} : zS 40 108 [zR a0, zI a1, zR a2, zR a3, zI a4, zI a5, zI a6, u7, u8] [zI s0, zI s1, zR s2] sh pp mm Q ↔ zS 40 109 [zR a0, zI a1, zR a2, zR a3, zI a4, zI a5, zI a6, zU, zU] [zI (zw32 (s1 + s0)), zR s2] sh pp mm Q := s_go cG_compare_108 cG_compare_109 rfl rfl
theorem rG_compare_109 {a0 a2 a3 s1 : Nat} {a1 a4 a5 a6 s0 : Int} {u7 u8 : zV} : zS 40 109 [zR a0, zI a1, zR a2, zR a3, zI a4, zI a5, zI a6, u7, u8] [zI s0, zR s1] sh pp mm Q ↔ zS 40 110 [zR a0, zI a1, zR a2, zR a3, zI a4, zI a5, zI a6, zU, zU] [zI s0, zR s1, zI s0, zR s1] sh pp mm Q := s_go cG_compare_109 cG_compare_110 rfl rfl
theorem rG_compare_110 {a0 a2 a3 s1 s3 : Nat} {a1 a4 a5 a6 s0 s2 : Int} {u7 u8 : zV} (hk : zKd sh s1 = 20 ∨ zKd sh s1 = 30) (h0 : 0 ≤ s0) (h1 : s0 < zLn sh s1) : zS 40 110 [zR a0, zI a1, zR a2, zR a3, zI a4, zI a5, zI a6, u7, u8] [zI s0, zR s1, zI s2, zR s3] sh pp mm Q ↔ zS 40 111 [zR a0, zI a1, zR a2, zR a3, zI a4, zI a5, zI a6, zU, zU] [zI (mm s1 s0), zI s2, zR s3] sh pp mm Q := s_go cG_compare_110 cG_compare_111 (if_pos ⟨hk, h0, h1⟩) rfl
theorem rG_compare_111 {a0 a2 a3 s2 : Nat} {a1 a4 a5 a6 s0 s1 : Int} {u7 u8 : zV} : zS 40 111 [zR a0, zI a1, zR a2, zR a3, zI a4, zI a5, zI a6, u7, u8] [zI s0, zI s1, zR s2] sh pp mm Q ↔ zS 40 112 [zR a0, zI a1, zR a2, zR a3, zI a4, zI a5, zI a6, zU, zU] [zI 1, zI s0, zI s1, zR s2] sh pp mm Q := s_go cG_compare_111 cG_compare_112 rfl rfl
theorem rG_compare_112 {a0 a2 a3 s3 : Nat} {a1 a4 a5 a6 s0 s1 s2 : Int} {u7 u8 : zV} : zS 40 112 [zR a0, zI a1, zR a2, zR a3, zI a4, zI a5, zI a6, u7, u8] [zI s0, zI s1, zI s2, zR s3] sh pp mm Q ↔ zS 40 113 [zR a0, zI a1, zR a2, zR a3, zI a4, zI a5, zI a6, zU, zU] [zI (zw32 (s1 + s0)), zI s2, zR s3] sh pp mm Q := s_go cG_compare_112 cG_compare_113 rfl rfl
theorem rG_compare_113 {a0 a2 a3 s2 : Nat} {a1 a4 a5 a6 s0 s1 : Int} {u7 u8 : zV} (hk : zKd sh s2 = 20) (h0 : 0 ≤ s1) (h1 : s1 < zLn sh s2) : zS 40 113 [zR a0, zI a1, zR a2, zR a3, zI a4, zI a5, zI a6, u7, u8] [zI s0, zI s1, zR s2] sh pp mm Q ↔ zS 40 114 [zR a0, zI a1, zR a2, zR a3, zI a4, zI a5, zI a6, zU, zU] [] sh pp (zupd mm s2 s1 s0) Q := s_go cG_compare_113 cG_compare_114 (if_pos ⟨hk, h0, h1, fun h => absurd h (by decide)⟩) rfl
theorem rG_compare_114 {a0 a2 a3 : Nat} {a1 a4 a5 a6 : Int} {u7 u8 : zV} : zS 40 114 [zR a0, zI a1, zR a2, zR a3, zI a4, zI a5, zI a6, u7, u8] [] sh pp mm Q ↔ zS 40 117 [zR a0, zI a1, zR a2, zR a3, zI a4, zI a5, zI (zw32 (a6 + 1)), zU, zU] [] sh pp mm Q := s_go cG_compare_114 cG_compare_117 rfl rfl
theorem rG_compare_117 {a0 a2 a3 : Nat} {a1 a4 a5 a6 : Int} {u7 u8 : zV} : zS 40 117 [zR a0, zI a1, zR a2, zR a3, zI a4, zI a5, zI a6, u7, u8] [] sh pp mm Q ↔ zS 40 35 [zR a0, zI a1, zR a2, zR a3, zI a4, zI a5, zI a6, zU, zU] [] sh pp mm Q := s_go cG_compare_117 cG_compare_35 rfl rfl
theorem rG_compare_120 {a0 a2 a3 : Nat} {a1 a4 a5 : Int} {u6 u7 u8 : zV} : zS 40 120 [zR a0, zI a1, zR a2, zR a3, zI a4, zI a5, u6, u7, u8] [] sh pp mm Q ↔ zS 40 123 [zR a0, zI a1, zR a2, zR a3, zI a4, zI (zw32 (a5 + 1)), zU, zU, zU] [] sh pp mm Q := s_go cG_compare_120 cG_compare_123 rfl rfl
theorem rG_compare_123 {a0 a2 a3 : Nat} {a1 a4 a5 : Int} {u6 u7 u8 : zV} : zS 40 123 [zR a0, zI a1, zR a2, zR a3, zI a4, zI a5, u6, u7, u8] [] sh pp mm Q ↔ zS 40 16 [zR a0, zI a1, zR a2, zR a3, zI a4, zI a5, zU, zU, zU] [] sh pp mm Q := s_go cG_compare_123 cG_compare_16 rfl rfl
theorem rG_compare_126 {u0 u1 u2 u3 u4 u5 u6 u7 u8 : zV} : zS 40 126 [u0, u1, u2, u3, u4, u5, u6, u7, u8] [] sh pp mm Q ↔ Q zU sh pp mm := s_ret cG_compare_126 rfl
theorem cAG_gather : ∀ q ∈ zT41, zCode 41 q.1 = some q.2 := zAll (mid := 41) rfl (by decide +kernel)
theorem cAG_gather_0 : ∀ q ∈ zT41_0, zCode 41 q.1 = some q.2 := fun q h => cAG_gather q (List.mem_append_left _ h)
theorem cAG_gather_1 : ∀ q ∈ zT41_1, zCode 41 q.1 = some q.2 := fun q h => cAG_gather q (List.mem_append_right _ (List.mem_append_left _ h))
theorem cAG_gather_2 : ∀ q ∈ zT41_2, zCode 41 q.1 = some q.2 := fun q h => cAG_gather q (List.mem_append_right _ (List.mem_append_right _ (List.mem_append_left _ h)))
theorem cAG_gather_3 : ∀ q ∈ zT41_3, zCode 41 q.1 = some q.2 := fun q h => cAG_gather q (List.mem_append_right _ (List.mem_append_right _ (List.mem_append_right _ (List.mem_append_left _ h))))
theorem cAG_gather_4 : ∀ q ∈ zT41_4, zCode 41 q.1 = some q.2 := fun q h => cAG_gather q (List.mem_append_right _ (List.mem_append_right _ (List.mem_append_right _ (List.mem_append_right _ (List.mem_append_left _ h)))))
theorem cAG_gather_5 : ∀ q ∈ zT41_5, zCode 41 q.1 = some q.2 := fun q h => cAG_gather q (List.mem_append_right _ (List.mem_append_right _ (List.mem_append_right _ (List.mem_append_right _ (List.mem_append_right _ h)))))
theorem cG_gather_0 : zCode 41 0 = some (.aload_n 0, 1, 0, 0, 0, 0, 15) := cAG_gather_0 _ (List.mem_of_getElem? (i := 0) rfl)
theorem cG_gather_1 : zCode 41 1 = some (.getfield 9, 4, 3, 0, 2, 298, 15) := cAG_gather_0 _ (List.mem_of_getElem? (i := 1) rfl)
theorem cG_gather_4 : zCode 41 4 = some (.iconst 0, 5, 0, 0, 0, 0, 15) := cAG_gather_0 _ (List.mem_of_getElem? (i := 2) rfl)
theorem cG_gather_5 : zCode 41 5 = some (.invokestatic 32, 8, 271, 2, 4, 18, 15) := cAG_gather_0 _ (List.mem_of_getElem? (i := 3) rfl)
theorem cG_gather_8 : zCode 41 8 = some (.aload_n 0, 9, 0, 0, 0, 0, 15) := cAG_gather_0 _ (List.mem_of_getElem? (i := 4) rfl)
theorem cG_gather_9 : zCode 41 9 = some (.getfield 15, 12, 3, 1, 2, 300, 15) := cAG_gather_0 _ (List.mem_of_getElem? (i := 5) rfl)
theorem cG_gather_12 : zCode 41 12 = some (.iconst 0, 13, 0, 0, 0, 0, 15) := cAG_gather_0 _ (List.mem_of_getElem? (i := 6) rfl)
theorem cG_gather_13 : zCode 41 13 = some (.invokestatic 32, 16, 271, 2, 4, 18, 15) := cAG_gather_0 _ (List.mem_of_getElem? (i := 7) rfl)
theorem cG_gather_16 : zCode 41 16 = some (.aload_n 0, 17, 0, 0, 0, 0, 15) := cAG_gather_0 _ (List.mem_of_getElem? (i := 8) rfl)
theorem cG_gather_17 : zCode 41 17 = some (.bipush 60, 19, 0, 0, 0, 0, 15) := cAG_gather_0 _ (List.mem_of_getElem? (i := 9) rfl)
theorem cG_gather_19 : zCode 41 19 = some (.putfield 18, 22, 3, 2, 0, 302, 15) := cAG_gather_0 _ (List.mem_of_getElem? (i := 10) rfl)
theorem cG_gather_22 : zCode 41 22 = some (.aload_n 0, 23, 0, 0, 0, 0, 15) := cAG_gather_0 _ (List.mem_of_getElem? (i := 11) rfl)
theorem cG_gather_23 : zCode 41 23 = some (.iconst 0, 24, 0, 0, 0, 0, 15) := cAG_gather_0 _ (List.mem_of_getElem? (i := 12) rfl)
theorem cG_gather_24 : zCode 41 24 = some (.putfield 22, 27, 3, 3, 0, 304, 15) := cAG_gather_0 _ (List.mem_of_getElem? (i := 13) rfl)
theorem cG_gather_27 : zCode 41 27 = some (.iconst 0, 28, 0, 0, 0, 0, 15) := cAG_gather_0 _ (List.mem_of_getElem? (i := 14) rfl)
theorem cG_gather_28 : zCode 41 28 = some (.istore 4, 30, 0, 0, 0, 0, 15) := cAG_gather_0 _ (List.mem_of_getElem? (i := 15) rfl)
theorem cG_gather_30 : zCode 41 30 = some (.iload 4, 32, 0, 0, 0, 0, 31) := cAG_gather_1 _ (List.mem_of_getElem? (i := 0) rfl)
theorem cG_gather_32 : zCode 41 32 = some (.bipush 16, 34, 0, 0, 0, 0, 31) := cAG_gather_1 _ (List.mem_of_getElem? (i := 1) rfl)
theorem cG_gather_34 : zCode 41 34 = some (.if_icmp .ge 124, 37, 158, 0, 0, 0, 31) := cAG_gather_1 _ (List.mem_of_getElem? (i := 2) rfl)
theorem cG_gather_37 : zCode 41 37 = some (.iload 4, 39, 0, 0, 0, 0, 31) := cAG_gather_1 _ (List.mem_of_getElem? (i := 3) rfl)
theorem cG_gather_39 : zCode 41 39 = some (.iconst 4, 40, 0, 0, 0, 0, 31) := cAG_gather_1 _ (List.mem_of_getElem? (i := 4) rfl)
theorem cG_gather_40 : zCode 41 40 = some (.idiv, 41, 0, 0, 0, 0, 31) := cAG_gather_1 _ (List.mem_of_getElem? (i := 5) rfl)
theorem cG_gather_41 : zCode 41 41 = some (.istore 5, 43, 0, 0, 0, 0, 31) := cAG_gather_1 _ (List.mem_of_getElem? (i := 6) rfl)
theorem cG_gather_43 : zCode 41 43 = some (.iload 4, 45, 0, 0, 0, 0, 63) := cAG_gather_1 _ (List.mem_of_getElem? (i := 7) rfl)
theorem cG_gather_45 : zCode 41 45 = some (.iconst 4, 46, 0, 0, 0, 0, 63) := cAG_gather_1 _ (List.mem_of_getElem? (i := 8) rfl)
theorem cG_gather_46 : zCode 41 46 = some (.irem, 47, 0, 0, 0, 0, 63) := cAG_gather_1 _ (List.mem_of_getElem? (i := 9) rfl)
theorem cG_gather_47 : zCode 41 47 = some (.istore 6, 49, 0, 0, 0, 0, 63) := cAG_gather_1 _ (List.mem_of_getElem? (i := 10) rfl)
theorem cG_gather_49 : zCode 41 49 = some (.aload_n 0, 50, 0, 0, 0, 0, 127) := cAG_gather_1 _ (List.mem_of_getElem? (i := 11) rfl)
theorem cG_gather_50 : zCode 41 50 = some (.getfield 29, 53, 3, 5, 2, 307, 127) := cAG_gather_1 _ (List.mem_of_getElem? (i := 12) rfl)
theorem cG_gather_53 : zCode 41 53 = some (.iload 4, 55, 0, 0, 0, 0, 127) := cAG_gather_1 _ (List.mem_of_getElem? (i := 13) rfl)
theorem cG_gather_55 : zCode 41 55 = some (.iaload, 56, 0, 0, 0, 0, 127) := cAG_gather_1 _ (List.mem_of_getElem? (i := 14) rfl)
theorem cG_gather_56 : zCode 41 56 = some (.bipush 60, 58, 0, 0, 0, 0, 127) := cAG_gather_1 _ (List.mem_of_getElem? (i := 15) rfl)
theorem cG_gather_58 : zCode 41 58 = some (.invokestatic 51, 61, 260, 2, 2, 15, 127) := cAG_gather_2 _ (List.mem_of_getElem? (i := 0) rfl)
theorem cG_gather_61 : zCode 41 61 = some (.istore 7, 63, 0, 0, 0, 0, 127) := cAG_gather_2 _ (List.mem_of_getElem? (i := 1) rfl)
theorem cG_gather_63 : zCode 41 63 = some (.aload_n 0, 64, 0, 0, 0, 0, 255) := cAG_gather_2 _ (List.mem_of_getElem? (i := 2) rfl)
theorem cG_gather_64 : zCode 41 64 = some (.getfield 25, 67, 3, 4, 2, 306, 255) := cAG_gather_2 _ (List.mem_of_getElem? (i := 3) rfl)
theorem cG_gather_67 : zCode 41 67 = some (.iload 5, 69, 0, 0, 0, 0, 255) := cAG_gather_2 _ (List.mem_of_getElem? (i := 4) rfl)
theorem cG_gather_69 : zCode 41 69 = some (.baload, 70, 0, 0, 0, 0, 255) := cAG_gather_2 _ (List.mem_of_getElem? (i := 5) rfl)
theorem cG_gather_70 : zCode 41 70 = some (.ifCond .eq 82, 73, 152, 0, 0, 0, 255) := cAG_gather_2 _ (List.mem_of_getElem? (i := 6) rfl)
theorem cG_gather_73 : zCode 41 73 = some (.iload 6, 75, 0, 0, 0, 0, 255) := cAG_gather_2 _ (List.mem_of_getElem? (i := 7) rfl)
theorem cG_gather_75 : zCode 41 75 = some (.ifCond .ne 7, 78, 82, 0, 0, 0, 255) := cAG_gather_2 _ (List.mem_of_getElem? (i := 8) rfl)
theorem cG_gather_78 : zCode 41 78 = some (.iconst 3, 79, 0, 0, 0, 0, 255) := cAG_gather_2 _ (List.mem_of_getElem? (i := 9) rfl)
theorem cG_gather_79 : zCode 41 79 = some (.goto 4, 82, 83, 0, 0, 0, 255) := cAG_gather_2 _ (List.mem_of_getElem? (i := 10) rfl)
theorem cG_gather_82 : zCode 41 82 = some (.iconst 1, 83, 0, 0, 0, 0, 255) := cAG_gather_2 _ (List.mem_of_getElem? (i := 11) rfl)
theorem cG_gather_83 : zCode 41 83 = some (.istore 8, 85, 0, 0, 0, 0, 255) := cAG_gather_2 _ (List.mem_of_getElem? (i := 12) rfl)
theorem cG_gather_85 : zCode 41 85 = some (.aload_n 0, 86, 0, 0, 0, 0, 511) := cAG_gather_2 _ (List.mem_of_getElem? (i := 13) rfl)
theorem cG_gather_86 : zCode 41 86 = some (.getfield 15, 89, 3, 1, 2, 300, 511) := cAG_gather_2 _ (List.mem_of_getElem? (i := 14) rfl)
theorem cG_gather_89 : zCode 41 89 = some (.iload 7, 91, 0, 0, 0, 0, 511) := cAG_gather_2 _ (List.mem_of_getElem? (i := 15) rfl)
theorem cG_gather_91 : zCode 41 91 = some (.dup2, 92, 0, 0, 0, 0, 511) := cAG_gather_3 _ (List.mem_of_getElem? (i := 0) rfl)
theorem cG_gather_92 : zCode 41 92 = some (.iaload, 93, 0, 0, 0, 0, 511) := cAG_gather_3 _ (List.mem_of_getElem? (i := 1) rfl)
theorem cG_gather_93 : zCode 41 93 = some (.iload 8, 95, 0, 0, 0, 0, 511) := cAG_gather_3 _ (List.mem_of_getElem? (i := 2) rfl)
theorem cG_gather_95 : zCode 41 95 = some (.iadd, 96, 0, 0, 0, 0, 511) := cAG_gather_3 _ (List.mem_of_getElem? (i := 3) rfl)
theorem cG_gather_96 : zCode 41 96 = some (.iastore, 97, 0, 0, 0, 0, 511) := cAG_gather_3 _ (List.mem_of_getElem? (i := 4) rfl)
theorem cG_gather_97 : zCode 41 97 = some (.aload_n 0, 98, 0, 0, 0, 0, 511) := cAG_gather_3 _ (List.mem_of_getElem? (i := 5) rfl)
theorem cG_gather_98 : zCode 41 98 = some (.getfield 9, 101, 3, 0, 2, 298, 511) := cAG_gather_3 _ (List.mem_of_getElem? (i := 6) rfl)
theorem cG_gather_101 : zCode 41 101 = some (.iload 7, 103, 0, 0, 0, 0, 511) := cAG_gather_3 _ (List.mem_of_getElem? (i := 7) rfl)
theorem cG_gather_103 : zCode 41 103 = some (.dup2, 104, 0, 0, 0, 0, 511) := cAG_gather_3 _ (List.mem_of_getElem? (i := 8) rfl)
theorem cG_gather_104 : zCode 41 104 = some (.iaload, 105, 0, 0, 0, 0, 511) := cAG_gather_3 _ (List.mem_of_getElem? (i := 9) rfl)
theorem cG_gather_105 : zCode 41 105 = some (.iload_n 1, 106, 0, 0, 0, 0, 511) := cAG_gather_3 _ (List.mem_of_getElem? (i := 10) rfl)
theorem cG_gather_106 : zCode 41 106 = some (.iload_n 2, 107, 0, 0, 0, 0, 511) := cAG_gather_3 _ (List.mem_of_getElem? (i := 11) rfl)
theorem cG_gather_107 : zCode 41 107 = some (.iload 5, 109, 0, 0, 0, 0, 511) := cAG_gather_3 _ (List.mem_of_getElem? (i := 12) rfl)
theorem cG_gather_109 : zCode 41 109 = some (.iload 6, 111, 0, 0, 0, 0, 479) := cAG_gather_3 _ (List.mem_of_getElem? (i := 13) rfl)
theorem cG_gather_111 : zCode 41 111 = some (.aload_n 3, 112, 0, 0, 0, 0, 415) := cAG_gather_3 _ (List.mem_of_getElem? (i := 14) rfl)
theorem cG_gather_112 : zCode 41 112 = some (.invokestatic 57, 115, 42, 5, 5, 3, 415) := cAG_gather_3 _ (List.mem_of_getElem? (i := 15) rfl)
theorem cG_gather_115 : zCode 41 115 = some (.ifCond .eq 8, 118, 123, 0, 0, 0, 415) := cAG_gather_4 _ (List.mem_of_getElem? (i := 0) rfl)
theorem cG_gather_118 : zCode 41 118 = some (.iload 8, 120, 0, 0, 0, 0, 415) := cAG_gather_4 _ (List.mem_of_getElem? (i := 1) rfl)
theorem cG_gather_120 : zCode 41 120 = some (.goto 4, 123, 124, 0, 0, 0, 159) := cAG_gather_4 _ (List.mem_of_getElem? (i := 2) rfl)
theorem cG_gather_123 : zCode 41 123 = some (.iconst 0, 124, 0, 0, 0, 0, 159) := cAG_gather_4 _ (List.mem_of_getElem? (i := 3) rfl)
theorem cG_gather_124 : zCode 41 124 = some (.iadd, 125, 0, 0, 0, 0, 159) := cAG_gather_4 _ (List.mem_of_getElem? (i := 4) rfl)
theorem cG_gather_125 : zCode 41 125 = some (.iastore, 126, 0, 0, 0, 0, 159) := cAG_gather_4 _ (List.mem_of_getElem? (i := 5) rfl)
theorem cG_gather_126 : zCode 41 126 = some (.aload_n 0, 127, 0, 0, 0, 0, 159) := cAG_gather_4 _ (List.mem_of_getElem? (i := 6) rfl)
theorem cG_gather_127 : zCode 41 127 = some (.aload_n 0, 128, 0, 0, 0, 0, 159) := cAG_gather_4 _ (List.mem_of_getElem? (i := 7) rfl)
theorem cG_gather_128 : zCode 41 128 = some (.getfield 18, 131, 3, 2, 0, 302, 159) := cAG_gather_4 _ (List.mem_of_getElem? (i := 8) rfl)
theorem cG_gather_131 : zCode 41 131 = some (.iload 7, 133, 0, 0, 0, 0, 159) := cAG_gather_4 _ (List.mem_of_getElem? (i := 9) rfl)
theorem cG_gather_133 : zCode 41 133 = some (.invokestatic 51, 136, 260, 2, 2, 15, 159) := cAG_gather_4 _ (List.mem_of_getElem? (i := 10) rfl)
theorem cG_gather_136 : zCode 41 136 = some (.putfield 18, 139, 3, 2, 0, 302, 159) := cAG_gather_4 _ (List.mem_of_getElem? (i := 11) rfl)
theorem cG_gather_139 : zCode 41 139 = some (.aload_n 0, 140, 0, 0, 0, 0, 159) := cAG_gather_4 _ (List.mem_of_getElem? (i := 12) rfl)
theorem cG_gather_140 : zCode 41 140 = some (.aload_n 0, 141, 0, 0, 0, 0, 159) := cAG_gather_4 _ (List.mem_of_getElem? (i := 13) rfl)
theorem cG_gather_141 : zCode 41 141 = some (.getfield 22, 144, 3, 3, 0, 304, 159) := cAG_gather_4 _ (List.mem_of_getElem? (i := 14) rfl)
theorem cG_gather_144 : zCode 41 144 = some (.iload 7, 146, 0, 0, 0, 0, 159) := cAG_gather_4 _ (List.mem_of_getElem? (i := 15) rfl)
theorem cG_gather_146 : zCode 41 146 = some (.invokestatic 61, 149, 259, 2, 2, 15, 31) := cAG_gather_5 _ (List.mem_of_getElem? (i := 0) rfl)
theorem cG_gather_149 : zCode 41 149 = some (.putfield 22, 152, 3, 3, 0, 304, 31) := cAG_gather_5 _ (List.mem_of_getElem? (i := 1) rfl)
theorem cG_gather_152 : zCode 41 152 = some (.iinc 4 1, 155, 0, 0, 0, 0, 31) := cAG_gather_5 _ (List.mem_of_getElem? (i := 2) rfl)
theorem cG_gather_155 : zCode 41 155 = some (.goto (-125), 158, 30, 0, 0, 0, 31) := cAG_gather_5 _ (List.mem_of_getElem? (i := 3) rfl)
theorem cG_gather_158 : zCode 41 158 = some (.return_, 159, 0, 0, 0, 0, 0) := cAG_gather_5 _ (List.mem_of_getElem? (i := 4) rfl)
theorem rG_gather_0 {a0 a3 : Nat} {a1 a2 : Int} {u4 u5 u6 u7 u8 : zV} : zS 41 0 [zR a0, zI a1, zI a2, zR a3, u4, u5, u6, u7, u8] [] sh pp mm Q ↔ zS 41 1 [zR a0, zI a1, zI a2, zR a3, zU, zU, zU, zU, zU] [zR a0] sh pp mm Q := s_go cG_gather_0 cG_gather_1 rfl rfl
theorem rG_gather_1 {a0 a3 s0 : Nat} {a1 a2 : Int} {u4 u5 u6 u7 u8 : zV} (hk : zKd sh s0 = 3) : zS 41 1 [zR a0, zI a1, zI a2, zR a3, u4, u5, u6, u7, u8] [zR s0] sh pp mm Q ↔ zS 41 4 [zR a0, zI a1, zI a2, zR a3, zU, zU, zU, zU, zU] [zR (pp s0 0)] sh pp mm Q := s_go cG_gather_1 cG_gather_4 (if_pos hk) rfl
theorem rG_gather_4 {a0 a3 s0 : Nat} {a1 a2 : Int} {u4 u5 u6 u7 u8 : zV} : zS 41 4 [zR a0, zI a1, zI a2, zR a3, u4, u5, u6, u7, u8] [zR s0] sh pp mm Q ↔ zS 41 5 [zR a0, zI a1, zI a2, zR a3, zU, zU, zU, zU, zU] [zI 0, zR s0] sh pp mm Q := s_go cG_gather_4 cG_gather_5 rfl rfl
theorem rG_gather_5 {a0 a3 s1 : Nat} {a1 a2 s0 : Int} {u4 u5 u6 u7 u8 : zV} : zS 41 5 [zR a0, zI a1, zI a2, zR a3, u4, u5, u6, u7, u8] [zI s0, zR s1] sh pp mm Q ↔ zS 271 0 [zR s1, zI s0, zU, zU] [] sh pp mm (fun v sh pp mm => zS 41 8 [zR a0, zI a1, zI a2, zR a3, zU, zU, zU, zU, zU] (zPush v []) sh pp mm Q) := s_call cG_gather_5 cG_gather_8 rfl rfl
theorem rG_gather_8 {a0 a3 : Nat} {a1 a2 : Int} {u4 u5 u6 u7 u8 : zV} : zS 41 8 [zR a0, zI a1, zI a2, zR a3, u4, u5, u6, u7, u8] [] sh pp mm Q ↔ zS 41 9 [zR a0, zI a1, zI a2, zR a3, zU, zU, zU, zU, zU] [zR a0] sh pp mm Q := s_go cG_gather_8 cG_gather_9 rfl rfl
theorem rG_gather_9 {a0 a3 s0 : Nat} {a1 a2 : Int} {u4 u5 u6 u7 u8 : zV} (hk : zKd sh s0 = 3) : zS 41 9 [zR a0, zI a1, zI a2, zR a3, u4, u5, u6, u7, u8] [zR s0] sh pp mm Q ↔ zS 41 12 [zR a0, zI a1, zI a2, zR a3, zU, zU, zU, zU, zU] [zR (pp s0 1)] sh pp mm Q := s_go cG_gather_9 cG_gather_12 (if_pos hk) rfl
theorem rG_gather_12 {a0 a3 s0 : Nat} {a1 a2 : Int} {u4 u5 u6 u7 u8 : zV} : zS 41 12 [zR a0, zI a1, zI a2, zR a3, u4, u5, u6, u7, u8] [zR s0] sh pp mm Q ↔ zS 41 13 [zR a0, zI a1, zI a2, zR a3, zU, zU, zU, zU, zU] [zI 0, zR s0] sh pp mm Q := s_go cG_gather_12 cG_gather_13 rfl rfl
theorem rG_gather_13 {a0 a3 s1 : Nat} {a1 a2 s0 : Int} {u4 u5 u6 u7 u8 : zV} : zS 41 13 [zR a0, zI a1, zI a2, zR a3, u4, u5, u6, u7, u8] [zI s0, zR s1] sh pp mm Q ↔ zS 271 0 [zR s1, zI s0, zU, zU] [] sh pp mm (fun v sh pp mm => zS 41 16 [zR a0, zI a1, zI a2, zR a3, zU, zU, zU, zU, zU] (zPush v []) sh pp mm Q) := s_call cG_gather_13 cG_gather_16 rfl rfl
theorem rG_gather_16 {a0 a3 : Nat} {a1 a2 : Int} {u4 u5 u6 u7 u8 : zV} : zS 41 16 [zR a0, zI a1, zI a2, zR a3, u4, u5, u6, u7, u8] [] sh pp mm Q ↔ zS 41 17 [zR a0, zI a1, zI a2, zR a3, zU, zU, zU, zU, zU] [zR a0] sh pp mm Q := s_go cG_gather_16 cG_gather_17 rfl rfl
theorem rG_gather_17 {a0 a3 s0 : Nat} {a1 a2 : Int} {u4 u5 u6 u7 u8 : zV} : zS 41 17 [zR a0, zI a1, zI a2, zR a3, u4, u5, u6, u7, u8] [zR s0] sh pp mm Q ↔ zS 41 19 [zR a0, zI a1, zI a2, zR a3, zU, zU, zU, zU, zU] [zI 60, zR s0] sh pp mm Q := s_go cG_gather_17 cG_gather_19 rfl rfl
theorem rG_gather_19 {a0 a3 s1 : Nat} {a1 a2 s0 : Int} {u4 u5 u6 u7 u8 : zV} (hk : zKd sh s1 = 3) : zS 41 19 [zR a0, zI a1, zI a2, zR a3, u4, u5, u6, u7, u8] [zI s0, zR s1] sh pp mm Q ↔ zS 41 22 [zR a0, zI a1, zI a2, zR a3, zU, zU, zU, zU, zU] [] sh pp (zupd mm s1 2 s0) Q := s_go cG_gather_19 cG_gather_22 (if_pos ⟨hk, Or.inl rfl⟩) rfl
theorem rG_gather_22 {a0 a3 : Nat} {a1 a2 : Int} {u4 u5 u6 u7 u8 : zV} : zS 41 22 [zR a0, zI a1, zI a2, zR a3, u4, u5, u6, u7, u8] [] sh pp mm Q ↔ zS 41 23 [zR a0, zI a1, zI a2, zR a3, zU, zU, zU, zU, zU] [zR a0] sh pp mm Q := s_go cG_gather_22 cG_gather_23 rfl rfl
theorem rG_gather_23 {a0 a3 s0 : Nat} {a1 a2 : Int} {u4 u5 u6 u7 u8 : zV} : zS 41 23 [zR a0, zI a1, zI a2, zR a3, u4, u5, u6, u7, u8] [zR s0] sh pp mm Q ↔ zS 41 24 [zR a0, zI a1, zI a2, zR a3, zU, zU, zU, zU, zU] [zI 0, zR s0] sh pp mm Q := s_go cG_gather_23 cG_gather_24 rfl rfl
theorem rG_gather_24 {a0 a3 s1 : Nat} {a1 a2 s0 : Int} {u4 u5 u6 u7 u8 : zV} (hk : zKd sh s1 = 3) : zS 41 24 [zR a0, zI a1, zI a2, zR a3, u4, u5, u6, u7, u8] [zI s0, zR s1] sh pp mm Q ↔ zS 41 27 [zR a0, zI a1, zI a2, zR a3, zU, zU, zU, zU, zU] [] sh pp (zupd mm s1 3 s0) Q := s_go cG_gather_24 cG_gather_27 (if_pos ⟨hk, Or.inl rfl⟩) rfl
theorem rG_gather_27 {a0 a3 : Nat} {a1 a2 : Int} {u4 u5 u6 u7 u8 : zV} : zS 41 27 [zR a0, zI a1, zI a2, zR a3, u4, u5, u6, u7, u8] [] sh pp mm Q ↔ zS 41 28 [zR a0, zI a1, zI a2, zR a3, zU, zU, zU, zU, zU] [zI 0] sh pp mm Q := s_go cG_gather_27 cG_gather_28 rfl rfl
theorem rG_gather_28 {a0 a3 : Nat} {a1 a2 s0 : Int} {u4 u5 u6 u7 u8 : zV} : zS 41 28 [zR a0, zI a1, zI a2, zR a3, u4, u5, u6, u7, u8] [zI s0] sh pp mm Q ↔ zS 41 30 [zR a0, zI a1, zI a2, zR a3, zI s0, zU, zU, zU, zU] [] sh pp mm Q := s_go cG_gather_28 cG_gather_30 rfl rfl
theorem rG_gather_30 {a0 a3 : Nat} {a1 a2 a4 : Int} {u5 u6 u7 u8 : zV} : zS 41 30 [zR a0, zI a1, zI a2, zR a3, zI a4, u5, u6, u7, u8] [] sh pp mm Q ↔ zS 41 32 [zR a0, zI a1, zI a2, zR a3, zI a4, zU, zU, zU, zU] [zI a4] sh pp mm Q := s_go cG_gather_30 cG_gather_32 rfl rfl
theorem rG_gather_32 {a0 a3 : Nat} {a1 a2 a4 s0 : Int} {u5 u6 u7 u8 : zV} : zS 41 32 [zR a0, zI a1, zI a2, zR a3, zI a4, u5, u6, u7, u8] [zI s0] sh pp mm Q ↔ zS 41 34 [zR a0, zI a1, zI a2, zR a3, zI a4, zU, zU, zU, zU] [zI 16, zI s0] sh pp mm Q := s_go cG_gather_32 cG_gather_34 rfl rfl
theorem rG_gather_34 {a0 a3 : Nat} {a1 a2 a4 s0 s1 : Int} {u5 u6 u7 u8 : zV} : zS 41 34 [zR a0, zI a1, zI a2, zR a3, zI a4, u5, u6, u7, u8] [zI s0, zI s1] sh pp mm Q ↔ (s1 < s0 → zS 41 37 [zR a0, zI a1, zI a2, zR a3, zI a4, zU, zU, zU, zU] [] sh pp mm Q) ∧ (¬ s1 < s0 → zS 41 158 [zU, zU, zU, zU, zU, zU, zU, zU, zU] [] sh pp mm Q) := s_ifn cG_gather_34 cG_gather_37 cG_gather_158 rfl rfl rfl
theorem rG_gather_37 {a0 a3 : Nat} {a1 a2 a4 : Int} {u5 u6 u7 u8 : zV} : zS 41 37 [zR a0, zI a1, zI a2, zR a3, zI a4, u5, u6, u7, u8] [] sh pp mm Q ↔ zS 41 39 [zR a0, zI a1, zI a2, zR a3, zI a4, zU, zU, zU, zU] [zI a4] sh pp mm Q := s_go cG_gather_37 cG_gather_39 rfl rfl
theorem rG_gather_39 {a0 a3 : Nat} {a1 a2 a4 s0 : Int} {u5 u6 u7 u8 : zV} : zS 41 39 [zR a0, zI a1, zI a2, zR a3, zI a4, u5, u6, u7, u8] [zI s0] sh pp mm Q ↔ zS 41 40 [zR a0, zI a1, zI a2, zR a3, zI a4, zU, zU, zU, zU] [zI 4, zI s0] sh pp mm Q := s_go cG_gather_39 cG_gather_40 rfl rfl
theorem rG_gather_40 {a0 a3 : Nat} {a1 a2 a4 s0 s1 : Int} {u5 u6 u7 u8 : zV} (hz : s0 ≠ 0) : zS 41 40 [zR a0, zI a1, zI a2, zR a3, zI a4, u5, u6, u7, u8] [zI s0, zI s1] sh pp mm Q ↔ zS 41 41 [zR a0, zI a1, zI a2, zR a3, zI a4, zU, zU, zU, zU] [zI (zw32 (s1.tdiv s0))] sh pp mm Q := s_go cG_gather_40 cG_gather_41 (if_neg hz) rfl
theorem rG_gather_41 {a0 a3 : Nat} {a1 a2 a4 s0 : Int} {u5 u6 u7 u8 : zV} : zS 41 41 [zR a0, zI a1, zI a2, zR a3, zI a4, u5, u6, u7, u8] [zI s0] sh pp mm Q ↔ zS 41 43 [zR a0, zI a1, zI a2, zR a3, zI a4, zI s0, zU, zU, zU] [] sh pp mm Q := s_go cG_gather_41 cG_gather_43 rfl rfl
theorem rG_gather_43 {a0 a3 : Nat} {a1 a2 a4 a5 : Int} {u6 u7 u8 : zV} : zS 41 43 [zR a0, zI a1, zI a2, zR a3, zI a4, zI a5, u6, u7, u8] [] sh pp mm Q ↔ zS 41 45 [zR a0, zI a1, zI a2, zR a3, zI a4, zI a5, zU, zU, zU] [zI a4] sh pp mm Q := s_go cG_gather_43 cG_gather_45 rfl rfl
theorem rG_gather_45 {a0 a3 : Nat} {a1 a2 a4 a5 s0 : Int} {u6 u7 u8 : zV} : zS 41 45 [zR a0, zI a1, zI a2, zR a3, zI a4, zI a5, u6, u7, u8] [zI s0] sh pp mm Q ↔ zS 41 46 [zR a0, zI a1, zI a2, zR a3, zI a4, zI a5, zU, zU, zU] [zI 4, zI s0] sh pp mm Q := s_go cG_gather_45 cG_gather_46 rfl rfl
theorem rG_gather_46 {a0 a3 : Nat} {a1 a2 a4 a5 s0 s1 : Int} {u6 u7 u8 : zV} (hz : s0 ≠ 0) : zS 41 46 [zR a0, zI a1, zI a2, zR a3, zI a4, zI a5, u6, u7, u8] [zI s0, zI s1] sh pp mm Q ↔ zS 41 47 [zR a0, zI a1, zI a2, zR a3, zI a4, zI a5, zU, zU, zU] [zI (s1.tmod s0)] sh pp mm Q := s_go cG_gather_46 cG_gather_47 (if_neg hz) rfl
theorem rG_gather_47 {a0 a3 : Nat} {a1 a2 a4 a5 s0 : Int} {u6 u7 u8 : zV} : zS 41 47 [zR a0, zI a1, zI a2, zR a3, zI a4, zI a5, u6, u7, u8] [zI s0] sh pp mm Q ↔ zS 41 49 [zR a0, zI a1, zI a2, zR a3, zI a4, zI a5, zI s0, zU, zU] [] sh pp mm Q := s_go cG_gather_47 cG_gather_49 rfl rfl
theorem rG_gather_49 {a0 a3 : Nat} {a1 a2 a4 a5 a6 : Int} {u7 u8 : zV} : zS 41 49 [zR a0, zI a1, zI a2, zR a3, zI a4, zI a5, zI a6, u7, u8] [] sh pp mm Q ↔ zS 41 50 [zR a0, zI a1, zI a2, zR a3, zI a4, zI a5, zI a6, zU, zU] [zR a0] sh pp mm Q := s_go cG_gather_49 cG_gather_50 rfl rfl
theorem rG_gather_50 {a0 a3 s0 : Nat} {a1 a2 a4 a5 a6 : Int} {u7 u8 : zV} (hk : zKd sh s0 = 3) : zS 41 50 [zR a0, zI a1, zI a2, zR a3, zI a4, zI a5, zI a6, u7, u8] [zR s0] sh pp mm Q ↔ zS 41 53 [zR a0, zI a1, zI a2, zR a3, zI a4, zI a5, zI a6, zU, zU] [zR (pp s0 5)] sh pp mm Q := s_go cG_gather_50 cG_gather_53 (if_pos hk) rfl
theorem rG_gather_53 {a0 a3 s0 : Nat} {a1 a2 a4 a5 a6 : Int} {u7 u8 : zV} : zS 41 53 [zR a0, zI a1, zI a2, zR a3, zI a4, zI a5, zI a6, u7, u8] [zR s0] sh pp mm Q ↔ zS 41 55 [zR a0, zI a1, zI a2, zR a3, zI a4, zI a5, zI a6, zU, zU] [zI a4, zR s0] sh pp mm Q := s_go cG_gather_53 cG_gather_55 rfl rfl
theorem rG_gather_55 {a0 a3 s1 : Nat} {a1 a2 a4 a5 a6 s0 : Int} {u7 u8 : zV} (hk : zKd sh s1 = 20 ∨ zKd sh s1 = 30) (h0 : 0 ≤ s0) (h1 : s0 < zLn sh s1) : zS 41 55 [zR a0, zI a1, zI a2, zR a3, zI a4, zI a5, zI a6, u7, u8] [zI s0, zR s1] sh pp mm Q ↔ zS 41 56 [zR a0, zI a1, zI a2, zR a3, zI a4, zI a5, zI a6, zU, zU] [zI (mm s1 s0)] sh pp mm Q := s_go cG_gather_55 cG_gather_56 (if_pos ⟨hk, h0, h1⟩) rfl
theorem rG_gather_56 {a0 a3 : Nat} {a1 a2 a4 a5 a6 s0 : Int} {u7 u8 : zV} : zS 41 56 [zR a0, zI a1, zI a2, zR a3, zI a4, zI a5, zI a6, u7, u8] [zI s0] sh pp mm Q ↔ zS 41 58 [zR a0, zI a1, zI a2, zR a3, zI a4, zI a5, zI a6, zU, zU] [zI 60, zI s0] sh pp mm Q := s_go cG_gather_56 cG_gather_58 rfl rfl
theorem rG_gather_58 {a0 a3 : Nat} {a1 a2 a4 a5 a6 s0 s1 : Int} {u7 u8 : zV} : zS 41 58 [zR a0, zI a1, zI a2, zR a3, zI a4, zI a5, zI a6, u7, u8] [zI s0, zI s1] sh pp mm Q ↔ zS 260 0 [zI s1, zI s0] [] sh pp mm (fun v sh pp mm => zS 41 61 [zR a0, zI a1, zI a2, zR a3, zI a4, zI a5, zI a6, zU, zU] (zPush v []) sh pp mm Q) := s_call cG_gather_58 cG_gather_61 rfl rfl
theorem rG_gather_61 {a0 a3 : Nat} {a1 a2 a4 a5 a6 s0 : Int} {u7 u8 : zV} : zS 41 61 [zR a0, zI a1, zI a2, zR a3, zI a4, zI a5, zI a6, u7, u8] [zI s0] sh pp mm Q ↔ zS 41 63 [zR a0, zI a1, zI a2, zR a3, zI a4, zI a5, zI a6, zI s0, zU] [] sh pp mm Q := s_go cG_gather_61 cG_gather_63 rfl rfl
theorem rG_gather_63 {a0 a3 : Nat} {a1 a2 a4 a5 a6 a7 : Int} {u8 : zV} : zS 41 63 [zR a0, zI a1, zI a2, zR a3, zI a4, zI a5, zI a6, zI a7, u8] [] sh pp mm Q ↔ zS 41 64 [zR a0, zI a1, zI a2, zR a3, zI a4, zI a5, zI a6, zI a7, zU] [zR a0] sh pp mm Q := s_go cG_gather_63 cG_gather_64 rfl rfl
theorem rG_gather_64 {a0 a3 s0 : Nat} {a1 a2 a4 a5 a6 a7 : Int} {u8 : zV} (hk : zKd sh s0 = 3) : zS 41 64 [zR a0, zI a1, zI a2, zR a3, zI a4, zI a5, zI a6, zI a7, u8] [zR s0] sh pp mm Q ↔ zS 41 67 [zR a0, zI a1, zI a2, zR a3, zI a4, zI a5, zI a6, zI a7, zU] [zR (pp s0 4)] sh pp mm Q := s_go cG_gather_64 cG_gather_67 (if_pos hk) rfl
theorem rG_gather_67 {a0 a3 s0 : Nat} {a1 a2 a4 a5 a6 a7 : Int} {u8 : zV} : zS 41 67 [zR a0, zI a1, zI a2, zR a3, zI a4, zI a5, zI a6, zI a7, u8] [zR s0] sh pp mm Q ↔ zS 41 69 [zR a0, zI a1, zI a2, zR a3, zI a4, zI a5, zI a6, zI a7, zU] [zI a5, zR s0] sh pp mm Q := s_go cG_gather_67 cG_gather_69 rfl rfl
theorem rG_gather_69 {a0 a3 s1 : Nat} {a1 a2 a4 a5 a6 a7 s0 : Int} {u8 : zV} (hk : zKd sh s1 = 22 ∨ zKd sh s1 = 32) (h0 : 0 ≤ s0) (h1 : s0 < zLn sh s1) : zS 41 69 [zR a0, zI a1, zI a2, zR a3, zI a4, zI a5, zI a6, zI a7, u8] [zI s0, zR s1] sh pp mm Q ↔ zS 41 70 [zR a0, zI a1, zI a2, zR a3, zI a4, zI a5, zI a6, zI a7, zU] [zI (mm s1 s0)] sh pp mm Q := s_go cG_gather_69 cG_gather_70 (if_pos ⟨hk, h0, h1⟩) rfl
theorem rG_gather_70 {a0 a3 : Nat} {a1 a2 a4 a5 a6 a7 s0 : Int} {u8 : zV} : zS 41 70 [zR a0, zI a1, zI a2, zR a3, zI a4, zI a5, zI a6, zI a7, u8] [zI s0] sh pp mm Q ↔ (s0 = 0 → zS 41 152 [zR a0, zI a1, zI a2, zR a3, zI a4, zU, zU, zU, zU] [] sh pp mm Q) ∧ (¬ s0 = 0 → zS 41 73 [zR a0, zI a1, zI a2, zR a3, zI a4, zI a5, zI a6, zI a7, zU] [] sh pp mm Q) := s_if cG_gather_70 cG_gather_152 cG_gather_73 rfl rfl rfl
theorem rG_gather_73 {a0 a3 : Nat} {a1 a2 a4 a5 a6 a7 : Int} {u8 : zV} : zS 41 73 [zR a0, zI a1, zI a2, zR a3, zI a4, zI a5, zI a6, zI a7, u8] [] sh pp mm Q ↔ zS 41 75 [zR a0, zI a1, zI a2, zR a3, zI a4, zI a5, zI a6, zI a7, zU] [zI a6] sh pp mm Q := s_go cG_gather_73 cG_gather_75 rfl rfl
theorem rG_gather_75 {a0 a3 : Nat} {a1 a2 a4 a5 a6 a7 s0 : Int} {u8 : zV} : zS 41 75 [zR a0, zI a1, zI a2, zR a3, zI a4, zI a5, zI a6, zI a7, u8] [zI s0] sh pp mm Q ↔ (s0 = 0 → zS 41 78 [zR a0, zI a1, zI a2, zR a3, zI a4, zI a5, zI a6, zI a7, zU] [] sh pp mm Q) ∧ (¬ s0 = 0 → zS 41 82 [zR a0, zI a1, zI a2, zR a3, zI a4, zI a5, zI a6, zI a7, zU] [] sh pp mm Q) := s_ifn cG_gather_75 cG_gather_78 cG_gather_82 rfl rfl rfl
theorem rG_gather_78 {a0 a3 : Nat} {a1 a2 a4 a5 a6 a7 : Int} {u8 : zV} : zS 41 78 [zR a0, zI a1, zI a2, zR a3, zI a4, zI a5, zI a6, zI a7, u8] [] sh pp mm Q ↔ zS 41 79 [zR a0, zI a1, zI a2, zR a3, zI a4, zI a5, zI a6, zI a7, zU] [zI 3] sh pp mm Q := s_go cG_gather_78 cG_gather_79 rfl rfl
theorem rG_gather_79 {a0 a3 : Nat} {a1 a2 a4 a5 a6 a7 s0 : Int} {u8 : zV} : zS 41 79 [zR a0, zI a1, zI a2, zR a3, zI a4, zI a5, zI a6, zI a7, u8] [zI s0] sh pp mm Q ↔ zS 41 83 [zR a0, zI a1, zI a2, zR a3, zI a4, zI a5, zI a6, zI a7, zU] [zI s0] sh pp mm Q := s_go cG_gather_79 cG_gather_83 rfl rfl
theorem rG_gather_82 {a0 a3 : Nat} {a1 a2 a4 a5 a6 a7 : Int} {u8 : zV} : zS 41 82 [zR a0, zI a1, zI a2, zR a3, zI a4, zI a5, zI a6, zI a7, u8] [] sh pp mm Q ↔ zS 41 83 [zR a0, zI a1, zI a2, zR a3, zI a4, zI a5, zI a6, zI a7, zU] [zI 1] sh pp mm Q := s_go cG_gather_82 cG_gather_83 rfl rfl
theorem rG_gather_83 {a0 a3 : Nat} {a1 a2 a4 a5 a6 a7 s0 : Int} {u8 : zV} : zS 41 83 [zR a0, zI a1, zI a2, zR a3, zI a4, zI a5, zI a6, zI a7, u8] [zI s0] sh pp mm Q ↔ zS 41 85 [zR a0, zI a1, zI a2, zR a3, zI a4, zI a5, zI a6, zI a7, zI s0] [] sh pp mm Q := s_go cG_gather_83 cG_gather_85 rfl rfl
theorem rG_gather_85 {a0 a3 : Nat} {a1 a2 a4 a5 a6 a7 a8 : Int} : zS 41 85 [zR a0, zI a1, zI a2, zR a3, zI a4, zI a5, zI a6, zI a7, zI a8] [] sh pp mm Q ↔ zS 41 86 [zR a0, zI a1, zI a2, zR a3, zI a4, zI a5, zI a6, zI a7, zI a8] [zR a0] sh pp mm Q := s_go cG_gather_85 cG_gather_86 rfl rfl
theorem rG_gather_86 {a0 a3 s0 : Nat} {a1 a2 a4 a5 a6 a7 a8 : Int} (hk : zKd sh s0 = 3) : zS 41 86 [zR a0, zI a1, zI a2, zR a3, zI a4, zI a5, zI a6, zI a7, zI a8] [zR s0] sh pp mm Q ↔ zS 41 89 [zR a0, zI a1, zI a2, zR a3, zI a4, zI a5, zI a6, zI a7, zI a8] [zR (pp s0 1)] sh pp mm Q := s_go cG_gather_86 cG_gather_89 (if_pos hk) rfl
theorem rG_gather_89 {a0 a3 s0 : Nat} {a1 a2 a4 a5 a6 a7 a8 : Int} : zS 41 89 [zR a0, zI a1, zI a2, zR a3, zI a4, zI a5, zI a6, zI a7, zI a8] [zR s0] sh pp mm Q ↔ zS 41 91 [zR a0, zI a1, zI a2, zR a3, zI a4, zI a5, zI a6, zI a7, zI a8] [zI a7, zR s0] sh pp mm Q := s_go cG_gather_89 cG_gather_91 rfl rfl
theorem rG_gather_91 {a0 a3 s1 : Nat} {a1 a2 a4 a5 a6 a7 a8 s0 : Int} : zS 41 91 [zR a0, zI a1, zI a2, zR a3, zI a4, zI a5, zI a6, zI a7, zI a8] [zI s0, zR s1] sh pp mm Q ↔ zS 41 92 [zR a0, zI a1, zI a2, zR a3, zI a4, zI a5, zI a6, zI a7, zI a8] [zI s0, zR s1, zI s0, zR s1] sh pp mm Q := s_go cG_gather_91 cG_gather_92 rfl rfl
theorem rG_gather_92 {a0 a3 s1 s3 : Nat} {a1 a2 a4 a5 a6 a7 a8 s0 s2 : Int} (hk : zKd sh s1 = 20 ∨ zKd sh s1 = 30) (h0 : 0 ≤ s0) (h1 : s0 < zLn sh s1) : zS 41 92 [zR a0, zI a1, zI a2, zR a3, zI a4, zI a5, zI a6, zI a7, zI a8] [zI s0, zR s1, zI s2, zR s3] sh pp mm Q ↔ zS 41 93 [zR a0, zI a1, zI a2, zR a3, zI a4, zI a5, zI a6, zI a7, zI a8] [zI (mm s1 s0), zI s2, zR s3] sh pp mm Q := s_go cG_gather_92 cG_gather_93 (if_pos ⟨hk, h0, h1⟩) rfl
theorem rG_gather_93 {a0 a3 s2 : Nat} {a1 a2 a4 a5 a6 a7 a8 s0 s1 : Int} : zS 41 93 [zR a0, zI a1, zI a2, zR a3, zI a4, zI a5, zI a6, zI a7, zI a8] [zI s0, zI s1, zR s2] sh pp mm Q ↔ zS 41 95 [zR a0, zI a1, zI a2, zR a3, zI a4, zI a5, zI a6, zI a7, zI a8] [zI a8, zI s0, zI s1, zR s2] sh pp mm Q := s_go cG_gather_93 cG_gather_95 rfl rfl
theorem rG_gather_95 {a0 a3 s3 : Nat} {a1 a2 a4 a5 a6 a7 a8 s0 s1 s2 : Int} : zS 41 95 [zR a0, zI a1, zI a2, zR a3, zI a4, zI a5, zI a6, zI a7, zI a8] [zI s0, zI s1, zI s2, zR s3] sh pp mm Q ↔ zS 41 96 [zR a0, zI a1, zI a2, zR a3, zI a4, zI a5, zI a6, zI a7, zI a8] [zI (zw32 (s1 + s0)), zI s2, zR s3] sh pp mm Q := s_go cG_gather_95 cG_gather_96 rfl rfl
theorem rG_gather_96 {a0 a3 s2 : Nat} {a1 a2 a4 a5 a6 a7 a8 s0 s1 : Int} (hk : zKd sh s2 = 20) (h0 : 0 ≤ s1) (h1 : s1 < zLn sh s2) : zS 41 96 [zR a0, zI a1, zI a2, zR a3, zI a4, zI a5, zI a6, zI a7, zI a8] [zI s0, zI s1, zR s2] sh pp mm Q ↔ zS 41 97 [zR a0, zI a1, zI a2, zR a3, zI a4, zI a5, zI a6, zI a7, zI a8] [] sh pp (zupd mm s2 s1 s0) Q := s_go cG_gather_96 cG_gather_97 (if_pos ⟨hk, h0, h1, fun h => absurd h (by decide)⟩) rfl
theorem rG_gather_97 {a0 a3 : Nat} {a1 a2 a4 a5 a6 a7 a8 : Int} : zS 41 97 [zR a0, zI a1, zI a2, zR a3, zI a4, zI a5, zI a6, zI a7, zI a8] [] sh pp mm Q ↔ zS 41 98 [zR a0, zI a1, zI a2, zR a3, zI a4, zI a5, zI a6, zI a7, zI a8] [zR a0] sh pp mm Q := s_go cG_gather_97 cG_gather_98 rfl rfl
theorem rG_gather_98 {a0 a3 s0 : Nat} {a1 a2 a4 a5 a6 a7 a8 : Int} (hk : zKd sh s0 = 3) : zS 41 98 [zR a0, zI a1, zI a2, zR a3, zI a4, zI a5, zI a6, zI a7, zI a8] [zR s0] sh pp mm Q ↔ zS 41 101 [zR a0, zI a1, zI a2, zR a3, zI a4, zI a5, zI a6, zI a7, zI a8] [zR (pp s0 0)] sh pp mm Q := s_go cG_gather_98 cG_gather_101 (if_pos hk) rfl
theorem rG_gather_101 {a0 a3 s0 : Nat} {a1 a2 a4 a5 a6 a7 a8 : Int} : zS 41 101 [zR a0, zI a1, zI a2, zR a3, zI a4, zI a5, zI a6, zI a7, zI a8] [zR s0] sh pp mm Q ↔ zS 41 103 [zR a0, zI a1, zI a2, zR a3, zI a4, zI a5, zI a6, zI a7, zI a8] [zI a7, zR s0] sh pp mm Q := s_go cG_gather_101 cG_gather_103 rfl rfl
theorem rG_gather_103 {a0 a3 s1 : Nat} {a1 a2 a4 a5 a6 a7 a8 s0 : Int} : zS 41 103 [zR a0, zI a1, zI a2, zR a3, zI a4, zI a5, zI a6, zI a7, zI a8] [zI s0, zR s1] sh pp mm Q ↔ zS 41 104 [zR a0, zI a1, zI a2, zR a3, zI a4, zI a5, zI a6, zI a7, zI a8] [zI s0, zR s1, zI s0, zR s1] sh pp mm Q := s_go cG_gather_103 cG_gather_104 rfl rfl
theorem rG_gather_104 {a0 a3 s1 s3 : Nat} {a1 a2 a4 a5 a6 a7 a8 s0 s2 : Int} (hk : zKd sh s1 = 20 ∨ zKd sh s1 = 30) (h0 : 0 ≤ s0) (h1 : s0 < zLn sh s1) : zS 41 104 [zR a0, zI a1, zI a2, zR a3, zI a4, zI a5, zI a6, zI a7, zI a8] [zI s0, zR s1, zI s2, zR s3] sh pp mm Q ↔ zS 41 105 [zR a0, zI a1, zI a2, zR a3, zI a4, zI a5, zI a6, zI a7, zI a8] [zI (mm s1 s0), zI s2, zR s3] sh pp mm Q := s_go cG_gather_104 cG_gather_105 (if_pos ⟨hk, h0, h1⟩) rfl
theorem rG_gather_105 {a0 a3 s2 : Nat} {a1 a2 a4 a5 a6 a7 a8 s0 s1 : Int} : zS 41 105 [zR a0, zI a1, zI a2, zR a3, zI a4, zI a5, zI a6, zI a7, zI a8] [zI s0, zI s1, zR s2] sh pp mm Q ↔ zS 41 106 [zR a0, zI a1, zI a2, zR a3, zI a4, zI a5, zI a6, zI a7, zI a8] [zI a1, zI s0, zI s1, zR s2] sh pp mm Q := s_go cG_gather_105 cG_gather_106 rfl rfl
theorem rG_gather_106 {a0 a3 s3 : Nat} {a1 a2 a4 a5 a6 a7 a8 s0 s1 s2 : Int} : zS 41 106 [zR a0, zI a1, zI a2, zR a3, zI a4, zI a5, zI a6, zI a7, zI a8] [zI s0, zI s1, zI s2, zR s3] sh pp mm Q ↔ zS 41 107 [zR a0, zI a1, zI a2, zR a3, zI a4, zI a5, zI a6, zI a7, zI a8] [zI a2, zI s0, zI s1, zI s2, zR s3] sh pp mm Q := s_go cG_gather_106 cG_gather_107 rfl rfl
theorem rG_gather_107 {a0 a3 s4 : Nat} {a1 a2 a4 a5 a6 a7 a8 s0 s1 s2 s3 : Int} : zS 41 107 [zR a0, zI a1, zI a2, zR a3, zI a4, zI a5, zI a6, zI a7, zI a8] [zI s0, zI s1, zI s2, zI s3, zR s4] sh pp mm Q ↔ zS 41 109 [zR a0, zI a1, zI a2, zR a3, zI a4, zU, zI a6, zI a7, zI a8] [zI a5, zI s0, zI s1, zI s2, zI s3, zR s4] sh pp mm Q := s_go cG_gather_107 cG_gather_109 rfl rfl
theorem rG_gather_109 {a0 a3 s5 : Nat} {a1 a2 a4 a6 a7 a8 s0 s1 s2 s3 s4 : Int} {u5 : zV} : zS 41 109 [zR a0, zI a1, zI a2, zR a3, zI a4, u5, zI a6, zI a7, zI a8] [zI s0, zI s1, zI s2, zI s3, zI s4, zR s5] sh pp mm Q ↔ zS 41 111 [zR a0, zI a1, zI a2, zR a3, zI a4, zU, zU, zI a7, zI a8] [zI a6, zI s0, zI s1, zI s2, zI s3, zI s4, zR s5] sh pp mm Q := s_go cG_gather_109 cG_gather_111 rfl rfl
theorem rG_gather_111 {a0 a3 s6 : Nat} {a1 a2 a4 a7 a8 s0 s1 s2 s3 s4 s5 : Int} {u5 u6 : zV} : zS 41 111 [zR a0, zI a1, zI a2, zR a3, zI a4, u5, u6, zI a7, zI a8] [zI s0, zI s1, zI s2, zI s3, zI s4, zI s5, zR s6] sh pp mm Q ↔ zS 41 112 [zR a0, zI a1, zI a2, zR a3, zI a4, zU, zU, zI a7, zI a8] [zR a3, zI s0, zI s1, zI s2, zI s3, zI s4, zI s5, zR s6] sh pp mm Q := s_go cG_gather_111 cG_gather_112 rfl rfl
theorem rG_gather_112 {a0 a3 s0 s7 : Nat} {a1 a2 a4 a7 a8 s1 s2 s3 s4 s5 s6 : Int} {u5 u6 : zV} : zS 41 112 [zR a0, zI a1, zI a2, zR a3, zI a4, u5, u6, zI a7, zI a8] [zR s0, zI s1, zI s2, zI s3, zI s4, zI s5, zI s6, zR s7] sh pp mm Q ↔ zS 42 0 [zI s4, zI s3, zI s2, zI s1, zR s0] [] sh pp mm (fun v sh pp mm => zS 41 115 [zR a0, zI a1, zI a2, zR a3, zI a4, zU, zU, zI a7, zI a8] (zPush v [zI s5, zI s6, zR s7]) sh pp mm Q) := s_call cG_gather_112 cG_gather_115 rfl rfl
theorem rG_gather_115 {a0 a3 s3 : Nat} {a1 a2 a4 a7 a8 s0 s1 s2 : Int} {u5 u6 : zV} : zS 41 115 [zR a0, zI a1, zI a2, zR a3, zI a4, u5, u6, zI a7, zI a8] [zI s0, zI s1, zI s2, zR s3] sh pp mm Q ↔ (s0 = 0 → zS 41 123 [zR a0, zI a1, zI a2, zR a3, zI a4, zU, zU, zI a7, zU] [zI s1, zI s2, zR s3] sh pp mm Q) ∧ (¬ s0 = 0 → zS 41 118 [zR a0, zI a1, zI a2, zR a3, zI a4, zU, zU, zI a7, zI a8] [zI s1, zI s2, zR s3] sh pp mm Q) := s_if cG_gather_115 cG_gather_123 cG_gather_118 rfl rfl rfl
theorem rG_gather_118 {a0 a3 s2 : Nat} {a1 a2 a4 a7 a8 s0 s1 : Int} {u5 u6 : zV} : zS 41 118 [zR a0, zI a1, zI a2, zR a3, zI a4, u5, u6, zI a7, zI a8] [zI s0, zI s1, zR s2] sh pp mm Q ↔ zS 41 120 [zR a0, zI a1, zI a2, zR a3, zI a4, zU, zU, zI a7, zU] [zI a8, zI s0, zI s1, zR s2] sh pp mm Q := s_go cG_gather_118 cG_gather_120 rfl rfl
theorem rG_gather_120 {a0 a3 s3 : Nat} {a1 a2 a4 a7 s0 s1 s2 : Int} {u5 u6 u8 : zV} : zS 41 120 [zR a0, zI a1, zI a2, zR a3, zI a4, u5, u6, zI a7, u8] [zI s0, zI s1, zI s2, zR s3] sh pp mm Q ↔ zS 41 124 [zR a0, zI a1, zI a2, zR a3, zI a4, zU, zU, zI a7, zU] [zI s0, zI s1, zI s2, zR s3] sh pp mm Q := s_go cG_gather_120 cG_gather_124 rfl rfl
theorem rG_gather_123 {a0 a3 s2 : Nat} {a1 a2 a4 a7 s0 s1 : Int} {u5 u6 u8 : zV} : zS 41 123 [zR a0, zI a1, zI a2, zR a3, zI a4, u5, u6, zI a7, u8] [zI s0, zI s1, zR s2] sh pp mm Q ↔ zS 41 124 [zR a0, zI a1, zI a2, zR a3, zI a4, zU, zU, zI a7, zU] [zI 0, zI s0, zI s1, zR s2] sh pp mm Q := s_go cG_gather_123 cG_gather_124 rfl rfl
theorem rG_gather_124 {a0 a3 s3 : Nat} {a1 a2 a4 a7 s0 s1 s2 : Int} {u5 u6 u8 : zV} : zS 41 124 [zR a0, zI a1, zI a2, zR a3, zI a4, u5, u6, zI a7, u8] [zI s0, zI s1, zI s2, zR s3] sh pp mm Q ↔ zS 41 125 [zR a0, zI a1, zI a2, zR a3, zI a4, zU, zU, zI a7, zU] [zI (zw32 (s1 + s0)), zI s2, zR s3] sh pp mm Q := s_go cG_gather_124 cG_gather_125 rfl rfl
theorem rG_gather_125 {a0 a3 s2 : Nat} {a1 a2 a4 a7 s0 s1 : Int} {u5 u6 u8 : zV} (hk : zKd sh s2 = 20) (h0 : 0 ≤ s1) (h1 : s1 < zLn sh s2) : zS 41 125 [zR a0, zI a1, zI a2, zR a3, zI a4, u5, u6, zI a7, u8] [zI s0, zI s1, zR s2] sh pp mm Q ↔ zS 41 126 [zR a0, zI a1, zI a2, zR a3, zI a4, zU, zU, zI a7, zU] [] sh pp (zupd mm s2 s1 s0) Q := s_go cG_gather_125 cG_gather_126 (if_pos ⟨hk, h0, h1, fun h => absurd h (by decide)⟩) rfl
theorem rG_gather_126 {a0 a3 : Nat} {a1 a2 a4 a7 : Int} {u5 u6 u8 : zV} : zS 41 126 [zR a0, zI a1, zI a2, zR a3, zI a4, u5, u6, zI a7, u8] [] sh pp mm Q ↔ zS 41 127 [zR a0, zI a1, zI a2, zR a3, zI a4, zU, zU, zI a7, zU] [zR a0] sh pp mm Q := s_go cG_gather_126 cG_gather_127 rfl rfl
theorem rG_gather_127 {a0 a3 s0 : Nat} {a1 a2 a4 a7 : Int} {u5 u6 u8 : zV} : zS 41 127 [zR a0, zI a1, zI a2, zR a3, zI a4, u5, u6, zI a7, u8] [zR s0] sh pp mm Q ↔ zS 41 128 [zR a0, zI a1, zI a2, zR a3, zI a4, zU, zU, zI a7, zU] [zR a0, zR s0] sh pp mm Q := s_go cG_gather_127 cG_gather_128 rfl rfl
theorem rG_gather_128 {a0 a3 s0 s1 : Nat} {a1 a2 a4 a7 : Int} {u5 u6 u8 : zV} (hk : zKd sh s0 = 3) : zS 41 128 [zR a0, zI a1, zI a2, zR a3, zI a4, u5, u6, zI a7, u8] [zR s0, zR s1] sh pp mm Q ↔ zS 41 131 [zR a0, zI a1, zI a2, zR a3, zI a4, zU, zU, zI a7, zU] [zI (mm s0 2), zR s1] sh pp mm Q := s_go cG_gather_128 cG_gather_131 (if_pos hk) rfl
theorem rG_gather_131 {a0 a3 s1 : Nat} {a1 a2 a4 a7 s0 : Int} {u5 u6 u8 : zV} : zS 41 131 [zR a0, zI a1, zI a2, zR a3, zI a4, u5, u6, zI a7, u8] [zI s0, zR s1] sh pp mm Q ↔ zS 41 133 [zR a0, zI a1, zI a2, zR a3, zI a4, zU, zU, zI a7, zU] [zI a7, zI s0, zR s1] sh pp mm Q := s_go cG_gather_131 cG_gather_133 rfl rfl
theorem rG_gather_133 {a0 a3 s2 : Nat} {a1 a2 a4 a7 s0 s1 : Int} {u5 u6 u8 : zV} : zS 41 133 [zR a0, zI a1, zI a2, zR a3, zI a4, u5, u6, zI a7, u8] [zI s0, zI s1, zR s2] sh pp mm Q ↔ zS 260 0 [zI s1, zI s0] [] sh pp mm (fun v sh pp mm => zS 41 136 [zR a0, zI a1, zI a2, zR a3, zI a4, zU, zU, zI a7, zU] (zPush v [zR s2]) sh pp mm Q) := s_call cG_gather_133 cG_gather_136 rfl rfl
theorem rG_gather_136 {a0 a3 s1 : Nat} {a1 a2 a4 a7 s0 : Int} {u5 u6 u8 : zV} (hk : zKd sh s1 = 3) : zS 41 136 [zR a0, zI a1, zI a2, zR a3, zI a4, u5, u6, zI a7, u8] [zI s0, zR s1] sh pp mm Q ↔ zS 41 139 [zR a0, zI a1, zI a2, zR a3, zI a4, zU, zU, zI a7, zU] [] sh pp (zupd mm s1 2 s0) Q := s_go cG_gather_136 cG_gather_139 (if_pos ⟨hk, Or.inl rfl⟩) rfl
theorem rG_gather_139 {a0 a3 : Nat} {a1 a2 a4 a7 : Int} {u5 u6 u8 : zV} : zS 41 139 [zR a0, zI a1, zI a2, zR a3, zI a4, u5, u6, zI a7, u8] [] sh pp mm Q ↔ zS 41 140 [zR a0, zI a1, zI a2, zR a3, zI a4, zU, zU, zI a7, zU] [zR a0] sh pp mm Q := s_go cG_gather_139 cG_gather_140 rfl rfl
theorem rG_gather_140 {a0 a3 s0 : Nat} {a1 a2 a4 a7 : Int} {u5 u6 u8 : zV} : zS 41 140 [zR a0, zI a1, zI a2, zR a3, zI a4, u5, u6, zI a7, u8] [zR s0] sh pp mm Q ↔ zS 41 141 [zR a0, zI a1, zI a2, zR a3, zI a4, zU, zU, zI a7, zU] [zR a0, zR s0] sh pp mm Q := s_go cG_gather_140 cG_gather_141 rfl rfl
theorem rG_gather_141 {a0 a3 s0 s1 : Nat} {a1 a2 a4 a7 : Int} {u5 u6 u8 : zV} (hk : zKd sh s0 = 3) : zS 41 141 [zR a0, zI a1, zI a2, zR a3, zI a4, u5, u6, zI a7, u8] [zR s0, zR s1] sh pp mm Q ↔ zS 41 144 [zR a0, zI a1, zI a2, zR a3, zI a4, zU, zU, zI a7, zU] [zI (mm s0 3), zR s1] sh pp mm Q := s_go cG_gather_141 cG_gather_144 (if_pos hk) rfl
theorem rG_gather_144 {a0 a3 s1 : Nat} {a1 a2 a4 a7 s0 : Int} {u5 u6 u8 : zV} : zS 41 144 [zR a0, zI a1, zI a2, zR a3, zI a4, u5, u6, zI a7, u8] [zI s0, zR s1] sh pp mm Q ↔ zS 41 146 [zR a0, zI a1, zI a2, zR a3, zI a4, zU, zU, zU, zU] [zI a7, zI s0, zR s1] sh pp mm Q := s_go cG_gather_144 cG_gather_146 rfl rfl
theorem rG_gather_146 {a0 a3 s2 : Nat} {a1 a2 a4 s0 s1 : Int} {u5 u6 u7 u8 : zV} : zS 41 146 [zR a0, zI a1, zI a2, zR a3, zI a4, u5, u6, u7, u8] [zI s0, zI s1, zR s2] sh pp mm Q ↔ zS 259 0 [zI s1, zI s0] [] sh pp mm (fun v sh pp mm => zS 41 149 [zR a0, zI a1, zI a2, zR a3, zI a4, zU, zU, zU, zU] (zPush v [zR s2]) sh pp mm Q) := s_call cG_gather_146 cG_gather_149 rfl rfl
theorem rG_gather_149 {a0 a3 s1 : Nat} {a1 a2 a4 s0 : Int} {u5 u6 u7 u8 : zV} (hk : zKd sh s1 = 3) : zS 41 149 [zR a0, zI a1, zI a2, zR a3, zI a4, u5, u6, u7, u8] [zI s0, zR s1] sh pp mm Q ↔ zS 41 152 [zR a0, zI a1, zI a2, zR a3, zI a4, zU, zU, zU, zU] [] sh pp (zupd mm s1 3 s0) Q := s_go cG_gather_149 cG_gather_152 (if_pos ⟨hk, Or.inl rfl⟩) rfl
theorem rG_gather_152 {a0 a3 : Nat} {a1 a2 a4 : Int} {u5 u6 u7 u8 : zV} : zS 41 152 [zR a0, zI a1, zI a2, zR a3, zI a4, u5, u6, u7, u8] [] sh pp mm Q ↔ zS 41 155 [zR a0, zI a1, zI a2, zR a3, zI (zw32 (a4 + 1)), zU, zU, zU, zU] [] sh pp mm Q := s_go cG_gather_152 cG_gather_155 rfl rfl
theorem rG_gather_155 {a0 a3 : Nat} {a1 a2 a4 : Int} {u5 u6 u7 u8 : zV} : zS 41 155 [zR a0, zI a1, zI a2, zR a3, zI a4, u5, u6, u7, u8] [] sh pp mm Q ↔ zS 41 30 [zR a0, zI a1, zI a2, zR a3, zI a4, zU, zU, zU, zU] [] sh pp mm Q := s_go cG_gather_155 cG_gather_30 rfl rfl
theorem rG_gather_158 {u0 u1 u2 u3 u4 u5 u6 u7 u8 : zV} : zS 41 158 [u0, u1, u2, u3, u4, u5, u6, u7, u8] [] sh pp mm Q ↔ Q zU sh pp mm := s_ret cG_gather_158 rfl
theorem cAG_isMeant : ∀ q ∈ zT42, zCode 42 q.1 = some q.2 := zAll (mid := 42) rfl (by decide +kernel)
theorem cAG_isMeant_0 : ∀ q ∈ zT42_0, zCode 42 q.1 = some q.2 := fun q h => cAG_isMeant q (List.mem_append_left _ h)
theorem cAG_isMeant_1 : ∀ q ∈ zT42_1, zCode 42 q.1 = some q.2 := fun q h => cAG_isMeant q (List.mem_append_right _ h)
theorem cG_isMeant_0 : zCode 42 0 = some (.iload_n 0, 1, 0, 0, 0, 0, 31) := cAG_isMeant_0 _ (List.mem_of_getElem? (i := 0) rfl)
theorem cG_isMeant_1 : zCode 42 1 = some (.lookupswitch 48 #[(0, 27), (1, 38)], 28, 0, 0, 0, 0, 30) := cAG_isMeant_0 _ (List.mem_of_getElem? (i := 1) rfl)
theorem cG_isMeant_28 : zCode 42 28 = some (.iload_n 2, 29, 0, 0, 0, 0, 6) := cAG_isMeant_0 _ (List.mem_of_getElem? (i := 2) rfl)
theorem cG_isMeant_29 : zCode 42 29 = some (.iload_n 1, 30, 0, 0, 0, 0, 2) := cAG_isMeant_0 _ (List.mem_of_getElem? (i := 3) rfl)
theorem cG_isMeant_30 : zCode 42 30 = some (.if_icmp .ne 7, 33, 37, 0, 0, 0, 0) := cAG_isMeant_0 _ (List.mem_of_getElem? (i := 4) rfl)
theorem cG_isMeant_33 : zCode 42 33 = some (.iconst 1, 34, 0, 0, 0, 0, 0) := cAG_isMeant_0 _ (List.mem_of_getElem? (i := 5) rfl)
theorem cG_isMeant_34 : zCode 42 34 = some (.goto 4, 37, 38, 0, 0, 0, 0) := cAG_isMeant_0 _ (List.mem_of_getElem? (i := 6) rfl)
theorem cG_isMeant_37 : zCode 42 37 = some (.iconst 0, 38, 0, 0, 0, 0, 0) := cAG_isMeant_0 _ (List.mem_of_getElem? (i := 7) rfl)
theorem cG_isMeant_38 : zCode 42 38 = some (.ireturn, 39, 0, 3, 0, 0, 0) := cAG_isMeant_0 _ (List.mem_of_getElem? (i := 8) rfl)
theorem cG_isMeant_39 : zCode 42 39 = some (.iload_n 3, 40, 0, 0, 0, 0, 8) := cAG_isMeant_0 _ (List.mem_of_getElem? (i := 9) rfl)
theorem cG_isMeant_40 : zCode 42 40 = some (.ifCond .le 7, 43, 47, 0, 0, 0, 0) := cAG_isMeant_0 _ (List.mem_of_getElem? (i := 10) rfl)
theorem cG_isMeant_43 : zCode 42 43 = some (.iconst 1, 44, 0, 0, 0, 0, 0) := cAG_isMeant_0 _ (List.mem_of_getElem? (i := 11) rfl)
theorem cG_isMeant_44 : zCode 42 44 = some (.goto 4, 47, 48, 0, 0, 0, 0) := cAG_isMeant_0 _ (List.mem_of_getElem? (i := 12) rfl)
theorem cG_isMeant_47 : zCode 42 47 = some (.iconst 0, 48, 0, 0, 0, 0, 0) := cAG_isMeant_0 _ (List.mem_of_getElem? (i := 13) rfl)
theorem cG_isMeant_48 : zCode 42 48 = some (.ireturn, 49, 0, 3, 0, 0, 0) := cAG_isMeant_0 _ (List.mem_of_getElem? (i := 14) rfl)
theorem cG_isMeant_49 : zCode 42 49 = some (.aload 4, 51, 0, 0, 0, 0, 22) := cAG_isMeant_0 _ (List.mem_of_getElem? (i := 15) rfl)
theorem cG_isMeant_51 : zCode 42 51 = some (.iload_n 2, 52, 0, 0, 0, 0, 6) := cAG_isMeant_1 _ (List.mem_of_getElem? (i := 0) rfl)
theorem cG_isMeant_52 : zCode 42 52 = some (.aaload, 53, 0, 0, 0, 0, 2) := cAG_isMeant_1 _ (List.mem_of_getElem? (i := 1) rfl)
theorem cG_isMeant_53 : zCode 42 53 = some (.getfield 48, 56, 1, 0, 2, 463, 2) := cAG_isMeant_1 _ (List.mem_of_getElem? (i := 2) rfl)
theorem cG_isMeant_56 : zCode 42 56 = some (.iload_n 1, 57, 0, 0, 0, 0, 2) := cAG_isMeant_1 _ (List.mem_of_getElem? (i := 3) rfl)
theorem cG_isMeant_57 : zCode 42 57 = some (.iaload, 58, 0, 0, 0, 0, 0) := cAG_isMeant_1 _ (List.mem_of_getElem? (i := 4) rfl)
theorem cG_isMeant_58 : zCode 42 58 = some (.iconst 1, 59, 0, 0, 0, 0, 0) := cAG_isMeant_1 _ (List.mem_of_getElem? (i := 5) rfl)
theorem cG_isMeant_59 : zCode 42 59 = some (.if_icmp .ne 7, 62, 66, 0, 0, 0, 0) := cAG_isMeant_1 _ (List.mem_of_getElem? (i := 6) rfl)
theorem cG_isMeant_62 : zCode 42 62 = some (.iconst 1, 63, 0, 0, 0, 0, 0) := cAG_isMeant_1 _ (List.mem_of_getElem? (i := 7) rfl)
theorem cG_isMeant_63 : zCode 42 63 = some (.goto 4, 66, 67, 0, 0, 0, 0) := cAG_isMeant_1 _ (List.mem_of_getElem? (i := 8) rfl)
theorem cG_isMeant_66 : zCode 42 66 = some (.iconst 0, 67, 0, 0, 0, 0, 0) := cAG_isMeant_1 _ (List.mem_of_getElem? (i := 9) rfl)
theorem cG_isMeant_67 : zCode 42 67 = some (.ireturn, 68, 0, 3, 0, 0, 0) := cAG_isMeant_1 _ (List.mem_of_getElem? (i := 10) rfl)
theorem rG_isMeant_0 {a4 : Nat} {a0 a1 a2 a3 : Int} : zS 42 0 [zI a0, zI a1, zI a2, zI a3, zR a4] [] sh pp mm Q ↔ zS 42 1 [zU, zI a1, zI a2, zI a3, zR a4] [zI a0] sh pp mm Q := s_go cG_isMeant_0 cG_isMeant_1 rfl rfl
theorem rG_isMeant_1_0 {a4 : Nat} {a1 a2 a3 : Int} {u0 : zV} : zS 42 1 [u0, zI a1, zI a2, zI a3, zR a4] [zI 0] sh pp mm Q ↔ zS 42 28 [zU, zI a1, zI a2, zU, zU] [] sh pp mm Q := s_go cG_isMeant_1 cG_isMeant_28 rfl rfl
theorem rG_isMeant_1_1 {a4 : Nat} {a1 a2 a3 : Int} {u0 : zV} : zS 42 1 [u0, zI a1, zI a2, zI a3, zR a4] [zI 1] sh pp mm Q ↔ zS 42 39 [zU, zU, zU, zI a3, zU] [] sh pp mm Q := s_go cG_isMeant_1 cG_isMeant_39 rfl rfl
theorem rG_isMeant_1_d {a4 : Nat} {a1 a2 a3 s0 : Int} {u0 : zV} (hd0 : ¬ s0 = 0) (hd1 : ¬ s0 = 1) : zS 42 1 [u0, zI a1, zI a2, zI a3, zR a4] [zI s0] sh pp mm Q ↔ zS 42 49 [zU, zI a1, zI a2, zU, zR a4] [] sh pp mm Q := s_go cG_isMeant_1 cG_isMeant_49 ((congrArg (fun o => zSwT 1 o [zU, zI a1, zI a2, zI a3, zR a4] [] sh pp mm) (show Op.lookupswitch.offset [(0, 27), (1, 38)] 48 s0 = 48 by simp [Op.lookupswitch.offset, Ne.symm hd0, Ne.symm hd1])).trans rfl) rfl
theorem rG_isMeant_28 {a1 a2 : Int} {u0 u3 u4 : zV} : zS 42 28 [u0, zI a1, zI a2, u3, u4] [] sh pp mm Q ↔ zS 42 29 [zU, zI a1, zU, zU, zU] [zI a2] sh pp mm Q := s_go cG_isMeant_28 cG_isMeant_29 rfl rfl
theorem rG_isMeant_29 {a1 s0 : Int} {u0 u2 u3 u4 : zV} : zS 42 29 [u0, zI a1, u2, u3, u4] [zI s0] sh pp mm Q ↔ zS 42 30 [zU, zU, zU, zU, zU] [zI a1, zI s0] sh pp mm Q := s_go cG_isMeant_29 cG_isMeant_30 rfl rfl
theorem rG_isMeant_30 {s0 s1 : Int} {u0 u1 u2 u3 u4 : zV} : zS 42 30 [u0, u1, u2, u3, u4] [zI s0, zI s1] sh pp mm Q ↔ (s1 = s0 → zS 42 33 [zU, zU, zU, zU, zU] [] sh pp mm Q) ∧ (¬ s1 = s0 → zS 42 37 [zU, zU, zU, zU, zU] [] sh pp mm Q) := s_ifn cG_isMeant_30 cG_isMeant_33 cG_isMeant_37 rfl rfl rfl
theorem rG_isMeant_33 {u0 u1 u2 u3 u4 : zV} : zS 42 33 [u0, u1, u2, u3, u4] [] sh pp mm Q ↔ zS 42 34 [zU, zU, zU, zU, zU] [zI 1] sh pp mm Q := s_go cG_isMeant_33 cG_isMeant_34 rfl rfl
theorem rG_isMeant_34 {s0 : Int} {u0 u1 u2 u3 u4 : zV} : zS 42 34 [u0, u1, u2, u3, u4] [zI s0] sh pp mm Q ↔ zS 42 38 [zU, zU, zU, zU, zU] [zI s0] sh pp mm Q := s_go cG_isMeant_34 cG_isMeant_38 rfl rfl
theorem rG_isMeant_37 {u0 u1 u2 u3 u4 : zV} : zS 42 37 [u0, u1, u2, u3, u4] [] sh pp mm Q ↔ zS 42 38 [zU, zU, zU, zU, zU] [zI 0] sh pp mm Q := s_go cG_isMeant_37 cG_isMeant_38 rfl rfl
theorem rG_isMeant_38 {s0 : Int} {u0 u1 u2 u3 u4 : zV} (hb : s0 = 0 ∨ s0 = 1) : zS 42 38 [u0, u1, u2, u3, u4] [zI s0] sh pp mm Q ↔ Q (zI s0) sh pp mm := s_ret cG_isMeant_38 (if_pos (decide_eq_true hb))
theorem rG_isMeant_39 {a3 : Int} {u0 u1 u2 u4 : zV} : zS 42 39 [u0, u1, u2, zI a3, u4] [] sh pp mm Q ↔ zS 42 40 [zU, zU, zU, zU, zU] [zI a3] sh pp mm Q := s_go cG_isMeant_39 cG_isMeant_40 rfl rfl
theorem rG_isMeant_40 {s0 : Int} {u0 u1 u2 u3 u4 : zV} : zS 42 40 [u0, u1, u2, u3, u4] [zI s0] sh pp mm Q ↔ (0 < s0 → zS 42 43 [zU, zU, zU, zU, zU] [] sh pp mm Q) ∧ (¬ 0 < s0 → zS 42 47 [zU, zU, zU, zU, zU] [] sh pp mm Q) := s_ifn cG_isMeant_40 cG_isMeant_43 cG_isMeant_47 rfl rfl rfl
theorem rG_isMeant_43 {u0 u1 u2 u3 u4 : zV} : zS 42 43 [u0, u1, u2, u3, u4] [] sh pp mm Q ↔ zS 42 44 [zU, zU, zU, zU, zU] [zI 1] sh pp mm Q := s_go cG_isMeant_43 cG_isMeant_44 rfl rfl
theorem rG_isMeant_44 {s0 : Int} {u0 u1 u2 u3 u4 : zV} : zS 42 44 [u0, u1, u2, u3, u4] [zI s0] sh pp mm Q ↔ zS 42 48 [zU, zU, zU, zU, zU] [zI s0] sh pp mm Q := s_go cG_isMeant_44 cG_isMeant_48 rfl rfl
theorem rG_isMeant_47 {u0 u1 u2 u3 u4 : zV} : zS 42 47 [u0, u1, u2, u3, u4] [] sh pp mm Q ↔ zS 42 48 [zU, zU, zU, zU, zU] [zI 0] sh pp mm Q := s_go cG_isMeant_47 cG_isMeant_48 rfl rfl
theorem rG_isMeant_48 {s0 : Int} {u0 u1 u2 u3 u4 : zV} (hb : s0 = 0 ∨ s0 = 1) : zS 42 48 [u0, u1, u2, u3, u4] [zI s0] sh pp mm Q ↔ Q (zI s0) sh pp mm := s_ret cG_isMeant_48 (if_pos (decide_eq_true hb))
theorem rG_isMeant_49 {a4 : Nat} {a1 a2 : Int} {u0 u3 : zV} : zS 42 49 [u0, zI a1, zI a2, u3, zR a4] [] sh pp mm Q ↔ zS 42 51 [zU, zI a1, zI a2, zU, zU] [zR a4] sh pp mm Q := s_go cG_isMeant_49 cG_isMeant_51 rfl rfl
theorem rG_isMeant_51 {s0 : Nat} {a1 a2 : Int} {u0 u3 u4 : zV} : zS 42 51 [u0, zI a1, zI a2, u3, u4] [zR s0] sh pp mm Q ↔ zS 42 52 [zU, zI a1, zU, zU, zU] [zI a2, zR s0] sh pp mm Q := s_go cG_isMeant_51 cG_isMeant_52 rfl rfl
theorem rG_isMeant_52 {s1 : Nat} {a1 s0 : Int} {u0 u2 u3 u4 : zV} (hk : 24 ≤ zKd sh s1) (hl : zKd sh s1 ≤ 27) (h0 : 0 ≤ s0) (h1 : s0 < zLn sh s1) : zS 42 52 [u0, zI a1, u2, u3, u4] [zI s0, zR s1] sh pp mm Q ↔ zS 42 53 [zU, zI a1, zU, zU, zU] [zR (pp s1 s0)] sh pp mm Q := s_go cG_isMeant_52 cG_isMeant_53 (if_pos ⟨zEl_ok hk hl, h0, h1⟩) rfl
theorem rG_isMeant_53 {s0 : Nat} {a1 : Int} {u0 u2 u3 u4 : zV} (hk : zKd sh s0 = 1) : zS 42 53 [u0, zI a1, u2, u3, u4] [zR s0] sh pp mm Q ↔ zS 42 56 [zU, zI a1, zU, zU, zU] [zR (pp s0 0)] sh pp mm Q := s_go cG_isMeant_53 cG_isMeant_56 (if_pos hk) rfl
theorem rG_isMeant_56 {s0 : Nat} {a1 : Int} {u0 u2 u3 u4 : zV} : zS 42 56 [u0, zI a1, u2, u3, u4] [zR s0] sh pp mm Q ↔ zS 42 57 [zU, zU, zU, zU, zU] [zI a1, zR s0] sh pp mm Q := s_go cG_isMeant_56 cG_isMeant_57 rfl rfl
theorem rG_isMeant_57 {s1 : Nat} {s0 : Int} {u0 u1 u2 u3 u4 : zV} (hk : zKd sh s1 = 20 ∨ zKd sh s1 = 30) (h0 : 0 ≤ s0) (h1 : s0 < zLn sh s1) : zS 42 57 [u0, u1, u2, u3, u4] [zI s0, zR s1] sh pp mm Q ↔ zS 42 58 [zU, zU, zU, zU, zU] [zI (mm s1 s0)] sh pp mm Q := s_go cG_isMeant_57 cG_isMeant_58 (if_pos ⟨hk, h0, h1⟩) rfl
theorem rG_isMeant_58 {s0 : Int} {u0 u1 u2 u3 u4 : zV} : zS 42 58 [u0, u1, u2, u3, u4] [zI s0] sh pp mm Q ↔ zS 42 59 [zU, zU, zU, zU, zU] [zI 1, zI s0] sh pp mm Q := s_go cG_isMeant_58 cG_isMeant_59 rfl rfl
theorem rG_isMeant_59 {s0 s1 : Int} {u0 u1 u2 u3 u4 : zV} : zS 42 59 [u0, u1, u2, u3, u4] [zI s0, zI s1] sh pp mm Q ↔ (s1 = s0 → zS 42 62 [zU, zU, zU, zU, zU] [] sh pp mm Q) ∧ (¬ s1 = s0 → zS 42 66 [zU, zU, zU, zU, zU] [] sh pp mm Q) := s_ifn cG_isMeant_59 cG_isMeant_62 cG_isMeant_66 rfl rfl rfl
theorem rG_isMeant_62 {u0 u1 u2 u3 u4 : zV} : zS 42 62 [u0, u1, u2, u3, u4] [] sh pp mm Q ↔ zS 42 63 [zU, zU, zU, zU, zU] [zI 1] sh pp mm Q := s_go cG_isMeant_62 cG_isMeant_63 rfl rfl
theorem rG_isMeant_63 {s0 : Int} {u0 u1 u2 u3 u4 : zV} : zS 42 63 [u0, u1, u2, u3, u4] [zI s0] sh pp mm Q ↔ zS 42 67 [zU, zU, zU, zU, zU] [zI s0] sh pp mm Q := s_go cG_isMeant_63 cG_isMeant_67 rfl rfl
theorem rG_isMeant_66 {u0 u1 u2 u3 u4 : zV} : zS 42 66 [u0, u1, u2, u3, u4] [] sh pp mm Q ↔ zS 42 67 [zU, zU, zU, zU, zU] [zI 0] sh pp mm Q := s_go cG_isMeant_66 cG_isMeant_67 rfl rfl
theorem rG_isMeant_67 {s0 : Int} {u0 u1 u2 u3 u4 : zV} (hb : s0 = 0 ∨ s0 = 1) : zS 42 67 [u0, u1, u2, u3, u4] [zI s0] sh pp mm Q ↔ Q (zI s0) sh pp mm := s_ret cG_isMeant_67 (if_pos (decide_eq_true hb))
theorem cAQ_init : ∀ q ∈ zT71, zCode 71 q.1 = some q.2 := zAll (mid := 71) rfl (by decide +kernel)
theorem cAQ_init_0 : ∀ q ∈ zT71_0, zCode 71 q.1 = some q.2 := fun q h => cAQ_init q (h)
theorem cQ_init_0 : zCode 71 0 = some (.aload_n 0, 1, 0, 0, 0, 0, 1) := cAQ_init_0 _ (List.mem_of_getElem? (i := 0) rfl)
theorem cQ_init_1 : zCode 71 1 = some (.invokespecial 3, 4, 0, 78, 0, 280, 1) := cAQ_init_0 _ (List.mem_of_getElem? (i := 1) rfl)
theorem cQ_init_4 : zCode 71 4 = some (.aload_n 0, 5, 0, 0, 0, 0, 1) := cAQ_init_0 _ (List.mem_of_getElem? (i := 2) rfl)
theorem cQ_init_5 : zCode 71 5 = some (.bipush 8, 7, 0, 0, 0, 0, 1) := cAQ_init_0 _ (List.mem_of_getElem? (i := 3) rfl)
theorem cQ_init_7 : zCode 71 7 = some (.newarray .boolean, 9, 22, 0, 0, 0, 1) := cAQ_init_0 _ (List.mem_of_getElem? (i := 4) rfl)
theorem cQ_init_9 : zCode 71 9 = some (.putfield 11, 12, 7, 0, 2, 281, 1) := cAQ_init_0 _ (List.mem_of_getElem? (i := 5) rfl)
theorem cQ_init_12 : zCode 71 12 = some (.aload_n 0, 13, 0, 0, 0, 0, 1) := cAQ_init_0 _ (List.mem_of_getElem? (i := 6) rfl)
theorem cQ_init_13 : zCode 71 13 = some (.bipush 56, 15, 0, 0, 0, 0, 1) := cAQ_init_0 _ (List.mem_of_getElem? (i := 7) rfl)
theorem cQ_init_15 : zCode 71 15 = some (.newarray .int, 17, 20, 0, 0, 0, 1) := cAQ_init_0 _ (List.mem_of_getElem? (i := 8) rfl)
theorem cQ_init_17 : zCode 71 17 = some (.putfield 15, 20, 7, 1, 2, 282, 1) := cAQ_init_0 _ (List.mem_of_getElem? (i := 9) rfl)
theorem cQ_init_20 : zCode 71 20 = some (.aload_n 0, 21, 0, 0, 0, 0, 1) := cAQ_init_0 _ (List.mem_of_getElem? (i := 10) rfl)
theorem cQ_init_21 : zCode 71 21 = some (.sipush 448, 24, 0, 0, 0, 0, 0) := cAQ_init_0 _ (List.mem_of_getElem? (i := 11) rfl)
theorem cQ_init_24 : zCode 71 24 = some (.newarray .int, 26, 20, 0, 0, 0, 0) := cAQ_init_0 _ (List.mem_of_getElem? (i := 12) rfl)
theorem cQ_init_26 : zCode 71 26 = some (.putfield 19, 29, 7, 2, 2, 283, 0) := cAQ_init_0 _ (List.mem_of_getElem? (i := 13) rfl)
theorem cQ_init_29 : zCode 71 29 = some (.return_, 30, 0, 0, 0, 0, 0) := cAQ_init_0 _ (List.mem_of_getElem? (i := 14) rfl)
theorem rQ_init_0 {a0 : Nat} : zS 71 0 [zR a0] [] sh pp mm Q ↔ zS 71 1 [zR a0] [zR a0] sh pp mm Q := s_go cQ_init_0 cQ_init_1 rfl rfl
theorem rQ_init_1 {a0 s0 : Nat} (hr : s0 ≠ 0) (hl : s0 < sh.length) : zS 71 1 [zR a0] [zR s0] sh pp mm Q ↔ zS 71 4 [zR a0] [] sh pp mm Q := s_go cQ_init_1 cQ_init_4 (if_pos ⟨hr, hl, by decide⟩) rfl
theorem rQ_init_4 {a0 : Nat} : zS 71 4 [zR a0] [] sh pp mm Q ↔ zS 71 5 [zR a0] [zR a0] sh pp mm Q := s_go cQ_init_4 cQ_init_5 rfl rfl
theorem rQ_init_5 {a0 s0 : Nat} : zS 71 5 [zR a0] [zR s0] sh pp mm Q ↔ zS 71 7 [zR a0] [zI 8, zR s0] sh pp mm Q := s_go cQ_init_5 cQ_init_7 rfl rfl
theorem rQ_init_7 {a0 s1 : Nat} {s0 : Int} (h0 : 0 ≤ s0) (h1 : s0 ≤ 100000) : zS 71 7 [zR a0] [zI s0, zR s1] sh pp mm Q ↔ zS 71 9 [zR a0] [zR sh.length, zR s1] (sh ++ [(22, s0.toNat)]) (zclp pp sh.length) (zclr mm sh.length) Q := s_go cQ_init_7 cQ_init_9 (if_pos ⟨h0, h1⟩) rfl
theorem rQ_init_9 {a0 s0 s1 : Nat} (hk : zKd sh s1 = 7) : zS 71 9 [zR a0] [zR s0, zR s1] sh pp mm Q ↔ zS 71 12 [zR a0] [] sh (zupp pp s1 0 s0) mm Q := s_go cQ_init_9 cQ_init_12 (if_pos ⟨hk, rfl⟩) rfl
theorem rQ_init_12 {a0 : Nat} : zS 71 12 [zR a0] [] sh pp mm Q ↔ zS 71 13 [zR a0] [zR a0] sh pp mm Q := s_go cQ_init_12 cQ_init_13 rfl rfl
theorem rQ_init_13 {a0 s0 : Nat} : zS 71 13 [zR a0] [zR s0] sh pp mm Q ↔ zS 71 15 [zR a0] [zI 56, zR s0] sh pp mm Q := s_go cQ_init_13 cQ_init_15 rfl rfl
theorem rQ_init_15 {a0 s1 : Nat} {s0 : Int} (h0 : 0 ≤ s0) (h1 : s0 ≤ 100000) : zS 71 15 [zR a0] [zI s0, zR s1] sh pp mm Q ↔ zS 71 17 [zR a0] [zR sh.length, zR s1] (sh ++ [(20, s0.toNat)]) (zclp pp sh.length) (zclr mm sh.length) Q := s_go cQ_init_15 cQ_init_17 (if_pos ⟨h0, h1⟩) rfl
theorem rQ_init_17 {a0 s0 s1 : Nat} (hk : zKd sh s1 = 7) : zS 71 17 [zR a0] [zR s0, zR s1] sh pp mm Q ↔ zS 71 20 [zR a0] [] sh (zupp pp s1 1 s0) mm Q := s_go cQ_init_17 cQ_init_20 (if_pos ⟨hk, rfl⟩) rfl
theorem rQ_init_20 {a0 : Nat} : zS 71 20 [zR a0] [] sh pp mm Q ↔ zS 71 21 [zU] [zR a0] sh pp mm Q := s_go cQ_init_20 cQ_init_21 rfl rfl
theorem rQ_init_21 {s0 : Nat} {u0 : zV} : zS 71 21 [u0] [zR s0] sh pp mm Q ↔ zS 71 24 [zU] [zI 448, zR s0] sh pp mm Q := s_go cQ_init_21 cQ_init_24 rfl rfl
theorem rQ_init_24 {s1 : Nat} {s0 : Int} {u0 : zV} (h0 : 0 ≤ s0) (h1 : s0 ≤ 100000) : zS 71 24 [u0] [zI s0, zR s1] sh pp mm Q ↔ zS 71 26 [zU] [zR sh.length, zR s1] (sh ++ [(20, s0.toNat)]) (zclp pp sh.length) (zclr mm sh.length) Q := s_go cQ_init_24 cQ_init_26 (if_pos ⟨h0, h1⟩) rfl
theorem rQ_init_26 {s0 s1 : Nat} {u0 : zV} (hk : zKd sh s1 = 7) : zS 71 26 [u0] [zR s0, zR s1] sh pp mm Q ↔ zS 71 29 [zU] [] sh (zupp pp s1 2 s0) mm Q := s_go cQ_init_26 cQ_init_29 (if_pos ⟨hk, rfl⟩) rfl
theorem rQ_init_29 {u0 : zV} : zS 71 29 [u0] [] sh pp mm Q ↔ Q zU sh pp mm := s_ret cQ_init_29 rfl
theorem cAQ_leastOff : ∀ q ∈ zT72, zCode 72 q.1 = some q.2 := zAll (mid := 72) rfl (by decide +kernel)
theorem cAQ_leastOff_0 : ∀ q ∈ zT72_0, zCode 72 q.1 = some q.2 := fun q h => cAQ_leastOff q (List.mem_append_left _ h)
theorem cAQ_leastOff_1 : ∀ q ∈ zT72_1, zCode 72 q.1 = some q.2 := fun q h => cAQ_leastOff q (List.mem_append_right _ (List.mem_append_left _ h))
theorem cAQ_leastOff_2 : ∀ q ∈ zT72_2, zCode 72 q.1 = some q.2 := fun q h => cAQ_leastOff q (List.mem_append_right _ (List.mem_append_right _ (List.mem_append_left _ h)))
theorem cAQ_leastOff_3 : ∀ q ∈ zT72_3, zCode 72 q.1 = some q.2 := fun q h => cAQ_leastOff q (List.mem_append_right _ (List.mem_append_right _ (List.mem_append_right _ h)))
theorem cQ_leastOff_0 : zCode 72 0 = some (.aload_n 0, 1, 0, 0, 0, 0, 7) := cAQ_leastOff_0 _ (List.mem_of_getElem? (i := 0) rfl)
theorem cQ_leastOff_1 : zCode 72 1 = some (.getfield 11, 4, 7, 0, 2, 281, 7) := cAQ_leastOff_0 _ (List.mem_of_getElem? (i := 1) rfl)
theorem cQ_leastOff_4 : zCode 72 4 = some (.iload_n 1, 5, 0, 0, 0, 0, 7) := cAQ_leastOff_0 _ (List.mem_of_getElem? (i := 2) rfl)
theorem cQ_leastOff_5 : zCode 72 5 = some (.baload, 6, 0, 0, 0, 0, 7) := cAQ_leastOff_0 _ (List.mem_of_getElem? (i := 3) rfl)
theorem cQ_leastOff_6 : zCode 72 6 = some (.ifCond .ne 87, 9, 93, 0, 0, 0, 7) := cAQ_leastOff_0 _ (List.mem_of_getElem? (i := 4) rfl)
theorem cQ_leastOff_9 : zCode 72 9 = some (.aload_n 0, 10, 0, 0, 0, 0, 7) := cAQ_leastOff_0 _ (List.mem_of_getElem? (i := 5) rfl)
theorem cQ_leastOff_10 : zCode 72 10 = some (.getfield 19, 13, 7, 2, 2, 283, 7) := cAQ_leastOff_0 _ (List.mem_of_getElem? (i := 6) rfl)
theorem cQ_leastOff_13 : zCode 72 13 = some (.ldc 22, 15, 0, 0, 984, 1000000, 7) := cAQ_leastOff_0 _ (List.mem_of_getElem? (i := 7) rfl)
theorem cQ_leastOff_15 : zCode 72 15 = some (.invokestatic 23, 18, 271, 2, 4, 18, 7) := cAQ_leastOff_0 _ (List.mem_of_getElem? (i := 8) rfl)
theorem cQ_leastOff_18 : zCode 72 18 = some (.aload_n 0, 19, 0, 0, 0, 0, 7) := cAQ_leastOff_0 _ (List.mem_of_getElem? (i := 9) rfl)
theorem cQ_leastOff_19 : zCode 72 19 = some (.getfield 19, 22, 7, 2, 2, 283, 7) := cAQ_leastOff_0 _ (List.mem_of_getElem? (i := 10) rfl)
theorem cQ_leastOff_22 : zCode 72 22 = some (.iload_n 1, 23, 0, 0, 0, 0, 7) := cAQ_leastOff_0 _ (List.mem_of_getElem? (i := 11) rfl)
theorem cQ_leastOff_23 : zCode 72 23 = some (.iconst 0, 24, 0, 0, 0, 0, 7) := cAQ_leastOff_0 _ (List.mem_of_getElem? (i := 12) rfl)
theorem cQ_leastOff_24 : zCode 72 24 = some (.invokestatic 29, 27, 73, 2, 2, 7, 7) := cAQ_leastOff_0 _ (List.mem_of_getElem? (i := 13) rfl)
theorem cQ_leastOff_27 : zCode 72 27 = some (.iconst 0, 28, 0, 0, 0, 0, 7) := cAQ_leastOff_0 _ (List.mem_of_getElem? (i := 14) rfl)
theorem cQ_leastOff_28 : zCode 72 28 = some (.iastore, 29, 0, 0, 0, 0, 7) := cAQ_leastOff_0 _ (List.mem_of_getElem? (i := 15) rfl)
theorem cQ_leastOff_29 : zCode 72 29 = some (.iload_n 1, 30, 0, 0, 0, 0, 7) := cAQ_leastOff_1 _ (List.mem_of_getElem? (i := 0) rfl)
theorem cQ_leastOff_30 : zCode 72 30 = some (.istore_n 3, 31, 0, 0, 0, 0, 7) := cAQ_leastOff_1 _ (List.mem_of_getElem? (i := 1) rfl)
theorem cQ_leastOff_31 : zCode 72 31 = some (.iload_n 3, 32, 0, 0, 0, 0, 15) := cAQ_leastOff_1 _ (List.mem_of_getElem? (i := 2) rfl)
theorem cQ_leastOff_32 : zCode 72 32 = some (.ifCond .lt 32, 35, 64, 0, 0, 0, 15) := cAQ_leastOff_1 _ (List.mem_of_getElem? (i := 3) rfl)
theorem cQ_leastOff_35 : zCode 72 35 = some (.iconst 0, 36, 0, 0, 0, 0, 15) := cAQ_leastOff_1 _ (List.mem_of_getElem? (i := 4) rfl)
theorem cQ_leastOff_36 : zCode 72 36 = some (.istore 4, 38, 0, 0, 0, 0, 15) := cAQ_leastOff_1 _ (List.mem_of_getElem? (i := 5) rfl)
theorem cQ_leastOff_38 : zCode 72 38 = some (.iload 4, 40, 0, 0, 0, 0, 31) := cAQ_leastOff_1 _ (List.mem_of_getElem? (i := 6) rfl)
theorem cQ_leastOff_40 : zCode 72 40 = some (.iload_n 1, 41, 0, 0, 0, 0, 31) := cAQ_leastOff_1 _ (List.mem_of_getElem? (i := 7) rfl)
theorem cQ_leastOff_41 : zCode 72 41 = some (.if_icmp .gt 17, 44, 58, 0, 0, 0, 31) := cAQ_leastOff_1 _ (List.mem_of_getElem? (i := 8) rfl)
theorem cQ_leastOff_44 : zCode 72 44 = some (.aload_n 0, 45, 0, 0, 0, 0, 31) := cAQ_leastOff_1 _ (List.mem_of_getElem? (i := 9) rfl)
theorem cQ_leastOff_45 : zCode 72 45 = some (.iload_n 1, 46, 0, 0, 0, 0, 31) := cAQ_leastOff_1 _ (List.mem_of_getElem? (i := 10) rfl)
theorem cQ_leastOff_46 : zCode 72 46 = some (.iload_n 3, 47, 0, 0, 0, 0, 31) := cAQ_leastOff_1 _ (List.mem_of_getElem? (i := 11) rfl)
theorem cQ_leastOff_47 : zCode 72 47 = some (.iload 4, 49, 0, 0, 0, 0, 31) := cAQ_leastOff_1 _ (List.mem_of_getElem? (i := 12) rfl)
theorem cQ_leastOff_49 : zCode 72 49 = some (.invokevirtual 33, 52, 74, 3, 6, 7, 31) := cAQ_leastOff_1 _ (List.mem_of_getElem? (i := 13) rfl)
theorem cQ_leastOff_52 : zCode 72 52 = some (.iinc 4 1, 55, 0, 0, 0, 0, 31) := cAQ_leastOff_1 _ (List.mem_of_getElem? (i := 14) rfl)
theorem cQ_leastOff_55 : zCode 72 55 = some (.goto (-17), 58, 38, 0, 0, 0, 31) := cAQ_leastOff_1 _ (List.mem_of_getElem? (i := 15) rfl)
theorem cQ_leastOff_58 : zCode 72 58 = some (.iinc 3 (-1), 61, 0, 0, 0, 0, 15) := cAQ_leastOff_2 _ (List.mem_of_getElem? (i := 0) rfl)
theorem cQ_leastOff_61 : zCode 72 61 = some (.goto (-30), 64, 31, 0, 0, 0, 15) := cAQ_leastOff_2 _ (List.mem_of_getElem? (i := 1) rfl)
theorem cQ_leastOff_64 : zCode 72 64 = some (.aload_n 0, 65, 0, 0, 0, 0, 7) := cAQ_leastOff_2 _ (List.mem_of_getElem? (i := 2) rfl)
theorem cQ_leastOff_65 : zCode 72 65 = some (.getfield 19, 68, 7, 2, 2, 283, 7) := cAQ_leastOff_2 _ (List.mem_of_getElem? (i := 3) rfl)
theorem cQ_leastOff_68 : zCode 72 68 = some (.iconst 0, 69, 0, 0, 0, 0, 7) := cAQ_leastOff_2 _ (List.mem_of_getElem? (i := 4) rfl)
theorem cQ_leastOff_69 : zCode 72 69 = some (.iload_n 1, 70, 0, 0, 0, 0, 7) := cAQ_leastOff_2 _ (List.mem_of_getElem? (i := 5) rfl)
theorem cQ_leastOff_70 : zCode 72 70 = some (.invokestatic 29, 73, 73, 2, 2, 7, 7) := cAQ_leastOff_2 _ (List.mem_of_getElem? (i := 6) rfl)
theorem cQ_leastOff_73 : zCode 72 73 = some (.aload_n 0, 74, 0, 0, 0, 0, 7) := cAQ_leastOff_2 _ (List.mem_of_getElem? (i := 7) rfl)
theorem cQ_leastOff_74 : zCode 72 74 = some (.getfield 15, 77, 7, 1, 2, 282, 7) := cAQ_leastOff_2 _ (List.mem_of_getElem? (i := 8) rfl)
theorem cQ_leastOff_77 : zCode 72 77 = some (.iload_n 1, 78, 0, 0, 0, 0, 7) := cAQ_leastOff_2 _ (List.mem_of_getElem? (i := 9) rfl)
theorem cQ_leastOff_78 : zCode 72 78 = some (.bipush 7, 80, 0, 0, 0, 0, 7) := cAQ_leastOff_2 _ (List.mem_of_getElem? (i := 10) rfl)
theorem cQ_leastOff_80 : zCode 72 80 = some (.imul, 81, 0, 0, 0, 0, 7) := cAQ_leastOff_2 _ (List.mem_of_getElem? (i := 11) rfl)
theorem cQ_leastOff_81 : zCode 72 81 = some (.bipush 7, 83, 0, 0, 0, 0, 7) := cAQ_leastOff_2 _ (List.mem_of_getElem? (i := 12) rfl)
theorem cQ_leastOff_83 : zCode 72 83 = some (.invokestatic 37, 86, 0, 77, 0, 1003, 7) := cAQ_leastOff_2 _ (List.mem_of_getElem? (i := 13) rfl)
theorem cQ_leastOff_86 : zCode 72 86 = some (.aload_n 0, 87, 0, 0, 0, 0, 7) := cAQ_leastOff_2 _ (List.mem_of_getElem? (i := 14) rfl)
theorem cQ_leastOff_87 : zCode 72 87 = some (.getfield 11, 90, 7, 0, 2, 281, 7) := cAQ_leastOff_2 _ (List.mem_of_getElem? (i := 15) rfl)
theorem cQ_leastOff_90 : zCode 72 90 = some (.iload_n 1, 91, 0, 0, 0, 0, 7) := cAQ_leastOff_3 _ (List.mem_of_getElem? (i := 0) rfl)
theorem cQ_leastOff_91 : zCode 72 91 = some (.iconst 1, 92, 0, 0, 0, 0, 7) := cAQ_leastOff_3 _ (List.mem_of_getElem? (i := 1) rfl)
theorem cQ_leastOff_92 : zCode 72 92 = some (.bastore, 93, 0, 0, 0, 0, 7) := cAQ_leastOff_3 _ (List.mem_of_getElem? (i := 2) rfl)
theorem cQ_leastOff_93 : zCode 72 93 = some (.aload_n 0, 94, 0, 0, 0, 0, 7) := cAQ_leastOff_3 _ (List.mem_of_getElem? (i := 3) rfl)
theorem cQ_leastOff_94 : zCode 72 94 = some (.getfield 15, 97, 7, 1, 2, 282, 6) := cAQ_leastOff_3 _ (List.mem_of_getElem? (i := 4) rfl)
theorem cQ_leastOff_97 : zCode 72 97 = some (.iload_n 1, 98, 0, 0, 0, 0, 6) := cAQ_leastOff_3 _ (List.mem_of_getElem? (i := 5) rfl)
theorem cQ_leastOff_98 : zCode 72 98 = some (.bipush 7, 100, 0, 0, 0, 0, 4) := cAQ_leastOff_3 _ (List.mem_of_getElem? (i := 6) rfl)
theorem cQ_leastOff_100 : zCode 72 100 = some (.imul, 101, 0, 0, 0, 0, 4) := cAQ_leastOff_3 _ (List.mem_of_getElem? (i := 7) rfl)
theorem cQ_leastOff_101 : zCode 72 101 = some (.iload_n 2, 102, 0, 0, 0, 0, 4) := cAQ_leastOff_3 _ (List.mem_of_getElem? (i := 8) rfl)
theorem cQ_leastOff_102 : zCode 72 102 = some (.iadd, 103, 0, 0, 0, 0, 0) := cAQ_leastOff_3 _ (List.mem_of_getElem? (i := 9) rfl)
theorem cQ_leastOff_103 : zCode 72 103 = some (.iaload, 104, 0, 0, 0, 0, 0) := cAQ_leastOff_3 _ (List.mem_of_getElem? (i := 10) rfl)
theorem cQ_leastOff_104 : zCode 72 104 = some (.ireturn, 105, 0, 0, 0, 0, 0) := cAQ_leastOff_3 _ (List.mem_of_getElem? (i := 11) rfl)
theorem rQ_leastOff_0 {a0 : Nat} {a1 a2 : Int} {u3 u4 : zV} : zS 72 0 [zR a0, zI a1, zI a2, u3, u4] [] sh pp mm Q ↔ zS 72 1 [zR a0, zI a1, zI a2, zU, zU] [zR a0] sh pp mm Q := s_go cQ_leastOff_0 cQ_leastOff_1 rfl rfl
theorem rQ_leastOff_1 {a0 s0 : Nat} {a1 a2 : Int} {u3 u4 : zV} (hk : zKd sh s0 = 7) : zS 72 1 [zR a0, zI a1, zI a2, u3, u4] [zR s0] sh pp mm Q ↔ zS 72 4 [zR a0, zI a1, zI a2, zU, zU] [zR (pp s0 0)] sh pp mm Q := s_go cQ_leastOff_1 cQ_leastOff_4 (if_pos hk) rfl
theorem rQ_leastOff_4 {a0 s0 : Nat} {a1 a2 : Int} {u3 u4 : zV} : zS 72 4 [zR a0, zI a1, zI a2, u3, u4] [zR s0] sh pp mm Q ↔ zS 72 5 [zR a0, zI a1, zI a2, zU, zU] [zI a1, zR s0] sh pp mm Q := s_go cQ_leastOff_4 cQ_leastOff_5 rfl rfl
theorem rQ_leastOff_5 {a0 s1 : Nat} {a1 a2 s0 : Int} {u3 u4 : zV} (hk : zKd sh s1 = 22 ∨ zKd sh s1 = 32) (h0 : 0 ≤ s0) (h1 : s0 < zLn sh s1) : zS 72 5 [zR a0, zI a1, zI a2, u3, u4] [zI s0, zR s1] sh pp mm Q ↔ zS 72 6 [zR a0, zI a1, zI a2, zU, zU] [zI (mm s1 s0)] sh pp mm Q := s_go cQ_leastOff_5 cQ_leastOff_6 (if_pos ⟨hk, h0, h1⟩) rfl
theorem rQ_leastOff_6 {a0 : Nat} {a1 a2 s0 : Int} {u3 u4 : zV} : zS 72 6 [zR a0, zI a1, zI a2, u3, u4] [zI s0] sh pp mm Q ↔ (s0 = 0 → zS 72 9 [zR a0, zI a1, zI a2, zU, zU] [] sh pp mm Q) ∧ (¬ s0 = 0 → zS 72 93 [zR a0, zI a1, zI a2, zU, zU] [] sh pp mm Q) := s_ifn cQ_leastOff_6 cQ_leastOff_9 cQ_leastOff_93 rfl rfl rfl
theorem rQ_leastOff_9 {a0 : Nat} {a1 a2 : Int} {u3 u4 : zV} : zS 72 9 [zR a0, zI a1, zI a2, u3, u4] [] sh pp mm Q ↔ zS 72 10 [zR a0, zI a1, zI a2, zU, zU] [zR a0] sh pp mm Q := s_go cQ_leastOff_9 cQ_leastOff_10 rfl rfl
theorem rQ_leastOff_10 {a0 s0 : Nat} {a1 a2 : Int} {u3 u4 : zV} (hk : zKd sh s0 = 7) : zS 72 10 [zR a0, zI a1, zI a2, u3, u4] [zR s0] sh pp mm Q ↔ zS 72 13 [zR a0, zI a1, zI a2, zU, zU] [zR (pp s0 2)] sh pp mm Q := s_go cQ_leastOff_10 cQ_leastOff_13 (if_pos hk) rfl
theorem rQ_leastOff_13 {a0 s0 : Nat} {a1 a2 : Int} {u3 u4 : zV} : zS 72 13 [zR a0, zI a1, zI a2, u3, u4] [zR s0] sh pp mm Q ↔ zS 72 15 [zR a0, zI a1, zI a2, zU, zU] [zI 1000000, zR s0] sh pp mm Q := s_go cQ_leastOff_13 cQ_leastOff_15 rfl rfl
theorem rQ_leastOff_15 {a0 s1 : Nat} {a1 a2 s0 : Int} {u3 u4 : zV} : zS 72 15 [zR a0, zI a1, zI a2, u3, u4] [zI s0, zR s1] sh pp mm Q ↔ zS 271 0 [zR s1, zI s0, zU, zU] [] sh pp mm (fun v sh pp mm => zS 72 18 [zR a0, zI a1, zI a2, zU, zU] (zPush v []) sh pp mm Q) := s_call cQ_leastOff_15 cQ_leastOff_18 rfl rfl
theorem rQ_leastOff_18 {a0 : Nat} {a1 a2 : Int} {u3 u4 : zV} : zS 72 18 [zR a0, zI a1, zI a2, u3, u4] [] sh pp mm Q ↔ zS 72 19 [zR a0, zI a1, zI a2, zU, zU] [zR a0] sh pp mm Q := s_go cQ_leastOff_18 cQ_leastOff_19 rfl rfl
theorem rQ_leastOff_19 {a0 s0 : Nat} {a1 a2 : Int} {u3 u4 : zV} (hk : zKd sh s0 = 7) : zS 72 19 [zR a0, zI a1, zI a2, u3, u4] [zR s0] sh pp mm Q ↔ zS 72 22 [zR a0, zI a1, zI a2, zU, zU] [zR (pp s0 2)] sh pp mm Q := s_go cQ_leastOff_19 cQ_leastOff_22 (if_pos hk) rfl
theorem rQ_leastOff_22 {a0 s0 : Nat} {a1 a2 : Int} {u3 u4 : zV} : zS 72 22 [zR a0, zI a1, zI a2, u3, u4] [zR s0] sh pp mm Q ↔ zS 72 23 [zR a0, zI a1, zI a2, zU, zU] [zI a1, zR s0] sh pp mm Q := s_go cQ_leastOff_22 cQ_leastOff_23 rfl rfl
theorem rQ_leastOff_23 {a0 s1 : Nat} {a1 a2 s0 : Int} {u3 u4 : zV} : zS 72 23 [zR a0, zI a1, zI a2, u3, u4] [zI s0, zR s1] sh pp mm Q ↔ zS 72 24 [zR a0, zI a1, zI a2, zU, zU] [zI 0, zI s0, zR s1] sh pp mm Q := s_go cQ_leastOff_23 cQ_leastOff_24 rfl rfl
theorem rQ_leastOff_24 {a0 s2 : Nat} {a1 a2 s0 s1 : Int} {u3 u4 : zV} : zS 72 24 [zR a0, zI a1, zI a2, u3, u4] [zI s0, zI s1, zR s2] sh pp mm Q ↔ zS 73 0 [zI s1, zI s0] [] sh pp mm (fun v sh pp mm => zS 72 27 [zR a0, zI a1, zI a2, zU, zU] (zPush v [zR s2]) sh pp mm Q) := s_call cQ_leastOff_24 cQ_leastOff_27 rfl rfl
theorem rQ_leastOff_27 {a0 s1 : Nat} {a1 a2 s0 : Int} {u3 u4 : zV} : zS 72 27 [zR a0, zI a1, zI a2, u3, u4] [zI s0, zR s1] sh pp mm Q ↔ zS 72 28 [zR a0, zI a1, zI a2, zU, zU] [zI 0, zI s0, zR s1] sh pp mm Q := s_go cQ_leastOff_27 cQ_leastOff_28 rfl rfl
theorem rQ_leastOff_28 {a0 s2 : Nat} {a1 a2 s0 s1 : Int} {u3 u4 : zV} (hk : zKd sh s2 = 20) (h0 : 0 ≤ s1) (h1 : s1 < zLn sh s2) : zS 72 28 [zR a0, zI a1, zI a2, u3, u4] [zI s0, zI s1, zR s2] sh pp mm Q ↔ zS 72 29 [zR a0, zI a1, zI a2, zU, zU] [] sh pp (zupd mm s2 s1 s0) Q := s_go cQ_leastOff_28 cQ_leastOff_29 (if_pos ⟨hk, h0, h1, fun h => absurd h (by decide)⟩) rfl
theorem rQ_leastOff_29 {a0 : Nat} {a1 a2 : Int} {u3 u4 : zV} : zS 72 29 [zR a0, zI a1, zI a2, u3, u4] [] sh pp mm Q ↔ zS 72 30 [zR a0, zI a1, zI a2, zU, zU] [zI a1] sh pp mm Q := s_go cQ_leastOff_29 cQ_leastOff_30 rfl rfl
theorem rQ_leastOff_30 {a0 : Nat} {a1 a2 s0 : Int} {u3 u4 : zV} : zS 72 30 [zR a0, zI a1, zI a2, u3, u4] [zI s0] sh pp mm Q ↔ zS 72 31 [zR a0, zI a1, zI a2, zI s0, zU] [] sh pp mm Q := s_go cQ_leastOff_30 cQ_leastOff_31 rfl rfl
theorem rQ_leastOff_31 {a0 : Nat} {a1 a2 a3 : Int} {u4 : zV} : zS 72 31 [zR a0, zI a1, zI a2, zI a3, u4] [] sh pp mm Q ↔ zS 72 32 [zR a0, zI a1, zI a2, zI a3, zU] [zI a3] sh pp mm Q := s_go cQ_leastOff_31 cQ_leastOff_32 rfl rfl
theorem rQ_leastOff_32 {a0 : Nat} {a1 a2 a3 s0 : Int} {u4 : zV} : zS 72 32 [zR a0, zI a1, zI a2, zI a3, u4] [zI s0] sh pp mm Q ↔ (s0 < 0 → zS 72 64 [zR a0, zI a1, zI a2, zU, zU] [] sh pp mm Q) ∧ (¬ s0 < 0 → zS 72 35 [zR a0, zI a1, zI a2, zI a3, zU] [] sh pp mm Q) := s_if cQ_leastOff_32 cQ_leastOff_64 cQ_leastOff_35 rfl rfl rfl
theorem rQ_leastOff_35 {a0 : Nat} {a1 a2 a3 : Int} {u4 : zV} : zS 72 35 [zR a0, zI a1, zI a2, zI a3, u4] [] sh pp mm Q ↔ zS 72 36 [zR a0, zI a1, zI a2, zI a3, zU] [zI 0] sh pp mm Q := s_go cQ_leastOff_35 cQ_leastOff_36 rfl rfl
theorem rQ_leastOff_36 {a0 : Nat} {a1 a2 a3 s0 : Int} {u4 : zV} : zS 72 36 [zR a0, zI a1, zI a2, zI a3, u4] [zI s0] sh pp mm Q ↔ zS 72 38 [zR a0, zI a1, zI a2, zI a3, zI s0] [] sh pp mm Q := s_go cQ_leastOff_36 cQ_leastOff_38 rfl rfl
theorem rQ_leastOff_38 {a0 : Nat} {a1 a2 a3 a4 : Int} : zS 72 38 [zR a0, zI a1, zI a2, zI a3, zI a4] [] sh pp mm Q ↔ zS 72 40 [zR a0, zI a1, zI a2, zI a3, zI a4] [zI a4] sh pp mm Q := s_go cQ_leastOff_38 cQ_leastOff_40 rfl rfl
theorem rQ_leastOff_40 {a0 : Nat} {a1 a2 a3 a4 s0 : Int} : zS 72 40 [zR a0, zI a1, zI a2, zI a3, zI a4] [zI s0] sh pp mm Q ↔ zS 72 41 [zR a0, zI a1, zI a2, zI a3, zI a4] [zI a1, zI s0] sh pp mm Q := s_go cQ_leastOff_40 cQ_leastOff_41 rfl rfl
theorem rQ_leastOff_41 {a0 : Nat} {a1 a2 a3 a4 s0 s1 : Int} : zS 72 41 [zR a0, zI a1, zI a2, zI a3, zI a4] [zI s0, zI s1] sh pp mm Q ↔ (s0 < s1 → zS 72 58 [zR a0, zI a1, zI a2, zI a3, zU] [] sh pp mm Q) ∧ (¬ s0 < s1 → zS 72 44 [zR a0, zI a1, zI a2, zI a3, zI a4] [] sh pp mm Q) := s_if cQ_leastOff_41 cQ_leastOff_58 cQ_leastOff_44 rfl rfl rfl
theorem rQ_leastOff_44 {a0 : Nat} {a1 a2 a3 a4 : Int} : zS 72 44 [zR a0, zI a1, zI a2, zI a3, zI a4] [] sh pp mm Q ↔ zS 72 45 [zR a0, zI a1, zI a2, zI a3, zI a4] [zR a0] sh pp mm Q := s_go cQ_leastOff_44 cQ_leastOff_45 rfl rfl
theorem rQ_leastOff_45 {a0 s0 : Nat} {a1 a2 a3 a4 : Int} : zS 72 45 [zR a0, zI a1, zI a2, zI a3, zI a4] [zR s0] sh pp mm Q ↔ zS 72 46 [zR a0, zI a1, zI a2, zI a3, zI a4] [zI a1, zR s0] sh pp mm Q := s_go cQ_leastOff_45 cQ_leastOff_46 rfl rfl
theorem rQ_leastOff_46 {a0 s1 : Nat} {a1 a2 a3 a4 s0 : Int} : zS 72 46 [zR a0, zI a1, zI a2, zI a3, zI a4] [zI s0, zR s1] sh pp mm Q ↔ zS 72 47 [zR a0, zI a1, zI a2, zI a3, zI a4] [zI a3, zI s0, zR s1] sh pp mm Q := s_go cQ_leastOff_46 cQ_leastOff_47 rfl rfl
theorem rQ_leastOff_47 {a0 s2 : Nat} {a1 a2 a3 a4 s0 s1 : Int} : zS 72 47 [zR a0, zI a1, zI a2, zI a3, zI a4] [zI s0, zI s1, zR s2] sh pp mm Q ↔ zS 72 49 [zR a0, zI a1, zI a2, zI a3, zI a4] [zI a4, zI s0, zI s1, zR s2] sh pp mm Q := s_go cQ_leastOff_47 cQ_leastOff_49 rfl rfl
theorem rQ_leastOff_49 {a0 s3 : Nat} {a1 a2 a3 a4 s0 s1 s2 : Int} (hk : zKd sh s3 = 7) : zS 72 49 [zR a0, zI a1, zI a2, zI a3, zI a4] [zI s0, zI s1, zI s2, zR s3] sh pp mm Q ↔ zS 74 0 [zR s3, zI s2, zI s1, zI s0, zU, zU] [] sh pp mm (fun v sh pp mm => zS 72 52 [zR a0, zI a1, zI a2, zI a3, zI a4] (zPush v []) sh pp mm Q) := s_call cQ_leastOff_49 cQ_leastOff_52 ((if_pos hk).trans rfl) rfl
theorem rQ_leastOff_52 {a0 : Nat} {a1 a2 a3 a4 : Int} : zS 72 52 [zR a0, zI a1, zI a2, zI a3, zI a4] [] sh pp mm Q ↔ zS 72 55 [zR a0, zI a1, zI a2, zI a3, zI (zw32 (a4 + 1))] [] sh pp mm Q := s_go cQ_leastOff_52 cQ_leastOff_55 rfl rfl
theorem rQ_leastOff_55 {a0 : Nat} {a1 a2 a3 a4 : Int} : zS 72 55 [zR a0, zI a1, zI a2, zI a3, zI a4] [] sh pp mm Q ↔ zS 72 38 [zR a0, zI a1, zI a2, zI a3, zI a4] [] sh pp mm Q := s_go cQ_leastOff_55 cQ_leastOff_38 rfl rfl
theorem rQ_leastOff_58 {a0 : Nat} {a1 a2 a3 : Int} {u4 : zV} : zS 72 58 [zR a0, zI a1, zI a2, zI a3, u4] [] sh pp mm Q ↔ zS 72 61 [zR a0, zI a1, zI a2, zI (zw32 (a3 + (-1))), zU] [] sh pp mm Q := s_go cQ_leastOff_58 cQ_leastOff_61 rfl rfl
theorem rQ_leastOff_61 {a0 : Nat} {a1 a2 a3 : Int} {u4 : zV} : zS 72 61 [zR a0, zI a1, zI a2, zI a3, u4] [] sh pp mm Q ↔ zS 72 31 [zR a0, zI a1, zI a2, zI a3, zU] [] sh pp mm Q := s_go cQ_leastOff_61 cQ_leastOff_31 rfl rfl
theorem rQ_leastOff_64 {a0 : Nat} {a1 a2 : Int} {u3 u4 : zV} : zS 72 64 [zR a0, zI a1, zI a2, u3, u4] [] sh pp mm Q ↔ zS 72 65 [zR a0, zI a1, zI a2, zU, zU] [zR a0] sh pp mm Q := s_go cQ_leastOff_64 cQ_leastOff_65 rfl rfl
theorem rQ_leastOff_65 {a0 s0 : Nat} {a1 a2 : Int} {u3 u4 : zV} (hk : zKd sh s0 = 7) : zS 72 65 [zR a0, zI a1, zI a2, u3, u4] [zR s0] sh pp mm Q ↔ zS 72 68 [zR a0, zI a1, zI a2, zU, zU] [zR (pp s0 2)] sh pp mm Q := s_go cQ_leastOff_65 cQ_leastOff_68 (if_pos hk) rfl
theorem rQ_leastOff_68 {a0 s0 : Nat} {a1 a2 : Int} {u3 u4 : zV} : zS 72 68 [zR a0, zI a1, zI a2, u3, u4] [zR s0] sh pp mm Q ↔ zS 72 69 [zR a0, zI a1, zI a2, zU, zU] [zI 0, zR s0] sh pp mm Q := s_go cQ_leastOff_68 cQ_leastOff_69 rfl rfl
theorem rQ_leastOff_69 {a0 s1 : Nat} {a1 a2 s0 : Int} {u3 u4 : zV} : zS 72 69 [zR a0, zI a1, zI a2, u3, u4] [zI s0, zR s1] sh pp mm Q ↔ zS 72 70 [zR a0, zI a1, zI a2, zU, zU] [zI a1, zI s0, zR s1] sh pp mm Q := s_go cQ_leastOff_69 cQ_leastOff_70 rfl rfl
theorem rQ_leastOff_70 {a0 s2 : Nat} {a1 a2 s0 s1 : Int} {u3 u4 : zV} : zS 72 70 [zR a0, zI a1, zI a2, u3, u4] [zI s0, zI s1, zR s2] sh pp mm Q ↔ zS 73 0 [zI s1, zI s0] [] sh pp mm (fun v sh pp mm => zS 72 73 [zR a0, zI a1, zI a2, zU, zU] (zPush v [zR s2]) sh pp mm Q) := s_call cQ_leastOff_70 cQ_leastOff_73 rfl rfl
theorem rQ_leastOff_73 {a0 s1 : Nat} {a1 a2 s0 : Int} {u3 u4 : zV} : zS 72 73 [zR a0, zI a1, zI a2, u3, u4] [zI s0, zR s1] sh pp mm Q ↔ zS 72 74 [zR a0, zI a1, zI a2, zU, zU] [zR a0, zI s0, zR s1] sh pp mm Q := s_go cQ_leastOff_73 cQ_leastOff_74 rfl rfl
theorem rQ_leastOff_74 {a0 s0 s2 : Nat} {a1 a2 s1 : Int} {u3 u4 : zV} (hk : zKd sh s0 = 7) : zS 72 74 [zR a0, zI a1, zI a2, u3, u4] [zR s0, zI s1, zR s2] sh pp mm Q ↔ zS 72 77 [zR a0, zI a1, zI a2, zU, zU] [zR (pp s0 1), zI s1, zR s2] sh pp mm Q := s_go cQ_leastOff_74 cQ_leastOff_77 (if_pos hk) rfl
theorem rQ_leastOff_77 {a0 s0 s2 : Nat} {a1 a2 s1 : Int} {u3 u4 : zV} : zS 72 77 [zR a0, zI a1, zI a2, u3, u4] [zR s0, zI s1, zR s2] sh pp mm Q ↔ zS 72 78 [zR a0, zI a1, zI a2, zU, zU] [zI a1, zR s0, zI s1, zR s2] sh pp mm Q := s_go cQ_leastOff_77 cQ_leastOff_78 rfl rfl
theorem rQ_leastOff_78 {a0 s1 s3 : Nat} {a1 a2 s0 s2 : Int} {u3 u4 : zV} : zS 72 78 [zR a0, zI a1, zI a2, u3, u4] [zI s0, zR s1, zI s2, zR s3] sh pp mm Q ↔ zS 72 80 [zR a0, zI a1, zI a2, zU, zU] [zI 7, zI s0, zR s1, zI s2, zR s3] sh pp mm Q := s_go cQ_leastOff_78 cQ_leastOff_80 rfl rfl
theorem rQ_leastOff_80 {a0 s2 s4 : Nat} {a1 a2 s0 s1 s3 : Int} {u3 u4 : zV} : zS 72 80 [zR a0, zI a1, zI a2, u3, u4] [zI s0, zI s1, zR s2, zI s3, zR s4] sh pp mm Q ↔ zS 72 81 [zR a0, zI a1, zI a2, zU, zU] [zI (zw32 (s1 * s0)), zR s2, zI s3, zR s4] sh pp mm Q := s_go cQ_leastOff_80 cQ_leastOff_81 rfl rfl
theorem rQ_leastOff_81 {a0 s1 s3 : Nat} {a1 a2 s0 s2 : Int} {u3 u4 : zV} : zS 72 81 [zR a0, zI a1, zI a2, u3, u4] [zI s0, zR s1, zI s2, zR s3] sh pp mm Q ↔ zS 72 83 [zR a0, zI a1, zI a2, zU, zU] [zI 7, zI s0, zR s1, zI s2, zR s3] sh pp mm Q := s_go cQ_leastOff_81 cQ_leastOff_83 rfl rfl
theorem rQ_leastOff_83 {a0 s2 s4 : Nat} {a1 a2 s0 s1 s3 : Int} {u3 u4 : zV} (hs : zKd sh s4 = 20 ∨ zKd sh s4 = 30) (hd : zKd sh s2 = 20) (hn : s4 ≠ s2) (h0 : 0 ≤ s3) (h1 : 0 ≤ s1) (h2 : 0 ≤ s0) (h3 : s3 + s0 ≤ zLn sh s4) (h4 : s1 + s0 ≤ zLn sh s2) : zS 72 83 [zR a0, zI a1, zI a2, u3, u4] [zI s0, zI s1, zR s2, zI s3, zR s4] sh pp mm Q ↔ zS 72 86 [zR a0, zI a1, zI a2, zU, zU] [] sh pp (zcpy mm s4 s3 s2 s1 s0) Q := s_go cQ_leastOff_83 cQ_leastOff_86 (if_pos ⟨hs, hd, hn, h0, h1, h2, h3, h4, by decide⟩) rfl
theorem rQ_leastOff_86 {a0 : Nat} {a1 a2 : Int} {u3 u4 : zV} : zS 72 86 [zR a0, zI a1, zI a2, u3, u4] [] sh pp mm Q ↔ zS 72 87 [zR a0, zI a1, zI a2, zU, zU] [zR a0] sh pp mm Q := s_go cQ_leastOff_86 cQ_leastOff_87 rfl rfl
theorem rQ_leastOff_87 {a0 s0 : Nat} {a1 a2 : Int} {u3 u4 : zV} (hk : zKd sh s0 = 7) : zS 72 87 [zR a0, zI a1, zI a2, u3, u4] [zR s0] sh pp mm Q ↔ zS 72 90 [zR a0, zI a1, zI a2, zU, zU] [zR (pp s0 0)] sh pp mm Q := s_go cQ_leastOff_87 cQ_leastOff_90 (if_pos hk) rfl
theorem rQ_leastOff_90 {a0 s0 : Nat} {a1 a2 : Int} {u3 u4 : zV} : zS 72 90 [zR a0, zI a1, zI a2, u3, u4] [zR s0] sh pp mm Q ↔ zS 72 91 [zR a0, zI a1, zI a2, zU, zU] [zI a1, zR s0] sh pp mm Q := s_go cQ_leastOff_90 cQ_leastOff_91 rfl rfl
theorem rQ_leastOff_91 {a0 s1 : Nat} {a1 a2 s0 : Int} {u3 u4 : zV} : zS 72 91 [zR a0, zI a1, zI a2, u3, u4] [zI s0, zR s1] sh pp mm Q ↔ zS 72 92 [zR a0, zI a1, zI a2, zU, zU] [zI 1, zI s0, zR s1] sh pp mm Q := s_go cQ_leastOff_91 cQ_leastOff_92 rfl rfl
theorem rQ_leastOff_92 {a0 s2 : Nat} {a1 a2 s0 s1 : Int} {u3 u4 : zV} (hk : zKd sh s2 = 22) (h0 : 0 ≤ s1) (h1 : s1 < zLn sh s2) (hb : s0 = 0 ∨ s0 = 1) : zS 72 92 [zR a0, zI a1, zI a2, u3, u4] [zI s0, zI s1, zR s2] sh pp mm Q ↔ zS 72 93 [zR a0, zI a1, zI a2, zU, zU] [] sh pp (zupd mm s2 s1 s0) Q := s_go cQ_leastOff_92 cQ_leastOff_93 (if_pos ⟨hk, h0, h1, fun _ => hb⟩) rfl
theorem rQ_leastOff_93 {a0 : Nat} {a1 a2 : Int} {u3 u4 : zV} : zS 72 93 [zR a0, zI a1, zI a2, u3, u4] [] sh pp mm Q ↔ zS 72 94 [zU, zI a1, zI a2, zU, zU] [zR a0] sh pp mm Q := s_go cQ_leastOff_93 cQ_leastOff_94 rfl rfl
theorem rQ_leastOff_94 {s0 : Nat} {a1 a2 : Int} {u0 u3 u4 : zV} (hk : zKd sh s0 = 7) : zS 72 94 [u0, zI a1, zI a2, u3, u4] [zR s0] sh pp mm Q ↔ zS 72 97 [zU, zI a1, zI a2, zU, zU] [zR (pp s0 1)] sh pp mm Q := s_go cQ_leastOff_94 cQ_leastOff_97 (if_pos hk) rfl
theorem rQ_leastOff_97 {s0 : Nat} {a1 a2 : Int} {u0 u3 u4 : zV} : zS 72 97 [u0, zI a1, zI a2, u3, u4] [zR s0] sh pp mm Q ↔ zS 72 98 [zU, zU, zI a2, zU, zU] [zI a1, zR s0] sh pp mm Q := s_go cQ_leastOff_97 cQ_leastOff_98 rfl rfl
theorem rQ_leastOff_98 {s1 : Nat} {a2 s0 : Int} {u0 u1 u3 u4 : zV} : zS 72 98 [u0, u1, zI a2, u3, u4] [zI s0, zR s1] sh pp mm Q ↔ zS 72 100 [zU, zU, zI a2, zU, zU] [zI 7, zI s0, zR s1] sh pp mm Q := s_go cQ_leastOff_98 cQ_leastOff_100 rfl rfl
theorem rQ_leastOff_100 {s2 : Nat} {a2 s0 s1 : Int} {u0 u1 u3 u4 : zV} : zS 72 100 [u0, u1, zI a2, u3, u4] [zI s0, zI s1, zR s2] sh pp mm Q ↔ zS 72 101 [zU, zU, zI a2, zU, zU] [zI (zw32 (s1 * s0)), zR s2] sh pp mm Q := s_go cQ_leastOff_100 cQ_leastOff_101 rfl rfl
theorem rQ_leastOff_101 {s1 : Nat} {a2 s0 : Int} {u0 u1 u3 u4 : zV} : zS 72 101 [u0, u1, zI a2, u3, u4] [zI s0, zR s1] sh pp mm Q ↔ zS 72 102 [zU, zU, zU, zU, zU] [zI a2, zI s0, zR s1] sh pp mm Q := s_go cQ_leastOff_101 cQ_leastOff_102 rfl rfl
theorem rQ_leastOff_102 {s2 : Nat} {s0 s1 : Int} {u0 u1 u2 u3 u4 : zV} : zS 72 102 [u0, u1, u2, u3, u4] [zI s0, zI s1, zR s2] sh pp mm Q ↔ zS 72 103 [zU, zU, zU, zU, zU] [zI (zw32 (s1 + s0)), zR s2] sh pp mm Q := s_go cQ_leastOff_102 cQ_leastOff_103 rfl rfl
theorem rQ_leastOff_103 {s1 : Nat} {s0 : Int} {u0 u1 u2 u3 u4 : zV} (hk : zKd sh s1 = 20 ∨ zKd sh s1 = 30) (h0 : 0 ≤ s0) (h1 : s0 < zLn sh s1) : zS 72 103 [u0, u1, u2, u3, u4] [zI s0, zR s1] sh pp mm Q ↔ zS 72 104 [zU, zU, zU, zU, zU] [zI (mm s1 s0)] sh pp mm Q := s_go cQ_leastOff_103 cQ_leastOff_104 (if_pos ⟨hk, h0, h1⟩) rfl
theorem rQ_leastOff_104 {s0 : Int} {u0 u1 u2 u3 u4 : zV} : zS 72 104 [u0, u1, u2, u3, u4] [zI s0] sh pp mm Q ↔ Q (zI s0) sh pp mm := s_ret cQ_leastOff_104 rfl
theorem cAQ_row : ∀ q ∈ zT73, zCode 73 q.1 = some q.2 := zAll (mid := 73) rfl (by decide +kernel)
theorem cAQ_row_0 : ∀ q ∈ zT73_0, zCode 73 q.1 = some q.2 := fun q h => cAQ_row q (h)
theorem cQ_row_0 : zCode 73 0 = some (.iload_n 0, 1, 0, 0, 0, 0, 3) := cAQ_row_0 _ (List.mem_of_getElem? (i := 0) rfl)
theorem cQ_row_1 : zCode 73 1 = some (.bipush 8, 3, 0, 0, 0, 0, 2) := cAQ_row_0 _ (List.mem_of_getElem? (i := 1) rfl)
theorem cQ_row_3 : zCode 73 3 = some (.imul, 4, 0, 0, 0, 0, 2) := cAQ_row_0 _ (List.mem_of_getElem? (i := 2) rfl)
theorem cQ_row_4 : zCode 73 4 = some (.iload_n 1, 5, 0, 0, 0, 0, 2) := cAQ_row_0 _ (List.mem_of_getElem? (i := 3) rfl)
theorem cQ_row_5 : zCode 73 5 = some (.iadd, 6, 0, 0, 0, 0, 0) := cAQ_row_0 _ (List.mem_of_getElem? (i := 4) rfl)
theorem cQ_row_6 : zCode 73 6 = some (.bipush 7, 8, 0, 0, 0, 0, 0) := cAQ_row_0 _ (List.mem_of_getElem? (i := 5) rfl)
theorem cQ_row_8 : zCode 73 8 = some (.imul, 9, 0, 0, 0, 0, 0) := cAQ_row_0 _ (List.mem_of_getElem? (i := 6) rfl)
theorem cQ_row_9 : zCode 73 9 = some (.ireturn, 10, 0, 0, 0, 0, 0) := cAQ_row_0 _ (List.mem_of_getElem? (i := 7) rfl)
theorem rQ_row_0 {a0 a1 : Int} : zS 73 0 [zI a0, zI a1] [] sh pp mm Q ↔ zS 73 1 [zU, zI a1] [zI a0] sh pp mm Q := s_go cQ_row_0 cQ_row_1 rfl rfl
theorem rQ_row_1 {a1 s0 : Int} {u0 : zV} : zS 73 1 [u0, zI a1] [zI s0] sh pp mm Q ↔ zS 73 3 [zU, zI a1] [zI 8, zI s0] sh pp mm Q := s_go cQ_row_1 cQ_row_3 rfl rfl
theorem rQ_row_3 {a1 s0 s1 : Int} {u0 : zV} : zS 73 3 [u0, zI a1] [zI s0, zI s1] sh pp mm Q ↔ zS 73 4 [zU, zI a1] [zI (zw32 (s1 * s0))] sh pp mm Q := s_go cQ_row_3 cQ_row_4 rfl rfl
theorem rQ_row_4 {a1 s0 : Int} {u0 : zV} : zS 73 4 [u0, zI a1] [zI s0] sh pp mm Q ↔ zS 73 5 [zU, zU] [zI a1, zI s0] sh pp mm Q := s_go cQ_row_4 cQ_row_5 rfl rfl
theorem rQ_row_5 {s0 s1 : Int} {u0 u1 : zV} : zS 73 5 [u0, u1] [zI s0, zI s1] sh pp mm Q ↔ zS 73 6 [zU, zU] [zI (zw32 (s1 + s0))] sh pp mm Q := s_go cQ_row_5 cQ_row_6 rfl rfl
theorem rQ_row_6 {s0 : Int} {u0 u1 : zV} : zS 73 6 [u0, u1] [zI s0] sh pp mm Q ↔ zS 73 8 [zU, zU] [zI 7, zI s0] sh pp mm Q := s_go cQ_row_6 cQ_row_8 rfl rfl
theorem rQ_row_8 {s0 s1 : Int} {u0 u1 : zV} : zS 73 8 [u0, u1] [zI s0, zI s1] sh pp mm Q ↔ zS 73 9 [zU, zU] [zI (zw32 (s1 * s0))] sh pp mm Q := s_go cQ_row_8 cQ_row_9 rfl rfl
theorem rQ_row_9 {s0 : Int} {u0 u1 : zV} : zS 73 9 [u0, u1] [zI s0] sh pp mm Q ↔ Q (zI s0) sh pp mm := s_ret cQ_row_9 rfl
theorem cAQ_goOn : ∀ q ∈ zT74, zCode 74 q.1 = some q.2 := zAll (mid := 74) rfl (by decide +kernel)
theorem cAQ_goOn_0 : ∀ q ∈ zT74_0, zCode 74 q.1 = some q.2 := fun q h => cAQ_goOn q (List.mem_append_left _ h)
theorem cAQ_goOn_1 : ∀ q ∈ zT74_1, zCode 74 q.1 = some q.2 := fun q h => cAQ_goOn q (List.mem_append_right _ (List.mem_append_left _ h))
theorem cAQ_goOn_2 : ∀ q ∈ zT74_2, zCode 74 q.1 = some q.2 := fun q h => cAQ_goOn q (List.mem_append_right _ (List.mem_append_right _ h))
theorem cQ_goOn_0 : zCode 74 0 = some (.iload_n 2, 1, 0, 0, 0, 0, 15) := cAQ_goOn_0 _ (List.mem_of_getElem? (i := 0) rfl)
theorem cQ_goOn_1 : zCode 74 1 = some (.istore 4, 3, 0, 0, 0, 0, 15) := cAQ_goOn_0 _ (List.mem_of_getElem? (i := 1) rfl)
theorem cQ_goOn_3 : zCode 74 3 = some (.iload 4, 5, 0, 0, 0, 0, 31) := cAQ_goOn_0 _ (List.mem_of_getElem? (i := 2) rfl)
theorem cQ_goOn_5 : zCode 74 5 = some (.ifCond .lt 66, 8, 71, 0, 0, 0, 31) := cAQ_goOn_0 _ (List.mem_of_getElem? (i := 3) rfl)
theorem cQ_goOn_8 : zCode 74 8 = some (.iload_n 3, 9, 0, 0, 0, 0, 31) := cAQ_goOn_0 _ (List.mem_of_getElem? (i := 4) rfl)
theorem cQ_goOn_9 : zCode 74 9 = some (.istore 5, 11, 0, 0, 0, 0, 31) := cAQ_goOn_0 _ (List.mem_of_getElem? (i := 5) rfl)
theorem cQ_goOn_11 : zCode 74 11 = some (.iload 5, 13, 0, 0, 0, 0, 63) := cAQ_goOn_0 _ (List.mem_of_getElem? (i := 6) rfl)
theorem cQ_goOn_13 : zCode 74 13 = some (.iload_n 1, 14, 0, 0, 0, 0, 63) := cAQ_goOn_0 _ (List.mem_of_getElem? (i := 7) rfl)
theorem cQ_goOn_14 : zCode 74 14 = some (.if_icmp .gt 51, 17, 65, 0, 0, 0, 63) := cAQ_goOn_0 _ (List.mem_of_getElem? (i := 8) rfl)
theorem cQ_goOn_17 : zCode 74 17 = some (.iload 4, 19, 0, 0, 0, 0, 63) := cAQ_goOn_0 _ (List.mem_of_getElem? (i := 9) rfl)
theorem cQ_goOn_19 : zCode 74 19 = some (.iload_n 2, 20, 0, 0, 0, 0, 63) := cAQ_goOn_0 _ (List.mem_of_getElem? (i := 10) rfl)
theorem cQ_goOn_20 : zCode 74 20 = some (.if_icmp .ne 9, 23, 29, 0, 0, 0, 63) := cAQ_goOn_0 _ (List.mem_of_getElem? (i := 11) rfl)
theorem cQ_goOn_23 : zCode 74 23 = some (.iload 5, 25, 0, 0, 0, 0, 63) := cAQ_goOn_0 _ (List.mem_of_getElem? (i := 12) rfl)
theorem cQ_goOn_25 : zCode 74 25 = some (.iload_n 3, 26, 0, 0, 0, 0, 63) := cAQ_goOn_0 _ (List.mem_of_getElem? (i := 13) rfl)
theorem cQ_goOn_26 : zCode 74 26 = some (.if_icmp .eq 33, 29, 59, 0, 0, 0, 63) := cAQ_goOn_0 _ (List.mem_of_getElem? (i := 14) rfl)
theorem cQ_goOn_29 : zCode 74 29 = some (.aload_n 0, 30, 0, 0, 0, 0, 63) := cAQ_goOn_0 _ (List.mem_of_getElem? (i := 15) rfl)
theorem cQ_goOn_30 : zCode 74 30 = some (.iload_n 2, 31, 0, 0, 0, 0, 63) := cAQ_goOn_1 _ (List.mem_of_getElem? (i := 0) rfl)
theorem cQ_goOn_31 : zCode 74 31 = some (.iload_n 3, 32, 0, 0, 0, 0, 63) := cAQ_goOn_1 _ (List.mem_of_getElem? (i := 1) rfl)
theorem cQ_goOn_32 : zCode 74 32 = some (.invokestatic 29, 35, 73, 2, 2, 7, 63) := cAQ_goOn_1 _ (List.mem_of_getElem? (i := 2) rfl)
theorem cQ_goOn_35 : zCode 74 35 = some (.iload 4, 37, 0, 0, 0, 0, 63) := cAQ_goOn_1 _ (List.mem_of_getElem? (i := 3) rfl)
theorem cQ_goOn_37 : zCode 74 37 = some (.iload 5, 39, 0, 0, 0, 0, 63) := cAQ_goOn_1 _ (List.mem_of_getElem? (i := 4) rfl)
theorem cQ_goOn_39 : zCode 74 39 = some (.invokestatic 29, 42, 73, 2, 2, 7, 63) := cAQ_goOn_1 _ (List.mem_of_getElem? (i := 5) rfl)
theorem cQ_goOn_42 : zCode 74 42 = some (.iload_n 2, 43, 0, 0, 0, 0, 63) := cAQ_goOn_1 _ (List.mem_of_getElem? (i := 6) rfl)
theorem cQ_goOn_43 : zCode 74 43 = some (.iload_n 3, 44, 0, 0, 0, 0, 63) := cAQ_goOn_1 _ (List.mem_of_getElem? (i := 7) rfl)
theorem cQ_goOn_44 : zCode 74 44 = some (.iload_n 2, 45, 0, 0, 0, 0, 63) := cAQ_goOn_1 _ (List.mem_of_getElem? (i := 8) rfl)
theorem cQ_goOn_45 : zCode 74 45 = some (.iload 4, 47, 0, 0, 0, 0, 63) := cAQ_goOn_1 _ (List.mem_of_getElem? (i := 9) rfl)
theorem cQ_goOn_47 : zCode 74 47 = some (.isub, 48, 0, 0, 0, 0, 63) := cAQ_goOn_1 _ (List.mem_of_getElem? (i := 10) rfl)
theorem cQ_goOn_48 : zCode 74 48 = some (.iload 5, 50, 0, 0, 0, 0, 63) := cAQ_goOn_1 _ (List.mem_of_getElem? (i := 11) rfl)
theorem cQ_goOn_50 : zCode 74 50 = some (.iload_n 3, 51, 0, 0, 0, 0, 63) := cAQ_goOn_1 _ (List.mem_of_getElem? (i := 12) rfl)
theorem cQ_goOn_51 : zCode 74 51 = some (.isub, 52, 0, 0, 0, 0, 63) := cAQ_goOn_1 _ (List.mem_of_getElem? (i := 13) rfl)
theorem cQ_goOn_52 : zCode 74 52 = some (.iload_n 1, 53, 0, 0, 0, 0, 63) := cAQ_goOn_1 _ (List.mem_of_getElem? (i := 14) rfl)
theorem cQ_goOn_53 : zCode 74 53 = some (.invokestatic 43, 56, 76, 5, 10, 7, 63) := cAQ_goOn_1 _ (List.mem_of_getElem? (i := 15) rfl)
theorem cQ_goOn_56 : zCode 74 56 = some (.invokevirtual 47, 59, 75, 3, 6, 7, 63) := cAQ_goOn_2 _ (List.mem_of_getElem? (i := 0) rfl)
theorem cQ_goOn_59 : zCode 74 59 = some (.iinc 5 1, 62, 0, 0, 0, 0, 63) := cAQ_goOn_2 _ (List.mem_of_getElem? (i := 1) rfl)
theorem cQ_goOn_62 : zCode 74 62 = some (.goto (-51), 65, 11, 0, 0, 0, 63) := cAQ_goOn_2 _ (List.mem_of_getElem? (i := 2) rfl)
theorem cQ_goOn_65 : zCode 74 65 = some (.iinc 4 (-1), 68, 0, 0, 0, 0, 31) := cAQ_goOn_2 _ (List.mem_of_getElem? (i := 3) rfl)
theorem cQ_goOn_68 : zCode 74 68 = some (.goto (-65), 71, 3, 0, 0, 0, 31) := cAQ_goOn_2 _ (List.mem_of_getElem? (i := 4) rfl)
theorem cQ_goOn_71 : zCode 74 71 = some (.return_, 72, 0, 0, 0, 0, 0) := cAQ_goOn_2 _ (List.mem_of_getElem? (i := 5) rfl)
theorem rQ_goOn_0 {a0 : Nat} {a1 a2 a3 : Int} {u4 u5 : zV} : zS 74 0 [zR a0, zI a1, zI a2, zI a3, u4, u5] [] sh pp mm Q ↔ zS 74 1 [zR a0, zI a1, zI a2, zI a3, zU, zU] [zI a2] sh pp mm Q := s_go cQ_goOn_0 cQ_goOn_1 rfl rfl
theorem rQ_goOn_1 {a0 : Nat} {a1 a2 a3 s0 : Int} {u4 u5 : zV} : zS 74 1 [zR a0, zI a1, zI a2, zI a3, u4, u5] [zI s0] sh pp mm Q ↔ zS 74 3 [zR a0, zI a1, zI a2, zI a3, zI s0, zU] [] sh pp mm Q := s_go cQ_goOn_1 cQ_goOn_3 rfl rfl
theorem rQ_goOn_3 {a0 : Nat} {a1 a2 a3 a4 : Int} {u5 : zV} : zS 74 3 [zR a0, zI a1, zI a2, zI a3, zI a4, u5] [] sh pp mm Q ↔ zS 74 5 [zR a0, zI a1, zI a2, zI a3, zI a4, zU] [zI a4] sh pp mm Q := s_go cQ_goOn_3 cQ_goOn_5 rfl rfl
theorem rQ_goOn_5 {a0 : Nat} {a1 a2 a3 a4 s0 : Int} {u5 : zV} : zS 74 5 [zR a0, zI a1, zI a2, zI a3, zI a4, u5] [zI s0] sh pp mm Q ↔ (s0 < 0 → zS 74 71 [zU, zU, zU, zU, zU, zU] [] sh pp mm Q) ∧ (¬ s0 < 0 → zS 74 8 [zR a0, zI a1, zI a2, zI a3, zI a4, zU] [] sh pp mm Q) := s_if cQ_goOn_5 cQ_goOn_71 cQ_goOn_8 rfl rfl rfl
theorem rQ_goOn_8 {a0 : Nat} {a1 a2 a3 a4 : Int} {u5 : zV} : zS 74 8 [zR a0, zI a1, zI a2, zI a3, zI a4, u5] [] sh pp mm Q ↔ zS 74 9 [zR a0, zI a1, zI a2, zI a3, zI a4, zU] [zI a3] sh pp mm Q := s_go cQ_goOn_8 cQ_goOn_9 rfl rfl
theorem rQ_goOn_9 {a0 : Nat} {a1 a2 a3 a4 s0 : Int} {u5 : zV} : zS 74 9 [zR a0, zI a1, zI a2, zI a3, zI a4, u5] [zI s0] sh pp mm Q ↔ zS 74 11 [zR a0, zI a1, zI a2, zI a3, zI a4, zI s0] [] sh pp mm Q := s_go cQ_goOn_9 cQ_goOn_11 rfl rfl
theorem rQ_goOn_11 {a0 : Nat} {a1 a2 a3 a4 a5 : Int} : zS 74 11 [zR a0, zI a1, zI a2, zI a3, zI a4, zI a5] [] sh pp mm Q ↔ zS 74 13 [zR a0, zI a1, zI a2, zI a3, zI a4, zI a5] [zI a5] sh pp mm Q := s_go cQ_goOn_11 cQ_goOn_13 rfl rfl
theorem rQ_goOn_13 {a0 : Nat} {a1 a2 a3 a4 a5 s0 : Int} : zS 74 13 [zR a0, zI a1, zI a2, zI a3, zI a4, zI a5] [zI s0] sh pp mm Q ↔ zS 74 14 [zR a0, zI a1, zI a2, zI a3, zI a4, zI a5] [zI a1, zI s0] sh pp mm Q := s_go cQ_goOn_13 cQ_goOn_14 rfl rfl
theorem rQ_goOn_14 {a0 : Nat} {a1 a2 a3 a4 a5 s0 s1 : Int} : zS 74 14 [zR a0, zI a1, zI a2, zI a3, zI a4, zI a5] [zI s0, zI s1] sh pp mm Q ↔ (s0 < s1 → zS 74 65 [zR a0, zI a1, zI a2, zI a3, zI a4, zU] [] sh pp mm Q) ∧ (¬ s0 < s1 → zS 74 17 [zR a0, zI a1, zI a2, zI a3, zI a4, zI a5] [] sh pp mm Q) := s_if cQ_goOn_14 cQ_goOn_65 cQ_goOn_17 rfl rfl rfl
theorem rQ_goOn_17 {a0 : Nat} {a1 a2 a3 a4 a5 : Int} : zS 74 17 [zR a0, zI a1, zI a2, zI a3, zI a4, zI a5] [] sh pp mm Q ↔ zS 74 19 [zR a0, zI a1, zI a2, zI a3, zI a4, zI a5] [zI a4] sh pp mm Q := s_go cQ_goOn_17 cQ_goOn_19 rfl rfl
theorem rQ_goOn_19 {a0 : Nat} {a1 a2 a3 a4 a5 s0 : Int} : zS 74 19 [zR a0, zI a1, zI a2, zI a3, zI a4, zI a5] [zI s0] sh pp mm Q ↔ zS 74 20 [zR a0, zI a1, zI a2, zI a3, zI a4, zI a5] [zI a2, zI s0] sh pp mm Q := s_go cQ_goOn_19 cQ_goOn_20 rfl rfl
theorem rQ_goOn_20 {a0 : Nat} {a1 a2 a3 a4 a5 s0 s1 : Int} : zS 74 20 [zR a0, zI a1, zI a2, zI a3, zI a4, zI a5] [zI s0, zI s1] sh pp mm Q ↔ (s1 = s0 → zS 74 23 [zR a0, zI a1, zI a2, zI a3, zI a4, zI a5] [] sh pp mm Q) ∧ (¬ s1 = s0 → zS 74 29 [zR a0, zI a1, zI a2, zI a3, zI a4, zI a5] [] sh pp mm Q) := s_ifn cQ_goOn_20 cQ_goOn_23 cQ_goOn_29 rfl rfl rfl
theorem rQ_goOn_23 {a0 : Nat} {a1 a2 a3 a4 a5 : Int} : zS 74 23 [zR a0, zI a1, zI a2, zI a3, zI a4, zI a5] [] sh pp mm Q ↔ zS 74 25 [zR a0, zI a1, zI a2, zI a3, zI a4, zI a5] [zI a5] sh pp mm Q := s_go cQ_goOn_23 cQ_goOn_25 rfl rfl
theorem rQ_goOn_25 {a0 : Nat} {a1 a2 a3 a4 a5 s0 : Int} : zS 74 25 [zR a0, zI a1, zI a2, zI a3, zI a4, zI a5] [zI s0] sh pp mm Q ↔ zS 74 26 [zR a0, zI a1, zI a2, zI a3, zI a4, zI a5] [zI a3, zI s0] sh pp mm Q := s_go cQ_goOn_25 cQ_goOn_26 rfl rfl
theorem rQ_goOn_26 {a0 : Nat} {a1 a2 a3 a4 a5 s0 s1 : Int} : zS 74 26 [zR a0, zI a1, zI a2, zI a3, zI a4, zI a5] [zI s0, zI s1] sh pp mm Q ↔ (s1 = s0 → zS 74 59 [zR a0, zI a1, zI a2, zI a3, zI a4, zI a5] [] sh pp mm Q) ∧ (¬ s1 = s0 → zS 74 29 [zR a0, zI a1, zI a2, zI a3, zI a4, zI a5] [] sh pp mm Q) := s_if cQ_goOn_26 cQ_goOn_59 cQ_goOn_29 rfl rfl rfl
theorem rQ_goOn_29 {a0 : Nat} {a1 a2 a3 a4 a5 : Int} : zS 74 29 [zR a0, zI a1, zI a2, zI a3, zI a4, zI a5] [] sh pp mm Q ↔ zS 74 30 [zR a0, zI a1, zI a2, zI a3, zI a4, zI a5] [zR a0] sh pp mm Q := s_go cQ_goOn_29 cQ_goOn_30 rfl rfl
theorem rQ_goOn_30 {a0 s0 : Nat} {a1 a2 a3 a4 a5 : Int} : zS 74 30 [zR a0, zI a1, zI a2, zI a3, zI a4, zI a5] [zR s0] sh pp mm Q ↔ zS 74 31 [zR a0, zI a1, zI a2, zI a3, zI a4, zI a5] [zI a2, zR s0] sh pp mm Q := s_go cQ_goOn_30 cQ_goOn_31 rfl rfl
theorem rQ_goOn_31 {a0 s1 : Nat} {a1 a2 a3 a4 a5 s0 : Int} : zS 74 31 [zR a0, zI a1, zI a2, zI a3, zI a4, zI a5] [zI s0, zR s1] sh pp mm Q ↔ zS 74 32 [zR a0, zI a1, zI a2, zI a3, zI a4, zI a5] [zI a3, zI s0, zR s1] sh pp mm Q := s_go cQ_goOn_31 cQ_goOn_32 rfl rfl
theorem rQ_goOn_32 {a0 s2 : Nat} {a1 a2 a3 a4 a5 s0 s1 : Int} : zS 74 32 [zR a0, zI a1, zI a2, zI a3, zI a4, zI a5] [zI s0, zI s1, zR s2] sh pp mm Q ↔ zS 73 0 [zI s1, zI s0] [] sh pp mm (fun v sh pp mm => zS 74 35 [zR a0, zI a1, zI a2, zI a3, zI a4, zI a5] (zPush v [zR s2]) sh pp mm Q) := s_call cQ_goOn_32 cQ_goOn_35 rfl rfl
theorem rQ_goOn_35 {a0 s1 : Nat} {a1 a2 a3 a4 a5 s0 : Int} : zS 74 35 [zR a0, zI a1, zI a2, zI a3, zI a4, zI a5] [zI s0, zR s1] sh pp mm Q ↔ zS 74 37 [zR a0, zI a1, zI a2, zI a3, zI a4, zI a5] [zI a4, zI s0, zR s1] sh pp mm Q := s_go cQ_goOn_35 cQ_goOn_37 rfl rfl
theorem rQ_goOn_37 {a0 s2 : Nat} {a1 a2 a3 a4 a5 s0 s1 : Int} : zS 74 37 [zR a0, zI a1, zI a2, zI a3, zI a4, zI a5] [zI s0, zI s1, zR s2] sh pp mm Q ↔ zS 74 39 [zR a0, zI a1, zI a2, zI a3, zI a4, zI a5] [zI a5, zI s0, zI s1, zR s2] sh pp mm Q := s_go cQ_goOn_37 cQ_goOn_39 rfl rfl
theorem rQ_goOn_39 {a0 s3 : Nat} {a1 a2 a3 a4 a5 s0 s1 s2 : Int} : zS 74 39 [zR a0, zI a1, zI a2, zI a3, zI a4, zI a5] [zI s0, zI s1, zI s2, zR s3] sh pp mm Q ↔ zS 73 0 [zI s1, zI s0] [] sh pp mm (fun v sh pp mm => zS 74 42 [zR a0, zI a1, zI a2, zI a3, zI a4, zI a5] (zPush v [zI s2, zR s3]) sh pp mm Q) := s_call cQ_goOn_39 cQ_goOn_42 rfl rfl
theorem rQ_goOn_42 {a0 s2 : Nat} {a1 a2 a3 a4 a5 s0 s1 : Int} : zS 74 42 [zR a0, zI a1, zI a2, zI a3, zI a4, zI a5] [zI s0, zI s1, zR s2] sh pp mm Q ↔ zS 74 43 [zR a0, zI a1, zI a2, zI a3, zI a4, zI a5] [zI a2, zI s0, zI s1, zR s2] sh pp mm Q := s_go cQ_goOn_42 cQ_goOn_43 rfl rfl
theorem rQ_goOn_43 {a0 s3 : Nat} {a1 a2 a3 a4 a5 s0 s1 s2 : Int} : zS 74 43 [zR a0, zI a1, zI a2, zI a3, zI a4, zI a5] [zI s0, zI s1, zI s2, zR s3] sh pp mm Q ↔ zS 74 44 [zR a0, zI a1, zI a2, zI a3, zI a4, zI a5] [zI a3, zI s0, zI s1, zI s2, zR s3] sh pp mm Q := s_go cQ_goOn_43 cQ_goOn_44 rfl rfl
theorem rQ_goOn_44 {a0 s4 : Nat} {a1 a2 a3 a4 a5 s0 s1 s2 s3 : Int} : zS 74 44 [zR a0, zI a1, zI a2, zI a3, zI a4, zI a5] [zI s0, zI s1, zI s2, zI s3, zR s4] sh pp mm Q ↔ zS 74 45 [zR a0, zI a1, zI a2, zI a3, zI a4, zI a5] [zI a2, zI s0, zI s1, zI s2, zI s3, zR s4] sh pp mm Q := s_go cQ_goOn_44 cQ_goOn_45 rfl rfl
theorem rQ_goOn_45 {a0 s5 : Nat} {a1 a2 a3 a4 a5 s0 s1 s2 s3 s4 : Int} : zS 74 45 [zR a0, zI a1, zI a2, zI a3, zI a4, zI a5] [zI s0, zI s1, zI s2, zI s3, zI s4, zR s5] sh pp mm Q ↔ zS 74 47 [zR a0, zI a1, zI a2, zI a3, zI a4, zI a5] [zI a4, zI s0, zI s1, zI s2, zI s3, zI s4, zR s5] sh pp mm Q := s_go cQ_goOn_45 cQ_goOn_47 rfl rfl
theorem rQ_goOn_47 {a0 s6 : Nat} {a1 a2 a3 a4 a5 s0 s1 s2 s3 s4 s5 : Int} : zS 74 47 [zR a0, zI a1, zI a2, zI a3, zI a4, zI a5] [zI s0, zI s1, zI s2, zI s3, zI s4, zI s5, zR s6] sh pp mm Q ↔ zS 74 48 [zR a0, zI a1, zI a2, zI a3, zI a4, zI a5] [zI (zw32 (s1 - s0)), zI s2, zI s3, zI s4, zI s5, zR s6] sh pp mm Q := s_go cQ_goOn_47 cQ_goOn_48 rfl rfl
theorem rQ_goOn_48 {a0 s5 : Nat} {a1 a2 a3 a4 a5 s0 s1 s2 s3 s4 : Int} : zS 74 48 [zR a0, zI a1, zI a2, zI a3, zI a4, zI a5] [zI s0, zI s1, zI s2, zI s3, zI s4, zR s5] sh pp mm Q ↔ zS 74 50 [zR a0, zI a1, zI a2, zI a3, zI a4, zI a5] [zI a5, zI s0, zI s1, zI s2, zI s3, zI s4, zR s5] sh pp mm Q := s_go cQ_goOn_48 cQ_goOn_50 rfl rfl
theorem rQ_goOn_50 {a0 s6 : Nat} {a1 a2 a3 a4 a5 s0 s1 s2 s3 s4 s5 : Int} : zS 74 50 [zR a0, zI a1, zI a2, zI a3, zI a4, zI a5] [zI s0, zI s1, zI s2, zI s3, zI s4, zI s5, zR s6] sh pp mm Q ↔ zS 74 51 [zR a0, zI a1, zI a2, zI a3, zI a4, zI a5] [zI a3, zI s0, zI s1, zI s2, zI s3, zI s4, zI s5, zR s6] sh pp mm Q := s_go cQ_goOn_50 cQ_goOn_51 rfl rfl
theorem rQ_goOn_51 {a0 s7 : Nat} {a1 a2 a3 a4 a5 s0 s1 s2 s3 s4 s5 s6 : Int} : zS 74 51 [zR a0, zI a1, zI a2, zI a3, zI a4, zI a5] [zI s0, zI s1, zI s2, zI s3, zI s4, zI s5, zI s6, zR s7] sh pp mm Q ↔ zS 74 52 [zR a0, zI a1, zI a2, zI a3, zI a4, zI a5] [zI (zw32 (s1 - s0)), zI s2, zI s3, zI s4, zI s5, zI s6, zR s7] sh pp mm Q := s_go cQ_goOn_51 cQ_goOn_52 rfl rfl
theorem rQ_goOn_52 {a0 s6 : Nat} {a1 a2 a3 a4 a5 s0 s1 s2 s3 s4 s5 : Int} : zS 74 52 [zR a0, zI a1, zI a2, zI a3, zI a4, zI a5] [zI s0, zI s1, zI s2, zI s3, zI s4, zI s5, zR s6] sh pp mm Q ↔ zS 74 53 [zR a0, zI a1, zI a2, zI a3, zI a4, zI a5] [zI a1, zI s0, zI s1, zI s2, zI s3, zI s4, zI s5, zR s6] sh pp mm Q := s_go cQ_goOn_52 cQ_goOn_53 rfl rfl
theorem rQ_goOn_53 {a0 s7 : Nat} {a1 a2 a3 a4 a5 s0 s1 s2 s3 s4 s5 s6 : Int} : zS 74 53 [zR a0, zI a1, zI a2, zI a3, zI a4, zI a5] [zI s0, zI s1, zI s2, zI s3, zI s4, zI s5, zI s6, zR s7] sh pp mm Q ↔ zS 76 0 [zI s4, zI s3, zI s2, zI s1, zI s0, zU, zU, zU, zU, zU] [] sh pp mm (fun v sh pp mm => zS 74 56 [zR a0, zI a1, zI a2, zI a3, zI a4, zI a5] (zPush v [zI s5, zI s6, zR s7]) sh pp mm Q) := s_call cQ_goOn_53 cQ_goOn_56 rfl rfl
theorem rQ_goOn_56 {a0 s3 : Nat} {a1 a2 a3 a4 a5 s0 s1 s2 : Int} (hk : zKd sh s3 = 7) : zS 74 56 [zR a0, zI a1, zI a2, zI a3, zI a4, zI a5] [zI s0, zI s1, zI s2, zR s3] sh pp mm Q ↔ zS 75 0 [zR s3, zI s2, zI s1, zI s0, zU, zU] [] sh pp mm (fun v sh pp mm => zS 74 59 [zR a0, zI a1, zI a2, zI a3, zI a4, zI a5] (zPush v []) sh pp mm Q) := s_call cQ_goOn_56 cQ_goOn_59 ((if_pos hk).trans rfl) rfl
theorem rQ_goOn_59 {a0 : Nat} {a1 a2 a3 a4 a5 : Int} : zS 74 59 [zR a0, zI a1, zI a2, zI a3, zI a4, zI a5] [] sh pp mm Q ↔ zS 74 62 [zR a0, zI a1, zI a2, zI a3, zI a4, zI (zw32 (a5 + 1))] [] sh pp mm Q := s_go cQ_goOn_59 cQ_goOn_62 rfl rfl
theorem rQ_goOn_62 {a0 : Nat} {a1 a2 a3 a4 a5 : Int} : zS 74 62 [zR a0, zI a1, zI a2, zI a3, zI a4, zI a5] [] sh pp mm Q ↔ zS 74 11 [zR a0, zI a1, zI a2, zI a3, zI a4, zI a5] [] sh pp mm Q := s_go cQ_goOn_62 cQ_goOn_11 rfl rfl
theorem rQ_goOn_65 {a0 : Nat} {a1 a2 a3 a4 : Int} {u5 : zV} : zS 74 65 [zR a0, zI a1, zI a2, zI a3, zI a4, u5] [] sh pp mm Q ↔ zS 74 68 [zR a0, zI a1, zI a2, zI a3, zI (zw32 (a4 + (-1))), zU] [] sh pp mm Q := s_go cQ_goOn_65 cQ_goOn_68 rfl rfl
theorem rQ_goOn_68 {a0 : Nat} {a1 a2 a3 a4 : Int} {u5 : zV} : zS 74 68 [zR a0, zI a1, zI a2, zI a3, zI a4, u5] [] sh pp mm Q ↔ zS 74 3 [zR a0, zI a1, zI a2, zI a3, zI a4, zU] [] sh pp mm Q := s_go cQ_goOn_68 cQ_goOn_3 rfl rfl
theorem rQ_goOn_71 {u0 u1 u2 u3 u4 u5 : zV} : zS 74 71 [u0, u1, u2, u3, u4, u5] [] sh pp mm Q ↔ Q zU sh pp mm := s_ret cQ_goOn_71 rfl
theorem cAQ_stroke : ∀ q ∈ zT75, zCode 75 q.1 = some q.2 := zAll (mid := 75) rfl (by decide +kernel)
theorem cAQ_stroke_0 : ∀ q ∈ zT75_0, zCode 75 q.1 = some q.2 := fun q h => cAQ_stroke q (List.mem_append_left _ h)
theorem cAQ_stroke_1 : ∀ q ∈ zT75_1, zCode 75 q.1 = some q.2 := fun q h => cAQ_stroke q (List.mem_append_right _ (List.mem_append_left _ h))
theorem cAQ_stroke_2 : ∀ q ∈ zT75_2, zCode 75 q.1 = some q.2 := fun q h => cAQ_stroke q (List.mem_append_right _ (List.mem_append_right _ h))
theorem cQ_stroke_0 : zCode 75 0 = some (.iconst 0, 1, 0, 0, 0, 0, 15) := cAQ_stroke_0 _ (List.mem_of_getElem? (i := 0) rfl)
theorem cQ_stroke_1 : zCode 75 1 = some (.istore 4, 3, 0, 0, 0, 0, 15) := cAQ_stroke_0 _ (List.mem_of_getElem? (i := 1) rfl)
theorem cQ_stroke_3 : zCode 75 3 = some (.iload 4, 5, 0, 0, 0, 0, 31) := cAQ_stroke_0 _ (List.mem_of_getElem? (i := 2) rfl)
theorem cQ_stroke_5 : zCode 75 5 = some (.bipush 6, 7, 0, 0, 0, 0, 31) := cAQ_stroke_0 _ (List.mem_of_getElem? (i := 3) rfl)
theorem cQ_stroke_7 : zCode 75 7 = some (.if_icmp .ge 51, 10, 58, 0, 0, 0, 31) := cAQ_stroke_0 _ (List.mem_of_getElem? (i := 4) rfl)
theorem cQ_stroke_10 : zCode 75 10 = some (.aload_n 0, 11, 0, 0, 0, 0, 31) := cAQ_stroke_0 _ (List.mem_of_getElem? (i := 5) rfl)
theorem cQ_stroke_11 : zCode 75 11 = some (.getfield 19, 14, 7, 2, 2, 283, 31) := cAQ_stroke_0 _ (List.mem_of_getElem? (i := 6) rfl)
theorem cQ_stroke_14 : zCode 75 14 = some (.iload_n 1, 15, 0, 0, 0, 0, 31) := cAQ_stroke_0 _ (List.mem_of_getElem? (i := 7) rfl)
theorem cQ_stroke_15 : zCode 75 15 = some (.iload 4, 17, 0, 0, 0, 0, 31) := cAQ_stroke_0 _ (List.mem_of_getElem? (i := 8) rfl)
theorem cQ_stroke_17 : zCode 75 17 = some (.iadd, 18, 0, 0, 0, 0, 31) := cAQ_stroke_0 _ (List.mem_of_getElem? (i := 9) rfl)
theorem cQ_stroke_18 : zCode 75 18 = some (.iaload, 19, 0, 0, 0, 0, 31) := cAQ_stroke_0 _ (List.mem_of_getElem? (i := 10) rfl)
theorem cQ_stroke_19 : zCode 75 19 = some (.iload_n 3, 20, 0, 0, 0, 0, 31) := cAQ_stroke_0 _ (List.mem_of_getElem? (i := 11) rfl)
theorem cQ_stroke_20 : zCode 75 20 = some (.invokestatic 50, 23, 259, 2, 2, 15, 31) := cAQ_stroke_0 _ (List.mem_of_getElem? (i := 12) rfl)
theorem cQ_stroke_23 : zCode 75 23 = some (.istore 5, 25, 0, 0, 0, 0, 31) := cAQ_stroke_0 _ (List.mem_of_getElem? (i := 13) rfl)
theorem cQ_stroke_25 : zCode 75 25 = some (.aload_n 0, 26, 0, 0, 0, 0, 63) := cAQ_stroke_0 _ (List.mem_of_getElem? (i := 14) rfl)
theorem cQ_stroke_26 : zCode 75 26 = some (.getfield 19, 29, 7, 2, 2, 283, 63) := cAQ_stroke_0 _ (List.mem_of_getElem? (i := 15) rfl)
theorem cQ_stroke_29 : zCode 75 29 = some (.iload_n 2, 30, 0, 0, 0, 0, 63) := cAQ_stroke_1 _ (List.mem_of_getElem? (i := 0) rfl)
theorem cQ_stroke_30 : zCode 75 30 = some (.iload 4, 32, 0, 0, 0, 0, 63) := cAQ_stroke_1 _ (List.mem_of_getElem? (i := 1) rfl)
theorem cQ_stroke_32 : zCode 75 32 = some (.iadd, 33, 0, 0, 0, 0, 63) := cAQ_stroke_1 _ (List.mem_of_getElem? (i := 2) rfl)
theorem cQ_stroke_33 : zCode 75 33 = some (.iconst 1, 34, 0, 0, 0, 0, 63) := cAQ_stroke_1 _ (List.mem_of_getElem? (i := 3) rfl)
theorem cQ_stroke_34 : zCode 75 34 = some (.iadd, 35, 0, 0, 0, 0, 63) := cAQ_stroke_1 _ (List.mem_of_getElem? (i := 4) rfl)
theorem cQ_stroke_35 : zCode 75 35 = some (.aload_n 0, 36, 0, 0, 0, 0, 63) := cAQ_stroke_1 _ (List.mem_of_getElem? (i := 5) rfl)
theorem cQ_stroke_36 : zCode 75 36 = some (.getfield 19, 39, 7, 2, 2, 283, 63) := cAQ_stroke_1 _ (List.mem_of_getElem? (i := 6) rfl)
theorem cQ_stroke_39 : zCode 75 39 = some (.iload_n 2, 40, 0, 0, 0, 0, 63) := cAQ_stroke_1 _ (List.mem_of_getElem? (i := 7) rfl)
theorem cQ_stroke_40 : zCode 75 40 = some (.iload 4, 42, 0, 0, 0, 0, 63) := cAQ_stroke_1 _ (List.mem_of_getElem? (i := 8) rfl)
theorem cQ_stroke_42 : zCode 75 42 = some (.iadd, 43, 0, 0, 0, 0, 63) := cAQ_stroke_1 _ (List.mem_of_getElem? (i := 9) rfl)
theorem cQ_stroke_43 : zCode 75 43 = some (.iconst 1, 44, 0, 0, 0, 0, 63) := cAQ_stroke_1 _ (List.mem_of_getElem? (i := 10) rfl)
theorem cQ_stroke_44 : zCode 75 44 = some (.iadd, 45, 0, 0, 0, 0, 63) := cAQ_stroke_1 _ (List.mem_of_getElem? (i := 11) rfl)
theorem cQ_stroke_45 : zCode 75 45 = some (.iaload, 46, 0, 0, 0, 0, 63) := cAQ_stroke_1 _ (List.mem_of_getElem? (i := 12) rfl)
theorem cQ_stroke_46 : zCode 75 46 = some (.iload 5, 48, 0, 0, 0, 0, 63) := cAQ_stroke_1 _ (List.mem_of_getElem? (i := 13) rfl)
theorem cQ_stroke_48 : zCode 75 48 = some (.invokestatic 55, 51, 260, 2, 2, 15, 31) := cAQ_stroke_1 _ (List.mem_of_getElem? (i := 14) rfl)
theorem cQ_stroke_51 : zCode 75 51 = some (.iastore, 52, 0, 0, 0, 0, 31) := cAQ_stroke_1 _ (List.mem_of_getElem? (i := 15) rfl)
theorem cQ_stroke_52 : zCode 75 52 = some (.iinc 4 1, 55, 0, 0, 0, 0, 31) := cAQ_stroke_2 _ (List.mem_of_getElem? (i := 0) rfl)
theorem cQ_stroke_55 : zCode 75 55 = some (.goto (-52), 58, 3, 0, 0, 0, 31) := cAQ_stroke_2 _ (List.mem_of_getElem? (i := 1) rfl)
theorem cQ_stroke_58 : zCode 75 58 = some (.return_, 59, 0, 0, 0, 0, 0) := cAQ_stroke_2 _ (List.mem_of_getElem? (i := 2) rfl)
theorem rQ_stroke_0 {a0 : Nat} {a1 a2 a3 : Int} {u4 u5 : zV} : zS 75 0 [zR a0, zI a1, zI a2, zI a3, u4, u5] [] sh pp mm Q ↔ zS 75 1 [zR a0, zI a1, zI a2, zI a3, zU, zU] [zI 0] sh pp mm Q := s_go cQ_stroke_0 cQ_stroke_1 rfl rfl
theorem rQ_stroke_1 {a0 : Nat} {a1 a2 a3 s0 : Int} {u4 u5 : zV} : zS 75 1 [zR a0, zI a1, zI a2, zI a3, u4, u5] [zI s0] sh pp mm Q ↔ zS 75 3 [zR a0, zI a1, zI a2, zI a3, zI s0, zU] [] sh pp mm Q := s_go cQ_stroke_1 cQ_stroke_3 rfl rfl
theorem rQ_stroke_3 {a0 : Nat} {a1 a2 a3 a4 : Int} {u5 : zV} : zS 75 3 [zR a0, zI a1, zI a2, zI a3, zI a4, u5] [] sh pp mm Q ↔ zS 75 5 [zR a0, zI a1, zI a2, zI a3, zI a4, zU] [zI a4] sh pp mm Q := s_go cQ_stroke_3 cQ_stroke_5 rfl rfl
theorem rQ_stroke_5 {a0 : Nat} {a1 a2 a3 a4 s0 : Int} {u5 : zV} : zS 75 5 [zR a0, zI a1, zI a2, zI a3, zI a4, u5] [zI s0] sh pp mm Q ↔ zS 75 7 [zR a0, zI a1, zI a2, zI a3, zI a4, zU] [zI 6, zI s0] sh pp mm Q := s_go cQ_stroke_5 cQ_stroke_7 rfl rfl
theorem rQ_stroke_7 {a0 : Nat} {a1 a2 a3 a4 s0 s1 : Int} {u5 : zV} : zS 75 7 [zR a0, zI a1, zI a2, zI a3, zI a4, u5] [zI s0, zI s1] sh pp mm Q ↔ (s1 < s0 → zS 75 10 [zR a0, zI a1, zI a2, zI a3, zI a4, zU] [] sh pp mm Q) ∧ (¬ s1 < s0 → zS 75 58 [zU, zU, zU, zU, zU, zU] [] sh pp mm Q) := s_ifn cQ_stroke_7 cQ_stroke_10 cQ_stroke_58 rfl rfl rfl
theorem rQ_stroke_10 {a0 : Nat} {a1 a2 a3 a4 : Int} {u5 : zV} : zS 75 10 [zR a0, zI a1, zI a2, zI a3, zI a4, u5] [] sh pp mm Q ↔ zS 75 11 [zR a0, zI a1, zI a2, zI a3, zI a4, zU] [zR a0] sh pp mm Q := s_go cQ_stroke_10 cQ_stroke_11 rfl rfl
theorem rQ_stroke_11 {a0 s0 : Nat} {a1 a2 a3 a4 : Int} {u5 : zV} (hk : zKd sh s0 = 7) : zS 75 11 [zR a0, zI a1, zI a2, zI a3, zI a4, u5] [zR s0] sh pp mm Q ↔ zS 75 14 [zR a0, zI a1, zI a2, zI a3, zI a4, zU] [zR (pp s0 2)] sh pp mm Q := s_go cQ_stroke_11 cQ_stroke_14 (if_pos hk) rfl
theorem rQ_stroke_14 {a0 s0 : Nat} {a1 a2 a3 a4 : Int} {u5 : zV} : zS 75 14 [zR a0, zI a1, zI a2, zI a3, zI a4, u5] [zR s0] sh pp mm Q ↔ zS 75 15 [zR a0, zI a1, zI a2, zI a3, zI a4, zU] [zI a1, zR s0] sh pp mm Q := s_go cQ_stroke_14 cQ_stroke_15 rfl rfl
theorem rQ_stroke_15 {a0 s1 : Nat} {a1 a2 a3 a4 s0 : Int} {u5 : zV} : zS 75 15 [zR a0, zI a1, zI a2, zI a3, zI a4, u5] [zI s0, zR s1] sh pp mm Q ↔ zS 75 17 [zR a0, zI a1, zI a2, zI a3, zI a4, zU] [zI a4, zI s0, zR s1] sh pp mm Q := s_go cQ_stroke_15 cQ_stroke_17 rfl rfl
theorem rQ_stroke_17 {a0 s2 : Nat} {a1 a2 a3 a4 s0 s1 : Int} {u5 : zV} : zS 75 17 [zR a0, zI a1, zI a2, zI a3, zI a4, u5] [zI s0, zI s1, zR s2] sh pp mm Q ↔ zS 75 18 [zR a0, zI a1, zI a2, zI a3, zI a4, zU] [zI (zw32 (s1 + s0)), zR s2] sh pp mm Q := s_go cQ_stroke_17 cQ_stroke_18 rfl rfl
theorem rQ_stroke_18 {a0 s1 : Nat} {a1 a2 a3 a4 s0 : Int} {u5 : zV} (hk : zKd sh s1 = 20 ∨ zKd sh s1 = 30) (h0 : 0 ≤ s0) (h1 : s0 < zLn sh s1) : zS 75 18 [zR a0, zI a1, zI a2, zI a3, zI a4, u5] [zI s0, zR s1] sh pp mm Q ↔ zS 75 19 [zR a0, zI a1, zI a2, zI a3, zI a4, zU] [zI (mm s1 s0)] sh pp mm Q := s_go cQ_stroke_18 cQ_stroke_19 (if_pos ⟨hk, h0, h1⟩) rfl
theorem rQ_stroke_19 {a0 : Nat} {a1 a2 a3 a4 s0 : Int} {u5 : zV} : zS 75 19 [zR a0, zI a1, zI a2, zI a3, zI a4, u5] [zI s0] sh pp mm Q ↔ zS 75 20 [zR a0, zI a1, zI a2, zI a3, zI a4, zU] [zI a3, zI s0] sh pp mm Q := s_go cQ_stroke_19 cQ_stroke_20 rfl rfl
theorem rQ_stroke_20 {a0 : Nat} {a1 a2 a3 a4 s0 s1 : Int} {u5 : zV} : zS 75 20 [zR a0, zI a1, zI a2, zI a3, zI a4, u5] [zI s0, zI s1] sh pp mm Q ↔ zS 259 0 [zI s1, zI s0] [] sh pp mm (fun v sh pp mm => zS 75 23 [zR a0, zI a1, zI a2, zI a3, zI a4, zU] (zPush v []) sh pp mm Q) := s_call cQ_stroke_20 cQ_stroke_23 rfl rfl
theorem rQ_stroke_23 {a0 : Nat} {a1 a2 a3 a4 s0 : Int} {u5 : zV} : zS 75 23 [zR a0, zI a1, zI a2, zI a3, zI a4, u5] [zI s0] sh pp mm Q ↔ zS 75 25 [zR a0, zI a1, zI a2, zI a3, zI a4, zI s0] [] sh pp mm Q := s_go cQ_stroke_23 cQ_stroke_25 rfl rfl
theorem rQ_stroke_25 {a0 : Nat} {a1 a2 a3 a4 a5 : Int} : zS 75 25 [zR a0, zI a1, zI a2, zI a3, zI a4, zI a5] [] sh pp mm Q ↔ zS 75 26 [zR a0, zI a1, zI a2, zI a3, zI a4, zI a5] [zR a0] sh pp mm Q := s_go cQ_stroke_25 cQ_stroke_26 rfl rfl
theorem rQ_stroke_26 {a0 s0 : Nat} {a1 a2 a3 a4 a5 : Int} (hk : zKd sh s0 = 7) : zS 75 26 [zR a0, zI a1, zI a2, zI a3, zI a4, zI a5] [zR s0] sh pp mm Q ↔ zS 75 29 [zR a0, zI a1, zI a2, zI a3, zI a4, zI a5] [zR (pp s0 2)] sh pp mm Q := s_go cQ_stroke_26 cQ_stroke_29 (if_pos hk) rfl
theorem rQ_stroke_29 {a0 s0 : Nat} {a1 a2 a3 a4 a5 : Int} : zS 75 29 [zR a0, zI a1, zI a2, zI a3, zI a4, zI a5] [zR s0] sh pp mm Q ↔ zS 75 30 [zR a0, zI a1, zI a2, zI a3, zI a4, zI a5] [zI a2, zR s0] sh pp mm Q := s_go cQ_stroke_29 cQ_stroke_30 rfl rfl
theorem rQ_stroke_30 {a0 s1 : Nat} {a1 a2 a3 a4 a5 s0 : Int} : zS 75 30 [zR a0, zI a1, zI a2, zI a3, zI a4, zI a5] [zI s0, zR s1] sh pp mm Q ↔ zS 75 32 [zR a0, zI a1, zI a2, zI a3, zI a4, zI a5] [zI a4, zI s0, zR s1] sh pp mm Q := s_go cQ_stroke_30 cQ_stroke_32 rfl rfl
theorem rQ_stroke_32 {a0 s2 : Nat} {a1 a2 a3 a4 a5 s0 s1 : Int} : zS 75 32 [zR a0, zI a1, zI a2, zI a3, zI a4, zI a5] [zI s0, zI s1, zR s2] sh pp mm Q ↔ zS 75 33 [zR a0, zI a1, zI a2, zI a3, zI a4, zI a5] [zI (zw32 (s1 + s0)), zR s2] sh pp mm Q := s_go cQ_stroke_32 cQ_stroke_33 rfl rfl
theorem rQ_stroke_33 {a0 s1 : Nat} {a1 a2 a3 a4 a5 s0 : Int} : zS 75 33 [zR a0, zI a1, zI a2, zI a3, zI a4, zI a5] [zI s0, zR s1] sh pp mm Q ↔ zS 75 34 [zR a0, zI a1, zI a2, zI a3, zI a4, zI a5] [zI 1, zI s0, zR s1] sh pp mm Q := s_go cQ_stroke_33 cQ_stroke_34 rfl rfl
theorem rQ_stroke_34 {a0 s2 : Nat} {a1 a2 a3 a4 a5 s0 s1 : Int} : zS 75 34 [zR a0, zI a1, zI a2, zI a3, zI a4, zI a5] [zI s0, zI s1, zR s2] sh pp mm Q ↔ zS 75 35 [zR a0, zI a1, zI a2, zI a3, zI a4, zI a5] [zI (zw32 (s1 + s0)), zR s2] sh pp mm Q := s_go cQ_stroke_34 cQ_stroke_35 rfl rfl
theorem rQ_stroke_35 {a0 s1 : Nat} {a1 a2 a3 a4 a5 s0 : Int} : zS 75 35 [zR a0, zI a1, zI a2, zI a3, zI a4, zI a5] [zI s0, zR s1] sh pp mm Q ↔ zS 75 36 [zR a0, zI a1, zI a2, zI a3, zI a4, zI a5] [zR a0, zI s0, zR s1] sh pp mm Q := s_go cQ_stroke_35 cQ_stroke_36 rfl rfl
theorem rQ_stroke_36 {a0 s0 s2 : Nat} {a1 a2 a3 a4 a5 s1 : Int} (hk : zKd sh s0 = 7) : zS 75 36 [zR a0, zI a1, zI a2, zI a3, zI a4, zI a5] [zR s0, zI s1, zR s2] sh pp mm Q ↔ zS 75 39 [zR a0, zI a1, zI a2, zI a3, zI a4, zI a5] [zR (pp s0 2), zI s1, zR s2] sh pp mm Q := s_go cQ_stroke_36 cQ_stroke_39 (if_pos hk) rfl
theorem rQ_stroke_39 {a0 s0 s2 : Nat} {a1 a2 a3 a4 a5 s1 : Int} : zS 75 39 [zR a0, zI a1, zI a2, zI a3, zI a4, zI a5] [zR s0, zI s1, zR s2] sh pp mm Q ↔ zS 75 40 [zR a0, zI a1, zI a2, zI a3, zI a4, zI a5] [zI a2, zR s0, zI s1, zR s2] sh pp mm Q := s_go cQ_stroke_39 cQ_stroke_40 rfl rfl
theorem rQ_stroke_40 {a0 s1 s3 : Nat} {a1 a2 a3 a4 a5 s0 s2 : Int} : zS 75 40 [zR a0, zI a1, zI a2, zI a3, zI a4, zI a5] [zI s0, zR s1, zI s2, zR s3] sh pp mm Q ↔ zS 75 42 [zR a0, zI a1, zI a2, zI a3, zI a4, zI a5] [zI a4, zI s0, zR s1, zI s2, zR s3] sh pp mm Q := s_go cQ_stroke_40 cQ_stroke_42 rfl rfl
theorem rQ_stroke_42 {a0 s2 s4 : Nat} {a1 a2 a3 a4 a5 s0 s1 s3 : Int} : zS 75 42 [zR a0, zI a1, zI a2, zI a3, zI a4, zI a5] [zI s0, zI s1, zR s2, zI s3, zR s4] sh pp mm Q ↔ zS 75 43 [zR a0, zI a1, zI a2, zI a3, zI a4, zI a5] [zI (zw32 (s1 + s0)), zR s2, zI s3, zR s4] sh pp mm Q := s_go cQ_stroke_42 cQ_stroke_43 rfl rfl
theorem rQ_stroke_43 {a0 s1 s3 : Nat} {a1 a2 a3 a4 a5 s0 s2 : Int} : zS 75 43 [zR a0, zI a1, zI a2, zI a3, zI a4, zI a5] [zI s0, zR s1, zI s2, zR s3] sh pp mm Q ↔ zS 75 44 [zR a0, zI a1, zI a2, zI a3, zI a4, zI a5] [zI 1, zI s0, zR s1, zI s2, zR s3] sh pp mm Q := s_go cQ_stroke_43 cQ_stroke_44 rfl rfl
theorem rQ_stroke_44 {a0 s2 s4 : Nat} {a1 a2 a3 a4 a5 s0 s1 s3 : Int} : zS 75 44 [zR a0, zI a1, zI a2, zI a3, zI a4, zI a5] [zI s0, zI s1, zR s2, zI s3, zR s4] sh pp mm Q ↔ zS 75 45 [zR a0, zI a1, zI a2, zI a3, zI a4, zI a5] [zI (zw32 (s1 + s0)), zR s2, zI s3, zR s4] sh pp mm Q := s_go cQ_stroke_44 cQ_stroke_45 rfl rfl
theorem rQ_stroke_45 {a0 s1 s3 : Nat} {a1 a2 a3 a4 a5 s0 s2 : Int} (hk : zKd sh s1 = 20 ∨ zKd sh s1 = 30) (h0 : 0 ≤ s0) (h1 : s0 < zLn sh s1) : zS 75 45 [zR a0, zI a1, zI a2, zI a3, zI a4, zI a5] [zI s0, zR s1, zI s2, zR s3] sh pp mm Q ↔ zS 75 46 [zR a0, zI a1, zI a2, zI a3, zI a4, zI a5] [zI (mm s1 s0), zI s2, zR s3] sh pp mm Q := s_go cQ_stroke_45 cQ_stroke_46 (if_pos ⟨hk, h0, h1⟩) rfl
theorem rQ_stroke_46 {a0 s2 : Nat} {a1 a2 a3 a4 a5 s0 s1 : Int} : zS 75 46 [zR a0, zI a1, zI a2, zI a3, zI a4, zI a5] [zI s0, zI s1, zR s2] sh pp mm Q ↔ zS 75 48 [zR a0, zI a1, zI a2, zI a3, zI a4, zU] [zI a5, zI s0, zI s1, zR s2] sh pp mm Q := s_go cQ_stroke_46 cQ_stroke_48 rfl rfl
theorem rQ_stroke_48 {a0 s3 : Nat} {a1 a2 a3 a4 s0 s1 s2 : Int} {u5 : zV} : zS 75 48 [zR a0, zI a1, zI a2, zI a3, zI a4, u5] [zI s0, zI s1, zI s2, zR s3] sh pp mm Q ↔ zS 260 0 [zI s1, zI s0] [] sh pp mm (fun v sh pp mm => zS 75 51 [zR a0, zI a1, zI a2, zI a3, zI a4, zU] (zPush v [zI s2, zR s3]) sh pp mm Q) := s_call cQ_stroke_48 cQ_stroke_51 rfl rfl
theorem rQ_stroke_51 {a0 s2 : Nat} {a1 a2 a3 a4 s0 s1 : Int} {u5 : zV} (hk : zKd sh s2 = 20) (h0 : 0 ≤ s1) (h1 : s1 < zLn sh s2) : zS 75 51 [zR a0, zI a1, zI a2, zI a3, zI a4, u5] [zI s0, zI s1, zR s2] sh pp mm Q ↔ zS 75 52 [zR a0, zI a1, zI a2, zI a3, zI a4, zU] [] sh pp (zupd mm s2 s1 s0) Q := s_go cQ_stroke_51 cQ_stroke_52 (if_pos ⟨hk, h0, h1, fun h => absurd h (by decide)⟩) rfl
theorem rQ_stroke_52 {a0 : Nat} {a1 a2 a3 a4 : Int} {u5 : zV} : zS 75 52 [zR a0, zI a1, zI a2, zI a3, zI a4, u5] [] sh pp mm Q ↔ zS 75 55 [zR a0, zI a1, zI a2, zI a3, zI (zw32 (a4 + 1)), zU] [] sh pp mm Q := s_go cQ_stroke_52 cQ_stroke_55 rfl rfl
theorem rQ_stroke_55 {a0 : Nat} {a1 a2 a3 a4 : Int} {u5 : zV} : zS 75 55 [zR a0, zI a1, zI a2, zI a3, zI a4, u5] [] sh pp mm Q ↔ zS 75 3 [zR a0, zI a1, zI a2, zI a3, zI a4, zU] [] sh pp mm Q := s_go cQ_stroke_55 cQ_stroke_3 rfl rfl
theorem rQ_stroke_58 {u0 u1 u2 u3 u4 u5 : zV} : zS 75 58 [u0, u1, u2, u3, u4, u5] [] sh pp mm Q ↔ Q zU sh pp mm := s_ret cQ_stroke_58 rfl
theorem cAQ_strokeOff : ∀ q ∈ zT76, zCode 76 q.1 = some q.2 := zAll (mid := 76) rfl (by decide +kernel)
theorem cAQ_strokeOff_0 : ∀ q ∈ zT76_0, zCode 76 q.1 = some q.2 := fun q h => cAQ_strokeOff q (List.mem_append_left _ h)
theorem cAQ_strokeOff_1 : ∀ q ∈ zT76_1, zCode 76 q.1 = some q.2 := fun q h => cAQ_strokeOff q (List.mem_append_right _ (List.mem_append_left _ h))
theorem cAQ_strokeOff_2 : ∀ q ∈ zT76_2, zCode 76 q.1 = some q.2 := fun q h => cAQ_strokeOff q (List.mem_append_right _ (List.mem_append_right _ h))
theorem cQ_strokeOff_0 : zCode 76 0 = some (.iload_n 2, 1, 0, 0, 0, 0, 31) := cAQ_strokeOff_0 _ (List.mem_of_getElem? (i := 0) rfl)
theorem cQ_strokeOff_1 : zCode 76 1 = some (.iload_n 3, 2, 0, 0, 0, 0, 31) := cAQ_strokeOff_0 _ (List.mem_of_getElem? (i := 1) rfl)
theorem cQ_strokeOff_2 : zCode 76 2 = some (.invokestatic 50, 5, 259, 2, 2, 15, 31) := cAQ_strokeOff_0 _ (List.mem_of_getElem? (i := 2) rfl)
theorem cQ_strokeOff_5 : zCode 76 5 = some (.istore 5, 7, 0, 0, 0, 0, 31) := cAQ_strokeOff_0 _ (List.mem_of_getElem? (i := 3) rfl)
theorem cQ_strokeOff_7 : zCode 76 7 = some (.iconst 0, 8, 0, 0, 0, 0, 63) := cAQ_strokeOff_0 _ (List.mem_of_getElem? (i := 4) rfl)
theorem cQ_strokeOff_8 : zCode 76 8 = some (.istore 6, 10, 0, 0, 0, 0, 63) := cAQ_strokeOff_0 _ (List.mem_of_getElem? (i := 5) rfl)
theorem cQ_strokeOff_10 : zCode 76 10 = some (.iconst 1, 11, 0, 0, 0, 0, 127) := cAQ_strokeOff_0 _ (List.mem_of_getElem? (i := 6) rfl)
theorem cQ_strokeOff_11 : zCode 76 11 = some (.istore 7, 13, 0, 0, 0, 0, 127) := cAQ_strokeOff_0 _ (List.mem_of_getElem? (i := 7) rfl)
theorem cQ_strokeOff_13 : zCode 76 13 = some (.iload 7, 15, 0, 0, 0, 0, 255) := cAQ_strokeOff_0 _ (List.mem_of_getElem? (i := 8) rfl)
theorem cQ_strokeOff_15 : zCode 76 15 = some (.iload 5, 17, 0, 0, 0, 0, 255) := cAQ_strokeOff_0 _ (List.mem_of_getElem? (i := 9) rfl)
theorem cQ_strokeOff_17 : zCode 76 17 = some (.if_icmp .gt 58, 20, 75, 0, 0, 0, 255) := cAQ_strokeOff_0 _ (List.mem_of_getElem? (i := 10) rfl)
theorem cQ_strokeOff_20 : zCode 76 20 = some (.iload_n 0, 21, 0, 0, 0, 0, 255) := cAQ_strokeOff_0 _ (List.mem_of_getElem? (i := 11) rfl)
theorem cQ_strokeOff_21 : zCode 76 21 = some (.iload 7, 23, 0, 0, 0, 0, 255) := cAQ_strokeOff_0 _ (List.mem_of_getElem? (i := 12) rfl)
theorem cQ_strokeOff_23 : zCode 76 23 = some (.iload_n 2, 24, 0, 0, 0, 0, 255) := cAQ_strokeOff_0 _ (List.mem_of_getElem? (i := 13) rfl)
theorem cQ_strokeOff_24 : zCode 76 24 = some (.imul, 25, 0, 0, 0, 0, 255) := cAQ_strokeOff_0 _ (List.mem_of_getElem? (i := 14) rfl)
theorem cQ_strokeOff_25 : zCode 76 25 = some (.iload 5, 27, 0, 0, 0, 0, 255) := cAQ_strokeOff_0 _ (List.mem_of_getElem? (i := 15) rfl)
theorem cQ_strokeOff_27 : zCode 76 27 = some (.idiv, 28, 0, 0, 0, 0, 255) := cAQ_strokeOff_1 _ (List.mem_of_getElem? (i := 0) rfl)
theorem cQ_strokeOff_28 : zCode 76 28 = some (.isub, 29, 0, 0, 0, 0, 255) := cAQ_strokeOff_1 _ (List.mem_of_getElem? (i := 1) rfl)
theorem cQ_strokeOff_29 : zCode 76 29 = some (.istore 8, 31, 0, 0, 0, 0, 255) := cAQ_strokeOff_1 _ (List.mem_of_getElem? (i := 2) rfl)
theorem cQ_strokeOff_31 : zCode 76 31 = some (.iload_n 1, 32, 0, 0, 0, 0, 511) := cAQ_strokeOff_1 _ (List.mem_of_getElem? (i := 3) rfl)
theorem cQ_strokeOff_32 : zCode 76 32 = some (.iload 7, 34, 0, 0, 0, 0, 511) := cAQ_strokeOff_1 _ (List.mem_of_getElem? (i := 4) rfl)
theorem cQ_strokeOff_34 : zCode 76 34 = some (.iload_n 3, 35, 0, 0, 0, 0, 511) := cAQ_strokeOff_1 _ (List.mem_of_getElem? (i := 5) rfl)
theorem cQ_strokeOff_35 : zCode 76 35 = some (.imul, 36, 0, 0, 0, 0, 511) := cAQ_strokeOff_1 _ (List.mem_of_getElem? (i := 6) rfl)
theorem cQ_strokeOff_36 : zCode 76 36 = some (.iload 5, 38, 0, 0, 0, 0, 511) := cAQ_strokeOff_1 _ (List.mem_of_getElem? (i := 7) rfl)
theorem cQ_strokeOff_38 : zCode 76 38 = some (.idiv, 39, 0, 0, 0, 0, 511) := cAQ_strokeOff_1 _ (List.mem_of_getElem? (i := 8) rfl)
theorem cQ_strokeOff_39 : zCode 76 39 = some (.iadd, 40, 0, 0, 0, 0, 511) := cAQ_strokeOff_1 _ (List.mem_of_getElem? (i := 9) rfl)
theorem cQ_strokeOff_40 : zCode 76 40 = some (.istore 9, 42, 0, 0, 0, 0, 511) := cAQ_strokeOff_1 _ (List.mem_of_getElem? (i := 10) rfl)
theorem cQ_strokeOff_42 : zCode 76 42 = some (.iload 6, 44, 0, 0, 0, 0, 1023) := cAQ_strokeOff_1 _ (List.mem_of_getElem? (i := 11) rfl)
theorem cQ_strokeOff_44 : zCode 76 44 = some (.iload 8, 46, 0, 0, 0, 0, 959) := cAQ_strokeOff_1 _ (List.mem_of_getElem? (i := 12) rfl)
theorem cQ_strokeOff_46 : zCode 76 46 = some (.iload 8, 48, 0, 0, 0, 0, 959) := cAQ_strokeOff_1 _ (List.mem_of_getElem? (i := 13) rfl)
theorem cQ_strokeOff_48 : zCode 76 48 = some (.imul, 49, 0, 0, 0, 0, 703) := cAQ_strokeOff_1 _ (List.mem_of_getElem? (i := 14) rfl)
theorem cQ_strokeOff_49 : zCode 76 49 = some (.iload 9, 51, 0, 0, 0, 0, 703) := cAQ_strokeOff_1 _ (List.mem_of_getElem? (i := 15) rfl)
theorem cQ_strokeOff_51 : zCode 76 51 = some (.iload 9, 53, 0, 0, 0, 0, 703) := cAQ_strokeOff_2 _ (List.mem_of_getElem? (i := 0) rfl)
theorem cQ_strokeOff_53 : zCode 76 53 = some (.imul, 54, 0, 0, 0, 0, 191) := cAQ_strokeOff_2 _ (List.mem_of_getElem? (i := 1) rfl)
theorem cQ_strokeOff_54 : zCode 76 54 = some (.iadd, 55, 0, 0, 0, 0, 191) := cAQ_strokeOff_2 _ (List.mem_of_getElem? (i := 2) rfl)
theorem cQ_strokeOff_55 : zCode 76 55 = some (.iload 4, 57, 0, 0, 0, 0, 191) := cAQ_strokeOff_2 _ (List.mem_of_getElem? (i := 3) rfl)
theorem cQ_strokeOff_57 : zCode 76 57 = some (.iload 4, 59, 0, 0, 0, 0, 191) := cAQ_strokeOff_2 _ (List.mem_of_getElem? (i := 4) rfl)
theorem cQ_strokeOff_59 : zCode 76 59 = some (.imul, 60, 0, 0, 0, 0, 191) := cAQ_strokeOff_2 _ (List.mem_of_getElem? (i := 5) rfl)
theorem cQ_strokeOff_60 : zCode 76 60 = some (.isub, 61, 0, 0, 0, 0, 191) := cAQ_strokeOff_2 _ (List.mem_of_getElem? (i := 6) rfl)
theorem cQ_strokeOff_61 : zCode 76 61 = some (.invokestatic 58, 64, 258, 1, 1, 15, 191) := cAQ_strokeOff_2 _ (List.mem_of_getElem? (i := 7) rfl)
theorem cQ_strokeOff_64 : zCode 76 64 = some (.invokestatic 50, 67, 259, 2, 2, 15, 191) := cAQ_strokeOff_2 _ (List.mem_of_getElem? (i := 8) rfl)
theorem cQ_strokeOff_67 : zCode 76 67 = some (.istore 6, 69, 0, 0, 0, 0, 191) := cAQ_strokeOff_2 _ (List.mem_of_getElem? (i := 9) rfl)
theorem cQ_strokeOff_69 : zCode 76 69 = some (.iinc 7 1, 72, 0, 0, 0, 0, 255) := cAQ_strokeOff_2 _ (List.mem_of_getElem? (i := 10) rfl)
theorem cQ_strokeOff_72 : zCode 76 72 = some (.goto (-59), 75, 13, 0, 0, 0, 255) := cAQ_strokeOff_2 _ (List.mem_of_getElem? (i := 11) rfl)
theorem cQ_strokeOff_75 : zCode 76 75 = some (.iload 6, 77, 0, 0, 0, 0, 64) := cAQ_strokeOff_2 _ (List.mem_of_getElem? (i := 12) rfl)
theorem cQ_strokeOff_77 : zCode 76 77 = some (.ireturn, 78, 0, 0, 0, 0, 0) := cAQ_strokeOff_2 _ (List.mem_of_getElem? (i := 13) rfl)
theorem rQ_strokeOff_0 {a0 a1 a2 a3 a4 : Int} {u5 u6 u7 u8 u9 : zV} : zS 76 0 [zI a0, zI a1, zI a2, zI a3, zI a4, u5, u6, u7, u8, u9] [] sh pp mm Q ↔ zS 76 1 [zI a0, zI a1, zI a2, zI a3, zI a4, zU, zU, zU, zU, zU] [zI a2] sh pp mm Q := s_go cQ_strokeOff_0 cQ_strokeOff_1 rfl rfl
theorem rQ_strokeOff_1 {a0 a1 a2 a3 a4 s0 : Int} {u5 u6 u7 u8 u9 : zV} : zS 76 1 [zI a0, zI a1, zI a2, zI a3, zI a4, u5, u6, u7, u8, u9] [zI s0] sh pp mm Q ↔ zS 76 2 [zI a0, zI a1, zI a2, zI a3, zI a4, zU, zU, zU, zU, zU] [zI a3, zI s0] sh pp mm Q := s_go cQ_strokeOff_1 cQ_strokeOff_2 rfl rfl
theorem rQ_strokeOff_2 {a0 a1 a2 a3 a4 s0 s1 : Int} {u5 u6 u7 u8 u9 : zV} : zS 76 2 [zI a0, zI a1, zI a2, zI a3, zI a4, u5, u6, u7, u8, u9] [zI s0, zI s1] sh pp mm Q ↔ zS 259 0 [zI s1, zI s0] [] sh pp mm (fun v sh pp mm => zS 76 5 [zI a0, zI a1, zI a2, zI a3, zI a4, zU, zU, zU, zU, zU] (zPush v []) sh pp mm Q) := s_call cQ_strokeOff_2 cQ_strokeOff_5 rfl rfl
theorem rQ_strokeOff_5 {a0 a1 a2 a3 a4 s0 : Int} {u5 u6 u7 u8 u9 : zV} : zS 76 5 [zI a0, zI a1, zI a2, zI a3, zI a4, u5, u6, u7, u8, u9] [zI s0] sh pp mm Q ↔ zS 76 7 [zI a0, zI a1, zI a2, zI a3, zI a4, zI s0, zU, zU, zU, zU] [] sh pp mm Q := s_go cQ_strokeOff_5 cQ_strokeOff_7 rfl rfl
theorem rQ_strokeOff_7 {a0 a1 a2 a3 a4 a5 : Int} {u6 u7 u8 u9 : zV} : zS 76 7 [zI a0, zI a1, zI a2, zI a3, zI a4, zI a5, u6, u7, u8, u9] [] sh pp mm Q ↔ zS 76 8 [zI a0, zI a1, zI a2, zI a3, zI a4, zI a5, zU, zU, zU, zU] [zI 0] sh pp mm Q := s_go cQ_strokeOff_7 cQ_strokeOff_8 rfl rfl
theorem rQ_strokeOff_8 {a0 a1 a2 a3 a4 a5 s0 : Int} {u6 u7 u8 u9 : zV} : zS 76 8 [zI a0, zI a1, zI a2, zI a3, zI a4, zI a5, u6, u7, u8, u9] [zI s0] sh pp mm Q ↔ zS 76 10 [zI a0, zI a1, zI a2, zI a3, zI a4, zI a5, zI s0, zU, zU, zU] [] sh pp mm Q := s_go cQ_strokeOff_8 cQ_strokeOff_10 rfl rfl
theorem rQ_strokeOff_10 {a0 a1 a2 a3 a4 a5 a6 : Int} {u7 u8 u9 : zV} : zS 76 10 [zI a0, zI a1, zI a2, zI a3, zI a4, zI a5, zI a6, u7, u8, u9] [] sh pp mm Q ↔ zS 76 11 [zI a0, zI a1, zI a2, zI a3, zI a4, zI a5, zI a6, zU, zU, zU] [zI 1] sh pp mm Q := s_go cQ_strokeOff_10 cQ_strokeOff_11 rfl rfl
theorem rQ_strokeOff_11 {a0 a1 a2 a3 a4 a5 a6 s0 : Int} {u7 u8 u9 : zV} : zS 76 11 [zI a0, zI a1, zI a2, zI a3, zI a4, zI a5, zI a6, u7, u8, u9] [zI s0] sh pp mm Q ↔ zS 76 13 [zI a0, zI a1, zI a2, zI a3, zI a4, zI a5, zI a6, zI s0, zU, zU] [] sh pp mm Q := s_go cQ_strokeOff_11 cQ_strokeOff_13 rfl rfl
theorem rQ_strokeOff_13 {a0 a1 a2 a3 a4 a5 a6 a7 : Int} {u8 u9 : zV} : zS 76 13 [zI a0, zI a1, zI a2, zI a3, zI a4, zI a5, zI a6, zI a7, u8, u9] [] sh pp mm Q ↔ zS 76 15 [zI a0, zI a1, zI a2, zI a3, zI a4, zI a5, zI a6, zI a7, zU, zU] [zI a7] sh pp mm Q := s_go cQ_strokeOff_13 cQ_strokeOff_15 rfl rfl
theorem rQ_strokeOff_15 {a0 a1 a2 a3 a4 a5 a6 a7 s0 : Int} {u8 u9 : zV} : zS 76 15 [zI a0, zI a1, zI a2, zI a3, zI a4, zI a5, zI a6, zI a7, u8, u9] [zI s0] sh pp mm Q ↔ zS 76 17 [zI a0, zI a1, zI a2, zI a3, zI a4, zI a5, zI a6, zI a7, zU, zU] [zI a5, zI s0] sh pp mm Q := s_go cQ_strokeOff_15 cQ_strokeOff_17 rfl rfl
theorem rQ_strokeOff_17 {a0 a1 a2 a3 a4 a5 a6 a7 s0 s1 : Int} {u8 u9 : zV} : zS 76 17 [zI a0, zI a1, zI a2, zI a3, zI a4, zI a5, zI a6, zI a7, u8, u9] [zI s0, zI s1] sh pp mm Q ↔ (s0 < s1 → zS 76 75 [zU, zU, zU, zU, zU, zU, zI a6, zU, zU, zU] [] sh pp mm Q) ∧ (¬ s0 < s1 → zS 76 20 [zI a0, zI a1, zI a2, zI a3, zI a4, zI a5, zI a6, zI a7, zU, zU] [] sh pp mm Q) := s_if cQ_strokeOff_17 cQ_strokeOff_75 cQ_strokeOff_20 rfl rfl rfl
theorem rQ_strokeOff_20 {a0 a1 a2 a3 a4 a5 a6 a7 : Int} {u8 u9 : zV} : zS 76 20 [zI a0, zI a1, zI a2, zI a3, zI a4, zI a5, zI a6, zI a7, u8, u9] [] sh pp mm Q ↔ zS 76 21 [zI a0, zI a1, zI a2, zI a3, zI a4, zI a5, zI a6, zI a7, zU, zU] [zI a0] sh pp mm Q := s_go cQ_strokeOff_20 cQ_strokeOff_21 rfl rfl
theorem rQ_strokeOff_21 {a0 a1 a2 a3 a4 a5 a6 a7 s0 : Int} {u8 u9 : zV} : zS 76 21 [zI a0, zI a1, zI a2, zI a3, zI a4, zI a5, zI a6, zI a7, u8, u9] [zI s0] sh pp mm Q ↔ zS 76 23 [zI a0, zI a1, zI a2, zI a3, zI a4, zI a5, zI a6, zI a7, zU, zU] [zI a7, zI s0] sh pp mm Q := s_go cQ_strokeOff_21 cQ_strokeOff_23 rfl rfl
theorem rQ_strokeOff_23 {a0 a1 a2 a3 a4 a5 a6 a7 s0 s1 : Int} {u8 u9 : zV} : zS 76 23 [zI a0, zI a1, zI a2, zI a3, zI a4, zI a5, zI a6, zI a7, u8, u9] [zI s0, zI s1] sh pp mm Q ↔ zS 76 24 [zI a0, zI a1, zI a2, zI a3, zI a4, zI a5, zI a6, zI a7, zU, zU] [zI a2, zI s0, zI s1] sh pp mm Q := s_go cQ_strokeOff_23 cQ_strokeOff_24 rfl rfl
theorem rQ_strokeOff_24 {a0 a1 a2 a3 a4 a5 a6 a7 s0 s1 s2 : Int} {u8 u9 : zV} : zS 76 24 [zI a0, zI a1, zI a2, zI a3, zI a4, zI a5, zI a6, zI a7, u8, u9] [zI s0, zI s1, zI s2] sh pp mm Q ↔ zS 76 25 [zI a0, zI a1, zI a2, zI a3, zI a4, zI a5, zI a6, zI a7, zU, zU] [zI (zw32 (s1 * s0)), zI s2] sh pp mm Q := s_go cQ_strokeOff_24 cQ_strokeOff_25 rfl rfl
theorem rQ_strokeOff_25 {a0 a1 a2 a3 a4 a5 a6 a7 s0 s1 : Int} {u8 u9 : zV} : zS 76 25 [zI a0, zI a1, zI a2, zI a3, zI a4, zI a5, zI a6, zI a7, u8, u9] [zI s0, zI s1] sh pp mm Q ↔ zS 76 27 [zI a0, zI a1, zI a2, zI a3, zI a4, zI a5, zI a6, zI a7, zU, zU] [zI a5, zI s0, zI s1] sh pp mm Q := s_go cQ_strokeOff_25 cQ_strokeOff_27 rfl rfl
theorem rQ_strokeOff_27 {a0 a1 a2 a3 a4 a5 a6 a7 s0 s1 s2 : Int} {u8 u9 : zV} (hz : s0 ≠ 0) : zS 76 27 [zI a0, zI a1, zI a2, zI a3, zI a4, zI a5, zI a6, zI a7, u8, u9] [zI s0, zI s1, zI s2] sh pp mm Q ↔ zS 76 28 [zI a0, zI a1, zI a2, zI a3, zI a4, zI a5, zI a6, zI a7, zU, zU] [zI (zw32 (s1.tdiv s0)), zI s2] sh pp mm Q := s_go cQ_strokeOff_27 cQ_strokeOff_28 (if_neg hz) rfl
theorem rQ_strokeOff_28 {a0 a1 a2 a3 a4 a5 a6 a7 s0 s1 : Int} {u8 u9 : zV} : zS 76 28 [zI a0, zI a1, zI a2, zI a3, zI a4, zI a5, zI a6, zI a7, u8, u9] [zI s0, zI s1] sh pp mm Q ↔ zS 76 29 [zI a0, zI a1, zI a2, zI a3, zI a4, zI a5, zI a6, zI a7, zU, zU] [zI (zw32 (s1 - s0))] sh pp mm Q := s_go cQ_strokeOff_28 cQ_strokeOff_29 rfl rfl
theorem rQ_strokeOff_29 {a0 a1 a2 a3 a4 a5 a6 a7 s0 : Int} {u8 u9 : zV} : zS 76 29 [zI a0, zI a1, zI a2, zI a3, zI a4, zI a5, zI a6, zI a7, u8, u9] [zI s0] sh pp mm Q ↔ zS 76 31 [zI a0, zI a1, zI a2, zI a3, zI a4, zI a5, zI a6, zI a7, zI s0, zU] [] sh pp mm Q := s_go cQ_strokeOff_29 cQ_strokeOff_31 rfl rfl
theorem rQ_strokeOff_31 {a0 a1 a2 a3 a4 a5 a6 a7 a8 : Int} {u9 : zV} : zS 76 31 [zI a0, zI a1, zI a2, zI a3, zI a4, zI a5, zI a6, zI a7, zI a8, u9] [] sh pp mm Q ↔ zS 76 32 [zI a0, zI a1, zI a2, zI a3, zI a4, zI a5, zI a6, zI a7, zI a8, zU] [zI a1] sh pp mm Q := s_go cQ_strokeOff_31 cQ_strokeOff_32 rfl rfl
theorem rQ_strokeOff_32 {a0 a1 a2 a3 a4 a5 a6 a7 a8 s0 : Int} {u9 : zV} : zS 76 32 [zI a0, zI a1, zI a2, zI a3, zI a4, zI a5, zI a6, zI a7, zI a8, u9] [zI s0] sh pp mm Q ↔ zS 76 34 [zI a0, zI a1, zI a2, zI a3, zI a4, zI a5, zI a6, zI a7, zI a8, zU] [zI a7, zI s0] sh pp mm Q := s_go cQ_strokeOff_32 cQ_strokeOff_34 rfl rfl
theorem rQ_strokeOff_34 {a0 a1 a2 a3 a4 a5 a6 a7 a8 s0 s1 : Int} {u9 : zV} : zS 76 34 [zI a0, zI a1, zI a2, zI a3, zI a4, zI a5, zI a6, zI a7, zI a8, u9] [zI s0, zI s1] sh pp mm Q ↔ zS 76 35 [zI a0, zI a1, zI a2, zI a3, zI a4, zI a5, zI a6, zI a7, zI a8, zU] [zI a3, zI s0, zI s1] sh pp mm Q := s_go cQ_strokeOff_34 cQ_strokeOff_35 rfl rfl
theorem rQ_strokeOff_35 {a0 a1 a2 a3 a4 a5 a6 a7 a8 s0 s1 s2 : Int} {u9 : zV} : zS 76 35 [zI a0, zI a1, zI a2, zI a3, zI a4, zI a5, zI a6, zI a7, zI a8, u9] [zI s0, zI s1, zI s2] sh pp mm Q ↔ zS 76 36 [zI a0, zI a1, zI a2, zI a3, zI a4, zI a5, zI a6, zI a7, zI a8, zU] [zI (zw32 (s1 * s0)), zI s2] sh pp mm Q := s_go cQ_strokeOff_35 cQ_strokeOff_36 rfl rfl
theorem rQ_strokeOff_36 {a0 a1 a2 a3 a4 a5 a6 a7 a8 s0 s1 : Int} {u9 : zV} : zS 76 36 [zI a0, zI a1, zI a2, zI a3, zI a4, zI a5, zI a6, zI a7, zI a8, u9] [zI s0, zI s1] sh pp mm Q ↔ zS 76 38 [zI a0, zI a1, zI a2, zI a3, zI a4, zI a5, zI a6, zI a7, zI a8, zU] [zI a5, zI s0, zI s1] sh pp mm Q := s_go cQ_strokeOff_36 cQ_strokeOff_38 rfl rfl
theorem rQ_strokeOff_38 {a0 a1 a2 a3 a4 a5 a6 a7 a8 s0 s1 s2 : Int} {u9 : zV} (hz : s0 ≠ 0) : zS 76 38 [zI a0, zI a1, zI a2, zI a3, zI a4, zI a5, zI a6, zI a7, zI a8, u9] [zI s0, zI s1, zI s2] sh pp mm Q ↔ zS 76 39 [zI a0, zI a1, zI a2, zI a3, zI a4, zI a5, zI a6, zI a7, zI a8, zU] [zI (zw32 (s1.tdiv s0)), zI s2] sh pp mm Q := s_go cQ_strokeOff_38 cQ_strokeOff_39 (if_neg hz) rfl
theorem rQ_strokeOff_39 {a0 a1 a2 a3 a4 a5 a6 a7 a8 s0 s1 : Int} {u9 : zV} : zS 76 39 [zI a0, zI a1, zI a2, zI a3, zI a4, zI a5, zI a6, zI a7, zI a8, u9] [zI s0, zI s1] sh pp mm Q ↔ zS 76 40 [zI a0, zI a1, zI a2, zI a3, zI a4, zI a5, zI a6, zI a7, zI a8, zU] [zI (zw32 (s1 + s0))] sh pp mm Q := s_go cQ_strokeOff_39 cQ_strokeOff_40 rfl rfl
theorem rQ_strokeOff_40 {a0 a1 a2 a3 a4 a5 a6 a7 a8 s0 : Int} {u9 : zV} : zS 76 40 [zI a0, zI a1, zI a2, zI a3, zI a4, zI a5, zI a6, zI a7, zI a8, u9] [zI s0] sh pp mm Q ↔ zS 76 42 [zI a0, zI a1, zI a2, zI a3, zI a4, zI a5, zI a6, zI a7, zI a8, zI s0] [] sh pp mm Q := s_go cQ_strokeOff_40 cQ_strokeOff_42 rfl rfl
theorem rQ_strokeOff_42 {a0 a1 a2 a3 a4 a5 a6 a7 a8 a9 : Int} : zS 76 42 [zI a0, zI a1, zI a2, zI a3, zI a4, zI a5, zI a6, zI a7, zI a8, zI a9] [] sh pp mm Q ↔ zS 76 44 [zI a0, zI a1, zI a2, zI a3, zI a4, zI a5, zU, zI a7, zI a8, zI a9] [zI a6] sh pp mm Q := s_go cQ_strokeOff_42 cQ_strokeOff_44 rfl rfl
theorem rQ_strokeOff_44 {a0 a1 a2 a3 a4 a5 a7 a8 a9 s0 : Int} {u6 : zV} : zS 76 44 [zI a0, zI a1, zI a2, zI a3, zI a4, zI a5, u6, zI a7, zI a8, zI a9] [zI s0] sh pp mm Q ↔ zS 76 46 [zI a0, zI a1, zI a2, zI a3, zI a4, zI a5, zU, zI a7, zI a8, zI a9] [zI a8, zI s0] sh pp mm Q := s_go cQ_strokeOff_44 cQ_strokeOff_46 rfl rfl
theorem rQ_strokeOff_46 {a0 a1 a2 a3 a4 a5 a7 a8 a9 s0 s1 : Int} {u6 : zV} : zS 76 46 [zI a0, zI a1, zI a2, zI a3, zI a4, zI a5, u6, zI a7, zI a8, zI a9] [zI s0, zI s1] sh pp mm Q ↔ zS 76 48 [zI a0, zI a1, zI a2, zI a3, zI a4, zI a5, zU, zI a7, zU, zI a9] [zI a8, zI s0, zI s1] sh pp mm Q := s_go cQ_strokeOff_46 cQ_strokeOff_48 rfl rfl
theorem rQ_strokeOff_48 {a0 a1 a2 a3 a4 a5 a7 a9 s0 s1 s2 : Int} {u6 u8 : zV} : zS 76 48 [zI a0, zI a1, zI a2, zI a3, zI a4, zI a5, u6, zI a7, u8, zI a9] [zI s0, zI s1, zI s2] sh pp mm Q ↔ zS 76 49 [zI a0, zI a1, zI a2, zI a3, zI a4, zI a5, zU, zI a7, zU, zI a9] [zI (zw32 (s1 * s0)), zI s2] sh pp mm Q := s_go cQ_strokeOff_48 cQ_strokeOff_49 rfl rfl
theorem rQ_strokeOff_49 {a0 a1 a2 a3 a4 a5 a7 a9 s0 s1 : Int} {u6 u8 : zV} : zS 76 49 [zI a0, zI a1, zI a2, zI a3, zI a4, zI a5, u6, zI a7, u8, zI a9] [zI s0, zI s1] sh pp mm Q ↔ zS 76 51 [zI a0, zI a1, zI a2, zI a3, zI a4, zI a5, zU, zI a7, zU, zI a9] [zI a9, zI s0, zI s1] sh pp mm Q := s_go cQ_strokeOff_49 cQ_strokeOff_51 rfl rfl
theorem rQ_strokeOff_51 {a0 a1 a2 a3 a4 a5 a7 a9 s0 s1 s2 : Int} {u6 u8 : zV} : zS 76 51 [zI a0, zI a1, zI a2, zI a3, zI a4, zI a5, u6, zI a7, u8, zI a9] [zI s0, zI s1, zI s2] sh pp mm Q ↔ zS 76 53 [zI a0, zI a1, zI a2, zI a3, zI a4, zI a5, zU, zI a7, zU, zU] [zI a9, zI s0, zI s1, zI s2] sh pp mm Q := s_go cQ_strokeOff_51 cQ_strokeOff_53 rfl rfl
theorem rQ_strokeOff_53 {a0 a1 a2 a3 a4 a5 a7 s0 s1 s2 s3 : Int} {u6 u8 u9 : zV} : zS 76 53 [zI a0, zI a1, zI a2, zI a3, zI a4, zI a5, u6, zI a7, u8, u9] [zI s0, zI s1, zI s2, zI s3] sh pp mm Q ↔ zS 76 54 [zI a0, zI a1, zI a2, zI a3, zI a4, zI a5, zU, zI a7, zU, zU] [zI (zw32 (s1 * s0)), zI s2, zI s3] sh pp mm Q := s_go cQ_strokeOff_53 cQ_strokeOff_54 rfl rfl
theorem rQ_strokeOff_54 {a0 a1 a2 a3 a4 a5 a7 s0 s1 s2 : Int} {u6 u8 u9 : zV} : zS 76 54 [zI a0, zI a1, zI a2, zI a3, zI a4, zI a5, u6, zI a7, u8, u9] [zI s0, zI s1, zI s2] sh pp mm Q ↔ zS 76 55 [zI a0, zI a1, zI a2, zI a3, zI a4, zI a5, zU, zI a7, zU, zU] [zI (zw32 (s1 + s0)), zI s2] sh pp mm Q := s_go cQ_strokeOff_54 cQ_strokeOff_55 rfl rfl
theorem rQ_strokeOff_55 {a0 a1 a2 a3 a4 a5 a7 s0 s1 : Int} {u6 u8 u9 : zV} : zS 76 55 [zI a0, zI a1, zI a2, zI a3, zI a4, zI a5, u6, zI a7, u8, u9] [zI s0, zI s1] sh pp mm Q ↔ zS 76 57 [zI a0, zI a1, zI a2, zI a3, zI a4, zI a5, zU, zI a7, zU, zU] [zI a4, zI s0, zI s1] sh pp mm Q := s_go cQ_strokeOff_55 cQ_strokeOff_57 rfl rfl
theorem rQ_strokeOff_57 {a0 a1 a2 a3 a4 a5 a7 s0 s1 s2 : Int} {u6 u8 u9 : zV} : zS 76 57 [zI a0, zI a1, zI a2, zI a3, zI a4, zI a5, u6, zI a7, u8, u9] [zI s0, zI s1, zI s2] sh pp mm Q ↔ zS 76 59 [zI a0, zI a1, zI a2, zI a3, zI a4, zI a5, zU, zI a7, zU, zU] [zI a4, zI s0, zI s1, zI s2] sh pp mm Q := s_go cQ_strokeOff_57 cQ_strokeOff_59 rfl rfl
theorem rQ_strokeOff_59 {a0 a1 a2 a3 a4 a5 a7 s0 s1 s2 s3 : Int} {u6 u8 u9 : zV} : zS 76 59 [zI a0, zI a1, zI a2, zI a3, zI a4, zI a5, u6, zI a7, u8, u9] [zI s0, zI s1, zI s2, zI s3] sh pp mm Q ↔ zS 76 60 [zI a0, zI a1, zI a2, zI a3, zI a4, zI a5, zU, zI a7, zU, zU] [zI (zw32 (s1 * s0)), zI s2, zI s3] sh pp mm Q := s_go cQ_strokeOff_59 cQ_strokeOff_60 rfl rfl
theorem rQ_strokeOff_60 {a0 a1 a2 a3 a4 a5 a7 s0 s1 s2 : Int} {u6 u8 u9 : zV} : zS 76 60 [zI a0, zI a1, zI a2, zI a3, zI a4, zI a5, u6, zI a7, u8, u9] [zI s0, zI s1, zI s2] sh pp mm Q ↔ zS 76 61 [zI a0, zI a1, zI a2, zI a3, zI a4, zI a5, zU, zI a7, zU, zU] [zI (zw32 (s1 - s0)), zI s2] sh pp mm Q := s_go cQ_strokeOff_60 cQ_strokeOff_61 rfl rfl
theorem rQ_strokeOff_61 {a0 a1 a2 a3 a4 a5 a7 s0 s1 : Int} {u6 u8 u9 : zV} : zS 76 61 [zI a0, zI a1, zI a2, zI a3, zI a4, zI a5, u6, zI a7, u8, u9] [zI s0, zI s1] sh pp mm Q ↔ zS 258 0 [zI s0] [] sh pp mm (fun v sh pp mm => zS 76 64 [zI a0, zI a1, zI a2, zI a3, zI a4, zI a5, zU, zI a7, zU, zU] (zPush v [zI s1]) sh pp mm Q) := s_call cQ_strokeOff_61 cQ_strokeOff_64 rfl rfl
theorem rQ_strokeOff_64 {a0 a1 a2 a3 a4 a5 a7 s0 s1 : Int} {u6 u8 u9 : zV} : zS 76 64 [zI a0, zI a1, zI a2, zI a3, zI a4, zI a5, u6, zI a7, u8, u9] [zI s0, zI s1] sh pp mm Q ↔ zS 259 0 [zI s1, zI s0] [] sh pp mm (fun v sh pp mm => zS 76 67 [zI a0, zI a1, zI a2, zI a3, zI a4, zI a5, zU, zI a7, zU, zU] (zPush v []) sh pp mm Q) := s_call cQ_strokeOff_64 cQ_strokeOff_67 rfl rfl
theorem rQ_strokeOff_67 {a0 a1 a2 a3 a4 a5 a7 s0 : Int} {u6 u8 u9 : zV} : zS 76 67 [zI a0, zI a1, zI a2, zI a3, zI a4, zI a5, u6, zI a7, u8, u9] [zI s0] sh pp mm Q ↔ zS 76 69 [zI a0, zI a1, zI a2, zI a3, zI a4, zI a5, zI s0, zI a7, zU, zU] [] sh pp mm Q := s_go cQ_strokeOff_67 cQ_strokeOff_69 rfl rfl
theorem rQ_strokeOff_69 {a0 a1 a2 a3 a4 a5 a6 a7 : Int} {u8 u9 : zV} : zS 76 69 [zI a0, zI a1, zI a2, zI a3, zI a4, zI a5, zI a6, zI a7, u8, u9] [] sh pp mm Q ↔ zS 76 72 [zI a0, zI a1, zI a2, zI a3, zI a4, zI a5, zI a6, zI (zw32 (a7 + 1)), zU, zU] [] sh pp mm Q := s_go cQ_strokeOff_69 cQ_strokeOff_72 rfl rfl
theorem rQ_strokeOff_72 {a0 a1 a2 a3 a4 a5 a6 a7 : Int} {u8 u9 : zV} : zS 76 72 [zI a0, zI a1, zI a2, zI a3, zI a4, zI a5, zI a6, zI a7, u8, u9] [] sh pp mm Q ↔ zS 76 13 [zI a0, zI a1, zI a2, zI a3, zI a4, zI a5, zI a6, zI a7, zU, zU] [] sh pp mm Q := s_go cQ_strokeOff_72 cQ_strokeOff_13 rfl rfl
theorem rQ_strokeOff_75 {a6 : Int} {u0 u1 u2 u3 u4 u5 u7 u8 u9 : zV} : zS 76 75 [u0, u1, u2, u3, u4, u5, zI a6, u7, u8, u9] [] sh pp mm Q ↔ zS 76 77 [zU, zU, zU, zU, zU, zU, zU, zU, zU, zU] [zI a6] sh pp mm Q := s_go cQ_strokeOff_75 cQ_strokeOff_77 rfl rfl
theorem rQ_strokeOff_77 {s0 : Int} {u0 u1 u2 u3 u4 u5 u6 u7 u8 u9 : zV} : zS 76 77 [u0, u1, u2, u3, u4, u5, u6, u7, u8, u9] [zI s0] sh pp mm Q ↔ Q (zI s0) sh pp mm := s_ret cQ_strokeOff_77 rfl
theorem cAS_init : ∀ q ∈ zT91, zCode 91 q.1 = some q.2 := zAll (mid := 91) rfl (by decide +kernel)
theorem cAS_init_0 : ∀ q ∈ zT91_0, zCode 91 q.1 = some q.2 := fun q h => cAS_init q (List.mem_append_left _ h)
theorem cAS_init_1 : ∀ q ∈ zT91_1, zCode 91 q.1 = some q.2 := fun q h => cAS_init q (List.mem_append_right _ (List.mem_append_left _ h))
theorem cAS_init_2 : ∀ q ∈ zT91_2, zCode 91 q.1 = some q.2 := fun q h => cAS_init q (List.mem_append_right _ (List.mem_append_right _ (List.mem_append_left _ h)))
theorem cAS_init_3 : ∀ q ∈ zT91_3, zCode 91 q.1 = some q.2 := fun q h => cAS_init q (List.mem_append_right _ (List.mem_append_right _ (List.mem_append_right _ (List.mem_append_left _ h))))
theorem cAS_init_4 : ∀ q ∈ zT91_4, zCode 91 q.1 = some q.2 := fun q h => cAS_init q (List.mem_append_right _ (List.mem_append_right _ (List.mem_append_right _ (List.mem_append_right _ h))))
theorem cS_init_0 : zCode 91 0 = some (.aload_n 0, 1, 0, 0, 0, 0, 1) := cAS_init_0 _ (List.mem_of_getElem? (i := 0) rfl)
theorem cS_init_1 : zCode 91 1 = some (.invokespecial 3, 4, 0, 78, 0, 129, 1) := cAS_init_0 _ (List.mem_of_getElem? (i := 1) rfl)
theorem cS_init_4 : zCode 91 4 = some (.aload_n 0, 5, 0, 0, 0, 0, 1) := cAS_init_0 _ (List.mem_of_getElem? (i := 2) rfl)
theorem cS_init_5 : zCode 91 5 = some (.bipush 9, 7, 0, 0, 0, 0, 1) := cAS_init_0 _ (List.mem_of_getElem? (i := 3) rfl)
theorem cS_init_7 : zCode 91 7 = some (.newarray .int, 9, 20, 0, 0, 0, 1) := cAS_init_0 _ (List.mem_of_getElem? (i := 4) rfl)
theorem cS_init_9 : zCode 91 9 = some (.putfield 9, 12, 9, 0, 2, 164, 1) := cAS_init_0 _ (List.mem_of_getElem? (i := 5) rfl)
theorem cS_init_12 : zCode 91 12 = some (.aload_n 0, 13, 0, 0, 0, 0, 1) := cAS_init_0 _ (List.mem_of_getElem? (i := 6) rfl)
theorem cS_init_13 : zCode 91 13 = some (.iconst 4, 14, 0, 0, 0, 0, 1) := cAS_init_0 _ (List.mem_of_getElem? (i := 7) rfl)
theorem cS_init_14 : zCode 91 14 = some (.anewarray 15, 17, 24, 0, 130, 0, 1) := cAS_init_0 _ (List.mem_of_getElem? (i := 8) rfl)
theorem cS_init_17 : zCode 91 17 = some (.putfield 17, 20, 9, 1, 2, 167, 1) := cAS_init_0 _ (List.mem_of_getElem? (i := 9) rfl)
theorem cS_init_20 : zCode 91 20 = some (.aload_n 0, 21, 0, 0, 0, 0, 1) := cAS_init_0 _ (List.mem_of_getElem? (i := 10) rfl)
theorem cS_init_21 : zCode 91 21 = some (.new 15, 24, 10, 4, 130, 0, 1) := cAS_init_0 _ (List.mem_of_getElem? (i := 11) rfl)
theorem cS_init_24 : zCode 91 24 = some (.dup, 25, 0, 0, 0, 0, 1) := cAS_init_0 _ (List.mem_of_getElem? (i := 12) rfl)
theorem cS_init_25 : zCode 91 25 = some (.bipush 12, 27, 0, 0, 0, 0, 1) := cAS_init_0 _ (List.mem_of_getElem? (i := 13) rfl)
theorem cS_init_27 : zCode 91 27 = some (.iconst 2, 28, 0, 0, 0, 0, 1) := cAS_init_0 _ (List.mem_of_getElem? (i := 14) rfl)
theorem cS_init_28 : zCode 91 28 = some (.invokespecial 21, 31, 95, 2, 3, 10, 1) := cAS_init_0 _ (List.mem_of_getElem? (i := 15) rfl)
theorem cS_init_31 : zCode 91 31 = some (.putfield 24, 34, 9, 2, 2, 169, 1) := cAS_init_1 _ (List.mem_of_getElem? (i := 0) rfl)
theorem cS_init_34 : zCode 91 34 = some (.aload_n 0, 35, 0, 0, 0, 0, 1) := cAS_init_1 _ (List.mem_of_getElem? (i := 1) rfl)
theorem cS_init_35 : zCode 91 35 = some (.new 15, 38, 10, 4, 130, 0, 1) := cAS_init_1 _ (List.mem_of_getElem? (i := 2) rfl)
theorem cS_init_38 : zCode 91 38 = some (.dup, 39, 0, 0, 0, 0, 1) := cAS_init_1 _ (List.mem_of_getElem? (i := 3) rfl)
theorem cS_init_39 : zCode 91 39 = some (.bipush 10, 41, 0, 0, 0, 0, 1) := cAS_init_1 _ (List.mem_of_getElem? (i := 4) rfl)
theorem cS_init_41 : zCode 91 41 = some (.iconst 2, 42, 0, 0, 0, 0, 1) := cAS_init_1 _ (List.mem_of_getElem? (i := 5) rfl)
theorem cS_init_42 : zCode 91 42 = some (.invokespecial 21, 45, 95, 2, 3, 10, 1) := cAS_init_1 _ (List.mem_of_getElem? (i := 6) rfl)
theorem cS_init_45 : zCode 91 45 = some (.putfield 28, 48, 9, 3, 2, 171, 1) := cAS_init_1 _ (List.mem_of_getElem? (i := 7) rfl)
theorem cS_init_48 : zCode 91 48 = some (.aload_n 0, 49, 0, 0, 0, 0, 1) := cAS_init_1 _ (List.mem_of_getElem? (i := 8) rfl)
theorem cS_init_49 : zCode 91 49 = some (.new 15, 52, 10, 4, 130, 0, 1) := cAS_init_1 _ (List.mem_of_getElem? (i := 9) rfl)
theorem cS_init_52 : zCode 91 52 = some (.dup, 53, 0, 0, 0, 0, 1) := cAS_init_1 _ (List.mem_of_getElem? (i := 10) rfl)
theorem cS_init_53 : zCode 91 53 = some (.bipush 12, 55, 0, 0, 0, 0, 1) := cAS_init_1 _ (List.mem_of_getElem? (i := 11) rfl)
theorem cS_init_55 : zCode 91 55 = some (.iconst 3, 56, 0, 0, 0, 0, 1) := cAS_init_1 _ (List.mem_of_getElem? (i := 12) rfl)
theorem cS_init_56 : zCode 91 56 = some (.invokespecial 21, 59, 95, 2, 3, 10, 1) := cAS_init_1 _ (List.mem_of_getElem? (i := 13) rfl)
theorem cS_init_59 : zCode 91 59 = some (.putfield 31, 62, 9, 4, 2, 174, 1) := cAS_init_1 _ (List.mem_of_getElem? (i := 14) rfl)
theorem cS_init_62 : zCode 91 62 = some (.aload_n 0, 63, 0, 0, 0, 0, 1) := cAS_init_1 _ (List.mem_of_getElem? (i := 15) rfl)
theorem cS_init_63 : zCode 91 63 = some (.new 15, 66, 10, 4, 130, 0, 1) := cAS_init_2 _ (List.mem_of_getElem? (i := 0) rfl)
theorem cS_init_66 : zCode 91 66 = some (.dup, 67, 0, 0, 0, 0, 1) := cAS_init_2 _ (List.mem_of_getElem? (i := 1) rfl)
theorem cS_init_67 : zCode 91 67 = some (.bipush 8, 69, 0, 0, 0, 0, 1) := cAS_init_2 _ (List.mem_of_getElem? (i := 2) rfl)
theorem cS_init_69 : zCode 91 69 = some (.iconst 3, 70, 0, 0, 0, 0, 1) := cAS_init_2 _ (List.mem_of_getElem? (i := 3) rfl)
theorem cS_init_70 : zCode 91 70 = some (.invokespecial 21, 73, 95, 2, 3, 10, 1) := cAS_init_2 _ (List.mem_of_getElem? (i := 4) rfl)
theorem cS_init_73 : zCode 91 73 = some (.putfield 34, 76, 9, 5, 2, 177, 1) := cAS_init_2 _ (List.mem_of_getElem? (i := 5) rfl)
theorem cS_init_76 : zCode 91 76 = some (.aload_n 0, 77, 0, 0, 0, 0, 1) := cAS_init_2 _ (List.mem_of_getElem? (i := 6) rfl)
theorem cS_init_77 : zCode 91 77 = some (.sipush 384, 80, 0, 0, 0, 0, 1) := cAS_init_2 _ (List.mem_of_getElem? (i := 7) rfl)
theorem cS_init_80 : zCode 91 80 = some (.newarray .int, 82, 20, 0, 0, 0, 1) := cAS_init_2 _ (List.mem_of_getElem? (i := 8) rfl)
theorem cS_init_82 : zCode 91 82 = some (.putfield 37, 85, 9, 6, 2, 179, 1) := cAS_init_2 _ (List.mem_of_getElem? (i := 9) rfl)
theorem cS_init_85 : zCode 91 85 = some (.aload_n 0, 86, 0, 0, 0, 0, 1) := cAS_init_2 _ (List.mem_of_getElem? (i := 10) rfl)
theorem cS_init_86 : zCode 91 86 = some (.iconst 0, 87, 0, 0, 0, 0, 1) := cAS_init_2 _ (List.mem_of_getElem? (i := 11) rfl)
theorem cS_init_87 : zCode 91 87 = some (.putfield 40, 90, 9, 7, 0, 181, 1) := cAS_init_2 _ (List.mem_of_getElem? (i := 12) rfl)
theorem cS_init_90 : zCode 91 90 = some (.getstatic 44, 93, 4, 156, 2, 1, 1) := cAS_init_2 _ (List.mem_of_getElem? (i := 13) rfl)
theorem cS_init_93 : zCode 91 93 = some (.iconst 0, 94, 0, 0, 0, 0, 1) := cAS_init_2 _ (List.mem_of_getElem? (i := 14) rfl)
theorem cS_init_94 : zCode 91 94 = some (.aload_n 0, 95, 0, 0, 0, 0, 1) := cAS_init_2 _ (List.mem_of_getElem? (i := 15) rfl)
theorem cS_init_95 : zCode 91 95 = some (.getfield 9, 98, 9, 0, 2, 164, 1) := cAS_init_3 _ (List.mem_of_getElem? (i := 0) rfl)
theorem cS_init_98 : zCode 91 98 = some (.iconst 0, 99, 0, 0, 0, 0, 1) := cAS_init_3 _ (List.mem_of_getElem? (i := 1) rfl)
theorem cS_init_99 : zCode 91 99 = some (.bipush 9, 101, 0, 0, 0, 0, 1) := cAS_init_3 _ (List.mem_of_getElem? (i := 2) rfl)
theorem cS_init_101 : zCode 91 101 = some (.invokestatic 47, 104, 0, 77, 0, 158, 1) := cAS_init_3 _ (List.mem_of_getElem? (i := 3) rfl)
theorem cS_init_104 : zCode 91 104 = some (.aload_n 0, 105, 0, 0, 0, 0, 1) := cAS_init_3 _ (List.mem_of_getElem? (i := 4) rfl)
theorem cS_init_105 : zCode 91 105 = some (.getfield 37, 108, 9, 6, 2, 179, 1) := cAS_init_3 _ (List.mem_of_getElem? (i := 5) rfl)
theorem cS_init_108 : zCode 91 108 = some (.iconst (-1), 109, 0, 0, 0, 0, 1) := cAS_init_3 _ (List.mem_of_getElem? (i := 6) rfl)
theorem cS_init_109 : zCode 91 109 = some (.invokestatic 53, 112, 271, 2, 4, 18, 1) := cAS_init_3 _ (List.mem_of_getElem? (i := 7) rfl)
theorem cS_init_112 : zCode 91 112 = some (.iconst 0, 113, 0, 0, 0, 0, 1) := cAS_init_3 _ (List.mem_of_getElem? (i := 8) rfl)
theorem cS_init_113 : zCode 91 113 = some (.istore_n 1, 114, 0, 0, 0, 0, 1) := cAS_init_3 _ (List.mem_of_getElem? (i := 9) rfl)
theorem cS_init_114 : zCode 91 114 = some (.iload_n 1, 115, 0, 0, 0, 0, 3) := cAS_init_3 _ (List.mem_of_getElem? (i := 10) rfl)
theorem cS_init_115 : zCode 91 115 = some (.iconst 4, 116, 0, 0, 0, 0, 3) := cAS_init_3 _ (List.mem_of_getElem? (i := 11) rfl)
theorem cS_init_116 : zCode 91 116 = some (.if_icmp .ge 25, 119, 141, 0, 0, 0, 3) := cAS_init_3 _ (List.mem_of_getElem? (i := 12) rfl)
theorem cS_init_119 : zCode 91 119 = some (.aload_n 0, 120, 0, 0, 0, 0, 3) := cAS_init_3 _ (List.mem_of_getElem? (i := 13) rfl)
theorem cS_init_120 : zCode 91 120 = some (.getfield 17, 123, 9, 1, 2, 167, 3) := cAS_init_3 _ (List.mem_of_getElem? (i := 14) rfl)
theorem cS_init_123 : zCode 91 123 = some (.iload_n 1, 124, 0, 0, 0, 0, 3) := cAS_init_3 _ (List.mem_of_getElem? (i := 15) rfl)
theorem cS_init_124 : zCode 91 124 = some (.new 15, 127, 10, 4, 130, 0, 3) := cAS_init_4 _ (List.mem_of_getElem? (i := 0) rfl)
theorem cS_init_127 : zCode 91 127 = some (.dup, 128, 0, 0, 0, 0, 3) := cAS_init_4 _ (List.mem_of_getElem? (i := 1) rfl)
theorem cS_init_128 : zCode 91 128 = some (.bipush 120, 130, 0, 0, 0, 0, 3) := cAS_init_4 _ (List.mem_of_getElem? (i := 2) rfl)
theorem cS_init_130 : zCode 91 130 = some (.iconst 1, 131, 0, 0, 0, 0, 3) := cAS_init_4 _ (List.mem_of_getElem? (i := 3) rfl)
theorem cS_init_131 : zCode 91 131 = some (.invokespecial 21, 134, 95, 2, 3, 10, 3) := cAS_init_4 _ (List.mem_of_getElem? (i := 4) rfl)
theorem cS_init_134 : zCode 91 134 = some (.aastore, 135, 0, 0, 0, 0, 3) := cAS_init_4 _ (List.mem_of_getElem? (i := 5) rfl)
theorem cS_init_135 : zCode 91 135 = some (.iinc 1 1, 138, 0, 0, 0, 0, 3) := cAS_init_4 _ (List.mem_of_getElem? (i := 6) rfl)
theorem cS_init_138 : zCode 91 138 = some (.goto (-24), 141, 114, 0, 0, 0, 3) := cAS_init_4 _ (List.mem_of_getElem? (i := 7) rfl)
theorem cS_init_141 : zCode 91 141 = some (.return_, 142, 0, 0, 0, 0, 0) := cAS_init_4 _ (List.mem_of_getElem? (i := 8) rfl)
theorem rS_init_0 {a0 : Nat} {u1 : zV} : zS 91 0 [zR a0, u1] [] sh pp mm Q ↔ zS 91 1 [zR a0, zU] [zR a0] sh pp mm Q := s_go cS_init_0 cS_init_1 rfl rfl
theorem rS_init_1 {a0 s0 : Nat} {u1 : zV} (hr : s0 ≠ 0) (hl : s0 < sh.length) : zS 91 1 [zR a0, u1] [zR s0] sh pp mm Q ↔ zS 91 4 [zR a0, zU] [] sh pp mm Q := s_go cS_init_1 cS_init_4 (if_pos ⟨hr, hl, by decide⟩) rfl
theorem rS_init_4 {a0 : Nat} {u1 : zV} : zS 91 4 [zR a0, u1] [] sh pp mm Q ↔ zS 91 5 [zR a0, zU] [zR a0] sh pp mm Q := s_go cS_init_4 cS_init_5 rfl rfl
theorem rS_init_5 {a0 s0 : Nat} {u1 : zV} : zS 91 5 [zR a0, u1] [zR s0] sh pp mm Q ↔ zS 91 7 [zR a0, zU] [zI 9, zR s0] sh pp mm Q := s_go cS_init_5 cS_init_7 rfl rfl
theorem rS_init_7 {a0 s1 : Nat} {s0 : Int} {u1 : zV} (h0 : 0 ≤ s0) (h1 : s0 ≤ 100000) : zS 91 7 [zR a0, u1] [zI s0, zR s1] sh pp mm Q ↔ zS 91 9 [zR a0, zU] [zR sh.length, zR s1] (sh ++ [(20, s0.toNat)]) (zclp pp sh.length) (zclr mm sh.length) Q := s_go cS_init_7 cS_init_9 (if_pos ⟨h0, h1⟩) rfl
theorem rS_init_9 {a0 s0 s1 : Nat} {u1 : zV} (hk : zKd sh s1 = 9) : zS 91 9 [zR a0, u1] [zR s0, zR s1] sh pp mm Q ↔ zS 91 12 [zR a0, zU] [] sh (zupp pp s1 0 s0) mm Q := s_go cS_init_9 cS_init_12 (if_pos ⟨hk, rfl⟩) rfl
theorem rS_init_12 {a0 : Nat} {u1 : zV} : zS 91 12 [zR a0, u1] [] sh pp mm Q ↔ zS 91 13 [zR a0, zU] [zR a0] sh pp mm Q := s_go cS_init_12 cS_init_13 rfl rfl
theorem rS_init_13 {a0 s0 : Nat} {u1 : zV} : zS 91 13 [zR a0, u1] [zR s0] sh pp mm Q ↔ zS 91 14 [zR a0, zU] [zI 4, zR s0] sh pp mm Q := s_go cS_init_13 cS_init_14 rfl rfl
theorem rS_init_14 {a0 s1 : Nat} {s0 : Int} {u1 : zV} (h0 : 0 ≤ s0) (h1 : s0 ≤ 100000) : zS 91 14 [zR a0, u1] [zI s0, zR s1] sh pp mm Q ↔ zS 91 17 [zR a0, zU] [zR sh.length, zR s1] (sh ++ [(24, s0.toNat)]) (zclp pp sh.length) (zclr mm sh.length) Q := s_go cS_init_14 cS_init_17 (if_pos ⟨h0, h1⟩) rfl
theorem rS_init_17 {a0 s0 s1 : Nat} {u1 : zV} (hk : zKd sh s1 = 9) : zS 91 17 [zR a0, u1] [zR s0, zR s1] sh pp mm Q ↔ zS 91 20 [zR a0, zU] [] sh (zupp pp s1 1 s0) mm Q := s_go cS_init_17 cS_init_20 (if_pos ⟨hk, rfl⟩) rfl
theorem rS_init_20 {a0 : Nat} {u1 : zV} : zS 91 20 [zR a0, u1] [] sh pp mm Q ↔ zS 91 21 [zR a0, zU] [zR a0] sh pp mm Q := s_go cS_init_20 cS_init_21 rfl rfl
theorem rS_init_21 {a0 s0 : Nat} {u1 : zV} : zS 91 21 [zR a0, u1] [zR s0] sh pp mm Q ↔ zS 91 24 [zR a0, zU] [zR sh.length, zR s0] (sh ++ [(10, 4)]) (zclp pp sh.length) (zclr mm sh.length) Q := s_go cS_init_21 cS_init_24 rfl rfl
theorem rS_init_24 {a0 s0 s1 : Nat} {u1 : zV} : zS 91 24 [zR a0, u1] [zR s0, zR s1] sh pp mm Q ↔ zS 91 25 [zR a0, zU] [zR s0, zR s0, zR s1] sh pp mm Q := s_go cS_init_24 cS_init_25 rfl rfl
theorem rS_init_25 {a0 s0 s1 s2 : Nat} {u1 : zV} : zS 91 25 [zR a0, u1] [zR s0, zR s1, zR s2] sh pp mm Q ↔ zS 91 27 [zR a0, zU] [zI 12, zR s0, zR s1, zR s2] sh pp mm Q := s_go cS_init_25 cS_init_27 rfl rfl
theorem rS_init_27 {a0 s1 s2 s3 : Nat} {s0 : Int} {u1 : zV} : zS 91 27 [zR a0, u1] [zI s0, zR s1, zR s2, zR s3] sh pp mm Q ↔ zS 91 28 [zR a0, zU] [zI 2, zI s0, zR s1, zR s2, zR s3] sh pp mm Q := s_go cS_init_27 cS_init_28 rfl rfl
theorem rS_init_28 {a0 s2 s3 s4 : Nat} {s0 s1 : Int} {u1 : zV} (hk : zKd sh s2 = 10) : zS 91 28 [zR a0, u1] [zI s0, zI s1, zR s2, zR s3, zR s4] sh pp mm Q ↔ zS 95 0 [zR s2, zI s1, zI s0] [] sh pp mm (fun v sh pp mm => zS 91 31 [zR a0, zU] (zPush v [zR s3, zR s4]) sh pp mm Q) := s_call cS_init_28 cS_init_31 ((if_pos hk).trans rfl) rfl
theorem rS_init_31 {a0 s0 s1 : Nat} {u1 : zV} (hk : zKd sh s1 = 9) : zS 91 31 [zR a0, u1] [zR s0, zR s1] sh pp mm Q ↔ zS 91 34 [zR a0, zU] [] sh (zupp pp s1 2 s0) mm Q := s_go cS_init_31 cS_init_34 (if_pos ⟨hk, rfl⟩) rfl
theorem rS_init_34 {a0 : Nat} {u1 : zV} : zS 91 34 [zR a0, u1] [] sh pp mm Q ↔ zS 91 35 [zR a0, zU] [zR a0] sh pp mm Q := s_go cS_init_34 cS_init_35 rfl rfl
theorem rS_init_35 {a0 s0 : Nat} {u1 : zV} : zS 91 35 [zR a0, u1] [zR s0] sh pp mm Q ↔ zS 91 38 [zR a0, zU] [zR sh.length, zR s0] (sh ++ [(10, 4)]) (zclp pp sh.length) (zclr mm sh.length) Q := s_go cS_init_35 cS_init_38 rfl rfl
theorem rS_init_38 {a0 s0 s1 : Nat} {u1 : zV} : zS 91 38 [zR a0, u1] [zR s0, zR s1] sh pp mm Q ↔ zS 91 39 [zR a0, zU] [zR s0, zR s0, zR s1] sh pp mm Q := s_go cS_init_38 cS_init_39 rfl rfl
theorem rS_init_39 {a0 s0 s1 s2 : Nat} {u1 : zV} : zS 91 39 [zR a0, u1] [zR s0, zR s1, zR s2] sh pp mm Q ↔ zS 91 41 [zR a0, zU] [zI 10, zR s0, zR s1, zR s2] sh pp mm Q := s_go cS_init_39 cS_init_41 rfl rfl
theorem rS_init_41 {a0 s1 s2 s3 : Nat} {s0 : Int} {u1 : zV} : zS 91 41 [zR a0, u1] [zI s0, zR s1, zR s2, zR s3] sh pp mm Q ↔ zS 91 42 [zR a0, zU] [zI 2, zI s0, zR s1, zR s2, zR s3] sh pp mm Q := s_go cS_init_41 cS_init_42 rfl rfl
theorem rS_init_42 {a0 s2 s3 s4 : Nat} {s0 s1 : Int} {u1 : zV} (hk : zKd sh s2 = 10) : zS 91 42 [zR a0, u1] [zI s0, zI s1, zR s2, zR s3, zR s4] sh pp mm Q ↔ zS 95 0 [zR s2, zI s1, zI s0] [] sh pp mm (fun v sh pp mm => zS 91 45 [zR a0, zU] (zPush v [zR s3, zR s4]) sh pp mm Q) := s_call cS_init_42 cS_init_45 ((if_pos hk).trans rfl) rfl
theorem rS_init_45 {a0 s0 s1 : Nat} {u1 : zV} (hk : zKd sh s1 = 9) : zS 91 45 [zR a0, u1] [zR s0, zR s1] sh pp mm Q ↔ zS 91 48 [zR a0, zU] [] sh (zupp pp s1 3 s0) mm Q := s_go cS_init_45 cS_init_48 (if_pos ⟨hk, rfl⟩) rfl
theorem rS_init_48 {a0 : Nat} {u1 : zV} : zS 91 48 [zR a0, u1] [] sh pp mm Q ↔ zS 91 49 [zR a0, zU] [zR a0] sh pp mm Q := s_go cS_init_48 cS_init_49 rfl rfl
theorem rS_init_49 {a0 s0 : Nat} {u1 : zV} : zS 91 49 [zR a0, u1] [zR s0] sh pp mm Q ↔ zS 91 52 [zR a0, zU] [zR sh.length, zR s0] (sh ++ [(10, 4)]) (zclp pp sh.length) (zclr mm sh.length) Q := s_go cS_init_49 cS_init_52 rfl rfl
theorem rS_init_52 {a0 s0 s1 : Nat} {u1 : zV} : zS 91 52 [zR a0, u1] [zR s0, zR s1] sh pp mm Q ↔ zS 91 53 [zR a0, zU] [zR s0, zR s0, zR s1] sh pp mm Q := s_go cS_init_52 cS_init_53 rfl rfl
theorem rS_init_53 {a0 s0 s1 s2 : Nat} {u1 : zV} : zS 91 53 [zR a0, u1] [zR s0, zR s1, zR s2] sh pp mm Q ↔ zS 91 55 [zR a0, zU] [zI 12, zR s0, zR s1, zR s2] sh pp mm Q := s_go cS_init_53 cS_init_55 rfl rfl
theorem rS_init_55 {a0 s1 s2 s3 : Nat} {s0 : Int} {u1 : zV} : zS 91 55 [zR a0, u1] [zI s0, zR s1, zR s2, zR s3] sh pp mm Q ↔ zS 91 56 [zR a0, zU] [zI 3, zI s0, zR s1, zR s2, zR s3] sh pp mm Q := s_go cS_init_55 cS_init_56 rfl rfl
theorem rS_init_56 {a0 s2 s3 s4 : Nat} {s0 s1 : Int} {u1 : zV} (hk : zKd sh s2 = 10) : zS 91 56 [zR a0, u1] [zI s0, zI s1, zR s2, zR s3, zR s4] sh pp mm Q ↔ zS 95 0 [zR s2, zI s1, zI s0] [] sh pp mm (fun v sh pp mm => zS 91 59 [zR a0, zU] (zPush v [zR s3, zR s4]) sh pp mm Q) := s_call cS_init_56 cS_init_59 ((if_pos hk).trans rfl) rfl
theorem rS_init_59 {a0 s0 s1 : Nat} {u1 : zV} (hk : zKd sh s1 = 9) : zS 91 59 [zR a0, u1] [zR s0, zR s1] sh pp mm Q ↔ zS 91 62 [zR a0, zU] [] sh (zupp pp s1 4 s0) mm Q := s_go cS_init_59 cS_init_62 (if_pos ⟨hk, rfl⟩) rfl
theorem rS_init_62 {a0 : Nat} {u1 : zV} : zS 91 62 [zR a0, u1] [] sh pp mm Q ↔ zS 91 63 [zR a0, zU] [zR a0] sh pp mm Q := s_go cS_init_62 cS_init_63 rfl rfl
theorem rS_init_63 {a0 s0 : Nat} {u1 : zV} : zS 91 63 [zR a0, u1] [zR s0] sh pp mm Q ↔ zS 91 66 [zR a0, zU] [zR sh.length, zR s0] (sh ++ [(10, 4)]) (zclp pp sh.length) (zclr mm sh.length) Q := s_go cS_init_63 cS_init_66 rfl rfl
theorem rS_init_66 {a0 s0 s1 : Nat} {u1 : zV} : zS 91 66 [zR a0, u1] [zR s0, zR s1] sh pp mm Q ↔ zS 91 67 [zR a0, zU] [zR s0, zR s0, zR s1] sh pp mm Q := s_go cS_init_66 cS_init_67 rfl rfl
theorem rS_init_67 {a0 s0 s1 s2 : Nat} {u1 : zV} : zS 91 67 [zR a0, u1] [zR s0, zR s1, zR s2] sh pp mm Q ↔ zS 91 69 [zR a0, zU] [zI 8, zR s0, zR s1, zR s2] sh pp mm Q := s_go cS_init_67 cS_init_69 rfl rfl
theorem rS_init_69 {a0 s1 s2 s3 : Nat} {s0 : Int} {u1 : zV} : zS 91 69 [zR a0, u1] [zI s0, zR s1, zR s2, zR s3] sh pp mm Q ↔ zS 91 70 [zR a0, zU] [zI 3, zI s0, zR s1, zR s2, zR s3] sh pp mm Q := s_go cS_init_69 cS_init_70 rfl rfl
theorem rS_init_70 {a0 s2 s3 s4 : Nat} {s0 s1 : Int} {u1 : zV} (hk : zKd sh s2 = 10) : zS 91 70 [zR a0, u1] [zI s0, zI s1, zR s2, zR s3, zR s4] sh pp mm Q ↔ zS 95 0 [zR s2, zI s1, zI s0] [] sh pp mm (fun v sh pp mm => zS 91 73 [zR a0, zU] (zPush v [zR s3, zR s4]) sh pp mm Q) := s_call cS_init_70 cS_init_73 ((if_pos hk).trans rfl) rfl
theorem rS_init_73 {a0 s0 s1 : Nat} {u1 : zV} (hk : zKd sh s1 = 9) : zS 91 73 [zR a0, u1] [zR s0, zR s1] sh pp mm Q ↔ zS 91 76 [zR a0, zU] [] sh (zupp pp s1 5 s0) mm Q := s_go cS_init_73 cS_init_76 (if_pos ⟨hk, rfl⟩) rfl
theorem rS_init_76 {a0 : Nat} {u1 : zV} : zS 91 76 [zR a0, u1] [] sh pp mm Q ↔ zS 91 77 [zR a0, zU] [zR a0] sh pp mm Q := s_go cS_init_76 cS_init_77 rfl rfl
theorem rS_init_77 {a0 s0 : Nat} {u1 : zV} : zS 91 77 [zR a0, u1] [zR s0] sh pp mm Q ↔ zS 91 80 [zR a0, zU] [zI 384, zR s0] sh pp mm Q := s_go cS_init_77 cS_init_80 rfl rfl
theorem rS_init_80 {a0 s1 : Nat} {s0 : Int} {u1 : zV} (h0 : 0 ≤ s0) (h1 : s0 ≤ 100000) : zS 91 80 [zR a0, u1] [zI s0, zR s1] sh pp mm Q ↔ zS 91 82 [zR a0, zU] [zR sh.length, zR s1] (sh ++ [(20, s0.toNat)]) (zclp pp sh.length) (zclr mm sh.length) Q := s_go cS_init_80 cS_init_82 (if_pos ⟨h0, h1⟩) rfl
theorem rS_init_82 {a0 s0 s1 : Nat} {u1 : zV} (hk : zKd sh s1 = 9) : zS 91 82 [zR a0, u1] [zR s0, zR s1] sh pp mm Q ↔ zS 91 85 [zR a0, zU] [] sh (zupp pp s1 6 s0) mm Q := s_go cS_init_82 cS_init_85 (if_pos ⟨hk, rfl⟩) rfl
theorem rS_init_85 {a0 : Nat} {u1 : zV} : zS 91 85 [zR a0, u1] [] sh pp mm Q ↔ zS 91 86 [zR a0, zU] [zR a0] sh pp mm Q := s_go cS_init_85 cS_init_86 rfl rfl
theorem rS_init_86 {a0 s0 : Nat} {u1 : zV} : zS 91 86 [zR a0, u1] [zR s0] sh pp mm Q ↔ zS 91 87 [zR a0, zU] [zI 0, zR s0] sh pp mm Q := s_go cS_init_86 cS_init_87 rfl rfl
theorem rS_init_87 {a0 s1 : Nat} {s0 : Int} {u1 : zV} (hk : zKd sh s1 = 9) : zS 91 87 [zR a0, u1] [zI s0, zR s1] sh pp mm Q ↔ zS 91 90 [zR a0, zU] [] sh pp (zupd mm s1 7 s0) Q := s_go cS_init_87 cS_init_90 (if_pos ⟨hk, Or.inl rfl⟩) rfl
theorem rS_init_90 {a0 : Nat} {u1 : zV} : zS 91 90 [zR a0, u1] [] sh pp mm Q ↔ zS 91 93 [zR a0, zU] [zR 4] sh pp mm Q := s_go cS_init_90 cS_init_93 rfl rfl
theorem rS_init_93 {a0 s0 : Nat} {u1 : zV} : zS 91 93 [zR a0, u1] [zR s0] sh pp mm Q ↔ zS 91 94 [zR a0, zU] [zI 0, zR s0] sh pp mm Q := s_go cS_init_93 cS_init_94 rfl rfl
theorem rS_init_94 {a0 s1 : Nat} {s0 : Int} {u1 : zV} : zS 91 94 [zR a0, u1] [zI s0, zR s1] sh pp mm Q ↔ zS 91 95 [zR a0, zU] [zR a0, zI s0, zR s1] sh pp mm Q := s_go cS_init_94 cS_init_95 rfl rfl
theorem rS_init_95 {a0 s0 s2 : Nat} {s1 : Int} {u1 : zV} (hk : zKd sh s0 = 9) : zS 91 95 [zR a0, u1] [zR s0, zI s1, zR s2] sh pp mm Q ↔ zS 91 98 [zR a0, zU] [zR (pp s0 0), zI s1, zR s2] sh pp mm Q := s_go cS_init_95 cS_init_98 (if_pos hk) rfl
theorem rS_init_98 {a0 s0 s2 : Nat} {s1 : Int} {u1 : zV} : zS 91 98 [zR a0, u1] [zR s0, zI s1, zR s2] sh pp mm Q ↔ zS 91 99 [zR a0, zU] [zI 0, zR s0, zI s1, zR s2] sh pp mm Q := s_go cS_init_98 cS_init_99 rfl rfl
theorem rS_init_99 {a0 s1 s3 : Nat} {s0 s2 : Int} {u1 : zV} : zS 91 99 [zR a0, u1] [zI s0, zR s1, zI s2, zR s3] sh pp mm Q ↔ zS 91 101 [zR a0, zU] [zI 9, zI s0, zR s1, zI s2, zR s3] sh pp mm Q := s_go cS_init_99 cS_init_101 rfl rfl
theorem rS_init_101 {a0 s2 s4 : Nat} {s0 s1 s3 : Int} {u1 : zV} (hs : zKd sh s4 = 20 ∨ zKd sh s4 = 30) (hd : zKd sh s2 = 20) (hn : s4 ≠ s2) (h0 : 0 ≤ s3) (h1 : 0 ≤ s1) (h2 : 0 ≤ s0) (h3 : s3 + s0 ≤ zLn sh s4) (h4 : s1 + s0 ≤ zLn sh s2) : zS 91 101 [zR a0, u1] [zI s0, zI s1, zR s2, zI s3, zR s4] sh pp mm Q ↔ zS 91 104 [zR a0, zU] [] sh pp (zcpy mm s4 s3 s2 s1 s0) Q := s_go cS_init_101 cS_init_104 (if_pos ⟨hs, hd, hn, h0, h1, h2, h3, h4, by decide⟩) rfl
theorem rS_init_104 {a0 : Nat} {u1 : zV} : zS 91 104 [zR a0, u1] [] sh pp mm Q ↔ zS 91 105 [zR a0, zU] [zR a0] sh pp mm Q := s_go cS_init_104 cS_init_105 rfl rfl
theorem rS_init_105 {a0 s0 : Nat} {u1 : zV} (hk : zKd sh s0 = 9) : zS 91 105 [zR a0, u1] [zR s0] sh pp mm Q ↔ zS 91 108 [zR a0, zU] [zR (pp s0 6)] sh pp mm Q := s_go cS_init_105 cS_init_108 (if_pos hk) rfl
theorem rS_init_108 {a0 s0 : Nat} {u1 : zV} : zS 91 108 [zR a0, u1] [zR s0] sh pp mm Q ↔ zS 91 109 [zR a0, zU] [zI (-1), zR s0] sh pp mm Q := s_go cS_init_108 cS_init_109 rfl rfl
theorem rS_init_109 {a0 s1 : Nat} {s0 : Int} {u1 : zV} : zS 91 109 [zR a0, u1] [zI s0, zR s1] sh pp mm Q ↔ zS 271 0 [zR s1, zI s0, zU, zU] [] sh pp mm (fun v sh pp mm => zS 91 112 [zR a0, zU] (zPush v []) sh pp mm Q) := s_call cS_init_109 cS_init_112 rfl rfl
theorem rS_init_112 {a0 : Nat} {u1 : zV} : zS 91 112 [zR a0, u1] [] sh pp mm Q ↔ zS 91 113 [zR a0, zU] [zI 0] sh pp mm Q := s_go cS_init_112 cS_init_113 rfl rfl
theorem rS_init_113 {a0 : Nat} {s0 : Int} {u1 : zV} : zS 91 113 [zR a0, u1] [zI s0] sh pp mm Q ↔ zS 91 114 [zR a0, zI s0] [] sh pp mm Q := s_go cS_init_113 cS_init_114 rfl rfl
theorem rS_init_114 {a0 : Nat} {a1 : Int} : zS 91 114 [zR a0, zI a1] [] sh pp mm Q ↔ zS 91 115 [zR a0, zI a1] [zI a1] sh pp mm Q := s_go cS_init_114 cS_init_115 rfl rfl
theorem rS_init_115 {a0 : Nat} {a1 s0 : Int} : zS 91 115 [zR a0, zI a1] [zI s0] sh pp mm Q ↔ zS 91 116 [zR a0, zI a1] [zI 4, zI s0] sh pp mm Q := s_go cS_init_115 cS_init_116 rfl rfl
theorem rS_init_116 {a0 : Nat} {a1 s0 s1 : Int} : zS 91 116 [zR a0, zI a1] [zI s0, zI s1] sh pp mm Q ↔ (s1 < s0 → zS 91 119 [zR a0, zI a1] [] sh pp mm Q) ∧ (¬ s1 < s0 → zS 91 141 [zU, zU] [] sh pp mm Q) := s_ifn cS_init_116 cS_init_119 cS_init_141 rfl rfl rfl
theorem rS_init_119 {a0 : Nat} {a1 : Int} : zS 91 119 [zR a0, zI a1] [] sh pp mm Q ↔ zS 91 120 [zR a0, zI a1] [zR a0] sh pp mm Q := s_go cS_init_119 cS_init_120 rfl rfl
theorem rS_init_120 {a0 s0 : Nat} {a1 : Int} (hk : zKd sh s0 = 9) : zS 91 120 [zR a0, zI a1] [zR s0] sh pp mm Q ↔ zS 91 123 [zR a0, zI a1] [zR (pp s0 1)] sh pp mm Q := s_go cS_init_120 cS_init_123 (if_pos hk) rfl
theorem rS_init_123 {a0 s0 : Nat} {a1 : Int} : zS 91 123 [zR a0, zI a1] [zR s0] sh pp mm Q ↔ zS 91 124 [zR a0, zI a1] [zI a1, zR s0] sh pp mm Q := s_go cS_init_123 cS_init_124 rfl rfl
theorem rS_init_124 {a0 s1 : Nat} {a1 s0 : Int} : zS 91 124 [zR a0, zI a1] [zI s0, zR s1] sh pp mm Q ↔ zS 91 127 [zR a0, zI a1] [zR sh.length, zI s0, zR s1] (sh ++ [(10, 4)]) (zclp pp sh.length) (zclr mm sh.length) Q := s_go cS_init_124 cS_init_127 rfl rfl
theorem rS_init_127 {a0 s0 s2 : Nat} {a1 s1 : Int} : zS 91 127 [zR a0, zI a1] [zR s0, zI s1, zR s2] sh pp mm Q ↔ zS 91 128 [zR a0, zI a1] [zR s0, zR s0, zI s1, zR s2] sh pp mm Q := s_go cS_init_127 cS_init_128 rfl rfl
theorem rS_init_128 {a0 s0 s1 s3 : Nat} {a1 s2 : Int} : zS 91 128 [zR a0, zI a1] [zR s0, zR s1, zI s2, zR s3] sh pp mm Q ↔ zS 91 130 [zR a0, zI a1] [zI 120, zR s0, zR s1, zI s2, zR s3] sh pp mm Q := s_go cS_init_128 cS_init_130 rfl rfl
theorem rS_init_130 {a0 s1 s2 s4 : Nat} {a1 s0 s3 : Int} : zS 91 130 [zR a0, zI a1] [zI s0, zR s1, zR s2, zI s3, zR s4] sh pp mm Q ↔ zS 91 131 [zR a0, zI a1] [zI 1, zI s0, zR s1, zR s2, zI s3, zR s4] sh pp mm Q := s_go cS_init_130 cS_init_131 rfl rfl
theorem rS_init_131 {a0 s2 s3 s5 : Nat} {a1 s0 s1 s4 : Int} (hk : zKd sh s2 = 10) : zS 91 131 [zR a0, zI a1] [zI s0, zI s1, zR s2, zR s3, zI s4, zR s5] sh pp mm Q ↔ zS 95 0 [zR s2, zI s1, zI s0] [] sh pp mm (fun v sh pp mm => zS 91 134 [zR a0, zI a1] (zPush v [zR s3, zI s4, zR s5]) sh pp mm Q) := s_call cS_init_131 cS_init_134 ((if_pos hk).trans rfl) rfl
theorem rS_init_134 {a0 s0 s2 : Nat} {a1 s1 : Int} (hk : (zKd sh s2 = 24 ∧ zKd sh s0 = 10) ∨ (zKd sh s2 = 25 ∧ zKd sh s0 = 9) ∨ (zKd sh s2 = 26 ∧ zKd sh s0 = 8) ∨ (zKd sh s2 = 27 ∧ zKd sh s0 = 1)) (h0 : 0 ≤ s1) (h1 : s1 < zLn sh s2) : zS 91 134 [zR a0, zI a1] [zR s0, zI s1, zR s2] sh pp mm Q ↔ zS 91 135 [zR a0, zI a1] [] sh (zupp pp s2 s1 s0) mm Q := s_go cS_init_134 cS_init_135 (if_pos ⟨(zEl_st hk).1, (zEl_st hk).2, h0, h1⟩) rfl
theorem rS_init_135 {a0 : Nat} {a1 : Int} : zS 91 135 [zR a0, zI a1] [] sh pp mm Q ↔ zS 91 138 [zR a0, zI (zw32 (a1 + 1))] [] sh pp mm Q := s_go cS_init_135 cS_init_138 rfl rfl
theorem rS_init_138 {a0 : Nat} {a1 : Int} : zS 91 138 [zR a0, zI a1] [] sh pp mm Q ↔ zS 91 114 [zR a0, zI a1] [] sh pp mm Q := s_go cS_init_138 cS_init_114 rfl rfl
theorem rS_init_141 {u0 u1 : zV} : zS 91 141 [u0, u1] [] sh pp mm Q ↔ Q zU sh pp mm := s_ret cS_init_141 rfl
theorem cAS_take : ∀ q ∈ zT92, zCode 92 q.1 = some q.2 := zAll (mid := 92) rfl (by decide +kernel)
theorem cAS_take_0 : ∀ q ∈ zT92_0, zCode 92 q.1 = some q.2 := fun q h => cAS_take q (List.mem_append_left _ h)
theorem cAS_take_1 : ∀ q ∈ zT92_1, zCode 92 q.1 = some q.2 := fun q h => cAS_take q (List.mem_append_right _ (List.mem_append_left _ h))
theorem cAS_take_2 : ∀ q ∈ zT92_2, zCode 92 q.1 = some q.2 := fun q h => cAS_take q (List.mem_append_right _ (List.mem_append_right _ (List.mem_append_left _ h)))
theorem cAS_take_3 : ∀ q ∈ zT92_3, zCode 92 q.1 = some q.2 := fun q h => cAS_take q (List.mem_append_right _ (List.mem_append_right _ (List.mem_append_right _ h)))
theorem cS_take_0 : zCode 92 0 = some (.aload_n 1, 1, 0, 0, 0, 0, 3) := cAS_take_0 _ (List.mem_of_getElem? (i := 0) rfl)
theorem cS_take_1 : zCode 92 1 = some (.getfield 9, 4, 9, 0, 2, 164, 3) := cAS_take_0 _ (List.mem_of_getElem? (i := 1) rfl)
theorem cS_take_4 : zCode 92 4 = some (.iconst 0, 5, 0, 0, 0, 0, 3) := cAS_take_0 _ (List.mem_of_getElem? (i := 2) rfl)
theorem cS_take_5 : zCode 92 5 = some (.aload_n 0, 6, 0, 0, 0, 0, 3) := cAS_take_0 _ (List.mem_of_getElem? (i := 3) rfl)
theorem cS_take_6 : zCode 92 6 = some (.getfield 9, 9, 9, 0, 2, 164, 3) := cAS_take_0 _ (List.mem_of_getElem? (i := 4) rfl)
theorem cS_take_9 : zCode 92 9 = some (.iconst 0, 10, 0, 0, 0, 0, 3) := cAS_take_0 _ (List.mem_of_getElem? (i := 5) rfl)
theorem cS_take_10 : zCode 92 10 = some (.bipush 9, 12, 0, 0, 0, 0, 3) := cAS_take_0 _ (List.mem_of_getElem? (i := 6) rfl)
theorem cS_take_12 : zCode 92 12 = some (.invokestatic 47, 15, 0, 77, 0, 158, 3) := cAS_take_0 _ (List.mem_of_getElem? (i := 7) rfl)
theorem cS_take_15 : zCode 92 15 = some (.iconst 0, 16, 0, 0, 0, 0, 3) := cAS_take_0 _ (List.mem_of_getElem? (i := 8) rfl)
theorem cS_take_16 : zCode 92 16 = some (.istore_n 2, 17, 0, 0, 0, 0, 3) := cAS_take_0 _ (List.mem_of_getElem? (i := 9) rfl)
theorem cS_take_17 : zCode 92 17 = some (.iload_n 2, 18, 0, 0, 0, 0, 7) := cAS_take_0 _ (List.mem_of_getElem? (i := 10) rfl)
theorem cS_take_18 : zCode 92 18 = some (.iconst 4, 19, 0, 0, 0, 0, 7) := cAS_take_0 _ (List.mem_of_getElem? (i := 11) rfl)
theorem cS_take_19 : zCode 92 19 = some (.if_icmp .ge 24, 22, 43, 0, 0, 0, 7) := cAS_take_0 _ (List.mem_of_getElem? (i := 12) rfl)
theorem cS_take_22 : zCode 92 22 = some (.aload_n 0, 23, 0, 0, 0, 0, 7) := cAS_take_0 _ (List.mem_of_getElem? (i := 13) rfl)
theorem cS_take_23 : zCode 92 23 = some (.getfield 17, 26, 9, 1, 2, 167, 7) := cAS_take_0 _ (List.mem_of_getElem? (i := 14) rfl)
theorem cS_take_26 : zCode 92 26 = some (.iload_n 2, 27, 0, 0, 0, 0, 7) := cAS_take_0 _ (List.mem_of_getElem? (i := 15) rfl)
theorem cS_take_27 : zCode 92 27 = some (.aaload, 28, 0, 0, 0, 0, 7) := cAS_take_1 _ (List.mem_of_getElem? (i := 0) rfl)
theorem cS_take_28 : zCode 92 28 = some (.aload_n 1, 29, 0, 0, 0, 0, 7) := cAS_take_1 _ (List.mem_of_getElem? (i := 1) rfl)
theorem cS_take_29 : zCode 92 29 = some (.getfield 17, 32, 9, 1, 2, 167, 7) := cAS_take_1 _ (List.mem_of_getElem? (i := 2) rfl)
theorem cS_take_32 : zCode 92 32 = some (.iload_n 2, 33, 0, 0, 0, 0, 7) := cAS_take_1 _ (List.mem_of_getElem? (i := 3) rfl)
theorem cS_take_33 : zCode 92 33 = some (.aaload, 34, 0, 0, 0, 0, 7) := cAS_take_1 _ (List.mem_of_getElem? (i := 4) rfl)
theorem cS_take_34 : zCode 92 34 = some (.invokevirtual 59, 37, 100, 1, 2, 10, 7) := cAS_take_1 _ (List.mem_of_getElem? (i := 5) rfl)
theorem cS_take_37 : zCode 92 37 = some (.iinc 2 1, 40, 0, 0, 0, 0, 7) := cAS_take_1 _ (List.mem_of_getElem? (i := 6) rfl)
theorem cS_take_40 : zCode 92 40 = some (.goto (-23), 43, 17, 0, 0, 0, 7) := cAS_take_1 _ (List.mem_of_getElem? (i := 7) rfl)
theorem cS_take_43 : zCode 92 43 = some (.aload_n 0, 44, 0, 0, 0, 0, 3) := cAS_take_1 _ (List.mem_of_getElem? (i := 8) rfl)
theorem cS_take_44 : zCode 92 44 = some (.getfield 24, 47, 9, 2, 2, 169, 3) := cAS_take_1 _ (List.mem_of_getElem? (i := 9) rfl)
theorem cS_take_47 : zCode 92 47 = some (.aload_n 1, 48, 0, 0, 0, 0, 3) := cAS_take_1 _ (List.mem_of_getElem? (i := 10) rfl)
theorem cS_take_48 : zCode 92 48 = some (.getfield 24, 51, 9, 2, 2, 169, 3) := cAS_take_1 _ (List.mem_of_getElem? (i := 11) rfl)
theorem cS_take_51 : zCode 92 51 = some (.invokevirtual 59, 54, 100, 1, 2, 10, 3) := cAS_take_1 _ (List.mem_of_getElem? (i := 12) rfl)
theorem cS_take_54 : zCode 92 54 = some (.aload_n 0, 55, 0, 0, 0, 0, 3) := cAS_take_1 _ (List.mem_of_getElem? (i := 13) rfl)
theorem cS_take_55 : zCode 92 55 = some (.getfield 28, 58, 9, 3, 2, 171, 3) := cAS_take_1 _ (List.mem_of_getElem? (i := 14) rfl)
theorem cS_take_58 : zCode 92 58 = some (.aload_n 1, 59, 0, 0, 0, 0, 3) := cAS_take_1 _ (List.mem_of_getElem? (i := 15) rfl)
theorem cS_take_59 : zCode 92 59 = some (.getfield 28, 62, 9, 3, 2, 171, 3) := cAS_take_2 _ (List.mem_of_getElem? (i := 0) rfl)
theorem cS_take_62 : zCode 92 62 = some (.invokevirtual 59, 65, 100, 1, 2, 10, 3) := cAS_take_2 _ (List.mem_of_getElem? (i := 1) rfl)
theorem cS_take_65 : zCode 92 65 = some (.aload_n 0, 66, 0, 0, 0, 0, 3) := cAS_take_2 _ (List.mem_of_getElem? (i := 2) rfl)
theorem cS_take_66 : zCode 92 66 = some (.getfield 31, 69, 9, 4, 2, 174, 3) := cAS_take_2 _ (List.mem_of_getElem? (i := 3) rfl)
theorem cS_take_69 : zCode 92 69 = some (.aload_n 1, 70, 0, 0, 0, 0, 3) := cAS_take_2 _ (List.mem_of_getElem? (i := 4) rfl)
theorem cS_take_70 : zCode 92 70 = some (.getfield 31, 73, 9, 4, 2, 174, 3) := cAS_take_2 _ (List.mem_of_getElem? (i := 5) rfl)
theorem cS_take_73 : zCode 92 73 = some (.invokevirtual 59, 76, 100, 1, 2, 10, 3) := cAS_take_2 _ (List.mem_of_getElem? (i := 6) rfl)
theorem cS_take_76 : zCode 92 76 = some (.aload_n 0, 77, 0, 0, 0, 0, 3) := cAS_take_2 _ (List.mem_of_getElem? (i := 7) rfl)
theorem cS_take_77 : zCode 92 77 = some (.getfield 34, 80, 9, 5, 2, 177, 3) := cAS_take_2 _ (List.mem_of_getElem? (i := 8) rfl)
theorem cS_take_80 : zCode 92 80 = some (.aload_n 1, 81, 0, 0, 0, 0, 3) := cAS_take_2 _ (List.mem_of_getElem? (i := 9) rfl)
theorem cS_take_81 : zCode 92 81 = some (.getfield 34, 84, 9, 5, 2, 177, 3) := cAS_take_2 _ (List.mem_of_getElem? (i := 10) rfl)
theorem cS_take_84 : zCode 92 84 = some (.invokevirtual 59, 87, 100, 1, 2, 10, 3) := cAS_take_2 _ (List.mem_of_getElem? (i := 11) rfl)
theorem cS_take_87 : zCode 92 87 = some (.aload_n 1, 88, 0, 0, 0, 0, 3) := cAS_take_2 _ (List.mem_of_getElem? (i := 12) rfl)
theorem cS_take_88 : zCode 92 88 = some (.getfield 37, 91, 9, 6, 2, 179, 3) := cAS_take_2 _ (List.mem_of_getElem? (i := 13) rfl)
theorem cS_take_91 : zCode 92 91 = some (.iconst 0, 92, 0, 0, 0, 0, 3) := cAS_take_2 _ (List.mem_of_getElem? (i := 14) rfl)
theorem cS_take_92 : zCode 92 92 = some (.aload_n 0, 93, 0, 0, 0, 0, 3) := cAS_take_2 _ (List.mem_of_getElem? (i := 15) rfl)
theorem cS_take_93 : zCode 92 93 = some (.getfield 37, 96, 9, 6, 2, 179, 3) := cAS_take_3 _ (List.mem_of_getElem? (i := 0) rfl)
theorem cS_take_96 : zCode 92 96 = some (.iconst 0, 97, 0, 0, 0, 0, 3) := cAS_take_3 _ (List.mem_of_getElem? (i := 1) rfl)
theorem cS_take_97 : zCode 92 97 = some (.sipush 384, 100, 0, 0, 0, 0, 3) := cAS_take_3 _ (List.mem_of_getElem? (i := 2) rfl)
theorem cS_take_100 : zCode 92 100 = some (.invokestatic 47, 103, 0, 77, 0, 158, 3) := cAS_take_3 _ (List.mem_of_getElem? (i := 3) rfl)
theorem cS_take_103 : zCode 92 103 = some (.aload_n 0, 104, 0, 0, 0, 0, 3) := cAS_take_3 _ (List.mem_of_getElem? (i := 4) rfl)
theorem cS_take_104 : zCode 92 104 = some (.aload_n 1, 105, 0, 0, 0, 0, 2) := cAS_take_3 _ (List.mem_of_getElem? (i := 5) rfl)
theorem cS_take_105 : zCode 92 105 = some (.getfield 40, 108, 9, 7, 0, 181, 0) := cAS_take_3 _ (List.mem_of_getElem? (i := 6) rfl)
theorem cS_take_108 : zCode 92 108 = some (.putfield 40, 111, 9, 7, 0, 181, 0) := cAS_take_3 _ (List.mem_of_getElem? (i := 7) rfl)
theorem cS_take_111 : zCode 92 111 = some (.return_, 112, 0, 0, 0, 0, 0) := cAS_take_3 _ (List.mem_of_getElem? (i := 8) rfl)
theorem rS_take_0 {a0 a1 : Nat} {u2 : zV} : zS 92 0 [zR a0, zR a1, u2] [] sh pp mm Q ↔ zS 92 1 [zR a0, zR a1, zU] [zR a1] sh pp mm Q := s_go cS_take_0 cS_take_1 rfl rfl
theorem rS_take_1 {a0 a1 s0 : Nat} {u2 : zV} (hk : zKd sh s0 = 9) : zS 92 1 [zR a0, zR a1, u2] [zR s0] sh pp mm Q ↔ zS 92 4 [zR a0, zR a1, zU] [zR (pp s0 0)] sh pp mm Q := s_go cS_take_1 cS_take_4 (if_pos hk) rfl
theorem rS_take_4 {a0 a1 s0 : Nat} {u2 : zV} : zS 92 4 [zR a0, zR a1, u2] [zR s0] sh pp mm Q ↔ zS 92 5 [zR a0, zR a1, zU] [zI 0, zR s0] sh pp mm Q := s_go cS_take_4 cS_take_5 rfl rfl
theorem rS_take_5 {a0 a1 s1 : Nat} {s0 : Int} {u2 : zV} : zS 92 5 [zR a0, zR a1, u2] [zI s0, zR s1] sh pp mm Q ↔ zS 92 6 [zR a0, zR a1, zU] [zR a0, zI s0, zR s1] sh pp mm Q := s_go cS_take_5 cS_take_6 rfl rfl
theorem rS_take_6 {a0 a1 s0 s2 : Nat} {s1 : Int} {u2 : zV} (hk : zKd sh s0 = 9) : zS 92 6 [zR a0, zR a1, u2] [zR s0, zI s1, zR s2] sh pp mm Q ↔ zS 92 9 [zR a0, zR a1, zU] [zR (pp s0 0), zI s1, zR s2] sh pp mm Q := s_go cS_take_6 cS_take_9 (if_pos hk) rfl
theorem rS_take_9 {a0 a1 s0 s2 : Nat} {s1 : Int} {u2 : zV} : zS 92 9 [zR a0, zR a1, u2] [zR s0, zI s1, zR s2] sh pp mm Q ↔ zS 92 10 [zR a0, zR a1, zU] [zI 0, zR s0, zI s1, zR s2] sh pp mm Q := s_go cS_take_9 cS_take_10 rfl rfl
theorem rS_take_10 {a0 a1 s1 s3 : Nat} {s0 s2 : Int} {u2 : zV} : zS 92 10 [zR a0, zR a1, u2] [zI s0, zR s1, zI s2, zR s3] sh pp mm Q ↔ zS 92 12 [zR a0, zR a1, zU] [zI 9, zI s0, zR s1, zI s2, zR s3] sh pp mm Q := s_go cS_take_10 cS_take_12 rfl rfl
theorem rS_take_12 {a0 a1 s2 s4 : Nat} {s0 s1 s3 : Int} {u2 : zV} (hs : zKd sh s4 = 20 ∨ zKd sh s4 = 30) (hd : zKd sh s2 = 20) (hn : s4 ≠ s2) (h0 : 0 ≤ s3) (h1 : 0 ≤ s1) (h2 : 0 ≤ s0) (h3 : s3 + s0 ≤ zLn sh s4) (h4 : s1 + s0 ≤ zLn sh s2) : zS 92 12 [zR a0, zR a1, u2] [zI s0, zI s1, zR s2, zI s3, zR s4] sh pp mm Q ↔ zS 92 15 [zR a0, zR a1, zU] [] sh pp (zcpy mm s4 s3 s2 s1 s0) Q := s_go cS_take_12 cS_take_15 (if_pos ⟨hs, hd, hn, h0, h1, h2, h3, h4, by decide⟩) rfl
theorem rS_take_15 {a0 a1 : Nat} {u2 : zV} : zS 92 15 [zR a0, zR a1, u2] [] sh pp mm Q ↔ zS 92 16 [zR a0, zR a1, zU] [zI 0] sh pp mm Q := s_go cS_take_15 cS_take_16 rfl rfl
theorem rS_take_16 {a0 a1 : Nat} {s0 : Int} {u2 : zV} : zS 92 16 [zR a0, zR a1, u2] [zI s0] sh pp mm Q ↔ zS 92 17 [zR a0, zR a1, zI s0] [] sh pp mm Q := s_go cS_take_16 cS_take_17 rfl rfl
theorem rS_take_17 {a0 a1 : Nat} {a2 : Int} : zS 92 17 [zR a0, zR a1, zI a2] [] sh pp mm Q ↔ zS 92 18 [zR a0, zR a1, zI a2] [zI a2] sh pp mm Q := s_go cS_take_17 cS_take_18 rfl rfl
theorem rS_take_18 {a0 a1 : Nat} {a2 s0 : Int} : zS 92 18 [zR a0, zR a1, zI a2] [zI s0] sh pp mm Q ↔ zS 92 19 [zR a0, zR a1, zI a2] [zI 4, zI s0] sh pp mm Q := s_go cS_take_18 cS_take_19 rfl rfl
theorem rS_take_19 {a0 a1 : Nat} {a2 s0 s1 : Int} : zS 92 19 [zR a0, zR a1, zI a2] [zI s0, zI s1] sh pp mm Q ↔ (s1 < s0 → zS 92 22 [zR a0, zR a1, zI a2] [] sh pp mm Q) ∧ (¬ s1 < s0 → zS 92 43 [zR a0, zR a1, zU] [] sh pp mm Q) := s_ifn cS_take_19 cS_take_22 cS_take_43 rfl rfl rfl
theorem rS_take_22 {a0 a1 : Nat} {a2 : Int} : zS 92 22 [zR a0, zR a1, zI a2] [] sh pp mm Q ↔ zS 92 23 [zR a0, zR a1, zI a2] [zR a0] sh pp mm Q := s_go cS_take_22 cS_take_23 rfl rfl
theorem rS_take_23 {a0 a1 s0 : Nat} {a2 : Int} (hk : zKd sh s0 = 9) : zS 92 23 [zR a0, zR a1, zI a2] [zR s0] sh pp mm Q ↔ zS 92 26 [zR a0, zR a1, zI a2] [zR (pp s0 1)] sh pp mm Q := s_go cS_take_23 cS_take_26 (if_pos hk) rfl
theorem rS_take_26 {a0 a1 s0 : Nat} {a2 : Int} : zS 92 26 [zR a0, zR a1, zI a2] [zR s0] sh pp mm Q ↔ zS 92 27 [zR a0, zR a1, zI a2] [zI a2, zR s0] sh pp mm Q := s_go cS_take_26 cS_take_27 rfl rfl
theorem rS_take_27 {a0 a1 s1 : Nat} {a2 s0 : Int} (hk : 24 ≤ zKd sh s1) (hl : zKd sh s1 ≤ 27) (h0 : 0 ≤ s0) (h1 : s0 < zLn sh s1) : zS 92 27 [zR a0, zR a1, zI a2] [zI s0, zR s1] sh pp mm Q ↔ zS 92 28 [zR a0, zR a1, zI a2] [zR (pp s1 s0)] sh pp mm Q := s_go cS_take_27 cS_take_28 (if_pos ⟨zEl_ok hk hl, h0, h1⟩) rfl
theorem rS_take_28 {a0 a1 s0 : Nat} {a2 : Int} : zS 92 28 [zR a0, zR a1, zI a2] [zR s0] sh pp mm Q ↔ zS 92 29 [zR a0, zR a1, zI a2] [zR a1, zR s0] sh pp mm Q := s_go cS_take_28 cS_take_29 rfl rfl
theorem rS_take_29 {a0 a1 s0 s1 : Nat} {a2 : Int} (hk : zKd sh s0 = 9) : zS 92 29 [zR a0, zR a1, zI a2] [zR s0, zR s1] sh pp mm Q ↔ zS 92 32 [zR a0, zR a1, zI a2] [zR (pp s0 1), zR s1] sh pp mm Q := s_go cS_take_29 cS_take_32 (if_pos hk) rfl
theorem rS_take_32 {a0 a1 s0 s1 : Nat} {a2 : Int} : zS 92 32 [zR a0, zR a1, zI a2] [zR s0, zR s1] sh pp mm Q ↔ zS 92 33 [zR a0, zR a1, zI a2] [zI a2, zR s0, zR s1] sh pp mm Q := s_go cS_take_32 cS_take_33 rfl rfl
theorem rS_take_33 {a0 a1 s1 s2 : Nat} {a2 s0 : Int} (hk : 24 ≤ zKd sh s1) (hl : zKd sh s1 ≤ 27) (h0 : 0 ≤ s0) (h1 : s0 < zLn sh s1) : zS 92 33 [zR a0, zR a1, zI a2] [zI s0, zR s1, zR s2] sh pp mm Q ↔ zS 92 34 [zR a0, zR a1, zI a2] [zR (pp s1 s0), zR s2] sh pp mm Q := s_go cS_take_33 cS_take_34 (if_pos ⟨zEl_ok hk hl, h0, h1⟩) rfl
theorem rS_take_34 {a0 a1 s0 s1 : Nat} {a2 : Int} (hk : zKd sh s1 = 10) : zS 92 34 [zR a0, zR a1, zI a2] [zR s0, zR s1] sh pp mm Q ↔ zS 100 0 [zR s1, zR s0] [] sh pp mm (fun v sh pp mm => zS 92 37 [zR a0, zR a1, zI a2] (zPush v []) sh pp mm Q) := s_call cS_take_34 cS_take_37 ((if_pos hk).trans rfl) rfl
theorem rS_take_37 {a0 a1 : Nat} {a2 : Int} : zS 92 37 [zR a0, zR a1, zI a2] [] sh pp mm Q ↔ zS 92 40 [zR a0, zR a1, zI (zw32 (a2 + 1))] [] sh pp mm Q := s_go cS_take_37 cS_take_40 rfl rfl
theorem rS_take_40 {a0 a1 : Nat} {a2 : Int} : zS 92 40 [zR a0, zR a1, zI a2] [] sh pp mm Q ↔ zS 92 17 [zR a0, zR a1, zI a2] [] sh pp mm Q := s_go cS_take_40 cS_take_17 rfl rfl
theorem rS_take_43 {a0 a1 : Nat} {u2 : zV} : zS 92 43 [zR a0, zR a1, u2] [] sh pp mm Q ↔ zS 92 44 [zR a0, zR a1, zU] [zR a0] sh pp mm Q := s_go cS_take_43 cS_take_44 rfl rfl
theorem rS_take_44 {a0 a1 s0 : Nat} {u2 : zV} (hk : zKd sh s0 = 9) : zS 92 44 [zR a0, zR a1, u2] [zR s0] sh pp mm Q ↔ zS 92 47 [zR a0, zR a1, zU] [zR (pp s0 2)] sh pp mm Q := s_go cS_take_44 cS_take_47 (if_pos hk) rfl
theorem rS_take_47 {a0 a1 s0 : Nat} {u2 : zV} : zS 92 47 [zR a0, zR a1, u2] [zR s0] sh pp mm Q ↔ zS 92 48 [zR a0, zR a1, zU] [zR a1, zR s0] sh pp mm Q := s_go cS_take_47 cS_take_48 rfl rfl
theorem rS_take_48 {a0 a1 s0 s1 : Nat} {u2 : zV} (hk : zKd sh s0 = 9) : zS 92 48 [zR a0, zR a1, u2] [zR s0, zR s1] sh pp mm Q ↔ zS 92 51 [zR a0, zR a1, zU] [zR (pp s0 2), zR s1] sh pp mm Q := s_go cS_take_48 cS_take_51 (if_pos hk) rfl
theorem rS_take_51 {a0 a1 s0 s1 : Nat} {u2 : zV} (hk : zKd sh s1 = 10) : zS 92 51 [zR a0, zR a1, u2] [zR s0, zR s1] sh pp mm Q ↔ zS 100 0 [zR s1, zR s0] [] sh pp mm (fun v sh pp mm => zS 92 54 [zR a0, zR a1, zU] (zPush v []) sh pp mm Q) := s_call cS_take_51 cS_take_54 ((if_pos hk).trans rfl) rfl
theorem rS_take_54 {a0 a1 : Nat} {u2 : zV} : zS 92 54 [zR a0, zR a1, u2] [] sh pp mm Q ↔ zS 92 55 [zR a0, zR a1, zU] [zR a0] sh pp mm Q := s_go cS_take_54 cS_take_55 rfl rfl
theorem rS_take_55 {a0 a1 s0 : Nat} {u2 : zV} (hk : zKd sh s0 = 9) : zS 92 55 [zR a0, zR a1, u2] [zR s0] sh pp mm Q ↔ zS 92 58 [zR a0, zR a1, zU] [zR (pp s0 3)] sh pp mm Q := s_go cS_take_55 cS_take_58 (if_pos hk) rfl
theorem rS_take_58 {a0 a1 s0 : Nat} {u2 : zV} : zS 92 58 [zR a0, zR a1, u2] [zR s0] sh pp mm Q ↔ zS 92 59 [zR a0, zR a1, zU] [zR a1, zR s0] sh pp mm Q := s_go cS_take_58 cS_take_59 rfl rfl
theorem rS_take_59 {a0 a1 s0 s1 : Nat} {u2 : zV} (hk : zKd sh s0 = 9) : zS 92 59 [zR a0, zR a1, u2] [zR s0, zR s1] sh pp mm Q ↔ zS 92 62 [zR a0, zR a1, zU] [zR (pp s0 3), zR s1] sh pp mm Q := s_go cS_take_59 cS_take_62 (if_pos hk) rfl
theorem rS_take_62 {a0 a1 s0 s1 : Nat} {u2 : zV} (hk : zKd sh s1 = 10) : zS 92 62 [zR a0, zR a1, u2] [zR s0, zR s1] sh pp mm Q ↔ zS 100 0 [zR s1, zR s0] [] sh pp mm (fun v sh pp mm => zS 92 65 [zR a0, zR a1, zU] (zPush v []) sh pp mm Q) := s_call cS_take_62 cS_take_65 ((if_pos hk).trans rfl) rfl
theorem rS_take_65 {a0 a1 : Nat} {u2 : zV} : zS 92 65 [zR a0, zR a1, u2] [] sh pp mm Q ↔ zS 92 66 [zR a0, zR a1, zU] [zR a0] sh pp mm Q := s_go cS_take_65 cS_take_66 rfl rfl
theorem rS_take_66 {a0 a1 s0 : Nat} {u2 : zV} (hk : zKd sh s0 = 9) : zS 92 66 [zR a0, zR a1, u2] [zR s0] sh pp mm Q ↔ zS 92 69 [zR a0, zR a1, zU] [zR (pp s0 4)] sh pp mm Q := s_go cS_take_66 cS_take_69 (if_pos hk) rfl
theorem rS_take_69 {a0 a1 s0 : Nat} {u2 : zV} : zS 92 69 [zR a0, zR a1, u2] [zR s0] sh pp mm Q ↔ zS 92 70 [zR a0, zR a1, zU] [zR a1, zR s0] sh pp mm Q := s_go cS_take_69 cS_take_70 rfl rfl
theorem rS_take_70 {a0 a1 s0 s1 : Nat} {u2 : zV} (hk : zKd sh s0 = 9) : zS 92 70 [zR a0, zR a1, u2] [zR s0, zR s1] sh pp mm Q ↔ zS 92 73 [zR a0, zR a1, zU] [zR (pp s0 4), zR s1] sh pp mm Q := s_go cS_take_70 cS_take_73 (if_pos hk) rfl
theorem rS_take_73 {a0 a1 s0 s1 : Nat} {u2 : zV} (hk : zKd sh s1 = 10) : zS 92 73 [zR a0, zR a1, u2] [zR s0, zR s1] sh pp mm Q ↔ zS 100 0 [zR s1, zR s0] [] sh pp mm (fun v sh pp mm => zS 92 76 [zR a0, zR a1, zU] (zPush v []) sh pp mm Q) := s_call cS_take_73 cS_take_76 ((if_pos hk).trans rfl) rfl
theorem rS_take_76 {a0 a1 : Nat} {u2 : zV} : zS 92 76 [zR a0, zR a1, u2] [] sh pp mm Q ↔ zS 92 77 [zR a0, zR a1, zU] [zR a0] sh pp mm Q := s_go cS_take_76 cS_take_77 rfl rfl
theorem rS_take_77 {a0 a1 s0 : Nat} {u2 : zV} (hk : zKd sh s0 = 9) : zS 92 77 [zR a0, zR a1, u2] [zR s0] sh pp mm Q ↔ zS 92 80 [zR a0, zR a1, zU] [zR (pp s0 5)] sh pp mm Q := s_go cS_take_77 cS_take_80 (if_pos hk) rfl
theorem rS_take_80 {a0 a1 s0 : Nat} {u2 : zV} : zS 92 80 [zR a0, zR a1, u2] [zR s0] sh pp mm Q ↔ zS 92 81 [zR a0, zR a1, zU] [zR a1, zR s0] sh pp mm Q := s_go cS_take_80 cS_take_81 rfl rfl
theorem rS_take_81 {a0 a1 s0 s1 : Nat} {u2 : zV} (hk : zKd sh s0 = 9) : zS 92 81 [zR a0, zR a1, u2] [zR s0, zR s1] sh pp mm Q ↔ zS 92 84 [zR a0, zR a1, zU] [zR (pp s0 5), zR s1] sh pp mm Q := s_go cS_take_81 cS_take_84 (if_pos hk) rfl
theorem rS_take_84 {a0 a1 s0 s1 : Nat} {u2 : zV} (hk : zKd sh s1 = 10) : zS 92 84 [zR a0, zR a1, u2] [zR s0, zR s1] sh pp mm Q ↔ zS 100 0 [zR s1, zR s0] [] sh pp mm (fun v sh pp mm => zS 92 87 [zR a0, zR a1, zU] (zPush v []) sh pp mm Q) := s_call cS_take_84 cS_take_87 ((if_pos hk).trans rfl) rfl
theorem rS_take_87 {a0 a1 : Nat} {u2 : zV} : zS 92 87 [zR a0, zR a1, u2] [] sh pp mm Q ↔ zS 92 88 [zR a0, zR a1, zU] [zR a1] sh pp mm Q := s_go cS_take_87 cS_take_88 rfl rfl
theorem rS_take_88 {a0 a1 s0 : Nat} {u2 : zV} (hk : zKd sh s0 = 9) : zS 92 88 [zR a0, zR a1, u2] [zR s0] sh pp mm Q ↔ zS 92 91 [zR a0, zR a1, zU] [zR (pp s0 6)] sh pp mm Q := s_go cS_take_88 cS_take_91 (if_pos hk) rfl
theorem rS_take_91 {a0 a1 s0 : Nat} {u2 : zV} : zS 92 91 [zR a0, zR a1, u2] [zR s0] sh pp mm Q ↔ zS 92 92 [zR a0, zR a1, zU] [zI 0, zR s0] sh pp mm Q := s_go cS_take_91 cS_take_92 rfl rfl
theorem rS_take_92 {a0 a1 s1 : Nat} {s0 : Int} {u2 : zV} : zS 92 92 [zR a0, zR a1, u2] [zI s0, zR s1] sh pp mm Q ↔ zS 92 93 [zR a0, zR a1, zU] [zR a0, zI s0, zR s1] sh pp mm Q := s_go cS_take_92 cS_take_93 rfl rfl
theorem rS_take_93 {a0 a1 s0 s2 : Nat} {s1 : Int} {u2 : zV} (hk : zKd sh s0 = 9) : zS 92 93 [zR a0, zR a1, u2] [zR s0, zI s1, zR s2] sh pp mm Q ↔ zS 92 96 [zR a0, zR a1, zU] [zR (pp s0 6), zI s1, zR s2] sh pp mm Q := s_go cS_take_93 cS_take_96 (if_pos hk) rfl
theorem rS_take_96 {a0 a1 s0 s2 : Nat} {s1 : Int} {u2 : zV} : zS 92 96 [zR a0, zR a1, u2] [zR s0, zI s1, zR s2] sh pp mm Q ↔ zS 92 97 [zR a0, zR a1, zU] [zI 0, zR s0, zI s1, zR s2] sh pp mm Q := s_go cS_take_96 cS_take_97 rfl rfl
theorem rS_take_97 {a0 a1 s1 s3 : Nat} {s0 s2 : Int} {u2 : zV} : zS 92 97 [zR a0, zR a1, u2] [zI s0, zR s1, zI s2, zR s3] sh pp mm Q ↔ zS 92 100 [zR a0, zR a1, zU] [zI 384, zI s0, zR s1, zI s2, zR s3] sh pp mm Q := s_go cS_take_97 cS_take_100 rfl rfl
theorem rS_take_100 {a0 a1 s2 s4 : Nat} {s0 s1 s3 : Int} {u2 : zV} (hs : zKd sh s4 = 20 ∨ zKd sh s4 = 30) (hd : zKd sh s2 = 20) (hn : s4 ≠ s2) (h0 : 0 ≤ s3) (h1 : 0 ≤ s1) (h2 : 0 ≤ s0) (h3 : s3 + s0 ≤ zLn sh s4) (h4 : s1 + s0 ≤ zLn sh s2) : zS 92 100 [zR a0, zR a1, u2] [zI s0, zI s1, zR s2, zI s3, zR s4] sh pp mm Q ↔ zS 92 103 [zR a0, zR a1, zU] [] sh pp (zcpy mm s4 s3 s2 s1 s0) Q := s_go cS_take_100 cS_take_103 (if_pos ⟨hs, hd, hn, h0, h1, h2, h3, h4, by decide⟩) rfl
theorem rS_take_103 {a0 a1 : Nat} {u2 : zV} : zS 92 103 [zR a0, zR a1, u2] [] sh pp mm Q ↔ zS 92 104 [zU, zR a1, zU] [zR a0] sh pp mm Q := s_go cS_take_103 cS_take_104 rfl rfl
theorem rS_take_104 {a1 s0 : Nat} {u0 u2 : zV} : zS 92 104 [u0, zR a1, u2] [zR s0] sh pp mm Q ↔ zS 92 105 [zU, zU, zU] [zR a1, zR s0] sh pp mm Q := s_go cS_take_104 cS_take_105 rfl rfl
theorem rS_take_105 {s0 s1 : Nat} {u0 u1 u2 : zV} (hk : zKd sh s0 = 9) : zS 92 105 [u0, u1, u2] [zR s0, zR s1] sh pp mm Q ↔ zS 92 108 [zU, zU, zU] [zI (mm s0 7), zR s1] sh pp mm Q := s_go cS_take_105 cS_take_108 (if_pos hk) rfl
theorem rS_take_108 {s1 : Nat} {s0 : Int} {u0 u1 u2 : zV} (hk : zKd sh s1 = 9) : zS 92 108 [u0, u1, u2] [zI s0, zR s1] sh pp mm Q ↔ zS 92 111 [zU, zU, zU] [] sh pp (zupd mm s1 7 s0) Q := s_go cS_take_108 cS_take_111 (if_pos ⟨hk, Or.inl rfl⟩) rfl
theorem rS_take_111 {u0 u1 u2 : zV} : zS 92 111 [u0, u1, u2] [] sh pp mm Q ↔ Q zU sh pp mm := s_ret cS_take_111 rfl
theorem cAS_howMany : ∀ q ∈ zT93, zCode 93 q.1 = some q.2 := zAll (mid := 93) rfl (by decide +kernel)
theorem cAS_howMany_0 : ∀ q ∈ zT93_0, zCode 93 q.1 = some q.2 := fun q h => cAS_howMany q (List.mem_append_left _ h)
theorem cAS_howMany_1 : ∀ q ∈ zT93_1, zCode 93 q.1 = some q.2 := fun q h => cAS_howMany q (List.mem_append_right _ (List.mem_append_left _ h))
theorem cAS_howMany_2 : ∀ q ∈ zT93_2, zCode 93 q.1 = some q.2 := fun q h => cAS_howMany q (List.mem_append_right _ (List.mem_append_right _ h))
theorem cS_howMany_0 : zCode 93 0 = some (.iload_n 1, 1, 0, 0, 0, 0, 3) := cAS_howMany_0 _ (List.mem_of_getElem? (i := 0) rfl)
theorem cS_howMany_1 : zCode 93 1 = some (.tableswitch 72 0 4 #[35, 43, 51, 59, 67], 36, 0, 0, 0, 0, 3) := cAS_howMany_0 _ (List.mem_of_getElem? (i := 1) rfl)
theorem cS_howMany_36 : zCode 93 36 = some (.aload_n 0, 37, 0, 0, 0, 0, 1) := cAS_howMany_0 _ (List.mem_of_getElem? (i := 2) rfl)
theorem cS_howMany_37 : zCode 93 37 = some (.getfield 24, 40, 9, 2, 2, 169, 0) := cAS_howMany_0 _ (List.mem_of_getElem? (i := 3) rfl)
theorem cS_howMany_40 : zCode 93 40 = some (.getfield 63, 43, 10, 3, 0, 144, 0) := cAS_howMany_0 _ (List.mem_of_getElem? (i := 4) rfl)
theorem cS_howMany_43 : zCode 93 43 = some (.ireturn, 44, 0, 0, 0, 0, 0) := cAS_howMany_0 _ (List.mem_of_getElem? (i := 5) rfl)
theorem cS_howMany_44 : zCode 93 44 = some (.aload_n 0, 45, 0, 0, 0, 0, 1) := cAS_howMany_0 _ (List.mem_of_getElem? (i := 6) rfl)
theorem cS_howMany_45 : zCode 93 45 = some (.getfield 28, 48, 9, 3, 2, 171, 0) := cAS_howMany_0 _ (List.mem_of_getElem? (i := 7) rfl)
theorem cS_howMany_48 : zCode 93 48 = some (.getfield 63, 51, 10, 3, 0, 144, 0) := cAS_howMany_0 _ (List.mem_of_getElem? (i := 8) rfl)
theorem cS_howMany_51 : zCode 93 51 = some (.ireturn, 52, 0, 0, 0, 0, 0) := cAS_howMany_0 _ (List.mem_of_getElem? (i := 9) rfl)
theorem cS_howMany_52 : zCode 93 52 = some (.aload_n 0, 53, 0, 0, 0, 0, 1) := cAS_howMany_0 _ (List.mem_of_getElem? (i := 10) rfl)
theorem cS_howMany_53 : zCode 93 53 = some (.getfield 31, 56, 9, 4, 2, 174, 0) := cAS_howMany_0 _ (List.mem_of_getElem? (i := 11) rfl)
theorem cS_howMany_56 : zCode 93 56 = some (.getfield 63, 59, 10, 3, 0, 144, 0) := cAS_howMany_0 _ (List.mem_of_getElem? (i := 12) rfl)
theorem cS_howMany_59 : zCode 93 59 = some (.ireturn, 60, 0, 0, 0, 0, 0) := cAS_howMany_0 _ (List.mem_of_getElem? (i := 13) rfl)
theorem cS_howMany_60 : zCode 93 60 = some (.aload_n 0, 61, 0, 0, 0, 0, 1) := cAS_howMany_0 _ (List.mem_of_getElem? (i := 14) rfl)
theorem cS_howMany_61 : zCode 93 61 = some (.getfield 34, 64, 9, 5, 2, 177, 0) := cAS_howMany_0 _ (List.mem_of_getElem? (i := 15) rfl)
theorem cS_howMany_64 : zCode 93 64 = some (.getfield 63, 67, 10, 3, 0, 144, 0) := cAS_howMany_1 _ (List.mem_of_getElem? (i := 0) rfl)
theorem cS_howMany_67 : zCode 93 67 = some (.ireturn, 68, 0, 0, 0, 0, 0) := cAS_howMany_1 _ (List.mem_of_getElem? (i := 1) rfl)
theorem cS_howMany_68 : zCode 93 68 = some (.aload_n 0, 69, 0, 0, 0, 0, 1) := cAS_howMany_1 _ (List.mem_of_getElem? (i := 2) rfl)
theorem cS_howMany_69 : zCode 93 69 = some (.getfield 40, 72, 9, 7, 0, 181, 0) := cAS_howMany_1 _ (List.mem_of_getElem? (i := 3) rfl)
theorem cS_howMany_72 : zCode 93 72 = some (.ireturn, 73, 0, 0, 0, 0, 0) := cAS_howMany_1 _ (List.mem_of_getElem? (i := 4) rfl)
theorem cS_howMany_73 : zCode 93 73 = some (.iload_n 1, 74, 0, 0, 0, 0, 3) := cAS_howMany_1 _ (List.mem_of_getElem? (i := 5) rfl)
theorem cS_howMany_74 : zCode 93 74 = some (.iconst 5, 75, 0, 0, 0, 0, 3) := cAS_howMany_1 _ (List.mem_of_getElem? (i := 6) rfl)
theorem cS_howMany_75 : zCode 93 75 = some (.isub, 76, 0, 0, 0, 0, 3) := cAS_howMany_1 _ (List.mem_of_getElem? (i := 7) rfl)
theorem cS_howMany_76 : zCode 93 76 = some (.invokestatic 66, 79, 140, 1, 1, 11, 3) := cAS_howMany_1 _ (List.mem_of_getElem? (i := 8) rfl)
theorem cS_howMany_79 : zCode 93 79 = some (.ifCond .eq 17, 82, 96, 0, 0, 0, 3) := cAS_howMany_1 _ (List.mem_of_getElem? (i := 9) rfl)
theorem cS_howMany_82 : zCode 93 82 = some (.aload_n 0, 83, 0, 0, 0, 0, 3) := cAS_howMany_1 _ (List.mem_of_getElem? (i := 10) rfl)
theorem cS_howMany_83 : zCode 93 83 = some (.getfield 17, 86, 9, 1, 2, 167, 2) := cAS_howMany_1 _ (List.mem_of_getElem? (i := 11) rfl)
theorem cS_howMany_86 : zCode 93 86 = some (.iload_n 1, 87, 0, 0, 0, 0, 2) := cAS_howMany_1 _ (List.mem_of_getElem? (i := 12) rfl)
theorem cS_howMany_87 : zCode 93 87 = some (.iconst 5, 88, 0, 0, 0, 0, 0) := cAS_howMany_1 _ (List.mem_of_getElem? (i := 13) rfl)
theorem cS_howMany_88 : zCode 93 88 = some (.isub, 89, 0, 0, 0, 0, 0) := cAS_howMany_1 _ (List.mem_of_getElem? (i := 14) rfl)
theorem cS_howMany_89 : zCode 93 89 = some (.aaload, 90, 0, 0, 0, 0, 0) := cAS_howMany_1 _ (List.mem_of_getElem? (i := 15) rfl)
theorem cS_howMany_90 : zCode 93 90 = some (.getfield 63, 93, 10, 3, 0, 144, 0) := cAS_howMany_2 _ (List.mem_of_getElem? (i := 0) rfl)
theorem cS_howMany_93 : zCode 93 93 = some (.goto 4, 96, 97, 0, 0, 0, 0) := cAS_howMany_2 _ (List.mem_of_getElem? (i := 1) rfl)
theorem cS_howMany_96 : zCode 93 96 = some (.iconst 0, 97, 0, 0, 0, 0, 0) := cAS_howMany_2 _ (List.mem_of_getElem? (i := 2) rfl)
theorem cS_howMany_97 : zCode 93 97 = some (.ireturn, 98, 0, 0, 0, 0, 0) := cAS_howMany_2 _ (List.mem_of_getElem? (i := 3) rfl)
theorem rS_howMany_0 {a0 : Nat} {a1 : Int} : zS 93 0 [zR a0, zI a1] [] sh pp mm Q ↔ zS 93 1 [zR a0, zI a1] [zI a1] sh pp mm Q := s_go cS_howMany_0 cS_howMany_1 rfl rfl
theorem rS_howMany_1_0 {a0 : Nat} {a1 : Int} : zS 93 1 [zR a0, zI a1] [zI 0] sh pp mm Q ↔ zS 93 36 [zR a0, zU] [] sh pp mm Q := s_go cS_howMany_1 cS_howMany_36 rfl rfl
theorem rS_howMany_1_1 {a0 : Nat} {a1 : Int} : zS 93 1 [zR a0, zI a1] [zI 1] sh pp mm Q ↔ zS 93 44 [zR a0, zU] [] sh pp mm Q := s_go cS_howMany_1 cS_howMany_44 rfl rfl
theorem rS_howMany_1_2 {a0 : Nat} {a1 : Int} : zS 93 1 [zR a0, zI a1] [zI 2] sh pp mm Q ↔ zS 93 52 [zR a0, zU] [] sh pp mm Q := s_go cS_howMany_1 cS_howMany_52 rfl rfl
theorem rS_howMany_1_3 {a0 : Nat} {a1 : Int} : zS 93 1 [zR a0, zI a1] [zI 3] sh pp mm Q ↔ zS 93 60 [zR a0, zU] [] sh pp mm Q := s_go cS_howMany_1 cS_howMany_60 rfl rfl
theorem rS_howMany_1_4 {a0 : Nat} {a1 : Int} : zS 93 1 [zR a0, zI a1] [zI 4] sh pp mm Q ↔ zS 93 68 [zR a0, zU] [] sh pp mm Q := s_go cS_howMany_1 cS_howMany_68 rfl rfl
theorem rS_howMany_1_d {a0 : Nat} {a1 s0 : Int} (hd : s0 < 0 ∨ 4 < s0) : zS 93 1 [zR a0, zI a1] [zI s0] sh pp mm Q ↔ zS 93 73 [zR a0, zI a1] [] sh pp mm Q := s_go cS_howMany_1 cS_howMany_73 (if_pos hd) rfl
theorem rS_howMany_36 {a0 : Nat} {u1 : zV} : zS 93 36 [zR a0, u1] [] sh pp mm Q ↔ zS 93 37 [zU, zU] [zR a0] sh pp mm Q := s_go cS_howMany_36 cS_howMany_37 rfl rfl
theorem rS_howMany_37 {s0 : Nat} {u0 u1 : zV} (hk : zKd sh s0 = 9) : zS 93 37 [u0, u1] [zR s0] sh pp mm Q ↔ zS 93 40 [zU, zU] [zR (pp s0 2)] sh pp mm Q := s_go cS_howMany_37 cS_howMany_40 (if_pos hk) rfl
theorem rS_howMany_40 {s0 : Nat} {u0 u1 : zV} (hk : zKd sh s0 = 10) : zS 93 40 [u0, u1] [zR s0] sh pp mm Q ↔ zS 93 43 [zU, zU] [zI (mm s0 3)] sh pp mm Q := s_go cS_howMany_40 cS_howMany_43 (if_pos hk) rfl
theorem rS_howMany_43 {s0 : Int} {u0 u1 : zV} : zS 93 43 [u0, u1] [zI s0] sh pp mm Q ↔ Q (zI s0) sh pp mm := s_ret cS_howMany_43 rfl
theorem rS_howMany_44 {a0 : Nat} {u1 : zV} : zS 93 44 [zR a0, u1] [] sh pp mm Q ↔ zS 93 45 [zU, zU] [zR a0] sh pp mm Q := s_go cS_howMany_44 cS_howMany_45 rfl rfl
theorem rS_howMany_45 {s0 : Nat} {u0 u1 : zV} (hk : zKd sh s0 = 9) : zS 93 45 [u0, u1] [zR s0] sh pp mm Q ↔ zS 93 48 [zU, zU] [zR (pp s0 3)] sh pp mm Q := s_go cS_howMany_45 cS_howMany_48 (if_pos hk) rfl
theorem rS_howMany_48 {s0 : Nat} {u0 u1 : zV} (hk : zKd sh s0 = 10) : zS 93 48 [u0, u1] [zR s0] sh pp mm Q ↔ zS 93 51 [zU, zU] [zI (mm s0 3)] sh pp mm Q := s_go cS_howMany_48 cS_howMany_51 (if_pos hk) rfl
theorem rS_howMany_51 {s0 : Int} {u0 u1 : zV} : zS 93 51 [u0, u1] [zI s0] sh pp mm Q ↔ Q (zI s0) sh pp mm := s_ret cS_howMany_51 rfl
theorem rS_howMany_52 {a0 : Nat} {u1 : zV} : zS 93 52 [zR a0, u1] [] sh pp mm Q ↔ zS 93 53 [zU, zU] [zR a0] sh pp mm Q := s_go cS_howMany_52 cS_howMany_53 rfl rfl
theorem rS_howMany_53 {s0 : Nat} {u0 u1 : zV} (hk : zKd sh s0 = 9) : zS 93 53 [u0, u1] [zR s0] sh pp mm Q ↔ zS 93 56 [zU, zU] [zR (pp s0 4)] sh pp mm Q := s_go cS_howMany_53 cS_howMany_56 (if_pos hk) rfl
theorem rS_howMany_56 {s0 : Nat} {u0 u1 : zV} (hk : zKd sh s0 = 10) : zS 93 56 [u0, u1] [zR s0] sh pp mm Q ↔ zS 93 59 [zU, zU] [zI (mm s0 3)] sh pp mm Q := s_go cS_howMany_56 cS_howMany_59 (if_pos hk) rfl
theorem rS_howMany_59 {s0 : Int} {u0 u1 : zV} : zS 93 59 [u0, u1] [zI s0] sh pp mm Q ↔ Q (zI s0) sh pp mm := s_ret cS_howMany_59 rfl
theorem rS_howMany_60 {a0 : Nat} {u1 : zV} : zS 93 60 [zR a0, u1] [] sh pp mm Q ↔ zS 93 61 [zU, zU] [zR a0] sh pp mm Q := s_go cS_howMany_60 cS_howMany_61 rfl rfl
theorem rS_howMany_61 {s0 : Nat} {u0 u1 : zV} (hk : zKd sh s0 = 9) : zS 93 61 [u0, u1] [zR s0] sh pp mm Q ↔ zS 93 64 [zU, zU] [zR (pp s0 5)] sh pp mm Q := s_go cS_howMany_61 cS_howMany_64 (if_pos hk) rfl
theorem rS_howMany_64 {s0 : Nat} {u0 u1 : zV} (hk : zKd sh s0 = 10) : zS 93 64 [u0, u1] [zR s0] sh pp mm Q ↔ zS 93 67 [zU, zU] [zI (mm s0 3)] sh pp mm Q := s_go cS_howMany_64 cS_howMany_67 (if_pos hk) rfl
theorem rS_howMany_67 {s0 : Int} {u0 u1 : zV} : zS 93 67 [u0, u1] [zI s0] sh pp mm Q ↔ Q (zI s0) sh pp mm := s_ret cS_howMany_67 rfl
theorem rS_howMany_68 {a0 : Nat} {u1 : zV} : zS 93 68 [zR a0, u1] [] sh pp mm Q ↔ zS 93 69 [zU, zU] [zR a0] sh pp mm Q := s_go cS_howMany_68 cS_howMany_69 rfl rfl
theorem rS_howMany_69 {s0 : Nat} {u0 u1 : zV} (hk : zKd sh s0 = 9) : zS 93 69 [u0, u1] [zR s0] sh pp mm Q ↔ zS 93 72 [zU, zU] [zI (mm s0 7)] sh pp mm Q := s_go cS_howMany_69 cS_howMany_72 (if_pos hk) rfl
theorem rS_howMany_72 {s0 : Int} {u0 u1 : zV} : zS 93 72 [u0, u1] [zI s0] sh pp mm Q ↔ Q (zI s0) sh pp mm := s_ret cS_howMany_72 rfl
theorem rS_howMany_73 {a0 : Nat} {a1 : Int} : zS 93 73 [zR a0, zI a1] [] sh pp mm Q ↔ zS 93 74 [zR a0, zI a1] [zI a1] sh pp mm Q := s_go cS_howMany_73 cS_howMany_74 rfl rfl
theorem rS_howMany_74 {a0 : Nat} {a1 s0 : Int} : zS 93 74 [zR a0, zI a1] [zI s0] sh pp mm Q ↔ zS 93 75 [zR a0, zI a1] [zI 5, zI s0] sh pp mm Q := s_go cS_howMany_74 cS_howMany_75 rfl rfl
theorem rS_howMany_75 {a0 : Nat} {a1 s0 s1 : Int} : zS 93 75 [zR a0, zI a1] [zI s0, zI s1] sh pp mm Q ↔ zS 93 76 [zR a0, zI a1] [zI (zw32 (s1 - s0))] sh pp mm Q := s_go cS_howMany_75 cS_howMany_76 rfl rfl
theorem rS_howMany_76 {a0 : Nat} {a1 s0 : Int} : zS 93 76 [zR a0, zI a1] [zI s0] sh pp mm Q ↔ zS 140 0 [zI s0] [] sh pp mm (fun v sh pp mm => zS 93 79 [zR a0, zI a1] (zPush v []) sh pp mm Q) := s_call cS_howMany_76 cS_howMany_79 rfl rfl
theorem rS_howMany_79 {a0 : Nat} {a1 s0 : Int} : zS 93 79 [zR a0, zI a1] [zI s0] sh pp mm Q ↔ (s0 = 0 → zS 93 96 [zU, zU] [] sh pp mm Q) ∧ (¬ s0 = 0 → zS 93 82 [zR a0, zI a1] [] sh pp mm Q) := s_if cS_howMany_79 cS_howMany_96 cS_howMany_82 rfl rfl rfl
theorem rS_howMany_82 {a0 : Nat} {a1 : Int} : zS 93 82 [zR a0, zI a1] [] sh pp mm Q ↔ zS 93 83 [zU, zI a1] [zR a0] sh pp mm Q := s_go cS_howMany_82 cS_howMany_83 rfl rfl
theorem rS_howMany_83 {s0 : Nat} {a1 : Int} {u0 : zV} (hk : zKd sh s0 = 9) : zS 93 83 [u0, zI a1] [zR s0] sh pp mm Q ↔ zS 93 86 [zU, zI a1] [zR (pp s0 1)] sh pp mm Q := s_go cS_howMany_83 cS_howMany_86 (if_pos hk) rfl
theorem rS_howMany_86 {s0 : Nat} {a1 : Int} {u0 : zV} : zS 93 86 [u0, zI a1] [zR s0] sh pp mm Q ↔ zS 93 87 [zU, zU] [zI a1, zR s0] sh pp mm Q := s_go cS_howMany_86 cS_howMany_87 rfl rfl
theorem rS_howMany_87 {s1 : Nat} {s0 : Int} {u0 u1 : zV} : zS 93 87 [u0, u1] [zI s0, zR s1] sh pp mm Q ↔ zS 93 88 [zU, zU] [zI 5, zI s0, zR s1] sh pp mm Q := s_go cS_howMany_87 cS_howMany_88 rfl rfl
theorem rS_howMany_88 {s2 : Nat} {s0 s1 : Int} {u0 u1 : zV} : zS 93 88 [u0, u1] [zI s0, zI s1, zR s2] sh pp mm Q ↔ zS 93 89 [zU, zU] [zI (zw32 (s1 - s0)), zR s2] sh pp mm Q := s_go cS_howMany_88 cS_howMany_89 rfl rfl
theorem rS_howMany_89 {s1 : Nat} {s0 : Int} {u0 u1 : zV} (hk : 24 ≤ zKd sh s1) (hl : zKd sh s1 ≤ 27) (h0 : 0 ≤ s0) (h1 : s0 < zLn sh s1) : zS 93 89 [u0, u1] [zI s0, zR s1] sh pp mm Q ↔ zS 93 90 [zU, zU] [zR (pp s1 s0)] sh pp mm Q := s_go cS_howMany_89 cS_howMany_90 (if_pos ⟨zEl_ok hk hl, h0, h1⟩) rfl
theorem rS_howMany_90 {s0 : Nat} {u0 u1 : zV} (hk : zKd sh s0 = 10) : zS 93 90 [u0, u1] [zR s0] sh pp mm Q ↔ zS 93 93 [zU, zU] [zI (mm s0 3)] sh pp mm Q := s_go cS_howMany_90 cS_howMany_93 (if_pos hk) rfl
theorem rS_howMany_93 {s0 : Int} {u0 u1 : zV} : zS 93 93 [u0, u1] [zI s0] sh pp mm Q ↔ zS 93 97 [zU, zU] [zI s0] sh pp mm Q := s_go cS_howMany_93 cS_howMany_97 rfl rfl
theorem rS_howMany_96 {u0 u1 : zV} : zS 93 96 [u0, u1] [] sh pp mm Q ↔ zS 93 97 [zU, zU] [zI 0] sh pp mm Q := s_go cS_howMany_96 cS_howMany_97 rfl rfl
theorem rS_howMany_97 {s0 : Int} {u0 u1 : zV} : zS 93 97 [u0, u1] [zI s0] sh pp mm Q ↔ Q (zI s0) sh pp mm := s_ret cS_howMany_97 rfl
theorem cAS_fold : ∀ q ∈ zT94, zCode 94 q.1 = some q.2 := zAll (mid := 94) rfl (by decide +kernel)
theorem cAS_fold_0 : ∀ q ∈ zT94_0, zCode 94 q.1 = some q.2 := fun q h => cAS_fold q (List.mem_append_left _ h)
theorem cAS_fold_1 : ∀ q ∈ zT94_1, zCode 94 q.1 = some q.2 := fun q h => cAS_fold q (List.mem_append_right _ (List.mem_append_left _ h))
theorem cAS_fold_2 : ∀ q ∈ zT94_2, zCode 94 q.1 = some q.2 := fun q h => cAS_fold q (List.mem_append_right _ (List.mem_append_right _ (List.mem_append_left _ h)))
theorem cAS_fold_3 : ∀ q ∈ zT94_3, zCode 94 q.1 = some q.2 := fun q h => cAS_fold q (List.mem_append_right _ (List.mem_append_right _ (List.mem_append_right _ (List.mem_append_left _ h))))
theorem cAS_fold_4 : ∀ q ∈ zT94_4, zCode 94 q.1 = some q.2 := fun q h => cAS_fold q (List.mem_append_right _ (List.mem_append_right _ (List.mem_append_right _ (List.mem_append_right _ (List.mem_append_left _ h)))))
theorem cAS_fold_5 : ∀ q ∈ zT94_5, zCode 94 q.1 = some q.2 := fun q h => cAS_fold q (List.mem_append_right _ (List.mem_append_right _ (List.mem_append_right _ (List.mem_append_right _ (List.mem_append_right _ h)))))
theorem cS_fold_0 : zCode 94 0 = some (.lload_n 1, 1, 0, 0, 0, 0, 3) := cAS_fold_0 _ (List.mem_of_getElem? (i := 0) rfl)
theorem cS_fold_1 : zCode 94 1 = some (.lstore_n 3, 2, 0, 0, 0, 0, 1) := cAS_fold_0 _ (List.mem_of_getElem? (i := 1) rfl)
theorem cS_fold_2 : zCode 94 2 = some (.iconst 0, 3, 0, 0, 0, 0, 9) := cAS_fold_0 _ (List.mem_of_getElem? (i := 2) rfl)
theorem cS_fold_3 : zCode 94 3 = some (.istore 5, 5, 0, 0, 0, 0, 9) := cAS_fold_0 _ (List.mem_of_getElem? (i := 3) rfl)
theorem cS_fold_5 : zCode 94 5 = some (.iload 5, 7, 0, 0, 0, 0, 41) := cAS_fold_0 _ (List.mem_of_getElem? (i := 4) rfl)
theorem cS_fold_7 : zCode 94 7 = some (.bipush 9, 9, 0, 0, 0, 0, 41) := cAS_fold_0 _ (List.mem_of_getElem? (i := 5) rfl)
theorem cS_fold_9 : zCode 94 9 = some (.if_icmp .ge 23, 12, 32, 0, 0, 0, 41) := cAS_fold_0 _ (List.mem_of_getElem? (i := 6) rfl)
theorem cS_fold_12 : zCode 94 12 = some (.ldc2_w 70, 15, 0, 0, 1179, 31, 41) := cAS_fold_0 _ (List.mem_of_getElem? (i := 7) rfl)
theorem cS_fold_15 : zCode 94 15 = some (.lload_n 3, 16, 0, 0, 0, 0, 41) := cAS_fold_0 _ (List.mem_of_getElem? (i := 8) rfl)
theorem cS_fold_16 : zCode 94 16 = some (.lmul, 17, 0, 0, 0, 0, 33) := cAS_fold_0 _ (List.mem_of_getElem? (i := 9) rfl)
theorem cS_fold_17 : zCode 94 17 = some (.aload_n 0, 18, 0, 0, 0, 0, 33) := cAS_fold_0 _ (List.mem_of_getElem? (i := 10) rfl)
theorem cS_fold_18 : zCode 94 18 = some (.iload 5, 20, 0, 0, 0, 0, 33) := cAS_fold_0 _ (List.mem_of_getElem? (i := 11) rfl)
theorem cS_fold_20 : zCode 94 20 = some (.invokevirtual 72, 23, 93, 1, 2, 9, 33) := cAS_fold_0 _ (List.mem_of_getElem? (i := 12) rfl)
theorem cS_fold_23 : zCode 94 23 = some (.i2l, 24, 0, 0, 0, 0, 33) := cAS_fold_0 _ (List.mem_of_getElem? (i := 13) rfl)
theorem cS_fold_24 : zCode 94 24 = some (.ladd, 25, 0, 0, 0, 0, 33) := cAS_fold_0 _ (List.mem_of_getElem? (i := 14) rfl)
theorem cS_fold_25 : zCode 94 25 = some (.lstore_n 3, 26, 0, 0, 0, 0, 33) := cAS_fold_0 _ (List.mem_of_getElem? (i := 15) rfl)
theorem cS_fold_26 : zCode 94 26 = some (.iinc 5 1, 29, 0, 0, 0, 0, 41) := cAS_fold_1 _ (List.mem_of_getElem? (i := 0) rfl)
theorem cS_fold_29 : zCode 94 29 = some (.goto (-24), 32, 5, 0, 0, 0, 41) := cAS_fold_1 _ (List.mem_of_getElem? (i := 1) rfl)
theorem cS_fold_32 : zCode 94 32 = some (.iconst 0, 33, 0, 0, 0, 0, 9) := cAS_fold_1 _ (List.mem_of_getElem? (i := 2) rfl)
theorem cS_fold_33 : zCode 94 33 = some (.istore 5, 35, 0, 0, 0, 0, 9) := cAS_fold_1 _ (List.mem_of_getElem? (i := 3) rfl)
theorem cS_fold_35 : zCode 94 35 = some (.iload 5, 37, 0, 0, 0, 0, 41) := cAS_fold_1 _ (List.mem_of_getElem? (i := 4) rfl)
theorem cS_fold_37 : zCode 94 37 = some (.bipush 9, 39, 0, 0, 0, 0, 41) := cAS_fold_1 _ (List.mem_of_getElem? (i := 5) rfl)
theorem cS_fold_39 : zCode 94 39 = some (.if_icmp .ge 24, 42, 63, 0, 0, 0, 41) := cAS_fold_1 _ (List.mem_of_getElem? (i := 6) rfl)
theorem cS_fold_42 : zCode 94 42 = some (.ldc2_w 70, 45, 0, 0, 1179, 31, 41) := cAS_fold_1 _ (List.mem_of_getElem? (i := 7) rfl)
theorem cS_fold_45 : zCode 94 45 = some (.lload_n 3, 46, 0, 0, 0, 0, 41) := cAS_fold_1 _ (List.mem_of_getElem? (i := 8) rfl)
theorem cS_fold_46 : zCode 94 46 = some (.lmul, 47, 0, 0, 0, 0, 33) := cAS_fold_1 _ (List.mem_of_getElem? (i := 9) rfl)
theorem cS_fold_47 : zCode 94 47 = some (.aload_n 0, 48, 0, 0, 0, 0, 33) := cAS_fold_1 _ (List.mem_of_getElem? (i := 10) rfl)
theorem cS_fold_48 : zCode 94 48 = some (.getfield 9, 51, 9, 0, 2, 164, 33) := cAS_fold_1 _ (List.mem_of_getElem? (i := 11) rfl)
theorem cS_fold_51 : zCode 94 51 = some (.iload 5, 53, 0, 0, 0, 0, 33) := cAS_fold_1 _ (List.mem_of_getElem? (i := 12) rfl)
theorem cS_fold_53 : zCode 94 53 = some (.iaload, 54, 0, 0, 0, 0, 33) := cAS_fold_1 _ (List.mem_of_getElem? (i := 13) rfl)
theorem cS_fold_54 : zCode 94 54 = some (.i2l, 55, 0, 0, 0, 0, 33) := cAS_fold_1 _ (List.mem_of_getElem? (i := 14) rfl)
theorem cS_fold_55 : zCode 94 55 = some (.ladd, 56, 0, 0, 0, 0, 33) := cAS_fold_1 _ (List.mem_of_getElem? (i := 15) rfl)
theorem cS_fold_56 : zCode 94 56 = some (.lstore_n 3, 57, 0, 0, 0, 0, 33) := cAS_fold_2 _ (List.mem_of_getElem? (i := 0) rfl)
theorem cS_fold_57 : zCode 94 57 = some (.iinc 5 1, 60, 0, 0, 0, 0, 41) := cAS_fold_2 _ (List.mem_of_getElem? (i := 1) rfl)
theorem cS_fold_60 : zCode 94 60 = some (.goto (-25), 63, 35, 0, 0, 0, 41) := cAS_fold_2 _ (List.mem_of_getElem? (i := 2) rfl)
theorem cS_fold_63 : zCode 94 63 = some (.iconst 0, 64, 0, 0, 0, 0, 9) := cAS_fold_2 _ (List.mem_of_getElem? (i := 3) rfl)
theorem cS_fold_64 : zCode 94 64 = some (.istore 5, 66, 0, 0, 0, 0, 9) := cAS_fold_2 _ (List.mem_of_getElem? (i := 4) rfl)
theorem cS_fold_66 : zCode 94 66 = some (.iload 5, 68, 0, 0, 0, 0, 41) := cAS_fold_2 _ (List.mem_of_getElem? (i := 5) rfl)
theorem cS_fold_68 : zCode 94 68 = some (.iconst 4, 69, 0, 0, 0, 0, 41) := cAS_fold_2 _ (List.mem_of_getElem? (i := 6) rfl)
theorem cS_fold_69 : zCode 94 69 = some (.if_icmp .ge 21, 72, 90, 0, 0, 0, 41) := cAS_fold_2 _ (List.mem_of_getElem? (i := 7) rfl)
theorem cS_fold_72 : zCode 94 72 = some (.aload_n 0, 73, 0, 0, 0, 0, 41) := cAS_fold_2 _ (List.mem_of_getElem? (i := 8) rfl)
theorem cS_fold_73 : zCode 94 73 = some (.getfield 17, 76, 9, 1, 2, 167, 41) := cAS_fold_2 _ (List.mem_of_getElem? (i := 9) rfl)
theorem cS_fold_76 : zCode 94 76 = some (.iload 5, 78, 0, 0, 0, 0, 41) := cAS_fold_2 _ (List.mem_of_getElem? (i := 10) rfl)
theorem cS_fold_78 : zCode 94 78 = some (.aaload, 79, 0, 0, 0, 0, 41) := cAS_fold_2 _ (List.mem_of_getElem? (i := 11) rfl)
theorem cS_fold_79 : zCode 94 79 = some (.lload_n 3, 80, 0, 0, 0, 0, 41) := cAS_fold_2 _ (List.mem_of_getElem? (i := 12) rfl)
theorem cS_fold_80 : zCode 94 80 = some (.invokevirtual 76, 83, 101, 1, 6, 10, 33) := cAS_fold_2 _ (List.mem_of_getElem? (i := 13) rfl)
theorem cS_fold_83 : zCode 94 83 = some (.lstore_n 3, 84, 0, 0, 0, 0, 33) := cAS_fold_2 _ (List.mem_of_getElem? (i := 14) rfl)
theorem cS_fold_84 : zCode 94 84 = some (.iinc 5 1, 87, 0, 0, 0, 0, 41) := cAS_fold_2 _ (List.mem_of_getElem? (i := 15) rfl)
theorem cS_fold_87 : zCode 94 87 = some (.goto (-21), 90, 66, 0, 0, 0, 41) := cAS_fold_3 _ (List.mem_of_getElem? (i := 0) rfl)
theorem cS_fold_90 : zCode 94 90 = some (.aload_n 0, 91, 0, 0, 0, 0, 9) := cAS_fold_3 _ (List.mem_of_getElem? (i := 1) rfl)
theorem cS_fold_91 : zCode 94 91 = some (.getfield 31, 94, 9, 4, 2, 174, 9) := cAS_fold_3 _ (List.mem_of_getElem? (i := 2) rfl)
theorem cS_fold_94 : zCode 94 94 = some (.aload_n 0, 95, 0, 0, 0, 0, 9) := cAS_fold_3 _ (List.mem_of_getElem? (i := 3) rfl)
theorem cS_fold_95 : zCode 94 95 = some (.getfield 28, 98, 9, 3, 2, 171, 9) := cAS_fold_3 _ (List.mem_of_getElem? (i := 4) rfl)
theorem cS_fold_98 : zCode 94 98 = some (.aload_n 0, 99, 0, 0, 0, 0, 9) := cAS_fold_3 _ (List.mem_of_getElem? (i := 5) rfl)
theorem cS_fold_99 : zCode 94 99 = some (.getfield 24, 102, 9, 2, 2, 169, 9) := cAS_fold_3 _ (List.mem_of_getElem? (i := 6) rfl)
theorem cS_fold_102 : zCode 94 102 = some (.lload_n 3, 103, 0, 0, 0, 0, 9) := cAS_fold_3 _ (List.mem_of_getElem? (i := 7) rfl)
theorem cS_fold_103 : zCode 94 103 = some (.invokevirtual 76, 106, 101, 1, 6, 10, 1) := cAS_fold_3 _ (List.mem_of_getElem? (i := 8) rfl)
theorem cS_fold_106 : zCode 94 106 = some (.invokevirtual 76, 109, 101, 1, 6, 10, 1) := cAS_fold_3 _ (List.mem_of_getElem? (i := 9) rfl)
theorem cS_fold_109 : zCode 94 109 = some (.invokevirtual 76, 112, 101, 1, 6, 10, 1) := cAS_fold_3 _ (List.mem_of_getElem? (i := 10) rfl)
theorem cS_fold_112 : zCode 94 112 = some (.lstore_n 3, 113, 0, 0, 0, 0, 1) := cAS_fold_3 _ (List.mem_of_getElem? (i := 11) rfl)
theorem cS_fold_113 : zCode 94 113 = some (.iconst 0, 114, 0, 0, 0, 0, 9) := cAS_fold_3 _ (List.mem_of_getElem? (i := 12) rfl)
theorem cS_fold_114 : zCode 94 114 = some (.istore 5, 116, 0, 0, 0, 0, 9) := cAS_fold_3 _ (List.mem_of_getElem? (i := 13) rfl)
theorem cS_fold_116 : zCode 94 116 = some (.iload 5, 118, 0, 0, 0, 0, 41) := cAS_fold_3 _ (List.mem_of_getElem? (i := 14) rfl)
theorem cS_fold_118 : zCode 94 118 = some (.sipush 384, 121, 0, 0, 0, 0, 41) := cAS_fold_3 _ (List.mem_of_getElem? (i := 15) rfl)
theorem cS_fold_121 : zCode 94 121 = some (.if_icmp .ge 24, 124, 145, 0, 0, 0, 41) := cAS_fold_4 _ (List.mem_of_getElem? (i := 0) rfl)
theorem cS_fold_124 : zCode 94 124 = some (.ldc2_w 70, 127, 0, 0, 1179, 31, 41) := cAS_fold_4 _ (List.mem_of_getElem? (i := 1) rfl)
theorem cS_fold_127 : zCode 94 127 = some (.lload_n 3, 128, 0, 0, 0, 0, 41) := cAS_fold_4 _ (List.mem_of_getElem? (i := 2) rfl)
theorem cS_fold_128 : zCode 94 128 = some (.lmul, 129, 0, 0, 0, 0, 33) := cAS_fold_4 _ (List.mem_of_getElem? (i := 3) rfl)
theorem cS_fold_129 : zCode 94 129 = some (.aload_n 0, 130, 0, 0, 0, 0, 33) := cAS_fold_4 _ (List.mem_of_getElem? (i := 4) rfl)
theorem cS_fold_130 : zCode 94 130 = some (.getfield 37, 133, 9, 6, 2, 179, 33) := cAS_fold_4 _ (List.mem_of_getElem? (i := 5) rfl)
theorem cS_fold_133 : zCode 94 133 = some (.iload 5, 135, 0, 0, 0, 0, 33) := cAS_fold_4 _ (List.mem_of_getElem? (i := 6) rfl)
theorem cS_fold_135 : zCode 94 135 = some (.iaload, 136, 0, 0, 0, 0, 33) := cAS_fold_4 _ (List.mem_of_getElem? (i := 7) rfl)
theorem cS_fold_136 : zCode 94 136 = some (.i2l, 137, 0, 0, 0, 0, 33) := cAS_fold_4 _ (List.mem_of_getElem? (i := 8) rfl)
theorem cS_fold_137 : zCode 94 137 = some (.ladd, 138, 0, 0, 0, 0, 33) := cAS_fold_4 _ (List.mem_of_getElem? (i := 9) rfl)
theorem cS_fold_138 : zCode 94 138 = some (.lstore_n 3, 139, 0, 0, 0, 0, 33) := cAS_fold_4 _ (List.mem_of_getElem? (i := 10) rfl)
theorem cS_fold_139 : zCode 94 139 = some (.iinc 5 1, 142, 0, 0, 0, 0, 41) := cAS_fold_4 _ (List.mem_of_getElem? (i := 11) rfl)
theorem cS_fold_142 : zCode 94 142 = some (.goto (-26), 145, 116, 0, 0, 0, 41) := cAS_fold_4 _ (List.mem_of_getElem? (i := 12) rfl)
theorem cS_fold_145 : zCode 94 145 = some (.aload_n 0, 146, 0, 0, 0, 0, 9) := cAS_fold_4 _ (List.mem_of_getElem? (i := 13) rfl)
theorem cS_fold_146 : zCode 94 146 = some (.getfield 34, 149, 9, 5, 2, 177, 8) := cAS_fold_4 _ (List.mem_of_getElem? (i := 14) rfl)
theorem cS_fold_149 : zCode 94 149 = some (.lload_n 3, 150, 0, 0, 0, 0, 8) := cAS_fold_4 _ (List.mem_of_getElem? (i := 15) rfl)
theorem cS_fold_150 : zCode 94 150 = some (.invokevirtual 76, 153, 101, 1, 6, 10, 0) := cAS_fold_5 _ (List.mem_of_getElem? (i := 0) rfl)
theorem cS_fold_153 : zCode 94 153 = some (.lreturn, 154, 0, 0, 0, 0, 0) := cAS_fold_5 _ (List.mem_of_getElem? (i := 1) rfl)
theorem rS_fold_0 {a0 : Nat} {a1 : Int} {u2 u3 u4 u5 : zV} : zS 94 0 [zR a0, zL a1, u2, u3, u4, u5] [] sh pp mm Q ↔ zS 94 1 [zR a0, zU, zU, zU, zU, zU] [zL a1] sh pp mm Q := s_go cS_fold_0 cS_fold_1 rfl rfl
theorem rS_fold_1 {a0 : Nat} {s0 : Int} {u1 u2 u3 u4 u5 : zV} : zS 94 1 [zR a0, u1, u2, u3, u4, u5] [zL s0] sh pp mm Q ↔ zS 94 2 [zR a0, zU, zU, zL s0, zU, zU] [] sh pp mm Q := s_go cS_fold_1 cS_fold_2 rfl rfl
theorem rS_fold_2 {a0 : Nat} {a3 : Int} {u1 u2 u4 u5 : zV} : zS 94 2 [zR a0, u1, u2, zL a3, u4, u5] [] sh pp mm Q ↔ zS 94 3 [zR a0, zU, zU, zL a3, zU, zU] [zI 0] sh pp mm Q := s_go cS_fold_2 cS_fold_3 rfl rfl
theorem rS_fold_3 {a0 : Nat} {a3 s0 : Int} {u1 u2 u4 u5 : zV} : zS 94 3 [zR a0, u1, u2, zL a3, u4, u5] [zI s0] sh pp mm Q ↔ zS 94 5 [zR a0, zU, zU, zL a3, zU, zI s0] [] sh pp mm Q := s_go cS_fold_3 cS_fold_5 rfl rfl
theorem rS_fold_5 {a0 : Nat} {a3 a5 : Int} {u1 u2 u4 : zV} : zS 94 5 [zR a0, u1, u2, zL a3, u4, zI a5] [] sh pp mm Q ↔ zS 94 7 [zR a0, zU, zU, zL a3, zU, zI a5] [zI a5] sh pp mm Q := s_go cS_fold_5 cS_fold_7 rfl rfl
theorem rS_fold_7 {a0 : Nat} {a3 a5 s0 : Int} {u1 u2 u4 : zV} : zS 94 7 [zR a0, u1, u2, zL a3, u4, zI a5] [zI s0] sh pp mm Q ↔ zS 94 9 [zR a0, zU, zU, zL a3, zU, zI a5] [zI 9, zI s0] sh pp mm Q := s_go cS_fold_7 cS_fold_9 rfl rfl
theorem rS_fold_9 {a0 : Nat} {a3 a5 s0 s1 : Int} {u1 u2 u4 : zV} : zS 94 9 [zR a0, u1, u2, zL a3, u4, zI a5] [zI s0, zI s1] sh pp mm Q ↔ (s1 < s0 → zS 94 12 [zR a0, zU, zU, zL a3, zU, zI a5] [] sh pp mm Q) ∧ (¬ s1 < s0 → zS 94 32 [zR a0, zU, zU, zL a3, zU, zU] [] sh pp mm Q) := s_ifn cS_fold_9 cS_fold_12 cS_fold_32 rfl rfl rfl
theorem rS_fold_12 {a0 : Nat} {a3 a5 : Int} {u1 u2 u4 : zV} : zS 94 12 [zR a0, u1, u2, zL a3, u4, zI a5] [] sh pp mm Q ↔ zS 94 15 [zR a0, zU, zU, zL a3, zU, zI a5] [zL 31] sh pp mm Q := s_go cS_fold_12 cS_fold_15 rfl rfl
theorem rS_fold_15 {a0 : Nat} {a3 a5 s0 : Int} {u1 u2 u4 : zV} : zS 94 15 [zR a0, u1, u2, zL a3, u4, zI a5] [zL s0] sh pp mm Q ↔ zS 94 16 [zR a0, zU, zU, zU, zU, zI a5] [zL a3, zL s0] sh pp mm Q := s_go cS_fold_15 cS_fold_16 rfl rfl
theorem rS_fold_16 {a0 : Nat} {a5 s0 s1 : Int} {u1 u2 u3 u4 : zV} : zS 94 16 [zR a0, u1, u2, u3, u4, zI a5] [zL s0, zL s1] sh pp mm Q ↔ zS 94 17 [zR a0, zU, zU, zU, zU, zI a5] [zL (zw64 (s1 * s0))] sh pp mm Q := s_go cS_fold_16 cS_fold_17 rfl rfl
theorem rS_fold_17 {a0 : Nat} {a5 s0 : Int} {u1 u2 u3 u4 : zV} : zS 94 17 [zR a0, u1, u2, u3, u4, zI a5] [zL s0] sh pp mm Q ↔ zS 94 18 [zR a0, zU, zU, zU, zU, zI a5] [zR a0, zL s0] sh pp mm Q := s_go cS_fold_17 cS_fold_18 rfl rfl
theorem rS_fold_18 {a0 s0 : Nat} {a5 s1 : Int} {u1 u2 u3 u4 : zV} : zS 94 18 [zR a0, u1, u2, u3, u4, zI a5] [zR s0, zL s1] sh pp mm Q ↔ zS 94 20 [zR a0, zU, zU, zU, zU, zI a5] [zI a5, zR s0, zL s1] sh pp mm Q := s_go cS_fold_18 cS_fold_20 rfl rfl
theorem rS_fold_20 {a0 s1 : Nat} {a5 s0 s2 : Int} {u1 u2 u3 u4 : zV} (hk : zKd sh s1 = 9) : zS 94 20 [zR a0, u1, u2, u3, u4, zI a5] [zI s0, zR s1, zL s2] sh pp mm Q ↔ zS 93 0 [zR s1, zI s0] [] sh pp mm (fun v sh pp mm => zS 94 23 [zR a0, zU, zU, zU, zU, zI a5] (zPush v [zL s2]) sh pp mm Q) := s_call cS_fold_20 cS_fold_23 ((if_pos hk).trans rfl) rfl
theorem rS_fold_23 {a0 : Nat} {a5 s0 s1 : Int} {u1 u2 u3 u4 : zV} : zS 94 23 [zR a0, u1, u2, u3, u4, zI a5] [zI s0, zL s1] sh pp mm Q ↔ zS 94 24 [zR a0, zU, zU, zU, zU, zI a5] [zL s0, zL s1] sh pp mm Q := s_go cS_fold_23 cS_fold_24 rfl rfl
theorem rS_fold_24 {a0 : Nat} {a5 s0 s1 : Int} {u1 u2 u3 u4 : zV} : zS 94 24 [zR a0, u1, u2, u3, u4, zI a5] [zL s0, zL s1] sh pp mm Q ↔ zS 94 25 [zR a0, zU, zU, zU, zU, zI a5] [zL (zw64 (s1 + s0))] sh pp mm Q := s_go cS_fold_24 cS_fold_25 rfl rfl
theorem rS_fold_25 {a0 : Nat} {a5 s0 : Int} {u1 u2 u3 u4 : zV} : zS 94 25 [zR a0, u1, u2, u3, u4, zI a5] [zL s0] sh pp mm Q ↔ zS 94 26 [zR a0, zU, zU, zL s0, zU, zI a5] [] sh pp mm Q := s_go cS_fold_25 cS_fold_26 rfl rfl
theorem rS_fold_26 {a0 : Nat} {a3 a5 : Int} {u1 u2 u4 : zV} : zS 94 26 [zR a0, u1, u2, zL a3, u4, zI a5] [] sh pp mm Q ↔ zS 94 29 [zR a0, zU, zU, zL a3, zU, zI (zw32 (a5 + 1))] [] sh pp mm Q := s_go cS_fold_26 cS_fold_29 rfl rfl
theorem rS_fold_29 {a0 : Nat} {a3 a5 : Int} {u1 u2 u4 : zV} : zS 94 29 [zR a0, u1, u2, zL a3, u4, zI a5] [] sh pp mm Q ↔ zS 94 5 [zR a0, zU, zU, zL a3, zU, zI a5] [] sh pp mm Q := s_go cS_fold_29 cS_fold_5 rfl rfl
theorem rS_fold_32 {a0 : Nat} {a3 : Int} {u1 u2 u4 u5 : zV} : zS 94 32 [zR a0, u1, u2, zL a3, u4, u5] [] sh pp mm Q ↔ zS 94 33 [zR a0, zU, zU, zL a3, zU, zU] [zI 0] sh pp mm Q := s_go cS_fold_32 cS_fold_33 rfl rfl
theorem rS_fold_33 {a0 : Nat} {a3 s0 : Int} {u1 u2 u4 u5 : zV} : zS 94 33 [zR a0, u1, u2, zL a3, u4, u5] [zI s0] sh pp mm Q ↔ zS 94 35 [zR a0, zU, zU, zL a3, zU, zI s0] [] sh pp mm Q := s_go cS_fold_33 cS_fold_35 rfl rfl
theorem rS_fold_35 {a0 : Nat} {a3 a5 : Int} {u1 u2 u4 : zV} : zS 94 35 [zR a0, u1, u2, zL a3, u4, zI a5] [] sh pp mm Q ↔ zS 94 37 [zR a0, zU, zU, zL a3, zU, zI a5] [zI a5] sh pp mm Q := s_go cS_fold_35 cS_fold_37 rfl rfl
theorem rS_fold_37 {a0 : Nat} {a3 a5 s0 : Int} {u1 u2 u4 : zV} : zS 94 37 [zR a0, u1, u2, zL a3, u4, zI a5] [zI s0] sh pp mm Q ↔ zS 94 39 [zR a0, zU, zU, zL a3, zU, zI a5] [zI 9, zI s0] sh pp mm Q := s_go cS_fold_37 cS_fold_39 rfl rfl
theorem rS_fold_39 {a0 : Nat} {a3 a5 s0 s1 : Int} {u1 u2 u4 : zV} : zS 94 39 [zR a0, u1, u2, zL a3, u4, zI a5] [zI s0, zI s1] sh pp mm Q ↔ (s1 < s0 → zS 94 42 [zR a0, zU, zU, zL a3, zU, zI a5] [] sh pp mm Q) ∧ (¬ s1 < s0 → zS 94 63 [zR a0, zU, zU, zL a3, zU, zU] [] sh pp mm Q) := s_ifn cS_fold_39 cS_fold_42 cS_fold_63 rfl rfl rfl
theorem rS_fold_42 {a0 : Nat} {a3 a5 : Int} {u1 u2 u4 : zV} : zS 94 42 [zR a0, u1, u2, zL a3, u4, zI a5] [] sh pp mm Q ↔ zS 94 45 [zR a0, zU, zU, zL a3, zU, zI a5] [zL 31] sh pp mm Q := s_go cS_fold_42 cS_fold_45 rfl rfl
theorem rS_fold_45 {a0 : Nat} {a3 a5 s0 : Int} {u1 u2 u4 : zV} : zS 94 45 [zR a0, u1, u2, zL a3, u4, zI a5] [zL s0] sh pp mm Q ↔ zS 94 46 [zR a0, zU, zU, zU, zU, zI a5] [zL a3, zL s0] sh pp mm Q := s_go cS_fold_45 cS_fold_46 rfl rfl
theorem rS_fold_46 {a0 : Nat} {a5 s0 s1 : Int} {u1 u2 u3 u4 : zV} : zS 94 46 [zR a0, u1, u2, u3, u4, zI a5] [zL s0, zL s1] sh pp mm Q ↔ zS 94 47 [zR a0, zU, zU, zU, zU, zI a5] [zL (zw64 (s1 * s0))] sh pp mm Q := s_go cS_fold_46 cS_fold_47 rfl rfl
theorem rS_fold_47 {a0 : Nat} {a5 s0 : Int} {u1 u2 u3 u4 : zV} : zS 94 47 [zR a0, u1, u2, u3, u4, zI a5] [zL s0] sh pp mm Q ↔ zS 94 48 [zR a0, zU, zU, zU, zU, zI a5] [zR a0, zL s0] sh pp mm Q := s_go cS_fold_47 cS_fold_48 rfl rfl
theorem rS_fold_48 {a0 s0 : Nat} {a5 s1 : Int} {u1 u2 u3 u4 : zV} (hk : zKd sh s0 = 9) : zS 94 48 [zR a0, u1, u2, u3, u4, zI a5] [zR s0, zL s1] sh pp mm Q ↔ zS 94 51 [zR a0, zU, zU, zU, zU, zI a5] [zR (pp s0 0), zL s1] sh pp mm Q := s_go cS_fold_48 cS_fold_51 (if_pos hk) rfl
theorem rS_fold_51 {a0 s0 : Nat} {a5 s1 : Int} {u1 u2 u3 u4 : zV} : zS 94 51 [zR a0, u1, u2, u3, u4, zI a5] [zR s0, zL s1] sh pp mm Q ↔ zS 94 53 [zR a0, zU, zU, zU, zU, zI a5] [zI a5, zR s0, zL s1] sh pp mm Q := s_go cS_fold_51 cS_fold_53 rfl rfl
theorem rS_fold_53 {a0 s1 : Nat} {a5 s0 s2 : Int} {u1 u2 u3 u4 : zV} (hk : zKd sh s1 = 20 ∨ zKd sh s1 = 30) (h0 : 0 ≤ s0) (h1 : s0 < zLn sh s1) : zS 94 53 [zR a0, u1, u2, u3, u4, zI a5] [zI s0, zR s1, zL s2] sh pp mm Q ↔ zS 94 54 [zR a0, zU, zU, zU, zU, zI a5] [zI (mm s1 s0), zL s2] sh pp mm Q := s_go cS_fold_53 cS_fold_54 (if_pos ⟨hk, h0, h1⟩) rfl
theorem rS_fold_54 {a0 : Nat} {a5 s0 s1 : Int} {u1 u2 u3 u4 : zV} : zS 94 54 [zR a0, u1, u2, u3, u4, zI a5] [zI s0, zL s1] sh pp mm Q ↔ zS 94 55 [zR a0, zU, zU, zU, zU, zI a5] [zL s0, zL s1] sh pp mm Q := s_go cS_fold_54 cS_fold_55 rfl rfl
theorem rS_fold_55 {a0 : Nat} {a5 s0 s1 : Int} {u1 u2 u3 u4 : zV} : zS 94 55 [zR a0, u1, u2, u3, u4, zI a5] [zL s0, zL s1] sh pp mm Q ↔ zS 94 56 [zR a0, zU, zU, zU, zU, zI a5] [zL (zw64 (s1 + s0))] sh pp mm Q := s_go cS_fold_55 cS_fold_56 rfl rfl
theorem rS_fold_56 {a0 : Nat} {a5 s0 : Int} {u1 u2 u3 u4 : zV} : zS 94 56 [zR a0, u1, u2, u3, u4, zI a5] [zL s0] sh pp mm Q ↔ zS 94 57 [zR a0, zU, zU, zL s0, zU, zI a5] [] sh pp mm Q := s_go cS_fold_56 cS_fold_57 rfl rfl
theorem rS_fold_57 {a0 : Nat} {a3 a5 : Int} {u1 u2 u4 : zV} : zS 94 57 [zR a0, u1, u2, zL a3, u4, zI a5] [] sh pp mm Q ↔ zS 94 60 [zR a0, zU, zU, zL a3, zU, zI (zw32 (a5 + 1))] [] sh pp mm Q := s_go cS_fold_57 cS_fold_60 rfl rfl
theorem rS_fold_60 {a0 : Nat} {a3 a5 : Int} {u1 u2 u4 : zV} : zS 94 60 [zR a0, u1, u2, zL a3, u4, zI a5] [] sh pp mm Q ↔ zS 94 35 [zR a0, zU, zU, zL a3, zU, zI a5] [] sh pp mm Q := s_go cS_fold_60 cS_fold_35 rfl rfl
theorem rS_fold_63 {a0 : Nat} {a3 : Int} {u1 u2 u4 u5 : zV} : zS 94 63 [zR a0, u1, u2, zL a3, u4, u5] [] sh pp mm Q ↔ zS 94 64 [zR a0, zU, zU, zL a3, zU, zU] [zI 0] sh pp mm Q := s_go cS_fold_63 cS_fold_64 rfl rfl
theorem rS_fold_64 {a0 : Nat} {a3 s0 : Int} {u1 u2 u4 u5 : zV} : zS 94 64 [zR a0, u1, u2, zL a3, u4, u5] [zI s0] sh pp mm Q ↔ zS 94 66 [zR a0, zU, zU, zL a3, zU, zI s0] [] sh pp mm Q := s_go cS_fold_64 cS_fold_66 rfl rfl
theorem rS_fold_66 {a0 : Nat} {a3 a5 : Int} {u1 u2 u4 : zV} : zS 94 66 [zR a0, u1, u2, zL a3, u4, zI a5] [] sh pp mm Q ↔ zS 94 68 [zR a0, zU, zU, zL a3, zU, zI a5] [zI a5] sh pp mm Q := s_go cS_fold_66 cS_fold_68 rfl rfl
theorem rS_fold_68 {a0 : Nat} {a3 a5 s0 : Int} {u1 u2 u4 : zV} : zS 94 68 [zR a0, u1, u2, zL a3, u4, zI a5] [zI s0] sh pp mm Q ↔ zS 94 69 [zR a0, zU, zU, zL a3, zU, zI a5] [zI 4, zI s0] sh pp mm Q := s_go cS_fold_68 cS_fold_69 rfl rfl
theorem rS_fold_69 {a0 : Nat} {a3 a5 s0 s1 : Int} {u1 u2 u4 : zV} : zS 94 69 [zR a0, u1, u2, zL a3, u4, zI a5] [zI s0, zI s1] sh pp mm Q ↔ (s1 < s0 → zS 94 72 [zR a0, zU, zU, zL a3, zU, zI a5] [] sh pp mm Q) ∧ (¬ s1 < s0 → zS 94 90 [zR a0, zU, zU, zL a3, zU, zU] [] sh pp mm Q) := s_ifn cS_fold_69 cS_fold_72 cS_fold_90 rfl rfl rfl
theorem rS_fold_72 {a0 : Nat} {a3 a5 : Int} {u1 u2 u4 : zV} : zS 94 72 [zR a0, u1, u2, zL a3, u4, zI a5] [] sh pp mm Q ↔ zS 94 73 [zR a0, zU, zU, zL a3, zU, zI a5] [zR a0] sh pp mm Q := s_go cS_fold_72 cS_fold_73 rfl rfl
theorem rS_fold_73 {a0 s0 : Nat} {a3 a5 : Int} {u1 u2 u4 : zV} (hk : zKd sh s0 = 9) : zS 94 73 [zR a0, u1, u2, zL a3, u4, zI a5] [zR s0] sh pp mm Q ↔ zS 94 76 [zR a0, zU, zU, zL a3, zU, zI a5] [zR (pp s0 1)] sh pp mm Q := s_go cS_fold_73 cS_fold_76 (if_pos hk) rfl
theorem rS_fold_76 {a0 s0 : Nat} {a3 a5 : Int} {u1 u2 u4 : zV} : zS 94 76 [zR a0, u1, u2, zL a3, u4, zI a5] [zR s0] sh pp mm Q ↔ zS 94 78 [zR a0, zU, zU, zL a3, zU, zI a5] [zI a5, zR s0] sh pp mm Q := s_go cS_fold_76 cS_fold_78 rfl rfl
theorem rS_fold_78 {a0 s1 : Nat} {a3 a5 s0 : Int} {u1 u2 u4 : zV} (hk : 24 ≤ zKd sh s1) (hl : zKd sh s1 ≤ 27) (h0 : 0 ≤ s0) (h1 : s0 < zLn sh s1) : zS 94 78 [zR a0, u1, u2, zL a3, u4, zI a5] [zI s0, zR s1] sh pp mm Q ↔ zS 94 79 [zR a0, zU, zU, zL a3, zU, zI a5] [zR (pp s1 s0)] sh pp mm Q := s_go cS_fold_78 cS_fold_79 (if_pos ⟨zEl_ok hk hl, h0, h1⟩) rfl
theorem rS_fold_79 {a0 s0 : Nat} {a3 a5 : Int} {u1 u2 u4 : zV} : zS 94 79 [zR a0, u1, u2, zL a3, u4, zI a5] [zR s0] sh pp mm Q ↔ zS 94 80 [zR a0, zU, zU, zU, zU, zI a5] [zL a3, zR s0] sh pp mm Q := s_go cS_fold_79 cS_fold_80 rfl rfl
theorem rS_fold_80 {a0 s1 : Nat} {a5 s0 : Int} {u1 u2 u3 u4 : zV} (hk : zKd sh s1 = 10) : zS 94 80 [zR a0, u1, u2, u3, u4, zI a5] [zL s0, zR s1] sh pp mm Q ↔ zS 101 0 [zR s1, zL s0, zU, zU, zU, zU] [] sh pp mm (fun v sh pp mm => zS 94 83 [zR a0, zU, zU, zU, zU, zI a5] (zPush v []) sh pp mm Q) := s_call cS_fold_80 cS_fold_83 ((if_pos hk).trans rfl) rfl
theorem rS_fold_83 {a0 : Nat} {a5 s0 : Int} {u1 u2 u3 u4 : zV} : zS 94 83 [zR a0, u1, u2, u3, u4, zI a5] [zL s0] sh pp mm Q ↔ zS 94 84 [zR a0, zU, zU, zL s0, zU, zI a5] [] sh pp mm Q := s_go cS_fold_83 cS_fold_84 rfl rfl
theorem rS_fold_84 {a0 : Nat} {a3 a5 : Int} {u1 u2 u4 : zV} : zS 94 84 [zR a0, u1, u2, zL a3, u4, zI a5] [] sh pp mm Q ↔ zS 94 87 [zR a0, zU, zU, zL a3, zU, zI (zw32 (a5 + 1))] [] sh pp mm Q := s_go cS_fold_84 cS_fold_87 rfl rfl
theorem rS_fold_87 {a0 : Nat} {a3 a5 : Int} {u1 u2 u4 : zV} : zS 94 87 [zR a0, u1, u2, zL a3, u4, zI a5] [] sh pp mm Q ↔ zS 94 66 [zR a0, zU, zU, zL a3, zU, zI a5] [] sh pp mm Q := s_go cS_fold_87 cS_fold_66 rfl rfl
theorem rS_fold_90 {a0 : Nat} {a3 : Int} {u1 u2 u4 u5 : zV} : zS 94 90 [zR a0, u1, u2, zL a3, u4, u5] [] sh pp mm Q ↔ zS 94 91 [zR a0, zU, zU, zL a3, zU, zU] [zR a0] sh pp mm Q := s_go cS_fold_90 cS_fold_91 rfl rfl
theorem rS_fold_91 {a0 s0 : Nat} {a3 : Int} {u1 u2 u4 u5 : zV} (hk : zKd sh s0 = 9) : zS 94 91 [zR a0, u1, u2, zL a3, u4, u5] [zR s0] sh pp mm Q ↔ zS 94 94 [zR a0, zU, zU, zL a3, zU, zU] [zR (pp s0 4)] sh pp mm Q := s_go cS_fold_91 cS_fold_94 (if_pos hk) rfl
theorem rS_fold_94 {a0 s0 : Nat} {a3 : Int} {u1 u2 u4 u5 : zV} : zS 94 94 [zR a0, u1, u2, zL a3, u4, u5] [zR s0] sh pp mm Q ↔ zS 94 95 [zR a0, zU, zU, zL a3, zU, zU] [zR a0, zR s0] sh pp mm Q := s_go cS_fold_94 cS_fold_95 rfl rfl
theorem rS_fold_95 {a0 s0 s1 : Nat} {a3 : Int} {u1 u2 u4 u5 : zV} (hk : zKd sh s0 = 9) : zS 94 95 [zR a0, u1, u2, zL a3, u4, u5] [zR s0, zR s1] sh pp mm Q ↔ zS 94 98 [zR a0, zU, zU, zL a3, zU, zU] [zR (pp s0 3), zR s1] sh pp mm Q := s_go cS_fold_95 cS_fold_98 (if_pos hk) rfl
theorem rS_fold_98 {a0 s0 s1 : Nat} {a3 : Int} {u1 u2 u4 u5 : zV} : zS 94 98 [zR a0, u1, u2, zL a3, u4, u5] [zR s0, zR s1] sh pp mm Q ↔ zS 94 99 [zR a0, zU, zU, zL a3, zU, zU] [zR a0, zR s0, zR s1] sh pp mm Q := s_go cS_fold_98 cS_fold_99 rfl rfl
theorem rS_fold_99 {a0 s0 s1 s2 : Nat} {a3 : Int} {u1 u2 u4 u5 : zV} (hk : zKd sh s0 = 9) : zS 94 99 [zR a0, u1, u2, zL a3, u4, u5] [zR s0, zR s1, zR s2] sh pp mm Q ↔ zS 94 102 [zR a0, zU, zU, zL a3, zU, zU] [zR (pp s0 2), zR s1, zR s2] sh pp mm Q := s_go cS_fold_99 cS_fold_102 (if_pos hk) rfl
theorem rS_fold_102 {a0 s0 s1 s2 : Nat} {a3 : Int} {u1 u2 u4 u5 : zV} : zS 94 102 [zR a0, u1, u2, zL a3, u4, u5] [zR s0, zR s1, zR s2] sh pp mm Q ↔ zS 94 103 [zR a0, zU, zU, zU, zU, zU] [zL a3, zR s0, zR s1, zR s2] sh pp mm Q := s_go cS_fold_102 cS_fold_103 rfl rfl
theorem rS_fold_103 {a0 s1 s2 s3 : Nat} {s0 : Int} {u1 u2 u3 u4 u5 : zV} (hk : zKd sh s1 = 10) : zS 94 103 [zR a0, u1, u2, u3, u4, u5] [zL s0, zR s1, zR s2, zR s3] sh pp mm Q ↔ zS 101 0 [zR s1, zL s0, zU, zU, zU, zU] [] sh pp mm (fun v sh pp mm => zS 94 106 [zR a0, zU, zU, zU, zU, zU] (zPush v [zR s2, zR s3]) sh pp mm Q) := s_call cS_fold_103 cS_fold_106 ((if_pos hk).trans rfl) rfl
theorem rS_fold_106 {a0 s1 s2 : Nat} {s0 : Int} {u1 u2 u3 u4 u5 : zV} (hk : zKd sh s1 = 10) : zS 94 106 [zR a0, u1, u2, u3, u4, u5] [zL s0, zR s1, zR s2] sh pp mm Q ↔ zS 101 0 [zR s1, zL s0, zU, zU, zU, zU] [] sh pp mm (fun v sh pp mm => zS 94 109 [zR a0, zU, zU, zU, zU, zU] (zPush v [zR s2]) sh pp mm Q) := s_call cS_fold_106 cS_fold_109 ((if_pos hk).trans rfl) rfl
theorem rS_fold_109 {a0 s1 : Nat} {s0 : Int} {u1 u2 u3 u4 u5 : zV} (hk : zKd sh s1 = 10) : zS 94 109 [zR a0, u1, u2, u3, u4, u5] [zL s0, zR s1] sh pp mm Q ↔ zS 101 0 [zR s1, zL s0, zU, zU, zU, zU] [] sh pp mm (fun v sh pp mm => zS 94 112 [zR a0, zU, zU, zU, zU, zU] (zPush v []) sh pp mm Q) := s_call cS_fold_109 cS_fold_112 ((if_pos hk).trans rfl) rfl
theorem rS_fold_112 {a0 : Nat} {s0 : Int} {u1 u2 u3 u4 u5 : zV} : zS 94 112 [zR a0, u1, u2, u3, u4, u5] [zL s0] sh pp mm Q ↔ zS 94 113 [zR a0, zU, zU, zL s0, zU, zU] [] sh pp mm Q := s_go cS_fold_112 cS_fold_113 rfl rfl
theorem rS_fold_113 {a0 : Nat} {a3 : Int} {u1 u2 u4 u5 : zV} : zS 94 113 [zR a0, u1, u2, zL a3, u4, u5] [] sh pp mm Q ↔ zS 94 114 [zR a0, zU, zU, zL a3, zU, zU] [zI 0] sh pp mm Q := s_go cS_fold_113 cS_fold_114 rfl rfl
theorem rS_fold_114 {a0 : Nat} {a3 s0 : Int} {u1 u2 u4 u5 : zV} : zS 94 114 [zR a0, u1, u2, zL a3, u4, u5] [zI s0] sh pp mm Q ↔ zS 94 116 [zR a0, zU, zU, zL a3, zU, zI s0] [] sh pp mm Q := s_go cS_fold_114 cS_fold_116 rfl rfl
theorem rS_fold_116 {a0 : Nat} {a3 a5 : Int} {u1 u2 u4 : zV} : zS 94 116 [zR a0, u1, u2, zL a3, u4, zI a5] [] sh pp mm Q ↔ zS 94 118 [zR a0, zU, zU, zL a3, zU, zI a5] [zI a5] sh pp mm Q := s_go cS_fold_116 cS_fold_118 rfl rfl
theorem rS_fold_118 {a0 : Nat} {a3 a5 s0 : Int} {u1 u2 u4 : zV} : zS 94 118 [zR a0, u1, u2, zL a3, u4, zI a5] [zI s0] sh pp mm Q ↔ zS 94 121 [zR a0, zU, zU, zL a3, zU, zI a5] [zI 384, zI s0] sh pp mm Q := s_go cS_fold_118 cS_fold_121 rfl rfl
theorem rS_fold_121 {a0 : Nat} {a3 a5 s0 s1 : Int} {u1 u2 u4 : zV} : zS 94 121 [zR a0, u1, u2, zL a3, u4, zI a5] [zI s0, zI s1] sh pp mm Q ↔ (s1 < s0 → zS 94 124 [zR a0, zU, zU, zL a3, zU, zI a5] [] sh pp mm Q) ∧ (¬ s1 < s0 → zS 94 145 [zR a0, zU, zU, zL a3, zU, zU] [] sh pp mm Q) := s_ifn cS_fold_121 cS_fold_124 cS_fold_145 rfl rfl rfl
theorem rS_fold_124 {a0 : Nat} {a3 a5 : Int} {u1 u2 u4 : zV} : zS 94 124 [zR a0, u1, u2, zL a3, u4, zI a5] [] sh pp mm Q ↔ zS 94 127 [zR a0, zU, zU, zL a3, zU, zI a5] [zL 31] sh pp mm Q := s_go cS_fold_124 cS_fold_127 rfl rfl
theorem rS_fold_127 {a0 : Nat} {a3 a5 s0 : Int} {u1 u2 u4 : zV} : zS 94 127 [zR a0, u1, u2, zL a3, u4, zI a5] [zL s0] sh pp mm Q ↔ zS 94 128 [zR a0, zU, zU, zU, zU, zI a5] [zL a3, zL s0] sh pp mm Q := s_go cS_fold_127 cS_fold_128 rfl rfl
theorem rS_fold_128 {a0 : Nat} {a5 s0 s1 : Int} {u1 u2 u3 u4 : zV} : zS 94 128 [zR a0, u1, u2, u3, u4, zI a5] [zL s0, zL s1] sh pp mm Q ↔ zS 94 129 [zR a0, zU, zU, zU, zU, zI a5] [zL (zw64 (s1 * s0))] sh pp mm Q := s_go cS_fold_128 cS_fold_129 rfl rfl
theorem rS_fold_129 {a0 : Nat} {a5 s0 : Int} {u1 u2 u3 u4 : zV} : zS 94 129 [zR a0, u1, u2, u3, u4, zI a5] [zL s0] sh pp mm Q ↔ zS 94 130 [zR a0, zU, zU, zU, zU, zI a5] [zR a0, zL s0] sh pp mm Q := s_go cS_fold_129 cS_fold_130 rfl rfl
theorem rS_fold_130 {a0 s0 : Nat} {a5 s1 : Int} {u1 u2 u3 u4 : zV} (hk : zKd sh s0 = 9) : zS 94 130 [zR a0, u1, u2, u3, u4, zI a5] [zR s0, zL s1] sh pp mm Q ↔ zS 94 133 [zR a0, zU, zU, zU, zU, zI a5] [zR (pp s0 6), zL s1] sh pp mm Q := s_go cS_fold_130 cS_fold_133 (if_pos hk) rfl
theorem rS_fold_133 {a0 s0 : Nat} {a5 s1 : Int} {u1 u2 u3 u4 : zV} : zS 94 133 [zR a0, u1, u2, u3, u4, zI a5] [zR s0, zL s1] sh pp mm Q ↔ zS 94 135 [zR a0, zU, zU, zU, zU, zI a5] [zI a5, zR s0, zL s1] sh pp mm Q := s_go cS_fold_133 cS_fold_135 rfl rfl
theorem rS_fold_135 {a0 s1 : Nat} {a5 s0 s2 : Int} {u1 u2 u3 u4 : zV} (hk : zKd sh s1 = 20 ∨ zKd sh s1 = 30) (h0 : 0 ≤ s0) (h1 : s0 < zLn sh s1) : zS 94 135 [zR a0, u1, u2, u3, u4, zI a5] [zI s0, zR s1, zL s2] sh pp mm Q ↔ zS 94 136 [zR a0, zU, zU, zU, zU, zI a5] [zI (mm s1 s0), zL s2] sh pp mm Q := s_go cS_fold_135 cS_fold_136 (if_pos ⟨hk, h0, h1⟩) rfl
theorem rS_fold_136 {a0 : Nat} {a5 s0 s1 : Int} {u1 u2 u3 u4 : zV} : zS 94 136 [zR a0, u1, u2, u3, u4, zI a5] [zI s0, zL s1] sh pp mm Q ↔ zS 94 137 [zR a0, zU, zU, zU, zU, zI a5] [zL s0, zL s1] sh pp mm Q := s_go cS_fold_136 cS_fold_137 rfl rfl
theorem rS_fold_137 {a0 : Nat} {a5 s0 s1 : Int} {u1 u2 u3 u4 : zV} : zS 94 137 [zR a0, u1, u2, u3, u4, zI a5] [zL s0, zL s1] sh pp mm Q ↔ zS 94 138 [zR a0, zU, zU, zU, zU, zI a5] [zL (zw64 (s1 + s0))] sh pp mm Q := s_go cS_fold_137 cS_fold_138 rfl rfl
theorem rS_fold_138 {a0 : Nat} {a5 s0 : Int} {u1 u2 u3 u4 : zV} : zS 94 138 [zR a0, u1, u2, u3, u4, zI a5] [zL s0] sh pp mm Q ↔ zS 94 139 [zR a0, zU, zU, zL s0, zU, zI a5] [] sh pp mm Q := s_go cS_fold_138 cS_fold_139 rfl rfl
theorem rS_fold_139 {a0 : Nat} {a3 a5 : Int} {u1 u2 u4 : zV} : zS 94 139 [zR a0, u1, u2, zL a3, u4, zI a5] [] sh pp mm Q ↔ zS 94 142 [zR a0, zU, zU, zL a3, zU, zI (zw32 (a5 + 1))] [] sh pp mm Q := s_go cS_fold_139 cS_fold_142 rfl rfl
theorem rS_fold_142 {a0 : Nat} {a3 a5 : Int} {u1 u2 u4 : zV} : zS 94 142 [zR a0, u1, u2, zL a3, u4, zI a5] [] sh pp mm Q ↔ zS 94 116 [zR a0, zU, zU, zL a3, zU, zI a5] [] sh pp mm Q := s_go cS_fold_142 cS_fold_116 rfl rfl
theorem rS_fold_145 {a0 : Nat} {a3 : Int} {u1 u2 u4 u5 : zV} : zS 94 145 [zR a0, u1, u2, zL a3, u4, u5] [] sh pp mm Q ↔ zS 94 146 [zU, zU, zU, zL a3, zU, zU] [zR a0] sh pp mm Q := s_go cS_fold_145 cS_fold_146 rfl rfl
theorem rS_fold_146 {s0 : Nat} {a3 : Int} {u0 u1 u2 u4 u5 : zV} (hk : zKd sh s0 = 9) : zS 94 146 [u0, u1, u2, zL a3, u4, u5] [zR s0] sh pp mm Q ↔ zS 94 149 [zU, zU, zU, zL a3, zU, zU] [zR (pp s0 5)] sh pp mm Q := s_go cS_fold_146 cS_fold_149 (if_pos hk) rfl
theorem rS_fold_149 {s0 : Nat} {a3 : Int} {u0 u1 u2 u4 u5 : zV} : zS 94 149 [u0, u1, u2, zL a3, u4, u5] [zR s0] sh pp mm Q ↔ zS 94 150 [zU, zU, zU, zU, zU, zU] [zL a3, zR s0] sh pp mm Q := s_go cS_fold_149 cS_fold_150 rfl rfl
theorem rS_fold_150 {s1 : Nat} {s0 : Int} {u0 u1 u2 u3 u4 u5 : zV} (hk : zKd sh s1 = 10) : zS 94 150 [u0, u1, u2, u3, u4, u5] [zL s0, zR s1] sh pp mm Q ↔ zS 101 0 [zR s1, zL s0, zU, zU, zU, zU] [] sh pp mm (fun v sh pp mm => zS 94 153 [zU, zU, zU, zU, zU, zU] (zPush v []) sh pp mm Q) := s_call cS_fold_150 cS_fold_153 ((if_pos hk).trans rfl) rfl
theorem rS_fold_153 {s0 : Int} {u0 u1 u2 u3 u4 u5 : zV} : zS 94 153 [u0, u1, u2, u3, u4, u5] [zL s0] sh pp mm Q ↔ Q (zL s0) sh pp mm := s_ret cS_fold_153 rfl
end
