/-! rules of the small machine at each place of the code, by program: B_init, B_become, B_take, B_isEven, B_isOne, B_trim, B_multiply, B_addTimes, B_subtract, B_halve, B_halveUntilOdd, B_against, B_divide, B_inverseOfLowest, B_fold, K_init, K_begin, K_click, T_init, T_isFull, T_at, T_add, T_empty, T_take, T_fold -/
section
variable {sh : zSh} {pp : zPp} {mm : zMm} {Q : zV → zSh → zPp → zMm → Prop}
theorem cAB_init : ∀ q ∈ zT0, zCode 0 q.1 = some q.2 := zAll (mid := 0) rfl (by decide +kernel)
theorem cAB_init_0 : ∀ q ∈ zT0_0, zCode 0 q.1 = some q.2 := fun q h => cAB_init q (h)
theorem cB_init_0 : zCode 0 0 = some (.aload_n 0, 1, 0, 0, 0, 0, 1) := cAB_init_0 _ (List.mem_of_getElem? (i := 0) rfl)
theorem cB_init_1 : zCode 0 1 = some (.invokespecial 3, 4, 0, 78, 0, 332, 1) := cAB_init_0 _ (List.mem_of_getElem? (i := 1) rfl)
theorem cB_init_4 : zCode 0 4 = some (.aload_n 0, 5, 0, 0, 0, 0, 1) := cAB_init_0 _ (List.mem_of_getElem? (i := 2) rfl)
theorem cB_init_5 : zCode 0 5 = some (.bipush 8, 7, 0, 0, 0, 0, 1) := cAB_init_0 _ (List.mem_of_getElem? (i := 3) rfl)
theorem cB_init_7 : zCode 0 7 = some (.newarray .int, 9, 20, 0, 0, 0, 1) := cAB_init_0 _ (List.mem_of_getElem? (i := 4) rfl)
theorem cB_init_9 : zCode 0 9 = some (.putfield 9, 12, 0, 0, 2, 333, 1) := cAB_init_0 _ (List.mem_of_getElem? (i := 5) rfl)
theorem cB_init_12 : zCode 0 12 = some (.aload_n 0, 13, 0, 0, 0, 0, 1) := cAB_init_0 _ (List.mem_of_getElem? (i := 6) rfl)
theorem cB_init_13 : zCode 0 13 = some (.iconst 0, 14, 0, 0, 0, 0, 0) := cAB_init_0 _ (List.mem_of_getElem? (i := 7) rfl)
theorem cB_init_14 : zCode 0 14 = some (.putfield 15, 17, 0, 1, 0, 335, 0) := cAB_init_0 _ (List.mem_of_getElem? (i := 8) rfl)
theorem cB_init_17 : zCode 0 17 = some (.return_, 18, 0, 0, 0, 0, 0) := cAB_init_0 _ (List.mem_of_getElem? (i := 9) rfl)
theorem rB_init_0 {a0 : Nat} : zS 0 0 [zR a0] [] sh pp mm Q ↔ zS 0 1 [zR a0] [zR a0] sh pp mm Q := s_go cB_init_0 cB_init_1 rfl rfl
theorem rB_init_1 {a0 s0 : Nat} (hr : s0 ≠ 0) (hl : s0 < sh.length) : zS 0 1 [zR a0] [zR s0] sh pp mm Q ↔ zS 0 4 [zR a0] [] sh pp mm Q := s_go cB_init_1 cB_init_4 (if_pos ⟨hr, hl, by decide⟩) rfl
theorem rB_init_4 {a0 : Nat} : zS 0 4 [zR a0] [] sh pp mm Q ↔ zS 0 5 [zR a0] [zR a0] sh pp mm Q := s_go cB_init_4 cB_init_5 rfl rfl
theorem rB_init_5 {a0 s0 : Nat} : zS 0 5 [zR a0] [zR s0] sh pp mm Q ↔ zS 0 7 [zR a0] [zI 8, zR s0] sh pp mm Q := s_go cB_init_5 cB_init_7 rfl rfl
theorem rB_init_7 {a0 s1 : Nat} {s0 : Int} (h0 : 0 ≤ s0) (h1 : s0 ≤ 100000) : zS 0 7 [zR a0] [zI s0, zR s1] sh pp mm Q ↔ zS 0 9 [zR a0] [zR sh.length, zR s1] (sh ++ [(20, s0.toNat)]) (zclp pp sh.length) (zclr mm sh.length) Q := s_go cB_init_7 cB_init_9 (if_pos ⟨h0, h1⟩) rfl
theorem rB_init_9 {a0 s0 s1 : Nat} (hk : zKd sh s1 = 0) : zS 0 9 [zR a0] [zR s0, zR s1] sh pp mm Q ↔ zS 0 12 [zR a0] [] sh (zupp pp s1 0 s0) mm Q := s_go cB_init_9 cB_init_12 (if_pos ⟨hk, rfl⟩) rfl
theorem rB_init_12 {a0 : Nat} : zS 0 12 [zR a0] [] sh pp mm Q ↔ zS 0 13 [zU] [zR a0] sh pp mm Q := s_go cB_init_12 cB_init_13 rfl rfl
theorem rB_init_13 {s0 : Nat} {u0 : zV} : zS 0 13 [u0] [zR s0] sh pp mm Q ↔ zS 0 14 [zU] [zI 0, zR s0] sh pp mm Q := s_go cB_init_13 cB_init_14 rfl rfl
theorem rB_init_14 {s1 : Nat} {s0 : Int} {u0 : zV} (hk : zKd sh s1 = 0) : zS 0 14 [u0] [zI s0, zR s1] sh pp mm Q ↔ zS 0 17 [zU] [] sh pp (zupd mm s1 1 s0) Q := s_go cB_init_14 cB_init_17 (if_pos ⟨hk, Or.inl rfl⟩) rfl
theorem rB_init_17 {u0 : zV} : zS 0 17 [u0] [] sh pp mm Q ↔ Q zU sh pp mm := s_ret cB_init_17 rfl
theorem cAB_become : ∀ q ∈ zT1, zCode 1 q.1 = some q.2 := zAll (mid := 1) rfl (by decide +kernel)
theorem cAB_become_0 : ∀ q ∈ zT1_0, zCode 1 q.1 = some q.2 := fun q h => cAB_become q (List.mem_append_left _ h)
theorem cAB_become_1 : ∀ q ∈ zT1_1, zCode 1 q.1 = some q.2 := fun q h => cAB_become q (List.mem_append_right _ h)
theorem cB_become_0 : zCode 1 0 = some (.aload_n 0, 1, 0, 0, 0, 0, 3) := cAB_become_0 _ (List.mem_of_getElem? (i := 0) rfl)
theorem cB_become_1 : zCode 1 1 = some (.getfield 9, 4, 0, 0, 2, 333, 3) := cAB_become_0 _ (List.mem_of_getElem? (i := 1) rfl)
theorem cB_become_4 : zCode 1 4 = some (.iconst 0, 5, 0, 0, 0, 0, 3) := cAB_become_0 _ (List.mem_of_getElem? (i := 2) rfl)
theorem cB_become_5 : zCode 1 5 = some (.invokestatic 19, 8, 271, 2, 4, 18, 3) := cAB_become_0 _ (List.mem_of_getElem? (i := 3) rfl)
theorem cB_become_8 : zCode 1 8 = some (.aload_n 0, 9, 0, 0, 0, 0, 3) := cAB_become_0 _ (List.mem_of_getElem? (i := 4) rfl)
theorem cB_become_9 : zCode 1 9 = some (.getfield 9, 12, 0, 0, 2, 333, 3) := cAB_become_0 _ (List.mem_of_getElem? (i := 5) rfl)
theorem cB_become_12 : zCode 1 12 = some (.iconst 0, 13, 0, 0, 0, 0, 3) := cAB_become_0 _ (List.mem_of_getElem? (i := 6) rfl)
theorem cB_become_13 : zCode 1 13 = some (.iload_n 1, 14, 0, 0, 0, 0, 3) := cAB_become_0 _ (List.mem_of_getElem? (i := 7) rfl)
theorem cB_become_14 : zCode 1 14 = some (.ldc 25, 16, 0, 0, 348, 1073741823, 3) := cAB_become_0 _ (List.mem_of_getElem? (i := 8) rfl)
theorem cB_become_16 : zCode 1 16 = some (.iand, 17, 0, 0, 0, 0, 3) := cAB_become_0 _ (List.mem_of_getElem? (i := 9) rfl)
theorem cB_become_17 : zCode 1 17 = some (.iastore, 18, 0, 0, 0, 0, 3) := cAB_become_0 _ (List.mem_of_getElem? (i := 10) rfl)
theorem cB_become_18 : zCode 1 18 = some (.aload_n 0, 19, 0, 0, 0, 0, 3) := cAB_become_0 _ (List.mem_of_getElem? (i := 11) rfl)
theorem cB_become_19 : zCode 1 19 = some (.iload_n 1, 20, 0, 0, 0, 0, 2) := cAB_become_0 _ (List.mem_of_getElem? (i := 12) rfl)
theorem cB_become_20 : zCode 1 20 = some (.ifCond .ne 7, 23, 27, 0, 0, 0, 0) := cAB_become_0 _ (List.mem_of_getElem? (i := 13) rfl)
theorem cB_become_23 : zCode 1 23 = some (.iconst 0, 24, 0, 0, 0, 0, 0) := cAB_become_0 _ (List.mem_of_getElem? (i := 14) rfl)
theorem cB_become_24 : zCode 1 24 = some (.goto 4, 27, 28, 0, 0, 0, 0) := cAB_become_0 _ (List.mem_of_getElem? (i := 15) rfl)
theorem cB_become_27 : zCode 1 27 = some (.iconst 1, 28, 0, 0, 0, 0, 0) := cAB_become_1 _ (List.mem_of_getElem? (i := 0) rfl)
theorem cB_become_28 : zCode 1 28 = some (.putfield 15, 31, 0, 1, 0, 335, 0) := cAB_become_1 _ (List.mem_of_getElem? (i := 1) rfl)
theorem cB_become_31 : zCode 1 31 = some (.return_, 32, 0, 0, 0, 0, 0) := cAB_become_1 _ (List.mem_of_getElem? (i := 2) rfl)
theorem rB_become_0 {a0 : Nat} {a1 : Int} : zS 1 0 [zR a0, zI a1] [] sh pp mm Q ↔ zS 1 1 [zR a0, zI a1] [zR a0] sh pp mm Q := s_go cB_become_0 cB_become_1 rfl rfl
theorem rB_become_1 {a0 s0 : Nat} {a1 : Int} (hk : zKd sh s0 = 0) : zS 1 1 [zR a0, zI a1] [zR s0] sh pp mm Q ↔ zS 1 4 [zR a0, zI a1] [zR (pp s0 0)] sh pp mm Q := s_go cB_become_1 cB_become_4 (if_pos hk) rfl
theorem rB_become_4 {a0 s0 : Nat} {a1 : Int} : zS 1 4 [zR a0, zI a1] [zR s0] sh pp mm Q ↔ zS 1 5 [zR a0, zI a1] [zI 0, zR s0] sh pp mm Q := s_go cB_become_4 cB_become_5 rfl rfl
theorem rB_become_5 {a0 s1 : Nat} {a1 s0 : Int} : zS 1 5 [zR a0, zI a1] [zI s0, zR s1] sh pp mm Q ↔ zS 271 0 [zR s1, zI s0, zU, zU] [] sh pp mm (fun v sh pp mm => zS 1 8 [zR a0, zI a1] (zPush v []) sh pp mm Q) := s_call cB_become_5 cB_become_8 rfl rfl
theorem rB_become_8 {a0 : Nat} {a1 : Int} : zS 1 8 [zR a0, zI a1] [] sh pp mm Q ↔ zS 1 9 [zR a0, zI a1] [zR a0] sh pp mm Q := s_go cB_become_8 cB_become_9 rfl rfl
theorem rB_become_9 {a0 s0 : Nat} {a1 : Int} (hk : zKd sh s0 = 0) : zS 1 9 [zR a0, zI a1] [zR s0] sh pp mm Q ↔ zS 1 12 [zR a0, zI a1] [zR (pp s0 0)] sh pp mm Q := s_go cB_become_9 cB_become_12 (if_pos hk) rfl
theorem rB_become_12 {a0 s0 : Nat} {a1 : Int} : zS 1 12 [zR a0, zI a1] [zR s0] sh pp mm Q ↔ zS 1 13 [zR a0, zI a1] [zI 0, zR s0] sh pp mm Q := s_go cB_become_12 cB_become_13 rfl rfl
theorem rB_become_13 {a0 s1 : Nat} {a1 s0 : Int} : zS 1 13 [zR a0, zI a1] [zI s0, zR s1] sh pp mm Q ↔ zS 1 14 [zR a0, zI a1] [zI a1, zI s0, zR s1] sh pp mm Q := s_go cB_become_13 cB_become_14 rfl rfl
theorem rB_become_14 {a0 s2 : Nat} {a1 s0 s1 : Int} : zS 1 14 [zR a0, zI a1] [zI s0, zI s1, zR s2] sh pp mm Q ↔ zS 1 16 [zR a0, zI a1] [zI 1073741823, zI s0, zI s1, zR s2] sh pp mm Q := s_go cB_become_14 cB_become_16 rfl rfl
theorem rB_become_16 {a0 s3 : Nat} {a1 s0 s1 s2 : Int} : zS 1 16 [zR a0, zI a1] [zI s0, zI s1, zI s2, zR s3] sh pp mm Q ↔ zS 1 17 [zR a0, zI a1] [zI (zand s1 s0), zI s2, zR s3] sh pp mm Q := s_go cB_become_16 cB_become_17 rfl rfl
theorem rB_become_17 {a0 s2 : Nat} {a1 s0 s1 : Int} (hk : zKd sh s2 = 20) (h0 : 0 ≤ s1) (h1 : s1 < zLn sh s2) : zS 1 17 [zR a0, zI a1] [zI s0, zI s1, zR s2] sh pp mm Q ↔ zS 1 18 [zR a0, zI a1] [] sh pp (zupd mm s2 s1 s0) Q := s_go cB_become_17 cB_become_18 (if_pos ⟨hk, h0, h1, fun h => absurd h (by decide)⟩) rfl
theorem rB_become_18 {a0 : Nat} {a1 : Int} : zS 1 18 [zR a0, zI a1] [] sh pp mm Q ↔ zS 1 19 [zU, zI a1] [zR a0] sh pp mm Q := s_go cB_become_18 cB_become_19 rfl rfl
theorem rB_become_19 {s0 : Nat} {a1 : Int} {u0 : zV} : zS 1 19 [u0, zI a1] [zR s0] sh pp mm Q ↔ zS 1 20 [zU, zU] [zI a1, zR s0] sh pp mm Q := s_go cB_become_19 cB_become_20 rfl rfl
theorem rB_become_20 {s1 : Nat} {s0 : Int} {u0 u1 : zV} : zS 1 20 [u0, u1] [zI s0, zR s1] sh pp mm Q ↔ (s0 = 0 → zS 1 23 [zU, zU] [zR s1] sh pp mm Q) ∧ (¬ s0 = 0 → zS 1 27 [zU, zU] [zR s1] sh pp mm Q) := s_ifn cB_become_20 cB_become_23 cB_become_27 rfl rfl rfl
theorem rB_become_23 {s0 : Nat} {u0 u1 : zV} : zS 1 23 [u0, u1] [zR s0] sh pp mm Q ↔ zS 1 24 [zU, zU] [zI 0, zR s0] sh pp mm Q := s_go cB_become_23 cB_become_24 rfl rfl
theorem rB_become_24 {s1 : Nat} {s0 : Int} {u0 u1 : zV} : zS 1 24 [u0, u1] [zI s0, zR s1] sh pp mm Q ↔ zS 1 28 [zU, zU] [zI s0, zR s1] sh pp mm Q := s_go cB_become_24 cB_become_28 rfl rfl
theorem rB_become_27 {s0 : Nat} {u0 u1 : zV} : zS 1 27 [u0, u1] [zR s0] sh pp mm Q ↔ zS 1 28 [zU, zU] [zI 1, zR s0] sh pp mm Q := s_go cB_become_27 cB_become_28 rfl rfl
theorem rB_become_28 {s1 : Nat} {s0 : Int} {u0 u1 : zV} (hk : zKd sh s1 = 0) : zS 1 28 [u0, u1] [zI s0, zR s1] sh pp mm Q ↔ zS 1 31 [zU, zU] [] sh pp (zupd mm s1 1 s0) Q := s_go cB_become_28 cB_become_31 (if_pos ⟨hk, Or.inl rfl⟩) rfl
theorem rB_become_31 {u0 u1 : zV} : zS 1 31 [u0, u1] [] sh pp mm Q ↔ Q zU sh pp mm := s_ret cB_become_31 rfl
theorem cAB_take : ∀ q ∈ zT2, zCode 2 q.1 = some q.2 := zAll (mid := 2) rfl (by decide +kernel)
theorem cAB_take_0 : ∀ q ∈ zT2_0, zCode 2 q.1 = some q.2 := fun q h => cAB_take q (h)
theorem cB_take_0 : zCode 2 0 = some (.aload_n 1, 1, 0, 0, 0, 0, 3) := cAB_take_0 _ (List.mem_of_getElem? (i := 0) rfl)
theorem cB_take_1 : zCode 2 1 = some (.getfield 9, 4, 0, 0, 2, 333, 3) := cAB_take_0 _ (List.mem_of_getElem? (i := 1) rfl)
theorem cB_take_4 : zCode 2 4 = some (.iconst 0, 5, 0, 0, 0, 0, 3) := cAB_take_0 _ (List.mem_of_getElem? (i := 2) rfl)
theorem cB_take_5 : zCode 2 5 = some (.aload_n 0, 6, 0, 0, 0, 0, 3) := cAB_take_0 _ (List.mem_of_getElem? (i := 3) rfl)
theorem cB_take_6 : zCode 2 6 = some (.getfield 9, 9, 0, 0, 2, 333, 3) := cAB_take_0 _ (List.mem_of_getElem? (i := 4) rfl)
theorem cB_take_9 : zCode 2 9 = some (.iconst 0, 10, 0, 0, 0, 0, 3) := cAB_take_0 _ (List.mem_of_getElem? (i := 5) rfl)
theorem cB_take_10 : zCode 2 10 = some (.bipush 8, 12, 0, 0, 0, 0, 3) := cAB_take_0 _ (List.mem_of_getElem? (i := 6) rfl)
theorem cB_take_12 : zCode 2 12 = some (.invokestatic 26, 15, 0, 77, 0, 1083, 3) := cAB_take_0 _ (List.mem_of_getElem? (i := 7) rfl)
theorem cB_take_15 : zCode 2 15 = some (.aload_n 0, 16, 0, 0, 0, 0, 3) := cAB_take_0 _ (List.mem_of_getElem? (i := 8) rfl)
theorem cB_take_16 : zCode 2 16 = some (.aload_n 1, 17, 0, 0, 0, 0, 2) := cAB_take_0 _ (List.mem_of_getElem? (i := 9) rfl)
theorem cB_take_17 : zCode 2 17 = some (.getfield 15, 20, 0, 1, 0, 335, 0) := cAB_take_0 _ (List.mem_of_getElem? (i := 10) rfl)
theorem cB_take_20 : zCode 2 20 = some (.putfield 15, 23, 0, 1, 0, 335, 0) := cAB_take_0 _ (List.mem_of_getElem? (i := 11) rfl)
theorem cB_take_23 : zCode 2 23 = some (.return_, 24, 0, 0, 0, 0, 0) := cAB_take_0 _ (List.mem_of_getElem? (i := 12) rfl)
theorem rB_take_0 {a0 a1 : Nat} : zS 2 0 [zR a0, zR a1] [] sh pp mm Q ↔ zS 2 1 [zR a0, zR a1] [zR a1] sh pp mm Q := s_go cB_take_0 cB_take_1 rfl rfl
theorem rB_take_1 {a0 a1 s0 : Nat} (hk : zKd sh s0 = 0) : zS 2 1 [zR a0, zR a1] [zR s0] sh pp mm Q ↔ zS 2 4 [zR a0, zR a1] [zR (pp s0 0)] sh pp mm Q := s_go cB_take_1 cB_take_4 (if_pos hk) rfl
theorem rB_take_4 {a0 a1 s0 : Nat} : zS 2 4 [zR a0, zR a1] [zR s0] sh pp mm Q ↔ zS 2 5 [zR a0, zR a1] [zI 0, zR s0] sh pp mm Q := s_go cB_take_4 cB_take_5 rfl rfl
theorem rB_take_5 {a0 a1 s1 : Nat} {s0 : Int} : zS 2 5 [zR a0, zR a1] [zI s0, zR s1] sh pp mm Q ↔ zS 2 6 [zR a0, zR a1] [zR a0, zI s0, zR s1] sh pp mm Q := s_go cB_take_5 cB_take_6 rfl rfl
theorem rB_take_6 {a0 a1 s0 s2 : Nat} {s1 : Int} (hk : zKd sh s0 = 0) : zS 2 6 [zR a0, zR a1] [zR s0, zI s1, zR s2] sh pp mm Q ↔ zS 2 9 [zR a0, zR a1] [zR (pp s0 0), zI s1, zR s2] sh pp mm Q := s_go cB_take_6 cB_take_9 (if_pos hk) rfl
theorem rB_take_9 {a0 a1 s0 s2 : Nat} {s1 : Int} : zS 2 9 [zR a0, zR a1] [zR s0, zI s1, zR s2] sh pp mm Q ↔ zS 2 10 [zR a0, zR a1] [zI 0, zR s0, zI s1, zR s2] sh pp mm Q := s_go cB_take_9 cB_take_10 rfl rfl
theorem rB_take_10 {a0 a1 s1 s3 : Nat} {s0 s2 : Int} : zS 2 10 [zR a0, zR a1] [zI s0, zR s1, zI s2, zR s3] sh pp mm Q ↔ zS 2 12 [zR a0, zR a1] [zI 8, zI s0, zR s1, zI s2, zR s3] sh pp mm Q := s_go cB_take_10 cB_take_12 rfl rfl
theorem rB_take_12 {a0 a1 s2 s4 : Nat} {s0 s1 s3 : Int} (hs : zKd sh s4 = 20 ∨ zKd sh s4 = 30) (hd : zKd sh s2 = 20) (hn : s4 ≠ s2) (h0 : 0 ≤ s3) (h1 : 0 ≤ s1) (h2 : 0 ≤ s0) (h3 : s3 + s0 ≤ zLn sh s4) (h4 : s1 + s0 ≤ zLn sh s2) : zS 2 12 [zR a0, zR a1] [zI s0, zI s1, zR s2, zI s3, zR s4] sh pp mm Q ↔ zS 2 15 [zR a0, zR a1] [] sh pp (zcpy mm s4 s3 s2 s1 s0) Q := s_go cB_take_12 cB_take_15 (if_pos ⟨hs, hd, hn, h0, h1, h2, h3, h4, by decide⟩) rfl
theorem rB_take_15 {a0 a1 : Nat} : zS 2 15 [zR a0, zR a1] [] sh pp mm Q ↔ zS 2 16 [zU, zR a1] [zR a0] sh pp mm Q := s_go cB_take_15 cB_take_16 rfl rfl
theorem rB_take_16 {a1 s0 : Nat} {u0 : zV} : zS 2 16 [u0, zR a1] [zR s0] sh pp mm Q ↔ zS 2 17 [zU, zU] [zR a1, zR s0] sh pp mm Q := s_go cB_take_16 cB_take_17 rfl rfl
theorem rB_take_17 {s0 s1 : Nat} {u0 u1 : zV} (hk : zKd sh s0 = 0) : zS 2 17 [u0, u1] [zR s0, zR s1] sh pp mm Q ↔ zS 2 20 [zU, zU] [zI (mm s0 1), zR s1] sh pp mm Q := s_go cB_take_17 cB_take_20 (if_pos hk) rfl
theorem rB_take_20 {s1 : Nat} {s0 : Int} {u0 u1 : zV} (hk : zKd sh s1 = 0) : zS 2 20 [u0, u1] [zI s0, zR s1] sh pp mm Q ↔ zS 2 23 [zU, zU] [] sh pp (zupd mm s1 1 s0) Q := s_go cB_take_20 cB_take_23 (if_pos ⟨hk, Or.inl rfl⟩) rfl
theorem rB_take_23 {u0 u1 : zV} : zS 2 23 [u0, u1] [] sh pp mm Q ↔ Q zU sh pp mm := s_ret cB_take_23 rfl
theorem cAB_isEven : ∀ q ∈ zT3, zCode 3 q.1 = some q.2 := zAll (mid := 3) rfl (by decide +kernel)
theorem cAB_isEven_0 : ∀ q ∈ zT3_0, zCode 3 q.1 = some q.2 := fun q h => cAB_isEven q (h)
theorem cB_isEven_0 : zCode 3 0 = some (.aload_n 0, 1, 0, 0, 0, 0, 1) := cAB_isEven_0 _ (List.mem_of_getElem? (i := 0) rfl)
theorem cB_isEven_1 : zCode 3 1 = some (.getfield 9, 4, 0, 0, 2, 333, 0) := cAB_isEven_0 _ (List.mem_of_getElem? (i := 1) rfl)
theorem cB_isEven_4 : zCode 3 4 = some (.iconst 0, 5, 0, 0, 0, 0, 0) := cAB_isEven_0 _ (List.mem_of_getElem? (i := 2) rfl)
theorem cB_isEven_5 : zCode 3 5 = some (.iaload, 6, 0, 0, 0, 0, 0) := cAB_isEven_0 _ (List.mem_of_getElem? (i := 3) rfl)
theorem cB_isEven_6 : zCode 3 6 = some (.iconst 1, 7, 0, 0, 0, 0, 0) := cAB_isEven_0 _ (List.mem_of_getElem? (i := 4) rfl)
theorem cB_isEven_7 : zCode 3 7 = some (.iand, 8, 0, 0, 0, 0, 0) := cAB_isEven_0 _ (List.mem_of_getElem? (i := 5) rfl)
theorem cB_isEven_8 : zCode 3 8 = some (.ifCond .ne 7, 11, 15, 0, 0, 0, 0) := cAB_isEven_0 _ (List.mem_of_getElem? (i := 6) rfl)
theorem cB_isEven_11 : zCode 3 11 = some (.iconst 1, 12, 0, 0, 0, 0, 0) := cAB_isEven_0 _ (List.mem_of_getElem? (i := 7) rfl)
theorem cB_isEven_12 : zCode 3 12 = some (.goto 4, 15, 16, 0, 0, 0, 0) := cAB_isEven_0 _ (List.mem_of_getElem? (i := 8) rfl)
theorem cB_isEven_15 : zCode 3 15 = some (.iconst 0, 16, 0, 0, 0, 0, 0) := cAB_isEven_0 _ (List.mem_of_getElem? (i := 9) rfl)
theorem cB_isEven_16 : zCode 3 16 = some (.ireturn, 17, 0, 3, 0, 0, 0) := cAB_isEven_0 _ (List.mem_of_getElem? (i := 10) rfl)
theorem rB_isEven_0 {a0 : Nat} : zS 3 0 [zR a0] [] sh pp mm Q ↔ zS 3 1 [zU] [zR a0] sh pp mm Q := s_go cB_isEven_0 cB_isEven_1 rfl rfl
theorem rB_isEven_1 {s0 : Nat} {u0 : zV} (hk : zKd sh s0 = 0) : zS 3 1 [u0] [zR s0] sh pp mm Q ↔ zS 3 4 [zU] [zR (pp s0 0)] sh pp mm Q := s_go cB_isEven_1 cB_isEven_4 (if_pos hk) rfl
theorem rB_isEven_4 {s0 : Nat} {u0 : zV} : zS 3 4 [u0] [zR s0] sh pp mm Q ↔ zS 3 5 [zU] [zI 0, zR s0] sh pp mm Q := s_go cB_isEven_4 cB_isEven_5 rfl rfl
theorem rB_isEven_5 {s1 : Nat} {s0 : Int} {u0 : zV} (hk : zKd sh s1 = 20 ∨ zKd sh s1 = 30) (h0 : 0 ≤ s0) (h1 : s0 < zLn sh s1) : zS 3 5 [u0] [zI s0, zR s1] sh pp mm Q ↔ zS 3 6 [zU] [zI (mm s1 s0)] sh pp mm Q := s_go cB_isEven_5 cB_isEven_6 (if_pos ⟨hk, h0, h1⟩) rfl
theorem rB_isEven_6 {s0 : Int} {u0 : zV} : zS 3 6 [u0] [zI s0] sh pp mm Q ↔ zS 3 7 [zU] [zI 1, zI s0] sh pp mm Q := s_go cB_isEven_6 cB_isEven_7 rfl rfl
theorem rB_isEven_7 {s0 s1 : Int} {u0 : zV} : zS 3 7 [u0] [zI s0, zI s1] sh pp mm Q ↔ zS 3 8 [zU] [zI (zand s1 s0)] sh pp mm Q := s_go cB_isEven_7 cB_isEven_8 rfl rfl
theorem rB_isEven_8 {s0 : Int} {u0 : zV} : zS 3 8 [u0] [zI s0] sh pp mm Q ↔ (s0 = 0 → zS 3 11 [zU] [] sh pp mm Q) ∧ (¬ s0 = 0 → zS 3 15 [zU] [] sh pp mm Q) := s_ifn cB_isEven_8 cB_isEven_11 cB_isEven_15 rfl rfl rfl
theorem rB_isEven_11 {u0 : zV} : zS 3 11 [u0] [] sh pp mm Q ↔ zS 3 12 [zU] [zI 1] sh pp mm Q := s_go cB_isEven_11 cB_isEven_12 rfl rfl
theorem rB_isEven_12 {s0 : Int} {u0 : zV} : zS 3 12 [u0] [zI s0] sh pp mm Q ↔ zS 3 16 [zU] [zI s0] sh pp mm Q := s_go cB_isEven_12 cB_isEven_16 rfl rfl
theorem rB_isEven_15 {u0 : zV} : zS 3 15 [u0] [] sh pp mm Q ↔ zS 3 16 [zU] [zI 0] sh pp mm Q := s_go cB_isEven_15 cB_isEven_16 rfl rfl
theorem rB_isEven_16 {s0 : Int} {u0 : zV} (hb : s0 = 0 ∨ s0 = 1) : zS 3 16 [u0] [zI s0] sh pp mm Q ↔ Q (zI s0) sh pp mm := s_ret cB_isEven_16 (if_pos (decide_eq_true hb))
theorem cAB_isOne : ∀ q ∈ zT4, zCode 4 q.1 = some q.2 := zAll (mid := 4) rfl (by decide +kernel)
theorem cAB_isOne_0 : ∀ q ∈ zT4_0, zCode 4 q.1 = some q.2 := fun q h => cAB_isOne q (h)
theorem cB_isOne_0 : zCode 4 0 = some (.aload_n 0, 1, 0, 0, 0, 0, 1) := cAB_isOne_0 _ (List.mem_of_getElem? (i := 0) rfl)
theorem cB_isOne_1 : zCode 4 1 = some (.getfield 15, 4, 0, 1, 0, 335, 1) := cAB_isOne_0 _ (List.mem_of_getElem? (i := 1) rfl)
theorem cB_isOne_4 : zCode 4 4 = some (.iconst 1, 5, 0, 0, 0, 0, 1) := cAB_isOne_0 _ (List.mem_of_getElem? (i := 2) rfl)
theorem cB_isOne_5 : zCode 4 5 = some (.if_icmp .ne 17, 8, 22, 0, 0, 0, 1) := cAB_isOne_0 _ (List.mem_of_getElem? (i := 3) rfl)
theorem cB_isOne_8 : zCode 4 8 = some (.aload_n 0, 9, 0, 0, 0, 0, 1) := cAB_isOne_0 _ (List.mem_of_getElem? (i := 4) rfl)
theorem cB_isOne_9 : zCode 4 9 = some (.getfield 9, 12, 0, 0, 2, 333, 0) := cAB_isOne_0 _ (List.mem_of_getElem? (i := 5) rfl)
theorem cB_isOne_12 : zCode 4 12 = some (.iconst 0, 13, 0, 0, 0, 0, 0) := cAB_isOne_0 _ (List.mem_of_getElem? (i := 6) rfl)
theorem cB_isOne_13 : zCode 4 13 = some (.iaload, 14, 0, 0, 0, 0, 0) := cAB_isOne_0 _ (List.mem_of_getElem? (i := 7) rfl)
theorem cB_isOne_14 : zCode 4 14 = some (.iconst 1, 15, 0, 0, 0, 0, 0) := cAB_isOne_0 _ (List.mem_of_getElem? (i := 8) rfl)
theorem cB_isOne_15 : zCode 4 15 = some (.if_icmp .ne 7, 18, 22, 0, 0, 0, 0) := cAB_isOne_0 _ (List.mem_of_getElem? (i := 9) rfl)
theorem cB_isOne_18 : zCode 4 18 = some (.iconst 1, 19, 0, 0, 0, 0, 0) := cAB_isOne_0 _ (List.mem_of_getElem? (i := 10) rfl)
theorem cB_isOne_19 : zCode 4 19 = some (.goto 4, 22, 23, 0, 0, 0, 0) := cAB_isOne_0 _ (List.mem_of_getElem? (i := 11) rfl)
theorem cB_isOne_22 : zCode 4 22 = some (.iconst 0, 23, 0, 0, 0, 0, 0) := cAB_isOne_0 _ (List.mem_of_getElem? (i := 12) rfl)
theorem cB_isOne_23 : zCode 4 23 = some (.ireturn, 24, 0, 3, 0, 0, 0) := cAB_isOne_0 _ (List.mem_of_getElem? (i := 13) rfl)
theorem rB_isOne_0 {a0 : Nat} : zS 4 0 [zR a0] [] sh pp mm Q ↔ zS 4 1 [zR a0] [zR a0] sh pp mm Q := s_go cB_isOne_0 cB_isOne_1 rfl rfl
theorem rB_isOne_1 {a0 s0 : Nat} (hk : zKd sh s0 = 0) : zS 4 1 [zR a0] [zR s0] sh pp mm Q ↔ zS 4 4 [zR a0] [zI (mm s0 1)] sh pp mm Q := s_go cB_isOne_1 cB_isOne_4 (if_pos hk) rfl
theorem rB_isOne_4 {a0 : Nat} {s0 : Int} : zS 4 4 [zR a0] [zI s0] sh pp mm Q ↔ zS 4 5 [zR a0] [zI 1, zI s0] sh pp mm Q := s_go cB_isOne_4 cB_isOne_5 rfl rfl
theorem rB_isOne_5 {a0 : Nat} {s0 s1 : Int} : zS 4 5 [zR a0] [zI s0, zI s1] sh pp mm Q ↔ (s1 = s0 → zS 4 8 [zR a0] [] sh pp mm Q) ∧ (¬ s1 = s0 → zS 4 22 [zU] [] sh pp mm Q) := s_ifn cB_isOne_5 cB_isOne_8 cB_isOne_22 rfl rfl rfl
theorem rB_isOne_8 {a0 : Nat} : zS 4 8 [zR a0] [] sh pp mm Q ↔ zS 4 9 [zU] [zR a0] sh pp mm Q := s_go cB_isOne_8 cB_isOne_9 rfl rfl
theorem rB_isOne_9 {s0 : Nat} {u0 : zV} (hk : zKd sh s0 = 0) : zS 4 9 [u0] [zR s0] sh pp mm Q ↔ zS 4 12 [zU] [zR (pp s0 0)] sh pp mm Q := s_go cB_isOne_9 cB_isOne_12 (if_pos hk) rfl
theorem rB_isOne_12 {s0 : Nat} {u0 : zV} : zS 4 12 [u0] [zR s0] sh pp mm Q ↔ zS 4 13 [zU] [zI 0, zR s0] sh pp mm Q := s_go cB_isOne_12 cB_isOne_13 rfl rfl
theorem rB_isOne_13 {s1 : Nat} {s0 : Int} {u0 : zV} (hk : zKd sh s1 = 20 ∨ zKd sh s1 = 30) (h0 : 0 ≤ s0) (h1 : s0 < zLn sh s1) : zS 4 13 [u0] [zI s0, zR s1] sh pp mm Q ↔ zS 4 14 [zU] [zI (mm s1 s0)] sh pp mm Q := s_go cB_isOne_13 cB_isOne_14 (if_pos ⟨hk, h0, h1⟩) rfl
theorem rB_isOne_14 {s0 : Int} {u0 : zV} : zS 4 14 [u0] [zI s0] sh pp mm Q ↔ zS 4 15 [zU] [zI 1, zI s0] sh pp mm Q := s_go cB_isOne_14 cB_isOne_15 rfl rfl
theorem rB_isOne_15 {s0 s1 : Int} {u0 : zV} : zS 4 15 [u0] [zI s0, zI s1] sh pp mm Q ↔ (s1 = s0 → zS 4 18 [zU] [] sh pp mm Q) ∧ (¬ s1 = s0 → zS 4 22 [zU] [] sh pp mm Q) := s_ifn cB_isOne_15 cB_isOne_18 cB_isOne_22 rfl rfl rfl
theorem rB_isOne_18 {u0 : zV} : zS 4 18 [u0] [] sh pp mm Q ↔ zS 4 19 [zU] [zI 1] sh pp mm Q := s_go cB_isOne_18 cB_isOne_19 rfl rfl
theorem rB_isOne_19 {s0 : Int} {u0 : zV} : zS 4 19 [u0] [zI s0] sh pp mm Q ↔ zS 4 23 [zU] [zI s0] sh pp mm Q := s_go cB_isOne_19 cB_isOne_23 rfl rfl
theorem rB_isOne_22 {u0 : zV} : zS 4 22 [u0] [] sh pp mm Q ↔ zS 4 23 [zU] [zI 0] sh pp mm Q := s_go cB_isOne_22 cB_isOne_23 rfl rfl
theorem rB_isOne_23 {s0 : Int} {u0 : zV} (hb : s0 = 0 ∨ s0 = 1) : zS 4 23 [u0] [zI s0] sh pp mm Q ↔ Q (zI s0) sh pp mm := s_ret cB_isOne_23 (if_pos (decide_eq_true hb))
theorem cAB_trim : ∀ q ∈ zT5, zCode 5 q.1 = some q.2 := zAll (mid := 5) rfl (by decide +kernel)
theorem cAB_trim_0 : ∀ q ∈ zT5_0, zCode 5 q.1 = some q.2 := fun q h => cAB_trim q (List.mem_append_left _ h)
theorem cAB_trim_1 : ∀ q ∈ zT5_1, zCode 5 q.1 = some q.2 := fun q h => cAB_trim q (List.mem_append_right _ h)
theorem cB_trim_0 : zCode 5 0 = some (.aload_n 0, 1, 0, 0, 0, 0, 1) := cAB_trim_0 _ (List.mem_of_getElem? (i := 0) rfl)
theorem cB_trim_1 : zCode 5 1 = some (.bipush 8, 3, 0, 0, 0, 0, 1) := cAB_trim_0 _ (List.mem_of_getElem? (i := 1) rfl)
theorem cB_trim_3 : zCode 5 3 = some (.putfield 15, 6, 0, 1, 0, 335, 1) := cAB_trim_0 _ (List.mem_of_getElem? (i := 2) rfl)
theorem cB_trim_6 : zCode 5 6 = some (.aload_n 0, 7, 0, 0, 0, 0, 1) := cAB_trim_0 _ (List.mem_of_getElem? (i := 3) rfl)
theorem cB_trim_7 : zCode 5 7 = some (.getfield 15, 10, 0, 1, 0, 335, 1) := cAB_trim_0 _ (List.mem_of_getElem? (i := 4) rfl)
theorem cB_trim_10 : zCode 5 10 = some (.ifCond .le 30, 13, 40, 0, 0, 0, 1) := cAB_trim_0 _ (List.mem_of_getElem? (i := 5) rfl)
theorem cB_trim_13 : zCode 5 13 = some (.aload_n 0, 14, 0, 0, 0, 0, 1) := cAB_trim_0 _ (List.mem_of_getElem? (i := 6) rfl)
theorem cB_trim_14 : zCode 5 14 = some (.getfield 9, 17, 0, 0, 2, 333, 1) := cAB_trim_0 _ (List.mem_of_getElem? (i := 7) rfl)
theorem cB_trim_17 : zCode 5 17 = some (.aload_n 0, 18, 0, 0, 0, 0, 1) := cAB_trim_0 _ (List.mem_of_getElem? (i := 8) rfl)
theorem cB_trim_18 : zCode 5 18 = some (.getfield 15, 21, 0, 1, 0, 335, 1) := cAB_trim_0 _ (List.mem_of_getElem? (i := 9) rfl)
theorem cB_trim_21 : zCode 5 21 = some (.iconst 1, 22, 0, 0, 0, 0, 1) := cAB_trim_0 _ (List.mem_of_getElem? (i := 10) rfl)
theorem cB_trim_22 : zCode 5 22 = some (.isub, 23, 0, 0, 0, 0, 1) := cAB_trim_0 _ (List.mem_of_getElem? (i := 11) rfl)
theorem cB_trim_23 : zCode 5 23 = some (.iaload, 24, 0, 0, 0, 0, 1) := cAB_trim_0 _ (List.mem_of_getElem? (i := 12) rfl)
theorem cB_trim_24 : zCode 5 24 = some (.ifCond .ne 16, 27, 40, 0, 0, 0, 1) := cAB_trim_0 _ (List.mem_of_getElem? (i := 13) rfl)
theorem cB_trim_27 : zCode 5 27 = some (.aload_n 0, 28, 0, 0, 0, 0, 1) := cAB_trim_0 _ (List.mem_of_getElem? (i := 14) rfl)
theorem cB_trim_28 : zCode 5 28 = some (.dup, 29, 0, 0, 0, 0, 1) := cAB_trim_0 _ (List.mem_of_getElem? (i := 15) rfl)
theorem cB_trim_29 : zCode 5 29 = some (.getfield 15, 32, 0, 1, 0, 335, 1) := cAB_trim_1 _ (List.mem_of_getElem? (i := 0) rfl)
theorem cB_trim_32 : zCode 5 32 = some (.iconst 1, 33, 0, 0, 0, 0, 1) := cAB_trim_1 _ (List.mem_of_getElem? (i := 1) rfl)
theorem cB_trim_33 : zCode 5 33 = some (.isub, 34, 0, 0, 0, 0, 1) := cAB_trim_1 _ (List.mem_of_getElem? (i := 2) rfl)
theorem cB_trim_34 : zCode 5 34 = some (.putfield 15, 37, 0, 1, 0, 335, 1) := cAB_trim_1 _ (List.mem_of_getElem? (i := 3) rfl)
theorem cB_trim_37 : zCode 5 37 = some (.goto (-31), 40, 6, 0, 0, 0, 1) := cAB_trim_1 _ (List.mem_of_getElem? (i := 4) rfl)
theorem cB_trim_40 : zCode 5 40 = some (.return_, 41, 0, 0, 0, 0, 0) := cAB_trim_1 _ (List.mem_of_getElem? (i := 5) rfl)
theorem rB_trim_0 {a0 : Nat} : zS 5 0 [zR a0] [] sh pp mm Q ↔ zS 5 1 [zR a0] [zR a0] sh pp mm Q := s_go cB_trim_0 cB_trim_1 rfl rfl
theorem rB_trim_1 {a0 s0 : Nat} : zS 5 1 [zR a0] [zR s0] sh pp mm Q ↔ zS 5 3 [zR a0] [zI 8, zR s0] sh pp mm Q := s_go cB_trim_1 cB_trim_3 rfl rfl
theorem rB_trim_3 {a0 s1 : Nat} {s0 : Int} (hk : zKd sh s1 = 0) : zS 5 3 [zR a0] [zI s0, zR s1] sh pp mm Q ↔ zS 5 6 [zR a0] [] sh pp (zupd mm s1 1 s0) Q := s_go cB_trim_3 cB_trim_6 (if_pos ⟨hk, Or.inl rfl⟩) rfl
theorem rB_trim_6 {a0 : Nat} : zS 5 6 [zR a0] [] sh pp mm Q ↔ zS 5 7 [zR a0] [zR a0] sh pp mm Q := s_go cB_trim_6 cB_trim_7 rfl rfl
theorem rB_trim_7 {a0 s0 : Nat} (hk : zKd sh s0 = 0) : zS 5 7 [zR a0] [zR s0] sh pp mm Q ↔ zS 5 10 [zR a0] [zI (mm s0 1)] sh pp mm Q := s_go cB_trim_7 cB_trim_10 (if_pos hk) rfl
theorem rB_trim_10 {a0 : Nat} {s0 : Int} : zS 5 10 [zR a0] [zI s0] sh pp mm Q ↔ (0 < s0 → zS 5 13 [zR a0] [] sh pp mm Q) ∧ (¬ 0 < s0 → zS 5 40 [zU] [] sh pp mm Q) := s_ifn cB_trim_10 cB_trim_13 cB_trim_40 rfl rfl rfl
theorem rB_trim_13 {a0 : Nat} : zS 5 13 [zR a0] [] sh pp mm Q ↔ zS 5 14 [zR a0] [zR a0] sh pp mm Q := s_go cB_trim_13 cB_trim_14 rfl rfl
theorem rB_trim_14 {a0 s0 : Nat} (hk : zKd sh s0 = 0) : zS 5 14 [zR a0] [zR s0] sh pp mm Q ↔ zS 5 17 [zR a0] [zR (pp s0 0)] sh pp mm Q := s_go cB_trim_14 cB_trim_17 (if_pos hk) rfl
theorem rB_trim_17 {a0 s0 : Nat} : zS 5 17 [zR a0] [zR s0] sh pp mm Q ↔ zS 5 18 [zR a0] [zR a0, zR s0] sh pp mm Q := s_go cB_trim_17 cB_trim_18 rfl rfl
theorem rB_trim_18 {a0 s0 s1 : Nat} (hk : zKd sh s0 = 0) : zS 5 18 [zR a0] [zR s0, zR s1] sh pp mm Q ↔ zS 5 21 [zR a0] [zI (mm s0 1), zR s1] sh pp mm Q := s_go cB_trim_18 cB_trim_21 (if_pos hk) rfl
theorem rB_trim_21 {a0 s1 : Nat} {s0 : Int} : zS 5 21 [zR a0] [zI s0, zR s1] sh pp mm Q ↔ zS 5 22 [zR a0] [zI 1, zI s0, zR s1] sh pp mm Q := s_go cB_trim_21 cB_trim_22 rfl rfl
theorem rB_trim_22 {a0 s2 : Nat} {s0 s1 : Int} : zS 5 22 [zR a0] [zI s0, zI s1, zR s2] sh pp mm Q ↔ zS 5 23 [zR a0] [zI (zw32 (s1 - s0)), zR s2] sh pp mm Q := s_go cB_trim_22 cB_trim_23 rfl rfl
theorem rB_trim_23 {a0 s1 : Nat} {s0 : Int} (hk : zKd sh s1 = 20 ∨ zKd sh s1 = 30) (h0 : 0 ≤ s0) (h1 : s0 < zLn sh s1) : zS 5 23 [zR a0] [zI s0, zR s1] sh pp mm Q ↔ zS 5 24 [zR a0] [zI (mm s1 s0)] sh pp mm Q := s_go cB_trim_23 cB_trim_24 (if_pos ⟨hk, h0, h1⟩) rfl
theorem rB_trim_24 {a0 : Nat} {s0 : Int} : zS 5 24 [zR a0] [zI s0] sh pp mm Q ↔ (s0 = 0 → zS 5 27 [zR a0] [] sh pp mm Q) ∧ (¬ s0 = 0 → zS 5 40 [zU] [] sh pp mm Q) := s_ifn cB_trim_24 cB_trim_27 cB_trim_40 rfl rfl rfl
theorem rB_trim_27 {a0 : Nat} : zS 5 27 [zR a0] [] sh pp mm Q ↔ zS 5 28 [zR a0] [zR a0] sh pp mm Q := s_go cB_trim_27 cB_trim_28 rfl rfl
theorem rB_trim_28 {a0 s0 : Nat} : zS 5 28 [zR a0] [zR s0] sh pp mm Q ↔ zS 5 29 [zR a0] [zR s0, zR s0] sh pp mm Q := s_go cB_trim_28 cB_trim_29 rfl rfl
theorem rB_trim_29 {a0 s0 s1 : Nat} (hk : zKd sh s0 = 0) : zS 5 29 [zR a0] [zR s0, zR s1] sh pp mm Q ↔ zS 5 32 [zR a0] [zI (mm s0 1), zR s1] sh pp mm Q := s_go cB_trim_29 cB_trim_32 (if_pos hk) rfl
theorem rB_trim_32 {a0 s1 : Nat} {s0 : Int} : zS 5 32 [zR a0] [zI s0, zR s1] sh pp mm Q ↔ zS 5 33 [zR a0] [zI 1, zI s0, zR s1] sh pp mm Q := s_go cB_trim_32 cB_trim_33 rfl rfl
theorem rB_trim_33 {a0 s2 : Nat} {s0 s1 : Int} : zS 5 33 [zR a0] [zI s0, zI s1, zR s2] sh pp mm Q ↔ zS 5 34 [zR a0] [zI (zw32 (s1 - s0)), zR s2] sh pp mm Q := s_go cB_trim_33 cB_trim_34 rfl rfl
theorem rB_trim_34 {a0 s1 : Nat} {s0 : Int} (hk : zKd sh s1 = 0) : zS 5 34 [zR a0] [zI s0, zR s1] sh pp mm Q ↔ zS 5 37 [zR a0] [] sh pp (zupd mm s1 1 s0) Q := s_go cB_trim_34 cB_trim_37 (if_pos ⟨hk, Or.inl rfl⟩) rfl
theorem rB_trim_37 {a0 : Nat} : zS 5 37 [zR a0] [] sh pp mm Q ↔ zS 5 6 [zR a0] [] sh pp mm Q := s_go cB_trim_37 cB_trim_6 rfl rfl
theorem rB_trim_40 {u0 : zV} : zS 5 40 [u0] [] sh pp mm Q ↔ Q zU sh pp mm := s_ret cB_trim_40 rfl
theorem cAB_multiply : ∀ q ∈ zT6, zCode 6 q.1 = some q.2 := zAll (mid := 6) rfl (by decide +kernel)
theorem cAB_multiply_0 : ∀ q ∈ zT6_0, zCode 6 q.1 = some q.2 := fun q h => cAB_multiply q (List.mem_append_left _ h)
theorem cAB_multiply_1 : ∀ q ∈ zT6_1, zCode 6 q.1 = some q.2 := fun q h => cAB_multiply q (List.mem_append_right _ (List.mem_append_left _ h))
theorem cAB_multiply_2 : ∀ q ∈ zT6_2, zCode 6 q.1 = some q.2 := fun q h => cAB_multiply q (List.mem_append_right _ (List.mem_append_right _ h))
theorem cB_multiply_0 : zCode 6 0 = some (.lconst 0, 1, 0, 0, 0, 0, 3) := cAB_multiply_0 _ (List.mem_of_getElem? (i := 0) rfl)
theorem cB_multiply_1 : zCode 6 1 = some (.lstore_n 2, 2, 0, 0, 0, 0, 3) := cAB_multiply_0 _ (List.mem_of_getElem? (i := 1) rfl)
theorem cB_multiply_2 : zCode 6 2 = some (.iconst 0, 3, 0, 0, 0, 0, 7) := cAB_multiply_0 _ (List.mem_of_getElem? (i := 2) rfl)
theorem cB_multiply_3 : zCode 6 3 = some (.istore 4, 5, 0, 0, 0, 0, 7) := cAB_multiply_0 _ (List.mem_of_getElem? (i := 3) rfl)
theorem cB_multiply_5 : zCode 6 5 = some (.iload 4, 7, 0, 0, 0, 0, 23) := cAB_multiply_0 _ (List.mem_of_getElem? (i := 4) rfl)
theorem cB_multiply_7 : zCode 6 7 = some (.bipush 8, 9, 0, 0, 0, 0, 23) := cAB_multiply_0 _ (List.mem_of_getElem? (i := 5) rfl)
theorem cB_multiply_9 : zCode 6 9 = some (.if_icmp .ge 41, 12, 50, 0, 0, 0, 23) := cAB_multiply_0 _ (List.mem_of_getElem? (i := 6) rfl)
theorem cB_multiply_12 : zCode 6 12 = some (.lload_n 2, 13, 0, 0, 0, 0, 23) := cAB_multiply_0 _ (List.mem_of_getElem? (i := 7) rfl)
theorem cB_multiply_13 : zCode 6 13 = some (.aload_n 0, 14, 0, 0, 0, 0, 19) := cAB_multiply_0 _ (List.mem_of_getElem? (i := 8) rfl)
theorem cB_multiply_14 : zCode 6 14 = some (.getfield 9, 17, 0, 0, 2, 333, 19) := cAB_multiply_0 _ (List.mem_of_getElem? (i := 9) rfl)
theorem cB_multiply_17 : zCode 6 17 = some (.iload 4, 19, 0, 0, 0, 0, 19) := cAB_multiply_0 _ (List.mem_of_getElem? (i := 10) rfl)
theorem cB_multiply_19 : zCode 6 19 = some (.iaload, 20, 0, 0, 0, 0, 19) := cAB_multiply_0 _ (List.mem_of_getElem? (i := 11) rfl)
theorem cB_multiply_20 : zCode 6 20 = some (.i2l, 21, 0, 0, 0, 0, 19) := cAB_multiply_0 _ (List.mem_of_getElem? (i := 12) rfl)
theorem cB_multiply_21 : zCode 6 21 = some (.iload_n 1, 22, 0, 0, 0, 0, 19) := cAB_multiply_0 _ (List.mem_of_getElem? (i := 13) rfl)
theorem cB_multiply_22 : zCode 6 22 = some (.i2l, 23, 0, 0, 0, 0, 19) := cAB_multiply_0 _ (List.mem_of_getElem? (i := 14) rfl)
theorem cB_multiply_23 : zCode 6 23 = some (.lmul, 24, 0, 0, 0, 0, 19) := cAB_multiply_0 _ (List.mem_of_getElem? (i := 15) rfl)
theorem cB_multiply_24 : zCode 6 24 = some (.ladd, 25, 0, 0, 0, 0, 19) := cAB_multiply_1 _ (List.mem_of_getElem? (i := 0) rfl)
theorem cB_multiply_25 : zCode 6 25 = some (.lstore_n 2, 26, 0, 0, 0, 0, 19) := cAB_multiply_1 _ (List.mem_of_getElem? (i := 1) rfl)
theorem cB_multiply_26 : zCode 6 26 = some (.aload_n 0, 27, 0, 0, 0, 0, 23) := cAB_multiply_1 _ (List.mem_of_getElem? (i := 2) rfl)
theorem cB_multiply_27 : zCode 6 27 = some (.getfield 9, 30, 0, 0, 2, 333, 23) := cAB_multiply_1 _ (List.mem_of_getElem? (i := 3) rfl)
theorem cB_multiply_30 : zCode 6 30 = some (.iload 4, 32, 0, 0, 0, 0, 23) := cAB_multiply_1 _ (List.mem_of_getElem? (i := 4) rfl)
theorem cB_multiply_32 : zCode 6 32 = some (.lload_n 2, 33, 0, 0, 0, 0, 23) := cAB_multiply_1 _ (List.mem_of_getElem? (i := 5) rfl)
theorem cB_multiply_33 : zCode 6 33 = some (.ldc2_w 32, 36, 0, 0, 1054, 1073741823, 23) := cAB_multiply_1 _ (List.mem_of_getElem? (i := 6) rfl)
theorem cB_multiply_36 : zCode 6 36 = some (.land, 37, 0, 0, 0, 0, 23) := cAB_multiply_1 _ (List.mem_of_getElem? (i := 7) rfl)
theorem cB_multiply_37 : zCode 6 37 = some (.l2i, 38, 0, 0, 0, 0, 23) := cAB_multiply_1 _ (List.mem_of_getElem? (i := 8) rfl)
theorem cB_multiply_38 : zCode 6 38 = some (.iastore, 39, 0, 0, 0, 0, 23) := cAB_multiply_1 _ (List.mem_of_getElem? (i := 9) rfl)
theorem cB_multiply_39 : zCode 6 39 = some (.lload_n 2, 40, 0, 0, 0, 0, 23) := cAB_multiply_1 _ (List.mem_of_getElem? (i := 10) rfl)
theorem cB_multiply_40 : zCode 6 40 = some (.bipush 30, 42, 0, 0, 0, 0, 19) := cAB_multiply_1 _ (List.mem_of_getElem? (i := 11) rfl)
theorem cB_multiply_42 : zCode 6 42 = some (.lshr, 43, 0, 0, 0, 0, 19) := cAB_multiply_1 _ (List.mem_of_getElem? (i := 12) rfl)
theorem cB_multiply_43 : zCode 6 43 = some (.lstore_n 2, 44, 0, 0, 0, 0, 19) := cAB_multiply_1 _ (List.mem_of_getElem? (i := 13) rfl)
theorem cB_multiply_44 : zCode 6 44 = some (.iinc 4 1, 47, 0, 0, 0, 0, 23) := cAB_multiply_1 _ (List.mem_of_getElem? (i := 14) rfl)
theorem cB_multiply_47 : zCode 6 47 = some (.goto (-42), 50, 5, 0, 0, 0, 23) := cAB_multiply_1 _ (List.mem_of_getElem? (i := 15) rfl)
theorem cB_multiply_50 : zCode 6 50 = some (.aload_n 0, 51, 0, 0, 0, 0, 1) := cAB_multiply_2 _ (List.mem_of_getElem? (i := 0) rfl)
theorem cB_multiply_51 : zCode 6 51 = some (.invokevirtual 34, 54, 5, 0, 1, 0, 0) := cAB_multiply_2 _ (List.mem_of_getElem? (i := 1) rfl)
theorem cB_multiply_54 : zCode 6 54 = some (.return_, 55, 0, 0, 0, 0, 0) := cAB_multiply_2 _ (List.mem_of_getElem? (i := 2) rfl)
theorem rB_multiply_0 {a0 : Nat} {a1 : Int} {u2 u3 u4 : zV} : zS 6 0 [zR a0, zI a1, u2, u3, u4] [] sh pp mm Q ↔ zS 6 1 [zR a0, zI a1, zU, zU, zU] [zL 0] sh pp mm Q := s_go cB_multiply_0 cB_multiply_1 rfl rfl
theorem rB_multiply_1 {a0 : Nat} {a1 s0 : Int} {u2 u3 u4 : zV} : zS 6 1 [zR a0, zI a1, u2, u3, u4] [zL s0] sh pp mm Q ↔ zS 6 2 [zR a0, zI a1, zL s0, zU, zU] [] sh pp mm Q := s_go cB_multiply_1 cB_multiply_2 rfl rfl
theorem rB_multiply_2 {a0 : Nat} {a1 a2 : Int} {u3 u4 : zV} : zS 6 2 [zR a0, zI a1, zL a2, u3, u4] [] sh pp mm Q ↔ zS 6 3 [zR a0, zI a1, zL a2, zU, zU] [zI 0] sh pp mm Q := s_go cB_multiply_2 cB_multiply_3 rfl rfl
theorem rB_multiply_3 {a0 : Nat} {a1 a2 s0 : Int} {u3 u4 : zV} : zS 6 3 [zR a0, zI a1, zL a2, u3, u4] [zI s0] sh pp mm Q ↔ zS 6 5 [zR a0, zI a1, zL a2, zU, zI s0] [] sh pp mm Q := s_go cB_multiply_3 cB_multiply_5 rfl rfl
theorem rB_multiply_5 {a0 : Nat} {a1 a2 a4 : Int} {u3 : zV} : zS 6 5 [zR a0, zI a1, zL a2, u3, zI a4] [] sh pp mm Q ↔ zS 6 7 [zR a0, zI a1, zL a2, zU, zI a4] [zI a4] sh pp mm Q := s_go cB_multiply_5 cB_multiply_7 rfl rfl
theorem rB_multiply_7 {a0 : Nat} {a1 a2 a4 s0 : Int} {u3 : zV} : zS 6 7 [zR a0, zI a1, zL a2, u3, zI a4] [zI s0] sh pp mm Q ↔ zS 6 9 [zR a0, zI a1, zL a2, zU, zI a4] [zI 8, zI s0] sh pp mm Q := s_go cB_multiply_7 cB_multiply_9 rfl rfl
theorem rB_multiply_9 {a0 : Nat} {a1 a2 a4 s0 s1 : Int} {u3 : zV} : zS 6 9 [zR a0, zI a1, zL a2, u3, zI a4] [zI s0, zI s1] sh pp mm Q ↔ (s1 < s0 → zS 6 12 [zR a0, zI a1, zL a2, zU, zI a4] [] sh pp mm Q) ∧ (¬ s1 < s0 → zS 6 50 [zR a0, zU, zU, zU, zU] [] sh pp mm Q) := s_ifn cB_multiply_9 cB_multiply_12 cB_multiply_50 rfl rfl rfl
theorem rB_multiply_12 {a0 : Nat} {a1 a2 a4 : Int} {u3 : zV} : zS 6 12 [zR a0, zI a1, zL a2, u3, zI a4] [] sh pp mm Q ↔ zS 6 13 [zR a0, zI a1, zU, zU, zI a4] [zL a2] sh pp mm Q := s_go cB_multiply_12 cB_multiply_13 rfl rfl
theorem rB_multiply_13 {a0 : Nat} {a1 a4 s0 : Int} {u2 u3 : zV} : zS 6 13 [zR a0, zI a1, u2, u3, zI a4] [zL s0] sh pp mm Q ↔ zS 6 14 [zR a0, zI a1, zU, zU, zI a4] [zR a0, zL s0] sh pp mm Q := s_go cB_multiply_13 cB_multiply_14 rfl rfl
theorem rB_multiply_14 {a0 s0 : Nat} {a1 a4 s1 : Int} {u2 u3 : zV} (hk : zKd sh s0 = 0) : zS 6 14 [zR a0, zI a1, u2, u3, zI a4] [zR s0, zL s1] sh pp mm Q ↔ zS 6 17 [zR a0, zI a1, zU, zU, zI a4] [zR (pp s0 0), zL s1] sh pp mm Q := s_go cB_multiply_14 cB_multiply_17 (if_pos hk) rfl
theorem rB_multiply_17 {a0 s0 : Nat} {a1 a4 s1 : Int} {u2 u3 : zV} : zS 6 17 [zR a0, zI a1, u2, u3, zI a4] [zR s0, zL s1] sh pp mm Q ↔ zS 6 19 [zR a0, zI a1, zU, zU, zI a4] [zI a4, zR s0, zL s1] sh pp mm Q := s_go cB_multiply_17 cB_multiply_19 rfl rfl
theorem rB_multiply_19 {a0 s1 : Nat} {a1 a4 s0 s2 : Int} {u2 u3 : zV} (hk : zKd sh s1 = 20 ∨ zKd sh s1 = 30) (h0 : 0 ≤ s0) (h1 : s0 < zLn sh s1) : zS 6 19 [zR a0, zI a1, u2, u3, zI a4] [zI s0, zR s1, zL s2] sh pp mm Q ↔ zS 6 20 [zR a0, zI a1, zU, zU, zI a4] [zI (mm s1 s0), zL s2] sh pp mm Q := s_go cB_multiply_19 cB_multiply_20 (if_pos ⟨hk, h0, h1⟩) rfl
theorem rB_multiply_20 {a0 : Nat} {a1 a4 s0 s1 : Int} {u2 u3 : zV} : zS 6 20 [zR a0, zI a1, u2, u3, zI a4] [zI s0, zL s1] sh pp mm Q ↔ zS 6 21 [zR a0, zI a1, zU, zU, zI a4] [zL s0, zL s1] sh pp mm Q := s_go cB_multiply_20 cB_multiply_21 rfl rfl
theorem rB_multiply_21 {a0 : Nat} {a1 a4 s0 s1 : Int} {u2 u3 : zV} : zS 6 21 [zR a0, zI a1, u2, u3, zI a4] [zL s0, zL s1] sh pp mm Q ↔ zS 6 22 [zR a0, zI a1, zU, zU, zI a4] [zI a1, zL s0, zL s1] sh pp mm Q := s_go cB_multiply_21 cB_multiply_22 rfl rfl
theorem rB_multiply_22 {a0 : Nat} {a1 a4 s0 s1 s2 : Int} {u2 u3 : zV} : zS 6 22 [zR a0, zI a1, u2, u3, zI a4] [zI s0, zL s1, zL s2] sh pp mm Q ↔ zS 6 23 [zR a0, zI a1, zU, zU, zI a4] [zL s0, zL s1, zL s2] sh pp mm Q := s_go cB_multiply_22 cB_multiply_23 rfl rfl
theorem rB_multiply_23 {a0 : Nat} {a1 a4 s0 s1 s2 : Int} {u2 u3 : zV} : zS 6 23 [zR a0, zI a1, u2, u3, zI a4] [zL s0, zL s1, zL s2] sh pp mm Q ↔ zS 6 24 [zR a0, zI a1, zU, zU, zI a4] [zL (zw64 (s1 * s0)), zL s2] sh pp mm Q := s_go cB_multiply_23 cB_multiply_24 rfl rfl
theorem rB_multiply_24 {a0 : Nat} {a1 a4 s0 s1 : Int} {u2 u3 : zV} : zS 6 24 [zR a0, zI a1, u2, u3, zI a4] [zL s0, zL s1] sh pp mm Q ↔ zS 6 25 [zR a0, zI a1, zU, zU, zI a4] [zL (zw64 (s1 + s0))] sh pp mm Q := s_go cB_multiply_24 cB_multiply_25 rfl rfl
theorem rB_multiply_25 {a0 : Nat} {a1 a4 s0 : Int} {u2 u3 : zV} : zS 6 25 [zR a0, zI a1, u2, u3, zI a4] [zL s0] sh pp mm Q ↔ zS 6 26 [zR a0, zI a1, zL s0, zU, zI a4] [] sh pp mm Q := s_go cB_multiply_25 cB_multiply_26 rfl rfl
theorem rB_multiply_26 {a0 : Nat} {a1 a2 a4 : Int} {u3 : zV} : zS 6 26 [zR a0, zI a1, zL a2, u3, zI a4] [] sh pp mm Q ↔ zS 6 27 [zR a0, zI a1, zL a2, zU, zI a4] [zR a0] sh pp mm Q := s_go cB_multiply_26 cB_multiply_27 rfl rfl
theorem rB_multiply_27 {a0 s0 : Nat} {a1 a2 a4 : Int} {u3 : zV} (hk : zKd sh s0 = 0) : zS 6 27 [zR a0, zI a1, zL a2, u3, zI a4] [zR s0] sh pp mm Q ↔ zS 6 30 [zR a0, zI a1, zL a2, zU, zI a4] [zR (pp s0 0)] sh pp mm Q := s_go cB_multiply_27 cB_multiply_30 (if_pos hk) rfl
theorem rB_multiply_30 {a0 s0 : Nat} {a1 a2 a4 : Int} {u3 : zV} : zS 6 30 [zR a0, zI a1, zL a2, u3, zI a4] [zR s0] sh pp mm Q ↔ zS 6 32 [zR a0, zI a1, zL a2, zU, zI a4] [zI a4, zR s0] sh pp mm Q := s_go cB_multiply_30 cB_multiply_32 rfl rfl
theorem rB_multiply_32 {a0 s1 : Nat} {a1 a2 a4 s0 : Int} {u3 : zV} : zS 6 32 [zR a0, zI a1, zL a2, u3, zI a4] [zI s0, zR s1] sh pp mm Q ↔ zS 6 33 [zR a0, zI a1, zL a2, zU, zI a4] [zL a2, zI s0, zR s1] sh pp mm Q := s_go cB_multiply_32 cB_multiply_33 rfl rfl
theorem rB_multiply_33 {a0 s2 : Nat} {a1 a2 a4 s0 s1 : Int} {u3 : zV} : zS 6 33 [zR a0, zI a1, zL a2, u3, zI a4] [zL s0, zI s1, zR s2] sh pp mm Q ↔ zS 6 36 [zR a0, zI a1, zL a2, zU, zI a4] [zL 1073741823, zL s0, zI s1, zR s2] sh pp mm Q := s_go cB_multiply_33 cB_multiply_36 rfl rfl
theorem rB_multiply_36 {a0 s3 : Nat} {a1 a2 a4 s0 s1 s2 : Int} {u3 : zV} : zS 6 36 [zR a0, zI a1, zL a2, u3, zI a4] [zL s0, zL s1, zI s2, zR s3] sh pp mm Q ↔ zS 6 37 [zR a0, zI a1, zL a2, zU, zI a4] [zL (zland s1 s0), zI s2, zR s3] sh pp mm Q := s_go cB_multiply_36 cB_multiply_37 rfl rfl
theorem rB_multiply_37 {a0 s2 : Nat} {a1 a2 a4 s0 s1 : Int} {u3 : zV} : zS 6 37 [zR a0, zI a1, zL a2, u3, zI a4] [zL s0, zI s1, zR s2] sh pp mm Q ↔ zS 6 38 [zR a0, zI a1, zL a2, zU, zI a4] [zI (zw32 s0), zI s1, zR s2] sh pp mm Q := s_go cB_multiply_37 cB_multiply_38 rfl rfl
theorem rB_multiply_38 {a0 s2 : Nat} {a1 a2 a4 s0 s1 : Int} {u3 : zV} (hk : zKd sh s2 = 20) (h0 : 0 ≤ s1) (h1 : s1 < zLn sh s2) : zS 6 38 [zR a0, zI a1, zL a2, u3, zI a4] [zI s0, zI s1, zR s2] sh pp mm Q ↔ zS 6 39 [zR a0, zI a1, zL a2, zU, zI a4] [] sh pp (zupd mm s2 s1 s0) Q := s_go cB_multiply_38 cB_multiply_39 (if_pos ⟨hk, h0, h1, fun h => absurd h (by decide)⟩) rfl
theorem rB_multiply_39 {a0 : Nat} {a1 a2 a4 : Int} {u3 : zV} : zS 6 39 [zR a0, zI a1, zL a2, u3, zI a4] [] sh pp mm Q ↔ zS 6 40 [zR a0, zI a1, zU, zU, zI a4] [zL a2] sh pp mm Q := s_go cB_multiply_39 cB_multiply_40 rfl rfl
theorem rB_multiply_40 {a0 : Nat} {a1 a4 s0 : Int} {u2 u3 : zV} : zS 6 40 [zR a0, zI a1, u2, u3, zI a4] [zL s0] sh pp mm Q ↔ zS 6 42 [zR a0, zI a1, zU, zU, zI a4] [zI 30, zL s0] sh pp mm Q := s_go cB_multiply_40 cB_multiply_42 rfl rfl
theorem rB_multiply_42 {a0 : Nat} {a1 a4 s0 s1 : Int} {u2 u3 : zV} : zS 6 42 [zR a0, zI a1, u2, u3, zI a4] [zI s0, zL s1] sh pp mm Q ↔ zS 6 43 [zR a0, zI a1, zU, zU, zI a4] [zL (zlshr s1 s0)] sh pp mm Q := s_go cB_multiply_42 cB_multiply_43 rfl rfl
theorem rB_multiply_43 {a0 : Nat} {a1 a4 s0 : Int} {u2 u3 : zV} : zS 6 43 [zR a0, zI a1, u2, u3, zI a4] [zL s0] sh pp mm Q ↔ zS 6 44 [zR a0, zI a1, zL s0, zU, zI a4] [] sh pp mm Q := s_go cB_multiply_43 cB_multiply_44 rfl rfl
theorem rB_multiply_44 {a0 : Nat} {a1 a2 a4 : Int} {u3 : zV} : zS 6 44 [zR a0, zI a1, zL a2, u3, zI a4] [] sh pp mm Q ↔ zS 6 47 [zR a0, zI a1, zL a2, zU, zI (zw32 (a4 + 1))] [] sh pp mm Q := s_go cB_multiply_44 cB_multiply_47 rfl rfl
theorem rB_multiply_47 {a0 : Nat} {a1 a2 a4 : Int} {u3 : zV} : zS 6 47 [zR a0, zI a1, zL a2, u3, zI a4] [] sh pp mm Q ↔ zS 6 5 [zR a0, zI a1, zL a2, zU, zI a4] [] sh pp mm Q := s_go cB_multiply_47 cB_multiply_5 rfl rfl
theorem rB_multiply_50 {a0 : Nat} {u1 u2 u3 u4 : zV} : zS 6 50 [zR a0, u1, u2, u3, u4] [] sh pp mm Q ↔ zS 6 51 [zU, zU, zU, zU, zU] [zR a0] sh pp mm Q := s_go cB_multiply_50 cB_multiply_51 rfl rfl
theorem rB_multiply_51 {s0 : Nat} {u0 u1 u2 u3 u4 : zV} (hk : zKd sh s0 = 0) : zS 6 51 [u0, u1, u2, u3, u4] [zR s0] sh pp mm Q ↔ zS 5 0 [zR s0] [] sh pp mm (fun v sh pp mm => zS 6 54 [zU, zU, zU, zU, zU] (zPush v []) sh pp mm Q) := s_call cB_multiply_51 cB_multiply_54 ((if_pos hk).trans rfl) rfl
theorem rB_multiply_54 {u0 u1 u2 u3 u4 : zV} : zS 6 54 [u0, u1, u2, u3, u4] [] sh pp mm Q ↔ Q zU sh pp mm := s_ret cB_multiply_54 rfl
theorem cAB_addTimes : ∀ q ∈ zT7, zCode 7 q.1 = some q.2 := zAll (mid := 7) rfl (by decide +kernel)
theorem cAB_addTimes_0 : ∀ q ∈ zT7_0, zCode 7 q.1 = some q.2 := fun q h => cAB_addTimes q (List.mem_append_left _ h)
theorem cAB_addTimes_1 : ∀ q ∈ zT7_1, zCode 7 q.1 = some q.2 := fun q h => cAB_addTimes q (List.mem_append_right _ (List.mem_append_left _ h))
theorem cAB_addTimes_2 : ∀ q ∈ zT7_2, zCode 7 q.1 = some q.2 := fun q h => cAB_addTimes q (List.mem_append_right _ (List.mem_append_right _ h))
theorem cB_addTimes_0 : zCode 7 0 = some (.lconst 0, 1, 0, 0, 0, 0, 7) := cAB_addTimes_0 _ (List.mem_of_getElem? (i := 0) rfl)
theorem cB_addTimes_1 : zCode 7 1 = some (.lstore_n 3, 2, 0, 0, 0, 0, 7) := cAB_addTimes_0 _ (List.mem_of_getElem? (i := 1) rfl)
theorem cB_addTimes_2 : zCode 7 2 = some (.iconst 0, 3, 0, 0, 0, 0, 15) := cAB_addTimes_0 _ (List.mem_of_getElem? (i := 2) rfl)
theorem cB_addTimes_3 : zCode 7 3 = some (.istore 5, 5, 0, 0, 0, 0, 15) := cAB_addTimes_0 _ (List.mem_of_getElem? (i := 3) rfl)
theorem cB_addTimes_5 : zCode 7 5 = some (.iload 5, 7, 0, 0, 0, 0, 47) := cAB_addTimes_0 _ (List.mem_of_getElem? (i := 4) rfl)
theorem cB_addTimes_7 : zCode 7 7 = some (.bipush 8, 9, 0, 0, 0, 0, 47) := cAB_addTimes_0 _ (List.mem_of_getElem? (i := 5) rfl)
theorem cB_addTimes_9 : zCode 7 9 = some (.if_icmp .ge 50, 12, 59, 0, 0, 0, 47) := cAB_addTimes_0 _ (List.mem_of_getElem? (i := 6) rfl)
theorem cB_addTimes_12 : zCode 7 12 = some (.lload_n 3, 13, 0, 0, 0, 0, 47) := cAB_addTimes_0 _ (List.mem_of_getElem? (i := 7) rfl)
theorem cB_addTimes_13 : zCode 7 13 = some (.aload_n 0, 14, 0, 0, 0, 0, 39) := cAB_addTimes_0 _ (List.mem_of_getElem? (i := 8) rfl)
theorem cB_addTimes_14 : zCode 7 14 = some (.getfield 9, 17, 0, 0, 2, 333, 39) := cAB_addTimes_0 _ (List.mem_of_getElem? (i := 9) rfl)
theorem cB_addTimes_17 : zCode 7 17 = some (.iload 5, 19, 0, 0, 0, 0, 39) := cAB_addTimes_0 _ (List.mem_of_getElem? (i := 10) rfl)
theorem cB_addTimes_19 : zCode 7 19 = some (.iaload, 20, 0, 0, 0, 0, 39) := cAB_addTimes_0 _ (List.mem_of_getElem? (i := 11) rfl)
theorem cB_addTimes_20 : zCode 7 20 = some (.i2l, 21, 0, 0, 0, 0, 39) := cAB_addTimes_0 _ (List.mem_of_getElem? (i := 12) rfl)
theorem cB_addTimes_21 : zCode 7 21 = some (.aload_n 1, 22, 0, 0, 0, 0, 39) := cAB_addTimes_0 _ (List.mem_of_getElem? (i := 13) rfl)
theorem cB_addTimes_22 : zCode 7 22 = some (.getfield 9, 25, 0, 0, 2, 333, 39) := cAB_addTimes_0 _ (List.mem_of_getElem? (i := 14) rfl)
theorem cB_addTimes_25 : zCode 7 25 = some (.iload 5, 27, 0, 0, 0, 0, 39) := cAB_addTimes_0 _ (List.mem_of_getElem? (i := 15) rfl)
theorem cB_addTimes_27 : zCode 7 27 = some (.iaload, 28, 0, 0, 0, 0, 39) := cAB_addTimes_1 _ (List.mem_of_getElem? (i := 0) rfl)
theorem cB_addTimes_28 : zCode 7 28 = some (.i2l, 29, 0, 0, 0, 0, 39) := cAB_addTimes_1 _ (List.mem_of_getElem? (i := 1) rfl)
theorem cB_addTimes_29 : zCode 7 29 = some (.iload_n 2, 30, 0, 0, 0, 0, 39) := cAB_addTimes_1 _ (List.mem_of_getElem? (i := 2) rfl)
theorem cB_addTimes_30 : zCode 7 30 = some (.i2l, 31, 0, 0, 0, 0, 39) := cAB_addTimes_1 _ (List.mem_of_getElem? (i := 3) rfl)
theorem cB_addTimes_31 : zCode 7 31 = some (.lmul, 32, 0, 0, 0, 0, 39) := cAB_addTimes_1 _ (List.mem_of_getElem? (i := 4) rfl)
theorem cB_addTimes_32 : zCode 7 32 = some (.ladd, 33, 0, 0, 0, 0, 39) := cAB_addTimes_1 _ (List.mem_of_getElem? (i := 5) rfl)
theorem cB_addTimes_33 : zCode 7 33 = some (.ladd, 34, 0, 0, 0, 0, 39) := cAB_addTimes_1 _ (List.mem_of_getElem? (i := 6) rfl)
theorem cB_addTimes_34 : zCode 7 34 = some (.lstore_n 3, 35, 0, 0, 0, 0, 39) := cAB_addTimes_1 _ (List.mem_of_getElem? (i := 7) rfl)
theorem cB_addTimes_35 : zCode 7 35 = some (.aload_n 0, 36, 0, 0, 0, 0, 47) := cAB_addTimes_1 _ (List.mem_of_getElem? (i := 8) rfl)
theorem cB_addTimes_36 : zCode 7 36 = some (.getfield 9, 39, 0, 0, 2, 333, 47) := cAB_addTimes_1 _ (List.mem_of_getElem? (i := 9) rfl)
theorem cB_addTimes_39 : zCode 7 39 = some (.iload 5, 41, 0, 0, 0, 0, 47) := cAB_addTimes_1 _ (List.mem_of_getElem? (i := 10) rfl)
theorem cB_addTimes_41 : zCode 7 41 = some (.lload_n 3, 42, 0, 0, 0, 0, 47) := cAB_addTimes_1 _ (List.mem_of_getElem? (i := 11) rfl)
theorem cB_addTimes_42 : zCode 7 42 = some (.ldc2_w 32, 45, 0, 0, 1054, 1073741823, 47) := cAB_addTimes_1 _ (List.mem_of_getElem? (i := 12) rfl)
theorem cB_addTimes_45 : zCode 7 45 = some (.land, 46, 0, 0, 0, 0, 47) := cAB_addTimes_1 _ (List.mem_of_getElem? (i := 13) rfl)
theorem cB_addTimes_46 : zCode 7 46 = some (.l2i, 47, 0, 0, 0, 0, 47) := cAB_addTimes_1 _ (List.mem_of_getElem? (i := 14) rfl)
theorem cB_addTimes_47 : zCode 7 47 = some (.iastore, 48, 0, 0, 0, 0, 47) := cAB_addTimes_1 _ (List.mem_of_getElem? (i := 15) rfl)
theorem cB_addTimes_48 : zCode 7 48 = some (.lload_n 3, 49, 0, 0, 0, 0, 47) := cAB_addTimes_2 _ (List.mem_of_getElem? (i := 0) rfl)
theorem cB_addTimes_49 : zCode 7 49 = some (.bipush 30, 51, 0, 0, 0, 0, 39) := cAB_addTimes_2 _ (List.mem_of_getElem? (i := 1) rfl)
theorem cB_addTimes_51 : zCode 7 51 = some (.lshr, 52, 0, 0, 0, 0, 39) := cAB_addTimes_2 _ (List.mem_of_getElem? (i := 2) rfl)
theorem cB_addTimes_52 : zCode 7 52 = some (.lstore_n 3, 53, 0, 0, 0, 0, 39) := cAB_addTimes_2 _ (List.mem_of_getElem? (i := 3) rfl)
theorem cB_addTimes_53 : zCode 7 53 = some (.iinc 5 1, 56, 0, 0, 0, 0, 47) := cAB_addTimes_2 _ (List.mem_of_getElem? (i := 4) rfl)
theorem cB_addTimes_56 : zCode 7 56 = some (.goto (-51), 59, 5, 0, 0, 0, 47) := cAB_addTimes_2 _ (List.mem_of_getElem? (i := 5) rfl)
theorem cB_addTimes_59 : zCode 7 59 = some (.aload_n 0, 60, 0, 0, 0, 0, 1) := cAB_addTimes_2 _ (List.mem_of_getElem? (i := 6) rfl)
theorem cB_addTimes_60 : zCode 7 60 = some (.invokevirtual 34, 63, 5, 0, 1, 0, 0) := cAB_addTimes_2 _ (List.mem_of_getElem? (i := 7) rfl)
theorem cB_addTimes_63 : zCode 7 63 = some (.return_, 64, 0, 0, 0, 0, 0) := cAB_addTimes_2 _ (List.mem_of_getElem? (i := 8) rfl)
theorem rB_addTimes_0 {a0 a1 : Nat} {a2 : Int} {u3 u4 u5 : zV} : zS 7 0 [zR a0, zR a1, zI a2, u3, u4, u5] [] sh pp mm Q ↔ zS 7 1 [zR a0, zR a1, zI a2, zU, zU, zU] [zL 0] sh pp mm Q := s_go cB_addTimes_0 cB_addTimes_1 rfl rfl
theorem rB_addTimes_1 {a0 a1 : Nat} {a2 s0 : Int} {u3 u4 u5 : zV} : zS 7 1 [zR a0, zR a1, zI a2, u3, u4, u5] [zL s0] sh pp mm Q ↔ zS 7 2 [zR a0, zR a1, zI a2, zL s0, zU, zU] [] sh pp mm Q := s_go cB_addTimes_1 cB_addTimes_2 rfl rfl
theorem rB_addTimes_2 {a0 a1 : Nat} {a2 a3 : Int} {u4 u5 : zV} : zS 7 2 [zR a0, zR a1, zI a2, zL a3, u4, u5] [] sh pp mm Q ↔ zS 7 3 [zR a0, zR a1, zI a2, zL a3, zU, zU] [zI 0] sh pp mm Q := s_go cB_addTimes_2 cB_addTimes_3 rfl rfl
theorem rB_addTimes_3 {a0 a1 : Nat} {a2 a3 s0 : Int} {u4 u5 : zV} : zS 7 3 [zR a0, zR a1, zI a2, zL a3, u4, u5] [zI s0] sh pp mm Q ↔ zS 7 5 [zR a0, zR a1, zI a2, zL a3, zU, zI s0] [] sh pp mm Q := s_go cB_addTimes_3 cB_addTimes_5 rfl rfl
theorem rB_addTimes_5 {a0 a1 : Nat} {a2 a3 a5 : Int} {u4 : zV} : zS 7 5 [zR a0, zR a1, zI a2, zL a3, u4, zI a5] [] sh pp mm Q ↔ zS 7 7 [zR a0, zR a1, zI a2, zL a3, zU, zI a5] [zI a5] sh pp mm Q := s_go cB_addTimes_5 cB_addTimes_7 rfl rfl
theorem rB_addTimes_7 {a0 a1 : Nat} {a2 a3 a5 s0 : Int} {u4 : zV} : zS 7 7 [zR a0, zR a1, zI a2, zL a3, u4, zI a5] [zI s0] sh pp mm Q ↔ zS 7 9 [zR a0, zR a1, zI a2, zL a3, zU, zI a5] [zI 8, zI s0] sh pp mm Q := s_go cB_addTimes_7 cB_addTimes_9 rfl rfl
theorem rB_addTimes_9 {a0 a1 : Nat} {a2 a3 a5 s0 s1 : Int} {u4 : zV} : zS 7 9 [zR a0, zR a1, zI a2, zL a3, u4, zI a5] [zI s0, zI s1] sh pp mm Q ↔ (s1 < s0 → zS 7 12 [zR a0, zR a1, zI a2, zL a3, zU, zI a5] [] sh pp mm Q) ∧ (¬ s1 < s0 → zS 7 59 [zR a0, zU, zU, zU, zU, zU] [] sh pp mm Q) := s_ifn cB_addTimes_9 cB_addTimes_12 cB_addTimes_59 rfl rfl rfl
theorem rB_addTimes_12 {a0 a1 : Nat} {a2 a3 a5 : Int} {u4 : zV} : zS 7 12 [zR a0, zR a1, zI a2, zL a3, u4, zI a5] [] sh pp mm Q ↔ zS 7 13 [zR a0, zR a1, zI a2, zU, zU, zI a5] [zL a3] sh pp mm Q := s_go cB_addTimes_12 cB_addTimes_13 rfl rfl
theorem rB_addTimes_13 {a0 a1 : Nat} {a2 a5 s0 : Int} {u3 u4 : zV} : zS 7 13 [zR a0, zR a1, zI a2, u3, u4, zI a5] [zL s0] sh pp mm Q ↔ zS 7 14 [zR a0, zR a1, zI a2, zU, zU, zI a5] [zR a0, zL s0] sh pp mm Q := s_go cB_addTimes_13 cB_addTimes_14 rfl rfl
theorem rB_addTimes_14 {a0 a1 s0 : Nat} {a2 a5 s1 : Int} {u3 u4 : zV} (hk : zKd sh s0 = 0) : zS 7 14 [zR a0, zR a1, zI a2, u3, u4, zI a5] [zR s0, zL s1] sh pp mm Q ↔ zS 7 17 [zR a0, zR a1, zI a2, zU, zU, zI a5] [zR (pp s0 0), zL s1] sh pp mm Q := s_go cB_addTimes_14 cB_addTimes_17 (if_pos hk) rfl
theorem rB_addTimes_17 {a0 a1 s0 : Nat} {a2 a5 s1 : Int} {u3 u4 : zV} : zS 7 17 [zR a0, zR a1, zI a2, u3, u4, zI a5] [zR s0, zL s1] sh pp mm Q ↔ zS 7 19 [zR a0, zR a1, zI a2, zU, zU, zI a5] [zI a5, zR s0, zL s1] sh pp mm Q := s_go cB_addTimes_17 cB_addTimes_19 rfl rfl
theorem rB_addTimes_19 {a0 a1 s1 : Nat} {a2 a5 s0 s2 : Int} {u3 u4 : zV} (hk : zKd sh s1 = 20 ∨ zKd sh s1 = 30) (h0 : 0 ≤ s0) (h1 : s0 < zLn sh s1) : zS 7 19 [zR a0, zR a1, zI a2, u3, u4, zI a5] [zI s0, zR s1, zL s2] sh pp mm Q ↔ zS 7 20 [zR a0, zR a1, zI a2, zU, zU, zI a5] [zI (mm s1 s0), zL s2] sh pp mm Q := s_go cB_addTimes_19 cB_addTimes_20 (if_pos ⟨hk, h0, h1⟩) rfl
theorem rB_addTimes_20 {a0 a1 : Nat} {a2 a5 s0 s1 : Int} {u3 u4 : zV} : zS 7 20 [zR a0, zR a1, zI a2, u3, u4, zI a5] [zI s0, zL s1] sh pp mm Q ↔ zS 7 21 [zR a0, zR a1, zI a2, zU, zU, zI a5] [zL s0, zL s1] sh pp mm Q := s_go cB_addTimes_20 cB_addTimes_21 rfl rfl
theorem rB_addTimes_21 {a0 a1 : Nat} {a2 a5 s0 s1 : Int} {u3 u4 : zV} : zS 7 21 [zR a0, zR a1, zI a2, u3, u4, zI a5] [zL s0, zL s1] sh pp mm Q ↔ zS 7 22 [zR a0, zR a1, zI a2, zU, zU, zI a5] [zR a1, zL s0, zL s1] sh pp mm Q := s_go cB_addTimes_21 cB_addTimes_22 rfl rfl
theorem rB_addTimes_22 {a0 a1 s0 : Nat} {a2 a5 s1 s2 : Int} {u3 u4 : zV} (hk : zKd sh s0 = 0) : zS 7 22 [zR a0, zR a1, zI a2, u3, u4, zI a5] [zR s0, zL s1, zL s2] sh pp mm Q ↔ zS 7 25 [zR a0, zR a1, zI a2, zU, zU, zI a5] [zR (pp s0 0), zL s1, zL s2] sh pp mm Q := s_go cB_addTimes_22 cB_addTimes_25 (if_pos hk) rfl
theorem rB_addTimes_25 {a0 a1 s0 : Nat} {a2 a5 s1 s2 : Int} {u3 u4 : zV} : zS 7 25 [zR a0, zR a1, zI a2, u3, u4, zI a5] [zR s0, zL s1, zL s2] sh pp mm Q ↔ zS 7 27 [zR a0, zR a1, zI a2, zU, zU, zI a5] [zI a5, zR s0, zL s1, zL s2] sh pp mm Q := s_go cB_addTimes_25 cB_addTimes_27 rfl rfl
theorem rB_addTimes_27 {a0 a1 s1 : Nat} {a2 a5 s0 s2 s3 : Int} {u3 u4 : zV} (hk : zKd sh s1 = 20 ∨ zKd sh s1 = 30) (h0 : 0 ≤ s0) (h1 : s0 < zLn sh s1) : zS 7 27 [zR a0, zR a1, zI a2, u3, u4, zI a5] [zI s0, zR s1, zL s2, zL s3] sh pp mm Q ↔ zS 7 28 [zR a0, zR a1, zI a2, zU, zU, zI a5] [zI (mm s1 s0), zL s2, zL s3] sh pp mm Q := s_go cB_addTimes_27 cB_addTimes_28 (if_pos ⟨hk, h0, h1⟩) rfl
theorem rB_addTimes_28 {a0 a1 : Nat} {a2 a5 s0 s1 s2 : Int} {u3 u4 : zV} : zS 7 28 [zR a0, zR a1, zI a2, u3, u4, zI a5] [zI s0, zL s1, zL s2] sh pp mm Q ↔ zS 7 29 [zR a0, zR a1, zI a2, zU, zU, zI a5] [zL s0, zL s1, zL s2] sh pp mm Q := s_go cB_addTimes_28 cB_addTimes_29 rfl rfl
theorem rB_addTimes_29 {a0 a1 : Nat} {a2 a5 s0 s1 s2 : Int} {u3 u4 : zV} : zS 7 29 [zR a0, zR a1, zI a2, u3, u4, zI a5] [zL s0, zL s1, zL s2] sh pp mm Q ↔ zS 7 30 [zR a0, zR a1, zI a2, zU, zU, zI a5] [zI a2, zL s0, zL s1, zL s2] sh pp mm Q := s_go cB_addTimes_29 cB_addTimes_30 rfl rfl
theorem rB_addTimes_30 {a0 a1 : Nat} {a2 a5 s0 s1 s2 s3 : Int} {u3 u4 : zV} : zS 7 30 [zR a0, zR a1, zI a2, u3, u4, zI a5] [zI s0, zL s1, zL s2, zL s3] sh pp mm Q ↔ zS 7 31 [zR a0, zR a1, zI a2, zU, zU, zI a5] [zL s0, zL s1, zL s2, zL s3] sh pp mm Q := s_go cB_addTimes_30 cB_addTimes_31 rfl rfl
theorem rB_addTimes_31 {a0 a1 : Nat} {a2 a5 s0 s1 s2 s3 : Int} {u3 u4 : zV} : zS 7 31 [zR a0, zR a1, zI a2, u3, u4, zI a5] [zL s0, zL s1, zL s2, zL s3] sh pp mm Q ↔ zS 7 32 [zR a0, zR a1, zI a2, zU, zU, zI a5] [zL (zw64 (s1 * s0)), zL s2, zL s3] sh pp mm Q := s_go cB_addTimes_31 cB_addTimes_32 rfl rfl
theorem rB_addTimes_32 {a0 a1 : Nat} {a2 a5 s0 s1 s2 : Int} {u3 u4 : zV} : zS 7 32 [zR a0, zR a1, zI a2, u3, u4, zI a5] [zL s0, zL s1, zL s2] sh pp mm Q ↔ zS 7 33 [zR a0, zR a1, zI a2, zU, zU, zI a5] [zL (zw64 (s1 + s0)), zL s2] sh pp mm Q := s_go cB_addTimes_32 cB_addTimes_33 rfl rfl
theorem rB_addTimes_33 {a0 a1 : Nat} {a2 a5 s0 s1 : Int} {u3 u4 : zV} : zS 7 33 [zR a0, zR a1, zI a2, u3, u4, zI a5] [zL s0, zL s1] sh pp mm Q ↔ zS 7 34 [zR a0, zR a1, zI a2, zU, zU, zI a5] [zL (zw64 (s1 + s0))] sh pp mm Q := s_go cB_addTimes_33 cB_addTimes_34 rfl rfl
theorem rB_addTimes_34 {a0 a1 : Nat} {a2 a5 s0 : Int} {u3 u4 : zV} : zS 7 34 [zR a0, zR a1, zI a2, u3, u4, zI a5] [zL s0] sh pp mm Q ↔ zS 7 35 [zR a0, zR a1, zI a2, zL s0, zU, zI a5] [] sh pp mm Q := s_go cB_addTimes_34 cB_addTimes_35 rfl rfl
theorem rB_addTimes_35 {a0 a1 : Nat} {a2 a3 a5 : Int} {u4 : zV} : zS 7 35 [zR a0, zR a1, zI a2, zL a3, u4, zI a5] [] sh pp mm Q ↔ zS 7 36 [zR a0, zR a1, zI a2, zL a3, zU, zI a5] [zR a0] sh pp mm Q := s_go cB_addTimes_35 cB_addTimes_36 rfl rfl
theorem rB_addTimes_36 {a0 a1 s0 : Nat} {a2 a3 a5 : Int} {u4 : zV} (hk : zKd sh s0 = 0) : zS 7 36 [zR a0, zR a1, zI a2, zL a3, u4, zI a5] [zR s0] sh pp mm Q ↔ zS 7 39 [zR a0, zR a1, zI a2, zL a3, zU, zI a5] [zR (pp s0 0)] sh pp mm Q := s_go cB_addTimes_36 cB_addTimes_39 (if_pos hk) rfl
theorem rB_addTimes_39 {a0 a1 s0 : Nat} {a2 a3 a5 : Int} {u4 : zV} : zS 7 39 [zR a0, zR a1, zI a2, zL a3, u4, zI a5] [zR s0] sh pp mm Q ↔ zS 7 41 [zR a0, zR a1, zI a2, zL a3, zU, zI a5] [zI a5, zR s0] sh pp mm Q := s_go cB_addTimes_39 cB_addTimes_41 rfl rfl
theorem rB_addTimes_41 {a0 a1 s1 : Nat} {a2 a3 a5 s0 : Int} {u4 : zV} : zS 7 41 [zR a0, zR a1, zI a2, zL a3, u4, zI a5] [zI s0, zR s1] sh pp mm Q ↔ zS 7 42 [zR a0, zR a1, zI a2, zL a3, zU, zI a5] [zL a3, zI s0, zR s1] sh pp mm Q := s_go cB_addTimes_41 cB_addTimes_42 rfl rfl
theorem rB_addTimes_42 {a0 a1 s2 : Nat} {a2 a3 a5 s0 s1 : Int} {u4 : zV} : zS 7 42 [zR a0, zR a1, zI a2, zL a3, u4, zI a5] [zL s0, zI s1, zR s2] sh pp mm Q ↔ zS 7 45 [zR a0, zR a1, zI a2, zL a3, zU, zI a5] [zL 1073741823, zL s0, zI s1, zR s2] sh pp mm Q := s_go cB_addTimes_42 cB_addTimes_45 rfl rfl
theorem rB_addTimes_45 {a0 a1 s3 : Nat} {a2 a3 a5 s0 s1 s2 : Int} {u4 : zV} : zS 7 45 [zR a0, zR a1, zI a2, zL a3, u4, zI a5] [zL s0, zL s1, zI s2, zR s3] sh pp mm Q ↔ zS 7 46 [zR a0, zR a1, zI a2, zL a3, zU, zI a5] [zL (zland s1 s0), zI s2, zR s3] sh pp mm Q := s_go cB_addTimes_45 cB_addTimes_46 rfl rfl
theorem rB_addTimes_46 {a0 a1 s2 : Nat} {a2 a3 a5 s0 s1 : Int} {u4 : zV} : zS 7 46 [zR a0, zR a1, zI a2, zL a3, u4, zI a5] [zL s0, zI s1, zR s2] sh pp mm Q ↔ zS 7 47 [zR a0, zR a1, zI a2, zL a3, zU, zI a5] [zI (zw32 s0), zI s1, zR s2] sh pp mm Q := s_go cB_addTimes_46 cB_addTimes_47 rfl rfl
theorem rB_addTimes_47 {a0 a1 s2 : Nat} {a2 a3 a5 s0 s1 : Int} {u4 : zV} (hk : zKd sh s2 = 20) (h0 : 0 ≤ s1) (h1 : s1 < zLn sh s2) : zS 7 47 [zR a0, zR a1, zI a2, zL a3, u4, zI a5] [zI s0, zI s1, zR s2] sh pp mm Q ↔ zS 7 48 [zR a0, zR a1, zI a2, zL a3, zU, zI a5] [] sh pp (zupd mm s2 s1 s0) Q := s_go cB_addTimes_47 cB_addTimes_48 (if_pos ⟨hk, h0, h1, fun h => absurd h (by decide)⟩) rfl
theorem rB_addTimes_48 {a0 a1 : Nat} {a2 a3 a5 : Int} {u4 : zV} : zS 7 48 [zR a0, zR a1, zI a2, zL a3, u4, zI a5] [] sh pp mm Q ↔ zS 7 49 [zR a0, zR a1, zI a2, zU, zU, zI a5] [zL a3] sh pp mm Q := s_go cB_addTimes_48 cB_addTimes_49 rfl rfl
theorem rB_addTimes_49 {a0 a1 : Nat} {a2 a5 s0 : Int} {u3 u4 : zV} : zS 7 49 [zR a0, zR a1, zI a2, u3, u4, zI a5] [zL s0] sh pp mm Q ↔ zS 7 51 [zR a0, zR a1, zI a2, zU, zU, zI a5] [zI 30, zL s0] sh pp mm Q := s_go cB_addTimes_49 cB_addTimes_51 rfl rfl
theorem rB_addTimes_51 {a0 a1 : Nat} {a2 a5 s0 s1 : Int} {u3 u4 : zV} : zS 7 51 [zR a0, zR a1, zI a2, u3, u4, zI a5] [zI s0, zL s1] sh pp mm Q ↔ zS 7 52 [zR a0, zR a1, zI a2, zU, zU, zI a5] [zL (zlshr s1 s0)] sh pp mm Q := s_go cB_addTimes_51 cB_addTimes_52 rfl rfl
theorem rB_addTimes_52 {a0 a1 : Nat} {a2 a5 s0 : Int} {u3 u4 : zV} : zS 7 52 [zR a0, zR a1, zI a2, u3, u4, zI a5] [zL s0] sh pp mm Q ↔ zS 7 53 [zR a0, zR a1, zI a2, zL s0, zU, zI a5] [] sh pp mm Q := s_go cB_addTimes_52 cB_addTimes_53 rfl rfl
theorem rB_addTimes_53 {a0 a1 : Nat} {a2 a3 a5 : Int} {u4 : zV} : zS 7 53 [zR a0, zR a1, zI a2, zL a3, u4, zI a5] [] sh pp mm Q ↔ zS 7 56 [zR a0, zR a1, zI a2, zL a3, zU, zI (zw32 (a5 + 1))] [] sh pp mm Q := s_go cB_addTimes_53 cB_addTimes_56 rfl rfl
theorem rB_addTimes_56 {a0 a1 : Nat} {a2 a3 a5 : Int} {u4 : zV} : zS 7 56 [zR a0, zR a1, zI a2, zL a3, u4, zI a5] [] sh pp mm Q ↔ zS 7 5 [zR a0, zR a1, zI a2, zL a3, zU, zI a5] [] sh pp mm Q := s_go cB_addTimes_56 cB_addTimes_5 rfl rfl
theorem rB_addTimes_59 {a0 : Nat} {u1 u2 u3 u4 u5 : zV} : zS 7 59 [zR a0, u1, u2, u3, u4, u5] [] sh pp mm Q ↔ zS 7 60 [zU, zU, zU, zU, zU, zU] [zR a0] sh pp mm Q := s_go cB_addTimes_59 cB_addTimes_60 rfl rfl
theorem rB_addTimes_60 {s0 : Nat} {u0 u1 u2 u3 u4 u5 : zV} (hk : zKd sh s0 = 0) : zS 7 60 [u0, u1, u2, u3, u4, u5] [zR s0] sh pp mm Q ↔ zS 5 0 [zR s0] [] sh pp mm (fun v sh pp mm => zS 7 63 [zU, zU, zU, zU, zU, zU] (zPush v []) sh pp mm Q) := s_call cB_addTimes_60 cB_addTimes_63 ((if_pos hk).trans rfl) rfl
theorem rB_addTimes_63 {u0 u1 u2 u3 u4 u5 : zV} : zS 7 63 [u0, u1, u2, u3, u4, u5] [] sh pp mm Q ↔ Q zU sh pp mm := s_ret cB_addTimes_63 rfl
theorem cAB_subtract : ∀ q ∈ zT8, zCode 8 q.1 = some q.2 := zAll (mid := 8) rfl (by decide +kernel)
theorem cAB_subtract_0 : ∀ q ∈ zT8_0, zCode 8 q.1 = some q.2 := fun q h => cAB_subtract q (List.mem_append_left _ h)
theorem cAB_subtract_1 : ∀ q ∈ zT8_1, zCode 8 q.1 = some q.2 := fun q h => cAB_subtract q (List.mem_append_right _ (List.mem_append_left _ h))
theorem cAB_subtract_2 : ∀ q ∈ zT8_2, zCode 8 q.1 = some q.2 := fun q h => cAB_subtract q (List.mem_append_right _ (List.mem_append_right _ h))
theorem cB_subtract_0 : zCode 8 0 = some (.iconst 0, 1, 0, 0, 0, 0, 3) := cAB_subtract_0 _ (List.mem_of_getElem? (i := 0) rfl)
theorem cB_subtract_1 : zCode 8 1 = some (.istore_n 2, 2, 0, 0, 0, 0, 3) := cAB_subtract_0 _ (List.mem_of_getElem? (i := 1) rfl)
theorem cB_subtract_2 : zCode 8 2 = some (.iconst 0, 3, 0, 0, 0, 0, 7) := cAB_subtract_0 _ (List.mem_of_getElem? (i := 2) rfl)
theorem cB_subtract_3 : zCode 8 3 = some (.istore_n 3, 4, 0, 0, 0, 0, 7) := cAB_subtract_0 _ (List.mem_of_getElem? (i := 3) rfl)
theorem cB_subtract_4 : zCode 8 4 = some (.iload_n 3, 5, 0, 0, 0, 0, 15) := cAB_subtract_0 _ (List.mem_of_getElem? (i := 4) rfl)
theorem cB_subtract_5 : zCode 8 5 = some (.bipush 8, 7, 0, 0, 0, 0, 15) := cAB_subtract_0 _ (List.mem_of_getElem? (i := 5) rfl)
theorem cB_subtract_7 : zCode 8 7 = some (.if_icmp .ge 48, 10, 55, 0, 0, 0, 15) := cAB_subtract_0 _ (List.mem_of_getElem? (i := 6) rfl)
theorem cB_subtract_10 : zCode 8 10 = some (.aload_n 0, 11, 0, 0, 0, 0, 15) := cAB_subtract_0 _ (List.mem_of_getElem? (i := 7) rfl)
theorem cB_subtract_11 : zCode 8 11 = some (.getfield 9, 14, 0, 0, 2, 333, 15) := cAB_subtract_0 _ (List.mem_of_getElem? (i := 8) rfl)
theorem cB_subtract_14 : zCode 8 14 = some (.iload_n 3, 15, 0, 0, 0, 0, 15) := cAB_subtract_0 _ (List.mem_of_getElem? (i := 9) rfl)
theorem cB_subtract_15 : zCode 8 15 = some (.iaload, 16, 0, 0, 0, 0, 15) := cAB_subtract_0 _ (List.mem_of_getElem? (i := 10) rfl)
theorem cB_subtract_16 : zCode 8 16 = some (.aload_n 1, 17, 0, 0, 0, 0, 15) := cAB_subtract_0 _ (List.mem_of_getElem? (i := 11) rfl)
theorem cB_subtract_17 : zCode 8 17 = some (.getfield 9, 20, 0, 0, 2, 333, 15) := cAB_subtract_0 _ (List.mem_of_getElem? (i := 12) rfl)
theorem cB_subtract_20 : zCode 8 20 = some (.iload_n 3, 21, 0, 0, 0, 0, 15) := cAB_subtract_0 _ (List.mem_of_getElem? (i := 13) rfl)
theorem cB_subtract_21 : zCode 8 21 = some (.iaload, 22, 0, 0, 0, 0, 15) := cAB_subtract_0 _ (List.mem_of_getElem? (i := 14) rfl)
theorem cB_subtract_22 : zCode 8 22 = some (.isub, 23, 0, 0, 0, 0, 15) := cAB_subtract_0 _ (List.mem_of_getElem? (i := 15) rfl)
theorem cB_subtract_23 : zCode 8 23 = some (.iload_n 2, 24, 0, 0, 0, 0, 15) := cAB_subtract_1 _ (List.mem_of_getElem? (i := 0) rfl)
theorem cB_subtract_24 : zCode 8 24 = some (.isub, 25, 0, 0, 0, 0, 11) := cAB_subtract_1 _ (List.mem_of_getElem? (i := 1) rfl)
theorem cB_subtract_25 : zCode 8 25 = some (.istore 4, 27, 0, 0, 0, 0, 11) := cAB_subtract_1 _ (List.mem_of_getElem? (i := 2) rfl)
theorem cB_subtract_27 : zCode 8 27 = some (.iload 4, 29, 0, 0, 0, 0, 27) := cAB_subtract_1 _ (List.mem_of_getElem? (i := 3) rfl)
theorem cB_subtract_29 : zCode 8 29 = some (.ifCond .ge 7, 32, 36, 0, 0, 0, 27) := cAB_subtract_1 _ (List.mem_of_getElem? (i := 4) rfl)
theorem cB_subtract_32 : zCode 8 32 = some (.iconst 1, 33, 0, 0, 0, 0, 27) := cAB_subtract_1 _ (List.mem_of_getElem? (i := 5) rfl)
theorem cB_subtract_33 : zCode 8 33 = some (.goto 4, 36, 37, 0, 0, 0, 27) := cAB_subtract_1 _ (List.mem_of_getElem? (i := 6) rfl)
theorem cB_subtract_36 : zCode 8 36 = some (.iconst 0, 37, 0, 0, 0, 0, 27) := cAB_subtract_1 _ (List.mem_of_getElem? (i := 7) rfl)
theorem cB_subtract_37 : zCode 8 37 = some (.istore_n 2, 38, 0, 0, 0, 0, 27) := cAB_subtract_1 _ (List.mem_of_getElem? (i := 8) rfl)
theorem cB_subtract_38 : zCode 8 38 = some (.aload_n 0, 39, 0, 0, 0, 0, 31) := cAB_subtract_1 _ (List.mem_of_getElem? (i := 9) rfl)
theorem cB_subtract_39 : zCode 8 39 = some (.getfield 9, 42, 0, 0, 2, 333, 31) := cAB_subtract_1 _ (List.mem_of_getElem? (i := 10) rfl)
theorem cB_subtract_42 : zCode 8 42 = some (.iload_n 3, 43, 0, 0, 0, 0, 31) := cAB_subtract_1 _ (List.mem_of_getElem? (i := 11) rfl)
theorem cB_subtract_43 : zCode 8 43 = some (.iload 4, 45, 0, 0, 0, 0, 31) := cAB_subtract_1 _ (List.mem_of_getElem? (i := 12) rfl)
theorem cB_subtract_45 : zCode 8 45 = some (.ldc 25, 47, 0, 0, 348, 1073741823, 15) := cAB_subtract_1 _ (List.mem_of_getElem? (i := 13) rfl)
theorem cB_subtract_47 : zCode 8 47 = some (.iand, 48, 0, 0, 0, 0, 15) := cAB_subtract_1 _ (List.mem_of_getElem? (i := 14) rfl)
theorem cB_subtract_48 : zCode 8 48 = some (.iastore, 49, 0, 0, 0, 0, 15) := cAB_subtract_1 _ (List.mem_of_getElem? (i := 15) rfl)
theorem cB_subtract_49 : zCode 8 49 = some (.iinc 3 1, 52, 0, 0, 0, 0, 15) := cAB_subtract_2 _ (List.mem_of_getElem? (i := 0) rfl)
theorem cB_subtract_52 : zCode 8 52 = some (.goto (-48), 55, 4, 0, 0, 0, 15) := cAB_subtract_2 _ (List.mem_of_getElem? (i := 1) rfl)
theorem cB_subtract_55 : zCode 8 55 = some (.aload_n 0, 56, 0, 0, 0, 0, 1) := cAB_subtract_2 _ (List.mem_of_getElem? (i := 2) rfl)
theorem cB_subtract_56 : zCode 8 56 = some (.invokevirtual 34, 59, 5, 0, 1, 0, 0) := cAB_subtract_2 _ (List.mem_of_getElem? (i := 3) rfl)
theorem cB_subtract_59 : zCode 8 59 = some (.return_, 60, 0, 0, 0, 0, 0) := cAB_subtract_2 _ (List.mem_of_getElem? (i := 4) rfl)
theorem rB_subtract_0 {a0 a1 : Nat} {u2 u3 u4 : zV} : zS 8 0 [zR a0, zR a1, u2, u3, u4] [] sh pp mm Q ↔ zS 8 1 [zR a0, zR a1, zU, zU, zU] [zI 0] sh pp mm Q := s_go cB_subtract_0 cB_subtract_1 rfl rfl
theorem rB_subtract_1 {a0 a1 : Nat} {s0 : Int} {u2 u3 u4 : zV} : zS 8 1 [zR a0, zR a1, u2, u3, u4] [zI s0] sh pp mm Q ↔ zS 8 2 [zR a0, zR a1, zI s0, zU, zU] [] sh pp mm Q := s_go cB_subtract_1 cB_subtract_2 rfl rfl
theorem rB_subtract_2 {a0 a1 : Nat} {a2 : Int} {u3 u4 : zV} : zS 8 2 [zR a0, zR a1, zI a2, u3, u4] [] sh pp mm Q ↔ zS 8 3 [zR a0, zR a1, zI a2, zU, zU] [zI 0] sh pp mm Q := s_go cB_subtract_2 cB_subtract_3 rfl rfl
theorem rB_subtract_3 {a0 a1 : Nat} {a2 s0 : Int} {u3 u4 : zV} : zS 8 3 [zR a0, zR a1, zI a2, u3, u4] [zI s0] sh pp mm Q ↔ zS 8 4 [zR a0, zR a1, zI a2, zI s0, zU] [] sh pp mm Q := s_go cB_subtract_3 cB_subtract_4 rfl rfl
theorem rB_subtract_4 {a0 a1 : Nat} {a2 a3 : Int} {u4 : zV} : zS 8 4 [zR a0, zR a1, zI a2, zI a3, u4] [] sh pp mm Q ↔ zS 8 5 [zR a0, zR a1, zI a2, zI a3, zU] [zI a3] sh pp mm Q := s_go cB_subtract_4 cB_subtract_5 rfl rfl
theorem rB_subtract_5 {a0 a1 : Nat} {a2 a3 s0 : Int} {u4 : zV} : zS 8 5 [zR a0, zR a1, zI a2, zI a3, u4] [zI s0] sh pp mm Q ↔ zS 8 7 [zR a0, zR a1, zI a2, zI a3, zU] [zI 8, zI s0] sh pp mm Q := s_go cB_subtract_5 cB_subtract_7 rfl rfl
theorem rB_subtract_7 {a0 a1 : Nat} {a2 a3 s0 s1 : Int} {u4 : zV} : zS 8 7 [zR a0, zR a1, zI a2, zI a3, u4] [zI s0, zI s1] sh pp mm Q ↔ (s1 < s0 → zS 8 10 [zR a0, zR a1, zI a2, zI a3, zU] [] sh pp mm Q) ∧ (¬ s1 < s0 → zS 8 55 [zR a0, zU, zU, zU, zU] [] sh pp mm Q) := s_ifn cB_subtract_7 cB_subtract_10 cB_subtract_55 rfl rfl rfl
theorem rB_subtract_10 {a0 a1 : Nat} {a2 a3 : Int} {u4 : zV} : zS 8 10 [zR a0, zR a1, zI a2, zI a3, u4] [] sh pp mm Q ↔ zS 8 11 [zR a0, zR a1, zI a2, zI a3, zU] [zR a0] sh pp mm Q := s_go cB_subtract_10 cB_subtract_11 rfl rfl
theorem rB_subtract_11 {a0 a1 s0 : Nat} {a2 a3 : Int} {u4 : zV} (hk : zKd sh s0 = 0) : zS 8 11 [zR a0, zR a1, zI a2, zI a3, u4] [zR s0] sh pp mm Q ↔ zS 8 14 [zR a0, zR a1, zI a2, zI a3, zU] [zR (pp s0 0)] sh pp mm Q := s_go cB_subtract_11 cB_subtract_14 (if_pos hk) rfl
theorem rB_subtract_14 {a0 a1 s0 : Nat} {a2 a3 : Int} {u4 : zV} : zS 8 14 [zR a0, zR a1, zI a2, zI a3, u4] [zR s0] sh pp mm Q ↔ zS 8 15 [zR a0, zR a1, zI a2, zI a3, zU] [zI a3, zR s0] sh pp mm Q := s_go cB_subtract_14 cB_subtract_15 rfl rfl
theorem rB_subtract_15 {a0 a1 s1 : Nat} {a2 a3 s0 : Int} {u4 : zV} (hk : zKd sh s1 = 20 ∨ zKd sh s1 = 30) (h0 : 0 ≤ s0) (h1 : s0 < zLn sh s1) : zS 8 15 [zR a0, zR a1, zI a2, zI a3, u4] [zI s0, zR s1] sh pp mm Q ↔ zS 8 16 [zR a0, zR a1, zI a2, zI a3, zU] [zI (mm s1 s0)] sh pp mm Q := s_go cB_subtract_15 cB_subtract_16 (if_pos ⟨hk, h0, h1⟩) rfl
theorem rB_subtract_16 {a0 a1 : Nat} {a2 a3 s0 : Int} {u4 : zV} : zS 8 16 [zR a0, zR a1, zI a2, zI a3, u4] [zI s0] sh pp mm Q ↔ zS 8 17 [zR a0, zR a1, zI a2, zI a3, zU] [zR a1, zI s0] sh pp mm Q := s_go cB_subtract_16 cB_subtract_17 rfl rfl
theorem rB_subtract_17 {a0 a1 s0 : Nat} {a2 a3 s1 : Int} {u4 : zV} (hk : zKd sh s0 = 0) : zS 8 17 [zR a0, zR a1, zI a2, zI a3, u4] [zR s0, zI s1] sh pp mm Q ↔ zS 8 20 [zR a0, zR a1, zI a2, zI a3, zU] [zR (pp s0 0), zI s1] sh pp mm Q := s_go cB_subtract_17 cB_subtract_20 (if_pos hk) rfl
theorem rB_subtract_20 {a0 a1 s0 : Nat} {a2 a3 s1 : Int} {u4 : zV} : zS 8 20 [zR a0, zR a1, zI a2, zI a3, u4] [zR s0, zI s1] sh pp mm Q ↔ zS 8 21 [zR a0, zR a1, zI a2, zI a3, zU] [zI a3, zR s0, zI s1] sh pp mm Q := s_go cB_subtract_20 cB_subtract_21 rfl rfl
theorem rB_subtract_21 {a0 a1 s1 : Nat} {a2 a3 s0 s2 : Int} {u4 : zV} (hk : zKd sh s1 = 20 ∨ zKd sh s1 = 30) (h0 : 0 ≤ s0) (h1 : s0 < zLn sh s1) : zS 8 21 [zR a0, zR a1, zI a2, zI a3, u4] [zI s0, zR s1, zI s2] sh pp mm Q ↔ zS 8 22 [zR a0, zR a1, zI a2, zI a3, zU] [zI (mm s1 s0), zI s2] sh pp mm Q := s_go cB_subtract_21 cB_subtract_22 (if_pos ⟨hk, h0, h1⟩) rfl
theorem rB_subtract_22 {a0 a1 : Nat} {a2 a3 s0 s1 : Int} {u4 : zV} : zS 8 22 [zR a0, zR a1, zI a2, zI a3, u4] [zI s0, zI s1] sh pp mm Q ↔ zS 8 23 [zR a0, zR a1, zI a2, zI a3, zU] [zI (zw32 (s1 - s0))] sh pp mm Q := s_go cB_subtract_22 cB_subtract_23 rfl rfl
theorem rB_subtract_23 {a0 a1 : Nat} {a2 a3 s0 : Int} {u4 : zV} : zS 8 23 [zR a0, zR a1, zI a2, zI a3, u4] [zI s0] sh pp mm Q ↔ zS 8 24 [zR a0, zR a1, zU, zI a3, zU] [zI a2, zI s0] sh pp mm Q := s_go cB_subtract_23 cB_subtract_24 rfl rfl
theorem rB_subtract_24 {a0 a1 : Nat} {a3 s0 s1 : Int} {u2 u4 : zV} : zS 8 24 [zR a0, zR a1, u2, zI a3, u4] [zI s0, zI s1] sh pp mm Q ↔ zS 8 25 [zR a0, zR a1, zU, zI a3, zU] [zI (zw32 (s1 - s0))] sh pp mm Q := s_go cB_subtract_24 cB_subtract_25 rfl rfl
theorem rB_subtract_25 {a0 a1 : Nat} {a3 s0 : Int} {u2 u4 : zV} : zS 8 25 [zR a0, zR a1, u2, zI a3, u4] [zI s0] sh pp mm Q ↔ zS 8 27 [zR a0, zR a1, zU, zI a3, zI s0] [] sh pp mm Q := s_go cB_subtract_25 cB_subtract_27 rfl rfl
theorem rB_subtract_27 {a0 a1 : Nat} {a3 a4 : Int} {u2 : zV} : zS 8 27 [zR a0, zR a1, u2, zI a3, zI a4] [] sh pp mm Q ↔ zS 8 29 [zR a0, zR a1, zU, zI a3, zI a4] [zI a4] sh pp mm Q := s_go cB_subtract_27 cB_subtract_29 rfl rfl
theorem rB_subtract_29 {a0 a1 : Nat} {a3 a4 s0 : Int} {u2 : zV} : zS 8 29 [zR a0, zR a1, u2, zI a3, zI a4] [zI s0] sh pp mm Q ↔ (s0 < 0 → zS 8 32 [zR a0, zR a1, zU, zI a3, zI a4] [] sh pp mm Q) ∧ (¬ s0 < 0 → zS 8 36 [zR a0, zR a1, zU, zI a3, zI a4] [] sh pp mm Q) := s_ifn cB_subtract_29 cB_subtract_32 cB_subtract_36 rfl rfl rfl
theorem rB_subtract_32 {a0 a1 : Nat} {a3 a4 : Int} {u2 : zV} : zS 8 32 [zR a0, zR a1, u2, zI a3, zI a4] [] sh pp mm Q ↔ zS 8 33 [zR a0, zR a1, zU, zI a3, zI a4] [zI 1] sh pp mm Q := s_go cB_subtract_32 cB_subtract_33 rfl rfl
theorem rB_subtract_33 {a0 a1 : Nat} {a3 a4 s0 : Int} {u2 : zV} : zS 8 33 [zR a0, zR a1, u2, zI a3, zI a4] [zI s0] sh pp mm Q ↔ zS 8 37 [zR a0, zR a1, zU, zI a3, zI a4] [zI s0] sh pp mm Q := s_go cB_subtract_33 cB_subtract_37 rfl rfl
theorem rB_subtract_36 {a0 a1 : Nat} {a3 a4 : Int} {u2 : zV} : zS 8 36 [zR a0, zR a1, u2, zI a3, zI a4] [] sh pp mm Q ↔ zS 8 37 [zR a0, zR a1, zU, zI a3, zI a4] [zI 0] sh pp mm Q := s_go cB_subtract_36 cB_subtract_37 rfl rfl
theorem rB_subtract_37 {a0 a1 : Nat} {a3 a4 s0 : Int} {u2 : zV} : zS 8 37 [zR a0, zR a1, u2, zI a3, zI a4] [zI s0] sh pp mm Q ↔ zS 8 38 [zR a0, zR a1, zI s0, zI a3, zI a4] [] sh pp mm Q := s_go cB_subtract_37 cB_subtract_38 rfl rfl
theorem rB_subtract_38 {a0 a1 : Nat} {a2 a3 a4 : Int} : zS 8 38 [zR a0, zR a1, zI a2, zI a3, zI a4] [] sh pp mm Q ↔ zS 8 39 [zR a0, zR a1, zI a2, zI a3, zI a4] [zR a0] sh pp mm Q := s_go cB_subtract_38 cB_subtract_39 rfl rfl
theorem rB_subtract_39 {a0 a1 s0 : Nat} {a2 a3 a4 : Int} (hk : zKd sh s0 = 0) : zS 8 39 [zR a0, zR a1, zI a2, zI a3, zI a4] [zR s0] sh pp mm Q ↔ zS 8 42 [zR a0, zR a1, zI a2, zI a3, zI a4] [zR (pp s0 0)] sh pp mm Q := s_go cB_subtract_39 cB_subtract_42 (if_pos hk) rfl
theorem rB_subtract_42 {a0 a1 s0 : Nat} {a2 a3 a4 : Int} : zS 8 42 [zR a0, zR a1, zI a2, zI a3, zI a4] [zR s0] sh pp mm Q ↔ zS 8 43 [zR a0, zR a1, zI a2, zI a3, zI a4] [zI a3, zR s0] sh pp mm Q := s_go cB_subtract_42 cB_subtract_43 rfl rfl
theorem rB_subtract_43 {a0 a1 s1 : Nat} {a2 a3 a4 s0 : Int} : zS 8 43 [zR a0, zR a1, zI a2, zI a3, zI a4] [zI s0, zR s1] sh pp mm Q ↔ zS 8 45 [zR a0, zR a1, zI a2, zI a3, zU] [zI a4, zI s0, zR s1] sh pp mm Q := s_go cB_subtract_43 cB_subtract_45 rfl rfl
theorem rB_subtract_45 {a0 a1 s2 : Nat} {a2 a3 s0 s1 : Int} {u4 : zV} : zS 8 45 [zR a0, zR a1, zI a2, zI a3, u4] [zI s0, zI s1, zR s2] sh pp mm Q ↔ zS 8 47 [zR a0, zR a1, zI a2, zI a3, zU] [zI 1073741823, zI s0, zI s1, zR s2] sh pp mm Q := s_go cB_subtract_45 cB_subtract_47 rfl rfl
theorem rB_subtract_47 {a0 a1 s3 : Nat} {a2 a3 s0 s1 s2 : Int} {u4 : zV} : zS 8 47 [zR a0, zR a1, zI a2, zI a3, u4] [zI s0, zI s1, zI s2, zR s3] sh pp mm Q ↔ zS 8 48 [zR a0, zR a1, zI a2, zI a3, zU] [zI (zand s1 s0), zI s2, zR s3] sh pp mm Q := s_go cB_subtract_47 cB_subtract_48 rfl rfl
theorem rB_subtract_48 {a0 a1 s2 : Nat} {a2 a3 s0 s1 : Int} {u4 : zV} (hk : zKd sh s2 = 20) (h0 : 0 ≤ s1) (h1 : s1 < zLn sh s2) : zS 8 48 [zR a0, zR a1, zI a2, zI a3, u4] [zI s0, zI s1, zR s2] sh pp mm Q ↔ zS 8 49 [zR a0, zR a1, zI a2, zI a3, zU] [] sh pp (zupd mm s2 s1 s0) Q := s_go cB_subtract_48 cB_subtract_49 (if_pos ⟨hk, h0, h1, fun h => absurd h (by decide)⟩) rfl
theorem rB_subtract_49 {a0 a1 : Nat} {a2 a3 : Int} {u4 : zV} : zS 8 49 [zR a0, zR a1, zI a2, zI a3, u4] [] sh pp mm Q ↔ zS 8 52 [zR a0, zR a1, zI a2, zI (zw32 (a3 + 1)), zU] [] sh pp mm Q := s_go cB_subtract_49 cB_subtract_52 rfl rfl
theorem rB_subtract_52 {a0 a1 : Nat} {a2 a3 : Int} {u4 : zV} : zS 8 52 [zR a0, zR a1, zI a2, zI a3, u4] [] sh pp mm Q ↔ zS 8 4 [zR a0, zR a1, zI a2, zI a3, zU] [] sh pp mm Q := s_go cB_subtract_52 cB_subtract_4 rfl rfl
theorem rB_subtract_55 {a0 : Nat} {u1 u2 u3 u4 : zV} : zS 8 55 [zR a0, u1, u2, u3, u4] [] sh pp mm Q ↔ zS 8 56 [zU, zU, zU, zU, zU] [zR a0] sh pp mm Q := s_go cB_subtract_55 cB_subtract_56 rfl rfl
theorem rB_subtract_56 {s0 : Nat} {u0 u1 u2 u3 u4 : zV} (hk : zKd sh s0 = 0) : zS 8 56 [u0, u1, u2, u3, u4] [zR s0] sh pp mm Q ↔ zS 5 0 [zR s0] [] sh pp mm (fun v sh pp mm => zS 8 59 [zU, zU, zU, zU, zU] (zPush v []) sh pp mm Q) := s_call cB_subtract_56 cB_subtract_59 ((if_pos hk).trans rfl) rfl
theorem rB_subtract_59 {u0 u1 u2 u3 u4 : zV} : zS 8 59 [u0, u1, u2, u3, u4] [] sh pp mm Q ↔ Q zU sh pp mm := s_ret cB_subtract_59 rfl
theorem cAB_halve : ∀ q ∈ zT9, zCode 9 q.1 = some q.2 := zAll (mid := 9) rfl (by decide +kernel)
theorem cAB_halve_0 : ∀ q ∈ zT9_0, zCode 9 q.1 = some q.2 := fun q h => cAB_halve q (List.mem_append_left _ h)
theorem cAB_halve_1 : ∀ q ∈ zT9_1, zCode 9 q.1 = some q.2 := fun q h => cAB_halve q (List.mem_append_right _ (List.mem_append_left _ h))
theorem cAB_halve_2 : ∀ q ∈ zT9_2, zCode 9 q.1 = some q.2 := fun q h => cAB_halve q (List.mem_append_right _ (List.mem_append_right _ h))
theorem cB_halve_0 : zCode 9 0 = some (.iconst 0, 1, 0, 0, 0, 0, 1) := cAB_halve_0 _ (List.mem_of_getElem? (i := 0) rfl)
theorem cB_halve_1 : zCode 9 1 = some (.istore_n 1, 2, 0, 0, 0, 0, 1) := cAB_halve_0 _ (List.mem_of_getElem? (i := 1) rfl)
theorem cB_halve_2 : zCode 9 2 = some (.iload_n 1, 3, 0, 0, 0, 0, 3) := cAB_halve_0 _ (List.mem_of_getElem? (i := 2) rfl)
theorem cB_halve_3 : zCode 9 3 = some (.bipush 8, 5, 0, 0, 0, 0, 3) := cAB_halve_0 _ (List.mem_of_getElem? (i := 3) rfl)
theorem cB_halve_5 : zCode 9 5 = some (.if_icmp .ge 51, 8, 56, 0, 0, 0, 3) := cAB_halve_0 _ (List.mem_of_getElem? (i := 4) rfl)
theorem cB_halve_8 : zCode 9 8 = some (.iload_n 1, 9, 0, 0, 0, 0, 3) := cAB_halve_0 _ (List.mem_of_getElem? (i := 5) rfl)
theorem cB_halve_9 : zCode 9 9 = some (.iconst 1, 10, 0, 0, 0, 0, 3) := cAB_halve_0 _ (List.mem_of_getElem? (i := 6) rfl)
theorem cB_halve_10 : zCode 9 10 = some (.iadd, 11, 0, 0, 0, 0, 3) := cAB_halve_0 _ (List.mem_of_getElem? (i := 7) rfl)
theorem cB_halve_11 : zCode 9 11 = some (.bipush 8, 13, 0, 0, 0, 0, 3) := cAB_halve_0 _ (List.mem_of_getElem? (i := 8) rfl)
theorem cB_halve_13 : zCode 9 13 = some (.if_icmp .ge 14, 16, 27, 0, 0, 0, 3) := cAB_halve_0 _ (List.mem_of_getElem? (i := 9) rfl)
theorem cB_halve_16 : zCode 9 16 = some (.aload_n 0, 17, 0, 0, 0, 0, 3) := cAB_halve_0 _ (List.mem_of_getElem? (i := 10) rfl)
theorem cB_halve_17 : zCode 9 17 = some (.getfield 9, 20, 0, 0, 2, 333, 3) := cAB_halve_0 _ (List.mem_of_getElem? (i := 11) rfl)
theorem cB_halve_20 : zCode 9 20 = some (.iload_n 1, 21, 0, 0, 0, 0, 3) := cAB_halve_0 _ (List.mem_of_getElem? (i := 12) rfl)
theorem cB_halve_21 : zCode 9 21 = some (.iconst 1, 22, 0, 0, 0, 0, 3) := cAB_halve_0 _ (List.mem_of_getElem? (i := 13) rfl)
theorem cB_halve_22 : zCode 9 22 = some (.iadd, 23, 0, 0, 0, 0, 3) := cAB_halve_0 _ (List.mem_of_getElem? (i := 14) rfl)
theorem cB_halve_23 : zCode 9 23 = some (.iaload, 24, 0, 0, 0, 0, 3) := cAB_halve_0 _ (List.mem_of_getElem? (i := 15) rfl)
theorem cB_halve_24 : zCode 9 24 = some (.goto 4, 27, 28, 0, 0, 0, 3) := cAB_halve_1 _ (List.mem_of_getElem? (i := 0) rfl)
theorem cB_halve_27 : zCode 9 27 = some (.iconst 0, 28, 0, 0, 0, 0, 3) := cAB_halve_1 _ (List.mem_of_getElem? (i := 1) rfl)
theorem cB_halve_28 : zCode 9 28 = some (.istore_n 2, 29, 0, 0, 0, 0, 3) := cAB_halve_1 _ (List.mem_of_getElem? (i := 2) rfl)
theorem cB_halve_29 : zCode 9 29 = some (.aload_n 0, 30, 0, 0, 0, 0, 7) := cAB_halve_1 _ (List.mem_of_getElem? (i := 3) rfl)
theorem cB_halve_30 : zCode 9 30 = some (.getfield 9, 33, 0, 0, 2, 333, 7) := cAB_halve_1 _ (List.mem_of_getElem? (i := 4) rfl)
theorem cB_halve_33 : zCode 9 33 = some (.iload_n 1, 34, 0, 0, 0, 0, 7) := cAB_halve_1 _ (List.mem_of_getElem? (i := 5) rfl)
theorem cB_halve_34 : zCode 9 34 = some (.aload_n 0, 35, 0, 0, 0, 0, 7) := cAB_halve_1 _ (List.mem_of_getElem? (i := 6) rfl)
theorem cB_halve_35 : zCode 9 35 = some (.getfield 9, 38, 0, 0, 2, 333, 7) := cAB_halve_1 _ (List.mem_of_getElem? (i := 7) rfl)
theorem cB_halve_38 : zCode 9 38 = some (.iload_n 1, 39, 0, 0, 0, 0, 7) := cAB_halve_1 _ (List.mem_of_getElem? (i := 8) rfl)
theorem cB_halve_39 : zCode 9 39 = some (.iaload, 40, 0, 0, 0, 0, 7) := cAB_halve_1 _ (List.mem_of_getElem? (i := 9) rfl)
theorem cB_halve_40 : zCode 9 40 = some (.iconst 1, 41, 0, 0, 0, 0, 7) := cAB_halve_1 _ (List.mem_of_getElem? (i := 10) rfl)
theorem cB_halve_41 : zCode 9 41 = some (.ishr, 42, 0, 0, 0, 0, 7) := cAB_halve_1 _ (List.mem_of_getElem? (i := 11) rfl)
theorem cB_halve_42 : zCode 9 42 = some (.iload_n 2, 43, 0, 0, 0, 0, 7) := cAB_halve_1 _ (List.mem_of_getElem? (i := 12) rfl)
theorem cB_halve_43 : zCode 9 43 = some (.iconst 1, 44, 0, 0, 0, 0, 3) := cAB_halve_1 _ (List.mem_of_getElem? (i := 13) rfl)
theorem cB_halve_44 : zCode 9 44 = some (.iand, 45, 0, 0, 0, 0, 3) := cAB_halve_1 _ (List.mem_of_getElem? (i := 14) rfl)
theorem cB_halve_45 : zCode 9 45 = some (.bipush 29, 47, 0, 0, 0, 0, 3) := cAB_halve_1 _ (List.mem_of_getElem? (i := 15) rfl)
theorem cB_halve_47 : zCode 9 47 = some (.ishl, 48, 0, 0, 0, 0, 3) := cAB_halve_2 _ (List.mem_of_getElem? (i := 0) rfl)
theorem cB_halve_48 : zCode 9 48 = some (.ior, 49, 0, 0, 0, 0, 3) := cAB_halve_2 _ (List.mem_of_getElem? (i := 1) rfl)
theorem cB_halve_49 : zCode 9 49 = some (.iastore, 50, 0, 0, 0, 0, 3) := cAB_halve_2 _ (List.mem_of_getElem? (i := 2) rfl)
theorem cB_halve_50 : zCode 9 50 = some (.iinc 1 1, 53, 0, 0, 0, 0, 3) := cAB_halve_2 _ (List.mem_of_getElem? (i := 3) rfl)
theorem cB_halve_53 : zCode 9 53 = some (.goto (-51), 56, 2, 0, 0, 0, 3) := cAB_halve_2 _ (List.mem_of_getElem? (i := 4) rfl)
theorem cB_halve_56 : zCode 9 56 = some (.aload_n 0, 57, 0, 0, 0, 0, 1) := cAB_halve_2 _ (List.mem_of_getElem? (i := 5) rfl)
theorem cB_halve_57 : zCode 9 57 = some (.invokevirtual 34, 60, 5, 0, 1, 0, 0) := cAB_halve_2 _ (List.mem_of_getElem? (i := 6) rfl)
theorem cB_halve_60 : zCode 9 60 = some (.return_, 61, 0, 0, 0, 0, 0) := cAB_halve_2 _ (List.mem_of_getElem? (i := 7) rfl)
theorem rB_halve_0 {a0 : Nat} {u1 u2 : zV} : zS 9 0 [zR a0, u1, u2] [] sh pp mm Q ↔ zS 9 1 [zR a0, zU, zU] [zI 0] sh pp mm Q := s_go cB_halve_0 cB_halve_1 rfl rfl
theorem rB_halve_1 {a0 : Nat} {s0 : Int} {u1 u2 : zV} : zS 9 1 [zR a0, u1, u2] [zI s0] sh pp mm Q ↔ zS 9 2 [zR a0, zI s0, zU] [] sh pp mm Q := s_go cB_halve_1 cB_halve_2 rfl rfl
theorem rB_halve_2 {a0 : Nat} {a1 : Int} {u2 : zV} : zS 9 2 [zR a0, zI a1, u2] [] sh pp mm Q ↔ zS 9 3 [zR a0, zI a1, zU] [zI a1] sh pp mm Q := s_go cB_halve_2 cB_halve_3 rfl rfl
theorem rB_halve_3 {a0 : Nat} {a1 s0 : Int} {u2 : zV} : zS 9 3 [zR a0, zI a1, u2] [zI s0] sh pp mm Q ↔ zS 9 5 [zR a0, zI a1, zU] [zI 8, zI s0] sh pp mm Q := s_go cB_halve_3 cB_halve_5 rfl rfl
theorem rB_halve_5 {a0 : Nat} {a1 s0 s1 : Int} {u2 : zV} : zS 9 5 [zR a0, zI a1, u2] [zI s0, zI s1] sh pp mm Q ↔ (s1 < s0 → zS 9 8 [zR a0, zI a1, zU] [] sh pp mm Q) ∧ (¬ s1 < s0 → zS 9 56 [zR a0, zU, zU] [] sh pp mm Q) := s_ifn cB_halve_5 cB_halve_8 cB_halve_56 rfl rfl rfl
theorem rB_halve_8 {a0 : Nat} {a1 : Int} {u2 : zV} : zS 9 8 [zR a0, zI a1, u2] [] sh pp mm Q ↔ zS 9 9 [zR a0, zI a1, zU] [zI a1] sh pp mm Q := s_go cB_halve_8 cB_halve_9 rfl rfl
theorem rB_halve_9 {a0 : Nat} {a1 s0 : Int} {u2 : zV} : zS 9 9 [zR a0, zI a1, u2] [zI s0] sh pp mm Q ↔ zS 9 10 [zR a0, zI a1, zU] [zI 1, zI s0] sh pp mm Q := s_go cB_halve_9 cB_halve_10 rfl rfl
theorem rB_halve_10 {a0 : Nat} {a1 s0 s1 : Int} {u2 : zV} : zS 9 10 [zR a0, zI a1, u2] [zI s0, zI s1] sh pp mm Q ↔ zS 9 11 [zR a0, zI a1, zU] [zI (zw32 (s1 + s0))] sh pp mm Q := s_go cB_halve_10 cB_halve_11 rfl rfl
theorem rB_halve_11 {a0 : Nat} {a1 s0 : Int} {u2 : zV} : zS 9 11 [zR a0, zI a1, u2] [zI s0] sh pp mm Q ↔ zS 9 13 [zR a0, zI a1, zU] [zI 8, zI s0] sh pp mm Q := s_go cB_halve_11 cB_halve_13 rfl rfl
theorem rB_halve_13 {a0 : Nat} {a1 s0 s1 : Int} {u2 : zV} : zS 9 13 [zR a0, zI a1, u2] [zI s0, zI s1] sh pp mm Q ↔ (s1 < s0 → zS 9 16 [zR a0, zI a1, zU] [] sh pp mm Q) ∧ (¬ s1 < s0 → zS 9 27 [zR a0, zI a1, zU] [] sh pp mm Q) := s_ifn cB_halve_13 cB_halve_16 cB_halve_27 rfl rfl rfl
theorem rB_halve_16 {a0 : Nat} {a1 : Int} {u2 : zV} : zS 9 16 [zR a0, zI a1, u2] [] sh pp mm Q ↔ zS 9 17 [zR a0, zI a1, zU] [zR a0] sh pp mm Q := s_go cB_halve_16 cB_halve_17 rfl rfl
theorem rB_halve_17 {a0 s0 : Nat} {a1 : Int} {u2 : zV} (hk : zKd sh s0 = 0) : zS 9 17 [zR a0, zI a1, u2] [zR s0] sh pp mm Q ↔ zS 9 20 [zR a0, zI a1, zU] [zR (pp s0 0)] sh pp mm Q := s_go cB_halve_17 cB_halve_20 (if_pos hk) rfl
theorem rB_halve_20 {a0 s0 : Nat} {a1 : Int} {u2 : zV} : zS 9 20 [zR a0, zI a1, u2] [zR s0] sh pp mm Q ↔ zS 9 21 [zR a0, zI a1, zU] [zI a1, zR s0] sh pp mm Q := s_go cB_halve_20 cB_halve_21 rfl rfl
theorem rB_halve_21 {a0 s1 : Nat} {a1 s0 : Int} {u2 : zV} : zS 9 21 [zR a0, zI a1, u2] [zI s0, zR s1] sh pp mm Q ↔ zS 9 22 [zR a0, zI a1, zU] [zI 1, zI s0, zR s1] sh pp mm Q := s_go cB_halve_21 cB_halve_22 rfl rfl
theorem rB_halve_22 {a0 s2 : Nat} {a1 s0 s1 : Int} {u2 : zV} : zS 9 22 [zR a0, zI a1, u2] [zI s0, zI s1, zR s2] sh pp mm Q ↔ zS 9 23 [zR a0, zI a1, zU] [zI (zw32 (s1 + s0)), zR s2] sh pp mm Q := s_go cB_halve_22 cB_halve_23 rfl rfl
theorem rB_halve_23 {a0 s1 : Nat} {a1 s0 : Int} {u2 : zV} (hk : zKd sh s1 = 20 ∨ zKd sh s1 = 30) (h0 : 0 ≤ s0) (h1 : s0 < zLn sh s1) : zS 9 23 [zR a0, zI a1, u2] [zI s0, zR s1] sh pp mm Q ↔ zS 9 24 [zR a0, zI a1, zU] [zI (mm s1 s0)] sh pp mm Q := s_go cB_halve_23 cB_halve_24 (if_pos ⟨hk, h0, h1⟩) rfl
theorem rB_halve_24 {a0 : Nat} {a1 s0 : Int} {u2 : zV} : zS 9 24 [zR a0, zI a1, u2] [zI s0] sh pp mm Q ↔ zS 9 28 [zR a0, zI a1, zU] [zI s0] sh pp mm Q := s_go cB_halve_24 cB_halve_28 rfl rfl
theorem rB_halve_27 {a0 : Nat} {a1 : Int} {u2 : zV} : zS 9 27 [zR a0, zI a1, u2] [] sh pp mm Q ↔ zS 9 28 [zR a0, zI a1, zU] [zI 0] sh pp mm Q := s_go cB_halve_27 cB_halve_28 rfl rfl
theorem rB_halve_28 {a0 : Nat} {a1 s0 : Int} {u2 : zV} : zS 9 28 [zR a0, zI a1, u2] [zI s0] sh pp mm Q ↔ zS 9 29 [zR a0, zI a1, zI s0] [] sh pp mm Q := s_go cB_halve_28 cB_halve_29 rfl rfl
theorem rB_halve_29 {a0 : Nat} {a1 a2 : Int} : zS 9 29 [zR a0, zI a1, zI a2] [] sh pp mm Q ↔ zS 9 30 [zR a0, zI a1, zI a2] [zR a0] sh pp mm Q := s_go cB_halve_29 cB_halve_30 rfl rfl
theorem rB_halve_30 {a0 s0 : Nat} {a1 a2 : Int} (hk : zKd sh s0 = 0) : zS 9 30 [zR a0, zI a1, zI a2] [zR s0] sh pp mm Q ↔ zS 9 33 [zR a0, zI a1, zI a2] [zR (pp s0 0)] sh pp mm Q := s_go cB_halve_30 cB_halve_33 (if_pos hk) rfl
theorem rB_halve_33 {a0 s0 : Nat} {a1 a2 : Int} : zS 9 33 [zR a0, zI a1, zI a2] [zR s0] sh pp mm Q ↔ zS 9 34 [zR a0, zI a1, zI a2] [zI a1, zR s0] sh pp mm Q := s_go cB_halve_33 cB_halve_34 rfl rfl
theorem rB_halve_34 {a0 s1 : Nat} {a1 a2 s0 : Int} : zS 9 34 [zR a0, zI a1, zI a2] [zI s0, zR s1] sh pp mm Q ↔ zS 9 35 [zR a0, zI a1, zI a2] [zR a0, zI s0, zR s1] sh pp mm Q := s_go cB_halve_34 cB_halve_35 rfl rfl
theorem rB_halve_35 {a0 s0 s2 : Nat} {a1 a2 s1 : Int} (hk : zKd sh s0 = 0) : zS 9 35 [zR a0, zI a1, zI a2] [zR s0, zI s1, zR s2] sh pp mm Q ↔ zS 9 38 [zR a0, zI a1, zI a2] [zR (pp s0 0), zI s1, zR s2] sh pp mm Q := s_go cB_halve_35 cB_halve_38 (if_pos hk) rfl
theorem rB_halve_38 {a0 s0 s2 : Nat} {a1 a2 s1 : Int} : zS 9 38 [zR a0, zI a1, zI a2] [zR s0, zI s1, zR s2] sh pp mm Q ↔ zS 9 39 [zR a0, zI a1, zI a2] [zI a1, zR s0, zI s1, zR s2] sh pp mm Q := s_go cB_halve_38 cB_halve_39 rfl rfl
theorem rB_halve_39 {a0 s1 s3 : Nat} {a1 a2 s0 s2 : Int} (hk : zKd sh s1 = 20 ∨ zKd sh s1 = 30) (h0 : 0 ≤ s0) (h1 : s0 < zLn sh s1) : zS 9 39 [zR a0, zI a1, zI a2] [zI s0, zR s1, zI s2, zR s3] sh pp mm Q ↔ zS 9 40 [zR a0, zI a1, zI a2] [zI (mm s1 s0), zI s2, zR s3] sh pp mm Q := s_go cB_halve_39 cB_halve_40 (if_pos ⟨hk, h0, h1⟩) rfl
theorem rB_halve_40 {a0 s2 : Nat} {a1 a2 s0 s1 : Int} : zS 9 40 [zR a0, zI a1, zI a2] [zI s0, zI s1, zR s2] sh pp mm Q ↔ zS 9 41 [zR a0, zI a1, zI a2] [zI 1, zI s0, zI s1, zR s2] sh pp mm Q := s_go cB_halve_40 cB_halve_41 rfl rfl
theorem rB_halve_41 {a0 s3 : Nat} {a1 a2 s0 s1 s2 : Int} : zS 9 41 [zR a0, zI a1, zI a2] [zI s0, zI s1, zI s2, zR s3] sh pp mm Q ↔ zS 9 42 [zR a0, zI a1, zI a2] [zI (zshr s1 s0), zI s2, zR s3] sh pp mm Q := s_go cB_halve_41 cB_halve_42 rfl rfl
theorem rB_halve_42 {a0 s2 : Nat} {a1 a2 s0 s1 : Int} : zS 9 42 [zR a0, zI a1, zI a2] [zI s0, zI s1, zR s2] sh pp mm Q ↔ zS 9 43 [zR a0, zI a1, zU] [zI a2, zI s0, zI s1, zR s2] sh pp mm Q := s_go cB_halve_42 cB_halve_43 rfl rfl
theorem rB_halve_43 {a0 s3 : Nat} {a1 s0 s1 s2 : Int} {u2 : zV} : zS 9 43 [zR a0, zI a1, u2] [zI s0, zI s1, zI s2, zR s3] sh pp mm Q ↔ zS 9 44 [zR a0, zI a1, zU] [zI 1, zI s0, zI s1, zI s2, zR s3] sh pp mm Q := s_go cB_halve_43 cB_halve_44 rfl rfl
theorem rB_halve_44 {a0 s4 : Nat} {a1 s0 s1 s2 s3 : Int} {u2 : zV} : zS 9 44 [zR a0, zI a1, u2] [zI s0, zI s1, zI s2, zI s3, zR s4] sh pp mm Q ↔ zS 9 45 [zR a0, zI a1, zU] [zI (zand s1 s0), zI s2, zI s3, zR s4] sh pp mm Q := s_go cB_halve_44 cB_halve_45 rfl rfl
theorem rB_halve_45 {a0 s3 : Nat} {a1 s0 s1 s2 : Int} {u2 : zV} : zS 9 45 [zR a0, zI a1, u2] [zI s0, zI s1, zI s2, zR s3] sh pp mm Q ↔ zS 9 47 [zR a0, zI a1, zU] [zI 29, zI s0, zI s1, zI s2, zR s3] sh pp mm Q := s_go cB_halve_45 cB_halve_47 rfl rfl
theorem rB_halve_47 {a0 s4 : Nat} {a1 s0 s1 s2 s3 : Int} {u2 : zV} : zS 9 47 [zR a0, zI a1, u2] [zI s0, zI s1, zI s2, zI s3, zR s4] sh pp mm Q ↔ zS 9 48 [zR a0, zI a1, zU] [zI (zshl s1 s0), zI s2, zI s3, zR s4] sh pp mm Q := s_go cB_halve_47 cB_halve_48 rfl rfl
theorem rB_halve_48 {a0 s3 : Nat} {a1 s0 s1 s2 : Int} {u2 : zV} : zS 9 48 [zR a0, zI a1, u2] [zI s0, zI s1, zI s2, zR s3] sh pp mm Q ↔ zS 9 49 [zR a0, zI a1, zU] [zI (zor s1 s0), zI s2, zR s3] sh pp mm Q := s_go cB_halve_48 cB_halve_49 rfl rfl
theorem rB_halve_49 {a0 s2 : Nat} {a1 s0 s1 : Int} {u2 : zV} (hk : zKd sh s2 = 20) (h0 : 0 ≤ s1) (h1 : s1 < zLn sh s2) : zS 9 49 [zR a0, zI a1, u2] [zI s0, zI s1, zR s2] sh pp mm Q ↔ zS 9 50 [zR a0, zI a1, zU] [] sh pp (zupd mm s2 s1 s0) Q := s_go cB_halve_49 cB_halve_50 (if_pos ⟨hk, h0, h1, fun h => absurd h (by decide)⟩) rfl
theorem rB_halve_50 {a0 : Nat} {a1 : Int} {u2 : zV} : zS 9 50 [zR a0, zI a1, u2] [] sh pp mm Q ↔ zS 9 53 [zR a0, zI (zw32 (a1 + 1)), zU] [] sh pp mm Q := s_go cB_halve_50 cB_halve_53 rfl rfl
theorem rB_halve_53 {a0 : Nat} {a1 : Int} {u2 : zV} : zS 9 53 [zR a0, zI a1, u2] [] sh pp mm Q ↔ zS 9 2 [zR a0, zI a1, zU] [] sh pp mm Q := s_go cB_halve_53 cB_halve_2 rfl rfl
theorem rB_halve_56 {a0 : Nat} {u1 u2 : zV} : zS 9 56 [zR a0, u1, u2] [] sh pp mm Q ↔ zS 9 57 [zU, zU, zU] [zR a0] sh pp mm Q := s_go cB_halve_56 cB_halve_57 rfl rfl
theorem rB_halve_57 {s0 : Nat} {u0 u1 u2 : zV} (hk : zKd sh s0 = 0) : zS 9 57 [u0, u1, u2] [zR s0] sh pp mm Q ↔ zS 5 0 [zR s0] [] sh pp mm (fun v sh pp mm => zS 9 60 [zU, zU, zU] (zPush v []) sh pp mm Q) := s_call cB_halve_57 cB_halve_60 ((if_pos hk).trans rfl) rfl
theorem rB_halve_60 {u0 u1 u2 : zV} : zS 9 60 [u0, u1, u2] [] sh pp mm Q ↔ Q zU sh pp mm := s_ret cB_halve_60 rfl
theorem cAB_halveUntilOdd : ∀ q ∈ zT10, zCode 10 q.1 = some q.2 := zAll (mid := 10) rfl (by decide +kernel)
theorem cAB_halveUntilOdd_0 : ∀ q ∈ zT10_0, zCode 10 q.1 = some q.2 := fun q h => cAB_halveUntilOdd q (h)
theorem cB_halveUntilOdd_0 : zCode 10 0 = some (.iconst 0, 1, 0, 0, 0, 0, 1) := cAB_halveUntilOdd_0 _ (List.mem_of_getElem? (i := 0) rfl)
theorem cB_halveUntilOdd_1 : zCode 10 1 = some (.istore_n 1, 2, 0, 0, 0, 0, 1) := cAB_halveUntilOdd_0 _ (List.mem_of_getElem? (i := 1) rfl)
theorem cB_halveUntilOdd_2 : zCode 10 2 = some (.iload_n 1, 3, 0, 0, 0, 0, 3) := cAB_halveUntilOdd_0 _ (List.mem_of_getElem? (i := 2) rfl)
theorem cB_halveUntilOdd_3 : zCode 10 3 = some (.sipush 240, 6, 0, 0, 0, 0, 3) := cAB_halveUntilOdd_0 _ (List.mem_of_getElem? (i := 3) rfl)
theorem cB_halveUntilOdd_6 : zCode 10 6 = some (.if_icmp .ge 27, 9, 33, 0, 0, 0, 3) := cAB_halveUntilOdd_0 _ (List.mem_of_getElem? (i := 4) rfl)
theorem cB_halveUntilOdd_9 : zCode 10 9 = some (.aload_n 0, 10, 0, 0, 0, 0, 3) := cAB_halveUntilOdd_0 _ (List.mem_of_getElem? (i := 5) rfl)
theorem cB_halveUntilOdd_10 : zCode 10 10 = some (.getfield 15, 13, 0, 1, 0, 335, 3) := cAB_halveUntilOdd_0 _ (List.mem_of_getElem? (i := 6) rfl)
theorem cB_halveUntilOdd_13 : zCode 10 13 = some (.ifCond .le 20, 16, 33, 0, 0, 0, 3) := cAB_halveUntilOdd_0 _ (List.mem_of_getElem? (i := 7) rfl)
theorem cB_halveUntilOdd_16 : zCode 10 16 = some (.aload_n 0, 17, 0, 0, 0, 0, 3) := cAB_halveUntilOdd_0 _ (List.mem_of_getElem? (i := 8) rfl)
theorem cB_halveUntilOdd_17 : zCode 10 17 = some (.invokevirtual 37, 20, 3, 0, 1, 0, 3) := cAB_halveUntilOdd_0 _ (List.mem_of_getElem? (i := 9) rfl)
theorem cB_halveUntilOdd_20 : zCode 10 20 = some (.ifCond .eq 13, 23, 33, 0, 0, 0, 3) := cAB_halveUntilOdd_0 _ (List.mem_of_getElem? (i := 10) rfl)
theorem cB_halveUntilOdd_23 : zCode 10 23 = some (.aload_n 0, 24, 0, 0, 0, 0, 3) := cAB_halveUntilOdd_0 _ (List.mem_of_getElem? (i := 11) rfl)
theorem cB_halveUntilOdd_24 : zCode 10 24 = some (.invokevirtual 41, 27, 9, 0, 3, 0, 3) := cAB_halveUntilOdd_0 _ (List.mem_of_getElem? (i := 12) rfl)
theorem cB_halveUntilOdd_27 : zCode 10 27 = some (.iinc 1 1, 30, 0, 0, 0, 0, 3) := cAB_halveUntilOdd_0 _ (List.mem_of_getElem? (i := 13) rfl)
theorem cB_halveUntilOdd_30 : zCode 10 30 = some (.goto (-28), 33, 2, 0, 0, 0, 3) := cAB_halveUntilOdd_0 _ (List.mem_of_getElem? (i := 14) rfl)
theorem cB_halveUntilOdd_33 : zCode 10 33 = some (.return_, 34, 0, 0, 0, 0, 0) := cAB_halveUntilOdd_0 _ (List.mem_of_getElem? (i := 15) rfl)
theorem rB_halveUntilOdd_0 {a0 : Nat} {u1 : zV} : zS 10 0 [zR a0, u1] [] sh pp mm Q ↔ zS 10 1 [zR a0, zU] [zI 0] sh pp mm Q := s_go cB_halveUntilOdd_0 cB_halveUntilOdd_1 rfl rfl
theorem rB_halveUntilOdd_1 {a0 : Nat} {s0 : Int} {u1 : zV} : zS 10 1 [zR a0, u1] [zI s0] sh pp mm Q ↔ zS 10 2 [zR a0, zI s0] [] sh pp mm Q := s_go cB_halveUntilOdd_1 cB_halveUntilOdd_2 rfl rfl
theorem rB_halveUntilOdd_2 {a0 : Nat} {a1 : Int} : zS 10 2 [zR a0, zI a1] [] sh pp mm Q ↔ zS 10 3 [zR a0, zI a1] [zI a1] sh pp mm Q := s_go cB_halveUntilOdd_2 cB_halveUntilOdd_3 rfl rfl
theorem rB_halveUntilOdd_3 {a0 : Nat} {a1 s0 : Int} : zS 10 3 [zR a0, zI a1] [zI s0] sh pp mm Q ↔ zS 10 6 [zR a0, zI a1] [zI 240, zI s0] sh pp mm Q := s_go cB_halveUntilOdd_3 cB_halveUntilOdd_6 rfl rfl
theorem rB_halveUntilOdd_6 {a0 : Nat} {a1 s0 s1 : Int} : zS 10 6 [zR a0, zI a1] [zI s0, zI s1] sh pp mm Q ↔ (s1 < s0 → zS 10 9 [zR a0, zI a1] [] sh pp mm Q) ∧ (¬ s1 < s0 → zS 10 33 [zU, zU] [] sh pp mm Q) := s_ifn cB_halveUntilOdd_6 cB_halveUntilOdd_9 cB_halveUntilOdd_33 rfl rfl rfl
theorem rB_halveUntilOdd_9 {a0 : Nat} {a1 : Int} : zS 10 9 [zR a0, zI a1] [] sh pp mm Q ↔ zS 10 10 [zR a0, zI a1] [zR a0] sh pp mm Q := s_go cB_halveUntilOdd_9 cB_halveUntilOdd_10 rfl rfl
theorem rB_halveUntilOdd_10 {a0 s0 : Nat} {a1 : Int} (hk : zKd sh s0 = 0) : zS 10 10 [zR a0, zI a1] [zR s0] sh pp mm Q ↔ zS 10 13 [zR a0, zI a1] [zI (mm s0 1)] sh pp mm Q := s_go cB_halveUntilOdd_10 cB_halveUntilOdd_13 (if_pos hk) rfl
theorem rB_halveUntilOdd_13 {a0 : Nat} {a1 s0 : Int} : zS 10 13 [zR a0, zI a1] [zI s0] sh pp mm Q ↔ (0 < s0 → zS 10 16 [zR a0, zI a1] [] sh pp mm Q) ∧ (¬ 0 < s0 → zS 10 33 [zU, zU] [] sh pp mm Q) := s_ifn cB_halveUntilOdd_13 cB_halveUntilOdd_16 cB_halveUntilOdd_33 rfl rfl rfl
theorem rB_halveUntilOdd_16 {a0 : Nat} {a1 : Int} : zS 10 16 [zR a0, zI a1] [] sh pp mm Q ↔ zS 10 17 [zR a0, zI a1] [zR a0] sh pp mm Q := s_go cB_halveUntilOdd_16 cB_halveUntilOdd_17 rfl rfl
theorem rB_halveUntilOdd_17 {a0 s0 : Nat} {a1 : Int} (hk : zKd sh s0 = 0) : zS 10 17 [zR a0, zI a1] [zR s0] sh pp mm Q ↔ zS 3 0 [zR s0] [] sh pp mm (fun v sh pp mm => zS 10 20 [zR a0, zI a1] (zPush v []) sh pp mm Q) := s_call cB_halveUntilOdd_17 cB_halveUntilOdd_20 ((if_pos hk).trans rfl) rfl
theorem rB_halveUntilOdd_20 {a0 : Nat} {a1 s0 : Int} : zS 10 20 [zR a0, zI a1] [zI s0] sh pp mm Q ↔ (s0 = 0 → zS 10 33 [zU, zU] [] sh pp mm Q) ∧ (¬ s0 = 0 → zS 10 23 [zR a0, zI a1] [] sh pp mm Q) := s_if cB_halveUntilOdd_20 cB_halveUntilOdd_33 cB_halveUntilOdd_23 rfl rfl rfl
theorem rB_halveUntilOdd_23 {a0 : Nat} {a1 : Int} : zS 10 23 [zR a0, zI a1] [] sh pp mm Q ↔ zS 10 24 [zR a0, zI a1] [zR a0] sh pp mm Q := s_go cB_halveUntilOdd_23 cB_halveUntilOdd_24 rfl rfl
theorem rB_halveUntilOdd_24 {a0 s0 : Nat} {a1 : Int} (hk : zKd sh s0 = 0) : zS 10 24 [zR a0, zI a1] [zR s0] sh pp mm Q ↔ zS 9 0 [zR s0, zU, zU] [] sh pp mm (fun v sh pp mm => zS 10 27 [zR a0, zI a1] (zPush v []) sh pp mm Q) := s_call cB_halveUntilOdd_24 cB_halveUntilOdd_27 ((if_pos hk).trans rfl) rfl
theorem rB_halveUntilOdd_27 {a0 : Nat} {a1 : Int} : zS 10 27 [zR a0, zI a1] [] sh pp mm Q ↔ zS 10 30 [zR a0, zI (zw32 (a1 + 1))] [] sh pp mm Q := s_go cB_halveUntilOdd_27 cB_halveUntilOdd_30 rfl rfl
theorem rB_halveUntilOdd_30 {a0 : Nat} {a1 : Int} : zS 10 30 [zR a0, zI a1] [] sh pp mm Q ↔ zS 10 2 [zR a0, zI a1] [] sh pp mm Q := s_go cB_halveUntilOdd_30 cB_halveUntilOdd_2 rfl rfl
theorem rB_halveUntilOdd_33 {u0 u1 : zV} : zS 10 33 [u0, u1] [] sh pp mm Q ↔ Q zU sh pp mm := s_ret cB_halveUntilOdd_33 rfl
theorem cAB_against : ∀ q ∈ zT11, zCode 11 q.1 = some q.2 := zAll (mid := 11) rfl (by decide +kernel)
theorem cAB_against_0 : ∀ q ∈ zT11_0, zCode 11 q.1 = some q.2 := fun q h => cAB_against q (List.mem_append_left _ h)
theorem cAB_against_1 : ∀ q ∈ zT11_1, zCode 11 q.1 = some q.2 := fun q h => cAB_against q (List.mem_append_right _ h)
theorem cB_against_0 : zCode 11 0 = some (.bipush 7, 2, 0, 0, 0, 0, 3) := cAB_against_0 _ (List.mem_of_getElem? (i := 0) rfl)
theorem cB_against_2 : zCode 11 2 = some (.istore_n 2, 3, 0, 0, 0, 0, 3) := cAB_against_0 _ (List.mem_of_getElem? (i := 1) rfl)
theorem cB_against_3 : zCode 11 3 = some (.iload_n 2, 4, 0, 0, 0, 0, 7) := cAB_against_0 _ (List.mem_of_getElem? (i := 2) rfl)
theorem cB_against_4 : zCode 11 4 = some (.ifCond .lt 45, 7, 49, 0, 0, 0, 7) := cAB_against_0 _ (List.mem_of_getElem? (i := 3) rfl)
theorem cB_against_7 : zCode 11 7 = some (.aload_n 0, 8, 0, 0, 0, 0, 7) := cAB_against_0 _ (List.mem_of_getElem? (i := 4) rfl)
theorem cB_against_8 : zCode 11 8 = some (.getfield 9, 11, 0, 0, 2, 333, 7) := cAB_against_0 _ (List.mem_of_getElem? (i := 5) rfl)
theorem cB_against_11 : zCode 11 11 = some (.iload_n 2, 12, 0, 0, 0, 0, 7) := cAB_against_0 _ (List.mem_of_getElem? (i := 6) rfl)
theorem cB_against_12 : zCode 11 12 = some (.iaload, 13, 0, 0, 0, 0, 7) := cAB_against_0 _ (List.mem_of_getElem? (i := 7) rfl)
theorem cB_against_13 : zCode 11 13 = some (.aload_n 1, 14, 0, 0, 0, 0, 7) := cAB_against_0 _ (List.mem_of_getElem? (i := 8) rfl)
theorem cB_against_14 : zCode 11 14 = some (.getfield 9, 17, 0, 0, 2, 333, 7) := cAB_against_0 _ (List.mem_of_getElem? (i := 9) rfl)
theorem cB_against_17 : zCode 11 17 = some (.iload_n 2, 18, 0, 0, 0, 0, 7) := cAB_against_0 _ (List.mem_of_getElem? (i := 10) rfl)
theorem cB_against_18 : zCode 11 18 = some (.iaload, 19, 0, 0, 0, 0, 7) := cAB_against_0 _ (List.mem_of_getElem? (i := 11) rfl)
theorem cB_against_19 : zCode 11 19 = some (.if_icmp .eq 24, 22, 43, 0, 0, 0, 7) := cAB_against_0 _ (List.mem_of_getElem? (i := 12) rfl)
theorem cB_against_22 : zCode 11 22 = some (.aload_n 0, 23, 0, 0, 0, 0, 7) := cAB_against_0 _ (List.mem_of_getElem? (i := 13) rfl)
theorem cB_against_23 : zCode 11 23 = some (.getfield 9, 26, 0, 0, 2, 333, 6) := cAB_against_0 _ (List.mem_of_getElem? (i := 14) rfl)
theorem cB_against_26 : zCode 11 26 = some (.iload_n 2, 27, 0, 0, 0, 0, 6) := cAB_against_0 _ (List.mem_of_getElem? (i := 15) rfl)
theorem cB_against_27 : zCode 11 27 = some (.iaload, 28, 0, 0, 0, 0, 6) := cAB_against_1 _ (List.mem_of_getElem? (i := 0) rfl)
theorem cB_against_28 : zCode 11 28 = some (.aload_n 1, 29, 0, 0, 0, 0, 6) := cAB_against_1 _ (List.mem_of_getElem? (i := 1) rfl)
theorem cB_against_29 : zCode 11 29 = some (.getfield 9, 32, 0, 0, 2, 333, 4) := cAB_against_1 _ (List.mem_of_getElem? (i := 2) rfl)
theorem cB_against_32 : zCode 11 32 = some (.iload_n 2, 33, 0, 0, 0, 0, 4) := cAB_against_1 _ (List.mem_of_getElem? (i := 3) rfl)
theorem cB_against_33 : zCode 11 33 = some (.iaload, 34, 0, 0, 0, 0, 0) := cAB_against_1 _ (List.mem_of_getElem? (i := 4) rfl)
theorem cB_against_34 : zCode 11 34 = some (.if_icmp .ge 7, 37, 41, 0, 0, 0, 0) := cAB_against_1 _ (List.mem_of_getElem? (i := 5) rfl)
theorem cB_against_37 : zCode 11 37 = some (.iconst (-1), 38, 0, 0, 0, 0, 0) := cAB_against_1 _ (List.mem_of_getElem? (i := 6) rfl)
theorem cB_against_38 : zCode 11 38 = some (.goto 4, 41, 42, 0, 0, 0, 0) := cAB_against_1 _ (List.mem_of_getElem? (i := 7) rfl)
theorem cB_against_41 : zCode 11 41 = some (.iconst 1, 42, 0, 0, 0, 0, 0) := cAB_against_1 _ (List.mem_of_getElem? (i := 8) rfl)
theorem cB_against_42 : zCode 11 42 = some (.ireturn, 43, 0, 0, 0, 0, 0) := cAB_against_1 _ (List.mem_of_getElem? (i := 9) rfl)
theorem cB_against_43 : zCode 11 43 = some (.iinc 2 (-1), 46, 0, 0, 0, 0, 7) := cAB_against_1 _ (List.mem_of_getElem? (i := 10) rfl)
theorem cB_against_46 : zCode 11 46 = some (.goto (-43), 49, 3, 0, 0, 0, 7) := cAB_against_1 _ (List.mem_of_getElem? (i := 11) rfl)
theorem cB_against_49 : zCode 11 49 = some (.iconst 0, 50, 0, 0, 0, 0, 0) := cAB_against_1 _ (List.mem_of_getElem? (i := 12) rfl)
theorem cB_against_50 : zCode 11 50 = some (.ireturn, 51, 0, 0, 0, 0, 0) := cAB_against_1 _ (List.mem_of_getElem? (i := 13) rfl)
theorem rB_against_0 {a0 a1 : Nat} {u2 : zV} : zS 11 0 [zR a0, zR a1, u2] [] sh pp mm Q ↔ zS 11 2 [zR a0, zR a1, zU] [zI 7] sh pp mm Q := s_go cB_against_0 cB_against_2 rfl rfl
theorem rB_against_2 {a0 a1 : Nat} {s0 : Int} {u2 : zV} : zS 11 2 [zR a0, zR a1, u2] [zI s0] sh pp mm Q ↔ zS 11 3 [zR a0, zR a1, zI s0] [] sh pp mm Q := s_go cB_against_2 cB_against_3 rfl rfl
theorem rB_against_3 {a0 a1 : Nat} {a2 : Int} : zS 11 3 [zR a0, zR a1, zI a2] [] sh pp mm Q ↔ zS 11 4 [zR a0, zR a1, zI a2] [zI a2] sh pp mm Q := s_go cB_against_3 cB_against_4 rfl rfl
theorem rB_against_4 {a0 a1 : Nat} {a2 s0 : Int} : zS 11 4 [zR a0, zR a1, zI a2] [zI s0] sh pp mm Q ↔ (s0 < 0 → zS 11 49 [zU, zU, zU] [] sh pp mm Q) ∧ (¬ s0 < 0 → zS 11 7 [zR a0, zR a1, zI a2] [] sh pp mm Q) := s_if cB_against_4 cB_against_49 cB_against_7 rfl rfl rfl
theorem rB_against_7 {a0 a1 : Nat} {a2 : Int} : zS 11 7 [zR a0, zR a1, zI a2] [] sh pp mm Q ↔ zS 11 8 [zR a0, zR a1, zI a2] [zR a0] sh pp mm Q := s_go cB_against_7 cB_against_8 rfl rfl
theorem rB_against_8 {a0 a1 s0 : Nat} {a2 : Int} (hk : zKd sh s0 = 0) : zS 11 8 [zR a0, zR a1, zI a2] [zR s0] sh pp mm Q ↔ zS 11 11 [zR a0, zR a1, zI a2] [zR (pp s0 0)] sh pp mm Q := s_go cB_against_8 cB_against_11 (if_pos hk) rfl
theorem rB_against_11 {a0 a1 s0 : Nat} {a2 : Int} : zS 11 11 [zR a0, zR a1, zI a2] [zR s0] sh pp mm Q ↔ zS 11 12 [zR a0, zR a1, zI a2] [zI a2, zR s0] sh pp mm Q := s_go cB_against_11 cB_against_12 rfl rfl
theorem rB_against_12 {a0 a1 s1 : Nat} {a2 s0 : Int} (hk : zKd sh s1 = 20 ∨ zKd sh s1 = 30) (h0 : 0 ≤ s0) (h1 : s0 < zLn sh s1) : zS 11 12 [zR a0, zR a1, zI a2] [zI s0, zR s1] sh pp mm Q ↔ zS 11 13 [zR a0, zR a1, zI a2] [zI (mm s1 s0)] sh pp mm Q := s_go cB_against_12 cB_against_13 (if_pos ⟨hk, h0, h1⟩) rfl
theorem rB_against_13 {a0 a1 : Nat} {a2 s0 : Int} : zS 11 13 [zR a0, zR a1, zI a2] [zI s0] sh pp mm Q ↔ zS 11 14 [zR a0, zR a1, zI a2] [zR a1, zI s0] sh pp mm Q := s_go cB_against_13 cB_against_14 rfl rfl
theorem rB_against_14 {a0 a1 s0 : Nat} {a2 s1 : Int} (hk : zKd sh s0 = 0) : zS 11 14 [zR a0, zR a1, zI a2] [zR s0, zI s1] sh pp mm Q ↔ zS 11 17 [zR a0, zR a1, zI a2] [zR (pp s0 0), zI s1] sh pp mm Q := s_go cB_against_14 cB_against_17 (if_pos hk) rfl
theorem rB_against_17 {a0 a1 s0 : Nat} {a2 s1 : Int} : zS 11 17 [zR a0, zR a1, zI a2] [zR s0, zI s1] sh pp mm Q ↔ zS 11 18 [zR a0, zR a1, zI a2] [zI a2, zR s0, zI s1] sh pp mm Q := s_go cB_against_17 cB_against_18 rfl rfl
theorem rB_against_18 {a0 a1 s1 : Nat} {a2 s0 s2 : Int} (hk : zKd sh s1 = 20 ∨ zKd sh s1 = 30) (h0 : 0 ≤ s0) (h1 : s0 < zLn sh s1) : zS 11 18 [zR a0, zR a1, zI a2] [zI s0, zR s1, zI s2] sh pp mm Q ↔ zS 11 19 [zR a0, zR a1, zI a2] [zI (mm s1 s0), zI s2] sh pp mm Q := s_go cB_against_18 cB_against_19 (if_pos ⟨hk, h0, h1⟩) rfl
theorem rB_against_19 {a0 a1 : Nat} {a2 s0 s1 : Int} : zS 11 19 [zR a0, zR a1, zI a2] [zI s0, zI s1] sh pp mm Q ↔ (s1 = s0 → zS 11 43 [zR a0, zR a1, zI a2] [] sh pp mm Q) ∧ (¬ s1 = s0 → zS 11 22 [zR a0, zR a1, zI a2] [] sh pp mm Q) := s_if cB_against_19 cB_against_43 cB_against_22 rfl rfl rfl
theorem rB_against_22 {a0 a1 : Nat} {a2 : Int} : zS 11 22 [zR a0, zR a1, zI a2] [] sh pp mm Q ↔ zS 11 23 [zU, zR a1, zI a2] [zR a0] sh pp mm Q := s_go cB_against_22 cB_against_23 rfl rfl
theorem rB_against_23 {a1 s0 : Nat} {a2 : Int} {u0 : zV} (hk : zKd sh s0 = 0) : zS 11 23 [u0, zR a1, zI a2] [zR s0] sh pp mm Q ↔ zS 11 26 [zU, zR a1, zI a2] [zR (pp s0 0)] sh pp mm Q := s_go cB_against_23 cB_against_26 (if_pos hk) rfl
theorem rB_against_26 {a1 s0 : Nat} {a2 : Int} {u0 : zV} : zS 11 26 [u0, zR a1, zI a2] [zR s0] sh pp mm Q ↔ zS 11 27 [zU, zR a1, zI a2] [zI a2, zR s0] sh pp mm Q := s_go cB_against_26 cB_against_27 rfl rfl
theorem rB_against_27 {a1 s1 : Nat} {a2 s0 : Int} {u0 : zV} (hk : zKd sh s1 = 20 ∨ zKd sh s1 = 30) (h0 : 0 ≤ s0) (h1 : s0 < zLn sh s1) : zS 11 27 [u0, zR a1, zI a2] [zI s0, zR s1] sh pp mm Q ↔ zS 11 28 [zU, zR a1, zI a2] [zI (mm s1 s0)] sh pp mm Q := s_go cB_against_27 cB_against_28 (if_pos ⟨hk, h0, h1⟩) rfl
theorem rB_against_28 {a1 : Nat} {a2 s0 : Int} {u0 : zV} : zS 11 28 [u0, zR a1, zI a2] [zI s0] sh pp mm Q ↔ zS 11 29 [zU, zU, zI a2] [zR a1, zI s0] sh pp mm Q := s_go cB_against_28 cB_against_29 rfl rfl
theorem rB_against_29 {s0 : Nat} {a2 s1 : Int} {u0 u1 : zV} (hk : zKd sh s0 = 0) : zS 11 29 [u0, u1, zI a2] [zR s0, zI s1] sh pp mm Q ↔ zS 11 32 [zU, zU, zI a2] [zR (pp s0 0), zI s1] sh pp mm Q := s_go cB_against_29 cB_against_32 (if_pos hk) rfl
theorem rB_against_32 {s0 : Nat} {a2 s1 : Int} {u0 u1 : zV} : zS 11 32 [u0, u1, zI a2] [zR s0, zI s1] sh pp mm Q ↔ zS 11 33 [zU, zU, zU] [zI a2, zR s0, zI s1] sh pp mm Q := s_go cB_against_32 cB_against_33 rfl rfl
theorem rB_against_33 {s1 : Nat} {s0 s2 : Int} {u0 u1 u2 : zV} (hk : zKd sh s1 = 20 ∨ zKd sh s1 = 30) (h0 : 0 ≤ s0) (h1 : s0 < zLn sh s1) : zS 11 33 [u0, u1, u2] [zI s0, zR s1, zI s2] sh pp mm Q ↔ zS 11 34 [zU, zU, zU] [zI (mm s1 s0), zI s2] sh pp mm Q := s_go cB_against_33 cB_against_34 (if_pos ⟨hk, h0, h1⟩) rfl
theorem rB_against_34 {s0 s1 : Int} {u0 u1 u2 : zV} : zS 11 34 [u0, u1, u2] [zI s0, zI s1] sh pp mm Q ↔ (s1 < s0 → zS 11 37 [zU, zU, zU] [] sh pp mm Q) ∧ (¬ s1 < s0 → zS 11 41 [zU, zU, zU] [] sh pp mm Q) := s_ifn cB_against_34 cB_against_37 cB_against_41 rfl rfl rfl
theorem rB_against_37 {u0 u1 u2 : zV} : zS 11 37 [u0, u1, u2] [] sh pp mm Q ↔ zS 11 38 [zU, zU, zU] [zI (-1)] sh pp mm Q := s_go cB_against_37 cB_against_38 rfl rfl
theorem rB_against_38 {s0 : Int} {u0 u1 u2 : zV} : zS 11 38 [u0, u1, u2] [zI s0] sh pp mm Q ↔ zS 11 42 [zU, zU, zU] [zI s0] sh pp mm Q := s_go cB_against_38 cB_against_42 rfl rfl
theorem rB_against_41 {u0 u1 u2 : zV} : zS 11 41 [u0, u1, u2] [] sh pp mm Q ↔ zS 11 42 [zU, zU, zU] [zI 1] sh pp mm Q := s_go cB_against_41 cB_against_42 rfl rfl
theorem rB_against_42 {s0 : Int} {u0 u1 u2 : zV} : zS 11 42 [u0, u1, u2] [zI s0] sh pp mm Q ↔ Q (zI s0) sh pp mm := s_ret cB_against_42 rfl
theorem rB_against_43 {a0 a1 : Nat} {a2 : Int} : zS 11 43 [zR a0, zR a1, zI a2] [] sh pp mm Q ↔ zS 11 46 [zR a0, zR a1, zI (zw32 (a2 + (-1)))] [] sh pp mm Q := s_go cB_against_43 cB_against_46 rfl rfl
theorem rB_against_46 {a0 a1 : Nat} {a2 : Int} : zS 11 46 [zR a0, zR a1, zI a2] [] sh pp mm Q ↔ zS 11 3 [zR a0, zR a1, zI a2] [] sh pp mm Q := s_go cB_against_46 cB_against_3 rfl rfl
theorem rB_against_49 {u0 u1 u2 : zV} : zS 11 49 [u0, u1, u2] [] sh pp mm Q ↔ zS 11 50 [zU, zU, zU] [zI 0] sh pp mm Q := s_go cB_against_49 cB_against_50 rfl rfl
theorem rB_against_50 {s0 : Int} {u0 u1 u2 : zV} : zS 11 50 [u0, u1, u2] [zI s0] sh pp mm Q ↔ Q (zI s0) sh pp mm := s_ret cB_against_50 rfl
theorem cAB_divide : ∀ q ∈ zT12, zCode 12 q.1 = some q.2 := zAll (mid := 12) rfl (by decide +kernel)
theorem cAB_divide_0 : ∀ q ∈ zT12_0, zCode 12 q.1 = some q.2 := fun q h => cAB_divide q (List.mem_append_left _ h)
theorem cAB_divide_1 : ∀ q ∈ zT12_1, zCode 12 q.1 = some q.2 := fun q h => cAB_divide q (List.mem_append_right _ (List.mem_append_left _ h))
theorem cAB_divide_2 : ∀ q ∈ zT12_2, zCode 12 q.1 = some q.2 := fun q h => cAB_divide q (List.mem_append_right _ (List.mem_append_right _ (List.mem_append_left _ h)))
theorem cAB_divide_3 : ∀ q ∈ zT12_3, zCode 12 q.1 = some q.2 := fun q h => cAB_divide q (List.mem_append_right _ (List.mem_append_right _ (List.mem_append_right _ (List.mem_append_left _ h))))
theorem cAB_divide_4 : ∀ q ∈ zT12_4, zCode 12 q.1 = some q.2 := fun q h => cAB_divide q (List.mem_append_right _ (List.mem_append_right _ (List.mem_append_right _ (List.mem_append_right _ h))))
theorem cB_divide_0 : zCode 12 0 = some (.aload_n 1, 1, 0, 0, 0, 0, 3) := cAB_divide_0 _ (List.mem_of_getElem? (i := 0) rfl)
theorem cB_divide_1 : zCode 12 1 = some (.invokevirtual 44, 4, 13, 0, 4, 0, 3) := cAB_divide_0 _ (List.mem_of_getElem? (i := 1) rfl)
theorem cB_divide_4 : zCode 12 4 = some (.istore_n 2, 5, 0, 0, 0, 0, 3) := cAB_divide_0 _ (List.mem_of_getElem? (i := 2) rfl)
theorem cB_divide_5 : zCode 12 5 = some (.iconst 0, 6, 0, 0, 0, 0, 7) := cAB_divide_0 _ (List.mem_of_getElem? (i := 3) rfl)
theorem cB_divide_6 : zCode 12 6 = some (.istore_n 3, 7, 0, 0, 0, 0, 7) := cAB_divide_0 _ (List.mem_of_getElem? (i := 4) rfl)
theorem cB_divide_7 : zCode 12 7 = some (.iload_n 3, 8, 0, 0, 0, 0, 15) := cAB_divide_0 _ (List.mem_of_getElem? (i := 5) rfl)
theorem cB_divide_8 : zCode 12 8 = some (.bipush 8, 10, 0, 0, 0, 0, 15) := cAB_divide_0 _ (List.mem_of_getElem? (i := 6) rfl)
theorem cB_divide_10 : zCode 12 10 = some (.if_icmp .ge 98, 13, 108, 0, 0, 0, 15) := cAB_divide_0 _ (List.mem_of_getElem? (i := 7) rfl)
theorem cB_divide_13 : zCode 12 13 = some (.aload_n 0, 14, 0, 0, 0, 0, 15) := cAB_divide_0 _ (List.mem_of_getElem? (i := 8) rfl)
theorem cB_divide_14 : zCode 12 14 = some (.getfield 9, 17, 0, 0, 2, 333, 15) := cAB_divide_0 _ (List.mem_of_getElem? (i := 9) rfl)
theorem cB_divide_17 : zCode 12 17 = some (.iload_n 3, 18, 0, 0, 0, 0, 15) := cAB_divide_0 _ (List.mem_of_getElem? (i := 10) rfl)
theorem cB_divide_18 : zCode 12 18 = some (.iaload, 19, 0, 0, 0, 0, 15) := cAB_divide_0 _ (List.mem_of_getElem? (i := 11) rfl)
theorem cB_divide_19 : zCode 12 19 = some (.iload_n 2, 20, 0, 0, 0, 0, 15) := cAB_divide_0 _ (List.mem_of_getElem? (i := 12) rfl)
theorem cB_divide_20 : zCode 12 20 = some (.imul, 21, 0, 0, 0, 0, 15) := cAB_divide_0 _ (List.mem_of_getElem? (i := 13) rfl)
theorem cB_divide_21 : zCode 12 21 = some (.ldc 25, 23, 0, 0, 348, 1073741823, 15) := cAB_divide_0 _ (List.mem_of_getElem? (i := 14) rfl)
theorem cB_divide_23 : zCode 12 23 = some (.iand, 24, 0, 0, 0, 0, 15) := cAB_divide_0 _ (List.mem_of_getElem? (i := 15) rfl)
theorem cB_divide_24 : zCode 12 24 = some (.istore 4, 26, 0, 0, 0, 0, 15) := cAB_divide_1 _ (List.mem_of_getElem? (i := 0) rfl)
theorem cB_divide_26 : zCode 12 26 = some (.lconst 0, 27, 0, 0, 0, 0, 31) := cAB_divide_1 _ (List.mem_of_getElem? (i := 1) rfl)
theorem cB_divide_27 : zCode 12 27 = some (.lstore 5, 29, 0, 0, 0, 0, 31) := cAB_divide_1 _ (List.mem_of_getElem? (i := 2) rfl)
theorem cB_divide_29 : zCode 12 29 = some (.iload_n 3, 30, 0, 0, 0, 0, 63) := cAB_divide_1 _ (List.mem_of_getElem? (i := 3) rfl)
theorem cB_divide_30 : zCode 12 30 = some (.istore 7, 32, 0, 0, 0, 0, 63) := cAB_divide_1 _ (List.mem_of_getElem? (i := 4) rfl)
theorem cB_divide_32 : zCode 12 32 = some (.iload 7, 34, 0, 0, 0, 0, 191) := cAB_divide_1 _ (List.mem_of_getElem? (i := 5) rfl)
theorem cB_divide_34 : zCode 12 34 = some (.bipush 8, 36, 0, 0, 0, 0, 191) := cAB_divide_1 _ (List.mem_of_getElem? (i := 6) rfl)
theorem cB_divide_36 : zCode 12 36 = some (.if_icmp .ge 58, 39, 94, 0, 0, 0, 191) := cAB_divide_1 _ (List.mem_of_getElem? (i := 7) rfl)
theorem cB_divide_39 : zCode 12 39 = some (.lload 5, 41, 0, 0, 0, 0, 191) := cAB_divide_1 _ (List.mem_of_getElem? (i := 8) rfl)
theorem cB_divide_41 : zCode 12 41 = some (.aload_n 0, 42, 0, 0, 0, 0, 159) := cAB_divide_1 _ (List.mem_of_getElem? (i := 9) rfl)
theorem cB_divide_42 : zCode 12 42 = some (.getfield 9, 45, 0, 0, 2, 333, 159) := cAB_divide_1 _ (List.mem_of_getElem? (i := 10) rfl)
theorem cB_divide_45 : zCode 12 45 = some (.iload 7, 47, 0, 0, 0, 0, 159) := cAB_divide_1 _ (List.mem_of_getElem? (i := 11) rfl)
theorem cB_divide_47 : zCode 12 47 = some (.iaload, 48, 0, 0, 0, 0, 159) := cAB_divide_1 _ (List.mem_of_getElem? (i := 12) rfl)
theorem cB_divide_48 : zCode 12 48 = some (.i2l, 49, 0, 0, 0, 0, 159) := cAB_divide_1 _ (List.mem_of_getElem? (i := 13) rfl)
theorem cB_divide_49 : zCode 12 49 = some (.iload 4, 51, 0, 0, 0, 0, 159) := cAB_divide_1 _ (List.mem_of_getElem? (i := 14) rfl)
theorem cB_divide_51 : zCode 12 51 = some (.i2l, 52, 0, 0, 0, 0, 159) := cAB_divide_1 _ (List.mem_of_getElem? (i := 15) rfl)
theorem cB_divide_52 : zCode 12 52 = some (.aload_n 1, 53, 0, 0, 0, 0, 159) := cAB_divide_2 _ (List.mem_of_getElem? (i := 0) rfl)
theorem cB_divide_53 : zCode 12 53 = some (.getfield 9, 56, 0, 0, 2, 333, 159) := cAB_divide_2 _ (List.mem_of_getElem? (i := 1) rfl)
theorem cB_divide_56 : zCode 12 56 = some (.iload 7, 58, 0, 0, 0, 0, 159) := cAB_divide_2 _ (List.mem_of_getElem? (i := 2) rfl)
theorem cB_divide_58 : zCode 12 58 = some (.iload_n 3, 59, 0, 0, 0, 0, 159) := cAB_divide_2 _ (List.mem_of_getElem? (i := 3) rfl)
theorem cB_divide_59 : zCode 12 59 = some (.isub, 60, 0, 0, 0, 0, 159) := cAB_divide_2 _ (List.mem_of_getElem? (i := 4) rfl)
theorem cB_divide_60 : zCode 12 60 = some (.iaload, 61, 0, 0, 0, 0, 159) := cAB_divide_2 _ (List.mem_of_getElem? (i := 5) rfl)
theorem cB_divide_61 : zCode 12 61 = some (.i2l, 62, 0, 0, 0, 0, 159) := cAB_divide_2 _ (List.mem_of_getElem? (i := 6) rfl)
theorem cB_divide_62 : zCode 12 62 = some (.lmul, 63, 0, 0, 0, 0, 159) := cAB_divide_2 _ (List.mem_of_getElem? (i := 7) rfl)
theorem cB_divide_63 : zCode 12 63 = some (.lsub, 64, 0, 0, 0, 0, 159) := cAB_divide_2 _ (List.mem_of_getElem? (i := 8) rfl)
theorem cB_divide_64 : zCode 12 64 = some (.ladd, 65, 0, 0, 0, 0, 159) := cAB_divide_2 _ (List.mem_of_getElem? (i := 9) rfl)
theorem cB_divide_65 : zCode 12 65 = some (.lstore 5, 67, 0, 0, 0, 0, 159) := cAB_divide_2 _ (List.mem_of_getElem? (i := 10) rfl)
theorem cB_divide_67 : zCode 12 67 = some (.aload_n 0, 68, 0, 0, 0, 0, 191) := cAB_divide_2 _ (List.mem_of_getElem? (i := 11) rfl)
theorem cB_divide_68 : zCode 12 68 = some (.getfield 9, 71, 0, 0, 2, 333, 191) := cAB_divide_2 _ (List.mem_of_getElem? (i := 12) rfl)
theorem cB_divide_71 : zCode 12 71 = some (.iload 7, 73, 0, 0, 0, 0, 191) := cAB_divide_2 _ (List.mem_of_getElem? (i := 13) rfl)
theorem cB_divide_73 : zCode 12 73 = some (.lload 5, 75, 0, 0, 0, 0, 191) := cAB_divide_2 _ (List.mem_of_getElem? (i := 14) rfl)
theorem cB_divide_75 : zCode 12 75 = some (.ldc2_w 32, 78, 0, 0, 1054, 1073741823, 191) := cAB_divide_2 _ (List.mem_of_getElem? (i := 15) rfl)
theorem cB_divide_78 : zCode 12 78 = some (.land, 79, 0, 0, 0, 0, 191) := cAB_divide_3 _ (List.mem_of_getElem? (i := 0) rfl)
theorem cB_divide_79 : zCode 12 79 = some (.l2i, 80, 0, 0, 0, 0, 191) := cAB_divide_3 _ (List.mem_of_getElem? (i := 1) rfl)
theorem cB_divide_80 : zCode 12 80 = some (.iastore, 81, 0, 0, 0, 0, 191) := cAB_divide_3 _ (List.mem_of_getElem? (i := 2) rfl)
theorem cB_divide_81 : zCode 12 81 = some (.lload 5, 83, 0, 0, 0, 0, 191) := cAB_divide_3 _ (List.mem_of_getElem? (i := 3) rfl)
theorem cB_divide_83 : zCode 12 83 = some (.bipush 30, 85, 0, 0, 0, 0, 159) := cAB_divide_3 _ (List.mem_of_getElem? (i := 4) rfl)
theorem cB_divide_85 : zCode 12 85 = some (.lshr, 86, 0, 0, 0, 0, 159) := cAB_divide_3 _ (List.mem_of_getElem? (i := 5) rfl)
theorem cB_divide_86 : zCode 12 86 = some (.lstore 5, 88, 0, 0, 0, 0, 159) := cAB_divide_3 _ (List.mem_of_getElem? (i := 6) rfl)
theorem cB_divide_88 : zCode 12 88 = some (.iinc 7 1, 91, 0, 0, 0, 0, 191) := cAB_divide_3 _ (List.mem_of_getElem? (i := 7) rfl)
theorem cB_divide_91 : zCode 12 91 = some (.goto (-59), 94, 32, 0, 0, 0, 191) := cAB_divide_3 _ (List.mem_of_getElem? (i := 8) rfl)
theorem cB_divide_94 : zCode 12 94 = some (.aload_n 0, 95, 0, 0, 0, 0, 31) := cAB_divide_3 _ (List.mem_of_getElem? (i := 9) rfl)
theorem cB_divide_95 : zCode 12 95 = some (.getfield 9, 98, 0, 0, 2, 333, 31) := cAB_divide_3 _ (List.mem_of_getElem? (i := 10) rfl)
theorem cB_divide_98 : zCode 12 98 = some (.iload_n 3, 99, 0, 0, 0, 0, 31) := cAB_divide_3 _ (List.mem_of_getElem? (i := 11) rfl)
theorem cB_divide_99 : zCode 12 99 = some (.iload 4, 101, 0, 0, 0, 0, 31) := cAB_divide_3 _ (List.mem_of_getElem? (i := 12) rfl)
theorem cB_divide_101 : zCode 12 101 = some (.iastore, 102, 0, 0, 0, 0, 15) := cAB_divide_3 _ (List.mem_of_getElem? (i := 13) rfl)
theorem cB_divide_102 : zCode 12 102 = some (.iinc 3 1, 105, 0, 0, 0, 0, 15) := cAB_divide_3 _ (List.mem_of_getElem? (i := 14) rfl)
theorem cB_divide_105 : zCode 12 105 = some (.goto (-98), 108, 7, 0, 0, 0, 15) := cAB_divide_3 _ (List.mem_of_getElem? (i := 15) rfl)
theorem cB_divide_108 : zCode 12 108 = some (.aload_n 0, 109, 0, 0, 0, 0, 1) := cAB_divide_4 _ (List.mem_of_getElem? (i := 0) rfl)
theorem cB_divide_109 : zCode 12 109 = some (.invokevirtual 34, 112, 5, 0, 1, 0, 0) := cAB_divide_4 _ (List.mem_of_getElem? (i := 1) rfl)
theorem cB_divide_112 : zCode 12 112 = some (.return_, 113, 0, 0, 0, 0, 0) := cAB_divide_4 _ (List.mem_of_getElem? (i := 2) rfl)
theorem rB_divide_0 {a0 a1 : Nat} {u2 u3 u4 u5 u6 u7 : zV} : zS 12 0 [zR a0, zR a1, u2, u3, u4, u5, u6, u7] [] sh pp mm Q ↔ zS 12 1 [zR a0, zR a1, zU, zU, zU, zU, zU, zU] [zR a1] sh pp mm Q := s_go cB_divide_0 cB_divide_1 rfl rfl
theorem rB_divide_1 {a0 a1 s0 : Nat} {u2 u3 u4 u5 u6 u7 : zV} (hk : zKd sh s0 = 0) : zS 12 1 [zR a0, zR a1, u2, u3, u4, u5, u6, u7] [zR s0] sh pp mm Q ↔ zS 13 0 [zR s0, zU, zU, zU] [] sh pp mm (fun v sh pp mm => zS 12 4 [zR a0, zR a1, zU, zU, zU, zU, zU, zU] (zPush v []) sh pp mm Q) := s_call cB_divide_1 cB_divide_4 ((if_pos hk).trans rfl) rfl
theorem rB_divide_4 {a0 a1 : Nat} {s0 : Int} {u2 u3 u4 u5 u6 u7 : zV} : zS 12 4 [zR a0, zR a1, u2, u3, u4, u5, u6, u7] [zI s0] sh pp mm Q ↔ zS 12 5 [zR a0, zR a1, zI s0, zU, zU, zU, zU, zU] [] sh pp mm Q := s_go cB_divide_4 cB_divide_5 rfl rfl
theorem rB_divide_5 {a0 a1 : Nat} {a2 : Int} {u3 u4 u5 u6 u7 : zV} : zS 12 5 [zR a0, zR a1, zI a2, u3, u4, u5, u6, u7] [] sh pp mm Q ↔ zS 12 6 [zR a0, zR a1, zI a2, zU, zU, zU, zU, zU] [zI 0] sh pp mm Q := s_go cB_divide_5 cB_divide_6 rfl rfl
theorem rB_divide_6 {a0 a1 : Nat} {a2 s0 : Int} {u3 u4 u5 u6 u7 : zV} : zS 12 6 [zR a0, zR a1, zI a2, u3, u4, u5, u6, u7] [zI s0] sh pp mm Q ↔ zS 12 7 [zR a0, zR a1, zI a2, zI s0, zU, zU, zU, zU] [] sh pp mm Q := s_go cB_divide_6 cB_divide_7 rfl rfl
theorem rB_divide_7 {a0 a1 : Nat} {a2 a3 : Int} {u4 u5 u6 u7 : zV} : zS 12 7 [zR a0, zR a1, zI a2, zI a3, u4, u5, u6, u7] [] sh pp mm Q ↔ zS 12 8 [zR a0, zR a1, zI a2, zI a3, zU, zU, zU, zU] [zI a3] sh pp mm Q := s_go cB_divide_7 cB_divide_8 rfl rfl
theorem rB_divide_8 {a0 a1 : Nat} {a2 a3 s0 : Int} {u4 u5 u6 u7 : zV} : zS 12 8 [zR a0, zR a1, zI a2, zI a3, u4, u5, u6, u7] [zI s0] sh pp mm Q ↔ zS 12 10 [zR a0, zR a1, zI a2, zI a3, zU, zU, zU, zU] [zI 8, zI s0] sh pp mm Q := s_go cB_divide_8 cB_divide_10 rfl rfl
theorem rB_divide_10 {a0 a1 : Nat} {a2 a3 s0 s1 : Int} {u4 u5 u6 u7 : zV} : zS 12 10 [zR a0, zR a1, zI a2, zI a3, u4, u5, u6, u7] [zI s0, zI s1] sh pp mm Q ↔ (s1 < s0 → zS 12 13 [zR a0, zR a1, zI a2, zI a3, zU, zU, zU, zU] [] sh pp mm Q) ∧ (¬ s1 < s0 → zS 12 108 [zR a0, zU, zU, zU, zU, zU, zU, zU] [] sh pp mm Q) := s_ifn cB_divide_10 cB_divide_13 cB_divide_108 rfl rfl rfl
theorem rB_divide_13 {a0 a1 : Nat} {a2 a3 : Int} {u4 u5 u6 u7 : zV} : zS 12 13 [zR a0, zR a1, zI a2, zI a3, u4, u5, u6, u7] [] sh pp mm Q ↔ zS 12 14 [zR a0, zR a1, zI a2, zI a3, zU, zU, zU, zU] [zR a0] sh pp mm Q := s_go cB_divide_13 cB_divide_14 rfl rfl
theorem rB_divide_14 {a0 a1 s0 : Nat} {a2 a3 : Int} {u4 u5 u6 u7 : zV} (hk : zKd sh s0 = 0) : zS 12 14 [zR a0, zR a1, zI a2, zI a3, u4, u5, u6, u7] [zR s0] sh pp mm Q ↔ zS 12 17 [zR a0, zR a1, zI a2, zI a3, zU, zU, zU, zU] [zR (pp s0 0)] sh pp mm Q := s_go cB_divide_14 cB_divide_17 (if_pos hk) rfl
theorem rB_divide_17 {a0 a1 s0 : Nat} {a2 a3 : Int} {u4 u5 u6 u7 : zV} : zS 12 17 [zR a0, zR a1, zI a2, zI a3, u4, u5, u6, u7] [zR s0] sh pp mm Q ↔ zS 12 18 [zR a0, zR a1, zI a2, zI a3, zU, zU, zU, zU] [zI a3, zR s0] sh pp mm Q := s_go cB_divide_17 cB_divide_18 rfl rfl
theorem rB_divide_18 {a0 a1 s1 : Nat} {a2 a3 s0 : Int} {u4 u5 u6 u7 : zV} (hk : zKd sh s1 = 20 ∨ zKd sh s1 = 30) (h0 : 0 ≤ s0) (h1 : s0 < zLn sh s1) : zS 12 18 [zR a0, zR a1, zI a2, zI a3, u4, u5, u6, u7] [zI s0, zR s1] sh pp mm Q ↔ zS 12 19 [zR a0, zR a1, zI a2, zI a3, zU, zU, zU, zU] [zI (mm s1 s0)] sh pp mm Q := s_go cB_divide_18 cB_divide_19 (if_pos ⟨hk, h0, h1⟩) rfl
theorem rB_divide_19 {a0 a1 : Nat} {a2 a3 s0 : Int} {u4 u5 u6 u7 : zV} : zS 12 19 [zR a0, zR a1, zI a2, zI a3, u4, u5, u6, u7] [zI s0] sh pp mm Q ↔ zS 12 20 [zR a0, zR a1, zI a2, zI a3, zU, zU, zU, zU] [zI a2, zI s0] sh pp mm Q := s_go cB_divide_19 cB_divide_20 rfl rfl
theorem rB_divide_20 {a0 a1 : Nat} {a2 a3 s0 s1 : Int} {u4 u5 u6 u7 : zV} : zS 12 20 [zR a0, zR a1, zI a2, zI a3, u4, u5, u6, u7] [zI s0, zI s1] sh pp mm Q ↔ zS 12 21 [zR a0, zR a1, zI a2, zI a3, zU, zU, zU, zU] [zI (zw32 (s1 * s0))] sh pp mm Q := s_go cB_divide_20 cB_divide_21 rfl rfl
theorem rB_divide_21 {a0 a1 : Nat} {a2 a3 s0 : Int} {u4 u5 u6 u7 : zV} : zS 12 21 [zR a0, zR a1, zI a2, zI a3, u4, u5, u6, u7] [zI s0] sh pp mm Q ↔ zS 12 23 [zR a0, zR a1, zI a2, zI a3, zU, zU, zU, zU] [zI 1073741823, zI s0] sh pp mm Q := s_go cB_divide_21 cB_divide_23 rfl rfl
theorem rB_divide_23 {a0 a1 : Nat} {a2 a3 s0 s1 : Int} {u4 u5 u6 u7 : zV} : zS 12 23 [zR a0, zR a1, zI a2, zI a3, u4, u5, u6, u7] [zI s0, zI s1] sh pp mm Q ↔ zS 12 24 [zR a0, zR a1, zI a2, zI a3, zU, zU, zU, zU] [zI (zand s1 s0)] sh pp mm Q := s_go cB_divide_23 cB_divide_24 rfl rfl
theorem rB_divide_24 {a0 a1 : Nat} {a2 a3 s0 : Int} {u4 u5 u6 u7 : zV} : zS 12 24 [zR a0, zR a1, zI a2, zI a3, u4, u5, u6, u7] [zI s0] sh pp mm Q ↔ zS 12 26 [zR a0, zR a1, zI a2, zI a3, zI s0, zU, zU, zU] [] sh pp mm Q := s_go cB_divide_24 cB_divide_26 rfl rfl
theorem rB_divide_26 {a0 a1 : Nat} {a2 a3 a4 : Int} {u5 u6 u7 : zV} : zS 12 26 [zR a0, zR a1, zI a2, zI a3, zI a4, u5, u6, u7] [] sh pp mm Q ↔ zS 12 27 [zR a0, zR a1, zI a2, zI a3, zI a4, zU, zU, zU] [zL 0] sh pp mm Q := s_go cB_divide_26 cB_divide_27 rfl rfl
theorem rB_divide_27 {a0 a1 : Nat} {a2 a3 a4 s0 : Int} {u5 u6 u7 : zV} : zS 12 27 [zR a0, zR a1, zI a2, zI a3, zI a4, u5, u6, u7] [zL s0] sh pp mm Q ↔ zS 12 29 [zR a0, zR a1, zI a2, zI a3, zI a4, zL s0, zU, zU] [] sh pp mm Q := s_go cB_divide_27 cB_divide_29 rfl rfl
theorem rB_divide_29 {a0 a1 : Nat} {a2 a3 a4 a5 : Int} {u6 u7 : zV} : zS 12 29 [zR a0, zR a1, zI a2, zI a3, zI a4, zL a5, u6, u7] [] sh pp mm Q ↔ zS 12 30 [zR a0, zR a1, zI a2, zI a3, zI a4, zL a5, zU, zU] [zI a3] sh pp mm Q := s_go cB_divide_29 cB_divide_30 rfl rfl
theorem rB_divide_30 {a0 a1 : Nat} {a2 a3 a4 a5 s0 : Int} {u6 u7 : zV} : zS 12 30 [zR a0, zR a1, zI a2, zI a3, zI a4, zL a5, u6, u7] [zI s0] sh pp mm Q ↔ zS 12 32 [zR a0, zR a1, zI a2, zI a3, zI a4, zL a5, zU, zI s0] [] sh pp mm Q := s_go cB_divide_30 cB_divide_32 rfl rfl
theorem rB_divide_32 {a0 a1 : Nat} {a2 a3 a4 a5 a7 : Int} {u6 : zV} : zS 12 32 [zR a0, zR a1, zI a2, zI a3, zI a4, zL a5, u6, zI a7] [] sh pp mm Q ↔ zS 12 34 [zR a0, zR a1, zI a2, zI a3, zI a4, zL a5, zU, zI a7] [zI a7] sh pp mm Q := s_go cB_divide_32 cB_divide_34 rfl rfl
theorem rB_divide_34 {a0 a1 : Nat} {a2 a3 a4 a5 a7 s0 : Int} {u6 : zV} : zS 12 34 [zR a0, zR a1, zI a2, zI a3, zI a4, zL a5, u6, zI a7] [zI s0] sh pp mm Q ↔ zS 12 36 [zR a0, zR a1, zI a2, zI a3, zI a4, zL a5, zU, zI a7] [zI 8, zI s0] sh pp mm Q := s_go cB_divide_34 cB_divide_36 rfl rfl
theorem rB_divide_36 {a0 a1 : Nat} {a2 a3 a4 a5 a7 s0 s1 : Int} {u6 : zV} : zS 12 36 [zR a0, zR a1, zI a2, zI a3, zI a4, zL a5, u6, zI a7] [zI s0, zI s1] sh pp mm Q ↔ (s1 < s0 → zS 12 39 [zR a0, zR a1, zI a2, zI a3, zI a4, zL a5, zU, zI a7] [] sh pp mm Q) ∧ (¬ s1 < s0 → zS 12 94 [zR a0, zR a1, zI a2, zI a3, zI a4, zU, zU, zU] [] sh pp mm Q) := s_ifn cB_divide_36 cB_divide_39 cB_divide_94 rfl rfl rfl
theorem rB_divide_39 {a0 a1 : Nat} {a2 a3 a4 a5 a7 : Int} {u6 : zV} : zS 12 39 [zR a0, zR a1, zI a2, zI a3, zI a4, zL a5, u6, zI a7] [] sh pp mm Q ↔ zS 12 41 [zR a0, zR a1, zI a2, zI a3, zI a4, zU, zU, zI a7] [zL a5] sh pp mm Q := s_go cB_divide_39 cB_divide_41 rfl rfl
theorem rB_divide_41 {a0 a1 : Nat} {a2 a3 a4 a7 s0 : Int} {u5 u6 : zV} : zS 12 41 [zR a0, zR a1, zI a2, zI a3, zI a4, u5, u6, zI a7] [zL s0] sh pp mm Q ↔ zS 12 42 [zR a0, zR a1, zI a2, zI a3, zI a4, zU, zU, zI a7] [zR a0, zL s0] sh pp mm Q := s_go cB_divide_41 cB_divide_42 rfl rfl
theorem rB_divide_42 {a0 a1 s0 : Nat} {a2 a3 a4 a7 s1 : Int} {u5 u6 : zV} (hk : zKd sh s0 = 0) : zS 12 42 [zR a0, zR a1, zI a2, zI a3, zI a4, u5, u6, zI a7] [zR s0, zL s1] sh pp mm Q ↔ zS 12 45 [zR a0, zR a1, zI a2, zI a3, zI a4, zU, zU, zI a7] [zR (pp s0 0), zL s1] sh pp mm Q := s_go cB_divide_42 cB_divide_45 (if_pos hk) rfl
theorem rB_divide_45 {a0 a1 s0 : Nat} {a2 a3 a4 a7 s1 : Int} {u5 u6 : zV} : zS 12 45 [zR a0, zR a1, zI a2, zI a3, zI a4, u5, u6, zI a7] [zR s0, zL s1] sh pp mm Q ↔ zS 12 47 [zR a0, zR a1, zI a2, zI a3, zI a4, zU, zU, zI a7] [zI a7, zR s0, zL s1] sh pp mm Q := s_go cB_divide_45 cB_divide_47 rfl rfl
theorem rB_divide_47 {a0 a1 s1 : Nat} {a2 a3 a4 a7 s0 s2 : Int} {u5 u6 : zV} (hk : zKd sh s1 = 20 ∨ zKd sh s1 = 30) (h0 : 0 ≤ s0) (h1 : s0 < zLn sh s1) : zS 12 47 [zR a0, zR a1, zI a2, zI a3, zI a4, u5, u6, zI a7] [zI s0, zR s1, zL s2] sh pp mm Q ↔ zS 12 48 [zR a0, zR a1, zI a2, zI a3, zI a4, zU, zU, zI a7] [zI (mm s1 s0), zL s2] sh pp mm Q := s_go cB_divide_47 cB_divide_48 (if_pos ⟨hk, h0, h1⟩) rfl
theorem rB_divide_48 {a0 a1 : Nat} {a2 a3 a4 a7 s0 s1 : Int} {u5 u6 : zV} : zS 12 48 [zR a0, zR a1, zI a2, zI a3, zI a4, u5, u6, zI a7] [zI s0, zL s1] sh pp mm Q ↔ zS 12 49 [zR a0, zR a1, zI a2, zI a3, zI a4, zU, zU, zI a7] [zL s0, zL s1] sh pp mm Q := s_go cB_divide_48 cB_divide_49 rfl rfl
theorem rB_divide_49 {a0 a1 : Nat} {a2 a3 a4 a7 s0 s1 : Int} {u5 u6 : zV} : zS 12 49 [zR a0, zR a1, zI a2, zI a3, zI a4, u5, u6, zI a7] [zL s0, zL s1] sh pp mm Q ↔ zS 12 51 [zR a0, zR a1, zI a2, zI a3, zI a4, zU, zU, zI a7] [zI a4, zL s0, zL s1] sh pp mm Q := s_go cB_divide_49 cB_divide_51 rfl rfl
theorem rB_divide_51 {a0 a1 : Nat} {a2 a3 a4 a7 s0 s1 s2 : Int} {u5 u6 : zV} : zS 12 51 [zR a0, zR a1, zI a2, zI a3, zI a4, u5, u6, zI a7] [zI s0, zL s1, zL s2] sh pp mm Q ↔ zS 12 52 [zR a0, zR a1, zI a2, zI a3, zI a4, zU, zU, zI a7] [zL s0, zL s1, zL s2] sh pp mm Q := s_go cB_divide_51 cB_divide_52 rfl rfl
theorem rB_divide_52 {a0 a1 : Nat} {a2 a3 a4 a7 s0 s1 s2 : Int} {u5 u6 : zV} : zS 12 52 [zR a0, zR a1, zI a2, zI a3, zI a4, u5, u6, zI a7] [zL s0, zL s1, zL s2] sh pp mm Q ↔ zS 12 53 [zR a0, zR a1, zI a2, zI a3, zI a4, zU, zU, zI a7] [zR a1, zL s0, zL s1, zL s2] sh pp mm Q := s_go cB_divide_52 cB_divide_53 rfl rfl
theorem rB_divide_53 {a0 a1 s0 : Nat} {a2 a3 a4 a7 s1 s2 s3 : Int} {u5 u6 : zV} (hk : zKd sh s0 = 0) : zS 12 53 [zR a0, zR a1, zI a2, zI a3, zI a4, u5, u6, zI a7] [zR s0, zL s1, zL s2, zL s3] sh pp mm Q ↔ zS 12 56 [zR a0, zR a1, zI a2, zI a3, zI a4, zU, zU, zI a7] [zR (pp s0 0), zL s1, zL s2, zL s3] sh pp mm Q := s_go cB_divide_53 cB_divide_56 (if_pos hk) rfl
theorem rB_divide_56 {a0 a1 s0 : Nat} {a2 a3 a4 a7 s1 s2 s3 : Int} {u5 u6 : zV} : zS 12 56 [zR a0, zR a1, zI a2, zI a3, zI a4, u5, u6, zI a7] [zR s0, zL s1, zL s2, zL s3] sh pp mm Q ↔ zS 12 58 [zR a0, zR a1, zI a2, zI a3, zI a4, zU, zU, zI a7] [zI a7, zR s0, zL s1, zL s2, zL s3] sh pp mm Q := s_go cB_divide_56 cB_divide_58 rfl rfl
theorem rB_divide_58 {a0 a1 s1 : Nat} {a2 a3 a4 a7 s0 s2 s3 s4 : Int} {u5 u6 : zV} : zS 12 58 [zR a0, zR a1, zI a2, zI a3, zI a4, u5, u6, zI a7] [zI s0, zR s1, zL s2, zL s3, zL s4] sh pp mm Q ↔ zS 12 59 [zR a0, zR a1, zI a2, zI a3, zI a4, zU, zU, zI a7] [zI a3, zI s0, zR s1, zL s2, zL s3, zL s4] sh pp mm Q := s_go cB_divide_58 cB_divide_59 rfl rfl
theorem rB_divide_59 {a0 a1 s2 : Nat} {a2 a3 a4 a7 s0 s1 s3 s4 s5 : Int} {u5 u6 : zV} : zS 12 59 [zR a0, zR a1, zI a2, zI a3, zI a4, u5, u6, zI a7] [zI s0, zI s1, zR s2, zL s3, zL s4, zL s5] sh pp mm Q ↔ zS 12 60 [zR a0, zR a1, zI a2, zI a3, zI a4, zU, zU, zI a7] [zI (zw32 (s1 - s0)), zR s2, zL s3, zL s4, zL s5] sh pp mm Q := s_go cB_divide_59 cB_divide_60 rfl rfl
theorem rB_divide_60 {a0 a1 s1 : Nat} {a2 a3 a4 a7 s0 s2 s3 s4 : Int} {u5 u6 : zV} (hk : zKd sh s1 = 20 ∨ zKd sh s1 = 30) (h0 : 0 ≤ s0) (h1 : s0 < zLn sh s1) : zS 12 60 [zR a0, zR a1, zI a2, zI a3, zI a4, u5, u6, zI a7] [zI s0, zR s1, zL s2, zL s3, zL s4] sh pp mm Q ↔ zS 12 61 [zR a0, zR a1, zI a2, zI a3, zI a4, zU, zU, zI a7] [zI (mm s1 s0), zL s2, zL s3, zL s4] sh pp mm Q := s_go cB_divide_60 cB_divide_61 (if_pos ⟨hk, h0, h1⟩) rfl
theorem rB_divide_61 {a0 a1 : Nat} {a2 a3 a4 a7 s0 s1 s2 s3 : Int} {u5 u6 : zV} : zS 12 61 [zR a0, zR a1, zI a2, zI a3, zI a4, u5, u6, zI a7] [zI s0, zL s1, zL s2, zL s3] sh pp mm Q ↔ zS 12 62 [zR a0, zR a1, zI a2, zI a3, zI a4, zU, zU, zI a7] [zL s0, zL s1, zL s2, zL s3] sh pp mm Q := s_go cB_divide_61 cB_divide_62 rfl rfl
theorem rB_divide_62 {a0 a1 : Nat} {a2 a3 a4 a7 s0 s1 s2 s3 : Int} {u5 u6 : zV} : zS 12 62 [zR a0, zR a1, zI a2, zI a3, zI a4, u5, u6, zI a7] [zL s0, zL s1, zL s2, zL s3] sh pp mm Q ↔ zS 12 63 [zR a0, zR a1, zI a2, zI a3, zI a4, zU, zU, zI a7] [zL (zw64 (s1 * s0)), zL s2, zL s3] sh pp mm Q := s_go cB_divide_62 cB_divide_63 rfl rfl
theorem rB_divide_63 {a0 a1 : Nat} {a2 a3 a4 a7 s0 s1 s2 : Int} {u5 u6 : zV} : zS 12 63 [zR a0, zR a1, zI a2, zI a3, zI a4, u5, u6, zI a7] [zL s0, zL s1, zL s2] sh pp mm Q ↔ zS 12 64 [zR a0, zR a1, zI a2, zI a3, zI a4, zU, zU, zI a7] [zL (zw64 (s1 - s0)), zL s2] sh pp mm Q := s_go cB_divide_63 cB_divide_64 rfl rfl
theorem rB_divide_64 {a0 a1 : Nat} {a2 a3 a4 a7 s0 s1 : Int} {u5 u6 : zV} : zS 12 64 [zR a0, zR a1, zI a2, zI a3, zI a4, u5, u6, zI a7] [zL s0, zL s1] sh pp mm Q ↔ zS 12 65 [zR a0, zR a1, zI a2, zI a3, zI a4, zU, zU, zI a7] [zL (zw64 (s1 + s0))] sh pp mm Q := s_go cB_divide_64 cB_divide_65 rfl rfl
theorem rB_divide_65 {a0 a1 : Nat} {a2 a3 a4 a7 s0 : Int} {u5 u6 : zV} : zS 12 65 [zR a0, zR a1, zI a2, zI a3, zI a4, u5, u6, zI a7] [zL s0] sh pp mm Q ↔ zS 12 67 [zR a0, zR a1, zI a2, zI a3, zI a4, zL s0, zU, zI a7] [] sh pp mm Q := s_go cB_divide_65 cB_divide_67 rfl rfl
theorem rB_divide_67 {a0 a1 : Nat} {a2 a3 a4 a5 a7 : Int} {u6 : zV} : zS 12 67 [zR a0, zR a1, zI a2, zI a3, zI a4, zL a5, u6, zI a7] [] sh pp mm Q ↔ zS 12 68 [zR a0, zR a1, zI a2, zI a3, zI a4, zL a5, zU, zI a7] [zR a0] sh pp mm Q := s_go cB_divide_67 cB_divide_68 rfl rfl
theorem rB_divide_68 {a0 a1 s0 : Nat} {a2 a3 a4 a5 a7 : Int} {u6 : zV} (hk : zKd sh s0 = 0) : zS 12 68 [zR a0, zR a1, zI a2, zI a3, zI a4, zL a5, u6, zI a7] [zR s0] sh pp mm Q ↔ zS 12 71 [zR a0, zR a1, zI a2, zI a3, zI a4, zL a5, zU, zI a7] [zR (pp s0 0)] sh pp mm Q := s_go cB_divide_68 cB_divide_71 (if_pos hk) rfl
theorem rB_divide_71 {a0 a1 s0 : Nat} {a2 a3 a4 a5 a7 : Int} {u6 : zV} : zS 12 71 [zR a0, zR a1, zI a2, zI a3, zI a4, zL a5, u6, zI a7] [zR s0] sh pp mm Q ↔ zS 12 73 [zR a0, zR a1, zI a2, zI a3, zI a4, zL a5, zU, zI a7] [zI a7, zR s0] sh pp mm Q := s_go cB_divide_71 cB_divide_73 rfl rfl
theorem rB_divide_73 {a0 a1 s1 : Nat} {a2 a3 a4 a5 a7 s0 : Int} {u6 : zV} : zS 12 73 [zR a0, zR a1, zI a2, zI a3, zI a4, zL a5, u6, zI a7] [zI s0, zR s1] sh pp mm Q ↔ zS 12 75 [zR a0, zR a1, zI a2, zI a3, zI a4, zL a5, zU, zI a7] [zL a5, zI s0, zR s1] sh pp mm Q := s_go cB_divide_73 cB_divide_75 rfl rfl
theorem rB_divide_75 {a0 a1 s2 : Nat} {a2 a3 a4 a5 a7 s0 s1 : Int} {u6 : zV} : zS 12 75 [zR a0, zR a1, zI a2, zI a3, zI a4, zL a5, u6, zI a7] [zL s0, zI s1, zR s2] sh pp mm Q ↔ zS 12 78 [zR a0, zR a1, zI a2, zI a3, zI a4, zL a5, zU, zI a7] [zL 1073741823, zL s0, zI s1, zR s2] sh pp mm Q := s_go cB_divide_75 cB_divide_78 rfl rfl
theorem rB_divide_78 {a0 a1 s3 : Nat} {a2 a3 a4 a5 a7 s0 s1 s2 : Int} {u6 : zV} : zS 12 78 [zR a0, zR a1, zI a2, zI a3, zI a4, zL a5, u6, zI a7] [zL s0, zL s1, zI s2, zR s3] sh pp mm Q ↔ zS 12 79 [zR a0, zR a1, zI a2, zI a3, zI a4, zL a5, zU, zI a7] [zL (zland s1 s0), zI s2, zR s3] sh pp mm Q := s_go cB_divide_78 cB_divide_79 rfl rfl
theorem rB_divide_79 {a0 a1 s2 : Nat} {a2 a3 a4 a5 a7 s0 s1 : Int} {u6 : zV} : zS 12 79 [zR a0, zR a1, zI a2, zI a3, zI a4, zL a5, u6, zI a7] [zL s0, zI s1, zR s2] sh pp mm Q ↔ zS 12 80 [zR a0, zR a1, zI a2, zI a3, zI a4, zL a5, zU, zI a7] [zI (zw32 s0), zI s1, zR s2] sh pp mm Q := s_go cB_divide_79 cB_divide_80 rfl rfl
theorem rB_divide_80 {a0 a1 s2 : Nat} {a2 a3 a4 a5 a7 s0 s1 : Int} {u6 : zV} (hk : zKd sh s2 = 20) (h0 : 0 ≤ s1) (h1 : s1 < zLn sh s2) : zS 12 80 [zR a0, zR a1, zI a2, zI a3, zI a4, zL a5, u6, zI a7] [zI s0, zI s1, zR s2] sh pp mm Q ↔ zS 12 81 [zR a0, zR a1, zI a2, zI a3, zI a4, zL a5, zU, zI a7] [] sh pp (zupd mm s2 s1 s0) Q := s_go cB_divide_80 cB_divide_81 (if_pos ⟨hk, h0, h1, fun h => absurd h (by decide)⟩) rfl
theorem rB_divide_81 {a0 a1 : Nat} {a2 a3 a4 a5 a7 : Int} {u6 : zV} : zS 12 81 [zR a0, zR a1, zI a2, zI a3, zI a4, zL a5, u6, zI a7] [] sh pp mm Q ↔ zS 12 83 [zR a0, zR a1, zI a2, zI a3, zI a4, zU, zU, zI a7] [zL a5] sh pp mm Q := s_go cB_divide_81 cB_divide_83 rfl rfl
theorem rB_divide_83 {a0 a1 : Nat} {a2 a3 a4 a7 s0 : Int} {u5 u6 : zV} : zS 12 83 [zR a0, zR a1, zI a2, zI a3, zI a4, u5, u6, zI a7] [zL s0] sh pp mm Q ↔ zS 12 85 [zR a0, zR a1, zI a2, zI a3, zI a4, zU, zU, zI a7] [zI 30, zL s0] sh pp mm Q := s_go cB_divide_83 cB_divide_85 rfl rfl
theorem rB_divide_85 {a0 a1 : Nat} {a2 a3 a4 a7 s0 s1 : Int} {u5 u6 : zV} : zS 12 85 [zR a0, zR a1, zI a2, zI a3, zI a4, u5, u6, zI a7] [zI s0, zL s1] sh pp mm Q ↔ zS 12 86 [zR a0, zR a1, zI a2, zI a3, zI a4, zU, zU, zI a7] [zL (zlshr s1 s0)] sh pp mm Q := s_go cB_divide_85 cB_divide_86 rfl rfl
theorem rB_divide_86 {a0 a1 : Nat} {a2 a3 a4 a7 s0 : Int} {u5 u6 : zV} : zS 12 86 [zR a0, zR a1, zI a2, zI a3, zI a4, u5, u6, zI a7] [zL s0] sh pp mm Q ↔ zS 12 88 [zR a0, zR a1, zI a2, zI a3, zI a4, zL s0, zU, zI a7] [] sh pp mm Q := s_go cB_divide_86 cB_divide_88 rfl rfl
theorem rB_divide_88 {a0 a1 : Nat} {a2 a3 a4 a5 a7 : Int} {u6 : zV} : zS 12 88 [zR a0, zR a1, zI a2, zI a3, zI a4, zL a5, u6, zI a7] [] sh pp mm Q ↔ zS 12 91 [zR a0, zR a1, zI a2, zI a3, zI a4, zL a5, zU, zI (zw32 (a7 + 1))] [] sh pp mm Q := s_go cB_divide_88 cB_divide_91 rfl rfl
theorem rB_divide_91 {a0 a1 : Nat} {a2 a3 a4 a5 a7 : Int} {u6 : zV} : zS 12 91 [zR a0, zR a1, zI a2, zI a3, zI a4, zL a5, u6, zI a7] [] sh pp mm Q ↔ zS 12 32 [zR a0, zR a1, zI a2, zI a3, zI a4, zL a5, zU, zI a7] [] sh pp mm Q := s_go cB_divide_91 cB_divide_32 rfl rfl
theorem rB_divide_94 {a0 a1 : Nat} {a2 a3 a4 : Int} {u5 u6 u7 : zV} : zS 12 94 [zR a0, zR a1, zI a2, zI a3, zI a4, u5, u6, u7] [] sh pp mm Q ↔ zS 12 95 [zR a0, zR a1, zI a2, zI a3, zI a4, zU, zU, zU] [zR a0] sh pp mm Q := s_go cB_divide_94 cB_divide_95 rfl rfl
theorem rB_divide_95 {a0 a1 s0 : Nat} {a2 a3 a4 : Int} {u5 u6 u7 : zV} (hk : zKd sh s0 = 0) : zS 12 95 [zR a0, zR a1, zI a2, zI a3, zI a4, u5, u6, u7] [zR s0] sh pp mm Q ↔ zS 12 98 [zR a0, zR a1, zI a2, zI a3, zI a4, zU, zU, zU] [zR (pp s0 0)] sh pp mm Q := s_go cB_divide_95 cB_divide_98 (if_pos hk) rfl
theorem rB_divide_98 {a0 a1 s0 : Nat} {a2 a3 a4 : Int} {u5 u6 u7 : zV} : zS 12 98 [zR a0, zR a1, zI a2, zI a3, zI a4, u5, u6, u7] [zR s0] sh pp mm Q ↔ zS 12 99 [zR a0, zR a1, zI a2, zI a3, zI a4, zU, zU, zU] [zI a3, zR s0] sh pp mm Q := s_go cB_divide_98 cB_divide_99 rfl rfl
theorem rB_divide_99 {a0 a1 s1 : Nat} {a2 a3 a4 s0 : Int} {u5 u6 u7 : zV} : zS 12 99 [zR a0, zR a1, zI a2, zI a3, zI a4, u5, u6, u7] [zI s0, zR s1] sh pp mm Q ↔ zS 12 101 [zR a0, zR a1, zI a2, zI a3, zU, zU, zU, zU] [zI a4, zI s0, zR s1] sh pp mm Q := s_go cB_divide_99 cB_divide_101 rfl rfl
theorem rB_divide_101 {a0 a1 s2 : Nat} {a2 a3 s0 s1 : Int} {u4 u5 u6 u7 : zV} (hk : zKd sh s2 = 20) (h0 : 0 ≤ s1) (h1 : s1 < zLn sh s2) : zS 12 101 [zR a0, zR a1, zI a2, zI a3, u4, u5, u6, u7] [zI s0, zI s1, zR s2] sh pp mm Q ↔ zS 12 102 [zR a0, zR a1, zI a2, zI a3, zU, zU, zU, zU] [] sh pp (zupd mm s2 s1 s0) Q := s_go cB_divide_101 cB_divide_102 (if_pos ⟨hk, h0, h1, fun h => absurd h (by decide)⟩) rfl
theorem rB_divide_102 {a0 a1 : Nat} {a2 a3 : Int} {u4 u5 u6 u7 : zV} : zS 12 102 [zR a0, zR a1, zI a2, zI a3, u4, u5, u6, u7] [] sh pp mm Q ↔ zS 12 105 [zR a0, zR a1, zI a2, zI (zw32 (a3 + 1)), zU, zU, zU, zU] [] sh pp mm Q := s_go cB_divide_102 cB_divide_105 rfl rfl
theorem rB_divide_105 {a0 a1 : Nat} {a2 a3 : Int} {u4 u5 u6 u7 : zV} : zS 12 105 [zR a0, zR a1, zI a2, zI a3, u4, u5, u6, u7] [] sh pp mm Q ↔ zS 12 7 [zR a0, zR a1, zI a2, zI a3, zU, zU, zU, zU] [] sh pp mm Q := s_go cB_divide_105 cB_divide_7 rfl rfl
theorem rB_divide_108 {a0 : Nat} {u1 u2 u3 u4 u5 u6 u7 : zV} : zS 12 108 [zR a0, u1, u2, u3, u4, u5, u6, u7] [] sh pp mm Q ↔ zS 12 109 [zU, zU, zU, zU, zU, zU, zU, zU] [zR a0] sh pp mm Q := s_go cB_divide_108 cB_divide_109 rfl rfl
theorem rB_divide_109 {s0 : Nat} {u0 u1 u2 u3 u4 u5 u6 u7 : zV} (hk : zKd sh s0 = 0) : zS 12 109 [u0, u1, u2, u3, u4, u5, u6, u7] [zR s0] sh pp mm Q ↔ zS 5 0 [zR s0] [] sh pp mm (fun v sh pp mm => zS 12 112 [zU, zU, zU, zU, zU, zU, zU, zU] (zPush v []) sh pp mm Q) := s_call cB_divide_109 cB_divide_112 ((if_pos hk).trans rfl) rfl
theorem rB_divide_112 {u0 u1 u2 u3 u4 u5 u6 u7 : zV} : zS 12 112 [u0, u1, u2, u3, u4, u5, u6, u7] [] sh pp mm Q ↔ Q zU sh pp mm := s_ret cB_divide_112 rfl
theorem cAB_inverseOfLowest : ∀ q ∈ zT13, zCode 13 q.1 = some q.2 := zAll (mid := 13) rfl (by decide +kernel)
theorem cAB_inverseOfLowest_0 : ∀ q ∈ zT13_0, zCode 13 q.1 = some q.2 := fun q h => cAB_inverseOfLowest q (List.mem_append_left _ h)
theorem cAB_inverseOfLowest_1 : ∀ q ∈ zT13_1, zCode 13 q.1 = some q.2 := fun q h => cAB_inverseOfLowest q (List.mem_append_right _ h)
theorem cB_inverseOfLowest_0 : zCode 13 0 = some (.aload_n 0, 1, 0, 0, 0, 0, 1) := cAB_inverseOfLowest_0 _ (List.mem_of_getElem? (i := 0) rfl)
theorem cB_inverseOfLowest_1 : zCode 13 1 = some (.getfield 9, 4, 0, 0, 2, 333, 0) := cAB_inverseOfLowest_0 _ (List.mem_of_getElem? (i := 1) rfl)
theorem cB_inverseOfLowest_4 : zCode 13 4 = some (.iconst 0, 5, 0, 0, 0, 0, 0) := cAB_inverseOfLowest_0 _ (List.mem_of_getElem? (i := 2) rfl)
theorem cB_inverseOfLowest_5 : zCode 13 5 = some (.iaload, 6, 0, 0, 0, 0, 0) := cAB_inverseOfLowest_0 _ (List.mem_of_getElem? (i := 3) rfl)
theorem cB_inverseOfLowest_6 : zCode 13 6 = some (.istore_n 1, 7, 0, 0, 0, 0, 0) := cAB_inverseOfLowest_0 _ (List.mem_of_getElem? (i := 4) rfl)
theorem cB_inverseOfLowest_7 : zCode 13 7 = some (.iload_n 1, 8, 0, 0, 0, 0, 2) := cAB_inverseOfLowest_0 _ (List.mem_of_getElem? (i := 5) rfl)
theorem cB_inverseOfLowest_8 : zCode 13 8 = some (.istore_n 2, 9, 0, 0, 0, 0, 2) := cAB_inverseOfLowest_0 _ (List.mem_of_getElem? (i := 6) rfl)
theorem cB_inverseOfLowest_9 : zCode 13 9 = some (.iconst 3, 10, 0, 0, 0, 0, 6) := cAB_inverseOfLowest_0 _ (List.mem_of_getElem? (i := 7) rfl)
theorem cB_inverseOfLowest_10 : zCode 13 10 = some (.istore_n 3, 11, 0, 0, 0, 0, 6) := cAB_inverseOfLowest_0 _ (List.mem_of_getElem? (i := 8) rfl)
theorem cB_inverseOfLowest_11 : zCode 13 11 = some (.iload_n 3, 12, 0, 0, 0, 0, 14) := cAB_inverseOfLowest_0 _ (List.mem_of_getElem? (i := 9) rfl)
theorem cB_inverseOfLowest_12 : zCode 13 12 = some (.bipush 30, 14, 0, 0, 0, 0, 14) := cAB_inverseOfLowest_0 _ (List.mem_of_getElem? (i := 10) rfl)
theorem cB_inverseOfLowest_14 : zCode 13 14 = some (.if_icmp .ge 18, 17, 32, 0, 0, 0, 14) := cAB_inverseOfLowest_0 _ (List.mem_of_getElem? (i := 11) rfl)
theorem cB_inverseOfLowest_17 : zCode 13 17 = some (.iload_n 2, 18, 0, 0, 0, 0, 14) := cAB_inverseOfLowest_0 _ (List.mem_of_getElem? (i := 12) rfl)
theorem cB_inverseOfLowest_18 : zCode 13 18 = some (.iconst 2, 19, 0, 0, 0, 0, 14) := cAB_inverseOfLowest_0 _ (List.mem_of_getElem? (i := 13) rfl)
theorem cB_inverseOfLowest_19 : zCode 13 19 = some (.iload_n 1, 20, 0, 0, 0, 0, 14) := cAB_inverseOfLowest_0 _ (List.mem_of_getElem? (i := 14) rfl)
theorem cB_inverseOfLowest_20 : zCode 13 20 = some (.iload_n 2, 21, 0, 0, 0, 0, 14) := cAB_inverseOfLowest_0 _ (List.mem_of_getElem? (i := 15) rfl)
theorem cB_inverseOfLowest_21 : zCode 13 21 = some (.imul, 22, 0, 0, 0, 0, 10) := cAB_inverseOfLowest_1 _ (List.mem_of_getElem? (i := 0) rfl)
theorem cB_inverseOfLowest_22 : zCode 13 22 = some (.isub, 23, 0, 0, 0, 0, 10) := cAB_inverseOfLowest_1 _ (List.mem_of_getElem? (i := 1) rfl)
theorem cB_inverseOfLowest_23 : zCode 13 23 = some (.imul, 24, 0, 0, 0, 0, 10) := cAB_inverseOfLowest_1 _ (List.mem_of_getElem? (i := 2) rfl)
theorem cB_inverseOfLowest_24 : zCode 13 24 = some (.istore_n 2, 25, 0, 0, 0, 0, 10) := cAB_inverseOfLowest_1 _ (List.mem_of_getElem? (i := 3) rfl)
theorem cB_inverseOfLowest_25 : zCode 13 25 = some (.iload_n 3, 26, 0, 0, 0, 0, 14) := cAB_inverseOfLowest_1 _ (List.mem_of_getElem? (i := 4) rfl)
theorem cB_inverseOfLowest_26 : zCode 13 26 = some (.iconst 2, 27, 0, 0, 0, 0, 6) := cAB_inverseOfLowest_1 _ (List.mem_of_getElem? (i := 5) rfl)
theorem cB_inverseOfLowest_27 : zCode 13 27 = some (.imul, 28, 0, 0, 0, 0, 6) := cAB_inverseOfLowest_1 _ (List.mem_of_getElem? (i := 6) rfl)
theorem cB_inverseOfLowest_28 : zCode 13 28 = some (.istore_n 3, 29, 0, 0, 0, 0, 6) := cAB_inverseOfLowest_1 _ (List.mem_of_getElem? (i := 7) rfl)
theorem cB_inverseOfLowest_29 : zCode 13 29 = some (.goto (-18), 32, 11, 0, 0, 0, 14) := cAB_inverseOfLowest_1 _ (List.mem_of_getElem? (i := 8) rfl)
theorem cB_inverseOfLowest_32 : zCode 13 32 = some (.iload_n 2, 33, 0, 0, 0, 0, 4) := cAB_inverseOfLowest_1 _ (List.mem_of_getElem? (i := 9) rfl)
theorem cB_inverseOfLowest_33 : zCode 13 33 = some (.ireturn, 34, 0, 0, 0, 0, 0) := cAB_inverseOfLowest_1 _ (List.mem_of_getElem? (i := 10) rfl)
theorem rB_inverseOfLowest_0 {a0 : Nat} {u1 u2 u3 : zV} : zS 13 0 [zR a0, u1, u2, u3] [] sh pp mm Q ↔ zS 13 1 [zU, zU, zU, zU] [zR a0] sh pp mm Q := s_go cB_inverseOfLowest_0 cB_inverseOfLowest_1 rfl rfl
theorem rB_inverseOfLowest_1 {s0 : Nat} {u0 u1 u2 u3 : zV} (hk : zKd sh s0 = 0) : zS 13 1 [u0, u1, u2, u3] [zR s0] sh pp mm Q ↔ zS 13 4 [zU, zU, zU, zU] [zR (pp s0 0)] sh pp mm Q := s_go cB_inverseOfLowest_1 cB_inverseOfLowest_4 (if_pos hk) rfl
theorem rB_inverseOfLowest_4 {s0 : Nat} {u0 u1 u2 u3 : zV} : zS 13 4 [u0, u1, u2, u3] [zR s0] sh pp mm Q ↔ zS 13 5 [zU, zU, zU, zU] [zI 0, zR s0] sh pp mm Q := s_go cB_inverseOfLowest_4 cB_inverseOfLowest_5 rfl rfl
theorem rB_inverseOfLowest_5 {s1 : Nat} {s0 : Int} {u0 u1 u2 u3 : zV} (hk : zKd sh s1 = 20 ∨ zKd sh s1 = 30) (h0 : 0 ≤ s0) (h1 : s0 < zLn sh s1) : zS 13 5 [u0, u1, u2, u3] [zI s0, zR s1] sh pp mm Q ↔ zS 13 6 [zU, zU, zU, zU] [zI (mm s1 s0)] sh pp mm Q := s_go cB_inverseOfLowest_5 cB_inverseOfLowest_6 (if_pos ⟨hk, h0, h1⟩) rfl
theorem rB_inverseOfLowest_6 {s0 : Int} {u0 u1 u2 u3 : zV} : zS 13 6 [u0, u1, u2, u3] [zI s0] sh pp mm Q ↔ zS 13 7 [zU, zI s0, zU, zU] [] sh pp mm Q := s_go cB_inverseOfLowest_6 cB_inverseOfLowest_7 rfl rfl
theorem rB_inverseOfLowest_7 {a1 : Int} {u0 u2 u3 : zV} : zS 13 7 [u0, zI a1, u2, u3] [] sh pp mm Q ↔ zS 13 8 [zU, zI a1, zU, zU] [zI a1] sh pp mm Q := s_go cB_inverseOfLowest_7 cB_inverseOfLowest_8 rfl rfl
theorem rB_inverseOfLowest_8 {a1 s0 : Int} {u0 u2 u3 : zV} : zS 13 8 [u0, zI a1, u2, u3] [zI s0] sh pp mm Q ↔ zS 13 9 [zU, zI a1, zI s0, zU] [] sh pp mm Q := s_go cB_inverseOfLowest_8 cB_inverseOfLowest_9 rfl rfl
theorem rB_inverseOfLowest_9 {a1 a2 : Int} {u0 u3 : zV} : zS 13 9 [u0, zI a1, zI a2, u3] [] sh pp mm Q ↔ zS 13 10 [zU, zI a1, zI a2, zU] [zI 3] sh pp mm Q := s_go cB_inverseOfLowest_9 cB_inverseOfLowest_10 rfl rfl
theorem rB_inverseOfLowest_10 {a1 a2 s0 : Int} {u0 u3 : zV} : zS 13 10 [u0, zI a1, zI a2, u3] [zI s0] sh pp mm Q ↔ zS 13 11 [zU, zI a1, zI a2, zI s0] [] sh pp mm Q := s_go cB_inverseOfLowest_10 cB_inverseOfLowest_11 rfl rfl
theorem rB_inverseOfLowest_11 {a1 a2 a3 : Int} {u0 : zV} : zS 13 11 [u0, zI a1, zI a2, zI a3] [] sh pp mm Q ↔ zS 13 12 [zU, zI a1, zI a2, zI a3] [zI a3] sh pp mm Q := s_go cB_inverseOfLowest_11 cB_inverseOfLowest_12 rfl rfl
theorem rB_inverseOfLowest_12 {a1 a2 a3 s0 : Int} {u0 : zV} : zS 13 12 [u0, zI a1, zI a2, zI a3] [zI s0] sh pp mm Q ↔ zS 13 14 [zU, zI a1, zI a2, zI a3] [zI 30, zI s0] sh pp mm Q := s_go cB_inverseOfLowest_12 cB_inverseOfLowest_14 rfl rfl
theorem rB_inverseOfLowest_14 {a1 a2 a3 s0 s1 : Int} {u0 : zV} : zS 13 14 [u0, zI a1, zI a2, zI a3] [zI s0, zI s1] sh pp mm Q ↔ (s1 < s0 → zS 13 17 [zU, zI a1, zI a2, zI a3] [] sh pp mm Q) ∧ (¬ s1 < s0 → zS 13 32 [zU, zU, zI a2, zU] [] sh pp mm Q) := s_ifn cB_inverseOfLowest_14 cB_inverseOfLowest_17 cB_inverseOfLowest_32 rfl rfl rfl
theorem rB_inverseOfLowest_17 {a1 a2 a3 : Int} {u0 : zV} : zS 13 17 [u0, zI a1, zI a2, zI a3] [] sh pp mm Q ↔ zS 13 18 [zU, zI a1, zI a2, zI a3] [zI a2] sh pp mm Q := s_go cB_inverseOfLowest_17 cB_inverseOfLowest_18 rfl rfl
theorem rB_inverseOfLowest_18 {a1 a2 a3 s0 : Int} {u0 : zV} : zS 13 18 [u0, zI a1, zI a2, zI a3] [zI s0] sh pp mm Q ↔ zS 13 19 [zU, zI a1, zI a2, zI a3] [zI 2, zI s0] sh pp mm Q := s_go cB_inverseOfLowest_18 cB_inverseOfLowest_19 rfl rfl
theorem rB_inverseOfLowest_19 {a1 a2 a3 s0 s1 : Int} {u0 : zV} : zS 13 19 [u0, zI a1, zI a2, zI a3] [zI s0, zI s1] sh pp mm Q ↔ zS 13 20 [zU, zI a1, zI a2, zI a3] [zI a1, zI s0, zI s1] sh pp mm Q := s_go cB_inverseOfLowest_19 cB_inverseOfLowest_20 rfl rfl
theorem rB_inverseOfLowest_20 {a1 a2 a3 s0 s1 s2 : Int} {u0 : zV} : zS 13 20 [u0, zI a1, zI a2, zI a3] [zI s0, zI s1, zI s2] sh pp mm Q ↔ zS 13 21 [zU, zI a1, zU, zI a3] [zI a2, zI s0, zI s1, zI s2] sh pp mm Q := s_go cB_inverseOfLowest_20 cB_inverseOfLowest_21 rfl rfl
theorem rB_inverseOfLowest_21 {a1 a3 s0 s1 s2 s3 : Int} {u0 u2 : zV} : zS 13 21 [u0, zI a1, u2, zI a3] [zI s0, zI s1, zI s2, zI s3] sh pp mm Q ↔ zS 13 22 [zU, zI a1, zU, zI a3] [zI (zw32 (s1 * s0)), zI s2, zI s3] sh pp mm Q := s_go cB_inverseOfLowest_21 cB_inverseOfLowest_22 rfl rfl
theorem rB_inverseOfLowest_22 {a1 a3 s0 s1 s2 : Int} {u0 u2 : zV} : zS 13 22 [u0, zI a1, u2, zI a3] [zI s0, zI s1, zI s2] sh pp mm Q ↔ zS 13 23 [zU, zI a1, zU, zI a3] [zI (zw32 (s1 - s0)), zI s2] sh pp mm Q := s_go cB_inverseOfLowest_22 cB_inverseOfLowest_23 rfl rfl
theorem rB_inverseOfLowest_23 {a1 a3 s0 s1 : Int} {u0 u2 : zV} : zS 13 23 [u0, zI a1, u2, zI a3] [zI s0, zI s1] sh pp mm Q ↔ zS 13 24 [zU, zI a1, zU, zI a3] [zI (zw32 (s1 * s0))] sh pp mm Q := s_go cB_inverseOfLowest_23 cB_inverseOfLowest_24 rfl rfl
theorem rB_inverseOfLowest_24 {a1 a3 s0 : Int} {u0 u2 : zV} : zS 13 24 [u0, zI a1, u2, zI a3] [zI s0] sh pp mm Q ↔ zS 13 25 [zU, zI a1, zI s0, zI a3] [] sh pp mm Q := s_go cB_inverseOfLowest_24 cB_inverseOfLowest_25 rfl rfl
theorem rB_inverseOfLowest_25 {a1 a2 a3 : Int} {u0 : zV} : zS 13 25 [u0, zI a1, zI a2, zI a3] [] sh pp mm Q ↔ zS 13 26 [zU, zI a1, zI a2, zU] [zI a3] sh pp mm Q := s_go cB_inverseOfLowest_25 cB_inverseOfLowest_26 rfl rfl
theorem rB_inverseOfLowest_26 {a1 a2 s0 : Int} {u0 u3 : zV} : zS 13 26 [u0, zI a1, zI a2, u3] [zI s0] sh pp mm Q ↔ zS 13 27 [zU, zI a1, zI a2, zU] [zI 2, zI s0] sh pp mm Q := s_go cB_inverseOfLowest_26 cB_inverseOfLowest_27 rfl rfl
theorem rB_inverseOfLowest_27 {a1 a2 s0 s1 : Int} {u0 u3 : zV} : zS 13 27 [u0, zI a1, zI a2, u3] [zI s0, zI s1] sh pp mm Q ↔ zS 13 28 [zU, zI a1, zI a2, zU] [zI (zw32 (s1 * s0))] sh pp mm Q := s_go cB_inverseOfLowest_27 cB_inverseOfLowest_28 rfl rfl
theorem rB_inverseOfLowest_28 {a1 a2 s0 : Int} {u0 u3 : zV} : zS 13 28 [u0, zI a1, zI a2, u3] [zI s0] sh pp mm Q ↔ zS 13 29 [zU, zI a1, zI a2, zI s0] [] sh pp mm Q := s_go cB_inverseOfLowest_28 cB_inverseOfLowest_29 rfl rfl
theorem rB_inverseOfLowest_29 {a1 a2 a3 : Int} {u0 : zV} : zS 13 29 [u0, zI a1, zI a2, zI a3] [] sh pp mm Q ↔ zS 13 11 [zU, zI a1, zI a2, zI a3] [] sh pp mm Q := s_go cB_inverseOfLowest_29 cB_inverseOfLowest_11 rfl rfl
theorem rB_inverseOfLowest_32 {a2 : Int} {u0 u1 u3 : zV} : zS 13 32 [u0, u1, zI a2, u3] [] sh pp mm Q ↔ zS 13 33 [zU, zU, zU, zU] [zI a2] sh pp mm Q := s_go cB_inverseOfLowest_32 cB_inverseOfLowest_33 rfl rfl
theorem rB_inverseOfLowest_33 {s0 : Int} {u0 u1 u2 u3 : zV} : zS 13 33 [u0, u1, u2, u3] [zI s0] sh pp mm Q ↔ Q (zI s0) sh pp mm := s_ret cB_inverseOfLowest_33 rfl
theorem cAB_fold : ∀ q ∈ zT14, zCode 14 q.1 = some q.2 := zAll (mid := 14) rfl (by decide +kernel)
theorem cAB_fold_0 : ∀ q ∈ zT14_0, zCode 14 q.1 = some q.2 := fun q h => cAB_fold q (List.mem_append_left _ h)
theorem cAB_fold_1 : ∀ q ∈ zT14_1, zCode 14 q.1 = some q.2 := fun q h => cAB_fold q (List.mem_append_right _ h)
theorem cB_fold_0 : zCode 14 0 = some (.lload_n 1, 1, 0, 0, 0, 0, 3) := cAB_fold_0 _ (List.mem_of_getElem? (i := 0) rfl)
theorem cB_fold_1 : zCode 14 1 = some (.lstore_n 3, 2, 0, 0, 0, 0, 1) := cAB_fold_0 _ (List.mem_of_getElem? (i := 1) rfl)
theorem cB_fold_2 : zCode 14 2 = some (.iconst 0, 3, 0, 0, 0, 0, 9) := cAB_fold_0 _ (List.mem_of_getElem? (i := 2) rfl)
theorem cB_fold_3 : zCode 14 3 = some (.istore 5, 5, 0, 0, 0, 0, 9) := cAB_fold_0 _ (List.mem_of_getElem? (i := 3) rfl)
theorem cB_fold_5 : zCode 14 5 = some (.iload 5, 7, 0, 0, 0, 0, 41) := cAB_fold_0 _ (List.mem_of_getElem? (i := 4) rfl)
theorem cB_fold_7 : zCode 14 7 = some (.aload_n 0, 8, 0, 0, 0, 0, 41) := cAB_fold_0 _ (List.mem_of_getElem? (i := 5) rfl)
theorem cB_fold_8 : zCode 14 8 = some (.getfield 15, 11, 0, 1, 0, 335, 41) := cAB_fold_0 _ (List.mem_of_getElem? (i := 6) rfl)
theorem cB_fold_11 : zCode 14 11 = some (.if_icmp .ge 24, 14, 35, 0, 0, 0, 41) := cAB_fold_0 _ (List.mem_of_getElem? (i := 7) rfl)
theorem cB_fold_14 : zCode 14 14 = some (.ldc2_w 48, 17, 0, 0, 1196, 31, 41) := cAB_fold_0 _ (List.mem_of_getElem? (i := 8) rfl)
theorem cB_fold_17 : zCode 14 17 = some (.lload_n 3, 18, 0, 0, 0, 0, 41) := cAB_fold_0 _ (List.mem_of_getElem? (i := 9) rfl)
theorem cB_fold_18 : zCode 14 18 = some (.lmul, 19, 0, 0, 0, 0, 33) := cAB_fold_0 _ (List.mem_of_getElem? (i := 10) rfl)
theorem cB_fold_19 : zCode 14 19 = some (.aload_n 0, 20, 0, 0, 0, 0, 33) := cAB_fold_0 _ (List.mem_of_getElem? (i := 11) rfl)
theorem cB_fold_20 : zCode 14 20 = some (.getfield 9, 23, 0, 0, 2, 333, 33) := cAB_fold_0 _ (List.mem_of_getElem? (i := 12) rfl)
theorem cB_fold_23 : zCode 14 23 = some (.iload 5, 25, 0, 0, 0, 0, 33) := cAB_fold_0 _ (List.mem_of_getElem? (i := 13) rfl)
theorem cB_fold_25 : zCode 14 25 = some (.iaload, 26, 0, 0, 0, 0, 33) := cAB_fold_0 _ (List.mem_of_getElem? (i := 14) rfl)
theorem cB_fold_26 : zCode 14 26 = some (.i2l, 27, 0, 0, 0, 0, 33) := cAB_fold_0 _ (List.mem_of_getElem? (i := 15) rfl)
theorem cB_fold_27 : zCode 14 27 = some (.ladd, 28, 0, 0, 0, 0, 33) := cAB_fold_1 _ (List.mem_of_getElem? (i := 0) rfl)
theorem cB_fold_28 : zCode 14 28 = some (.lstore_n 3, 29, 0, 0, 0, 0, 33) := cAB_fold_1 _ (List.mem_of_getElem? (i := 1) rfl)
theorem cB_fold_29 : zCode 14 29 = some (.iinc 5 1, 32, 0, 0, 0, 0, 41) := cAB_fold_1 _ (List.mem_of_getElem? (i := 2) rfl)
theorem cB_fold_32 : zCode 14 32 = some (.goto (-27), 35, 5, 0, 0, 0, 41) := cAB_fold_1 _ (List.mem_of_getElem? (i := 3) rfl)
theorem cB_fold_35 : zCode 14 35 = some (.lload_n 3, 36, 0, 0, 0, 0, 8) := cAB_fold_1 _ (List.mem_of_getElem? (i := 4) rfl)
theorem cB_fold_36 : zCode 14 36 = some (.lreturn, 37, 0, 0, 0, 0, 0) := cAB_fold_1 _ (List.mem_of_getElem? (i := 5) rfl)
theorem rB_fold_0 {a0 : Nat} {a1 : Int} {u2 u3 u4 u5 : zV} : zS 14 0 [zR a0, zL a1, u2, u3, u4, u5] [] sh pp mm Q ↔ zS 14 1 [zR a0, zU, zU, zU, zU, zU] [zL a1] sh pp mm Q := s_go cB_fold_0 cB_fold_1 rfl rfl
theorem rB_fold_1 {a0 : Nat} {s0 : Int} {u1 u2 u3 u4 u5 : zV} : zS 14 1 [zR a0, u1, u2, u3, u4, u5] [zL s0] sh pp mm Q ↔ zS 14 2 [zR a0, zU, zU, zL s0, zU, zU] [] sh pp mm Q := s_go cB_fold_1 cB_fold_2 rfl rfl
theorem rB_fold_2 {a0 : Nat} {a3 : Int} {u1 u2 u4 u5 : zV} : zS 14 2 [zR a0, u1, u2, zL a3, u4, u5] [] sh pp mm Q ↔ zS 14 3 [zR a0, zU, zU, zL a3, zU, zU] [zI 0] sh pp mm Q := s_go cB_fold_2 cB_fold_3 rfl rfl
theorem rB_fold_3 {a0 : Nat} {a3 s0 : Int} {u1 u2 u4 u5 : zV} : zS 14 3 [zR a0, u1, u2, zL a3, u4, u5] [zI s0] sh pp mm Q ↔ zS 14 5 [zR a0, zU, zU, zL a3, zU, zI s0] [] sh pp mm Q := s_go cB_fold_3 cB_fold_5 rfl rfl
theorem rB_fold_5 {a0 : Nat} {a3 a5 : Int} {u1 u2 u4 : zV} : zS 14 5 [zR a0, u1, u2, zL a3, u4, zI a5] [] sh pp mm Q ↔ zS 14 7 [zR a0, zU, zU, zL a3, zU, zI a5] [zI a5] sh pp mm Q := s_go cB_fold_5 cB_fold_7 rfl rfl
theorem rB_fold_7 {a0 : Nat} {a3 a5 s0 : Int} {u1 u2 u4 : zV} : zS 14 7 [zR a0, u1, u2, zL a3, u4, zI a5] [zI s0] sh pp mm Q ↔ zS 14 8 [zR a0, zU, zU, zL a3, zU, zI a5] [zR a0, zI s0] sh pp mm Q := s_go cB_fold_7 cB_fold_8 rfl rfl
theorem rB_fold_8 {a0 s0 : Nat} {a3 a5 s1 : Int} {u1 u2 u4 : zV} (hk : zKd sh s0 = 0) : zS 14 8 [zR a0, u1, u2, zL a3, u4, zI a5] [zR s0, zI s1] sh pp mm Q ↔ zS 14 11 [zR a0, zU, zU, zL a3, zU, zI a5] [zI (mm s0 1), zI s1] sh pp mm Q := s_go cB_fold_8 cB_fold_11 (if_pos hk) rfl
theorem rB_fold_11 {a0 : Nat} {a3 a5 s0 s1 : Int} {u1 u2 u4 : zV} : zS 14 11 [zR a0, u1, u2, zL a3, u4, zI a5] [zI s0, zI s1] sh pp mm Q ↔ (s1 < s0 → zS 14 14 [zR a0, zU, zU, zL a3, zU, zI a5] [] sh pp mm Q) ∧ (¬ s1 < s0 → zS 14 35 [zU, zU, zU, zL a3, zU, zU] [] sh pp mm Q) := s_ifn cB_fold_11 cB_fold_14 cB_fold_35 rfl rfl rfl
theorem rB_fold_14 {a0 : Nat} {a3 a5 : Int} {u1 u2 u4 : zV} : zS 14 14 [zR a0, u1, u2, zL a3, u4, zI a5] [] sh pp mm Q ↔ zS 14 17 [zR a0, zU, zU, zL a3, zU, zI a5] [zL 31] sh pp mm Q := s_go cB_fold_14 cB_fold_17 rfl rfl
theorem rB_fold_17 {a0 : Nat} {a3 a5 s0 : Int} {u1 u2 u4 : zV} : zS 14 17 [zR a0, u1, u2, zL a3, u4, zI a5] [zL s0] sh pp mm Q ↔ zS 14 18 [zR a0, zU, zU, zU, zU, zI a5] [zL a3, zL s0] sh pp mm Q := s_go cB_fold_17 cB_fold_18 rfl rfl
theorem rB_fold_18 {a0 : Nat} {a5 s0 s1 : Int} {u1 u2 u3 u4 : zV} : zS 14 18 [zR a0, u1, u2, u3, u4, zI a5] [zL s0, zL s1] sh pp mm Q ↔ zS 14 19 [zR a0, zU, zU, zU, zU, zI a5] [zL (zw64 (s1 * s0))] sh pp mm Q := s_go cB_fold_18 cB_fold_19 rfl rfl
theorem rB_fold_19 {a0 : Nat} {a5 s0 : Int} {u1 u2 u3 u4 : zV} : zS 14 19 [zR a0, u1, u2, u3, u4, zI a5] [zL s0] sh pp mm Q ↔ zS 14 20 [zR a0, zU, zU, zU, zU, zI a5] [zR a0, zL s0] sh pp mm Q := s_go cB_fold_19 cB_fold_20 rfl rfl
theorem rB_fold_20 {a0 s0 : Nat} {a5 s1 : Int} {u1 u2 u3 u4 : zV} (hk : zKd sh s0 = 0) : zS 14 20 [zR a0, u1, u2, u3, u4, zI a5] [zR s0, zL s1] sh pp mm Q ↔ zS 14 23 [zR a0, zU, zU, zU, zU, zI a5] [zR (pp s0 0), zL s1] sh pp mm Q := s_go cB_fold_20 cB_fold_23 (if_pos hk) rfl
theorem rB_fold_23 {a0 s0 : Nat} {a5 s1 : Int} {u1 u2 u3 u4 : zV} : zS 14 23 [zR a0, u1, u2, u3, u4, zI a5] [zR s0, zL s1] sh pp mm Q ↔ zS 14 25 [zR a0, zU, zU, zU, zU, zI a5] [zI a5, zR s0, zL s1] sh pp mm Q := s_go cB_fold_23 cB_fold_25 rfl rfl
theorem rB_fold_25 {a0 s1 : Nat} {a5 s0 s2 : Int} {u1 u2 u3 u4 : zV} (hk : zKd sh s1 = 20 ∨ zKd sh s1 = 30) (h0 : 0 ≤ s0) (h1 : s0 < zLn sh s1) : zS 14 25 [zR a0, u1, u2, u3, u4, zI a5] [zI s0, zR s1, zL s2] sh pp mm Q ↔ zS 14 26 [zR a0, zU, zU, zU, zU, zI a5] [zI (mm s1 s0), zL s2] sh pp mm Q := s_go cB_fold_25 cB_fold_26 (if_pos ⟨hk, h0, h1⟩) rfl
theorem rB_fold_26 {a0 : Nat} {a5 s0 s1 : Int} {u1 u2 u3 u4 : zV} : zS 14 26 [zR a0, u1, u2, u3, u4, zI a5] [zI s0, zL s1] sh pp mm Q ↔ zS 14 27 [zR a0, zU, zU, zU, zU, zI a5] [zL s0, zL s1] sh pp mm Q := s_go cB_fold_26 cB_fold_27 rfl rfl
theorem rB_fold_27 {a0 : Nat} {a5 s0 s1 : Int} {u1 u2 u3 u4 : zV} : zS 14 27 [zR a0, u1, u2, u3, u4, zI a5] [zL s0, zL s1] sh pp mm Q ↔ zS 14 28 [zR a0, zU, zU, zU, zU, zI a5] [zL (zw64 (s1 + s0))] sh pp mm Q := s_go cB_fold_27 cB_fold_28 rfl rfl
theorem rB_fold_28 {a0 : Nat} {a5 s0 : Int} {u1 u2 u3 u4 : zV} : zS 14 28 [zR a0, u1, u2, u3, u4, zI a5] [zL s0] sh pp mm Q ↔ zS 14 29 [zR a0, zU, zU, zL s0, zU, zI a5] [] sh pp mm Q := s_go cB_fold_28 cB_fold_29 rfl rfl
theorem rB_fold_29 {a0 : Nat} {a3 a5 : Int} {u1 u2 u4 : zV} : zS 14 29 [zR a0, u1, u2, zL a3, u4, zI a5] [] sh pp mm Q ↔ zS 14 32 [zR a0, zU, zU, zL a3, zU, zI (zw32 (a5 + 1))] [] sh pp mm Q := s_go cB_fold_29 cB_fold_32 rfl rfl
theorem rB_fold_32 {a0 : Nat} {a3 a5 : Int} {u1 u2 u4 : zV} : zS 14 32 [zR a0, u1, u2, zL a3, u4, zI a5] [] sh pp mm Q ↔ zS 14 5 [zR a0, zU, zU, zL a3, zU, zI a5] [] sh pp mm Q := s_go cB_fold_32 cB_fold_5 rfl rfl
theorem rB_fold_35 {a3 : Int} {u0 u1 u2 u4 u5 : zV} : zS 14 35 [u0, u1, u2, zL a3, u4, u5] [] sh pp mm Q ↔ zS 14 36 [zU, zU, zU, zU, zU, zU] [zL a3] sh pp mm Q := s_go cB_fold_35 cB_fold_36 rfl rfl
theorem rB_fold_36 {s0 : Int} {u0 u1 u2 u3 u4 u5 : zV} : zS 14 36 [u0, u1, u2, u3, u4, u5] [zL s0] sh pp mm Q ↔ Q (zL s0) sh pp mm := s_ret cB_fold_36 rfl
theorem cAK_init : ∀ q ∈ zT43, zCode 43 q.1 = some q.2 := zAll (mid := 43) rfl (by decide +kernel)
theorem cAK_init_0 : ∀ q ∈ zT43_0, zCode 43 q.1 = some q.2 := fun q h => cAK_init q (List.mem_append_left _ h)
theorem cAK_init_1 : ∀ q ∈ zT43_1, zCode 43 q.1 = some q.2 := fun q h => cAK_init q (List.mem_append_right _ h)
theorem cK_init_0 : zCode 43 0 = some (.aload_n 0, 1, 0, 0, 0, 0, 1) := cAK_init_0 _ (List.mem_of_getElem? (i := 0) rfl)
theorem cK_init_1 : zCode 43 1 = some (.invokespecial 1, 4, 0, 78, 0, 428, 1) := cAK_init_0 _ (List.mem_of_getElem? (i := 1) rfl)
theorem cK_init_4 : zCode 43 4 = some (.aload_n 0, 5, 0, 0, 0, 0, 1) := cAK_init_0 _ (List.mem_of_getElem? (i := 2) rfl)
theorem cK_init_5 : zCode 43 5 = some (.iconst 0, 6, 0, 0, 0, 0, 1) := cAK_init_0 _ (List.mem_of_getElem? (i := 3) rfl)
theorem cK_init_6 : zCode 43 6 = some (.putfield 7, 9, 4, 0, 0, 429, 1) := cAK_init_0 _ (List.mem_of_getElem? (i := 4) rfl)
theorem cK_init_9 : zCode 43 9 = some (.aload_n 0, 10, 0, 0, 0, 0, 1) := cAK_init_0 _ (List.mem_of_getElem? (i := 5) rfl)
theorem cK_init_10 : zCode 43 10 = some (.iconst 0, 11, 0, 0, 0, 0, 1) := cAK_init_0 _ (List.mem_of_getElem? (i := 6) rfl)
theorem cK_init_11 : zCode 43 11 = some (.putfield 13, 14, 4, 1, 0, 431, 1) := cAK_init_0 _ (List.mem_of_getElem? (i := 7) rfl)
theorem cK_init_14 : zCode 43 14 = some (.aload_n 0, 15, 0, 0, 0, 0, 1) := cAK_init_0 _ (List.mem_of_getElem? (i := 8) rfl)
theorem cK_init_15 : zCode 43 15 = some (.iconst 0, 16, 0, 0, 0, 0, 1) := cAK_init_0 _ (List.mem_of_getElem? (i := 9) rfl)
theorem cK_init_16 : zCode 43 16 = some (.putfield 16, 19, 4, 2, 0, 433, 1) := cAK_init_0 _ (List.mem_of_getElem? (i := 10) rfl)
theorem cK_init_19 : zCode 43 19 = some (.aload_n 0, 20, 0, 0, 0, 0, 1) := cAK_init_0 _ (List.mem_of_getElem? (i := 11) rfl)
theorem cK_init_20 : zCode 43 20 = some (.iconst 0, 21, 0, 0, 0, 0, 1) := cAK_init_0 _ (List.mem_of_getElem? (i := 12) rfl)
theorem cK_init_21 : zCode 43 21 = some (.putfield 19, 24, 4, 3, 0, 435, 1) := cAK_init_0 _ (List.mem_of_getElem? (i := 13) rfl)
theorem cK_init_24 : zCode 43 24 = some (.aload_n 0, 25, 0, 0, 0, 0, 1) := cAK_init_0 _ (List.mem_of_getElem? (i := 14) rfl)
theorem cK_init_25 : zCode 43 25 = some (.iconst 0, 26, 0, 0, 0, 0, 1) := cAK_init_0 _ (List.mem_of_getElem? (i := 15) rfl)
theorem cK_init_26 : zCode 43 26 = some (.putfield 22, 29, 4, 4, 0, 437, 1) := cAK_init_1 _ (List.mem_of_getElem? (i := 0) rfl)
theorem cK_init_29 : zCode 43 29 = some (.aload_n 0, 30, 0, 0, 0, 0, 1) := cAK_init_1 _ (List.mem_of_getElem? (i := 1) rfl)
theorem cK_init_30 : zCode 43 30 = some (.iconst 0, 31, 0, 0, 0, 0, 1) := cAK_init_1 _ (List.mem_of_getElem? (i := 2) rfl)
theorem cK_init_31 : zCode 43 31 = some (.putfield 25, 34, 4, 5, 0, 439, 1) := cAK_init_1 _ (List.mem_of_getElem? (i := 3) rfl)
theorem cK_init_34 : zCode 43 34 = some (.aload_n 0, 35, 0, 0, 0, 0, 1) := cAK_init_1 _ (List.mem_of_getElem? (i := 4) rfl)
theorem cK_init_35 : zCode 43 35 = some (.iconst 0, 36, 0, 0, 0, 0, 1) := cAK_init_1 _ (List.mem_of_getElem? (i := 5) rfl)
theorem cK_init_36 : zCode 43 36 = some (.putfield 28, 39, 4, 6, 0, 440, 1) := cAK_init_1 _ (List.mem_of_getElem? (i := 6) rfl)
theorem cK_init_39 : zCode 43 39 = some (.aload_n 0, 40, 0, 0, 0, 0, 1) := cAK_init_1 _ (List.mem_of_getElem? (i := 7) rfl)
theorem cK_init_40 : zCode 43 40 = some (.iconst 0, 41, 0, 0, 0, 0, 1) := cAK_init_1 _ (List.mem_of_getElem? (i := 8) rfl)
theorem cK_init_41 : zCode 43 41 = some (.putfield 31, 44, 4, 7, 0, 441, 1) := cAK_init_1 _ (List.mem_of_getElem? (i := 9) rfl)
theorem cK_init_44 : zCode 43 44 = some (.aload_n 0, 45, 0, 0, 0, 0, 1) := cAK_init_1 _ (List.mem_of_getElem? (i := 10) rfl)
theorem cK_init_45 : zCode 43 45 = some (.iconst 0, 46, 0, 0, 0, 0, 0) := cAK_init_1 _ (List.mem_of_getElem? (i := 11) rfl)
theorem cK_init_46 : zCode 43 46 = some (.putfield 34, 49, 4, 8, 0, 442, 0) := cAK_init_1 _ (List.mem_of_getElem? (i := 12) rfl)
theorem cK_init_49 : zCode 43 49 = some (.return_, 50, 0, 0, 0, 0, 0) := cAK_init_1 _ (List.mem_of_getElem? (i := 13) rfl)
theorem rK_init_0 {a0 : Nat} : zS 43 0 [zR a0] [] sh pp mm Q ↔ zS 43 1 [zR a0] [zR a0] sh pp mm Q := s_go cK_init_0 cK_init_1 rfl rfl
theorem rK_init_1 {a0 s0 : Nat} (hr : s0 ≠ 0) (hl : s0 < sh.length) : zS 43 1 [zR a0] [zR s0] sh pp mm Q ↔ zS 43 4 [zR a0] [] sh pp mm Q := s_go cK_init_1 cK_init_4 (if_pos ⟨hr, hl, by decide⟩) rfl
theorem rK_init_4 {a0 : Nat} : zS 43 4 [zR a0] [] sh pp mm Q ↔ zS 43 5 [zR a0] [zR a0] sh pp mm Q := s_go cK_init_4 cK_init_5 rfl rfl
theorem rK_init_5 {a0 s0 : Nat} : zS 43 5 [zR a0] [zR s0] sh pp mm Q ↔ zS 43 6 [zR a0] [zI 0, zR s0] sh pp mm Q := s_go cK_init_5 cK_init_6 rfl rfl
theorem rK_init_6 {a0 s1 : Nat} {s0 : Int} (hk : zKd sh s1 = 4) : zS 43 6 [zR a0] [zI s0, zR s1] sh pp mm Q ↔ zS 43 9 [zR a0] [] sh pp (zupd mm s1 0 s0) Q := s_go cK_init_6 cK_init_9 (if_pos ⟨hk, Or.inl rfl⟩) rfl
theorem rK_init_9 {a0 : Nat} : zS 43 9 [zR a0] [] sh pp mm Q ↔ zS 43 10 [zR a0] [zR a0] sh pp mm Q := s_go cK_init_9 cK_init_10 rfl rfl
theorem rK_init_10 {a0 s0 : Nat} : zS 43 10 [zR a0] [zR s0] sh pp mm Q ↔ zS 43 11 [zR a0] [zI 0, zR s0] sh pp mm Q := s_go cK_init_10 cK_init_11 rfl rfl
theorem rK_init_11 {a0 s1 : Nat} {s0 : Int} (hk : zKd sh s1 = 4) : zS 43 11 [zR a0] [zI s0, zR s1] sh pp mm Q ↔ zS 43 14 [zR a0] [] sh pp (zupd mm s1 1 s0) Q := s_go cK_init_11 cK_init_14 (if_pos ⟨hk, Or.inl rfl⟩) rfl
theorem rK_init_14 {a0 : Nat} : zS 43 14 [zR a0] [] sh pp mm Q ↔ zS 43 15 [zR a0] [zR a0] sh pp mm Q := s_go cK_init_14 cK_init_15 rfl rfl
theorem rK_init_15 {a0 s0 : Nat} : zS 43 15 [zR a0] [zR s0] sh pp mm Q ↔ zS 43 16 [zR a0] [zI 0, zR s0] sh pp mm Q := s_go cK_init_15 cK_init_16 rfl rfl
theorem rK_init_16 {a0 s1 : Nat} {s0 : Int} (hk : zKd sh s1 = 4) : zS 43 16 [zR a0] [zI s0, zR s1] sh pp mm Q ↔ zS 43 19 [zR a0] [] sh pp (zupd mm s1 2 s0) Q := s_go cK_init_16 cK_init_19 (if_pos ⟨hk, Or.inl rfl⟩) rfl
theorem rK_init_19 {a0 : Nat} : zS 43 19 [zR a0] [] sh pp mm Q ↔ zS 43 20 [zR a0] [zR a0] sh pp mm Q := s_go cK_init_19 cK_init_20 rfl rfl
theorem rK_init_20 {a0 s0 : Nat} : zS 43 20 [zR a0] [zR s0] sh pp mm Q ↔ zS 43 21 [zR a0] [zI 0, zR s0] sh pp mm Q := s_go cK_init_20 cK_init_21 rfl rfl
theorem rK_init_21 {a0 s1 : Nat} {s0 : Int} (hk : zKd sh s1 = 4) : zS 43 21 [zR a0] [zI s0, zR s1] sh pp mm Q ↔ zS 43 24 [zR a0] [] sh pp (zupd mm s1 3 s0) Q := s_go cK_init_21 cK_init_24 (if_pos ⟨hk, Or.inl rfl⟩) rfl
theorem rK_init_24 {a0 : Nat} : zS 43 24 [zR a0] [] sh pp mm Q ↔ zS 43 25 [zR a0] [zR a0] sh pp mm Q := s_go cK_init_24 cK_init_25 rfl rfl
theorem rK_init_25 {a0 s0 : Nat} : zS 43 25 [zR a0] [zR s0] sh pp mm Q ↔ zS 43 26 [zR a0] [zI 0, zR s0] sh pp mm Q := s_go cK_init_25 cK_init_26 rfl rfl
theorem rK_init_26 {a0 s1 : Nat} {s0 : Int} (hk : zKd sh s1 = 4) : zS 43 26 [zR a0] [zI s0, zR s1] sh pp mm Q ↔ zS 43 29 [zR a0] [] sh pp (zupd mm s1 4 s0) Q := s_go cK_init_26 cK_init_29 (if_pos ⟨hk, Or.inl rfl⟩) rfl
theorem rK_init_29 {a0 : Nat} : zS 43 29 [zR a0] [] sh pp mm Q ↔ zS 43 30 [zR a0] [zR a0] sh pp mm Q := s_go cK_init_29 cK_init_30 rfl rfl
theorem rK_init_30 {a0 s0 : Nat} : zS 43 30 [zR a0] [zR s0] sh pp mm Q ↔ zS 43 31 [zR a0] [zI 0, zR s0] sh pp mm Q := s_go cK_init_30 cK_init_31 rfl rfl
theorem rK_init_31 {a0 s1 : Nat} {s0 : Int} (hk : zKd sh s1 = 4) : zS 43 31 [zR a0] [zI s0, zR s1] sh pp mm Q ↔ zS 43 34 [zR a0] [] sh pp (zupd mm s1 5 s0) Q := s_go cK_init_31 cK_init_34 (if_pos ⟨hk, Or.inl rfl⟩) rfl
theorem rK_init_34 {a0 : Nat} : zS 43 34 [zR a0] [] sh pp mm Q ↔ zS 43 35 [zR a0] [zR a0] sh pp mm Q := s_go cK_init_34 cK_init_35 rfl rfl
theorem rK_init_35 {a0 s0 : Nat} : zS 43 35 [zR a0] [zR s0] sh pp mm Q ↔ zS 43 36 [zR a0] [zI 0, zR s0] sh pp mm Q := s_go cK_init_35 cK_init_36 rfl rfl
theorem rK_init_36 {a0 s1 : Nat} {s0 : Int} (hk : zKd sh s1 = 4) : zS 43 36 [zR a0] [zI s0, zR s1] sh pp mm Q ↔ zS 43 39 [zR a0] [] sh pp (zupd mm s1 6 s0) Q := s_go cK_init_36 cK_init_39 (if_pos ⟨hk, Or.inl rfl⟩) rfl
theorem rK_init_39 {a0 : Nat} : zS 43 39 [zR a0] [] sh pp mm Q ↔ zS 43 40 [zR a0] [zR a0] sh pp mm Q := s_go cK_init_39 cK_init_40 rfl rfl
theorem rK_init_40 {a0 s0 : Nat} : zS 43 40 [zR a0] [zR s0] sh pp mm Q ↔ zS 43 41 [zR a0] [zI 0, zR s0] sh pp mm Q := s_go cK_init_40 cK_init_41 rfl rfl
theorem rK_init_41 {a0 s1 : Nat} {s0 : Int} (hk : zKd sh s1 = 4) : zS 43 41 [zR a0] [zI s0, zR s1] sh pp mm Q ↔ zS 43 44 [zR a0] [] sh pp (zupd mm s1 7 s0) Q := s_go cK_init_41 cK_init_44 (if_pos ⟨hk, Or.inl rfl⟩) rfl
theorem rK_init_44 {a0 : Nat} : zS 43 44 [zR a0] [] sh pp mm Q ↔ zS 43 45 [zU] [zR a0] sh pp mm Q := s_go cK_init_44 cK_init_45 rfl rfl
theorem rK_init_45 {s0 : Nat} {u0 : zV} : zS 43 45 [u0] [zR s0] sh pp mm Q ↔ zS 43 46 [zU] [zI 0, zR s0] sh pp mm Q := s_go cK_init_45 cK_init_46 rfl rfl
theorem rK_init_46 {s1 : Nat} {s0 : Int} {u0 : zV} (hk : zKd sh s1 = 4) : zS 43 46 [u0] [zI s0, zR s1] sh pp mm Q ↔ zS 43 49 [zU] [] sh pp (zupd mm s1 8 s0) Q := s_go cK_init_46 cK_init_49 (if_pos ⟨hk, Or.inl rfl⟩) rfl
theorem rK_init_49 {u0 : zV} : zS 43 49 [u0] [] sh pp mm Q ↔ Q zU sh pp mm := s_ret cK_init_49 rfl
theorem cAK_begin : ∀ q ∈ zT44, zCode 44 q.1 = some q.2 := zAll (mid := 44) rfl (by decide +kernel)
theorem cAK_begin_0 : ∀ q ∈ zT44_0, zCode 44 q.1 = some q.2 := fun q h => cAK_begin q (List.mem_append_left _ h)
theorem cAK_begin_1 : ∀ q ∈ zT44_1, zCode 44 q.1 = some q.2 := fun q h => cAK_begin q (List.mem_append_right _ h)
theorem cK_begin_0 : zCode 44 0 = some (.aload_n 0, 1, 0, 0, 0, 0, 15) := cAK_begin_0 _ (List.mem_of_getElem? (i := 0) rfl)
theorem cK_begin_1 : zCode 44 1 = some (.iload_n 1, 2, 0, 0, 0, 0, 15) := cAK_begin_0 _ (List.mem_of_getElem? (i := 1) rfl)
theorem cK_begin_2 : zCode 44 2 = some (.putfield 7, 5, 4, 0, 0, 429, 13) := cAK_begin_0 _ (List.mem_of_getElem? (i := 2) rfl)
theorem cK_begin_5 : zCode 44 5 = some (.aload_n 0, 6, 0, 0, 0, 0, 13) := cAK_begin_0 _ (List.mem_of_getElem? (i := 3) rfl)
theorem cK_begin_6 : zCode 44 6 = some (.iload_n 2, 7, 0, 0, 0, 0, 13) := cAK_begin_0 _ (List.mem_of_getElem? (i := 4) rfl)
theorem cK_begin_7 : zCode 44 7 = some (.putfield 25, 10, 4, 5, 0, 439, 9) := cAK_begin_0 _ (List.mem_of_getElem? (i := 5) rfl)
theorem cK_begin_10 : zCode 44 10 = some (.aload_n 0, 11, 0, 0, 0, 0, 9) := cAK_begin_0 _ (List.mem_of_getElem? (i := 6) rfl)
theorem cK_begin_11 : zCode 44 11 = some (.iload_n 3, 12, 0, 0, 0, 0, 9) := cAK_begin_0 _ (List.mem_of_getElem? (i := 7) rfl)
theorem cK_begin_12 : zCode 44 12 = some (.putfield 31, 15, 4, 7, 0, 441, 1) := cAK_begin_0 _ (List.mem_of_getElem? (i := 8) rfl)
theorem cK_begin_15 : zCode 44 15 = some (.aload_n 0, 16, 0, 0, 0, 0, 1) := cAK_begin_0 _ (List.mem_of_getElem? (i := 9) rfl)
theorem cK_begin_16 : zCode 44 16 = some (.iconst 0, 17, 0, 0, 0, 0, 1) := cAK_begin_0 _ (List.mem_of_getElem? (i := 10) rfl)
theorem cK_begin_17 : zCode 44 17 = some (.putfield 28, 20, 4, 6, 0, 440, 1) := cAK_begin_0 _ (List.mem_of_getElem? (i := 11) rfl)
theorem cK_begin_20 : zCode 44 20 = some (.aload_n 0, 21, 0, 0, 0, 0, 1) := cAK_begin_0 _ (List.mem_of_getElem? (i := 12) rfl)
theorem cK_begin_21 : zCode 44 21 = some (.iconst 0, 22, 0, 0, 0, 0, 1) := cAK_begin_0 _ (List.mem_of_getElem? (i := 13) rfl)
theorem cK_begin_22 : zCode 44 22 = some (.putfield 34, 25, 4, 8, 0, 442, 1) := cAK_begin_0 _ (List.mem_of_getElem? (i := 14) rfl)
theorem cK_begin_25 : zCode 44 25 = some (.aload_n 0, 26, 0, 0, 0, 0, 1) := cAK_begin_0 _ (List.mem_of_getElem? (i := 15) rfl)
theorem cK_begin_26 : zCode 44 26 = some (.iconst 0, 27, 0, 0, 0, 0, 1) := cAK_begin_1 _ (List.mem_of_getElem? (i := 0) rfl)
theorem cK_begin_27 : zCode 44 27 = some (.putfield 13, 30, 4, 1, 0, 431, 1) := cAK_begin_1 _ (List.mem_of_getElem? (i := 1) rfl)
theorem cK_begin_30 : zCode 44 30 = some (.aload_n 0, 31, 0, 0, 0, 0, 1) := cAK_begin_1 _ (List.mem_of_getElem? (i := 2) rfl)
theorem cK_begin_31 : zCode 44 31 = some (.iconst 0, 32, 0, 0, 0, 0, 1) := cAK_begin_1 _ (List.mem_of_getElem? (i := 3) rfl)
theorem cK_begin_32 : zCode 44 32 = some (.putfield 16, 35, 4, 2, 0, 433, 1) := cAK_begin_1 _ (List.mem_of_getElem? (i := 4) rfl)
theorem cK_begin_35 : zCode 44 35 = some (.aload_n 0, 36, 0, 0, 0, 0, 1) := cAK_begin_1 _ (List.mem_of_getElem? (i := 5) rfl)
theorem cK_begin_36 : zCode 44 36 = some (.iconst 0, 37, 0, 0, 0, 0, 1) := cAK_begin_1 _ (List.mem_of_getElem? (i := 6) rfl)
theorem cK_begin_37 : zCode 44 37 = some (.putfield 19, 40, 4, 3, 0, 435, 1) := cAK_begin_1 _ (List.mem_of_getElem? (i := 7) rfl)
theorem cK_begin_40 : zCode 44 40 = some (.aload_n 0, 41, 0, 0, 0, 0, 1) := cAK_begin_1 _ (List.mem_of_getElem? (i := 8) rfl)
theorem cK_begin_41 : zCode 44 41 = some (.iconst 0, 42, 0, 0, 0, 0, 0) := cAK_begin_1 _ (List.mem_of_getElem? (i := 9) rfl)
theorem cK_begin_42 : zCode 44 42 = some (.putfield 22, 45, 4, 4, 0, 437, 0) := cAK_begin_1 _ (List.mem_of_getElem? (i := 10) rfl)
theorem cK_begin_45 : zCode 44 45 = some (.return_, 46, 0, 0, 0, 0, 0) := cAK_begin_1 _ (List.mem_of_getElem? (i := 11) rfl)
theorem rK_begin_0 {a0 : Nat} {a1 a2 a3 : Int} : zS 44 0 [zR a0, zI a1, zI a2, zI a3] [] sh pp mm Q ↔ zS 44 1 [zR a0, zI a1, zI a2, zI a3] [zR a0] sh pp mm Q := s_go cK_begin_0 cK_begin_1 rfl rfl
theorem rK_begin_1 {a0 s0 : Nat} {a1 a2 a3 : Int} : zS 44 1 [zR a0, zI a1, zI a2, zI a3] [zR s0] sh pp mm Q ↔ zS 44 2 [zR a0, zU, zI a2, zI a3] [zI a1, zR s0] sh pp mm Q := s_go cK_begin_1 cK_begin_2 rfl rfl
theorem rK_begin_2 {a0 s1 : Nat} {a2 a3 s0 : Int} {u1 : zV} (hk : zKd sh s1 = 4) : zS 44 2 [zR a0, u1, zI a2, zI a3] [zI s0, zR s1] sh pp mm Q ↔ zS 44 5 [zR a0, zU, zI a2, zI a3] [] sh pp (zupd mm s1 0 s0) Q := s_go cK_begin_2 cK_begin_5 (if_pos ⟨hk, Or.inl rfl⟩) rfl
theorem rK_begin_5 {a0 : Nat} {a2 a3 : Int} {u1 : zV} : zS 44 5 [zR a0, u1, zI a2, zI a3] [] sh pp mm Q ↔ zS 44 6 [zR a0, zU, zI a2, zI a3] [zR a0] sh pp mm Q := s_go cK_begin_5 cK_begin_6 rfl rfl
theorem rK_begin_6 {a0 s0 : Nat} {a2 a3 : Int} {u1 : zV} : zS 44 6 [zR a0, u1, zI a2, zI a3] [zR s0] sh pp mm Q ↔ zS 44 7 [zR a0, zU, zU, zI a3] [zI a2, zR s0] sh pp mm Q := s_go cK_begin_6 cK_begin_7 rfl rfl
theorem rK_begin_7 {a0 s1 : Nat} {a3 s0 : Int} {u1 u2 : zV} (hk : zKd sh s1 = 4) : zS 44 7 [zR a0, u1, u2, zI a3] [zI s0, zR s1] sh pp mm Q ↔ zS 44 10 [zR a0, zU, zU, zI a3] [] sh pp (zupd mm s1 5 s0) Q := s_go cK_begin_7 cK_begin_10 (if_pos ⟨hk, Or.inl rfl⟩) rfl
theorem rK_begin_10 {a0 : Nat} {a3 : Int} {u1 u2 : zV} : zS 44 10 [zR a0, u1, u2, zI a3] [] sh pp mm Q ↔ zS 44 11 [zR a0, zU, zU, zI a3] [zR a0] sh pp mm Q := s_go cK_begin_10 cK_begin_11 rfl rfl
theorem rK_begin_11 {a0 s0 : Nat} {a3 : Int} {u1 u2 : zV} : zS 44 11 [zR a0, u1, u2, zI a3] [zR s0] sh pp mm Q ↔ zS 44 12 [zR a0, zU, zU, zU] [zI a3, zR s0] sh pp mm Q := s_go cK_begin_11 cK_begin_12 rfl rfl
theorem rK_begin_12 {a0 s1 : Nat} {s0 : Int} {u1 u2 u3 : zV} (hk : zKd sh s1 = 4) : zS 44 12 [zR a0, u1, u2, u3] [zI s0, zR s1] sh pp mm Q ↔ zS 44 15 [zR a0, zU, zU, zU] [] sh pp (zupd mm s1 7 s0) Q := s_go cK_begin_12 cK_begin_15 (if_pos ⟨hk, Or.inl rfl⟩) rfl
theorem rK_begin_15 {a0 : Nat} {u1 u2 u3 : zV} : zS 44 15 [zR a0, u1, u2, u3] [] sh pp mm Q ↔ zS 44 16 [zR a0, zU, zU, zU] [zR a0] sh pp mm Q := s_go cK_begin_15 cK_begin_16 rfl rfl
theorem rK_begin_16 {a0 s0 : Nat} {u1 u2 u3 : zV} : zS 44 16 [zR a0, u1, u2, u3] [zR s0] sh pp mm Q ↔ zS 44 17 [zR a0, zU, zU, zU] [zI 0, zR s0] sh pp mm Q := s_go cK_begin_16 cK_begin_17 rfl rfl
theorem rK_begin_17 {a0 s1 : Nat} {s0 : Int} {u1 u2 u3 : zV} (hk : zKd sh s1 = 4) : zS 44 17 [zR a0, u1, u2, u3] [zI s0, zR s1] sh pp mm Q ↔ zS 44 20 [zR a0, zU, zU, zU] [] sh pp (zupd mm s1 6 s0) Q := s_go cK_begin_17 cK_begin_20 (if_pos ⟨hk, Or.inl rfl⟩) rfl
theorem rK_begin_20 {a0 : Nat} {u1 u2 u3 : zV} : zS 44 20 [zR a0, u1, u2, u3] [] sh pp mm Q ↔ zS 44 21 [zR a0, zU, zU, zU] [zR a0] sh pp mm Q := s_go cK_begin_20 cK_begin_21 rfl rfl
theorem rK_begin_21 {a0 s0 : Nat} {u1 u2 u3 : zV} : zS 44 21 [zR a0, u1, u2, u3] [zR s0] sh pp mm Q ↔ zS 44 22 [zR a0, zU, zU, zU] [zI 0, zR s0] sh pp mm Q := s_go cK_begin_21 cK_begin_22 rfl rfl
theorem rK_begin_22 {a0 s1 : Nat} {s0 : Int} {u1 u2 u3 : zV} (hk : zKd sh s1 = 4) : zS 44 22 [zR a0, u1, u2, u3] [zI s0, zR s1] sh pp mm Q ↔ zS 44 25 [zR a0, zU, zU, zU] [] sh pp (zupd mm s1 8 s0) Q := s_go cK_begin_22 cK_begin_25 (if_pos ⟨hk, Or.inl rfl⟩) rfl
theorem rK_begin_25 {a0 : Nat} {u1 u2 u3 : zV} : zS 44 25 [zR a0, u1, u2, u3] [] sh pp mm Q ↔ zS 44 26 [zR a0, zU, zU, zU] [zR a0] sh pp mm Q := s_go cK_begin_25 cK_begin_26 rfl rfl
theorem rK_begin_26 {a0 s0 : Nat} {u1 u2 u3 : zV} : zS 44 26 [zR a0, u1, u2, u3] [zR s0] sh pp mm Q ↔ zS 44 27 [zR a0, zU, zU, zU] [zI 0, zR s0] sh pp mm Q := s_go cK_begin_26 cK_begin_27 rfl rfl
theorem rK_begin_27 {a0 s1 : Nat} {s0 : Int} {u1 u2 u3 : zV} (hk : zKd sh s1 = 4) : zS 44 27 [zR a0, u1, u2, u3] [zI s0, zR s1] sh pp mm Q ↔ zS 44 30 [zR a0, zU, zU, zU] [] sh pp (zupd mm s1 1 s0) Q := s_go cK_begin_27 cK_begin_30 (if_pos ⟨hk, Or.inl rfl⟩) rfl
theorem rK_begin_30 {a0 : Nat} {u1 u2 u3 : zV} : zS 44 30 [zR a0, u1, u2, u3] [] sh pp mm Q ↔ zS 44 31 [zR a0, zU, zU, zU] [zR a0] sh pp mm Q := s_go cK_begin_30 cK_begin_31 rfl rfl
theorem rK_begin_31 {a0 s0 : Nat} {u1 u2 u3 : zV} : zS 44 31 [zR a0, u1, u2, u3] [zR s0] sh pp mm Q ↔ zS 44 32 [zR a0, zU, zU, zU] [zI 0, zR s0] sh pp mm Q := s_go cK_begin_31 cK_begin_32 rfl rfl
theorem rK_begin_32 {a0 s1 : Nat} {s0 : Int} {u1 u2 u3 : zV} (hk : zKd sh s1 = 4) : zS 44 32 [zR a0, u1, u2, u3] [zI s0, zR s1] sh pp mm Q ↔ zS 44 35 [zR a0, zU, zU, zU] [] sh pp (zupd mm s1 2 s0) Q := s_go cK_begin_32 cK_begin_35 (if_pos ⟨hk, Or.inl rfl⟩) rfl
theorem rK_begin_35 {a0 : Nat} {u1 u2 u3 : zV} : zS 44 35 [zR a0, u1, u2, u3] [] sh pp mm Q ↔ zS 44 36 [zR a0, zU, zU, zU] [zR a0] sh pp mm Q := s_go cK_begin_35 cK_begin_36 rfl rfl
theorem rK_begin_36 {a0 s0 : Nat} {u1 u2 u3 : zV} : zS 44 36 [zR a0, u1, u2, u3] [zR s0] sh pp mm Q ↔ zS 44 37 [zR a0, zU, zU, zU] [zI 0, zR s0] sh pp mm Q := s_go cK_begin_36 cK_begin_37 rfl rfl
theorem rK_begin_37 {a0 s1 : Nat} {s0 : Int} {u1 u2 u3 : zV} (hk : zKd sh s1 = 4) : zS 44 37 [zR a0, u1, u2, u3] [zI s0, zR s1] sh pp mm Q ↔ zS 44 40 [zR a0, zU, zU, zU] [] sh pp (zupd mm s1 3 s0) Q := s_go cK_begin_37 cK_begin_40 (if_pos ⟨hk, Or.inl rfl⟩) rfl
theorem rK_begin_40 {a0 : Nat} {u1 u2 u3 : zV} : zS 44 40 [zR a0, u1, u2, u3] [] sh pp mm Q ↔ zS 44 41 [zU, zU, zU, zU] [zR a0] sh pp mm Q := s_go cK_begin_40 cK_begin_41 rfl rfl
theorem rK_begin_41 {s0 : Nat} {u0 u1 u2 u3 : zV} : zS 44 41 [u0, u1, u2, u3] [zR s0] sh pp mm Q ↔ zS 44 42 [zU, zU, zU, zU] [zI 0, zR s0] sh pp mm Q := s_go cK_begin_41 cK_begin_42 rfl rfl
theorem rK_begin_42 {s1 : Nat} {s0 : Int} {u0 u1 u2 u3 : zV} (hk : zKd sh s1 = 4) : zS 44 42 [u0, u1, u2, u3] [zI s0, zR s1] sh pp mm Q ↔ zS 44 45 [zU, zU, zU, zU] [] sh pp (zupd mm s1 4 s0) Q := s_go cK_begin_42 cK_begin_45 (if_pos ⟨hk, Or.inl rfl⟩) rfl
theorem rK_begin_45 {u0 u1 u2 u3 : zV} : zS 44 45 [u0, u1, u2, u3] [] sh pp mm Q ↔ Q zU sh pp mm := s_ret cK_begin_45 rfl
theorem cAK_click : ∀ q ∈ zT45, zCode 45 q.1 = some q.2 := zAll (mid := 45) rfl (by decide +kernel)
theorem cAK_click_0 : ∀ q ∈ zT45_0, zCode 45 q.1 = some q.2 := fun q h => cAK_click q (List.mem_append_left _ h)
theorem cAK_click_1 : ∀ q ∈ zT45_1, zCode 45 q.1 = some q.2 := fun q h => cAK_click q (List.mem_append_right _ (List.mem_append_left _ h))
theorem cAK_click_2 : ∀ q ∈ zT45_2, zCode 45 q.1 = some q.2 := fun q h => cAK_click q (List.mem_append_right _ (List.mem_append_right _ (List.mem_append_left _ h)))
theorem cAK_click_3 : ∀ q ∈ zT45_3, zCode 45 q.1 = some q.2 := fun q h => cAK_click q (List.mem_append_right _ (List.mem_append_right _ (List.mem_append_right _ (List.mem_append_left _ h))))
theorem cAK_click_4 : ∀ q ∈ zT45_4, zCode 45 q.1 = some q.2 := fun q h => cAK_click q (List.mem_append_right _ (List.mem_append_right _ (List.mem_append_right _ (List.mem_append_right _ h))))
theorem cK_click_0 : zCode 45 0 = some (.aload_n 0, 1, 0, 0, 0, 0, 3) := cAK_click_0 _ (List.mem_of_getElem? (i := 0) rfl)
theorem cK_click_1 : zCode 45 1 = some (.dup, 2, 0, 0, 0, 0, 3) := cAK_click_0 _ (List.mem_of_getElem? (i := 1) rfl)
theorem cK_click_2 : zCode 45 2 = some (.getfield 13, 5, 4, 1, 0, 431, 3) := cAK_click_0 _ (List.mem_of_getElem? (i := 2) rfl)
theorem cK_click_5 : zCode 45 5 = some (.iconst 1, 6, 0, 0, 0, 0, 3) := cAK_click_0 _ (List.mem_of_getElem? (i := 3) rfl)
theorem cK_click_6 : zCode 45 6 = some (.iadd, 7, 0, 0, 0, 0, 3) := cAK_click_0 _ (List.mem_of_getElem? (i := 4) rfl)
theorem cK_click_7 : zCode 45 7 = some (.putfield 13, 10, 4, 1, 0, 431, 3) := cAK_click_0 _ (List.mem_of_getElem? (i := 5) rfl)
theorem cK_click_10 : zCode 45 10 = some (.aload_n 0, 11, 0, 0, 0, 0, 3) := cAK_click_0 _ (List.mem_of_getElem? (i := 6) rfl)
theorem cK_click_11 : zCode 45 11 = some (.getfield 34, 14, 4, 8, 0, 442, 3) := cAK_click_0 _ (List.mem_of_getElem? (i := 7) rfl)
theorem cK_click_14 : zCode 45 14 = some (.iload_n 1, 15, 0, 0, 0, 0, 3) := cAK_click_0 _ (List.mem_of_getElem? (i := 8) rfl)
theorem cK_click_15 : zCode 45 15 = some (.ineg, 16, 0, 0, 0, 0, 3) := cAK_click_0 _ (List.mem_of_getElem? (i := 9) rfl)
theorem cK_click_16 : zCode 45 16 = some (.if_icmp .ne 13, 19, 29, 0, 0, 0, 3) := cAK_click_0 _ (List.mem_of_getElem? (i := 10) rfl)
theorem cK_click_19 : zCode 45 19 = some (.aload_n 0, 20, 0, 0, 0, 0, 3) := cAK_click_0 _ (List.mem_of_getElem? (i := 11) rfl)
theorem cK_click_20 : zCode 45 20 = some (.dup, 21, 0, 0, 0, 0, 3) := cAK_click_0 _ (List.mem_of_getElem? (i := 12) rfl)
theorem cK_click_21 : zCode 45 21 = some (.getfield 22, 24, 4, 4, 0, 437, 3) := cAK_click_0 _ (List.mem_of_getElem? (i := 13) rfl)
theorem cK_click_24 : zCode 45 24 = some (.iconst 1, 25, 0, 0, 0, 0, 3) := cAK_click_0 _ (List.mem_of_getElem? (i := 14) rfl)
theorem cK_click_25 : zCode 45 25 = some (.iadd, 26, 0, 0, 0, 0, 3) := cAK_click_0 _ (List.mem_of_getElem? (i := 15) rfl)
theorem cK_click_26 : zCode 45 26 = some (.putfield 22, 29, 4, 4, 0, 437, 3) := cAK_click_1 _ (List.mem_of_getElem? (i := 0) rfl)
theorem cK_click_29 : zCode 45 29 = some (.aload_n 0, 30, 0, 0, 0, 0, 3) := cAK_click_1 _ (List.mem_of_getElem? (i := 1) rfl)
theorem cK_click_30 : zCode 45 30 = some (.iload_n 1, 31, 0, 0, 0, 0, 3) := cAK_click_1 _ (List.mem_of_getElem? (i := 2) rfl)
theorem cK_click_31 : zCode 45 31 = some (.putfield 34, 34, 4, 8, 0, 442, 3) := cAK_click_1 _ (List.mem_of_getElem? (i := 3) rfl)
theorem cK_click_34 : zCode 45 34 = some (.iload_n 1, 35, 0, 0, 0, 0, 3) := cAK_click_1 _ (List.mem_of_getElem? (i := 4) rfl)
theorem cK_click_35 : zCode 45 35 = some (.ifCond .le 22, 38, 57, 0, 0, 0, 3) := cAK_click_1 _ (List.mem_of_getElem? (i := 5) rfl)
theorem cK_click_38 : zCode 45 38 = some (.aload_n 0, 39, 0, 0, 0, 0, 3) := cAK_click_1 _ (List.mem_of_getElem? (i := 6) rfl)
theorem cK_click_39 : zCode 45 39 = some (.getfield 28, 42, 4, 6, 0, 440, 3) := cAK_click_1 _ (List.mem_of_getElem? (i := 7) rfl)
theorem cK_click_42 : zCode 45 42 = some (.aload_n 0, 43, 0, 0, 0, 0, 3) := cAK_click_1 _ (List.mem_of_getElem? (i := 8) rfl)
theorem cK_click_43 : zCode 45 43 = some (.getfield 25, 46, 4, 5, 0, 439, 3) := cAK_click_1 _ (List.mem_of_getElem? (i := 9) rfl)
theorem cK_click_46 : zCode 45 46 = some (.if_icmp .ge 7, 49, 53, 0, 0, 0, 3) := cAK_click_1 _ (List.mem_of_getElem? (i := 10) rfl)
theorem cK_click_49 : zCode 45 49 = some (.iconst 1, 50, 0, 0, 0, 0, 3) := cAK_click_1 _ (List.mem_of_getElem? (i := 11) rfl)
theorem cK_click_50 : zCode 45 50 = some (.goto 19, 53, 69, 0, 0, 0, 3) := cAK_click_1 _ (List.mem_of_getElem? (i := 12) rfl)
theorem cK_click_53 : zCode 45 53 = some (.iconst 0, 54, 0, 0, 0, 0, 3) := cAK_click_1 _ (List.mem_of_getElem? (i := 13) rfl)
theorem cK_click_54 : zCode 45 54 = some (.goto 15, 57, 69, 0, 0, 0, 3) := cAK_click_1 _ (List.mem_of_getElem? (i := 14) rfl)
theorem cK_click_57 : zCode 45 57 = some (.aload_n 0, 58, 0, 0, 0, 0, 3) := cAK_click_1 _ (List.mem_of_getElem? (i := 15) rfl)
theorem cK_click_58 : zCode 45 58 = some (.getfield 28, 61, 4, 6, 0, 440, 3) := cAK_click_2 _ (List.mem_of_getElem? (i := 0) rfl)
theorem cK_click_61 : zCode 45 61 = some (.ifCond .le 7, 64, 68, 0, 0, 0, 3) := cAK_click_2 _ (List.mem_of_getElem? (i := 1) rfl)
theorem cK_click_64 : zCode 45 64 = some (.iconst 1, 65, 0, 0, 0, 0, 3) := cAK_click_2 _ (List.mem_of_getElem? (i := 2) rfl)
theorem cK_click_65 : zCode 45 65 = some (.goto 4, 68, 69, 0, 0, 0, 3) := cAK_click_2 _ (List.mem_of_getElem? (i := 3) rfl)
theorem cK_click_68 : zCode 45 68 = some (.iconst 0, 69, 0, 0, 0, 0, 3) := cAK_click_2 _ (List.mem_of_getElem? (i := 4) rfl)
theorem cK_click_69 : zCode 45 69 = some (.istore_n 2, 70, 0, 0, 0, 0, 3) := cAK_click_2 _ (List.mem_of_getElem? (i := 5) rfl)
theorem cK_click_70 : zCode 45 70 = some (.iload_n 2, 71, 0, 0, 0, 0, 7) := cAK_click_2 _ (List.mem_of_getElem? (i := 6) rfl)
theorem cK_click_71 : zCode 45 71 = some (.ifCond .eq 26, 74, 97, 0, 0, 0, 3) := cAK_click_2 _ (List.mem_of_getElem? (i := 7) rfl)
theorem cK_click_74 : zCode 45 74 = some (.aload_n 0, 75, 0, 0, 0, 0, 3) := cAK_click_2 _ (List.mem_of_getElem? (i := 8) rfl)
theorem cK_click_75 : zCode 45 75 = some (.dup, 76, 0, 0, 0, 0, 3) := cAK_click_2 _ (List.mem_of_getElem? (i := 9) rfl)
theorem cK_click_76 : zCode 45 76 = some (.getfield 28, 79, 4, 6, 0, 440, 3) := cAK_click_2 _ (List.mem_of_getElem? (i := 10) rfl)
theorem cK_click_79 : zCode 45 79 = some (.iload_n 1, 80, 0, 0, 0, 0, 3) := cAK_click_2 _ (List.mem_of_getElem? (i := 11) rfl)
theorem cK_click_80 : zCode 45 80 = some (.iadd, 81, 0, 0, 0, 0, 1) := cAK_click_2 _ (List.mem_of_getElem? (i := 12) rfl)
theorem cK_click_81 : zCode 45 81 = some (.putfield 28, 84, 4, 6, 0, 440, 1) := cAK_click_2 _ (List.mem_of_getElem? (i := 13) rfl)
theorem cK_click_84 : zCode 45 84 = some (.aload_n 0, 85, 0, 0, 0, 0, 1) := cAK_click_2 _ (List.mem_of_getElem? (i := 14) rfl)
theorem cK_click_85 : zCode 45 85 = some (.dup, 86, 0, 0, 0, 0, 0) := cAK_click_2 _ (List.mem_of_getElem? (i := 15) rfl)
theorem cK_click_86 : zCode 45 86 = some (.getfield 16, 89, 4, 2, 0, 433, 0) := cAK_click_3 _ (List.mem_of_getElem? (i := 0) rfl)
theorem cK_click_89 : zCode 45 89 = some (.iconst 1, 90, 0, 0, 0, 0, 0) := cAK_click_3 _ (List.mem_of_getElem? (i := 1) rfl)
theorem cK_click_90 : zCode 45 90 = some (.iadd, 91, 0, 0, 0, 0, 0) := cAK_click_3 _ (List.mem_of_getElem? (i := 2) rfl)
theorem cK_click_91 : zCode 45 91 = some (.putfield 16, 94, 4, 2, 0, 433, 0) := cAK_click_3 _ (List.mem_of_getElem? (i := 3) rfl)
theorem cK_click_94 : zCode 45 94 = some (.goto 48, 97, 142, 0, 0, 0, 0) := cAK_click_3 _ (List.mem_of_getElem? (i := 4) rfl)
theorem cK_click_97 : zCode 45 97 = some (.aload_n 0, 98, 0, 0, 0, 0, 3) := cAK_click_3 _ (List.mem_of_getElem? (i := 5) rfl)
theorem cK_click_98 : zCode 45 98 = some (.getfield 7, 101, 4, 0, 0, 429, 3) := cAK_click_3 _ (List.mem_of_getElem? (i := 6) rfl)
theorem cK_click_101 : zCode 45 101 = some (.iload_n 1, 102, 0, 0, 0, 0, 3) := cAK_click_3 _ (List.mem_of_getElem? (i := 7) rfl)
theorem cK_click_102 : zCode 45 102 = some (.iadd, 103, 0, 0, 0, 0, 3) := cAK_click_3 _ (List.mem_of_getElem? (i := 8) rfl)
theorem cK_click_103 : zCode 45 103 = some (.ifCond .lt 16, 106, 119, 0, 0, 0, 3) := cAK_click_3 _ (List.mem_of_getElem? (i := 9) rfl)
theorem cK_click_106 : zCode 45 106 = some (.aload_n 0, 107, 0, 0, 0, 0, 3) := cAK_click_3 _ (List.mem_of_getElem? (i := 10) rfl)
theorem cK_click_107 : zCode 45 107 = some (.getfield 7, 110, 4, 0, 0, 429, 3) := cAK_click_3 _ (List.mem_of_getElem? (i := 11) rfl)
theorem cK_click_110 : zCode 45 110 = some (.iload_n 1, 111, 0, 0, 0, 0, 3) := cAK_click_3 _ (List.mem_of_getElem? (i := 12) rfl)
theorem cK_click_111 : zCode 45 111 = some (.iadd, 112, 0, 0, 0, 0, 3) := cAK_click_3 _ (List.mem_of_getElem? (i := 13) rfl)
theorem cK_click_112 : zCode 45 112 = some (.aload_n 0, 113, 0, 0, 0, 0, 3) := cAK_click_3 _ (List.mem_of_getElem? (i := 14) rfl)
theorem cK_click_113 : zCode 45 113 = some (.getfield 31, 116, 4, 7, 0, 441, 3) := cAK_click_3 _ (List.mem_of_getElem? (i := 15) rfl)
theorem cK_click_116 : zCode 45 116 = some (.if_icmp .le 16, 119, 132, 0, 0, 0, 3) := cAK_click_4 _ (List.mem_of_getElem? (i := 0) rfl)
theorem cK_click_119 : zCode 45 119 = some (.aload_n 0, 120, 0, 0, 0, 0, 1) := cAK_click_4 _ (List.mem_of_getElem? (i := 1) rfl)
theorem cK_click_120 : zCode 45 120 = some (.dup, 121, 0, 0, 0, 0, 0) := cAK_click_4 _ (List.mem_of_getElem? (i := 2) rfl)
theorem cK_click_121 : zCode 45 121 = some (.getfield 19, 124, 4, 3, 0, 435, 0) := cAK_click_4 _ (List.mem_of_getElem? (i := 3) rfl)
theorem cK_click_124 : zCode 45 124 = some (.iconst 1, 125, 0, 0, 0, 0, 0) := cAK_click_4 _ (List.mem_of_getElem? (i := 4) rfl)
theorem cK_click_125 : zCode 45 125 = some (.iadd, 126, 0, 0, 0, 0, 0) := cAK_click_4 _ (List.mem_of_getElem? (i := 5) rfl)
theorem cK_click_126 : zCode 45 126 = some (.putfield 19, 129, 4, 3, 0, 435, 0) := cAK_click_4 _ (List.mem_of_getElem? (i := 6) rfl)
theorem cK_click_129 : zCode 45 129 = some (.goto 13, 132, 142, 0, 0, 0, 0) := cAK_click_4 _ (List.mem_of_getElem? (i := 7) rfl)
theorem cK_click_132 : zCode 45 132 = some (.aload_n 0, 133, 0, 0, 0, 0, 3) := cAK_click_4 _ (List.mem_of_getElem? (i := 8) rfl)
theorem cK_click_133 : zCode 45 133 = some (.dup, 134, 0, 0, 0, 0, 2) := cAK_click_4 _ (List.mem_of_getElem? (i := 9) rfl)
theorem cK_click_134 : zCode 45 134 = some (.getfield 7, 137, 4, 0, 0, 429, 2) := cAK_click_4 _ (List.mem_of_getElem? (i := 10) rfl)
theorem cK_click_137 : zCode 45 137 = some (.iload_n 1, 138, 0, 0, 0, 0, 2) := cAK_click_4 _ (List.mem_of_getElem? (i := 11) rfl)
theorem cK_click_138 : zCode 45 138 = some (.iadd, 139, 0, 0, 0, 0, 0) := cAK_click_4 _ (List.mem_of_getElem? (i := 12) rfl)
theorem cK_click_139 : zCode 45 139 = some (.putfield 7, 142, 4, 0, 0, 429, 0) := cAK_click_4 _ (List.mem_of_getElem? (i := 13) rfl)
theorem cK_click_142 : zCode 45 142 = some (.return_, 143, 0, 0, 0, 0, 0) := cAK_click_4 _ (List.mem_of_getElem? (i := 14) rfl)
theorem rK_click_0 {a0 : Nat} {a1 : Int} {u2 : zV} : zS 45 0 [zR a0, zI a1, u2] [] sh pp mm Q ↔ zS 45 1 [zR a0, zI a1, zU] [zR a0] sh pp mm Q := s_go cK_click_0 cK_click_1 rfl rfl
theorem rK_click_1 {a0 s0 : Nat} {a1 : Int} {u2 : zV} : zS 45 1 [zR a0, zI a1, u2] [zR s0] sh pp mm Q ↔ zS 45 2 [zR a0, zI a1, zU] [zR s0, zR s0] sh pp mm Q := s_go cK_click_1 cK_click_2 rfl rfl
theorem rK_click_2 {a0 s0 s1 : Nat} {a1 : Int} {u2 : zV} (hk : zKd sh s0 = 4) : zS 45 2 [zR a0, zI a1, u2] [zR s0, zR s1] sh pp mm Q ↔ zS 45 5 [zR a0, zI a1, zU] [zI (mm s0 1), zR s1] sh pp mm Q := s_go cK_click_2 cK_click_5 (if_pos hk) rfl
theorem rK_click_5 {a0 s1 : Nat} {a1 s0 : Int} {u2 : zV} : zS 45 5 [zR a0, zI a1, u2] [zI s0, zR s1] sh pp mm Q ↔ zS 45 6 [zR a0, zI a1, zU] [zI 1, zI s0, zR s1] sh pp mm Q := s_go cK_click_5 cK_click_6 rfl rfl
theorem rK_click_6 {a0 s2 : Nat} {a1 s0 s1 : Int} {u2 : zV} : zS 45 6 [zR a0, zI a1, u2] [zI s0, zI s1, zR s2] sh pp mm Q ↔ zS 45 7 [zR a0, zI a1, zU] [zI (zw32 (s1 + s0)), zR s2] sh pp mm Q := s_go cK_click_6 cK_click_7 rfl rfl
theorem rK_click_7 {a0 s1 : Nat} {a1 s0 : Int} {u2 : zV} (hk : zKd sh s1 = 4) : zS 45 7 [zR a0, zI a1, u2] [zI s0, zR s1] sh pp mm Q ↔ zS 45 10 [zR a0, zI a1, zU] [] sh pp (zupd mm s1 1 s0) Q := s_go cK_click_7 cK_click_10 (if_pos ⟨hk, Or.inl rfl⟩) rfl
theorem rK_click_10 {a0 : Nat} {a1 : Int} {u2 : zV} : zS 45 10 [zR a0, zI a1, u2] [] sh pp mm Q ↔ zS 45 11 [zR a0, zI a1, zU] [zR a0] sh pp mm Q := s_go cK_click_10 cK_click_11 rfl rfl
theorem rK_click_11 {a0 s0 : Nat} {a1 : Int} {u2 : zV} (hk : zKd sh s0 = 4) : zS 45 11 [zR a0, zI a1, u2] [zR s0] sh pp mm Q ↔ zS 45 14 [zR a0, zI a1, zU] [zI (mm s0 8)] sh pp mm Q := s_go cK_click_11 cK_click_14 (if_pos hk) rfl
theorem rK_click_14 {a0 : Nat} {a1 s0 : Int} {u2 : zV} : zS 45 14 [zR a0, zI a1, u2] [zI s0] sh pp mm Q ↔ zS 45 15 [zR a0, zI a1, zU] [zI a1, zI s0] sh pp mm Q := s_go cK_click_14 cK_click_15 rfl rfl
theorem rK_click_15 {a0 : Nat} {a1 s0 s1 : Int} {u2 : zV} : zS 45 15 [zR a0, zI a1, u2] [zI s0, zI s1] sh pp mm Q ↔ zS 45 16 [zR a0, zI a1, zU] [zI (zw32 (-s0)), zI s1] sh pp mm Q := s_go cK_click_15 cK_click_16 rfl rfl
theorem rK_click_16 {a0 : Nat} {a1 s0 s1 : Int} {u2 : zV} : zS 45 16 [zR a0, zI a1, u2] [zI s0, zI s1] sh pp mm Q ↔ (s1 = s0 → zS 45 19 [zR a0, zI a1, zU] [] sh pp mm Q) ∧ (¬ s1 = s0 → zS 45 29 [zR a0, zI a1, zU] [] sh pp mm Q) := s_ifn cK_click_16 cK_click_19 cK_click_29 rfl rfl rfl
theorem rK_click_19 {a0 : Nat} {a1 : Int} {u2 : zV} : zS 45 19 [zR a0, zI a1, u2] [] sh pp mm Q ↔ zS 45 20 [zR a0, zI a1, zU] [zR a0] sh pp mm Q := s_go cK_click_19 cK_click_20 rfl rfl
theorem rK_click_20 {a0 s0 : Nat} {a1 : Int} {u2 : zV} : zS 45 20 [zR a0, zI a1, u2] [zR s0] sh pp mm Q ↔ zS 45 21 [zR a0, zI a1, zU] [zR s0, zR s0] sh pp mm Q := s_go cK_click_20 cK_click_21 rfl rfl
theorem rK_click_21 {a0 s0 s1 : Nat} {a1 : Int} {u2 : zV} (hk : zKd sh s0 = 4) : zS 45 21 [zR a0, zI a1, u2] [zR s0, zR s1] sh pp mm Q ↔ zS 45 24 [zR a0, zI a1, zU] [zI (mm s0 4), zR s1] sh pp mm Q := s_go cK_click_21 cK_click_24 (if_pos hk) rfl
theorem rK_click_24 {a0 s1 : Nat} {a1 s0 : Int} {u2 : zV} : zS 45 24 [zR a0, zI a1, u2] [zI s0, zR s1] sh pp mm Q ↔ zS 45 25 [zR a0, zI a1, zU] [zI 1, zI s0, zR s1] sh pp mm Q := s_go cK_click_24 cK_click_25 rfl rfl
theorem rK_click_25 {a0 s2 : Nat} {a1 s0 s1 : Int} {u2 : zV} : zS 45 25 [zR a0, zI a1, u2] [zI s0, zI s1, zR s2] sh pp mm Q ↔ zS 45 26 [zR a0, zI a1, zU] [zI (zw32 (s1 + s0)), zR s2] sh pp mm Q := s_go cK_click_25 cK_click_26 rfl rfl
theorem rK_click_26 {a0 s1 : Nat} {a1 s0 : Int} {u2 : zV} (hk : zKd sh s1 = 4) : zS 45 26 [zR a0, zI a1, u2] [zI s0, zR s1] sh pp mm Q ↔ zS 45 29 [zR a0, zI a1, zU] [] sh pp (zupd mm s1 4 s0) Q := s_go cK_click_26 cK_click_29 (if_pos ⟨hk, Or.inl rfl⟩) rfl
theorem rK_click_29 {a0 : Nat} {a1 : Int} {u2 : zV} : zS 45 29 [zR a0, zI a1, u2] [] sh pp mm Q ↔ zS 45 30 [zR a0, zI a1, zU] [zR a0] sh pp mm Q := s_go cK_click_29 cK_click_30 rfl rfl
theorem rK_click_30 {a0 s0 : Nat} {a1 : Int} {u2 : zV} : zS 45 30 [zR a0, zI a1, u2] [zR s0] sh pp mm Q ↔ zS 45 31 [zR a0, zI a1, zU] [zI a1, zR s0] sh pp mm Q := s_go cK_click_30 cK_click_31 rfl rfl
theorem rK_click_31 {a0 s1 : Nat} {a1 s0 : Int} {u2 : zV} (hk : zKd sh s1 = 4) : zS 45 31 [zR a0, zI a1, u2] [zI s0, zR s1] sh pp mm Q ↔ zS 45 34 [zR a0, zI a1, zU] [] sh pp (zupd mm s1 8 s0) Q := s_go cK_click_31 cK_click_34 (if_pos ⟨hk, Or.inl rfl⟩) rfl
theorem rK_click_34 {a0 : Nat} {a1 : Int} {u2 : zV} : zS 45 34 [zR a0, zI a1, u2] [] sh pp mm Q ↔ zS 45 35 [zR a0, zI a1, zU] [zI a1] sh pp mm Q := s_go cK_click_34 cK_click_35 rfl rfl
theorem rK_click_35 {a0 : Nat} {a1 s0 : Int} {u2 : zV} : zS 45 35 [zR a0, zI a1, u2] [zI s0] sh pp mm Q ↔ (0 < s0 → zS 45 38 [zR a0, zI a1, zU] [] sh pp mm Q) ∧ (¬ 0 < s0 → zS 45 57 [zR a0, zI a1, zU] [] sh pp mm Q) := s_ifn cK_click_35 cK_click_38 cK_click_57 rfl rfl rfl
theorem rK_click_38 {a0 : Nat} {a1 : Int} {u2 : zV} : zS 45 38 [zR a0, zI a1, u2] [] sh pp mm Q ↔ zS 45 39 [zR a0, zI a1, zU] [zR a0] sh pp mm Q := s_go cK_click_38 cK_click_39 rfl rfl
theorem rK_click_39 {a0 s0 : Nat} {a1 : Int} {u2 : zV} (hk : zKd sh s0 = 4) : zS 45 39 [zR a0, zI a1, u2] [zR s0] sh pp mm Q ↔ zS 45 42 [zR a0, zI a1, zU] [zI (mm s0 6)] sh pp mm Q := s_go cK_click_39 cK_click_42 (if_pos hk) rfl
theorem rK_click_42 {a0 : Nat} {a1 s0 : Int} {u2 : zV} : zS 45 42 [zR a0, zI a1, u2] [zI s0] sh pp mm Q ↔ zS 45 43 [zR a0, zI a1, zU] [zR a0, zI s0] sh pp mm Q := s_go cK_click_42 cK_click_43 rfl rfl
theorem rK_click_43 {a0 s0 : Nat} {a1 s1 : Int} {u2 : zV} (hk : zKd sh s0 = 4) : zS 45 43 [zR a0, zI a1, u2] [zR s0, zI s1] sh pp mm Q ↔ zS 45 46 [zR a0, zI a1, zU] [zI (mm s0 5), zI s1] sh pp mm Q := s_go cK_click_43 cK_click_46 (if_pos hk) rfl
theorem rK_click_46 {a0 : Nat} {a1 s0 s1 : Int} {u2 : zV} : zS 45 46 [zR a0, zI a1, u2] [zI s0, zI s1] sh pp mm Q ↔ (s1 < s0 → zS 45 49 [zR a0, zI a1, zU] [] sh pp mm Q) ∧ (¬ s1 < s0 → zS 45 53 [zR a0, zI a1, zU] [] sh pp mm Q) := s_ifn cK_click_46 cK_click_49 cK_click_53 rfl rfl rfl
theorem rK_click_49 {a0 : Nat} {a1 : Int} {u2 : zV} : zS 45 49 [zR a0, zI a1, u2] [] sh pp mm Q ↔ zS 45 50 [zR a0, zI a1, zU] [zI 1] sh pp mm Q := s_go cK_click_49 cK_click_50 rfl rfl
theorem rK_click_50 {a0 : Nat} {a1 s0 : Int} {u2 : zV} : zS 45 50 [zR a0, zI a1, u2] [zI s0] sh pp mm Q ↔ zS 45 69 [zR a0, zI a1, zU] [zI s0] sh pp mm Q := s_go cK_click_50 cK_click_69 rfl rfl
theorem rK_click_53 {a0 : Nat} {a1 : Int} {u2 : zV} : zS 45 53 [zR a0, zI a1, u2] [] sh pp mm Q ↔ zS 45 54 [zR a0, zI a1, zU] [zI 0] sh pp mm Q := s_go cK_click_53 cK_click_54 rfl rfl
theorem rK_click_54 {a0 : Nat} {a1 s0 : Int} {u2 : zV} : zS 45 54 [zR a0, zI a1, u2] [zI s0] sh pp mm Q ↔ zS 45 69 [zR a0, zI a1, zU] [zI s0] sh pp mm Q := s_go cK_click_54 cK_click_69 rfl rfl
theorem rK_click_57 {a0 : Nat} {a1 : Int} {u2 : zV} : zS 45 57 [zR a0, zI a1, u2] [] sh pp mm Q ↔ zS 45 58 [zR a0, zI a1, zU] [zR a0] sh pp mm Q := s_go cK_click_57 cK_click_58 rfl rfl
theorem rK_click_58 {a0 s0 : Nat} {a1 : Int} {u2 : zV} (hk : zKd sh s0 = 4) : zS 45 58 [zR a0, zI a1, u2] [zR s0] sh pp mm Q ↔ zS 45 61 [zR a0, zI a1, zU] [zI (mm s0 6)] sh pp mm Q := s_go cK_click_58 cK_click_61 (if_pos hk) rfl
theorem rK_click_61 {a0 : Nat} {a1 s0 : Int} {u2 : zV} : zS 45 61 [zR a0, zI a1, u2] [zI s0] sh pp mm Q ↔ (0 < s0 → zS 45 64 [zR a0, zI a1, zU] [] sh pp mm Q) ∧ (¬ 0 < s0 → zS 45 68 [zR a0, zI a1, zU] [] sh pp mm Q) := s_ifn cK_click_61 cK_click_64 cK_click_68 rfl rfl rfl
theorem rK_click_64 {a0 : Nat} {a1 : Int} {u2 : zV} : zS 45 64 [zR a0, zI a1, u2] [] sh pp mm Q ↔ zS 45 65 [zR a0, zI a1, zU] [zI 1] sh pp mm Q := s_go cK_click_64 cK_click_65 rfl rfl
theorem rK_click_65 {a0 : Nat} {a1 s0 : Int} {u2 : zV} : zS 45 65 [zR a0, zI a1, u2] [zI s0] sh pp mm Q ↔ zS 45 69 [zR a0, zI a1, zU] [zI s0] sh pp mm Q := s_go cK_click_65 cK_click_69 rfl rfl
theorem rK_click_68 {a0 : Nat} {a1 : Int} {u2 : zV} : zS 45 68 [zR a0, zI a1, u2] [] sh pp mm Q ↔ zS 45 69 [zR a0, zI a1, zU] [zI 0] sh pp mm Q := s_go cK_click_68 cK_click_69 rfl rfl
theorem rK_click_69 {a0 : Nat} {a1 s0 : Int} {u2 : zV} : zS 45 69 [zR a0, zI a1, u2] [zI s0] sh pp mm Q ↔ zS 45 70 [zR a0, zI a1, zI s0] [] sh pp mm Q := s_go cK_click_69 cK_click_70 rfl rfl
theorem rK_click_70 {a0 : Nat} {a1 a2 : Int} : zS 45 70 [zR a0, zI a1, zI a2] [] sh pp mm Q ↔ zS 45 71 [zR a0, zI a1, zU] [zI a2] sh pp mm Q := s_go cK_click_70 cK_click_71 rfl rfl
theorem rK_click_71 {a0 : Nat} {a1 s0 : Int} {u2 : zV} : zS 45 71 [zR a0, zI a1, u2] [zI s0] sh pp mm Q ↔ (s0 = 0 → zS 45 97 [zR a0, zI a1, zU] [] sh pp mm Q) ∧ (¬ s0 = 0 → zS 45 74 [zR a0, zI a1, zU] [] sh pp mm Q) := s_if cK_click_71 cK_click_97 cK_click_74 rfl rfl rfl
theorem rK_click_74 {a0 : Nat} {a1 : Int} {u2 : zV} : zS 45 74 [zR a0, zI a1, u2] [] sh pp mm Q ↔ zS 45 75 [zR a0, zI a1, zU] [zR a0] sh pp mm Q := s_go cK_click_74 cK_click_75 rfl rfl
theorem rK_click_75 {a0 s0 : Nat} {a1 : Int} {u2 : zV} : zS 45 75 [zR a0, zI a1, u2] [zR s0] sh pp mm Q ↔ zS 45 76 [zR a0, zI a1, zU] [zR s0, zR s0] sh pp mm Q := s_go cK_click_75 cK_click_76 rfl rfl
theorem rK_click_76 {a0 s0 s1 : Nat} {a1 : Int} {u2 : zV} (hk : zKd sh s0 = 4) : zS 45 76 [zR a0, zI a1, u2] [zR s0, zR s1] sh pp mm Q ↔ zS 45 79 [zR a0, zI a1, zU] [zI (mm s0 6), zR s1] sh pp mm Q := s_go cK_click_76 cK_click_79 (if_pos hk) rfl
theorem rK_click_79 {a0 s1 : Nat} {a1 s0 : Int} {u2 : zV} : zS 45 79 [zR a0, zI a1, u2] [zI s0, zR s1] sh pp mm Q ↔ zS 45 80 [zR a0, zU, zU] [zI a1, zI s0, zR s1] sh pp mm Q := s_go cK_click_79 cK_click_80 rfl rfl
theorem rK_click_80 {a0 s2 : Nat} {s0 s1 : Int} {u1 u2 : zV} : zS 45 80 [zR a0, u1, u2] [zI s0, zI s1, zR s2] sh pp mm Q ↔ zS 45 81 [zR a0, zU, zU] [zI (zw32 (s1 + s0)), zR s2] sh pp mm Q := s_go cK_click_80 cK_click_81 rfl rfl
theorem rK_click_81 {a0 s1 : Nat} {s0 : Int} {u1 u2 : zV} (hk : zKd sh s1 = 4) : zS 45 81 [zR a0, u1, u2] [zI s0, zR s1] sh pp mm Q ↔ zS 45 84 [zR a0, zU, zU] [] sh pp (zupd mm s1 6 s0) Q := s_go cK_click_81 cK_click_84 (if_pos ⟨hk, Or.inl rfl⟩) rfl
theorem rK_click_84 {a0 : Nat} {u1 u2 : zV} : zS 45 84 [zR a0, u1, u2] [] sh pp mm Q ↔ zS 45 85 [zU, zU, zU] [zR a0] sh pp mm Q := s_go cK_click_84 cK_click_85 rfl rfl
theorem rK_click_85 {s0 : Nat} {u0 u1 u2 : zV} : zS 45 85 [u0, u1, u2] [zR s0] sh pp mm Q ↔ zS 45 86 [zU, zU, zU] [zR s0, zR s0] sh pp mm Q := s_go cK_click_85 cK_click_86 rfl rfl
theorem rK_click_86 {s0 s1 : Nat} {u0 u1 u2 : zV} (hk : zKd sh s0 = 4) : zS 45 86 [u0, u1, u2] [zR s0, zR s1] sh pp mm Q ↔ zS 45 89 [zU, zU, zU] [zI (mm s0 2), zR s1] sh pp mm Q := s_go cK_click_86 cK_click_89 (if_pos hk) rfl
theorem rK_click_89 {s1 : Nat} {s0 : Int} {u0 u1 u2 : zV} : zS 45 89 [u0, u1, u2] [zI s0, zR s1] sh pp mm Q ↔ zS 45 90 [zU, zU, zU] [zI 1, zI s0, zR s1] sh pp mm Q := s_go cK_click_89 cK_click_90 rfl rfl
theorem rK_click_90 {s2 : Nat} {s0 s1 : Int} {u0 u1 u2 : zV} : zS 45 90 [u0, u1, u2] [zI s0, zI s1, zR s2] sh pp mm Q ↔ zS 45 91 [zU, zU, zU] [zI (zw32 (s1 + s0)), zR s2] sh pp mm Q := s_go cK_click_90 cK_click_91 rfl rfl
theorem rK_click_91 {s1 : Nat} {s0 : Int} {u0 u1 u2 : zV} (hk : zKd sh s1 = 4) : zS 45 91 [u0, u1, u2] [zI s0, zR s1] sh pp mm Q ↔ zS 45 94 [zU, zU, zU] [] sh pp (zupd mm s1 2 s0) Q := s_go cK_click_91 cK_click_94 (if_pos ⟨hk, Or.inl rfl⟩) rfl
theorem rK_click_94 {u0 u1 u2 : zV} : zS 45 94 [u0, u1, u2] [] sh pp mm Q ↔ zS 45 142 [zU, zU, zU] [] sh pp mm Q := s_go cK_click_94 cK_click_142 rfl rfl
theorem rK_click_97 {a0 : Nat} {a1 : Int} {u2 : zV} : zS 45 97 [zR a0, zI a1, u2] [] sh pp mm Q ↔ zS 45 98 [zR a0, zI a1, zU] [zR a0] sh pp mm Q := s_go cK_click_97 cK_click_98 rfl rfl
theorem rK_click_98 {a0 s0 : Nat} {a1 : Int} {u2 : zV} (hk : zKd sh s0 = 4) : zS 45 98 [zR a0, zI a1, u2] [zR s0] sh pp mm Q ↔ zS 45 101 [zR a0, zI a1, zU] [zI (mm s0 0)] sh pp mm Q := s_go cK_click_98 cK_click_101 (if_pos hk) rfl
theorem rK_click_101 {a0 : Nat} {a1 s0 : Int} {u2 : zV} : zS 45 101 [zR a0, zI a1, u2] [zI s0] sh pp mm Q ↔ zS 45 102 [zR a0, zI a1, zU] [zI a1, zI s0] sh pp mm Q := s_go cK_click_101 cK_click_102 rfl rfl
theorem rK_click_102 {a0 : Nat} {a1 s0 s1 : Int} {u2 : zV} : zS 45 102 [zR a0, zI a1, u2] [zI s0, zI s1] sh pp mm Q ↔ zS 45 103 [zR a0, zI a1, zU] [zI (zw32 (s1 + s0))] sh pp mm Q := s_go cK_click_102 cK_click_103 rfl rfl
theorem rK_click_103 {a0 : Nat} {a1 s0 : Int} {u2 : zV} : zS 45 103 [zR a0, zI a1, u2] [zI s0] sh pp mm Q ↔ (s0 < 0 → zS 45 119 [zR a0, zU, zU] [] sh pp mm Q) ∧ (¬ s0 < 0 → zS 45 106 [zR a0, zI a1, zU] [] sh pp mm Q) := s_if cK_click_103 cK_click_119 cK_click_106 rfl rfl rfl
theorem rK_click_106 {a0 : Nat} {a1 : Int} {u2 : zV} : zS 45 106 [zR a0, zI a1, u2] [] sh pp mm Q ↔ zS 45 107 [zR a0, zI a1, zU] [zR a0] sh pp mm Q := s_go cK_click_106 cK_click_107 rfl rfl
theorem rK_click_107 {a0 s0 : Nat} {a1 : Int} {u2 : zV} (hk : zKd sh s0 = 4) : zS 45 107 [zR a0, zI a1, u2] [zR s0] sh pp mm Q ↔ zS 45 110 [zR a0, zI a1, zU] [zI (mm s0 0)] sh pp mm Q := s_go cK_click_107 cK_click_110 (if_pos hk) rfl
theorem rK_click_110 {a0 : Nat} {a1 s0 : Int} {u2 : zV} : zS 45 110 [zR a0, zI a1, u2] [zI s0] sh pp mm Q ↔ zS 45 111 [zR a0, zI a1, zU] [zI a1, zI s0] sh pp mm Q := s_go cK_click_110 cK_click_111 rfl rfl
theorem rK_click_111 {a0 : Nat} {a1 s0 s1 : Int} {u2 : zV} : zS 45 111 [zR a0, zI a1, u2] [zI s0, zI s1] sh pp mm Q ↔ zS 45 112 [zR a0, zI a1, zU] [zI (zw32 (s1 + s0))] sh pp mm Q := s_go cK_click_111 cK_click_112 rfl rfl
theorem rK_click_112 {a0 : Nat} {a1 s0 : Int} {u2 : zV} : zS 45 112 [zR a0, zI a1, u2] [zI s0] sh pp mm Q ↔ zS 45 113 [zR a0, zI a1, zU] [zR a0, zI s0] sh pp mm Q := s_go cK_click_112 cK_click_113 rfl rfl
theorem rK_click_113 {a0 s0 : Nat} {a1 s1 : Int} {u2 : zV} (hk : zKd sh s0 = 4) : zS 45 113 [zR a0, zI a1, u2] [zR s0, zI s1] sh pp mm Q ↔ zS 45 116 [zR a0, zI a1, zU] [zI (mm s0 7), zI s1] sh pp mm Q := s_go cK_click_113 cK_click_116 (if_pos hk) rfl
theorem rK_click_116 {a0 : Nat} {a1 s0 s1 : Int} {u2 : zV} : zS 45 116 [zR a0, zI a1, u2] [zI s0, zI s1] sh pp mm Q ↔ (s0 < s1 → zS 45 119 [zR a0, zU, zU] [] sh pp mm Q) ∧ (¬ s0 < s1 → zS 45 132 [zR a0, zI a1, zU] [] sh pp mm Q) := s_ifn cK_click_116 cK_click_119 cK_click_132 rfl rfl rfl
theorem rK_click_119 {a0 : Nat} {u1 u2 : zV} : zS 45 119 [zR a0, u1, u2] [] sh pp mm Q ↔ zS 45 120 [zU, zU, zU] [zR a0] sh pp mm Q := s_go cK_click_119 cK_click_120 rfl rfl
theorem rK_click_120 {s0 : Nat} {u0 u1 u2 : zV} : zS 45 120 [u0, u1, u2] [zR s0] sh pp mm Q ↔ zS 45 121 [zU, zU, zU] [zR s0, zR s0] sh pp mm Q := s_go cK_click_120 cK_click_121 rfl rfl
theorem rK_click_121 {s0 s1 : Nat} {u0 u1 u2 : zV} (hk : zKd sh s0 = 4) : zS 45 121 [u0, u1, u2] [zR s0, zR s1] sh pp mm Q ↔ zS 45 124 [zU, zU, zU] [zI (mm s0 3), zR s1] sh pp mm Q := s_go cK_click_121 cK_click_124 (if_pos hk) rfl
theorem rK_click_124 {s1 : Nat} {s0 : Int} {u0 u1 u2 : zV} : zS 45 124 [u0, u1, u2] [zI s0, zR s1] sh pp mm Q ↔ zS 45 125 [zU, zU, zU] [zI 1, zI s0, zR s1] sh pp mm Q := s_go cK_click_124 cK_click_125 rfl rfl
theorem rK_click_125 {s2 : Nat} {s0 s1 : Int} {u0 u1 u2 : zV} : zS 45 125 [u0, u1, u2] [zI s0, zI s1, zR s2] sh pp mm Q ↔ zS 45 126 [zU, zU, zU] [zI (zw32 (s1 + s0)), zR s2] sh pp mm Q := s_go cK_click_125 cK_click_126 rfl rfl
theorem rK_click_126 {s1 : Nat} {s0 : Int} {u0 u1 u2 : zV} (hk : zKd sh s1 = 4) : zS 45 126 [u0, u1, u2] [zI s0, zR s1] sh pp mm Q ↔ zS 45 129 [zU, zU, zU] [] sh pp (zupd mm s1 3 s0) Q := s_go cK_click_126 cK_click_129 (if_pos ⟨hk, Or.inl rfl⟩) rfl
theorem rK_click_129 {u0 u1 u2 : zV} : zS 45 129 [u0, u1, u2] [] sh pp mm Q ↔ zS 45 142 [zU, zU, zU] [] sh pp mm Q := s_go cK_click_129 cK_click_142 rfl rfl
theorem rK_click_132 {a0 : Nat} {a1 : Int} {u2 : zV} : zS 45 132 [zR a0, zI a1, u2] [] sh pp mm Q ↔ zS 45 133 [zU, zI a1, zU] [zR a0] sh pp mm Q := s_go cK_click_132 cK_click_133 rfl rfl
theorem rK_click_133 {s0 : Nat} {a1 : Int} {u0 u2 : zV} : zS 45 133 [u0, zI a1, u2] [zR s0] sh pp mm Q ↔ zS 45 134 [zU, zI a1, zU] [zR s0, zR s0] sh pp mm Q := s_go cK_click_133 cK_click_134 rfl rfl
theorem rK_click_134 {s0 s1 : Nat} {a1 : Int} {u0 u2 : zV} (hk : zKd sh s0 = 4) : zS 45 134 [u0, zI a1, u2] [zR s0, zR s1] sh pp mm Q ↔ zS 45 137 [zU, zI a1, zU] [zI (mm s0 0), zR s1] sh pp mm Q := s_go cK_click_134 cK_click_137 (if_pos hk) rfl
theorem rK_click_137 {s1 : Nat} {a1 s0 : Int} {u0 u2 : zV} : zS 45 137 [u0, zI a1, u2] [zI s0, zR s1] sh pp mm Q ↔ zS 45 138 [zU, zU, zU] [zI a1, zI s0, zR s1] sh pp mm Q := s_go cK_click_137 cK_click_138 rfl rfl
theorem rK_click_138 {s2 : Nat} {s0 s1 : Int} {u0 u1 u2 : zV} : zS 45 138 [u0, u1, u2] [zI s0, zI s1, zR s2] sh pp mm Q ↔ zS 45 139 [zU, zU, zU] [zI (zw32 (s1 + s0)), zR s2] sh pp mm Q := s_go cK_click_138 cK_click_139 rfl rfl
theorem rK_click_139 {s1 : Nat} {s0 : Int} {u0 u1 u2 : zV} (hk : zKd sh s1 = 4) : zS 45 139 [u0, u1, u2] [zI s0, zR s1] sh pp mm Q ↔ zS 45 142 [zU, zU, zU] [] sh pp (zupd mm s1 0 s0) Q := s_go cK_click_139 cK_click_142 (if_pos ⟨hk, Or.inl rfl⟩) rfl
theorem rK_click_142 {u0 u1 u2 : zV} : zS 45 142 [u0, u1, u2] [] sh pp mm Q ↔ Q zU sh pp mm := s_ret cK_click_142 rfl
theorem cAT_init : ∀ q ∈ zT95, zCode 95 q.1 = some q.2 := zAll (mid := 95) rfl (by decide +kernel)
theorem cAT_init_0 : ∀ q ∈ zT95_0, zCode 95 q.1 = some q.2 := fun q h => cAT_init q (List.mem_append_left _ h)
theorem cAT_init_1 : ∀ q ∈ zT95_1, zCode 95 q.1 = some q.2 := fun q h => cAT_init q (List.mem_append_right _ h)
theorem cT_init_0 : zCode 95 0 = some (.aload_n 0, 1, 0, 0, 0, 0, 7) := cAT_init_0 _ (List.mem_of_getElem? (i := 0) rfl)
theorem cT_init_1 : zCode 95 1 = some (.invokespecial 3, 4, 0, 78, 0, 136, 7) := cAT_init_0 _ (List.mem_of_getElem? (i := 1) rfl)
theorem cT_init_4 : zCode 95 4 = some (.aload_n 0, 5, 0, 0, 0, 0, 7) := cAT_init_0 _ (List.mem_of_getElem? (i := 2) rfl)
theorem cT_init_5 : zCode 95 5 = some (.iconst 0, 6, 0, 0, 0, 0, 7) := cAT_init_0 _ (List.mem_of_getElem? (i := 3) rfl)
theorem cT_init_6 : zCode 95 6 = some (.putfield 9, 9, 10, 3, 0, 141, 7) := cAT_init_0 _ (List.mem_of_getElem? (i := 4) rfl)
theorem cT_init_9 : zCode 95 9 = some (.aload_n 0, 10, 0, 0, 0, 0, 7) := cAT_init_0 _ (List.mem_of_getElem? (i := 5) rfl)
theorem cT_init_10 : zCode 95 10 = some (.iload_n 1, 11, 0, 0, 0, 0, 7) := cAT_init_0 _ (List.mem_of_getElem? (i := 6) rfl)
theorem cT_init_11 : zCode 95 11 = some (.putfield 15, 14, 10, 1, 0, 138, 7) := cAT_init_0 _ (List.mem_of_getElem? (i := 7) rfl)
theorem cT_init_14 : zCode 95 14 = some (.aload_n 0, 15, 0, 0, 0, 0, 7) := cAT_init_0 _ (List.mem_of_getElem? (i := 8) rfl)
theorem cT_init_15 : zCode 95 15 = some (.iload_n 2, 16, 0, 0, 0, 0, 7) := cAT_init_0 _ (List.mem_of_getElem? (i := 9) rfl)
theorem cT_init_16 : zCode 95 16 = some (.putfield 18, 19, 10, 0, 0, 137, 7) := cAT_init_0 _ (List.mem_of_getElem? (i := 10) rfl)
theorem cT_init_19 : zCode 95 19 = some (.aload_n 0, 20, 0, 0, 0, 0, 7) := cAT_init_0 _ (List.mem_of_getElem? (i := 11) rfl)
theorem cT_init_20 : zCode 95 20 = some (.iload_n 1, 21, 0, 0, 0, 0, 6) := cAT_init_0 _ (List.mem_of_getElem? (i := 12) rfl)
theorem cT_init_21 : zCode 95 21 = some (.iload_n 2, 22, 0, 0, 0, 0, 4) := cAT_init_0 _ (List.mem_of_getElem? (i := 13) rfl)
theorem cT_init_22 : zCode 95 22 = some (.imul, 23, 0, 0, 0, 0, 0) := cAT_init_0 _ (List.mem_of_getElem? (i := 14) rfl)
theorem cT_init_23 : zCode 95 23 = some (.newarray .int, 25, 20, 0, 0, 0, 0) := cAT_init_0 _ (List.mem_of_getElem? (i := 15) rfl)
theorem cT_init_25 : zCode 95 25 = some (.putfield 21, 28, 10, 2, 2, 139, 0) := cAT_init_1 _ (List.mem_of_getElem? (i := 0) rfl)
theorem cT_init_28 : zCode 95 28 = some (.return_, 29, 0, 0, 0, 0, 0) := cAT_init_1 _ (List.mem_of_getElem? (i := 1) rfl)
theorem rT_init_0 {a0 : Nat} {a1 a2 : Int} : zS 95 0 [zR a0, zI a1, zI a2] [] sh pp mm Q ↔ zS 95 1 [zR a0, zI a1, zI a2] [zR a0] sh pp mm Q := s_go cT_init_0 cT_init_1 rfl rfl
theorem rT_init_1 {a0 s0 : Nat} {a1 a2 : Int} (hr : s0 ≠ 0) (hl : s0 < sh.length) : zS 95 1 [zR a0, zI a1, zI a2] [zR s0] sh pp mm Q ↔ zS 95 4 [zR a0, zI a1, zI a2] [] sh pp mm Q := s_go cT_init_1 cT_init_4 (if_pos ⟨hr, hl, by decide⟩) rfl
theorem rT_init_4 {a0 : Nat} {a1 a2 : Int} : zS 95 4 [zR a0, zI a1, zI a2] [] sh pp mm Q ↔ zS 95 5 [zR a0, zI a1, zI a2] [zR a0] sh pp mm Q := s_go cT_init_4 cT_init_5 rfl rfl
theorem rT_init_5 {a0 s0 : Nat} {a1 a2 : Int} : zS 95 5 [zR a0, zI a1, zI a2] [zR s0] sh pp mm Q ↔ zS 95 6 [zR a0, zI a1, zI a2] [zI 0, zR s0] sh pp mm Q := s_go cT_init_5 cT_init_6 rfl rfl
theorem rT_init_6 {a0 s1 : Nat} {a1 a2 s0 : Int} (hk : zKd sh s1 = 10) : zS 95 6 [zR a0, zI a1, zI a2] [zI s0, zR s1] sh pp mm Q ↔ zS 95 9 [zR a0, zI a1, zI a2] [] sh pp (zupd mm s1 3 s0) Q := s_go cT_init_6 cT_init_9 (if_pos ⟨hk, Or.inl rfl⟩) rfl
theorem rT_init_9 {a0 : Nat} {a1 a2 : Int} : zS 95 9 [zR a0, zI a1, zI a2] [] sh pp mm Q ↔ zS 95 10 [zR a0, zI a1, zI a2] [zR a0] sh pp mm Q := s_go cT_init_9 cT_init_10 rfl rfl
theorem rT_init_10 {a0 s0 : Nat} {a1 a2 : Int} : zS 95 10 [zR a0, zI a1, zI a2] [zR s0] sh pp mm Q ↔ zS 95 11 [zR a0, zI a1, zI a2] [zI a1, zR s0] sh pp mm Q := s_go cT_init_10 cT_init_11 rfl rfl
theorem rT_init_11 {a0 s1 : Nat} {a1 a2 s0 : Int} (hk : zKd sh s1 = 10) : zS 95 11 [zR a0, zI a1, zI a2] [zI s0, zR s1] sh pp mm Q ↔ zS 95 14 [zR a0, zI a1, zI a2] [] sh pp (zupd mm s1 1 s0) Q := s_go cT_init_11 cT_init_14 (if_pos ⟨hk, Or.inl rfl⟩) rfl
theorem rT_init_14 {a0 : Nat} {a1 a2 : Int} : zS 95 14 [zR a0, zI a1, zI a2] [] sh pp mm Q ↔ zS 95 15 [zR a0, zI a1, zI a2] [zR a0] sh pp mm Q := s_go cT_init_14 cT_init_15 rfl rfl
theorem rT_init_15 {a0 s0 : Nat} {a1 a2 : Int} : zS 95 15 [zR a0, zI a1, zI a2] [zR s0] sh pp mm Q ↔ zS 95 16 [zR a0, zI a1, zI a2] [zI a2, zR s0] sh pp mm Q := s_go cT_init_15 cT_init_16 rfl rfl
theorem rT_init_16 {a0 s1 : Nat} {a1 a2 s0 : Int} (hk : zKd sh s1 = 10) : zS 95 16 [zR a0, zI a1, zI a2] [zI s0, zR s1] sh pp mm Q ↔ zS 95 19 [zR a0, zI a1, zI a2] [] sh pp (zupd mm s1 0 s0) Q := s_go cT_init_16 cT_init_19 (if_pos ⟨hk, Or.inl rfl⟩) rfl
theorem rT_init_19 {a0 : Nat} {a1 a2 : Int} : zS 95 19 [zR a0, zI a1, zI a2] [] sh pp mm Q ↔ zS 95 20 [zU, zI a1, zI a2] [zR a0] sh pp mm Q := s_go cT_init_19 cT_init_20 rfl rfl
theorem rT_init_20 {s0 : Nat} {a1 a2 : Int} {u0 : zV} : zS 95 20 [u0, zI a1, zI a2] [zR s0] sh pp mm Q ↔ zS 95 21 [zU, zU, zI a2] [zI a1, zR s0] sh pp mm Q := s_go cT_init_20 cT_init_21 rfl rfl
theorem rT_init_21 {s1 : Nat} {a2 s0 : Int} {u0 u1 : zV} : zS 95 21 [u0, u1, zI a2] [zI s0, zR s1] sh pp mm Q ↔ zS 95 22 [zU, zU, zU] [zI a2, zI s0, zR s1] sh pp mm Q := s_go cT_init_21 cT_init_22 rfl rfl
theorem rT_init_22 {s2 : Nat} {s0 s1 : Int} {u0 u1 u2 : zV} : zS 95 22 [u0, u1, u2] [zI s0, zI s1, zR s2] sh pp mm Q ↔ zS 95 23 [zU, zU, zU] [zI (zw32 (s1 * s0)), zR s2] sh pp mm Q := s_go cT_init_22 cT_init_23 rfl rfl
theorem rT_init_23 {s1 : Nat} {s0 : Int} {u0 u1 u2 : zV} (h0 : 0 ≤ s0) (h1 : s0 ≤ 100000) : zS 95 23 [u0, u1, u2] [zI s0, zR s1] sh pp mm Q ↔ zS 95 25 [zU, zU, zU] [zR sh.length, zR s1] (sh ++ [(20, s0.toNat)]) (zclp pp sh.length) (zclr mm sh.length) Q := s_go cT_init_23 cT_init_25 (if_pos ⟨h0, h1⟩) rfl
theorem rT_init_25 {s0 s1 : Nat} {u0 u1 u2 : zV} (hk : zKd sh s1 = 10) : zS 95 25 [u0, u1, u2] [zR s0, zR s1] sh pp mm Q ↔ zS 95 28 [zU, zU, zU] [] sh (zupp pp s1 2 s0) mm Q := s_go cT_init_25 cT_init_28 (if_pos ⟨hk, rfl⟩) rfl
theorem rT_init_28 {u0 u1 u2 : zV} : zS 95 28 [u0, u1, u2] [] sh pp mm Q ↔ Q zU sh pp mm := s_ret cT_init_28 rfl
theorem cAT_isFull : ∀ q ∈ zT96, zCode 96 q.1 = some q.2 := zAll (mid := 96) rfl (by decide +kernel)
theorem cAT_isFull_0 : ∀ q ∈ zT96_0, zCode 96 q.1 = some q.2 := fun q h => cAT_isFull q (h)
theorem cT_isFull_0 : zCode 96 0 = some (.aload_n 0, 1, 0, 0, 0, 0, 1) := cAT_isFull_0 _ (List.mem_of_getElem? (i := 0) rfl)
theorem cT_isFull_1 : zCode 96 1 = some (.getfield 9, 4, 10, 3, 0, 141, 1) := cAT_isFull_0 _ (List.mem_of_getElem? (i := 1) rfl)
theorem cT_isFull_4 : zCode 96 4 = some (.aload_n 0, 5, 0, 0, 0, 0, 1) := cAT_isFull_0 _ (List.mem_of_getElem? (i := 2) rfl)
theorem cT_isFull_5 : zCode 96 5 = some (.getfield 15, 8, 10, 1, 0, 138, 0) := cAT_isFull_0 _ (List.mem_of_getElem? (i := 3) rfl)
theorem cT_isFull_8 : zCode 96 8 = some (.if_icmp .lt 7, 11, 15, 0, 0, 0, 0) := cAT_isFull_0 _ (List.mem_of_getElem? (i := 4) rfl)
theorem cT_isFull_11 : zCode 96 11 = some (.iconst 1, 12, 0, 0, 0, 0, 0) := cAT_isFull_0 _ (List.mem_of_getElem? (i := 5) rfl)
theorem cT_isFull_12 : zCode 96 12 = some (.goto 4, 15, 16, 0, 0, 0, 0) := cAT_isFull_0 _ (List.mem_of_getElem? (i := 6) rfl)
theorem cT_isFull_15 : zCode 96 15 = some (.iconst 0, 16, 0, 0, 0, 0, 0) := cAT_isFull_0 _ (List.mem_of_getElem? (i := 7) rfl)
theorem cT_isFull_16 : zCode 96 16 = some (.ireturn, 17, 0, 3, 0, 0, 0) := cAT_isFull_0 _ (List.mem_of_getElem? (i := 8) rfl)
theorem rT_isFull_0 {a0 : Nat} : zS 96 0 [zR a0] [] sh pp mm Q ↔ zS 96 1 [zR a0] [zR a0] sh pp mm Q := s_go cT_isFull_0 cT_isFull_1 rfl rfl
theorem rT_isFull_1 {a0 s0 : Nat} (hk : zKd sh s0 = 10) : zS 96 1 [zR a0] [zR s0] sh pp mm Q ↔ zS 96 4 [zR a0] [zI (mm s0 3)] sh pp mm Q := s_go cT_isFull_1 cT_isFull_4 (if_pos hk) rfl
theorem rT_isFull_4 {a0 : Nat} {s0 : Int} : zS 96 4 [zR a0] [zI s0] sh pp mm Q ↔ zS 96 5 [zU] [zR a0, zI s0] sh pp mm Q := s_go cT_isFull_4 cT_isFull_5 rfl rfl
theorem rT_isFull_5 {s0 : Nat} {s1 : Int} {u0 : zV} (hk : zKd sh s0 = 10) : zS 96 5 [u0] [zR s0, zI s1] sh pp mm Q ↔ zS 96 8 [zU] [zI (mm s0 1), zI s1] sh pp mm Q := s_go cT_isFull_5 cT_isFull_8 (if_pos hk) rfl
theorem rT_isFull_8 {s0 s1 : Int} {u0 : zV} : zS 96 8 [u0] [zI s0, zI s1] sh pp mm Q ↔ (s1 < s0 → zS 96 15 [zU] [] sh pp mm Q) ∧ (¬ s1 < s0 → zS 96 11 [zU] [] sh pp mm Q) := s_if cT_isFull_8 cT_isFull_15 cT_isFull_11 rfl rfl rfl
theorem rT_isFull_11 {u0 : zV} : zS 96 11 [u0] [] sh pp mm Q ↔ zS 96 12 [zU] [zI 1] sh pp mm Q := s_go cT_isFull_11 cT_isFull_12 rfl rfl
theorem rT_isFull_12 {s0 : Int} {u0 : zV} : zS 96 12 [u0] [zI s0] sh pp mm Q ↔ zS 96 16 [zU] [zI s0] sh pp mm Q := s_go cT_isFull_12 cT_isFull_16 rfl rfl
theorem rT_isFull_15 {u0 : zV} : zS 96 15 [u0] [] sh pp mm Q ↔ zS 96 16 [zU] [zI 0] sh pp mm Q := s_go cT_isFull_15 cT_isFull_16 rfl rfl
theorem rT_isFull_16 {s0 : Int} {u0 : zV} (hb : s0 = 0 ∨ s0 = 1) : zS 96 16 [u0] [zI s0] sh pp mm Q ↔ Q (zI s0) sh pp mm := s_ret cT_isFull_16 (if_pos (decide_eq_true hb))
theorem cAT_at : ∀ q ∈ zT97, zCode 97 q.1 = some q.2 := zAll (mid := 97) rfl (by decide +kernel)
theorem cAT_at_0 : ∀ q ∈ zT97_0, zCode 97 q.1 = some q.2 := fun q h => cAT_at q (List.mem_append_left _ h)
theorem cAT_at_1 : ∀ q ∈ zT97_1, zCode 97 q.1 = some q.2 := fun q h => cAT_at q (List.mem_append_right _ h)
theorem cT_at_0 : zCode 97 0 = some (.iload_n 1, 1, 0, 0, 0, 0, 7) := cAT_at_0 _ (List.mem_of_getElem? (i := 0) rfl)
theorem cT_at_1 : zCode 97 1 = some (.ifCond .lt 27, 4, 28, 0, 0, 0, 7) := cAT_at_0 _ (List.mem_of_getElem? (i := 1) rfl)
theorem cT_at_4 : zCode 97 4 = some (.iload_n 1, 5, 0, 0, 0, 0, 7) := cAT_at_0 _ (List.mem_of_getElem? (i := 2) rfl)
theorem cT_at_5 : zCode 97 5 = some (.aload_n 0, 6, 0, 0, 0, 0, 7) := cAT_at_0 _ (List.mem_of_getElem? (i := 3) rfl)
theorem cT_at_6 : zCode 97 6 = some (.getfield 9, 9, 10, 3, 0, 141, 7) := cAT_at_0 _ (List.mem_of_getElem? (i := 4) rfl)
theorem cT_at_9 : zCode 97 9 = some (.if_icmp .ge 19, 12, 28, 0, 0, 0, 7) := cAT_at_0 _ (List.mem_of_getElem? (i := 5) rfl)
theorem cT_at_12 : zCode 97 12 = some (.iload_n 2, 13, 0, 0, 0, 0, 7) := cAT_at_0 _ (List.mem_of_getElem? (i := 6) rfl)
theorem cT_at_13 : zCode 97 13 = some (.ifCond .lt 15, 16, 28, 0, 0, 0, 7) := cAT_at_0 _ (List.mem_of_getElem? (i := 7) rfl)
theorem cT_at_16 : zCode 97 16 = some (.iload_n 2, 17, 0, 0, 0, 0, 7) := cAT_at_0 _ (List.mem_of_getElem? (i := 8) rfl)
theorem cT_at_17 : zCode 97 17 = some (.aload_n 0, 18, 0, 0, 0, 0, 7) := cAT_at_0 _ (List.mem_of_getElem? (i := 9) rfl)
theorem cT_at_18 : zCode 97 18 = some (.getfield 18, 21, 10, 0, 0, 137, 7) := cAT_at_0 _ (List.mem_of_getElem? (i := 10) rfl)
theorem cT_at_21 : zCode 97 21 = some (.if_icmp .ge 7, 24, 28, 0, 0, 0, 7) := cAT_at_0 _ (List.mem_of_getElem? (i := 11) rfl)
theorem cT_at_24 : zCode 97 24 = some (.iconst 1, 25, 0, 0, 0, 0, 7) := cAT_at_0 _ (List.mem_of_getElem? (i := 12) rfl)
theorem cT_at_25 : zCode 97 25 = some (.goto 4, 28, 29, 0, 0, 0, 7) := cAT_at_0 _ (List.mem_of_getElem? (i := 13) rfl)
theorem cT_at_28 : zCode 97 28 = some (.iconst 0, 29, 0, 0, 0, 0, 7) := cAT_at_0 _ (List.mem_of_getElem? (i := 14) rfl)
theorem cT_at_29 : zCode 97 29 = some (.istore_n 3, 30, 0, 0, 0, 0, 7) := cAT_at_0 _ (List.mem_of_getElem? (i := 15) rfl)
theorem cT_at_30 : zCode 97 30 = some (.iload_n 3, 31, 0, 0, 0, 0, 15) := cAT_at_1 _ (List.mem_of_getElem? (i := 0) rfl)
theorem cT_at_31 : zCode 97 31 = some (.ifCond .eq 19, 34, 50, 0, 0, 0, 7) := cAT_at_1 _ (List.mem_of_getElem? (i := 1) rfl)
theorem cT_at_34 : zCode 97 34 = some (.aload_n 0, 35, 0, 0, 0, 0, 7) := cAT_at_1 _ (List.mem_of_getElem? (i := 2) rfl)
theorem cT_at_35 : zCode 97 35 = some (.getfield 21, 38, 10, 2, 2, 139, 7) := cAT_at_1 _ (List.mem_of_getElem? (i := 3) rfl)
theorem cT_at_38 : zCode 97 38 = some (.iload_n 1, 39, 0, 0, 0, 0, 7) := cAT_at_1 _ (List.mem_of_getElem? (i := 4) rfl)
theorem cT_at_39 : zCode 97 39 = some (.aload_n 0, 40, 0, 0, 0, 0, 5) := cAT_at_1 _ (List.mem_of_getElem? (i := 5) rfl)
theorem cT_at_40 : zCode 97 40 = some (.getfield 18, 43, 10, 0, 0, 137, 4) := cAT_at_1 _ (List.mem_of_getElem? (i := 6) rfl)
theorem cT_at_43 : zCode 97 43 = some (.imul, 44, 0, 0, 0, 0, 4) := cAT_at_1 _ (List.mem_of_getElem? (i := 7) rfl)
theorem cT_at_44 : zCode 97 44 = some (.iload_n 2, 45, 0, 0, 0, 0, 4) := cAT_at_1 _ (List.mem_of_getElem? (i := 8) rfl)
theorem cT_at_45 : zCode 97 45 = some (.iadd, 46, 0, 0, 0, 0, 0) := cAT_at_1 _ (List.mem_of_getElem? (i := 9) rfl)
theorem cT_at_46 : zCode 97 46 = some (.iaload, 47, 0, 0, 0, 0, 0) := cAT_at_1 _ (List.mem_of_getElem? (i := 10) rfl)
theorem cT_at_47 : zCode 97 47 = some (.goto 4, 50, 51, 0, 0, 0, 0) := cAT_at_1 _ (List.mem_of_getElem? (i := 11) rfl)
theorem cT_at_50 : zCode 97 50 = some (.iconst 0, 51, 0, 0, 0, 0, 0) := cAT_at_1 _ (List.mem_of_getElem? (i := 12) rfl)
theorem cT_at_51 : zCode 97 51 = some (.ireturn, 52, 0, 0, 0, 0, 0) := cAT_at_1 _ (List.mem_of_getElem? (i := 13) rfl)
theorem rT_at_0 {a0 : Nat} {a1 a2 : Int} {u3 : zV} : zS 97 0 [zR a0, zI a1, zI a2, u3] [] sh pp mm Q ↔ zS 97 1 [zR a0, zI a1, zI a2, zU] [zI a1] sh pp mm Q := s_go cT_at_0 cT_at_1 rfl rfl
theorem rT_at_1 {a0 : Nat} {a1 a2 s0 : Int} {u3 : zV} : zS 97 1 [zR a0, zI a1, zI a2, u3] [zI s0] sh pp mm Q ↔ (s0 < 0 → zS 97 28 [zR a0, zI a1, zI a2, zU] [] sh pp mm Q) ∧ (¬ s0 < 0 → zS 97 4 [zR a0, zI a1, zI a2, zU] [] sh pp mm Q) := s_if cT_at_1 cT_at_28 cT_at_4 rfl rfl rfl
theorem rT_at_4 {a0 : Nat} {a1 a2 : Int} {u3 : zV} : zS 97 4 [zR a0, zI a1, zI a2, u3] [] sh pp mm Q ↔ zS 97 5 [zR a0, zI a1, zI a2, zU] [zI a1] sh pp mm Q := s_go cT_at_4 cT_at_5 rfl rfl
theorem rT_at_5 {a0 : Nat} {a1 a2 s0 : Int} {u3 : zV} : zS 97 5 [zR a0, zI a1, zI a2, u3] [zI s0] sh pp mm Q ↔ zS 97 6 [zR a0, zI a1, zI a2, zU] [zR a0, zI s0] sh pp mm Q := s_go cT_at_5 cT_at_6 rfl rfl
theorem rT_at_6 {a0 s0 : Nat} {a1 a2 s1 : Int} {u3 : zV} (hk : zKd sh s0 = 10) : zS 97 6 [zR a0, zI a1, zI a2, u3] [zR s0, zI s1] sh pp mm Q ↔ zS 97 9 [zR a0, zI a1, zI a2, zU] [zI (mm s0 3), zI s1] sh pp mm Q := s_go cT_at_6 cT_at_9 (if_pos hk) rfl
theorem rT_at_9 {a0 : Nat} {a1 a2 s0 s1 : Int} {u3 : zV} : zS 97 9 [zR a0, zI a1, zI a2, u3] [zI s0, zI s1] sh pp mm Q ↔ (s1 < s0 → zS 97 12 [zR a0, zI a1, zI a2, zU] [] sh pp mm Q) ∧ (¬ s1 < s0 → zS 97 28 [zR a0, zI a1, zI a2, zU] [] sh pp mm Q) := s_ifn cT_at_9 cT_at_12 cT_at_28 rfl rfl rfl
theorem rT_at_12 {a0 : Nat} {a1 a2 : Int} {u3 : zV} : zS 97 12 [zR a0, zI a1, zI a2, u3] [] sh pp mm Q ↔ zS 97 13 [zR a0, zI a1, zI a2, zU] [zI a2] sh pp mm Q := s_go cT_at_12 cT_at_13 rfl rfl
theorem rT_at_13 {a0 : Nat} {a1 a2 s0 : Int} {u3 : zV} : zS 97 13 [zR a0, zI a1, zI a2, u3] [zI s0] sh pp mm Q ↔ (s0 < 0 → zS 97 28 [zR a0, zI a1, zI a2, zU] [] sh pp mm Q) ∧ (¬ s0 < 0 → zS 97 16 [zR a0, zI a1, zI a2, zU] [] sh pp mm Q) := s_if cT_at_13 cT_at_28 cT_at_16 rfl rfl rfl
theorem rT_at_16 {a0 : Nat} {a1 a2 : Int} {u3 : zV} : zS 97 16 [zR a0, zI a1, zI a2, u3] [] sh pp mm Q ↔ zS 97 17 [zR a0, zI a1, zI a2, zU] [zI a2] sh pp mm Q := s_go cT_at_16 cT_at_17 rfl rfl
theorem rT_at_17 {a0 : Nat} {a1 a2 s0 : Int} {u3 : zV} : zS 97 17 [zR a0, zI a1, zI a2, u3] [zI s0] sh pp mm Q ↔ zS 97 18 [zR a0, zI a1, zI a2, zU] [zR a0, zI s0] sh pp mm Q := s_go cT_at_17 cT_at_18 rfl rfl
theorem rT_at_18 {a0 s0 : Nat} {a1 a2 s1 : Int} {u3 : zV} (hk : zKd sh s0 = 10) : zS 97 18 [zR a0, zI a1, zI a2, u3] [zR s0, zI s1] sh pp mm Q ↔ zS 97 21 [zR a0, zI a1, zI a2, zU] [zI (mm s0 0), zI s1] sh pp mm Q := s_go cT_at_18 cT_at_21 (if_pos hk) rfl
theorem rT_at_21 {a0 : Nat} {a1 a2 s0 s1 : Int} {u3 : zV} : zS 97 21 [zR a0, zI a1, zI a2, u3] [zI s0, zI s1] sh pp mm Q ↔ (s1 < s0 → zS 97 24 [zR a0, zI a1, zI a2, zU] [] sh pp mm Q) ∧ (¬ s1 < s0 → zS 97 28 [zR a0, zI a1, zI a2, zU] [] sh pp mm Q) := s_ifn cT_at_21 cT_at_24 cT_at_28 rfl rfl rfl
theorem rT_at_24 {a0 : Nat} {a1 a2 : Int} {u3 : zV} : zS 97 24 [zR a0, zI a1, zI a2, u3] [] sh pp mm Q ↔ zS 97 25 [zR a0, zI a1, zI a2, zU] [zI 1] sh pp mm Q := s_go cT_at_24 cT_at_25 rfl rfl
theorem rT_at_25 {a0 : Nat} {a1 a2 s0 : Int} {u3 : zV} : zS 97 25 [zR a0, zI a1, zI a2, u3] [zI s0] sh pp mm Q ↔ zS 97 29 [zR a0, zI a1, zI a2, zU] [zI s0] sh pp mm Q := s_go cT_at_25 cT_at_29 rfl rfl
theorem rT_at_28 {a0 : Nat} {a1 a2 : Int} {u3 : zV} : zS 97 28 [zR a0, zI a1, zI a2, u3] [] sh pp mm Q ↔ zS 97 29 [zR a0, zI a1, zI a2, zU] [zI 0] sh pp mm Q := s_go cT_at_28 cT_at_29 rfl rfl
theorem rT_at_29 {a0 : Nat} {a1 a2 s0 : Int} {u3 : zV} : zS 97 29 [zR a0, zI a1, zI a2, u3] [zI s0] sh pp mm Q ↔ zS 97 30 [zR a0, zI a1, zI a2, zI s0] [] sh pp mm Q := s_go cT_at_29 cT_at_30 rfl rfl
theorem rT_at_30 {a0 : Nat} {a1 a2 a3 : Int} : zS 97 30 [zR a0, zI a1, zI a2, zI a3] [] sh pp mm Q ↔ zS 97 31 [zR a0, zI a1, zI a2, zU] [zI a3] sh pp mm Q := s_go cT_at_30 cT_at_31 rfl rfl
theorem rT_at_31 {a0 : Nat} {a1 a2 s0 : Int} {u3 : zV} : zS 97 31 [zR a0, zI a1, zI a2, u3] [zI s0] sh pp mm Q ↔ (s0 = 0 → zS 97 50 [zU, zU, zU, zU] [] sh pp mm Q) ∧ (¬ s0 = 0 → zS 97 34 [zR a0, zI a1, zI a2, zU] [] sh pp mm Q) := s_if cT_at_31 cT_at_50 cT_at_34 rfl rfl rfl
theorem rT_at_34 {a0 : Nat} {a1 a2 : Int} {u3 : zV} : zS 97 34 [zR a0, zI a1, zI a2, u3] [] sh pp mm Q ↔ zS 97 35 [zR a0, zI a1, zI a2, zU] [zR a0] sh pp mm Q := s_go cT_at_34 cT_at_35 rfl rfl
theorem rT_at_35 {a0 s0 : Nat} {a1 a2 : Int} {u3 : zV} (hk : zKd sh s0 = 10) : zS 97 35 [zR a0, zI a1, zI a2, u3] [zR s0] sh pp mm Q ↔ zS 97 38 [zR a0, zI a1, zI a2, zU] [zR (pp s0 2)] sh pp mm Q := s_go cT_at_35 cT_at_38 (if_pos hk) rfl
theorem rT_at_38 {a0 s0 : Nat} {a1 a2 : Int} {u3 : zV} : zS 97 38 [zR a0, zI a1, zI a2, u3] [zR s0] sh pp mm Q ↔ zS 97 39 [zR a0, zU, zI a2, zU] [zI a1, zR s0] sh pp mm Q := s_go cT_at_38 cT_at_39 rfl rfl
theorem rT_at_39 {a0 s1 : Nat} {a2 s0 : Int} {u1 u3 : zV} : zS 97 39 [zR a0, u1, zI a2, u3] [zI s0, zR s1] sh pp mm Q ↔ zS 97 40 [zU, zU, zI a2, zU] [zR a0, zI s0, zR s1] sh pp mm Q := s_go cT_at_39 cT_at_40 rfl rfl
theorem rT_at_40 {s0 s2 : Nat} {a2 s1 : Int} {u0 u1 u3 : zV} (hk : zKd sh s0 = 10) : zS 97 40 [u0, u1, zI a2, u3] [zR s0, zI s1, zR s2] sh pp mm Q ↔ zS 97 43 [zU, zU, zI a2, zU] [zI (mm s0 0), zI s1, zR s2] sh pp mm Q := s_go cT_at_40 cT_at_43 (if_pos hk) rfl
theorem rT_at_43 {s2 : Nat} {a2 s0 s1 : Int} {u0 u1 u3 : zV} : zS 97 43 [u0, u1, zI a2, u3] [zI s0, zI s1, zR s2] sh pp mm Q ↔ zS 97 44 [zU, zU, zI a2, zU] [zI (zw32 (s1 * s0)), zR s2] sh pp mm Q := s_go cT_at_43 cT_at_44 rfl rfl
theorem rT_at_44 {s1 : Nat} {a2 s0 : Int} {u0 u1 u3 : zV} : zS 97 44 [u0, u1, zI a2, u3] [zI s0, zR s1] sh pp mm Q ↔ zS 97 45 [zU, zU, zU, zU] [zI a2, zI s0, zR s1] sh pp mm Q := s_go cT_at_44 cT_at_45 rfl rfl
theorem rT_at_45 {s2 : Nat} {s0 s1 : Int} {u0 u1 u2 u3 : zV} : zS 97 45 [u0, u1, u2, u3] [zI s0, zI s1, zR s2] sh pp mm Q ↔ zS 97 46 [zU, zU, zU, zU] [zI (zw32 (s1 + s0)), zR s2] sh pp mm Q := s_go cT_at_45 cT_at_46 rfl rfl
theorem rT_at_46 {s1 : Nat} {s0 : Int} {u0 u1 u2 u3 : zV} (hk : zKd sh s1 = 20 ∨ zKd sh s1 = 30) (h0 : 0 ≤ s0) (h1 : s0 < zLn sh s1) : zS 97 46 [u0, u1, u2, u3] [zI s0, zR s1] sh pp mm Q ↔ zS 97 47 [zU, zU, zU, zU] [zI (mm s1 s0)] sh pp mm Q := s_go cT_at_46 cT_at_47 (if_pos ⟨hk, h0, h1⟩) rfl
theorem rT_at_47 {s0 : Int} {u0 u1 u2 u3 : zV} : zS 97 47 [u0, u1, u2, u3] [zI s0] sh pp mm Q ↔ zS 97 51 [zU, zU, zU, zU] [zI s0] sh pp mm Q := s_go cT_at_47 cT_at_51 rfl rfl
theorem rT_at_50 {u0 u1 u2 u3 : zV} : zS 97 50 [u0, u1, u2, u3] [] sh pp mm Q ↔ zS 97 51 [zU, zU, zU, zU] [zI 0] sh pp mm Q := s_go cT_at_50 cT_at_51 rfl rfl
theorem rT_at_51 {s0 : Int} {u0 u1 u2 u3 : zV} : zS 97 51 [u0, u1, u2, u3] [zI s0] sh pp mm Q ↔ Q (zI s0) sh pp mm := s_ret cT_at_51 rfl
theorem cAT_add : ∀ q ∈ zT98, zCode 98 q.1 = some q.2 := zAll (mid := 98) rfl (by decide +kernel)
theorem cAT_add_0 : ∀ q ∈ zT98_0, zCode 98 q.1 = some q.2 := fun q h => cAT_add q (List.mem_append_left _ h)
theorem cAT_add_1 : ∀ q ∈ zT98_1, zCode 98 q.1 = some q.2 := fun q h => cAT_add q (List.mem_append_right _ (List.mem_append_left _ h))
theorem cAT_add_2 : ∀ q ∈ zT98_2, zCode 98 q.1 = some q.2 := fun q h => cAT_add q (List.mem_append_right _ (List.mem_append_right _ (List.mem_append_left _ h)))
theorem cAT_add_3 : ∀ q ∈ zT98_3, zCode 98 q.1 = some q.2 := fun q h => cAT_add q (List.mem_append_right _ (List.mem_append_right _ (List.mem_append_right _ h)))
theorem cT_add_0 : zCode 98 0 = some (.aload_n 0, 1, 0, 0, 0, 0, 15) := cAT_add_0 _ (List.mem_of_getElem? (i := 0) rfl)
theorem cT_add_1 : zCode 98 1 = some (.invokevirtual 25, 4, 96, 0, 1, 10, 15) := cAT_add_0 _ (List.mem_of_getElem? (i := 1) rfl)
theorem cT_add_4 : zCode 98 4 = some (.ifCond .eq 6, 7, 10, 0, 0, 0, 15) := cAT_add_0 _ (List.mem_of_getElem? (i := 2) rfl)
theorem cT_add_7 : zCode 98 7 = some (.bipush (-4), 9, 0, 0, 0, 0, 0) := cAT_add_0 _ (List.mem_of_getElem? (i := 3) rfl)
theorem cT_add_9 : zCode 98 9 = some (.ireturn, 10, 0, 0, 0, 0, 0) := cAT_add_0 _ (List.mem_of_getElem? (i := 4) rfl)
theorem cT_add_10 : zCode 98 10 = some (.aload_n 0, 11, 0, 0, 0, 0, 15) := cAT_add_0 _ (List.mem_of_getElem? (i := 5) rfl)
theorem cT_add_11 : zCode 98 11 = some (.getfield 9, 14, 10, 3, 0, 141, 15) := cAT_add_0 _ (List.mem_of_getElem? (i := 6) rfl)
theorem cT_add_14 : zCode 98 14 = some (.aload_n 0, 15, 0, 0, 0, 0, 15) := cAT_add_0 _ (List.mem_of_getElem? (i := 7) rfl)
theorem cT_add_15 : zCode 98 15 = some (.getfield 18, 18, 10, 0, 0, 137, 15) := cAT_add_0 _ (List.mem_of_getElem? (i := 8) rfl)
theorem cT_add_18 : zCode 98 18 = some (.imul, 19, 0, 0, 0, 0, 15) := cAT_add_0 _ (List.mem_of_getElem? (i := 9) rfl)
theorem cT_add_19 : zCode 98 19 = some (.istore 4, 21, 0, 0, 0, 0, 15) := cAT_add_0 _ (List.mem_of_getElem? (i := 10) rfl)
theorem cT_add_21 : zCode 98 21 = some (.aload_n 0, 22, 0, 0, 0, 0, 31) := cAT_add_0 _ (List.mem_of_getElem? (i := 11) rfl)
theorem cT_add_22 : zCode 98 22 = some (.getfield 21, 25, 10, 2, 2, 139, 31) := cAT_add_0 _ (List.mem_of_getElem? (i := 12) rfl)
theorem cT_add_25 : zCode 98 25 = some (.iload 4, 27, 0, 0, 0, 0, 31) := cAT_add_0 _ (List.mem_of_getElem? (i := 13) rfl)
theorem cT_add_27 : zCode 98 27 = some (.iload_n 1, 28, 0, 0, 0, 0, 31) := cAT_add_0 _ (List.mem_of_getElem? (i := 14) rfl)
theorem cT_add_28 : zCode 98 28 = some (.iastore, 29, 0, 0, 0, 0, 29) := cAT_add_0 _ (List.mem_of_getElem? (i := 15) rfl)
theorem cT_add_29 : zCode 98 29 = some (.aload_n 0, 30, 0, 0, 0, 0, 29) := cAT_add_1 _ (List.mem_of_getElem? (i := 0) rfl)
theorem cT_add_30 : zCode 98 30 = some (.getfield 18, 33, 10, 0, 0, 137, 29) := cAT_add_1 _ (List.mem_of_getElem? (i := 1) rfl)
theorem cT_add_33 : zCode 98 33 = some (.iconst 1, 34, 0, 0, 0, 0, 29) := cAT_add_1 _ (List.mem_of_getElem? (i := 2) rfl)
theorem cT_add_34 : zCode 98 34 = some (.if_icmp .le 13, 37, 47, 0, 0, 0, 29) := cAT_add_1 _ (List.mem_of_getElem? (i := 3) rfl)
theorem cT_add_37 : zCode 98 37 = some (.aload_n 0, 38, 0, 0, 0, 0, 29) := cAT_add_1 _ (List.mem_of_getElem? (i := 4) rfl)
theorem cT_add_38 : zCode 98 38 = some (.getfield 21, 41, 10, 2, 2, 139, 29) := cAT_add_1 _ (List.mem_of_getElem? (i := 5) rfl)
theorem cT_add_41 : zCode 98 41 = some (.iload 4, 43, 0, 0, 0, 0, 29) := cAT_add_1 _ (List.mem_of_getElem? (i := 6) rfl)
theorem cT_add_43 : zCode 98 43 = some (.iconst 1, 44, 0, 0, 0, 0, 29) := cAT_add_1 _ (List.mem_of_getElem? (i := 7) rfl)
theorem cT_add_44 : zCode 98 44 = some (.iadd, 45, 0, 0, 0, 0, 29) := cAT_add_1 _ (List.mem_of_getElem? (i := 8) rfl)
theorem cT_add_45 : zCode 98 45 = some (.iload_n 2, 46, 0, 0, 0, 0, 29) := cAT_add_1 _ (List.mem_of_getElem? (i := 9) rfl)
theorem cT_add_46 : zCode 98 46 = some (.iastore, 47, 0, 0, 0, 0, 25) := cAT_add_1 _ (List.mem_of_getElem? (i := 10) rfl)
theorem cT_add_47 : zCode 98 47 = some (.aload_n 0, 48, 0, 0, 0, 0, 25) := cAT_add_1 _ (List.mem_of_getElem? (i := 11) rfl)
theorem cT_add_48 : zCode 98 48 = some (.getfield 18, 51, 10, 0, 0, 137, 25) := cAT_add_1 _ (List.mem_of_getElem? (i := 12) rfl)
theorem cT_add_51 : zCode 98 51 = some (.iconst 2, 52, 0, 0, 0, 0, 25) := cAT_add_1 _ (List.mem_of_getElem? (i := 13) rfl)
theorem cT_add_52 : zCode 98 52 = some (.if_icmp .le 13, 55, 65, 0, 0, 0, 25) := cAT_add_1 _ (List.mem_of_getElem? (i := 14) rfl)
theorem cT_add_55 : zCode 98 55 = some (.aload_n 0, 56, 0, 0, 0, 0, 25) := cAT_add_1 _ (List.mem_of_getElem? (i := 15) rfl)
theorem cT_add_56 : zCode 98 56 = some (.getfield 21, 59, 10, 2, 2, 139, 25) := cAT_add_2 _ (List.mem_of_getElem? (i := 0) rfl)
theorem cT_add_59 : zCode 98 59 = some (.iload 4, 61, 0, 0, 0, 0, 25) := cAT_add_2 _ (List.mem_of_getElem? (i := 1) rfl)
theorem cT_add_61 : zCode 98 61 = some (.iconst 2, 62, 0, 0, 0, 0, 9) := cAT_add_2 _ (List.mem_of_getElem? (i := 2) rfl)
theorem cT_add_62 : zCode 98 62 = some (.iadd, 63, 0, 0, 0, 0, 9) := cAT_add_2 _ (List.mem_of_getElem? (i := 3) rfl)
theorem cT_add_63 : zCode 98 63 = some (.iload_n 3, 64, 0, 0, 0, 0, 9) := cAT_add_2 _ (List.mem_of_getElem? (i := 4) rfl)
theorem cT_add_64 : zCode 98 64 = some (.iastore, 65, 0, 0, 0, 0, 1) := cAT_add_2 _ (List.mem_of_getElem? (i := 5) rfl)
theorem cT_add_65 : zCode 98 65 = some (.aload_n 0, 66, 0, 0, 0, 0, 1) := cAT_add_2 _ (List.mem_of_getElem? (i := 6) rfl)
theorem cT_add_66 : zCode 98 66 = some (.dup, 67, 0, 0, 0, 0, 1) := cAT_add_2 _ (List.mem_of_getElem? (i := 7) rfl)
theorem cT_add_67 : zCode 98 67 = some (.getfield 9, 70, 10, 3, 0, 141, 1) := cAT_add_2 _ (List.mem_of_getElem? (i := 8) rfl)
theorem cT_add_70 : zCode 98 70 = some (.iconst 1, 71, 0, 0, 0, 0, 1) := cAT_add_2 _ (List.mem_of_getElem? (i := 9) rfl)
theorem cT_add_71 : zCode 98 71 = some (.iadd, 72, 0, 0, 0, 0, 1) := cAT_add_2 _ (List.mem_of_getElem? (i := 10) rfl)
theorem cT_add_72 : zCode 98 72 = some (.putfield 9, 75, 10, 3, 0, 141, 1) := cAT_add_2 _ (List.mem_of_getElem? (i := 11) rfl)
theorem cT_add_75 : zCode 98 75 = some (.aload_n 0, 76, 0, 0, 0, 0, 1) := cAT_add_2 _ (List.mem_of_getElem? (i := 12) rfl)
theorem cT_add_76 : zCode 98 76 = some (.getfield 9, 79, 10, 3, 0, 141, 0) := cAT_add_2 _ (List.mem_of_getElem? (i := 13) rfl)
theorem cT_add_79 : zCode 98 79 = some (.iconst 1, 80, 0, 0, 0, 0, 0) := cAT_add_2 _ (List.mem_of_getElem? (i := 14) rfl)
theorem cT_add_80 : zCode 98 80 = some (.isub, 81, 0, 0, 0, 0, 0) := cAT_add_2 _ (List.mem_of_getElem? (i := 15) rfl)
theorem cT_add_81 : zCode 98 81 = some (.ireturn, 82, 0, 0, 0, 0, 0) := cAT_add_3 _ (List.mem_of_getElem? (i := 0) rfl)
theorem rT_add_0 {a0 : Nat} {a1 a2 a3 : Int} {u4 : zV} : zS 98 0 [zR a0, zI a1, zI a2, zI a3, u4] [] sh pp mm Q ↔ zS 98 1 [zR a0, zI a1, zI a2, zI a3, zU] [zR a0] sh pp mm Q := s_go cT_add_0 cT_add_1 rfl rfl
theorem rT_add_1 {a0 s0 : Nat} {a1 a2 a3 : Int} {u4 : zV} (hk : zKd sh s0 = 10) : zS 98 1 [zR a0, zI a1, zI a2, zI a3, u4] [zR s0] sh pp mm Q ↔ zS 96 0 [zR s0] [] sh pp mm (fun v sh pp mm => zS 98 4 [zR a0, zI a1, zI a2, zI a3, zU] (zPush v []) sh pp mm Q) := s_call cT_add_1 cT_add_4 ((if_pos hk).trans rfl) rfl
theorem rT_add_4 {a0 : Nat} {a1 a2 a3 s0 : Int} {u4 : zV} : zS 98 4 [zR a0, zI a1, zI a2, zI a3, u4] [zI s0] sh pp mm Q ↔ (s0 = 0 → zS 98 10 [zR a0, zI a1, zI a2, zI a3, zU] [] sh pp mm Q) ∧ (¬ s0 = 0 → zS 98 7 [zU, zU, zU, zU, zU] [] sh pp mm Q) := s_if cT_add_4 cT_add_10 cT_add_7 rfl rfl rfl
theorem rT_add_7 {u0 u1 u2 u3 u4 : zV} : zS 98 7 [u0, u1, u2, u3, u4] [] sh pp mm Q ↔ zS 98 9 [zU, zU, zU, zU, zU] [zI (-4)] sh pp mm Q := s_go cT_add_7 cT_add_9 rfl rfl
theorem rT_add_9 {s0 : Int} {u0 u1 u2 u3 u4 : zV} : zS 98 9 [u0, u1, u2, u3, u4] [zI s0] sh pp mm Q ↔ Q (zI s0) sh pp mm := s_ret cT_add_9 rfl
theorem rT_add_10 {a0 : Nat} {a1 a2 a3 : Int} {u4 : zV} : zS 98 10 [zR a0, zI a1, zI a2, zI a3, u4] [] sh pp mm Q ↔ zS 98 11 [zR a0, zI a1, zI a2, zI a3, zU] [zR a0] sh pp mm Q := s_go cT_add_10 cT_add_11 rfl rfl
theorem rT_add_11 {a0 s0 : Nat} {a1 a2 a3 : Int} {u4 : zV} (hk : zKd sh s0 = 10) : zS 98 11 [zR a0, zI a1, zI a2, zI a3, u4] [zR s0] sh pp mm Q ↔ zS 98 14 [zR a0, zI a1, zI a2, zI a3, zU] [zI (mm s0 3)] sh pp mm Q := s_go cT_add_11 cT_add_14 (if_pos hk) rfl
theorem rT_add_14 {a0 : Nat} {a1 a2 a3 s0 : Int} {u4 : zV} : zS 98 14 [zR a0, zI a1, zI a2, zI a3, u4] [zI s0] sh pp mm Q ↔ zS 98 15 [zR a0, zI a1, zI a2, zI a3, zU] [zR a0, zI s0] sh pp mm Q := s_go cT_add_14 cT_add_15 rfl rfl
theorem rT_add_15 {a0 s0 : Nat} {a1 a2 a3 s1 : Int} {u4 : zV} (hk : zKd sh s0 = 10) : zS 98 15 [zR a0, zI a1, zI a2, zI a3, u4] [zR s0, zI s1] sh pp mm Q ↔ zS 98 18 [zR a0, zI a1, zI a2, zI a3, zU] [zI (mm s0 0), zI s1] sh pp mm Q := s_go cT_add_15 cT_add_18 (if_pos hk) rfl
theorem rT_add_18 {a0 : Nat} {a1 a2 a3 s0 s1 : Int} {u4 : zV} : zS 98 18 [zR a0, zI a1, zI a2, zI a3, u4] [zI s0, zI s1] sh pp mm Q ↔ zS 98 19 [zR a0, zI a1, zI a2, zI a3, zU] [zI (zw32 (s1 * s0))] sh pp mm Q := s_go cT_add_18 cT_add_19 rfl rfl
theorem rT_add_19 {a0 : Nat} {a1 a2 a3 s0 : Int} {u4 : zV} : zS 98 19 [zR a0, zI a1, zI a2, zI a3, u4] [zI s0] sh pp mm Q ↔ zS 98 21 [zR a0, zI a1, zI a2, zI a3, zI s0] [] sh pp mm Q := s_go cT_add_19 cT_add_21 rfl rfl
theorem rT_add_21 {a0 : Nat} {a1 a2 a3 a4 : Int} : zS 98 21 [zR a0, zI a1, zI a2, zI a3, zI a4] [] sh pp mm Q ↔ zS 98 22 [zR a0, zI a1, zI a2, zI a3, zI a4] [zR a0] sh pp mm Q := s_go cT_add_21 cT_add_22 rfl rfl
theorem rT_add_22 {a0 s0 : Nat} {a1 a2 a3 a4 : Int} (hk : zKd sh s0 = 10) : zS 98 22 [zR a0, zI a1, zI a2, zI a3, zI a4] [zR s0] sh pp mm Q ↔ zS 98 25 [zR a0, zI a1, zI a2, zI a3, zI a4] [zR (pp s0 2)] sh pp mm Q := s_go cT_add_22 cT_add_25 (if_pos hk) rfl
theorem rT_add_25 {a0 s0 : Nat} {a1 a2 a3 a4 : Int} : zS 98 25 [zR a0, zI a1, zI a2, zI a3, zI a4] [zR s0] sh pp mm Q ↔ zS 98 27 [zR a0, zI a1, zI a2, zI a3, zI a4] [zI a4, zR s0] sh pp mm Q := s_go cT_add_25 cT_add_27 rfl rfl
theorem rT_add_27 {a0 s1 : Nat} {a1 a2 a3 a4 s0 : Int} : zS 98 27 [zR a0, zI a1, zI a2, zI a3, zI a4] [zI s0, zR s1] sh pp mm Q ↔ zS 98 28 [zR a0, zU, zI a2, zI a3, zI a4] [zI a1, zI s0, zR s1] sh pp mm Q := s_go cT_add_27 cT_add_28 rfl rfl
theorem rT_add_28 {a0 s2 : Nat} {a2 a3 a4 s0 s1 : Int} {u1 : zV} (hk : zKd sh s2 = 20) (h0 : 0 ≤ s1) (h1 : s1 < zLn sh s2) : zS 98 28 [zR a0, u1, zI a2, zI a3, zI a4] [zI s0, zI s1, zR s2] sh pp mm Q ↔ zS 98 29 [zR a0, zU, zI a2, zI a3, zI a4] [] sh pp (zupd mm s2 s1 s0) Q := s_go cT_add_28 cT_add_29 (if_pos ⟨hk, h0, h1, fun h => absurd h (by decide)⟩) rfl
theorem rT_add_29 {a0 : Nat} {a2 a3 a4 : Int} {u1 : zV} : zS 98 29 [zR a0, u1, zI a2, zI a3, zI a4] [] sh pp mm Q ↔ zS 98 30 [zR a0, zU, zI a2, zI a3, zI a4] [zR a0] sh pp mm Q := s_go cT_add_29 cT_add_30 rfl rfl
theorem rT_add_30 {a0 s0 : Nat} {a2 a3 a4 : Int} {u1 : zV} (hk : zKd sh s0 = 10) : zS 98 30 [zR a0, u1, zI a2, zI a3, zI a4] [zR s0] sh pp mm Q ↔ zS 98 33 [zR a0, zU, zI a2, zI a3, zI a4] [zI (mm s0 0)] sh pp mm Q := s_go cT_add_30 cT_add_33 (if_pos hk) rfl
theorem rT_add_33 {a0 : Nat} {a2 a3 a4 s0 : Int} {u1 : zV} : zS 98 33 [zR a0, u1, zI a2, zI a3, zI a4] [zI s0] sh pp mm Q ↔ zS 98 34 [zR a0, zU, zI a2, zI a3, zI a4] [zI 1, zI s0] sh pp mm Q := s_go cT_add_33 cT_add_34 rfl rfl
theorem rT_add_34 {a0 : Nat} {a2 a3 a4 s0 s1 : Int} {u1 : zV} : zS 98 34 [zR a0, u1, zI a2, zI a3, zI a4] [zI s0, zI s1] sh pp mm Q ↔ (s0 < s1 → zS 98 37 [zR a0, zU, zI a2, zI a3, zI a4] [] sh pp mm Q) ∧ (¬ s0 < s1 → zS 98 47 [zR a0, zU, zU, zI a3, zI a4] [] sh pp mm Q) := s_ifn cT_add_34 cT_add_37 cT_add_47 rfl rfl rfl
theorem rT_add_37 {a0 : Nat} {a2 a3 a4 : Int} {u1 : zV} : zS 98 37 [zR a0, u1, zI a2, zI a3, zI a4] [] sh pp mm Q ↔ zS 98 38 [zR a0, zU, zI a2, zI a3, zI a4] [zR a0] sh pp mm Q := s_go cT_add_37 cT_add_38 rfl rfl
theorem rT_add_38 {a0 s0 : Nat} {a2 a3 a4 : Int} {u1 : zV} (hk : zKd sh s0 = 10) : zS 98 38 [zR a0, u1, zI a2, zI a3, zI a4] [zR s0] sh pp mm Q ↔ zS 98 41 [zR a0, zU, zI a2, zI a3, zI a4] [zR (pp s0 2)] sh pp mm Q := s_go cT_add_38 cT_add_41 (if_pos hk) rfl
theorem rT_add_41 {a0 s0 : Nat} {a2 a3 a4 : Int} {u1 : zV} : zS 98 41 [zR a0, u1, zI a2, zI a3, zI a4] [zR s0] sh pp mm Q ↔ zS 98 43 [zR a0, zU, zI a2, zI a3, zI a4] [zI a4, zR s0] sh pp mm Q := s_go cT_add_41 cT_add_43 rfl rfl
theorem rT_add_43 {a0 s1 : Nat} {a2 a3 a4 s0 : Int} {u1 : zV} : zS 98 43 [zR a0, u1, zI a2, zI a3, zI a4] [zI s0, zR s1] sh pp mm Q ↔ zS 98 44 [zR a0, zU, zI a2, zI a3, zI a4] [zI 1, zI s0, zR s1] sh pp mm Q := s_go cT_add_43 cT_add_44 rfl rfl
theorem rT_add_44 {a0 s2 : Nat} {a2 a3 a4 s0 s1 : Int} {u1 : zV} : zS 98 44 [zR a0, u1, zI a2, zI a3, zI a4] [zI s0, zI s1, zR s2] sh pp mm Q ↔ zS 98 45 [zR a0, zU, zI a2, zI a3, zI a4] [zI (zw32 (s1 + s0)), zR s2] sh pp mm Q := s_go cT_add_44 cT_add_45 rfl rfl
theorem rT_add_45 {a0 s1 : Nat} {a2 a3 a4 s0 : Int} {u1 : zV} : zS 98 45 [zR a0, u1, zI a2, zI a3, zI a4] [zI s0, zR s1] sh pp mm Q ↔ zS 98 46 [zR a0, zU, zU, zI a3, zI a4] [zI a2, zI s0, zR s1] sh pp mm Q := s_go cT_add_45 cT_add_46 rfl rfl
theorem rT_add_46 {a0 s2 : Nat} {a3 a4 s0 s1 : Int} {u1 u2 : zV} (hk : zKd sh s2 = 20) (h0 : 0 ≤ s1) (h1 : s1 < zLn sh s2) : zS 98 46 [zR a0, u1, u2, zI a3, zI a4] [zI s0, zI s1, zR s2] sh pp mm Q ↔ zS 98 47 [zR a0, zU, zU, zI a3, zI a4] [] sh pp (zupd mm s2 s1 s0) Q := s_go cT_add_46 cT_add_47 (if_pos ⟨hk, h0, h1, fun h => absurd h (by decide)⟩) rfl
theorem rT_add_47 {a0 : Nat} {a3 a4 : Int} {u1 u2 : zV} : zS 98 47 [zR a0, u1, u2, zI a3, zI a4] [] sh pp mm Q ↔ zS 98 48 [zR a0, zU, zU, zI a3, zI a4] [zR a0] sh pp mm Q := s_go cT_add_47 cT_add_48 rfl rfl
theorem rT_add_48 {a0 s0 : Nat} {a3 a4 : Int} {u1 u2 : zV} (hk : zKd sh s0 = 10) : zS 98 48 [zR a0, u1, u2, zI a3, zI a4] [zR s0] sh pp mm Q ↔ zS 98 51 [zR a0, zU, zU, zI a3, zI a4] [zI (mm s0 0)] sh pp mm Q := s_go cT_add_48 cT_add_51 (if_pos hk) rfl
theorem rT_add_51 {a0 : Nat} {a3 a4 s0 : Int} {u1 u2 : zV} : zS 98 51 [zR a0, u1, u2, zI a3, zI a4] [zI s0] sh pp mm Q ↔ zS 98 52 [zR a0, zU, zU, zI a3, zI a4] [zI 2, zI s0] sh pp mm Q := s_go cT_add_51 cT_add_52 rfl rfl
theorem rT_add_52 {a0 : Nat} {a3 a4 s0 s1 : Int} {u1 u2 : zV} : zS 98 52 [zR a0, u1, u2, zI a3, zI a4] [zI s0, zI s1] sh pp mm Q ↔ (s0 < s1 → zS 98 55 [zR a0, zU, zU, zI a3, zI a4] [] sh pp mm Q) ∧ (¬ s0 < s1 → zS 98 65 [zR a0, zU, zU, zU, zU] [] sh pp mm Q) := s_ifn cT_add_52 cT_add_55 cT_add_65 rfl rfl rfl
theorem rT_add_55 {a0 : Nat} {a3 a4 : Int} {u1 u2 : zV} : zS 98 55 [zR a0, u1, u2, zI a3, zI a4] [] sh pp mm Q ↔ zS 98 56 [zR a0, zU, zU, zI a3, zI a4] [zR a0] sh pp mm Q := s_go cT_add_55 cT_add_56 rfl rfl
theorem rT_add_56 {a0 s0 : Nat} {a3 a4 : Int} {u1 u2 : zV} (hk : zKd sh s0 = 10) : zS 98 56 [zR a0, u1, u2, zI a3, zI a4] [zR s0] sh pp mm Q ↔ zS 98 59 [zR a0, zU, zU, zI a3, zI a4] [zR (pp s0 2)] sh pp mm Q := s_go cT_add_56 cT_add_59 (if_pos hk) rfl
theorem rT_add_59 {a0 s0 : Nat} {a3 a4 : Int} {u1 u2 : zV} : zS 98 59 [zR a0, u1, u2, zI a3, zI a4] [zR s0] sh pp mm Q ↔ zS 98 61 [zR a0, zU, zU, zI a3, zU] [zI a4, zR s0] sh pp mm Q := s_go cT_add_59 cT_add_61 rfl rfl
theorem rT_add_61 {a0 s1 : Nat} {a3 s0 : Int} {u1 u2 u4 : zV} : zS 98 61 [zR a0, u1, u2, zI a3, u4] [zI s0, zR s1] sh pp mm Q ↔ zS 98 62 [zR a0, zU, zU, zI a3, zU] [zI 2, zI s0, zR s1] sh pp mm Q := s_go cT_add_61 cT_add_62 rfl rfl
theorem rT_add_62 {a0 s2 : Nat} {a3 s0 s1 : Int} {u1 u2 u4 : zV} : zS 98 62 [zR a0, u1, u2, zI a3, u4] [zI s0, zI s1, zR s2] sh pp mm Q ↔ zS 98 63 [zR a0, zU, zU, zI a3, zU] [zI (zw32 (s1 + s0)), zR s2] sh pp mm Q := s_go cT_add_62 cT_add_63 rfl rfl
theorem rT_add_63 {a0 s1 : Nat} {a3 s0 : Int} {u1 u2 u4 : zV} : zS 98 63 [zR a0, u1, u2, zI a3, u4] [zI s0, zR s1] sh pp mm Q ↔ zS 98 64 [zR a0, zU, zU, zU, zU] [zI a3, zI s0, zR s1] sh pp mm Q := s_go cT_add_63 cT_add_64 rfl rfl
theorem rT_add_64 {a0 s2 : Nat} {s0 s1 : Int} {u1 u2 u3 u4 : zV} (hk : zKd sh s2 = 20) (h0 : 0 ≤ s1) (h1 : s1 < zLn sh s2) : zS 98 64 [zR a0, u1, u2, u3, u4] [zI s0, zI s1, zR s2] sh pp mm Q ↔ zS 98 65 [zR a0, zU, zU, zU, zU] [] sh pp (zupd mm s2 s1 s0) Q := s_go cT_add_64 cT_add_65 (if_pos ⟨hk, h0, h1, fun h => absurd h (by decide)⟩) rfl
theorem rT_add_65 {a0 : Nat} {u1 u2 u3 u4 : zV} : zS 98 65 [zR a0, u1, u2, u3, u4] [] sh pp mm Q ↔ zS 98 66 [zR a0, zU, zU, zU, zU] [zR a0] sh pp mm Q := s_go cT_add_65 cT_add_66 rfl rfl
theorem rT_add_66 {a0 s0 : Nat} {u1 u2 u3 u4 : zV} : zS 98 66 [zR a0, u1, u2, u3, u4] [zR s0] sh pp mm Q ↔ zS 98 67 [zR a0, zU, zU, zU, zU] [zR s0, zR s0] sh pp mm Q := s_go cT_add_66 cT_add_67 rfl rfl
theorem rT_add_67 {a0 s0 s1 : Nat} {u1 u2 u3 u4 : zV} (hk : zKd sh s0 = 10) : zS 98 67 [zR a0, u1, u2, u3, u4] [zR s0, zR s1] sh pp mm Q ↔ zS 98 70 [zR a0, zU, zU, zU, zU] [zI (mm s0 3), zR s1] sh pp mm Q := s_go cT_add_67 cT_add_70 (if_pos hk) rfl
theorem rT_add_70 {a0 s1 : Nat} {s0 : Int} {u1 u2 u3 u4 : zV} : zS 98 70 [zR a0, u1, u2, u3, u4] [zI s0, zR s1] sh pp mm Q ↔ zS 98 71 [zR a0, zU, zU, zU, zU] [zI 1, zI s0, zR s1] sh pp mm Q := s_go cT_add_70 cT_add_71 rfl rfl
theorem rT_add_71 {a0 s2 : Nat} {s0 s1 : Int} {u1 u2 u3 u4 : zV} : zS 98 71 [zR a0, u1, u2, u3, u4] [zI s0, zI s1, zR s2] sh pp mm Q ↔ zS 98 72 [zR a0, zU, zU, zU, zU] [zI (zw32 (s1 + s0)), zR s2] sh pp mm Q := s_go cT_add_71 cT_add_72 rfl rfl
theorem rT_add_72 {a0 s1 : Nat} {s0 : Int} {u1 u2 u3 u4 : zV} (hk : zKd sh s1 = 10) : zS 98 72 [zR a0, u1, u2, u3, u4] [zI s0, zR s1] sh pp mm Q ↔ zS 98 75 [zR a0, zU, zU, zU, zU] [] sh pp (zupd mm s1 3 s0) Q := s_go cT_add_72 cT_add_75 (if_pos ⟨hk, Or.inl rfl⟩) rfl
theorem rT_add_75 {a0 : Nat} {u1 u2 u3 u4 : zV} : zS 98 75 [zR a0, u1, u2, u3, u4] [] sh pp mm Q ↔ zS 98 76 [zU, zU, zU, zU, zU] [zR a0] sh pp mm Q := s_go cT_add_75 cT_add_76 rfl rfl
theorem rT_add_76 {s0 : Nat} {u0 u1 u2 u3 u4 : zV} (hk : zKd sh s0 = 10) : zS 98 76 [u0, u1, u2, u3, u4] [zR s0] sh pp mm Q ↔ zS 98 79 [zU, zU, zU, zU, zU] [zI (mm s0 3)] sh pp mm Q := s_go cT_add_76 cT_add_79 (if_pos hk) rfl
theorem rT_add_79 {s0 : Int} {u0 u1 u2 u3 u4 : zV} : zS 98 79 [u0, u1, u2, u3, u4] [zI s0] sh pp mm Q ↔ zS 98 80 [zU, zU, zU, zU, zU] [zI 1, zI s0] sh pp mm Q := s_go cT_add_79 cT_add_80 rfl rfl
theorem rT_add_80 {s0 s1 : Int} {u0 u1 u2 u3 u4 : zV} : zS 98 80 [u0, u1, u2, u3, u4] [zI s0, zI s1] sh pp mm Q ↔ zS 98 81 [zU, zU, zU, zU, zU] [zI (zw32 (s1 - s0))] sh pp mm Q := s_go cT_add_80 cT_add_81 rfl rfl
theorem rT_add_81 {s0 : Int} {u0 u1 u2 u3 u4 : zV} : zS 98 81 [u0, u1, u2, u3, u4] [zI s0] sh pp mm Q ↔ Q (zI s0) sh pp mm := s_ret cT_add_81 rfl
theorem cAT_empty : ∀ q ∈ zT99, zCode 99 q.1 = some q.2 := zAll (mid := 99) rfl (by decide +kernel)
theorem cAT_empty_0 : ∀ q ∈ zT99_0, zCode 99 q.1 = some q.2 := fun q h => cAT_empty q (h)
theorem cT_empty_0 : zCode 99 0 = some (.aload_n 0, 1, 0, 0, 0, 0, 1) := cAT_empty_0 _ (List.mem_of_getElem? (i := 0) rfl)
theorem cT_empty_1 : zCode 99 1 = some (.getfield 9, 4, 10, 3, 0, 141, 1) := cAT_empty_0 _ (List.mem_of_getElem? (i := 1) rfl)
theorem cT_empty_4 : zCode 99 4 = some (.istore_n 1, 5, 0, 0, 0, 0, 1) := cAT_empty_0 _ (List.mem_of_getElem? (i := 2) rfl)
theorem cT_empty_5 : zCode 99 5 = some (.aload_n 0, 6, 0, 0, 0, 0, 3) := cAT_empty_0 _ (List.mem_of_getElem? (i := 3) rfl)
theorem cT_empty_6 : zCode 99 6 = some (.iconst 0, 7, 0, 0, 0, 0, 2) := cAT_empty_0 _ (List.mem_of_getElem? (i := 4) rfl)
theorem cT_empty_7 : zCode 99 7 = some (.putfield 9, 10, 10, 3, 0, 141, 2) := cAT_empty_0 _ (List.mem_of_getElem? (i := 5) rfl)
theorem cT_empty_10 : zCode 99 10 = some (.iload_n 1, 11, 0, 0, 0, 0, 2) := cAT_empty_0 _ (List.mem_of_getElem? (i := 6) rfl)
theorem cT_empty_11 : zCode 99 11 = some (.ireturn, 12, 0, 0, 0, 0, 0) := cAT_empty_0 _ (List.mem_of_getElem? (i := 7) rfl)
theorem rT_empty_0 {a0 : Nat} {u1 : zV} : zS 99 0 [zR a0, u1] [] sh pp mm Q ↔ zS 99 1 [zR a0, zU] [zR a0] sh pp mm Q := s_go cT_empty_0 cT_empty_1 rfl rfl
theorem rT_empty_1 {a0 s0 : Nat} {u1 : zV} (hk : zKd sh s0 = 10) : zS 99 1 [zR a0, u1] [zR s0] sh pp mm Q ↔ zS 99 4 [zR a0, zU] [zI (mm s0 3)] sh pp mm Q := s_go cT_empty_1 cT_empty_4 (if_pos hk) rfl
theorem rT_empty_4 {a0 : Nat} {s0 : Int} {u1 : zV} : zS 99 4 [zR a0, u1] [zI s0] sh pp mm Q ↔ zS 99 5 [zR a0, zI s0] [] sh pp mm Q := s_go cT_empty_4 cT_empty_5 rfl rfl
theorem rT_empty_5 {a0 : Nat} {a1 : Int} : zS 99 5 [zR a0, zI a1] [] sh pp mm Q ↔ zS 99 6 [zU, zI a1] [zR a0] sh pp mm Q := s_go cT_empty_5 cT_empty_6 rfl rfl
theorem rT_empty_6 {s0 : Nat} {a1 : Int} {u0 : zV} : zS 99 6 [u0, zI a1] [zR s0] sh pp mm Q ↔ zS 99 7 [zU, zI a1] [zI 0, zR s0] sh pp mm Q := s_go cT_empty_6 cT_empty_7 rfl rfl
theorem rT_empty_7 {s1 : Nat} {a1 s0 : Int} {u0 : zV} (hk : zKd sh s1 = 10) : zS 99 7 [u0, zI a1] [zI s0, zR s1] sh pp mm Q ↔ zS 99 10 [zU, zI a1] [] sh pp (zupd mm s1 3 s0) Q := s_go cT_empty_7 cT_empty_10 (if_pos ⟨hk, Or.inl rfl⟩) rfl
theorem rT_empty_10 {a1 : Int} {u0 : zV} : zS 99 10 [u0, zI a1] [] sh pp mm Q ↔ zS 99 11 [zU, zU] [zI a1] sh pp mm Q := s_go cT_empty_10 cT_empty_11 rfl rfl
theorem rT_empty_11 {s0 : Int} {u0 u1 : zV} : zS 99 11 [u0, u1] [zI s0] sh pp mm Q ↔ Q (zI s0) sh pp mm := s_ret cT_empty_11 rfl
theorem cAT_take : ∀ q ∈ zT100, zCode 100 q.1 = some q.2 := zAll (mid := 100) rfl (by decide +kernel)
theorem cAT_take_0 : ∀ q ∈ zT100_0, zCode 100 q.1 = some q.2 := fun q h => cAT_take q (List.mem_append_left _ h)
theorem cAT_take_1 : ∀ q ∈ zT100_1, zCode 100 q.1 = some q.2 := fun q h => cAT_take q (List.mem_append_right _ h)
theorem cT_take_0 : zCode 100 0 = some (.aload_n 0, 1, 0, 0, 0, 0, 3) := cAT_take_0 _ (List.mem_of_getElem? (i := 0) rfl)
theorem cT_take_1 : zCode 100 1 = some (.aload_n 1, 2, 0, 0, 0, 0, 3) := cAT_take_0 _ (List.mem_of_getElem? (i := 1) rfl)
theorem cT_take_2 : zCode 100 2 = some (.getfield 9, 5, 10, 3, 0, 141, 3) := cAT_take_0 _ (List.mem_of_getElem? (i := 2) rfl)
theorem cT_take_5 : zCode 100 5 = some (.putfield 9, 8, 10, 3, 0, 141, 3) := cAT_take_0 _ (List.mem_of_getElem? (i := 3) rfl)
theorem cT_take_8 : zCode 100 8 = some (.aload_n 1, 9, 0, 0, 0, 0, 3) := cAT_take_0 _ (List.mem_of_getElem? (i := 4) rfl)
theorem cT_take_9 : zCode 100 9 = some (.getfield 21, 12, 10, 2, 2, 139, 1) := cAT_take_0 _ (List.mem_of_getElem? (i := 5) rfl)
theorem cT_take_12 : zCode 100 12 = some (.iconst 0, 13, 0, 0, 0, 0, 1) := cAT_take_0 _ (List.mem_of_getElem? (i := 6) rfl)
theorem cT_take_13 : zCode 100 13 = some (.aload_n 0, 14, 0, 0, 0, 0, 1) := cAT_take_0 _ (List.mem_of_getElem? (i := 7) rfl)
theorem cT_take_14 : zCode 100 14 = some (.getfield 21, 17, 10, 2, 2, 139, 1) := cAT_take_0 _ (List.mem_of_getElem? (i := 8) rfl)
theorem cT_take_17 : zCode 100 17 = some (.iconst 0, 18, 0, 0, 0, 0, 1) := cAT_take_0 _ (List.mem_of_getElem? (i := 9) rfl)
theorem cT_take_18 : zCode 100 18 = some (.aload_n 0, 19, 0, 0, 0, 0, 1) := cAT_take_0 _ (List.mem_of_getElem? (i := 10) rfl)
theorem cT_take_19 : zCode 100 19 = some (.getfield 9, 22, 10, 3, 0, 141, 1) := cAT_take_0 _ (List.mem_of_getElem? (i := 11) rfl)
theorem cT_take_22 : zCode 100 22 = some (.aload_n 0, 23, 0, 0, 0, 0, 1) := cAT_take_0 _ (List.mem_of_getElem? (i := 12) rfl)
theorem cT_take_23 : zCode 100 23 = some (.getfield 18, 26, 10, 0, 0, 137, 0) := cAT_take_0 _ (List.mem_of_getElem? (i := 13) rfl)
theorem cT_take_26 : zCode 100 26 = some (.imul, 27, 0, 0, 0, 0, 0) := cAT_take_0 _ (List.mem_of_getElem? (i := 14) rfl)
theorem cT_take_27 : zCode 100 27 = some (.invokestatic 29, 30, 0, 77, 0, 1152, 0) := cAT_take_0 _ (List.mem_of_getElem? (i := 15) rfl)
theorem cT_take_30 : zCode 100 30 = some (.return_, 31, 0, 0, 0, 0, 0) := cAT_take_1 _ (List.mem_of_getElem? (i := 0) rfl)
theorem rT_take_0 {a0 a1 : Nat} : zS 100 0 [zR a0, zR a1] [] sh pp mm Q ↔ zS 100 1 [zR a0, zR a1] [zR a0] sh pp mm Q := s_go cT_take_0 cT_take_1 rfl rfl
theorem rT_take_1 {a0 a1 s0 : Nat} : zS 100 1 [zR a0, zR a1] [zR s0] sh pp mm Q ↔ zS 100 2 [zR a0, zR a1] [zR a1, zR s0] sh pp mm Q := s_go cT_take_1 cT_take_2 rfl rfl
theorem rT_take_2 {a0 a1 s0 s1 : Nat} (hk : zKd sh s0 = 10) : zS 100 2 [zR a0, zR a1] [zR s0, zR s1] sh pp mm Q ↔ zS 100 5 [zR a0, zR a1] [zI (mm s0 3), zR s1] sh pp mm Q := s_go cT_take_2 cT_take_5 (if_pos hk) rfl
theorem rT_take_5 {a0 a1 s1 : Nat} {s0 : Int} (hk : zKd sh s1 = 10) : zS 100 5 [zR a0, zR a1] [zI s0, zR s1] sh pp mm Q ↔ zS 100 8 [zR a0, zR a1] [] sh pp (zupd mm s1 3 s0) Q := s_go cT_take_5 cT_take_8 (if_pos ⟨hk, Or.inl rfl⟩) rfl
theorem rT_take_8 {a0 a1 : Nat} : zS 100 8 [zR a0, zR a1] [] sh pp mm Q ↔ zS 100 9 [zR a0, zU] [zR a1] sh pp mm Q := s_go cT_take_8 cT_take_9 rfl rfl
theorem rT_take_9 {a0 s0 : Nat} {u1 : zV} (hk : zKd sh s0 = 10) : zS 100 9 [zR a0, u1] [zR s0] sh pp mm Q ↔ zS 100 12 [zR a0, zU] [zR (pp s0 2)] sh pp mm Q := s_go cT_take_9 cT_take_12 (if_pos hk) rfl
theorem rT_take_12 {a0 s0 : Nat} {u1 : zV} : zS 100 12 [zR a0, u1] [zR s0] sh pp mm Q ↔ zS 100 13 [zR a0, zU] [zI 0, zR s0] sh pp mm Q := s_go cT_take_12 cT_take_13 rfl rfl
theorem rT_take_13 {a0 s1 : Nat} {s0 : Int} {u1 : zV} : zS 100 13 [zR a0, u1] [zI s0, zR s1] sh pp mm Q ↔ zS 100 14 [zR a0, zU] [zR a0, zI s0, zR s1] sh pp mm Q := s_go cT_take_13 cT_take_14 rfl rfl
theorem rT_take_14 {a0 s0 s2 : Nat} {s1 : Int} {u1 : zV} (hk : zKd sh s0 = 10) : zS 100 14 [zR a0, u1] [zR s0, zI s1, zR s2] sh pp mm Q ↔ zS 100 17 [zR a0, zU] [zR (pp s0 2), zI s1, zR s2] sh pp mm Q := s_go cT_take_14 cT_take_17 (if_pos hk) rfl
theorem rT_take_17 {a0 s0 s2 : Nat} {s1 : Int} {u1 : zV} : zS 100 17 [zR a0, u1] [zR s0, zI s1, zR s2] sh pp mm Q ↔ zS 100 18 [zR a0, zU] [zI 0, zR s0, zI s1, zR s2] sh pp mm Q := s_go cT_take_17 cT_take_18 rfl rfl
theorem rT_take_18 {a0 s1 s3 : Nat} {s0 s2 : Int} {u1 : zV} : zS 100 18 [zR a0, u1] [zI s0, zR s1, zI s2, zR s3] sh pp mm Q ↔ zS 100 19 [zR a0, zU] [zR a0, zI s0, zR s1, zI s2, zR s3] sh pp mm Q := s_go cT_take_18 cT_take_19 rfl rfl
theorem rT_take_19 {a0 s0 s2 s4 : Nat} {s1 s3 : Int} {u1 : zV} (hk : zKd sh s0 = 10) : zS 100 19 [zR a0, u1] [zR s0, zI s1, zR s2, zI s3, zR s4] sh pp mm Q ↔ zS 100 22 [zR a0, zU] [zI (mm s0 3), zI s1, zR s2, zI s3, zR s4] sh pp mm Q := s_go cT_take_19 cT_take_22 (if_pos hk) rfl
theorem rT_take_22 {a0 s2 s4 : Nat} {s0 s1 s3 : Int} {u1 : zV} : zS 100 22 [zR a0, u1] [zI s0, zI s1, zR s2, zI s3, zR s4] sh pp mm Q ↔ zS 100 23 [zU, zU] [zR a0, zI s0, zI s1, zR s2, zI s3, zR s4] sh pp mm Q := s_go cT_take_22 cT_take_23 rfl rfl
theorem rT_take_23 {s0 s3 s5 : Nat} {s1 s2 s4 : Int} {u0 u1 : zV} (hk : zKd sh s0 = 10) : zS 100 23 [u0, u1] [zR s0, zI s1, zI s2, zR s3, zI s4, zR s5] sh pp mm Q ↔ zS 100 26 [zU, zU] [zI (mm s0 0), zI s1, zI s2, zR s3, zI s4, zR s5] sh pp mm Q := s_go cT_take_23 cT_take_26 (if_pos hk) rfl
theorem rT_take_26 {s3 s5 : Nat} {s0 s1 s2 s4 : Int} {u0 u1 : zV} : zS 100 26 [u0, u1] [zI s0, zI s1, zI s2, zR s3, zI s4, zR s5] sh pp mm Q ↔ zS 100 27 [zU, zU] [zI (zw32 (s1 * s0)), zI s2, zR s3, zI s4, zR s5] sh pp mm Q := s_go cT_take_26 cT_take_27 rfl rfl
theorem rT_take_27 {s2 s4 : Nat} {s0 s1 s3 : Int} {u0 u1 : zV} (hs : zKd sh s4 = 20 ∨ zKd sh s4 = 30) (hd : zKd sh s2 = 20) (hn : s4 ≠ s2) (h0 : 0 ≤ s3) (h1 : 0 ≤ s1) (h2 : 0 ≤ s0) (h3 : s3 + s0 ≤ zLn sh s4) (h4 : s1 + s0 ≤ zLn sh s2) : zS 100 27 [u0, u1] [zI s0, zI s1, zR s2, zI s3, zR s4] sh pp mm Q ↔ zS 100 30 [zU, zU] [] sh pp (zcpy mm s4 s3 s2 s1 s0) Q := s_go cT_take_27 cT_take_30 (if_pos ⟨hs, hd, hn, h0, h1, h2, h3, h4, by decide⟩) rfl
theorem rT_take_30 {u0 u1 : zV} : zS 100 30 [u0, u1] [] sh pp mm Q ↔ Q zU sh pp mm := s_ret cT_take_30 rfl
theorem cAT_fold : ∀ q ∈ zT101, zCode 101 q.1 = some q.2 := zAll (mid := 101) rfl (by decide +kernel)
theorem cAT_fold_0 : ∀ q ∈ zT101_0, zCode 101 q.1 = some q.2 := fun q h => cAT_fold q (List.mem_append_left _ h)
theorem cAT_fold_1 : ∀ q ∈ zT101_1, zCode 101 q.1 = some q.2 := fun q h => cAT_fold q (List.mem_append_right _ h)
theorem cT_fold_0 : zCode 101 0 = some (.lload_n 1, 1, 0, 0, 0, 0, 3) := cAT_fold_0 _ (List.mem_of_getElem? (i := 0) rfl)
theorem cT_fold_1 : zCode 101 1 = some (.lstore_n 3, 2, 0, 0, 0, 0, 1) := cAT_fold_0 _ (List.mem_of_getElem? (i := 1) rfl)
theorem cT_fold_2 : zCode 101 2 = some (.iconst 0, 3, 0, 0, 0, 0, 9) := cAT_fold_0 _ (List.mem_of_getElem? (i := 2) rfl)
theorem cT_fold_3 : zCode 101 3 = some (.istore 5, 5, 0, 0, 0, 0, 9) := cAT_fold_0 _ (List.mem_of_getElem? (i := 3) rfl)
theorem cT_fold_5 : zCode 101 5 = some (.iload 5, 7, 0, 0, 0, 0, 41) := cAT_fold_0 _ (List.mem_of_getElem? (i := 4) rfl)
theorem cT_fold_7 : zCode 101 7 = some (.aload_n 0, 8, 0, 0, 0, 0, 41) := cAT_fold_0 _ (List.mem_of_getElem? (i := 5) rfl)
theorem cT_fold_8 : zCode 101 8 = some (.getfield 9, 11, 10, 3, 0, 141, 41) := cAT_fold_0 _ (List.mem_of_getElem? (i := 6) rfl)
theorem cT_fold_11 : zCode 101 11 = some (.aload_n 0, 12, 0, 0, 0, 0, 41) := cAT_fold_0 _ (List.mem_of_getElem? (i := 7) rfl)
theorem cT_fold_12 : zCode 101 12 = some (.getfield 18, 15, 10, 0, 0, 137, 41) := cAT_fold_0 _ (List.mem_of_getElem? (i := 8) rfl)
theorem cT_fold_15 : zCode 101 15 = some (.imul, 16, 0, 0, 0, 0, 41) := cAT_fold_0 _ (List.mem_of_getElem? (i := 9) rfl)
theorem cT_fold_16 : zCode 101 16 = some (.if_icmp .ge 24, 19, 40, 0, 0, 0, 41) := cAT_fold_0 _ (List.mem_of_getElem? (i := 10) rfl)
theorem cT_fold_19 : zCode 101 19 = some (.ldc2_w 35, 22, 0, 0, 1185, 31, 41) := cAT_fold_0 _ (List.mem_of_getElem? (i := 11) rfl)
theorem cT_fold_22 : zCode 101 22 = some (.lload_n 3, 23, 0, 0, 0, 0, 41) := cAT_fold_0 _ (List.mem_of_getElem? (i := 12) rfl)
theorem cT_fold_23 : zCode 101 23 = some (.lmul, 24, 0, 0, 0, 0, 33) := cAT_fold_0 _ (List.mem_of_getElem? (i := 13) rfl)
theorem cT_fold_24 : zCode 101 24 = some (.aload_n 0, 25, 0, 0, 0, 0, 33) := cAT_fold_0 _ (List.mem_of_getElem? (i := 14) rfl)
theorem cT_fold_25 : zCode 101 25 = some (.getfield 21, 28, 10, 2, 2, 139, 33) := cAT_fold_0 _ (List.mem_of_getElem? (i := 15) rfl)
theorem cT_fold_28 : zCode 101 28 = some (.iload 5, 30, 0, 0, 0, 0, 33) := cAT_fold_1 _ (List.mem_of_getElem? (i := 0) rfl)
theorem cT_fold_30 : zCode 101 30 = some (.iaload, 31, 0, 0, 0, 0, 33) := cAT_fold_1 _ (List.mem_of_getElem? (i := 1) rfl)
theorem cT_fold_31 : zCode 101 31 = some (.i2l, 32, 0, 0, 0, 0, 33) := cAT_fold_1 _ (List.mem_of_getElem? (i := 2) rfl)
theorem cT_fold_32 : zCode 101 32 = some (.ladd, 33, 0, 0, 0, 0, 33) := cAT_fold_1 _ (List.mem_of_getElem? (i := 3) rfl)
theorem cT_fold_33 : zCode 101 33 = some (.lstore_n 3, 34, 0, 0, 0, 0, 33) := cAT_fold_1 _ (List.mem_of_getElem? (i := 4) rfl)
theorem cT_fold_34 : zCode 101 34 = some (.iinc 5 1, 37, 0, 0, 0, 0, 41) := cAT_fold_1 _ (List.mem_of_getElem? (i := 5) rfl)
theorem cT_fold_37 : zCode 101 37 = some (.goto (-32), 40, 5, 0, 0, 0, 41) := cAT_fold_1 _ (List.mem_of_getElem? (i := 6) rfl)
theorem cT_fold_40 : zCode 101 40 = some (.lload_n 3, 41, 0, 0, 0, 0, 8) := cAT_fold_1 _ (List.mem_of_getElem? (i := 7) rfl)
theorem cT_fold_41 : zCode 101 41 = some (.lreturn, 42, 0, 0, 0, 0, 0) := cAT_fold_1 _ (List.mem_of_getElem? (i := 8) rfl)
theorem rT_fold_0 {a0 : Nat} {a1 : Int} {u2 u3 u4 u5 : zV} : zS 101 0 [zR a0, zL a1, u2, u3, u4, u5] [] sh pp mm Q ↔ zS 101 1 [zR a0, zU, zU, zU, zU, zU] [zL a1] sh pp mm Q := s_go cT_fold_0 cT_fold_1 rfl rfl
theorem rT_fold_1 {a0 : Nat} {s0 : Int} {u1 u2 u3 u4 u5 : zV} : zS 101 1 [zR a0, u1, u2, u3, u4, u5] [zL s0] sh pp mm Q ↔ zS 101 2 [zR a0, zU, zU, zL s0, zU, zU] [] sh pp mm Q := s_go cT_fold_1 cT_fold_2 rfl rfl
theorem rT_fold_2 {a0 : Nat} {a3 : Int} {u1 u2 u4 u5 : zV} : zS 101 2 [zR a0, u1, u2, zL a3, u4, u5] [] sh pp mm Q ↔ zS 101 3 [zR a0, zU, zU, zL a3, zU, zU] [zI 0] sh pp mm Q := s_go cT_fold_2 cT_fold_3 rfl rfl
theorem rT_fold_3 {a0 : Nat} {a3 s0 : Int} {u1 u2 u4 u5 : zV} : zS 101 3 [zR a0, u1, u2, zL a3, u4, u5] [zI s0] sh pp mm Q ↔ zS 101 5 [zR a0, zU, zU, zL a3, zU, zI s0] [] sh pp mm Q := s_go cT_fold_3 cT_fold_5 rfl rfl
theorem rT_fold_5 {a0 : Nat} {a3 a5 : Int} {u1 u2 u4 : zV} : zS 101 5 [zR a0, u1, u2, zL a3, u4, zI a5] [] sh pp mm Q ↔ zS 101 7 [zR a0, zU, zU, zL a3, zU, zI a5] [zI a5] sh pp mm Q := s_go cT_fold_5 cT_fold_7 rfl rfl
theorem rT_fold_7 {a0 : Nat} {a3 a5 s0 : Int} {u1 u2 u4 : zV} : zS 101 7 [zR a0, u1, u2, zL a3, u4, zI a5] [zI s0] sh pp mm Q ↔ zS 101 8 [zR a0, zU, zU, zL a3, zU, zI a5] [zR a0, zI s0] sh pp mm Q := s_go cT_fold_7 cT_fold_8 rfl rfl
theorem rT_fold_8 {a0 s0 : Nat} {a3 a5 s1 : Int} {u1 u2 u4 : zV} (hk : zKd sh s0 = 10) : zS 101 8 [zR a0, u1, u2, zL a3, u4, zI a5] [zR s0, zI s1] sh pp mm Q ↔ zS 101 11 [zR a0, zU, zU, zL a3, zU, zI a5] [zI (mm s0 3), zI s1] sh pp mm Q := s_go cT_fold_8 cT_fold_11 (if_pos hk) rfl
theorem rT_fold_11 {a0 : Nat} {a3 a5 s0 s1 : Int} {u1 u2 u4 : zV} : zS 101 11 [zR a0, u1, u2, zL a3, u4, zI a5] [zI s0, zI s1] sh pp mm Q ↔ zS 101 12 [zR a0, zU, zU, zL a3, zU, zI a5] [zR a0, zI s0, zI s1] sh pp mm Q := s_go cT_fold_11 cT_fold_12 rfl rfl
theorem rT_fold_12 {a0 s0 : Nat} {a3 a5 s1 s2 : Int} {u1 u2 u4 : zV} (hk : zKd sh s0 = 10) : zS 101 12 [zR a0, u1, u2, zL a3, u4, zI a5] [zR s0, zI s1, zI s2] sh pp mm Q ↔ zS 101 15 [zR a0, zU, zU, zL a3, zU, zI a5] [zI (mm s0 0), zI s1, zI s2] sh pp mm Q := s_go cT_fold_12 cT_fold_15 (if_pos hk) rfl
theorem rT_fold_15 {a0 : Nat} {a3 a5 s0 s1 s2 : Int} {u1 u2 u4 : zV} : zS 101 15 [zR a0, u1, u2, zL a3, u4, zI a5] [zI s0, zI s1, zI s2] sh pp mm Q ↔ zS 101 16 [zR a0, zU, zU, zL a3, zU, zI a5] [zI (zw32 (s1 * s0)), zI s2] sh pp mm Q := s_go cT_fold_15 cT_fold_16 rfl rfl
theorem rT_fold_16 {a0 : Nat} {a3 a5 s0 s1 : Int} {u1 u2 u4 : zV} : zS 101 16 [zR a0, u1, u2, zL a3, u4, zI a5] [zI s0, zI s1] sh pp mm Q ↔ (s1 < s0 → zS 101 19 [zR a0, zU, zU, zL a3, zU, zI a5] [] sh pp mm Q) ∧ (¬ s1 < s0 → zS 101 40 [zU, zU, zU, zL a3, zU, zU] [] sh pp mm Q) := s_ifn cT_fold_16 cT_fold_19 cT_fold_40 rfl rfl rfl
theorem rT_fold_19 {a0 : Nat} {a3 a5 : Int} {u1 u2 u4 : zV} : zS 101 19 [zR a0, u1, u2, zL a3, u4, zI a5] [] sh pp mm Q ↔ zS 101 22 [zR a0, zU, zU, zL a3, zU, zI a5] [zL 31] sh pp mm Q := s_go cT_fold_19 cT_fold_22 rfl rfl
theorem rT_fold_22 {a0 : Nat} {a3 a5 s0 : Int} {u1 u2 u4 : zV} : zS 101 22 [zR a0, u1, u2, zL a3, u4, zI a5] [zL s0] sh pp mm Q ↔ zS 101 23 [zR a0, zU, zU, zU, zU, zI a5] [zL a3, zL s0] sh pp mm Q := s_go cT_fold_22 cT_fold_23 rfl rfl
theorem rT_fold_23 {a0 : Nat} {a5 s0 s1 : Int} {u1 u2 u3 u4 : zV} : zS 101 23 [zR a0, u1, u2, u3, u4, zI a5] [zL s0, zL s1] sh pp mm Q ↔ zS 101 24 [zR a0, zU, zU, zU, zU, zI a5] [zL (zw64 (s1 * s0))] sh pp mm Q := s_go cT_fold_23 cT_fold_24 rfl rfl
theorem rT_fold_24 {a0 : Nat} {a5 s0 : Int} {u1 u2 u3 u4 : zV} : zS 101 24 [zR a0, u1, u2, u3, u4, zI a5] [zL s0] sh pp mm Q ↔ zS 101 25 [zR a0, zU, zU, zU, zU, zI a5] [zR a0, zL s0] sh pp mm Q := s_go cT_fold_24 cT_fold_25 rfl rfl
theorem rT_fold_25 {a0 s0 : Nat} {a5 s1 : Int} {u1 u2 u3 u4 : zV} (hk : zKd sh s0 = 10) : zS 101 25 [zR a0, u1, u2, u3, u4, zI a5] [zR s0, zL s1] sh pp mm Q ↔ zS 101 28 [zR a0, zU, zU, zU, zU, zI a5] [zR (pp s0 2), zL s1] sh pp mm Q := s_go cT_fold_25 cT_fold_28 (if_pos hk) rfl
theorem rT_fold_28 {a0 s0 : Nat} {a5 s1 : Int} {u1 u2 u3 u4 : zV} : zS 101 28 [zR a0, u1, u2, u3, u4, zI a5] [zR s0, zL s1] sh pp mm Q ↔ zS 101 30 [zR a0, zU, zU, zU, zU, zI a5] [zI a5, zR s0, zL s1] sh pp mm Q := s_go cT_fold_28 cT_fold_30 rfl rfl
theorem rT_fold_30 {a0 s1 : Nat} {a5 s0 s2 : Int} {u1 u2 u3 u4 : zV} (hk : zKd sh s1 = 20 ∨ zKd sh s1 = 30) (h0 : 0 ≤ s0) (h1 : s0 < zLn sh s1) : zS 101 30 [zR a0, u1, u2, u3, u4, zI a5] [zI s0, zR s1, zL s2] sh pp mm Q ↔ zS 101 31 [zR a0, zU, zU, zU, zU, zI a5] [zI (mm s1 s0), zL s2] sh pp mm Q := s_go cT_fold_30 cT_fold_31 (if_pos ⟨hk, h0, h1⟩) rfl
theorem rT_fold_31 {a0 : Nat} {a5 s0 s1 : Int} {u1 u2 u3 u4 : zV} : zS 101 31 [zR a0, u1, u2, u3, u4, zI a5] [zI s0, zL s1] sh pp mm Q ↔ zS 101 32 [zR a0, zU, zU, zU, zU, zI a5] [zL s0, zL s1] sh pp mm Q := s_go cT_fold_31 cT_fold_32 rfl rfl
theorem rT_fold_32 {a0 : Nat} {a5 s0 s1 : Int} {u1 u2 u3 u4 : zV} : zS 101 32 [zR a0, u1, u2, u3, u4, zI a5] [zL s0, zL s1] sh pp mm Q ↔ zS 101 33 [zR a0, zU, zU, zU, zU, zI a5] [zL (zw64 (s1 + s0))] sh pp mm Q := s_go cT_fold_32 cT_fold_33 rfl rfl
theorem rT_fold_33 {a0 : Nat} {a5 s0 : Int} {u1 u2 u3 u4 : zV} : zS 101 33 [zR a0, u1, u2, u3, u4, zI a5] [zL s0] sh pp mm Q ↔ zS 101 34 [zR a0, zU, zU, zL s0, zU, zI a5] [] sh pp mm Q := s_go cT_fold_33 cT_fold_34 rfl rfl
theorem rT_fold_34 {a0 : Nat} {a3 a5 : Int} {u1 u2 u4 : zV} : zS 101 34 [zR a0, u1, u2, zL a3, u4, zI a5] [] sh pp mm Q ↔ zS 101 37 [zR a0, zU, zU, zL a3, zU, zI (zw32 (a5 + 1))] [] sh pp mm Q := s_go cT_fold_34 cT_fold_37 rfl rfl
theorem rT_fold_37 {a0 : Nat} {a3 a5 : Int} {u1 u2 u4 : zV} : zS 101 37 [zR a0, u1, u2, zL a3, u4, zI a5] [] sh pp mm Q ↔ zS 101 5 [zR a0, zU, zU, zL a3, zU, zI a5] [] sh pp mm Q := s_go cT_fold_37 cT_fold_5 rfl rfl
theorem rT_fold_40 {a3 : Int} {u0 u1 u2 u4 u5 : zV} : zS 101 40 [u0, u1, u2, zL a3, u4, u5] [] sh pp mm Q ↔ zS 101 41 [zU, zU, zU, zU, zU, zU] [zL a3] sh pp mm Q := s_go cT_fold_40 cT_fold_41 rfl rfl
theorem rT_fold_41 {s0 : Int} {u0 u1 u2 u3 u4 u5 : zV} : zS 101 41 [u0, u1, u2, u3, u4, u5] [zL s0] sh pp mm Q ↔ Q (zL s0) sh pp mm := s_ret cT_fold_41 rfl
end
